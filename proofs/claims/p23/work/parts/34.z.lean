theorem an_feed : ∀ a ∈ pc_feed.an, chk2 GX pc_feed DH 3000 a = true ∧ sdOk a = true := List.forall_mem_cons.mpr ⟨⟨k2_feed_0, rfl⟩, fun a ha => by cases ha⟩
theorem LC_0_ok {E : xV} {σ : zS} (h : J0 σ) : LC_0 E σ J0 := by
  intro x0 x1
  obtain ⟨k1, k2⟩ := pub_ok (J := JJ) (q := ctP_feed) (o := 0) (as := [.inl x0, .inr x1]) (ds := [T32, T64, [(0, 200)], [(0, 200)]]) (ks := [(5, 2), (110, 8)]) (σ := σ) (show pubOk ctP_feed 0 [false, true] [T32, T64, [(0, 200)], [(0, 200)]] [(5, 2), (110, 8)] = true by decide +kernel) ⟨in32 _, in64 _, r0 h.2.1 (k := (5, 2)) (by decide), r0 h.2.1 (k := (110, 8)) (by decide), trivial⟩ h.1
  obtain ⟨rH, σ1, rM, σ2, ⟨r, e1, ⟨r2, e2, e3⟩, e4, e5⟩, hH, hM⟩ := root2_ok (E := E) (Y := Yf) (G := GX) (J := JJ) (D := DH) (C := pc_feed) (K2 := K2i false) (n := 3000) (zH := 1) (zM := 302) (arH := ctP_feed.ar) (arM := .r 110 :: ctP_feed.ar.tail) (kn := kn_feed) (big := 1000) GX_G GX_J GX_H (F2_i (C := pc_feed) (by decide +kernel)) an_feed k2_feed_r (by decide +kernel) (by decide +kernel) k1 k2 (show Rs _ (.r 110 :: ctP_feed.ar.tail) (.ref 110 :: _) from ⟨rfl, k2.2⟩)
  exact hH _ ⟨r, e1, hM _ ⟨⟨r2, e2⟩, e4, e5, Eqs.nil⟩⟩
theorem an_cut : ∀ a ∈ pc_cut.an, chk2 GX pc_cut DH 3000 a = true ∧ sdOk a = true := fun a ha => by cases ha
theorem LC_1_ok {E : xV} {σ : zS} (h : J0 σ) : LC_1 E σ J0 := by
  intro x0
  obtain ⟨k1, k2⟩ := pub_ok (J := JJ) (q := ctP_cut) (o := 0) (as := [.inl x0]) (ds := [T32, [(0, 200)], [(0, 200)]]) (ks := [(5, 2), (110, 8)]) (σ := σ) (show pubOk ctP_cut 0 [false] [T32, [(0, 200)], [(0, 200)]] [(5, 2), (110, 8)] = true by decide +kernel) ⟨in32 _, r0 h.2.1 (k := (5, 2)) (by decide), r0 h.2.1 (k := (110, 8)) (by decide), trivial⟩ h.1
  obtain ⟨rH, σ1, rM, σ2, ⟨r, e1, ⟨r2, e2, e3⟩, e4, e5⟩, hH, hM⟩ := root2_ok (E := E) (Y := Yf) (G := GX) (J := JJ) (D := DH) (C := pc_cut) (K2 := K2i false) (n := 3000) (zH := 2) (zM := 303) (arH := ctP_cut.ar) (arM := .r 110 :: ctP_cut.ar.tail) (kn := kn_cut) (big := 1) GX_G GX_J GX_H (F2_i (C := pc_cut) (by decide +kernel)) an_cut k2_cut_r (by decide +kernel) (by decide +kernel) k1 k2 (show Rs _ (.r 110 :: ctP_cut.ar.tail) (.ref 110 :: _) from ⟨rfl, k2.2⟩)
  exact hH _ ⟨r, e1, hM _ ⟨⟨r2, e2⟩, e4, e5, Eqs.nil⟩⟩
theorem LC_3_ok {E : xV} {σ : zS} (h : J0 σ) : LC_3 E σ J0 := by
  obtain ⟨k1, k2⟩ := pub_ok (J := JJ) (q := ctH_person) (o := 0) (as := []) (ds := [[(0, 200)], [(0, 200)]]) (ks := [(5, 2), (110, 8)]) (σ := σ) (show pubOk ctH_person 0 [] [[(0, 200)], [(0, 200)]] [(5, 2), (110, 8)] = true by decide +kernel) ⟨r0 h.2.1 (k := (5, 2)) (by decide), r0 h.2.1 (k := (110, 8)) (by decide), trivial⟩ h.1
  refine (cH_person (E := E) _ σ _ k1 k2).mono (fun v σ1 hv => ?_)
  obtain ⟨_, al, f2, ρ1, f3, f4, f5⟩ := hv
  rcases List.mem_cons.mp f2 with rfl | f2
  · obtain ⟨r, e, q⟩ := pair_i (E := E) (z := 312) (o1 := 0) (o2 := 110) (m := ctM_person_0) (ar := ctH_person.ar.tail) (a := .c (-3)) (kn := kn_person_0) (kn' := knE_person_0) cM_person_0 rfl rfl rfl (by decide +kernel) f4 f5 k2 f3 rfl
    exact ⟨r, e, q.mono (fun v' σ2 hq => ⟨⟨r, hq.1⟩, hq.2.1, hq.2.2, Eqs.nil⟩)⟩
  rcases List.mem_cons.mp f2 with rfl | f2
  · obtain ⟨r, e, q⟩ := pair_i (E := E) (z := 312) (o1 := 0) (o2 := 110) (m := ctM_person_1) (ar := ctH_person.ar.tail) (a := v9_2) (kn := kn_person_1) (kn' := knE_person_1) cM_person_1 rfl rfl rfl (by decide +kernel) f4 f5 k2 f3 rfl
    exact ⟨r, e, q.mono (fun v' σ2 hq => ⟨⟨r, hq.1⟩, hq.2.1, hq.2.2, Eqs.nil⟩)⟩
  · cases f2
theorem LC_4_ok {E : xV} {σ : zS} (h : J0 σ) : LC_4 E σ J0 := by
  obtain ⟨k1, k2⟩ := pub_ok (J := JJ) (q := ctH_group) (o := 0) (as := []) (ds := [[(0, 200)], [(0, 200)]]) (ks := [(5, 2), (110, 8)]) (σ := σ) (show pubOk ctH_group 0 [] [[(0, 200)], [(0, 200)]] [(5, 2), (110, 8)] = true by decide +kernel) ⟨r0 h.2.1 (k := (5, 2)) (by decide), r0 h.2.1 (k := (110, 8)) (by decide), trivial⟩ h.1
  refine (cH_group (E := E) _ σ _ k1 k2).mono (fun v σ1 hv => ?_)
  obtain ⟨_, al, f2, ρ1, f3, f4, f5⟩ := hv
  rcases List.mem_cons.mp f2 with rfl | f2
  · obtain ⟨r, e, q⟩ := pair_i (E := E) (z := 313) (o1 := 0) (o2 := 110) (m := ctM_group_0) (ar := ctH_group.ar.tail) (a := .c (-3)) (kn := kn_group_0) (kn' := knE_group_0) cM_group_0 rfl rfl rfl (by decide +kernel) f4 f5 k2 f3 rfl
    exact ⟨r, e, q.mono (fun v' σ2 hq => ⟨⟨r, hq.1⟩, hq.2.1, hq.2.2, Eqs.nil⟩)⟩
  rcases List.mem_cons.mp f2 with rfl | f2
  · obtain ⟨r, e, q⟩ := pair_i (E := E) (z := 313) (o1 := 0) (o2 := 110) (m := ctM_group_1) (ar := ctH_group.ar.tail) (a := v9_2) (kn := kn_group_1) (kn' := knE_group_1) cM_group_1 rfl rfl rfl (by decide +kernel) f4 f5 k2 f3 rfl
    exact ⟨r, e, q.mono (fun v' σ2 hq => ⟨⟨r, hq.1⟩, hq.2.1, hq.2.2, Eqs.nil⟩)⟩
  · cases f2
theorem LC_13_ok {E : xV} {σ : zS} (h : J0 σ) : LC_13 E σ J0 := by
  intro x0 x1
  obtain ⟨k1, k2⟩ := pub_ok (J := JJ) (q := ctH_thing) (o := 0) (as := [.inl x0, .inl x1]) (ds := [T32, T32, [(0, 200)], [(0, 200)]]) (ks := [(5, 2), (110, 8)]) (σ := σ) (show pubOk ctH_thing 0 [false, false] [T32, T32, [(0, 200)], [(0, 200)]] [(5, 2), (110, 8)] = true by decide +kernel) ⟨in32 _, in32 _, r0 h.2.1 (k := (5, 2)) (by decide), r0 h.2.1 (k := (110, 8)) (by decide), trivial⟩ h.1
  refine (cH_thing (E := E) _ σ _ k1 k2).mono (fun v σ1 hv => ?_)
  obtain ⟨_, al, f2, ρ1, f3, f4, f5⟩ := hv
  rcases List.mem_cons.mp f2 with rfl | f2
  · obtain ⟨r, e, q⟩ := pair_i (E := E) (z := 333) (o1 := 0) (o2 := 110) (m := ctM_thing_0) (ar := ctH_thing.ar.tail) (a := .c (-3)) (kn := kn_thing_0) (kn' := knE_thing_0) cM_thing_0 rfl rfl rfl (by decide +kernel) f4 f5 k2 f3 rfl
    exact ⟨r, e, q.mono (fun v' σ2 hq => ⟨⟨r, hq.1⟩, hq.2.1, hq.2.2, Eqs.nil⟩)⟩
  rcases List.mem_cons.mp f2 with rfl | f2
  · obtain ⟨r, e, q⟩ := pair_i (E := E) (z := 333) (o1 := 0) (o2 := 110) (m := ctM_thing_1) (ar := ctH_thing.ar.tail) (a := v9_4) (kn := kn_thing_1) (kn' := knE_thing_1) cM_thing_1 rfl rfl rfl (by decide +kernel) f4 f5 k2 f3 rfl
    exact ⟨r, e, q.mono (fun v' σ2 hq => ⟨⟨r, hq.1⟩, hq.2.1, hq.2.2, Eqs.nil⟩)⟩
  rcases List.mem_cons.mp f2 with rfl | f2
  · obtain ⟨r, e, q⟩ := pair_i (E := E) (z := 333) (o1 := 0) (o2 := 110) (m := ctM_thing_2) (ar := ctH_thing.ar.tail) (a := .c (-1)) (kn := kn_thing_2) (kn' := knE_thing_2) cM_thing_2 rfl rfl rfl (by decide +kernel) f4 f5 k2 f3 rfl
    exact ⟨r, e, q.mono (fun v' σ2 hq => ⟨⟨r, hq.1⟩, hq.2.1, hq.2.2, Eqs.nil⟩)⟩
  rcases List.mem_cons.mp f2 with rfl | f2
  · obtain ⟨r, e, q⟩ := pair_i (E := E) (z := 333) (o1 := 0) (o2 := 110) (m := ctM_thing_3) (ar := ctH_thing.ar.tail) (a := .c (-1)) (kn := kn_thing_3) (kn' := knE_thing_3) cM_thing_3 rfl rfl rfl (by decide +kernel) f4 f5 k2 f3 rfl
    exact ⟨r, e, q.mono (fun v' σ2 hq => ⟨⟨r, hq.1⟩, hq.2.1, hq.2.2, Eqs.nil⟩)⟩
  rcases List.mem_cons.mp f2 with rfl | f2
  · obtain ⟨r, e, q⟩ := pair_i (E := E) (z := 333) (o1 := 0) (o2 := 110) (m := ctM_thing_4) (ar := ctH_thing.ar.tail) (a := .c (-3)) (kn := kn_thing_4) (kn' := knE_thing_4) cM_thing_4 rfl rfl rfl (by decide +kernel) f4 f5 k2 f3 rfl
    exact ⟨r, e, q.mono (fun v' σ2 hq => ⟨⟨r, hq.1⟩, hq.2.1, hq.2.2, Eqs.nil⟩)⟩
  rcases List.mem_cons.mp f2 with rfl | f2
  · obtain ⟨r, e, q⟩ := pair_i (E := E) (z := 333) (o1 := 0) (o2 := 110) (m := ctM_thing_5) (ar := ctH_thing.ar.tail) (a := v9_4) (kn := kn_thing_5) (kn' := knE_thing_5) cM_thing_5 rfl rfl rfl (by decide +kernel) f4 f5 k2 f3 rfl
    exact ⟨r, e, q.mono (fun v' σ2 hq => ⟨⟨r, hq.1⟩, hq.2.1, hq.2.2, Eqs.nil⟩)⟩
  rcases List.mem_cons.mp f2 with rfl | f2
  · obtain ⟨r, e, q⟩ := pair_i (E := E) (z := 333) (o1 := 0) (o2 := 110) (m := ctM_thing_6) (ar := ctH_thing.ar.tail) (a := .c (-1)) (kn := kn_thing_6) (kn' := knE_thing_6) cM_thing_6 rfl rfl rfl (by decide +kernel) f4 f5 k2 f3 rfl
    exact ⟨r, e, q.mono (fun v' σ2 hq => ⟨⟨r, hq.1⟩, hq.2.1, hq.2.2, Eqs.nil⟩)⟩
  rcases List.mem_cons.mp f2 with rfl | f2
  · obtain ⟨r, e, q⟩ := pair_i (E := E) (z := 333) (o1 := 0) (o2 := 110) (m := ctM_thing_7) (ar := ctH_thing.ar.tail) (a := .c (-1)) (kn := kn_thing_7) (kn' := knE_thing_7) cM_thing_7 rfl rfl rfl (by decide +kernel) f4 f5 k2 f3 rfl
    exact ⟨r, e, q.mono (fun v' σ2 hq => ⟨⟨r, hq.1⟩, hq.2.1, hq.2.2, Eqs.nil⟩)⟩
  rcases List.mem_cons.mp f2 with rfl | f2
  · obtain ⟨r, e, q⟩ := pair_i (E := E) (z := 333) (o1 := 0) (o2 := 110) (m := ctM_thing_8) (ar := ctH_thing.ar.tail) (a := .c (-1)) (kn := kn_thing_8) (kn' := knE_thing_8) cM_thing_8 rfl rfl rfl (by decide +kernel) f4 f5 k2 f3 rfl
    exact ⟨r, e, q.mono (fun v' σ2 hq => ⟨⟨r, hq.1⟩, hq.2.1, hq.2.2, Eqs.nil⟩)⟩
  · cases f2
theorem LC_14_ok {E : xV} {σ : zS} (h : J0 σ) : LC_14 E σ J0 := by
  intro x0 x1
  obtain ⟨k1, k2⟩ := pub_ok (J := JJ) (q := ctH_move) (o := 0) (as := [.inl x0, .inl x1]) (ds := [T32, T32, [(0, 200)], [(0, 200)]]) (ks := [(5, 2), (110, 8)]) (σ := σ) (show pubOk ctH_move 0 [false, false] [T32, T32, [(0, 200)], [(0, 200)]] [(5, 2), (110, 8)] = true by decide +kernel) ⟨in32 _, in32 _, r0 h.2.1 (k := (5, 2)) (by decide), r0 h.2.1 (k := (110, 8)) (by decide), trivial⟩ h.1
  refine (cH_move (E := E) _ σ _ k1 k2).mono (fun v σ1 hv => ?_)
  obtain ⟨_, al, f2, ρ1, f3, f4, f5⟩ := hv
  rcases List.mem_cons.mp f2 with rfl | f2
  · obtain ⟨r, e, q⟩ := pair_i (E := E) (z := 334) (o1 := 0) (o2 := 110) (m := ctM_move_0) (ar := ctH_move.ar.tail) (a := .c (-2)) (kn := kn_move_0) (kn' := knE_move_0) cM_move_0 rfl rfl rfl (by decide +kernel) f4 f5 k2 f3 rfl
    exact ⟨r, e, q.mono (fun v' σ2 hq => ⟨⟨r, hq.1⟩, hq.2.1, hq.2.2, Eqs.nil⟩)⟩
  rcases List.mem_cons.mp f2 with rfl | f2
  · obtain ⟨r, e, q⟩ := pair_i (E := E) (z := 334) (o1 := 0) (o2 := 110) (m := ctM_move_1) (ar := ctH_move.ar.tail) (a := c9_1) (kn := kn_move_1) (kn' := knE_move_1) cM_move_1 rfl rfl rfl (by decide +kernel) f4 f5 k2 f3 rfl
    exact ⟨r, e, q.mono (fun v' σ2 hq => ⟨⟨r, hq.1⟩, hq.2.1, hq.2.2, Eqs.nil⟩)⟩
  rcases List.mem_cons.mp f2 with rfl | f2
  · obtain ⟨r, e, q⟩ := pair_i (E := E) (z := 334) (o1 := 0) (o2 := 110) (m := ctM_move_2) (ar := ctH_move.ar.tail) (a := .c (-1)) (kn := kn_move_2) (kn' := knE_move_2) cM_move_2 rfl rfl rfl (by decide +kernel) f4 f5 k2 f3 rfl
    exact ⟨r, e, q.mono (fun v' σ2 hq => ⟨⟨r, hq.1⟩, hq.2.1, hq.2.2, Eqs.nil⟩)⟩
  rcases List.mem_cons.mp f2 with rfl | f2
  · obtain ⟨r, e, q⟩ := pair_i (E := E) (z := 334) (o1 := 0) (o2 := 110) (m := ctM_move_3) (ar := ctH_move.ar.tail) (a := .c (-1)) (kn := kn_move_3) (kn' := knE_move_3) cM_move_3 rfl rfl rfl (by decide +kernel) f4 f5 k2 f3 rfl
    exact ⟨r, e, q.mono (fun v' σ2 hq => ⟨⟨r, hq.1⟩, hq.2.1, hq.2.2, Eqs.nil⟩)⟩
  rcases List.mem_cons.mp f2 with rfl | f2
  · obtain ⟨r, e, q⟩ := pair_i (E := E) (z := 334) (o1 := 0) (o2 := 110) (m := ctM_move_4) (ar := ctH_move.ar.tail) (a := .c (-1)) (kn := kn_move_4) (kn' := knE_move_4) cM_move_4 rfl rfl rfl (by decide +kernel) f4 f5 k2 f3 rfl
    exact ⟨r, e, q.mono (fun v' σ2 hq => ⟨⟨r, hq.1⟩, hq.2.1, hq.2.2, Eqs.nil⟩)⟩
  rcases List.mem_cons.mp f2 with rfl | f2
  · obtain ⟨r, e, q⟩ := pair_i (E := E) (z := 334) (o1 := 0) (o2 := 110) (m := ctM_move_5) (ar := ctH_move.ar.tail) (a := .c (-1)) (kn := kn_move_5) (kn' := knE_move_5) cM_move_5 rfl rfl rfl (by decide +kernel) f4 f5 k2 f3 rfl
    exact ⟨r, e, q.mono (fun v' σ2 hq => ⟨⟨r, hq.1⟩, hq.2.1, hq.2.2, Eqs.nil⟩)⟩
  rcases List.mem_cons.mp f2 with rfl | f2
  · obtain ⟨r, e, q⟩ := pair_i (E := E) (z := 334) (o1 := 0) (o2 := 110) (m := ctM_move_6) (ar := ctH_move.ar.tail) (a := .c (-1)) (kn := kn_move_6) (kn' := knE_move_6) cM_move_6 rfl rfl rfl (by decide +kernel) f4 f5 k2 f3 rfl
    exact ⟨r, e, q.mono (fun v' σ2 hq => ⟨⟨r, hq.1⟩, hq.2.1, hq.2.2, Eqs.nil⟩)⟩
  rcases List.mem_cons.mp f2 with rfl | f2
  · obtain ⟨r, e, q⟩ := pair_i (E := E) (z := 334) (o1 := 0) (o2 := 110) (m := ctM_move_7) (ar := ctH_move.ar.tail) (a := .c (-1)) (kn := kn_move_7) (kn' := knE_move_7) cM_move_7 rfl rfl rfl (by decide +kernel) f4 f5 k2 f3 rfl
    exact ⟨r, e, q.mono (fun v' σ2 hq => ⟨⟨r, hq.1⟩, hq.2.1, hq.2.2, Eqs.nil⟩)⟩
  rcases List.mem_cons.mp f2 with rfl | f2
  · obtain ⟨r, e, q⟩ := pair_i (E := E) (z := 334) (o1 := 0) (o2 := 110) (m := ctM_move_8) (ar := ctH_move.ar.tail) (a := .c (-1)) (kn := kn_move_8) (kn' := knE_move_8) cM_move_8 rfl rfl rfl (by decide +kernel) f4 f5 k2 f3 rfl
    exact ⟨r, e, q.mono (fun v' σ2 hq => ⟨⟨r, hq.1⟩, hq.2.1, hq.2.2, Eqs.nil⟩)⟩
  · cases f2
theorem LC_15_ok {E : xV} {σ : zS} (h : J0 σ) : LC_15 E σ J0 := by
  intro x0 x1 hbool
  have b_x1 : inD (Arg.i (.inl x1)) [(0, 1)] := by rcases hbool with rfl | rfl <;> exact ⟨_, List.mem_cons_self .., by decide, by decide⟩
  obtain ⟨k1, k2⟩ := pub_ok (J := JJ) (q := ctH_cutOff) (o := 0) (as := [.inl x0, .inl x1]) (ds := [T32, [(0, 1)], [(0, 200)], [(0, 200)]]) (ks := [(5, 2), (110, 8)]) (σ := σ) (show pubOk ctH_cutOff 0 [false, false] [T32, [(0, 1)], [(0, 200)], [(0, 200)]] [(5, 2), (110, 8)] = true by decide +kernel) ⟨in32 _, b_x1, r0 h.2.1 (k := (5, 2)) (by decide), r0 h.2.1 (k := (110, 8)) (by decide), trivial⟩ h.1
  refine (cH_cutOff (E := E) _ σ _ k1 k2).mono (fun v σ1 hv => ?_)
  obtain ⟨_, al, f2, ρ1, f3, f4, f5⟩ := hv
  rcases List.mem_cons.mp f2 with rfl | f2
  · obtain ⟨r, e, q⟩ := pair_i (E := E) (z := 335) (o1 := 0) (o2 := 110) (m := ctM_cutOff_0) (ar := ctH_cutOff.ar.tail) (a := c9_1) (kn := kn_cutOff_0) (kn' := knE_cutOff_0) cM_cutOff_0 rfl rfl rfl (by decide +kernel) f4 f5 k2 f3 rfl
    exact ⟨r, e, q.mono (fun v' σ2 hq => ⟨⟨r, hq.1⟩, hq.2.1, hq.2.2, Eqs.nil⟩)⟩
  rcases List.mem_cons.mp f2 with rfl | f2
  · obtain ⟨r, e, q⟩ := pair_i (E := E) (z := 335) (o1 := 0) (o2 := 110) (m := ctM_cutOff_1) (ar := ctH_cutOff.ar.tail) (a := c9_0) (kn := kn_cutOff_1) (kn' := knE_cutOff_1) cM_cutOff_1 rfl rfl rfl (by decide +kernel) f4 f5 k2 f3 rfl
    exact ⟨r, e, q.mono (fun v' σ2 hq => ⟨⟨r, hq.1⟩, hq.2.1, hq.2.2, Eqs.nil⟩)⟩
  rcases List.mem_cons.mp f2 with rfl | f2
  · obtain ⟨r, e, q⟩ := pair_i (E := E) (z := 335) (o1 := 0) (o2 := 110) (m := ctM_cutOff_2) (ar := ctH_cutOff.ar.tail) (a := c9_1) (kn := kn_cutOff_2) (kn' := knE_cutOff_2) cM_cutOff_2 rfl rfl rfl (by decide +kernel) f4 f5 k2 f3 rfl
    exact ⟨r, e, q.mono (fun v' σ2 hq => ⟨⟨r, hq.1⟩, hq.2.1, hq.2.2, Eqs.nil⟩)⟩
  rcases List.mem_cons.mp f2 with rfl | f2
  · obtain ⟨r, e, q⟩ := pair_i (E := E) (z := 335) (o1 := 0) (o2 := 110) (m := ctM_cutOff_3) (ar := ctH_cutOff.ar.tail) (a := .c (-1)) (kn := kn_cutOff_3) (kn' := knE_cutOff_3) cM_cutOff_3 rfl rfl rfl (by decide +kernel) f4 f5 k2 f3 rfl
    exact ⟨r, e, q.mono (fun v' σ2 hq => ⟨⟨r, hq.1⟩, hq.2.1, hq.2.2, Eqs.nil⟩)⟩
  rcases List.mem_cons.mp f2 with rfl | f2
  · obtain ⟨r, e, q⟩ := pair_i (E := E) (z := 335) (o1 := 0) (o2 := 110) (m := ctM_cutOff_4) (ar := ctH_cutOff.ar.tail) (a := .c (-1)) (kn := kn_cutOff_4) (kn' := knE_cutOff_4) cM_cutOff_4 rfl rfl rfl (by decide +kernel) f4 f5 k2 f3 rfl
    exact ⟨r, e, q.mono (fun v' σ2 hq => ⟨⟨r, hq.1⟩, hq.2.1, hq.2.2, Eqs.nil⟩)⟩
  rcases List.mem_cons.mp f2 with rfl | f2
  · obtain ⟨r, e, q⟩ := pair_i (E := E) (z := 335) (o1 := 0) (o2 := 110) (m := ctM_cutOff_5) (ar := ctH_cutOff.ar.tail) (a := .c (-1)) (kn := kn_cutOff_5) (kn' := knE_cutOff_5) cM_cutOff_5 rfl rfl rfl (by decide +kernel) f4 f5 k2 f3 rfl
    exact ⟨r, e, q.mono (fun v' σ2 hq => ⟨⟨r, hq.1⟩, hq.2.1, hq.2.2, Eqs.nil⟩)⟩
  · cases f2
theorem LC_16_ok {E : xV} {σ : zS} (h : J0 σ) : LC_16 E σ J0 := by
  intro x0
  obtain ⟨k1, k2⟩ := pub_ok (J := JJ) (q := ctH_drop) (o := 0) (as := [.inl x0]) (ds := [T32, [(0, 200)], [(0, 200)]]) (ks := [(5, 2), (110, 8)]) (σ := σ) (show pubOk ctH_drop 0 [false] [T32, [(0, 200)], [(0, 200)]] [(5, 2), (110, 8)] = true by decide +kernel) ⟨in32 _, r0 h.2.1 (k := (5, 2)) (by decide), r0 h.2.1 (k := (110, 8)) (by decide), trivial⟩ h.1
  refine (cH_drop (E := E) _ σ _ k1 k2).mono (fun v σ1 hv => ?_)
  obtain ⟨_, al, f2, ρ1, f3, f4, f5⟩ := hv
  rcases List.mem_cons.mp f2 with rfl | f2
  · obtain ⟨r, e, q⟩ := pair_i (E := E) (z := 336) (o1 := 0) (o2 := 110) (m := ctM_drop_0) (ar := ctH_drop.ar.tail) (a := .c (-2)) (kn := kn_drop_0) (kn' := knE_drop_0) cM_drop_0 rfl rfl rfl (by decide +kernel) f4 f5 k2 f3 rfl
    exact ⟨r, e, q.mono (fun v' σ2 hq => ⟨⟨r, hq.1⟩, hq.2.1, hq.2.2, Eqs.nil⟩)⟩
  rcases List.mem_cons.mp f2 with rfl | f2
  · obtain ⟨r, e, q⟩ := pair_i (E := E) (z := 336) (o1 := 0) (o2 := 110) (m := ctM_drop_1) (ar := ctH_drop.ar.tail) (a := c9_1) (kn := kn_drop_1) (kn' := knE_drop_1) cM_drop_1 rfl rfl rfl (by decide +kernel) f4 f5 k2 f3 rfl
    exact ⟨r, e, q.mono (fun v' σ2 hq => ⟨⟨r, hq.1⟩, hq.2.1, hq.2.2, Eqs.nil⟩)⟩
  rcases List.mem_cons.mp f2 with rfl | f2
  · obtain ⟨r, e, q⟩ := pair_i (E := E) (z := 336) (o1 := 0) (o2 := 110) (m := ctM_drop_2) (ar := ctH_drop.ar.tail) (a := .c (-1)) (kn := kn_drop_2) (kn' := knE_drop_2) cM_drop_2 rfl rfl rfl (by decide +kernel) f4 f5 k2 f3 rfl
    exact ⟨r, e, q.mono (fun v' σ2 hq => ⟨⟨r, hq.1⟩, hq.2.1, hq.2.2, Eqs.nil⟩)⟩
  rcases List.mem_cons.mp f2 with rfl | f2
  · obtain ⟨r, e, q⟩ := pair_i (E := E) (z := 336) (o1 := 0) (o2 := 110) (m := ctM_drop_3) (ar := ctH_drop.ar.tail) (a := .c (-1)) (kn := kn_drop_3) (kn' := knE_drop_3) cM_drop_3 rfl rfl rfl (by decide +kernel) f4 f5 k2 f3 rfl
    exact ⟨r, e, q.mono (fun v' σ2 hq => ⟨⟨r, hq.1⟩, hq.2.1, hq.2.2, Eqs.nil⟩)⟩
  rcases List.mem_cons.mp f2 with rfl | f2
  · obtain ⟨r, e, q⟩ := pair_i (E := E) (z := 336) (o1 := 0) (o2 := 110) (m := ctM_drop_4) (ar := ctH_drop.ar.tail) (a := .c (-1)) (kn := kn_drop_4) (kn' := knE_drop_4) cM_drop_4 rfl rfl rfl (by decide +kernel) f4 f5 k2 f3 rfl
    exact ⟨r, e, q.mono (fun v' σ2 hq => ⟨⟨r, hq.1⟩, hq.2.1, hq.2.2, Eqs.nil⟩)⟩
  rcases List.mem_cons.mp f2 with rfl | f2
  · obtain ⟨r, e, q⟩ := pair_i (E := E) (z := 336) (o1 := 0) (o2 := 110) (m := ctM_drop_5) (ar := ctH_drop.ar.tail) (a := .c (-1)) (kn := kn_drop_5) (kn' := knE_drop_5) cM_drop_5 rfl rfl rfl (by decide +kernel) f4 f5 k2 f3 rfl
    exact ⟨r, e, q.mono (fun v' σ2 hq => ⟨⟨r, hq.1⟩, hq.2.1, hq.2.2, Eqs.nil⟩)⟩
  · cases f2
theorem LC_21_ok {E : xV} {σ : zS} (h : J0 σ) : LC_21 E σ J0 := by
  intro x0
  obtain ⟨k1, k2⟩ := pub_ok (J := JJ) (q := ctH_policy) (o := 0) (as := [.inl x0]) (ds := [T32, [(0, 200)], [(0, 200)]]) (ks := [(5, 2), (110, 8)]) (σ := σ) (show pubOk ctH_policy 0 [false] [T32, [(0, 200)], [(0, 200)]] [(5, 2), (110, 8)] = true by decide +kernel) ⟨in32 _, r0 h.2.1 (k := (5, 2)) (by decide), r0 h.2.1 (k := (110, 8)) (by decide), trivial⟩ h.1
  refine (cH_policy (E := E) _ σ _ k1 k2).mono (fun v σ1 hv => ?_)
  obtain ⟨_, al, f2, ρ1, f3, f4, f5⟩ := hv
  rcases List.mem_cons.mp f2 with rfl | f2
  · obtain ⟨r, e, q⟩ := pair_i (E := E) (z := 375) (o1 := 0) (o2 := 110) (m := ctM_policy_0) (ar := ctH_policy.ar.tail) (a := .c (-1)) (kn := kn_policy_0) (kn' := knE_policy_0) cM_policy_0 rfl rfl rfl (by decide +kernel) f4 f5 k2 f3 rfl
    exact ⟨r, e, q.mono (fun v' σ2 hq => ⟨hq.1, hq.2.1, hq.2.2, Eqs.nil⟩)⟩
  rcases List.mem_cons.mp f2 with rfl | f2
  · obtain ⟨r, e, q⟩ := pair_i (E := E) (z := 375) (o1 := 0) (o2 := 110) (m := ctM_policy_1) (ar := ctH_policy.ar.tail) (a := .c (-3)) (kn := kn_policy_1) (kn' := knE_policy_1) cM_policy_1 rfl rfl rfl (by decide +kernel) f4 f5 k2 f3 rfl
    exact ⟨r, e, q.mono (fun v' σ2 hq => ⟨hq.1, hq.2.1, hq.2.2, Eqs.nil⟩)⟩
  rcases List.mem_cons.mp f2 with rfl | f2
  · obtain ⟨r, e, q⟩ := pair_i (E := E) (z := 375) (o1 := 0) (o2 := 110) (m := ctM_policy_2) (ar := ctH_policy.ar.tail) (a := v9_3) (kn := kn_policy_2) (kn' := knE_policy_2) cM_policy_2 rfl rfl rfl (by decide +kernel) f4 f5 k2 f3 rfl
    exact ⟨r, e, q.mono (fun v' σ2 hq => ⟨hq.1, hq.2.1, hq.2.2, Eqs.nil⟩)⟩
  rcases List.mem_cons.mp f2 with rfl | f2
  · obtain ⟨r, e, q⟩ := pair_i (E := E) (z := 375) (o1 := 0) (o2 := 110) (m := ctM_policy_3) (ar := ctH_policy.ar.tail) (a := v9_3) (kn := kn_policy_3) (kn' := knE_policy_3) cM_policy_3 rfl rfl rfl (by decide +kernel) f4 f5 k2 f3 rfl
    exact ⟨r, e, q.mono (fun v' σ2 hq => ⟨hq.1, hq.2.1, hq.2.2, Eqs.nil⟩)⟩
  rcases List.mem_cons.mp f2 with rfl | f2
  · obtain ⟨r, e, q⟩ := pair_i (E := E) (z := 375) (o1 := 0) (o2 := 110) (m := ctM_policy_4) (ar := ctH_policy.ar.tail) (a := .c (-1)) (kn := kn_policy_4) (kn' := knE_policy_4) cM_policy_4 rfl rfl rfl (by decide +kernel) f4 f5 k2 f3 rfl
    exact ⟨r, e, q.mono (fun v' σ2 hq => ⟨hq.1, hq.2.1, hq.2.2, Eqs.nil⟩)⟩
  · cases f2
theorem an_half : ∀ a ∈ pc_half.an, chk2 GX pc_half DH 3000 a = true ∧ sdOk a = true := List.forall_mem_cons.mpr ⟨⟨k2_half_0, rfl⟩, List.forall_mem_cons.mpr ⟨⟨k2_half_1, rfl⟩, fun a ha => by cases ha⟩⟩
theorem LC_77_ok {E : xV} {σ : zS} (h : J0 σ) : LC_77 E σ J0 := by
  intro x0 x1
  obtain ⟨k1, k2⟩ := pub_ok (J := JJ) (q := ctP_half) (o := 0) (as := [.inl x0, .inl x1]) (ds := [T32, T32, [(0, 200)], [(0, 200)]]) (ks := [(5, 2), (110, 8)]) (σ := σ) (show pubOk ctP_half 0 [false, false] [T32, T32, [(0, 200)], [(0, 200)]] [(5, 2), (110, 8)] = true by decide +kernel) ⟨in32 _, in32 _, r0 h.2.1 (k := (5, 2)) (by decide), r0 h.2.1 (k := (110, 8)) (by decide), trivial⟩ h.1
  obtain ⟨rH, σ1, rM, σ2, ⟨r, e1, ⟨r2, e2, e3⟩, e4, e5⟩, hH, hM⟩ := root2_ok (E := E) (Y := Yf) (G := GX) (J := JJ) (D := DH) (C := pc_half) (K2 := K2i false) (n := 3000) (zH := 274) (zM := 476) (arH := ctP_half.ar) (arM := .r 110 :: ctP_half.ar.tail) (kn := kn_half) (big := 1000) GX_G GX_J GX_H (F2_i (C := pc_half) (by decide +kernel)) an_half k2_half_r (by decide +kernel) (by decide +kernel) k1 k2 (show Rs _ (.r 110 :: ctP_half.ar.tail) (.ref 110 :: _) from ⟨rfl, k2.2⟩)
  exact hH _ ⟨r, e1, hM _ ⟨⟨r2, e2⟩, e4, e5, Eqs.nil⟩⟩
theorem an_joined : ∀ a ∈ pc_joined.an, chk2 GX pc_joined DH 3000 a = true ∧ sdOk a = true := List.forall_mem_cons.mpr ⟨⟨k2_joined_0, rfl⟩, List.forall_mem_cons.mpr ⟨⟨k2_joined_1, rfl⟩, List.forall_mem_cons.mpr ⟨⟨k2_joined_2, rfl⟩, List.forall_mem_cons.mpr ⟨⟨k2_joined_3, rfl⟩, List.forall_mem_cons.mpr ⟨⟨k2_joined_4, rfl⟩, List.forall_mem_cons.mpr ⟨⟨k2_joined_5, rfl⟩, List.forall_mem_cons.mpr ⟨⟨k2_joined_6, rfl⟩, List.forall_mem_cons.mpr ⟨⟨k2_joined_7, rfl⟩, List.forall_mem_cons.mpr ⟨⟨k2_joined_8, rfl⟩, fun a ha => by cases ha⟩⟩⟩⟩⟩⟩⟩⟩⟩
theorem LC_78_ok {E : xV} {σ : zS} (h : J0 σ) : LC_78 E σ J0 := by
  obtain ⟨k1, k2⟩ := pub_ok (J := JJ) (q := ctP_joined) (o := 0) (as := []) (ds := [[(0, 200)], [(0, 200)]]) (ks := [(5, 2), (110, 8)]) (σ := σ) (show pubOk ctP_joined 0 [] [[(0, 200)], [(0, 200)]] [(5, 2), (110, 8)] = true by decide +kernel) ⟨r0 h.2.1 (k := (5, 2)) (by decide), r0 h.2.1 (k := (110, 8)) (by decide), trivial⟩ h.1
  obtain ⟨rH, σ1, rM, σ2, ⟨r, e1, ⟨r2, e2, e3⟩, e4, e5⟩, hH, hM⟩ := root2_ok (E := E) (Y := Yf) (G := GX) (J := JJ) (D := DH) (C := pc_joined) (K2 := K2i false) (n := 3000) (zH := 278) (zM := 477) (arH := ctP_joined.ar) (arM := .r 110 :: ctP_joined.ar.tail) (kn := kn_joined) (big := 4000000000000) GX_G GX_J GX_H (F2_i (C := pc_joined) (by decide +kernel)) an_joined k2_joined_r (by decide +kernel) (by decide +kernel) k1 k2 (show Rs _ (.r 110 :: ctP_joined.ar.tail) (.ref 110 :: _) from ⟨rfl, k2.2⟩)
  exact hH _ ⟨r, e1, hM _ ⟨⟨r2, e2⟩, e4, e5, Eqs.nil⟩⟩
