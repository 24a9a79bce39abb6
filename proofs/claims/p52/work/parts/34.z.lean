theorem stkH_tick {E : xV} : BT.AllP (fun z qs => ∀ q ∈ qs, ScOk E Yf DH JJ z q.1 q.2) stH_tick := trivial
theorem stkM_tick {E : xV} : BT.AllP (fun z qs => ∀ q ∈ qs, ScOk E Yf (dN DH) JJ z q.1 q.2) stM_tick := trivial
theorem an_tick : ∀ a ∈ pc_tick.an, chk2 GX pc_tick DH 3000 a = true ∧ sdOk a = true := fun a ha => by cases ha
theorem LC_2_ok {E : xV} {σ : zS} (h : J0 σ) : LC_2 E σ J0 := by
  intro x0
  obtain ⟨k1, k2⟩ := pub_ok (J := JJ) (q := ctP_tick) (o := 0) (as := [.inl x0]) (ds := [T32, [(0, 200)], [(0, 200)]]) (ks := [(5, 2), (110, 8)]) (σ := σ) (show pubOk ctP_tick 0 [false] [T32, [(0, 200)], [(0, 200)]] [(5, 2), (110, 8)] = true by decide +kernel) ⟨in32 _, r0 h.2.1 (k := (5, 2)) (by decide), r0 h.2.1 (k := (110, 8)) (by decide), trivial⟩ h.1
  obtain ⟨rH, σ1, rM, σ2, ⟨r, e1, ⟨r2, e2, e3⟩, e4, e5⟩, hH, hM⟩ := root2_ok (E := E) (Y := Yf) (G := GX) (J := JJ) (D := DH) (C := pc_tick) (K2 := K2i false) (n := 3000) (zH := 3) (zM := 304) (arH := ctP_tick.ar) (arM := .r 110 :: ctP_tick.ar.tail) (kn := kn_tick) (big := 1) GX_G GX_J ⟨GX_H, JJ_pb⟩ ⟨fun _ _ h => stkH_tick.at h, fun _ _ h => stkM_tick.at h⟩ (F2_i (C := pc_tick) (by decide +kernel)) an_tick k2_tick_r (by decide +kernel) (by decide +kernel) k1 k2 (show Rs _ (.r 110 :: ctP_tick.ar.tail) (.ref 110 :: _) from ⟨rfl, k2.2⟩)
  exact hH _ ⟨r, e1, hM _ ⟨⟨r2, e2⟩, e4, e5, Eqs.nil⟩⟩
theorem LC_3_ok {E : xV} {σ : zS} (h : J0 σ) : LC_3 E σ J0 := by
  obtain ⟨k1, k2⟩ := pub_ok (J := JJ) (q := ctH_person) (o := 0) (as := []) (ds := [[(0, 200)], [(0, 200)]]) (ks := [(5, 2), (110, 8)]) (σ := σ) (show pubOk ctH_person 0 [] [[(0, 200)], [(0, 200)]] [(5, 2), (110, 8)] = true by decide +kernel) ⟨r0 h.2.1 (k := (5, 2)) (by decide), r0 h.2.1 (k := (110, 8)) (by decide), trivial⟩ h.1
  refine (cH_person (E := E) _ σ _ k1 k2).mono (fun v σ1 hv => ?_)
  obtain ⟨_, al, f2, ρ1, f3, f4, f5⟩ := hv
  rcases List.mem_cons.mp f2 with rfl | f2
  · obtain ⟨r, e, q⟩ := pair_i (E := E) (z := 312) (o1 := 0) (o2 := 110) (m := ctM_person_0) (ar := ctH_person.ar.tail) (a := .c (-3)) (kn := kn_person_0) (kn' := knE_person_0) cM_person_0 rfl rfl rfl (by decide +kernel) f4 f5 k2 f3 rfl
    exact ⟨r, e, q.mono (fun v' σ2 hq => ⟨⟨r, hq.1⟩, hq.2.1, hq.2.2, Eqs.nil⟩)⟩
  rcases List.mem_cons.mp f2 with rfl | f2
  · obtain ⟨r, e, q⟩ := pair_i (E := E) (z := 312) (o1 := 0) (o2 := 110) (m := ctM_person_1) (ar := ctH_person.ar.tail) (a := v9_2) (kn := kn_person_1) (kn' := knE_person_1) cM_person_1 rfl rfl rfl (by decide +kernel) f4 f5 k2 f3 rfl
    exact ⟨r, e, q.mono (fun v' σ2 hq => ⟨⟨r, hq.1⟩, hq.2.1, hq.2.2, Eqs.nil⟩)⟩
  · cases f2
theorem LC_13_ok {E : xV} {σ : zS} (h : J0 σ) : LC_13 E σ J0 := by
  intro x0 x1
  obtain ⟨k1, k2⟩ := pub_ok (J := JJ) (q := ctH_thing) (o := 0) (as := [.inl x0, .inl x1]) (ds := [T32, T32, [(0, 200)], [(0, 200)]]) (ks := [(5, 2), (110, 8)]) (σ := σ) (show pubOk ctH_thing 0 [false, false] [T32, T32, [(0, 200)], [(0, 200)]] [(5, 2), (110, 8)] = true by decide +kernel) ⟨in32 _, in32 _, r0 h.2.1 (k := (5, 2)) (by decide), r0 h.2.1 (k := (110, 8)) (by decide), trivial⟩ h.1
  refine (cH_thing (E := E) _ σ _ k1 k2).mono (fun v σ1 hv => ?_)
  obtain ⟨_, al, f2, ρ1, f3, f4, f5⟩ := hv
  rcases List.mem_cons.mp f2 with rfl | f2
  · obtain ⟨r, e, q⟩ := pair_i (E := E) (z := 333) (o1 := 0) (o2 := 110) (m := ctM_thing_0) (ar := ctH_thing.ar.tail) (a := .c (-3)) (kn := kn_thing_0) (kn' := knE_thing_0) cM_thing_0 rfl rfl rfl (by decide +kernel) f4 f5 k2 f3 rfl
    exact ⟨r, e, q.mono (fun v' σ2 hq => ⟨⟨r, hq.1⟩, hq.2.1, hq.2.2, Eqs.nil⟩)⟩
  rcases List.mem_cons.mp f2 with rfl | f2
  · obtain ⟨r, e, q⟩ := pair_i (E := E) (z := 333) (o1 := 0) (o2 := 110) (m := ctM_thing_1) (ar := ctH_thing.ar.tail) (a := v9_4) (kn := kn_thing_1) (kn' := knE_thing_1) cM_thing_1 rfl rfl rfl (by decide +kernel) f4 f5 k2 f3 rfl
    exact ⟨r, e, q.mono (fun v' σ2 hq => ⟨⟨r, hq.1⟩, hq.2.1, hq.2.2, Eqs.nil⟩)⟩
  rcases List.mem_cons.mp f2 with rfl | f2
  · obtain ⟨r, e, q⟩ := pair_i (E := E) (z := 333) (o1 := 0) (o2 := 110) (m := ctM_thing_2) (ar := ctH_thing.ar.tail) (a := .c (-1)) (kn := kn_thing_2) (kn' := knE_thing_2) cM_thing_2 rfl rfl rfl (by decide +kernel) f4 f5 k2 f3 rfl
    exact ⟨r, e, q.mono (fun v' σ2 hq => ⟨⟨r, hq.1⟩, hq.2.1, hq.2.2, Eqs.nil⟩)⟩
  rcases List.mem_cons.mp f2 with rfl | f2
  · obtain ⟨r, e, q⟩ := pair_i (E := E) (z := 333) (o1 := 0) (o2 := 110) (m := ctM_thing_3) (ar := ctH_thing.ar.tail) (a := .c (-1)) (kn := kn_thing_3) (kn' := knE_thing_3) cM_thing_3 rfl rfl rfl (by decide +kernel) f4 f5 k2 f3 rfl
    exact ⟨r, e, q.mono (fun v' σ2 hq => ⟨⟨r, hq.1⟩, hq.2.1, hq.2.2, Eqs.nil⟩)⟩
  rcases List.mem_cons.mp f2 with rfl | f2
  · obtain ⟨r, e, q⟩ := pair_i (E := E) (z := 333) (o1 := 0) (o2 := 110) (m := ctM_thing_4) (ar := ctH_thing.ar.tail) (a := .c (-3)) (kn := kn_thing_4) (kn' := knE_thing_4) cM_thing_4 rfl rfl rfl (by decide +kernel) f4 f5 k2 f3 rfl
    exact ⟨r, e, q.mono (fun v' σ2 hq => ⟨⟨r, hq.1⟩, hq.2.1, hq.2.2, Eqs.nil⟩)⟩
  rcases List.mem_cons.mp f2 with rfl | f2
  · obtain ⟨r, e, q⟩ := pair_i (E := E) (z := 333) (o1 := 0) (o2 := 110) (m := ctM_thing_5) (ar := ctH_thing.ar.tail) (a := v9_4) (kn := kn_thing_5) (kn' := knE_thing_5) cM_thing_5 rfl rfl rfl (by decide +kernel) f4 f5 k2 f3 rfl
    exact ⟨r, e, q.mono (fun v' σ2 hq => ⟨⟨r, hq.1⟩, hq.2.1, hq.2.2, Eqs.nil⟩)⟩
  rcases List.mem_cons.mp f2 with rfl | f2
  · obtain ⟨r, e, q⟩ := pair_i (E := E) (z := 333) (o1 := 0) (o2 := 110) (m := ctM_thing_6) (ar := ctH_thing.ar.tail) (a := .c (-1)) (kn := kn_thing_6) (kn' := knE_thing_6) cM_thing_6 rfl rfl rfl (by decide +kernel) f4 f5 k2 f3 rfl
    exact ⟨r, e, q.mono (fun v' σ2 hq => ⟨⟨r, hq.1⟩, hq.2.1, hq.2.2, Eqs.nil⟩)⟩
  rcases List.mem_cons.mp f2 with rfl | f2
  · obtain ⟨r, e, q⟩ := pair_i (E := E) (z := 333) (o1 := 0) (o2 := 110) (m := ctM_thing_7) (ar := ctH_thing.ar.tail) (a := .c (-1)) (kn := kn_thing_7) (kn' := knE_thing_7) cM_thing_7 rfl rfl rfl (by decide +kernel) f4 f5 k2 f3 rfl
    exact ⟨r, e, q.mono (fun v' σ2 hq => ⟨⟨r, hq.1⟩, hq.2.1, hq.2.2, Eqs.nil⟩)⟩
  rcases List.mem_cons.mp f2 with rfl | f2
  · obtain ⟨r, e, q⟩ := pair_i (E := E) (z := 333) (o1 := 0) (o2 := 110) (m := ctM_thing_8) (ar := ctH_thing.ar.tail) (a := .c (-1)) (kn := kn_thing_8) (kn' := knE_thing_8) cM_thing_8 rfl rfl rfl (by decide +kernel) f4 f5 k2 f3 rfl
    exact ⟨r, e, q.mono (fun v' σ2 hq => ⟨⟨r, hq.1⟩, hq.2.1, hq.2.2, Eqs.nil⟩)⟩
  · cases f2
theorem LC_14_ok {E : xV} {σ : zS} (h : J0 σ) : LC_14 E σ J0 := by
  intro x0 x1
  obtain ⟨k1, k2⟩ := pub_ok (J := JJ) (q := ctH_move) (o := 0) (as := [.inl x0, .inl x1]) (ds := [T32, T32, [(0, 200)], [(0, 200)]]) (ks := [(5, 2), (110, 8)]) (σ := σ) (show pubOk ctH_move 0 [false, false] [T32, T32, [(0, 200)], [(0, 200)]] [(5, 2), (110, 8)] = true by decide +kernel) ⟨in32 _, in32 _, r0 h.2.1 (k := (5, 2)) (by decide), r0 h.2.1 (k := (110, 8)) (by decide), trivial⟩ h.1
  refine (cH_move (E := E) _ σ _ k1 k2).mono (fun v σ1 hv => ?_)
  obtain ⟨_, al, f2, ρ1, f3, f4, f5⟩ := hv
  rcases List.mem_cons.mp f2 with rfl | f2
  · obtain ⟨r, e, q⟩ := pair_i (E := E) (z := 334) (o1 := 0) (o2 := 110) (m := ctM_move_0) (ar := ctH_move.ar.tail) (a := .c (-2)) (kn := kn_move_0) (kn' := knE_move_0) cM_move_0 rfl rfl rfl (by decide +kernel) f4 f5 k2 f3 rfl
    exact ⟨r, e, q.mono (fun v' σ2 hq => ⟨⟨r, hq.1⟩, hq.2.1, hq.2.2, Eqs.nil⟩)⟩
  rcases List.mem_cons.mp f2 with rfl | f2
  · obtain ⟨r, e, q⟩ := pair_i (E := E) (z := 334) (o1 := 0) (o2 := 110) (m := ctM_move_1) (ar := ctH_move.ar.tail) (a := c9_1) (kn := kn_move_1) (kn' := knE_move_1) cM_move_1 rfl rfl rfl (by decide +kernel) f4 f5 k2 f3 rfl
    exact ⟨r, e, q.mono (fun v' σ2 hq => ⟨⟨r, hq.1⟩, hq.2.1, hq.2.2, Eqs.nil⟩)⟩
  rcases List.mem_cons.mp f2 with rfl | f2
  · obtain ⟨r, e, q⟩ := pair_i (E := E) (z := 334) (o1 := 0) (o2 := 110) (m := ctM_move_2) (ar := ctH_move.ar.tail) (a := .c (-1)) (kn := kn_move_2) (kn' := knE_move_2) cM_move_2 rfl rfl rfl (by decide +kernel) f4 f5 k2 f3 rfl
    exact ⟨r, e, q.mono (fun v' σ2 hq => ⟨⟨r, hq.1⟩, hq.2.1, hq.2.2, Eqs.nil⟩)⟩
  rcases List.mem_cons.mp f2 with rfl | f2
  · obtain ⟨r, e, q⟩ := pair_i (E := E) (z := 334) (o1 := 0) (o2 := 110) (m := ctM_move_3) (ar := ctH_move.ar.tail) (a := .c (-1)) (kn := kn_move_3) (kn' := knE_move_3) cM_move_3 rfl rfl rfl (by decide +kernel) f4 f5 k2 f3 rfl
    exact ⟨r, e, q.mono (fun v' σ2 hq => ⟨⟨r, hq.1⟩, hq.2.1, hq.2.2, Eqs.nil⟩)⟩
  rcases List.mem_cons.mp f2 with rfl | f2
  · obtain ⟨r, e, q⟩ := pair_i (E := E) (z := 334) (o1 := 0) (o2 := 110) (m := ctM_move_4) (ar := ctH_move.ar.tail) (a := .c (-1)) (kn := kn_move_4) (kn' := knE_move_4) cM_move_4 rfl rfl rfl (by decide +kernel) f4 f5 k2 f3 rfl
    exact ⟨r, e, q.mono (fun v' σ2 hq => ⟨⟨r, hq.1⟩, hq.2.1, hq.2.2, Eqs.nil⟩)⟩
  rcases List.mem_cons.mp f2 with rfl | f2
  · obtain ⟨r, e, q⟩ := pair_i (E := E) (z := 334) (o1 := 0) (o2 := 110) (m := ctM_move_5) (ar := ctH_move.ar.tail) (a := .c (-1)) (kn := kn_move_5) (kn' := knE_move_5) cM_move_5 rfl rfl rfl (by decide +kernel) f4 f5 k2 f3 rfl
    exact ⟨r, e, q.mono (fun v' σ2 hq => ⟨⟨r, hq.1⟩, hq.2.1, hq.2.2, Eqs.nil⟩)⟩
  rcases List.mem_cons.mp f2 with rfl | f2
  · obtain ⟨r, e, q⟩ := pair_i (E := E) (z := 334) (o1 := 0) (o2 := 110) (m := ctM_move_6) (ar := ctH_move.ar.tail) (a := .c (-1)) (kn := kn_move_6) (kn' := knE_move_6) cM_move_6 rfl rfl rfl (by decide +kernel) f4 f5 k2 f3 rfl
    exact ⟨r, e, q.mono (fun v' σ2 hq => ⟨⟨r, hq.1⟩, hq.2.1, hq.2.2, Eqs.nil⟩)⟩
  rcases List.mem_cons.mp f2 with rfl | f2
  · obtain ⟨r, e, q⟩ := pair_i (E := E) (z := 334) (o1 := 0) (o2 := 110) (m := ctM_move_7) (ar := ctH_move.ar.tail) (a := .c (-1)) (kn := kn_move_7) (kn' := knE_move_7) cM_move_7 rfl rfl rfl (by decide +kernel) f4 f5 k2 f3 rfl
    exact ⟨r, e, q.mono (fun v' σ2 hq => ⟨⟨r, hq.1⟩, hq.2.1, hq.2.2, Eqs.nil⟩)⟩
  rcases List.mem_cons.mp f2 with rfl | f2
  · obtain ⟨r, e, q⟩ := pair_i (E := E) (z := 334) (o1 := 0) (o2 := 110) (m := ctM_move_8) (ar := ctH_move.ar.tail) (a := .c (-1)) (kn := kn_move_8) (kn' := knE_move_8) cM_move_8 rfl rfl rfl (by decide +kernel) f4 f5 k2 f3 rfl
    exact ⟨r, e, q.mono (fun v' σ2 hq => ⟨⟨r, hq.1⟩, hq.2.1, hq.2.2, Eqs.nil⟩)⟩
  · cases f2
theorem LC_15_ok {E : xV} {σ : zS} (h : J0 σ) : LC_15 E σ J0 := by
  intro x0 x1 hbool
  have b_x1 : inD (Arg.i (.inl x1)) [(0, 1)] := by rcases hbool with rfl | rfl <;> exact ⟨_, List.mem_cons_self .., by decide, by decide⟩
  obtain ⟨k1, k2⟩ := pub_ok (J := JJ) (q := ctH_cutOff) (o := 0) (as := [.inl x0, .inl x1]) (ds := [T32, [(0, 1)], [(0, 200)], [(0, 200)]]) (ks := [(5, 2), (110, 8)]) (σ := σ) (show pubOk ctH_cutOff 0 [false, false] [T32, [(0, 1)], [(0, 200)], [(0, 200)]] [(5, 2), (110, 8)] = true by decide +kernel) ⟨in32 _, b_x1, r0 h.2.1 (k := (5, 2)) (by decide), r0 h.2.1 (k := (110, 8)) (by decide), trivial⟩ h.1
  refine (cH_cutOff (E := E) _ σ _ k1 k2).mono (fun v σ1 hv => ?_)
  obtain ⟨_, al, f2, ρ1, f3, f4, f5⟩ := hv
  rcases List.mem_cons.mp f2 with rfl | f2
  · obtain ⟨r, e, q⟩ := pair_i (E := E) (z := 335) (o1 := 0) (o2 := 110) (m := ctM_cutOff_0) (ar := ctH_cutOff.ar.tail) (a := c9_1) (kn := kn_cutOff_0) (kn' := knE_cutOff_0) cM_cutOff_0 rfl rfl rfl (by decide +kernel) f4 f5 k2 f3 rfl
    exact ⟨r, e, q.mono (fun v' σ2 hq => ⟨⟨r, hq.1⟩, hq.2.1, hq.2.2, Eqs.nil⟩)⟩
  rcases List.mem_cons.mp f2 with rfl | f2
  · obtain ⟨r, e, q⟩ := pair_i (E := E) (z := 335) (o1 := 0) (o2 := 110) (m := ctM_cutOff_1) (ar := ctH_cutOff.ar.tail) (a := c9_0) (kn := kn_cutOff_1) (kn' := knE_cutOff_1) cM_cutOff_1 rfl rfl rfl (by decide +kernel) f4 f5 k2 f3 rfl
    exact ⟨r, e, q.mono (fun v' σ2 hq => ⟨⟨r, hq.1⟩, hq.2.1, hq.2.2, Eqs.nil⟩)⟩
  rcases List.mem_cons.mp f2 with rfl | f2
  · obtain ⟨r, e, q⟩ := pair_i (E := E) (z := 335) (o1 := 0) (o2 := 110) (m := ctM_cutOff_2) (ar := ctH_cutOff.ar.tail) (a := c9_1) (kn := kn_cutOff_2) (kn' := knE_cutOff_2) cM_cutOff_2 rfl rfl rfl (by decide +kernel) f4 f5 k2 f3 rfl
    exact ⟨r, e, q.mono (fun v' σ2 hq => ⟨⟨r, hq.1⟩, hq.2.1, hq.2.2, Eqs.nil⟩)⟩
  rcases List.mem_cons.mp f2 with rfl | f2
  · obtain ⟨r, e, q⟩ := pair_i (E := E) (z := 335) (o1 := 0) (o2 := 110) (m := ctM_cutOff_3) (ar := ctH_cutOff.ar.tail) (a := .c (-1)) (kn := kn_cutOff_3) (kn' := knE_cutOff_3) cM_cutOff_3 rfl rfl rfl (by decide +kernel) f4 f5 k2 f3 rfl
    exact ⟨r, e, q.mono (fun v' σ2 hq => ⟨⟨r, hq.1⟩, hq.2.1, hq.2.2, Eqs.nil⟩)⟩
  rcases List.mem_cons.mp f2 with rfl | f2
  · obtain ⟨r, e, q⟩ := pair_i (E := E) (z := 335) (o1 := 0) (o2 := 110) (m := ctM_cutOff_4) (ar := ctH_cutOff.ar.tail) (a := .c (-1)) (kn := kn_cutOff_4) (kn' := knE_cutOff_4) cM_cutOff_4 rfl rfl rfl (by decide +kernel) f4 f5 k2 f3 rfl
    exact ⟨r, e, q.mono (fun v' σ2 hq => ⟨⟨r, hq.1⟩, hq.2.1, hq.2.2, Eqs.nil⟩)⟩
  rcases List.mem_cons.mp f2 with rfl | f2
  · obtain ⟨r, e, q⟩ := pair_i (E := E) (z := 335) (o1 := 0) (o2 := 110) (m := ctM_cutOff_5) (ar := ctH_cutOff.ar.tail) (a := .c (-1)) (kn := kn_cutOff_5) (kn' := knE_cutOff_5) cM_cutOff_5 rfl rfl rfl (by decide +kernel) f4 f5 k2 f3 rfl
    exact ⟨r, e, q.mono (fun v' σ2 hq => ⟨⟨r, hq.1⟩, hq.2.1, hq.2.2, Eqs.nil⟩)⟩
  · cases f2
theorem LC_16_ok {E : xV} {σ : zS} (h : J0 σ) : LC_16 E σ J0 := by
  intro x0
  obtain ⟨k1, k2⟩ := pub_ok (J := JJ) (q := ctH_drop) (o := 0) (as := [.inl x0]) (ds := [T32, [(0, 200)], [(0, 200)]]) (ks := [(5, 2), (110, 8)]) (σ := σ) (show pubOk ctH_drop 0 [false] [T32, [(0, 200)], [(0, 200)]] [(5, 2), (110, 8)] = true by decide +kernel) ⟨in32 _, r0 h.2.1 (k := (5, 2)) (by decide), r0 h.2.1 (k := (110, 8)) (by decide), trivial⟩ h.1
  refine (cH_drop (E := E) _ σ _ k1 k2).mono (fun v σ1 hv => ?_)
  obtain ⟨_, al, f2, ρ1, f3, f4, f5⟩ := hv
  rcases List.mem_cons.mp f2 with rfl | f2
  · obtain ⟨r, e, q⟩ := pair_i (E := E) (z := 336) (o1 := 0) (o2 := 110) (m := ctM_drop_0) (ar := ctH_drop.ar.tail) (a := .c (-2)) (kn := kn_drop_0) (kn' := knE_drop_0) cM_drop_0 rfl rfl rfl (by decide +kernel) f4 f5 k2 f3 rfl
    exact ⟨r, e, q.mono (fun v' σ2 hq => ⟨⟨r, hq.1⟩, hq.2.1, hq.2.2, Eqs.nil⟩)⟩
  rcases List.mem_cons.mp f2 with rfl | f2
  · obtain ⟨r, e, q⟩ := pair_i (E := E) (z := 336) (o1 := 0) (o2 := 110) (m := ctM_drop_1) (ar := ctH_drop.ar.tail) (a := c9_1) (kn := kn_drop_1) (kn' := knE_drop_1) cM_drop_1 rfl rfl rfl (by decide +kernel) f4 f5 k2 f3 rfl
    exact ⟨r, e, q.mono (fun v' σ2 hq => ⟨⟨r, hq.1⟩, hq.2.1, hq.2.2, Eqs.nil⟩)⟩
  rcases List.mem_cons.mp f2 with rfl | f2
  · obtain ⟨r, e, q⟩ := pair_i (E := E) (z := 336) (o1 := 0) (o2 := 110) (m := ctM_drop_2) (ar := ctH_drop.ar.tail) (a := .c (-1)) (kn := kn_drop_2) (kn' := knE_drop_2) cM_drop_2 rfl rfl rfl (by decide +kernel) f4 f5 k2 f3 rfl
    exact ⟨r, e, q.mono (fun v' σ2 hq => ⟨⟨r, hq.1⟩, hq.2.1, hq.2.2, Eqs.nil⟩)⟩
  rcases List.mem_cons.mp f2 with rfl | f2
  · obtain ⟨r, e, q⟩ := pair_i (E := E) (z := 336) (o1 := 0) (o2 := 110) (m := ctM_drop_3) (ar := ctH_drop.ar.tail) (a := .c (-1)) (kn := kn_drop_3) (kn' := knE_drop_3) cM_drop_3 rfl rfl rfl (by decide +kernel) f4 f5 k2 f3 rfl
    exact ⟨r, e, q.mono (fun v' σ2 hq => ⟨⟨r, hq.1⟩, hq.2.1, hq.2.2, Eqs.nil⟩)⟩
  rcases List.mem_cons.mp f2 with rfl | f2
  · obtain ⟨r, e, q⟩ := pair_i (E := E) (z := 336) (o1 := 0) (o2 := 110) (m := ctM_drop_4) (ar := ctH_drop.ar.tail) (a := .c (-1)) (kn := kn_drop_4) (kn' := knE_drop_4) cM_drop_4 rfl rfl rfl (by decide +kernel) f4 f5 k2 f3 rfl
    exact ⟨r, e, q.mono (fun v' σ2 hq => ⟨⟨r, hq.1⟩, hq.2.1, hq.2.2, Eqs.nil⟩)⟩
  rcases List.mem_cons.mp f2 with rfl | f2
  · obtain ⟨r, e, q⟩ := pair_i (E := E) (z := 336) (o1 := 0) (o2 := 110) (m := ctM_drop_5) (ar := ctH_drop.ar.tail) (a := .c (-1)) (kn := kn_drop_5) (kn' := knE_drop_5) cM_drop_5 rfl rfl rfl (by decide +kernel) f4 f5 k2 f3 rfl
    exact ⟨r, e, q.mono (fun v' σ2 hq => ⟨⟨r, hq.1⟩, hq.2.1, hq.2.2, Eqs.nil⟩)⟩
  · cases f2
theorem stkH_holds {E : xV} : BT.AllP (fun z qs => ∀ q ∈ qs, ScOk E Yf DH JJ z q.1 q.2) stH_holds := trivial
theorem stkM_holds {E : xV} : BT.AllP (fun z qs => ∀ q ∈ qs, ScOk E Yf (dN DH) JJ z q.1 q.2) stM_holds := trivial
theorem an_holds : ∀ a ∈ pc_holds.an, chk2 GX pc_holds DH 3000 a = true ∧ sdOk a = true := List.forall_mem_cons.mpr ⟨⟨k2_holds_0, rfl⟩, List.forall_mem_cons.mpr ⟨⟨k2_holds_1, rfl⟩, List.forall_mem_cons.mpr ⟨⟨k2_holds_2, rfl⟩, List.forall_mem_cons.mpr ⟨⟨k2_holds_3, rfl⟩, List.forall_mem_cons.mpr ⟨⟨k2_holds_4, rfl⟩, List.forall_mem_cons.mpr ⟨⟨k2_holds_5, rfl⟩, List.forall_mem_cons.mpr ⟨⟨k2_holds_6, rfl⟩, List.forall_mem_cons.mpr ⟨⟨k2_holds_7, rfl⟩, List.forall_mem_cons.mpr ⟨⟨k2_holds_8, rfl⟩, List.forall_mem_cons.mpr ⟨⟨k2_holds_9, rfl⟩, List.forall_mem_cons.mpr ⟨⟨k2_holds_10, rfl⟩, List.forall_mem_cons.mpr ⟨⟨k2_holds_11, rfl⟩, List.forall_mem_cons.mpr ⟨⟨k2_holds_12, rfl⟩, List.forall_mem_cons.mpr ⟨⟨k2_holds_13, rfl⟩, List.forall_mem_cons.mpr ⟨⟨k2_holds_14, rfl⟩, List.forall_mem_cons.mpr ⟨⟨k2_holds_15, rfl⟩, List.forall_mem_cons.mpr ⟨⟨k2_holds_16, rfl⟩, fun a ha => by cases ha⟩⟩⟩⟩⟩⟩⟩⟩⟩⟩⟩⟩⟩⟩⟩⟩⟩
theorem LC_19_ok {E : xV} {σ : zS} (h : J0 σ) : LC_19 E σ J0 := by
  intro x0 x1 x2 hbool
  have b_x2 : inD (Arg.i (.inl x2)) [(0, 1)] := by rcases hbool with rfl | rfl <;> exact ⟨_, List.mem_cons_self .., by decide, by decide⟩
  obtain ⟨k1, k2⟩ := pub_ok (J := JJ) (q := ctP_holds) (o := 0) (as := [.inl x0, .inl x1, .inl x2]) (ds := [T32, T32, [(0, 1)], [(0, 200)], [(0, 200)]]) (ks := [(5, 2), (110, 8)]) (σ := σ) (show pubOk ctP_holds 0 [false, false, false] [T32, T32, [(0, 1)], [(0, 200)], [(0, 200)]] [(5, 2), (110, 8)] = true by decide +kernel) ⟨in32 _, in32 _, b_x2, r0 h.2.1 (k := (5, 2)) (by decide), r0 h.2.1 (k := (110, 8)) (by decide), trivial⟩ h.1
  obtain ⟨rH, σ1, rM, σ2, ⟨r, e1, ⟨r2, e2, e3⟩, e4, e5⟩, hH, hM⟩ := root2_ok (E := E) (Y := Yf) (G := GX) (J := JJ) (D := DH) (C := pc_holds) (K2 := K2i false) (n := 3000) (zH := 49) (zM := 341) (arH := ctP_holds.ar) (arM := .r 110 :: ctP_holds.ar.tail) (kn := kn_holds) (big := 1000) GX_G GX_J ⟨GX_H, JJ_pb⟩ ⟨fun _ _ h => stkH_holds.at h, fun _ _ h => stkM_holds.at h⟩ (F2_i (C := pc_holds) (by decide +kernel)) an_holds k2_holds_r (by decide +kernel) (by decide +kernel) k1 k2 (show Rs _ (.r 110 :: ctP_holds.ar.tail) (.ref 110 :: _) from ⟨rfl, k2.2⟩)
  exact hH _ ⟨r, e1, hM _ ⟨⟨r2, e2⟩, e4, e5, Eqs.nil⟩⟩
theorem sco_Th_isUnder0 {E : xV} : ScOk E Yf DH JJ 45 sct_Th_isUnder0 sw_Th_isUnder0 := root1_ok GX_G GX_J ⟨GX_H, JJ_pb⟩ (fun _ => ScT_nil) ks_Th_isUnder0_r (show ∀ a ∈ san_Th_isUnder0, _ from List.forall_mem_cons.mpr ⟨ks_Th_isUnder0_0, List.forall_mem_cons.mpr ⟨ks_Th_isUnder0_1, fun a ha => (by cases ha)⟩⟩)
theorem sco_Th_isUnder1 {E : xV} : ScOk E Yf DH JJ 45 sct_Th_isUnder1 sw_Th_isUnder1 := root1_ok GX_G GX_J ⟨GX_H, JJ_pb⟩ (fun _ => ScT_nil) ks_Th_isUnder1_r (show ∀ a ∈ san_Th_isUnder1, _ from List.forall_mem_cons.mpr ⟨ks_Th_isUnder1_0, List.forall_mem_cons.mpr ⟨ks_Th_isUnder1_1, fun a ha => (by cases ha)⟩⟩)
theorem sco_M_isUnder0 {E : xV} : ScOk E Yf (dN DH) JJ 339 sct_M_isUnder0 sw_M_isUnder0 := root1_ok GX_G GX_J ⟨GX_H, JJ_pb⟩ (fun _ => ScT_nil) ks_M_isUnder0_r (show ∀ a ∈ san_M_isUnder0, _ from List.forall_mem_cons.mpr ⟨ks_M_isUnder0_0, fun a ha => (by cases ha)⟩)
theorem sco_M_isUnder1 {E : xV} : ScOk E Yf (dN DH) JJ 339 sct_M_isUnder1 sw_M_isUnder1 := root1_ok GX_G GX_J ⟨GX_H, JJ_pb⟩ (fun _ => ScT_nil) ks_M_isUnder1_r (show ∀ a ∈ san_M_isUnder1, _ from List.forall_mem_cons.mpr ⟨ks_M_isUnder1_0, fun a ha => (by cases ha)⟩)
theorem sco_M_isUnder2 {E : xV} : ScOk E Yf (dN DH) JJ 339 sct_M_isUnder2 sw_M_isUnder2 := root1_ok GX_G GX_J ⟨GX_H, JJ_pb⟩ (fun _ => ScT_nil) ks_M_isUnder2_r (show ∀ a ∈ san_M_isUnder2, _ from List.forall_mem_cons.mpr ⟨ks_M_isUnder2_0, fun a ha => (by cases ha)⟩)
theorem sco_M_isUnder3 {E : xV} : ScOk E Yf (dN DH) JJ 339 sct_M_isUnder3 sw_M_isUnder3 := root1_ok GX_G GX_J ⟨GX_H, JJ_pb⟩ (fun _ => ScT_nil) ks_M_isUnder3_r (show ∀ a ∈ san_M_isUnder3, _ from List.forall_mem_cons.mpr ⟨ks_M_isUnder3_0, fun a ha => (by cases ha)⟩)
theorem sco_M_isHeld0 {E : xV} : ScOk E Yf (dN DH) JJ 343 sct_M_isHeld0 sw_M_isHeld0 := root1_ok GX_G GX_J ⟨GX_H, JJ_pb⟩ (fun _ => ScT_nil) ks_M_isHeld0_r (show ∀ a ∈ san_M_isHeld0, _ from List.forall_mem_cons.mpr ⟨ks_M_isHeld0_0, List.forall_mem_cons.mpr ⟨ks_M_isHeld0_1, List.forall_mem_cons.mpr ⟨ks_M_isHeld0_2, List.forall_mem_cons.mpr ⟨ks_M_isHeld0_3, fun a ha => (by cases ha)⟩⟩⟩⟩)
theorem sco_M_isHeld1 {E : xV} : ScOk E Yf (dN DH) JJ 343 sct_M_isHeld1 sw_M_isHeld1 := root1_ok GX_G GX_J ⟨GX_H, JJ_pb⟩ (fun _ => ScT_nil) ks_M_isHeld1_r (show ∀ a ∈ san_M_isHeld1, _ from List.forall_mem_cons.mpr ⟨ks_M_isHeld1_0, List.forall_mem_cons.mpr ⟨ks_M_isHeld1_1, List.forall_mem_cons.mpr ⟨ks_M_isHeld1_2, List.forall_mem_cons.mpr ⟨ks_M_isHeld1_3, fun a ha => (by cases ha)⟩⟩⟩⟩)
theorem sco_M_isHeld2 {E : xV} : ScOk E Yf (dN DH) JJ 343 sct_M_isHeld2 sw_M_isHeld2 := root1_ok GX_G GX_J ⟨GX_H, JJ_pb⟩ (fun _ => ScT_nil) ks_M_isHeld2_r (show ∀ a ∈ san_M_isHeld2, _ from List.forall_mem_cons.mpr ⟨ks_M_isHeld2_0, List.forall_mem_cons.mpr ⟨ks_M_isHeld2_1, List.forall_mem_cons.mpr ⟨ks_M_isHeld2_2, List.forall_mem_cons.mpr ⟨ks_M_isHeld2_3, fun a ha => (by cases ha)⟩⟩⟩⟩)
theorem sco_M_isHeld3 {E : xV} : ScOk E Yf (dN DH) JJ 343 sct_M_isHeld3 sw_M_isHeld3 := root1_ok GX_G GX_J ⟨GX_H, JJ_pb⟩ (fun _ => ScT_nil) ks_M_isHeld3_r (show ∀ a ∈ san_M_isHeld3, _ from List.forall_mem_cons.mpr ⟨ks_M_isHeld3_0, List.forall_mem_cons.mpr ⟨ks_M_isHeld3_1, List.forall_mem_cons.mpr ⟨ks_M_isHeld3_2, List.forall_mem_cons.mpr ⟨ks_M_isHeld3_3, fun a ha => (by cases ha)⟩⟩⟩⟩)
theorem sco_M_isHeld4 {E : xV} : ScOk E Yf (dN DH) JJ 343 sct_M_isHeld4 sw_M_isHeld4 := root1_ok GX_G GX_J ⟨GX_H, JJ_pb⟩ (fun _ => ScT_nil) ks_M_isHeld4_r (show ∀ a ∈ san_M_isHeld4, _ from List.forall_mem_cons.mpr ⟨ks_M_isHeld4_0, List.forall_mem_cons.mpr ⟨ks_M_isHeld4_1, List.forall_mem_cons.mpr ⟨ks_M_isHeld4_2, List.forall_mem_cons.mpr ⟨ks_M_isHeld4_3, fun a ha => (by cases ha)⟩⟩⟩⟩)
theorem stkH_lend {E : xV} : BT.AllP (fun z qs => ∀ q ∈ qs, ScOk E Yf DH JJ z q.1 q.2) stH_lend := ⟨⟨List.forall_mem_cons.mpr ⟨sco_Th_isUnder0, List.forall_mem_cons.mpr ⟨sco_Th_isUnder1, fun _ h => (by cases h)⟩⟩, trivial⟩, trivial⟩
theorem stkM_lend {E : xV} : BT.AllP (fun z qs => ∀ q ∈ qs, ScOk E Yf (dN DH) JJ z q.1 q.2) stM_lend := ⟨⟨List.forall_mem_cons.mpr ⟨sco_M_isUnder0, List.forall_mem_cons.mpr ⟨sco_M_isUnder1, List.forall_mem_cons.mpr ⟨sco_M_isUnder2, List.forall_mem_cons.mpr ⟨sco_M_isUnder3, fun _ h => (by cases h)⟩⟩⟩⟩, trivial⟩, ⟨List.forall_mem_cons.mpr ⟨sco_M_isHeld0, List.forall_mem_cons.mpr ⟨sco_M_isHeld1, List.forall_mem_cons.mpr ⟨sco_M_isHeld2, List.forall_mem_cons.mpr ⟨sco_M_isHeld3, List.forall_mem_cons.mpr ⟨sco_M_isHeld4, fun _ h => (by cases h)⟩⟩⟩⟩⟩, trivial⟩, trivial⟩
theorem an_lend : ∀ a ∈ pc_lend.an, chk2 GX pc_lend DH 3000 a = true ∧ sdOk a = true := List.forall_mem_cons.mpr ⟨⟨k2_lend_0, rfl⟩, List.forall_mem_cons.mpr ⟨⟨k2_lend_1, rfl⟩, List.forall_mem_cons.mpr ⟨⟨k2_lend_2, rfl⟩, List.forall_mem_cons.mpr ⟨⟨k2_lend_3, rfl⟩, List.forall_mem_cons.mpr ⟨⟨k2_lend_4, rfl⟩, List.forall_mem_cons.mpr ⟨⟨k2_lend_5, rfl⟩, List.forall_mem_cons.mpr ⟨⟨k2_lend_6, rfl⟩, List.forall_mem_cons.mpr ⟨⟨k2_lend_7, rfl⟩, List.forall_mem_cons.mpr ⟨⟨k2_lend_8, rfl⟩, List.forall_mem_cons.mpr ⟨⟨k2_lend_9, rfl⟩, List.forall_mem_cons.mpr ⟨⟨k2_lend_10, rfl⟩, List.forall_mem_cons.mpr ⟨⟨k2_lend_11, rfl⟩, List.forall_mem_cons.mpr ⟨⟨k2_lend_12, rfl⟩, List.forall_mem_cons.mpr ⟨⟨k2_lend_13, rfl⟩, List.forall_mem_cons.mpr ⟨⟨k2_lend_14, rfl⟩, List.forall_mem_cons.mpr ⟨⟨k2_lend_15, rfl⟩, List.forall_mem_cons.mpr ⟨⟨k2_lend_16, rfl⟩, List.forall_mem_cons.mpr ⟨⟨k2_lend_17, rfl⟩, List.forall_mem_cons.mpr ⟨⟨k2_lend_18, rfl⟩, List.forall_mem_cons.mpr ⟨⟨k2_lend_19, rfl⟩, List.forall_mem_cons.mpr ⟨⟨k2_lend_20, rfl⟩, List.forall_mem_cons.mpr ⟨⟨k2_lend_21, rfl⟩, List.forall_mem_cons.mpr ⟨⟨k2_lend_22, rfl⟩, List.forall_mem_cons.mpr ⟨⟨k2_lend_23, rfl⟩, List.forall_mem_cons.mpr ⟨⟨k2_lend_24, rfl⟩, List.forall_mem_cons.mpr ⟨⟨k2_lend_25, rfl⟩, List.forall_mem_cons.mpr ⟨⟨k2_lend_26, rfl⟩, List.forall_mem_cons.mpr ⟨⟨k2_lend_27, rfl⟩, fun a ha => by cases ha⟩⟩⟩⟩⟩⟩⟩⟩⟩⟩⟩⟩⟩⟩⟩⟩⟩⟩⟩⟩⟩⟩⟩⟩⟩⟩⟩⟩
theorem LC_50_ok {E : xV} {σ : zS} (h : J0 σ) : LC_50 E σ J0 := by
  intro x0 x1 x2 x3 x4 x5 x6
  obtain ⟨k1, k2⟩ := pub_ok (J := JJ) (q := ctP_lend) (o := 0) (as := [.inl x0, .inl x1, .inl x2, .inl x3, .inl x4, .inl x5, .inl x6]) (ds := [T32, T32, T32, T32, T32, T32, T32, [(0, 200)], [(0, 200)]]) (ks := [(5, 2), (110, 8)]) (σ := σ) (show pubOk ctP_lend 0 [false, false, false, false, false, false, false] [T32, T32, T32, T32, T32, T32, T32, [(0, 200)], [(0, 200)]] [(5, 2), (110, 8)] = true by decide +kernel) ⟨in32 _, in32 _, in32 _, in32 _, in32 _, in32 _, in32 _, r0 h.2.1 (k := (5, 2)) (by decide), r0 h.2.1 (k := (110, 8)) (by decide), trivial⟩ h.1
  obtain ⟨rH, σ1, rM, σ2, ⟨r, e1, ⟨r2, e2, e3⟩, e4, e5⟩, hH, hM⟩ := root2_ok (E := E) (Y := Yf) (G := GX) (J := JJ) (D := DH) (C := pc_lend) (K2 := K2i true) (n := 3000) (zH := 200) (zM := 432) (arH := ctP_lend.ar) (arM := .r 110 :: ctP_lend.ar.tail) (kn := kn_lend) (big := 3000000) GX_G GX_J ⟨GX_H, JJ_pb⟩ ⟨fun _ _ h => stkH_lend.at h, fun _ _ h => stkM_lend.at h⟩ (F2_i (C := pc_lend) (by decide +kernel)) an_lend k2_lend_r (by decide +kernel) (by decide +kernel) k1 k2 (show Rs _ (.r 110 :: ctP_lend.ar.tail) (.ref 110 :: _) from ⟨rfl, k2.2⟩)
  exact hH _ ⟨r, e1, hM _ ⟨by rw [e2, e3 rfl], e4, e5, Eqs.nil⟩⟩
theorem stkH_endLend {E : xV} : BT.AllP (fun z qs => ∀ q ∈ qs, ScOk E Yf DH JJ z q.1 q.2) stH_endLend := trivial
theorem stkM_endLend {E : xV} : BT.AllP (fun z qs => ∀ q ∈ qs, ScOk E Yf (dN DH) JJ z q.1 q.2) stM_endLend := trivial
theorem an_endLend : ∀ a ∈ pc_endLend.an, chk2 GX pc_endLend DH 3000 a = true ∧ sdOk a = true := fun a ha => by cases ha
theorem LC_51_ok {E : xV} {σ : zS} (h : J0 σ) : LC_51 E σ J0 := by
  intro x0 x1
  obtain ⟨k1, k2⟩ := pub_ok (J := JJ) (q := ctP_endLend) (o := 0) (as := [.inl x0, .inl x1]) (ds := [T32, T32, [(0, 200)], [(0, 200)]]) (ks := [(5, 2), (110, 8)]) (σ := σ) (show pubOk ctP_endLend 0 [false, false] [T32, T32, [(0, 200)], [(0, 200)]] [(5, 2), (110, 8)] = true by decide +kernel) ⟨in32 _, in32 _, r0 h.2.1 (k := (5, 2)) (by decide), r0 h.2.1 (k := (110, 8)) (by decide), trivial⟩ h.1
  obtain ⟨rH, σ1, rM, σ2, ⟨r, e1, ⟨r2, e2, e3⟩, e4, e5⟩, hH, hM⟩ := root2_ok (E := E) (Y := Yf) (G := GX) (J := JJ) (D := DH) (C := pc_endLend) (K2 := K2i false) (n := 3000) (zH := 201) (zM := 433) (arH := ctP_endLend.ar) (arM := .r 110 :: ctP_endLend.ar.tail) (kn := kn_endLend) (big := 1) GX_G GX_J ⟨GX_H, JJ_pb⟩ ⟨fun _ _ h => stkH_endLend.at h, fun _ _ h => stkM_endLend.at h⟩ (F2_i (C := pc_endLend) (by decide +kernel)) an_endLend k2_endLend_r (by decide +kernel) (by decide +kernel) k1 k2 (show Rs _ (.r 110 :: ctP_endLend.ar.tail) (.ref 110 :: _) from ⟨rfl, k2.2⟩)
  exact hH _ ⟨r, e1, hM _ ⟨⟨r2, e2⟩, e4, e5, Eqs.nil⟩⟩
theorem sco_Th_isUnder2 {E : xV} : ScOk E Yf DH JJ 45 sct_Th_isUnder2 sw_Th_isUnder2 := root1_ok GX_G GX_J ⟨GX_H, JJ_pb⟩ (fun _ => ScT_nil) ks_Th_isUnder2_r (show ∀ a ∈ san_Th_isUnder2, _ from List.forall_mem_cons.mpr ⟨ks_Th_isUnder2_0, List.forall_mem_cons.mpr ⟨ks_Th_isUnder2_1, fun a ha => (by cases ha)⟩⟩)
theorem sco_Th_isUnder3 {E : xV} : ScOk E Yf DH JJ 45 sct_Th_isUnder3 sw_Th_isUnder3 := root1_ok GX_G GX_J ⟨GX_H, JJ_pb⟩ (fun _ => ScT_nil) ks_Th_isUnder3_r (show ∀ a ∈ san_Th_isUnder3, _ from List.forall_mem_cons.mpr ⟨ks_Th_isUnder3_0, List.forall_mem_cons.mpr ⟨ks_Th_isUnder3_1, fun a ha => (by cases ha)⟩⟩)
theorem sco_Th_isUnder4 {E : xV} : ScOk E Yf DH JJ 45 sct_Th_isUnder4 sw_Th_isUnder4 := root1_ok GX_G GX_J ⟨GX_H, JJ_pb⟩ (fun _ => ScT_nil) ks_Th_isUnder4_r (show ∀ a ∈ san_Th_isUnder4, _ from List.forall_mem_cons.mpr ⟨ks_Th_isUnder4_0, List.forall_mem_cons.mpr ⟨ks_Th_isUnder4_1, fun a ha => (by cases ha)⟩⟩)
theorem sco_M_isUnder4 {E : xV} : ScOk E Yf (dN DH) JJ 339 sct_M_isUnder4 sw_M_isUnder4 := root1_ok GX_G GX_J ⟨GX_H, JJ_pb⟩ (fun _ => ScT_nil) ks_M_isUnder4_r (show ∀ a ∈ san_M_isUnder4, _ from List.forall_mem_cons.mpr ⟨ks_M_isUnder4_0, fun a ha => (by cases ha)⟩)
theorem sco_M_isUnder5 {E : xV} : ScOk E Yf (dN DH) JJ 339 sct_M_isUnder5 sw_M_isUnder5 := root1_ok GX_G GX_J ⟨GX_H, JJ_pb⟩ (fun _ => ScT_nil) ks_M_isUnder5_r (show ∀ a ∈ san_M_isUnder5, _ from List.forall_mem_cons.mpr ⟨ks_M_isUnder5_0, fun a ha => (by cases ha)⟩)
theorem sco_M_isUnder6 {E : xV} : ScOk E Yf (dN DH) JJ 339 sct_M_isUnder6 sw_M_isUnder6 := root1_ok GX_G GX_J ⟨GX_H, JJ_pb⟩ (fun _ => ScT_nil) ks_M_isUnder6_r (show ∀ a ∈ san_M_isUnder6, _ from List.forall_mem_cons.mpr ⟨ks_M_isUnder6_0, fun a ha => (by cases ha)⟩)
theorem sco_M_isUnder7 {E : xV} : ScOk E Yf (dN DH) JJ 339 sct_M_isUnder7 sw_M_isUnder7 := root1_ok GX_G GX_J ⟨GX_H, JJ_pb⟩ (fun _ => ScT_nil) ks_M_isUnder7_r (show ∀ a ∈ san_M_isUnder7, _ from List.forall_mem_cons.mpr ⟨ks_M_isUnder7_0, fun a ha => (by cases ha)⟩)
theorem sco_M_isHeld5 {E : xV} : ScOk E Yf (dN DH) JJ 343 sct_M_isHeld5 sw_M_isHeld5 := root1_ok GX_G GX_J ⟨GX_H, JJ_pb⟩ (fun _ => ScT_nil) ks_M_isHeld5_r (show ∀ a ∈ san_M_isHeld5, _ from List.forall_mem_cons.mpr ⟨ks_M_isHeld5_0, List.forall_mem_cons.mpr ⟨ks_M_isHeld5_1, List.forall_mem_cons.mpr ⟨ks_M_isHeld5_2, List.forall_mem_cons.mpr ⟨ks_M_isHeld5_3, fun a ha => (by cases ha)⟩⟩⟩⟩)
theorem sco_M_isHeld6 {E : xV} : ScOk E Yf (dN DH) JJ 343 sct_M_isHeld6 sw_M_isHeld6 := root1_ok GX_G GX_J ⟨GX_H, JJ_pb⟩ (fun _ => ScT_nil) ks_M_isHeld6_r (show ∀ a ∈ san_M_isHeld6, _ from List.forall_mem_cons.mpr ⟨ks_M_isHeld6_0, List.forall_mem_cons.mpr ⟨ks_M_isHeld6_1, List.forall_mem_cons.mpr ⟨ks_M_isHeld6_2, List.forall_mem_cons.mpr ⟨ks_M_isHeld6_3, fun a ha => (by cases ha)⟩⟩⟩⟩)
theorem sco_M_isHeld7 {E : xV} : ScOk E Yf (dN DH) JJ 343 sct_M_isHeld7 sw_M_isHeld7 := root1_ok GX_G GX_J ⟨GX_H, JJ_pb⟩ (fun _ => ScT_nil) ks_M_isHeld7_r (show ∀ a ∈ san_M_isHeld7, _ from List.forall_mem_cons.mpr ⟨ks_M_isHeld7_0, List.forall_mem_cons.mpr ⟨ks_M_isHeld7_1, List.forall_mem_cons.mpr ⟨ks_M_isHeld7_2, List.forall_mem_cons.mpr ⟨ks_M_isHeld7_3, fun a ha => (by cases ha)⟩⟩⟩⟩)
theorem sco_M_isHeld8 {E : xV} : ScOk E Yf (dN DH) JJ 343 sct_M_isHeld8 sw_M_isHeld8 := root1_ok GX_G GX_J ⟨GX_H, JJ_pb⟩ (fun _ => ScT_nil) ks_M_isHeld8_r (show ∀ a ∈ san_M_isHeld8, _ from List.forall_mem_cons.mpr ⟨ks_M_isHeld8_0, List.forall_mem_cons.mpr ⟨ks_M_isHeld8_1, List.forall_mem_cons.mpr ⟨ks_M_isHeld8_2, List.forall_mem_cons.mpr ⟨ks_M_isHeld8_3, fun a ha => (by cases ha)⟩⟩⟩⟩)
theorem sco_M_isHeld9 {E : xV} : ScOk E Yf (dN DH) JJ 343 sct_M_isHeld9 sw_M_isHeld9 := root1_ok GX_G GX_J ⟨GX_H, JJ_pb⟩ (fun _ => ScT_nil) ks_M_isHeld9_r (show ∀ a ∈ san_M_isHeld9, _ from List.forall_mem_cons.mpr ⟨ks_M_isHeld9_0, List.forall_mem_cons.mpr ⟨ks_M_isHeld9_1, List.forall_mem_cons.mpr ⟨ks_M_isHeld9_2, List.forall_mem_cons.mpr ⟨ks_M_isHeld9_3, fun a ha => (by cases ha)⟩⟩⟩⟩)
theorem sco_M_isHeld10 {E : xV} : ScOk E Yf (dN DH) JJ 343 sct_M_isHeld10 sw_M_isHeld10 := root1_ok GX_G GX_J ⟨GX_H, JJ_pb⟩ (fun _ => ScT_nil) ks_M_isHeld10_r (show ∀ a ∈ san_M_isHeld10, _ from List.forall_mem_cons.mpr ⟨ks_M_isHeld10_0, List.forall_mem_cons.mpr ⟨ks_M_isHeld10_1, List.forall_mem_cons.mpr ⟨ks_M_isHeld10_2, List.forall_mem_cons.mpr ⟨ks_M_isHeld10_3, fun a ha => (by cases ha)⟩⟩⟩⟩)
theorem stkH_stands {E : xV} : BT.AllP (fun z qs => ∀ q ∈ qs, ScOk E Yf DH JJ z q.1 q.2) stH_stands := ⟨⟨List.forall_mem_cons.mpr ⟨sco_Th_isUnder0, List.forall_mem_cons.mpr ⟨sco_Th_isUnder2, List.forall_mem_cons.mpr ⟨sco_Th_isUnder3, List.forall_mem_cons.mpr ⟨sco_Th_isUnder4, fun _ h => (by cases h)⟩⟩⟩⟩, trivial⟩, trivial⟩
theorem stkM_stands {E : xV} : BT.AllP (fun z qs => ∀ q ∈ qs, ScOk E Yf (dN DH) JJ z q.1 q.2) stM_stands := ⟨⟨List.forall_mem_cons.mpr ⟨sco_M_isUnder0, List.forall_mem_cons.mpr ⟨sco_M_isUnder1, List.forall_mem_cons.mpr ⟨sco_M_isUnder4, List.forall_mem_cons.mpr ⟨sco_M_isUnder5, List.forall_mem_cons.mpr ⟨sco_M_isUnder6, List.forall_mem_cons.mpr ⟨sco_M_isUnder7, fun _ h => (by cases h)⟩⟩⟩⟩⟩⟩, trivial⟩, ⟨List.forall_mem_cons.mpr ⟨sco_M_isHeld0, List.forall_mem_cons.mpr ⟨sco_M_isHeld1, List.forall_mem_cons.mpr ⟨sco_M_isHeld2, List.forall_mem_cons.mpr ⟨sco_M_isHeld5, List.forall_mem_cons.mpr ⟨sco_M_isHeld6, List.forall_mem_cons.mpr ⟨sco_M_isHeld7, List.forall_mem_cons.mpr ⟨sco_M_isHeld8, List.forall_mem_cons.mpr ⟨sco_M_isHeld9, List.forall_mem_cons.mpr ⟨sco_M_isHeld10, fun _ h => (by cases h)⟩⟩⟩⟩⟩⟩⟩⟩⟩, trivial⟩, trivial⟩
theorem an_stands : ∀ a ∈ pc_stands.an, chk2 GX pc_stands DH 3000 a = true ∧ sdOk a = true := List.forall_mem_cons.mpr ⟨⟨k2_stands_0, rfl⟩, List.forall_mem_cons.mpr ⟨⟨k2_stands_1, rfl⟩, List.forall_mem_cons.mpr ⟨⟨k2_stands_2, rfl⟩, List.forall_mem_cons.mpr ⟨⟨k2_stands_3, rfl⟩, List.forall_mem_cons.mpr ⟨⟨k2_stands_4, rfl⟩, List.forall_mem_cons.mpr ⟨⟨k2_stands_5, rfl⟩, List.forall_mem_cons.mpr ⟨⟨k2_stands_6, rfl⟩, List.forall_mem_cons.mpr ⟨⟨k2_stands_7, rfl⟩, List.forall_mem_cons.mpr ⟨⟨k2_stands_8, rfl⟩, List.forall_mem_cons.mpr ⟨⟨k2_stands_9, rfl⟩, List.forall_mem_cons.mpr ⟨⟨k2_stands_10, rfl⟩, List.forall_mem_cons.mpr ⟨⟨k2_stands_11, rfl⟩, List.forall_mem_cons.mpr ⟨⟨k2_stands_12, rfl⟩, List.forall_mem_cons.mpr ⟨⟨k2_stands_13, rfl⟩, List.forall_mem_cons.mpr ⟨⟨k2_stands_14, rfl⟩, List.forall_mem_cons.mpr ⟨⟨k2_stands_15, rfl⟩, List.forall_mem_cons.mpr ⟨⟨k2_stands_16, rfl⟩, List.forall_mem_cons.mpr ⟨⟨k2_stands_17, rfl⟩, List.forall_mem_cons.mpr ⟨⟨k2_stands_18, rfl⟩, List.forall_mem_cons.mpr ⟨⟨k2_stands_19, rfl⟩, List.forall_mem_cons.mpr ⟨⟨k2_stands_20, rfl⟩, List.forall_mem_cons.mpr ⟨⟨k2_stands_21, rfl⟩, List.forall_mem_cons.mpr ⟨⟨k2_stands_22, rfl⟩, List.forall_mem_cons.mpr ⟨⟨k2_stands_23, rfl⟩, List.forall_mem_cons.mpr ⟨⟨k2_stands_24, rfl⟩, List.forall_mem_cons.mpr ⟨⟨k2_stands_25, rfl⟩, List.forall_mem_cons.mpr ⟨⟨k2_stands_26, rfl⟩, List.forall_mem_cons.mpr ⟨⟨k2_stands_27, rfl⟩, fun a ha => by cases ha⟩⟩⟩⟩⟩⟩⟩⟩⟩⟩⟩⟩⟩⟩⟩⟩⟩⟩⟩⟩⟩⟩⟩⟩⟩⟩⟩⟩
theorem LC_52_ok {E : xV} {σ : zS} (h : J0 σ) : LC_52 E σ J0 := by
  intro x0 x1 x2 x3
  obtain ⟨k1, k2⟩ := pub_ok (J := JJ) (q := ctP_stands) (o := 0) (as := [.inl x0, .inl x1, .inl x2, .inl x3]) (ds := [T32, T32, T32, T32, [(0, 200)], [(0, 200)]]) (ks := [(5, 2), (110, 8)]) (σ := σ) (show pubOk ctP_stands 0 [false, false, false, false] [T32, T32, T32, T32, [(0, 200)], [(0, 200)]] [(5, 2), (110, 8)] = true by decide +kernel) ⟨in32 _, in32 _, in32 _, in32 _, r0 h.2.1 (k := (5, 2)) (by decide), r0 h.2.1 (k := (110, 8)) (by decide), trivial⟩ h.1
  obtain ⟨rH, σ1, rM, σ2, ⟨r, e1, ⟨r2, e2, e3⟩, e4, e5⟩, hH, hM⟩ := root2_ok (E := E) (Y := Yf) (G := GX) (J := JJ) (D := DH) (C := pc_stands) (K2 := K2i false) (n := 3000) (zH := 203) (zM := 434) (arH := ctP_stands.ar) (arM := .r 110 :: ctP_stands.ar.tail) (kn := kn_stands) (big := 3000000) GX_G GX_J ⟨GX_H, JJ_pb⟩ ⟨fun _ _ h => stkH_stands.at h, fun _ _ h => stkM_stands.at h⟩ (F2_i (C := pc_stands) (by decide +kernel)) an_stands k2_stands_r (by decide +kernel) (by decide +kernel) k1 k2 (show Rs _ (.r 110 :: ctP_stands.ar.tail) (.ref 110 :: _) from ⟨rfl, k2.2⟩)
  exact hH _ ⟨r, e1, hM _ ⟨⟨r2, e2⟩, e4, e5, Eqs.nil⟩⟩
theorem stkH_useRight {E : xV} : BT.AllP (fun z qs => ∀ q ∈ qs, ScOk E Yf DH JJ z q.1 q.2) stH_useRight := ⟨⟨List.forall_mem_cons.mpr ⟨sco_Th_isUnder0, List.forall_mem_cons.mpr ⟨sco_Th_isUnder2, List.forall_mem_cons.mpr ⟨sco_Th_isUnder3, List.forall_mem_cons.mpr ⟨sco_Th_isUnder4, fun _ h => (by cases h)⟩⟩⟩⟩, trivial⟩, trivial⟩
theorem stkM_useRight {E : xV} : BT.AllP (fun z qs => ∀ q ∈ qs, ScOk E Yf (dN DH) JJ z q.1 q.2) stM_useRight := ⟨⟨List.forall_mem_cons.mpr ⟨sco_M_isUnder0, List.forall_mem_cons.mpr ⟨sco_M_isUnder1, List.forall_mem_cons.mpr ⟨sco_M_isUnder4, List.forall_mem_cons.mpr ⟨sco_M_isUnder5, List.forall_mem_cons.mpr ⟨sco_M_isUnder6, List.forall_mem_cons.mpr ⟨sco_M_isUnder7, fun _ h => (by cases h)⟩⟩⟩⟩⟩⟩, trivial⟩, ⟨List.forall_mem_cons.mpr ⟨sco_M_isHeld0, List.forall_mem_cons.mpr ⟨sco_M_isHeld1, List.forall_mem_cons.mpr ⟨sco_M_isHeld2, List.forall_mem_cons.mpr ⟨sco_M_isHeld5, List.forall_mem_cons.mpr ⟨sco_M_isHeld6, List.forall_mem_cons.mpr ⟨sco_M_isHeld7, List.forall_mem_cons.mpr ⟨sco_M_isHeld8, List.forall_mem_cons.mpr ⟨sco_M_isHeld9, List.forall_mem_cons.mpr ⟨sco_M_isHeld10, fun _ h => (by cases h)⟩⟩⟩⟩⟩⟩⟩⟩⟩, trivial⟩, trivial⟩
theorem an_useRight : ∀ a ∈ pc_useRight.an, chk2 GX pc_useRight DH 3000 a = true ∧ sdOk a = true := List.forall_mem_cons.mpr ⟨⟨k2_useRight_0, rfl⟩, List.forall_mem_cons.mpr ⟨⟨k2_useRight_1, rfl⟩, List.forall_mem_cons.mpr ⟨⟨k2_useRight_2, rfl⟩, List.forall_mem_cons.mpr ⟨⟨k2_useRight_3, rfl⟩, List.forall_mem_cons.mpr ⟨⟨k2_useRight_4, rfl⟩, List.forall_mem_cons.mpr ⟨⟨k2_useRight_5, rfl⟩, List.forall_mem_cons.mpr ⟨⟨k2_useRight_6, rfl⟩, List.forall_mem_cons.mpr ⟨⟨k2_useRight_7, rfl⟩, List.forall_mem_cons.mpr ⟨⟨k2_useRight_8, rfl⟩, List.forall_mem_cons.mpr ⟨⟨k2_useRight_9, rfl⟩, List.forall_mem_cons.mpr ⟨⟨k2_useRight_10, rfl⟩, List.forall_mem_cons.mpr ⟨⟨k2_useRight_11, rfl⟩, List.forall_mem_cons.mpr ⟨⟨k2_useRight_12, rfl⟩, List.forall_mem_cons.mpr ⟨⟨k2_useRight_13, rfl⟩, List.forall_mem_cons.mpr ⟨⟨k2_useRight_14, rfl⟩, List.forall_mem_cons.mpr ⟨⟨k2_useRight_15, rfl⟩, List.forall_mem_cons.mpr ⟨⟨k2_useRight_16, rfl⟩, List.forall_mem_cons.mpr ⟨⟨k2_useRight_17, rfl⟩, List.forall_mem_cons.mpr ⟨⟨k2_useRight_18, rfl⟩, List.forall_mem_cons.mpr ⟨⟨k2_useRight_19, rfl⟩, List.forall_mem_cons.mpr ⟨⟨k2_useRight_20, rfl⟩, List.forall_mem_cons.mpr ⟨⟨k2_useRight_21, rfl⟩, List.forall_mem_cons.mpr ⟨⟨k2_useRight_22, rfl⟩, List.forall_mem_cons.mpr ⟨⟨k2_useRight_23, rfl⟩, List.forall_mem_cons.mpr ⟨⟨k2_useRight_24, rfl⟩, List.forall_mem_cons.mpr ⟨⟨k2_useRight_25, rfl⟩, List.forall_mem_cons.mpr ⟨⟨k2_useRight_26, rfl⟩, List.forall_mem_cons.mpr ⟨⟨k2_useRight_27, rfl⟩, fun a ha => by cases ha⟩⟩⟩⟩⟩⟩⟩⟩⟩⟩⟩⟩⟩⟩⟩⟩⟩⟩⟩⟩⟩⟩⟩⟩⟩⟩⟩⟩
theorem LC_54_ok {E : xV} {σ : zS} (h : J0 σ) : LC_54 E σ J0 := by
  intro x0 x1 x2
  obtain ⟨k1, k2⟩ := pub_ok (J := JJ) (q := ctP_useRight) (o := 0) (as := [.inl x0, .inl x1, .inl x2]) (ds := [T32, T32, T32, [(0, 200)], [(0, 200)]]) (ks := [(5, 2), (110, 8)]) (σ := σ) (show pubOk ctP_useRight 0 [false, false, false] [T32, T32, T32, [(0, 200)], [(0, 200)]] [(5, 2), (110, 8)] = true by decide +kernel) ⟨in32 _, in32 _, in32 _, r0 h.2.1 (k := (5, 2)) (by decide), r0 h.2.1 (k := (110, 8)) (by decide), trivial⟩ h.1
  obtain ⟨rH, σ1, rM, σ2, ⟨r, e1, ⟨r2, e2, e3⟩, e4, e5⟩, hH, hM⟩ := root2_ok (E := E) (Y := Yf) (G := GX) (J := JJ) (D := DH) (C := pc_useRight) (K2 := K2i false) (n := 3000) (zH := 206) (zM := 436) (arH := ctP_useRight.ar) (arM := .r 110 :: ctP_useRight.ar.tail) (kn := kn_useRight) (big := 3000000) GX_G GX_J ⟨GX_H, JJ_pb⟩ ⟨fun _ _ h => stkH_useRight.at h, fun _ _ h => stkM_useRight.at h⟩ (F2_i (C := pc_useRight) (by decide +kernel)) an_useRight k2_useRight_r (by decide +kernel) (by decide +kernel) k1 k2 (show Rs _ (.r 110 :: ctP_useRight.ar.tail) (.ref 110 :: _) from ⟨rfl, k2.2⟩)
  exact hH _ ⟨r, e1, hM _ ⟨⟨r2, e2⟩, e4, e5, Eqs.nil⟩⟩
