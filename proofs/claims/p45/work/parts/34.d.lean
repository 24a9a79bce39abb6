theorem LC_4_ok {E : xV} {σ : zS} (h : J0 σ) : LC_4 E σ J0 := by
  obtain ⟨k1, k2⟩ := pub_ok (J := JJ) (q := ctH_group) (o := 0) (as := []) (ds := [[(0, 200)], [(0, 200)]]) (ks := [(5, 2), (110, 8)]) (σ := σ) (show pubOk ctH_group 0 [] [[(0, 200)], [(0, 200)]] [(5, 2), (110, 8)] = true by decide +kernel) ⟨r0 h.2.1 (k := (5, 2)) (by decide), r0 h.2.1 (k := (110, 8)) (by decide), trivial⟩ h.1
  refine (cH_group (E := E) _ σ _ k1 k2).mono (fun v σ1 hv => ?_)
  obtain ⟨_, al, f2, ρ1, f3, f4, f5⟩ := hv
  rcases List.mem_cons.mp f2 with rfl | f2
  · obtain ⟨r, e, q⟩ := pair_i (E := E) (z := 313) (o1 := 0) (o2 := 110) (m := ctM_group_0) (ar := ctH_group.ar.tail) (a := .c (-3)) (kn := kn_group_0) (kn' := knE_group_0) cM_group_0 rfl rfl rfl (by decide +kernel) f4 f5 k2 f3 rfl
    exact ⟨r, e, q.mono (fun v' σ2 hq => ⟨⟨r, hq.1⟩, hq.2.1, hq.2.2, Eqs.nil⟩)⟩
  rcases List.mem_cons.mp f2 with rfl | f2
  · obtain ⟨r, e, q⟩ := pair_i (E := E) (z := 313) (o1 := 0) (o2 := 110) (m := ctM_group_1) (ar := ctH_group.ar.tail) (a := v9_2) (kn := kn_group_1) (kn' := knE_group_1) cM_group_1 rfl rfl rfl (by decide +kernel) f4 f5 k2 f3 rfl
    exact ⟨r, e, q.mono (fun v' σ2 hq => ⟨⟨r, hq.1⟩, hq.2.1, hq.2.2, Eqs.nil⟩)⟩
  · cases f2
theorem LC_41_ok {E : xV} {σ : zS} (h : J0 σ) : LC_41 E σ J0 := by
  obtain ⟨k1, k2⟩ := pub_ok (J := JJ) (q := ctH_work) (o := 0) (as := []) (ds := [[(0, 200)], [(0, 200)]]) (ks := [(5, 2), (110, 8)]) (σ := σ) (show pubOk ctH_work 0 [] [[(0, 200)], [(0, 200)]] [(5, 2), (110, 8)] = true by decide +kernel) ⟨r0 h.2.1 (k := (5, 2)) (by decide), r0 h.2.1 (k := (110, 8)) (by decide), trivial⟩ h.1
  refine (cH_work (E := E) _ σ _ k1 k2).mono (fun v σ1 hv => ?_)
  obtain ⟨_, al, f2, ρ1, f3, f4, f5⟩ := hv
  rcases List.mem_cons.mp f2 with rfl | f2
  · obtain ⟨r, e, q⟩ := pair_i (E := E) (z := 413) (o1 := 0) (o2 := 110) (m := ctM_work_0) (ar := ctH_work.ar.tail) (a := .c (-3)) (kn := kn_work_0) (kn' := knE_work_0) cM_work_0 rfl rfl rfl (by decide +kernel) f4 f5 k2 f3 rfl
    exact ⟨r, e, q.mono (fun v' σ2 hq => ⟨⟨r, hq.1⟩, hq.2.1, hq.2.2, Eqs.nil⟩)⟩
  rcases List.mem_cons.mp f2 with rfl | f2
  · obtain ⟨r, e, q⟩ := pair_i (E := E) (z := 413) (o1 := 0) (o2 := 110) (m := ctM_work_1) (ar := ctH_work.ar.tail) (a := v9_2) (kn := kn_work_1) (kn' := knE_work_1) cM_work_1 rfl rfl rfl (by decide +kernel) f4 f5 k2 f3 rfl
    exact ⟨r, e, q.mono (fun v' σ2 hq => ⟨⟨r, hq.1⟩, hq.2.1, hq.2.2, Eqs.nil⟩)⟩
  · cases f2
theorem LC_42_ok {E : xV} {σ : zS} (h : J0 σ) : LC_42 E σ J0 := by
  intro x0 x1
  obtain ⟨k1, k2⟩ := pub_ok (J := JJ) (q := ctH_step) (o := 0) (as := [.inl x0, .inl x1]) (ds := [T32, T32, [(0, 200)], [(0, 200)]]) (ks := [(5, 2), (110, 8)]) (σ := σ) (show pubOk ctH_step 0 [false, false] [T32, T32, [(0, 200)], [(0, 200)]] [(5, 2), (110, 8)] = true by decide +kernel) ⟨in32 _, in32 _, r0 h.2.1 (k := (5, 2)) (by decide), r0 h.2.1 (k := (110, 8)) (by decide), trivial⟩ h.1
  refine (cH_step (E := E) _ σ _ k1 k2).mono (fun v σ1 hv => ?_)
  obtain ⟨_, al, f2, ρ1, f3, f4, f5⟩ := hv
  rcases List.mem_cons.mp f2 with rfl | f2
  · obtain ⟨r, e, q⟩ := pair_i (E := E) (z := 416) (o1 := 0) (o2 := 110) (m := ctM_step_0) (ar := ctH_step.ar.tail) (a := .c (-3)) (kn := kn_step_0) (kn' := knE_step_0) cM_step_0 rfl rfl rfl (by decide +kernel) f4 f5 k2 f3 rfl
    exact ⟨r, e, q.mono (fun v' σ2 hq => ⟨⟨r, hq.1⟩, hq.2.1, hq.2.2, Eqs.nil⟩)⟩
  rcases List.mem_cons.mp f2 with rfl | f2
  · obtain ⟨r, e, q⟩ := pair_i (E := E) (z := 416) (o1 := 0) (o2 := 110) (m := ctM_step_1) (ar := ctH_step.ar.tail) (a := v9_4) (kn := kn_step_1) (kn' := knE_step_1) cM_step_1 rfl rfl rfl (by decide +kernel) f4 f5 k2 f3 rfl
    exact ⟨r, e, q.mono (fun v' σ2 hq => ⟨⟨r, hq.1⟩, hq.2.1, hq.2.2, Eqs.nil⟩)⟩
  rcases List.mem_cons.mp f2 with rfl | f2
  · obtain ⟨r, e, q⟩ := pair_i (E := E) (z := 416) (o1 := 0) (o2 := 110) (m := ctM_step_2) (ar := ctH_step.ar.tail) (a := .c (-1)) (kn := kn_step_2) (kn' := knE_step_2) cM_step_2 rfl rfl rfl (by decide +kernel) f4 f5 k2 f3 rfl
    exact ⟨r, e, q.mono (fun v' σ2 hq => ⟨⟨r, hq.1⟩, hq.2.1, hq.2.2, Eqs.nil⟩)⟩
  rcases List.mem_cons.mp f2 with rfl | f2
  · obtain ⟨r, e, q⟩ := pair_i (E := E) (z := 416) (o1 := 0) (o2 := 110) (m := ctM_step_3) (ar := ctH_step.ar.tail) (a := .c (-1)) (kn := kn_step_3) (kn' := knE_step_3) cM_step_3 rfl rfl rfl (by decide +kernel) f4 f5 k2 f3 rfl
    exact ⟨r, e, q.mono (fun v' σ2 hq => ⟨⟨r, hq.1⟩, hq.2.1, hq.2.2, Eqs.nil⟩)⟩
  rcases List.mem_cons.mp f2 with rfl | f2
  · obtain ⟨r, e, q⟩ := pair_i (E := E) (z := 416) (o1 := 0) (o2 := 110) (m := ctM_step_4) (ar := ctH_step.ar.tail) (a := .c (-1)) (kn := kn_step_4) (kn' := knE_step_4) cM_step_4 rfl rfl rfl (by decide +kernel) f4 f5 k2 f3 rfl
    exact ⟨r, e, q.mono (fun v' σ2 hq => ⟨⟨r, hq.1⟩, hq.2.1, hq.2.2, Eqs.nil⟩)⟩
  rcases List.mem_cons.mp f2 with rfl | f2
  · obtain ⟨r, e, q⟩ := pair_i (E := E) (z := 416) (o1 := 0) (o2 := 110) (m := ctM_step_5) (ar := ctH_step.ar.tail) (a := .c (-1)) (kn := kn_step_5) (kn' := knE_step_5) cM_step_5 rfl rfl rfl (by decide +kernel) f4 f5 k2 f3 rfl
    exact ⟨r, e, q.mono (fun v' σ2 hq => ⟨⟨r, hq.1⟩, hq.2.1, hq.2.2, Eqs.nil⟩)⟩
  · cases f2
theorem LC_43_ok {E : xV} {σ : zS} (h : J0 σ) : LC_43 E σ J0 := by
  intro x0 x1 x2 x3
  obtain ⟨k1, k2⟩ := pub_ok (J := JJ) (q := ctH_tie) (o := 0) (as := [.inl x0, .inl x1, .inl x2, .inl x3]) (ds := [T32, T32, T32, T32, [(0, 200)], [(0, 200)]]) (ks := [(5, 2), (110, 8)]) (σ := σ) (show pubOk ctH_tie 0 [false, false, false, false] [T32, T32, T32, T32, [(0, 200)], [(0, 200)]] [(5, 2), (110, 8)] = true by decide +kernel) ⟨in32 _, in32 _, in32 _, in32 _, r0 h.2.1 (k := (5, 2)) (by decide), r0 h.2.1 (k := (110, 8)) (by decide), trivial⟩ h.1
  refine (cH_tie (E := E) _ σ _ k1 k2).mono (fun v σ1 hv => ?_)
  obtain ⟨_, al, f2, ρ1, f3, f4, f5⟩ := hv
  rcases List.mem_cons.mp f2 with rfl | f2
  · obtain ⟨r, e, q⟩ := pair_i (E := E) (z := 417) (o1 := 0) (o2 := 110) (m := ctM_tie_0) (ar := ctH_tie.ar.tail) (a := .c (-1)) (kn := kn_tie_0) (kn' := knE_tie_0) cM_tie_0 rfl rfl rfl (by decide +kernel) f4 f5 k2 f3 rfl
    exact ⟨r, e, q.mono (fun v' σ2 hq => ⟨hq.1, hq.2.1, hq.2.2, Eqs.nil⟩)⟩
  rcases List.mem_cons.mp f2 with rfl | f2
  · obtain ⟨r, e, q⟩ := pair_i (E := E) (z := 417) (o1 := 0) (o2 := 110) (m := ctM_tie_1) (ar := ctH_tie.ar.tail) (a := .c (-3)) (kn := kn_tie_1) (kn' := knE_tie_1) cM_tie_1 rfl rfl rfl (by decide +kernel) f4 f5 k2 f3 rfl
    exact ⟨r, e, q.mono (fun v' σ2 hq => ⟨hq.1, hq.2.1, hq.2.2, Eqs.nil⟩)⟩
  rcases List.mem_cons.mp f2 with rfl | f2
  · obtain ⟨r, e, q⟩ := pair_i (E := E) (z := 417) (o1 := 0) (o2 := 110) (m := ctM_tie_2) (ar := ctH_tie.ar.tail) (a := v9_6) (kn := kn_tie_2) (kn' := knE_tie_2) cM_tie_2 rfl rfl rfl (by decide +kernel) f4 f5 k2 f3 rfl
    exact ⟨r, e, q.mono (fun v' σ2 hq => ⟨hq.1, hq.2.1, hq.2.2, Eqs.nil⟩)⟩
  rcases List.mem_cons.mp f2 with rfl | f2
  · obtain ⟨r, e, q⟩ := pair_i (E := E) (z := 417) (o1 := 0) (o2 := 110) (m := ctM_tie_3) (ar := ctH_tie.ar.tail) (a := .c (-1)) (kn := kn_tie_3) (kn' := knE_tie_3) cM_tie_3 rfl rfl rfl (by decide +kernel) f4 f5 k2 f3 rfl
    exact ⟨r, e, q.mono (fun v' σ2 hq => ⟨hq.1, hq.2.1, hq.2.2, Eqs.nil⟩)⟩
  rcases List.mem_cons.mp f2 with rfl | f2
  · obtain ⟨r, e, q⟩ := pair_i (E := E) (z := 417) (o1 := 0) (o2 := 110) (m := ctM_tie_4) (ar := ctH_tie.ar.tail) (a := .c (-1)) (kn := kn_tie_4) (kn' := knE_tie_4) cM_tie_4 rfl rfl rfl (by decide +kernel) f4 f5 k2 f3 rfl
    exact ⟨r, e, q.mono (fun v' σ2 hq => ⟨hq.1, hq.2.1, hq.2.2, Eqs.nil⟩)⟩
  rcases List.mem_cons.mp f2 with rfl | f2
  · obtain ⟨r, e, q⟩ := pair_i (E := E) (z := 417) (o1 := 0) (o2 := 110) (m := ctM_tie_5) (ar := ctH_tie.ar.tail) (a := .c (-3)) (kn := kn_tie_5) (kn' := knE_tie_5) cM_tie_5 rfl rfl rfl (by decide +kernel) f4 f5 k2 f3 rfl
    exact ⟨r, e, q.mono (fun v' σ2 hq => ⟨hq.1, hq.2.1, hq.2.2, Eqs.nil⟩)⟩
  rcases List.mem_cons.mp f2 with rfl | f2
  · obtain ⟨r, e, q⟩ := pair_i (E := E) (z := 417) (o1 := 0) (o2 := 110) (m := ctM_tie_6) (ar := ctH_tie.ar.tail) (a := v9_6) (kn := kn_tie_6) (kn' := knE_tie_6) cM_tie_6 rfl rfl rfl (by decide +kernel) f4 f5 k2 f3 rfl
    exact ⟨r, e, q.mono (fun v' σ2 hq => ⟨hq.1, hq.2.1, hq.2.2, Eqs.nil⟩)⟩
  rcases List.mem_cons.mp f2 with rfl | f2
  · obtain ⟨r, e, q⟩ := pair_i (E := E) (z := 417) (o1 := 0) (o2 := 110) (m := ctM_tie_7) (ar := ctH_tie.ar.tail) (a := .c (-1)) (kn := kn_tie_7) (kn' := knE_tie_7) cM_tie_7 rfl rfl rfl (by decide +kernel) f4 f5 k2 f3 rfl
    exact ⟨r, e, q.mono (fun v' σ2 hq => ⟨hq.1, hq.2.1, hq.2.2, Eqs.nil⟩)⟩
  rcases List.mem_cons.mp f2 with rfl | f2
  · obtain ⟨r, e, q⟩ := pair_i (E := E) (z := 417) (o1 := 0) (o2 := 110) (m := ctM_tie_8) (ar := ctH_tie.ar.tail) (a := .c (-3)) (kn := kn_tie_8) (kn' := knE_tie_8) cM_tie_8 rfl rfl rfl (by decide +kernel) f4 f5 k2 f3 rfl
    exact ⟨r, e, q.mono (fun v' σ2 hq => ⟨hq.1, hq.2.1, hq.2.2, Eqs.nil⟩)⟩
  rcases List.mem_cons.mp f2 with rfl | f2
  · obtain ⟨r, e, q⟩ := pair_i (E := E) (z := 417) (o1 := 0) (o2 := 110) (m := ctM_tie_9) (ar := ctH_tie.ar.tail) (a := v9_6) (kn := kn_tie_9) (kn' := knE_tie_9) cM_tie_9 rfl rfl rfl (by decide +kernel) f4 f5 k2 f3 rfl
    exact ⟨r, e, q.mono (fun v' σ2 hq => ⟨hq.1, hq.2.1, hq.2.2, Eqs.nil⟩)⟩
  rcases List.mem_cons.mp f2 with rfl | f2
  · obtain ⟨r, e, q⟩ := pair_i (E := E) (z := 417) (o1 := 0) (o2 := 110) (m := ctM_tie_10) (ar := ctH_tie.ar.tail) (a := .c (-1)) (kn := kn_tie_10) (kn' := knE_tie_10) cM_tie_10 rfl rfl rfl (by decide +kernel) f4 f5 k2 f3 rfl
    exact ⟨r, e, q.mono (fun v' σ2 hq => ⟨hq.1, hq.2.1, hq.2.2, Eqs.nil⟩)⟩
  rcases List.mem_cons.mp f2 with rfl | f2
  · obtain ⟨r, e, q⟩ := pair_i (E := E) (z := 417) (o1 := 0) (o2 := 110) (m := ctM_tie_11) (ar := ctH_tie.ar.tail) (a := .c (-1)) (kn := kn_tie_11) (kn' := knE_tie_11) cM_tie_11 rfl rfl rfl (by decide +kernel) f4 f5 k2 f3 rfl
    exact ⟨r, e, q.mono (fun v' σ2 hq => ⟨hq.1, hq.2.1, hq.2.2, Eqs.nil⟩)⟩
  rcases List.mem_cons.mp f2 with rfl | f2
  · obtain ⟨r, e, q⟩ := pair_i (E := E) (z := 417) (o1 := 0) (o2 := 110) (m := ctM_tie_12) (ar := ctH_tie.ar.tail) (a := .c (-1)) (kn := kn_tie_12) (kn' := knE_tie_12) cM_tie_12 rfl rfl rfl (by decide +kernel) f4 f5 k2 f3 rfl
    exact ⟨r, e, q.mono (fun v' σ2 hq => ⟨hq.1, hq.2.1, hq.2.2, Eqs.nil⟩)⟩
  rcases List.mem_cons.mp f2 with rfl | f2
  · obtain ⟨r, e, q⟩ := pair_i (E := E) (z := 417) (o1 := 0) (o2 := 110) (m := ctM_tie_13) (ar := ctH_tie.ar.tail) (a := .c (-1)) (kn := kn_tie_13) (kn' := knE_tie_13) cM_tie_13 rfl rfl rfl (by decide +kernel) f4 f5 k2 f3 rfl
    exact ⟨r, e, q.mono (fun v' σ2 hq => ⟨hq.1, hq.2.1, hq.2.2, Eqs.nil⟩)⟩
  rcases List.mem_cons.mp f2 with rfl | f2
  · obtain ⟨r, e, q⟩ := pair_i (E := E) (z := 417) (o1 := 0) (o2 := 110) (m := ctM_tie_14) (ar := ctH_tie.ar.tail) (a := .c (-1)) (kn := kn_tie_14) (kn' := knE_tie_14) cM_tie_14 rfl rfl rfl (by decide +kernel) f4 f5 k2 f3 rfl
    exact ⟨r, e, q.mono (fun v' σ2 hq => ⟨hq.1, hq.2.1, hq.2.2, Eqs.nil⟩)⟩
  rcases List.mem_cons.mp f2 with rfl | f2
  · obtain ⟨r, e, q⟩ := pair_i (E := E) (z := 417) (o1 := 0) (o2 := 110) (m := ctM_tie_15) (ar := ctH_tie.ar.tail) (a := .c (-1)) (kn := kn_tie_15) (kn' := knE_tie_15) cM_tie_15 rfl rfl rfl (by decide +kernel) f4 f5 k2 f3 rfl
    exact ⟨r, e, q.mono (fun v' σ2 hq => ⟨hq.1, hq.2.1, hq.2.2, Eqs.nil⟩)⟩
  rcases List.mem_cons.mp f2 with rfl | f2
  · obtain ⟨r, e, q⟩ := pair_i (E := E) (z := 417) (o1 := 0) (o2 := 110) (m := ctM_tie_16) (ar := ctH_tie.ar.tail) (a := .c (-1)) (kn := kn_tie_16) (kn' := knE_tie_16) cM_tie_16 rfl rfl rfl (by decide +kernel) f4 f5 k2 f3 rfl
    exact ⟨r, e, q.mono (fun v' σ2 hq => ⟨hq.1, hq.2.1, hq.2.2, Eqs.nil⟩)⟩
  · cases f2
