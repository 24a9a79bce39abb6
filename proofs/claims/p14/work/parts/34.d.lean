theorem LC_3_ok {E : xV} {σ : zS} (h : J0 σ) : LC_3 E σ J0 := by
  obtain ⟨k1, k2⟩ := pub_ok (J := JJ) (q := ctH_person) (o := 0) (as := []) (ds := [[(0, 200)], [(0, 200)]]) (ks := [(5, 2), (110, 8)]) (σ := σ) (show pubOk ctH_person 0 [] [[(0, 200)], [(0, 200)]] [(5, 2), (110, 8)] = true by decide +kernel) ⟨r0 h.2.1 (k := (5, 2)) (by decide), r0 h.2.1 (k := (110, 8)) (by decide), trivial⟩ h.1
  refine (cH_person (E := E) _ σ _ k1 k2).mono (fun v σ1 hv => ?_)
  obtain ⟨_, al, f2, ρ1, f3, f4, f5⟩ := hv
  rcases List.mem_cons.mp f2 with rfl | f2
  · obtain ⟨r, e, q⟩ := pair_i (E := E) (z := 312) (o1 := 0) (o2 := 110) (m := ctM_person_0) (ar := ctH_person.ar.tail) (a := .c (-3)) (kn := kn_person_0) (kn' := knE_person_0) cM_person_0 rfl rfl rfl (by decide +kernel) f4 f5 k2 f3 rfl
    exact ⟨r, e, q.mono (fun v' σ2 hq => ⟨⟨r, hq.1⟩, hq.2.1, hq.2.2, Eqs.nil⟩)⟩
  rcases List.mem_cons.mp f2 with rfl | f2
  · obtain ⟨r, e, q⟩ := pair_i (E := E) (z := 312) (o1 := 0) (o2 := 110) (m := ctM_person_1) (ar := ctH_person.ar.tail) (a := v9_2) (kn := kn_person_1) (kn' := knE_person_1) cM_person_1 rfl rfl rfl (by decide +kernel) f4 f5 k2 f3 rfl
    exact ⟨r, e, q.mono (fun v' σ2 hq => ⟨⟨r, hq.1⟩, hq.2.1, hq.2.2, Eqs.nil⟩)⟩
  · cases f2
theorem LC_9_ok {E : xV} {σ : zS} (h : J0 σ) : LC_9 E σ J0 := by
  intro x0 x1 x2 x3
  obtain ⟨k1, k2⟩ := pub_ok (J := JJ) (q := ctH_feature) (o := 0) (as := [.inl x0, .inl x1, .inl x2, .inl x3]) (ds := [T32, T32, T32, T32, [(0, 200)], [(0, 200)]]) (ks := [(5, 2), (110, 8)]) (σ := σ) (show pubOk ctH_feature 0 [false, false, false, false] [T32, T32, T32, T32, [(0, 200)], [(0, 200)]] [(5, 2), (110, 8)] = true by decide +kernel) ⟨in32 _, in32 _, in32 _, in32 _, r0 h.2.1 (k := (5, 2)) (by decide), r0 h.2.1 (k := (110, 8)) (by decide), trivial⟩ h.1
  refine (cH_feature (E := E) _ σ _ k1 k2).mono (fun v σ1 hv => ?_)
  obtain ⟨_, al, f2, ρ1, f3, f4, f5⟩ := hv
  rcases List.mem_cons.mp f2 with rfl | f2
  · obtain ⟨r, e, q⟩ := pair_i (E := E) (z := 327) (o1 := 0) (o2 := 110) (m := ctM_feature_0) (ar := ctH_feature.ar.tail) (a := .c (-1)) (kn := kn_feature_0) (kn' := knE_feature_0) cM_feature_0 rfl rfl rfl (by decide +kernel) f4 f5 k2 f3 rfl
    exact ⟨r, e, q.mono (fun v' σ2 hq => ⟨⟨r, hq.1⟩, hq.2.1, hq.2.2, Eqs.nil⟩)⟩
  rcases List.mem_cons.mp f2 with rfl | f2
  · obtain ⟨r, e, q⟩ := pair_i (E := E) (z := 327) (o1 := 0) (o2 := 110) (m := ctM_feature_1) (ar := ctH_feature.ar.tail) (a := c9_0) (kn := kn_feature_1) (kn' := knE_feature_1) cM_feature_1 rfl rfl rfl (by decide +kernel) f4 f5 k2 f3 rfl
    exact ⟨r, e, q.mono (fun v' σ2 hq => ⟨⟨r, hq.1⟩, hq.2.1, hq.2.2, Eqs.nil⟩)⟩
  rcases List.mem_cons.mp f2 with rfl | f2
  · obtain ⟨r, e, q⟩ := pair_i (E := E) (z := 327) (o1 := 0) (o2 := 110) (m := ctM_feature_2) (ar := ctH_feature.ar.tail) (a := .c (-1)) (kn := kn_feature_2) (kn' := knE_feature_2) cM_feature_2 rfl rfl rfl (by decide +kernel) f4 f5 k2 f3 rfl
    exact ⟨r, e, q.mono (fun v' σ2 hq => ⟨⟨r, hq.1⟩, hq.2.1, hq.2.2, Eqs.nil⟩)⟩
  rcases List.mem_cons.mp f2 with rfl | f2
  · obtain ⟨r, e, q⟩ := pair_i (E := E) (z := 327) (o1 := 0) (o2 := 110) (m := ctM_feature_3) (ar := ctH_feature.ar.tail) (a := .c (-13)) (kn := kn_feature_3) (kn' := knE_feature_3) cM_feature_3 rfl rfl rfl (by decide +kernel) f4 f5 k2 f3 rfl
    exact ⟨r, e, q.mono (fun v' σ2 hq => ⟨⟨r, hq.1⟩, hq.2.1, hq.2.2, Eqs.nil⟩)⟩
  rcases List.mem_cons.mp f2 with rfl | f2
  · obtain ⟨r, e, q⟩ := pair_i (E := E) (z := 327) (o1 := 0) (o2 := 110) (m := ctM_feature_4) (ar := ctH_feature.ar.tail) (a := v9_3) (kn := kn_feature_4) (kn' := knE_feature_4) cM_feature_4 rfl rfl rfl (by decide +kernel) f4 f5 k2 f3 rfl
    exact ⟨r, e, q.mono (fun v' σ2 hq => ⟨⟨r, hq.1⟩, hq.2.1, hq.2.2, Eqs.nil⟩)⟩
  rcases List.mem_cons.mp f2 with rfl | f2
  · obtain ⟨r, e, q⟩ := pair_i (E := E) (z := 327) (o1 := 0) (o2 := 110) (m := ctM_feature_5) (ar := ctH_feature.ar.tail) (a := .c (-1)) (kn := kn_feature_5) (kn' := knE_feature_5) cM_feature_5 rfl rfl rfl (by decide +kernel) f4 f5 k2 f3 rfl
    exact ⟨r, e, q.mono (fun v' σ2 hq => ⟨⟨r, hq.1⟩, hq.2.1, hq.2.2, Eqs.nil⟩)⟩
  rcases List.mem_cons.mp f2 with rfl | f2
  · obtain ⟨r, e, q⟩ := pair_i (E := E) (z := 327) (o1 := 0) (o2 := 110) (m := ctM_feature_6) (ar := ctH_feature.ar.tail) (a := .c (-1)) (kn := kn_feature_6) (kn' := knE_feature_6) cM_feature_6 rfl rfl rfl (by decide +kernel) f4 f5 k2 f3 rfl
    exact ⟨r, e, q.mono (fun v' σ2 hq => ⟨⟨r, hq.1⟩, hq.2.1, hq.2.2, Eqs.nil⟩)⟩
  rcases List.mem_cons.mp f2 with rfl | f2
  · obtain ⟨r, e, q⟩ := pair_i (E := E) (z := 327) (o1 := 0) (o2 := 110) (m := ctM_feature_7) (ar := ctH_feature.ar.tail) (a := c9_0) (kn := kn_feature_7) (kn' := knE_feature_7) cM_feature_7 rfl rfl rfl (by decide +kernel) f4 f5 k2 f3 rfl
    exact ⟨r, e, q.mono (fun v' σ2 hq => ⟨⟨r, hq.1⟩, hq.2.1, hq.2.2, Eqs.nil⟩)⟩
  rcases List.mem_cons.mp f2 with rfl | f2
  · obtain ⟨r, e, q⟩ := pair_i (E := E) (z := 327) (o1 := 0) (o2 := 110) (m := ctM_feature_8) (ar := ctH_feature.ar.tail) (a := .c (-1)) (kn := kn_feature_8) (kn' := knE_feature_8) cM_feature_8 rfl rfl rfl (by decide +kernel) f4 f5 k2 f3 rfl
    exact ⟨r, e, q.mono (fun v' σ2 hq => ⟨⟨r, hq.1⟩, hq.2.1, hq.2.2, Eqs.nil⟩)⟩
  rcases List.mem_cons.mp f2 with rfl | f2
  · obtain ⟨r, e, q⟩ := pair_i (E := E) (z := 327) (o1 := 0) (o2 := 110) (m := ctM_feature_9) (ar := ctH_feature.ar.tail) (a := .c (-13)) (kn := kn_feature_9) (kn' := knE_feature_9) cM_feature_9 rfl rfl rfl (by decide +kernel) f4 f5 k2 f3 rfl
    exact ⟨r, e, q.mono (fun v' σ2 hq => ⟨⟨r, hq.1⟩, hq.2.1, hq.2.2, Eqs.nil⟩)⟩
  rcases List.mem_cons.mp f2 with rfl | f2
  · obtain ⟨r, e, q⟩ := pair_i (E := E) (z := 327) (o1 := 0) (o2 := 110) (m := ctM_feature_10) (ar := ctH_feature.ar.tail) (a := v9_3) (kn := kn_feature_10) (kn' := knE_feature_10) cM_feature_10 rfl rfl rfl (by decide +kernel) f4 f5 k2 f3 rfl
    exact ⟨r, e, q.mono (fun v' σ2 hq => ⟨⟨r, hq.1⟩, hq.2.1, hq.2.2, Eqs.nil⟩)⟩
  rcases List.mem_cons.mp f2 with rfl | f2
  · obtain ⟨r, e, q⟩ := pair_i (E := E) (z := 327) (o1 := 0) (o2 := 110) (m := ctM_feature_11) (ar := ctH_feature.ar.tail) (a := .c (-1)) (kn := kn_feature_11) (kn' := knE_feature_11) cM_feature_11 rfl rfl rfl (by decide +kernel) f4 f5 k2 f3 rfl
    exact ⟨r, e, q.mono (fun v' σ2 hq => ⟨⟨r, hq.1⟩, hq.2.1, hq.2.2, Eqs.nil⟩)⟩
  rcases List.mem_cons.mp f2 with rfl | f2
  · obtain ⟨r, e, q⟩ := pair_i (E := E) (z := 327) (o1 := 0) (o2 := 110) (m := ctM_feature_12) (ar := ctH_feature.ar.tail) (a := .c (-1)) (kn := kn_feature_12) (kn' := knE_feature_12) cM_feature_12 rfl rfl rfl (by decide +kernel) f4 f5 k2 f3 rfl
    exact ⟨r, e, q.mono (fun v' σ2 hq => ⟨⟨r, hq.1⟩, hq.2.1, hq.2.2, Eqs.nil⟩)⟩
  rcases List.mem_cons.mp f2 with rfl | f2
  · obtain ⟨r, e, q⟩ := pair_i (E := E) (z := 327) (o1 := 0) (o2 := 110) (m := ctM_feature_13) (ar := ctH_feature.ar.tail) (a := .c (-1)) (kn := kn_feature_13) (kn' := knE_feature_13) cM_feature_13 rfl rfl rfl (by decide +kernel) f4 f5 k2 f3 rfl
    exact ⟨r, e, q.mono (fun v' σ2 hq => ⟨⟨r, hq.1⟩, hq.2.1, hq.2.2, Eqs.nil⟩)⟩
  rcases List.mem_cons.mp f2 with rfl | f2
  · obtain ⟨r, e, q⟩ := pair_i (E := E) (z := 327) (o1 := 0) (o2 := 110) (m := ctM_feature_14) (ar := ctH_feature.ar.tail) (a := .c (-1)) (kn := kn_feature_14) (kn' := knE_feature_14) cM_feature_14 rfl rfl rfl (by decide +kernel) f4 f5 k2 f3 rfl
    exact ⟨r, e, q.mono (fun v' σ2 hq => ⟨⟨r, hq.1⟩, hq.2.1, hq.2.2, Eqs.nil⟩)⟩
  rcases List.mem_cons.mp f2 with rfl | f2
  · obtain ⟨r, e, q⟩ := pair_i (E := E) (z := 327) (o1 := 0) (o2 := 110) (m := ctM_feature_15) (ar := ctH_feature.ar.tail) (a := .c (-1)) (kn := kn_feature_15) (kn' := knE_feature_15) cM_feature_15 rfl rfl rfl (by decide +kernel) f4 f5 k2 f3 rfl
    exact ⟨r, e, q.mono (fun v' σ2 hq => ⟨⟨r, hq.1⟩, hq.2.1, hq.2.2, Eqs.nil⟩)⟩
  rcases List.mem_cons.mp f2 with rfl | f2
  · obtain ⟨r, e, q⟩ := pair_i (E := E) (z := 327) (o1 := 0) (o2 := 110) (m := ctM_feature_16) (ar := ctH_feature.ar.tail) (a := .c (-1)) (kn := kn_feature_16) (kn' := knE_feature_16) cM_feature_16 rfl rfl rfl (by decide +kernel) f4 f5 k2 f3 rfl
    exact ⟨r, e, q.mono (fun v' σ2 hq => ⟨⟨r, hq.1⟩, hq.2.1, hq.2.2, Eqs.nil⟩)⟩
  rcases List.mem_cons.mp f2 with rfl | f2
  · obtain ⟨r, e, q⟩ := pair_i (E := E) (z := 327) (o1 := 0) (o2 := 110) (m := ctM_feature_17) (ar := ctH_feature.ar.tail) (a := .c (-1)) (kn := kn_feature_17) (kn' := knE_feature_17) cM_feature_17 rfl rfl rfl (by decide +kernel) f4 f5 k2 f3 rfl
    exact ⟨r, e, q.mono (fun v' σ2 hq => ⟨⟨r, hq.1⟩, hq.2.1, hq.2.2, Eqs.nil⟩)⟩
  · cases f2
theorem LC_12_ok {E : xV} {σ : zS} (h : J0 σ) : LC_12 E σ J0 := by
  intro x0 x1 x2 x3 x4 x5 x6
  obtain ⟨k1, k2⟩ := pub_ok (J := JJ) (q := ctH_copy) (o := 0) (as := [.inl x0, .inl x1, .inl x2, .inl x3, .inl x4, .inl x5, .inl x6]) (ds := [T32, T32, T32, T32, T32, T32, T32, [(0, 200)], [(0, 200)]]) (ks := [(5, 2), (110, 8)]) (σ := σ) (show pubOk ctH_copy 0 [false, false, false, false, false, false, false] [T32, T32, T32, T32, T32, T32, T32, [(0, 200)], [(0, 200)]] [(5, 2), (110, 8)] = true by decide +kernel) ⟨in32 _, in32 _, in32 _, in32 _, in32 _, in32 _, in32 _, r0 h.2.1 (k := (5, 2)) (by decide), r0 h.2.1 (k := (110, 8)) (by decide), trivial⟩ h.1
  refine (cH_copy (E := E) _ σ _ k1 k2).mono (fun v σ1 hv => ?_)
  obtain ⟨_, al, f2, ρ1, f3, f4, f5⟩ := hv
  rcases List.mem_cons.mp f2 with rfl | f2
  · obtain ⟨r, e, q⟩ := pair_i (E := E) (z := 330) (o1 := 0) (o2 := 110) (m := ctM_copy_0) (ar := ctH_copy.ar.tail) (a := .c (-11)) (kn := kn_copy_0) (kn' := knE_copy_0) cM_copy_0 rfl rfl rfl (by decide +kernel) f4 f5 k2 f3 rfl
    exact ⟨r, e, q.mono (fun v' σ2 hq => ⟨hq.1, hq.2.1, hq.2.2, Eqs.nil⟩)⟩
  rcases List.mem_cons.mp f2 with rfl | f2
  · obtain ⟨r, e, q⟩ := pair_i (E := E) (z := 330) (o1 := 0) (o2 := 110) (m := ctM_copy_1) (ar := ctH_copy.ar.tail) (a := .c (-14)) (kn := kn_copy_1) (kn' := knE_copy_1) cM_copy_1 rfl rfl rfl (by decide +kernel) f4 f5 k2 f3 rfl
    exact ⟨r, e, q.mono (fun v' σ2 hq => ⟨hq.1, hq.2.1, hq.2.2, Eqs.nil⟩)⟩
  rcases List.mem_cons.mp f2 with rfl | f2
  · obtain ⟨r, e, q⟩ := pair_i (E := E) (z := 330) (o1 := 0) (o2 := 110) (m := ctM_copy_2) (ar := ctH_copy.ar.tail) (a := v9_6) (kn := kn_copy_2) (kn' := knE_copy_2) cM_copy_2 rfl rfl rfl (by decide +kernel) f4 f5 k2 f3 rfl
    exact ⟨r, e, q.mono (fun v' σ2 hq => ⟨hq.1, hq.2.1, hq.2.2, Eqs.nil⟩)⟩
  rcases List.mem_cons.mp f2 with rfl | f2
  · obtain ⟨r, e, q⟩ := pair_i (E := E) (z := 330) (o1 := 0) (o2 := 110) (m := ctM_copy_3) (ar := ctH_copy.ar.tail) (a := .c (-12)) (kn := kn_copy_3) (kn' := knE_copy_3) cM_copy_3 rfl rfl rfl (by decide +kernel) f4 f5 k2 f3 rfl
    exact ⟨r, e, q.mono (fun v' σ2 hq => ⟨hq.1, hq.2.1, hq.2.2, Eqs.nil⟩)⟩
  rcases List.mem_cons.mp f2 with rfl | f2
  · obtain ⟨r, e, q⟩ := pair_i (E := E) (z := 330) (o1 := 0) (o2 := 110) (m := ctM_copy_4) (ar := ctH_copy.ar.tail) (a := .c (-12)) (kn := kn_copy_4) (kn' := knE_copy_4) cM_copy_4 rfl rfl rfl (by decide +kernel) f4 f5 k2 f3 rfl
    exact ⟨r, e, q.mono (fun v' σ2 hq => ⟨hq.1, hq.2.1, hq.2.2, Eqs.nil⟩)⟩
  rcases List.mem_cons.mp f2 with rfl | f2
  · obtain ⟨r, e, q⟩ := pair_i (E := E) (z := 330) (o1 := 0) (o2 := 110) (m := ctM_copy_5) (ar := ctH_copy.ar.tail) (a := .c (-12)) (kn := kn_copy_5) (kn' := knE_copy_5) cM_copy_5 rfl rfl rfl (by decide +kernel) f4 f5 k2 f3 rfl
    exact ⟨r, e, q.mono (fun v' σ2 hq => ⟨hq.1, hq.2.1, hq.2.2, Eqs.nil⟩)⟩
  rcases List.mem_cons.mp f2 with rfl | f2
  · obtain ⟨r, e, q⟩ := pair_i (E := E) (z := 330) (o1 := 0) (o2 := 110) (m := ctM_copy_6) (ar := ctH_copy.ar.tail) (a := .c (-12)) (kn := kn_copy_6) (kn' := knE_copy_6) cM_copy_6 rfl rfl rfl (by decide +kernel) f4 f5 k2 f3 rfl
    exact ⟨r, e, q.mono (fun v' σ2 hq => ⟨hq.1, hq.2.1, hq.2.2, Eqs.nil⟩)⟩
  rcases List.mem_cons.mp f2 with rfl | f2
  · obtain ⟨r, e, q⟩ := pair_i (E := E) (z := 330) (o1 := 0) (o2 := 110) (m := ctM_copy_7) (ar := ctH_copy.ar.tail) (a := .c (-12)) (kn := kn_copy_7) (kn' := knE_copy_7) cM_copy_7 rfl rfl rfl (by decide +kernel) f4 f5 k2 f3 rfl
    exact ⟨r, e, q.mono (fun v' σ2 hq => ⟨hq.1, hq.2.1, hq.2.2, Eqs.nil⟩)⟩
  rcases List.mem_cons.mp f2 with rfl | f2
  · obtain ⟨r, e, q⟩ := pair_i (E := E) (z := 330) (o1 := 0) (o2 := 110) (m := ctM_copy_8) (ar := ctH_copy.ar.tail) (a := .c (-12)) (kn := kn_copy_8) (kn' := knE_copy_8) cM_copy_8 rfl rfl rfl (by decide +kernel) f4 f5 k2 f3 rfl
    exact ⟨r, e, q.mono (fun v' σ2 hq => ⟨hq.1, hq.2.1, hq.2.2, Eqs.nil⟩)⟩
  rcases List.mem_cons.mp f2 with rfl | f2
  · obtain ⟨r, e, q⟩ := pair_i (E := E) (z := 330) (o1 := 0) (o2 := 110) (m := ctM_copy_9) (ar := ctH_copy.ar.tail) (a := .c (-12)) (kn := kn_copy_9) (kn' := knE_copy_9) cM_copy_9 rfl rfl rfl (by decide +kernel) f4 f5 k2 f3 rfl
    exact ⟨r, e, q.mono (fun v' σ2 hq => ⟨hq.1, hq.2.1, hq.2.2, Eqs.nil⟩)⟩
  rcases List.mem_cons.mp f2 with rfl | f2
  · obtain ⟨r, e, q⟩ := pair_i (E := E) (z := 330) (o1 := 0) (o2 := 110) (m := ctM_copy_10) (ar := ctH_copy.ar.tail) (a := .c (-14)) (kn := kn_copy_10) (kn' := knE_copy_10) cM_copy_10 rfl rfl rfl (by decide +kernel) f4 f5 k2 f3 rfl
    exact ⟨r, e, q.mono (fun v' σ2 hq => ⟨hq.1, hq.2.1, hq.2.2, Eqs.nil⟩)⟩
  rcases List.mem_cons.mp f2 with rfl | f2
  · obtain ⟨r, e, q⟩ := pair_i (E := E) (z := 330) (o1 := 0) (o2 := 110) (m := ctM_copy_11) (ar := ctH_copy.ar.tail) (a := .c (-11)) (kn := kn_copy_11) (kn' := knE_copy_11) cM_copy_11 rfl rfl rfl (by decide +kernel) f4 f5 k2 f3 rfl
    exact ⟨r, e, q.mono (fun v' σ2 hq => ⟨hq.1, hq.2.1, hq.2.2, Eqs.nil⟩)⟩
  rcases List.mem_cons.mp f2 with rfl | f2
  · obtain ⟨r, e, q⟩ := pair_i (E := E) (z := 330) (o1 := 0) (o2 := 110) (m := ctM_copy_12) (ar := ctH_copy.ar.tail) (a := .c (-11)) (kn := kn_copy_12) (kn' := knE_copy_12) cM_copy_12 rfl rfl rfl (by decide +kernel) f4 f5 k2 f3 rfl
    exact ⟨r, e, q.mono (fun v' σ2 hq => ⟨hq.1, hq.2.1, hq.2.2, Eqs.nil⟩)⟩
  rcases List.mem_cons.mp f2 with rfl | f2
  · obtain ⟨r, e, q⟩ := pair_i (E := E) (z := 330) (o1 := 0) (o2 := 110) (m := ctM_copy_13) (ar := ctH_copy.ar.tail) (a := .c (-14)) (kn := kn_copy_13) (kn' := knE_copy_13) cM_copy_13 rfl rfl rfl (by decide +kernel) f4 f5 k2 f3 rfl
    exact ⟨r, e, q.mono (fun v' σ2 hq => ⟨hq.1, hq.2.1, hq.2.2, Eqs.nil⟩)⟩
  rcases List.mem_cons.mp f2 with rfl | f2
  · obtain ⟨r, e, q⟩ := pair_i (E := E) (z := 330) (o1 := 0) (o2 := 110) (m := ctM_copy_14) (ar := ctH_copy.ar.tail) (a := v9_6) (kn := kn_copy_14) (kn' := knE_copy_14) cM_copy_14 rfl rfl rfl (by decide +kernel) f4 f5 k2 f3 rfl
    exact ⟨r, e, q.mono (fun v' σ2 hq => ⟨hq.1, hq.2.1, hq.2.2, Eqs.nil⟩)⟩
  rcases List.mem_cons.mp f2 with rfl | f2
  · obtain ⟨r, e, q⟩ := pair_i (E := E) (z := 330) (o1 := 0) (o2 := 110) (m := ctM_copy_15) (ar := ctH_copy.ar.tail) (a := .c (-12)) (kn := kn_copy_15) (kn' := knE_copy_15) cM_copy_15 rfl rfl rfl (by decide +kernel) f4 f5 k2 f3 rfl
    exact ⟨r, e, q.mono (fun v' σ2 hq => ⟨hq.1, hq.2.1, hq.2.2, Eqs.nil⟩)⟩
  rcases List.mem_cons.mp f2 with rfl | f2
  · obtain ⟨r, e, q⟩ := pair_i (E := E) (z := 330) (o1 := 0) (o2 := 110) (m := ctM_copy_16) (ar := ctH_copy.ar.tail) (a := .c (-12)) (kn := kn_copy_16) (kn' := knE_copy_16) cM_copy_16 rfl rfl rfl (by decide +kernel) f4 f5 k2 f3 rfl
    exact ⟨r, e, q.mono (fun v' σ2 hq => ⟨hq.1, hq.2.1, hq.2.2, Eqs.nil⟩)⟩
  rcases List.mem_cons.mp f2 with rfl | f2
  · obtain ⟨r, e, q⟩ := pair_i (E := E) (z := 330) (o1 := 0) (o2 := 110) (m := ctM_copy_17) (ar := ctH_copy.ar.tail) (a := .c (-12)) (kn := kn_copy_17) (kn' := knE_copy_17) cM_copy_17 rfl rfl rfl (by decide +kernel) f4 f5 k2 f3 rfl
    exact ⟨r, e, q.mono (fun v' σ2 hq => ⟨hq.1, hq.2.1, hq.2.2, Eqs.nil⟩)⟩
  rcases List.mem_cons.mp f2 with rfl | f2
  · obtain ⟨r, e, q⟩ := pair_i (E := E) (z := 330) (o1 := 0) (o2 := 110) (m := ctM_copy_18) (ar := ctH_copy.ar.tail) (a := .c (-12)) (kn := kn_copy_18) (kn' := knE_copy_18) cM_copy_18 rfl rfl rfl (by decide +kernel) f4 f5 k2 f3 rfl
    exact ⟨r, e, q.mono (fun v' σ2 hq => ⟨hq.1, hq.2.1, hq.2.2, Eqs.nil⟩)⟩
  rcases List.mem_cons.mp f2 with rfl | f2
  · obtain ⟨r, e, q⟩ := pair_i (E := E) (z := 330) (o1 := 0) (o2 := 110) (m := ctM_copy_19) (ar := ctH_copy.ar.tail) (a := .c (-12)) (kn := kn_copy_19) (kn' := knE_copy_19) cM_copy_19 rfl rfl rfl (by decide +kernel) f4 f5 k2 f3 rfl
    exact ⟨r, e, q.mono (fun v' σ2 hq => ⟨hq.1, hq.2.1, hq.2.2, Eqs.nil⟩)⟩
  rcases List.mem_cons.mp f2 with rfl | f2
  · obtain ⟨r, e, q⟩ := pair_i (E := E) (z := 330) (o1 := 0) (o2 := 110) (m := ctM_copy_20) (ar := ctH_copy.ar.tail) (a := .c (-12)) (kn := kn_copy_20) (kn' := knE_copy_20) cM_copy_20 rfl rfl rfl (by decide +kernel) f4 f5 k2 f3 rfl
    exact ⟨r, e, q.mono (fun v' σ2 hq => ⟨hq.1, hq.2.1, hq.2.2, Eqs.nil⟩)⟩
  rcases List.mem_cons.mp f2 with rfl | f2
  · obtain ⟨r, e, q⟩ := pair_i (E := E) (z := 330) (o1 := 0) (o2 := 110) (m := ctM_copy_21) (ar := ctH_copy.ar.tail) (a := .c (-12)) (kn := kn_copy_21) (kn' := knE_copy_21) cM_copy_21 rfl rfl rfl (by decide +kernel) f4 f5 k2 f3 rfl
    exact ⟨r, e, q.mono (fun v' σ2 hq => ⟨hq.1, hq.2.1, hq.2.2, Eqs.nil⟩)⟩
  rcases List.mem_cons.mp f2 with rfl | f2
  · obtain ⟨r, e, q⟩ := pair_i (E := E) (z := 330) (o1 := 0) (o2 := 110) (m := ctM_copy_22) (ar := ctH_copy.ar.tail) (a := .c (-14)) (kn := kn_copy_22) (kn' := knE_copy_22) cM_copy_22 rfl rfl rfl (by decide +kernel) f4 f5 k2 f3 rfl
    exact ⟨r, e, q.mono (fun v' σ2 hq => ⟨hq.1, hq.2.1, hq.2.2, Eqs.nil⟩)⟩
  rcases List.mem_cons.mp f2 with rfl | f2
  · obtain ⟨r, e, q⟩ := pair_i (E := E) (z := 330) (o1 := 0) (o2 := 110) (m := ctM_copy_23) (ar := ctH_copy.ar.tail) (a := .c (-11)) (kn := kn_copy_23) (kn' := knE_copy_23) cM_copy_23 rfl rfl rfl (by decide +kernel) f4 f5 k2 f3 rfl
    exact ⟨r, e, q.mono (fun v' σ2 hq => ⟨hq.1, hq.2.1, hq.2.2, Eqs.nil⟩)⟩
  rcases List.mem_cons.mp f2 with rfl | f2
  · obtain ⟨r, e, q⟩ := pair_i (E := E) (z := 330) (o1 := 0) (o2 := 110) (m := ctM_copy_24) (ar := ctH_copy.ar.tail) (a := .c (-1)) (kn := kn_copy_24) (kn' := knE_copy_24) cM_copy_24 rfl rfl rfl (by decide +kernel) f4 f5 k2 f3 rfl
    exact ⟨r, e, q.mono (fun v' σ2 hq => ⟨hq.1, hq.2.1, hq.2.2, Eqs.nil⟩)⟩
  rcases List.mem_cons.mp f2 with rfl | f2
  · obtain ⟨r, e, q⟩ := pair_i (E := E) (z := 330) (o1 := 0) (o2 := 110) (m := ctM_copy_25) (ar := ctH_copy.ar.tail) (a := .c (-1)) (kn := kn_copy_25) (kn' := knE_copy_25) cM_copy_25 rfl rfl rfl (by decide +kernel) f4 f5 k2 f3 rfl
    exact ⟨r, e, q.mono (fun v' σ2 hq => ⟨hq.1, hq.2.1, hq.2.2, Eqs.nil⟩)⟩
  rcases List.mem_cons.mp f2 with rfl | f2
  · obtain ⟨r, e, q⟩ := pair_i (E := E) (z := 330) (o1 := 0) (o2 := 110) (m := ctM_copy_26) (ar := ctH_copy.ar.tail) (a := .c (-1)) (kn := kn_copy_26) (kn' := knE_copy_26) cM_copy_26 rfl rfl rfl (by decide +kernel) f4 f5 k2 f3 rfl
    exact ⟨r, e, q.mono (fun v' σ2 hq => ⟨hq.1, hq.2.1, hq.2.2, Eqs.nil⟩)⟩
  rcases List.mem_cons.mp f2 with rfl | f2
  · obtain ⟨r, e, q⟩ := pair_i (E := E) (z := 330) (o1 := 0) (o2 := 110) (m := ctM_copy_27) (ar := ctH_copy.ar.tail) (a := .c (-1)) (kn := kn_copy_27) (kn' := knE_copy_27) cM_copy_27 rfl rfl rfl (by decide +kernel) f4 f5 k2 f3 rfl
    exact ⟨r, e, q.mono (fun v' σ2 hq => ⟨hq.1, hq.2.1, hq.2.2, Eqs.nil⟩)⟩
  rcases List.mem_cons.mp f2 with rfl | f2
  · obtain ⟨r, e, q⟩ := pair_i (E := E) (z := 330) (o1 := 0) (o2 := 110) (m := ctM_copy_28) (ar := ctH_copy.ar.tail) (a := .c (-1)) (kn := kn_copy_28) (kn' := knE_copy_28) cM_copy_28 rfl rfl rfl (by decide +kernel) f4 f5 k2 f3 rfl
    exact ⟨r, e, q.mono (fun v' σ2 hq => ⟨hq.1, hq.2.1, hq.2.2, Eqs.nil⟩)⟩
  rcases List.mem_cons.mp f2 with rfl | f2
  · obtain ⟨r, e, q⟩ := pair_i (E := E) (z := 330) (o1 := 0) (o2 := 110) (m := ctM_copy_29) (ar := ctH_copy.ar.tail) (a := .c (-1)) (kn := kn_copy_29) (kn' := knE_copy_29) cM_copy_29 rfl rfl rfl (by decide +kernel) f4 f5 k2 f3 rfl
    exact ⟨r, e, q.mono (fun v' σ2 hq => ⟨hq.1, hq.2.1, hq.2.2, Eqs.nil⟩)⟩
  rcases List.mem_cons.mp f2 with rfl | f2
  · obtain ⟨r, e, q⟩ := pair_i (E := E) (z := 330) (o1 := 0) (o2 := 110) (m := ctM_copy_30) (ar := ctH_copy.ar.tail) (a := .c (-11)) (kn := kn_copy_30) (kn' := knE_copy_30) cM_copy_30 rfl rfl rfl (by decide +kernel) f4 f5 k2 f3 rfl
    exact ⟨r, e, q.mono (fun v' σ2 hq => ⟨hq.1, hq.2.1, hq.2.2, Eqs.nil⟩)⟩
  rcases List.mem_cons.mp f2 with rfl | f2
  · obtain ⟨r, e, q⟩ := pair_i (E := E) (z := 330) (o1 := 0) (o2 := 110) (m := ctM_copy_31) (ar := ctH_copy.ar.tail) (a := .c (-14)) (kn := kn_copy_31) (kn' := knE_copy_31) cM_copy_31 rfl rfl rfl (by decide +kernel) f4 f5 k2 f3 rfl
    exact ⟨r, e, q.mono (fun v' σ2 hq => ⟨hq.1, hq.2.1, hq.2.2, Eqs.nil⟩)⟩
  rcases List.mem_cons.mp f2 with rfl | f2
  · obtain ⟨r, e, q⟩ := pair_i (E := E) (z := 330) (o1 := 0) (o2 := 110) (m := ctM_copy_32) (ar := ctH_copy.ar.tail) (a := v9_6) (kn := kn_copy_32) (kn' := knE_copy_32) cM_copy_32 rfl rfl rfl (by decide +kernel) f4 f5 k2 f3 rfl
    exact ⟨r, e, q.mono (fun v' σ2 hq => ⟨hq.1, hq.2.1, hq.2.2, Eqs.nil⟩)⟩
  rcases List.mem_cons.mp f2 with rfl | f2
  · obtain ⟨r, e, q⟩ := pair_i (E := E) (z := 330) (o1 := 0) (o2 := 110) (m := ctM_copy_33) (ar := ctH_copy.ar.tail) (a := .c (-12)) (kn := kn_copy_33) (kn' := knE_copy_33) cM_copy_33 rfl rfl rfl (by decide +kernel) f4 f5 k2 f3 rfl
    exact ⟨r, e, q.mono (fun v' σ2 hq => ⟨hq.1, hq.2.1, hq.2.2, Eqs.nil⟩)⟩
  rcases List.mem_cons.mp f2 with rfl | f2
  · obtain ⟨r, e, q⟩ := pair_i (E := E) (z := 330) (o1 := 0) (o2 := 110) (m := ctM_copy_34) (ar := ctH_copy.ar.tail) (a := .c (-12)) (kn := kn_copy_34) (kn' := knE_copy_34) cM_copy_34 rfl rfl rfl (by decide +kernel) f4 f5 k2 f3 rfl
    exact ⟨r, e, q.mono (fun v' σ2 hq => ⟨hq.1, hq.2.1, hq.2.2, Eqs.nil⟩)⟩
  rcases List.mem_cons.mp f2 with rfl | f2
  · obtain ⟨r, e, q⟩ := pair_i (E := E) (z := 330) (o1 := 0) (o2 := 110) (m := ctM_copy_35) (ar := ctH_copy.ar.tail) (a := .c (-12)) (kn := kn_copy_35) (kn' := knE_copy_35) cM_copy_35 rfl rfl rfl (by decide +kernel) f4 f5 k2 f3 rfl
    exact ⟨r, e, q.mono (fun v' σ2 hq => ⟨hq.1, hq.2.1, hq.2.2, Eqs.nil⟩)⟩
  rcases List.mem_cons.mp f2 with rfl | f2
  · obtain ⟨r, e, q⟩ := pair_i (E := E) (z := 330) (o1 := 0) (o2 := 110) (m := ctM_copy_36) (ar := ctH_copy.ar.tail) (a := .c (-12)) (kn := kn_copy_36) (kn' := knE_copy_36) cM_copy_36 rfl rfl rfl (by decide +kernel) f4 f5 k2 f3 rfl
    exact ⟨r, e, q.mono (fun v' σ2 hq => ⟨hq.1, hq.2.1, hq.2.2, Eqs.nil⟩)⟩
  rcases List.mem_cons.mp f2 with rfl | f2
  · obtain ⟨r, e, q⟩ := pair_i (E := E) (z := 330) (o1 := 0) (o2 := 110) (m := ctM_copy_37) (ar := ctH_copy.ar.tail) (a := .c (-12)) (kn := kn_copy_37) (kn' := knE_copy_37) cM_copy_37 rfl rfl rfl (by decide +kernel) f4 f5 k2 f3 rfl
    exact ⟨r, e, q.mono (fun v' σ2 hq => ⟨hq.1, hq.2.1, hq.2.2, Eqs.nil⟩)⟩
  rcases List.mem_cons.mp f2 with rfl | f2
  · obtain ⟨r, e, q⟩ := pair_i (E := E) (z := 330) (o1 := 0) (o2 := 110) (m := ctM_copy_38) (ar := ctH_copy.ar.tail) (a := .c (-12)) (kn := kn_copy_38) (kn' := knE_copy_38) cM_copy_38 rfl rfl rfl (by decide +kernel) f4 f5 k2 f3 rfl
    exact ⟨r, e, q.mono (fun v' σ2 hq => ⟨hq.1, hq.2.1, hq.2.2, Eqs.nil⟩)⟩
  rcases List.mem_cons.mp f2 with rfl | f2
  · obtain ⟨r, e, q⟩ := pair_i (E := E) (z := 330) (o1 := 0) (o2 := 110) (m := ctM_copy_39) (ar := ctH_copy.ar.tail) (a := .c (-12)) (kn := kn_copy_39) (kn' := knE_copy_39) cM_copy_39 rfl rfl rfl (by decide +kernel) f4 f5 k2 f3 rfl
    exact ⟨r, e, q.mono (fun v' σ2 hq => ⟨hq.1, hq.2.1, hq.2.2, Eqs.nil⟩)⟩
  rcases List.mem_cons.mp f2 with rfl | f2
  · obtain ⟨r, e, q⟩ := pair_i (E := E) (z := 330) (o1 := 0) (o2 := 110) (m := ctM_copy_40) (ar := ctH_copy.ar.tail) (a := .c (-14)) (kn := kn_copy_40) (kn' := knE_copy_40) cM_copy_40 rfl rfl rfl (by decide +kernel) f4 f5 k2 f3 rfl
    exact ⟨r, e, q.mono (fun v' σ2 hq => ⟨hq.1, hq.2.1, hq.2.2, Eqs.nil⟩)⟩
  rcases List.mem_cons.mp f2 with rfl | f2
  · obtain ⟨r, e, q⟩ := pair_i (E := E) (z := 330) (o1 := 0) (o2 := 110) (m := ctM_copy_41) (ar := ctH_copy.ar.tail) (a := .c (-11)) (kn := kn_copy_41) (kn' := knE_copy_41) cM_copy_41 rfl rfl rfl (by decide +kernel) f4 f5 k2 f3 rfl
    exact ⟨r, e, q.mono (fun v' σ2 hq => ⟨hq.1, hq.2.1, hq.2.2, Eqs.nil⟩)⟩
  rcases List.mem_cons.mp f2 with rfl | f2
  · obtain ⟨r, e, q⟩ := pair_i (E := E) (z := 330) (o1 := 0) (o2 := 110) (m := ctM_copy_42) (ar := ctH_copy.ar.tail) (a := .c (-11)) (kn := kn_copy_42) (kn' := knE_copy_42) cM_copy_42 rfl rfl rfl (by decide +kernel) f4 f5 k2 f3 rfl
    exact ⟨r, e, q.mono (fun v' σ2 hq => ⟨hq.1, hq.2.1, hq.2.2, Eqs.nil⟩)⟩
  rcases List.mem_cons.mp f2 with rfl | f2
  · obtain ⟨r, e, q⟩ := pair_i (E := E) (z := 330) (o1 := 0) (o2 := 110) (m := ctM_copy_43) (ar := ctH_copy.ar.tail) (a := .c (-14)) (kn := kn_copy_43) (kn' := knE_copy_43) cM_copy_43 rfl rfl rfl (by decide +kernel) f4 f5 k2 f3 rfl
    exact ⟨r, e, q.mono (fun v' σ2 hq => ⟨hq.1, hq.2.1, hq.2.2, Eqs.nil⟩)⟩
  rcases List.mem_cons.mp f2 with rfl | f2
  · obtain ⟨r, e, q⟩ := pair_i (E := E) (z := 330) (o1 := 0) (o2 := 110) (m := ctM_copy_44) (ar := ctH_copy.ar.tail) (a := v9_6) (kn := kn_copy_44) (kn' := knE_copy_44) cM_copy_44 rfl rfl rfl (by decide +kernel) f4 f5 k2 f3 rfl
    exact ⟨r, e, q.mono (fun v' σ2 hq => ⟨hq.1, hq.2.1, hq.2.2, Eqs.nil⟩)⟩
  rcases List.mem_cons.mp f2 with rfl | f2
  · obtain ⟨r, e, q⟩ := pair_i (E := E) (z := 330) (o1 := 0) (o2 := 110) (m := ctM_copy_45) (ar := ctH_copy.ar.tail) (a := .c (-12)) (kn := kn_copy_45) (kn' := knE_copy_45) cM_copy_45 rfl rfl rfl (by decide +kernel) f4 f5 k2 f3 rfl
    exact ⟨r, e, q.mono (fun v' σ2 hq => ⟨hq.1, hq.2.1, hq.2.2, Eqs.nil⟩)⟩
  rcases List.mem_cons.mp f2 with rfl | f2
  · obtain ⟨r, e, q⟩ := pair_i (E := E) (z := 330) (o1 := 0) (o2 := 110) (m := ctM_copy_46) (ar := ctH_copy.ar.tail) (a := .c (-12)) (kn := kn_copy_46) (kn' := knE_copy_46) cM_copy_46 rfl rfl rfl (by decide +kernel) f4 f5 k2 f3 rfl
    exact ⟨r, e, q.mono (fun v' σ2 hq => ⟨hq.1, hq.2.1, hq.2.2, Eqs.nil⟩)⟩
  rcases List.mem_cons.mp f2 with rfl | f2
  · obtain ⟨r, e, q⟩ := pair_i (E := E) (z := 330) (o1 := 0) (o2 := 110) (m := ctM_copy_47) (ar := ctH_copy.ar.tail) (a := .c (-12)) (kn := kn_copy_47) (kn' := knE_copy_47) cM_copy_47 rfl rfl rfl (by decide +kernel) f4 f5 k2 f3 rfl
    exact ⟨r, e, q.mono (fun v' σ2 hq => ⟨hq.1, hq.2.1, hq.2.2, Eqs.nil⟩)⟩
  rcases List.mem_cons.mp f2 with rfl | f2
  · obtain ⟨r, e, q⟩ := pair_i (E := E) (z := 330) (o1 := 0) (o2 := 110) (m := ctM_copy_48) (ar := ctH_copy.ar.tail) (a := .c (-12)) (kn := kn_copy_48) (kn' := knE_copy_48) cM_copy_48 rfl rfl rfl (by decide +kernel) f4 f5 k2 f3 rfl
    exact ⟨r, e, q.mono (fun v' σ2 hq => ⟨hq.1, hq.2.1, hq.2.2, Eqs.nil⟩)⟩
  rcases List.mem_cons.mp f2 with rfl | f2
  · obtain ⟨r, e, q⟩ := pair_i (E := E) (z := 330) (o1 := 0) (o2 := 110) (m := ctM_copy_49) (ar := ctH_copy.ar.tail) (a := .c (-12)) (kn := kn_copy_49) (kn' := knE_copy_49) cM_copy_49 rfl rfl rfl (by decide +kernel) f4 f5 k2 f3 rfl
    exact ⟨r, e, q.mono (fun v' σ2 hq => ⟨hq.1, hq.2.1, hq.2.2, Eqs.nil⟩)⟩
  rcases List.mem_cons.mp f2 with rfl | f2
  · obtain ⟨r, e, q⟩ := pair_i (E := E) (z := 330) (o1 := 0) (o2 := 110) (m := ctM_copy_50) (ar := ctH_copy.ar.tail) (a := .c (-12)) (kn := kn_copy_50) (kn' := knE_copy_50) cM_copy_50 rfl rfl rfl (by decide +kernel) f4 f5 k2 f3 rfl
    exact ⟨r, e, q.mono (fun v' σ2 hq => ⟨hq.1, hq.2.1, hq.2.2, Eqs.nil⟩)⟩
  rcases List.mem_cons.mp f2 with rfl | f2
  · obtain ⟨r, e, q⟩ := pair_i (E := E) (z := 330) (o1 := 0) (o2 := 110) (m := ctM_copy_51) (ar := ctH_copy.ar.tail) (a := .c (-12)) (kn := kn_copy_51) (kn' := knE_copy_51) cM_copy_51 rfl rfl rfl (by decide +kernel) f4 f5 k2 f3 rfl
    exact ⟨r, e, q.mono (fun v' σ2 hq => ⟨hq.1, hq.2.1, hq.2.2, Eqs.nil⟩)⟩
  rcases List.mem_cons.mp f2 with rfl | f2
  · obtain ⟨r, e, q⟩ := pair_i (E := E) (z := 330) (o1 := 0) (o2 := 110) (m := ctM_copy_52) (ar := ctH_copy.ar.tail) (a := .c (-14)) (kn := kn_copy_52) (kn' := knE_copy_52) cM_copy_52 rfl rfl rfl (by decide +kernel) f4 f5 k2 f3 rfl
    exact ⟨r, e, q.mono (fun v' σ2 hq => ⟨hq.1, hq.2.1, hq.2.2, Eqs.nil⟩)⟩
  rcases List.mem_cons.mp f2 with rfl | f2
  · obtain ⟨r, e, q⟩ := pair_i (E := E) (z := 330) (o1 := 0) (o2 := 110) (m := ctM_copy_53) (ar := ctH_copy.ar.tail) (a := .c (-11)) (kn := kn_copy_53) (kn' := knE_copy_53) cM_copy_53 rfl rfl rfl (by decide +kernel) f4 f5 k2 f3 rfl
    exact ⟨r, e, q.mono (fun v' σ2 hq => ⟨hq.1, hq.2.1, hq.2.2, Eqs.nil⟩)⟩
  rcases List.mem_cons.mp f2 with rfl | f2
  · obtain ⟨r, e, q⟩ := pair_i (E := E) (z := 330) (o1 := 0) (o2 := 110) (m := ctM_copy_54) (ar := ctH_copy.ar.tail) (a := .c (-1)) (kn := kn_copy_54) (kn' := knE_copy_54) cM_copy_54 rfl rfl rfl (by decide +kernel) f4 f5 k2 f3 rfl
    exact ⟨r, e, q.mono (fun v' σ2 hq => ⟨hq.1, hq.2.1, hq.2.2, Eqs.nil⟩)⟩
  rcases List.mem_cons.mp f2 with rfl | f2
  · obtain ⟨r, e, q⟩ := pair_i (E := E) (z := 330) (o1 := 0) (o2 := 110) (m := ctM_copy_55) (ar := ctH_copy.ar.tail) (a := .c (-1)) (kn := kn_copy_55) (kn' := knE_copy_55) cM_copy_55 rfl rfl rfl (by decide +kernel) f4 f5 k2 f3 rfl
    exact ⟨r, e, q.mono (fun v' σ2 hq => ⟨hq.1, hq.2.1, hq.2.2, Eqs.nil⟩)⟩
  rcases List.mem_cons.mp f2 with rfl | f2
  · obtain ⟨r, e, q⟩ := pair_i (E := E) (z := 330) (o1 := 0) (o2 := 110) (m := ctM_copy_56) (ar := ctH_copy.ar.tail) (a := .c (-1)) (kn := kn_copy_56) (kn' := knE_copy_56) cM_copy_56 rfl rfl rfl (by decide +kernel) f4 f5 k2 f3 rfl
    exact ⟨r, e, q.mono (fun v' σ2 hq => ⟨hq.1, hq.2.1, hq.2.2, Eqs.nil⟩)⟩
  rcases List.mem_cons.mp f2 with rfl | f2
  · obtain ⟨r, e, q⟩ := pair_i (E := E) (z := 330) (o1 := 0) (o2 := 110) (m := ctM_copy_57) (ar := ctH_copy.ar.tail) (a := .c (-1)) (kn := kn_copy_57) (kn' := knE_copy_57) cM_copy_57 rfl rfl rfl (by decide +kernel) f4 f5 k2 f3 rfl
    exact ⟨r, e, q.mono (fun v' σ2 hq => ⟨hq.1, hq.2.1, hq.2.2, Eqs.nil⟩)⟩
  rcases List.mem_cons.mp f2 with rfl | f2
  · obtain ⟨r, e, q⟩ := pair_i (E := E) (z := 330) (o1 := 0) (o2 := 110) (m := ctM_copy_58) (ar := ctH_copy.ar.tail) (a := .c (-1)) (kn := kn_copy_58) (kn' := knE_copy_58) cM_copy_58 rfl rfl rfl (by decide +kernel) f4 f5 k2 f3 rfl
    exact ⟨r, e, q.mono (fun v' σ2 hq => ⟨hq.1, hq.2.1, hq.2.2, Eqs.nil⟩)⟩
  rcases List.mem_cons.mp f2 with rfl | f2
  · obtain ⟨r, e, q⟩ := pair_i (E := E) (z := 330) (o1 := 0) (o2 := 110) (m := ctM_copy_59) (ar := ctH_copy.ar.tail) (a := .c (-1)) (kn := kn_copy_59) (kn' := knE_copy_59) cM_copy_59 rfl rfl rfl (by decide +kernel) f4 f5 k2 f3 rfl
    exact ⟨r, e, q.mono (fun v' σ2 hq => ⟨hq.1, hq.2.1, hq.2.2, Eqs.nil⟩)⟩
  rcases List.mem_cons.mp f2 with rfl | f2
  · obtain ⟨r, e, q⟩ := pair_i (E := E) (z := 330) (o1 := 0) (o2 := 110) (m := ctM_copy_60) (ar := ctH_copy.ar.tail) (a := .c (-1)) (kn := kn_copy_60) (kn' := knE_copy_60) cM_copy_60 rfl rfl rfl (by decide +kernel) f4 f5 k2 f3 rfl
    exact ⟨r, e, q.mono (fun v' σ2 hq => ⟨hq.1, hq.2.1, hq.2.2, Eqs.nil⟩)⟩
  rcases List.mem_cons.mp f2 with rfl | f2
  · obtain ⟨r, e, q⟩ := pair_i (E := E) (z := 330) (o1 := 0) (o2 := 110) (m := ctM_copy_61) (ar := ctH_copy.ar.tail) (a := .c (-1)) (kn := kn_copy_61) (kn' := knE_copy_61) cM_copy_61 rfl rfl rfl (by decide +kernel) f4 f5 k2 f3 rfl
    exact ⟨r, e, q.mono (fun v' σ2 hq => ⟨hq.1, hq.2.1, hq.2.2, Eqs.nil⟩)⟩
  rcases List.mem_cons.mp f2 with rfl | f2
  · obtain ⟨r, e, q⟩ := pair_i (E := E) (z := 330) (o1 := 0) (o2 := 110) (m := ctM_copy_62) (ar := ctH_copy.ar.tail) (a := .c (-1)) (kn := kn_copy_62) (kn' := knE_copy_62) cM_copy_62 rfl rfl rfl (by decide +kernel) f4 f5 k2 f3 rfl
    exact ⟨r, e, q.mono (fun v' σ2 hq => ⟨hq.1, hq.2.1, hq.2.2, Eqs.nil⟩)⟩
  rcases List.mem_cons.mp f2 with rfl | f2
  · obtain ⟨r, e, q⟩ := pair_i (E := E) (z := 330) (o1 := 0) (o2 := 110) (m := ctM_copy_63) (ar := ctH_copy.ar.tail) (a := .c (-1)) (kn := kn_copy_63) (kn' := knE_copy_63) cM_copy_63 rfl rfl rfl (by decide +kernel) f4 f5 k2 f3 rfl
    exact ⟨r, e, q.mono (fun v' σ2 hq => ⟨hq.1, hq.2.1, hq.2.2, Eqs.nil⟩)⟩
  rcases List.mem_cons.mp f2 with rfl | f2
  · obtain ⟨r, e, q⟩ := pair_i (E := E) (z := 330) (o1 := 0) (o2 := 110) (m := ctM_copy_64) (ar := ctH_copy.ar.tail) (a := .c (-1)) (kn := kn_copy_64) (kn' := knE_copy_64) cM_copy_64 rfl rfl rfl (by decide +kernel) f4 f5 k2 f3 rfl
    exact ⟨r, e, q.mono (fun v' σ2 hq => ⟨hq.1, hq.2.1, hq.2.2, Eqs.nil⟩)⟩
  rcases List.mem_cons.mp f2 with rfl | f2
  · obtain ⟨r, e, q⟩ := pair_i (E := E) (z := 330) (o1 := 0) (o2 := 110) (m := ctM_copy_65) (ar := ctH_copy.ar.tail) (a := .c (-1)) (kn := kn_copy_65) (kn' := knE_copy_65) cM_copy_65 rfl rfl rfl (by decide +kernel) f4 f5 k2 f3 rfl
    exact ⟨r, e, q.mono (fun v' σ2 hq => ⟨hq.1, hq.2.1, hq.2.2, Eqs.nil⟩)⟩
  rcases List.mem_cons.mp f2 with rfl | f2
  · obtain ⟨r, e, q⟩ := pair_i (E := E) (z := 330) (o1 := 0) (o2 := 110) (m := ctM_copy_66) (ar := ctH_copy.ar.tail) (a := .c (-1)) (kn := kn_copy_66) (kn' := knE_copy_66) cM_copy_66 rfl rfl rfl (by decide +kernel) f4 f5 k2 f3 rfl
    exact ⟨r, e, q.mono (fun v' σ2 hq => ⟨hq.1, hq.2.1, hq.2.2, Eqs.nil⟩)⟩
  rcases List.mem_cons.mp f2 with rfl | f2
  · obtain ⟨r, e, q⟩ := pair_i (E := E) (z := 330) (o1 := 0) (o2 := 110) (m := ctM_copy_67) (ar := ctH_copy.ar.tail) (a := .c (-1)) (kn := kn_copy_67) (kn' := knE_copy_67) cM_copy_67 rfl rfl rfl (by decide +kernel) f4 f5 k2 f3 rfl
    exact ⟨r, e, q.mono (fun v' σ2 hq => ⟨hq.1, hq.2.1, hq.2.2, Eqs.nil⟩)⟩
  rcases List.mem_cons.mp f2 with rfl | f2
  · obtain ⟨r, e, q⟩ := pair_i (E := E) (z := 330) (o1 := 0) (o2 := 110) (m := ctM_copy_68) (ar := ctH_copy.ar.tail) (a := .c (-1)) (kn := kn_copy_68) (kn' := knE_copy_68) cM_copy_68 rfl rfl rfl (by decide +kernel) f4 f5 k2 f3 rfl
    exact ⟨r, e, q.mono (fun v' σ2 hq => ⟨hq.1, hq.2.1, hq.2.2, Eqs.nil⟩)⟩
  rcases List.mem_cons.mp f2 with rfl | f2
  · obtain ⟨r, e, q⟩ := pair_i (E := E) (z := 330) (o1 := 0) (o2 := 110) (m := ctM_copy_69) (ar := ctH_copy.ar.tail) (a := .c (-1)) (kn := kn_copy_69) (kn' := knE_copy_69) cM_copy_69 rfl rfl rfl (by decide +kernel) f4 f5 k2 f3 rfl
    exact ⟨r, e, q.mono (fun v' σ2 hq => ⟨hq.1, hq.2.1, hq.2.2, Eqs.nil⟩)⟩
  rcases List.mem_cons.mp f2 with rfl | f2
  · obtain ⟨r, e, q⟩ := pair_i (E := E) (z := 330) (o1 := 0) (o2 := 110) (m := ctM_copy_70) (ar := ctH_copy.ar.tail) (a := .c (-1)) (kn := kn_copy_70) (kn' := knE_copy_70) cM_copy_70 rfl rfl rfl (by decide +kernel) f4 f5 k2 f3 rfl
    exact ⟨r, e, q.mono (fun v' σ2 hq => ⟨hq.1, hq.2.1, hq.2.2, Eqs.nil⟩)⟩
  rcases List.mem_cons.mp f2 with rfl | f2
  · obtain ⟨r, e, q⟩ := pair_i (E := E) (z := 330) (o1 := 0) (o2 := 110) (m := ctM_copy_71) (ar := ctH_copy.ar.tail) (a := .c (-1)) (kn := kn_copy_71) (kn' := knE_copy_71) cM_copy_71 rfl rfl rfl (by decide +kernel) f4 f5 k2 f3 rfl
    exact ⟨r, e, q.mono (fun v' σ2 hq => ⟨hq.1, hq.2.1, hq.2.2, Eqs.nil⟩)⟩
  rcases List.mem_cons.mp f2 with rfl | f2
  · obtain ⟨r, e, q⟩ := pair_i (E := E) (z := 330) (o1 := 0) (o2 := 110) (m := ctM_copy_72) (ar := ctH_copy.ar.tail) (a := .c (-1)) (kn := kn_copy_72) (kn' := knE_copy_72) cM_copy_72 rfl rfl rfl (by decide +kernel) f4 f5 k2 f3 rfl
    exact ⟨r, e, q.mono (fun v' σ2 hq => ⟨hq.1, hq.2.1, hq.2.2, Eqs.nil⟩)⟩
  rcases List.mem_cons.mp f2 with rfl | f2
  · obtain ⟨r, e, q⟩ := pair_i (E := E) (z := 330) (o1 := 0) (o2 := 110) (m := ctM_copy_73) (ar := ctH_copy.ar.tail) (a := .c (-1)) (kn := kn_copy_73) (kn' := knE_copy_73) cM_copy_73 rfl rfl rfl (by decide +kernel) f4 f5 k2 f3 rfl
    exact ⟨r, e, q.mono (fun v' σ2 hq => ⟨hq.1, hq.2.1, hq.2.2, Eqs.nil⟩)⟩
  rcases List.mem_cons.mp f2 with rfl | f2
  · obtain ⟨r, e, q⟩ := pair_i (E := E) (z := 330) (o1 := 0) (o2 := 110) (m := ctM_copy_74) (ar := ctH_copy.ar.tail) (a := .c (-1)) (kn := kn_copy_74) (kn' := knE_copy_74) cM_copy_74 rfl rfl rfl (by decide +kernel) f4 f5 k2 f3 rfl
    exact ⟨r, e, q.mono (fun v' σ2 hq => ⟨hq.1, hq.2.1, hq.2.2, Eqs.nil⟩)⟩
  rcases List.mem_cons.mp f2 with rfl | f2
  · obtain ⟨r, e, q⟩ := pair_i (E := E) (z := 330) (o1 := 0) (o2 := 110) (m := ctM_copy_75) (ar := ctH_copy.ar.tail) (a := .c (-1)) (kn := kn_copy_75) (kn' := knE_copy_75) cM_copy_75 rfl rfl rfl (by decide +kernel) f4 f5 k2 f3 rfl
    exact ⟨r, e, q.mono (fun v' σ2 hq => ⟨hq.1, hq.2.1, hq.2.2, Eqs.nil⟩)⟩
  rcases List.mem_cons.mp f2 with rfl | f2
  · obtain ⟨r, e, q⟩ := pair_i (E := E) (z := 330) (o1 := 0) (o2 := 110) (m := ctM_copy_76) (ar := ctH_copy.ar.tail) (a := .c (-1)) (kn := kn_copy_76) (kn' := knE_copy_76) cM_copy_76 rfl rfl rfl (by decide +kernel) f4 f5 k2 f3 rfl
    exact ⟨r, e, q.mono (fun v' σ2 hq => ⟨hq.1, hq.2.1, hq.2.2, Eqs.nil⟩)⟩
  rcases List.mem_cons.mp f2 with rfl | f2
  · obtain ⟨r, e, q⟩ := pair_i (E := E) (z := 330) (o1 := 0) (o2 := 110) (m := ctM_copy_77) (ar := ctH_copy.ar.tail) (a := .c (-1)) (kn := kn_copy_77) (kn' := knE_copy_77) cM_copy_77 rfl rfl rfl (by decide +kernel) f4 f5 k2 f3 rfl
    exact ⟨r, e, q.mono (fun v' σ2 hq => ⟨hq.1, hq.2.1, hq.2.2, Eqs.nil⟩)⟩
  rcases List.mem_cons.mp f2 with rfl | f2
  · obtain ⟨r, e, q⟩ := pair_i (E := E) (z := 330) (o1 := 0) (o2 := 110) (m := ctM_copy_78) (ar := ctH_copy.ar.tail) (a := .c (-1)) (kn := kn_copy_78) (kn' := knE_copy_78) cM_copy_78 rfl rfl rfl (by decide +kernel) f4 f5 k2 f3 rfl
    exact ⟨r, e, q.mono (fun v' σ2 hq => ⟨hq.1, hq.2.1, hq.2.2, Eqs.nil⟩)⟩
  rcases List.mem_cons.mp f2 with rfl | f2
  · obtain ⟨r, e, q⟩ := pair_i (E := E) (z := 330) (o1 := 0) (o2 := 110) (m := ctM_copy_79) (ar := ctH_copy.ar.tail) (a := .c (-1)) (kn := kn_copy_79) (kn' := knE_copy_79) cM_copy_79 rfl rfl rfl (by decide +kernel) f4 f5 k2 f3 rfl
    exact ⟨r, e, q.mono (fun v' σ2 hq => ⟨hq.1, hq.2.1, hq.2.2, Eqs.nil⟩)⟩
  rcases List.mem_cons.mp f2 with rfl | f2
  · obtain ⟨r, e, q⟩ := pair_i (E := E) (z := 330) (o1 := 0) (o2 := 110) (m := ctM_copy_80) (ar := ctH_copy.ar.tail) (a := .c (-1)) (kn := kn_copy_80) (kn' := knE_copy_80) cM_copy_80 rfl rfl rfl (by decide +kernel) f4 f5 k2 f3 rfl
    exact ⟨r, e, q.mono (fun v' σ2 hq => ⟨hq.1, hq.2.1, hq.2.2, Eqs.nil⟩)⟩
  rcases List.mem_cons.mp f2 with rfl | f2
  · obtain ⟨r, e, q⟩ := pair_i (E := E) (z := 330) (o1 := 0) (o2 := 110) (m := ctM_copy_81) (ar := ctH_copy.ar.tail) (a := .c (-1)) (kn := kn_copy_81) (kn' := knE_copy_81) cM_copy_81 rfl rfl rfl (by decide +kernel) f4 f5 k2 f3 rfl
    exact ⟨r, e, q.mono (fun v' σ2 hq => ⟨hq.1, hq.2.1, hq.2.2, Eqs.nil⟩)⟩
  rcases List.mem_cons.mp f2 with rfl | f2
  · obtain ⟨r, e, q⟩ := pair_i (E := E) (z := 330) (o1 := 0) (o2 := 110) (m := ctM_copy_82) (ar := ctH_copy.ar.tail) (a := .c (-1)) (kn := kn_copy_82) (kn' := knE_copy_82) cM_copy_82 rfl rfl rfl (by decide +kernel) f4 f5 k2 f3 rfl
    exact ⟨r, e, q.mono (fun v' σ2 hq => ⟨hq.1, hq.2.1, hq.2.2, Eqs.nil⟩)⟩
  rcases List.mem_cons.mp f2 with rfl | f2
  · obtain ⟨r, e, q⟩ := pair_i (E := E) (z := 330) (o1 := 0) (o2 := 110) (m := ctM_copy_83) (ar := ctH_copy.ar.tail) (a := .c (-1)) (kn := kn_copy_83) (kn' := knE_copy_83) cM_copy_83 rfl rfl rfl (by decide +kernel) f4 f5 k2 f3 rfl
    exact ⟨r, e, q.mono (fun v' σ2 hq => ⟨hq.1, hq.2.1, hq.2.2, Eqs.nil⟩)⟩
  rcases List.mem_cons.mp f2 with rfl | f2
  · obtain ⟨r, e, q⟩ := pair_i (E := E) (z := 330) (o1 := 0) (o2 := 110) (m := ctM_copy_84) (ar := ctH_copy.ar.tail) (a := .c (-1)) (kn := kn_copy_84) (kn' := knE_copy_84) cM_copy_84 rfl rfl rfl (by decide +kernel) f4 f5 k2 f3 rfl
    exact ⟨r, e, q.mono (fun v' σ2 hq => ⟨hq.1, hq.2.1, hq.2.2, Eqs.nil⟩)⟩
  rcases List.mem_cons.mp f2 with rfl | f2
  · obtain ⟨r, e, q⟩ := pair_i (E := E) (z := 330) (o1 := 0) (o2 := 110) (m := ctM_copy_85) (ar := ctH_copy.ar.tail) (a := .c (-1)) (kn := kn_copy_85) (kn' := knE_copy_85) cM_copy_85 rfl rfl rfl (by decide +kernel) f4 f5 k2 f3 rfl
    exact ⟨r, e, q.mono (fun v' σ2 hq => ⟨hq.1, hq.2.1, hq.2.2, Eqs.nil⟩)⟩
  rcases List.mem_cons.mp f2 with rfl | f2
  · obtain ⟨r, e, q⟩ := pair_i (E := E) (z := 330) (o1 := 0) (o2 := 110) (m := ctM_copy_86) (ar := ctH_copy.ar.tail) (a := .c (-1)) (kn := kn_copy_86) (kn' := knE_copy_86) cM_copy_86 rfl rfl rfl (by decide +kernel) f4 f5 k2 f3 rfl
    exact ⟨r, e, q.mono (fun v' σ2 hq => ⟨hq.1, hq.2.1, hq.2.2, Eqs.nil⟩)⟩
  rcases List.mem_cons.mp f2 with rfl | f2
  · obtain ⟨r, e, q⟩ := pair_i (E := E) (z := 330) (o1 := 0) (o2 := 110) (m := ctM_copy_87) (ar := ctH_copy.ar.tail) (a := .c (-1)) (kn := kn_copy_87) (kn' := knE_copy_87) cM_copy_87 rfl rfl rfl (by decide +kernel) f4 f5 k2 f3 rfl
    exact ⟨r, e, q.mono (fun v' σ2 hq => ⟨hq.1, hq.2.1, hq.2.2, Eqs.nil⟩)⟩
  rcases List.mem_cons.mp f2 with rfl | f2
  · obtain ⟨r, e, q⟩ := pair_i (E := E) (z := 330) (o1 := 0) (o2 := 110) (m := ctM_copy_88) (ar := ctH_copy.ar.tail) (a := .c (-1)) (kn := kn_copy_88) (kn' := knE_copy_88) cM_copy_88 rfl rfl rfl (by decide +kernel) f4 f5 k2 f3 rfl
    exact ⟨r, e, q.mono (fun v' σ2 hq => ⟨hq.1, hq.2.1, hq.2.2, Eqs.nil⟩)⟩
  rcases List.mem_cons.mp f2 with rfl | f2
  · obtain ⟨r, e, q⟩ := pair_i (E := E) (z := 330) (o1 := 0) (o2 := 110) (m := ctM_copy_89) (ar := ctH_copy.ar.tail) (a := .c (-1)) (kn := kn_copy_89) (kn' := knE_copy_89) cM_copy_89 rfl rfl rfl (by decide +kernel) f4 f5 k2 f3 rfl
    exact ⟨r, e, q.mono (fun v' σ2 hq => ⟨hq.1, hq.2.1, hq.2.2, Eqs.nil⟩)⟩
  rcases List.mem_cons.mp f2 with rfl | f2
  · obtain ⟨r, e, q⟩ := pair_i (E := E) (z := 330) (o1 := 0) (o2 := 110) (m := ctM_copy_90) (ar := ctH_copy.ar.tail) (a := .c (-1)) (kn := kn_copy_90) (kn' := knE_copy_90) cM_copy_90 rfl rfl rfl (by decide +kernel) f4 f5 k2 f3 rfl
    exact ⟨r, e, q.mono (fun v' σ2 hq => ⟨hq.1, hq.2.1, hq.2.2, Eqs.nil⟩)⟩
  rcases List.mem_cons.mp f2 with rfl | f2
  · obtain ⟨r, e, q⟩ := pair_i (E := E) (z := 330) (o1 := 0) (o2 := 110) (m := ctM_copy_91) (ar := ctH_copy.ar.tail) (a := .c (-1)) (kn := kn_copy_91) (kn' := knE_copy_91) cM_copy_91 rfl rfl rfl (by decide +kernel) f4 f5 k2 f3 rfl
    exact ⟨r, e, q.mono (fun v' σ2 hq => ⟨hq.1, hq.2.1, hq.2.2, Eqs.nil⟩)⟩
  rcases List.mem_cons.mp f2 with rfl | f2
  · obtain ⟨r, e, q⟩ := pair_i (E := E) (z := 330) (o1 := 0) (o2 := 110) (m := ctM_copy_92) (ar := ctH_copy.ar.tail) (a := .c (-1)) (kn := kn_copy_92) (kn' := knE_copy_92) cM_copy_92 rfl rfl rfl (by decide +kernel) f4 f5 k2 f3 rfl
    exact ⟨r, e, q.mono (fun v' σ2 hq => ⟨hq.1, hq.2.1, hq.2.2, Eqs.nil⟩)⟩
  rcases List.mem_cons.mp f2 with rfl | f2
  · obtain ⟨r, e, q⟩ := pair_i (E := E) (z := 330) (o1 := 0) (o2 := 110) (m := ctM_copy_93) (ar := ctH_copy.ar.tail) (a := .c (-1)) (kn := kn_copy_93) (kn' := knE_copy_93) cM_copy_93 rfl rfl rfl (by decide +kernel) f4 f5 k2 f3 rfl
    exact ⟨r, e, q.mono (fun v' σ2 hq => ⟨hq.1, hq.2.1, hq.2.2, Eqs.nil⟩)⟩
  rcases List.mem_cons.mp f2 with rfl | f2
  · obtain ⟨r, e, q⟩ := pair_i (E := E) (z := 330) (o1 := 0) (o2 := 110) (m := ctM_copy_94) (ar := ctH_copy.ar.tail) (a := .c (-1)) (kn := kn_copy_94) (kn' := knE_copy_94) cM_copy_94 rfl rfl rfl (by decide +kernel) f4 f5 k2 f3 rfl
    exact ⟨r, e, q.mono (fun v' σ2 hq => ⟨hq.1, hq.2.1, hq.2.2, Eqs.nil⟩)⟩
  rcases List.mem_cons.mp f2 with rfl | f2
  · obtain ⟨r, e, q⟩ := pair_i (E := E) (z := 330) (o1 := 0) (o2 := 110) (m := ctM_copy_95) (ar := ctH_copy.ar.tail) (a := .c (-1)) (kn := kn_copy_95) (kn' := knE_copy_95) cM_copy_95 rfl rfl rfl (by decide +kernel) f4 f5 k2 f3 rfl
    exact ⟨r, e, q.mono (fun v' σ2 hq => ⟨hq.1, hq.2.1, hq.2.2, Eqs.nil⟩)⟩
  rcases List.mem_cons.mp f2 with rfl | f2
  · obtain ⟨r, e, q⟩ := pair_i (E := E) (z := 330) (o1 := 0) (o2 := 110) (m := ctM_copy_96) (ar := ctH_copy.ar.tail) (a := .c (-1)) (kn := kn_copy_96) (kn' := knE_copy_96) cM_copy_96 rfl rfl rfl (by decide +kernel) f4 f5 k2 f3 rfl
    exact ⟨r, e, q.mono (fun v' σ2 hq => ⟨hq.1, hq.2.1, hq.2.2, Eqs.nil⟩)⟩
  rcases List.mem_cons.mp f2 with rfl | f2
  · obtain ⟨r, e, q⟩ := pair_i (E := E) (z := 330) (o1 := 0) (o2 := 110) (m := ctM_copy_97) (ar := ctH_copy.ar.tail) (a := .c (-1)) (kn := kn_copy_97) (kn' := knE_copy_97) cM_copy_97 rfl rfl rfl (by decide +kernel) f4 f5 k2 f3 rfl
    exact ⟨r, e, q.mono (fun v' σ2 hq => ⟨hq.1, hq.2.1, hq.2.2, Eqs.nil⟩)⟩
  rcases List.mem_cons.mp f2 with rfl | f2
  · obtain ⟨r, e, q⟩ := pair_i (E := E) (z := 330) (o1 := 0) (o2 := 110) (m := ctM_copy_98) (ar := ctH_copy.ar.tail) (a := .c (-1)) (kn := kn_copy_98) (kn' := knE_copy_98) cM_copy_98 rfl rfl rfl (by decide +kernel) f4 f5 k2 f3 rfl
    exact ⟨r, e, q.mono (fun v' σ2 hq => ⟨hq.1, hq.2.1, hq.2.2, Eqs.nil⟩)⟩
  rcases List.mem_cons.mp f2 with rfl | f2
  · obtain ⟨r, e, q⟩ := pair_i (E := E) (z := 330) (o1 := 0) (o2 := 110) (m := ctM_copy_99) (ar := ctH_copy.ar.tail) (a := .c (-1)) (kn := kn_copy_99) (kn' := knE_copy_99) cM_copy_99 rfl rfl rfl (by decide +kernel) f4 f5 k2 f3 rfl
    exact ⟨r, e, q.mono (fun v' σ2 hq => ⟨hq.1, hq.2.1, hq.2.2, Eqs.nil⟩)⟩
  rcases List.mem_cons.mp f2 with rfl | f2
  · obtain ⟨r, e, q⟩ := pair_i (E := E) (z := 330) (o1 := 0) (o2 := 110) (m := ctM_copy_100) (ar := ctH_copy.ar.tail) (a := .c (-1)) (kn := kn_copy_100) (kn' := knE_copy_100) cM_copy_100 rfl rfl rfl (by decide +kernel) f4 f5 k2 f3 rfl
    exact ⟨r, e, q.mono (fun v' σ2 hq => ⟨hq.1, hq.2.1, hq.2.2, Eqs.nil⟩)⟩
  rcases List.mem_cons.mp f2 with rfl | f2
  · obtain ⟨r, e, q⟩ := pair_i (E := E) (z := 330) (o1 := 0) (o2 := 110) (m := ctM_copy_101) (ar := ctH_copy.ar.tail) (a := .c (-1)) (kn := kn_copy_101) (kn' := knE_copy_101) cM_copy_101 rfl rfl rfl (by decide +kernel) f4 f5 k2 f3 rfl
    exact ⟨r, e, q.mono (fun v' σ2 hq => ⟨hq.1, hq.2.1, hq.2.2, Eqs.nil⟩)⟩
  rcases List.mem_cons.mp f2 with rfl | f2
  · obtain ⟨r, e, q⟩ := pair_i (E := E) (z := 330) (o1 := 0) (o2 := 110) (m := ctM_copy_102) (ar := ctH_copy.ar.tail) (a := .c (-1)) (kn := kn_copy_102) (kn' := knE_copy_102) cM_copy_102 rfl rfl rfl (by decide +kernel) f4 f5 k2 f3 rfl
    exact ⟨r, e, q.mono (fun v' σ2 hq => ⟨hq.1, hq.2.1, hq.2.2, Eqs.nil⟩)⟩
  rcases List.mem_cons.mp f2 with rfl | f2
  · obtain ⟨r, e, q⟩ := pair_i (E := E) (z := 330) (o1 := 0) (o2 := 110) (m := ctM_copy_103) (ar := ctH_copy.ar.tail) (a := .c (-1)) (kn := kn_copy_103) (kn' := knE_copy_103) cM_copy_103 rfl rfl rfl (by decide +kernel) f4 f5 k2 f3 rfl
    exact ⟨r, e, q.mono (fun v' σ2 hq => ⟨hq.1, hq.2.1, hq.2.2, Eqs.nil⟩)⟩
  rcases List.mem_cons.mp f2 with rfl | f2
  · obtain ⟨r, e, q⟩ := pair_i (E := E) (z := 330) (o1 := 0) (o2 := 110) (m := ctM_copy_104) (ar := ctH_copy.ar.tail) (a := .c (-1)) (kn := kn_copy_104) (kn' := knE_copy_104) cM_copy_104 rfl rfl rfl (by decide +kernel) f4 f5 k2 f3 rfl
    exact ⟨r, e, q.mono (fun v' σ2 hq => ⟨hq.1, hq.2.1, hq.2.2, Eqs.nil⟩)⟩
  rcases List.mem_cons.mp f2 with rfl | f2
  · obtain ⟨r, e, q⟩ := pair_i (E := E) (z := 330) (o1 := 0) (o2 := 110) (m := ctM_copy_105) (ar := ctH_copy.ar.tail) (a := .c (-1)) (kn := kn_copy_105) (kn' := knE_copy_105) cM_copy_105 rfl rfl rfl (by decide +kernel) f4 f5 k2 f3 rfl
    exact ⟨r, e, q.mono (fun v' σ2 hq => ⟨hq.1, hq.2.1, hq.2.2, Eqs.nil⟩)⟩
  rcases List.mem_cons.mp f2 with rfl | f2
  · obtain ⟨r, e, q⟩ := pair_i (E := E) (z := 330) (o1 := 0) (o2 := 110) (m := ctM_copy_106) (ar := ctH_copy.ar.tail) (a := .c (-1)) (kn := kn_copy_106) (kn' := knE_copy_106) cM_copy_106 rfl rfl rfl (by decide +kernel) f4 f5 k2 f3 rfl
    exact ⟨r, e, q.mono (fun v' σ2 hq => ⟨hq.1, hq.2.1, hq.2.2, Eqs.nil⟩)⟩
  rcases List.mem_cons.mp f2 with rfl | f2
  · obtain ⟨r, e, q⟩ := pair_i (E := E) (z := 330) (o1 := 0) (o2 := 110) (m := ctM_copy_107) (ar := ctH_copy.ar.tail) (a := .c (-1)) (kn := kn_copy_107) (kn' := knE_copy_107) cM_copy_107 rfl rfl rfl (by decide +kernel) f4 f5 k2 f3 rfl
    exact ⟨r, e, q.mono (fun v' σ2 hq => ⟨hq.1, hq.2.1, hq.2.2, Eqs.nil⟩)⟩
  · cases f2
theorem LC_13_ok {E : xV} {σ : zS} (h : J0 σ) : LC_13 E σ J0 := by
  intro x0 x1
  obtain ⟨k1, k2⟩ := pub_ok (J := JJ) (q := ctH_thing) (o := 0) (as := [.inl x0, .inl x1]) (ds := [T32, T32, [(0, 200)], [(0, 200)]]) (ks := [(5, 2), (110, 8)]) (σ := σ) (show pubOk ctH_thing 0 [false, false] [T32, T32, [(0, 200)], [(0, 200)]] [(5, 2), (110, 8)] = true by decide +kernel) ⟨in32 _, in32 _, r0 h.2.1 (k := (5, 2)) (by decide), r0 h.2.1 (k := (110, 8)) (by decide), trivial⟩ h.1
  refine (cH_thing (E := E) _ σ _ k1 k2).mono (fun v σ1 hv => ?_)
  obtain ⟨_, al, f2, ρ1, f3, f4, f5⟩ := hv
  rcases List.mem_cons.mp f2 with rfl | f2
  · obtain ⟨r, e, q⟩ := pair_i (E := E) (z := 333) (o1 := 0) (o2 := 110) (m := ctM_thing_0) (ar := ctH_thing.ar.tail) (a := .c (-3)) (kn := kn_thing_0) (kn' := knE_thing_0) cM_thing_0 rfl rfl rfl (by decide +kernel) f4 f5 k2 f3 rfl
    exact ⟨r, e, q.mono (fun v' σ2 hq => ⟨⟨r, hq.1⟩, hq.2.1, hq.2.2, Eqs.nil⟩)⟩
  rcases List.mem_cons.mp f2 with rfl | f2
  · obtain ⟨r, e, q⟩ := pair_i (E := E) (z := 333) (o1 := 0) (o2 := 110) (m := ctM_thing_1) (ar := ctH_thing.ar.tail) (a := v9_4) (kn := kn_thing_1) (kn' := knE_thing_1) cM_thing_1 rfl rfl rfl (by decide +kernel) f4 f5 k2 f3 rfl
    exact ⟨r, e, q.mono (fun v' σ2 hq => ⟨⟨r, hq.1⟩, hq.2.1, hq.2.2, Eqs.nil⟩)⟩
  rcases List.mem_cons.mp f2 with rfl | f2
  · obtain ⟨r, e, q⟩ := pair_i (E := E) (z := 333) (o1 := 0) (o2 := 110) (m := ctM_thing_2) (ar := ctH_thing.ar.tail) (a := .c (-1)) (kn := kn_thing_2) (kn' := knE_thing_2) cM_thing_2 rfl rfl rfl (by decide +kernel) f4 f5 k2 f3 rfl
    exact ⟨r, e, q.mono (fun v' σ2 hq => ⟨⟨r, hq.1⟩, hq.2.1, hq.2.2, Eqs.nil⟩)⟩
  rcases List.mem_cons.mp f2 with rfl | f2
  · obtain ⟨r, e, q⟩ := pair_i (E := E) (z := 333) (o1 := 0) (o2 := 110) (m := ctM_thing_3) (ar := ctH_thing.ar.tail) (a := .c (-1)) (kn := kn_thing_3) (kn' := knE_thing_3) cM_thing_3 rfl rfl rfl (by decide +kernel) f4 f5 k2 f3 rfl
    exact ⟨r, e, q.mono (fun v' σ2 hq => ⟨⟨r, hq.1⟩, hq.2.1, hq.2.2, Eqs.nil⟩)⟩
  rcases List.mem_cons.mp f2 with rfl | f2
  · obtain ⟨r, e, q⟩ := pair_i (E := E) (z := 333) (o1 := 0) (o2 := 110) (m := ctM_thing_4) (ar := ctH_thing.ar.tail) (a := .c (-3)) (kn := kn_thing_4) (kn' := knE_thing_4) cM_thing_4 rfl rfl rfl (by decide +kernel) f4 f5 k2 f3 rfl
    exact ⟨r, e, q.mono (fun v' σ2 hq => ⟨⟨r, hq.1⟩, hq.2.1, hq.2.2, Eqs.nil⟩)⟩
  rcases List.mem_cons.mp f2 with rfl | f2
  · obtain ⟨r, e, q⟩ := pair_i (E := E) (z := 333) (o1 := 0) (o2 := 110) (m := ctM_thing_5) (ar := ctH_thing.ar.tail) (a := v9_4) (kn := kn_thing_5) (kn' := knE_thing_5) cM_thing_5 rfl rfl rfl (by decide +kernel) f4 f5 k2 f3 rfl
    exact ⟨r, e, q.mono (fun v' σ2 hq => ⟨⟨r, hq.1⟩, hq.2.1, hq.2.2, Eqs.nil⟩)⟩
  rcases List.mem_cons.mp f2 with rfl | f2
  · obtain ⟨r, e, q⟩ := pair_i (E := E) (z := 333) (o1 := 0) (o2 := 110) (m := ctM_thing_6) (ar := ctH_thing.ar.tail) (a := .c (-1)) (kn := kn_thing_6) (kn' := knE_thing_6) cM_thing_6 rfl rfl rfl (by decide +kernel) f4 f5 k2 f3 rfl
    exact ⟨r, e, q.mono (fun v' σ2 hq => ⟨⟨r, hq.1⟩, hq.2.1, hq.2.2, Eqs.nil⟩)⟩
  rcases List.mem_cons.mp f2 with rfl | f2
  · obtain ⟨r, e, q⟩ := pair_i (E := E) (z := 333) (o1 := 0) (o2 := 110) (m := ctM_thing_7) (ar := ctH_thing.ar.tail) (a := .c (-1)) (kn := kn_thing_7) (kn' := knE_thing_7) cM_thing_7 rfl rfl rfl (by decide +kernel) f4 f5 k2 f3 rfl
    exact ⟨r, e, q.mono (fun v' σ2 hq => ⟨⟨r, hq.1⟩, hq.2.1, hq.2.2, Eqs.nil⟩)⟩
  rcases List.mem_cons.mp f2 with rfl | f2
  · obtain ⟨r, e, q⟩ := pair_i (E := E) (z := 333) (o1 := 0) (o2 := 110) (m := ctM_thing_8) (ar := ctH_thing.ar.tail) (a := .c (-1)) (kn := kn_thing_8) (kn' := knE_thing_8) cM_thing_8 rfl rfl rfl (by decide +kernel) f4 f5 k2 f3 rfl
    exact ⟨r, e, q.mono (fun v' σ2 hq => ⟨⟨r, hq.1⟩, hq.2.1, hq.2.2, Eqs.nil⟩)⟩
  · cases f2
theorem LC_14_ok {E : xV} {σ : zS} (h : J0 σ) : LC_14 E σ J0 := by
  intro x0 x1
  obtain ⟨k1, k2⟩ := pub_ok (J := JJ) (q := ctH_move) (o := 0) (as := [.inl x0, .inl x1]) (ds := [T32, T32, [(0, 200)], [(0, 200)]]) (ks := [(5, 2), (110, 8)]) (σ := σ) (show pubOk ctH_move 0 [false, false] [T32, T32, [(0, 200)], [(0, 200)]] [(5, 2), (110, 8)] = true by decide +kernel) ⟨in32 _, in32 _, r0 h.2.1 (k := (5, 2)) (by decide), r0 h.2.1 (k := (110, 8)) (by decide), trivial⟩ h.1
  refine (cH_move (E := E) _ σ _ k1 k2).mono (fun v σ1 hv => ?_)
  obtain ⟨_, al, f2, ρ1, f3, f4, f5⟩ := hv
  rcases List.mem_cons.mp f2 with rfl | f2
  · obtain ⟨r, e, q⟩ := pair_i (E := E) (z := 334) (o1 := 0) (o2 := 110) (m := ctM_move_0) (ar := ctH_move.ar.tail) (a := .c (-2)) (kn := kn_move_0) (kn' := knE_move_0) cM_move_0 rfl rfl rfl (by decide +kernel) f4 f5 k2 f3 rfl
    exact ⟨r, e, q.mono (fun v' σ2 hq => ⟨⟨r, hq.1⟩, hq.2.1, hq.2.2, Eqs.nil⟩)⟩
  rcases List.mem_cons.mp f2 with rfl | f2
  · obtain ⟨r, e, q⟩ := pair_i (E := E) (z := 334) (o1 := 0) (o2 := 110) (m := ctM_move_1) (ar := ctH_move.ar.tail) (a := c9_1) (kn := kn_move_1) (kn' := knE_move_1) cM_move_1 rfl rfl rfl (by decide +kernel) f4 f5 k2 f3 rfl
    exact ⟨r, e, q.mono (fun v' σ2 hq => ⟨⟨r, hq.1⟩, hq.2.1, hq.2.2, Eqs.nil⟩)⟩
  rcases List.mem_cons.mp f2 with rfl | f2
  · obtain ⟨r, e, q⟩ := pair_i (E := E) (z := 334) (o1 := 0) (o2 := 110) (m := ctM_move_2) (ar := ctH_move.ar.tail) (a := .c (-1)) (kn := kn_move_2) (kn' := knE_move_2) cM_move_2 rfl rfl rfl (by decide +kernel) f4 f5 k2 f3 rfl
    exact ⟨r, e, q.mono (fun v' σ2 hq => ⟨⟨r, hq.1⟩, hq.2.1, hq.2.2, Eqs.nil⟩)⟩
  rcases List.mem_cons.mp f2 with rfl | f2
  · obtain ⟨r, e, q⟩ := pair_i (E := E) (z := 334) (o1 := 0) (o2 := 110) (m := ctM_move_3) (ar := ctH_move.ar.tail) (a := .c (-1)) (kn := kn_move_3) (kn' := knE_move_3) cM_move_3 rfl rfl rfl (by decide +kernel) f4 f5 k2 f3 rfl
    exact ⟨r, e, q.mono (fun v' σ2 hq => ⟨⟨r, hq.1⟩, hq.2.1, hq.2.2, Eqs.nil⟩)⟩
  rcases List.mem_cons.mp f2 with rfl | f2
  · obtain ⟨r, e, q⟩ := pair_i (E := E) (z := 334) (o1 := 0) (o2 := 110) (m := ctM_move_4) (ar := ctH_move.ar.tail) (a := .c (-1)) (kn := kn_move_4) (kn' := knE_move_4) cM_move_4 rfl rfl rfl (by decide +kernel) f4 f5 k2 f3 rfl
    exact ⟨r, e, q.mono (fun v' σ2 hq => ⟨⟨r, hq.1⟩, hq.2.1, hq.2.2, Eqs.nil⟩)⟩
  rcases List.mem_cons.mp f2 with rfl | f2
  · obtain ⟨r, e, q⟩ := pair_i (E := E) (z := 334) (o1 := 0) (o2 := 110) (m := ctM_move_5) (ar := ctH_move.ar.tail) (a := .c (-1)) (kn := kn_move_5) (kn' := knE_move_5) cM_move_5 rfl rfl rfl (by decide +kernel) f4 f5 k2 f3 rfl
    exact ⟨r, e, q.mono (fun v' σ2 hq => ⟨⟨r, hq.1⟩, hq.2.1, hq.2.2, Eqs.nil⟩)⟩
  rcases List.mem_cons.mp f2 with rfl | f2
  · obtain ⟨r, e, q⟩ := pair_i (E := E) (z := 334) (o1 := 0) (o2 := 110) (m := ctM_move_6) (ar := ctH_move.ar.tail) (a := .c (-1)) (kn := kn_move_6) (kn' := knE_move_6) cM_move_6 rfl rfl rfl (by decide +kernel) f4 f5 k2 f3 rfl
    exact ⟨r, e, q.mono (fun v' σ2 hq => ⟨⟨r, hq.1⟩, hq.2.1, hq.2.2, Eqs.nil⟩)⟩
  rcases List.mem_cons.mp f2 with rfl | f2
  · obtain ⟨r, e, q⟩ := pair_i (E := E) (z := 334) (o1 := 0) (o2 := 110) (m := ctM_move_7) (ar := ctH_move.ar.tail) (a := .c (-1)) (kn := kn_move_7) (kn' := knE_move_7) cM_move_7 rfl rfl rfl (by decide +kernel) f4 f5 k2 f3 rfl
    exact ⟨r, e, q.mono (fun v' σ2 hq => ⟨⟨r, hq.1⟩, hq.2.1, hq.2.2, Eqs.nil⟩)⟩
  rcases List.mem_cons.mp f2 with rfl | f2
  · obtain ⟨r, e, q⟩ := pair_i (E := E) (z := 334) (o1 := 0) (o2 := 110) (m := ctM_move_8) (ar := ctH_move.ar.tail) (a := .c (-1)) (kn := kn_move_8) (kn' := knE_move_8) cM_move_8 rfl rfl rfl (by decide +kernel) f4 f5 k2 f3 rfl
    exact ⟨r, e, q.mono (fun v' σ2 hq => ⟨⟨r, hq.1⟩, hq.2.1, hq.2.2, Eqs.nil⟩)⟩
  · cases f2
theorem LC_15_ok {E : xV} {σ : zS} (h : J0 σ) : LC_15 E σ J0 := by
  intro x0 x1 hbool
  have b_x1 : inD (Arg.i (.inl x1)) [(0, 1)] := by rcases hbool with rfl | rfl <;> exact ⟨_, List.mem_cons_self .., by decide, by decide⟩
  obtain ⟨k1, k2⟩ := pub_ok (J := JJ) (q := ctH_cutOff) (o := 0) (as := [.inl x0, .inl x1]) (ds := [T32, [(0, 1)], [(0, 200)], [(0, 200)]]) (ks := [(5, 2), (110, 8)]) (σ := σ) (show pubOk ctH_cutOff 0 [false, false] [T32, [(0, 1)], [(0, 200)], [(0, 200)]] [(5, 2), (110, 8)] = true by decide +kernel) ⟨in32 _, b_x1, r0 h.2.1 (k := (5, 2)) (by decide), r0 h.2.1 (k := (110, 8)) (by decide), trivial⟩ h.1
  refine (cH_cutOff (E := E) _ σ _ k1 k2).mono (fun v σ1 hv => ?_)
  obtain ⟨_, al, f2, ρ1, f3, f4, f5⟩ := hv
  rcases List.mem_cons.mp f2 with rfl | f2
  · obtain ⟨r, e, q⟩ := pair_i (E := E) (z := 335) (o1 := 0) (o2 := 110) (m := ctM_cutOff_0) (ar := ctH_cutOff.ar.tail) (a := c9_1) (kn := kn_cutOff_0) (kn' := knE_cutOff_0) cM_cutOff_0 rfl rfl rfl (by decide +kernel) f4 f5 k2 f3 rfl
    exact ⟨r, e, q.mono (fun v' σ2 hq => ⟨⟨r, hq.1⟩, hq.2.1, hq.2.2, Eqs.nil⟩)⟩
  rcases List.mem_cons.mp f2 with rfl | f2
  · obtain ⟨r, e, q⟩ := pair_i (E := E) (z := 335) (o1 := 0) (o2 := 110) (m := ctM_cutOff_1) (ar := ctH_cutOff.ar.tail) (a := c9_0) (kn := kn_cutOff_1) (kn' := knE_cutOff_1) cM_cutOff_1 rfl rfl rfl (by decide +kernel) f4 f5 k2 f3 rfl
    exact ⟨r, e, q.mono (fun v' σ2 hq => ⟨⟨r, hq.1⟩, hq.2.1, hq.2.2, Eqs.nil⟩)⟩
  rcases List.mem_cons.mp f2 with rfl | f2
  · obtain ⟨r, e, q⟩ := pair_i (E := E) (z := 335) (o1 := 0) (o2 := 110) (m := ctM_cutOff_2) (ar := ctH_cutOff.ar.tail) (a := c9_1) (kn := kn_cutOff_2) (kn' := knE_cutOff_2) cM_cutOff_2 rfl rfl rfl (by decide +kernel) f4 f5 k2 f3 rfl
    exact ⟨r, e, q.mono (fun v' σ2 hq => ⟨⟨r, hq.1⟩, hq.2.1, hq.2.2, Eqs.nil⟩)⟩
  rcases List.mem_cons.mp f2 with rfl | f2
  · obtain ⟨r, e, q⟩ := pair_i (E := E) (z := 335) (o1 := 0) (o2 := 110) (m := ctM_cutOff_3) (ar := ctH_cutOff.ar.tail) (a := .c (-1)) (kn := kn_cutOff_3) (kn' := knE_cutOff_3) cM_cutOff_3 rfl rfl rfl (by decide +kernel) f4 f5 k2 f3 rfl
    exact ⟨r, e, q.mono (fun v' σ2 hq => ⟨⟨r, hq.1⟩, hq.2.1, hq.2.2, Eqs.nil⟩)⟩
  rcases List.mem_cons.mp f2 with rfl | f2
  · obtain ⟨r, e, q⟩ := pair_i (E := E) (z := 335) (o1 := 0) (o2 := 110) (m := ctM_cutOff_4) (ar := ctH_cutOff.ar.tail) (a := .c (-1)) (kn := kn_cutOff_4) (kn' := knE_cutOff_4) cM_cutOff_4 rfl rfl rfl (by decide +kernel) f4 f5 k2 f3 rfl
    exact ⟨r, e, q.mono (fun v' σ2 hq => ⟨⟨r, hq.1⟩, hq.2.1, hq.2.2, Eqs.nil⟩)⟩
  rcases List.mem_cons.mp f2 with rfl | f2
  · obtain ⟨r, e, q⟩ := pair_i (E := E) (z := 335) (o1 := 0) (o2 := 110) (m := ctM_cutOff_5) (ar := ctH_cutOff.ar.tail) (a := .c (-1)) (kn := kn_cutOff_5) (kn' := knE_cutOff_5) cM_cutOff_5 rfl rfl rfl (by decide +kernel) f4 f5 k2 f3 rfl
    exact ⟨r, e, q.mono (fun v' σ2 hq => ⟨⟨r, hq.1⟩, hq.2.1, hq.2.2, Eqs.nil⟩)⟩
  · cases f2
theorem LC_16_ok {E : xV} {σ : zS} (h : J0 σ) : LC_16 E σ J0 := by
  intro x0
  obtain ⟨k1, k2⟩ := pub_ok (J := JJ) (q := ctH_drop) (o := 0) (as := [.inl x0]) (ds := [T32, [(0, 200)], [(0, 200)]]) (ks := [(5, 2), (110, 8)]) (σ := σ) (show pubOk ctH_drop 0 [false] [T32, [(0, 200)], [(0, 200)]] [(5, 2), (110, 8)] = true by decide +kernel) ⟨in32 _, r0 h.2.1 (k := (5, 2)) (by decide), r0 h.2.1 (k := (110, 8)) (by decide), trivial⟩ h.1
  refine (cH_drop (E := E) _ σ _ k1 k2).mono (fun v σ1 hv => ?_)
  obtain ⟨_, al, f2, ρ1, f3, f4, f5⟩ := hv
  rcases List.mem_cons.mp f2 with rfl | f2
  · obtain ⟨r, e, q⟩ := pair_i (E := E) (z := 336) (o1 := 0) (o2 := 110) (m := ctM_drop_0) (ar := ctH_drop.ar.tail) (a := .c (-2)) (kn := kn_drop_0) (kn' := knE_drop_0) cM_drop_0 rfl rfl rfl (by decide +kernel) f4 f5 k2 f3 rfl
    exact ⟨r, e, q.mono (fun v' σ2 hq => ⟨⟨r, hq.1⟩, hq.2.1, hq.2.2, Eqs.nil⟩)⟩
  rcases List.mem_cons.mp f2 with rfl | f2
  · obtain ⟨r, e, q⟩ := pair_i (E := E) (z := 336) (o1 := 0) (o2 := 110) (m := ctM_drop_1) (ar := ctH_drop.ar.tail) (a := c9_1) (kn := kn_drop_1) (kn' := knE_drop_1) cM_drop_1 rfl rfl rfl (by decide +kernel) f4 f5 k2 f3 rfl
    exact ⟨r, e, q.mono (fun v' σ2 hq => ⟨⟨r, hq.1⟩, hq.2.1, hq.2.2, Eqs.nil⟩)⟩
  rcases List.mem_cons.mp f2 with rfl | f2
  · obtain ⟨r, e, q⟩ := pair_i (E := E) (z := 336) (o1 := 0) (o2 := 110) (m := ctM_drop_2) (ar := ctH_drop.ar.tail) (a := .c (-1)) (kn := kn_drop_2) (kn' := knE_drop_2) cM_drop_2 rfl rfl rfl (by decide +kernel) f4 f5 k2 f3 rfl
    exact ⟨r, e, q.mono (fun v' σ2 hq => ⟨⟨r, hq.1⟩, hq.2.1, hq.2.2, Eqs.nil⟩)⟩
  rcases List.mem_cons.mp f2 with rfl | f2
  · obtain ⟨r, e, q⟩ := pair_i (E := E) (z := 336) (o1 := 0) (o2 := 110) (m := ctM_drop_3) (ar := ctH_drop.ar.tail) (a := .c (-1)) (kn := kn_drop_3) (kn' := knE_drop_3) cM_drop_3 rfl rfl rfl (by decide +kernel) f4 f5 k2 f3 rfl
    exact ⟨r, e, q.mono (fun v' σ2 hq => ⟨⟨r, hq.1⟩, hq.2.1, hq.2.2, Eqs.nil⟩)⟩
  rcases List.mem_cons.mp f2 with rfl | f2
  · obtain ⟨r, e, q⟩ := pair_i (E := E) (z := 336) (o1 := 0) (o2 := 110) (m := ctM_drop_4) (ar := ctH_drop.ar.tail) (a := .c (-1)) (kn := kn_drop_4) (kn' := knE_drop_4) cM_drop_4 rfl rfl rfl (by decide +kernel) f4 f5 k2 f3 rfl
    exact ⟨r, e, q.mono (fun v' σ2 hq => ⟨⟨r, hq.1⟩, hq.2.1, hq.2.2, Eqs.nil⟩)⟩
  rcases List.mem_cons.mp f2 with rfl | f2
  · obtain ⟨r, e, q⟩ := pair_i (E := E) (z := 336) (o1 := 0) (o2 := 110) (m := ctM_drop_5) (ar := ctH_drop.ar.tail) (a := .c (-1)) (kn := kn_drop_5) (kn' := knE_drop_5) cM_drop_5 rfl rfl rfl (by decide +kernel) f4 f5 k2 f3 rfl
    exact ⟨r, e, q.mono (fun v' σ2 hq => ⟨⟨r, hq.1⟩, hq.2.1, hq.2.2, Eqs.nil⟩)⟩
  · cases f2
