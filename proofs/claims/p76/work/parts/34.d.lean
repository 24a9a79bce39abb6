theorem LC_72_ok {E : xV} {σ : zS} (h : J0 σ) : LC_72 E σ J0 := by
  intro x0
  obtain ⟨k1, k2⟩ := pub_ok (J := JJ) (q := ctH_room) (o := 0) (as := [.inl x0]) (ds := [T32, [(0, 200)], [(0, 200)]]) (ks := [(5, 2), (110, 8)]) (σ := σ) (show pubOk ctH_room 0 [false] [T32, [(0, 200)], [(0, 200)]] [(5, 2), (110, 8)] = true by decide +kernel) ⟨in32 _, r0 h.2.1 (k := (5, 2)) (by decide), r0 h.2.1 (k := (110, 8)) (by decide), trivial⟩ h.1
  refine (cH_room (E := E) _ σ _ k1 k2).mono (fun v σ1 hv => ?_)
  obtain ⟨_, al, f2, ρ1, f3, f4, f5⟩ := hv
  rcases List.mem_cons.mp f2 with rfl | f2
  · obtain ⟨r, e, q⟩ := pair_i (E := E) (z := 467) (o1 := 0) (o2 := 110) (m := ctM_room_0) (ar := ctH_room.ar.tail) (a := .c (-3)) (kn := kn_room_0) (kn' := knE_room_0) cM_room_0 rfl rfl rfl (by decide +kernel) f4 f5 k2 f3 rfl
    exact ⟨r, e, q.mono (fun v' σ2 hq => ⟨⟨r, hq.1⟩, hq.2.1, hq.2.2, Eqs.nil⟩)⟩
  rcases List.mem_cons.mp f2 with rfl | f2
  · obtain ⟨r, e, q⟩ := pair_i (E := E) (z := 467) (o1 := 0) (o2 := 110) (m := ctM_room_1) (ar := ctH_room.ar.tail) (a := v9_3) (kn := kn_room_1) (kn' := knE_room_1) cM_room_1 rfl rfl rfl (by decide +kernel) f4 f5 k2 f3 rfl
    exact ⟨r, e, q.mono (fun v' σ2 hq => ⟨⟨r, hq.1⟩, hq.2.1, hq.2.2, Eqs.nil⟩)⟩
  rcases List.mem_cons.mp f2 with rfl | f2
  · obtain ⟨r, e, q⟩ := pair_i (E := E) (z := 467) (o1 := 0) (o2 := 110) (m := ctM_room_2) (ar := ctH_room.ar.tail) (a := .c (-1)) (kn := kn_room_2) (kn' := knE_room_2) cM_room_2 rfl rfl rfl (by decide +kernel) f4 f5 k2 f3 rfl
    exact ⟨r, e, q.mono (fun v' σ2 hq => ⟨⟨r, hq.1⟩, hq.2.1, hq.2.2, Eqs.nil⟩)⟩
  rcases List.mem_cons.mp f2 with rfl | f2
  · obtain ⟨r, e, q⟩ := pair_i (E := E) (z := 467) (o1 := 0) (o2 := 110) (m := ctM_room_3) (ar := ctH_room.ar.tail) (a := .c (-1)) (kn := kn_room_3) (kn' := knE_room_3) cM_room_3 rfl rfl rfl (by decide +kernel) f4 f5 k2 f3 rfl
    exact ⟨r, e, q.mono (fun v' σ2 hq => ⟨⟨r, hq.1⟩, hq.2.1, hq.2.2, Eqs.nil⟩)⟩
  · cases f2
theorem LC_73_ok {E : xV} {σ : zS} (h : J0 σ) : LC_73 E σ J0 := by
  intro x0
  obtain ⟨k1, k2⟩ := pub_ok (J := JJ) (q := ctH_method) (o := 0) (as := [.inl x0]) (ds := [T32, [(0, 200)], [(0, 200)]]) (ks := [(5, 2), (110, 8)]) (σ := σ) (show pubOk ctH_method 0 [false] [T32, [(0, 200)], [(0, 200)]] [(5, 2), (110, 8)] = true by decide +kernel) ⟨in32 _, r0 h.2.1 (k := (5, 2)) (by decide), r0 h.2.1 (k := (110, 8)) (by decide), trivial⟩ h.1
  refine (cH_method (E := E) _ σ _ k1 k2).mono (fun v σ1 hv => ?_)
  obtain ⟨_, al, f2, ρ1, f3, f4, f5⟩ := hv
  rcases List.mem_cons.mp f2 with rfl | f2
  · obtain ⟨r, e, q⟩ := pair_i (E := E) (z := 468) (o1 := 0) (o2 := 110) (m := ctM_method_0) (ar := ctH_method.ar.tail) (a := .c (-3)) (kn := kn_method_0) (kn' := knE_method_0) cM_method_0 rfl rfl rfl (by decide +kernel) f4 f5 k2 f3 rfl
    exact ⟨r, e, q.mono (fun v' σ2 hq => ⟨⟨r, hq.1⟩, hq.2.1, hq.2.2, Eqs.nil⟩)⟩
  rcases List.mem_cons.mp f2 with rfl | f2
  · obtain ⟨r, e, q⟩ := pair_i (E := E) (z := 468) (o1 := 0) (o2 := 110) (m := ctM_method_1) (ar := ctH_method.ar.tail) (a := v9_3) (kn := kn_method_1) (kn' := knE_method_1) cM_method_1 rfl rfl rfl (by decide +kernel) f4 f5 k2 f3 rfl
    exact ⟨r, e, q.mono (fun v' σ2 hq => ⟨⟨r, hq.1⟩, hq.2.1, hq.2.2, Eqs.nil⟩)⟩
  rcases List.mem_cons.mp f2 with rfl | f2
  · obtain ⟨r, e, q⟩ := pair_i (E := E) (z := 468) (o1 := 0) (o2 := 110) (m := ctM_method_2) (ar := ctH_method.ar.tail) (a := .c (-1)) (kn := kn_method_2) (kn' := knE_method_2) cM_method_2 rfl rfl rfl (by decide +kernel) f4 f5 k2 f3 rfl
    exact ⟨r, e, q.mono (fun v' σ2 hq => ⟨⟨r, hq.1⟩, hq.2.1, hq.2.2, Eqs.nil⟩)⟩
  rcases List.mem_cons.mp f2 with rfl | f2
  · obtain ⟨r, e, q⟩ := pair_i (E := E) (z := 468) (o1 := 0) (o2 := 110) (m := ctM_method_3) (ar := ctH_method.ar.tail) (a := .c (-1)) (kn := kn_method_3) (kn' := knE_method_3) cM_method_3 rfl rfl rfl (by decide +kernel) f4 f5 k2 f3 rfl
    exact ⟨r, e, q.mono (fun v' σ2 hq => ⟨⟨r, hq.1⟩, hq.2.1, hq.2.2, Eqs.nil⟩)⟩
  · cases f2
theorem LC_74_ok {E : xV} {σ : zS} (h : J0 σ) : LC_74 E σ J0 := by
  intro x0 x1 x2 x3
  obtain ⟨k1, k2⟩ := pub_ok (J := JJ) (q := ctH_op) (o := 0) (as := [.inl x0, .inl x1, .inl x2, .inl x3]) (ds := [T32, T32, T32, T32, [(0, 200)], [(0, 200)]]) (ks := [(5, 2), (110, 8)]) (σ := σ) (show pubOk ctH_op 0 [false, false, false, false] [T32, T32, T32, T32, [(0, 200)], [(0, 200)]] [(5, 2), (110, 8)] = true by decide +kernel) ⟨in32 _, in32 _, in32 _, in32 _, r0 h.2.1 (k := (5, 2)) (by decide), r0 h.2.1 (k := (110, 8)) (by decide), trivial⟩ h.1
  refine (cH_op (E := E) _ σ _ k1 k2).mono (fun v σ1 hv => ?_)
  obtain ⟨_, al, f2, ρ1, f3, f4, f5⟩ := hv
  rcases List.mem_cons.mp f2 with rfl | f2
  · obtain ⟨r, e, q⟩ := pair_i (E := E) (z := 469) (o1 := 0) (o2 := 110) (m := ctM_op_0) (ar := ctH_op.ar.tail) (a := .c (-3)) (kn := kn_op_0) (kn' := knE_op_0) cM_op_0 rfl rfl rfl (by decide +kernel) f4 f5 k2 f3 rfl
    exact ⟨r, e, q.mono (fun v' σ2 hq => ⟨hq.1, hq.2.1, hq.2.2, Eqs.nil⟩)⟩
  rcases List.mem_cons.mp f2 with rfl | f2
  · obtain ⟨r, e, q⟩ := pair_i (E := E) (z := 469) (o1 := 0) (o2 := 110) (m := ctM_op_1) (ar := ctH_op.ar.tail) (a := v9_6) (kn := kn_op_1) (kn' := knE_op_1) cM_op_1 rfl rfl rfl (by decide +kernel) f4 f5 k2 f3 rfl
    exact ⟨r, e, q.mono (fun v' σ2 hq => ⟨hq.1, hq.2.1, hq.2.2, Eqs.nil⟩)⟩
  rcases List.mem_cons.mp f2 with rfl | f2
  · obtain ⟨r, e, q⟩ := pair_i (E := E) (z := 469) (o1 := 0) (o2 := 110) (m := ctM_op_2) (ar := ctH_op.ar.tail) (a := .c (-3)) (kn := kn_op_2) (kn' := knE_op_2) cM_op_2 rfl rfl rfl (by decide +kernel) f4 f5 k2 f3 rfl
    exact ⟨r, e, q.mono (fun v' σ2 hq => ⟨hq.1, hq.2.1, hq.2.2, Eqs.nil⟩)⟩
  rcases List.mem_cons.mp f2 with rfl | f2
  · obtain ⟨r, e, q⟩ := pair_i (E := E) (z := 469) (o1 := 0) (o2 := 110) (m := ctM_op_3) (ar := ctH_op.ar.tail) (a := v9_6) (kn := kn_op_3) (kn' := knE_op_3) cM_op_3 rfl rfl rfl (by decide +kernel) f4 f5 k2 f3 rfl
    exact ⟨r, e, q.mono (fun v' σ2 hq => ⟨hq.1, hq.2.1, hq.2.2, Eqs.nil⟩)⟩
  rcases List.mem_cons.mp f2 with rfl | f2
  · obtain ⟨r, e, q⟩ := pair_i (E := E) (z := 469) (o1 := 0) (o2 := 110) (m := ctM_op_4) (ar := ctH_op.ar.tail) (a := .c (-3)) (kn := kn_op_4) (kn' := knE_op_4) cM_op_4 rfl rfl rfl (by decide +kernel) f4 f5 k2 f3 rfl
    exact ⟨r, e, q.mono (fun v' σ2 hq => ⟨hq.1, hq.2.1, hq.2.2, Eqs.nil⟩)⟩
  rcases List.mem_cons.mp f2 with rfl | f2
  · obtain ⟨r, e, q⟩ := pair_i (E := E) (z := 469) (o1 := 0) (o2 := 110) (m := ctM_op_5) (ar := ctH_op.ar.tail) (a := v9_6) (kn := kn_op_5) (kn' := knE_op_5) cM_op_5 rfl rfl rfl (by decide +kernel) f4 f5 k2 f3 rfl
    exact ⟨r, e, q.mono (fun v' σ2 hq => ⟨hq.1, hq.2.1, hq.2.2, Eqs.nil⟩)⟩
  rcases List.mem_cons.mp f2 with rfl | f2
  · obtain ⟨r, e, q⟩ := pair_i (E := E) (z := 469) (o1 := 0) (o2 := 110) (m := ctM_op_6) (ar := ctH_op.ar.tail) (a := .c (-3)) (kn := kn_op_6) (kn' := knE_op_6) cM_op_6 rfl rfl rfl (by decide +kernel) f4 f5 k2 f3 rfl
    exact ⟨r, e, q.mono (fun v' σ2 hq => ⟨hq.1, hq.2.1, hq.2.2, Eqs.nil⟩)⟩
  rcases List.mem_cons.mp f2 with rfl | f2
  · obtain ⟨r, e, q⟩ := pair_i (E := E) (z := 469) (o1 := 0) (o2 := 110) (m := ctM_op_7) (ar := ctH_op.ar.tail) (a := v9_6) (kn := kn_op_7) (kn' := knE_op_7) cM_op_7 rfl rfl rfl (by decide +kernel) f4 f5 k2 f3 rfl
    exact ⟨r, e, q.mono (fun v' σ2 hq => ⟨hq.1, hq.2.1, hq.2.2, Eqs.nil⟩)⟩
  rcases List.mem_cons.mp f2 with rfl | f2
  · obtain ⟨r, e, q⟩ := pair_i (E := E) (z := 469) (o1 := 0) (o2 := 110) (m := ctM_op_8) (ar := ctH_op.ar.tail) (a := .c (-1)) (kn := kn_op_8) (kn' := knE_op_8) cM_op_8 rfl rfl rfl (by decide +kernel) f4 f5 k2 f3 rfl
    exact ⟨r, e, q.mono (fun v' σ2 hq => ⟨hq.1, hq.2.1, hq.2.2, Eqs.nil⟩)⟩
  rcases List.mem_cons.mp f2 with rfl | f2
  · obtain ⟨r, e, q⟩ := pair_i (E := E) (z := 469) (o1 := 0) (o2 := 110) (m := ctM_op_9) (ar := ctH_op.ar.tail) (a := .c (-1)) (kn := kn_op_9) (kn' := knE_op_9) cM_op_9 rfl rfl rfl (by decide +kernel) f4 f5 k2 f3 rfl
    exact ⟨r, e, q.mono (fun v' σ2 hq => ⟨hq.1, hq.2.1, hq.2.2, Eqs.nil⟩)⟩
  rcases List.mem_cons.mp f2 with rfl | f2
  · obtain ⟨r, e, q⟩ := pair_i (E := E) (z := 469) (o1 := 0) (o2 := 110) (m := ctM_op_10) (ar := ctH_op.ar.tail) (a := .c (-3)) (kn := kn_op_10) (kn' := knE_op_10) cM_op_10 rfl rfl rfl (by decide +kernel) f4 f5 k2 f3 rfl
    exact ⟨r, e, q.mono (fun v' σ2 hq => ⟨hq.1, hq.2.1, hq.2.2, Eqs.nil⟩)⟩
  rcases List.mem_cons.mp f2 with rfl | f2
  · obtain ⟨r, e, q⟩ := pair_i (E := E) (z := 469) (o1 := 0) (o2 := 110) (m := ctM_op_11) (ar := ctH_op.ar.tail) (a := v9_6) (kn := kn_op_11) (kn' := knE_op_11) cM_op_11 rfl rfl rfl (by decide +kernel) f4 f5 k2 f3 rfl
    exact ⟨r, e, q.mono (fun v' σ2 hq => ⟨hq.1, hq.2.1, hq.2.2, Eqs.nil⟩)⟩
  rcases List.mem_cons.mp f2 with rfl | f2
  · obtain ⟨r, e, q⟩ := pair_i (E := E) (z := 469) (o1 := 0) (o2 := 110) (m := ctM_op_12) (ar := ctH_op.ar.tail) (a := .c (-1)) (kn := kn_op_12) (kn' := knE_op_12) cM_op_12 rfl rfl rfl (by decide +kernel) f4 f5 k2 f3 rfl
    exact ⟨r, e, q.mono (fun v' σ2 hq => ⟨hq.1, hq.2.1, hq.2.2, Eqs.nil⟩)⟩
  rcases List.mem_cons.mp f2 with rfl | f2
  · obtain ⟨r, e, q⟩ := pair_i (E := E) (z := 469) (o1 := 0) (o2 := 110) (m := ctM_op_13) (ar := ctH_op.ar.tail) (a := .c (-1)) (kn := kn_op_13) (kn' := knE_op_13) cM_op_13 rfl rfl rfl (by decide +kernel) f4 f5 k2 f3 rfl
    exact ⟨r, e, q.mono (fun v' σ2 hq => ⟨hq.1, hq.2.1, hq.2.2, Eqs.nil⟩)⟩
  rcases List.mem_cons.mp f2 with rfl | f2
  · obtain ⟨r, e, q⟩ := pair_i (E := E) (z := 469) (o1 := 0) (o2 := 110) (m := ctM_op_14) (ar := ctH_op.ar.tail) (a := .c (-3)) (kn := kn_op_14) (kn' := knE_op_14) cM_op_14 rfl rfl rfl (by decide +kernel) f4 f5 k2 f3 rfl
    exact ⟨r, e, q.mono (fun v' σ2 hq => ⟨hq.1, hq.2.1, hq.2.2, Eqs.nil⟩)⟩
  rcases List.mem_cons.mp f2 with rfl | f2
  · obtain ⟨r, e, q⟩ := pair_i (E := E) (z := 469) (o1 := 0) (o2 := 110) (m := ctM_op_15) (ar := ctH_op.ar.tail) (a := v9_6) (kn := kn_op_15) (kn' := knE_op_15) cM_op_15 rfl rfl rfl (by decide +kernel) f4 f5 k2 f3 rfl
    exact ⟨r, e, q.mono (fun v' σ2 hq => ⟨hq.1, hq.2.1, hq.2.2, Eqs.nil⟩)⟩
  rcases List.mem_cons.mp f2 with rfl | f2
  · obtain ⟨r, e, q⟩ := pair_i (E := E) (z := 469) (o1 := 0) (o2 := 110) (m := ctM_op_16) (ar := ctH_op.ar.tail) (a := .c (-1)) (kn := kn_op_16) (kn' := knE_op_16) cM_op_16 rfl rfl rfl (by decide +kernel) f4 f5 k2 f3 rfl
    exact ⟨r, e, q.mono (fun v' σ2 hq => ⟨hq.1, hq.2.1, hq.2.2, Eqs.nil⟩)⟩
  rcases List.mem_cons.mp f2 with rfl | f2
  · obtain ⟨r, e, q⟩ := pair_i (E := E) (z := 469) (o1 := 0) (o2 := 110) (m := ctM_op_17) (ar := ctH_op.ar.tail) (a := .c (-3)) (kn := kn_op_17) (kn' := knE_op_17) cM_op_17 rfl rfl rfl (by decide +kernel) f4 f5 k2 f3 rfl
    exact ⟨r, e, q.mono (fun v' σ2 hq => ⟨hq.1, hq.2.1, hq.2.2, Eqs.nil⟩)⟩
  rcases List.mem_cons.mp f2 with rfl | f2
  · obtain ⟨r, e, q⟩ := pair_i (E := E) (z := 469) (o1 := 0) (o2 := 110) (m := ctM_op_18) (ar := ctH_op.ar.tail) (a := v9_6) (kn := kn_op_18) (kn' := knE_op_18) cM_op_18 rfl rfl rfl (by decide +kernel) f4 f5 k2 f3 rfl
    exact ⟨r, e, q.mono (fun v' σ2 hq => ⟨hq.1, hq.2.1, hq.2.2, Eqs.nil⟩)⟩
  rcases List.mem_cons.mp f2 with rfl | f2
  · obtain ⟨r, e, q⟩ := pair_i (E := E) (z := 469) (o1 := 0) (o2 := 110) (m := ctM_op_19) (ar := ctH_op.ar.tail) (a := .c (-1)) (kn := kn_op_19) (kn' := knE_op_19) cM_op_19 rfl rfl rfl (by decide +kernel) f4 f5 k2 f3 rfl
    exact ⟨r, e, q.mono (fun v' σ2 hq => ⟨hq.1, hq.2.1, hq.2.2, Eqs.nil⟩)⟩
  rcases List.mem_cons.mp f2 with rfl | f2
  · obtain ⟨r, e, q⟩ := pair_i (E := E) (z := 469) (o1 := 0) (o2 := 110) (m := ctM_op_20) (ar := ctH_op.ar.tail) (a := .c (-1)) (kn := kn_op_20) (kn' := knE_op_20) cM_op_20 rfl rfl rfl (by decide +kernel) f4 f5 k2 f3 rfl
    exact ⟨r, e, q.mono (fun v' σ2 hq => ⟨hq.1, hq.2.1, hq.2.2, Eqs.nil⟩)⟩
  rcases List.mem_cons.mp f2 with rfl | f2
  · obtain ⟨r, e, q⟩ := pair_i (E := E) (z := 469) (o1 := 0) (o2 := 110) (m := ctM_op_21) (ar := ctH_op.ar.tail) (a := .c (-1)) (kn := kn_op_21) (kn' := knE_op_21) cM_op_21 rfl rfl rfl (by decide +kernel) f4 f5 k2 f3 rfl
    exact ⟨r, e, q.mono (fun v' σ2 hq => ⟨hq.1, hq.2.1, hq.2.2, Eqs.nil⟩)⟩
  rcases List.mem_cons.mp f2 with rfl | f2
  · obtain ⟨r, e, q⟩ := pair_i (E := E) (z := 469) (o1 := 0) (o2 := 110) (m := ctM_op_22) (ar := ctH_op.ar.tail) (a := .c (-1)) (kn := kn_op_22) (kn' := knE_op_22) cM_op_22 rfl rfl rfl (by decide +kernel) f4 f5 k2 f3 rfl
    exact ⟨r, e, q.mono (fun v' σ2 hq => ⟨hq.1, hq.2.1, hq.2.2, Eqs.nil⟩)⟩
  rcases List.mem_cons.mp f2 with rfl | f2
  · obtain ⟨r, e, q⟩ := pair_i (E := E) (z := 469) (o1 := 0) (o2 := 110) (m := ctM_op_23) (ar := ctH_op.ar.tail) (a := .c (-1)) (kn := kn_op_23) (kn' := knE_op_23) cM_op_23 rfl rfl rfl (by decide +kernel) f4 f5 k2 f3 rfl
    exact ⟨r, e, q.mono (fun v' σ2 hq => ⟨hq.1, hq.2.1, hq.2.2, Eqs.nil⟩)⟩
  rcases List.mem_cons.mp f2 with rfl | f2
  · obtain ⟨r, e, q⟩ := pair_i (E := E) (z := 469) (o1 := 0) (o2 := 110) (m := ctM_op_24) (ar := ctH_op.ar.tail) (a := .c (-3)) (kn := kn_op_24) (kn' := knE_op_24) cM_op_24 rfl rfl rfl (by decide +kernel) f4 f5 k2 f3 rfl
    exact ⟨r, e, q.mono (fun v' σ2 hq => ⟨hq.1, hq.2.1, hq.2.2, Eqs.nil⟩)⟩
  rcases List.mem_cons.mp f2 with rfl | f2
  · obtain ⟨r, e, q⟩ := pair_i (E := E) (z := 469) (o1 := 0) (o2 := 110) (m := ctM_op_25) (ar := ctH_op.ar.tail) (a := v9_6) (kn := kn_op_25) (kn' := knE_op_25) cM_op_25 rfl rfl rfl (by decide +kernel) f4 f5 k2 f3 rfl
    exact ⟨r, e, q.mono (fun v' σ2 hq => ⟨hq.1, hq.2.1, hq.2.2, Eqs.nil⟩)⟩
  rcases List.mem_cons.mp f2 with rfl | f2
  · obtain ⟨r, e, q⟩ := pair_i (E := E) (z := 469) (o1 := 0) (o2 := 110) (m := ctM_op_26) (ar := ctH_op.ar.tail) (a := .c (-1)) (kn := kn_op_26) (kn' := knE_op_26) cM_op_26 rfl rfl rfl (by decide +kernel) f4 f5 k2 f3 rfl
    exact ⟨r, e, q.mono (fun v' σ2 hq => ⟨hq.1, hq.2.1, hq.2.2, Eqs.nil⟩)⟩
  rcases List.mem_cons.mp f2 with rfl | f2
  · obtain ⟨r, e, q⟩ := pair_i (E := E) (z := 469) (o1 := 0) (o2 := 110) (m := ctM_op_27) (ar := ctH_op.ar.tail) (a := .c (-1)) (kn := kn_op_27) (kn' := knE_op_27) cM_op_27 rfl rfl rfl (by decide +kernel) f4 f5 k2 f3 rfl
    exact ⟨r, e, q.mono (fun v' σ2 hq => ⟨hq.1, hq.2.1, hq.2.2, Eqs.nil⟩)⟩
  rcases List.mem_cons.mp f2 with rfl | f2
  · obtain ⟨r, e, q⟩ := pair_i (E := E) (z := 469) (o1 := 0) (o2 := 110) (m := ctM_op_28) (ar := ctH_op.ar.tail) (a := .c (-1)) (kn := kn_op_28) (kn' := knE_op_28) cM_op_28 rfl rfl rfl (by decide +kernel) f4 f5 k2 f3 rfl
    exact ⟨r, e, q.mono (fun v' σ2 hq => ⟨hq.1, hq.2.1, hq.2.2, Eqs.nil⟩)⟩
  rcases List.mem_cons.mp f2 with rfl | f2
  · obtain ⟨r, e, q⟩ := pair_i (E := E) (z := 469) (o1 := 0) (o2 := 110) (m := ctM_op_29) (ar := ctH_op.ar.tail) (a := .c (-1)) (kn := kn_op_29) (kn' := knE_op_29) cM_op_29 rfl rfl rfl (by decide +kernel) f4 f5 k2 f3 rfl
    exact ⟨r, e, q.mono (fun v' σ2 hq => ⟨hq.1, hq.2.1, hq.2.2, Eqs.nil⟩)⟩
  rcases List.mem_cons.mp f2 with rfl | f2
  · obtain ⟨r, e, q⟩ := pair_i (E := E) (z := 469) (o1 := 0) (o2 := 110) (m := ctM_op_30) (ar := ctH_op.ar.tail) (a := .c (-1)) (kn := kn_op_30) (kn' := knE_op_30) cM_op_30 rfl rfl rfl (by decide +kernel) f4 f5 k2 f3 rfl
    exact ⟨r, e, q.mono (fun v' σ2 hq => ⟨hq.1, hq.2.1, hq.2.2, Eqs.nil⟩)⟩
  rcases List.mem_cons.mp f2 with rfl | f2
  · obtain ⟨r, e, q⟩ := pair_i (E := E) (z := 469) (o1 := 0) (o2 := 110) (m := ctM_op_31) (ar := ctH_op.ar.tail) (a := .c (-1)) (kn := kn_op_31) (kn' := knE_op_31) cM_op_31 rfl rfl rfl (by decide +kernel) f4 f5 k2 f3 rfl
    exact ⟨r, e, q.mono (fun v' σ2 hq => ⟨hq.1, hq.2.1, hq.2.2, Eqs.nil⟩)⟩
  rcases List.mem_cons.mp f2 with rfl | f2
  · obtain ⟨r, e, q⟩ := pair_i (E := E) (z := 469) (o1 := 0) (o2 := 110) (m := ctM_op_32) (ar := ctH_op.ar.tail) (a := .c (-1)) (kn := kn_op_32) (kn' := knE_op_32) cM_op_32 rfl rfl rfl (by decide +kernel) f4 f5 k2 f3 rfl
    exact ⟨r, e, q.mono (fun v' σ2 hq => ⟨hq.1, hq.2.1, hq.2.2, Eqs.nil⟩)⟩
  rcases List.mem_cons.mp f2 with rfl | f2
  · obtain ⟨r, e, q⟩ := pair_i (E := E) (z := 469) (o1 := 0) (o2 := 110) (m := ctM_op_33) (ar := ctH_op.ar.tail) (a := .c (-1)) (kn := kn_op_33) (kn' := knE_op_33) cM_op_33 rfl rfl rfl (by decide +kernel) f4 f5 k2 f3 rfl
    exact ⟨r, e, q.mono (fun v' σ2 hq => ⟨hq.1, hq.2.1, hq.2.2, Eqs.nil⟩)⟩
  · cases f2
