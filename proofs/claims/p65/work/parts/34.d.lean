theorem LC_60_ok {E : xV} {σ : zS} (h : J0 σ) : LC_60 E σ J0 := by
  intro x0 x1 x2 x3
  obtain ⟨k1, k2⟩ := pub_ok (J := JJ) (q := ctH_statement) (o := 0) (as := [.inl x0, .inl x1, .inl x2, .inl x3]) (ds := [T32, T32, T32, T32, [(0, 200)], [(0, 200)]]) (ks := [(5, 2), (110, 8)]) (σ := σ) (show pubOk ctH_statement 0 [false, false, false, false] [T32, T32, T32, T32, [(0, 200)], [(0, 200)]] [(5, 2), (110, 8)] = true by decide +kernel) ⟨in32 _, in32 _, in32 _, in32 _, r0 h.2.1 (k := (5, 2)) (by decide), r0 h.2.1 (k := (110, 8)) (by decide), trivial⟩ h.1
  refine (cH_statement (E := E) _ σ _ k1 k2).mono (fun v σ1 hv => ?_)
  obtain ⟨_, al, f2, ρ1, f3, f4, f5⟩ := hv
  rcases List.mem_cons.mp f2 with rfl | f2
  · obtain ⟨r, e, q⟩ := pair_i (E := E) (z := 447) (o1 := 0) (o2 := 110) (m := ctM_statement_0) (ar := ctH_statement.ar.tail) (a := .c (-2)) (kn := kn_statement_0) (kn' := knE_statement_0) cM_statement_0 rfl rfl rfl (by decide +kernel) f4 f5 k2 f3 rfl
    exact ⟨r, e, q.mono (fun v' σ2 hq => ⟨⟨r, hq.1⟩, hq.2.1, hq.2.2, Eqs.nil⟩)⟩
  rcases List.mem_cons.mp f2 with rfl | f2
  · obtain ⟨r, e, q⟩ := pair_i (E := E) (z := 447) (o1 := 0) (o2 := 110) (m := ctM_statement_1) (ar := ctH_statement.ar.tail) (a := .c (-3)) (kn := kn_statement_1) (kn' := knE_statement_1) cM_statement_1 rfl rfl rfl (by decide +kernel) f4 f5 k2 f3 rfl
    exact ⟨r, e, q.mono (fun v' σ2 hq => ⟨⟨r, hq.1⟩, hq.2.1, hq.2.2, Eqs.nil⟩)⟩
  rcases List.mem_cons.mp f2 with rfl | f2
  · obtain ⟨r, e, q⟩ := pair_i (E := E) (z := 447) (o1 := 0) (o2 := 110) (m := ctM_statement_2) (ar := ctH_statement.ar.tail) (a := v9_6) (kn := kn_statement_2) (kn' := knE_statement_2) cM_statement_2 rfl rfl rfl (by decide +kernel) f4 f5 k2 f3 rfl
    exact ⟨r, e, q.mono (fun v' σ2 hq => ⟨⟨r, hq.1⟩, hq.2.1, hq.2.2, Eqs.nil⟩)⟩
  rcases List.mem_cons.mp f2 with rfl | f2
  · obtain ⟨r, e, q⟩ := pair_i (E := E) (z := 447) (o1 := 0) (o2 := 110) (m := ctM_statement_3) (ar := ctH_statement.ar.tail) (a := .c (-1)) (kn := kn_statement_3) (kn' := knE_statement_3) cM_statement_3 rfl rfl rfl (by decide +kernel) f4 f5 k2 f3 rfl
    exact ⟨r, e, q.mono (fun v' σ2 hq => ⟨⟨r, hq.1⟩, hq.2.1, hq.2.2, Eqs.nil⟩)⟩
  rcases List.mem_cons.mp f2 with rfl | f2
  · obtain ⟨r, e, q⟩ := pair_i (E := E) (z := 447) (o1 := 0) (o2 := 110) (m := ctM_statement_4) (ar := ctH_statement.ar.tail) (a := .c (-1)) (kn := kn_statement_4) (kn' := knE_statement_4) cM_statement_4 rfl rfl rfl (by decide +kernel) f4 f5 k2 f3 rfl
    exact ⟨r, e, q.mono (fun v' σ2 hq => ⟨⟨r, hq.1⟩, hq.2.1, hq.2.2, Eqs.nil⟩)⟩
  rcases List.mem_cons.mp f2 with rfl | f2
  · obtain ⟨r, e, q⟩ := pair_i (E := E) (z := 447) (o1 := 0) (o2 := 110) (m := ctM_statement_5) (ar := ctH_statement.ar.tail) (a := .c (-3)) (kn := kn_statement_5) (kn' := knE_statement_5) cM_statement_5 rfl rfl rfl (by decide +kernel) f4 f5 k2 f3 rfl
    exact ⟨r, e, q.mono (fun v' σ2 hq => ⟨⟨r, hq.1⟩, hq.2.1, hq.2.2, Eqs.nil⟩)⟩
  rcases List.mem_cons.mp f2 with rfl | f2
  · obtain ⟨r, e, q⟩ := pair_i (E := E) (z := 447) (o1 := 0) (o2 := 110) (m := ctM_statement_6) (ar := ctH_statement.ar.tail) (a := v9_6) (kn := kn_statement_6) (kn' := knE_statement_6) cM_statement_6 rfl rfl rfl (by decide +kernel) f4 f5 k2 f3 rfl
    exact ⟨r, e, q.mono (fun v' σ2 hq => ⟨⟨r, hq.1⟩, hq.2.1, hq.2.2, Eqs.nil⟩)⟩
  rcases List.mem_cons.mp f2 with rfl | f2
  · obtain ⟨r, e, q⟩ := pair_i (E := E) (z := 447) (o1 := 0) (o2 := 110) (m := ctM_statement_7) (ar := ctH_statement.ar.tail) (a := .c (-1)) (kn := kn_statement_7) (kn' := knE_statement_7) cM_statement_7 rfl rfl rfl (by decide +kernel) f4 f5 k2 f3 rfl
    exact ⟨r, e, q.mono (fun v' σ2 hq => ⟨⟨r, hq.1⟩, hq.2.1, hq.2.2, Eqs.nil⟩)⟩
  rcases List.mem_cons.mp f2 with rfl | f2
  · obtain ⟨r, e, q⟩ := pair_i (E := E) (z := 447) (o1 := 0) (o2 := 110) (m := ctM_statement_8) (ar := ctH_statement.ar.tail) (a := .c (-1)) (kn := kn_statement_8) (kn' := knE_statement_8) cM_statement_8 rfl rfl rfl (by decide +kernel) f4 f5 k2 f3 rfl
    exact ⟨r, e, q.mono (fun v' σ2 hq => ⟨⟨r, hq.1⟩, hq.2.1, hq.2.2, Eqs.nil⟩)⟩
  rcases List.mem_cons.mp f2 with rfl | f2
  · obtain ⟨r, e, q⟩ := pair_i (E := E) (z := 447) (o1 := 0) (o2 := 110) (m := ctM_statement_9) (ar := ctH_statement.ar.tail) (a := .c (-1)) (kn := kn_statement_9) (kn' := knE_statement_9) cM_statement_9 rfl rfl rfl (by decide +kernel) f4 f5 k2 f3 rfl
    exact ⟨r, e, q.mono (fun v' σ2 hq => ⟨⟨r, hq.1⟩, hq.2.1, hq.2.2, Eqs.nil⟩)⟩
  rcases List.mem_cons.mp f2 with rfl | f2
  · obtain ⟨r, e, q⟩ := pair_i (E := E) (z := 447) (o1 := 0) (o2 := 110) (m := ctM_statement_10) (ar := ctH_statement.ar.tail) (a := .c (-1)) (kn := kn_statement_10) (kn' := knE_statement_10) cM_statement_10 rfl rfl rfl (by decide +kernel) f4 f5 k2 f3 rfl
    exact ⟨r, e, q.mono (fun v' σ2 hq => ⟨⟨r, hq.1⟩, hq.2.1, hq.2.2, Eqs.nil⟩)⟩
  rcases List.mem_cons.mp f2 with rfl | f2
  · obtain ⟨r, e, q⟩ := pair_i (E := E) (z := 447) (o1 := 0) (o2 := 110) (m := ctM_statement_11) (ar := ctH_statement.ar.tail) (a := .c (-3)) (kn := kn_statement_11) (kn' := knE_statement_11) cM_statement_11 rfl rfl rfl (by decide +kernel) f4 f5 k2 f3 rfl
    exact ⟨r, e, q.mono (fun v' σ2 hq => ⟨⟨r, hq.1⟩, hq.2.1, hq.2.2, Eqs.nil⟩)⟩
  rcases List.mem_cons.mp f2 with rfl | f2
  · obtain ⟨r, e, q⟩ := pair_i (E := E) (z := 447) (o1 := 0) (o2 := 110) (m := ctM_statement_12) (ar := ctH_statement.ar.tail) (a := v9_6) (kn := kn_statement_12) (kn' := knE_statement_12) cM_statement_12 rfl rfl rfl (by decide +kernel) f4 f5 k2 f3 rfl
    exact ⟨r, e, q.mono (fun v' σ2 hq => ⟨⟨r, hq.1⟩, hq.2.1, hq.2.2, Eqs.nil⟩)⟩
  rcases List.mem_cons.mp f2 with rfl | f2
  · obtain ⟨r, e, q⟩ := pair_i (E := E) (z := 447) (o1 := 0) (o2 := 110) (m := ctM_statement_13) (ar := ctH_statement.ar.tail) (a := .c (-1)) (kn := kn_statement_13) (kn' := knE_statement_13) cM_statement_13 rfl rfl rfl (by decide +kernel) f4 f5 k2 f3 rfl
    exact ⟨r, e, q.mono (fun v' σ2 hq => ⟨⟨r, hq.1⟩, hq.2.1, hq.2.2, Eqs.nil⟩)⟩
  rcases List.mem_cons.mp f2 with rfl | f2
  · obtain ⟨r, e, q⟩ := pair_i (E := E) (z := 447) (o1 := 0) (o2 := 110) (m := ctM_statement_14) (ar := ctH_statement.ar.tail) (a := .c (-1)) (kn := kn_statement_14) (kn' := knE_statement_14) cM_statement_14 rfl rfl rfl (by decide +kernel) f4 f5 k2 f3 rfl
    exact ⟨r, e, q.mono (fun v' σ2 hq => ⟨⟨r, hq.1⟩, hq.2.1, hq.2.2, Eqs.nil⟩)⟩
  rcases List.mem_cons.mp f2 with rfl | f2
  · obtain ⟨r, e, q⟩ := pair_i (E := E) (z := 447) (o1 := 0) (o2 := 110) (m := ctM_statement_15) (ar := ctH_statement.ar.tail) (a := .c (-2)) (kn := kn_statement_15) (kn' := knE_statement_15) cM_statement_15 rfl rfl rfl (by decide +kernel) f4 f5 k2 f3 rfl
    exact ⟨r, e, q.mono (fun v' σ2 hq => ⟨⟨r, hq.1⟩, hq.2.1, hq.2.2, Eqs.nil⟩)⟩
  rcases List.mem_cons.mp f2 with rfl | f2
  · obtain ⟨r, e, q⟩ := pair_i (E := E) (z := 447) (o1 := 0) (o2 := 110) (m := ctM_statement_16) (ar := ctH_statement.ar.tail) (a := .c (-3)) (kn := kn_statement_16) (kn' := knE_statement_16) cM_statement_16 rfl rfl rfl (by decide +kernel) f4 f5 k2 f3 rfl
    exact ⟨r, e, q.mono (fun v' σ2 hq => ⟨⟨r, hq.1⟩, hq.2.1, hq.2.2, Eqs.nil⟩)⟩
  rcases List.mem_cons.mp f2 with rfl | f2
  · obtain ⟨r, e, q⟩ := pair_i (E := E) (z := 447) (o1 := 0) (o2 := 110) (m := ctM_statement_17) (ar := ctH_statement.ar.tail) (a := v9_6) (kn := kn_statement_17) (kn' := knE_statement_17) cM_statement_17 rfl rfl rfl (by decide +kernel) f4 f5 k2 f3 rfl
    exact ⟨r, e, q.mono (fun v' σ2 hq => ⟨⟨r, hq.1⟩, hq.2.1, hq.2.2, Eqs.nil⟩)⟩
  rcases List.mem_cons.mp f2 with rfl | f2
  · obtain ⟨r, e, q⟩ := pair_i (E := E) (z := 447) (o1 := 0) (o2 := 110) (m := ctM_statement_18) (ar := ctH_statement.ar.tail) (a := .c (-1)) (kn := kn_statement_18) (kn' := knE_statement_18) cM_statement_18 rfl rfl rfl (by decide +kernel) f4 f5 k2 f3 rfl
    exact ⟨r, e, q.mono (fun v' σ2 hq => ⟨⟨r, hq.1⟩, hq.2.1, hq.2.2, Eqs.nil⟩)⟩
  rcases List.mem_cons.mp f2 with rfl | f2
  · obtain ⟨r, e, q⟩ := pair_i (E := E) (z := 447) (o1 := 0) (o2 := 110) (m := ctM_statement_19) (ar := ctH_statement.ar.tail) (a := .c (-1)) (kn := kn_statement_19) (kn' := knE_statement_19) cM_statement_19 rfl rfl rfl (by decide +kernel) f4 f5 k2 f3 rfl
    exact ⟨r, e, q.mono (fun v' σ2 hq => ⟨⟨r, hq.1⟩, hq.2.1, hq.2.2, Eqs.nil⟩)⟩
  rcases List.mem_cons.mp f2 with rfl | f2
  · obtain ⟨r, e, q⟩ := pair_i (E := E) (z := 447) (o1 := 0) (o2 := 110) (m := ctM_statement_20) (ar := ctH_statement.ar.tail) (a := .c (-3)) (kn := kn_statement_20) (kn' := knE_statement_20) cM_statement_20 rfl rfl rfl (by decide +kernel) f4 f5 k2 f3 rfl
    exact ⟨r, e, q.mono (fun v' σ2 hq => ⟨⟨r, hq.1⟩, hq.2.1, hq.2.2, Eqs.nil⟩)⟩
  rcases List.mem_cons.mp f2 with rfl | f2
  · obtain ⟨r, e, q⟩ := pair_i (E := E) (z := 447) (o1 := 0) (o2 := 110) (m := ctM_statement_21) (ar := ctH_statement.ar.tail) (a := v9_6) (kn := kn_statement_21) (kn' := knE_statement_21) cM_statement_21 rfl rfl rfl (by decide +kernel) f4 f5 k2 f3 rfl
    exact ⟨r, e, q.mono (fun v' σ2 hq => ⟨⟨r, hq.1⟩, hq.2.1, hq.2.2, Eqs.nil⟩)⟩
  rcases List.mem_cons.mp f2 with rfl | f2
  · obtain ⟨r, e, q⟩ := pair_i (E := E) (z := 447) (o1 := 0) (o2 := 110) (m := ctM_statement_22) (ar := ctH_statement.ar.tail) (a := .c (-3)) (kn := kn_statement_22) (kn' := knE_statement_22) cM_statement_22 rfl rfl rfl (by decide +kernel) f4 f5 k2 f3 rfl
    exact ⟨r, e, q.mono (fun v' σ2 hq => ⟨⟨r, hq.1⟩, hq.2.1, hq.2.2, Eqs.nil⟩)⟩
  rcases List.mem_cons.mp f2 with rfl | f2
  · obtain ⟨r, e, q⟩ := pair_i (E := E) (z := 447) (o1 := 0) (o2 := 110) (m := ctM_statement_23) (ar := ctH_statement.ar.tail) (a := v9_6) (kn := kn_statement_23) (kn' := knE_statement_23) cM_statement_23 rfl rfl rfl (by decide +kernel) f4 f5 k2 f3 rfl
    exact ⟨r, e, q.mono (fun v' σ2 hq => ⟨⟨r, hq.1⟩, hq.2.1, hq.2.2, Eqs.nil⟩)⟩
  rcases List.mem_cons.mp f2 with rfl | f2
  · obtain ⟨r, e, q⟩ := pair_i (E := E) (z := 447) (o1 := 0) (o2 := 110) (m := ctM_statement_24) (ar := ctH_statement.ar.tail) (a := .c (-1)) (kn := kn_statement_24) (kn' := knE_statement_24) cM_statement_24 rfl rfl rfl (by decide +kernel) f4 f5 k2 f3 rfl
    exact ⟨r, e, q.mono (fun v' σ2 hq => ⟨⟨r, hq.1⟩, hq.2.1, hq.2.2, Eqs.nil⟩)⟩
  rcases List.mem_cons.mp f2 with rfl | f2
  · obtain ⟨r, e, q⟩ := pair_i (E := E) (z := 447) (o1 := 0) (o2 := 110) (m := ctM_statement_25) (ar := ctH_statement.ar.tail) (a := .c (-1)) (kn := kn_statement_25) (kn' := knE_statement_25) cM_statement_25 rfl rfl rfl (by decide +kernel) f4 f5 k2 f3 rfl
    exact ⟨r, e, q.mono (fun v' σ2 hq => ⟨⟨r, hq.1⟩, hq.2.1, hq.2.2, Eqs.nil⟩)⟩
  rcases List.mem_cons.mp f2 with rfl | f2
  · obtain ⟨r, e, q⟩ := pair_i (E := E) (z := 447) (o1 := 0) (o2 := 110) (m := ctM_statement_26) (ar := ctH_statement.ar.tail) (a := .c (-1)) (kn := kn_statement_26) (kn' := knE_statement_26) cM_statement_26 rfl rfl rfl (by decide +kernel) f4 f5 k2 f3 rfl
    exact ⟨r, e, q.mono (fun v' σ2 hq => ⟨⟨r, hq.1⟩, hq.2.1, hq.2.2, Eqs.nil⟩)⟩
  rcases List.mem_cons.mp f2 with rfl | f2
  · obtain ⟨r, e, q⟩ := pair_i (E := E) (z := 447) (o1 := 0) (o2 := 110) (m := ctM_statement_27) (ar := ctH_statement.ar.tail) (a := .c (-1)) (kn := kn_statement_27) (kn' := knE_statement_27) cM_statement_27 rfl rfl rfl (by decide +kernel) f4 f5 k2 f3 rfl
    exact ⟨r, e, q.mono (fun v' σ2 hq => ⟨⟨r, hq.1⟩, hq.2.1, hq.2.2, Eqs.nil⟩)⟩
  rcases List.mem_cons.mp f2 with rfl | f2
  · obtain ⟨r, e, q⟩ := pair_i (E := E) (z := 447) (o1 := 0) (o2 := 110) (m := ctM_statement_28) (ar := ctH_statement.ar.tail) (a := .c (-1)) (kn := kn_statement_28) (kn' := knE_statement_28) cM_statement_28 rfl rfl rfl (by decide +kernel) f4 f5 k2 f3 rfl
    exact ⟨r, e, q.mono (fun v' σ2 hq => ⟨⟨r, hq.1⟩, hq.2.1, hq.2.2, Eqs.nil⟩)⟩
  rcases List.mem_cons.mp f2 with rfl | f2
  · obtain ⟨r, e, q⟩ := pair_i (E := E) (z := 447) (o1 := 0) (o2 := 110) (m := ctM_statement_29) (ar := ctH_statement.ar.tail) (a := .c (-1)) (kn := kn_statement_29) (kn' := knE_statement_29) cM_statement_29 rfl rfl rfl (by decide +kernel) f4 f5 k2 f3 rfl
    exact ⟨r, e, q.mono (fun v' σ2 hq => ⟨⟨r, hq.1⟩, hq.2.1, hq.2.2, Eqs.nil⟩)⟩
  rcases List.mem_cons.mp f2 with rfl | f2
  · obtain ⟨r, e, q⟩ := pair_i (E := E) (z := 447) (o1 := 0) (o2 := 110) (m := ctM_statement_30) (ar := ctH_statement.ar.tail) (a := .c (-1)) (kn := kn_statement_30) (kn' := knE_statement_30) cM_statement_30 rfl rfl rfl (by decide +kernel) f4 f5 k2 f3 rfl
    exact ⟨r, e, q.mono (fun v' σ2 hq => ⟨⟨r, hq.1⟩, hq.2.1, hq.2.2, Eqs.nil⟩)⟩
  rcases List.mem_cons.mp f2 with rfl | f2
  · obtain ⟨r, e, q⟩ := pair_i (E := E) (z := 447) (o1 := 0) (o2 := 110) (m := ctM_statement_31) (ar := ctH_statement.ar.tail) (a := .c (-1)) (kn := kn_statement_31) (kn' := knE_statement_31) cM_statement_31 rfl rfl rfl (by decide +kernel) f4 f5 k2 f3 rfl
    exact ⟨r, e, q.mono (fun v' σ2 hq => ⟨⟨r, hq.1⟩, hq.2.1, hq.2.2, Eqs.nil⟩)⟩
  · cases f2
theorem LC_61_ok {E : xV} {σ : zS} (h : J0 σ) : LC_61 E σ J0 := by
  obtain ⟨k1, k2⟩ := pub_ok (J := JJ) (q := ctH_erase) (o := 0) (as := []) (ds := [[(0, 200)], [(0, 200)]]) (ks := [(5, 2), (110, 8)]) (σ := σ) (show pubOk ctH_erase 0 [] [[(0, 200)], [(0, 200)]] [(5, 2), (110, 8)] = true by decide +kernel) ⟨r0 h.2.1 (k := (5, 2)) (by decide), r0 h.2.1 (k := (110, 8)) (by decide), trivial⟩ h.1
  refine (cH_erase (E := E) _ σ _ k1 k2).mono (fun v σ1 hv => ?_)
  obtain ⟨_, al, f2, ρ1, f3, f4, f5⟩ := hv
  rcases List.mem_cons.mp f2 with rfl | f2
  · obtain ⟨r, e, q⟩ := pair_i (E := E) (z := 448) (o1 := 0) (o2 := 110) (m := ctM_erase_0) (ar := ctH_erase.ar.tail) (a := v9_2) (kn := kn_erase_0) (kn' := knE_erase_0) cM_erase_0 rfl rfl rfl (by decide +kernel) f4 f5 k2 f3 rfl
    exact ⟨r, e, q.mono (fun v' σ2 hq => ⟨⟨r, hq.1⟩, hq.2.1, hq.2.2, Eqs.nil⟩)⟩
  · cases f2
theorem LC_63_ok {E : xV} {σ : zS} (h : J0 σ) : LC_63 E σ J0 := by
  obtain ⟨k1, k2⟩ := pub_ok (J := JJ) (q := ctH_lowered) (o := 0) (as := []) (ds := [[(0, 200)], [(0, 200)]]) (ks := [(5, 2), (110, 8)]) (σ := σ) (show pubOk ctH_lowered 0 [] [[(0, 200)], [(0, 200)]] [(5, 2), (110, 8)] = true by decide +kernel) ⟨r0 h.2.1 (k := (5, 2)) (by decide), r0 h.2.1 (k := (110, 8)) (by decide), trivial⟩ h.1
  refine (cH_lowered (E := E) _ σ _ k1 k2).mono (fun v σ1 hv => ?_)
  obtain ⟨_, al, f2, ρ1, f3, f4, f5⟩ := hv
  rcases List.mem_cons.mp f2 with rfl | f2
  · obtain ⟨r, e, q⟩ := pair_i (E := E) (z := 450) (o1 := 0) (o2 := 110) (m := ctM_lowered_0) (ar := ctH_lowered.ar.tail) (a := v9_2) (kn := kn_lowered_0) (kn' := knE_lowered_0) cM_lowered_0 rfl rfl rfl (by decide +kernel) f4 f5 k2 f3 rfl
    exact ⟨r, e, q.mono (fun v' σ2 hq => ⟨hq.1, hq.2.1, hq.2.2, Eqs.nil⟩)⟩
  · cases f2
