theorem LC_56_ok {E : xV} {σ : zS} (h : J0 σ) : LC_56 E σ J0 := by
  intro x0 x1 x2
  obtain ⟨k1, k2⟩ := pub_ok (J := JJ) (q := ctH_key) (o := 0) (as := [.inl x0, .inl x1, .inl x2]) (ds := [T32, T32, T32, [(0, 200)], [(0, 200)]]) (ks := [(5, 2), (110, 8)]) (σ := σ) (show pubOk ctH_key 0 [false, false, false] [T32, T32, T32, [(0, 200)], [(0, 200)]] [(5, 2), (110, 8)] = true by decide +kernel) ⟨in32 _, in32 _, in32 _, r0 h.2.1 (k := (5, 2)) (by decide), r0 h.2.1 (k := (110, 8)) (by decide), trivial⟩ h.1
  refine (cH_key (E := E) _ σ _ k1 k2).mono (fun v σ1 hv => ?_)
  obtain ⟨_, al, f2, ρ1, f3, f4, f5⟩ := hv
  rcases List.mem_cons.mp f2 with rfl | f2
  · obtain ⟨r, e, q⟩ := pair_i (E := E) (z := 440) (o1 := 0) (o2 := 110) (m := ctM_key_0) (ar := ctH_key.ar.tail) (a := .c (-1)) (kn := kn_key_0) (kn' := knE_key_0) cM_key_0 rfl rfl rfl (by decide +kernel) f4 f5 k2 f3 rfl
    exact ⟨r, e, q.mono (fun v' σ2 hq => ⟨hq.1, hq.2.1, hq.2.2, Eqs.nil⟩)⟩
  rcases List.mem_cons.mp f2 with rfl | f2
  · obtain ⟨r, e, q⟩ := pair_i (E := E) (z := 440) (o1 := 0) (o2 := 110) (m := ctM_key_1) (ar := ctH_key.ar.tail) (a := v9_5) (kn := kn_key_1) (kn' := knE_key_1) cM_key_1 rfl rfl rfl (by decide +kernel) f4 f5 k2 f3 rfl
    exact ⟨r, e, q.mono (fun v' σ2 hq => ⟨hq.1, hq.2.1, hq.2.2, Eqs.nil⟩)⟩
  rcases List.mem_cons.mp f2 with rfl | f2
  · obtain ⟨r, e, q⟩ := pair_i (E := E) (z := 440) (o1 := 0) (o2 := 110) (m := ctM_key_2) (ar := ctH_key.ar.tail) (a := .c (-1)) (kn := kn_key_2) (kn' := knE_key_2) cM_key_2 rfl rfl rfl (by decide +kernel) f4 f5 k2 f3 rfl
    exact ⟨r, e, q.mono (fun v' σ2 hq => ⟨hq.1, hq.2.1, hq.2.2, Eqs.nil⟩)⟩
  rcases List.mem_cons.mp f2 with rfl | f2
  · obtain ⟨r, e, q⟩ := pair_i (E := E) (z := 440) (o1 := 0) (o2 := 110) (m := ctM_key_3) (ar := ctH_key.ar.tail) (a := .c (-1)) (kn := kn_key_3) (kn' := knE_key_3) cM_key_3 rfl rfl rfl (by decide +kernel) f4 f5 k2 f3 rfl
    exact ⟨r, e, q.mono (fun v' σ2 hq => ⟨hq.1, hq.2.1, hq.2.2, Eqs.nil⟩)⟩
  rcases List.mem_cons.mp f2 with rfl | f2
  · obtain ⟨r, e, q⟩ := pair_i (E := E) (z := 440) (o1 := 0) (o2 := 110) (m := ctM_key_4) (ar := ctH_key.ar.tail) (a := .c (-1)) (kn := kn_key_4) (kn' := knE_key_4) cM_key_4 rfl rfl rfl (by decide +kernel) f4 f5 k2 f3 rfl
    exact ⟨r, e, q.mono (fun v' σ2 hq => ⟨hq.1, hq.2.1, hq.2.2, Eqs.nil⟩)⟩
  rcases List.mem_cons.mp f2 with rfl | f2
  · obtain ⟨r, e, q⟩ := pair_i (E := E) (z := 440) (o1 := 0) (o2 := 110) (m := ctM_key_5) (ar := ctH_key.ar.tail) (a := v9_5) (kn := kn_key_5) (kn' := knE_key_5) cM_key_5 rfl rfl rfl (by decide +kernel) f4 f5 k2 f3 rfl
    exact ⟨r, e, q.mono (fun v' σ2 hq => ⟨hq.1, hq.2.1, hq.2.2, Eqs.nil⟩)⟩
  rcases List.mem_cons.mp f2 with rfl | f2
  · obtain ⟨r, e, q⟩ := pair_i (E := E) (z := 440) (o1 := 0) (o2 := 110) (m := ctM_key_6) (ar := ctH_key.ar.tail) (a := .c (-1)) (kn := kn_key_6) (kn' := knE_key_6) cM_key_6 rfl rfl rfl (by decide +kernel) f4 f5 k2 f3 rfl
    exact ⟨r, e, q.mono (fun v' σ2 hq => ⟨hq.1, hq.2.1, hq.2.2, Eqs.nil⟩)⟩
  rcases List.mem_cons.mp f2 with rfl | f2
  · obtain ⟨r, e, q⟩ := pair_i (E := E) (z := 440) (o1 := 0) (o2 := 110) (m := ctM_key_7) (ar := ctH_key.ar.tail) (a := .c (-1)) (kn := kn_key_7) (kn' := knE_key_7) cM_key_7 rfl rfl rfl (by decide +kernel) f4 f5 k2 f3 rfl
    exact ⟨r, e, q.mono (fun v' σ2 hq => ⟨hq.1, hq.2.1, hq.2.2, Eqs.nil⟩)⟩
  rcases List.mem_cons.mp f2 with rfl | f2
  · obtain ⟨r, e, q⟩ := pair_i (E := E) (z := 440) (o1 := 0) (o2 := 110) (m := ctM_key_8) (ar := ctH_key.ar.tail) (a := .c (-1)) (kn := kn_key_8) (kn' := knE_key_8) cM_key_8 rfl rfl rfl (by decide +kernel) f4 f5 k2 f3 rfl
    exact ⟨r, e, q.mono (fun v' σ2 hq => ⟨hq.1, hq.2.1, hq.2.2, Eqs.nil⟩)⟩
  rcases List.mem_cons.mp f2 with rfl | f2
  · obtain ⟨r, e, q⟩ := pair_i (E := E) (z := 440) (o1 := 0) (o2 := 110) (m := ctM_key_9) (ar := ctH_key.ar.tail) (a := .c (-1)) (kn := kn_key_9) (kn' := knE_key_9) cM_key_9 rfl rfl rfl (by decide +kernel) f4 f5 k2 f3 rfl
    exact ⟨r, e, q.mono (fun v' σ2 hq => ⟨hq.1, hq.2.1, hq.2.2, Eqs.nil⟩)⟩
  rcases List.mem_cons.mp f2 with rfl | f2
  · obtain ⟨r, e, q⟩ := pair_i (E := E) (z := 440) (o1 := 0) (o2 := 110) (m := ctM_key_10) (ar := ctH_key.ar.tail) (a := .c (-1)) (kn := kn_key_10) (kn' := knE_key_10) cM_key_10 rfl rfl rfl (by decide +kernel) f4 f5 k2 f3 rfl
    exact ⟨r, e, q.mono (fun v' σ2 hq => ⟨hq.1, hq.2.1, hq.2.2, Eqs.nil⟩)⟩
  · cases f2
