theorem LC_3_ok {E : xV} {σ : zS} (h : J0 σ) : LC_3 E σ J0 := by
  obtain ⟨k1, k2⟩ := pub_ok (J := JJ) (q := ctH_person) (o := 0) (as := []) (ds := [[(0, 200)], [(0, 200)]]) (ks := [(5, 2), (110, 8)]) (σ := σ) (show pubOk ctH_person 0 [] [[(0, 200)], [(0, 200)]] [(5, 2), (110, 8)] = true by decide +kernel) ⟨r0 h.2.1 (k := (5, 2)) (by decide), r0 h.2.1 (k := (110, 8)) (by decide), trivial⟩ h.1
  refine (cH_person (E := E) _ σ _ k1 k2).mono (fun v σ1 hv => ?_)
  obtain ⟨_, al, f2, ρ1, f3, f4, f5⟩ := hv
  rcases List.mem_cons.mp f2 with rfl | f2
  · obtain ⟨r, e, q⟩ := pair_i (E := E) (z := 312) (o1 := 0) (o2 := 110) (m := ctM_person_0) (ar := ctH_person.ar.tail) (a := .c (-3)) (kn := kn_person_0) (kn' := knE_person_0) cM_person_0 rfl rfl rfl (by decide +kernel) f4 f5 k2 f3 rfl
    exact ⟨r, e, q.mono (fun v' σ2 hq => ⟨⟨r, hq.1⟩, hq.2.1, hq.2.2, Eqs.nil⟩)⟩
  rcases List.mem_cons.mp f2 with rfl | f2
  · obtain ⟨r, e, q⟩ := pair_i (E := E) (z := 312) (o1 := 0) (o2 := 110) (m := ctM_person_1) (ar := ctH_person.ar.tail) (a := v9_2) (kn := kn_person_1) (kn' := knE_person_1) cM_person_1 rfl rfl rfl (by decide +kernel) f4 f5 k2 f3 rfl
    exact ⟨r, e, q.mono (fun v' σ2 hq => ⟨⟨r, hq.1⟩, hq.2.1, hq.2.2, Eqs.nil⟩)⟩
  · cases f2
theorem LC_68_ok {E : xV} {σ : zS} (h : J0 σ) : LC_68 E σ J0 := by
  intro x0 x1
  obtain ⟨k1, k2⟩ := pub_ok (J := JJ) (q := ctH_guarded) (o := 0) (as := [.inl x0, .inr x1]) (ds := [T32, T64, [(0, 200)], [(0, 200)]]) (ks := [(5, 2), (110, 8)]) (σ := σ) (show pubOk ctH_guarded 0 [false, true] [T32, T64, [(0, 200)], [(0, 200)]] [(5, 2), (110, 8)] = true by decide +kernel) ⟨in32 _, in64 _, r0 h.2.1 (k := (5, 2)) (by decide), r0 h.2.1 (k := (110, 8)) (by decide), trivial⟩ h.1
  refine (cH_guarded (E := E) _ σ _ k1 k2).mono (fun v σ1 hv => ?_)
  obtain ⟨_, al, f2, ρ1, f3, f4, f5⟩ := hv
  rcases List.mem_cons.mp f2 with rfl | f2
  · obtain ⟨r, e, q⟩ := pair_l (E := E) (z := 456) (o1 := 0) (o2 := 110) (m := ctM_guarded_0) (ar := ctH_guarded.ar.tail) (a := .l 4 0) (kn := kn_guarded_0) (kn' := knE_guarded_0) cM_guarded_0 rfl rfl rfl (by decide +kernel) f4 f5 k2 f3 rfl
    exact ⟨r, e, q.mono (fun v' σ2 hq => ⟨hq.1, hq.2.1, hq.2.2, Eqs.nil⟩)⟩
  rcases List.mem_cons.mp f2 with rfl | f2
  · obtain ⟨r, e, q⟩ := pair_l (E := E) (z := 456) (o1 := 0) (o2 := 110) (m := ctM_guarded_1) (ar := ctH_guarded.ar.tail) (a := .k (-1)) (kn := kn_guarded_1) (kn' := knE_guarded_1) cM_guarded_1 rfl rfl rfl (by decide +kernel) f4 f5 k2 f3 rfl
    exact ⟨r, e, q.mono (fun v' σ2 hq => ⟨hq.1, hq.2.1, hq.2.2, Eqs.nil⟩)⟩
  rcases List.mem_cons.mp f2 with rfl | f2
  · obtain ⟨r, e, q⟩ := pair_l (E := E) (z := 456) (o1 := 0) (o2 := 110) (m := ctM_guarded_2) (ar := ctH_guarded.ar.tail) (a := .k (-1)) (kn := kn_guarded_2) (kn' := knE_guarded_2) cM_guarded_2 rfl rfl rfl (by decide +kernel) f4 f5 k2 f3 rfl
    exact ⟨r, e, q.mono (fun v' σ2 hq => ⟨hq.1, hq.2.1, hq.2.2, Eqs.nil⟩)⟩
  · cases f2
