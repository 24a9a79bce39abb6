noncomputable section
def F_person_0 (persons : Int) : Int := if persons = 20 then (-3) else if 0 ≤ persons ∧ persons ≤ 19 then persons else 0
def F_person_persons (persons : Int) : Int := if persons = 20 then persons else if 0 ≤ persons ∧ persons ≤ 19 then persons+1 else 0
theorem H_person_end {J : Jt} {ρ ρ'' : List Int} {σ' : zS} {persons : Int} {r : Option Value} {al : Al} (hal : al ∈ ct_H_person.al) (hp : Pre ρ ρ'') (h0 : ρ[0]? = some persons) (hk : Ko J al.2 ρ'' σ') (hr : Rs ρ'' al.1 r.toList) : ∃ y : Int32, r = some (.int y) ∧ F_person_0 persons = y.toInt ∧ F_person_persons persons = (σ'.1 5 0).toInt := by
  have e0 := hp.at h0
  rcases List.mem_cons.mp hal with rfl | hal
  · obtain ⟨w, l, q1, q2, q3⟩ := Rs.cons hr
    obtain ⟨y, rfl, q4⟩ := q2.int rfl
    have hr2 : r = some (.int y) := by
      cases r with
      | none => cases q1
      | some r => cases q1; rfl
    have x0 := inD_one (en_c hk (d := [(20, 20)]) (by decide +kernel) e0)
    have hy : (-3 : Int) = y.toInt := Option.some.inj q4
    have m_persons := me_i hk (k := 5) (j := 0) (i := 0) (o := 0) (List.mem_of_getElem? (i := 0) rfl) e0
    refine ⟨y, hr2, ?_, ?_⟩
    · unfold F_person_0
      exact (if_pos (by omega)).trans (by omega)
    · unfold F_person_persons
      exact (if_pos (by omega)).trans (by omega)
  rcases List.mem_cons.mp hal with rfl | hal
  · obtain ⟨w, l, q1, q2, q3⟩ := Rs.cons hr
    obtain ⟨y, rfl, q4⟩ := q2.int rfl
    have hr2 : r = some (.int y) := by
      cases r with
      | none => cases q1
      | some r => cases q1; rfl
    have x0 := inD_one (en_c hk (d := [(0, 19)]) (by decide +kernel) e0)
    have hy := ret_i (i := 0) (o := 0) q4 e0
    have m_persons := me_i hk (k := 5) (j := 0) (i := 0) (o := 1) (List.mem_of_getElem? (i := 0) rfl) e0
    refine ⟨y, hr2, ?_, ?_⟩
    · unfold F_person_0
      refine (if_neg (by omega)).trans ?_
      exact (if_pos (by omega)).trans (by omega)
    · unfold F_person_persons
      refine (if_neg (by omega)).trans ?_
      exact (if_pos (by omega)).trans (by omega)
  · cases hal
theorem M_person_end {J : Jt} {ρ ρ'' : List Int} {σ' : zS} {persons : Int} {r : Option Value} {al : Al} (hal : al ∈ ct_M_person.al) (hp : Pre ρ ρ'') (h0 : ρ[0]? = some persons) (hk : Ko J al.2 ρ'' σ') (hr : Rs ρ'' al.1 r.toList) : ∃ y : Int32, r = some (.int y) ∧ F_person_0 persons = y.toInt ∧ F_person_persons persons = (σ'.1 110 6).toInt := by
  have e0 := hp.at h0
  rcases List.mem_cons.mp hal with rfl | hal
  · obtain ⟨w, l, q1, q2, q3⟩ := Rs.cons hr
    obtain ⟨y, rfl, q4⟩ := q2.int rfl
    have hr2 : r = some (.int y) := by
      cases r with
      | none => cases q1
      | some r => cases q1; rfl
    have x0 := inD_one (en_c hk (d := [(20, 20)]) (by decide +kernel) e0)
    have hy : (-3 : Int) = y.toInt := Option.some.inj q4
    have m_persons := me_i hk (k := 110) (j := 6) (i := 0) (o := 0) (List.mem_of_getElem? (i := 0) rfl) e0
    refine ⟨y, hr2, ?_, ?_⟩
    · unfold F_person_0
      exact (if_pos (by omega)).trans (by omega)
    · unfold F_person_persons
      exact (if_pos (by omega)).trans (by omega)
  rcases List.mem_cons.mp hal with rfl | hal
  · obtain ⟨w, l, q1, q2, q3⟩ := Rs.cons hr
    obtain ⟨y, rfl, q4⟩ := q2.int rfl
    have hr2 : r = some (.int y) := by
      cases r with
      | none => cases q1
      | some r => cases q1; rfl
    have x0 := inD_one (en_c hk (d := [(0, 19)]) (by decide +kernel) e0)
    have hy := ret_i (i := 0) (o := 0) q4 e0
    have m_persons := me_i hk (k := 110) (j := 6) (i := 0) (o := 1) (List.mem_of_getElem? (i := 0) rfl) e0
    refine ⟨y, hr2, ?_, ?_⟩
    · unfold F_person_0
      refine (if_neg (by omega)).trans ?_
      exact (if_pos (by omega)).trans (by omega)
    · unfold F_person_persons
      refine (if_neg (by omega)).trans ?_
      exact (if_pos (by omega)).trans (by omega)
  · cases hal
theorem LC_3_ok {E : xV} {σ : zS} (h : J0 σ) : LC_3 E σ J0 := by
  obtain ⟨k1, k2⟩ := pub_ok (J := JJ) (q := ct_H_person) (o := 0) (as := []) (ds := [[(0, 20)], [(0, 200)], [(0, 200)]]) (ks := [(5, 0), (110, 8), (5, 2)]) (σ := σ) (show pubOk ct_H_person 0 [] [[(0, 20)], [(0, 200)], [(0, 200)]] [(5, 0), (110, 8), (5, 2)] = true by decide +kernel) ⟨fld_in h.1 (k := 5) (j := 0) (by decide +kernel), r0 h.2.1 (k := (110, 8)) (by decide), r0 h.2.1 (k := (5, 2)) (by decide), trivial⟩ h.1
  refine (all_ct 7 _ rfl _ σ _ k1 k2).mono (fun va σ1 hv => ?_)
  obtain ⟨fa, al, f2, ρ1, f3, f4, f5⟩ := hv
  obtain ⟨_, _, g3a, g4a⟩ := endOk_ok (t := 1) (ks := KS) (List.all_eq_true.mp (show (ct_H_person.al.all fun al => endOk 1 al KS) = true by decide +kernel) al f2) f4 f5
  obtain ⟨ya, rfl, hya, t0a⟩ := H_person_end (persons := (σ.1 5 0).toInt) f2 f3 rfl f4 f5
  have fra : ∀ k j, isS (ct_H_person.w.get (GX.g.key k j)) = false → σ1.1 k j = σ.1 k j := fun k j hw => (fa k j (fun hq => by rw [hq.1] at hw; cases hw)).1
  refine ⟨ya, rfl, ?_⟩
  obtain ⟨m1, m2⟩ := pub_ok (J := JJ) (q := ct_M_person) (o := 110) (as := []) (ds := [[(0, 20)], [(0, 200)], [(0, 200)]]) (ks := [(110, 6), (110, 8), (5, 2)]) (σ := σ1) (show pubOk ct_M_person 110 [] [[(0, 20)], [(0, 200)], [(0, 200)]] [(110, 6), (110, 8), (5, 2)] = true by decide +kernel) ⟨fld_in g4a (k := 110) (j := 6) (by decide +kernel), r0 g3a (k := (110, 8)) (by decide), r0 g3a (k := (5, 2)) (by decide), trivial⟩ g4a
  refine (all_ct 312 _ rfl _ σ1 _ m1 m2).mono (fun vb σ2 hv => ?_)
  obtain ⟨fb, al, f2, ρ1, f3, f4, f5⟩ := hv
  obtain ⟨_, _, g3b, g4b⟩ := endOk_ok (t := 1) (ks := KS) (List.all_eq_true.mp (show (ct_M_person.al.all fun al => endOk 1 al KS) = true by decide +kernel) al f2) f4 f5
  obtain ⟨yb, rfl, hyb, t0b⟩ := M_person_end (persons := (σ1.1 110 6).toInt) f2 f3 rfl f4 f5
  have frb : ∀ k j, isS (ct_M_person.w.get (GX.g.key k j)) = false → σ2.1 k j = σ1.1 k j := fun k j hw => (fb k j (fun hq => by rw [hq.1] at hw; cases hw)).1
  have u0 : (σ1.1 110 6).toInt = (σ.1 5 0).toInt := by rw [fra 110 6 (by decide +kernel)]; exact (h.2.2 ((5, 0), (110, 6)) (by decide +kernel)).symm
  have w0 : (σ2.1 5 0).toInt = (σ1.1 5 0).toInt := by rw [frb 5 0 (by decide +kernel)]
  refine ⟨?_, g4b, g3b, ?_⟩
  · exact ⟨yb, rfl⟩
  · refine Eqs.two (l := [((5, 0), (110, 6))]) (m := [((0, 2), (110, 0)), ((5, 1), (110, 7)), ((34, 1), (110, 77)), ((34, 6), (110, 82)), ((41, 1), (110, 85)), ((98, 0), (110, 136)), ((98, 2), (110, 138))]) ?_ (((h.2.2.sub (by decide +kernel)).keep (q := ct_H_person) (by decide +kernel) fra).keep (q := ct_M_person) (by decide +kernel) frb) (by decide +kernel)
    refine Eqs.cons ?_ (Eqs.nil)
    · exact w0.trans (t0a.symm.trans (Eq.trans (by simp only [u0]) t0b))
def F_group_0 (groups : Int) : Int := if groups = 16 then (-3) else if 0 ≤ groups ∧ groups ≤ 15 then groups else 0
def F_group_groups (groups : Int) : Int := if groups = 16 then groups else if 0 ≤ groups ∧ groups ≤ 15 then groups+1 else 0
theorem H_group_end {J : Jt} {ρ ρ'' : List Int} {σ' : zS} {groups : Int} {r : Option Value} {al : Al} (hal : al ∈ ct_H_group.al) (hp : Pre ρ ρ'') (h0 : ρ[0]? = some groups) (hk : Ko J al.2 ρ'' σ') (hr : Rs ρ'' al.1 r.toList) : ∃ y : Int32, r = some (.int y) ∧ F_group_0 groups = y.toInt ∧ F_group_groups groups = (σ'.1 5 1).toInt := by
  have e0 := hp.at h0
  rcases List.mem_cons.mp hal with rfl | hal
  · obtain ⟨w, l, q1, q2, q3⟩ := Rs.cons hr
    obtain ⟨y, rfl, q4⟩ := q2.int rfl
    have hr2 : r = some (.int y) := by
      cases r with
      | none => cases q1
      | some r => cases q1; rfl
    have x0 := inD_one (en_c hk (d := [(16, 16)]) (by decide +kernel) e0)
    have hy : (-3 : Int) = y.toInt := Option.some.inj q4
    have m_groups := me_i hk (k := 5) (j := 1) (i := 0) (o := 0) (List.mem_of_getElem? (i := 0) rfl) e0
    refine ⟨y, hr2, ?_, ?_⟩
    · unfold F_group_0
      exact (if_pos (by omega)).trans (by omega)
    · unfold F_group_groups
      exact (if_pos (by omega)).trans (by omega)
  rcases List.mem_cons.mp hal with rfl | hal
  · obtain ⟨w, l, q1, q2, q3⟩ := Rs.cons hr
    obtain ⟨y, rfl, q4⟩ := q2.int rfl
    have hr2 : r = some (.int y) := by
      cases r with
      | none => cases q1
      | some r => cases q1; rfl
    have x0 := inD_one (en_c hk (d := [(0, 15)]) (by decide +kernel) e0)
    have hy := ret_i (i := 0) (o := 0) q4 e0
    have m_groups := me_i hk (k := 5) (j := 1) (i := 0) (o := 1) (List.mem_of_getElem? (i := 0) rfl) e0
    refine ⟨y, hr2, ?_, ?_⟩
    · unfold F_group_0
      refine (if_neg (by omega)).trans ?_
      exact (if_pos (by omega)).trans (by omega)
    · unfold F_group_groups
      refine (if_neg (by omega)).trans ?_
      exact (if_pos (by omega)).trans (by omega)
  · cases hal
theorem M_group_end {J : Jt} {ρ ρ'' : List Int} {σ' : zS} {groups : Int} {r : Option Value} {al : Al} (hal : al ∈ ct_M_group.al) (hp : Pre ρ ρ'') (h0 : ρ[0]? = some groups) (hk : Ko J al.2 ρ'' σ') (hr : Rs ρ'' al.1 r.toList) : ∃ y : Int32, r = some (.int y) ∧ F_group_0 groups = y.toInt ∧ F_group_groups groups = (σ'.1 110 7).toInt := by
  have e0 := hp.at h0
  rcases List.mem_cons.mp hal with rfl | hal
  · obtain ⟨w, l, q1, q2, q3⟩ := Rs.cons hr
    obtain ⟨y, rfl, q4⟩ := q2.int rfl
    have hr2 : r = some (.int y) := by
      cases r with
      | none => cases q1
      | some r => cases q1; rfl
    have x0 := inD_one (en_c hk (d := [(16, 16)]) (by decide +kernel) e0)
    have hy : (-3 : Int) = y.toInt := Option.some.inj q4
    have m_groups := me_i hk (k := 110) (j := 7) (i := 0) (o := 0) (List.mem_of_getElem? (i := 0) rfl) e0
    refine ⟨y, hr2, ?_, ?_⟩
    · unfold F_group_0
      exact (if_pos (by omega)).trans (by omega)
    · unfold F_group_groups
      exact (if_pos (by omega)).trans (by omega)
  rcases List.mem_cons.mp hal with rfl | hal
  · obtain ⟨w, l, q1, q2, q3⟩ := Rs.cons hr
    obtain ⟨y, rfl, q4⟩ := q2.int rfl
    have hr2 : r = some (.int y) := by
      cases r with
      | none => cases q1
      | some r => cases q1; rfl
    have x0 := inD_one (en_c hk (d := [(0, 15)]) (by decide +kernel) e0)
    have hy := ret_i (i := 0) (o := 0) q4 e0
    have m_groups := me_i hk (k := 110) (j := 7) (i := 0) (o := 1) (List.mem_of_getElem? (i := 0) rfl) e0
    refine ⟨y, hr2, ?_, ?_⟩
    · unfold F_group_0
      refine (if_neg (by omega)).trans ?_
      exact (if_pos (by omega)).trans (by omega)
    · unfold F_group_groups
      refine (if_neg (by omega)).trans ?_
      exact (if_pos (by omega)).trans (by omega)
  · cases hal
theorem LC_4_ok {E : xV} {σ : zS} (h : J0 σ) : LC_4 E σ J0 := by
  obtain ⟨k1, k2⟩ := pub_ok (J := JJ) (q := ct_H_group) (o := 0) (as := []) (ds := [[(0, 16)], [(0, 200)], [(0, 200)]]) (ks := [(5, 1), (110, 8), (5, 2)]) (σ := σ) (show pubOk ct_H_group 0 [] [[(0, 16)], [(0, 200)], [(0, 200)]] [(5, 1), (110, 8), (5, 2)] = true by decide +kernel) ⟨fld_in h.1 (k := 5) (j := 1) (by decide +kernel), r0 h.2.1 (k := (110, 8)) (by decide), r0 h.2.1 (k := (5, 2)) (by decide), trivial⟩ h.1
  refine (all_ct 8 _ rfl _ σ _ k1 k2).mono (fun va σ1 hv => ?_)
  obtain ⟨fa, al, f2, ρ1, f3, f4, f5⟩ := hv
  obtain ⟨_, _, g3a, g4a⟩ := endOk_ok (t := 1) (ks := KS) (List.all_eq_true.mp (show (ct_H_group.al.all fun al => endOk 1 al KS) = true by decide +kernel) al f2) f4 f5
  obtain ⟨ya, rfl, hya, t0a⟩ := H_group_end (groups := (σ.1 5 1).toInt) f2 f3 rfl f4 f5
  have fra : ∀ k j, isS (ct_H_group.w.get (GX.g.key k j)) = false → σ1.1 k j = σ.1 k j := fun k j hw => (fa k j (fun hq => by rw [hq.1] at hw; cases hw)).1
  refine ⟨ya, rfl, ?_⟩
  obtain ⟨m1, m2⟩ := pub_ok (J := JJ) (q := ct_M_group) (o := 110) (as := []) (ds := [[(0, 16)], [(0, 200)], [(0, 200)]]) (ks := [(110, 7), (110, 8), (5, 2)]) (σ := σ1) (show pubOk ct_M_group 110 [] [[(0, 16)], [(0, 200)], [(0, 200)]] [(110, 7), (110, 8), (5, 2)] = true by decide +kernel) ⟨fld_in g4a (k := 110) (j := 7) (by decide +kernel), r0 g3a (k := (110, 8)) (by decide), r0 g3a (k := (5, 2)) (by decide), trivial⟩ g4a
  refine (all_ct 313 _ rfl _ σ1 _ m1 m2).mono (fun vb σ2 hv => ?_)
  obtain ⟨fb, al, f2, ρ1, f3, f4, f5⟩ := hv
  obtain ⟨_, _, g3b, g4b⟩ := endOk_ok (t := 1) (ks := KS) (List.all_eq_true.mp (show (ct_M_group.al.all fun al => endOk 1 al KS) = true by decide +kernel) al f2) f4 f5
  obtain ⟨yb, rfl, hyb, t0b⟩ := M_group_end (groups := (σ1.1 110 7).toInt) f2 f3 rfl f4 f5
  have frb : ∀ k j, isS (ct_M_group.w.get (GX.g.key k j)) = false → σ2.1 k j = σ1.1 k j := fun k j hw => (fb k j (fun hq => by rw [hq.1] at hw; cases hw)).1
  have u0 : (σ1.1 110 7).toInt = (σ.1 5 1).toInt := by rw [fra 110 7 (by decide +kernel)]; exact (h.2.2 ((5, 1), (110, 7)) (by decide +kernel)).symm
  have w0 : (σ2.1 5 1).toInt = (σ1.1 5 1).toInt := by rw [frb 5 1 (by decide +kernel)]
  refine ⟨?_, g4b, g3b, ?_⟩
  · exact ⟨yb, rfl⟩
  · refine Eqs.two (l := [((5, 1), (110, 7))]) (m := [((0, 2), (110, 0)), ((5, 0), (110, 6)), ((34, 1), (110, 77)), ((34, 6), (110, 82)), ((41, 1), (110, 85)), ((98, 0), (110, 136)), ((98, 2), (110, 138))]) ?_ (((h.2.2.sub (by decide +kernel)).keep (q := ct_H_group) (by decide +kernel) fra).keep (q := ct_M_group) (by decide +kernel) frb) (by decide +kernel)
    refine Eqs.cons ?_ (Eqs.nil)
    · exact w0.trans (t0a.symm.trans (Eq.trans (by simp only [u0]) t0b))
def F_work_0 (works : Int) : Int := if works = 4 then (-3) else if 0 ≤ works ∧ works ≤ 3 then works else 0
def F_work_works (works : Int) : Int := if works = 4 then works else if 0 ≤ works ∧ works ≤ 3 then works+1 else 0
theorem H_work_end {J : Jt} {ρ ρ'' : List Int} {σ' : zS} {works : Int} {r : Option Value} {al : Al} (hal : al ∈ ct_H_work.al) (hp : Pre ρ ρ'') (h0 : ρ[0]? = some works) (hk : Ko J al.2 ρ'' σ') (hr : Rs ρ'' al.1 r.toList) : ∃ y : Int32, r = some (.int y) ∧ F_work_0 works = y.toInt ∧ F_work_works works = (σ'.1 41 1).toInt := by
  have e0 := hp.at h0
  rcases List.mem_cons.mp hal with rfl | hal
  · obtain ⟨w, l, q1, q2, q3⟩ := Rs.cons hr
    obtain ⟨y, rfl, q4⟩ := q2.int rfl
    have hr2 : r = some (.int y) := by
      cases r with
      | none => cases q1
      | some r => cases q1; rfl
    have x0 := inD_one (en_c hk (d := [(4, 4)]) (by decide +kernel) e0)
    have hy : (-3 : Int) = y.toInt := Option.some.inj q4
    have m_works := me_i hk (k := 41) (j := 1) (i := 0) (o := 0) (List.mem_of_getElem? (i := 0) rfl) e0
    refine ⟨y, hr2, ?_, ?_⟩
    · unfold F_work_0
      exact (if_pos (by omega)).trans (by omega)
    · unfold F_work_works
      exact (if_pos (by omega)).trans (by omega)
  rcases List.mem_cons.mp hal with rfl | hal
  · obtain ⟨w, l, q1, q2, q3⟩ := Rs.cons hr
    obtain ⟨y, rfl, q4⟩ := q2.int rfl
    have hr2 : r = some (.int y) := by
      cases r with
      | none => cases q1
      | some r => cases q1; rfl
    have x0 := inD_one (en_c hk (d := [(0, 3)]) (by decide +kernel) e0)
    have hy := ret_i (i := 0) (o := 0) q4 e0
    have m_works := me_i hk (k := 41) (j := 1) (i := 0) (o := 1) (List.mem_of_getElem? (i := 0) rfl) e0
    refine ⟨y, hr2, ?_, ?_⟩
    · unfold F_work_0
      refine (if_neg (by omega)).trans ?_
      exact (if_pos (by omega)).trans (by omega)
    · unfold F_work_works
      refine (if_neg (by omega)).trans ?_
      exact (if_pos (by omega)).trans (by omega)
  · cases hal
theorem M_work_end {J : Jt} {ρ ρ'' : List Int} {σ' : zS} {works : Int} {r : Option Value} {al : Al} (hal : al ∈ ct_M_work.al) (hp : Pre ρ ρ'') (h0 : ρ[0]? = some works) (hk : Ko J al.2 ρ'' σ') (hr : Rs ρ'' al.1 r.toList) : ∃ y : Int32, r = some (.int y) ∧ F_work_0 works = y.toInt ∧ F_work_works works = (σ'.1 110 85).toInt := by
  have e0 := hp.at h0
  rcases List.mem_cons.mp hal with rfl | hal
  · obtain ⟨w, l, q1, q2, q3⟩ := Rs.cons hr
    obtain ⟨y, rfl, q4⟩ := q2.int rfl
    have hr2 : r = some (.int y) := by
      cases r with
      | none => cases q1
      | some r => cases q1; rfl
    have x0 := inD_one (en_c hk (d := [(4, 4)]) (by decide +kernel) e0)
    have hy : (-3 : Int) = y.toInt := Option.some.inj q4
    have m_works := me_i hk (k := 110) (j := 85) (i := 0) (o := 0) (List.mem_of_getElem? (i := 0) rfl) e0
    refine ⟨y, hr2, ?_, ?_⟩
    · unfold F_work_0
      exact (if_pos (by omega)).trans (by omega)
    · unfold F_work_works
      exact (if_pos (by omega)).trans (by omega)
  rcases List.mem_cons.mp hal with rfl | hal
  · obtain ⟨w, l, q1, q2, q3⟩ := Rs.cons hr
    obtain ⟨y, rfl, q4⟩ := q2.int rfl
    have hr2 : r = some (.int y) := by
      cases r with
      | none => cases q1
      | some r => cases q1; rfl
    have x0 := inD_one (en_c hk (d := [(0, 3)]) (by decide +kernel) e0)
    have hy := ret_i (i := 0) (o := 0) q4 e0
    have m_works := me_i hk (k := 110) (j := 85) (i := 0) (o := 1) (List.mem_of_getElem? (i := 0) rfl) e0
    refine ⟨y, hr2, ?_, ?_⟩
    · unfold F_work_0
      refine (if_neg (by omega)).trans ?_
      exact (if_pos (by omega)).trans (by omega)
    · unfold F_work_works
      refine (if_neg (by omega)).trans ?_
      exact (if_pos (by omega)).trans (by omega)
  · cases hal
theorem LC_41_ok {E : xV} {σ : zS} (h : J0 σ) : LC_41 E σ J0 := by
  obtain ⟨k1, k2⟩ := pub_ok (J := JJ) (q := ct_H_work) (o := 0) (as := []) (ds := [[(0, 4)], [(0, 200)], [(0, 200)]]) (ks := [(41, 1), (110, 8), (5, 2)]) (σ := σ) (show pubOk ct_H_work 0 [] [[(0, 4)], [(0, 200)], [(0, 200)]] [(41, 1), (110, 8), (5, 2)] = true by decide +kernel) ⟨fld_in h.1 (k := 41) (j := 1) (by decide +kernel), r0 h.2.1 (k := (110, 8)) (by decide), r0 h.2.1 (k := (5, 2)) (by decide), trivial⟩ h.1
  refine (all_ct 176 _ rfl _ σ _ k1 k2).mono (fun va σ1 hv => ?_)
  obtain ⟨fa, al, f2, ρ1, f3, f4, f5⟩ := hv
  obtain ⟨_, _, g3a, g4a⟩ := endOk_ok (t := 1) (ks := KS) (List.all_eq_true.mp (show (ct_H_work.al.all fun al => endOk 1 al KS) = true by decide +kernel) al f2) f4 f5
  obtain ⟨ya, rfl, hya, t0a⟩ := H_work_end (works := (σ.1 41 1).toInt) f2 f3 rfl f4 f5
  have fra : ∀ k j, isS (ct_H_work.w.get (GX.g.key k j)) = false → σ1.1 k j = σ.1 k j := fun k j hw => (fa k j (fun hq => by rw [hq.1] at hw; cases hw)).1
  refine ⟨ya, rfl, ?_⟩
  obtain ⟨m1, m2⟩ := pub_ok (J := JJ) (q := ct_M_work) (o := 110) (as := []) (ds := [[(0, 4)], [(0, 200)], [(0, 200)]]) (ks := [(110, 85), (110, 8), (5, 2)]) (σ := σ1) (show pubOk ct_M_work 110 [] [[(0, 4)], [(0, 200)], [(0, 200)]] [(110, 85), (110, 8), (5, 2)] = true by decide +kernel) ⟨fld_in g4a (k := 110) (j := 85) (by decide +kernel), r0 g3a (k := (110, 8)) (by decide), r0 g3a (k := (5, 2)) (by decide), trivial⟩ g4a
  refine (all_ct 413 _ rfl _ σ1 _ m1 m2).mono (fun vb σ2 hv => ?_)
  obtain ⟨fb, al, f2, ρ1, f3, f4, f5⟩ := hv
  obtain ⟨_, _, g3b, g4b⟩ := endOk_ok (t := 1) (ks := KS) (List.all_eq_true.mp (show (ct_M_work.al.all fun al => endOk 1 al KS) = true by decide +kernel) al f2) f4 f5
  obtain ⟨yb, rfl, hyb, t0b⟩ := M_work_end (works := (σ1.1 110 85).toInt) f2 f3 rfl f4 f5
  have frb : ∀ k j, isS (ct_M_work.w.get (GX.g.key k j)) = false → σ2.1 k j = σ1.1 k j := fun k j hw => (fb k j (fun hq => by rw [hq.1] at hw; cases hw)).1
  have u0 : (σ1.1 110 85).toInt = (σ.1 41 1).toInt := by rw [fra 110 85 (by decide +kernel)]; exact (h.2.2 ((41, 1), (110, 85)) (by decide +kernel)).symm
  have w0 : (σ2.1 41 1).toInt = (σ1.1 41 1).toInt := by rw [frb 41 1 (by decide +kernel)]
  refine ⟨?_, g4b, g3b, ?_⟩
  · exact ⟨yb, rfl⟩
  · refine Eqs.two (l := [((41, 1), (110, 85))]) (m := [((0, 2), (110, 0)), ((5, 0), (110, 6)), ((5, 1), (110, 7)), ((34, 1), (110, 77)), ((34, 6), (110, 82)), ((98, 0), (110, 136)), ((98, 2), (110, 138))]) ?_ (((h.2.2.sub (by decide +kernel)).keep (q := ct_H_work) (by decide +kernel) fra).keep (q := ct_M_work) (by decide +kernel) frb) (by decide +kernel)
    refine Eqs.cons ?_ (Eqs.nil)
    · exact w0.trans (t0a.symm.trans (Eq.trans (by simp only [u0]) t0b))
end
