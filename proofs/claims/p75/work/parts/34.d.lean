noncomputable section
def F_session_0 (a persons sessions : Int) : Int := if a ≤ -1 then (-1) else if 0 ≤ a ∧ persons ≤ a then (-1) else if sessions = 8 ∧ 0 ≤ a ∧ a ≤ 19 ∧ a ≤ persons-1 then (-3) else if 0 ≤ sessions ∧ sessions ≤ 7 ∧ 0 ≤ a ∧ a ≤ 19 ∧ a ≤ persons-1 then sessions else 0
def F_session_sessions (a persons sessions : Int) : Int := if a ≤ -1 then sessions else if 0 ≤ a ∧ persons ≤ a then sessions else if sessions = 8 ∧ 0 ≤ a ∧ a ≤ 19 ∧ a ≤ persons-1 then sessions else if 0 ≤ sessions ∧ sessions ≤ 7 ∧ 0 ≤ a ∧ a ≤ 19 ∧ a ≤ persons-1 then sessions+1 else 0
theorem H_session_end {J : Jt} {ρ ρ'' : List Int} {σ' : zS} {a persons sessions : Int} {r : Option Value} {al : Al} (hal : al ∈ ct_H_session.al) (hp : Pre ρ ρ'') (h0 : ρ[0]? = some a) (h1 : ρ[1]? = some persons) (h2 : ρ[2]? = some sessions) (hk : Ko J al.2 ρ'' σ') (hr : Rs ρ'' al.1 r.toList) : ∃ y : Int32, r = some (.int y) ∧ F_session_0 a persons sessions = y.toInt ∧ persons = (σ'.1 5 0).toInt ∧ F_session_sessions a persons sessions = (σ'.1 34 6).toInt := by
  have e0 := hp.at h0
  have e1 := hp.at h1
  have e2 := hp.at h2
  rcases List.mem_cons.mp hal with rfl | hal
  · obtain ⟨w, l, q1, q2, q3⟩ := Rs.cons hr
    obtain ⟨y, rfl, q4⟩ := q2.int rfl
    have hr2 : r = some (.int y) := by
      cases r with
      | none => cases q1
      | some r => cases q1; rfl
    have x0 := inD_one (en_c hk (d := [(-2147483648, -1)]) (by decide +kernel) e0)
    have x1 := inD_one (en_c hk (d := [(0, 20)]) (by decide +kernel) e1)
    have x2 := inD_one (en_c hk (d := [(0, 8)]) (by decide +kernel) e2)
    have hy : (-1 : Int) = y.toInt := Option.some.inj q4
    have m_persons := me_i hk (k := 5) (j := 0) (i := 1) (o := 0) (List.mem_of_getElem? (i := 0) rfl) e1
    have m_sessions := me_i hk (k := 34) (j := 6) (i := 2) (o := 0) (List.mem_of_getElem? (i := 1) rfl) e2
    refine ⟨y, hr2, ?_, ?_, ?_⟩
    · unfold F_session_0
      exact (if_pos (by omega)).trans (by omega)
    · omega
    · unfold F_session_sessions
      exact (if_pos (by omega)).trans (by omega)
  rcases List.mem_cons.mp hal with rfl | hal
  · obtain ⟨w, l, q1, q2, q3⟩ := Rs.cons hr
    obtain ⟨y, rfl, q4⟩ := q2.int rfl
    have hr2 : r = some (.int y) := by
      cases r with
      | none => cases q1
      | some r => cases q1; rfl
    have x0 := inD_one (en_c hk (d := [(0, 2147483647)]) (by decide +kernel) e0)
    have x1 := inD_one (en_c hk (d := [(0, 20)]) (by decide +kernel) e1)
    have x2 := inD_one (en_c hk (d := [(0, 8)]) (by decide +kernel) e2)
    have hy : (-1 : Int) = y.toInt := Option.some.inj q4
    obtain ⟨v0, g0, s0⟩ := hk.1.fa ([(1, 1), (0, -1)], 0) (by decide +kernel)
    simp only [tvo, e0, e1, e2] at g0
    have g0 := Option.some.inj g0
    have m_persons := me_i hk (k := 5) (j := 0) (i := 1) (o := 0) (List.mem_of_getElem? (i := 0) rfl) e1
    have m_sessions := me_i hk (k := 34) (j := 6) (i := 2) (o := 0) (List.mem_of_getElem? (i := 1) rfl) e2
    refine ⟨y, hr2, ?_, ?_, ?_⟩
    · unfold F_session_0
      refine (if_neg (by omega)).trans ?_
      exact (if_pos (by omega)).trans (by omega)
    · omega
    · unfold F_session_sessions
      refine (if_neg (by omega)).trans ?_
      exact (if_pos (by omega)).trans (by omega)
  rcases List.mem_cons.mp hal with rfl | hal
  · obtain ⟨w, l, q1, q2, q3⟩ := Rs.cons hr
    obtain ⟨y, rfl, q4⟩ := q2.int rfl
    have hr2 : r = some (.int y) := by
      cases r with
      | none => cases q1
      | some r => cases q1; rfl
    have x0 := inD_one (en_c hk (d := [(0, 19)]) (by decide +kernel) e0)
    have x1 := inD_one (en_c hk (d := [(0, 20)]) (by decide +kernel) e1)
    have x2 := inD_one (en_c hk (d := [(8, 8)]) (by decide +kernel) e2)
    have hy : (-3 : Int) = y.toInt := Option.some.inj q4
    obtain ⟨v0, g0, s0⟩ := hk.1.fa ([(0, 1), (1, -1)], -1) (by decide +kernel)
    simp only [tvo, e0, e1, e2] at g0
    have g0 := Option.some.inj g0
    have m_persons := me_i hk (k := 5) (j := 0) (i := 1) (o := 0) (List.mem_of_getElem? (i := 0) rfl) e1
    have m_sessions := me_i hk (k := 34) (j := 6) (i := 2) (o := 0) (List.mem_of_getElem? (i := 1) rfl) e2
    refine ⟨y, hr2, ?_, ?_, ?_⟩
    · unfold F_session_0
      refine (if_neg (by omega)).trans ?_
      refine (if_neg (by omega)).trans ?_
      exact (if_pos (by omega)).trans (by omega)
    · omega
    · unfold F_session_sessions
      refine (if_neg (by omega)).trans ?_
      refine (if_neg (by omega)).trans ?_
      exact (if_pos (by omega)).trans (by omega)
  rcases List.mem_cons.mp hal with rfl | hal
  · obtain ⟨w, l, q1, q2, q3⟩ := Rs.cons hr
    obtain ⟨y, rfl, q4⟩ := q2.int rfl
    have hr2 : r = some (.int y) := by
      cases r with
      | none => cases q1
      | some r => cases q1; rfl
    have x0 := inD_one (en_c hk (d := [(0, 19)]) (by decide +kernel) e0)
    have x1 := inD_one (en_c hk (d := [(0, 20)]) (by decide +kernel) e1)
    have x2 := inD_one (en_c hk (d := [(0, 7)]) (by decide +kernel) e2)
    have hy := ret_i (i := 2) (o := 0) q4 e2
    obtain ⟨v0, g0, s0⟩ := hk.1.fa ([(0, 1), (1, -1)], -1) (by decide +kernel)
    simp only [tvo, e0, e1, e2] at g0
    have g0 := Option.some.inj g0
    have m_persons := me_i hk (k := 5) (j := 0) (i := 1) (o := 0) (List.mem_of_getElem? (i := 0) rfl) e1
    have m_sessions := me_i hk (k := 34) (j := 6) (i := 2) (o := 1) (List.mem_of_getElem? (i := 1) rfl) e2
    refine ⟨y, hr2, ?_, ?_, ?_⟩
    · unfold F_session_0
      refine (if_neg (by omega)).trans ?_
      refine (if_neg (by omega)).trans ?_
      refine (if_neg (by omega)).trans ?_
      exact (if_pos (by omega)).trans (by omega)
    · omega
    · unfold F_session_sessions
      refine (if_neg (by omega)).trans ?_
      refine (if_neg (by omega)).trans ?_
      refine (if_neg (by omega)).trans ?_
      exact (if_pos (by omega)).trans (by omega)
  · cases hal
theorem M_session_end {J : Jt} {ρ ρ'' : List Int} {σ' : zS} {a persons sessions : Int} {r : Option Value} {al : Al} (hal : al ∈ ct_M_session.al) (hp : Pre ρ ρ'') (h0 : ρ[0]? = some a) (h1 : ρ[1]? = some persons) (h2 : ρ[2]? = some sessions) (hk : Ko J al.2 ρ'' σ') (hr : Rs ρ'' al.1 r.toList) : ∃ y : Int32, r = some (.int y) ∧ F_session_0 a persons sessions = y.toInt ∧ persons = (σ'.1 110 6).toInt ∧ F_session_sessions a persons sessions = (σ'.1 110 82).toInt := by
  have e0 := hp.at h0
  have e1 := hp.at h1
  have e2 := hp.at h2
  rcases List.mem_cons.mp hal with rfl | hal
  · obtain ⟨w, l, q1, q2, q3⟩ := Rs.cons hr
    obtain ⟨y, rfl, q4⟩ := q2.int rfl
    have hr2 : r = some (.int y) := by
      cases r with
      | none => cases q1
      | some r => cases q1; rfl
    have x0 := inD_one (en_c hk (d := [(-2147483648, -1)]) (by decide +kernel) e0)
    have x1 := inD_one (en_c hk (d := [(0, 20)]) (by decide +kernel) e1)
    have x2 := inD_one (en_c hk (d := [(0, 8)]) (by decide +kernel) e2)
    have hy : (-1 : Int) = y.toInt := Option.some.inj q4
    have m_persons := me_i hk (k := 110) (j := 6) (i := 1) (o := 0) (List.mem_of_getElem? (i := 0) rfl) e1
    have m_sessions := me_i hk (k := 110) (j := 82) (i := 2) (o := 0) (List.mem_of_getElem? (i := 1) rfl) e2
    refine ⟨y, hr2, ?_, ?_, ?_⟩
    · unfold F_session_0
      exact (if_pos (by omega)).trans (by omega)
    · omega
    · unfold F_session_sessions
      exact (if_pos (by omega)).trans (by omega)
  rcases List.mem_cons.mp hal with rfl | hal
  · obtain ⟨w, l, q1, q2, q3⟩ := Rs.cons hr
    obtain ⟨y, rfl, q4⟩ := q2.int rfl
    have hr2 : r = some (.int y) := by
      cases r with
      | none => cases q1
      | some r => cases q1; rfl
    have x0 := inD_one (en_c hk (d := [(0, 2147483647)]) (by decide +kernel) e0)
    have x1 := inD_one (en_c hk (d := [(0, 20)]) (by decide +kernel) e1)
    have x2 := inD_one (en_c hk (d := [(0, 8)]) (by decide +kernel) e2)
    have hy : (-1 : Int) = y.toInt := Option.some.inj q4
    obtain ⟨v0, g0, s0⟩ := hk.1.fa ([(1, 1), (0, -1)], 0) (by decide +kernel)
    simp only [tvo, e0, e1, e2] at g0
    have g0 := Option.some.inj g0
    have m_persons := me_i hk (k := 110) (j := 6) (i := 1) (o := 0) (List.mem_of_getElem? (i := 0) rfl) e1
    have m_sessions := me_i hk (k := 110) (j := 82) (i := 2) (o := 0) (List.mem_of_getElem? (i := 1) rfl) e2
    refine ⟨y, hr2, ?_, ?_, ?_⟩
    · unfold F_session_0
      refine (if_neg (by omega)).trans ?_
      exact (if_pos (by omega)).trans (by omega)
    · omega
    · unfold F_session_sessions
      refine (if_neg (by omega)).trans ?_
      exact (if_pos (by omega)).trans (by omega)
  rcases List.mem_cons.mp hal with rfl | hal
  · obtain ⟨w, l, q1, q2, q3⟩ := Rs.cons hr
    obtain ⟨y, rfl, q4⟩ := q2.int rfl
    have hr2 : r = some (.int y) := by
      cases r with
      | none => cases q1
      | some r => cases q1; rfl
    have x0 := inD_one (en_c hk (d := [(0, 19)]) (by decide +kernel) e0)
    have x1 := inD_one (en_c hk (d := [(0, 20)]) (by decide +kernel) e1)
    have x2 := inD_one (en_c hk (d := [(8, 8)]) (by decide +kernel) e2)
    have hy : (-3 : Int) = y.toInt := Option.some.inj q4
    obtain ⟨v0, g0, s0⟩ := hk.1.fa ([(0, 1), (1, -1)], -1) (by decide +kernel)
    simp only [tvo, e0, e1, e2] at g0
    have g0 := Option.some.inj g0
    have m_persons := me_i hk (k := 110) (j := 6) (i := 1) (o := 0) (List.mem_of_getElem? (i := 0) rfl) e1
    have m_sessions := me_i hk (k := 110) (j := 82) (i := 2) (o := 0) (List.mem_of_getElem? (i := 1) rfl) e2
    refine ⟨y, hr2, ?_, ?_, ?_⟩
    · unfold F_session_0
      refine (if_neg (by omega)).trans ?_
      refine (if_neg (by omega)).trans ?_
      exact (if_pos (by omega)).trans (by omega)
    · omega
    · unfold F_session_sessions
      refine (if_neg (by omega)).trans ?_
      refine (if_neg (by omega)).trans ?_
      exact (if_pos (by omega)).trans (by omega)
  rcases List.mem_cons.mp hal with rfl | hal
  · obtain ⟨w, l, q1, q2, q3⟩ := Rs.cons hr
    obtain ⟨y, rfl, q4⟩ := q2.int rfl
    have hr2 : r = some (.int y) := by
      cases r with
      | none => cases q1
      | some r => cases q1; rfl
    have x0 := inD_one (en_c hk (d := [(0, 19)]) (by decide +kernel) e0)
    have x1 := inD_one (en_c hk (d := [(0, 20)]) (by decide +kernel) e1)
    have x2 := inD_one (en_c hk (d := [(0, 7)]) (by decide +kernel) e2)
    have hy := ret_i (i := 2) (o := 0) q4 e2
    obtain ⟨v0, g0, s0⟩ := hk.1.fa ([(0, 1), (1, -1)], -1) (by decide +kernel)
    simp only [tvo, e0, e1, e2] at g0
    have g0 := Option.some.inj g0
    have m_persons := me_i hk (k := 110) (j := 6) (i := 1) (o := 0) (List.mem_of_getElem? (i := 0) rfl) e1
    have m_sessions := me_i hk (k := 110) (j := 82) (i := 2) (o := 1) (List.mem_of_getElem? (i := 1) rfl) e2
    refine ⟨y, hr2, ?_, ?_, ?_⟩
    · unfold F_session_0
      refine (if_neg (by omega)).trans ?_
      refine (if_neg (by omega)).trans ?_
      refine (if_neg (by omega)).trans ?_
      exact (if_pos (by omega)).trans (by omega)
    · omega
    · unfold F_session_sessions
      refine (if_neg (by omega)).trans ?_
      refine (if_neg (by omega)).trans ?_
      refine (if_neg (by omega)).trans ?_
      exact (if_pos (by omega)).trans (by omega)
  · cases hal
theorem LC_37_ok {E : xV} {σ : zS} (h : J0 σ) : LC_37 E σ J0 := by
  intro x0
  obtain ⟨k1, k2⟩ := pub_ok (J := JJ) (q := ct_H_session) (o := 0) (as := [.inl x0]) (ds := [T32, [(0, 20)], [(0, 8)], [(0, 200)], [(0, 200)]]) (ks := [(5, 0), (34, 6), (110, 8), (5, 2)]) (σ := σ) (show pubOk ct_H_session 0 [false] [T32, [(0, 20)], [(0, 8)], [(0, 200)], [(0, 200)]] [(5, 0), (34, 6), (110, 8), (5, 2)] = true by decide +kernel) ⟨in32 _, fld_in h.1 (k := 5) (j := 0) (by decide +kernel), fld_in h.1 (k := 34) (j := 6) (by decide +kernel), r0 h.2.1 (k := (110, 8)) (by decide), r0 h.2.1 (k := (5, 2)) (by decide), trivial⟩ h.1
  refine (all_ct 170 _ rfl _ σ _ k1 k2).mono (fun va σ1 hv => ?_)
  obtain ⟨fa, al, f2, ρ1, f3, f4, f5⟩ := hv
  obtain ⟨_, _, g3a, g4a⟩ := endOk_ok (t := 1) (ks := KS) (List.all_eq_true.mp (show (ct_H_session.al.all fun al => endOk 1 al KS) = true by decide +kernel) al f2) f4 f5
  obtain ⟨ya, rfl, hya, t0a, t1a⟩ := H_session_end (a := x0.toInt) (persons := (σ.1 5 0).toInt) (sessions := (σ.1 34 6).toInt) f2 f3 rfl rfl rfl f4 f5
  have fra : ∀ k j, isS (ct_H_session.w.get (GX.g.key k j)) = false → σ1.1 k j = σ.1 k j := fun k j hw => (fa k j (fun hq => by rw [hq.1] at hw; cases hw)).1
  refine ⟨ya, rfl, ?_⟩
  obtain ⟨m1, m2⟩ := pub_ok (J := JJ) (q := ct_M_session) (o := 110) (as := [.inl x0]) (ds := [T32, [(0, 20)], [(0, 8)], [(0, 200)], [(0, 200)]]) (ks := [(110, 6), (110, 82), (110, 8), (5, 2)]) (σ := σ1) (show pubOk ct_M_session 110 [false] [T32, [(0, 20)], [(0, 8)], [(0, 200)], [(0, 200)]] [(110, 6), (110, 82), (110, 8), (5, 2)] = true by decide +kernel) ⟨in32 _, fld_in g4a (k := 110) (j := 6) (by decide +kernel), fld_in g4a (k := 110) (j := 82) (by decide +kernel), r0 g3a (k := (110, 8)) (by decide), r0 g3a (k := (5, 2)) (by decide), trivial⟩ g4a
  refine (all_ct 409 _ rfl _ σ1 _ m1 m2).mono (fun vb σ2 hv => ?_)
  obtain ⟨fb, al, f2, ρ1, f3, f4, f5⟩ := hv
  obtain ⟨_, _, g3b, g4b⟩ := endOk_ok (t := 1) (ks := KS) (List.all_eq_true.mp (show (ct_M_session.al.all fun al => endOk 1 al KS) = true by decide +kernel) al f2) f4 f5
  obtain ⟨yb, rfl, hyb, t0b, t1b⟩ := M_session_end (a := x0.toInt) (persons := (σ1.1 110 6).toInt) (sessions := (σ1.1 110 82).toInt) f2 f3 rfl rfl rfl f4 f5
  have frb : ∀ k j, isS (ct_M_session.w.get (GX.g.key k j)) = false → σ2.1 k j = σ1.1 k j := fun k j hw => (fb k j (fun hq => by rw [hq.1] at hw; cases hw)).1
  have u0 : (σ1.1 110 6).toInt = (σ.1 5 0).toInt := by rw [fra 110 6 (by decide +kernel)]; exact (h.2.2 ((5, 0), (110, 6)) (by decide +kernel)).symm
  have w0 : (σ2.1 5 0).toInt = (σ1.1 5 0).toInt := by rw [frb 5 0 (by decide +kernel)]
  have u1 : (σ1.1 110 82).toInt = (σ.1 34 6).toInt := by rw [fra 110 82 (by decide +kernel)]; exact (h.2.2 ((34, 6), (110, 82)) (by decide +kernel)).symm
  have w1 : (σ2.1 34 6).toInt = (σ1.1 34 6).toInt := by rw [frb 34 6 (by decide +kernel)]
  refine ⟨?_, g4b, g3b, ?_⟩
  · exact ⟨yb, rfl⟩
  · refine Eqs.two (l := [((5, 0), (110, 6)), ((34, 6), (110, 82))]) (m := [((0, 2), (110, 0)), ((5, 1), (110, 7)), ((34, 1), (110, 77)), ((41, 1), (110, 85)), ((98, 0), (110, 136)), ((98, 2), (110, 138))]) ?_ (((h.2.2.sub (by decide +kernel)).keep (q := ct_H_session) (by decide +kernel) fra).keep (q := ct_M_session) (by decide +kernel) frb) (by decide +kernel)
    refine Eqs.cons ?_ (Eqs.cons ?_ (Eqs.nil))
    · exact w0.trans (t0a.symm.trans (Eq.trans (by simp only [u0, u1]) t0b))
    · exact w1.trans (t1a.symm.trans (Eq.trans (by simp only [u0, u1]) t1b))
def F_room_0 (a rooms : Int) : Int := if a ≤ -1 then (-1) else if 65536 ≤ a then (-1) else if rooms = 6 ∧ 0 ≤ a ∧ a ≤ 65535 then (-3) else if 0 ≤ rooms ∧ rooms ≤ 5 ∧ 0 ≤ a ∧ a ≤ 65535 then rooms else 0
def F_room_rooms (a rooms : Int) : Int := if a ≤ -1 then rooms else if 65536 ≤ a then rooms else if rooms = 6 ∧ 0 ≤ a ∧ a ≤ 65535 then rooms else if 0 ≤ rooms ∧ rooms ≤ 5 ∧ 0 ≤ a ∧ a ≤ 65535 then rooms+1 else 0
theorem H_room_end {J : Jt} {ρ ρ'' : List Int} {σ' : zS} {a rooms : Int} {r : Option Value} {al : Al} (hal : al ∈ ct_H_room.al) (hp : Pre ρ ρ'') (h0 : ρ[0]? = some a) (h1 : ρ[1]? = some rooms) (hk : Ko J al.2 ρ'' σ') (hr : Rs ρ'' al.1 r.toList) : ∃ y : Int32, r = some (.int y) ∧ F_room_0 a rooms = y.toInt ∧ F_room_rooms a rooms = (σ'.1 98 0).toInt := by
  have e0 := hp.at h0
  have e1 := hp.at h1
  rcases List.mem_cons.mp hal with rfl | hal
  · obtain ⟨w, l, q1, q2, q3⟩ := Rs.cons hr
    obtain ⟨y, rfl, q4⟩ := q2.int rfl
    have hr2 : r = some (.int y) := by
      cases r with
      | none => cases q1
      | some r => cases q1; rfl
    have x0 := inD_one (en_c hk (d := [(-2147483648, -1)]) (by decide +kernel) e0)
    have x1 := inD_one (en_c hk (d := [(0, 6)]) (by decide +kernel) e1)
    have hy : (-1 : Int) = y.toInt := Option.some.inj q4
    have m_rooms := me_i hk (k := 98) (j := 0) (i := 1) (o := 0) (List.mem_of_getElem? (i := 0) rfl) e1
    refine ⟨y, hr2, ?_, ?_⟩
    · unfold F_room_0
      exact (if_pos (by omega)).trans (by omega)
    · unfold F_room_rooms
      exact (if_pos (by omega)).trans (by omega)
  rcases List.mem_cons.mp hal with rfl | hal
  · obtain ⟨w, l, q1, q2, q3⟩ := Rs.cons hr
    obtain ⟨y, rfl, q4⟩ := q2.int rfl
    have hr2 : r = some (.int y) := by
      cases r with
      | none => cases q1
      | some r => cases q1; rfl
    have x0 := inD_one (en_c hk (d := [(65536, 2147483647)]) (by decide +kernel) e0)
    have x1 := inD_one (en_c hk (d := [(0, 6)]) (by decide +kernel) e1)
    have hy : (-1 : Int) = y.toInt := Option.some.inj q4
    have m_rooms := me_i hk (k := 98) (j := 0) (i := 1) (o := 0) (List.mem_of_getElem? (i := 0) rfl) e1
    refine ⟨y, hr2, ?_, ?_⟩
    · unfold F_room_0
      refine (if_neg (by omega)).trans ?_
      exact (if_pos (by omega)).trans (by omega)
    · unfold F_room_rooms
      refine (if_neg (by omega)).trans ?_
      exact (if_pos (by omega)).trans (by omega)
  rcases List.mem_cons.mp hal with rfl | hal
  · obtain ⟨w, l, q1, q2, q3⟩ := Rs.cons hr
    obtain ⟨y, rfl, q4⟩ := q2.int rfl
    have hr2 : r = some (.int y) := by
      cases r with
      | none => cases q1
      | some r => cases q1; rfl
    have x0 := inD_one (en_c hk (d := [(0, 65535)]) (by decide +kernel) e0)
    have x1 := inD_one (en_c hk (d := [(6, 6)]) (by decide +kernel) e1)
    have hy : (-3 : Int) = y.toInt := Option.some.inj q4
    have m_rooms := me_i hk (k := 98) (j := 0) (i := 1) (o := 0) (List.mem_of_getElem? (i := 0) rfl) e1
    refine ⟨y, hr2, ?_, ?_⟩
    · unfold F_room_0
      refine (if_neg (by omega)).trans ?_
      refine (if_neg (by omega)).trans ?_
      exact (if_pos (by omega)).trans (by omega)
    · unfold F_room_rooms
      refine (if_neg (by omega)).trans ?_
      refine (if_neg (by omega)).trans ?_
      exact (if_pos (by omega)).trans (by omega)
  rcases List.mem_cons.mp hal with rfl | hal
  · obtain ⟨w, l, q1, q2, q3⟩ := Rs.cons hr
    obtain ⟨y, rfl, q4⟩ := q2.int rfl
    have hr2 : r = some (.int y) := by
      cases r with
      | none => cases q1
      | some r => cases q1; rfl
    have x0 := inD_one (en_c hk (d := [(0, 65535)]) (by decide +kernel) e0)
    have x1 := inD_one (en_c hk (d := [(0, 5)]) (by decide +kernel) e1)
    have hy := ret_i (i := 1) (o := 0) q4 e1
    have m_rooms := me_i hk (k := 98) (j := 0) (i := 1) (o := 1) (List.mem_of_getElem? (i := 0) rfl) e1
    refine ⟨y, hr2, ?_, ?_⟩
    · unfold F_room_0
      refine (if_neg (by omega)).trans ?_
      refine (if_neg (by omega)).trans ?_
      refine (if_neg (by omega)).trans ?_
      exact (if_pos (by omega)).trans (by omega)
    · unfold F_room_rooms
      refine (if_neg (by omega)).trans ?_
      refine (if_neg (by omega)).trans ?_
      refine (if_neg (by omega)).trans ?_
      exact (if_pos (by omega)).trans (by omega)
  · cases hal
theorem M_room_end {J : Jt} {ρ ρ'' : List Int} {σ' : zS} {a rooms : Int} {r : Option Value} {al : Al} (hal : al ∈ ct_M_room.al) (hp : Pre ρ ρ'') (h0 : ρ[0]? = some a) (h1 : ρ[1]? = some rooms) (hk : Ko J al.2 ρ'' σ') (hr : Rs ρ'' al.1 r.toList) : ∃ y : Int32, r = some (.int y) ∧ F_room_0 a rooms = y.toInt ∧ F_room_rooms a rooms = (σ'.1 110 136).toInt := by
  have e0 := hp.at h0
  have e1 := hp.at h1
  rcases List.mem_cons.mp hal with rfl | hal
  · obtain ⟨w, l, q1, q2, q3⟩ := Rs.cons hr
    obtain ⟨y, rfl, q4⟩ := q2.int rfl
    have hr2 : r = some (.int y) := by
      cases r with
      | none => cases q1
      | some r => cases q1; rfl
    have x0 := inD_one (en_c hk (d := [(-2147483648, -1)]) (by decide +kernel) e0)
    have x1 := inD_one (en_c hk (d := [(0, 6)]) (by decide +kernel) e1)
    have hy : (-1 : Int) = y.toInt := Option.some.inj q4
    have m_rooms := me_i hk (k := 110) (j := 136) (i := 1) (o := 0) (List.mem_of_getElem? (i := 0) rfl) e1
    refine ⟨y, hr2, ?_, ?_⟩
    · unfold F_room_0
      exact (if_pos (by omega)).trans (by omega)
    · unfold F_room_rooms
      exact (if_pos (by omega)).trans (by omega)
  rcases List.mem_cons.mp hal with rfl | hal
  · obtain ⟨w, l, q1, q2, q3⟩ := Rs.cons hr
    obtain ⟨y, rfl, q4⟩ := q2.int rfl
    have hr2 : r = some (.int y) := by
      cases r with
      | none => cases q1
      | some r => cases q1; rfl
    have x0 := inD_one (en_c hk (d := [(65536, 2147483647)]) (by decide +kernel) e0)
    have x1 := inD_one (en_c hk (d := [(0, 6)]) (by decide +kernel) e1)
    have hy : (-1 : Int) = y.toInt := Option.some.inj q4
    have m_rooms := me_i hk (k := 110) (j := 136) (i := 1) (o := 0) (List.mem_of_getElem? (i := 0) rfl) e1
    refine ⟨y, hr2, ?_, ?_⟩
    · unfold F_room_0
      refine (if_neg (by omega)).trans ?_
      exact (if_pos (by omega)).trans (by omega)
    · unfold F_room_rooms
      refine (if_neg (by omega)).trans ?_
      exact (if_pos (by omega)).trans (by omega)
  rcases List.mem_cons.mp hal with rfl | hal
  · obtain ⟨w, l, q1, q2, q3⟩ := Rs.cons hr
    obtain ⟨y, rfl, q4⟩ := q2.int rfl
    have hr2 : r = some (.int y) := by
      cases r with
      | none => cases q1
      | some r => cases q1; rfl
    have x0 := inD_one (en_c hk (d := [(0, 65535)]) (by decide +kernel) e0)
    have x1 := inD_one (en_c hk (d := [(6, 6)]) (by decide +kernel) e1)
    have hy : (-3 : Int) = y.toInt := Option.some.inj q4
    have m_rooms := me_i hk (k := 110) (j := 136) (i := 1) (o := 0) (List.mem_of_getElem? (i := 0) rfl) e1
    refine ⟨y, hr2, ?_, ?_⟩
    · unfold F_room_0
      refine (if_neg (by omega)).trans ?_
      refine (if_neg (by omega)).trans ?_
      exact (if_pos (by omega)).trans (by omega)
    · unfold F_room_rooms
      refine (if_neg (by omega)).trans ?_
      refine (if_neg (by omega)).trans ?_
      exact (if_pos (by omega)).trans (by omega)
  rcases List.mem_cons.mp hal with rfl | hal
  · obtain ⟨w, l, q1, q2, q3⟩ := Rs.cons hr
    obtain ⟨y, rfl, q4⟩ := q2.int rfl
    have hr2 : r = some (.int y) := by
      cases r with
      | none => cases q1
      | some r => cases q1; rfl
    have x0 := inD_one (en_c hk (d := [(0, 65535)]) (by decide +kernel) e0)
    have x1 := inD_one (en_c hk (d := [(0, 5)]) (by decide +kernel) e1)
    have hy := ret_i (i := 1) (o := 0) q4 e1
    have m_rooms := me_i hk (k := 110) (j := 136) (i := 1) (o := 1) (List.mem_of_getElem? (i := 0) rfl) e1
    refine ⟨y, hr2, ?_, ?_⟩
    · unfold F_room_0
      refine (if_neg (by omega)).trans ?_
      refine (if_neg (by omega)).trans ?_
      refine (if_neg (by omega)).trans ?_
      exact (if_pos (by omega)).trans (by omega)
    · unfold F_room_rooms
      refine (if_neg (by omega)).trans ?_
      refine (if_neg (by omega)).trans ?_
      refine (if_neg (by omega)).trans ?_
      exact (if_pos (by omega)).trans (by omega)
  · cases hal
theorem LC_72_ok {E : xV} {σ : zS} (h : J0 σ) : LC_72 E σ J0 := by
  intro x0
  obtain ⟨k1, k2⟩ := pub_ok (J := JJ) (q := ct_H_room) (o := 0) (as := [.inl x0]) (ds := [T32, [(0, 6)], [(0, 200)], [(0, 200)]]) (ks := [(98, 0), (110, 8), (5, 2)]) (σ := σ) (show pubOk ct_H_room 0 [false] [T32, [(0, 6)], [(0, 200)], [(0, 200)]] [(98, 0), (110, 8), (5, 2)] = true by decide +kernel) ⟨in32 _, fld_in h.1 (k := 98) (j := 0) (by decide +kernel), r0 h.2.1 (k := (110, 8)) (by decide), r0 h.2.1 (k := (5, 2)) (by decide), trivial⟩ h.1
  refine (all_ct 258 _ rfl _ σ _ k1 k2).mono (fun va σ1 hv => ?_)
  obtain ⟨fa, al, f2, ρ1, f3, f4, f5⟩ := hv
  obtain ⟨_, _, g3a, g4a⟩ := endOk_ok (t := 1) (ks := KS) (List.all_eq_true.mp (show (ct_H_room.al.all fun al => endOk 1 al KS) = true by decide +kernel) al f2) f4 f5
  obtain ⟨ya, rfl, hya, t0a⟩ := H_room_end (a := x0.toInt) (rooms := (σ.1 98 0).toInt) f2 f3 rfl rfl f4 f5
  have fra : ∀ k j, isS (ct_H_room.w.get (GX.g.key k j)) = false → σ1.1 k j = σ.1 k j := fun k j hw => (fa k j (fun hq => by rw [hq.1] at hw; cases hw)).1
  refine ⟨ya, rfl, ?_⟩
  obtain ⟨m1, m2⟩ := pub_ok (J := JJ) (q := ct_M_room) (o := 110) (as := [.inl x0]) (ds := [T32, [(0, 6)], [(0, 200)], [(0, 200)]]) (ks := [(110, 136), (110, 8), (5, 2)]) (σ := σ1) (show pubOk ct_M_room 110 [false] [T32, [(0, 6)], [(0, 200)], [(0, 200)]] [(110, 136), (110, 8), (5, 2)] = true by decide +kernel) ⟨in32 _, fld_in g4a (k := 110) (j := 136) (by decide +kernel), r0 g3a (k := (110, 8)) (by decide), r0 g3a (k := (5, 2)) (by decide), trivial⟩ g4a
  refine (all_ct 467 _ rfl _ σ1 _ m1 m2).mono (fun vb σ2 hv => ?_)
  obtain ⟨fb, al, f2, ρ1, f3, f4, f5⟩ := hv
  obtain ⟨_, _, g3b, g4b⟩ := endOk_ok (t := 1) (ks := KS) (List.all_eq_true.mp (show (ct_M_room.al.all fun al => endOk 1 al KS) = true by decide +kernel) al f2) f4 f5
  obtain ⟨yb, rfl, hyb, t0b⟩ := M_room_end (a := x0.toInt) (rooms := (σ1.1 110 136).toInt) f2 f3 rfl rfl f4 f5
  have frb : ∀ k j, isS (ct_M_room.w.get (GX.g.key k j)) = false → σ2.1 k j = σ1.1 k j := fun k j hw => (fb k j (fun hq => by rw [hq.1] at hw; cases hw)).1
  have u0 : (σ1.1 110 136).toInt = (σ.1 98 0).toInt := by rw [fra 110 136 (by decide +kernel)]; exact (h.2.2 ((98, 0), (110, 136)) (by decide +kernel)).symm
  have w0 : (σ2.1 98 0).toInt = (σ1.1 98 0).toInt := by rw [frb 98 0 (by decide +kernel)]
  refine ⟨?_, g4b, g3b, ?_⟩
  · exact ⟨yb, rfl⟩
  · refine Eqs.two (l := [((98, 0), (110, 136))]) (m := [((0, 2), (110, 0)), ((5, 0), (110, 6)), ((5, 1), (110, 7)), ((34, 1), (110, 77)), ((34, 6), (110, 82)), ((41, 1), (110, 85)), ((98, 2), (110, 138))]) ?_ (((h.2.2.sub (by decide +kernel)).keep (q := ct_H_room) (by decide +kernel) fra).keep (q := ct_M_room) (by decide +kernel) frb) (by decide +kernel)
    refine Eqs.cons ?_ (Eqs.nil)
    · exact w0.trans (t0a.symm.trans (Eq.trans (by simp only [u0]) t0b))
def F_method_0 (a rooms methods : Int) : Int := if a ≤ -1 then (-1) else if 0 ≤ a ∧ rooms ≤ a then (-1) else if methods = 12 ∧ 0 ≤ a ∧ a ≤ 5 ∧ a ≤ rooms-1 then (-3) else if 0 ≤ methods ∧ methods ≤ 11 ∧ 0 ≤ a ∧ a ≤ 5 ∧ a ≤ rooms-1 then methods else 0
def F_method_methods (a rooms methods : Int) : Int := if a ≤ -1 then methods else if 0 ≤ a ∧ rooms ≤ a then methods else if methods = 12 ∧ 0 ≤ a ∧ a ≤ 5 ∧ a ≤ rooms-1 then methods else if 0 ≤ methods ∧ methods ≤ 11 ∧ 0 ≤ a ∧ a ≤ 5 ∧ a ≤ rooms-1 then methods+1 else 0
theorem H_method_end {J : Jt} {ρ ρ'' : List Int} {σ' : zS} {a rooms methods : Int} {r : Option Value} {al : Al} (hal : al ∈ ct_H_method.al) (hp : Pre ρ ρ'') (h0 : ρ[0]? = some a) (h1 : ρ[1]? = some rooms) (h2 : ρ[2]? = some methods) (hk : Ko J al.2 ρ'' σ') (hr : Rs ρ'' al.1 r.toList) : ∃ y : Int32, r = some (.int y) ∧ F_method_0 a rooms methods = y.toInt ∧ rooms = (σ'.1 98 0).toInt ∧ F_method_methods a rooms methods = (σ'.1 98 2).toInt := by
  have e0 := hp.at h0
  have e1 := hp.at h1
  have e2 := hp.at h2
  rcases List.mem_cons.mp hal with rfl | hal
  · obtain ⟨w, l, q1, q2, q3⟩ := Rs.cons hr
    obtain ⟨y, rfl, q4⟩ := q2.int rfl
    have hr2 : r = some (.int y) := by
      cases r with
      | none => cases q1
      | some r => cases q1; rfl
    have x0 := inD_one (en_c hk (d := [(-2147483648, -1)]) (by decide +kernel) e0)
    have x1 := inD_one (en_c hk (d := [(0, 6)]) (by decide +kernel) e1)
    have x2 := inD_one (en_c hk (d := [(0, 12)]) (by decide +kernel) e2)
    have hy : (-1 : Int) = y.toInt := Option.some.inj q4
    have m_rooms := me_i hk (k := 98) (j := 0) (i := 1) (o := 0) (List.mem_of_getElem? (i := 0) rfl) e1
    have m_methods := me_i hk (k := 98) (j := 2) (i := 2) (o := 0) (List.mem_of_getElem? (i := 1) rfl) e2
    refine ⟨y, hr2, ?_, ?_, ?_⟩
    · unfold F_method_0
      exact (if_pos (by omega)).trans (by omega)
    · omega
    · unfold F_method_methods
      exact (if_pos (by omega)).trans (by omega)
  rcases List.mem_cons.mp hal with rfl | hal
  · obtain ⟨w, l, q1, q2, q3⟩ := Rs.cons hr
    obtain ⟨y, rfl, q4⟩ := q2.int rfl
    have hr2 : r = some (.int y) := by
      cases r with
      | none => cases q1
      | some r => cases q1; rfl
    have x0 := inD_one (en_c hk (d := [(0, 2147483647)]) (by decide +kernel) e0)
    have x1 := inD_one (en_c hk (d := [(0, 6)]) (by decide +kernel) e1)
    have x2 := inD_one (en_c hk (d := [(0, 12)]) (by decide +kernel) e2)
    have hy : (-1 : Int) = y.toInt := Option.some.inj q4
    obtain ⟨v0, g0, s0⟩ := hk.1.fa ([(1, 1), (0, -1)], 0) (by decide +kernel)
    simp only [tvo, e0, e1, e2] at g0
    have g0 := Option.some.inj g0
    have m_rooms := me_i hk (k := 98) (j := 0) (i := 1) (o := 0) (List.mem_of_getElem? (i := 0) rfl) e1
    have m_methods := me_i hk (k := 98) (j := 2) (i := 2) (o := 0) (List.mem_of_getElem? (i := 1) rfl) e2
    refine ⟨y, hr2, ?_, ?_, ?_⟩
    · unfold F_method_0
      refine (if_neg (by omega)).trans ?_
      exact (if_pos (by omega)).trans (by omega)
    · omega
    · unfold F_method_methods
      refine (if_neg (by omega)).trans ?_
      exact (if_pos (by omega)).trans (by omega)
  rcases List.mem_cons.mp hal with rfl | hal
  · obtain ⟨w, l, q1, q2, q3⟩ := Rs.cons hr
    obtain ⟨y, rfl, q4⟩ := q2.int rfl
    have hr2 : r = some (.int y) := by
      cases r with
      | none => cases q1
      | some r => cases q1; rfl
    have x0 := inD_one (en_c hk (d := [(0, 5)]) (by decide +kernel) e0)
    have x1 := inD_one (en_c hk (d := [(0, 6)]) (by decide +kernel) e1)
    have x2 := inD_one (en_c hk (d := [(12, 12)]) (by decide +kernel) e2)
    have hy : (-3 : Int) = y.toInt := Option.some.inj q4
    obtain ⟨v0, g0, s0⟩ := hk.1.fa ([(0, 1), (1, -1)], -1) (by decide +kernel)
    simp only [tvo, e0, e1, e2] at g0
    have g0 := Option.some.inj g0
    have m_rooms := me_i hk (k := 98) (j := 0) (i := 1) (o := 0) (List.mem_of_getElem? (i := 0) rfl) e1
    have m_methods := me_i hk (k := 98) (j := 2) (i := 2) (o := 0) (List.mem_of_getElem? (i := 1) rfl) e2
    refine ⟨y, hr2, ?_, ?_, ?_⟩
    · unfold F_method_0
      refine (if_neg (by omega)).trans ?_
      refine (if_neg (by omega)).trans ?_
      exact (if_pos (by omega)).trans (by omega)
    · omega
    · unfold F_method_methods
      refine (if_neg (by omega)).trans ?_
      refine (if_neg (by omega)).trans ?_
      exact (if_pos (by omega)).trans (by omega)
  rcases List.mem_cons.mp hal with rfl | hal
  · obtain ⟨w, l, q1, q2, q3⟩ := Rs.cons hr
    obtain ⟨y, rfl, q4⟩ := q2.int rfl
    have hr2 : r = some (.int y) := by
      cases r with
      | none => cases q1
      | some r => cases q1; rfl
    have x0 := inD_one (en_c hk (d := [(0, 5)]) (by decide +kernel) e0)
    have x1 := inD_one (en_c hk (d := [(0, 6)]) (by decide +kernel) e1)
    have x2 := inD_one (en_c hk (d := [(0, 11)]) (by decide +kernel) e2)
    have hy := ret_i (i := 2) (o := 0) q4 e2
    obtain ⟨v0, g0, s0⟩ := hk.1.fa ([(0, 1), (1, -1)], -1) (by decide +kernel)
    simp only [tvo, e0, e1, e2] at g0
    have g0 := Option.some.inj g0
    have m_rooms := me_i hk (k := 98) (j := 0) (i := 1) (o := 0) (List.mem_of_getElem? (i := 0) rfl) e1
    have m_methods := me_i hk (k := 98) (j := 2) (i := 2) (o := 1) (List.mem_of_getElem? (i := 1) rfl) e2
    refine ⟨y, hr2, ?_, ?_, ?_⟩
    · unfold F_method_0
      refine (if_neg (by omega)).trans ?_
      refine (if_neg (by omega)).trans ?_
      refine (if_neg (by omega)).trans ?_
      exact (if_pos (by omega)).trans (by omega)
    · omega
    · unfold F_method_methods
      refine (if_neg (by omega)).trans ?_
      refine (if_neg (by omega)).trans ?_
      refine (if_neg (by omega)).trans ?_
      exact (if_pos (by omega)).trans (by omega)
  · cases hal
theorem M_method_end {J : Jt} {ρ ρ'' : List Int} {σ' : zS} {a rooms methods : Int} {r : Option Value} {al : Al} (hal : al ∈ ct_M_method.al) (hp : Pre ρ ρ'') (h0 : ρ[0]? = some a) (h1 : ρ[1]? = some rooms) (h2 : ρ[2]? = some methods) (hk : Ko J al.2 ρ'' σ') (hr : Rs ρ'' al.1 r.toList) : ∃ y : Int32, r = some (.int y) ∧ F_method_0 a rooms methods = y.toInt ∧ rooms = (σ'.1 110 136).toInt ∧ F_method_methods a rooms methods = (σ'.1 110 138).toInt := by
  have e0 := hp.at h0
  have e1 := hp.at h1
  have e2 := hp.at h2
  rcases List.mem_cons.mp hal with rfl | hal
  · obtain ⟨w, l, q1, q2, q3⟩ := Rs.cons hr
    obtain ⟨y, rfl, q4⟩ := q2.int rfl
    have hr2 : r = some (.int y) := by
      cases r with
      | none => cases q1
      | some r => cases q1; rfl
    have x0 := inD_one (en_c hk (d := [(-2147483648, -1)]) (by decide +kernel) e0)
    have x1 := inD_one (en_c hk (d := [(0, 6)]) (by decide +kernel) e1)
    have x2 := inD_one (en_c hk (d := [(0, 12)]) (by decide +kernel) e2)
    have hy : (-1 : Int) = y.toInt := Option.some.inj q4
    have m_rooms := me_i hk (k := 110) (j := 136) (i := 1) (o := 0) (List.mem_of_getElem? (i := 0) rfl) e1
    have m_methods := me_i hk (k := 110) (j := 138) (i := 2) (o := 0) (List.mem_of_getElem? (i := 1) rfl) e2
    refine ⟨y, hr2, ?_, ?_, ?_⟩
    · unfold F_method_0
      exact (if_pos (by omega)).trans (by omega)
    · omega
    · unfold F_method_methods
      exact (if_pos (by omega)).trans (by omega)
  rcases List.mem_cons.mp hal with rfl | hal
  · obtain ⟨w, l, q1, q2, q3⟩ := Rs.cons hr
    obtain ⟨y, rfl, q4⟩ := q2.int rfl
    have hr2 : r = some (.int y) := by
      cases r with
      | none => cases q1
      | some r => cases q1; rfl
    have x0 := inD_one (en_c hk (d := [(0, 2147483647)]) (by decide +kernel) e0)
    have x1 := inD_one (en_c hk (d := [(0, 6)]) (by decide +kernel) e1)
    have x2 := inD_one (en_c hk (d := [(0, 12)]) (by decide +kernel) e2)
    have hy : (-1 : Int) = y.toInt := Option.some.inj q4
    obtain ⟨v0, g0, s0⟩ := hk.1.fa ([(1, 1), (0, -1)], 0) (by decide +kernel)
    simp only [tvo, e0, e1, e2] at g0
    have g0 := Option.some.inj g0
    have m_rooms := me_i hk (k := 110) (j := 136) (i := 1) (o := 0) (List.mem_of_getElem? (i := 0) rfl) e1
    have m_methods := me_i hk (k := 110) (j := 138) (i := 2) (o := 0) (List.mem_of_getElem? (i := 1) rfl) e2
    refine ⟨y, hr2, ?_, ?_, ?_⟩
    · unfold F_method_0
      refine (if_neg (by omega)).trans ?_
      exact (if_pos (by omega)).trans (by omega)
    · omega
    · unfold F_method_methods
      refine (if_neg (by omega)).trans ?_
      exact (if_pos (by omega)).trans (by omega)
  rcases List.mem_cons.mp hal with rfl | hal
  · obtain ⟨w, l, q1, q2, q3⟩ := Rs.cons hr
    obtain ⟨y, rfl, q4⟩ := q2.int rfl
    have hr2 : r = some (.int y) := by
      cases r with
      | none => cases q1
      | some r => cases q1; rfl
    have x0 := inD_one (en_c hk (d := [(0, 5)]) (by decide +kernel) e0)
    have x1 := inD_one (en_c hk (d := [(0, 6)]) (by decide +kernel) e1)
    have x2 := inD_one (en_c hk (d := [(12, 12)]) (by decide +kernel) e2)
    have hy : (-3 : Int) = y.toInt := Option.some.inj q4
    obtain ⟨v0, g0, s0⟩ := hk.1.fa ([(0, 1), (1, -1)], -1) (by decide +kernel)
    simp only [tvo, e0, e1, e2] at g0
    have g0 := Option.some.inj g0
    have m_rooms := me_i hk (k := 110) (j := 136) (i := 1) (o := 0) (List.mem_of_getElem? (i := 0) rfl) e1
    have m_methods := me_i hk (k := 110) (j := 138) (i := 2) (o := 0) (List.mem_of_getElem? (i := 1) rfl) e2
    refine ⟨y, hr2, ?_, ?_, ?_⟩
    · unfold F_method_0
      refine (if_neg (by omega)).trans ?_
      refine (if_neg (by omega)).trans ?_
      exact (if_pos (by omega)).trans (by omega)
    · omega
    · unfold F_method_methods
      refine (if_neg (by omega)).trans ?_
      refine (if_neg (by omega)).trans ?_
      exact (if_pos (by omega)).trans (by omega)
  rcases List.mem_cons.mp hal with rfl | hal
  · obtain ⟨w, l, q1, q2, q3⟩ := Rs.cons hr
    obtain ⟨y, rfl, q4⟩ := q2.int rfl
    have hr2 : r = some (.int y) := by
      cases r with
      | none => cases q1
      | some r => cases q1; rfl
    have x0 := inD_one (en_c hk (d := [(0, 5)]) (by decide +kernel) e0)
    have x1 := inD_one (en_c hk (d := [(0, 6)]) (by decide +kernel) e1)
    have x2 := inD_one (en_c hk (d := [(0, 11)]) (by decide +kernel) e2)
    have hy := ret_i (i := 2) (o := 0) q4 e2
    obtain ⟨v0, g0, s0⟩ := hk.1.fa ([(0, 1), (1, -1)], -1) (by decide +kernel)
    simp only [tvo, e0, e1, e2] at g0
    have g0 := Option.some.inj g0
    have m_rooms := me_i hk (k := 110) (j := 136) (i := 1) (o := 0) (List.mem_of_getElem? (i := 0) rfl) e1
    have m_methods := me_i hk (k := 110) (j := 138) (i := 2) (o := 1) (List.mem_of_getElem? (i := 1) rfl) e2
    refine ⟨y, hr2, ?_, ?_, ?_⟩
    · unfold F_method_0
      refine (if_neg (by omega)).trans ?_
      refine (if_neg (by omega)).trans ?_
      refine (if_neg (by omega)).trans ?_
      exact (if_pos (by omega)).trans (by omega)
    · omega
    · unfold F_method_methods
      refine (if_neg (by omega)).trans ?_
      refine (if_neg (by omega)).trans ?_
      refine (if_neg (by omega)).trans ?_
      exact (if_pos (by omega)).trans (by omega)
  · cases hal
theorem LC_73_ok {E : xV} {σ : zS} (h : J0 σ) : LC_73 E σ J0 := by
  intro x0
  obtain ⟨k1, k2⟩ := pub_ok (J := JJ) (q := ct_H_method) (o := 0) (as := [.inl x0]) (ds := [T32, [(0, 6)], [(0, 12)], [(0, 200)], [(0, 200)]]) (ks := [(98, 0), (98, 2), (110, 8), (5, 2)]) (σ := σ) (show pubOk ct_H_method 0 [false] [T32, [(0, 6)], [(0, 12)], [(0, 200)], [(0, 200)]] [(98, 0), (98, 2), (110, 8), (5, 2)] = true by decide +kernel) ⟨in32 _, fld_in h.1 (k := 98) (j := 0) (by decide +kernel), fld_in h.1 (k := 98) (j := 2) (by decide +kernel), r0 h.2.1 (k := (110, 8)) (by decide), r0 h.2.1 (k := (5, 2)) (by decide), trivial⟩ h.1
  refine (all_ct 260 _ rfl _ σ _ k1 k2).mono (fun va σ1 hv => ?_)
  obtain ⟨fa, al, f2, ρ1, f3, f4, f5⟩ := hv
  obtain ⟨_, _, g3a, g4a⟩ := endOk_ok (t := 1) (ks := KS) (List.all_eq_true.mp (show (ct_H_method.al.all fun al => endOk 1 al KS) = true by decide +kernel) al f2) f4 f5
  obtain ⟨ya, rfl, hya, t0a, t1a⟩ := H_method_end (a := x0.toInt) (rooms := (σ.1 98 0).toInt) (methods := (σ.1 98 2).toInt) f2 f3 rfl rfl rfl f4 f5
  have fra : ∀ k j, isS (ct_H_method.w.get (GX.g.key k j)) = false → σ1.1 k j = σ.1 k j := fun k j hw => (fa k j (fun hq => by rw [hq.1] at hw; cases hw)).1
  refine ⟨ya, rfl, ?_⟩
  obtain ⟨m1, m2⟩ := pub_ok (J := JJ) (q := ct_M_method) (o := 110) (as := [.inl x0]) (ds := [T32, [(0, 6)], [(0, 12)], [(0, 200)], [(0, 200)]]) (ks := [(110, 136), (110, 138), (110, 8), (5, 2)]) (σ := σ1) (show pubOk ct_M_method 110 [false] [T32, [(0, 6)], [(0, 12)], [(0, 200)], [(0, 200)]] [(110, 136), (110, 138), (110, 8), (5, 2)] = true by decide +kernel) ⟨in32 _, fld_in g4a (k := 110) (j := 136) (by decide +kernel), fld_in g4a (k := 110) (j := 138) (by decide +kernel), r0 g3a (k := (110, 8)) (by decide), r0 g3a (k := (5, 2)) (by decide), trivial⟩ g4a
  refine (all_ct 468 _ rfl _ σ1 _ m1 m2).mono (fun vb σ2 hv => ?_)
  obtain ⟨fb, al, f2, ρ1, f3, f4, f5⟩ := hv
  obtain ⟨_, _, g3b, g4b⟩ := endOk_ok (t := 1) (ks := KS) (List.all_eq_true.mp (show (ct_M_method.al.all fun al => endOk 1 al KS) = true by decide +kernel) al f2) f4 f5
  obtain ⟨yb, rfl, hyb, t0b, t1b⟩ := M_method_end (a := x0.toInt) (rooms := (σ1.1 110 136).toInt) (methods := (σ1.1 110 138).toInt) f2 f3 rfl rfl rfl f4 f5
  have frb : ∀ k j, isS (ct_M_method.w.get (GX.g.key k j)) = false → σ2.1 k j = σ1.1 k j := fun k j hw => (fb k j (fun hq => by rw [hq.1] at hw; cases hw)).1
  have u0 : (σ1.1 110 136).toInt = (σ.1 98 0).toInt := by rw [fra 110 136 (by decide +kernel)]; exact (h.2.2 ((98, 0), (110, 136)) (by decide +kernel)).symm
  have w0 : (σ2.1 98 0).toInt = (σ1.1 98 0).toInt := by rw [frb 98 0 (by decide +kernel)]
  have u1 : (σ1.1 110 138).toInt = (σ.1 98 2).toInt := by rw [fra 110 138 (by decide +kernel)]; exact (h.2.2 ((98, 2), (110, 138)) (by decide +kernel)).symm
  have w1 : (σ2.1 98 2).toInt = (σ1.1 98 2).toInt := by rw [frb 98 2 (by decide +kernel)]
  refine ⟨?_, g4b, g3b, ?_⟩
  · have q : ya = yb := Int32.toInt_inj.mp (hya.symm.trans (Eq.trans (by simp only [u0, u1]) hyb))
    rw [q]
  · refine Eqs.two (l := [((98, 0), (110, 136)), ((98, 2), (110, 138))]) (m := [((0, 2), (110, 0)), ((5, 0), (110, 6)), ((5, 1), (110, 7)), ((34, 1), (110, 77)), ((34, 6), (110, 82)), ((41, 1), (110, 85))]) ?_ (((h.2.2.sub (by decide +kernel)).keep (q := ct_H_method) (by decide +kernel) fra).keep (q := ct_M_method) (by decide +kernel) frb) (by decide +kernel)
    refine Eqs.cons ?_ (Eqs.cons ?_ (Eqs.nil))
    · exact w0.trans (t0a.symm.trans (Eq.trans (by simp only [u0, u1]) t0b))
    · exact w1.trans (t1a.symm.trans (Eq.trans (by simp only [u0, u1]) t1b))
end
