noncomputable section
def F_law_0 (a b c groups laws : Int) : Int := if a ≤ -1 then (-1) else if 5 ≤ a then (-1) else if 0 ≤ a ∧ a ≤ 4 ∧ b ≤ -1 then (-1) else if 0 ≤ a ∧ a ≤ 4 ∧ 0 ≤ b ∧ groups ≤ b then (-1) else if a = 2 ∧ 0 ≤ b ∧ b ≤ 15 ∧ c ≤ -1 ∧ b ≤ groups-1 then (-1) else if a = 2 ∧ 0 ≤ b ∧ b ≤ 15 ∧ 25 ≤ c ∧ b ≤ groups-1 then (-1) else if a = 2 ∧ 0 ≤ b ∧ b ≤ 15 ∧ 0 ≤ c ∧ c ≤ 24 ∧ laws = 20 ∧ b ≤ groups-1 then (-3) else if a = 2 ∧ 0 ≤ b ∧ b ≤ 15 ∧ 0 ≤ c ∧ c ≤ 24 ∧ 0 ≤ laws ∧ laws ≤ 19 ∧ b ≤ groups-1 then laws else if ((0 ≤ a ∧ a ≤ 1) ∨ (3 ≤ a ∧ a ≤ 4)) ∧ 0 ≤ b ∧ b ≤ 15 ∧ c ≤ -1 ∧ b ≤ groups-1 then (-1) else if ((0 ≤ a ∧ a ≤ 1) ∨ (3 ≤ a ∧ a ≤ 4)) ∧ 0 ≤ b ∧ b ≤ 15 ∧ 0 ≤ c ∧ b ≤ groups-1 ∧ groups ≤ c then (-1) else if ((0 ≤ a ∧ a ≤ 1) ∨ (3 ≤ a ∧ a ≤ 3)) ∧ 0 ≤ b ∧ b ≤ 15 ∧ 0 ≤ c ∧ c ≤ 15 ∧ b ≤ groups-1 ∧ c = b then (-1) else if ((0 ≤ a ∧ a ≤ 1) ∨ (3 ≤ a ∧ a ≤ 4)) ∧ 0 ≤ b ∧ b ≤ 15 ∧ 0 ≤ c ∧ c ≤ 15 ∧ laws = 20 ∧ b ≤ groups-1 ∧ c ≤ groups-1 ∧ c+1 ≤ b then (-3) else if ((0 ≤ a ∧ a ≤ 1) ∨ (3 ≤ a ∧ a ≤ 4)) ∧ 0 ≤ b ∧ b ≤ 15 ∧ 0 ≤ c ∧ c ≤ 15 ∧ laws = 20 ∧ b ≤ groups-1 ∧ c ≤ groups-1 ∧ b+1 ≤ c then (-3) else if a = 4 ∧ 0 ≤ b ∧ b ≤ 15 ∧ 0 ≤ c ∧ c ≤ 15 ∧ laws = 20 ∧ b ≤ groups-1 ∧ c ≤ groups-1 ∧ c = b then (-3) else if ((0 ≤ a ∧ a ≤ 1) ∨ (3 ≤ a ∧ a ≤ 4)) ∧ 0 ≤ b ∧ b ≤ 15 ∧ 0 ≤ c ∧ c ≤ 15 ∧ 0 ≤ laws ∧ laws ≤ 19 ∧ b ≤ groups-1 ∧ c ≤ groups-1 ∧ c+1 ≤ b then laws else if ((0 ≤ a ∧ a ≤ 1) ∨ (3 ≤ a ∧ a ≤ 4)) ∧ 0 ≤ b ∧ b ≤ 15 ∧ 0 ≤ c ∧ c ≤ 15 ∧ 0 ≤ laws ∧ laws ≤ 19 ∧ b ≤ groups-1 ∧ c ≤ groups-1 ∧ b+1 ≤ c then laws else if a = 4 ∧ 0 ≤ b ∧ b ≤ 15 ∧ 0 ≤ c ∧ c ≤ 15 ∧ 0 ≤ laws ∧ laws ≤ 19 ∧ b ≤ groups-1 ∧ c ≤ groups-1 ∧ c = b then laws else 0
def F_law_laws (a b c groups laws : Int) : Int := if a ≤ -1 then laws else if 5 ≤ a then laws else if 0 ≤ a ∧ a ≤ 4 ∧ b ≤ -1 then laws else if 0 ≤ a ∧ a ≤ 4 ∧ 0 ≤ b ∧ groups ≤ b then laws else if a = 2 ∧ 0 ≤ b ∧ b ≤ 15 ∧ c ≤ -1 ∧ b ≤ groups-1 then laws else if a = 2 ∧ 0 ≤ b ∧ b ≤ 15 ∧ 25 ≤ c ∧ b ≤ groups-1 then laws else if a = 2 ∧ 0 ≤ b ∧ b ≤ 15 ∧ 0 ≤ c ∧ c ≤ 24 ∧ laws = 20 ∧ b ≤ groups-1 then laws else if a = 2 ∧ 0 ≤ b ∧ b ≤ 15 ∧ 0 ≤ c ∧ c ≤ 24 ∧ 0 ≤ laws ∧ laws ≤ 19 ∧ b ≤ groups-1 then laws+1 else if ((0 ≤ a ∧ a ≤ 1) ∨ (3 ≤ a ∧ a ≤ 4)) ∧ 0 ≤ b ∧ b ≤ 15 ∧ c ≤ -1 ∧ b ≤ groups-1 then laws else if ((0 ≤ a ∧ a ≤ 1) ∨ (3 ≤ a ∧ a ≤ 4)) ∧ 0 ≤ b ∧ b ≤ 15 ∧ 0 ≤ c ∧ b ≤ groups-1 ∧ groups ≤ c then laws else if ((0 ≤ a ∧ a ≤ 1) ∨ (3 ≤ a ∧ a ≤ 3)) ∧ 0 ≤ b ∧ b ≤ 15 ∧ 0 ≤ c ∧ c ≤ 15 ∧ b ≤ groups-1 ∧ c = b then laws else if ((0 ≤ a ∧ a ≤ 1) ∨ (3 ≤ a ∧ a ≤ 4)) ∧ 0 ≤ b ∧ b ≤ 15 ∧ 0 ≤ c ∧ c ≤ 15 ∧ laws = 20 ∧ b ≤ groups-1 ∧ c ≤ groups-1 ∧ c+1 ≤ b then laws else if ((0 ≤ a ∧ a ≤ 1) ∨ (3 ≤ a ∧ a ≤ 4)) ∧ 0 ≤ b ∧ b ≤ 15 ∧ 0 ≤ c ∧ c ≤ 15 ∧ laws = 20 ∧ b ≤ groups-1 ∧ c ≤ groups-1 ∧ b+1 ≤ c then laws else if a = 4 ∧ 0 ≤ b ∧ b ≤ 15 ∧ 0 ≤ c ∧ c ≤ 15 ∧ laws = 20 ∧ b ≤ groups-1 ∧ c ≤ groups-1 ∧ c = b then laws else if ((0 ≤ a ∧ a ≤ 1) ∨ (3 ≤ a ∧ a ≤ 4)) ∧ 0 ≤ b ∧ b ≤ 15 ∧ 0 ≤ c ∧ c ≤ 15 ∧ 0 ≤ laws ∧ laws ≤ 19 ∧ b ≤ groups-1 ∧ c ≤ groups-1 ∧ c+1 ≤ b then laws+1 else if ((0 ≤ a ∧ a ≤ 1) ∨ (3 ≤ a ∧ a ≤ 4)) ∧ 0 ≤ b ∧ b ≤ 15 ∧ 0 ≤ c ∧ c ≤ 15 ∧ 0 ≤ laws ∧ laws ≤ 19 ∧ b ≤ groups-1 ∧ c ≤ groups-1 ∧ b+1 ≤ c then laws+1 else if a = 4 ∧ 0 ≤ b ∧ b ≤ 15 ∧ 0 ≤ c ∧ c ≤ 15 ∧ 0 ≤ laws ∧ laws ≤ 19 ∧ b ≤ groups-1 ∧ c ≤ groups-1 ∧ c = b then laws+1 else 0
theorem H_law_end {J : Jt} {ρ ρ'' : List Int} {σ' : zS} {a b c groups laws : Int} {r : Option Value} {al : Al} (hal : al ∈ ct_H_law.al) (hp : Pre ρ ρ'') (h0 : ρ[0]? = some a) (h1 : ρ[1]? = some b) (h2 : ρ[2]? = some c) (h3 : ρ[3]? = some groups) (h4 : ρ[4]? = some laws) (hk : Ko J al.2 ρ'' σ') (hr : Rs ρ'' al.1 r.toList) : ∃ y : Int32, r = some (.int y) ∧ F_law_0 a b c groups laws = y.toInt ∧ groups = (σ'.1 5 1).toInt ∧ F_law_laws a b c groups laws = (σ'.1 34 1).toInt := by
  have e0 := hp.at h0
  have e1 := hp.at h1
  have e2 := hp.at h2
  have e3 := hp.at h3
  have e4 := hp.at h4
  rcases List.mem_cons.mp hal with rfl | hal
  · obtain ⟨w, l, q1, q2, q3⟩ := Rs.cons hr
    obtain ⟨y, rfl, q4⟩ := q2.int rfl
    have hr2 : r = some (.int y) := by
      cases r with
      | none => cases q1
      | some r => cases q1; rfl
    have x0 := inD_one (en_c hk (d := [(-2147483648, -1)]) (by decide +kernel) e0)
    have x3 := inD_one (en_c hk (d := [(0, 16)]) (by decide +kernel) e3)
    have x4 := inD_one (en_c hk (d := [(0, 20)]) (by decide +kernel) e4)
    have hy : (-1 : Int) = y.toInt := Option.some.inj q4
    have m_groups := me_i hk (k := 5) (j := 1) (i := 3) (o := 0) (List.mem_of_getElem? (i := 0) rfl) e3
    have m_laws := me_i hk (k := 34) (j := 1) (i := 4) (o := 0) (List.mem_of_getElem? (i := 1) rfl) e4
    refine ⟨y, hr2, ?_, ?_, ?_⟩
    · unfold F_law_0
      exact (if_pos (by omega)).trans (by omega)
    · omega
    · unfold F_law_laws
      exact (if_pos (by omega)).trans (by omega)
  rcases List.mem_cons.mp hal with rfl | hal
  · obtain ⟨w, l, q1, q2, q3⟩ := Rs.cons hr
    obtain ⟨y, rfl, q4⟩ := q2.int rfl
    have hr2 : r = some (.int y) := by
      cases r with
      | none => cases q1
      | some r => cases q1; rfl
    have x0 := inD_one (en_c hk (d := [(5, 2147483647)]) (by decide +kernel) e0)
    have x3 := inD_one (en_c hk (d := [(0, 16)]) (by decide +kernel) e3)
    have x4 := inD_one (en_c hk (d := [(0, 20)]) (by decide +kernel) e4)
    have hy : (-1 : Int) = y.toInt := Option.some.inj q4
    have m_groups := me_i hk (k := 5) (j := 1) (i := 3) (o := 0) (List.mem_of_getElem? (i := 0) rfl) e3
    have m_laws := me_i hk (k := 34) (j := 1) (i := 4) (o := 0) (List.mem_of_getElem? (i := 1) rfl) e4
    refine ⟨y, hr2, ?_, ?_, ?_⟩
    · unfold F_law_0
      refine (if_neg (by omega)).trans ?_
      exact (if_pos (by omega)).trans (by omega)
    · omega
    · unfold F_law_laws
      refine (if_neg (by omega)).trans ?_
      exact (if_pos (by omega)).trans (by omega)
  rcases List.mem_cons.mp hal with rfl | hal
  · obtain ⟨w, l, q1, q2, q3⟩ := Rs.cons hr
    obtain ⟨y, rfl, q4⟩ := q2.int rfl
    have hr2 : r = some (.int y) := by
      cases r with
      | none => cases q1
      | some r => cases q1; rfl
    have x0 := inD_one (en_c hk (d := [(0, 4)]) (by decide +kernel) e0)
    have x1 := inD_one (en_c hk (d := [(-2147483648, -1)]) (by decide +kernel) e1)
    have x3 := inD_one (en_c hk (d := [(0, 16)]) (by decide +kernel) e3)
    have x4 := inD_one (en_c hk (d := [(0, 20)]) (by decide +kernel) e4)
    have hy : (-1 : Int) = y.toInt := Option.some.inj q4
    have m_groups := me_i hk (k := 5) (j := 1) (i := 3) (o := 0) (List.mem_of_getElem? (i := 0) rfl) e3
    have m_laws := me_i hk (k := 34) (j := 1) (i := 4) (o := 0) (List.mem_of_getElem? (i := 1) rfl) e4
    refine ⟨y, hr2, ?_, ?_, ?_⟩
    · unfold F_law_0
      refine (if_neg (by omega)).trans ?_
      refine (if_neg (by omega)).trans ?_
      exact (if_pos (by omega)).trans (by omega)
    · omega
    · unfold F_law_laws
      refine (if_neg (by omega)).trans ?_
      refine (if_neg (by omega)).trans ?_
      exact (if_pos (by omega)).trans (by omega)
  rcases List.mem_cons.mp hal with rfl | hal
  · obtain ⟨w, l, q1, q2, q3⟩ := Rs.cons hr
    obtain ⟨y, rfl, q4⟩ := q2.int rfl
    have hr2 : r = some (.int y) := by
      cases r with
      | none => cases q1
      | some r => cases q1; rfl
    have x0 := inD_one (en_c hk (d := [(0, 4)]) (by decide +kernel) e0)
    have x1 := inD_one (en_c hk (d := [(0, 2147483647)]) (by decide +kernel) e1)
    have x3 := inD_one (en_c hk (d := [(0, 16)]) (by decide +kernel) e3)
    have x4 := inD_one (en_c hk (d := [(0, 20)]) (by decide +kernel) e4)
    have hy : (-1 : Int) = y.toInt := Option.some.inj q4
    obtain ⟨v0, g0, s0⟩ := hk.1.fa ([(3, 1), (1, -1)], 0) (by decide +kernel)
    simp only [tvo, e0, e1, e2, e3, e4] at g0
    have g0 := Option.some.inj g0
    have m_groups := me_i hk (k := 5) (j := 1) (i := 3) (o := 0) (List.mem_of_getElem? (i := 0) rfl) e3
    have m_laws := me_i hk (k := 34) (j := 1) (i := 4) (o := 0) (List.mem_of_getElem? (i := 1) rfl) e4
    refine ⟨y, hr2, ?_, ?_, ?_⟩
    · unfold F_law_0
      refine (if_neg (by omega)).trans ?_
      refine (if_neg (by omega)).trans ?_
      refine (if_neg (by omega)).trans ?_
      exact (if_pos (by omega)).trans (by omega)
    · omega
    · unfold F_law_laws
      refine (if_neg (by omega)).trans ?_
      refine (if_neg (by omega)).trans ?_
      refine (if_neg (by omega)).trans ?_
      exact (if_pos (by omega)).trans (by omega)
  rcases List.mem_cons.mp hal with rfl | hal
  · obtain ⟨w, l, q1, q2, q3⟩ := Rs.cons hr
    obtain ⟨y, rfl, q4⟩ := q2.int rfl
    have hr2 : r = some (.int y) := by
      cases r with
      | none => cases q1
      | some r => cases q1; rfl
    have x0 := inD_one (en_c hk (d := [(2, 2)]) (by decide +kernel) e0)
    have x1 := inD_one (en_c hk (d := [(0, 15)]) (by decide +kernel) e1)
    have x2 := inD_one (en_c hk (d := [(-2147483648, -1)]) (by decide +kernel) e2)
    have x3 := inD_one (en_c hk (d := [(0, 16)]) (by decide +kernel) e3)
    have x4 := inD_one (en_c hk (d := [(0, 20)]) (by decide +kernel) e4)
    have hy : (-1 : Int) = y.toInt := Option.some.inj q4
    obtain ⟨v0, g0, s0⟩ := hk.1.fa ([(1, 1), (3, -1)], -1) (by decide +kernel)
    simp only [tvo, e0, e1, e2, e3, e4] at g0
    have g0 := Option.some.inj g0
    have m_groups := me_i hk (k := 5) (j := 1) (i := 3) (o := 0) (List.mem_of_getElem? (i := 0) rfl) e3
    have m_laws := me_i hk (k := 34) (j := 1) (i := 4) (o := 0) (List.mem_of_getElem? (i := 1) rfl) e4
    refine ⟨y, hr2, ?_, ?_, ?_⟩
    · unfold F_law_0
      refine (if_neg (by omega)).trans ?_
      refine (if_neg (by omega)).trans ?_
      refine (if_neg (by omega)).trans ?_
      refine (if_neg (by omega)).trans ?_
      exact (if_pos (by omega)).trans (by omega)
    · omega
    · unfold F_law_laws
      refine (if_neg (by omega)).trans ?_
      refine (if_neg (by omega)).trans ?_
      refine (if_neg (by omega)).trans ?_
      refine (if_neg (by omega)).trans ?_
      exact (if_pos (by omega)).trans (by omega)
  rcases List.mem_cons.mp hal with rfl | hal
  · obtain ⟨w, l, q1, q2, q3⟩ := Rs.cons hr
    obtain ⟨y, rfl, q4⟩ := q2.int rfl
    have hr2 : r = some (.int y) := by
      cases r with
      | none => cases q1
      | some r => cases q1; rfl
    have x0 := inD_one (en_c hk (d := [(2, 2)]) (by decide +kernel) e0)
    have x1 := inD_one (en_c hk (d := [(0, 15)]) (by decide +kernel) e1)
    have x2 := inD_one (en_c hk (d := [(25, 2147483647)]) (by decide +kernel) e2)
    have x3 := inD_one (en_c hk (d := [(0, 16)]) (by decide +kernel) e3)
    have x4 := inD_one (en_c hk (d := [(0, 20)]) (by decide +kernel) e4)
    have hy : (-1 : Int) = y.toInt := Option.some.inj q4
    obtain ⟨v0, g0, s0⟩ := hk.1.fa ([(1, 1), (3, -1)], -1) (by decide +kernel)
    simp only [tvo, e0, e1, e2, e3, e4] at g0
    have g0 := Option.some.inj g0
    have m_groups := me_i hk (k := 5) (j := 1) (i := 3) (o := 0) (List.mem_of_getElem? (i := 0) rfl) e3
    have m_laws := me_i hk (k := 34) (j := 1) (i := 4) (o := 0) (List.mem_of_getElem? (i := 1) rfl) e4
    refine ⟨y, hr2, ?_, ?_, ?_⟩
    · unfold F_law_0
      refine (if_neg (by omega)).trans ?_
      refine (if_neg (by omega)).trans ?_
      refine (if_neg (by omega)).trans ?_
      refine (if_neg (by omega)).trans ?_
      refine (if_neg (by omega)).trans ?_
      exact (if_pos (by omega)).trans (by omega)
    · omega
    · unfold F_law_laws
      refine (if_neg (by omega)).trans ?_
      refine (if_neg (by omega)).trans ?_
      refine (if_neg (by omega)).trans ?_
      refine (if_neg (by omega)).trans ?_
      refine (if_neg (by omega)).trans ?_
      exact (if_pos (by omega)).trans (by omega)
  rcases List.mem_cons.mp hal with rfl | hal
  · obtain ⟨w, l, q1, q2, q3⟩ := Rs.cons hr
    obtain ⟨y, rfl, q4⟩ := q2.int rfl
    have hr2 : r = some (.int y) := by
      cases r with
      | none => cases q1
      | some r => cases q1; rfl
    have x0 := inD_one (en_c hk (d := [(2, 2)]) (by decide +kernel) e0)
    have x1 := inD_one (en_c hk (d := [(0, 15)]) (by decide +kernel) e1)
    have x2 := inD_one (en_c hk (d := [(0, 24)]) (by decide +kernel) e2)
    have x3 := inD_one (en_c hk (d := [(0, 16)]) (by decide +kernel) e3)
    have x4 := inD_one (en_c hk (d := [(20, 20)]) (by decide +kernel) e4)
    have hy : (-3 : Int) = y.toInt := Option.some.inj q4
    obtain ⟨v0, g0, s0⟩ := hk.1.fa ([(1, 1), (3, -1)], -1) (by decide +kernel)
    simp only [tvo, e0, e1, e2, e3, e4] at g0
    have g0 := Option.some.inj g0
    have m_groups := me_i hk (k := 5) (j := 1) (i := 3) (o := 0) (List.mem_of_getElem? (i := 0) rfl) e3
    have m_laws := me_i hk (k := 34) (j := 1) (i := 4) (o := 0) (List.mem_of_getElem? (i := 1) rfl) e4
    refine ⟨y, hr2, ?_, ?_, ?_⟩
    · unfold F_law_0
      refine (if_neg (by omega)).trans ?_
      refine (if_neg (by omega)).trans ?_
      refine (if_neg (by omega)).trans ?_
      refine (if_neg (by omega)).trans ?_
      refine (if_neg (by omega)).trans ?_
      refine (if_neg (by omega)).trans ?_
      exact (if_pos (by omega)).trans (by omega)
    · omega
    · unfold F_law_laws
      refine (if_neg (by omega)).trans ?_
      refine (if_neg (by omega)).trans ?_
      refine (if_neg (by omega)).trans ?_
      refine (if_neg (by omega)).trans ?_
      refine (if_neg (by omega)).trans ?_
      refine (if_neg (by omega)).trans ?_
      exact (if_pos (by omega)).trans (by omega)
  rcases List.mem_cons.mp hal with rfl | hal
  · obtain ⟨w, l, q1, q2, q3⟩ := Rs.cons hr
    obtain ⟨y, rfl, q4⟩ := q2.int rfl
    have hr2 : r = some (.int y) := by
      cases r with
      | none => cases q1
      | some r => cases q1; rfl
    have x0 := inD_one (en_c hk (d := [(2, 2)]) (by decide +kernel) e0)
    have x1 := inD_one (en_c hk (d := [(0, 15)]) (by decide +kernel) e1)
    have x2 := inD_one (en_c hk (d := [(0, 24)]) (by decide +kernel) e2)
    have x3 := inD_one (en_c hk (d := [(0, 16)]) (by decide +kernel) e3)
    have x4 := inD_one (en_c hk (d := [(0, 19)]) (by decide +kernel) e4)
    have hy := ret_i (i := 4) (o := 0) q4 e4
    obtain ⟨v0, g0, s0⟩ := hk.1.fa ([(1, 1), (3, -1)], -1) (by decide +kernel)
    simp only [tvo, e0, e1, e2, e3, e4] at g0
    have g0 := Option.some.inj g0
    have m_groups := me_i hk (k := 5) (j := 1) (i := 3) (o := 0) (List.mem_of_getElem? (i := 0) rfl) e3
    have m_laws := me_i hk (k := 34) (j := 1) (i := 4) (o := 1) (List.mem_of_getElem? (i := 1) rfl) e4
    refine ⟨y, hr2, ?_, ?_, ?_⟩
    · unfold F_law_0
      refine (if_neg (by omega)).trans ?_
      refine (if_neg (by omega)).trans ?_
      refine (if_neg (by omega)).trans ?_
      refine (if_neg (by omega)).trans ?_
      refine (if_neg (by omega)).trans ?_
      refine (if_neg (by omega)).trans ?_
      refine (if_neg (by omega)).trans ?_
      exact (if_pos (by omega)).trans (by omega)
    · omega
    · unfold F_law_laws
      refine (if_neg (by omega)).trans ?_
      refine (if_neg (by omega)).trans ?_
      refine (if_neg (by omega)).trans ?_
      refine (if_neg (by omega)).trans ?_
      refine (if_neg (by omega)).trans ?_
      refine (if_neg (by omega)).trans ?_
      refine (if_neg (by omega)).trans ?_
      exact (if_pos (by omega)).trans (by omega)
  rcases List.mem_cons.mp hal with rfl | hal
  · obtain ⟨w, l, q1, q2, q3⟩ := Rs.cons hr
    obtain ⟨y, rfl, q4⟩ := q2.int rfl
    have hr2 : r = some (.int y) := by
      cases r with
      | none => cases q1
      | some r => cases q1; rfl
    have x0 := in2 (en_c hk (d := [(0, 1), (3, 4)]) (by decide +kernel) e0)
    have x1 := inD_one (en_c hk (d := [(0, 15)]) (by decide +kernel) e1)
    have x2 := inD_one (en_c hk (d := [(-2147483648, -1)]) (by decide +kernel) e2)
    have x3 := inD_one (en_c hk (d := [(0, 16)]) (by decide +kernel) e3)
    have x4 := inD_one (en_c hk (d := [(0, 20)]) (by decide +kernel) e4)
    have hy : (-1 : Int) = y.toInt := Option.some.inj q4
    obtain ⟨v0, g0, s0⟩ := hk.1.fa ([(1, 1), (3, -1)], -1) (by decide +kernel)
    simp only [tvo, e0, e1, e2, e3, e4] at g0
    have g0 := Option.some.inj g0
    have m_groups := me_i hk (k := 5) (j := 1) (i := 3) (o := 0) (List.mem_of_getElem? (i := 0) rfl) e3
    have m_laws := me_i hk (k := 34) (j := 1) (i := 4) (o := 0) (List.mem_of_getElem? (i := 1) rfl) e4
    refine ⟨y, hr2, ?_, ?_, ?_⟩
    · unfold F_law_0
      refine (if_neg (by omega)).trans ?_
      refine (if_neg (by omega)).trans ?_
      refine (if_neg (by omega)).trans ?_
      refine (if_neg (by omega)).trans ?_
      refine (if_neg (by omega)).trans ?_
      refine (if_neg (by omega)).trans ?_
      refine (if_neg (by omega)).trans ?_
      refine (if_neg (by omega)).trans ?_
      exact (if_pos (by omega)).trans (by omega)
    · omega
    · unfold F_law_laws
      refine (if_neg (by omega)).trans ?_
      refine (if_neg (by omega)).trans ?_
      refine (if_neg (by omega)).trans ?_
      refine (if_neg (by omega)).trans ?_
      refine (if_neg (by omega)).trans ?_
      refine (if_neg (by omega)).trans ?_
      refine (if_neg (by omega)).trans ?_
      refine (if_neg (by omega)).trans ?_
      exact (if_pos (by omega)).trans (by omega)
  rcases List.mem_cons.mp hal with rfl | hal
  · obtain ⟨w, l, q1, q2, q3⟩ := Rs.cons hr
    obtain ⟨y, rfl, q4⟩ := q2.int rfl
    have hr2 : r = some (.int y) := by
      cases r with
      | none => cases q1
      | some r => cases q1; rfl
    have x0 := in2 (en_c hk (d := [(0, 1), (3, 4)]) (by decide +kernel) e0)
    have x1 := inD_one (en_c hk (d := [(0, 15)]) (by decide +kernel) e1)
    have x2 := inD_one (en_c hk (d := [(0, 2147483647)]) (by decide +kernel) e2)
    have x3 := inD_one (en_c hk (d := [(0, 16)]) (by decide +kernel) e3)
    have x4 := inD_one (en_c hk (d := [(0, 20)]) (by decide +kernel) e4)
    have hy : (-1 : Int) = y.toInt := Option.some.inj q4
    obtain ⟨v0, g0, s0⟩ := hk.1.fa ([(1, 1), (3, -1)], -1) (by decide +kernel)
    simp only [tvo, e0, e1, e2, e3, e4] at g0
    have g0 := Option.some.inj g0
    obtain ⟨v1, g1, s1⟩ := hk.1.fa ([(3, 1), (2, -1)], 0) (by decide +kernel)
    simp only [tvo, e0, e1, e2, e3, e4] at g1
    have g1 := Option.some.inj g1
    have m_groups := me_i hk (k := 5) (j := 1) (i := 3) (o := 0) (List.mem_of_getElem? (i := 0) rfl) e3
    have m_laws := me_i hk (k := 34) (j := 1) (i := 4) (o := 0) (List.mem_of_getElem? (i := 1) rfl) e4
    refine ⟨y, hr2, ?_, ?_, ?_⟩
    · unfold F_law_0
      refine (if_neg (by omega)).trans ?_
      refine (if_neg (by omega)).trans ?_
      refine (if_neg (by omega)).trans ?_
      refine (if_neg (by omega)).trans ?_
      refine (if_neg (by omega)).trans ?_
      refine (if_neg (by omega)).trans ?_
      refine (if_neg (by omega)).trans ?_
      refine (if_neg (by omega)).trans ?_
      refine (if_neg (by omega)).trans ?_
      exact (if_pos (by omega)).trans (by omega)
    · omega
    · unfold F_law_laws
      refine (if_neg (by omega)).trans ?_
      refine (if_neg (by omega)).trans ?_
      refine (if_neg (by omega)).trans ?_
      refine (if_neg (by omega)).trans ?_
      refine (if_neg (by omega)).trans ?_
      refine (if_neg (by omega)).trans ?_
      refine (if_neg (by omega)).trans ?_
      refine (if_neg (by omega)).trans ?_
      refine (if_neg (by omega)).trans ?_
      exact (if_pos (by omega)).trans (by omega)
  rcases List.mem_cons.mp hal with rfl | hal
  · obtain ⟨w, l, q1, q2, q3⟩ := Rs.cons hr
    obtain ⟨y, rfl, q4⟩ := q2.int rfl
    have hr2 : r = some (.int y) := by
      cases r with
      | none => cases q1
      | some r => cases q1; rfl
    have x0 := in2 (en_c hk (d := [(0, 1), (3, 3)]) (by decide +kernel) e0)
    have x1 := inD_one (en_c hk (d := [(0, 15)]) (by decide +kernel) e1)
    have x2 := inD_one (en_c hk (d := [(0, 15)]) (by decide +kernel) e2)
    have x3 := inD_one (en_c hk (d := [(0, 16)]) (by decide +kernel) e3)
    have x4 := inD_one (en_c hk (d := [(0, 20)]) (by decide +kernel) e4)
    have hy : (-1 : Int) = y.toInt := Option.some.inj q4
    obtain ⟨v0, g0, s0⟩ := hk.1.fa ([(1, 1), (3, -1)], -1) (by decide +kernel)
    simp only [tvo, e0, e1, e2, e3, e4] at g0
    have g0 := Option.some.inj g0
    obtain ⟨v1, g1, s1⟩ := hk.1.fa ([(2, 1), (1, -1)], 0) (by decide +kernel)
    simp only [tvo, e0, e1, e2, e3, e4] at g1
    have g1 := Option.some.inj g1
    obtain ⟨v2, g2, s2⟩ := hk.1.fa ([(2, -1), (1, 1)], 0) (by decide +kernel)
    simp only [tvo, e0, e1, e2, e3, e4] at g2
    have g2 := Option.some.inj g2
    have m_groups := me_i hk (k := 5) (j := 1) (i := 3) (o := 0) (List.mem_of_getElem? (i := 0) rfl) e3
    have m_laws := me_i hk (k := 34) (j := 1) (i := 4) (o := 0) (List.mem_of_getElem? (i := 1) rfl) e4
    refine ⟨y, hr2, ?_, ?_, ?_⟩
    · unfold F_law_0
      refine (if_neg (by omega)).trans ?_
      refine (if_neg (by omega)).trans ?_
      refine (if_neg (by omega)).trans ?_
      refine (if_neg (by omega)).trans ?_
      refine (if_neg (by omega)).trans ?_
      refine (if_neg (by omega)).trans ?_
      refine (if_neg (by omega)).trans ?_
      refine (if_neg (by omega)).trans ?_
      refine (if_neg (by omega)).trans ?_
      refine (if_neg (by omega)).trans ?_
      exact (if_pos (by omega)).trans (by omega)
    · omega
    · unfold F_law_laws
      refine (if_neg (by omega)).trans ?_
      refine (if_neg (by omega)).trans ?_
      refine (if_neg (by omega)).trans ?_
      refine (if_neg (by omega)).trans ?_
      refine (if_neg (by omega)).trans ?_
      refine (if_neg (by omega)).trans ?_
      refine (if_neg (by omega)).trans ?_
      refine (if_neg (by omega)).trans ?_
      refine (if_neg (by omega)).trans ?_
      refine (if_neg (by omega)).trans ?_
      exact (if_pos (by omega)).trans (by omega)
  rcases List.mem_cons.mp hal with rfl | hal
  · obtain ⟨w, l, q1, q2, q3⟩ := Rs.cons hr
    obtain ⟨y, rfl, q4⟩ := q2.int rfl
    have hr2 : r = some (.int y) := by
      cases r with
      | none => cases q1
      | some r => cases q1; rfl
    have x0 := in2 (en_c hk (d := [(0, 1), (3, 4)]) (by decide +kernel) e0)
    have x1 := inD_one (en_c hk (d := [(0, 15)]) (by decide +kernel) e1)
    have x2 := inD_one (en_c hk (d := [(0, 15)]) (by decide +kernel) e2)
    have x3 := inD_one (en_c hk (d := [(0, 16)]) (by decide +kernel) e3)
    have x4 := inD_one (en_c hk (d := [(20, 20)]) (by decide +kernel) e4)
    have hy : (-3 : Int) = y.toInt := Option.some.inj q4
    obtain ⟨v0, g0, s0⟩ := hk.1.fa ([(1, 1), (3, -1)], -1) (by decide +kernel)
    simp only [tvo, e0, e1, e2, e3, e4] at g0
    have g0 := Option.some.inj g0
    obtain ⟨v1, g1, s1⟩ := hk.1.fa ([(2, 1), (3, -1)], -1) (by decide +kernel)
    simp only [tvo, e0, e1, e2, e3, e4] at g1
    have g1 := Option.some.inj g1
    obtain ⟨v2, g2, s2⟩ := hk.1.fa ([(2, 1), (1, -1)], -1) (by decide +kernel)
    simp only [tvo, e0, e1, e2, e3, e4] at g2
    have g2 := Option.some.inj g2
    have m_groups := me_i hk (k := 5) (j := 1) (i := 3) (o := 0) (List.mem_of_getElem? (i := 0) rfl) e3
    have m_laws := me_i hk (k := 34) (j := 1) (i := 4) (o := 0) (List.mem_of_getElem? (i := 1) rfl) e4
    refine ⟨y, hr2, ?_, ?_, ?_⟩
    · unfold F_law_0
      refine (if_neg (by omega)).trans ?_
      refine (if_neg (by omega)).trans ?_
      refine (if_neg (by omega)).trans ?_
      refine (if_neg (by omega)).trans ?_
      refine (if_neg (by omega)).trans ?_
      refine (if_neg (by omega)).trans ?_
      refine (if_neg (by omega)).trans ?_
      refine (if_neg (by omega)).trans ?_
      refine (if_neg (by omega)).trans ?_
      refine (if_neg (by omega)).trans ?_
      refine (if_neg (by omega)).trans ?_
      exact (if_pos (by omega)).trans (by omega)
    · omega
    · unfold F_law_laws
      refine (if_neg (by omega)).trans ?_
      refine (if_neg (by omega)).trans ?_
      refine (if_neg (by omega)).trans ?_
      refine (if_neg (by omega)).trans ?_
      refine (if_neg (by omega)).trans ?_
      refine (if_neg (by omega)).trans ?_
      refine (if_neg (by omega)).trans ?_
      refine (if_neg (by omega)).trans ?_
      refine (if_neg (by omega)).trans ?_
      refine (if_neg (by omega)).trans ?_
      refine (if_neg (by omega)).trans ?_
      exact (if_pos (by omega)).trans (by omega)
  rcases List.mem_cons.mp hal with rfl | hal
  · obtain ⟨w, l, q1, q2, q3⟩ := Rs.cons hr
    obtain ⟨y, rfl, q4⟩ := q2.int rfl
    have hr2 : r = some (.int y) := by
      cases r with
      | none => cases q1
      | some r => cases q1; rfl
    have x0 := in2 (en_c hk (d := [(0, 1), (3, 4)]) (by decide +kernel) e0)
    have x1 := inD_one (en_c hk (d := [(0, 15)]) (by decide +kernel) e1)
    have x2 := inD_one (en_c hk (d := [(0, 15)]) (by decide +kernel) e2)
    have x3 := inD_one (en_c hk (d := [(0, 16)]) (by decide +kernel) e3)
    have x4 := inD_one (en_c hk (d := [(20, 20)]) (by decide +kernel) e4)
    have hy : (-3 : Int) = y.toInt := Option.some.inj q4
    obtain ⟨v0, g0, s0⟩ := hk.1.fa ([(1, 1), (3, -1)], -1) (by decide +kernel)
    simp only [tvo, e0, e1, e2, e3, e4] at g0
    have g0 := Option.some.inj g0
    obtain ⟨v1, g1, s1⟩ := hk.1.fa ([(2, 1), (3, -1)], -1) (by decide +kernel)
    simp only [tvo, e0, e1, e2, e3, e4] at g1
    have g1 := Option.some.inj g1
    obtain ⟨v2, g2, s2⟩ := hk.1.fa ([(1, 1), (2, -1)], -1) (by decide +kernel)
    simp only [tvo, e0, e1, e2, e3, e4] at g2
    have g2 := Option.some.inj g2
    have m_groups := me_i hk (k := 5) (j := 1) (i := 3) (o := 0) (List.mem_of_getElem? (i := 0) rfl) e3
    have m_laws := me_i hk (k := 34) (j := 1) (i := 4) (o := 0) (List.mem_of_getElem? (i := 1) rfl) e4
    refine ⟨y, hr2, ?_, ?_, ?_⟩
    · unfold F_law_0
      refine (if_neg (by omega)).trans ?_
      refine (if_neg (by omega)).trans ?_
      refine (if_neg (by omega)).trans ?_
      refine (if_neg (by omega)).trans ?_
      refine (if_neg (by omega)).trans ?_
      refine (if_neg (by omega)).trans ?_
      refine (if_neg (by omega)).trans ?_
      refine (if_neg (by omega)).trans ?_
      refine (if_neg (by omega)).trans ?_
      refine (if_neg (by omega)).trans ?_
      refine (if_neg (by omega)).trans ?_
      refine (if_neg (by omega)).trans ?_
      exact (if_pos (by omega)).trans (by omega)
    · omega
    · unfold F_law_laws
      refine (if_neg (by omega)).trans ?_
      refine (if_neg (by omega)).trans ?_
      refine (if_neg (by omega)).trans ?_
      refine (if_neg (by omega)).trans ?_
      refine (if_neg (by omega)).trans ?_
      refine (if_neg (by omega)).trans ?_
      refine (if_neg (by omega)).trans ?_
      refine (if_neg (by omega)).trans ?_
      refine (if_neg (by omega)).trans ?_
      refine (if_neg (by omega)).trans ?_
      refine (if_neg (by omega)).trans ?_
      refine (if_neg (by omega)).trans ?_
      exact (if_pos (by omega)).trans (by omega)
  rcases List.mem_cons.mp hal with rfl | hal
  · obtain ⟨w, l, q1, q2, q3⟩ := Rs.cons hr
    obtain ⟨y, rfl, q4⟩ := q2.int rfl
    have hr2 : r = some (.int y) := by
      cases r with
      | none => cases q1
      | some r => cases q1; rfl
    have x0 := inD_one (en_c hk (d := [(4, 4)]) (by decide +kernel) e0)
    have x1 := inD_one (en_c hk (d := [(0, 15)]) (by decide +kernel) e1)
    have x2 := inD_one (en_c hk (d := [(0, 15)]) (by decide +kernel) e2)
    have x3 := inD_one (en_c hk (d := [(0, 16)]) (by decide +kernel) e3)
    have x4 := inD_one (en_c hk (d := [(20, 20)]) (by decide +kernel) e4)
    have hy : (-3 : Int) = y.toInt := Option.some.inj q4
    obtain ⟨v0, g0, s0⟩ := hk.1.fa ([(1, 1), (3, -1)], -1) (by decide +kernel)
    simp only [tvo, e0, e1, e2, e3, e4] at g0
    have g0 := Option.some.inj g0
    obtain ⟨v1, g1, s1⟩ := hk.1.fa ([(2, 1), (3, -1)], -1) (by decide +kernel)
    simp only [tvo, e0, e1, e2, e3, e4] at g1
    have g1 := Option.some.inj g1
    obtain ⟨v2, g2, s2⟩ := hk.1.fa ([(2, 1), (1, -1)], 0) (by decide +kernel)
    simp only [tvo, e0, e1, e2, e3, e4] at g2
    have g2 := Option.some.inj g2
    obtain ⟨v3, g3, s3⟩ := hk.1.fa ([(2, -1), (1, 1)], 0) (by decide +kernel)
    simp only [tvo, e0, e1, e2, e3, e4] at g3
    have g3 := Option.some.inj g3
    have m_groups := me_i hk (k := 5) (j := 1) (i := 3) (o := 0) (List.mem_of_getElem? (i := 0) rfl) e3
    have m_laws := me_i hk (k := 34) (j := 1) (i := 4) (o := 0) (List.mem_of_getElem? (i := 1) rfl) e4
    refine ⟨y, hr2, ?_, ?_, ?_⟩
    · unfold F_law_0
      refine (if_neg (by omega)).trans ?_
      refine (if_neg (by omega)).trans ?_
      refine (if_neg (by omega)).trans ?_
      refine (if_neg (by omega)).trans ?_
      refine (if_neg (by omega)).trans ?_
      refine (if_neg (by omega)).trans ?_
      refine (if_neg (by omega)).trans ?_
      refine (if_neg (by omega)).trans ?_
      refine (if_neg (by omega)).trans ?_
      refine (if_neg (by omega)).trans ?_
      refine (if_neg (by omega)).trans ?_
      refine (if_neg (by omega)).trans ?_
      refine (if_neg (by omega)).trans ?_
      exact (if_pos (by omega)).trans (by omega)
    · omega
    · unfold F_law_laws
      refine (if_neg (by omega)).trans ?_
      refine (if_neg (by omega)).trans ?_
      refine (if_neg (by omega)).trans ?_
      refine (if_neg (by omega)).trans ?_
      refine (if_neg (by omega)).trans ?_
      refine (if_neg (by omega)).trans ?_
      refine (if_neg (by omega)).trans ?_
      refine (if_neg (by omega)).trans ?_
      refine (if_neg (by omega)).trans ?_
      refine (if_neg (by omega)).trans ?_
      refine (if_neg (by omega)).trans ?_
      refine (if_neg (by omega)).trans ?_
      refine (if_neg (by omega)).trans ?_
      exact (if_pos (by omega)).trans (by omega)
  rcases List.mem_cons.mp hal with rfl | hal
  · obtain ⟨w, l, q1, q2, q3⟩ := Rs.cons hr
    obtain ⟨y, rfl, q4⟩ := q2.int rfl
    have hr2 : r = some (.int y) := by
      cases r with
      | none => cases q1
      | some r => cases q1; rfl
    have x0 := in2 (en_c hk (d := [(0, 1), (3, 4)]) (by decide +kernel) e0)
    have x1 := inD_one (en_c hk (d := [(0, 15)]) (by decide +kernel) e1)
    have x2 := inD_one (en_c hk (d := [(0, 15)]) (by decide +kernel) e2)
    have x3 := inD_one (en_c hk (d := [(0, 16)]) (by decide +kernel) e3)
    have x4 := inD_one (en_c hk (d := [(0, 19)]) (by decide +kernel) e4)
    have hy := ret_i (i := 4) (o := 0) q4 e4
    obtain ⟨v0, g0, s0⟩ := hk.1.fa ([(1, 1), (3, -1)], -1) (by decide +kernel)
    simp only [tvo, e0, e1, e2, e3, e4] at g0
    have g0 := Option.some.inj g0
    obtain ⟨v1, g1, s1⟩ := hk.1.fa ([(2, 1), (3, -1)], -1) (by decide +kernel)
    simp only [tvo, e0, e1, e2, e3, e4] at g1
    have g1 := Option.some.inj g1
    obtain ⟨v2, g2, s2⟩ := hk.1.fa ([(2, 1), (1, -1)], -1) (by decide +kernel)
    simp only [tvo, e0, e1, e2, e3, e4] at g2
    have g2 := Option.some.inj g2
    have m_groups := me_i hk (k := 5) (j := 1) (i := 3) (o := 0) (List.mem_of_getElem? (i := 0) rfl) e3
    have m_laws := me_i hk (k := 34) (j := 1) (i := 4) (o := 1) (List.mem_of_getElem? (i := 1) rfl) e4
    refine ⟨y, hr2, ?_, ?_, ?_⟩
    · unfold F_law_0
      refine (if_neg (by omega)).trans ?_
      refine (if_neg (by omega)).trans ?_
      refine (if_neg (by omega)).trans ?_
      refine (if_neg (by omega)).trans ?_
      refine (if_neg (by omega)).trans ?_
      refine (if_neg (by omega)).trans ?_
      refine (if_neg (by omega)).trans ?_
      refine (if_neg (by omega)).trans ?_
      refine (if_neg (by omega)).trans ?_
      refine (if_neg (by omega)).trans ?_
      refine (if_neg (by omega)).trans ?_
      refine (if_neg (by omega)).trans ?_
      refine (if_neg (by omega)).trans ?_
      refine (if_neg (by omega)).trans ?_
      exact (if_pos (by omega)).trans (by omega)
    · omega
    · unfold F_law_laws
      refine (if_neg (by omega)).trans ?_
      refine (if_neg (by omega)).trans ?_
      refine (if_neg (by omega)).trans ?_
      refine (if_neg (by omega)).trans ?_
      refine (if_neg (by omega)).trans ?_
      refine (if_neg (by omega)).trans ?_
      refine (if_neg (by omega)).trans ?_
      refine (if_neg (by omega)).trans ?_
      refine (if_neg (by omega)).trans ?_
      refine (if_neg (by omega)).trans ?_
      refine (if_neg (by omega)).trans ?_
      refine (if_neg (by omega)).trans ?_
      refine (if_neg (by omega)).trans ?_
      refine (if_neg (by omega)).trans ?_
      exact (if_pos (by omega)).trans (by omega)
  rcases List.mem_cons.mp hal with rfl | hal
  · obtain ⟨w, l, q1, q2, q3⟩ := Rs.cons hr
    obtain ⟨y, rfl, q4⟩ := q2.int rfl
    have hr2 : r = some (.int y) := by
      cases r with
      | none => cases q1
      | some r => cases q1; rfl
    have x0 := in2 (en_c hk (d := [(0, 1), (3, 4)]) (by decide +kernel) e0)
    have x1 := inD_one (en_c hk (d := [(0, 15)]) (by decide +kernel) e1)
    have x2 := inD_one (en_c hk (d := [(0, 15)]) (by decide +kernel) e2)
    have x3 := inD_one (en_c hk (d := [(0, 16)]) (by decide +kernel) e3)
    have x4 := inD_one (en_c hk (d := [(0, 19)]) (by decide +kernel) e4)
    have hy := ret_i (i := 4) (o := 0) q4 e4
    obtain ⟨v0, g0, s0⟩ := hk.1.fa ([(1, 1), (3, -1)], -1) (by decide +kernel)
    simp only [tvo, e0, e1, e2, e3, e4] at g0
    have g0 := Option.some.inj g0
    obtain ⟨v1, g1, s1⟩ := hk.1.fa ([(2, 1), (3, -1)], -1) (by decide +kernel)
    simp only [tvo, e0, e1, e2, e3, e4] at g1
    have g1 := Option.some.inj g1
    obtain ⟨v2, g2, s2⟩ := hk.1.fa ([(1, 1), (2, -1)], -1) (by decide +kernel)
    simp only [tvo, e0, e1, e2, e3, e4] at g2
    have g2 := Option.some.inj g2
    have m_groups := me_i hk (k := 5) (j := 1) (i := 3) (o := 0) (List.mem_of_getElem? (i := 0) rfl) e3
    have m_laws := me_i hk (k := 34) (j := 1) (i := 4) (o := 1) (List.mem_of_getElem? (i := 1) rfl) e4
    refine ⟨y, hr2, ?_, ?_, ?_⟩
    · unfold F_law_0
      refine (if_neg (by omega)).trans ?_
      refine (if_neg (by omega)).trans ?_
      refine (if_neg (by omega)).trans ?_
      refine (if_neg (by omega)).trans ?_
      refine (if_neg (by omega)).trans ?_
      refine (if_neg (by omega)).trans ?_
      refine (if_neg (by omega)).trans ?_
      refine (if_neg (by omega)).trans ?_
      refine (if_neg (by omega)).trans ?_
      refine (if_neg (by omega)).trans ?_
      refine (if_neg (by omega)).trans ?_
      refine (if_neg (by omega)).trans ?_
      refine (if_neg (by omega)).trans ?_
      refine (if_neg (by omega)).trans ?_
      refine (if_neg (by omega)).trans ?_
      exact (if_pos (by omega)).trans (by omega)
    · omega
    · unfold F_law_laws
      refine (if_neg (by omega)).trans ?_
      refine (if_neg (by omega)).trans ?_
      refine (if_neg (by omega)).trans ?_
      refine (if_neg (by omega)).trans ?_
      refine (if_neg (by omega)).trans ?_
      refine (if_neg (by omega)).trans ?_
      refine (if_neg (by omega)).trans ?_
      refine (if_neg (by omega)).trans ?_
      refine (if_neg (by omega)).trans ?_
      refine (if_neg (by omega)).trans ?_
      refine (if_neg (by omega)).trans ?_
      refine (if_neg (by omega)).trans ?_
      refine (if_neg (by omega)).trans ?_
      refine (if_neg (by omega)).trans ?_
      refine (if_neg (by omega)).trans ?_
      exact (if_pos (by omega)).trans (by omega)
  rcases List.mem_cons.mp hal with rfl | hal
  · obtain ⟨w, l, q1, q2, q3⟩ := Rs.cons hr
    obtain ⟨y, rfl, q4⟩ := q2.int rfl
    have hr2 : r = some (.int y) := by
      cases r with
      | none => cases q1
      | some r => cases q1; rfl
    have x0 := inD_one (en_c hk (d := [(4, 4)]) (by decide +kernel) e0)
    have x1 := inD_one (en_c hk (d := [(0, 15)]) (by decide +kernel) e1)
    have x2 := inD_one (en_c hk (d := [(0, 15)]) (by decide +kernel) e2)
    have x3 := inD_one (en_c hk (d := [(0, 16)]) (by decide +kernel) e3)
    have x4 := inD_one (en_c hk (d := [(0, 19)]) (by decide +kernel) e4)
    have hy := ret_i (i := 4) (o := 0) q4 e4
    obtain ⟨v0, g0, s0⟩ := hk.1.fa ([(1, 1), (3, -1)], -1) (by decide +kernel)
    simp only [tvo, e0, e1, e2, e3, e4] at g0
    have g0 := Option.some.inj g0
    obtain ⟨v1, g1, s1⟩ := hk.1.fa ([(2, 1), (3, -1)], -1) (by decide +kernel)
    simp only [tvo, e0, e1, e2, e3, e4] at g1
    have g1 := Option.some.inj g1
    obtain ⟨v2, g2, s2⟩ := hk.1.fa ([(2, 1), (1, -1)], 0) (by decide +kernel)
    simp only [tvo, e0, e1, e2, e3, e4] at g2
    have g2 := Option.some.inj g2
    obtain ⟨v3, g3, s3⟩ := hk.1.fa ([(2, -1), (1, 1)], 0) (by decide +kernel)
    simp only [tvo, e0, e1, e2, e3, e4] at g3
    have g3 := Option.some.inj g3
    have m_groups := me_i hk (k := 5) (j := 1) (i := 3) (o := 0) (List.mem_of_getElem? (i := 0) rfl) e3
    have m_laws := me_i hk (k := 34) (j := 1) (i := 4) (o := 1) (List.mem_of_getElem? (i := 1) rfl) e4
    refine ⟨y, hr2, ?_, ?_, ?_⟩
    · unfold F_law_0
      refine (if_neg (by omega)).trans ?_
      refine (if_neg (by omega)).trans ?_
      refine (if_neg (by omega)).trans ?_
      refine (if_neg (by omega)).trans ?_
      refine (if_neg (by omega)).trans ?_
      refine (if_neg (by omega)).trans ?_
      refine (if_neg (by omega)).trans ?_
      refine (if_neg (by omega)).trans ?_
      refine (if_neg (by omega)).trans ?_
      refine (if_neg (by omega)).trans ?_
      refine (if_neg (by omega)).trans ?_
      refine (if_neg (by omega)).trans ?_
      refine (if_neg (by omega)).trans ?_
      refine (if_neg (by omega)).trans ?_
      refine (if_neg (by omega)).trans ?_
      refine (if_neg (by omega)).trans ?_
      exact (if_pos (by omega)).trans (by omega)
    · omega
    · unfold F_law_laws
      refine (if_neg (by omega)).trans ?_
      refine (if_neg (by omega)).trans ?_
      refine (if_neg (by omega)).trans ?_
      refine (if_neg (by omega)).trans ?_
      refine (if_neg (by omega)).trans ?_
      refine (if_neg (by omega)).trans ?_
      refine (if_neg (by omega)).trans ?_
      refine (if_neg (by omega)).trans ?_
      refine (if_neg (by omega)).trans ?_
      refine (if_neg (by omega)).trans ?_
      refine (if_neg (by omega)).trans ?_
      refine (if_neg (by omega)).trans ?_
      refine (if_neg (by omega)).trans ?_
      refine (if_neg (by omega)).trans ?_
      refine (if_neg (by omega)).trans ?_
      refine (if_neg (by omega)).trans ?_
      exact (if_pos (by omega)).trans (by omega)
  · cases hal
theorem M_law_end {J : Jt} {ρ ρ'' : List Int} {σ' : zS} {a b c groups laws : Int} {r : Option Value} {al : Al} (hal : al ∈ ct_M_law.al) (hp : Pre ρ ρ'') (h0 : ρ[0]? = some a) (h1 : ρ[1]? = some b) (h2 : ρ[2]? = some c) (h3 : ρ[3]? = some groups) (h4 : ρ[4]? = some laws) (hk : Ko J al.2 ρ'' σ') (hr : Rs ρ'' al.1 r.toList) : ∃ y : Int32, r = some (.int y) ∧ F_law_0 a b c groups laws = y.toInt ∧ groups = (σ'.1 110 7).toInt ∧ F_law_laws a b c groups laws = (σ'.1 110 77).toInt := by
  have e0 := hp.at h0
  have e1 := hp.at h1
  have e2 := hp.at h2
  have e3 := hp.at h3
  have e4 := hp.at h4
  rcases List.mem_cons.mp hal with rfl | hal
  · obtain ⟨w, l, q1, q2, q3⟩ := Rs.cons hr
    obtain ⟨y, rfl, q4⟩ := q2.int rfl
    have hr2 : r = some (.int y) := by
      cases r with
      | none => cases q1
      | some r => cases q1; rfl
    have x0 := inD_one (en_c hk (d := [(-2147483648, -1)]) (by decide +kernel) e0)
    have x3 := inD_one (en_c hk (d := [(0, 16)]) (by decide +kernel) e3)
    have x4 := inD_one (en_c hk (d := [(0, 20)]) (by decide +kernel) e4)
    have hy : (-1 : Int) = y.toInt := Option.some.inj q4
    have m_groups := me_i hk (k := 110) (j := 7) (i := 3) (o := 0) (List.mem_of_getElem? (i := 0) rfl) e3
    have m_laws := me_i hk (k := 110) (j := 77) (i := 4) (o := 0) (List.mem_of_getElem? (i := 1) rfl) e4
    refine ⟨y, hr2, ?_, ?_, ?_⟩
    · unfold F_law_0
      exact (if_pos (by omega)).trans (by omega)
    · omega
    · unfold F_law_laws
      exact (if_pos (by omega)).trans (by omega)
  rcases List.mem_cons.mp hal with rfl | hal
  · obtain ⟨w, l, q1, q2, q3⟩ := Rs.cons hr
    obtain ⟨y, rfl, q4⟩ := q2.int rfl
    have hr2 : r = some (.int y) := by
      cases r with
      | none => cases q1
      | some r => cases q1; rfl
    have x0 := inD_one (en_c hk (d := [(5, 2147483647)]) (by decide +kernel) e0)
    have x3 := inD_one (en_c hk (d := [(0, 16)]) (by decide +kernel) e3)
    have x4 := inD_one (en_c hk (d := [(0, 20)]) (by decide +kernel) e4)
    have hy : (-1 : Int) = y.toInt := Option.some.inj q4
    have m_groups := me_i hk (k := 110) (j := 7) (i := 3) (o := 0) (List.mem_of_getElem? (i := 0) rfl) e3
    have m_laws := me_i hk (k := 110) (j := 77) (i := 4) (o := 0) (List.mem_of_getElem? (i := 1) rfl) e4
    refine ⟨y, hr2, ?_, ?_, ?_⟩
    · unfold F_law_0
      refine (if_neg (by omega)).trans ?_
      exact (if_pos (by omega)).trans (by omega)
    · omega
    · unfold F_law_laws
      refine (if_neg (by omega)).trans ?_
      exact (if_pos (by omega)).trans (by omega)
  rcases List.mem_cons.mp hal with rfl | hal
  · obtain ⟨w, l, q1, q2, q3⟩ := Rs.cons hr
    obtain ⟨y, rfl, q4⟩ := q2.int rfl
    have hr2 : r = some (.int y) := by
      cases r with
      | none => cases q1
      | some r => cases q1; rfl
    have x0 := inD_one (en_c hk (d := [(0, 4)]) (by decide +kernel) e0)
    have x1 := inD_one (en_c hk (d := [(-2147483648, -1)]) (by decide +kernel) e1)
    have x3 := inD_one (en_c hk (d := [(0, 16)]) (by decide +kernel) e3)
    have x4 := inD_one (en_c hk (d := [(0, 20)]) (by decide +kernel) e4)
    have hy : (-1 : Int) = y.toInt := Option.some.inj q4
    have m_groups := me_i hk (k := 110) (j := 7) (i := 3) (o := 0) (List.mem_of_getElem? (i := 0) rfl) e3
    have m_laws := me_i hk (k := 110) (j := 77) (i := 4) (o := 0) (List.mem_of_getElem? (i := 1) rfl) e4
    refine ⟨y, hr2, ?_, ?_, ?_⟩
    · unfold F_law_0
      refine (if_neg (by omega)).trans ?_
      refine (if_neg (by omega)).trans ?_
      exact (if_pos (by omega)).trans (by omega)
    · omega
    · unfold F_law_laws
      refine (if_neg (by omega)).trans ?_
      refine (if_neg (by omega)).trans ?_
      exact (if_pos (by omega)).trans (by omega)
  rcases List.mem_cons.mp hal with rfl | hal
  · obtain ⟨w, l, q1, q2, q3⟩ := Rs.cons hr
    obtain ⟨y, rfl, q4⟩ := q2.int rfl
    have hr2 : r = some (.int y) := by
      cases r with
      | none => cases q1
      | some r => cases q1; rfl
    have x0 := inD_one (en_c hk (d := [(0, 4)]) (by decide +kernel) e0)
    have x1 := inD_one (en_c hk (d := [(0, 2147483647)]) (by decide +kernel) e1)
    have x3 := inD_one (en_c hk (d := [(0, 16)]) (by decide +kernel) e3)
    have x4 := inD_one (en_c hk (d := [(0, 20)]) (by decide +kernel) e4)
    have hy : (-1 : Int) = y.toInt := Option.some.inj q4
    obtain ⟨v0, g0, s0⟩ := hk.1.fa ([(3, 1), (1, -1)], 0) (by decide +kernel)
    simp only [tvo, e0, e1, e2, e3, e4] at g0
    have g0 := Option.some.inj g0
    have m_groups := me_i hk (k := 110) (j := 7) (i := 3) (o := 0) (List.mem_of_getElem? (i := 0) rfl) e3
    have m_laws := me_i hk (k := 110) (j := 77) (i := 4) (o := 0) (List.mem_of_getElem? (i := 1) rfl) e4
    refine ⟨y, hr2, ?_, ?_, ?_⟩
    · unfold F_law_0
      refine (if_neg (by omega)).trans ?_
      refine (if_neg (by omega)).trans ?_
      refine (if_neg (by omega)).trans ?_
      exact (if_pos (by omega)).trans (by omega)
    · omega
    · unfold F_law_laws
      refine (if_neg (by omega)).trans ?_
      refine (if_neg (by omega)).trans ?_
      refine (if_neg (by omega)).trans ?_
      exact (if_pos (by omega)).trans (by omega)
  rcases List.mem_cons.mp hal with rfl | hal
  · obtain ⟨w, l, q1, q2, q3⟩ := Rs.cons hr
    obtain ⟨y, rfl, q4⟩ := q2.int rfl
    have hr2 : r = some (.int y) := by
      cases r with
      | none => cases q1
      | some r => cases q1; rfl
    have x0 := inD_one (en_c hk (d := [(2, 2)]) (by decide +kernel) e0)
    have x1 := inD_one (en_c hk (d := [(0, 15)]) (by decide +kernel) e1)
    have x2 := inD_one (en_c hk (d := [(-2147483648, -1)]) (by decide +kernel) e2)
    have x3 := inD_one (en_c hk (d := [(0, 16)]) (by decide +kernel) e3)
    have x4 := inD_one (en_c hk (d := [(0, 20)]) (by decide +kernel) e4)
    have hy : (-1 : Int) = y.toInt := Option.some.inj q4
    obtain ⟨v0, g0, s0⟩ := hk.1.fa ([(1, 1), (3, -1)], -1) (by decide +kernel)
    simp only [tvo, e0, e1, e2, e3, e4] at g0
    have g0 := Option.some.inj g0
    have m_groups := me_i hk (k := 110) (j := 7) (i := 3) (o := 0) (List.mem_of_getElem? (i := 0) rfl) e3
    have m_laws := me_i hk (k := 110) (j := 77) (i := 4) (o := 0) (List.mem_of_getElem? (i := 1) rfl) e4
    refine ⟨y, hr2, ?_, ?_, ?_⟩
    · unfold F_law_0
      refine (if_neg (by omega)).trans ?_
      refine (if_neg (by omega)).trans ?_
      refine (if_neg (by omega)).trans ?_
      refine (if_neg (by omega)).trans ?_
      exact (if_pos (by omega)).trans (by omega)
    · omega
    · unfold F_law_laws
      refine (if_neg (by omega)).trans ?_
      refine (if_neg (by omega)).trans ?_
      refine (if_neg (by omega)).trans ?_
      refine (if_neg (by omega)).trans ?_
      exact (if_pos (by omega)).trans (by omega)
  rcases List.mem_cons.mp hal with rfl | hal
  · obtain ⟨w, l, q1, q2, q3⟩ := Rs.cons hr
    obtain ⟨y, rfl, q4⟩ := q2.int rfl
    have hr2 : r = some (.int y) := by
      cases r with
      | none => cases q1
      | some r => cases q1; rfl
    have x0 := inD_one (en_c hk (d := [(2, 2)]) (by decide +kernel) e0)
    have x1 := inD_one (en_c hk (d := [(0, 15)]) (by decide +kernel) e1)
    have x2 := inD_one (en_c hk (d := [(25, 2147483647)]) (by decide +kernel) e2)
    have x3 := inD_one (en_c hk (d := [(0, 16)]) (by decide +kernel) e3)
    have x4 := inD_one (en_c hk (d := [(0, 20)]) (by decide +kernel) e4)
    have hy : (-1 : Int) = y.toInt := Option.some.inj q4
    obtain ⟨v0, g0, s0⟩ := hk.1.fa ([(1, 1), (3, -1)], -1) (by decide +kernel)
    simp only [tvo, e0, e1, e2, e3, e4] at g0
    have g0 := Option.some.inj g0
    have m_groups := me_i hk (k := 110) (j := 7) (i := 3) (o := 0) (List.mem_of_getElem? (i := 0) rfl) e3
    have m_laws := me_i hk (k := 110) (j := 77) (i := 4) (o := 0) (List.mem_of_getElem? (i := 1) rfl) e4
    refine ⟨y, hr2, ?_, ?_, ?_⟩
    · unfold F_law_0
      refine (if_neg (by omega)).trans ?_
      refine (if_neg (by omega)).trans ?_
      refine (if_neg (by omega)).trans ?_
      refine (if_neg (by omega)).trans ?_
      refine (if_neg (by omega)).trans ?_
      exact (if_pos (by omega)).trans (by omega)
    · omega
    · unfold F_law_laws
      refine (if_neg (by omega)).trans ?_
      refine (if_neg (by omega)).trans ?_
      refine (if_neg (by omega)).trans ?_
      refine (if_neg (by omega)).trans ?_
      refine (if_neg (by omega)).trans ?_
      exact (if_pos (by omega)).trans (by omega)
  rcases List.mem_cons.mp hal with rfl | hal
  · obtain ⟨w, l, q1, q2, q3⟩ := Rs.cons hr
    obtain ⟨y, rfl, q4⟩ := q2.int rfl
    have hr2 : r = some (.int y) := by
      cases r with
      | none => cases q1
      | some r => cases q1; rfl
    have x0 := inD_one (en_c hk (d := [(2, 2)]) (by decide +kernel) e0)
    have x1 := inD_one (en_c hk (d := [(0, 15)]) (by decide +kernel) e1)
    have x2 := inD_one (en_c hk (d := [(0, 24)]) (by decide +kernel) e2)
    have x3 := inD_one (en_c hk (d := [(0, 16)]) (by decide +kernel) e3)
    have x4 := inD_one (en_c hk (d := [(20, 20)]) (by decide +kernel) e4)
    have hy : (-3 : Int) = y.toInt := Option.some.inj q4
    obtain ⟨v0, g0, s0⟩ := hk.1.fa ([(1, 1), (3, -1)], -1) (by decide +kernel)
    simp only [tvo, e0, e1, e2, e3, e4] at g0
    have g0 := Option.some.inj g0
    have m_groups := me_i hk (k := 110) (j := 7) (i := 3) (o := 0) (List.mem_of_getElem? (i := 0) rfl) e3
    have m_laws := me_i hk (k := 110) (j := 77) (i := 4) (o := 0) (List.mem_of_getElem? (i := 1) rfl) e4
    refine ⟨y, hr2, ?_, ?_, ?_⟩
    · unfold F_law_0
      refine (if_neg (by omega)).trans ?_
      refine (if_neg (by omega)).trans ?_
      refine (if_neg (by omega)).trans ?_
      refine (if_neg (by omega)).trans ?_
      refine (if_neg (by omega)).trans ?_
      refine (if_neg (by omega)).trans ?_
      exact (if_pos (by omega)).trans (by omega)
    · omega
    · unfold F_law_laws
      refine (if_neg (by omega)).trans ?_
      refine (if_neg (by omega)).trans ?_
      refine (if_neg (by omega)).trans ?_
      refine (if_neg (by omega)).trans ?_
      refine (if_neg (by omega)).trans ?_
      refine (if_neg (by omega)).trans ?_
      exact (if_pos (by omega)).trans (by omega)
  rcases List.mem_cons.mp hal with rfl | hal
  · obtain ⟨w, l, q1, q2, q3⟩ := Rs.cons hr
    obtain ⟨y, rfl, q4⟩ := q2.int rfl
    have hr2 : r = some (.int y) := by
      cases r with
      | none => cases q1
      | some r => cases q1; rfl
    have x0 := inD_one (en_c hk (d := [(2, 2)]) (by decide +kernel) e0)
    have x1 := inD_one (en_c hk (d := [(0, 15)]) (by decide +kernel) e1)
    have x2 := inD_one (en_c hk (d := [(0, 24)]) (by decide +kernel) e2)
    have x3 := inD_one (en_c hk (d := [(0, 16)]) (by decide +kernel) e3)
    have x4 := inD_one (en_c hk (d := [(0, 19)]) (by decide +kernel) e4)
    have hy := ret_i (i := 4) (o := 0) q4 e4
    obtain ⟨v0, g0, s0⟩ := hk.1.fa ([(1, 1), (3, -1)], -1) (by decide +kernel)
    simp only [tvo, e0, e1, e2, e3, e4] at g0
    have g0 := Option.some.inj g0
    have m_groups := me_i hk (k := 110) (j := 7) (i := 3) (o := 0) (List.mem_of_getElem? (i := 0) rfl) e3
    have m_laws := me_i hk (k := 110) (j := 77) (i := 4) (o := 1) (List.mem_of_getElem? (i := 1) rfl) e4
    refine ⟨y, hr2, ?_, ?_, ?_⟩
    · unfold F_law_0
      refine (if_neg (by omega)).trans ?_
      refine (if_neg (by omega)).trans ?_
      refine (if_neg (by omega)).trans ?_
      refine (if_neg (by omega)).trans ?_
      refine (if_neg (by omega)).trans ?_
      refine (if_neg (by omega)).trans ?_
      refine (if_neg (by omega)).trans ?_
      exact (if_pos (by omega)).trans (by omega)
    · omega
    · unfold F_law_laws
      refine (if_neg (by omega)).trans ?_
      refine (if_neg (by omega)).trans ?_
      refine (if_neg (by omega)).trans ?_
      refine (if_neg (by omega)).trans ?_
      refine (if_neg (by omega)).trans ?_
      refine (if_neg (by omega)).trans ?_
      refine (if_neg (by omega)).trans ?_
      exact (if_pos (by omega)).trans (by omega)
  rcases List.mem_cons.mp hal with rfl | hal
  · obtain ⟨w, l, q1, q2, q3⟩ := Rs.cons hr
    obtain ⟨y, rfl, q4⟩ := q2.int rfl
    have hr2 : r = some (.int y) := by
      cases r with
      | none => cases q1
      | some r => cases q1; rfl
    have x0 := in2 (en_c hk (d := [(0, 1), (3, 4)]) (by decide +kernel) e0)
    have x1 := inD_one (en_c hk (d := [(0, 15)]) (by decide +kernel) e1)
    have x2 := inD_one (en_c hk (d := [(-2147483648, -1)]) (by decide +kernel) e2)
    have x3 := inD_one (en_c hk (d := [(0, 16)]) (by decide +kernel) e3)
    have x4 := inD_one (en_c hk (d := [(0, 20)]) (by decide +kernel) e4)
    have hy : (-1 : Int) = y.toInt := Option.some.inj q4
    obtain ⟨v0, g0, s0⟩ := hk.1.fa ([(1, 1), (3, -1)], -1) (by decide +kernel)
    simp only [tvo, e0, e1, e2, e3, e4] at g0
    have g0 := Option.some.inj g0
    have m_groups := me_i hk (k := 110) (j := 7) (i := 3) (o := 0) (List.mem_of_getElem? (i := 0) rfl) e3
    have m_laws := me_i hk (k := 110) (j := 77) (i := 4) (o := 0) (List.mem_of_getElem? (i := 1) rfl) e4
    refine ⟨y, hr2, ?_, ?_, ?_⟩
    · unfold F_law_0
      refine (if_neg (by omega)).trans ?_
      refine (if_neg (by omega)).trans ?_
      refine (if_neg (by omega)).trans ?_
      refine (if_neg (by omega)).trans ?_
      refine (if_neg (by omega)).trans ?_
      refine (if_neg (by omega)).trans ?_
      refine (if_neg (by omega)).trans ?_
      refine (if_neg (by omega)).trans ?_
      exact (if_pos (by omega)).trans (by omega)
    · omega
    · unfold F_law_laws
      refine (if_neg (by omega)).trans ?_
      refine (if_neg (by omega)).trans ?_
      refine (if_neg (by omega)).trans ?_
      refine (if_neg (by omega)).trans ?_
      refine (if_neg (by omega)).trans ?_
      refine (if_neg (by omega)).trans ?_
      refine (if_neg (by omega)).trans ?_
      refine (if_neg (by omega)).trans ?_
      exact (if_pos (by omega)).trans (by omega)
  rcases List.mem_cons.mp hal with rfl | hal
  · obtain ⟨w, l, q1, q2, q3⟩ := Rs.cons hr
    obtain ⟨y, rfl, q4⟩ := q2.int rfl
    have hr2 : r = some (.int y) := by
      cases r with
      | none => cases q1
      | some r => cases q1; rfl
    have x0 := in2 (en_c hk (d := [(0, 1), (3, 4)]) (by decide +kernel) e0)
    have x1 := inD_one (en_c hk (d := [(0, 15)]) (by decide +kernel) e1)
    have x2 := inD_one (en_c hk (d := [(0, 2147483647)]) (by decide +kernel) e2)
    have x3 := inD_one (en_c hk (d := [(0, 16)]) (by decide +kernel) e3)
    have x4 := inD_one (en_c hk (d := [(0, 20)]) (by decide +kernel) e4)
    have hy : (-1 : Int) = y.toInt := Option.some.inj q4
    obtain ⟨v0, g0, s0⟩ := hk.1.fa ([(1, 1), (3, -1)], -1) (by decide +kernel)
    simp only [tvo, e0, e1, e2, e3, e4] at g0
    have g0 := Option.some.inj g0
    obtain ⟨v1, g1, s1⟩ := hk.1.fa ([(3, 1), (2, -1)], 0) (by decide +kernel)
    simp only [tvo, e0, e1, e2, e3, e4] at g1
    have g1 := Option.some.inj g1
    have m_groups := me_i hk (k := 110) (j := 7) (i := 3) (o := 0) (List.mem_of_getElem? (i := 0) rfl) e3
    have m_laws := me_i hk (k := 110) (j := 77) (i := 4) (o := 0) (List.mem_of_getElem? (i := 1) rfl) e4
    refine ⟨y, hr2, ?_, ?_, ?_⟩
    · unfold F_law_0
      refine (if_neg (by omega)).trans ?_
      refine (if_neg (by omega)).trans ?_
      refine (if_neg (by omega)).trans ?_
      refine (if_neg (by omega)).trans ?_
      refine (if_neg (by omega)).trans ?_
      refine (if_neg (by omega)).trans ?_
      refine (if_neg (by omega)).trans ?_
      refine (if_neg (by omega)).trans ?_
      refine (if_neg (by omega)).trans ?_
      exact (if_pos (by omega)).trans (by omega)
    · omega
    · unfold F_law_laws
      refine (if_neg (by omega)).trans ?_
      refine (if_neg (by omega)).trans ?_
      refine (if_neg (by omega)).trans ?_
      refine (if_neg (by omega)).trans ?_
      refine (if_neg (by omega)).trans ?_
      refine (if_neg (by omega)).trans ?_
      refine (if_neg (by omega)).trans ?_
      refine (if_neg (by omega)).trans ?_
      refine (if_neg (by omega)).trans ?_
      exact (if_pos (by omega)).trans (by omega)
  rcases List.mem_cons.mp hal with rfl | hal
  · obtain ⟨w, l, q1, q2, q3⟩ := Rs.cons hr
    obtain ⟨y, rfl, q4⟩ := q2.int rfl
    have hr2 : r = some (.int y) := by
      cases r with
      | none => cases q1
      | some r => cases q1; rfl
    have x0 := in2 (en_c hk (d := [(0, 1), (3, 3)]) (by decide +kernel) e0)
    have x1 := inD_one (en_c hk (d := [(0, 15)]) (by decide +kernel) e1)
    have x2 := inD_one (en_c hk (d := [(0, 15)]) (by decide +kernel) e2)
    have x3 := inD_one (en_c hk (d := [(0, 16)]) (by decide +kernel) e3)
    have x4 := inD_one (en_c hk (d := [(0, 20)]) (by decide +kernel) e4)
    have hy : (-1 : Int) = y.toInt := Option.some.inj q4
    obtain ⟨v0, g0, s0⟩ := hk.1.fa ([(1, 1), (3, -1)], -1) (by decide +kernel)
    simp only [tvo, e0, e1, e2, e3, e4] at g0
    have g0 := Option.some.inj g0
    obtain ⟨v1, g1, s1⟩ := hk.1.fa ([(2, 1), (1, -1)], 0) (by decide +kernel)
    simp only [tvo, e0, e1, e2, e3, e4] at g1
    have g1 := Option.some.inj g1
    obtain ⟨v2, g2, s2⟩ := hk.1.fa ([(2, -1), (1, 1)], 0) (by decide +kernel)
    simp only [tvo, e0, e1, e2, e3, e4] at g2
    have g2 := Option.some.inj g2
    have m_groups := me_i hk (k := 110) (j := 7) (i := 3) (o := 0) (List.mem_of_getElem? (i := 0) rfl) e3
    have m_laws := me_i hk (k := 110) (j := 77) (i := 4) (o := 0) (List.mem_of_getElem? (i := 1) rfl) e4
    refine ⟨y, hr2, ?_, ?_, ?_⟩
    · unfold F_law_0
      refine (if_neg (by omega)).trans ?_
      refine (if_neg (by omega)).trans ?_
      refine (if_neg (by omega)).trans ?_
      refine (if_neg (by omega)).trans ?_
      refine (if_neg (by omega)).trans ?_
      refine (if_neg (by omega)).trans ?_
      refine (if_neg (by omega)).trans ?_
      refine (if_neg (by omega)).trans ?_
      refine (if_neg (by omega)).trans ?_
      refine (if_neg (by omega)).trans ?_
      exact (if_pos (by omega)).trans (by omega)
    · omega
    · unfold F_law_laws
      refine (if_neg (by omega)).trans ?_
      refine (if_neg (by omega)).trans ?_
      refine (if_neg (by omega)).trans ?_
      refine (if_neg (by omega)).trans ?_
      refine (if_neg (by omega)).trans ?_
      refine (if_neg (by omega)).trans ?_
      refine (if_neg (by omega)).trans ?_
      refine (if_neg (by omega)).trans ?_
      refine (if_neg (by omega)).trans ?_
      refine (if_neg (by omega)).trans ?_
      exact (if_pos (by omega)).trans (by omega)
  rcases List.mem_cons.mp hal with rfl | hal
  · obtain ⟨w, l, q1, q2, q3⟩ := Rs.cons hr
    obtain ⟨y, rfl, q4⟩ := q2.int rfl
    have hr2 : r = some (.int y) := by
      cases r with
      | none => cases q1
      | some r => cases q1; rfl
    have x0 := in2 (en_c hk (d := [(0, 1), (3, 4)]) (by decide +kernel) e0)
    have x1 := inD_one (en_c hk (d := [(0, 15)]) (by decide +kernel) e1)
    have x2 := inD_one (en_c hk (d := [(0, 15)]) (by decide +kernel) e2)
    have x3 := inD_one (en_c hk (d := [(0, 16)]) (by decide +kernel) e3)
    have x4 := inD_one (en_c hk (d := [(20, 20)]) (by decide +kernel) e4)
    have hy : (-3 : Int) = y.toInt := Option.some.inj q4
    obtain ⟨v0, g0, s0⟩ := hk.1.fa ([(1, 1), (3, -1)], -1) (by decide +kernel)
    simp only [tvo, e0, e1, e2, e3, e4] at g0
    have g0 := Option.some.inj g0
    obtain ⟨v1, g1, s1⟩ := hk.1.fa ([(2, 1), (3, -1)], -1) (by decide +kernel)
    simp only [tvo, e0, e1, e2, e3, e4] at g1
    have g1 := Option.some.inj g1
    obtain ⟨v2, g2, s2⟩ := hk.1.fa ([(2, 1), (1, -1)], -1) (by decide +kernel)
    simp only [tvo, e0, e1, e2, e3, e4] at g2
    have g2 := Option.some.inj g2
    have m_groups := me_i hk (k := 110) (j := 7) (i := 3) (o := 0) (List.mem_of_getElem? (i := 0) rfl) e3
    have m_laws := me_i hk (k := 110) (j := 77) (i := 4) (o := 0) (List.mem_of_getElem? (i := 1) rfl) e4
    refine ⟨y, hr2, ?_, ?_, ?_⟩
    · unfold F_law_0
      refine (if_neg (by omega)).trans ?_
      refine (if_neg (by omega)).trans ?_
      refine (if_neg (by omega)).trans ?_
      refine (if_neg (by omega)).trans ?_
      refine (if_neg (by omega)).trans ?_
      refine (if_neg (by omega)).trans ?_
      refine (if_neg (by omega)).trans ?_
      refine (if_neg (by omega)).trans ?_
      refine (if_neg (by omega)).trans ?_
      refine (if_neg (by omega)).trans ?_
      refine (if_neg (by omega)).trans ?_
      exact (if_pos (by omega)).trans (by omega)
    · omega
    · unfold F_law_laws
      refine (if_neg (by omega)).trans ?_
      refine (if_neg (by omega)).trans ?_
      refine (if_neg (by omega)).trans ?_
      refine (if_neg (by omega)).trans ?_
      refine (if_neg (by omega)).trans ?_
      refine (if_neg (by omega)).trans ?_
      refine (if_neg (by omega)).trans ?_
      refine (if_neg (by omega)).trans ?_
      refine (if_neg (by omega)).trans ?_
      refine (if_neg (by omega)).trans ?_
      refine (if_neg (by omega)).trans ?_
      exact (if_pos (by omega)).trans (by omega)
  rcases List.mem_cons.mp hal with rfl | hal
  · obtain ⟨w, l, q1, q2, q3⟩ := Rs.cons hr
    obtain ⟨y, rfl, q4⟩ := q2.int rfl
    have hr2 : r = some (.int y) := by
      cases r with
      | none => cases q1
      | some r => cases q1; rfl
    have x0 := in2 (en_c hk (d := [(0, 1), (3, 4)]) (by decide +kernel) e0)
    have x1 := inD_one (en_c hk (d := [(0, 15)]) (by decide +kernel) e1)
    have x2 := inD_one (en_c hk (d := [(0, 15)]) (by decide +kernel) e2)
    have x3 := inD_one (en_c hk (d := [(0, 16)]) (by decide +kernel) e3)
    have x4 := inD_one (en_c hk (d := [(20, 20)]) (by decide +kernel) e4)
    have hy : (-3 : Int) = y.toInt := Option.some.inj q4
    obtain ⟨v0, g0, s0⟩ := hk.1.fa ([(1, 1), (3, -1)], -1) (by decide +kernel)
    simp only [tvo, e0, e1, e2, e3, e4] at g0
    have g0 := Option.some.inj g0
    obtain ⟨v1, g1, s1⟩ := hk.1.fa ([(2, 1), (3, -1)], -1) (by decide +kernel)
    simp only [tvo, e0, e1, e2, e3, e4] at g1
    have g1 := Option.some.inj g1
    obtain ⟨v2, g2, s2⟩ := hk.1.fa ([(1, 1), (2, -1)], -1) (by decide +kernel)
    simp only [tvo, e0, e1, e2, e3, e4] at g2
    have g2 := Option.some.inj g2
    have m_groups := me_i hk (k := 110) (j := 7) (i := 3) (o := 0) (List.mem_of_getElem? (i := 0) rfl) e3
    have m_laws := me_i hk (k := 110) (j := 77) (i := 4) (o := 0) (List.mem_of_getElem? (i := 1) rfl) e4
    refine ⟨y, hr2, ?_, ?_, ?_⟩
    · unfold F_law_0
      refine (if_neg (by omega)).trans ?_
      refine (if_neg (by omega)).trans ?_
      refine (if_neg (by omega)).trans ?_
      refine (if_neg (by omega)).trans ?_
      refine (if_neg (by omega)).trans ?_
      refine (if_neg (by omega)).trans ?_
      refine (if_neg (by omega)).trans ?_
      refine (if_neg (by omega)).trans ?_
      refine (if_neg (by omega)).trans ?_
      refine (if_neg (by omega)).trans ?_
      refine (if_neg (by omega)).trans ?_
      refine (if_neg (by omega)).trans ?_
      exact (if_pos (by omega)).trans (by omega)
    · omega
    · unfold F_law_laws
      refine (if_neg (by omega)).trans ?_
      refine (if_neg (by omega)).trans ?_
      refine (if_neg (by omega)).trans ?_
      refine (if_neg (by omega)).trans ?_
      refine (if_neg (by omega)).trans ?_
      refine (if_neg (by omega)).trans ?_
      refine (if_neg (by omega)).trans ?_
      refine (if_neg (by omega)).trans ?_
      refine (if_neg (by omega)).trans ?_
      refine (if_neg (by omega)).trans ?_
      refine (if_neg (by omega)).trans ?_
      refine (if_neg (by omega)).trans ?_
      exact (if_pos (by omega)).trans (by omega)
  rcases List.mem_cons.mp hal with rfl | hal
  · obtain ⟨w, l, q1, q2, q3⟩ := Rs.cons hr
    obtain ⟨y, rfl, q4⟩ := q2.int rfl
    have hr2 : r = some (.int y) := by
      cases r with
      | none => cases q1
      | some r => cases q1; rfl
    have x0 := inD_one (en_c hk (d := [(4, 4)]) (by decide +kernel) e0)
    have x1 := inD_one (en_c hk (d := [(0, 15)]) (by decide +kernel) e1)
    have x2 := inD_one (en_c hk (d := [(0, 15)]) (by decide +kernel) e2)
    have x3 := inD_one (en_c hk (d := [(0, 16)]) (by decide +kernel) e3)
    have x4 := inD_one (en_c hk (d := [(20, 20)]) (by decide +kernel) e4)
    have hy : (-3 : Int) = y.toInt := Option.some.inj q4
    obtain ⟨v0, g0, s0⟩ := hk.1.fa ([(1, 1), (3, -1)], -1) (by decide +kernel)
    simp only [tvo, e0, e1, e2, e3, e4] at g0
    have g0 := Option.some.inj g0
    obtain ⟨v1, g1, s1⟩ := hk.1.fa ([(2, 1), (3, -1)], -1) (by decide +kernel)
    simp only [tvo, e0, e1, e2, e3, e4] at g1
    have g1 := Option.some.inj g1
    obtain ⟨v2, g2, s2⟩ := hk.1.fa ([(2, 1), (1, -1)], 0) (by decide +kernel)
    simp only [tvo, e0, e1, e2, e3, e4] at g2
    have g2 := Option.some.inj g2
    obtain ⟨v3, g3, s3⟩ := hk.1.fa ([(2, -1), (1, 1)], 0) (by decide +kernel)
    simp only [tvo, e0, e1, e2, e3, e4] at g3
    have g3 := Option.some.inj g3
    have m_groups := me_i hk (k := 110) (j := 7) (i := 3) (o := 0) (List.mem_of_getElem? (i := 0) rfl) e3
    have m_laws := me_i hk (k := 110) (j := 77) (i := 4) (o := 0) (List.mem_of_getElem? (i := 1) rfl) e4
    refine ⟨y, hr2, ?_, ?_, ?_⟩
    · unfold F_law_0
      refine (if_neg (by omega)).trans ?_
      refine (if_neg (by omega)).trans ?_
      refine (if_neg (by omega)).trans ?_
      refine (if_neg (by omega)).trans ?_
      refine (if_neg (by omega)).trans ?_
      refine (if_neg (by omega)).trans ?_
      refine (if_neg (by omega)).trans ?_
      refine (if_neg (by omega)).trans ?_
      refine (if_neg (by omega)).trans ?_
      refine (if_neg (by omega)).trans ?_
      refine (if_neg (by omega)).trans ?_
      refine (if_neg (by omega)).trans ?_
      refine (if_neg (by omega)).trans ?_
      exact (if_pos (by omega)).trans (by omega)
    · omega
    · unfold F_law_laws
      refine (if_neg (by omega)).trans ?_
      refine (if_neg (by omega)).trans ?_
      refine (if_neg (by omega)).trans ?_
      refine (if_neg (by omega)).trans ?_
      refine (if_neg (by omega)).trans ?_
      refine (if_neg (by omega)).trans ?_
      refine (if_neg (by omega)).trans ?_
      refine (if_neg (by omega)).trans ?_
      refine (if_neg (by omega)).trans ?_
      refine (if_neg (by omega)).trans ?_
      refine (if_neg (by omega)).trans ?_
      refine (if_neg (by omega)).trans ?_
      refine (if_neg (by omega)).trans ?_
      exact (if_pos (by omega)).trans (by omega)
  rcases List.mem_cons.mp hal with rfl | hal
  · obtain ⟨w, l, q1, q2, q3⟩ := Rs.cons hr
    obtain ⟨y, rfl, q4⟩ := q2.int rfl
    have hr2 : r = some (.int y) := by
      cases r with
      | none => cases q1
      | some r => cases q1; rfl
    have x0 := in2 (en_c hk (d := [(0, 1), (3, 4)]) (by decide +kernel) e0)
    have x1 := inD_one (en_c hk (d := [(0, 15)]) (by decide +kernel) e1)
    have x2 := inD_one (en_c hk (d := [(0, 15)]) (by decide +kernel) e2)
    have x3 := inD_one (en_c hk (d := [(0, 16)]) (by decide +kernel) e3)
    have x4 := inD_one (en_c hk (d := [(0, 19)]) (by decide +kernel) e4)
    have hy := ret_i (i := 4) (o := 0) q4 e4
    obtain ⟨v0, g0, s0⟩ := hk.1.fa ([(1, 1), (3, -1)], -1) (by decide +kernel)
    simp only [tvo, e0, e1, e2, e3, e4] at g0
    have g0 := Option.some.inj g0
    obtain ⟨v1, g1, s1⟩ := hk.1.fa ([(2, 1), (3, -1)], -1) (by decide +kernel)
    simp only [tvo, e0, e1, e2, e3, e4] at g1
    have g1 := Option.some.inj g1
    obtain ⟨v2, g2, s2⟩ := hk.1.fa ([(2, 1), (1, -1)], -1) (by decide +kernel)
    simp only [tvo, e0, e1, e2, e3, e4] at g2
    have g2 := Option.some.inj g2
    have m_groups := me_i hk (k := 110) (j := 7) (i := 3) (o := 0) (List.mem_of_getElem? (i := 0) rfl) e3
    have m_laws := me_i hk (k := 110) (j := 77) (i := 4) (o := 1) (List.mem_of_getElem? (i := 1) rfl) e4
    refine ⟨y, hr2, ?_, ?_, ?_⟩
    · unfold F_law_0
      refine (if_neg (by omega)).trans ?_
      refine (if_neg (by omega)).trans ?_
      refine (if_neg (by omega)).trans ?_
      refine (if_neg (by omega)).trans ?_
      refine (if_neg (by omega)).trans ?_
      refine (if_neg (by omega)).trans ?_
      refine (if_neg (by omega)).trans ?_
      refine (if_neg (by omega)).trans ?_
      refine (if_neg (by omega)).trans ?_
      refine (if_neg (by omega)).trans ?_
      refine (if_neg (by omega)).trans ?_
      refine (if_neg (by omega)).trans ?_
      refine (if_neg (by omega)).trans ?_
      refine (if_neg (by omega)).trans ?_
      exact (if_pos (by omega)).trans (by omega)
    · omega
    · unfold F_law_laws
      refine (if_neg (by omega)).trans ?_
      refine (if_neg (by omega)).trans ?_
      refine (if_neg (by omega)).trans ?_
      refine (if_neg (by omega)).trans ?_
      refine (if_neg (by omega)).trans ?_
      refine (if_neg (by omega)).trans ?_
      refine (if_neg (by omega)).trans ?_
      refine (if_neg (by omega)).trans ?_
      refine (if_neg (by omega)).trans ?_
      refine (if_neg (by omega)).trans ?_
      refine (if_neg (by omega)).trans ?_
      refine (if_neg (by omega)).trans ?_
      refine (if_neg (by omega)).trans ?_
      refine (if_neg (by omega)).trans ?_
      exact (if_pos (by omega)).trans (by omega)
  rcases List.mem_cons.mp hal with rfl | hal
  · obtain ⟨w, l, q1, q2, q3⟩ := Rs.cons hr
    obtain ⟨y, rfl, q4⟩ := q2.int rfl
    have hr2 : r = some (.int y) := by
      cases r with
      | none => cases q1
      | some r => cases q1; rfl
    have x0 := in2 (en_c hk (d := [(0, 1), (3, 4)]) (by decide +kernel) e0)
    have x1 := inD_one (en_c hk (d := [(0, 15)]) (by decide +kernel) e1)
    have x2 := inD_one (en_c hk (d := [(0, 15)]) (by decide +kernel) e2)
    have x3 := inD_one (en_c hk (d := [(0, 16)]) (by decide +kernel) e3)
    have x4 := inD_one (en_c hk (d := [(0, 19)]) (by decide +kernel) e4)
    have hy := ret_i (i := 4) (o := 0) q4 e4
    obtain ⟨v0, g0, s0⟩ := hk.1.fa ([(1, 1), (3, -1)], -1) (by decide +kernel)
    simp only [tvo, e0, e1, e2, e3, e4] at g0
    have g0 := Option.some.inj g0
    obtain ⟨v1, g1, s1⟩ := hk.1.fa ([(2, 1), (3, -1)], -1) (by decide +kernel)
    simp only [tvo, e0, e1, e2, e3, e4] at g1
    have g1 := Option.some.inj g1
    obtain ⟨v2, g2, s2⟩ := hk.1.fa ([(1, 1), (2, -1)], -1) (by decide +kernel)
    simp only [tvo, e0, e1, e2, e3, e4] at g2
    have g2 := Option.some.inj g2
    have m_groups := me_i hk (k := 110) (j := 7) (i := 3) (o := 0) (List.mem_of_getElem? (i := 0) rfl) e3
    have m_laws := me_i hk (k := 110) (j := 77) (i := 4) (o := 1) (List.mem_of_getElem? (i := 1) rfl) e4
    refine ⟨y, hr2, ?_, ?_, ?_⟩
    · unfold F_law_0
      refine (if_neg (by omega)).trans ?_
      refine (if_neg (by omega)).trans ?_
      refine (if_neg (by omega)).trans ?_
      refine (if_neg (by omega)).trans ?_
      refine (if_neg (by omega)).trans ?_
      refine (if_neg (by omega)).trans ?_
      refine (if_neg (by omega)).trans ?_
      refine (if_neg (by omega)).trans ?_
      refine (if_neg (by omega)).trans ?_
      refine (if_neg (by omega)).trans ?_
      refine (if_neg (by omega)).trans ?_
      refine (if_neg (by omega)).trans ?_
      refine (if_neg (by omega)).trans ?_
      refine (if_neg (by omega)).trans ?_
      refine (if_neg (by omega)).trans ?_
      exact (if_pos (by omega)).trans (by omega)
    · omega
    · unfold F_law_laws
      refine (if_neg (by omega)).trans ?_
      refine (if_neg (by omega)).trans ?_
      refine (if_neg (by omega)).trans ?_
      refine (if_neg (by omega)).trans ?_
      refine (if_neg (by omega)).trans ?_
      refine (if_neg (by omega)).trans ?_
      refine (if_neg (by omega)).trans ?_
      refine (if_neg (by omega)).trans ?_
      refine (if_neg (by omega)).trans ?_
      refine (if_neg (by omega)).trans ?_
      refine (if_neg (by omega)).trans ?_
      refine (if_neg (by omega)).trans ?_
      refine (if_neg (by omega)).trans ?_
      refine (if_neg (by omega)).trans ?_
      refine (if_neg (by omega)).trans ?_
      exact (if_pos (by omega)).trans (by omega)
  rcases List.mem_cons.mp hal with rfl | hal
  · obtain ⟨w, l, q1, q2, q3⟩ := Rs.cons hr
    obtain ⟨y, rfl, q4⟩ := q2.int rfl
    have hr2 : r = some (.int y) := by
      cases r with
      | none => cases q1
      | some r => cases q1; rfl
    have x0 := inD_one (en_c hk (d := [(4, 4)]) (by decide +kernel) e0)
    have x1 := inD_one (en_c hk (d := [(0, 15)]) (by decide +kernel) e1)
    have x2 := inD_one (en_c hk (d := [(0, 15)]) (by decide +kernel) e2)
    have x3 := inD_one (en_c hk (d := [(0, 16)]) (by decide +kernel) e3)
    have x4 := inD_one (en_c hk (d := [(0, 19)]) (by decide +kernel) e4)
    have hy := ret_i (i := 4) (o := 0) q4 e4
    obtain ⟨v0, g0, s0⟩ := hk.1.fa ([(1, 1), (3, -1)], -1) (by decide +kernel)
    simp only [tvo, e0, e1, e2, e3, e4] at g0
    have g0 := Option.some.inj g0
    obtain ⟨v1, g1, s1⟩ := hk.1.fa ([(2, 1), (3, -1)], -1) (by decide +kernel)
    simp only [tvo, e0, e1, e2, e3, e4] at g1
    have g1 := Option.some.inj g1
    obtain ⟨v2, g2, s2⟩ := hk.1.fa ([(2, 1), (1, -1)], 0) (by decide +kernel)
    simp only [tvo, e0, e1, e2, e3, e4] at g2
    have g2 := Option.some.inj g2
    obtain ⟨v3, g3, s3⟩ := hk.1.fa ([(2, -1), (1, 1)], 0) (by decide +kernel)
    simp only [tvo, e0, e1, e2, e3, e4] at g3
    have g3 := Option.some.inj g3
    have m_groups := me_i hk (k := 110) (j := 7) (i := 3) (o := 0) (List.mem_of_getElem? (i := 0) rfl) e3
    have m_laws := me_i hk (k := 110) (j := 77) (i := 4) (o := 1) (List.mem_of_getElem? (i := 1) rfl) e4
    refine ⟨y, hr2, ?_, ?_, ?_⟩
    · unfold F_law_0
      refine (if_neg (by omega)).trans ?_
      refine (if_neg (by omega)).trans ?_
      refine (if_neg (by omega)).trans ?_
      refine (if_neg (by omega)).trans ?_
      refine (if_neg (by omega)).trans ?_
      refine (if_neg (by omega)).trans ?_
      refine (if_neg (by omega)).trans ?_
      refine (if_neg (by omega)).trans ?_
      refine (if_neg (by omega)).trans ?_
      refine (if_neg (by omega)).trans ?_
      refine (if_neg (by omega)).trans ?_
      refine (if_neg (by omega)).trans ?_
      refine (if_neg (by omega)).trans ?_
      refine (if_neg (by omega)).trans ?_
      refine (if_neg (by omega)).trans ?_
      refine (if_neg (by omega)).trans ?_
      exact (if_pos (by omega)).trans (by omega)
    · omega
    · unfold F_law_laws
      refine (if_neg (by omega)).trans ?_
      refine (if_neg (by omega)).trans ?_
      refine (if_neg (by omega)).trans ?_
      refine (if_neg (by omega)).trans ?_
      refine (if_neg (by omega)).trans ?_
      refine (if_neg (by omega)).trans ?_
      refine (if_neg (by omega)).trans ?_
      refine (if_neg (by omega)).trans ?_
      refine (if_neg (by omega)).trans ?_
      refine (if_neg (by omega)).trans ?_
      refine (if_neg (by omega)).trans ?_
      refine (if_neg (by omega)).trans ?_
      refine (if_neg (by omega)).trans ?_
      refine (if_neg (by omega)).trans ?_
      refine (if_neg (by omega)).trans ?_
      refine (if_neg (by omega)).trans ?_
      exact (if_pos (by omega)).trans (by omega)
  · cases hal
theorem LC_32_ok {E : xV} {σ : zS} (h : J0 σ) : LC_32 E σ J0 := by
  intro x0 x1 x2
  obtain ⟨k1, k2⟩ := pub_ok (J := JJ) (q := ct_H_law) (o := 0) (as := [.inl x0, .inl x1, .inl x2]) (ds := [T32, T32, T32, [(0, 16)], [(0, 20)], [(0, 200)], [(0, 200)]]) (ks := [(5, 1), (34, 1), (110, 8), (5, 2)]) (σ := σ) (show pubOk ct_H_law 0 [false, false, false] [T32, T32, T32, [(0, 16)], [(0, 20)], [(0, 200)], [(0, 200)]] [(5, 1), (34, 1), (110, 8), (5, 2)] = true by decide +kernel) ⟨in32 _, in32 _, in32 _, fld_in h.1 (k := 5) (j := 1) (by decide +kernel), fld_in h.1 (k := 34) (j := 1) (by decide +kernel), r0 h.2.1 (k := (110, 8)) (by decide), r0 h.2.1 (k := (5, 2)) (by decide), trivial⟩ h.1
  refine (all_ct 158 _ rfl _ σ _ k1 k2).mono (fun va σ1 hv => ?_)
  obtain ⟨fa, al, f2, ρ1, f3, f4, f5⟩ := hv
  obtain ⟨_, _, g3a, g4a⟩ := endOk_ok (t := 1) (ks := KS) (List.all_eq_true.mp (show (ct_H_law.al.all fun al => endOk 1 al KS) = true by decide +kernel) al f2) f4 f5
  obtain ⟨ya, rfl, hya, t0a, t1a⟩ := H_law_end (a := x0.toInt) (b := x1.toInt) (c := x2.toInt) (groups := (σ.1 5 1).toInt) (laws := (σ.1 34 1).toInt) f2 f3 rfl rfl rfl rfl rfl f4 f5
  have fra : ∀ k j, isS (ct_H_law.w.get (GX.g.key k j)) = false → σ1.1 k j = σ.1 k j := fun k j hw => (fa k j (fun hq => by rw [hq.1] at hw; cases hw)).1
  refine ⟨ya, rfl, ?_⟩
  obtain ⟨m1, m2⟩ := pub_ok (J := JJ) (q := ct_M_law) (o := 110) (as := [.inl x0, .inl x1, .inl x2]) (ds := [T32, T32, T32, [(0, 16)], [(0, 20)], [(0, 200)], [(0, 200)]]) (ks := [(110, 7), (110, 77), (110, 8), (5, 2)]) (σ := σ1) (show pubOk ct_M_law 110 [false, false, false] [T32, T32, T32, [(0, 16)], [(0, 20)], [(0, 200)], [(0, 200)]] [(110, 7), (110, 77), (110, 8), (5, 2)] = true by decide +kernel) ⟨in32 _, in32 _, in32 _, fld_in g4a (k := 110) (j := 7) (by decide +kernel), fld_in g4a (k := 110) (j := 77) (by decide +kernel), r0 g3a (k := (110, 8)) (by decide), r0 g3a (k := (5, 2)) (by decide), trivial⟩ g4a
  refine (all_ct 402 _ rfl _ σ1 _ m1 m2).mono (fun vb σ2 hv => ?_)
  obtain ⟨fb, al, f2, ρ1, f3, f4, f5⟩ := hv
  obtain ⟨_, _, g3b, g4b⟩ := endOk_ok (t := 1) (ks := KS) (List.all_eq_true.mp (show (ct_M_law.al.all fun al => endOk 1 al KS) = true by decide +kernel) al f2) f4 f5
  obtain ⟨yb, rfl, hyb, t0b, t1b⟩ := M_law_end (a := x0.toInt) (b := x1.toInt) (c := x2.toInt) (groups := (σ1.1 110 7).toInt) (laws := (σ1.1 110 77).toInt) f2 f3 rfl rfl rfl rfl rfl f4 f5
  have frb : ∀ k j, isS (ct_M_law.w.get (GX.g.key k j)) = false → σ2.1 k j = σ1.1 k j := fun k j hw => (fb k j (fun hq => by rw [hq.1] at hw; cases hw)).1
  have u0 : (σ1.1 110 7).toInt = (σ.1 5 1).toInt := by rw [fra 110 7 (by decide +kernel)]; exact (h.2.2 ((5, 1), (110, 7)) (by decide +kernel)).symm
  have w0 : (σ2.1 5 1).toInt = (σ1.1 5 1).toInt := by rw [frb 5 1 (by decide +kernel)]
  have u1 : (σ1.1 110 77).toInt = (σ.1 34 1).toInt := by rw [fra 110 77 (by decide +kernel)]; exact (h.2.2 ((34, 1), (110, 77)) (by decide +kernel)).symm
  have w1 : (σ2.1 34 1).toInt = (σ1.1 34 1).toInt := by rw [frb 34 1 (by decide +kernel)]
  refine ⟨?_, g4b, g3b, ?_⟩
  · exact ⟨yb, rfl⟩
  · refine Eqs.two (l := [((5, 1), (110, 7)), ((34, 1), (110, 77))]) (m := [((0, 2), (110, 0)), ((5, 0), (110, 6)), ((34, 6), (110, 82)), ((41, 1), (110, 85)), ((98, 0), (110, 136)), ((98, 2), (110, 138))]) ?_ (((h.2.2.sub (by decide +kernel)).keep (q := ct_H_law) (by decide +kernel) fra).keep (q := ct_M_law) (by decide +kernel) frb) (by decide +kernel)
    refine Eqs.cons ?_ (Eqs.cons ?_ (Eqs.nil))
    · exact w0.trans (t0a.symm.trans (Eq.trans (by simp only [u0, u1]) t0b))
    · exact w1.trans (t1a.symm.trans (Eq.trans (by simp only [u0, u1]) t1b))
end
