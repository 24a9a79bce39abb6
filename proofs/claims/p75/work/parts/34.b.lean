noncomputable section
/-! ===== methods whose answers are told ===== -/
theorem me_i {J : Jt} {a : Kn} {ρ : List Int} {σ : zS} {k j i : Nat} {o : Int} (hk : Ko J a ρ σ) (hm : (k, ((.c (j : Int) : AV), (.i i o : AV))) ∈ a.me) {x : Int} (hx : ρ[i]? = some x) : (σ.1 k j).toInt = x + o := by
  obtain ⟨j', h1, h2⟩ := hk.1.me _ hm
  have ej : j' = j := by
    have : ((j : Nat) : Int) = (j' : Int) := Option.some.inj h1
    omega
  subst ej
  rcases h2 with ⟨_, h2⟩ | ⟨q, _⟩
  · simp only [ev, hx] at h2
    have := Option.some.inj h2
    omega
  · cases q
theorem en_c {J : Jt} {a : Kn} {ρ : List Int} {σ : zS} {i : Nat} {d : Dom} (hk : Ko J a ρ σ) (hm : (i, d) ∈ a.env) {x : Int} (hx : ρ[i]? = some x) : inD x d := by
  obtain ⟨x', h1, h2⟩ := hk.1.env _ hm
  rw [hx] at h1
  cases h1
  exact h2
theorem in2 {x a b c d : Int} (h : inD x [(a, b), (c, d)]) : (a ≤ x ∧ x ≤ b) ∨ (c ≤ x ∧ x ≤ d) := by
  obtain ⟨p, hp, h1, h2⟩ := h
  rcases List.mem_cons.mp hp with rfl | hp
  · exact Or.inl ⟨h1, h2⟩
  rcases List.mem_cons.mp hp with rfl | hp
  · exact Or.inr ⟨h1, h2⟩
  cases hp
theorem ret_i {ρ : List Int} {i : Nat} {o : Int} {y : Int32} {x : Int} (h : ev ρ (.i i o) = some y.toInt) (hx : ρ[i]? = some x) : x + o = y.toInt := by
  simp only [ev, hx] at h
  exact Option.some.inj h
theorem ret_n {ρ : List Int} {i : Nat} {y : Int32} (h : ev ρ (.i i 0) = some y.toInt) : ρ[i]? = some y.toInt := by
  simp only [ev] at h
  cases hq : ρ[i]? with
  | none => rw [hq] at h; cases h
  | some z =>
    rw [hq] at h
    have h := Option.some.inj h
    exact congrArg some (by omega)
def F_tick_0 (x now : Int) : Int := if x ≤ -1 then (-1) else if 1000001 ≤ x then (-1) else if 0 ≤ x ∧ x ≤ 1000000 ∧ 1000000001 ≤ now+x then (-2) else if 0 ≤ x ∧ x ≤ 1000000 ∧ now+x ≤ 1000000000 then now+x else 0
def F_tick_now (x now : Int) : Int := if x ≤ -1 then now else if 1000001 ≤ x then now else if 0 ≤ x ∧ x ≤ 1000000 ∧ 1000000001 ≤ now+x then now else if 0 ≤ x ∧ x ≤ 1000000 ∧ now+x ≤ 1000000000 then now+x else 0
theorem H_tick_end {J : Jt} {ρ ρ'' : List Int} {σ' : zS} {x now : Int} {r : Option Value} {al : Al} (hal : al ∈ ct_H_tick.al) (hp : Pre ρ ρ'') (h0 : ρ[0]? = some x) (h1 : ρ[1]? = some now) (hk : Ko J al.2 ρ'' σ') (hr : Rs ρ'' al.1 r.toList) : ∃ y : Int32, r = some (.int y) ∧ F_tick_0 x now = y.toInt ∧ F_tick_now x now = (σ'.1 0 2).toInt := by
  have e0 := hp.at h0
  have e1 := hp.at h1
  rcases List.mem_cons.mp hal with rfl | hal
  · obtain ⟨w, l, q1, q2, q3⟩ := Rs.cons hr
    obtain ⟨y, rfl, q4⟩ := q2.int rfl
    have hr2 : r = some (.int y) := by
      cases r with
      | none => cases q1
      | some r => cases q1; rfl
    have x0 := inD_one (en_c hk (d := [(-2147483648, -1)]) (by decide +kernel) e0)
    have x1 := inD_one (en_c hk (d := [(0, 1000000000)]) (by decide +kernel) e1)
    have hy : (-1 : Int) = y.toInt := Option.some.inj q4
    have m_now := me_i hk (k := 0) (j := 2) (i := 1) (o := 0) (List.mem_of_getElem? (i := 0) rfl) e1
    refine ⟨y, hr2, ?_, ?_⟩
    · unfold F_tick_0
      exact (if_pos (by omega)).trans (by omega)
    · unfold F_tick_now
      exact (if_pos (by omega)).trans (by omega)
  rcases List.mem_cons.mp hal with rfl | hal
  · obtain ⟨w, l, q1, q2, q3⟩ := Rs.cons hr
    obtain ⟨y, rfl, q4⟩ := q2.int rfl
    have hr2 : r = some (.int y) := by
      cases r with
      | none => cases q1
      | some r => cases q1; rfl
    have x0 := inD_one (en_c hk (d := [(1000001, 2147483647)]) (by decide +kernel) e0)
    have x1 := inD_one (en_c hk (d := [(0, 1000000000)]) (by decide +kernel) e1)
    have hy : (-1 : Int) = y.toInt := Option.some.inj q4
    have m_now := me_i hk (k := 0) (j := 2) (i := 1) (o := 0) (List.mem_of_getElem? (i := 0) rfl) e1
    refine ⟨y, hr2, ?_, ?_⟩
    · unfold F_tick_0
      refine (if_neg (by omega)).trans ?_
      exact (if_pos (by omega)).trans (by omega)
    · unfold F_tick_now
      refine (if_neg (by omega)).trans ?_
      exact (if_pos (by omega)).trans (by omega)
  rcases List.mem_cons.mp hal with rfl | hal
  · obtain ⟨w, l, q1, q2, q3⟩ := Rs.cons hr
    obtain ⟨y, rfl, q4⟩ := q2.int rfl
    have hr2 : r = some (.int y) := by
      cases r with
      | none => cases q1
      | some r => cases q1; rfl
    have x0 := inD_one (en_c hk (d := [(0, 1000000)]) (by decide +kernel) e0)
    have x1 := inD_one (en_c hk (d := [(0, 1000000000)]) (by decide +kernel) e1)
    have hy : (-2 : Int) = y.toInt := Option.some.inj q4
    obtain ⟨v0, g0, s0⟩ := hk.1.fa ([(1, -1), (0, -1)], -1000000001) (by decide +kernel)
    simp only [tvo, e0, e1] at g0
    have g0 := Option.some.inj g0
    have m_now := me_i hk (k := 0) (j := 2) (i := 1) (o := 0) (List.mem_of_getElem? (i := 0) rfl) e1
    refine ⟨y, hr2, ?_, ?_⟩
    · unfold F_tick_0
      refine (if_neg (by omega)).trans ?_
      refine (if_neg (by omega)).trans ?_
      exact (if_pos (by omega)).trans (by omega)
    · unfold F_tick_now
      refine (if_neg (by omega)).trans ?_
      refine (if_neg (by omega)).trans ?_
      exact (if_pos (by omega)).trans (by omega)
  rcases List.mem_cons.mp hal with rfl | hal
  · obtain ⟨w, l, q1, q2, q3⟩ := Rs.cons hr
    obtain ⟨y, rfl, q4⟩ := q2.int rfl
    have hr2 : r = some (.int y) := by
      cases r with
      | none => cases q1
      | some r => cases q1; rfl
    have x0 := inD_one (en_c hk (d := [(0, 1000000)]) (by decide +kernel) e0)
    have x1 := inD_one (en_c hk (d := [(0, 1000000000)]) (by decide +kernel) e1)
    have hy := ret_n (i := 4) q4
    obtain ⟨v0, g0, s0⟩ := hk.1.fa ([(1, 1), (0, 1)], 1000000000) (by decide +kernel)
    simp only [tvo, e0, e1, hy] at g0
    have g0 := Option.some.inj g0
    obtain ⟨v1, g1, s1⟩ := hk.1.fa ([(4, 1), (1, -1), (0, -1)], 0) (by decide +kernel)
    simp only [tvo, e0, e1, hy] at g1
    have g1 := Option.some.inj g1
    obtain ⟨v2, g2, s2⟩ := hk.1.fa ([(4, -1), (1, 1), (0, 1)], 0) (by decide +kernel)
    simp only [tvo, e0, e1, hy] at g2
    have g2 := Option.some.inj g2
    have m_now := me_i hk (k := 0) (j := 2) (i := 4) (o := 0) (List.mem_of_getElem? (i := 0) rfl) hy
    refine ⟨y, hr2, ?_, ?_⟩
    · unfold F_tick_0
      refine (if_neg (by omega)).trans ?_
      refine (if_neg (by omega)).trans ?_
      refine (if_neg (by omega)).trans ?_
      exact (if_pos (by omega)).trans (by omega)
    · unfold F_tick_now
      refine (if_neg (by omega)).trans ?_
      refine (if_neg (by omega)).trans ?_
      refine (if_neg (by omega)).trans ?_
      exact (if_pos (by omega)).trans (by omega)
  · cases hal
theorem M_tick_end {J : Jt} {ρ ρ'' : List Int} {σ' : zS} {x now : Int} {r : Option Value} {al : Al} (hal : al ∈ ct_M_tick.al) (hp : Pre ρ ρ'') (h0 : ρ[0]? = some x) (h1 : ρ[1]? = some now) (hk : Ko J al.2 ρ'' σ') (hr : Rs ρ'' al.1 r.toList) : ∃ y : Int32, r = some (.int y) ∧ F_tick_0 x now = y.toInt ∧ F_tick_now x now = (σ'.1 110 0).toInt := by
  have e0 := hp.at h0
  have e1 := hp.at h1
  rcases List.mem_cons.mp hal with rfl | hal
  · obtain ⟨w, l, q1, q2, q3⟩ := Rs.cons hr
    obtain ⟨y, rfl, q4⟩ := q2.int rfl
    have hr2 : r = some (.int y) := by
      cases r with
      | none => cases q1
      | some r => cases q1; rfl
    have x0 := inD_one (en_c hk (d := [(-2147483648, -1)]) (by decide +kernel) e0)
    have x1 := inD_one (en_c hk (d := [(0, 1000000000)]) (by decide +kernel) e1)
    have hy : (-1 : Int) = y.toInt := Option.some.inj q4
    have m_now := me_i hk (k := 110) (j := 0) (i := 1) (o := 0) (List.mem_of_getElem? (i := 0) rfl) e1
    refine ⟨y, hr2, ?_, ?_⟩
    · unfold F_tick_0
      exact (if_pos (by omega)).trans (by omega)
    · unfold F_tick_now
      exact (if_pos (by omega)).trans (by omega)
  rcases List.mem_cons.mp hal with rfl | hal
  · obtain ⟨w, l, q1, q2, q3⟩ := Rs.cons hr
    obtain ⟨y, rfl, q4⟩ := q2.int rfl
    have hr2 : r = some (.int y) := by
      cases r with
      | none => cases q1
      | some r => cases q1; rfl
    have x0 := inD_one (en_c hk (d := [(1000001, 2147483647)]) (by decide +kernel) e0)
    have x1 := inD_one (en_c hk (d := [(0, 1000000000)]) (by decide +kernel) e1)
    have hy : (-1 : Int) = y.toInt := Option.some.inj q4
    have m_now := me_i hk (k := 110) (j := 0) (i := 1) (o := 0) (List.mem_of_getElem? (i := 0) rfl) e1
    refine ⟨y, hr2, ?_, ?_⟩
    · unfold F_tick_0
      refine (if_neg (by omega)).trans ?_
      exact (if_pos (by omega)).trans (by omega)
    · unfold F_tick_now
      refine (if_neg (by omega)).trans ?_
      exact (if_pos (by omega)).trans (by omega)
  rcases List.mem_cons.mp hal with rfl | hal
  · obtain ⟨w, l, q1, q2, q3⟩ := Rs.cons hr
    obtain ⟨y, rfl, q4⟩ := q2.int rfl
    have hr2 : r = some (.int y) := by
      cases r with
      | none => cases q1
      | some r => cases q1; rfl
    have x0 := inD_one (en_c hk (d := [(0, 1000000)]) (by decide +kernel) e0)
    have x1 := inD_one (en_c hk (d := [(0, 1000000000)]) (by decide +kernel) e1)
    have hy : (-2 : Int) = y.toInt := Option.some.inj q4
    obtain ⟨v0, g0, s0⟩ := hk.1.fa ([(1, -1), (0, -1)], -1000000001) (by decide +kernel)
    simp only [tvo, e0, e1] at g0
    have g0 := Option.some.inj g0
    have m_now := me_i hk (k := 110) (j := 0) (i := 1) (o := 0) (List.mem_of_getElem? (i := 0) rfl) e1
    refine ⟨y, hr2, ?_, ?_⟩
    · unfold F_tick_0
      refine (if_neg (by omega)).trans ?_
      refine (if_neg (by omega)).trans ?_
      exact (if_pos (by omega)).trans (by omega)
    · unfold F_tick_now
      refine (if_neg (by omega)).trans ?_
      refine (if_neg (by omega)).trans ?_
      exact (if_pos (by omega)).trans (by omega)
  rcases List.mem_cons.mp hal with rfl | hal
  · obtain ⟨w, l, q1, q2, q3⟩ := Rs.cons hr
    obtain ⟨y, rfl, q4⟩ := q2.int rfl
    have hr2 : r = some (.int y) := by
      cases r with
      | none => cases q1
      | some r => cases q1; rfl
    have x0 := inD_one (en_c hk (d := [(0, 1000000)]) (by decide +kernel) e0)
    have x1 := inD_one (en_c hk (d := [(0, 1000000000)]) (by decide +kernel) e1)
    have hy := ret_n (i := 4) q4
    obtain ⟨v0, g0, s0⟩ := hk.1.fa ([(1, 1), (0, 1)], 1000000000) (by decide +kernel)
    simp only [tvo, e0, e1, hy] at g0
    have g0 := Option.some.inj g0
    obtain ⟨v1, g1, s1⟩ := hk.1.fa ([(4, 1), (1, -1), (0, -1)], 0) (by decide +kernel)
    simp only [tvo, e0, e1, hy] at g1
    have g1 := Option.some.inj g1
    obtain ⟨v2, g2, s2⟩ := hk.1.fa ([(4, -1), (1, 1), (0, 1)], 0) (by decide +kernel)
    simp only [tvo, e0, e1, hy] at g2
    have g2 := Option.some.inj g2
    have m_now := me_i hk (k := 110) (j := 0) (i := 4) (o := 0) (List.mem_of_getElem? (i := 0) rfl) hy
    refine ⟨y, hr2, ?_, ?_⟩
    · unfold F_tick_0
      refine (if_neg (by omega)).trans ?_
      refine (if_neg (by omega)).trans ?_
      refine (if_neg (by omega)).trans ?_
      exact (if_pos (by omega)).trans (by omega)
    · unfold F_tick_now
      refine (if_neg (by omega)).trans ?_
      refine (if_neg (by omega)).trans ?_
      refine (if_neg (by omega)).trans ?_
      exact (if_pos (by omega)).trans (by omega)
  · cases hal
theorem LC_2_ok {E : xV} {σ : zS} (h : J0 σ) : LC_2 E σ J0 := by
  intro x0
  obtain ⟨k1, k2⟩ := pub_ok (J := JJ) (q := ct_H_tick) (o := 0) (as := [.inl x0]) (ds := [T32, [(0, 1000000000)], [(0, 200)], [(0, 200)]]) (ks := [(0, 2), (110, 8), (5, 2)]) (σ := σ) (show pubOk ct_H_tick 0 [false] [T32, [(0, 1000000000)], [(0, 200)], [(0, 200)]] [(0, 2), (110, 8), (5, 2)] = true by decide +kernel) ⟨in32 _, fld_in h.1 (k := 0) (j := 2) (by decide +kernel), r0 h.2.1 (k := (110, 8)) (by decide), r0 h.2.1 (k := (5, 2)) (by decide), trivial⟩ h.1
  refine (all_ct 3 _ rfl _ σ _ k1 k2).mono (fun va σ1 hv => ?_)
  obtain ⟨fa, al, f2, ρ1, f3, f4, f5⟩ := hv
  obtain ⟨_, _, g3a, g4a⟩ := endOk_ok (t := 1) (ks := KS) (List.all_eq_true.mp (show (ct_H_tick.al.all fun al => endOk 1 al KS) = true by decide +kernel) al f2) f4 f5
  obtain ⟨ya, rfl, hya, t0a⟩ := H_tick_end (x := x0.toInt) (now := (σ.1 0 2).toInt) f2 f3 rfl rfl f4 f5
  have fra : ∀ k j, isS (ct_H_tick.w.get (GX.g.key k j)) = false → σ1.1 k j = σ.1 k j := fun k j hw => (fa k j (fun hq => by rw [hq.1] at hw; cases hw)).1
  refine ⟨ya, rfl, ?_⟩
  obtain ⟨m1, m2⟩ := pub_ok (J := JJ) (q := ct_M_tick) (o := 110) (as := [.inl x0]) (ds := [T32, [(0, 1000000000)], [(0, 200)], [(0, 200)]]) (ks := [(110, 0), (110, 8), (5, 2)]) (σ := σ1) (show pubOk ct_M_tick 110 [false] [T32, [(0, 1000000000)], [(0, 200)], [(0, 200)]] [(110, 0), (110, 8), (5, 2)] = true by decide +kernel) ⟨in32 _, fld_in g4a (k := 110) (j := 0) (by decide +kernel), r0 g3a (k := (110, 8)) (by decide), r0 g3a (k := (5, 2)) (by decide), trivial⟩ g4a
  refine (all_ct 304 _ rfl _ σ1 _ m1 m2).mono (fun vb σ2 hv => ?_)
  obtain ⟨fb, al, f2, ρ1, f3, f4, f5⟩ := hv
  obtain ⟨_, _, g3b, g4b⟩ := endOk_ok (t := 1) (ks := KS) (List.all_eq_true.mp (show (ct_M_tick.al.all fun al => endOk 1 al KS) = true by decide +kernel) al f2) f4 f5
  obtain ⟨yb, rfl, hyb, t0b⟩ := M_tick_end (x := x0.toInt) (now := (σ1.1 110 0).toInt) f2 f3 rfl rfl f4 f5
  have frb : ∀ k j, isS (ct_M_tick.w.get (GX.g.key k j)) = false → σ2.1 k j = σ1.1 k j := fun k j hw => (fb k j (fun hq => by rw [hq.1] at hw; cases hw)).1
  have u0 : (σ1.1 110 0).toInt = (σ.1 0 2).toInt := by rw [fra 110 0 (by decide +kernel)]; exact (h.2.2 ((0, 2), (110, 0)) (by decide +kernel)).symm
  have w0 : (σ2.1 0 2).toInt = (σ1.1 0 2).toInt := by rw [frb 0 2 (by decide +kernel)]
  refine ⟨?_, g4b, g3b, ?_⟩
  · exact ⟨yb, rfl⟩
  · refine Eqs.two (l := [((0, 2), (110, 0))]) (m := [((5, 0), (110, 6)), ((5, 1), (110, 7)), ((34, 1), (110, 77)), ((34, 6), (110, 82)), ((41, 1), (110, 85)), ((98, 0), (110, 136)), ((98, 2), (110, 138))]) ?_ (((h.2.2.sub (by decide +kernel)).keep (q := ct_H_tick) (by decide +kernel) fra).keep (q := ct_M_tick) (by decide +kernel) frb) (by decide +kernel)
    refine Eqs.cons ?_ (Eqs.nil)
    · exact w0.trans (t0a.symm.trans (Eq.trans (by simp only [u0]) t0b))
end
