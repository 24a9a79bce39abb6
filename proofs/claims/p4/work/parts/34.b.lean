/-! ===== tick: its answer ===== -/
def TickR (x n y n' : Int) : Prop := (x < 0 ∧ y = -1 ∧ n' = n) ∨ (1000001 ≤ x ∧ y = -1 ∧ n' = n) ∨ (0 ≤ x ∧ x ≤ 1000000 ∧ 1000000001 ≤ n + x ∧ y = -2 ∧ n' = n) ∨ (0 ≤ x ∧ x ≤ 1000000 ∧ n + x ≤ 1000000000 ∧ y = n + x ∧ n' = n + x)
theorem TickR.uniq {x n y n' y2 n2 : Int} (h : TickR x n y n') (h2 : TickR x n y2 n2) : y = y2 ∧ n' = n2 := by
  unfold TickR at h h2
  omega
theorem me_c {J : Jt} {a : Kn} {ρ : List Int} {σ : zS} {k j i : Nat} (hk : Ko J a ρ σ) (hm : (k, ((.c (j : Int) : AV), (.i i 0 : AV))) ∈ a.me) {x : Int} (hx : ρ[i]? = some x) : (σ.1 k j).toInt = x := by
  obtain ⟨j', h1, h2⟩ := hk.1.me _ hm
  have ej : j' = j := by
    have : ((j : Nat) : Int) = (j' : Int) := Option.some.inj h1
    omega
  subst ej
  rcases h2 with ⟨_, h2⟩ | ⟨q, _⟩
  · simp only [ev, hx] at h2
    have := Option.some.inj h2
    omega
  · cases q
theorem en_c {J : Jt} {a : Kn} {ρ : List Int} {σ : zS} {i : Nat} {d : Dom} (hk : Ko J a ρ σ) (hm : (i, d) ∈ a.env) {x : Int} (hx : ρ[i]? = some x) : inD x d := by
  obtain ⟨x', h1, h2⟩ := hk.1.env _ hm
  rw [hx] at h1
  cases h1
  exact h2
theorem H_tick_end {J : Jt} {ρ ρ'' : List Int} {σ' : zS} {x n : Int} {r : Option Value} {al : Al} (hal : al ∈ ct_H_tick.al) (hp : Pre ρ ρ'') (h0 : ρ[0]? = some x) (h1 : ρ[1]? = some n) (hk : Ko J al.2 ρ'' σ') (hr : Rs ρ'' al.1 r.toList) : ∃ y : Int32, r = some (.int y) ∧ TickR x n y.toInt (σ'.1 0 2).toInt := by
  have e0 := hp.at h0
  have e1 := hp.at h1
  rcases List.mem_cons.mp hal with rfl | hal
  · obtain ⟨w, l, q1, q2, q3⟩ := Rs.cons hr
    have hx := inD_one (en_c hk (d := [(-2147483648, -1)]) (by decide +kernel) e0)
    obtain ⟨y, rfl, q4⟩ := q2.int rfl
    have hr2 : r = some (.int y) := by
      cases r with
      | none => cases q1
      | some r => cases q1; rfl
    have hn := me_c hk (k := 0) (j := 2) (i := 1) (by decide +kernel) e1
    have hy : (-1 : Int) = y.toInt := Option.some.inj q4
    exact ⟨y, hr2, by rw [hn]; unfold TickR; omega⟩
  rcases List.mem_cons.mp hal with rfl | hal
  · obtain ⟨w, l, q1, q2, q3⟩ := Rs.cons hr
    have hx := inD_one (en_c hk (d := [(1000001, 2147483647)]) (by decide +kernel) e0)
    obtain ⟨y, rfl, q4⟩ := q2.int rfl
    have hr2 : r = some (.int y) := by
      cases r with
      | none => cases q1
      | some r => cases q1; rfl
    have hn := me_c hk (k := 0) (j := 2) (i := 1) (by decide +kernel) e1
    have hy : (-1 : Int) = y.toInt := Option.some.inj q4
    exact ⟨y, hr2, by rw [hn]; unfold TickR; omega⟩
  rcases List.mem_cons.mp hal with rfl | hal
  · obtain ⟨w, l, q1, q2, q3⟩ := Rs.cons hr
    have hx := inD_one (en_c hk (d := [(0, 1000000)]) (by decide +kernel) e0)
    obtain ⟨y, rfl, q4⟩ := q2.int rfl
    have hr2 : r = some (.int y) := by
      cases r with
      | none => cases q1
      | some r => cases q1; rfl
    have hn := me_c hk (k := 0) (j := 2) (i := 1) (by decide +kernel) e1
    have hy : (-2 : Int) = y.toInt := Option.some.inj q4
    obtain ⟨v, g1, g2⟩ := hk.1.fa ([(1, -1), (0, -1)], -1000000001) (by decide +kernel)
    simp only [tvo, e0, e1] at g1
    have g1 := Option.some.inj g1
    exact ⟨y, hr2, by rw [hn]; unfold TickR; omega⟩
  rcases List.mem_cons.mp hal with rfl | hal
  · obtain ⟨w, l, q1, q2, q3⟩ := Rs.cons hr
    have hx := inD_one (en_c hk (d := [(0, 1000000)]) (by decide +kernel) e0)
    obtain ⟨y, rfl, q4⟩ := q2.int rfl
    have hr2 : r = some (.int y) := by
      cases r with
      | none => cases q1
      | some r => cases q1; rfl
    have hy : ρ''[4]? = some y.toInt := by
      simp only [ev] at q4
      cases hq : ρ''[4]? with
      | none => rw [hq] at q4; cases q4
      | some z =>
        rw [hq] at q4
        have q4 := Option.some.inj q4
        exact congrArg some (by omega)
    have hn := me_c hk (k := 0) (j := 2) (i := 4) (by decide +kernel) hy
    obtain ⟨v0, g0, s0⟩ := hk.1.fa ([(4, 1), (1, -1), (0, -1)], 0) (by decide +kernel)
    simp only [tvo, e0, e1, hy] at g0
    have g0 := Option.some.inj g0
    obtain ⟨v1, g1, s1⟩ := hk.1.fa ([(4, -1), (1, 1), (0, 1)], 0) (by decide +kernel)
    simp only [tvo, e0, e1, hy] at g1
    have g1 := Option.some.inj g1
    obtain ⟨v2, g2, s2⟩ := hk.1.fa ([(4, 1)], 1000000000) (by decide +kernel)
    simp only [tvo, e0, e1, hy] at g2
    have g2 := Option.some.inj g2
    exact ⟨y, hr2, by rw [hn]; unfold TickR; omega⟩
  · cases hal
theorem M_tick_end {J : Jt} {ρ ρ'' : List Int} {σ' : zS} {x n : Int} {r : Option Value} {al : Al} (hal : al ∈ ct_M_tick.al) (hp : Pre ρ ρ'') (h0 : ρ[0]? = some x) (h1 : ρ[1]? = some n) (hk : Ko J al.2 ρ'' σ') (hr : Rs ρ'' al.1 r.toList) : ∃ y : Int32, r = some (.int y) ∧ TickR x n y.toInt (σ'.1 110 0).toInt := by
  have e0 := hp.at h0
  have e1 := hp.at h1
  rcases List.mem_cons.mp hal with rfl | hal
  · obtain ⟨w, l, q1, q2, q3⟩ := Rs.cons hr
    have hx := inD_one (en_c hk (d := [(-2147483648, -1)]) (by decide +kernel) e0)
    obtain ⟨y, rfl, q4⟩ := q2.int rfl
    have hr2 : r = some (.int y) := by
      cases r with
      | none => cases q1
      | some r => cases q1; rfl
    have hn := me_c hk (k := 110) (j := 0) (i := 1) (by decide +kernel) e1
    have hy : (-1 : Int) = y.toInt := Option.some.inj q4
    exact ⟨y, hr2, by rw [hn]; unfold TickR; omega⟩
  rcases List.mem_cons.mp hal with rfl | hal
  · obtain ⟨w, l, q1, q2, q3⟩ := Rs.cons hr
    have hx := inD_one (en_c hk (d := [(1000001, 2147483647)]) (by decide +kernel) e0)
    obtain ⟨y, rfl, q4⟩ := q2.int rfl
    have hr2 : r = some (.int y) := by
      cases r with
      | none => cases q1
      | some r => cases q1; rfl
    have hn := me_c hk (k := 110) (j := 0) (i := 1) (by decide +kernel) e1
    have hy : (-1 : Int) = y.toInt := Option.some.inj q4
    exact ⟨y, hr2, by rw [hn]; unfold TickR; omega⟩
  rcases List.mem_cons.mp hal with rfl | hal
  · obtain ⟨w, l, q1, q2, q3⟩ := Rs.cons hr
    have hx := inD_one (en_c hk (d := [(0, 1000000)]) (by decide +kernel) e0)
    obtain ⟨y, rfl, q4⟩ := q2.int rfl
    have hr2 : r = some (.int y) := by
      cases r with
      | none => cases q1
      | some r => cases q1; rfl
    have hn := me_c hk (k := 110) (j := 0) (i := 1) (by decide +kernel) e1
    have hy : (-2 : Int) = y.toInt := Option.some.inj q4
    obtain ⟨v, g1, g2⟩ := hk.1.fa ([(1, -1), (0, -1)], -1000000001) (by decide +kernel)
    simp only [tvo, e0, e1] at g1
    have g1 := Option.some.inj g1
    exact ⟨y, hr2, by rw [hn]; unfold TickR; omega⟩
  rcases List.mem_cons.mp hal with rfl | hal
  · obtain ⟨w, l, q1, q2, q3⟩ := Rs.cons hr
    have hx := inD_one (en_c hk (d := [(0, 1000000)]) (by decide +kernel) e0)
    obtain ⟨y, rfl, q4⟩ := q2.int rfl
    have hr2 : r = some (.int y) := by
      cases r with
      | none => cases q1
      | some r => cases q1; rfl
    have hy : ρ''[4]? = some y.toInt := by
      simp only [ev] at q4
      cases hq : ρ''[4]? with
      | none => rw [hq] at q4; cases q4
      | some z =>
        rw [hq] at q4
        have q4 := Option.some.inj q4
        exact congrArg some (by omega)
    have hn := me_c hk (k := 110) (j := 0) (i := 4) (by decide +kernel) hy
    obtain ⟨v0, g0, s0⟩ := hk.1.fa ([(4, 1), (1, -1), (0, -1)], 0) (by decide +kernel)
    simp only [tvo, e0, e1, hy] at g0
    have g0 := Option.some.inj g0
    obtain ⟨v1, g1, s1⟩ := hk.1.fa ([(4, -1), (1, 1), (0, 1)], 0) (by decide +kernel)
    simp only [tvo, e0, e1, hy] at g1
    have g1 := Option.some.inj g1
    obtain ⟨v2, g2, s2⟩ := hk.1.fa ([(4, 1)], 1000000000) (by decide +kernel)
    simp only [tvo, e0, e1, hy] at g2
    have g2 := Option.some.inj g2
    exact ⟨y, hr2, by rw [hn]; unfold TickR; omega⟩
  · cases hal
theorem now_in {σ : zS} (h : JJ [] σ) : inD (σ.1 0 2).toInt [(0, 1000000000)] ∧ inD (σ.1 110 0).toInt [(0, 1000000000)] := by
  have a := h.1 0 2 (Or.inl ⟨by decide +kernel, by decide⟩)
  have b := h.1 110 0 (Or.inl ⟨by decide +kernel, by decide⟩)
  have ea : TJ.bd GG 0 2 = [(0, 1000000000)] := by decide +kernel
  have eb : TJ.bd GG 110 0 = [(0, 1000000000)] := by decide +kernel
  rw [ea] at a
  rw [eb] at b
  exact ⟨a, b⟩
theorem LC_2_ok {E : xV} {σ : zS} (h : J0 σ) : LC_2 E σ J0 := by
  intro x0
  obtain ⟨k1, k2⟩ := pub_ok (J := JJ) (q := ct_H_tick) (o := 0) (as := [.inl x0]) (ds := [T32, [(0, 1000000000)], [(0, 200)], [(0, 200)]]) (ks := [(0, 2), (110, 8), (5, 2)]) (σ := σ) (by decide +kernel) ⟨in32 _, (now_in h.1).1, r0 h.2.1 (k := (110, 8)) (by decide), r0 h.2.1 (k := (5, 2)) (by decide), trivial⟩ h.1
  refine (all_ct 3 _ rfl _ σ _ k1 k2).mono (fun v σ1 hv => ?_)
  obtain ⟨f1, al, f2, ρ1, f3, f4, f5⟩ := hv
  obtain ⟨_, _, g3, g4⟩ := endOk_ok (t := 1) (ks := KS) (List.all_eq_true.mp (show (ct_H_tick.al.all fun al => endOk 1 al KS) = true by decide +kernel) al f2) f4 f5
  obtain ⟨y, rfl, hy⟩ := H_tick_end f2 f3 rfl rfl f4 f5
  refine ⟨y, rfl, ?_⟩
  obtain ⟨m1, m2⟩ := pub_ok (J := JJ) (q := ct_M_tick) (o := 110) (as := [.inl x0]) (ds := [T32, [(0, 1000000000)], [(0, 200)], [(0, 200)]]) (ks := [(110, 0), (110, 8), (5, 2)]) (σ := σ1) (by decide +kernel) ⟨in32 _, (now_in g4).2, r0 g3 (k := (110, 8)) (by decide), r0 g3 (k := (5, 2)) (by decide), trivial⟩ g4
  refine (all_ct 303 _ rfl _ σ1 _ m1 m2).mono (fun v' σ2 hv' => ?_)
  obtain ⟨p1, al2, p2, ρ2, p3, p4, p5⟩ := hv'
  obtain ⟨_, _, q3, q4⟩ := endOk_ok (t := 1) (ks := KS) (List.all_eq_true.mp (show (ct_M_tick.al.all fun al => endOk 1 al KS) = true by decide +kernel) al2 p2) p4 p5
  obtain ⟨y2, rfl, hy2⟩ := M_tick_end p2 p3 rfl rfl p4 p5
  have u1 : (σ1.1 110 0) = (σ.1 110 0) := (f1 110 0 (fun hq => by have := hq.1; revert this; decide +kernel)).1
  have u2 : (σ2.1 0 2) = (σ1.1 0 2) := (p1 0 2 (fun hq => by have := hq.1; revert this; decide +kernel)).1
  have hy2' : TickR x0.toInt (σ.1 0 2).toInt y2.toInt (σ2.1 110 0).toInt := by
    have e9 : (σ1.1 110 0).toInt = (σ.1 0 2).toInt := by rw [u1]; exact h.2.2.symm
    rw [← e9]
    exact hy2
  have hu := TickR.uniq hy hy2'
  refine ⟨?_, q4, q3, ?_⟩
  · rw [Int32.toInt_inj.mp hu.1]
  · rw [u2]
    exact hu.2
