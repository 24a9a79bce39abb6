noncomputable section
/-! ===== STATES, 3: what follows from what is known; more is known ===== -/
def dis (a b : Dom) : Bool := match dand a b with
  | [] => true
  | _ => false
theorem inD_nil {x : Int} (h : inD x []) : False := by
  obtain ⟨_, h, _⟩ := h
  cases h
theorem dis_ok {a b : Dom} {x : Int} (h : dis a b = true) (h1 : inD x a) (h2 : inD x b) : False := by
  unfold dis at h
  have h3 := dand_in h1 h2
  split at h
  · rename_i e
    rw [e] at h3
    exact inD_nil h3
  · cases h
def allz (f : Lf) : Bool := f.all fun t => ile t.2 0 && ile 0 t.2
theorem allz_ok {ρ : List Int} : ∀ {f : Lf} {v : Int}, allz f = true → tvo ρ f = some v → v = 0
  | [], v, _, hv => by cases Option.some.inj hv; rfl
  | t :: r, v, h, hv => by
    simp only [allz, List.all_cons, Bool.and_eq_true] at h
    unfold tvo at hv
    cases h1 : ρ[t.1]? with
    | none => rw [h1] at hv; cases hv
    | some y =>
      rw [h1] at hv
      cases h2 : tvo ρ r with
      | none => rw [h2] at hv; cases hv
      | some w =>
        rw [h2] at hv
        have hv := Option.some.inj hv
        have h0 : t.2 = 0 := ile_eq h.1
        have := allz_ok (f := r) h.2 h2
        rw [h0] at hv
        omega
/-- two places of one row that hold other numbers are two: the sum f is not c -/
def neqs (s : Sy) (f : Lf) (c : Int) : Bool := s.me.any fun a => s.me.any fun b => (Nat.beq a.1 b.1 && (a.2.2.isI && b.2.2.isI)) && (dis (dom s a.2.2) (dom s b.2.2) && (allz (tlin (-1) f (tlin (-1) (nf s b.2.1).1 (nf s a.2.1).1)) && (ile ((nf s b.2.1).2 - (nf s a.2.1).2) c && ile c ((nf s b.2.1).2 - (nf s a.2.1).2))))
def leq (s : Sy) (f : Lf) (c : Int) : Bool := leqd s 1 f c || (leqd s 2 f c || leqd s 3 f c)
def leA (s : Sy) (a : AV) (c : Int) : Bool := ile (dhi (dom s a)) c || leq s (nf s a).1 (c - (nf s a).2)
def geA (s : Sy) (a : AV) (c : Int) : Bool := ile c (dlo (dom s a)) || leq s (tlin (-1) (nf s a).1 []) ((nf s a).2 - c)
def inR (s : Sy) (a : AV) (l h : Int) : Bool := geA s a l && leA s a h
section Q3
variable {J : Jt} {s : Sy} {ρ : List Int} {σ : zS}
theorem Mf.int {e : Nat × (AV × AV)} (h : Mf ρ σ e) (hi : e.2.2.isI = true) : ∃ j : Nat, ev ρ e.2.1 = some (j : Int) ∧ ev ρ e.2.2 = some (σ.1 e.1 j).toInt := by
  obtain ⟨j, h1, h2⟩ := h
  rcases h2 with ⟨_, h3⟩ | ⟨h3, _⟩
  · exact ⟨j, h1, h3⟩
  · exfalso
    rcases e with ⟨_, _, v⟩
    rcases v with _ | _ | _ | _ | _ | _ <;> first | cases hi; done | cases h3; done
theorem neqs_ok (h : Ok J s ρ σ) {f : Lf} {c v : Int} (hn : neqs s f c = true) (hv : tvo ρ f = some v) : v ≠ c := by
  intro hvc
  obtain ⟨a, ha, h1⟩ := List.any_eq_true.mp hn
  obtain ⟨b, hb, h2⟩ := List.any_eq_true.mp h1
  simp only [Bool.and_eq_true] at h2
  obtain ⟨⟨h3, h4, h5⟩, h6, h7, h8⟩ := h2
  have hk := Nat.eq_of_beq_eq_true h3
  obtain ⟨j, a1, a2⟩ := (h.me a ha).int h4
  obtain ⟨i, b1, b2⟩ := (h.me b hb).int h5
  obtain ⟨u, a3, a4⟩ := nf_ok h a1
  obtain ⟨w, b3, b4⟩ := nf_ok h b1
  have hz := allz_ok h7 (tlin_ok (w := -1) hv (tlin_ok (w := -1) b3 a3))
  have hc := ile_eq h8
  have hij : j = i := by omega
  subst hij
  rw [hk] at a2
  have d1 := dom_i h h4 a2
  have d2 := dom_i h h5 b2
  exact dis_ok h6 d1 d2
theorem leq_ok (h : Ok J s ρ σ) {f : Lf} {c v : Int} (hf : leq s f c = true) (hv : tvo ρ f = some v) : v ≤ c := by
  unfold leq at hf
  rw [Bool.or_eq_true, Bool.or_eq_true] at hf
  rcases hf with hf | hf | hf <;> exact leqd_ok h hf hv
theorem leA_ok (h : Ok J s ρ σ) {a : AV} {c x : Int} (ha : leA s a c = true) (hx : ev ρ a = some x) (hd : inD x (dom s a)) : x ≤ c := by
  unfold leA at ha
  rw [Bool.or_eq_true] at ha
  rcases ha with ha | ha
  · have := ile_iff.mp ha
    have := le_dhi hd
    omega
  · obtain ⟨v, h1, h2⟩ := nf_ok h hx
    have := leq_ok h ha h1
    omega
theorem geA_ok (h : Ok J s ρ σ) {a : AV} {c x : Int} (ha : geA s a c = true) (hx : ev ρ a = some x) (hd : inD x (dom s a)) : c ≤ x := by
  unfold geA at ha
  rw [Bool.or_eq_true] at ha
  rcases ha with ha | ha
  · have := ile_iff.mp ha
    have := dlo_le hd
    omega
  · obtain ⟨v, h1, h2⟩ := nf_ok h hx
    have h3 := leq_ok h ha (tlin_ok (w := -1) h1 (f := []) (v := 0) rfl)
    omega
theorem inR_ok (h : Ok J s ρ σ) {a : AV} {l u x : Int} (ha : inR s a l u = true) (hx : ev ρ a = some x) (hd : inD x (dom s a)) : l ≤ x ∧ x ≤ u := by
  unfold inR at ha
  rw [Bool.and_eq_true] at ha
  exact ⟨geA_ok h ha.1 hx hd, leA_ok h ha.2 hx hd⟩
theorem Mf.mono {ρ' : List Int} (h : Pre ρ ρ') {e : Nat × (AV × AV)} (hm : Mf ρ σ e) : Mf ρ' σ e := by
  obtain ⟨j, h1, h2⟩ := hm
  refine ⟨j, ev.mono h h1, ?_⟩
  rcases h2 with ⟨h2, h3⟩ | ⟨h2, h3⟩
  · exact Or.inl ⟨h2, ev.mono h h3⟩
  · exact Or.inr ⟨h2, ev.mono h h3⟩
/-- a new number, of which d is known -/
def Sy.new (s : Sy) (d : Dom) : Sy := (s.nx + 1, ((s.nx, d) :: s.env, s.2.2))
theorem Ok.new (h : Ok J s ρ σ) {x : Int} {d : Dom} (hx : inD x d) : Ok J (s.new d) (ρ ++ [x]) σ := by
  have hl : (ρ ++ [x])[s.nx]? = some x := by rw [← h.len]; simp
  refine ⟨by simp [Sy.new, h.len], fun e he => ?_, fun e he => (h.me e he).mono Pre.one, fun e he => ?_, fun e he => ?_, fun e he => ?_, ?_⟩
  · rcases List.mem_cons.mp he with rfl | he
    · exact ⟨x, hl, hx⟩
    · obtain ⟨y, h1, h2⟩ := h.env e he
      exact ⟨y, Pre.one.at h1, h2⟩
  · obtain ⟨y, h1, h2⟩ := h.cg e he
    exact ⟨y, Pre.one.at h1, h2⟩
  · obtain ⟨y, v, h1, h2, h3⟩ := h.df e he
    exact ⟨y, v, Pre.one.at h1, tvo.mono Pre.one h2, h3⟩
  · obtain ⟨v, h1, h2⟩ := h.fa e he
    exact ⟨v, tvo.mono Pre.one h1, h2⟩
  · obtain ⟨H, h1, h2⟩ := h.inv
    exact ⟨H, h1.mono Pre.one, h2⟩
theorem Ok.new_at (h : Ok J s ρ σ) {x : Int} : (ρ ++ [x])[s.nx]? = some x := by rw [← h.len]; simp
theorem Ok.new_i (h : Ok J s ρ σ) {x : Int} : ev (ρ ++ [x]) (.i s.nx 0) = some x := by
  simp only [ev, h.new_at, Int.add_zero]
theorem Ok.new_l (h : Ok J s ρ σ) {x : Int} : ev (ρ ++ [x]) (.l s.nx 0) = some x := by
  simp only [ev, h.new_at, Int.add_zero]
def Sy.newI (s : Sy) (d : Dom) : Sy × AV := match d with
  | [(a, b)] => bif ile b a then (s, .c a) else (s.new d, .i s.nx 0)
  | _ => (s.new d, .i s.nx 0)
theorem inD_one {x a b : Int} (h : inD x [(a, b)]) : a ≤ x ∧ x ≤ b := by
  obtain ⟨p, hp, h1, h2⟩ := h
  rcases List.mem_cons.mp hp with rfl | hp
  · exact ⟨h1, h2⟩
  · cases hp
theorem newI_ok (h : Ok J s ρ σ) {y : Int32} {d : Dom} (hx : inD y.toInt d) : ∃ ρ', Pre ρ ρ' ∧ Ok J (s.newI d).1 ρ' σ ∧ (s.newI d).2.isI = true ∧ ev ρ' (s.newI d).2 = some y.toInt := by
  have gen : ∃ ρ', Pre ρ ρ' ∧ Ok J (s.new d) ρ' σ ∧ (AV.i s.nx 0).isI = true ∧ ev ρ' (AV.i s.nx 0) = some y.toInt := ⟨_, Pre.one, h.new hx, rfl, h.new_i⟩
  unfold Sy.newI
  split
  · rename_i a b
    cases hb : ile b a with
    | true =>
      have h1 := ile_iff.mp hb
      have h2 := inD_one hx
      exact ⟨ρ, Pre.rf, h, rfl, congrArg some (by omega)⟩
    | false => exact gen
  · exact gen
def Sy.newL (s : Sy) (d : Dom) : Sy × AV := (s.new d, .l s.nx 0)
theorem newL_ok (h : Ok J s ρ σ) {y : Int64} {d : Dom} (hx : inD y.toInt d) : ∃ ρ', Pre ρ ρ' ∧ Ok J (s.newL d).1 ρ' σ ∧ (s.newL d).2.isL = true ∧ ev ρ' (s.newL d).2 = some y.toInt := ⟨_, Pre.one, h.new hx, rfl, h.new_l⟩
/-- more is known of a number -/
def Sy.setn (s : Sy) (id : Nat) (d : Dom) : Sy := (s.nx, ((id, d) :: s.env, s.2.2))
theorem Ok.setn (h : Ok J s ρ σ) {id : Nat} {x : Int} {d : Dom} (hx : ρ[id]? = some x) (hd : inD x d) : Ok J (s.setn id d) ρ σ := by
  refine ⟨h.len, fun e he => ?_, h.me, h.cg, h.df, h.fa, h.inv⟩
  rcases List.mem_cons.mp he with rfl | he
  · exact ⟨x, hx, hd⟩
  · exact h.env e he
def Sy.set (s : Sy) (a : AV) (d : Dom) : Sy := match a with
  | .inl (id, o) => s.setn id (dsh (-o) d)
  | .inr (.inr (.inl (id, o))) => s.setn id (dsh (-o) d)
  | _ => s
theorem Ok.set (h : Ok J s ρ σ) {a : AV} {x : Int} {d : Dom} (hx : ev ρ a = some x) (hd : inD x d) : Ok J (s.set a d) ρ σ := by
  have gen : ∀ (id : Nat) (o : Int), (match ρ[id]? with | some x => some (x + o) | none => none) = some x → Ok J (s.setn id (dsh (-o) d)) ρ σ := by
    intro id o hx
    cases hr : ρ[id]? with
    | none => rw [hr] at hx; cases hx
    | some y =>
      rw [hr] at hx
      have := Option.some.inj hx
      subst this
      have := dsh_in (o := -o) hd
      rw [show y + o + -o = y by omega] at this
      exact h.setn hr this
  rcases a with ⟨id, o⟩ | n | ⟨id, o⟩ | n | q | ⟨b, n⟩
  · exact gen id o hx
  · exact h
  · exact gen id o hx
  · exact h
  · exact h
  · exact h
/-- a sum is at most c -/
def Sy.addf (s : Sy) (f : Lf) (c : Int) : Sy := (s.nx, (s.env, (s.me, (s.cg, (s.df, ((f, c) :: s.fa, s.hl))))))
theorem Ok.addf (h : Ok J s ρ σ) {f : Lf} {c v : Int} (hv : tvo ρ f = some v) (hc : v ≤ c) : Ok J (s.addf f c) ρ σ := by
  refine ⟨h.len, h.env, h.me, h.cg, h.df, fun e he => ?_, h.inv⟩
  rcases List.mem_cons.mp he with rfl | he
  · exact ⟨v, hv, hc⟩
  · exact h.fa e he
def nonz (f : Lf) : Lf := f.filter fun t => !(ile t.2 0 && ile 0 t.2)
theorem nonz_ok : ∀ {f : Lf} {v : Int}, tvo ρ f = some v → tvo ρ (nonz f) = some v
  | [], _, hv => hv
  | t :: r, v, hv => by
    unfold tvo at hv
    cases h1 : ρ[t.1]? with
    | none => rw [h1] at hv; cases hv
    | some y =>
      rw [h1] at hv
      cases h2 : tvo ρ r with
      | none => rw [h2] at hv; cases hv
      | some w =>
        rw [h2] at hv
        have hv := Option.some.inj hv
        have ih := nonz_ok h2
        unfold nonz at ih ⊢
        cases hz : ile t.2 0 && ile 0 t.2 with
        | true =>
          have h0 : t.2 = 0 := ile_eq (by rw [Bool.and_eq_true] at hz; exact hz)
          rw [List.filter_cons_of_neg (by simp [hz]), ih]
          rw [h0] at hv
          exact congrArg some (by omega)
        | false =>
          rw [List.filter_cons_of_pos (by simp [hz])]
          simp only [tvo, h1, ih]
          exact congrArg some hv
/-- learned: a sum is at most c: a bound, if it is one number, else a sum more; none: it cannot be -/
def Sy.fact (s : Sy) (f : Lf) (c : Int) : Option Sy := match nonz f with
  | [] => bif ile 0 c then some s else none
  | [(id, w)] => bif ile w 1 && ile 1 w then (match lk s.env id with
      | some d => match dup c d with
        | [] => none
        | d' => some (s.setn id d')
      | none => some s) else bif ile w (-1) && ile (-1) w then (match lk s.env id with
      | some d => match dfr (-c) d with
        | [] => none
        | d' => some (s.setn id d')
      | none => some s) else some (s.addf [(id, w)] c)
  | g => bif tle s g c then some s else some (s.addf g c)
theorem fact_ok (h : Ok J s ρ σ) {f : Lf} {c v : Int} (hv : tvo ρ f = some v) (hc : v ≤ c) : ∃ s', s.fact f c = some s' ∧ Ok J s' ρ σ := by
  have hn := nonz_ok hv
  unfold Sy.fact
  generalize nonz f = g at hn
  rcases g with _ | ⟨⟨id, w⟩, _ | ⟨t, r⟩⟩
  · dsimp only
    cases Option.some.inj hn
    rw [ile_iff.mpr hc]
    exact ⟨s, rfl, h⟩
  · dsimp only
    simp only [tvo] at hn
    cases hr : ρ[id]? with
    | none => rw [hr] at hn; cases hn
    | some y =>
      rw [hr] at hn
      have hn := Option.some.inj hn
      cases h1 : ile w 1 && ile 1 w with
      | true =>
        rw [Bool.and_eq_true] at h1
        have hw : w = 1 := ile_eq h1
        simp only [cond_true]
        cases hl : lk s.env id with
        | none => exact ⟨s, rfl, h⟩
        | some d =>
          obtain ⟨y', g1, g2⟩ := h.env _ (lk_mem hl)
          have g1 : ρ[id]? = some y' := g1
          rw [hr] at g1
          cases Option.some.inj g1
          rw [hw] at hn
          have hd : inD y (dup c d) := dup_in (h := c) (by omega) g2
          dsimp only
          cases hq : dup c d with
          | nil => rw [hq] at hd; exact (inD_nil hd).elim
          | cons p q => rw [hq] at hd; exact ⟨_, rfl, h.setn hr hd⟩
      | false =>
        simp only [cond_false]
        cases h2 : ile w (-1) && ile (-1) w with
        | true =>
          rw [Bool.and_eq_true] at h2
          have hw : w = -1 := ile_eq h2
          simp only [cond_true]
          cases hl : lk s.env id with
          | none => exact ⟨s, rfl, h⟩
          | some d =>
            obtain ⟨y', g1, g2⟩ := h.env _ (lk_mem hl)
            have g1 : ρ[id]? = some y' := g1
            rw [hr] at g1
            cases Option.some.inj g1
            rw [hw] at hn
            have hd : inD y (dfr (-c) d) := dfr_in (l := -c) (by omega) g2
            dsimp only
            cases hq : dfr (-c) d with
            | nil => rw [hq] at hd; exact (inD_nil hd).elim
            | cons p q => rw [hq] at hd; exact ⟨_, rfl, h.setn hr hd⟩
        | false =>
          simp only [cond_false]
          exact ⟨_, rfl, h.addf (v := v) (by simp only [tvo, hr]; exact congrArg some hn) hc⟩
  · dsimp only
    cases hb : tle s ((id, w) :: t :: r) c with
    | true => exact ⟨s, rfl, h⟩
    | false => exact ⟨_, rfl, h.addf hn hc⟩
end Q3
end
