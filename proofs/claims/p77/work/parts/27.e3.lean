noncomputable section
/-! ===== STATES, 4: comparisons; memory ===== -/
abbrev Cm : Type := Jvm.ClassFile.Cond
def Cm.ok (c : Cm) (x y : Int) : Prop := match c with
  | .eq => x = y
  | .ne => x ≠ y
  | .lt => x < y
  | .ge => y ≤ x
  | .gt => y < x
  | .le => x ≤ y
def Cm.neg : Cm → Cm
  | .eq => .ne
  | .ne => .eq
  | .lt => .ge
  | .ge => .lt
  | .gt => .le
  | .le => .gt
theorem Cm.neg_ok {c : Cm} {x y : Int} (h : ¬ c.ok x y) : c.neg.ok x y := by
  cases c <;> simp only [Cm.ok, Cm.neg] at h ⊢ <;> omega
def drmo (a b : Dom) : Dom := match b with
  | [(n, m)] => bif ile m n then drm n a else a
  | _ => a
def dcut (c : Cm) (a b : Dom) : Dom × Dom := match c with
  | .lt => (dup (dhi b - 1) a, dfr (dlo a + 1) b)
  | .le => (dup (dhi b) a, dfr (dlo a) b)
  | .gt => (dfr (dlo b + 1) a, dup (dhi a - 1) b)
  | .ge => (dfr (dlo b) a, dup (dhi a) b)
  | .eq => (dand a b, dand a b)
  | .ne => (drmo a b, drmo b a)
theorem drmo_in {x y : Int} {a b : Dom} (hx : inD x a) (hy : inD y b) (h : x ≠ y) : inD x (drmo a b) := by
  unfold drmo
  split
  · rename_i n m
    cases hb : ile m n with
    | true =>
      have h1 := ile_iff.mp hb
      have h2 := inD_one hy
      exact drm_in (by omega) hx
    | false => exact hx
  · exact hx
theorem dcut_in {c : Cm} {a b : Dom} {x y : Int} (hx : inD x a) (hy : inD y b) (h : c.ok x y) : inD x (dcut c a b).1 ∧ inD y (dcut c a b).2 := by
  have a1 := dlo_le hx
  have a2 := le_dhi hx
  have b1 := dlo_le hy
  have b2 := le_dhi hy
  cases c <;> simp only [Cm.ok] at h <;> simp only [dcut]
  · subst h
    exact ⟨dand_in hx hy, dand_in hx hy⟩
  · exact ⟨drmo_in hx hy h, drmo_in hy hx (fun q => h q.symm)⟩
  · exact ⟨dup_in (by omega) hx, dfr_in (by omega) hy⟩
  · exact ⟨dfr_in (by omega) hx, dup_in (by omega) hy⟩
  · exact ⟨dfr_in (by omega) hx, dup_in (by omega) hy⟩
  · exact ⟨dup_in (by omega) hx, dfr_in (by omega) hy⟩
/-- learned, if it can be -/
def Sy.factx (s : Sy) (f : Lf) (c : Int) : Option Sy := bif leqd s 1 (tlin (-1) f []) (-c - 1) then none else s.fact f c
/-- learned of a c b: a sum -/
def Sy.learn (s : Sy) (c : Cm) (f : Lf) (k : Int) : Option Sy := match f with
  | [] => some s
  | [_] => some s
  | f => match c with
    | .lt => s.factx f (k - 1)
    | .le => s.factx f k
    | .gt => s.factx (tlin (-1) f []) (-k - 1)
    | .ge => s.factx (tlin (-1) f []) (-k)
    | .eq => match s.factx f k with
      | some s' => s'.factx (tlin (-1) f []) (-k)
      | none => none
    | .ne => bif leqd s 2 f k then s.factx f (k - 1) else bif leqd s 2 (tlin (-1) f []) (-k) then s.factx (tlin (-1) f []) (-k - 1) else some s
def Sy.cut (s : Sy) (c : Cm) (a b : AV) : Option Sy :=
  match dcut c (dom s a) (dom s b) with
  | (x, y) => match x, y with
    | [], _ => none
    | _, [] => none
    | x, y => ((s.set a x).set b y).learn c (nonz (tlin (-1) (nf s b).1 (nf s a).1)) ((nf s b).2 - (nf s a).2)
section C4
variable {J : Jt} {s : Sy} {ρ : List Int} {σ : zS}
theorem neg_tvo {f : Lf} {v : Int} (hv : tvo ρ f = some v) : tvo ρ (tlin (-1) f []) = some (-v) := by
  rw [tlin_ok (w := -1) hv (f := []) (v := 0) rfl]
  exact congrArg some (by omega)
theorem factx_ok (h : Ok J s ρ σ) {f : Lf} {c v : Int} (hv : tvo ρ f = some v) (hc : v ≤ c) : ∃ s', s.factx f c = some s' ∧ Ok J s' ρ σ := by
  unfold Sy.factx
  cases hb : leqd s 1 (tlin (-1) f []) (-c - 1) with
  | true =>
    have := leqd_ok h hb (neg_tvo hv)
    omega
  | false => exact fact_ok h hv hc
theorem learn_ok (h : Ok J s ρ σ) {c : Cm} {f : Lf} {k v : Int} (hv : tvo ρ f = some v) (hc : c.ok v k) : ∃ s', s.learn c f k = some s' ∧ Ok J s' ρ σ := by
  unfold Sy.learn
  have hm := neg_tvo hv
  rcases f with _ | ⟨t, _ | ⟨u, r⟩⟩
  · exact ⟨s, rfl, h⟩
  · exact ⟨s, rfl, h⟩
  · dsimp only
    cases c <;> simp only [Cm.ok] at hc <;> dsimp only
    · obtain ⟨s', h1, h2⟩ := factx_ok h (c := k) hv (by omega)
      rw [h1]
      dsimp only
      exact factx_ok h2 hm (by omega)
    · cases hb : leqd s 2 (t :: u :: r) k with
      | true =>
        have := leqd_ok h hb hv
        simp only [cond_true]
        exact factx_ok h hv (by omega)
      | false =>
        simp only [cond_false]
        cases hb2 : leqd s 2 (tlin (-1) (t :: u :: r) []) (-k) with
        | true =>
          have := leqd_ok h hb2 hm
          simp only [cond_true]
          exact factx_ok h hm (by omega)
        | false => exact ⟨s, rfl, h⟩
    · exact factx_ok h hv (by omega)
    · exact factx_ok h hm (by omega)
    · exact factx_ok h hm (by omega)
    · exact factx_ok h hv (by omega)
theorem Sy.cut_ok (h : Ok J s ρ σ) {c : Cm} {a b : AV} {x y : Int} (ha : ev ρ a = some x) (hb : ev ρ b = some y) (hx : inD x (dom s a)) (hy : inD y (dom s b)) (hc : c.ok x y) : ∃ s', s.cut c a b = some s' ∧ Ok J s' ρ σ := by
  obtain ⟨h1, h2⟩ := dcut_in hx hy hc
  obtain ⟨u, a1, a2⟩ := nf_ok h ha
  obtain ⟨w, b1, b2⟩ := nf_ok h hb
  have hf := nonz_ok (tlin_ok (w := -1) b1 a1)
  have hk : c.ok (u + -1 * w) ((nf s b).2 - (nf s a).2) := by
    cases c <;> simp only [Cm.ok] at hc ⊢ <;> omega
  unfold Sy.cut
  generalize dcut c (dom s a) (dom s b) = q at h1 h2
  obtain ⟨q1, q2⟩ := q
  dsimp only at h1 h2 ⊢
  cases q1 with
  | nil => exact (inD_nil h1).elim
  | cons p q1 =>
    cases q2 with
    | nil => exact (inD_nil h2).elim
    | cons p2 q2 => exact learn_ok ((h.set ha h1).set hb h2) hf hk
end C4
/-- the bounds of a value, if they are written down -/
def edom (s : Sy) : AV → Option Dom
  | .inl (id, o) => match lk s.env id with
    | some d => some (dsh o d)
    | none => none
  | .inr (.inl n) => some [(n, n)]
  | _ => none
def edis (s : Sy) (p q : AV) : Bool := match edom s p, edom s q with
  | some a, some b => dis a b
  | _, _ => false
def apart (s : Sy) (p q : AV) : Bool := match p, q with
  | .inr (.inl a), .inr (.inl b) => !(ile a b && ile b a)
  | p, q => (match p, q with
      | .inl (a, o), .inl (b, u) => Nat.beq a b && !(ile o u && ile u o)
      | _, _ => false) || (edis s p q || (leqd s 2 (tlin (-1) (nf s q).1 (nf s p).1) ((nf s q).2 - (nf s p).2 - 1) || leqd s 2 (tlin (-1) (nf s p).1 (nf s q).1) ((nf s p).2 - (nf s q).2 - 1)))
def mget (l : List (Nat × (AV × AV))) (k : Nat) (p : AV) : Option AV := @List.rec (Nat × (AV × AV)) (fun _ => Option AV) none (fun e _ ih => @Bool.rec (fun _ => Option AV) ih (@Bool.rec (fun _ => Option AV) ih (some e.2.2) (AV.eq e.2.1 p)) (Nat.beq e.1 k)) l
theorem mget_cons {e : Nat × (AV × AV)} {r : List (Nat × (AV × AV))} {k : Nat} {p : AV} : mget (e :: r) k p = bif Nat.beq e.1 k then (bif AV.eq e.2.1 p then some e.2.2 else mget r k p) else mget r k p := by
  show @Bool.rec (fun _ => Option AV) (mget r k p) (@Bool.rec (fun _ => Option AV) (mget r k p) (some e.2.2) (AV.eq e.2.1 p)) (Nat.beq e.1 k) = _
  cases Nat.beq e.1 k <;> cases AV.eq e.2.1 p <;> rfl
theorem mget_mem {k : Nat} {p v : AV} : ∀ {me : List (Nat × (AV × AV))}, mget me k p = some v → (k, (p, v)) ∈ me
  | [], h => by cases h
  | e :: r, h => by
    rw [mget_cons] at h
    cases hb : Nat.beq e.1 k with
    | false => rw [hb] at h; exact List.mem_cons_of_mem _ (mget_mem h)
    | true =>
      rw [hb] at h
      simp only [cond_true] at h
      cases hc : AV.eq e.2.1 p with
      | false => rw [hc] at h; exact List.mem_cons_of_mem _ (mget_mem h)
      | true =>
        rw [hc] at h
        simp only [cond_true, Option.some.injEq] at h
        have h1 := Nat.eq_of_beq_eq_true hb
        have h2 := AV.eq_of hc
        subst h; subst h1; subst h2
        exact List.mem_cons_self ..
def Sy.add (s : Sy) (k : Nat) (p v : AV) : Sy := (s.nx, (s.env, ((k, (p, v)) :: s.me, s.2.2.2)))
def Sy.rdI (s : Sy) (k : Nat) (p : AV) (d : Dom) : Sy × AV := match mget s.me k p with
  | some v => bif v.isI then (s, v) else (((s.newI d).1).add k p (s.newI d).2, (s.newI d).2)
  | none => (((s.newI d).1).add k p (s.newI d).2, (s.newI d).2)
def Sy.rdL (s : Sy) (k : Nat) (p : AV) (d : Dom) : Sy × AV := match mget s.me k p with
  | some v => bif v.isL then (s, v) else (((s.newL d).1).add k p (s.newL d).2, (s.newL d).2)
  | none => (((s.newL d).1).add k p (s.newL d).2, (s.newL d).2)
/-- a place that can be but one number is that number -/
def pl (s : Sy) (a : AV) : AV := match dom s a with
  | [(x, y)] => bif ile y x then .c x else a
  | _ => a
section M4
variable {J : Jt} {s : Sy} {ρ : List Int} {σ : zS}
theorem edom_ok (h : Ok J s ρ σ) {a : AV} {x : Int} {d : Dom} (hd : edom s a = some d) (hx : ev ρ a = some x) : inD x d := by
  rcases a with ⟨id, o⟩ | n | ⟨_, _⟩ | _ | _ | ⟨_, _⟩
  · simp only [edom] at hd
    cases hl : lk s.env id with
    | none => rw [hl] at hd; cases hd
    | some e =>
      rw [hl] at hd
      cases Option.some.inj hd
      exact lk_in h hl hx
  · cases Option.some.inj hd
    cases Option.some.inj hx
    exact ⟨_, List.mem_cons_self .., Int.le_refl _, Int.le_refl _⟩
  · cases hd
  · cases hd
  · cases hd
  · cases hd
theorem apart_ne (h : Ok J s ρ σ) {p q : AV} {x y : Int} (ha : apart s p q = true) (hp : ev ρ p = some x) (hq : ev ρ q = some y) : x ≠ y := by
  have sums : (leqd s 2 (tlin (-1) (nf s q).1 (nf s p).1) ((nf s q).2 - (nf s p).2 - 1) || leqd s 2 (tlin (-1) (nf s p).1 (nf s q).1) ((nf s p).2 - (nf s q).2 - 1)) = true → x ≠ y := by
    intro hs
    obtain ⟨u, a1, a2⟩ := nf_ok h hp
    obtain ⟨w, b1, b2⟩ := nf_ok h hq
    rw [Bool.or_eq_true] at hs
    rcases hs with hs | hs
    · have := leqd_ok h hs (tlin_ok (w := -1) b1 a1)
      omega
    · have := leqd_ok h hs (tlin_ok (w := -1) a1 b1)
      omega
  have rest : (edis s p q || (leqd s 2 (tlin (-1) (nf s q).1 (nf s p).1) ((nf s q).2 - (nf s p).2 - 1) || leqd s 2 (tlin (-1) (nf s p).1 (nf s q).1) ((nf s p).2 - (nf s q).2 - 1))) = true → x ≠ y := by
    intro hs
    rw [Bool.or_eq_true] at hs
    rcases hs with hs | hs
    · intro e
      subst e
      unfold edis at hs
      split at hs
      · rename_i a b e1 e2
        exact dis_ok hs (edom_ok h e1 hp) (edom_ok h e2 hq)
      · cases hs
    · exact sums hs
  unfold apart at ha
  split at ha
  · rename_i a b
    have e1 := Option.some.inj hp
    have e2 := Option.some.inj hq
    subst e1; subst e2
    intro e
    subst e
    have := ile_iff.mpr (Int.le_refl a)
    simp [this] at ha
  · rw [Bool.or_eq_true] at ha
    rcases ha with ha | ha
    · split at ha
      · rename_i a o b u _
        simp only [Bool.and_eq_true, Bool.not_eq_true', Bool.and_eq_false_iff] at ha
        obtain ⟨h1, h2⟩ := ha
        have h1 := Nat.eq_of_beq_eq_true h1
        subst h1
        simp only [ev] at hp hq
        cases hr : ρ[a]? with
        | none => rw [hr] at hp; cases hp
        | some z =>
          rw [hr] at hp hq
          have e1 := Option.some.inj hp
          have e2 := Option.some.inj hq
          intro e
          have : o = u := by omega
          subst this
          have := ile_iff.mpr (Int.le_refl o)
          simp [this] at h2
      · cases ha
    · exact rest ha
theorem isI_L {a : AV} (h : a.isI = true) (h' : a.isL = true) : False := by
  rcases a with _ | _ | _ | _ | _ | _ <;> first | cases h; done | cases h'; done
theorem Ok.addm (h : Ok J s ρ σ) {k : Nat} {p v : AV} (hm : Mf ρ σ (k, (p, v))) : Ok J (s.add k p v) ρ σ := by
  refine ⟨h.len, h.env, fun e he' => ?_, h.cg, h.df, h.fa, h.inv⟩
  rcases List.mem_cons.mp he' with rfl | he'
  · exact hm
  · exact h.me e he'
theorem rdI_ok (h : Ok J s ρ σ) {k j : Nat} {p : AV} {d : Dom} (hp : ev ρ p = some (j : Int)) (hd : inD (σ.1 k j).toInt d) : ∃ ρ', Pre ρ ρ' ∧ Ok J (s.rdI k p d).1 ρ' σ ∧ (s.rdI k p d).2.isI = true ∧ ev ρ' (s.rdI k p d).2 = some (σ.1 k j).toInt := by
  have gen : ∃ ρ', Pre ρ ρ' ∧ Ok J (((s.newI d).1).add k p (s.newI d).2) ρ' σ ∧ (s.newI d).2.isI = true ∧ ev ρ' (s.newI d).2 = some (σ.1 k j).toInt := by
    obtain ⟨ρ', h1, h2, h3, h4⟩ := newI_ok h hd
    exact ⟨ρ', h1, h2.addm ⟨j, ev.mono h1 hp, Or.inl ⟨h3, h4⟩⟩, h3, h4⟩
  unfold Sy.rdI
  cases hm : mget s.me k p with
  | none => exact gen
  | some v =>
    dsimp only
    cases hv : v.isI with
    | false => exact gen
    | true =>
      obtain ⟨j', h1, h2⟩ := h.me _ (mget_mem hm)
      have : j' = j := by
        have := hp.symm.trans h1
        have := Option.some.inj this
        omega
      subst this
      rcases h2 with ⟨_, h3⟩ | ⟨h3, _⟩
      · exact ⟨ρ, Pre.rf, h, hv, h3⟩
      · exact (isI_L hv h3).elim
theorem rdL_ok (h : Ok J s ρ σ) {k j : Nat} {p : AV} {d : Dom} (hp : ev ρ p = some (j : Int)) (hd : inD (σ.2 k j).toInt d) : ∃ ρ', Pre ρ ρ' ∧ Ok J (s.rdL k p d).1 ρ' σ ∧ (s.rdL k p d).2.isL = true ∧ ev ρ' (s.rdL k p d).2 = some (σ.2 k j).toInt := by
  have gen : ∃ ρ', Pre ρ ρ' ∧ Ok J (((s.newL d).1).add k p (s.newL d).2) ρ' σ ∧ (s.newL d).2.isL = true ∧ ev ρ' (s.newL d).2 = some (σ.2 k j).toInt := by
    obtain ⟨ρ', h1, h2, h3, h4⟩ := newL_ok h hd
    exact ⟨ρ', h1, h2.addm ⟨j, ev.mono h1 hp, Or.inr ⟨h3, h4⟩⟩, h3, h4⟩
  unfold Sy.rdL
  cases hm : mget s.me k p with
  | none => exact gen
  | some v =>
    dsimp only
    cases hv : v.isL with
    | false => exact gen
    | true =>
      obtain ⟨j', h1, h2⟩ := h.me _ (mget_mem hm)
      have : j' = j := by
        have := hp.symm.trans h1
        have := Option.some.inj this
        omega
      subst this
      rcases h2 with ⟨h3, _⟩ | ⟨_, h3⟩
      · exact (isI_L h3 hv).elim
      · exact ⟨ρ, Pre.rf, h, hv, h3⟩
theorem pl_ok (h : Ok J s ρ σ) {a : AV} {y : Int32} (ha : a.isI = true) (hy : ev ρ a = some y.toInt) : ev ρ (pl s a) = some y.toInt := by
  unfold pl
  split
  · rename_i u w hd
    cases hb : ile w u with
    | false => exact hy
    | true =>
      have h1 := dom_i h ha hy
      rw [hd] at h1
      have h2 := inD_one h1
      have h3 := ile_iff.mp hb
      exact congrArg some (by omega)
  · exact hy
theorem zI_at {k j : Nat} {x : Int32} : (zI σ k j x).1 k j = x := by simp [zI, xup, upd]
theorem zI_ne {k j k' j' : Nat} {x : Int32} (h : ¬ (k' = k ∧ j' = j)) : (zI σ k j x).1 k' j' = σ.1 k' j' := by
  by_cases hk : k' = k
  · subst hk
    have hj : j' ≠ j := fun q => h ⟨rfl, q⟩
    simp [zI, xup, upd, hj]
  · simp [zI, xup, hk]
theorem zJ_at {k j : Nat} {x : Int64} : (zJ σ k j x).2 k j = x := by simp [zJ, xup, vp_updL]
theorem zJ_ne {k j k' j' : Nat} {x : Int64} (h : ¬ (k' = k ∧ j' = j)) : (zJ σ k j x).2 k' j' = σ.2 k' j' := by
  by_cases hk : k' = k
  · subst hk
    have hj : j' ≠ j := fun q => h ⟨rfl, q⟩
    simp [zJ, xup, vp_updL, hj]
  · simp [zJ, xup, hk]
/-- what places hold behind a write -/
def Sy.mwr (s : Sy) (k : Nat) (p v : AV) : List (Nat × (AV × AV)) := (k, (p, v)) :: s.me.filter fun e => !(Nat.beq e.1 k) || apart s e.2.1 p
def Sy.wr (s : Sy) (k : Nat) (p v : AV) (hl : List (Nat × AV)) : Sy := (s.nx, (s.env, (s.mwr k p v, (s.cg, (s.df, (s.fa, hl))))))
theorem mwr_off (h : Ok J s ρ σ) {k j : Nat} {p : AV} {e : Nat × (AV × AV)} {j' : Nat} (hp : ev ρ p = some (j : Int)) (hf : (!(Nat.beq e.1 k) || apart s e.2.1 p) = true) (he : ev ρ e.2.1 = some (j' : Int)) : ¬ (e.1 = k ∧ j' = j) := by
  rintro ⟨h1, h2⟩
  subst h2
  rcases Bool.or_eq_true _ _ ▸ hf with h3 | h3
  · rw [h1] at h3
    have : Nat.beq k k = true := Nat.beq_refl k
    rw [this] at h3
    cases h3
  · exact apart_ne h h3 he hp rfl
theorem wrI_ok (h : Ok J s ρ σ) {k j : Nat} {p v : AV} {x : Int32} {hl : List (Nat × AV)} (hp : ev ρ p = some (j : Int)) (hv : v.isI = true) (he : ev ρ v = some x.toInt) (hJ : ∃ H, Hl ρ hl H ∧ J H (zI σ k j x)) : Ok J (s.wr k p v hl) ρ (zI σ k j x) := by
  refine ⟨h.len, h.env, fun e he' => ?_, h.cg, h.df, h.fa, hJ⟩
  rcases List.mem_cons.mp he' with rfl | he'
  · exact ⟨j, hp, Or.inl ⟨hv, by rw [zI_at]; exact he⟩⟩
  · obtain ⟨h1, h2⟩ := List.mem_filter.mp he'
    obtain ⟨j', h3, h4⟩ := h.me e h1
    have hne := mwr_off h hp h2 h3
    refine ⟨j', h3, ?_⟩
    rw [zI_ne hne]
    exact h4
theorem wrL_ok (h : Ok J s ρ σ) {k j : Nat} {p v : AV} {x : Int64} {hl : List (Nat × AV)} (hp : ev ρ p = some (j : Int)) (hv : v.isL = true) (he : ev ρ v = some x.toInt) (hJ : ∃ H, Hl ρ hl H ∧ J H (zJ σ k j x)) : Ok J (s.wr k p v hl) ρ (zJ σ k j x) := by
  refine ⟨h.len, h.env, fun e he' => ?_, h.cg, h.df, h.fa, hJ⟩
  rcases List.mem_cons.mp he' with rfl | he'
  · exact ⟨j, hp, Or.inr ⟨hv, by rw [zJ_at]; exact he⟩⟩
  · obtain ⟨h1, h2⟩ := List.mem_filter.mp he'
    obtain ⟨j', h3, h4⟩ := h.me e h1
    have hne := mwr_off h hp h2 h3
    refine ⟨j', h3, ?_⟩
    rw [zJ_ne hne]
    exact h4
end M4
end
