noncomputable section
/-! ===== STATES, 2: what is known of a state; sums of numbers ===== -/
/-- a sum of numbers with weights -/
abbrev Lf : Type := List (Nat × Int)
def tvo (ρ : List Int) : Lf → Option Int
  | [] => some 0
  | t :: r => match ρ[t.1]?, tvo ρ r with
    | some x, some y => some (t.2 * x + y)
    | _, _ => none
theorem tvo.mono {ρ ρ' : List Int} (h : Pre ρ ρ') : ∀ {f : Lf} {v : Int}, tvo ρ f = some v → tvo ρ' f = some v
  | [], _, hv => hv
  | t :: r, v, hv => by
    unfold tvo at hv ⊢
    cases h1 : ρ[t.1]? with
    | none => rw [h1] at hv; cases hv
    | some x =>
      rw [h1] at hv
      cases h2 : tvo ρ r with
      | none => rw [h2] at hv; cases hv
      | some y =>
        rw [h2] at hv
        rw [h.at h1, tvo.mono h h2]
        exact hv
/-- numbers; what is known of them; what places hold; rests (m, r): x = r behind m; numbers that are sums; sums that are at most so much; open rows -/
abbrev Sy : Type := Nat × (List (Nat × Dom) × (List (Nat × (AV × AV)) × (List (Nat × (Int × Int)) × (List (Nat × (Lf × Int)) × (List (Lf × Int) × List (Nat × AV))))))
abbrev Sy.nx (s : Sy) : Nat := s.1
abbrev Sy.env (s : Sy) : List (Nat × Dom) := s.2.1
abbrev Sy.me (s : Sy) : List (Nat × (AV × AV)) := s.2.2.1
abbrev Sy.cg (s : Sy) : List (Nat × (Int × Int)) := s.2.2.2.1
abbrev Sy.df (s : Sy) : List (Nat × (Lf × Int)) := s.2.2.2.2.1
abbrev Sy.fa (s : Sy) : List (Lf × Int) := s.2.2.2.2.2.1
abbrev Sy.hl (s : Sy) : List (Nat × AV) := s.2.2.2.2.2.2
def T32 : Dom := [(-2147483648, 2147483647)]
def T64 : Dom := [(-9223372036854775808, 9223372036854775807)]
theorem in32 (x : Int32) : inD x.toInt T32 := ⟨_, List.mem_cons_self .., Int32.le_toInt x, Int32.toInt_le x⟩
theorem in64 (x : Int64) : inD x.toInt T64 := ⟨_, List.mem_cons_self .., Int64.le_toInt x, Int64.toInt_le x⟩
def Mf (ρ : List Int) (σ : zS) (e : Nat × (AV × AV)) : Prop := ∃ j : Nat, ev ρ e.2.1 = some (j : Int) ∧ ((e.2.2.isI = true ∧ ev ρ e.2.2 = some (σ.1 e.1 j).toInt) ∨ (e.2.2.isL = true ∧ ev ρ e.2.2 = some (σ.2 e.1 j).toInt))
def Hl (ρ : List Int) : List (Nat × AV) → List (Nat × Int) → Prop
  | [], [] => True
  | e :: r, h :: t => (e.1 = h.1 ∧ ev ρ e.2 = some h.2) ∧ Hl ρ r t
  | _, _ => False
theorem Hl.mono {ρ ρ' : List Int} (h : Pre ρ ρ') : ∀ {l : List (Nat × AV)} {H : List (Nat × Int)}, Hl ρ l H → Hl ρ' l H
  | [], [], _ => trivial
  | _ :: _, _ :: _, ⟨h1, h2⟩ => ⟨⟨h1.1, ev.mono h h1.2⟩, Hl.mono h h2⟩
  | [], _ :: _, q => q.elim
  | _ :: _, [], q => q.elim
/-- J: what holds always, but for the open rows -/
abbrev Jt : Type := List (Nat × Int) → zS → Prop
abbrev Ok (J : Jt) (s : Sy) (ρ : List Int) (σ : zS) : Prop := ρ.length = s.nx ∧ (∀ e ∈ s.env, ∃ x, ρ[e.1]? = some x ∧ inD x e.2) ∧ (∀ e ∈ s.me, Mf ρ σ e) ∧ (∀ e ∈ s.cg, ∃ x, ρ[e.1]? = some x ∧ ∃ q, x = e.2.1 * q + e.2.2) ∧ (∀ e ∈ s.df, ∃ x v, ρ[e.1]? = some x ∧ tvo ρ e.2.1 = some v ∧ x = v + e.2.2) ∧ (∀ e ∈ s.fa, ∃ v, tvo ρ e.1 = some v ∧ v ≤ e.2) ∧ ∃ H, Hl ρ s.hl H ∧ J H σ
section O2
variable {J : Jt} {s : Sy} {ρ : List Int} {σ : zS}
theorem Ok.len (h : Ok J s ρ σ) : ρ.length = s.nx := h.1
theorem Ok.env (h : Ok J s ρ σ) : ∀ e ∈ s.env, ∃ x, ρ[e.1]? = some x ∧ inD x e.2 := h.2.1
theorem Ok.me (h : Ok J s ρ σ) : ∀ e ∈ s.me, Mf ρ σ e := h.2.2.1
theorem Ok.cg (h : Ok J s ρ σ) : ∀ e ∈ s.cg, ∃ x, ρ[e.1]? = some x ∧ ∃ q, x = e.2.1 * q + e.2.2 := h.2.2.2.1
theorem Ok.df (h : Ok J s ρ σ) : ∀ e ∈ s.df, ∃ x v, ρ[e.1]? = some x ∧ tvo ρ e.2.1 = some v ∧ x = v + e.2.2 := h.2.2.2.2.1
theorem Ok.fa (h : Ok J s ρ σ) : ∀ e ∈ s.fa, ∃ v, tvo ρ e.1 = some v ∧ v ≤ e.2 := h.2.2.2.2.2.1
theorem Ok.inv (h : Ok J s ρ σ) : ∃ H, Hl ρ s.hl H ∧ J H σ := h.2.2.2.2.2.2
end O2
def lk {α : Type} (l : List (Nat × α)) (i : Nat) : Option α := @List.rec (Nat × α) (fun _ => Option α) none (fun e _ ih => @Bool.rec (fun _ => Option α) ih (some e.2) (Nat.beq e.1 i)) l
theorem lkq_nil {α : Type} {i : Nat} : lk ([] : List (Nat × α)) i = none := rfl
theorem lkq_cons {α : Type} {e : Nat × α} {r : List (Nat × α)} {i : Nat} : lk (e :: r) i = bif Nat.beq e.1 i then some e.2 else lk r i := by
  show @Bool.rec (fun _ => Option α) (lk r i) (some e.2) (Nat.beq e.1 i) = _
  cases Nat.beq e.1 i <;> rfl
theorem lk_mem {α : Type} : ∀ {env : List (Nat × α)} {i : Nat} {d : α}, lk env i = some d → (i, d) ∈ env
  | [], _, _, h => by cases h
  | e :: r, i, d, h => by
    rw [lkq_cons] at h
    cases hb : Nat.beq e.1 i with
    | true =>
      rw [hb] at h
      simp only [cond_true, Option.some.injEq] at h
      have := Nat.eq_of_beq_eq_true hb
      subst h; subst this
      exact List.mem_cons_self ..
    | false => rw [hb] at h; exact List.mem_cons_of_mem _ (lk_mem h)
def dom (s : Sy) : AV → Dom
  | .inl (id, o) => match lk s.env id with
    | some d => dsh o d
    | none => T32
  | .inr (.inr (.inl (id, o))) => match lk s.env id with
    | some d => dsh o d
    | none => T64
  | .inr (.inl n) => [(n, n)]
  | .inr (.inr (.inr (.inl n))) => [(n, n)]
  | _ => []
/-- a weight more for a number -/
def tad (id : Nat) (c : Int) (f : Lf) : Lf := @List.rec (Nat × Int) (fun _ => Lf) [(id, c)] (fun t r ih => @Bool.rec (fun _ => Lf) (t :: ih) ((id, t.2 + c) :: r) (Nat.beq t.1 id)) f
theorem tad_nil {id : Nat} {c : Int} : tad id c [] = [(id, c)] := rfl
theorem tad_cons {id : Nat} {c : Int} {t : Nat × Int} {r : Lf} : tad id c (t :: r) = bif Nat.beq t.1 id then (id, t.2 + c) :: r else t :: tad id c r := by
  show @Bool.rec (fun _ => Lf) (t :: tad id c r) ((id, t.2 + c) :: r) (Nat.beq t.1 id) = _
  cases Nat.beq t.1 id <;> rfl
theorem tad_ok {ρ : List Int} {id : Nat} {c x : Int} (hx : ρ[id]? = some x) : ∀ {f : Lf} {v : Int}, tvo ρ f = some v → tvo ρ (tad id c f) = some (v + c * x)
  | [], v, hv => by
    cases Option.some.inj hv
    simp only [tad_nil, tvo, hx]
    exact congrArg some (by omega)
  | t :: r, v, hv => by
    unfold tvo at hv
    cases h1 : ρ[t.1]? with
    | none => rw [h1] at hv; cases hv
    | some y =>
      rw [h1] at hv
      cases h2 : tvo ρ r with
      | none => rw [h2] at hv; cases hv
      | some z =>
        rw [h2] at hv
        have hv := Option.some.inj hv
        rw [tad_cons]
        cases hb : Nat.beq t.1 id with
        | true =>
          have hi := Nat.eq_of_beq_eq_true hb
          rw [hi, hx] at h1
          cases Option.some.inj h1
          simp only [cond_true, tvo, hx, h2]
          refine congrArg some ?_
          rw [Int.add_mul]
          omega
        | false =>
          simp only [cond_false, tvo, h1, tad_ok hx h2]
          exact congrArg some (by omega)
/-- f and w times g -/
def tlin (w : Int) (g f : Lf) : Lf := @List.rec (Nat × Int) (fun _ => Lf → Lf) (fun f => f) (fun t _ ih f => ih (tad t.1 (w * t.2) f)) g f
theorem tlin_nil {w : Int} {f : Lf} : tlin w [] f = f := rfl
theorem tlin_cons {w : Int} {t : Nat × Int} {r f : Lf} : tlin w (t :: r) f = tlin w r (tad t.1 (w * t.2) f) := rfl
theorem tlin_ok {ρ : List Int} {w : Int} : ∀ {g f : Lf} {u v : Int}, tvo ρ g = some u → tvo ρ f = some v → tvo ρ (tlin w g f) = some (v + w * u)
  | [], f, u, v, hu, hv => by
    cases Option.some.inj hu
    simp only [tlin_nil, hv]
    exact congrArg some (by omega)
  | t :: r, f, u, v, hu, hv => by
    unfold tvo at hu
    cases h1 : ρ[t.1]? with
    | none => rw [h1] at hu; cases hu
    | some y =>
      rw [h1] at hu
      cases h2 : tvo ρ r with
      | none => rw [h2] at hu; cases hu
      | some z =>
        rw [h2] at hu
        have hu := Option.some.inj hu
        rw [tlin_cons]
        rw [tlin_ok h2 (tad_ok (c := w * t.2) h1 hv)]
        refine congrArg some ?_
        rw [← hu, Int.mul_add, Int.mul_assoc]
        omega
/-- a value as a sum and a constant -/
def nf (s : Sy) : AV → Lf × Int
  | .inl (id, o) => match lk s.df id with
    | some (f, k) => (f, k + o)
    | none => ([(id, 1)], o)
  | .inr (.inr (.inl (id, o))) => match lk s.df id with
    | some (f, k) => (f, k + o)
    | none => ([(id, 1)], o)
  | .inr (.inl n) => ([], n)
  | .inr (.inr (.inr (.inl n))) => ([], n)
  | _ => ([], 0)
/-- the upper bound of a sum, by the bounds of its numbers -/
def tub (s : Sy) (f : Lf) (z : Int) : Option Int := @List.rec (Nat × Int) (fun _ => Int → Option Int) (fun z => some z) (fun t _ ih z => @Bool.rec (fun _ => Option Int) (@Option.rec Dom (fun _ => Option Int) none (fun d => ih (z + (@Bool.rec (fun _ => Int) (t.2 * dlo d) (t.2 * dhi d) (ile 0 t.2)))) (lk s.env t.1)) (ih z) (iz t.2)) f z
theorem tub_cons {s : Sy} {t : Nat × Int} {r : Lf} {z : Int} : tub s (t :: r) z = bif ile t.2 0 && ile 0 t.2 then tub s r z else match lk s.env t.1 with
    | some d => tub s r (z + (bif ile 0 t.2 then t.2 * dhi d else t.2 * dlo d))
    | none => none := by
  show @Bool.rec (fun _ => Option Int) (@Option.rec Dom (fun _ => Option Int) none (fun d => tub s r (z + (@Bool.rec (fun _ => Int) (t.2 * dlo d) (t.2 * dhi d) (ile 0 t.2)))) (lk s.env t.1)) (tub s r z) (iz t.2) = _
  rw [iz_eq]
  cases ile t.2 0 && ile 0 t.2 with
  | true => rfl
  | false =>
    cases lk s.env t.1 with
    | none => rfl
    | some d => cases ile 0 t.2 <;> rfl
def tle (s : Sy) (f : Lf) (c : Int) : Bool := match tub s f 0 with
  | some u => ile u c
  | none => false
/-- two sums have a number with weights of one sign -/
def shr (f g : Lf) : Bool := f.any fun t => g.any fun u => Nat.beq t.1 u.1 && (bif ile 1 t.2 then ile 1 u.2 else (ile t.2 (-1) && ile u.2 (-1)))
/-- how often the sum g may go off the sum f: by the first number that both have -/
def ipo (a : Int) : Bool := @Int.rec (fun _ => Bool) (fun n => Nat.ble 1 n) (fun _ => false) a
def ine (a : Int) : Bool := @Int.rec (fun _ => Bool) (fun _ => false) (fun _ => true) a
def shp (t u : Nat × Int) : Bool := @Bool.rec (fun _ => Bool) false (@Bool.rec (fun _ => Bool) (@Bool.rec (fun _ => Bool) false (ine u.2) (ine t.2)) (ipo u.2) (ipo t.2)) (Nat.beq t.1 u.1)
def shg (t : Nat × Int) (g : Lf) (k : Int) : Int := @List.rec (Nat × Int) (fun _ => Int) k (fun u _ ih => @Bool.rec (fun _ => Int) ih (@Bool.rec (fun _ => Int) 1 (Int.ofNat (Nat.div t.2.natAbs u.2.natAbs)) (Nat.ble u.2.natAbs t.2.natAbs)) (shp t u)) g
def shw (f g : Lf) : Int := @List.rec (Nat × Int) (fun _ => Int) 0 (fun t _ ih => shg t g ih) f
/-- the sum f is at most c: by bounds, and by up to n of the sums that are known -/
def leqd (s : Sy) : Nat → Lf → Int → Bool
  | 0, f, c => tle s f c
  | n + 1, f, c => tle s f c || s.fa.any fun g => ile 1 (shw f g.1) && leqd s n (tlin (-(shw f g.1)) g.1 f) (c - shw f g.1 * g.2)
section L2
variable {J : Jt} {s : Sy} {ρ : List Int} {σ : zS}
theorem lk_in (h : Ok J s ρ σ) {id : Nat} {o x : Int} {d : Dom} (hl : lk s.env id = some d) (hx : (match ρ[id]? with | some x => some (x + o) | none => none) = some x) : inD x (dsh o d) := by
  obtain ⟨y, h1, h2⟩ := h.env _ (lk_mem hl)
  rw [h1] at hx
  have := Option.some.inj hx
  subst this
  exact dsh_in h2
theorem dom_i (h : Ok J s ρ σ) {a : AV} {y : Int32} (ha : a.isI = true) (hx : ev ρ a = some y.toInt) : inD y.toInt (dom s a) := by
  rcases a with ⟨id, o⟩ | n | ⟨_, _⟩ | _ | _ | ⟨_, _⟩
  · cases hl : lk s.env id with
    | none => simp only [dom, hl]; exact in32 y
    | some d => simp only [dom, hl]; exact lk_in h hl hx
  · cases Option.some.inj hx
    exact ⟨_, List.mem_cons_self .., Int.le_refl _, Int.le_refl _⟩
  · cases ha
  · cases ha
  · cases ha
  · cases ha
theorem dom_l (h : Ok J s ρ σ) {a : AV} {y : Int64} (ha : a.isL = true) (hx : ev ρ a = some y.toInt) : inD y.toInt (dom s a) := by
  rcases a with ⟨_, _⟩ | _ | ⟨id, o⟩ | n | _ | ⟨_, _⟩
  · cases ha
  · cases ha
  · cases hl : lk s.env id with
    | none => simp only [dom, hl]; exact in64 y
    | some d => simp only [dom, hl]; exact lk_in h hl hx
  · cases Option.some.inj hx
    exact ⟨_, List.mem_cons_self .., Int.le_refl _, Int.le_refl _⟩
  · cases ha
  · cases ha
theorem nf_ok (h : Ok J s ρ σ) {a : AV} {x : Int} (hx : ev ρ a = some x) : ∃ v, tvo ρ (nf s a).1 = some v ∧ x = v + (nf s a).2 := by
  have gen : ∀ (id : Nat) (o : Int), (match ρ[id]? with | some x => some (x + o) | none => none) = some x → ∃ v, tvo ρ (match lk s.df id with | some (f, k) => (f, k + o) | none => (([(id, 1)], o) : Lf × Int)).1 = some v ∧ x = v + (match lk s.df id with | some (f, k) => (f, k + o) | none => (([(id, 1)], o) : Lf × Int)).2 := by
    intro id o hx
    cases hr : ρ[id]? with
    | none => rw [hr] at hx; cases hx
    | some y =>
      rw [hr] at hx
      have hx := Option.some.inj hx
      cases hd : lk s.df id with
      | some q =>
        obtain ⟨f, k⟩ := q
        obtain ⟨z, v, h1, h2, h3⟩ := h.df _ (lk_mem hd)
        rw [hr] at h1
        cases Option.some.inj h1
        exact ⟨v, h2, by dsimp only at h3 ⊢; omega⟩
      | none =>
        refine ⟨y, ?_, by dsimp only; omega⟩
        simp only [tvo, hr]
        exact congrArg some (by omega)
  rcases a with ⟨id, o⟩ | n | ⟨id, o⟩ | n | q | ⟨b, n⟩
  · exact gen id o hx
  · exact ⟨0, rfl, by have := Option.some.inj hx; simp only [nf]; omega⟩
  · exact gen id o hx
  · exact ⟨0, rfl, by have := Option.some.inj hx; simp only [nf]; omega⟩
  · cases hx
  · cases hx
theorem tub_ok (h : Ok J s ρ σ) : ∀ {f : Lf} {z u v : Int}, tub s f z = some u → tvo ρ f = some v → v + z ≤ u
  | [], z, u, v, hu, hv => by
    cases Option.some.inj hu
    cases Option.some.inj hv
    omega
  | t :: r, z, u, v, hu, hv => by
    unfold tvo at hv
    cases h1 : ρ[t.1]? with
    | none => rw [h1] at hv; cases hv
    | some y =>
      rw [h1] at hv
      cases h2 : tvo ρ r with
      | none => rw [h2] at hv; cases hv
      | some w =>
        rw [h2] at hv
        have hv := Option.some.inj hv
        rw [tub_cons] at hu
        cases hz : ile t.2 0 && ile 0 t.2 with
        | true =>
          rw [hz] at hu
          rw [Bool.and_eq_true] at hz
          have h0 : t.2 = 0 := ile_eq hz
          have := tub_ok h hu h2
          rw [h0] at hv
          omega
        | false =>
          rw [hz] at hu
          simp only [cond_false] at hu
          cases hd : lk s.env t.1 with
          | none => rw [hd] at hu; cases hu
          | some d =>
            rw [hd] at hu
            simp only at hu
            obtain ⟨y', h3, h4⟩ := h.env _ (lk_mem hd)
            have h3 : ρ[t.1]? = some y' := h3
            rw [h1] at h3
            cases Option.some.inj h3
            have h4 : inD y d := h4
            have b1 := dlo_le h4
            have b2 := le_dhi h4
            have ih := tub_ok h hu h2
            cases hp : ile 0 t.2 with
            | true =>
              rw [hp] at ih
              simp only [cond_true] at ih
              have h5 := ile_iff.mp hp
              have := Int.mul_le_mul_of_nonneg_left b2 h5
              omega
            | false =>
              rw [hp] at ih
              simp only [cond_false] at ih
              have h5 : t.2 ≤ 0 := by
                have : ¬ (0 ≤ t.2) := fun q => by rw [ile_iff.mpr q] at hp; cases hp
                omega
              have := Int.mul_le_mul_of_nonpos_left h5 b1
              omega
theorem tle_ok (h : Ok J s ρ σ) {f : Lf} {c v : Int} (hf : tle s f c = true) (hv : tvo ρ f = some v) : v ≤ c := by
  unfold tle at hf
  split at hf
  · rename_i u hu
    have h1 := tub_ok h hu hv
    have h2 := ile_iff.mp hf
    omega
  · cases hf
theorem leqd_ok (h : Ok J s ρ σ) : ∀ {n : Nat} {f : Lf} {c v : Int}, leqd s n f c = true → tvo ρ f = some v → v ≤ c
  | 0, f, c, v, hf, hv => tle_ok h hf hv
  | n + 1, f, c, v, hf, hv => by
    unfold leqd at hf
    rw [Bool.or_eq_true] at hf
    rcases hf with hf | hf
    · exact tle_ok h hf hv
    · obtain ⟨g, hg, h1⟩ := List.any_eq_true.mp hf
      rw [Bool.and_eq_true] at h1
      obtain ⟨w, h2, h3⟩ := h.fa g hg
      have := leqd_ok h (n := n) h1.2 (tlin_ok (w := -(shw f g.1)) h2 hv)
      have h4 := Int.mul_le_mul_of_nonneg_left h3 (show 0 ≤ shw f g.1 by have := ile_iff.mp h1.1; omega)
      rw [Int.neg_mul] at this
      omega
end L2
end
