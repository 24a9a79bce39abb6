/-! ===== ENGINE 2: what is known of a state ===== -/
/-- how many numbers; what is known of them; what places hold; whole rows of ints: cell, length, what every place of it holds -/
abbrev Sy : Type := Nat × (List (Nat × Dom) × (List (Nat × (AV × AV)) × List (Nat × (Nat × AV))))
abbrev Sy.nx (s : Sy) : Nat := s.1
abbrev Sy.env (s : Sy) : List (Nat × Dom) := s.2.1
abbrev Sy.me (s : Sy) : List (Nat × (AV × AV)) := s.2.2.1
abbrev Sy.un (s : Sy) : List (Nat × (Nat × AV)) := s.2.2.2
def T32 : Dom := [(-2147483648, 2147483647)]
def T64 : Dom := [(-9223372036854775808, 9223372036854775807)]
theorem in32 (x : Int32) : inD x.toInt T32 := ⟨_, List.mem_cons_self .., Int32.le_toInt x, Int32.toInt_le x⟩
theorem in64 (x : Int64) : inD x.toInt T64 := ⟨_, List.mem_cons_self .., Int64.le_toInt x, Int64.toInt_le x⟩
def Mf (ρ : List Int) (σ : zS) (e : Nat × (AV × AV)) : Prop := ∃ j : Nat, ev ρ e.2.1 = some (j : Int) ∧ ((e.2.2.isI = true ∧ ev ρ e.2.2 = some (σ.1 e.1 j).toInt) ∨ (e.2.2.isL = true ∧ ev ρ e.2.2 = some (σ.2 e.1 j).toInt))
abbrev Ok (J : zS → Prop) (s : Sy) (ρ : List Int) (σ : zS) : Prop := ρ.length = s.nx ∧ (∀ e ∈ s.env, ∃ x, ρ[e.1]? = some x ∧ inD x e.2) ∧ (∀ e ∈ s.me, Mf ρ σ e) ∧ (∀ e ∈ s.un, e.2.2.isI = true ∧ ∀ j, j < e.2.1 → ev ρ e.2.2 = some (σ.1 e.1 j).toInt) ∧ J σ
theorem Ok.len {J : zS → Prop} {s : Sy} {ρ : List Int} {σ : zS} (h : Ok J s ρ σ) : ρ.length = s.nx := h.1
theorem Ok.env {J : zS → Prop} {s : Sy} {ρ : List Int} {σ : zS} (h : Ok J s ρ σ) : ∀ e ∈ s.env, ∃ x, ρ[e.1]? = some x ∧ inD x e.2 := h.2.1
theorem Ok.me {J : zS → Prop} {s : Sy} {ρ : List Int} {σ : zS} (h : Ok J s ρ σ) : ∀ e ∈ s.me, Mf ρ σ e := h.2.2.1
theorem Ok.un {J : zS → Prop} {s : Sy} {ρ : List Int} {σ : zS} (h : Ok J s ρ σ) : ∀ e ∈ s.un, e.2.2.isI = true ∧ ∀ j, j < e.2.1 → ev ρ e.2.2 = some (σ.1 e.1 j).toInt := h.2.2.2.1
theorem Ok.inv {J : zS → Prop} {s : Sy} {ρ : List Int} {σ : zS} (h : Ok J s ρ σ) : J σ := h.2.2.2.2
def lk : List (Nat × Dom) → Nat → Option Dom
  | [], _ => none
  | e :: r, i => bif Nat.beq e.1 i then some e.2 else lk r i
theorem lk_mem : ∀ {env : List (Nat × Dom)} {i : Nat} {d : Dom}, lk env i = some d → (i, d) ∈ env
  | [], _, _, h => by cases h
  | e :: r, i, d, h => by
    unfold lk at h
    cases hb : Nat.beq e.1 i with
    | true =>
      rw [hb] at h
      simp only [cond_true, Option.some.injEq] at h
      have := Nat.eq_of_beq_eq_true hb
      subst h; subst this
      exact List.mem_cons_self ..
    | false => rw [hb] at h; exact List.mem_cons_of_mem _ (lk_mem h)
def dom (s : Sy) : AV → Dom
  | .inl (id, o) => match lk s.env id with
    | some d => dsh o d
    | none => T32
  | .inr (.inr (.inl (id, o))) => match lk s.env id with
    | some d => dsh o d
    | none => T64
  | .inr (.inl n) => [(n, n)]
  | .inr (.inr (.inr (.inl n))) => [(n, n)]
  | _ => []
section EK
variable {J : zS → Prop} {s : Sy} {ρ : List Int} {σ : zS}
theorem lk_in (h : Ok J s ρ σ) {id : Nat} {o x : Int} {d : Dom} (hl : lk s.env id = some d) (hx : (match ρ[id]? with | some x => some (x + o) | none => none) = some x) : inD x (dsh o d) := by
  obtain ⟨y, h1, h2⟩ := h.env _ (lk_mem hl)
  rw [h1] at hx
  have := Option.some.inj hx
  subst this
  exact dsh_in h2
theorem dom_i (h : Ok J s ρ σ) {a : AV} {y : Int32} (ha : a.isI = true) (hx : ev ρ a = some y.toInt) : inD y.toInt (dom s a) := by
  rcases a with ⟨id, o⟩ | n | ⟨_, _⟩ | _ | _ | ⟨_, _⟩
  · cases hl : lk s.env id with
    | none => simp only [dom, hl]; exact in32 y
    | some d => simp only [dom, hl]; exact lk_in h hl hx
  · cases Option.some.inj hx
    exact ⟨_, List.mem_cons_self .., Int.le_refl _, Int.le_refl _⟩
  · cases ha
  · cases ha
  · cases ha
  · cases ha
theorem dom_l (h : Ok J s ρ σ) {a : AV} {y : Int64} (ha : a.isL = true) (hx : ev ρ a = some y.toInt) : inD y.toInt (dom s a) := by
  rcases a with ⟨_, _⟩ | _ | ⟨id, o⟩ | n | _ | ⟨_, _⟩
  · cases ha
  · cases ha
  · cases hl : lk s.env id with
    | none => simp only [dom, hl]; exact in64 y
    | some d => simp only [dom, hl]; exact lk_in h hl hx
  · cases Option.some.inj hx
    exact ⟨_, List.mem_cons_self .., Int.le_refl _, Int.le_refl _⟩
  · cases ha
  · cases ha
/-- a new number, of which d is known -/
def Sy.new (s : Sy) (d : Dom) : Sy := (s.nx + 1, ((s.nx, d) :: s.env, (s.me, s.un)))
theorem Mf.mono {ρ' : List Int} (h : Pre ρ ρ') {e : Nat × (AV × AV)} (hm : Mf ρ σ e) : Mf ρ' σ e := by
  obtain ⟨j, h1, h2⟩ := hm
  refine ⟨j, ev.mono h h1, ?_⟩
  rcases h2 with ⟨h2, h3⟩ | ⟨h2, h3⟩
  · exact Or.inl ⟨h2, ev.mono h h3⟩
  · exact Or.inr ⟨h2, ev.mono h h3⟩
theorem Ok.new (h : Ok J s ρ σ) {x : Int} {d : Dom} (hx : inD x d) : Ok J (s.new d) (ρ ++ [x]) σ := by
  have hl : (ρ ++ [x])[s.nx]? = some x := by rw [← h.len]; simp
  refine ⟨by simp [Sy.new, h.len], fun e he => ?_, fun e he => (h.me e he).mono Pre.one, fun e he => ⟨(h.un e he).1, fun j hj => ev.mono Pre.one ((h.un e he).2 j hj)⟩, h.inv⟩
  rcases List.mem_cons.mp he with rfl | he
  · exact ⟨x, hl, hx⟩
  · obtain ⟨y, h1, h2⟩ := h.env e he
    exact ⟨y, Pre.one.at h1, h2⟩
theorem Ok.new_at (h : Ok J s ρ σ) {x : Int} : (ρ ++ [x])[s.nx]? = some x := by rw [← h.len]; simp
theorem Ok.new_i (h : Ok J s ρ σ) {x : Int} : ev (ρ ++ [x]) (.i s.nx 0) = some x := by
  simp only [ev, h.new_at, Int.add_zero]
theorem Ok.new_l (h : Ok J s ρ σ) {x : Int} : ev (ρ ++ [x]) (.l s.nx 0) = some x := by
  simp only [ev, h.new_at, Int.add_zero]
/-- a number of int: a constant if no other is left -/
def Sy.newI (s : Sy) (d : Dom) : Sy × AV := match d with
  | [(a, b)] => bif ile b a then (s, .c a) else (s.new d, .i s.nx 0)
  | _ => (s.new d, .i s.nx 0)
theorem inD_one {x a b : Int} (h : inD x [(a, b)]) : a ≤ x ∧ x ≤ b := by
  obtain ⟨p, hp, h1, h2⟩ := h
  rcases List.mem_cons.mp hp with rfl | hp
  · exact ⟨h1, h2⟩
  · cases hp
theorem newI_ok (h : Ok J s ρ σ) {y : Int32} {d : Dom} (hx : inD y.toInt d) : ∃ ρ', Pre ρ ρ' ∧ Ok J (s.newI d).1 ρ' σ ∧ (s.newI d).2.isI = true ∧ ev ρ' (s.newI d).2 = some y.toInt := by
  have gen : ∃ ρ', Pre ρ ρ' ∧ Ok J (s.new d) ρ' σ ∧ (AV.i s.nx 0).isI = true ∧ ev ρ' (AV.i s.nx 0) = some y.toInt := ⟨_, Pre.one, h.new hx, rfl, h.new_i⟩
  unfold Sy.newI
  split
  · rename_i a b
    cases hb : ile b a with
    | true =>
      have h1 := ile_iff.mp hb
      have h2 := inD_one hx
      exact ⟨ρ, Pre.rf, h, rfl, congrArg some (by omega)⟩
    | false => exact gen
  · exact gen
def Sy.newL (s : Sy) (d : Dom) : Sy × AV := (s.new d, .l s.nx 0)
theorem newL_ok (h : Ok J s ρ σ) {y : Int64} {d : Dom} (hx : inD y.toInt d) : ∃ ρ', Pre ρ ρ' ∧ Ok J (s.newL d).1 ρ' σ ∧ (s.newL d).2.isL = true ∧ ev ρ' (s.newL d).2 = some y.toInt := ⟨_, Pre.one, h.new hx, rfl, h.new_l⟩
/-- more is known of a number -/
def Sy.set (s : Sy) (a : AV) (d : Dom) : Sy := match a with
  | .inl (id, o) => (s.nx, ((id, dsh (-o) d) :: s.env, (s.me, s.un)))
  | .inr (.inr (.inl (id, o))) => (s.nx, ((id, dsh (-o) d) :: s.env, (s.me, s.un)))
  | _ => s
theorem Ok.set (h : Ok J s ρ σ) {a : AV} {x : Int} {d : Dom} (hx : ev ρ a = some x) (hd : inD x d) : Ok J (s.set a d) ρ σ := by
  have gen : ∀ (id : Nat) (o : Int), (match ρ[id]? with | some x => some (x + o) | none => none) = some x → Ok J (s.nx, ((id, dsh (-o) d) :: s.env, (s.me, s.un))) ρ σ := by
    intro id o hx
    refine ⟨h.len, fun e he => ?_, h.me, h.un, h.inv⟩
    rcases List.mem_cons.mp he with rfl | he
    · cases hr : ρ[id]? with
      | none => rw [hr] at hx; cases hx
      | some y =>
        rw [hr] at hx
        have := Option.some.inj hx
        subst this
        have := dsh_in (o := -o) hd
        rw [show y + o + -o = y by omega] at this
        exact ⟨y, rfl, this⟩
    · exact h.env e he
  rcases a with ⟨id, o⟩ | n | ⟨id, o⟩ | n | q | ⟨b, n⟩
  · exact gen id o hx
  · exact h
  · exact gen id o hx
  · exact h
  · exact h
  · exact h
abbrev Cm : Type := Jvm.ClassFile.Cond
def Cm.ok (c : Cm) (x y : Int) : Prop := match c with
  | .eq => x = y
  | .ne => x ≠ y
  | .lt => x < y
  | .ge => y ≤ x
  | .gt => y < x
  | .le => x ≤ y
def Cm.neg : Cm → Cm
  | .eq => .ne
  | .ne => .eq
  | .lt => .ge
  | .ge => .lt
  | .gt => .le
  | .le => .gt
theorem Cm.neg_ok {c : Cm} {x y : Int} (h : ¬ c.ok x y) : c.neg.ok x y := by
  cases c <;> simp only [Cm.ok, Cm.neg] at h ⊢ <;> omega
/-- a without what b is, if b is one number -/
def drmo (a b : Dom) : Dom := match b with
  | [(n, m)] => bif ile m n then drm n a else a
  | _ => a
def dcut (c : Cm) (a b : Dom) : Dom × Dom := match c with
  | .lt => (dup (dhi b - 1) a, dfr (dlo a + 1) b)
  | .le => (dup (dhi b) a, dfr (dlo a) b)
  | .gt => (dfr (dlo b + 1) a, dup (dhi a - 1) b)
  | .ge => (dfr (dlo b) a, dup (dhi a) b)
  | .eq => (dand a b, dand a b)
  | .ne => (drmo a b, drmo b a)
theorem drmo_in {x y : Int} {a b : Dom} (hx : inD x a) (hy : inD y b) (h : x ≠ y) : inD x (drmo a b) := by
  unfold drmo
  split
  · rename_i n m
    cases hb : ile m n with
    | true =>
      have h1 := ile_iff.mp hb
      have h2 := inD_one hy
      exact drm_in (by omega) hx
    | false => exact hx
  · exact hx
theorem dcut_in {c : Cm} {a b : Dom} {x y : Int} (hx : inD x a) (hy : inD y b) (h : c.ok x y) : inD x (dcut c a b).1 ∧ inD y (dcut c a b).2 := by
  have a1 := dlo_le hx
  have a2 := le_dhi hx
  have b1 := dlo_le hy
  have b2 := le_dhi hy
  cases c <;> simp only [Cm.ok] at h <;> simp only [dcut]
  · subst h
    exact ⟨dand_in hx hy, dand_in hx hy⟩
  · exact ⟨drmo_in hx hy h, drmo_in hy hx (fun q => h q.symm)⟩
  · exact ⟨dup_in (by omega) hx, dfr_in (by omega) hy⟩
  · exact ⟨dfr_in (by omega) hx, dup_in (by omega) hy⟩
  · exact ⟨dfr_in (by omega) hx, dup_in (by omega) hy⟩
  · exact ⟨dup_in (by omega) hx, dfr_in (by omega) hy⟩
/-- what is known where a c b; nothing if that cannot be -/
def Sy.cut (s : Sy) (c : Cm) (a b : AV) : Option Sy :=
  let q := dcut c (dom s a) (dom s b)
  match q.1, q.2 with
  | [], _ => none
  | _, [] => none
  | x, y => some ((s.set a x).set b y)
theorem inD_nil {x : Int} (h : inD x []) : False := by
  obtain ⟨_, h, _⟩ := h
  cases h
theorem Sy.cut_ok (h : Ok J s ρ σ) {c : Cm} {a b : AV} {x y : Int} (ha : ev ρ a = some x) (hb : ev ρ b = some y) (hx : inD x (dom s a)) (hy : inD y (dom s b)) (hc : c.ok x y) : ∃ s', s.cut c a b = some s' ∧ Ok J s' ρ σ := by
  obtain ⟨h1, h2⟩ := dcut_in hx hy hc
  unfold Sy.cut
  generalize dcut c (dom s a) (dom s b) = q at h1 h2
  obtain ⟨q1, q2⟩ := q
  dsimp only at h1 h2 ⊢
  cases q1 with
  | nil => exact (inD_nil h1).elim
  | cons p q1 =>
    cases q2 with
    | nil => exact (inD_nil h2).elim
    | cons p2 q2 => exact ⟨_, rfl, (h.set ha h1).set hb h2⟩
end EK
/-! ===== ENGINE 3: reading, writing, reckoning ===== -/
def apart (p q : AV) : Bool := match p, q with
  | .inr (.inl a), .inr (.inl b) => !(ile a b && ile b a)
  | .inl (a, o), .inl (b, u) => Nat.beq a b && !(ile o u && ile u o)
  | _, _ => false
theorem apart_ne {ρ : List Int} {p q : AV} {x y : Int} (h : apart p q = true) (hp : ev ρ p = some x) (hq : ev ρ q = some y) : x ≠ y := by
  unfold apart at h
  split at h
  · rename_i a b
    have e1 := Option.some.inj hp
    have e2 := Option.some.inj hq
    subst e1; subst e2
    intro e
    subst e
    have := ile_iff.mpr (Int.le_refl a)
    simp [this] at h
  · rename_i a o b u
    simp only [Bool.and_eq_true, Bool.not_eq_true', Bool.and_eq_false_iff] at h
    obtain ⟨h1, h2⟩ := h
    have h1 := Nat.eq_of_beq_eq_true h1
    subst h1
    simp only [ev] at hp hq
    cases hr : ρ[a]? with
    | none => rw [hr] at hp; cases hp
    | some z =>
      rw [hr] at hp hq
      have e1 := Option.some.inj hp
      have e2 := Option.some.inj hq
      intro e
      have : o = u := by omega
      subst this
      have := ile_iff.mpr (Int.le_refl o)
      simp [this] at h2
  · cases h
def mget : List (Nat × (AV × AV)) → Nat → AV → Option AV
  | [], _, _ => none
  | e :: r, k, p => bif Nat.beq e.1 k then (bif AV.eq e.2.1 p then some e.2.2 else mget r k p) else mget r k p
theorem mget_mem {k : Nat} {p v : AV} : ∀ {me : List (Nat × (AV × AV))}, mget me k p = some v → (k, (p, v)) ∈ me
  | [], h => by cases h
  | e :: r, h => by
    unfold mget at h
    cases hb : Nat.beq e.1 k with
    | false => rw [hb] at h; exact List.mem_cons_of_mem _ (mget_mem h)
    | true =>
      rw [hb] at h
      simp only [cond_true] at h
      cases hc : AV.eq e.2.1 p with
      | false => rw [hc] at h; exact List.mem_cons_of_mem _ (mget_mem h)
      | true =>
        rw [hc] at h
        simp only [cond_true, Option.some.injEq] at h
        have h1 := Nat.eq_of_beq_eq_true hb
        have h2 := AV.eq_of hc
        subst h; subst h1; subst h2
        exact List.mem_cons_self ..
def Sy.add (s : Sy) (k : Nat) (p v : AV) : Sy := (s.nx, (s.env, ((k, (p, v)) :: s.me, s.un)))
def Sy.rdI (s : Sy) (k : Nat) (p : AV) (d : Dom) : Sy × AV := match mget s.me k p with
  | some v => bif v.isI then (s, v) else (((s.newI d).1).add k p (s.newI d).2, (s.newI d).2)
  | none => (((s.newI d).1).add k p (s.newI d).2, (s.newI d).2)
def uget : List (Nat × (Nat × AV)) → Nat → Nat → Option AV
  | [], _, _ => none
  | e :: r, k, z => bif Nat.beq e.1 k && Nat.ble z e.2.1 then some e.2.2 else uget r k z
theorem uget_mem {k z : Nat} {v : AV} : ∀ {l : List (Nat × (Nat × AV))}, uget l k z = some v → ∃ y, (k, (y, v)) ∈ l ∧ z ≤ y
  | [], h => by cases h
  | e :: r, h => by
    unfold uget at h
    cases hb : Nat.beq e.1 k && Nat.ble z e.2.1 with
    | false =>
      rw [hb] at h
      obtain ⟨y, h1, h2⟩ := uget_mem h
      exact ⟨y, List.mem_cons_of_mem _ h1, h2⟩
    | true =>
      rw [hb] at h
      simp only [cond_true, Option.some.injEq] at h
      rw [Bool.and_eq_true] at hb
      have := Nat.eq_of_beq_eq_true hb.1
      subst h; subst this
      exact ⟨e.2.1, List.mem_cons_self .., Nat.le_of_ble_eq_true hb.2⟩
/-- a place that can be but one number is that number -/
def pl (s : Sy) (a : AV) : AV := match dom s a with
  | [(x, y)] => bif ile y x then .c x else a
  | _ => a
def Sy.rdA (s : Sy) (k : Nat) (p : AV) (z : Nat) (d : Dom) : Sy × AV := match mget s.me k p with
  | some v => bif v.isI then (s, v) else (((s.newI d).1).add k p (s.newI d).2, (s.newI d).2)
  | none => match uget s.un k z with
    | some v => (s, v)
    | none => (((s.newI d).1).add k p (s.newI d).2, (s.newI d).2)
def Sy.rdL (s : Sy) (k : Nat) (p : AV) : Sy × AV := match mget s.me k p with
  | some v => bif v.isL then (s, v) else (((s.newL T64).1).add k p (s.newL T64).2, (s.newL T64).2)
  | none => (((s.newL T64).1).add k p (s.newL T64).2, (s.newL T64).2)
section EM
variable {J : zS → Prop} {s : Sy} {ρ : List Int} {σ : zS}
theorem isI_L {a : AV} (h : a.isI = true) (h' : a.isL = true) : False := by
  rcases a with _ | _ | _ | _ | _ | _ <;> first | cases h; done | cases h'; done
theorem Ok.addI (h : Ok J s ρ σ) {k j : Nat} {p v : AV} (hp : ev ρ p = some (j : Int)) (hv : v.isI = true) (he : ev ρ v = some (σ.1 k j).toInt) : Ok J (s.add k p v) ρ σ := by
  refine ⟨h.len, h.env, fun e he' => ?_, h.un, h.inv⟩
  rcases List.mem_cons.mp he' with rfl | he'
  · exact ⟨j, hp, Or.inl ⟨hv, he⟩⟩
  · exact h.me e he'
theorem Ok.addL (h : Ok J s ρ σ) {k j : Nat} {p v : AV} (hp : ev ρ p = some (j : Int)) (hv : v.isL = true) (he : ev ρ v = some (σ.2 k j).toInt) : Ok J (s.add k p v) ρ σ := by
  refine ⟨h.len, h.env, fun e he' => ?_, h.un, h.inv⟩
  rcases List.mem_cons.mp he' with rfl | he'
  · exact ⟨j, hp, Or.inr ⟨hv, he⟩⟩
  · exact h.me e he'
theorem rdI_ok (h : Ok J s ρ σ) {k j : Nat} {p : AV} {d : Dom} (hp : ev ρ p = some (j : Int)) (hd : inD (σ.1 k j).toInt d) : ∃ ρ', Pre ρ ρ' ∧ Ok J (s.rdI k p d).1 ρ' σ ∧ (s.rdI k p d).2.isI = true ∧ ev ρ' (s.rdI k p d).2 = some (σ.1 k j).toInt := by
  have gen : ∃ ρ', Pre ρ ρ' ∧ Ok J (((s.newI d).1).add k p (s.newI d).2) ρ' σ ∧ (s.newI d).2.isI = true ∧ ev ρ' (s.newI d).2 = some (σ.1 k j).toInt := by
    obtain ⟨ρ', h1, h2, h3, h4⟩ := newI_ok h hd
    exact ⟨ρ', h1, h2.addI (ev.mono h1 hp) h3 h4, h3, h4⟩
  unfold Sy.rdI
  cases hm : mget s.me k p with
  | none => exact gen
  | some v =>
    dsimp only
    cases hv : v.isI with
    | false => exact gen
    | true =>
      obtain ⟨j', h1, h2⟩ := h.me _ (mget_mem hm)
      have : j' = j := by
        have := hp.symm.trans h1
        have := Option.some.inj this
        omega
      subst this
      rcases h2 with ⟨_, h3⟩ | ⟨h3, _⟩
      · exact ⟨ρ, Pre.rf, h, hv, h3⟩
      · exact (isI_L hv h3).elim
theorem pl_ok (h : Ok J s ρ σ) {a : AV} {y : Int32} (ha : a.isI = true) (hy : ev ρ a = some y.toInt) : ev ρ (pl s a) = some y.toInt := by
  unfold pl
  split
  · rename_i u w hd
    cases hb : ile w u with
    | false => exact hy
    | true =>
      have h1 := dom_i h ha hy
      rw [hd] at h1
      have h2 := inD_one h1
      have h3 := ile_iff.mp hb
      exact congrArg some (by omega)
  · exact hy
theorem rdA_ok (h : Ok J s ρ σ) {k j z : Nat} {p : AV} {d : Dom} (hp : ev ρ p = some (j : Int)) (hj : j < z) (hd : inD (σ.1 k j).toInt d) : ∃ ρ', Pre ρ ρ' ∧ Ok J (s.rdA k p z d).1 ρ' σ ∧ (s.rdA k p z d).2.isI = true ∧ ev ρ' (s.rdA k p z d).2 = some (σ.1 k j).toInt := by
  have h0 := rdI_ok h hp hd
  unfold Sy.rdA
  unfold Sy.rdI at h0
  cases hm : mget s.me k p with
  | some v => rw [hm] at h0; exact h0
  | none =>
    rw [hm] at h0
    dsimp only at h0 ⊢
    cases hu : uget s.un k z with
    | none => exact h0
    | some v =>
      obtain ⟨y, h1, h2⟩ := uget_mem hu
      obtain ⟨h3, h4⟩ := h.un _ h1
      exact ⟨ρ, Pre.rf, h, h3, h4 j (Nat.lt_of_lt_of_le hj h2)⟩
theorem rdL_ok (h : Ok J s ρ σ) {k j : Nat} {p : AV} (hp : ev ρ p = some (j : Int)) : ∃ ρ', Pre ρ ρ' ∧ Ok J (s.rdL k p).1 ρ' σ ∧ (s.rdL k p).2.isL = true ∧ ev ρ' (s.rdL k p).2 = some (σ.2 k j).toInt := by
  have gen : ∃ ρ', Pre ρ ρ' ∧ Ok J (((s.newL T64).1).add k p (s.newL T64).2) ρ' σ ∧ (s.newL T64).2.isL = true ∧ ev ρ' (s.newL T64).2 = some (σ.2 k j).toInt := by
    obtain ⟨ρ', h1, h2, h3, h4⟩ := newL_ok h (in64 (σ.2 k j))
    exact ⟨ρ', h1, h2.addL (ev.mono h1 hp) h3 h4, h3, h4⟩
  unfold Sy.rdL
  cases hm : mget s.me k p with
  | none => exact gen
  | some v =>
    dsimp only
    cases hv : v.isL with
    | false => exact gen
    | true =>
      obtain ⟨j', h1, h2⟩ := h.me _ (mget_mem hm)
      have : j' = j := by
        have := hp.symm.trans h1
        have := Option.some.inj this
        omega
      subst this
      rcases h2 with ⟨h3, _⟩ | ⟨_, h3⟩
      · exact (isI_L h3 hv).elim
      · exact ⟨ρ, Pre.rf, h, hv, h3⟩
def Sy.wr (s : Sy) (k : Nat) (p v : AV) : Sy := (s.nx, (s.env, ((k, (p, v)) :: s.me.filter (fun e => !(Nat.beq e.1 k) || apart e.2.1 p), s.un.filter fun e => !(Nat.beq e.1 k))))
theorem un_off {e : Nat × (Nat × AV)} {k : Nat} {l : List (Nat × (Nat × AV))} (h : e ∈ l.filter fun e => !(Nat.beq e.1 k)) : e ∈ l ∧ e.1 ≠ k := by
  obtain ⟨h1, h2⟩ := List.mem_filter.mp h
  refine ⟨h1, fun q => ?_⟩
  rw [q, Nat.beq_refl] at h2
  cases h2
theorem zI_at {k j : Nat} {x : Int32} : (zI σ k j x).1 k j = x := by simp [zI, xup, upd]
theorem zI_ne {k j k' j' : Nat} {x : Int32} (h : ¬ (k' = k ∧ j' = j)) : (zI σ k j x).1 k' j' = σ.1 k' j' := by
  by_cases hk : k' = k
  · subst hk
    have hj : j' ≠ j := fun q => h ⟨rfl, q⟩
    simp [zI, xup, upd, hj]
  · simp [zI, xup, hk]
theorem zJ_at {k j : Nat} {x : Int64} : (zJ σ k j x).2 k j = x := by simp [zJ, xup, vp_updL]
theorem zJ_ne {k j k' j' : Nat} {x : Int64} (h : ¬ (k' = k ∧ j' = j)) : (zJ σ k j x).2 k' j' = σ.2 k' j' := by
  by_cases hk : k' = k
  · subst hk
    have hj : j' ≠ j := fun q => h ⟨rfl, q⟩
    simp [zJ, xup, vp_updL, hj]
  · simp [zJ, xup, hk]
theorem wr_off {k j : Nat} {p : AV} {e : Nat × (AV × AV)} {j' : Nat} (hp : ev ρ p = some (j : Int)) (hf : (!(Nat.beq e.1 k) || apart e.2.1 p) = true) (he : ev ρ e.2.1 = some (j' : Int)) : ¬ (e.1 = k ∧ j' = j) := by
  rintro ⟨h1, h2⟩
  subst h2
  rcases Bool.or_eq_true _ _ ▸ hf with h | h
  · rw [h1] at h
    have : Nat.beq k k = true := Nat.beq_refl k
    rw [this] at h
    cases h
  · exact apart_ne h he hp rfl
theorem wrI_ok (h : Ok J s ρ σ) {k j : Nat} {p v : AV} {x : Int32} (hp : ev ρ p = some (j : Int)) (hv : v.isI = true) (he : ev ρ v = some x.toInt) (hJ : J (zI σ k j x)) : Ok J (s.wr k p v) ρ (zI σ k j x) := by
  refine ⟨h.len, h.env, fun e he' => ?_, fun e he' => ⟨(h.un e (un_off he').1).1, fun j' hj => by rw [zI_ne (fun q => (un_off he').2 q.1)]; exact (h.un e (un_off he').1).2 j' hj⟩, hJ⟩
  rcases List.mem_cons.mp he' with rfl | he'
  · exact ⟨j, hp, Or.inl ⟨hv, by rw [zI_at]; exact he⟩⟩
  · obtain ⟨h1, h2⟩ := List.mem_filter.mp he'
    obtain ⟨j', h3, h4⟩ := h.me e h1
    have hne := wr_off hp h2 h3
    refine ⟨j', h3, ?_⟩
    rw [zI_ne hne]
    exact h4
theorem wrL_ok (h : Ok J s ρ σ) {k j : Nat} {p v : AV} {x : Int64} (hp : ev ρ p = some (j : Int)) (hv : v.isL = true) (he : ev ρ v = some x.toInt) (hJ : J (zJ σ k j x)) : Ok J (s.wr k p v) ρ (zJ σ k j x) := by
  refine ⟨h.len, h.env, fun e he' => ?_, fun e he' => h.un e (un_off he').1, hJ⟩
  rcases List.mem_cons.mp he' with rfl | he'
  · exact ⟨j, hp, Or.inr ⟨hv, by rw [zJ_at]; exact he⟩⟩
  · obtain ⟨h1, h2⟩ := List.mem_filter.mp he'
    obtain ⟨j', h3, h4⟩ := h.me e h1
    have hne := wr_off hp h2 h3
    refine ⟨j', h3, ?_⟩
    rw [zJ_ne hne]
    exact h4
/-- a row known whole, place by place -/
def Sy.opn (s : Sy) (k : Nat) (p : AV) : Sy := match p with
  | .inr (.inl _) => match uget s.un k 1 with
    | some v => (s.nx, (s.env, (s.me ++ ((s.un.filter fun e => Nat.beq e.1 k && Nat.ble e.2.1 64).flatMap fun e => (List.range e.2.1).map fun (j : Nat) => (k, (AV.c (j : Int), e.2.2))), s.un)))
    | none => s
  | _ => s
theorem Ok.opn (h : Ok J s ρ σ) {k : Nat} {p : AV} : Ok J (s.opn k p) ρ σ := by
  unfold Sy.opn
  split
  · split
    · refine ⟨h.len, h.env, fun e he => ?_, h.un, h.inv⟩
      rcases List.mem_append.mp he with he | he
      · exact h.me e he
      · obtain ⟨q, h1, h2⟩ := List.mem_flatMap.mp he
        obtain ⟨j, h3, rfl⟩ := List.mem_map.mp h2
        obtain ⟨h4, h5⟩ := List.mem_filter.mp h1
        rw [Bool.and_eq_true] at h5
        have hk := Nat.eq_of_beq_eq_true h5.1
        subst hk
        obtain ⟨h6, h7⟩ := h.un q h4
        exact ⟨j, rfl, Or.inl ⟨h6, h7 j (List.mem_range.mp h3)⟩⟩
    · exact h
  · exact h
/-! reckoning -/
def fit32 (d : Dom) : Bool := ile (-2147483648) (dlo d) && ile (dhi d) 2147483647
theorem fit32_in {d : Dom} {x : Int} (h : fit32 d = true) (hx : inD x d) : -2147483648 ≤ x ∧ x ≤ 2147483647 := by
  simp only [fit32, Bool.and_eq_true, ile_iff] at h
  have := dlo_le hx
  have := le_dhi hx
  omega
theorem bm32 {n : Int} (h : -2147483648 ≤ n ∧ n ≤ 2147483647) : n.bmod (2 ^ 32) = n := by
  rw [Int.bmod_eq_of_le_mul_two] <;> omega
def Sy.addc (s : Sy) (a : AV) (n : Int) : Sy × AV := match a with
  | .inr (.inl m) => bif fit32 [(m + n, m + n)] then (s, .c (m + n)) else s.newI T32
  | .inl (id, o) => bif fit32 (dsh n (dom s (.i id o))) then (s, .i id (o + n)) else s.newI T32
  | _ => s.newI T32
theorem addc_ok (h : Ok J s ρ σ) {a : AV} {n : Int} {x z : Int32} (ha : a.isI = true) (hx : ev ρ a = some x.toInt) (hz : -2147483648 ≤ x.toInt + n ∧ x.toInt + n ≤ 2147483647 → z.toInt = x.toInt + n) : ∃ ρ', Pre ρ ρ' ∧ Ok J (s.addc a n).1 ρ' σ ∧ (s.addc a n).2.isI = true ∧ ev ρ' (s.addc a n).2 = some z.toInt := by
  rcases a with ⟨id, o⟩ | m | ⟨id, o⟩ | n | q | ⟨b, n⟩
  · simp only [Sy.addc]
    cases hf : fit32 (dsh n (dom s (.i id o))) with
    | false => exact newI_ok h (in32 z)
    | true =>
      have hd := dsh_in (o := n) (dom_i h rfl hx)
      have := fit32_in hf hd
      refine ⟨ρ, Pre.rf, h, rfl, ?_⟩
      rw [hz this]
      show ev ρ (AV.i id (o + n)) = some (x.toInt + n)
      simp only [ev] at hx ⊢
      cases hr : ρ[id]? with
      | none => rw [hr] at hx; cases hx
      | some y =>
        rw [hr] at hx
        have := Option.some.inj hx
        exact congrArg some (by omega)
  · have hm := Option.some.inj hx
    simp only [Sy.addc]
    cases hf : fit32 [(m + n, m + n)] with
    | false => exact newI_ok h (in32 z)
    | true =>
      have := fit32_in hf ⟨_, List.mem_cons_self .., Int.le_refl _, Int.le_refl _⟩
      dsimp only at this
      refine ⟨ρ, Pre.rf, h, rfl, congrArg some ?_⟩
      rw [hz (by omega)]
      omega
  · cases ha
  · cases ha
  · cases ha
  · cases ha
def few (d : Dom) : Dom := match d with
  | [] => []
  | [p] => [p]
  | [p, q] => [p, q]
  | d => [(dlo d, dhi d)]
theorem few_in {d : Dom} {x : Int} (h : inD x d) : inD x (few d) := by
  unfold few
  split
  · exact h
  · exact h
  · exact h
  · exact ⟨_, List.mem_cons_self .., dlo_le h, le_dhi h⟩
def dbin (f : Int × Int → Int × Int → Int × Int) (a b : Dom) : Dom :=
  bif fit32 (dmap2 f (few a) (few b)) then dmap2 f (few a) (few b) else T32
abbrev Bo : Type := Instr
def Bo.i (o : Bo) (x y : Int32) : Int32 := match o with
  | .iadd => x + y
  | .isub => x - y
  | .imul => x * y
  | .iand => x &&& y
  | .ior => x ||| y
  | .ixor => x ^^^ y
  | .ishl => x <<< (y &&& 31)
  | .ishr => x >>> (y &&& 31)
  | .iushr => j_iushr x y
  | .idiv => x / y
  | .irem => x - x / y * y
  | _ => 0
theorem dbin_in {f : Int × Int → Int × Int → Int × Int} {a b : Dom} {x y z : Int} {w : Int32} (hf : ∀ p q : Int × Int, p.1 ≤ x → x ≤ p.2 → q.1 ≤ y → y ≤ q.2 → (f p q).1 ≤ z ∧ z ≤ (f p q).2) (ha : inD x a) (hb : inD y b) (hw : -2147483648 ≤ z ∧ z ≤ 2147483647 → w.toInt = z) : inD w.toInt (dbin f a b) := by
  unfold dbin
  have h1 := dmap2_in hf (few_in ha) (few_in hb)
  cases hc : fit32 (dmap2 f (few a) (few b)) with
  | false => exact in32 w
  | true => rw [hw (fit32_in hc h1)]; exact h1
theorem and_between {x y : Int32} (h : 0 ≤ y.toInt) : 0 ≤ (x &&& y).toInt ∧ (x &&& y).toInt ≤ y.toInt := by
  have e1 : ∀ z : Int32, z.toInt = z.toBitVec.toInt := fun _ => rfl
  have e2 : (x &&& y).toBitVec = x.toBitVec &&& y.toBitVec := rfl
  rw [e1, e2]
  rw [e1] at h ⊢
  generalize x.toBitVec = u at *
  generalize y.toBitVec = v at *
  have hv : 2 * v.toNat < 2 ^ 32 := by
    rw [BitVec.toInt_eq_toNat_cond] at h
    split at h <;> omega
  have hle : (u &&& v).toNat ≤ v.toNat := by
    rw [BitVec.toNat_and]
    exact Nat.and_le_right
  rw [BitVec.toInt_eq_toNat_cond, BitVec.toInt_eq_toNat_cond, if_pos hv, if_pos (by omega)]
  omega
def dandb (a b : Dom) : Dom := bif ile 0 (dlo b) then [(0, dhi b)] else bif ile 0 (dlo a) then [(0, dhi a)] else T32
theorem dandb_in {a b : Dom} {x y : Int32} (ha : inD x.toInt a) (hb : inD y.toInt b) : inD (x &&& y).toInt (dandb a b) := by
  have a1 := dlo_le ha
  have a2 := le_dhi ha
  have b1 := dlo_le hb
  have b2 := le_dhi hb
  unfold dandb
  cases h1 : ile 0 (dlo b) with
  | true =>
    have h1 := ile_iff.mp h1
    have h2 := and_between (x := x) (y := y) (by omega)
    exact ⟨_, List.mem_cons_self .., h2.1, by dsimp only; omega⟩
  | false =>
    cases h1 : ile 0 (dlo a) with
    | true =>
      have h1 := ile_iff.mp h1
      have h2 := and_between (x := y) (y := x) (by omega)
      rw [Int32.and_comm] at h2
      exact ⟨_, List.mem_cons_self .., h2.1, by dsimp only; omega⟩
    | false => exact in32 _
def Sy.bi0 (s : Sy) (o : Bo) (a b : AV) : Sy × AV := match o with
  | .iadd => match b with
    | .inr (.inl n) => s.addc a n
    | _ => match a with
      | .inr (.inl n) => s.addc b n
      | _ => s.newI (dbin f_dadd (dom s a) (dom s b))
  | .isub => match b with
    | .inr (.inl n) => s.addc a (-n)
    | _ => s.newI (dbin f_dsub (dom s a) (dom s b))
  | .imul => s.newI (dbin f_dmul (dom s a) (dom s b))
  | .iand => bif AV.eq a (.c 0) then (s, .c 0) else bif AV.eq b (.c (-1)) then (s, a) else bif AV.eq a (.c (-1)) then (s, b) else s.newI (dandb (dom s a) (dom s b))
  | _ => s.newI T32
theorem i_add {x y : Int32} (h : -2147483648 ≤ x.toInt + y.toInt ∧ x.toInt + y.toInt ≤ 2147483647) : (x + y).toInt = x.toInt + y.toInt := by
  rw [Int32.toInt_add, bm32 h]
theorem i_sub {x y : Int32} (h : -2147483648 ≤ x.toInt - y.toInt ∧ x.toInt - y.toInt ≤ 2147483647) : (x - y).toInt = x.toInt - y.toInt := by
  rw [Int32.toInt_sub, bm32 h]
theorem i_mul {x y : Int32} (h : -2147483648 ≤ x.toInt * y.toInt ∧ x.toInt * y.toInt ≤ 2147483647) : (x * y).toInt = x.toInt * y.toInt := by
  rw [Int32.toInt_mul, bm32 h]
theorem bi0_ok (h : Ok J s ρ σ) {o : Bo} {a b : AV} {x y : Int32} (ha : a.isI = true) (hb : b.isI = true) (hx : ev ρ a = some x.toInt) (hy : ev ρ b = some y.toInt) : ∃ ρ', Pre ρ ρ' ∧ Ok J (s.bi0 o a b).1 ρ' σ ∧ (s.bi0 o a b).2.isI = true ∧ ev ρ' (s.bi0 o a b).2 = some (o.i x y).toInt := by
  have da := dom_i h ha hx
  have db := dom_i h hb hy
  unfold Sy.bi0
  split
  all_goals try simp only [Bo.i]
  · split
    · have := Option.some.inj hy
      exact addc_ok h ha hx (fun q => by rw [i_add (by omega)]; omega)
    · split
      · have := Option.some.inj hx
        exact addc_ok h hb hy (fun q => by rw [i_add (by omega)]; omega)
      · exact newI_ok h (dbin_in (z := x.toInt + y.toInt) (fun p q _ _ _ _ => by unfold f_dadd; dsimp only; omega) da db i_add)
  · split
    · have := Option.some.inj hy
      exact addc_ok h ha hx (fun q => by rw [i_sub (by omega)]; omega)
    · exact newI_ok h (dbin_in (z := x.toInt - y.toInt) (fun p q _ _ _ _ => by unfold f_dsub; dsimp only; omega) da db i_sub)
  · exact newI_ok h (dbin_in (z := x.toInt * y.toInt) (fun p q h1 h2 h3 h4 => f_dmul_in h1 h2 h3 h4) da db i_mul)
  · have ez : ∀ q : Int32, q.toInt = 0 → q = 0 := fun q hq => Int32.toInt_inj.mp (hq.trans (by decide))
    have em : ∀ q : Int32, q.toInt = -1 → q = -1 := fun q hq => Int32.toInt_inj.mp (hq.trans (by decide))
    cases e1 : AV.eq a (.c 0) with
    | true =>
      have e2 := AV.eq_of e1
      subst e2
      rw [ez x (Option.some.inj hx).symm]
      exact ⟨ρ, Pre.rf, h, rfl, by simp [ev]⟩
    | false =>
      cases e2 : AV.eq b (.c (-1)) with
      | true =>
        have e3 := AV.eq_of e2
        subst e3
        rw [em y (Option.some.inj hy).symm]
        exact ⟨ρ, Pre.rf, h, ha, by rw [Int32.and_neg_one]; exact hx⟩
      | false =>
        cases e3 : AV.eq a (.c (-1)) with
        | true =>
          have e4 := AV.eq_of e3
          subst e4
          rw [em x (Option.some.inj hx).symm]
          exact ⟨ρ, Pre.rf, h, hb, by rw [Int32.neg_one_and]; exact hy⟩
        | false => exact newI_ok h (dandb_in da db)
  · exact newI_ok h (in32 _)
def Sy.bi (s : Sy) (o : Bo) (a b : AV) : Sy × AV := match pl s a, pl s b with
  | .inr (.inl x), .inr (.inl y) => (s, .c (o.i (Int32.ofInt x) (Int32.ofInt y)).toInt)
  | _, _ => s.bi0 o a b
theorem ofInt_toInt32 {x : Int32} : Int32.ofInt x.toInt = x := Int32.ofInt_toInt x
theorem bi_ok (h : Ok J s ρ σ) {o : Bo} {a b : AV} {x y : Int32} (ha : a.isI = true) (hb : b.isI = true) (hx : ev ρ a = some x.toInt) (hy : ev ρ b = some y.toInt) : ∃ ρ', Pre ρ ρ' ∧ Ok J (s.bi o a b).1 ρ' σ ∧ (s.bi o a b).2.isI = true ∧ ev ρ' (s.bi o a b).2 = some (o.i x y).toInt := by
  have h1 := pl_ok h ha hx
  have h2 := pl_ok h hb hy
  unfold Sy.bi
  split
  · rename_i u w e1 e2
    rw [e1] at h1
    rw [e2] at h2
    have g1 := Option.some.inj h1
    have g2 := Option.some.inj h2
    subst g1
    subst g2
    rw [ofInt_toInt32, ofInt_toInt32]
    exact ⟨ρ, Pre.rf, h, rfl, rfl⟩
  · exact bi0_ok h ha hb hx hy
end EM
