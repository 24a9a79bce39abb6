/-! ===== ENGINE 9: frames and calls ===== -/
def botm (m : Nat) : List Fm → Nat
  | [] => m
  | g :: gs => botm g.m gs
abbrev Cfr := List (List (Nat × Value) × List Value)
def Rf (ρ : List Int) : List Fm → Cfr → Prop
  | [], [] => True
  | g :: gs, c :: cs => (Rl ρ g.lv c.1 ∧ Rs ρ g.st c.2) ∧ Rf ρ gs cs
  | _, _ => False
theorem Rf.mono {ρ ρ' : List Int} (h : Pre ρ ρ') : ∀ {fs : List Fm} {cs : Cfr}, Rf ρ fs cs → Rf ρ' fs cs
  | [], [], _ => trivial
  | g :: gs, c :: cs, ⟨h1, h2⟩ => ⟨⟨h1.1.mono h, h1.2.mono h⟩, Rf.mono h h2⟩
  | [], _ :: _, q => q.elim
  | _ :: _, [], q => q.elim
def Kf (E : xV) (Y : Nat → xY) : List Fm → Cfr → zKt → zKt
  | g :: gs, c :: cs, K => fun r σ' => Wz E (Y g.m) g.pc c.1 (r.toList ++ c.2) σ' (Kf E Y gs cs K)
  | _, _, K => K
def Ra (ρ : List Int) : Option AV → Option Value → Prop
  | none, none => True
  | some a, some v => Rv ρ a v
  | _, _ => False
structure GxOk (Y : Nat → xY) (G : Gx) : Prop where
  g : GOk Y G.g
  room : ∀ m fr lo nl t q, G.room.get m = some (fr, (lo, (nl, (t, q)))) → ((Y m).2.2.2.2.frames = fr ∧ (Y m).2.2.2.2.locals = lo ∧ (Y m).2.2.2.2.cells = 0 ∧ (Y m).2.2.2.2.slots = 0) ∧ ((Y m).2.2.1 = nl ∧ plainName (Y m).1.cls = true) ∧ (t = 0 → (Y m).2.2.2.1 = none) ∧ (t = 1 → (Y m).2.2.2.1 = some .int) ∧ (t = 2 → (Y m).2.2.2.1 = some .boolean) ∧ (t = 3 → (Y m).2.2.2.1 = some .long) ∧ (t = 4 → (Y m).2.2.2.1 = some .char)
  call : ∀ m x z k b, x < 4096 → G.call.get (G.g.own m * 4096 + x) = some (z, (k, b)) → xM (Y m).1.cls x (Y z) k ∧ (b = true → Cond.static (Y z).1 ∈ TBg) ∧ (b = false → (Cond.instanceMethod (Y z).1 ∈ TBg ∧ Cond.selects (Y z).1.cls (Y z).1 (Y z).1 ∈ TBg) ∧ ∀ fr lo nl t q, G.room.get z = some (fr, (lo, (nl, (t, q)))) → q < 215 ∧ ∃ ci l, KD q = (ci, l) ∧ ci < 100 ∧ (cls[ci]?.map fun q => q.1) = some (Y z).1.cls)
def retOk (q : Ct) (r : Option Value) : Prop := match q.rk with
  | 0 => r = none
  | 1 => ∃ y : Int32, r = some (.int y) ∧ inD y.toInt q.rd
  | 2 => ∃ y : Int64, r = some (.long y) ∧ inD y.toInt q.rd
  | _ => False
def CtOk (E : xV) (Y : Nat → xY) (G : Gx) (J : zS → Prop) (z : Nat) (q : Ct) : Prop := ∀ (ρ' : List Int) (σ : zS) (av : List Value), Ok J ⟨q.n, q.env, q.me, []⟩ ρ' σ → Rs ρ' q.ar av → Cz E (Y z) av σ (fun r σ' => (J σ' ∧ Fr G.g q.W σ σ') ∧ retOk q r)
theorem okr_ok {ρ : List Int} {a : AV} {v : Value} (h : Rv ρ a v) (ho : okr a = true) : xokv 215 v = true := by
  cases a with
  | i id o => obtain ⟨y, rfl, -⟩ := h; rfl
  | c n => obtain ⟨y, rfl, -⟩ := h; rfl
  | l id o => obtain ⟨y, rfl, -⟩ := h; rfl
  | k n => obtain ⟨y, rfl, -⟩ := h; rfl
  | r q =>
    cases h
    simp only [okr, Bool.or_eq_true] at ho
    simp only [xokv, Bool.or_eq_true, decide_eq_true_eq]
    rcases ho with ho | ho
    · exact Or.inl (Nat.le_of_ble_eq_true ho)
    · exact Or.inr (Nat.le_of_ble_eq_true ho)
  | rr b n =>
    obtain ⟨q, rfl, h1, h2⟩ := h
    have := Nat.le_of_ble_eq_true ho
    simp only [xokv, Bool.or_eq_true, decide_eq_true_eq]
    exact Or.inl (Nat.lt_of_lt_of_le h2 this)
theorem okl_ok {ρ : List Int} : ∀ {lv : List (Nat × AV)} {l : List (Nat × Value)}, Rl ρ lv l → (lv.all fun q => okr q.2) = true → (l.all fun q => xokv 215 q.2) = true
  | [], [], _, _ => rfl
  | p :: a, q :: l, ⟨h1, h2⟩, h => by
    simp only [List.all_cons, Bool.and_eq_true] at h ⊢
    exact ⟨okr_ok h1.2 h.1, okl_ok h2 h.2⟩
  | [], _ :: _, q, _ => q.elim
  | _ :: _, [], q, _ => q.elim
theorem oks_ok {ρ : List Int} : ∀ {st : List AV} {v : List Value}, Rs ρ st v → (st.all okr) = true → (v.all (xokv 215)) = true
  | [], [], _, _ => rfl
  | p :: a, q :: l, ⟨h1, h2⟩, h => by
    simp only [List.all_cons, Bool.and_eq_true] at h ⊢
    exact ⟨okr_ok h1 h.1, oks_ok h2 h.2⟩
  | [], _ :: _, q, _ => q.elim
  | _ :: _, [], q, _ => q.elim
theorem cats_ok {ρ : List Int} : ∀ {st : List AV} {v : List Value}, Rs ρ st v → (v.map fun v => v.category).sum = cats st
  | [], [], _ => rfl
  | p :: a, q :: l, ⟨h1, h2⟩ => by
    simp only [List.map_cons, List.sum_cons, cats, List.foldr_cons]
    rw [h1.category, cats_ok h2]
    rfl
  | [], _ :: _, q => q.elim
  | _ :: _, [], q => q.elim
theorem argLv_ok {ρ : List Int} : ∀ {as : List AV} {av : List Value} {i : Nat}, Rs ρ as av → Rl ρ (argLv i as) (lv_args i av)
  | [], [], _, _ => trivial
  | p :: a, q :: l, i, ⟨h1, h2⟩ => by
    refine ⟨⟨rfl, h1⟩, ?_⟩
    have e : (if q.category = 2 then i + 2 else i + 1) = i + p.cat := by
      rw [h1.category]
      unfold AV.cat
      cases p.isL <;> rfl
    rw [e]
    exact argLv_ok h2
  | [], _ :: _, _, q => q.elim
  | _ :: _, [], _, q => q.elim
theorem sl_len {a : Nat → Nat} : ∀ {av : List Value}, (lg_sl (av.map (xrel a))).length = (av.map fun v => v.category).sum
  | [] => rfl
  | v :: av => by
    have ih := sl_len (a := a) (av := av)
    simp only [lg_sl] at ih
    simp only [List.map_cons, List.sum_cons, lg_sl, List.flatMap_cons, List.length_append, xrel_cat]
    rw [ih]
    cases v <;> rfl
theorem pops_ok {ρ : List Int} : ∀ {n : Nat} {st acc args rest : List AV} {v as0 : List Value}, pops n st acc = some (args, rest) → Rs ρ st v → Rs ρ acc as0 → ∃ as vr, v = as.reverse ++ vr ∧ Rs ρ args (as ++ as0) ∧ Rs ρ rest vr ∧ as.length = n
  | 0, st, acc, args, rest, v, as0, h, h1, h2 => by
    cases Option.some.inj h
    exact ⟨[], v, rfl, h2, h1, rfl⟩
  | n + 1, a :: st, acc, args, rest, v, as0, h, h1, h2 => by
    obtain ⟨w, v', rfl, g1, g2⟩ := h1.cons
    obtain ⟨as, vr, e1, e2, e3, e4⟩ := pops_ok (n := n) (as0 := w :: as0) h g2 ⟨g1, h2⟩
    refine ⟨as ++ [w], vr, ?_, ?_, e3, by simp [e4]⟩
    · rw [e1]; simp
    · rw [List.append_assoc]; exact e2
  | n + 1, [], acc, args, rest, v, as0, h, h1, h2 => by cases h
theorem wsub_ok {G : Gl} {q c : Ct} (hn : q.any = false) (h : wsub q.w c.W = true) {σ σ' : zS} (hf : Fr G q.W σ σ') : Fr G c.W σ σ' := by
  intro k j hw
  refine hf k j ?_
  cases hq : q.W (G.key k j) with
  | false => rfl
  | true =>
    have : ∃ u, q.w.get (G.key k j) = some u := by
      unfold Ct.W at hq
      rw [hn] at hq
      simp only [cond_false] at hq
      split at hq
      · rename_i u hu; exact ⟨u, hu⟩
      · cases hq
    obtain ⟨u, hu⟩ := this
    have := (BT.all_P h).at hu
    rw [this] at hw
    cases hw
theorem behind_ok {G : Gl} {J : zS → Prop} {s : Sy} {ρ : List Int} {σ σ' : zS} {w : Nat → Bool} (h : Ok J s ρ σ) (hJ : J σ') (hf : Fr G w σ σ') : Ok J (s.behind G w) ρ σ' := by
  refine ⟨h.len, h.env, fun e he => ?_, fun e he => ?_, hJ⟩
  rotate_left
  · obtain ⟨h1, h2⟩ := List.mem_filter.mp he
    obtain ⟨h3, h4⟩ := h.un e h1
    refine ⟨h3, fun j hj => ?_⟩
    split at h2
    · rename_i kd z hk
      rw [Bool.and_eq_true] at h2
      have hw : w (G.key e.1 j) = false := by
        unfold Gl.key
        rw [hk]
        simpa using h2.2
      rw [(hf e.1 j hw).1]
      exact h4 j hj
    · cases h2
  obtain ⟨h1, h2⟩ := List.mem_filter.mp he
  obtain ⟨j, h3, h4⟩ := h.me e h1
  have hw : w (G.key e.1 j) = false := by
    unfold keeps at h2
    unfold Gl.key
    cases hk : G.ka.get e.1 with
    | some _ =>
      rw [hk] at h2
      simpa using h2
    | none =>
      rw [hk] at h2
      simp only at h2 ⊢
      split at h2
      · rename_i j' hj
        rw [hj] at h3
        have h3 := Option.some.inj h3
        have : j' = j := by
          have h5 : ((j' : Nat) : Int) = (j : Int) := h3
          omega
        subst this
        simpa using h2
      · cases h2
  obtain ⟨g1, g2⟩ := hf e.1 j hw
  refine ⟨j, h3, ?_⟩
  rw [g1, g2]
  exact h4
section E9
variable {E : xV} {Y : Nat → xY} {G : Gx} {J : zS → Prop} {r : Nat} {c : Ct} {mu0 : List (Nat × Int) × Int} {fin : Sy → Option AV → Bool} {ρ0 : List Int} {σ0 : zS} {K : zKt} {M0 : Int}
/-- all that a walk leans on -/
structure Hy (E : xV) (Y : Nat → xY) (G : Gx) (J : zS → Prop) (r : Nat) (c : Ct) (mu0 : List (Nat × Int) × Int) (fin : Sy → Option AV → Bool) (ρ0 : List Int) (σ0 : zS) (K : zKt) (M0 : Int) : Prop where
  ct : ∀ z q, z < r → G.ct.get z = some q → CtOk E Y G J z q
  cut : ∀ pc a, c.cut.get pc = some a → ∀ (ρ' : List Int) (σ' : zS) (l : List (Nat × Value)) (v : List Value), Ok J a.sy ρ' σ' → Rl ρ' a.lv l → Rs ρ' a.st v → Fr G.g c.W σ0 σ' → 0 ≤ tev ρ' a.mu.1 + a.mu.2 → tev ρ' a.mu.1 + a.mu.2 < M0 → Wz E (Y r) pc l v σ' K
  mu : ∀ ρ, Pre ρ0 ρ → tev ρ mu0.1 + mu0.2 = M0
  fin : ∀ (s : Sy) (ρ : List Int) (σ : zS) (a : Option AV) (rv : Option Value), fin s a = true → Pre ρ0 ρ → Ok J s ρ σ → Fr G.g c.W σ0 σ → Ra ρ a rv → K rv σ
def WS (E : xV) (Y : Nat → xY) (G : Gx) (J : zS → Prop) (r : Nat) (c : Ct) (ρ0 : List Int) (σ0 : zS) (K : zKt) (w : Wk) : Prop := ∀ (s : Sy) (f : Fm) (fs : List Fm) (ρ : List Int) (σ : zS) (l : List (Nat × Value)) (v : List Value) (cs : Cfr), w s f fs = true → botm f.m fs = r → Pre ρ0 ρ → Ok J s ρ σ → Fr G.g c.W σ0 σ → Rl ρ f.lv l → Rs ρ f.st v → Rf ρ fs cs → Wz E (Y f.m) f.pc l v σ (Kf E Y fs cs K)
theorem goW_ok (H : Hy E Y G J r c mu0 fin ρ0 σ0 K M0) {w : Wk} (hw : WS E Y G J r c ρ0 σ0 K w) {s : Sy} {m pc : Nat} {lv : List (Nat × AV)} {st : List AV} {fs : List Fm} {ρ : List Int} {σ : zS} {l : List (Nat × Value)} {v : List Value} {cs : Cfr} (h : goW c mu0 w s m pc lv st fs = true) (hb : botm m fs = r) (hp : Pre ρ0 ρ) (ho : Ok J s ρ σ) (hf : Fr G.g c.W σ0 σ) (hl : Rl ρ lv l) (hs : Rs ρ st v) (hr : Rf ρ fs cs) : Wz E (Y m) pc l v σ (Kf E Y fs cs K) := by
  cases fs with
  | cons g gs => exact hw s ⟨m, pc, lv, st⟩ (g :: gs) ρ σ l v cs h hb hp ho hf hl hs hr
  | nil =>
    simp only [goW] at h
    cases cs with
    | cons _ _ => exact hr.elim
    | nil =>
      cases hc : c.cut.get pc with
      | none =>
        rw [hc] at h
        exact hw s ⟨m, pc, lv, st⟩ [] ρ σ l v [] h hb hp ho hf hl hs hr
      | some a =>
        rw [hc] at h
        obtain ⟨ρ', l', ks, k1, k2, k3, k4, k5, k6⟩ := arrive_ok ho hl hs h
        rw [H.mu ρ hp] at k6
        have hm : m = r := hb
        subst hm
        exact z_sub ks k1 (H.cut pc a hc ρ' σ l' v k2 k3 k4 hf k5 k6)
theorem retW_ok (H : Hy E Y G J r c mu0 fin ρ0 σ0 K M0) {w : Wk} (hw : WS E Y G J r c ρ0 σ0 K w) {s : Sy} {m : Nat} {fs : List Fm} {a : Option AV} {ρ : List Int} {σ : zS} {rv : Option Value} {cs : Cfr} (h : retW c mu0 fin w s fs a = true) (hb : botm m fs = r) (hp : Pre ρ0 ρ) (ho : Ok J s ρ σ) (hf : Fr G.g c.W σ0 σ) (ha : Ra ρ a rv) (hr : Rf ρ fs cs) : Kf E Y fs cs K rv σ := by
  cases fs with
  | nil =>
    cases cs with
    | cons _ _ => exact hr.elim
    | nil => exact H.fin s ρ σ a rv h hp ho hf ha
  | cons g gs =>
    cases cs with
    | nil => exact hr.elim
    | cons d cs =>
      refine goW_ok H hw h hb hp ho hf hr.1.1 ?_ hr.2
      cases a with
      | none =>
        cases rv with
        | none => exact hr.1.2
        | some _ => exact ha.elim
      | some a =>
        cases rv with
        | none => exact ha.elim
        | some x => exact ⟨ha, hr.1.2⟩
end E9
