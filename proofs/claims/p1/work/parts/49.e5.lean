/-! ===== ENGINE 9: frames and calls ===== -/
def botm (m : Nat) : List Fm → Nat
  | [] => m
  | g :: gs => botm g.m gs
abbrev Cfr := List (List (Nat × Value) × List Value)
def Rf (ρ : List Int) : List Fm → Cfr → Prop
  | [], [] => True
  | g :: gs, c :: cs => (Rl ρ g.lv c.1 ∧ Rs ρ g.st c.2) ∧ Rf ρ gs cs
  | _, _ => False
theorem Rf.mono {ρ ρ' : List Int} (h : Pre ρ ρ') : ∀ {fs : List Fm} {cs : Cfr}, Rf ρ fs cs → Rf ρ' fs cs
  | [], [], _ => trivial
  | g :: gs, c :: cs, ⟨h1, h2⟩ => ⟨⟨h1.1.mono h, h1.2.mono h⟩, Rf.mono h h2⟩
  | [], _ :: _, q => q.elim
  | _ :: _, [], q => q.elim
def Kf (E : xV) (Y : Nat → xY) : List Fm → Cfr → zKt → zKt
  | g :: gs, c :: cs, K => fun r σ' => Wz E (Y g.m) g.pc c.1 (r.toList ++ c.2) σ' (Kf E Y gs cs K)
  | _, _, K => K
def Ra (ρ : List Int) : Option AV → Option Value → Prop
  | none, none => True
  | some a, some v => Rv ρ a v
  | _, _ => False
abbrev GxOk (Y : Nat → xY) (G : Gx) : Prop := (GOk Y G.g) ∧ (∀ m fr lo nl t q, G.room.get m = some (fr, (lo, (nl, (t, q)))) → ((Y m).2.2.2.2.frames = fr ∧ (Y m).2.2.2.2.locals = lo ∧ (Y m).2.2.2.2.cells = 0 ∧ (Y m).2.2.2.2.slots = 0) ∧ ((Y m).2.2.1 = nl ∧ plainName (Y m).1.cls = true) ∧ (t = 0 → (Y m).2.2.2.1 = none) ∧ (t = 1 → (Y m).2.2.2.1 = some .int) ∧ (t = 2 → (Y m).2.2.2.1 = some .boolean) ∧ (t = 3 → (Y m).2.2.2.1 = some .long) ∧ (t = 4 → (Y m).2.2.2.1 = some .char)) ∧ (∀ m x z k b, x < 4096 → G.call.get (G.g.own m * 4096 + x) = some (z, (k, b)) → xM (Y m).1.cls x (Y z) k ∧ (b = true → Cond.static (Y z).1 ∈ TBg) ∧ (b = false → (Cond.instanceMethod (Y z).1 ∈ TBg ∧ Cond.selects (Y z).1.cls (Y z).1 (Y z).1 ∈ TBg) ∧ ∀ fr lo nl t q, G.room.get z = some (fr, (lo, (nl, (t, q)))) → q < 215 ∧ ∃ ci l, KD q = (ci, l) ∧ ci < 100 ∧ (cls[ci]?.map fun q => q.1) = some (Y z).1.cls))
theorem GxOk.g {Y : Nat → xY} {G : Gx} (h : GxOk Y G) : GOk Y G.g := h.1
theorem GxOk.room {Y : Nat → xY} {G : Gx} (h : GxOk Y G) : ∀ m fr lo nl t q, G.room.get m = some (fr, (lo, (nl, (t, q)))) → ((Y m).2.2.2.2.frames = fr ∧ (Y m).2.2.2.2.locals = lo ∧ (Y m).2.2.2.2.cells = 0 ∧ (Y m).2.2.2.2.slots = 0) ∧ ((Y m).2.2.1 = nl ∧ plainName (Y m).1.cls = true) ∧ (t = 0 → (Y m).2.2.2.1 = none) ∧ (t = 1 → (Y m).2.2.2.1 = some .int) ∧ (t = 2 → (Y m).2.2.2.1 = some .boolean) ∧ (t = 3 → (Y m).2.2.2.1 = some .long) ∧ (t = 4 → (Y m).2.2.2.1 = some .char) := h.2.1
theorem GxOk.call {Y : Nat → xY} {G : Gx} (h : GxOk Y G) : ∀ m x z k b, x < 4096 → G.call.get (G.g.own m * 4096 + x) = some (z, (k, b)) → xM (Y m).1.cls x (Y z) k ∧ (b = true → Cond.static (Y z).1 ∈ TBg) ∧ (b = false → (Cond.instanceMethod (Y z).1 ∈ TBg ∧ Cond.selects (Y z).1.cls (Y z).1 (Y z).1 ∈ TBg) ∧ ∀ fr lo nl t q, G.room.get z = some (fr, (lo, (nl, (t, q)))) → q < 215 ∧ ∃ ci l, KD q = (ci, l) ∧ ci < 100 ∧ (cls[ci]?.map fun q => q.1) = some (Y z).1.cls) := h.2.2
def retOk (q : Ct) (r : Option Value) : Prop := match q.rk with
  | 0 => r = none
  | 1 => ∃ y : Int32, r = some (.int y) ∧ inD y.toInt q.rd
  | 2 => ∃ y : Int64, r = some (.long y) ∧ inD y.toInt q.rd
  | _ => False
def CtOk (E : xV) (Y : Nat → xY) (G : Gx) (J : zS → Prop) (z : Nat) (q : Ct) : Prop := ∀ (ρ' : List Int) (σ : zS) (av : List Value), Ok J ⟨q.n, q.env, q.me, []⟩ ρ' σ → Rs ρ' q.ar av → Cz E (Y z) av σ (fun r σ' => (J σ' ∧ Fr G.g q.W σ σ') ∧ retOk q r)
theorem okr_ok {ρ : List Int} {a : AV} {v : Value} (h : Rv ρ a v) (ho : okr a = true) : xokv 215 v = true := by
  rcases a with ⟨id, o⟩ | n | ⟨id, o⟩ | n | q | ⟨b, n⟩
  · obtain ⟨y, rfl, -⟩ := h; rfl
  · obtain ⟨y, rfl, -⟩ := h; rfl
  · obtain ⟨y, rfl, -⟩ := h; rfl
  · obtain ⟨y, rfl, -⟩ := h; rfl
  · cases h
    simp only [okr, Bool.or_eq_true] at ho
    simp only [xokv, Bool.or_eq_true, decide_eq_true_eq]
    rcases ho with ho | ho
    · exact Or.inl (Nat.le_of_ble_eq_true ho)
    · exact Or.inr (Nat.le_of_ble_eq_true ho)
  · obtain ⟨q, rfl, h1, h2⟩ := h
    have := Nat.le_of_ble_eq_true ho
    simp only [xokv, Bool.or_eq_true, decide_eq_true_eq]
    exact Or.inl (Nat.lt_of_lt_of_le h2 this)
theorem okl_ok {ρ : List Int} : ∀ {lv : List (Nat × AV)} {l : List (Nat × Value)}, Rl ρ lv l → (lv.all fun q => okr q.2) = true → (l.all fun q => xokv 215 q.2) = true
  | [], [], _, _ => rfl
  | p :: a, q :: l, ⟨h1, h2⟩, h => by
    simp only [List.all_cons, Bool.and_eq_true] at h ⊢
    exact ⟨okr_ok h1.2 h.1, okl_ok h2 h.2⟩
  | [], _ :: _, q, _ => q.elim
  | _ :: _, [], q, _ => q.elim
theorem oks_ok {ρ : List Int} : ∀ {st : List AV} {v : List Value}, Rs ρ st v → (st.all okr) = true → (v.all (xokv 215)) = true
  | [], [], _, _ => rfl
  | p :: a, q :: l, ⟨h1, h2⟩, h => by
    simp only [List.all_cons, Bool.and_eq_true] at h ⊢
    exact ⟨okr_ok h1 h.1, oks_ok h2 h.2⟩
  | [], _ :: _, q, _ => q.elim
  | _ :: _, [], q, _ => q.elim
theorem cats_ok {ρ : List Int} : ∀ {st : List AV} {v : List Value}, Rs ρ st v → (v.map fun v => v.category).sum = cats st
  | [], [], _ => rfl
  | p :: a, q :: l, ⟨h1, h2⟩ => by
    simp only [List.map_cons, List.sum_cons, cats, List.foldr_cons]
    rw [h1.category, cats_ok h2]
    rfl
  | [], _ :: _, q => q.elim
  | _ :: _, [], q => q.elim
theorem argLv_ok {ρ : List Int} : ∀ {as : List AV} {av : List Value} {i : Nat}, Rs ρ as av → Rl ρ (argLv i as) (lv_args i av)
  | [], [], _, _ => trivial
  | p :: a, q :: l, i, ⟨h1, h2⟩ => by
    refine ⟨⟨rfl, h1⟩, ?_⟩
    have e : (if q.category = 2 then i + 2 else i + 1) = i + p.cat := by
      rw [h1.category]
      unfold AV.cat
      cases p.isL <;> rfl
    rw [e]
    exact argLv_ok h2
  | [], _ :: _, _, q => q.elim
  | _ :: _, [], _, q => q.elim
theorem sl_len {a : Nat → Nat} : ∀ {av : List Value}, (lg_sl (av.map (xrel a))).length = (av.map fun v => v.category).sum
  | [] => rfl
  | v :: av => by
    have ih := sl_len (a := a) (av := av)
    simp only [lg_sl] at ih
    simp only [List.map_cons, List.sum_cons, lg_sl, List.flatMap_cons, List.length_append, xrel_cat]
    rw [ih]
    cases v <;> rfl
theorem pops_ok {ρ : List Int} : ∀ {n : Nat} {st acc args rest : List AV} {v as0 : List Value}, pops n st acc = some (args, rest) → Rs ρ st v → Rs ρ acc as0 → ∃ as vr, v = as.reverse ++ vr ∧ Rs ρ args (as ++ as0) ∧ Rs ρ rest vr ∧ as.length = n
  | 0, st, acc, args, rest, v, as0, h, h1, h2 => by
    cases Option.some.inj h
    exact ⟨[], v, rfl, h2, h1, rfl⟩
  | n + 1, a :: st, acc, args, rest, v, as0, h, h1, h2 => by
    obtain ⟨w, v', rfl, g1, g2⟩ := h1.cons
    obtain ⟨as, vr, e1, e2, e3, e4⟩ := pops_ok (n := n) (as0 := w :: as0) h g2 ⟨g1, h2⟩
    refine ⟨as ++ [w], vr, ?_, ?_, e3, by simp [e4]⟩
    · rw [e1]; simp
    · rw [List.append_assoc]; exact e2
  | n + 1, [], acc, args, rest, v, as0, h, h1, h2 => by cases h
theorem wsub_ok {G : Gl} {q c : Ct} (hn : q.any = false) (h : wsub q.w c.W = true) {σ σ' : zS} (hf : Fr G q.W σ σ') : Fr G c.W σ σ' := by
  intro k j hw
  refine hf k j ?_
  cases hq : q.W (G.key k j) with
  | false => rfl
  | true =>
    have : ∃ u, q.w.get (G.key k j) = some u := by
      unfold Ct.W at hq
      rw [hn] at hq
      simp only [cond_false] at hq
      split at hq
      · rename_i u hu; exact ⟨u, hu⟩
      · cases hq
    obtain ⟨u, hu⟩ := this
    have := (BT.all_P h).at hu
    rw [this] at hw
    cases hw
theorem behind_ok {G : Gl} {J : zS → Prop} {s : Sy} {ρ : List Int} {σ σ' : zS} {w : Nat → Bool} (h : Ok J s ρ σ) (hJ : J σ') (hf : Fr G w σ σ') : Ok J (s.behind G w) ρ σ' := by
  refine ⟨h.len, h.env, fun e he => ?_, fun e he => ?_, hJ⟩
  rotate_left
  · obtain ⟨h1, h2⟩ := List.mem_filter.mp he
    obtain ⟨h3, h4⟩ := h.un e h1
    refine ⟨h3, fun j hj => ?_⟩
    split at h2
    · rename_i kd z hk
      rw [Bool.and_eq_true] at h2
      have hw : w (G.key e.1 j) = false := by
        unfold Gl.key
        rw [hk]
        simpa using h2.2
      rw [(hf e.1 j hw).1]
      exact h4 j hj
    · cases h2
  obtain ⟨h1, h2⟩ := List.mem_filter.mp he
  obtain ⟨j, h3, h4⟩ := h.me e h1
  have hw : w (G.key e.1 j) = false := by
    unfold keeps at h2
    unfold Gl.key
    cases hk : G.ka.get e.1 with
    | some _ =>
      rw [hk] at h2
      simpa using h2
    | none =>
      rw [hk] at h2
      simp only at h2 ⊢
      split at h2
      · rename_i j' hj
        rw [hj] at h3
        have h3 := Option.some.inj h3
        have : j' = j := by
          have h5 : ((j' : Nat) : Int) = (j : Int) := h3
          omega
        subst this
        simpa using h2
      · cases h2
  obtain ⟨g1, g2⟩ := hf e.1 j hw
  refine ⟨j, h3, ?_⟩
  rw [g1, g2]
  exact h4
/-- all that a walk leans on -/
abbrev Hy (E : xV) (Y : Nat → xY) (G : Gx) (J : zS → Prop) (r : Nat) (c : Ct) (mu0 : List (Nat × Int) × Int) (fin : Sy → Option AV → Bool) (ρ0 : List Int) (σ0 : zS) (K : zKt) (M0 : Int) : Prop := (∀ z q, z < r → G.ct.get z = some q → CtOk E Y G J z q) ∧ (∀ pc a, c.cut.get pc = some a → ∀ (ρ' : List Int) (σ' : zS) (l : List (Nat × Value)) (v : List Value), Ok J a.sy ρ' σ' → Rl ρ' a.lv l → Rs ρ' a.st v → Fr G.g c.W σ0 σ' → 0 ≤ tev ρ' a.mu.1 + a.mu.2 → tev ρ' a.mu.1 + a.mu.2 < M0 → Wz E (Y r) pc l v σ' K) ∧ (∀ ρ, Pre ρ0 ρ → tev ρ mu0.1 + mu0.2 = M0) ∧ (∀ (s : Sy) (ρ : List Int) (σ : zS) (a : Option AV) (rv : Option Value), fin s a = true → Pre ρ0 ρ → Ok J s ρ σ → Fr G.g c.W σ0 σ → Ra ρ a rv → K rv σ)
theorem Hy.ct {E : xV} {Y : Nat → xY} {G : Gx} {J : zS → Prop} {r : Nat} {c : Ct} {mu0 : List (Nat × Int) × Int} {fin : Sy → Option AV → Bool} {ρ0 : List Int} {σ0 : zS} {K : zKt} {M0 : Int} (h : Hy E Y G J r c mu0 fin ρ0 σ0 K M0) : ∀ z q, z < r → G.ct.get z = some q → CtOk E Y G J z q := h.1
theorem Hy.cut {E : xV} {Y : Nat → xY} {G : Gx} {J : zS → Prop} {r : Nat} {c : Ct} {mu0 : List (Nat × Int) × Int} {fin : Sy → Option AV → Bool} {ρ0 : List Int} {σ0 : zS} {K : zKt} {M0 : Int} (h : Hy E Y G J r c mu0 fin ρ0 σ0 K M0) : ∀ pc a, c.cut.get pc = some a → ∀ (ρ' : List Int) (σ' : zS) (l : List (Nat × Value)) (v : List Value), Ok J a.sy ρ' σ' → Rl ρ' a.lv l → Rs ρ' a.st v → Fr G.g c.W σ0 σ' → 0 ≤ tev ρ' a.mu.1 + a.mu.2 → tev ρ' a.mu.1 + a.mu.2 < M0 → Wz E (Y r) pc l v σ' K := h.2.1
theorem Hy.mu {E : xV} {Y : Nat → xY} {G : Gx} {J : zS → Prop} {r : Nat} {c : Ct} {mu0 : List (Nat × Int) × Int} {fin : Sy → Option AV → Bool} {ρ0 : List Int} {σ0 : zS} {K : zKt} {M0 : Int} (h : Hy E Y G J r c mu0 fin ρ0 σ0 K M0) : ∀ ρ, Pre ρ0 ρ → tev ρ mu0.1 + mu0.2 = M0 := h.2.2.1
theorem Hy.fin {E : xV} {Y : Nat → xY} {G : Gx} {J : zS → Prop} {r : Nat} {c : Ct} {mu0 : List (Nat × Int) × Int} {fin : Sy → Option AV → Bool} {ρ0 : List Int} {σ0 : zS} {K : zKt} {M0 : Int} (h : Hy E Y G J r c mu0 fin ρ0 σ0 K M0) : ∀ (s : Sy) (ρ : List Int) (σ : zS) (a : Option AV) (rv : Option Value), fin s a = true → Pre ρ0 ρ → Ok J s ρ σ → Fr G.g c.W σ0 σ → Ra ρ a rv → K rv σ := h.2.2.2
section E9
variable {E : xV} {Y : Nat → xY} {G : Gx} {J : zS → Prop} {r : Nat} {c : Ct} {mu0 : List (Nat × Int) × Int} {fin : Sy → Option AV → Bool} {ρ0 : List Int} {σ0 : zS} {K : zKt} {M0 : Int}
def WS (E : xV) (Y : Nat → xY) (G : Gx) (J : zS → Prop) (r : Nat) (c : Ct) (ρ0 : List Int) (σ0 : zS) (K : zKt) (w : Wk) : Prop := ∀ (s : Sy) (f : Fm) (fs : List Fm) (ρ : List Int) (σ : zS) (l : List (Nat × Value)) (v : List Value) (cs : Cfr), w s f fs = true → botm f.m fs = r → Pre ρ0 ρ → Ok J s ρ σ → Fr G.g c.W σ0 σ → Rl ρ f.lv l → Rs ρ f.st v → Rf ρ fs cs → Wz E (Y f.m) f.pc l v σ (Kf E Y fs cs K)
theorem goW_ok (H : Hy E Y G J r c mu0 fin ρ0 σ0 K M0) {w : Wk} (hw : WS E Y G J r c ρ0 σ0 K w) {s : Sy} {m pc : Nat} {lv : List (Nat × AV)} {st : List AV} {fs : List Fm} {ρ : List Int} {σ : zS} {l : List (Nat × Value)} {v : List Value} {cs : Cfr} (h : goW c mu0 w s m pc lv st fs = true) (hb : botm m fs = r) (hp : Pre ρ0 ρ) (ho : Ok J s ρ σ) (hf : Fr G.g c.W σ0 σ) (hl : Rl ρ lv l) (hs : Rs ρ st v) (hr : Rf ρ fs cs) : Wz E (Y m) pc l v σ (Kf E Y fs cs K) := by
  cases fs with
  | cons g gs => exact hw s ⟨m, pc, lv, st⟩ (g :: gs) ρ σ l v cs h hb hp ho hf hl hs hr
  | nil =>
    simp only [goW] at h
    cases cs with
    | cons _ _ => exact hr.elim
    | nil =>
      cases hc : c.cut.get pc with
      | none =>
        rw [hc] at h
        exact hw s ⟨m, pc, lv, st⟩ [] ρ σ l v [] h hb hp ho hf hl hs hr
      | some a =>
        rw [hc] at h
        obtain ⟨ρ', l', ks, k1, k2, k3, k4, k5, k6⟩ := arrive_ok ho hl hs h
        rw [H.mu ρ hp] at k6
        have hm : m = r := hb
        subst hm
        exact z_sub ks k1 (H.cut pc a hc ρ' σ l' v k2 k3 k4 hf k5 k6)
theorem retW_ok (H : Hy E Y G J r c mu0 fin ρ0 σ0 K M0) {w : Wk} (hw : WS E Y G J r c ρ0 σ0 K w) {s : Sy} {m : Nat} {fs : List Fm} {a : Option AV} {ρ : List Int} {σ : zS} {rv : Option Value} {cs : Cfr} (h : retW c mu0 fin w s fs a = true) (hb : botm m fs = r) (hp : Pre ρ0 ρ) (ho : Ok J s ρ σ) (hf : Fr G.g c.W σ0 σ) (ha : Ra ρ a rv) (hr : Rf ρ fs cs) : Kf E Y fs cs K rv σ := by
  cases fs with
  | nil =>
    cases cs with
    | cons _ _ => exact hr.elim
    | nil => exact H.fin s ρ σ a rv h hp ho hf ha
  | cons g gs =>
    cases cs with
    | nil => exact hr.elim
    | cons d cs =>
      refine goW_ok H hw h hb hp ho hf hr.1.1 ?_ hr.2
      cases a with
      | none =>
        cases rv with
        | none => exact hr.1.2
        | some _ => exact ha.elim
      | some a =>
        cases rv with
        | none => exact ha.elim
        | some x => exact ⟨ha, hr.1.2⟩
end E9
/-! ===== ENGINE 10: the whole walk; methods by contract ===== -/
section E10
variable {E : xV} {Y : Nat → xY} {G : Gx} {J : zS → Prop} {r : Nat} {c : Ct} {mu0 : List (Nat × Int) × Int} {fin : Sy → Option AV → Bool} {ρ0 : List Int} {σ0 : zS} {K : zKt} {M0 : Int}
theorem st1_all {W : Nat → Bool} {m pc len : Nat} (ix : Ix) : St1 E Y G.g W J m pc len K ix := by
  cases ix
  case iconst n => exact s_ic
  case bipush n => exact s_bp
  case sipush n => exact s_sp
  case ldc n => exact s_ldc
  case ldc_w n => exact s_ldcw
  case lconst n => exact s_lc
  case ldc2_w n => exact s_ldc2
  case iload_n n => exact s_iln
  case iload n => exact s_il
  case lload_n n => exact s_lln
  case lload n => exact s_ll
  case aload_n n => exact s_aln
  case aload n => exact s_al
  case istore_n n => exact s_isn
  case istore n => exact s_is
  case lstore_n n => exact s_lsn
  case lstore n => exact s_ls
  case astore_n n => exact s_asn
  case iinc i z => exact s_inc
  case iadd => exact s_iadd
  case isub => exact s_isub
  case imul => exact s_imul
  case iand => exact s_iand
  case ior => exact s_ior
  case ixor => exact s_ixor
  case ishl => exact s_ishl
  case ishr => exact s_ishr
  case iushr => exact s_iushr
  case idiv => exact s_idiv
  case irem => exact s_irem
  case ladd => exact s_ladd
  case lsub => exact s_lsub
  case lmul => exact s_lmul
  case land => exact s_land
  case lor => exact s_lor
  case lxor => exact s_lxor
  case ldiv => exact s_ldiv
  case lrem => exact s_lrem
  case lshl => exact s_lshl
  case lshr => exact s_lshr
  case lushr => exact s_lushr
  case ineg => exact s_ineg
  case lneg => exact s_lneg
  case i2l => exact s_i2l
  case l2i => exact s_l2i
  case i2c => exact s_i2c
  case lcmp => exact s_lcmp
  case dup => exact s_dup
  case dup2 => exact s_dup2
  case pop => exact s_pop
  case ifCond c o => exact s_ifz
  case if_icmp c o => exact s_icm
  case goto o => exact s_go
  case tableswitch a b c o => exact s_tsw
  case lookupswitch a b => exact s_lsw
  case getfield x => exact s_gf
  case putfield x => exact s_pf
  case iaload => exact s_iald
  case baload => exact s_zald
  case laload => exact s_lald
  case aaload => exact s_aald
  case iastore => exact s_iast
  case bastore => exact s_zast
  case lastore => exact s_last
  case invokestatic x => exact s_iz
  all_goals (intro s ρ σ lv st l v L hG hJ d hf hln h hl hs hst k; cases hst)
theorem roomOk_ok (hG : GxOk Y G) {m z : Nat} {args : List AV} (h : roomOk G m z args = true) : zRm (Y m) (Y z) ∧ plainName (Y z).1.cls = true ∧ cats args ≤ (Y z).2.2.1 := by
  unfold roomOk at h
  split at h
  · rename_i fr lo q1 fz lz nl q2 h1 h2
    obtain ⟨nl1, t1, c1⟩ := q1
    obtain ⟨t2, c2⟩ := q2
    simp only [Bool.and_eq_true] at h
    obtain ⟨⟨a1, a2, a3, a4⟩, _⟩ := hG.room _ _ _ _ _ _ h1
    obtain ⟨⟨b1, b2, b3, b4⟩, ⟨b5, b6⟩, _⟩ := hG.room _ _ _ _ _ _ h2
    have g1 := Nat.le_of_ble_eq_true h.1.1
    have g2 := Nat.le_of_ble_eq_true h.1.2
    have g3 := Nat.le_of_ble_eq_true h.2
    refine ⟨⟨⟨by rw [b1, a1]; exact g1, by rw [b5, b2, a2]; exact g2⟩, b3, b4⟩, b6, by rw [b5]; exact g3⟩
  · cases h
theorem callW_ok (hG : GxOk Y G) (H : Hy E Y G J r c mu0 fin ρ0 σ0 K M0) {w : Wk} (hw : WS E Y G J r c ρ0 σ0 K w) {s : Sy} {f : Fm} {fs : List Fm} {z : Nat} {args rest : List AV} {ρ : List Int} {σ : zS} {l : List (Nat × Value)} {av vr : List Value} {cs : Cfr} (h : callW G r c mu0 w s f fs z args rest = true) (hb : botm f.m fs = r) (hp : Pre ρ0 ρ) (ho : Ok J s ρ σ) (hf : Fr G.g c.W σ0 σ) (hl : Rl ρ f.lv l) (ha : Rs ρ args av) (hs : Rs ρ rest vr) (hr : Rf ρ fs cs) :
    (zRm (Y f.m) (Y z) ∧ (vr.map fun v => v.category).sum ≤ 8 ∧ (l.all fun q => xokv 215 q.2) = true ∧ (vr.all (xokv 215)) = true) ∧ Cz E (Y z) av σ (fun v σ' => Wz E (Y f.m) (f.pc + 3) l (v.toList ++ vr) σ' (Kf E Y fs cs K)) := by
  unfold callW at h
  cases h0 : okfr f.lv rest && roomOk G f.m z args with
  | false => rw [h0] at h; cases h
  | true =>
    rw [h0] at h
    simp only [Bool.and_eq_true, okfr] at h0
    obtain ⟨q1, q2, q3⟩ := roomOk_ok hG h0.2
    refine ⟨⟨q1, by rw [cats_ok hs]; exact Nat.le_of_ble_eq_true h0.1.2.2, okl_ok hl h0.1.1, oks_ok hs h0.1.2.1⟩, ?_⟩
    simp only [cond_true] at h
    split at h
    · refine z_entry q2 (fun a => by rw [sl_len, cats_ok ha]; exact q3) rfl ?_
      exact hw s ⟨z, 0, argLv 0 args, []⟩ (⟨f.m, f.pc + 3, f.lv, rest⟩ :: fs) ρ σ (lv_args 0 av) [] ((l, vr) :: cs) h hb hp ho hf (argLv_ok ha) trivial ⟨⟨hl, hs⟩, hr⟩
    · split at h
      · rename_i q hq
        rw [Bool.and_eq_true] at h
        have hz : z < r := Nat.le_of_ble_eq_true h.1
        have h2 := h.2
        unfold ctW at h2
        cases hws : !(q.any) && wsub q.w c.W with
        | false => rw [hws] at h2; cases h2
        | true =>
          rw [hws] at h2
          simp only [cond_true] at h2
          simp only [Bool.and_eq_true, Bool.not_eq_true'] at hws
          split at h2
          · rename_i t2 hm
            split at h2
            · rename_i th hm2
              cases he : Nat.beq th.length q.n && mte s th q.env with
              | false => rw [he] at h2; cases h2
              | true =>
                rw [he] at h2
                simp only [cond_true] at h2
                rw [Bool.and_eq_true] at he
                obtain ⟨d2, e2, r2⟩ := mtl_ok ho hm (fun b hb => by cases hb) ha
                obtain ⟨d3, e3, r3⟩ := mtm_ok ho hm2 d2
                have hok : Ok J ⟨q.n, q.env, q.me, []⟩ (vals ρ th) σ := ⟨by simp [vals, Nat.eq_of_beq_eq_true he.1], mte_ok ho he.2 d3, r3, fun e he => (by cases he), ho.inv⟩
                refine Cz.mono (H.ct z q hz hq (vals ρ th) σ av hok (r2.mono e3.pre)) ?_
                rintro rv σ' ⟨⟨j1, j2⟩, j3⟩
                have hb1 := behind_ok ho j1 j2
                have hfr := hf.tr (wsub_ok hws.1 hws.2 j2)
                unfold retOk at j3
                split at h2
                · rename_i hk
                  rw [hk] at j3
                  cases j3
                  exact goW_ok H hw h2 hb hp hb1 hfr hl hs hr
                · rename_i hk
                  rw [hk] at j3
                  obtain ⟨y, rfl, hy⟩ := j3
                  obtain ⟨ρ', p1, p2, p3, p4⟩ := newI_ok hb1 hy
                  exact goW_ok H hw h2 hb (hp.tr p1) p2 hfr (hl.mono p1) ⟨Rv.of_int p3 p4, hs.mono p1⟩ (hr.mono p1)
                · rename_i hk
                  rw [hk] at j3
                  obtain ⟨y, rfl, hy⟩ := j3
                  obtain ⟨ρ', p1, p2, p3, p4⟩ := newL_ok hb1 hy
                  exact goW_ok H hw h2 hb (hp.tr p1) p2 hfr (hl.mono p1) ⟨Rv.of_long p3 p4, hs.mono p1⟩ (hr.mono p1)
                · cases h2
            · cases h2
          · cases h2
      · cases h
theorem retFits_ok {s : Sy} {ρ : List Int} {σ : zS} {t : Nat} {a : AV} {v : Value} {o : Option FieldType} (ho : Ok J s ρ σ) (h : retFits s t a = true) (ha : Rv ρ a v) (h1 : t = 1 → o = some .int) (h2 : t = 2 → o = some .boolean) (h4 : t = 4 → o = some .char) : ∃ (y : Int32) (ty : FieldType), v = .int y ∧ o = some ty ∧ narrow ty (.int y) = .int y := by
  unfold retFits at h
  split at h
  · obtain ⟨y, rfl, hy⟩ := ha.int h
    exact ⟨y, _, rfl, h1 rfl, rfl⟩
  · rw [Bool.and_eq_true] at h
    obtain ⟨y, rfl, hy⟩ := ha.int h.1
    refine ⟨y, _, rfl, h2 rfl, ?_⟩
    rcases is01 (dsub_in h.2 (dom_i ho h.1 hy)) with rfl | rfl <;> rfl
  · rw [Bool.and_eq_true] at h
    obtain ⟨y, rfl, hy⟩ := ha.int h.1
    refine ⟨y, _, rfl, h4 rfl, ?_⟩
    have := inD_one (dsub_in h.2 (dom_i ho h.1 hy))
    exact congrArg Value.int ((i2c_ok y).2 this.1 this.2)
  · cases h
theorem walkB_ok (hG : GxOk Y G) (hJ : JOk G.g J) (H : Hy E Y G J r c mu0 fin ρ0 σ0 K M0) {w : Wk} (hw : WS E Y G J r c ρ0 σ0 K w) : WS E Y G J r c ρ0 σ0 K (walkB G r c mu0 fin w) := by
  intro s f fs ρ σ l v cs h hb hp ho hf hl hs hr
  unfold walkB at h
  cases hc : (G.g.code f.m).get f.pc with
  | none => rw [hc] at h; cases h
  | some q =>
    obtain ⟨ix, len⟩ := q
    rw [hc] at h
    dsimp only at h
    obtain ⟨d, hfit, hlen⟩ := hG.g.code _ _ _ _ hc
    have gen : ∀ ix' : Ix, decode (Y f.m).2.1 f.pc = .ok (enc ix', len) → ix'.fits (Y f.m).2.2.1 = true → (ix'.len = 0 ∨ ix'.len = len) → St1 E Y G.g c.W J f.m f.pc len (Kf E Y fs cs K) ix' → (match step1 G.g c.W f.m ix' f.pc (f.pc + len) s f.lv f.st with
      | some L => L.all fun u => goW c mu0 w u.1 f.m u.2.1 u.2.2.1 u.2.2.2 fs
      | none => false) = true → Wz E (Y f.m) f.pc l v σ (Kf E Y fs cs K) := by
      intro ix' d1 d2 d3 hst hh
      split at hh
      · rename_i L hL
        refine hst s ρ σ f.lv f.st l v L hG.g hJ d1 d2 d3 ho hl hs hL ?_
        intro u hu ρ' σ' l' v' p1 p2 p3 p4 p5
        exact goW_ok H hw (List.all_eq_true.mp hh u hu) hb (hp.tr p1) p2 (hf.tr p3) p4 p5 (hr.mono p1)
      · cases hh
    split at h
    · split at h
      · rename_i a q1 q2 q3 t q4 hst hrm
        rw [Bool.and_eq_true] at h
        rw [hst] at hs
        obtain ⟨w1, v1, rfl, ha, hs1⟩ := hs.cons
        cases hs1.nil
        obtain ⟨-, -, m0, m1, m2, m3, m4⟩ := hG.room _ _ _ _ _ _ hrm
        obtain ⟨y, ty, rfl, e1, e2⟩ := retFits_ok ho h.1 ha m1 m2 m4
        cases lenOf (a := 1) hlen (by decide)
        exact z_iret e1 e2 d (retW_ok H hw h.2 hb hp ho hf ha hr)
      · cases h
    · split at h
      · rename_i a q1 q2 q3 t q4 hst hrm
        simp only [Bool.and_eq_true] at h
        rw [hst] at hs
        obtain ⟨w1, v1, rfl, ha, hs1⟩ := hs.cons
        cases hs1.nil
        obtain ⟨-, -, m0, m1, m2, m3, m4⟩ := hG.room _ _ _ _ _ _ hrm
        obtain ⟨y, rfl, hy⟩ := ha.long h.1.2
        cases lenOf (a := 1) hlen (by decide)
        exact z_lret (m3 (Nat.eq_of_beq_eq_true h.1.1)) d (retW_ok H hw h.2 hb hp ho hf ha hr)
      · cases h
    · split at h
      · rename_i q1 q2 q3 t q4 hst hrm
        rw [Bool.and_eq_true] at h
        rw [hst] at hs
        cases hs.nil
        obtain ⟨-, -, m0, m1, m2, m3, m4⟩ := hG.room _ _ _ _ _ _ hrm
        cases lenOf (a := 1) hlen (by decide)
        exact z_vret (m0 (Nat.eq_of_beq_eq_true h.1)) d (retW_ok H hw h.2 hb hp ho hf (a := none) (rv := none) trivial hr)
      · cases h
    · rename_i x
      split at h
      · rename_i z k hcl
        obtain ⟨g1, g2, -⟩ := hG.call _ _ _ _ _ (Nat.le_of_ble_eq_true hfit) hcl
        split at h
        · rename_i args rest hpo
          obtain ⟨as, vr, rfl, e2, e3, e4⟩ := pops_ok (as0 := []) hpo hs trivial
          rw [List.append_nil] at e2
          obtain ⟨⟨c1, c2, c3, c4⟩, c5⟩ := callW_ok hG H hw h hb hp ho hf hl e2 e3 hr
          cases lenOf (a := 3) hlen (by decide)
          exact z_invS g1 (g2 rfl) c1 ⟨d, rfl⟩ e4 rfl c2 c3 c4 c5
        · cases h
      · exact gen _ d hfit hlen (st1_all _) h
    · rename_i x
      split at h
      · rename_i z k hcl
        obtain ⟨g1, -, g3⟩ := hG.call _ _ _ _ _ (Nat.le_of_ble_eq_true hfit) hcl
        obtain ⟨⟨g4, g5⟩, g6⟩ := g3 rfl
        split at h
        · rename_i kb args rest hpo
          split at h
          · rename_i q1 q2 q3 q4 q5 hrm
            rw [Bool.and_eq_true] at h
            have hkb := Nat.eq_of_beq_eq_true h.1
            subst hkb
            obtain ⟨g7, ci, ll, g8, g9, g10⟩ := g6 _ _ _ _ _ hrm
            obtain ⟨as, vr, rfl, e2, e3, e4⟩ := pops_ok (as0 := []) hpo hs trivial
            rw [List.append_nil] at e2
            obtain ⟨⟨c1, c2, c3, c4⟩, c5⟩ := callW_ok hG H hw h.2 hb hp ho hf hl e2 e3 hr
            cases as with
            | nil => exact e2.elim
            | cons a0 as =>
              have ha0 : a0 = .ref q5 := e2.1
              subst ha0
              cases lenOf (a := 3) hlen (by decide)
              refine z_invV g1 g4 g5 g7 g8 g9 g10 c1 ⟨d, rfl⟩ (As := as) (rest := vr) (by simpa using e4) (by simp) c2 c3 c4 c5
          · cases h
        · cases h
      · cases h
    · exact gen _ d hfit hlen (st1_all _) h
theorem enum_in {x : Int} : ∀ {d : Dom}, inD x d → x ∈ enum d := by
  intro d ⟨p, hp, h1, h2⟩
  refine List.mem_flatMap.mpr ⟨p, hp, List.mem_map.mpr ⟨(x - p.1).toNat, List.mem_range.mpr (by omega), by omega⟩⟩
theorem walkS_ok (hG : GxOk Y G) (hJ : JOk G.g J) (H : Hy E Y G J r c mu0 fin ρ0 σ0 K M0) {w : Wk} (hw : WS E Y G J r c ρ0 σ0 K w) : WS E Y G J r c ρ0 σ0 K (walkS G r c mu0 fin w) := by
  intro s f fs ρ σ l v cs h hb hp ho hf hl hs hr
  unfold walkS at h
  split at h
  · rename_i u a st' hsp hst
    cases hc : a.isI && many (dom s a) with
    | false => rw [hc] at h; exact walkB_ok hG hJ H hw s f fs ρ σ l v cs h hb hp ho hf hl hs hr
    | true =>
      rw [hc] at h
      rw [Bool.and_eq_true] at hc
      simp only [cond_true] at h
      have hs' := hs
      rw [hst] at hs'
      obtain ⟨w1, v1, rfl, ha, hs1⟩ := hs'.cons
      obtain ⟨y, rfl, hy⟩ := ha.int hc.1
      have hd := dom_i ho hc.1 hy
      have h1 := List.all_eq_true.mp h y.toInt (enum_in hd)
      obtain ⟨s', c1, c2⟩ := Sy.cut_ok (c := .eq) ho hy (b := .c y.toInt) rfl hd eqc rfl
      rw [c1] at h1
      exact hw s' f fs ρ σ l _ cs h1 hb hp c2 hf hl hs hr
  · exact walkB_ok hG hJ H hw s f fs ρ σ l v cs h hb hp ho hf hl hs hr
theorem walk_ok (hG : GxOk Y G) (hJ : JOk G.g J) (H : Hy E Y G J r c mu0 fin ρ0 σ0 K M0) : ∀ n : Nat, WS E Y G J r c ρ0 σ0 K (walk G r c mu0 fin n)
  | 0 => by
    intro s f fs ρ σ l v cs h
    cases h
  | n + 1 => walkS_ok hG hJ H (walk_ok hG hJ H n)
end E10
