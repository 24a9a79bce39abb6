noncomputable section
/-! ===== THE WALK, 11: the walk is right ===== -/
theorem plc_ev {ρ : List Int} {th : List AV} {p a : AV} (hd : Df ρ th) (h : plc th p = some a) : ∃ x, ev ρ a = some x := by
  rcases p with ⟨id, o⟩ | n | ⟨_, _⟩ | _ | _ | ⟨_, _⟩
  · simp only [plc] at h
    cases ht : th[id]? with
    | none => rw [ht] at h; cases h
    | some b =>
      rw [ht] at h
      simp only at h
      cases hi : b.isI with
      | false => rw [hi] at h; cases h
      | true =>
        rw [hi] at h
        cases Option.some.inj h
        obtain ⟨z, hz⟩ := hd.ev ht
        exact ⟨_, shA_ev hz⟩
  · cases Option.some.inj h; exact ⟨_, rfl⟩
  · cases h
  · cases h
  · cases h
  · cases h
section W11
variable {J : Jt} {s : Sy} {ρ : List Int} {σ : zS}
theorem ws_ok (h : Ok J s ρ σ) {c : Ct} {G : Gl} {ρ0 : List Int} {k j : Nat} {p : AV} (hp : Pre ρ0 ρ) (hj : ev ρ p = some (j : Int)) (hw : c.ws G s k p = true) : c.wp G ρ0 k j := by
  unfold Ct.ws at hw
  rw [Bool.and_eq_true] at hw
  refine ⟨?_, fun e he hk x hx => ?_⟩
  · have h1 := hw.1
    unfold Gl.key
    cases hka : G.ka.get k with
    | some _ => rw [hka] at h1; exact h1
    | none =>
      rw [hka] at h1
      simp only at h1 ⊢
      split at h1
      · rename_i j' 
        have e : ((j' : Nat) : Int) = (j : Int) := Option.some.inj hj
        have : j' = j := by omega
        subst this
        exact h1
      · cases h1
  · have h1 := List.all_eq_true.mp hw.2 e he
    rw [hk, Nat.beq_refl] at h1
    simp only [Bool.not_true, Bool.false_or] at h1
    obtain ⟨u, a1, a2⟩ := nf_ok h (ev.mono hp hx)
    obtain ⟨v, b1, b2⟩ := nf_ok h hj
    have := leq_ok h h1 (tlin_ok (w := -1) b1 a1)
    omega
theorem wa_ok {c : Ct} {G : Gl} {ρ0 : List Int} {k j : Nat} (hw : c.wa G k = true) : c.wp G ρ0 k j := by
  unfold Ct.wa at hw
  rw [Bool.and_eq_true] at hw
  refine ⟨?_, fun e he hk x hx => ?_⟩
  · have h1 := hw.1
    unfold Gl.key
    cases hka : G.ka.get k with
    | some _ => rw [hka] at h1; exact h1
    | none => rw [hka] at h1; cases h1
  · have h1 := List.all_eq_true.mp hw.2 e he
    rw [hk, Nat.beq_refl] at h1
    cases h1
theorem behind_ok {G : Gl} {q : Ct} {th : List AV} {σ' : zS} (h : Ok J s ρ σ) (hd : Df ρ th) (hf : Fr (q.wp G (vals ρ th)) σ σ') : Ok (fun _ _ => True) (s.behind G q th) ρ σ' := by
  obtain ⟨H, i1, i2⟩ := h.inv
  refine ⟨h.len, h.env, fun e he => ?_, h.cg, h.df, h.fa, H, i1, trivial⟩
  obtain ⟨h1, h2⟩ := List.mem_filter.mp he
  obtain ⟨j, h3, h4⟩ := h.me e h1
  have hw : ¬ q.wp G (vals ρ th) e.1 j := by
    intro hq
    unfold keeps at h2
    obtain ⟨q1, q2⟩ := hq
    unfold Gl.key at q1
    cases hk : G.ka.get e.1 with
    | some _ =>
      rw [hk] at h2 q1
      simp only at h2 q1
      rw [q1] at h2
      simp only [Bool.not_true, Bool.false_or] at h2
      obtain ⟨f, f1, f2⟩ := List.any_eq_true.mp h2
      rw [Bool.and_eq_true] at f2
      have f3 := Nat.eq_of_beq_eq_true f2.1
      have f4 := f2.2
      split at f4
      · rename_i a ha
        obtain ⟨x, hx⟩ := plc_ev hd ha
        have g1 := q2 f f1 f3 x (plc_ok hd ha hx)
        obtain ⟨u, a1, a2⟩ := nf_ok h h3
        obtain ⟨v, b1, b2⟩ := nf_ok h hx
        have := leqd_ok h f4 (tlin_ok (w := -1) b1 a1)
        omega
      · cases f4
    | none =>
      rw [hk] at h2 q1
      simp only at h2 q1
      split at h2
      · rename_i j' hj
        rw [hj] at h3
        have e1 : ((j' : Nat) : Int) = (j : Int) := Option.some.inj h3
        have : j' = j := by omega
        subst this
        rw [q1] at h2
        cases h2
      · cases h2
  obtain ⟨g1, g2⟩ := hf e.1 j hw
  refine ⟨j, h3, ?_⟩
  rw [g1, g2]
  exact h4
theorem wsub_ok (h : Ok J s ρ σ) {G : Gl} {c q : Ct} {th : List AV} {ρ0 : List Int} {σ1 σ2 : zS} (hp : Pre ρ0 ρ) (hd : Df ρ th) (hw : wsub G s c q th = true) (hf : Fr (q.wp G (vals ρ th)) σ1 σ2) : Fr (c.wp G ρ0) σ1 σ2 := by
  unfold wsub at hw
  rw [Bool.and_eq_true] at hw
  intro k j hn
  refine hf k j (fun hq => hn ⟨?_, fun e he hk x hx => ?_⟩)
  · obtain ⟨q1, -⟩ := hq
    unfold isS at q1
    split at q1
    · rename_i u hu
      exact (BT.all_P hw.1).at hu
    · cases q1
  · obtain ⟨q1, q2⟩ := hq
    have h1 := List.all_eq_true.mp hw.2 e he
    rw [Bool.and_eq_true] at h1
    have hkey : G.key k j = k * 1024 + 1023 := by
      have h2 := h1.1
      rw [hk] at h2
      unfold Gl.key
      unfold isS at h2
      split at h2
      · rename_i u hu
        rw [hu]
      · cases h2
    rw [hkey] at q1
    have h2 := h1.2
    rw [hk, q1] at h2
    simp only [Bool.not_true, Bool.false_or] at h2
    obtain ⟨f, f1, f2⟩ := List.any_eq_true.mp h2
    rw [Bool.and_eq_true] at f2
    have f3 := Nat.eq_of_beq_eq_true f2.1
    have f4 := f2.2
    split at f4
    · rename_i a ha
      obtain ⟨y, hy⟩ := plc_ev hd ha
      have g1 := q2 f f1 f3 y (plc_ok hd ha hy)
      obtain ⟨u, a1, a2⟩ := nf_ok h (ev.mono hp hx)
      obtain ⟨v, b1, b2⟩ := nf_ok h hy
      have := leq_ok h f4 (tlin_ok (w := -1) b1 a1)
      omega
    · cases f4
theorem insL_ok {th : List AV} (hd : Df ρ th) : ∀ {ps l : List AV} {v : List Value}, insL th ps = some l → Rs (vals ρ th) ps v → Rs ρ l v
  | [], l, v, h, hv => by
    cases Option.some.inj h
    cases hv.nil
    trivial
  | p :: r, l, v, h, hv => by
    unfold insL at h
    obtain ⟨w, v', rfl, h1, h2⟩ := hv.cons
    cases ha : insA th p with
    | none => rw [ha] at h; cases h
    | some a =>
      rw [ha] at h
      cases hl : insL th r with
      | none => rw [hl] at h; cases h
      | some l' =>
        rw [hl] at h
        cases Option.some.inj h
        obtain ⟨g1, g2, g3⟩ := insA_ok hd ha
        refine ⟨?_, insL_ok hd hl h2⟩
        rcases p with ⟨id, o⟩ | n | ⟨id, o⟩ | n | q | ⟨b, n⟩
        · obtain ⟨y, rfl, e⟩ := h1
          exact Rv.of_int (g1 rfl) (g3 _ e)
        · cases Option.some.inj ha
          exact h1
        · obtain ⟨y, rfl, e⟩ := h1
          exact Rv.of_long (g2 rfl) (g3 _ e)
        · cases Option.some.inj ha
          exact h1
        · cases Option.some.inj ha
          exact h1
        · cases Option.some.inj ha
          exact h1
end W11
/-- all that a walk leans on -/
abbrev Hy (E : xV) (Y : Nat → xY) (G : Gx) (J : Jt) (r : Nat) (c : Ct) (mu0 : Lf × Int) (fin : Sy → Option AV → Bool) (ρ0 ρ1 : List Int) (σ0 : zS) (K : zKt) (M0 : Int) : Prop := ((∀ z q, z < lim r c → G.ct.get z = some q → CtOk E Y G J z q) ∧ (∀ z q, G.ct.get z = some q → mate c q = true → ∃ m R, tvo ρ0 c.rg.2.1 = some m ∧ (200 + R + 1 ≤ (Y r).2.2.2.2.frames ∧ 4000 + 40 * R + 40 ≤ (Y r).2.2.2.2.locals) ∧ CtOkN E Y G J R (m + c.rg.2.2) z q) ∧ JFr G J) ∧ (∀ pc as, c.cut.get pc = some as → ∀ a ∈ as, ∀ (ρ' : List Int) (σ' : zS) (l : List (Nat × Value)) (v : List Value) (m : Int), Pre ρ0 ρ' → Ko J a.kn ρ' σ' → Rl ρ' a.lv l → Rs ρ' a.st v → Fr (c.wp G.g ρ0) σ0 σ' → tvo ρ' a.mu.1 = some m → 0 ≤ m + a.mu.2 → m + a.mu.2 < M0 → Wz E (Y r) pc l v σ' K) ∧ (∃ m, tvo ρ1 mu0.1 = some m ∧ m + mu0.2 = M0) ∧ (Pre ρ0 ρ1 ∧ ρ0.length = c.kn.ks.length ∧ Tp ρ0 0 c.kn.ks) ∧ (∀ (s : Sy) (ρ : List Int) (σ : zS) (a : Option AV) (rv : Option Value), fin s a = true → Pre ρ1 ρ → Ok J s ρ σ → Fr (c.wp G.g ρ0) σ0 σ → Ra ρ a rv → K rv σ)
theorem fillm_ok {G : Gx} {J : Jt} (hJ : POk G.g G.P J) {σ : zS} : ∀ {l : List (Nat × (AV × AV))} {s : Sy} {ρ : List Int}, Ok J s ρ σ → ∃ ρ', Pre ρ ρ' ∧ Ok J (fillm G l s) ρ' σ
  | [], s, ρ, h => ⟨ρ, Pre.rf, h⟩
  | e :: r, s, ρ, h => by
    unfold fillm
    split
    · rename_i j _
      cases hc : (isS (G.g.ka.get e.1) || Nat.ble 1024 j) || !(e.2.2.isI) with
      | true => exact fillm_ok hJ h
      | false =>
        simp only [cond_false]
        rw [Bool.or_eq_false_iff, Bool.or_eq_false_iff] at hc
        have hk : G.g.ka.get e.1 = none := by
          cases hg : G.g.ka.get e.1 with
          | none => rfl
          | some x => rw [hg] at hc; cases hc.1.1
        have hj : j < 1024 := by
          have := hc.1.2
          rw [← Bool.not_eq_true, Nat.ble_eq] at this
          omega
        obtain ⟨ρ1, p1, o1, -, -⟩ := rdI_ok (k := e.1) (j := j) (p := .c (j : Int)) h rfl (hJ.rd s ρ σ e.1 (.c (j : Int)) j h rfl (Or.inl ⟨hk, hj⟩))
        obtain ⟨ρ', p2, o2⟩ := fillm_ok hJ (l := r) o1
        exact ⟨ρ', p1.tr p2, o2⟩
    · exact fillm_ok hJ h
section W12
variable {E : xV} {Y : Nat → xY} {G : Gx} {J : Jt} {r : Nat} {c : Ct} {mu0 : Lf × Int} {fin : Sy → Option AV → Bool} {ρ0 ρ1 : List Int} {σ0 : zS} {K : zKt} {M0 : Int}
def WS (E : xV) (Y : Nat → xY) (G : Gx) (J : Jt) (r : Nat) (c : Ct) (ρ0 ρ1 : List Int) (σ0 : zS) (K : zKt) (w : Wk) : Prop := ∀ (s : Sy) (f : Fm) (fs : List Fm) (ρ : List Int) (σ : zS) (l : List (Nat × Value)) (v : List Value) (cs : Cfr), w s f fs = true → botm f.m fs = r → Pre ρ1 ρ → Ok J s ρ σ → Fr (c.wp G.g ρ0) σ0 σ → Rl ρ f.lv l → Rs ρ f.st v → Rf ρ fs cs → Wz E (Y f.m) f.pc l v σ (Kf E Y fs cs K)
theorem goW_ok (hJ : POk G.g G.P J) (H : Hy E Y G J r c mu0 fin ρ0 ρ1 σ0 K M0) {w : Wk} (hw : WS E Y G J r c ρ0 ρ1 σ0 K w) {s : Sy} {m pc : Nat} {lv : List (Nat × AV)} {st : List AV} {fs : List Fm} {ρ : List Int} {σ : zS} {l : List (Nat × Value)} {v : List Value} {cs : Cfr} (h : goW G c mu0 w s m pc lv st fs = true) (hb : botm m fs = r) (hp : Pre ρ1 ρ) (ho : Ok J s ρ σ) (hf : Fr (c.wp G.g ρ0) σ0 σ) (hl : Rl ρ lv l) (hs : Rs ρ st v) (hr : Rf ρ fs cs) : Wz E (Y m) pc l v σ (Kf E Y fs cs K) := by
  cases fs with
  | cons g gs => exact hw s ⟨m, pc, lv, st⟩ (g :: gs) ρ σ l v cs h hb hp ho hf hl hs hr
  | nil =>
    simp only [goW] at h
    cases cs with
    | cons _ _ => exact hr.elim
    | nil =>
      cases hc : c.cut.get pc with
      | none =>
        rw [hc] at h
        exact hw s ⟨m, pc, lv, st⟩ [] ρ σ l v [] h hb hp ho hf hl hs hr
      | some as =>
        rw [hc] at h
        obtain ⟨a, ha, h1⟩ := List.any_eq_true.mp h
        obtain ⟨-, h2, ⟨mm, h3, h4⟩, ⟨h5, h6, h7⟩, -⟩ := H
        obtain ⟨ρf, pf, of⟩ := fillm_ok hJ (l := a.kn.me) ho
        obtain ⟨ρ', l', ks, k0, k1, k2, k3, k4, k5, k6, k7, k8⟩ := arrive_ok of (h5.tr (hp.tr pf)) h6 h7 (hl.mono pf) (hs.mono pf) h1 (tvo.mono (hp.tr pf) h3)
        have hm : m = r := hb
        subst hm
        exact z_sub ks k1 (h2 pc as hc a ha ρ' σ l' v k0 k2 k3 k4 k5 hf k6 k7 (by omega))
theorem retW_ok (hJ : POk G.g G.P J) (H : Hy E Y G J r c mu0 fin ρ0 ρ1 σ0 K M0) {w : Wk} (hw : WS E Y G J r c ρ0 ρ1 σ0 K w) {s : Sy} {m : Nat} {fs : List Fm} {a : Option AV} {ρ : List Int} {σ : zS} {rv : Option Value} {cs : Cfr} (h : retW G c mu0 fin w s fs a = true) (hb : botm m fs = r) (hp : Pre ρ1 ρ) (ho : Ok J s ρ σ) (hf : Fr (c.wp G.g ρ0) σ0 σ) (ha : Ra ρ a rv) (hr : Rf ρ fs cs) : Kf E Y fs cs K rv σ := by
  cases fs with
  | nil =>
    cases cs with
    | cons _ _ => exact hr.elim
    | nil => exact H.2.2.2.2 s ρ σ a rv h hp ho hf ha
  | cons g gs =>
    cases cs with
    | nil => exact hr.elim
    | cons d cs =>
      refine goW_ok hJ H hw h hb hp ho hf hr.1.1 ?_ hr.2
      cases a with
      | none =>
        cases rv with
        | none => exact hr.1.2
        | some _ => exact ha.elim
      | some a =>
        cases rv with
        | none => exact ha.elim
        | some x => exact ⟨ha, hr.1.2⟩
theorem st1_all {Ws : Sy → Nat → AV → Bool} {Wa : Nat → Bool} {Wp : Nat → Nat → Prop} {m pc len : Nat} (ix : Ix) : St1 E Y G.g G.P Ws Wa Wp J m pc len K ix := by
  cases ix
  case iconst n => exact s_ic
  case bipush n => exact s_bp
  case sipush n => exact s_sp
  case ldc n => exact s_ldc
  case ldc_w n => exact s_ldcw
  case lconst n => exact s_lc
  case ldc2_w n => exact s_ldc2
  case iload_n n => exact s_iln
  case iload n => exact s_il
  case lload_n n => exact s_lln
  case lload n => exact s_ll
  case aload_n n => exact s_aln
  case aload n => exact s_al
  case istore_n n => exact s_isn
  case istore n => exact s_is
  case lstore_n n => exact s_lsn
  case lstore n => exact s_ls
  case astore_n n => exact s_asn
  case iinc i z => exact s_inc
  case iadd => exact s_iadd
  case isub => exact s_isub
  case imul => exact s_imul
  case iand => exact s_iand
  case ior => exact s_ior
  case ixor => exact s_ixor
  case ishl => exact s_ishl
  case ishr => exact s_ishr
  case iushr => exact s_iushr
  case idiv => exact s_idiv
  case irem => exact s_irem
  case ladd => exact s_ladd
  case lsub => exact s_lsub
  case lmul => exact s_lmul
  case land => exact s_land
  case lor => exact s_lor
  case lxor => exact s_lxor
  case ldiv => exact s_ldiv
  case lrem => exact s_lrem
  case lshl => exact s_lshl
  case lshr => exact s_lshr
  case lushr => exact s_lushr
  case ineg => exact s_ineg
  case lneg => exact s_lneg
  case i2l => exact s_i2l
  case l2i => exact s_l2i
  case i2c => exact s_i2c
  case i2b => exact s_i2b
  case lcmp => exact s_lcmp
  case dup => exact s_dup
  case dup2 => exact s_dup2
  case pop => exact s_pop
  case ifCond c o => exact s_ifz
  case if_icmp c o => exact s_icm
  case goto o => exact s_go
  case tableswitch a b c o => exact s_tsw
  case lookupswitch a b => exact s_lsw
  case getfield x => exact s_gf
  case getstatic x => exact s_gs
  case arraylength => exact s_al9
  case putfield x => exact s_pf
  case iaload => exact s_iald
  case baload => exact s_zald
  case laload => exact s_lald
  case aaload => exact s_aald
  case iastore => exact s_iast
  case bastore => exact s_zast
  case lastore => exact s_last
  case invokestatic x => exact s_iz
  all_goals (intro s ρ σ lv st l v L hG hJ hW1 hW2 d hf hln h hl hs hst k; cases hst)
theorem roomOk_ok (hG : GxOk Y G) {m z : Nat} {args : List AV} (h : roomOk G m z args = true) : zRm (Y m) (Y z) ∧ plainName (Y z).1.cls = true ∧ cats args ≤ (Y z).2.2.1 := by
  unfold roomOk at h
  split at h
  · rename_i fr lo q1 fz lz nl q2 h1 h2
    obtain ⟨nl1, t1, c1⟩ := q1
    obtain ⟨t2, c2⟩ := q2
    rw [Bool.and_eq_true] at h
    obtain ⟨⟨⟨a1, a2⟩, _⟩, _⟩ := hG.room _ _ _ _ _ _ h1
    obtain ⟨⟨⟨b1, b2⟩, ⟨b7, b8⟩, b3, b4⟩, ⟨b5, b6⟩, _⟩ := hG.room _ _ _ _ _ _ h2
    have g3 := Nat.le_of_ble_eq_true h.2
    have h1 := h.1
    cases hz : Nat.beq fz 200 with
    | true =>
      rw [hz] at h1
      simp only [cond_true, Bool.and_eq_true] at h1
      have g1 := Nat.le_of_ble_eq_true h1.1
      have g2 := Nat.le_of_ble_eq_true h1.2
      have g4 := b8 (Nat.eq_of_beq_eq_true hz)
      exact ⟨⟨⟨by omega, by rw [b5]; omega⟩, b3, b4⟩, b6, by rw [b5]; exact g3⟩
    | false =>
      rw [hz] at h1
      simp only [cond_false, Bool.and_eq_true] at h1
      have g1 := Nat.le_of_ble_eq_true h1.1
      have g2 := Nat.le_of_ble_eq_true h1.2
      have g4 := b7 (fun e => by rw [e] at hz; cases hz)
      exact ⟨⟨⟨by omega, by rw [b5]; omega⟩, b3, b4⟩, b6, by rw [b5]; exact g3⟩
  · cases h
theorem Rs.app {ρ : List Int} : ∀ {a b : List AV} {u v : List Value}, Rs ρ a u → Rs ρ b v → Rs ρ (a ++ b) (u ++ v)
  | [], _, [], _, _, h => h
  | _ :: _, _, _ :: _, _, ⟨h1, h2⟩, h => ⟨h1, Rs.app h2 h⟩
  | [], _, _ :: _, _, q, _ => q.elim
  | _ :: _, _, [], _, q, _ => q.elim
theorem isS_some' {α : Type} {o : Option α} (h : isS o = true) : ∃ x, o = some x := by
  cases o with
  | none => cases h
  | some x => exact ⟨x, rfl⟩
theorem callW_ok (hG : GxOk Y G) (hJ : POk G.g G.P J) (H : Hy E Y G J r c mu0 fin ρ0 ρ1 σ0 K M0) {w : Wk} (hw : WS E Y G J r c ρ0 ρ1 σ0 K w) {s : Sy} {f : Fm} {fs : List Fm} {z : Nat} {args rest : List AV} {ρ : List Int} {σ : zS} {l : List (Nat × Value)} {av vr : List Value} {cs : Cfr} (h : callW G r c mu0 w s f fs z args rest = true) (hb : botm f.m fs = r) (hp : Pre ρ1 ρ) (ho : Ok J s ρ σ) (hf : Fr (c.wp G.g ρ0) σ0 σ) (hl : Rl ρ f.lv l) (ha : Rs ρ args av) (hs : Rs ρ rest vr) (hr : Rf ρ fs cs) :
    ∃ rm : Room, (zRm (Y f.m) (withR (Y z) rm) ∧ (vr.map fun v => v.category).sum ≤ 8 ∧ (l.all fun q => xokv 215 q.2) = true ∧ (vr.all (xokv 215)) = true) ∧ Cz E (withR (Y z) rm) av σ (fun v σ' => Wz E (Y f.m) (f.pc + 3) l (v.toList ++ vr) σ' (Kf E Y fs cs K)) := by
  unfold callW at h
  cases h0 : okfr f.lv rest with
  | false => rw [h0] at h; cases h
  | true =>
    rw [h0] at h
    simp only [Bool.and_eq_true, okfr] at h0
    have hA : (vr.map fun v => v.category).sum ≤ 8 ∧ (l.all fun q => xokv 215 q.2) = true ∧ (vr.all (xokv 215)) = true := ⟨by rw [cats_ok hs]; exact Nat.le_of_ble_eq_true h0.2.2, okl_ok hl h0.1, oks_ok hs h0.2.1⟩
    simp only [cond_true] at h
    split at h
    · rw [Bool.and_eq_true] at h
      obtain ⟨q1, q2, q3⟩ := roomOk_ok hG h.1
      refine ⟨(Y z).2.2.2.2, ⟨q1, hA⟩, ?_⟩
      refine z_entry q2 (fun a => by rw [sl_len, cats_ok ha]; exact q3) rfl ?_
      exact hw s ⟨z, 0, argLv 0 args, []⟩ (⟨f.m, f.pc + 3, f.lv, rest⟩ :: fs) ρ σ (lv_args 0 av) [] ((l, vr) :: cs) h.2 hb hp ho hf (argLv_ok ha) trivial ⟨⟨hl, hs⟩, hr⟩
    · split at h
      · rename_i q hq
        rw [Bool.and_eq_true] at h
        have h2 := h.2
        unfold ctW at h2
        dsimp only at h2
        obtain ⟨ρf, pf, of⟩ := fillm_ok hJ (l := q.kn.me) ho
        have hp := hp.tr pf
        have hl := hl.mono pf
        have ha := ha.mono pf
        have hs := hs.mono pf
        have hr := hr.mono pf
        clear ho
        have ho1 := of
        clear of
        generalize fillm G q.kn.me s = s1 at h2 ho1
        generalize ρf = ρ at *
        generalize hfr : tfr G q s1 = fr at h2
        obtain ⟨H0, j01, j02⟩ := ho1.inv
        have hbig : fr = true → (∀ e ∈ H0, 100 ≤ e.1 ∧ e.1 < 330) ∧ (∀ σ', Fr (fun k j => isS (q.w.get (G.g.key k j)) = true) σ σ' → ∀ e ∈ H0, ∀ k, G.tr e.1 k = true → σ'.1 k = σ.1 k ∧ σ'.2 k = σ.2 k) ∧ (∀ al ∈ q.al, al.2.hl = []) := by
          intro e
          rw [e] at hfr
          unfold tfr at hfr
          simp only [Bool.and_eq_true] at hfr
          obtain ⟨⟨f1, f2⟩, f3, f4, f5⟩ := hfr
          have mem : ∀ {hl : List (Nat × AV)} {H : List (Nat × Int)}, Hl ρ hl H → ∀ e ∈ H, ∃ a, (e.1, a) ∈ hl := by
            intro hl
            induction hl with
            | nil =>
              intro H h e he
              cases H with
              | nil => cases he
              | cons _ _ => exact h.elim
            | cons u us ih =>
              intro H h e he
              cases H with
              | nil => exact h.elim
              | cons v vs =>
                rcases List.mem_cons.mp he with rfl | he
                · exact ⟨u.2, by rw [← h.1.1]; exact List.mem_cons_self ..⟩
                · obtain ⟨a, ha⟩ := ih h.2 e he
                  exact ⟨a, List.mem_cons_of_mem _ ha⟩
          refine ⟨fun e he => ?_, fun σ' hF e he k hk => ?_, fun al hal => ?_⟩
          · obtain ⟨a, ha⟩ := mem j01 e he
            have f9 := List.all_eq_true.mp f3 _ ha
            rw [Bool.and_eq_true] at f9
            exact ⟨Nat.le_of_ble_eq_true f9.1, Nat.le_of_ble_eq_true f9.2⟩
          · obtain ⟨a, ha⟩ := mem j01 e he
            suffices hkey9 : ∀ j, σ'.1 k j = σ.1 k j ∧ σ'.2 k j = σ.2 k j from ⟨funext fun j => (hkey9 j).1, funext fun j => (hkey9 j).2⟩
            intro j
            refine hF k j (fun hw => ?_)
            have hka := H.1.2.2.2.2 e.1 k hk
            have hkey : G.g.key k j = k * 1024 + 1023 := by
              unfold Gl.key
              cases hq : G.g.ka.get k with
              | none => rw [hq] at hka; cases hka
              | some _ => rfl
            have hw : isS (q.w.get (G.g.key k j)) = true := hw
            rw [hkey] at hw
            obtain ⟨_, hget⟩ := isS_some' hw
            have f6 := (BT.all_P f5).at hget
            have f7 := List.all_eq_true.mp f6 _ ha
            have e9 : (k * 1024 + 1023) / 1024 = k := by omega
            rw [e9, hk] at f7
            cases f7
          · have := List.all_eq_true.mp f4 al hal
            cases hq : al.2.hl with
            | nil => rfl
            | cons _ _ => rw [hq] at this; cases this
        have ho : Ok J (bif fr then s1.seth [] else s1) ρ σ := by
          cases hfr2 : fr with
          | false => exact ho1
          | true => exact ⟨ho1.len, ho1.env, ho1.me, ho1.cg, ho1.df, ho1.fa, [], trivial, H.1.2.2.1 H0 σ (hbig hfr2).1 j02⟩
        generalize hsd : (bif fr then s1.seth [] else s1) = s at h2 ho
        split at h2
        · rename_i t2 hm
          split at h2
          · rename_i th hm2
            rw [Bool.and_eq_true, Bool.and_eq_true] at h2
            obtain ⟨d2, e2, r2⟩ := mtl_ok ho hm (fun b hb => by cases hb) ha
            obtain ⟨d3, e3, k3, o3⟩ := mta_ok ho hm2 d2
            have hko : Ko J q.kn (vals ρ th) σ := ⟨o3, mtk_tp d3 k3⟩
            have hcz : ∃ rm : Room, zRm (Y f.m) (withR (Y z) rm) ∧ Cz E (withR (Y z) rm) av σ (fun r σ' => Fr (q.wp G.g (vals ρ th)) σ σ' ∧ ∃ al ∈ q.al, ∃ ρ'', Pre (vals ρ th) ρ'' ∧ Ko J al.2 ρ'' σ' ∧ Rs ρ'' al.1 r.toList) := by
              cases hmt : mate c q with
              | true =>
                have hfa := h2.1.1
                rw [hmt] at hfa
                simp only [Bool.not_true, Bool.false_or] at hfa
                obtain ⟨m, R, m1, ⟨m4, m5⟩, m2⟩ := H.1.2.1 z q hq hmt
                obtain ⟨v, v1, v2, v3⟩ := falls_ok ho d3 hfa (tvo.mono (H.2.2.2.1.1.tr hp) m1)
                have hz := h.1
                rw [hmt] at hz
                simp only [cond_true, Bool.and_eq_true] at hz
                have hfm : f.m = r := by
                  cases fs with
                  | nil => exact hb
                  | cons _ _ => cases hz.1
                refine ⟨rmN R, ?_, m2 (vals ρ th) σ av v hko (r2.mono e3.pre) v1 v2 v3⟩
                have hz2 := hz.2
                unfold ringRm at hz2
                split at hz2
                · rename_i fz q1 nl q2 h2'
                  simp only [Bool.and_eq_true] at hz2
                  obtain ⟨t2, c2⟩ := q2
                  obtain ⟨_, ⟨b5, _⟩, _⟩ := hG.room _ _ _ _ _ _ h2'
                  have g1 := Nat.le_of_ble_eq_true hz2.2.1
                  rw [hfm]
                  refine ⟨⟨?_, ?_⟩, rfl, rfl⟩
                  · show 200 + R + 1 ≤ _
                    exact m4
                  · show 8 + ((Y z).2.2.1 + 11) + (4000 + 40 * R) ≤ _
                    rw [b5]
                    omega
                · cases hz2
              | false =>
                have hz := h.1
                rw [hmt] at hz
                simp only [cond_false, Bool.and_eq_true] at hz
                obtain ⟨q1, -, -⟩ := roomOk_ok hG hz.1
                exact ⟨(Y z).2.2.2.2, q1, H.1.1 z q (Nat.le_of_ble_eq_true hz.2) hq (vals ρ th) σ av hko (r2.mono e3.pre)⟩
            obtain ⟨rm, hrm, hcz⟩ := hcz
            refine ⟨rm, ⟨hrm, hA⟩, ?_⟩
            refine Cz.mono hcz ?_
            rintro rv σ' ⟨j1, al, j2, ρ'', j3, j4, j5⟩
            have hbe := behind_ok ho d3 j1
            have hfr := hf.tr (wsub_ok ho (H.2.2.2.1.1.tr hp) d3 h2.1.2 j1)
            obtain ⟨s', th', ρ', i1, i2, i3, i4, i5⟩ := inst_ok hbe d3 j4 j3
            have h3 := List.all_eq_true.mp h2.2 al j2
            rw [i1] at h3
            simp only at h3
            split at h3
            · rename_i as hl' has hah
              obtain ⟨Hh, x1, x2⟩ := j4.1.inv
              rw [← i5] at j5 x1
              have i6 : Ok J (s'.seth (bif fr then s1.hl else hl')) ρ' σ' := by
                cases hfr2 : fr with
                | false => exact ⟨i3.len, i3.env, i3.me, i3.cg, i3.df, i3.fa, Hh, insH_ok i4 hah x1, x2⟩
                | true =>
                  obtain ⟨b1, b2, b3⟩ := hbig hfr2
                  have hh0 : Hh = [] := by
                    have x1 : Hl (vals ρ' th') al.2.hl Hh := x1
                    rw [b3 al j2] at x1
                    cases Hh with
                    | nil => rfl
                    | cons _ _ => exact x1.elim
                  rw [hh0] at x2
                  exact ⟨i3.len, i3.env, i3.me, i3.cg, i3.df, i3.fa, H0, j01.mono i2, H.1.2.2.2.1 H0 σ σ' b1 j02 x2 (b2 σ' (fun k j hw => j1 k j (fun q => hw q.1)))⟩
              exact goW_ok hJ H hw h3 hb (hp.tr i2) i6 hfr (hl.mono i2) (Rs.app (insL_ok i4 has j5) (hs.mono i2)) (hr.mono i2)
            · cases h3
          · cases h2
        · cases h2
      · cases h
theorem retFits_ok {s : Sy} {ρ : List Int} {σ : zS} {t : Nat} {a : AV} {v : Value} {o : Option FieldType} (ho : Ok J s ρ σ) (h : retFits s t a = true) (ha : Rv ρ a v) (h1 : t = 1 → o = some .int) (h2 : t = 2 → o = some .boolean) (h4 : t = 4 → o = some .char) (h5 : t = 5 → o = some .byte) : ∃ (y : Int32) (ty : FieldType), v = .int y ∧ o = some ty ∧ narrow ty (.int y) = .int y := by
  unfold retFits at h
  split at h
  · obtain ⟨y, rfl, hy⟩ := ha.int h
    exact ⟨y, _, rfl, h1 rfl, rfl⟩
  · rw [Bool.and_eq_true] at h
    obtain ⟨y, rfl, hy⟩ := ha.int h.1
    refine ⟨y, _, rfl, h2 rfl, ?_⟩
    rcases is01 (dsub_in h.2 (dom_i ho h.1 hy)) with rfl | rfl <;> rfl
  · rw [Bool.and_eq_true] at h
    obtain ⟨y, rfl, hy⟩ := ha.int h.1
    refine ⟨y, _, rfl, h4 rfl, ?_⟩
    have := inD_one (dsub_in h.2 (dom_i ho h.1 hy))
    exact congrArg Value.int ((i2c_ok y).2 this.1 this.2)
  · rw [Bool.and_eq_true] at h
    obtain ⟨y, rfl, hy⟩ := ha.int h.1
    refine ⟨y, _, rfl, h5 rfl, ?_⟩
    have := inD_one (dsub_in h.2 (dom_i ho h.1 hy))
    have e : y = 0 := Int32.toInt_inj.mp (by rw [show (0 : Int32).toInt = 0 from rfl]; omega)
    subst e
    rfl
  · cases h
theorem walkB_ok (hG : GxOk Y G) (hJ : POk G.g G.P J) (H : Hy E Y G J r c mu0 fin ρ0 ρ1 σ0 K M0) {w : Wk} (hw : WS E Y G J r c ρ0 ρ1 σ0 K w) : WS E Y G J r c ρ0 ρ1 σ0 K (walkB G r c mu0 fin w) := by
  intro s f fs ρ σ l v cs h hb hp ho hf hl hs hr
  unfold walkB at h
  rw [frc_eq, frc_eq] at h
  cases hc : (G.g.code f.m).get f.pc with
  | none => rw [hc] at h; cases h
  | some q =>
    obtain ⟨ix, len⟩ := q
    rw [hc] at h
    dsimp only at h
    obtain ⟨d, hfit, hlen⟩ := hG.g.code _ _ _ _ hc
    have gen : ∀ ix' : Ix, decode (Y f.m).2.1 f.pc = .ok (enc ix', len) → ix'.fits (Y f.m).2.2.1 = true → (ix'.len = 0 ∨ ix'.len = len) → St1 E Y G.g G.P (c.ws G.g) (c.wa G.g) (c.wp G.g ρ0) J f.m f.pc len (Kf E Y fs cs K) ix' → (match step1 G.g G.P (c.ws G.g) (c.wa G.g) f.m ix' f.pc (f.pc + len) s f.lv f.st with
      | some L => L.all fun u => goW G c mu0 w u.1 f.m u.2.1 u.2.2.1 u.2.2.2 fs
      | none => false) = true → Wz E (Y f.m) f.pc l v σ (Kf E Y fs cs K) := by
      intro ix' d1 d2 d3 hst hh
      split at hh
      · rename_i L hL
        refine hst s ρ σ f.lv f.st l v L hG.g hJ (fun k p j hj hw => ws_ok ho (H.2.2.2.1.1.tr hp) hj hw) (fun k j hw => wa_ok hw) d1 d2 d3 ho hl hs hL ?_
        intro u hu ρ' σ' l' v' p1 p2 p3 p4 p5
        exact goW_ok hJ H hw (List.all_eq_true.mp hh u hu) hb (hp.tr p1) p2 (hf.tr p3) p4 p5 (hr.mono p1)
      · cases hh
    split at h
    · rename_i y hk
      have e := wkd_1 hk
      subst e
      unfold wb_i at h
      split at h
      · rename_i a q1 q2 q3 t q4 hst hrm
        rw [Bool.and_eq_true] at h
        rw [hst] at hs
        obtain ⟨w1, v1, rfl, ha, hs1⟩ := hs.cons
        cases hs1.nil
        obtain ⟨-, -, m0, m1, m2, m3, m4, m5⟩ := hG.room _ _ _ _ _ _ hrm
        obtain ⟨y, ty, rfl, e1, e2⟩ := retFits_ok ho h.1 ha m1 m2 m4 m5
        cases lenOf (a := 1) hlen (by decide)
        exact z_iret e1 e2 d (retW_ok hJ H hw h.2 hb hp ho hf ha hr)
      · cases h
    · rename_i y hk
      have e := wkd_2 hk
      subst e
      unfold wb_l at h
      split at h
      · rename_i a q1 q2 q3 t q4 hst hrm
        simp only [Bool.and_eq_true] at h
        rw [hst] at hs
        obtain ⟨w1, v1, rfl, ha, hs1⟩ := hs.cons
        cases hs1.nil
        obtain ⟨-, -, m0, m1, m2, m3, m4, m5⟩ := hG.room _ _ _ _ _ _ hrm
        obtain ⟨y, rfl, hy⟩ := ha.long h.1.2
        cases lenOf (a := 1) hlen (by decide)
        exact z_lret (m3 (Nat.eq_of_beq_eq_true h.1.1)) d (retW_ok hJ H hw h.2 hb hp ho hf ha hr)
      · cases h
    · rename_i y hk
      have e := wkd_3 hk
      subst e
      unfold wb_v at h
      split at h
      · rename_i q1 q2 q3 t q4 hst hrm
        rw [Bool.and_eq_true] at h
        rw [hst] at hs
        cases hs.nil
        obtain ⟨-, -, m0, m1, m2, m3, m4, m5⟩ := hG.room _ _ _ _ _ _ hrm
        cases lenOf (a := 1) hlen (by decide)
        exact z_vret (m0 (Nat.eq_of_beq_eq_true h.1)) d (retW_ok hJ H hw h.2 hb hp ho hf (a := none) (rv := none) trivial hr)
      · cases h
    · rename_i x hk
      have e := wkd_4 hk
      subst e
      unfold wb_s at h
      split at h
      · rename_i z k hcl
        obtain ⟨g1, g2, -⟩ := hG.call _ _ _ _ _ (Nat.le_of_ble_eq_true hfit) hcl
        split at h
        · rename_i args rest hpo
          obtain ⟨as, vr, rfl, e2, e3, e4⟩ := pops_ok (as0 := []) hpo hs trivial
          rw [List.append_nil] at e2
          obtain ⟨rm, ⟨c1, c2, c3, c4⟩, c5⟩ := callW_ok hG hJ H hw h hb hp ho hf hl e2 e3 hr
          cases lenOf (a := 3) hlen (by decide)
          exact z_invS (Z := withR (Y z) rm) g1 (g2 rfl) c1 ⟨d, rfl⟩ e4 rfl c2 c3 c4 c5
        · cases h
      · exact gen _ d hfit hlen (st1_all _) h
    · rename_i x hk
      have e := wkd_5 hk
      subst e
      unfold wb_d at h
      split at h
      · rename_i z k hcl
        obtain ⟨g1, -, g3⟩ := hG.call _ _ _ _ _ (Nat.le_of_ble_eq_true hfit) hcl
        obtain ⟨⟨g4, g5⟩, g6⟩ := g3 rfl
        split at h
        · rename_i kb args rest hpo
          split at h
          · rename_i q1 q2 q3 q4 q5 hrm
            rw [Bool.and_eq_true] at h
            obtain ⟨as, vr, rfl, e2, e3, e4⟩ := pops_ok (as0 := []) hpo hs trivial
            rw [List.append_nil] at e2
            obtain ⟨rm, ⟨c1, c2, c3, c4⟩, c5⟩ := callW_ok hG hJ H hw h.2 hb hp ho hf hl e2 e3 hr
            cases as with
            | nil => exact e2.elim
            | cons a0 as =>
              have ha0 : a0 = .ref kb := e2.1
              subst ha0
              cases lenOf (a := 3) hlen (by decide)
              have hq := g6 _ _ _ _ _ hrm
              have h1 := h.1
              rw [Bool.or_eq_true] at h1
              by_cases hs9 : q5 = 1000
              · have hz : (Y z).1.cls = "java/lang/String" := by
                  rcases hq with ⟨q, _⟩ | ⟨_, q⟩
                  · omega
                  · exact q
                rcases h1 with h1 | h1
                · have hkb := Nat.eq_of_beq_eq_true h1
                  rw [← hkb, hs9] at c5 ⊢
                  exact z_invVS (Z := withR (Y z) rm) (i := 0) g1 g4 g5 (by decide) hz c1 ⟨d, rfl⟩ (As := as) (rest := vr) (by simpa using e4) (by simp) c2 c3 c4 c5
                · simp only [Bool.and_eq_true] at h1
                  obtain ⟨i, rfl⟩ := Nat.exists_eq_add_of_le (Nat.le_of_ble_eq_true h1.2.1)
                  have hi : i < 21 := by have := Nat.le_of_ble_eq_true h1.2.2; omega
                  exact z_invVS (Z := withR (Y z) rm) (i := i) g1 g4 g5 hi hz c1 ⟨d, rfl⟩ (As := as) (rest := vr) (by simpa using e4) (by simp) c2 c3 c4 c5
              · rcases hq with ⟨g7, ci, ll, g8, g9, g10⟩ | ⟨q, _⟩
                · have hkb : q5 = kb := by
                    rcases h1 with h1 | h1
                    · exact Nat.eq_of_beq_eq_true h1
                    · rw [Bool.and_eq_true] at h1
                      exact absurd (Nat.eq_of_beq_eq_true h1.1) hs9
                  subst hkb
                  exact z_invV (Z := withR (Y z) rm) g1 g4 g5 g7 g8 g9 g10 c1 ⟨d, rfl⟩ (As := as) (rest := vr) (by simpa using e4) (by simp) c2 c3 c4 c5
                · exact absurd q hs9
          · cases h
        · cases h
      · cases h
    · exact gen _ d hfit hlen (st1_all _) h
end W12
end
