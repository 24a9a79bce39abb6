noncomputable section
/-! ===== THE WALK, 12: hints; contracts out of checks ===== -/
abbrev HOk (G : Gx) (J : Jt) : Prop := ∀ h f s ρ σ, Ok J s ρ σ → ∃ s' ρ', G.hx h f s = some s' ∧ Pre ρ ρ' ∧ Ok J s' ρ' σ
theorem isS_some {α : Type} {o : Option α} (h : isS o = true) : ∃ x, o = some x := by
  cases o with
  | none => cases h
  | some x => exact ⟨x, rfl⟩
theorem edom_dom {s : Sy} {a : AV} {d : Dom} (h : edom s a = some d) : dom s a = d := by
  rcases a with ⟨id, o⟩ | n | ⟨_, _⟩ | _ | _ | ⟨_, _⟩
  · simp only [edom] at h
    simp only [dom]
    cases hl : lk s.env id with
    | none => rw [hl] at h; cases h
    | some e => rw [hl] at h; exact Option.some.inj h
  · exact Option.some.inj h
  · cases h
  · cases h
  · cases h
  · cases h
section W13
variable {J : Jt} {s : Sy} {ρ : List Int} {σ : zS}
theorem sepP_ok (h : Ok J s ρ σ) {a b : Nat × (AV × AV)} (ha : Mf ρ σ a) (hb : Mf ρ σ b) (hk : a.1 = b.1) : ∃ s', sepP s a b = some s' ∧ Ok J s' ρ σ := by
  unfold sepP
  cases hc : (a.2.2.isI && b.2.2.isI) && (dis (dom s a.2.2) (dom s b.2.2) && (isS (edom s a.2.1) && isS (edom s b.2.1))) with
  | false => exact ⟨s, rfl, h⟩
  | true =>
    simp only [Bool.and_eq_true] at hc
    obtain ⟨⟨c1, c2⟩, c3, c4, c5⟩ := hc
    obtain ⟨d1, e1⟩ := isS_some c4
    obtain ⟨d2, e2⟩ := isS_some c5
    obtain ⟨j, a1, a2⟩ := ha.int c1
    obtain ⟨i, b1, b2⟩ := hb.int c2
    have hne : (j : Int) ≠ (i : Int) := by
      intro e
      have : j = i := by omega
      subst this
      rw [hk] at a2
      exact dis_ok c3 (dom_i h c1 a2) (dom_i h c2 b2)
    exact Sy.cut_ok (c := .ne) h a1 b1 (by rw [edom_dom e1]; exact edom_ok h e1 a1) (by rw [edom_dom e2]; exact edom_ok h e2 b1) hne
theorem sepL_ok {a : Nat × (AV × AV)} (ha : Mf ρ σ a) : ∀ {l : List (Nat × (AV × AV))} {s : Sy}, Ok J s ρ σ → (∀ e ∈ l, Mf ρ σ e) → ∃ s', sepL a l s = some s' ∧ Ok J s' ρ σ
  | [], s, h, _ => ⟨s, rfl, h⟩
  | b :: r, s, h, hl => by
    unfold sepL
    have h1 : ∃ s', (bif Nat.beq a.1 b.1 then sepP s a b else some s) = some s' ∧ Ok J s' ρ σ := by
      cases hb : Nat.beq a.1 b.1 with
      | false => exact ⟨s, rfl, h⟩
      | true => exact sepP_ok h ha (hl b (List.mem_cons_self ..)) (Nat.eq_of_beq_eq_true hb)
    obtain ⟨s', e1, h2⟩ := h1
    rw [e1]
    exact sepL_ok ha h2 (fun e he => hl e (List.mem_cons_of_mem _ he))
theorem sepA_ok {k : Nat} {all : List (Nat × (AV × AV))} (hall : ∀ e ∈ all, Mf ρ σ e) : ∀ {l : List (Nat × (AV × AV))} {s : Sy}, Ok J s ρ σ → (∀ e ∈ l, Mf ρ σ e) → ∃ s', sepA k all l s = some s' ∧ Ok J s' ρ σ
  | [], s, h, _ => ⟨s, rfl, h⟩
  | b :: r, s, h, hl => by
    unfold sepA
    have h1 : ∃ s', (bif Nat.beq b.1 k then sepL b all s else some s) = some s' ∧ Ok J s' ρ σ := by
      cases hb : Nat.beq b.1 k with
      | false => exact ⟨s, rfl, h⟩
      | true => exact sepL_ok (hl b (List.mem_cons_self ..)) h hall
    obtain ⟨s', e1, h2⟩ := h1
    rw [e1]
    exact sepA_ok hall h2 (fun e he => hl e (List.mem_cons_of_mem _ he))
theorem hApply_ok {G : Gx} (hJ : POk G.g G.P J) (hX : HOk G J) {f : Fm} : ∀ {l : List (Nat × (Nat × Nat))} {s : Sy} {ρ : List Int}, Ok J s ρ σ → ∃ s' ρ', hApply G f l s = some s' ∧ Pre ρ ρ' ∧ Ok J s' ρ' σ
  | [], s, ρ, h => ⟨s, ρ, rfl, Pre.rf, h⟩
  | q :: r, s, ρ, h => by
    unfold hApply
    split
    · exact hApply_ok hJ hX h
    · obtain ⟨s', e1, h2⟩ := sepA_ok (k := q.2.1) (all := s.me) h.me h h.me
      rw [e1]
      exact hApply_ok hJ hX h2
    · cases hc : isS (G.g.ka.get q.2.1) || Nat.ble 1024 q.2.2 with
      | true => exact hApply_ok hJ hX h
      | false =>
        simp only [cond_false]
        rw [Bool.or_eq_false_iff] at hc
        have hk : G.g.ka.get q.2.1 = none := by
          cases hg : G.g.ka.get q.2.1 with
          | none => rfl
          | some x => rw [hg] at hc; cases hc.1
        have hj : q.2.2 < 1024 := by
          have := hc.2
          rw [← Bool.not_eq_true, Nat.ble_eq] at this
          omega
        obtain ⟨ρ1, p1, o1, -, -⟩ := rdI_ok (k := q.2.1) (j := q.2.2) (p := .c (q.2.2 : Int)) h rfl (hJ.rd s ρ σ q.2.1 (.c (q.2.2 : Int)) q.2.2 h rfl (Or.inl ⟨hk, hj⟩))
        obtain ⟨s', ρ', e2, p2, o2⟩ := hApply_ok hJ hX o1
        exact ⟨s', ρ', e2, p1.tr p2, o2⟩
    · exact hApply_ok hJ hX h
    · exact hApply_ok hJ hX h
    · obtain ⟨s1, ρ1, e1, p1, o1⟩ := hX q f s ρ σ h
      rw [e1]
      obtain ⟨s', ρ', e2, p2, o2⟩ := hApply_ok hJ hX o1
      exact ⟨s', ρ', e2, p1.tr p2, o2⟩
end W13
/-- an end -/
def finC (G : Gx) (c : Ct) (s : Sy) (a : Option AV) : Bool := c.al.any fun al => match mtl (fillm G al.2.me s) al.1 a.toList (ids 0 c.kn.ks) with
  | some t => isS (mta (fillm G al.2.me s) al.2 t)
  | none => false
def entOk (G : Gx) (r : Nat) (args : List AV) : Bool := match G.room.get r with
  | some (_, (_, (nl, _))) => Nat.ble (cats args) nl
  | none => false
/-- the ring of a contract fits -/
def ringOk (G : Gx) (r : Nat) (c : Ct) : Bool := Nat.beq c.rg.1 0 || (Nat.ble c.rg.1 r && (((c.rg.2.1.all fun t => Nat.blt t.1 c.kn.ks.length) && leq c.kn.sy (tlin (-1) c.rg.2.1 []) c.rg.2.2) && (leq c.kn.sy c.rg.2.1 (399 - c.rg.2.2) && (match G.room.get r with
  | some (fr, (lo, _)) => Nat.beq fr 200 && Nat.ble lo 4000
  | none => false))))
def chkE (G : Gx) (n : Nat) (r : Nat) (c : Ct) : Bool := (ringOk G r c && entOk G r c.ar) && goW G c ([], c.big) (walk G r c ([], c.big) (finC G c) n) c.kn.sy r 0 (argLv 0 c.ar) [] []
def chkA (G : Gx) (n : Nat) (r : Nat) (c : Ct) (pc : Nat) (a : An) : Bool := walk G r c a.mu (finC G c) n a.kn.sy ⟨r, pc, a.lv, a.st⟩ []
def chkC (G : Gx) (n : Nat) (r : Nat) (c : Ct) (pc : Nat) (as : List An) : Bool := as.all fun a => chkA G n r c pc a
def chkRoot (G : Gx) (n : Nat) (r : Nat) (c : Ct) : Bool := chkE G n r c && c.cut.all fun pc as => chkC G n r c pc as
section W14
variable {E : xV} {Y : Nat → xY} {G : Gx} {J : Jt} {r : Nat} {c : Ct} {mu0 : Lf × Int} {fin : Sy → Option AV → Bool} {ρ0 ρ1 : List Int} {σ0 : zS} {K : zKt} {M0 : Int}
theorem lrep_ok {ρ : List Int} {i : Nat} {x : AV} : ∀ {lv : List (Nat × AV)} {l : List (Nat × Value)}, Rl ρ lv l → lget lv i = some x → ∃ v, Rv ρ x v ∧ ∀ a, Rv ρ a v → Rl ρ (lrep i a lv) l
  | [], [], _, h => by cases h
  | p :: a, q :: l, ⟨h1, h2⟩, h => by
    rw [lget_cons] at h
    unfold lrep
    cases hb : Nat.beq p.1 i with
    | true =>
      rw [hb] at h
      cases Option.some.inj h
      exact ⟨q.2, h1.2, fun a ha => ⟨⟨h1.1, ha⟩, h2⟩⟩
    | false =>
      rw [hb] at h
      obtain ⟨v, g1, g2⟩ := lrep_ok h2 h
      exact ⟨v, g1, fun a ha => ⟨h1, g2 a ha⟩⟩
  | [], _ :: _, q, _ => q.elim
  | _ :: _, [], q, _ => q.elim
theorem spl4_ok {l : List (Nat × (Nat × Nat))} {lv : List (Nat × AV)} {i b n : Nat} (h : spl4 l lv = some (i, (b, n))) : lget lv i = some (.rr b n) := by
  unfold spl4 at h
  split at h
  · split at h
    · rename_i b' n' hl
      cases Option.some.inj h
      exact hl
    · cases h
  · cases h
theorem sp6_ok {l : List (Nat × (Nat × Nat))} {st : List AV} {a : AV} {e : Nat} (h : sp6 l st = some (a, e)) : ∃ st', st = a :: st' ∧ a.isL = true := by
  unfold sp6 at h
  split at h
  · rename_i h' a' st' _
    cases hc : a'.isL with
    | false => rw [hc] at h; cases h
    | true =>
      rw [hc] at h
      cases h
      exact ⟨_, rfl, hc⟩
  · cases h
theorem walkS_ok (hG : GxOk Y G) (hJ : POk G.g G.P J) (hX : HOk G J) (H : Hy E Y G J r c mu0 fin ρ0 ρ1 σ0 K M0) {w : Wk} (hw : WS E Y G J r c ρ0 ρ1 σ0 K w) : WS E Y G J r c ρ0 ρ1 σ0 K (walkS G r c mu0 fin w) := by
  intro s f fs ρ σ l v cs h hb hp ho hf hl hs hr
  unfold walkS at h
  rw [frc_eq, frc_eq] at h
  split at h
  · exact walkB_ok hG hJ H hw s f fs ρ σ l v cs h hb hp ho hf hl hs hr
  · rename_i hn hh
    obtain ⟨s1, ρ', e1, p1, o1⟩ := hApply_ok hJ hX (f := f) (l := hn) ho
    unfold walkH at h
    rw [e1] at h
    dsimp only at h
    have hl := hl.mono p1
    have hs := hs.mono p1
    have hr := hr.mono p1
    have hp := hp.tr p1
    split at h
    · rename_i i b n h4
      obtain ⟨vv, ⟨q, rfl, q1, q2⟩, g2⟩ := lrep_ok hl (spl4_ok h4)
      have q3 : b ≤ q := q1
      have q4 : q < b + n := q2
      have h1 := List.all_eq_true.mp h (q - b) (List.mem_range.mpr (Nat.sub_lt_left_of_lt_add q3 q4))
      have h2 : Rv ρ' (.r (b + (q - b))) (Value.ref q) := by
        show Value.ref q = Value.ref (b + (q - b))
        rw [Nat.add_sub_of_le q3]
      exact hw s1 ⟨f.m, f.pc, lrep i (.r (b + (q - b))) f.lv, f.st⟩ fs ρ' σ l v cs h1 hb hp o1 hf (g2 _ h2) hs hr
    split at h
    · rename_i a e h6
      obtain ⟨st', hst, haL⟩ := sp6_ok h6
      have hs' := hs
      rw [hst] at hs'
      obtain ⟨w1, v1, rfl, ha9, hs1⟩ := hs'.cons
      obtain ⟨x, rfl, hx⟩ := ha9.long haL
      have hk : inD (sp6C s1 a e) (dom s1 (.k (sp6C s1 a e))) := ⟨_, List.mem_cons_self .., Int.le_refl _, Int.le_refl _⟩
      rw [Bool.and_eq_true] at h
      by_cases q : x.toInt < sp6C s1 a e
      · obtain ⟨s', c1, c2⟩ := Sy.cut_ok (c := .lt) o1 hx (b := .k (sp6C s1 a e)) rfl (dom_l o1 haL hx) hk q
        have h1 := h.1
        rw [c1] at h1
        exact walkB_ok hG hJ H hw s' f fs ρ' σ l _ cs h1 hb hp c2 hf hl hs hr
      · obtain ⟨s', c1, c2⟩ := Sy.cut_ok (c := .ge) o1 hx (b := .k (sp6C s1 a e)) rfl (dom_l o1 haL hx) hk (Int.not_lt.mp q)
        have h1 := h.2
        rw [c1] at h1
        exact walkB_ok hG hJ H hw s' f fs ρ' σ l _ cs h1 hb hp c2 hf hl hs hr
    cases h5 : isSp5 hn with
    | true =>
      rw [h5] at h
      simp only [cond_true] at h
      split at h
      · rename_i b a st' hst
        cases hc : (a.isI && b.isI) || (a.isL && b.isL) with
        | false => rw [hc] at h; cases h
        | true =>
          rw [hc] at h
          simp only [cond_true, Bool.and_eq_true] at h
          have hs' := hs
          rw [hst] at hs'
          obtain ⟨w1, v1, rfl, hb9, hs1⟩ := hs'.cons
          obtain ⟨w2, v2, rfl, ha9, hs2⟩ := hs1.cons
          have hxy : ∃ x y : Int, ev ρ' a = some x ∧ ev ρ' b = some y ∧ inD x (dom s1 a) ∧ inD y (dom s1 b) := by
            rw [Bool.or_eq_true, Bool.and_eq_true, Bool.and_eq_true] at hc
            rcases hc with hc | hc
            · obtain ⟨x, _, hx⟩ := ha9.int hc.1
              obtain ⟨y, _, hy⟩ := hb9.int hc.2
              exact ⟨x.toInt, y.toInt, hx, hy, dom_i o1 hc.1 hx, dom_i o1 hc.2 hy⟩
            · obtain ⟨x, _, hx⟩ := ha9.long hc.1
              obtain ⟨y, _, hy⟩ := hb9.long hc.2
              exact ⟨x.toInt, y.toInt, hx, hy, dom_l o1 hc.1 hx, dom_l o1 hc.2 hy⟩
          obtain ⟨x, y, hx, hy, hdx, hdy⟩ := hxy
          rcases Int.lt_trichotomy x y with q | q | q
          · obtain ⟨s', c1, c2⟩ := Sy.cut_ok (c := .lt) o1 hx hy hdx hdy q
            have h1 := h.1
            rw [c1] at h1
            exact walkB_ok hG hJ H hw s' f fs ρ' σ l _ cs h1 hb hp c2 hf hl hs hr
          · obtain ⟨s', c1, c2⟩ := Sy.cut_ok (c := .eq) o1 hx hy hdx hdy q
            have h1 := h.2.1
            rw [c1] at h1
            exact walkB_ok hG hJ H hw s' f fs ρ' σ l _ cs h1 hb hp c2 hf hl hs hr
          · obtain ⟨s', c1, c2⟩ := Sy.cut_ok (c := .gt) o1 hx hy hdx hdy q
            have h1 := h.2.2
            rw [c1] at h1
            exact walkB_ok hG hJ H hw s' f fs ρ' σ l _ cs h1 hb hp c2 hf hl hs hr
      · cases h
    | false =>
    rw [h5] at h
    simp only [cond_false] at h
    split at h
    · rename_i a st' hst
      cases hc : isSpl hn && (a.isI && many (dom s1 a)) with
      | false => rw [hc] at h; exact walkB_ok hG hJ H hw s1 f fs ρ' σ l v cs h hb hp o1 hf hl hs hr
      | true =>
        rw [hc] at h
        simp only [Bool.and_eq_true] at hc
        simp only [cond_true] at h
        have hs' := hs
        rw [hst] at hs'
        obtain ⟨w1, v1, rfl, ha, hs1⟩ := hs'.cons
        obtain ⟨y, rfl, hy⟩ := ha.int hc.2.1
        have hd := dom_i o1 hc.2.1 hy
        have h1 := List.all_eq_true.mp h y.toInt (enum_in hd)
        obtain ⟨s', c1, c2⟩ := Sy.cut_ok (c := .eq) o1 hy (b := .c y.toInt) rfl hd eqc rfl
        rw [c1] at h1
        exact hw s' f fs ρ' σ l _ cs h1 hb hp c2 hf hl hs hr
    · exact walkB_ok hG hJ H hw s1 f fs ρ' σ l v cs h hb hp o1 hf hl hs hr
theorem walk_ok (hG : GxOk Y G) (hJ : POk G.g G.P J) (hX : HOk G J) (H : Hy E Y G J r c mu0 fin ρ0 ρ1 σ0 K M0) : ∀ n : Nat, WS E Y G J r c ρ0 ρ1 σ0 K (walk G r c mu0 fin n)
  | 0 => by
    intro s f fs ρ σ l v cs h
    cases h
  | n + 1 => walkS_ok hG hJ hX H (walk_ok hG hJ hX H n)
theorem finC_ok (hJ : POk G.g G.P J) {s : Sy} {ρ : List Int} {σ : zS} {a : Option AV} {rv : Option Value} (h : finC G c s a = true) (hp : Pre ρ0 ρ) (hn : ρ0.length = c.kn.ks.length) (ht : Tp ρ0 0 c.kn.ks) (ho : Ok J s ρ σ) (ha : Ra ρ a rv) : ∃ al ∈ c.al, ∃ ρ'', Pre ρ0 ρ'' ∧ Ko J al.2 ρ'' σ ∧ Rs ρ'' al.1 rv.toList := by
  obtain ⟨al, h1, h2⟩ := List.any_eq_true.mp h
  obtain ⟨ρf, pf, of⟩ := fillm_ok hJ (l := al.2.me) ho
  have hs : Rs ρ a.toList rv.toList := by
    cases a with
    | none =>
      cases rv with
      | none => trivial
      | some _ => exact ha.elim
    | some a =>
      cases rv with
      | none => exact ha.elim
      | some v => exact ⟨ha, trivial⟩
  split at h2
  · rename_i t e1
    obtain ⟨th, e2⟩ := isS_some h2
    obtain ⟨d1, x1, r1⟩ := mtl_ok of e1 (ids_df (ht.mono (hp.tr pf))) (hs.mono pf)
    obtain ⟨d2, x2, k2, o2⟩ := mta_ok of e2 d1
    refine ⟨al, h1, vals ρf th, ?_, ⟨o2, mtk_tp d2 k2⟩, r1.mono x2.pre⟩
    have := (x1.tr x2).pre (ρ := ρf)
    rw [ids_pre (hp.tr pf) hn ht] at this
    exact this
  · cases h2
theorem entOk_ok (hG : GxOk Y G) {args : List AV} (h : entOk G r args = true) : plainName (Y r).1.cls = true ∧ cats args ≤ (Y r).2.2.1 := by
  unfold entOk at h
  split at h
  · rename_i q1 q2 nl q3 hr
    obtain ⟨t, q⟩ := q3
    obtain ⟨-, ⟨b5, b6⟩, -⟩ := hG.room _ _ _ _ _ _ hr
    exact ⟨b6, by rw [b5]; exact Nat.le_of_ble_eq_true h⟩
  · cases h
theorem tvo_some {ρ : List Int} {n : Nat} (hn : ρ.length = n) : ∀ {f : Lf}, (f.all fun t => Nat.blt t.1 n) = true → ∃ v, tvo ρ f = some v
  | [], _ => ⟨0, rfl⟩
  | t :: r, h => by
    simp only [List.all_cons, Bool.and_eq_true] at h
    obtain ⟨v, hv⟩ := tvo_some hn h.2
    have h1 : t.1 < ρ.length := by rw [hn]; exact Nat.le_of_ble_eq_true h.1
    refine ⟨t.2 * ρ[t.1] + v, ?_⟩
    simp only [tvo, List.getElem?_eq_getElem h1, hv]
theorem root_ok (hG : GxOk Y G) (hJ : POk G.g G.P J) (hX : HOk G J) (hF : JFr G J) {n : Nat} (hct : ∀ z q, z < lim r c → G.ct.get z = some q → CtOk E Y G J z q) (h : chkE G n r c = true) (h3 : ∀ pc as, c.cut.get pc = some as → ∀ a ∈ as, chkA G n r c pc a = true) {ρ0 : List Int} {σ : zS} {av : List Value} (hko : Ko J c.kn ρ0 σ) (ha : Rs ρ0 c.ar av) (hrg : ∀ z q, G.ct.get z = some q → mate c q = true → ∃ m R, tvo ρ0 c.rg.2.1 = some m ∧ (200 + R + 1 ≤ (Y r).2.2.2.2.frames ∧ 4000 + 40 * R + 40 ≤ (Y r).2.2.2.2.locals) ∧ CtOkN E Y G J R (m + c.rg.2.2) z q) : Cz E (Y r) av σ (fun r σ' => Fr (c.wp G.g ρ0) σ σ' ∧ ∃ al ∈ c.al, ∃ ρ'', Pre ρ0 ρ'' ∧ Ko J al.2 ρ'' σ' ∧ Rs ρ'' al.1 r.toList) := by
  unfold chkE at h
  rw [Bool.and_eq_true, Bool.and_eq_true] at h
  obtain ⟨⟨_, h1⟩, h2⟩ := h
  obtain ⟨e1, e2⟩ := entOk_ok hG h1
  have hlen : ρ0.length = c.kn.ks.length := hko.1.len
  have hcut : ∀ (N : Nat) (pc : Nat) (as : List An), c.cut.get pc = some as → ∀ a ∈ as, ∀ (ρ' : List Int) (σ' : zS) (l : List (Nat × Value)) (v : List Value) (m : Int), Pre ρ0 ρ' → Ko J a.kn ρ' σ' → Rl ρ' a.lv l → Rs ρ' a.st v → Fr (c.wp G.g ρ0) σ σ' → tvo ρ' a.mu.1 = some m → 0 ≤ m + a.mu.2 → m + a.mu.2 < N → Wz E (Y r) pc l v σ' (fun r σ' => Fr (c.wp G.g ρ0) σ σ' ∧ ∃ al ∈ c.al, ∃ ρ'', Pre ρ0 ρ'' ∧ Ko J al.2 ρ'' σ' ∧ Rs ρ'' al.1 r.toList) := by
    intro N
    induction N with
    | zero => intro pc as _ a _ ρ' σ' l v m _ _ _ _ _ _ q1 q2; omega
    | succ N ih =>
      intro pc as hc a haa ρ' σ' l v m k0 k1 k2 k3 k4 k5 k6 k7
      have hwk := h3 pc as hc a haa
      have H : Hy E Y G J r c a.mu (finC G c) ρ0 ρ' σ (fun r σ' => Fr (c.wp G.g ρ0) σ σ' ∧ ∃ al ∈ c.al, ∃ ρ'', Pre ρ0 ρ'' ∧ Ko J al.2 ρ'' σ' ∧ Rs ρ'' al.1 r.toList) (m + a.mu.2) :=
        ⟨⟨hct, hrg, hF⟩, fun pc2 as2 hc2 a2 ha2 ρ2 σ2 l2 v2 m2 g0 g1 g2 g3 g4 g5 g6 g7 => ih pc2 as2 hc2 a2 ha2 ρ2 σ2 l2 v2 m2 g0 g1 g2 g3 g4 g5 g6 (by omega), ⟨m, k5, rfl⟩, ⟨k0, hlen, hko.2⟩, fun s ρ σ2 a2 rv q1 q2 q3 q4 q5 => ⟨q4, finC_ok hJ q1 (k0.tr q2) hlen hko.2 q3 q5⟩⟩
      exact walk_ok hG hJ hX H n a.kn.sy ⟨r, pc, a.lv, a.st⟩ [] ρ' σ' l v [] hwk rfl Pre.rf k1.1 k4 k2 k3 trivial
  refine z_entry e1 (fun a => by rw [sl_len, cats_ok ha]; exact e2) rfl ?_
  have H : Hy E Y G J r c ([], c.big) (finC G c) ρ0 ρ0 σ (fun r σ' => Fr (c.wp G.g ρ0) σ σ' ∧ ∃ al ∈ c.al, ∃ ρ'', Pre ρ0 ρ'' ∧ Ko J al.2 ρ'' σ' ∧ Rs ρ'' al.1 r.toList) c.big :=
    ⟨⟨hct, hrg, hF⟩, fun pc2 as2 hc2 a2 ha2 ρ2 σ2 l2 v2 m2 g0 g1 g2 g3 g4 g5 g6 g7 => hcut c.big.toNat pc2 as2 hc2 a2 ha2 ρ2 σ2 l2 v2 m2 g0 g1 g2 g3 g4 g5 g6 (by omega), ⟨0, rfl, by simp⟩, ⟨Pre.rf, hlen, hko.2⟩, fun s ρ σ2 a2 rv q1 q2 q3 q4 q5 => ⟨q4, finC_ok hJ q1 q2 hlen hko.2 q3 q5⟩⟩
  exact goW_ok hJ H (walk_ok hG hJ hX H n) h2 rfl Pre.rf hko.1 Fr.rf (argLv_ok ha) trivial (cs := []) trivial
/-- a contract is checked: its beginning, its cuts -/
def Chk (G : Gx) (n : Nat) (r : Nat) (c : Ct) : Prop := chkE G n r c = true ∧ ∀ pc as, c.cut.get pc = some as → ∀ a ∈ as, chkA G n r c pc a = true
theorem Chk.of {n : Nat} (h : chkRoot G n r c = true) : Chk G n r c := by
  unfold chkRoot at h
  rw [Bool.and_eq_true] at h
  exact ⟨h.1, fun pc as hc a ha => List.all_eq_true.mp ((BT.all_P h.2).at hc) a ha⟩
/-- method r with another room -/
def yrep (Y : Nat → xY) (r R : Nat) : Nat → xY := fun m => if m = r then withR (Y m) (rmN R) else Y m
theorem withR_rep {Y : Nat → xY} {r R m : Nat} {rm : Room} : withR (yrep Y r R m) rm = withR (Y m) rm := by
  unfold yrep
  split <;> rfl
theorem gx_rep (hG : GxOk Y G) {r R lo : Nat} {w : Nat × (Nat × Nat)} (hr : G.room.get r = some (200, (lo, w))) (hlo : lo ≤ 4000) (hR : R ≤ 400) : GxOk (yrep Y r R) G := by
  have e1 : ∀ m, (yrep Y r R m).1 = (Y m).1 := fun m => by unfold yrep; split <;> rfl
  have e2 : ∀ m, (yrep Y r R m).2.1 = (Y m).2.1 := fun m => by unfold yrep; split <;> rfl
  have e3 : ∀ m, (yrep Y r R m).2.2.1 = (Y m).2.2.1 := fun m => by unfold yrep; split <;> rfl
  have e4 : ∀ m, (yrep Y r R m).2.2.2.1 = (Y m).2.2.2.1 := fun m => by unfold yrep; split <;> rfl
  have er : yrep Y r R r = withR (Y r) (rmN R) := if_pos rfl
  have en : ∀ m, m ≠ r → yrep Y r R m = Y m := fun m h => if_neg h
  obtain ⟨⟨g1, g2, g3, g4, g5, g6, g7, g8, g9, g10, g11⟩, g12, g13⟩ := hG
  refine ⟨⟨fun m => ?_, fun m => by rw [e1]; exact g2 m, fun m => by rw [e2, e3]; exact g3 m, fun m => by rw [e1]; exact g4 m, fun m => by rw [e1]; exact g5 m, fun m => by rw [e1]; exact g6 m, g7, g8, g9, fun m => by rw [e1]; exact g10 m, fun m => by rw [e1]; exact g11 m⟩, fun m fr lo' nl' t' q' hm => ?_, fun m x z k b hx hc => ?_⟩
  · by_cases h : m = r
    · subst h
      rw [er]
      exact ⟨by show 1 ≤ 200 + R; omega, by show 40 ≤ 4000 + 40 * R; omega⟩
    · rw [en m h]
      exact g1 m
  · by_cases h : m = r
    · subst h
      have hm2 := hm
      rw [hr] at hm2
      cases hm2
      obtain ⟨-, g⟩ := g12 _ _ _ _ _ _ hm
      rw [er]
      exact ⟨⟨⟨by show 200 ≤ 200 + R; omega, by show lo ≤ 4000 + 40 * R; omega⟩, ⟨fun q => absurd rfl q, fun _ => ⟨by show 200 + R ≤ 600; omega, by show 4000 + 40 * R ≤ 20000; omega⟩⟩, rfl, rfl⟩, g⟩
    · rw [en m h]
      exact g12 _ _ _ _ _ _ hm
  · have := g13 m x z k b hx hc
    unfold xM at this ⊢
    rw [e1 m, e1 z, e2 z, e3 z, e4 z]
    exact this
/-- contracts all: by checks, or by hand -/
theorem all_ok (hG : GxOk Y G) (hJ : POk G.g G.P J) (hX : HOk G J) (hF : JFr G J) {n : Nat} (hY : ∀ r c, G.ct.get r = some c → c.rg.1 ≠ 0 → (Y r).2.2.2.2 = rmN 400) (h : ∀ r c, G.ct.get r = some c → Chk G n r c ∨ (c.rg.1 = 0 ∧ ((∀ z q, z < r → G.ct.get z = some q → CtOk E Y G J z q) → CtOk E Y G J r c))) : ∀ r c, G.ct.get r = some c → CtOk E Y G J r c := by
  intro r
  induction r using Nat.strongRecOn with
  | ind r ih =>
    intro c hc
    rcases h r c hc with ⟨h1, h2⟩ | ⟨_, h1⟩
    · by_cases hb : c.rg.1 = 0
      · have hlim : lim r c = r := by unfold lim; rw [hb]; rfl
        intro ρ0 σ av hko ha
        refine root_ok hG hJ hX hF (fun z q hz hq => ih z (by rw [hlim] at hz; exact hz) q hq) h1 h2 hko ha (fun z q _ hm => ?_)
        unfold mate at hm
        rw [Bool.and_eq_true] at hm
        have e1 := Nat.eq_of_beq_eq_true hm.1
        have e2 := Nat.le_of_ble_eq_true hm.2
        omega
      · have ring : ∀ (z : Nat) (q : Ct), Chk G n z q → q.rg.1 = c.rg.1 → q.rg.1 ≤ z ∧ ((q.rg.2.1.all fun t => Nat.blt t.1 q.kn.ks.length) = true ∧ leq q.kn.sy (tlin (-1) q.rg.2.1 []) q.rg.2.2 = true) ∧ leq q.kn.sy q.rg.2.1 (399 - q.rg.2.2) = true ∧ ∃ lo w, G.room.get z = some (200, (lo, w)) ∧ lo ≤ 4000 := by
          intro z q hq he
          have := hq.1
          unfold chkE at this
          rw [Bool.and_eq_true, Bool.and_eq_true] at this
          have := this.1.1
          unfold ringOk at this
          rw [Bool.or_eq_true] at this
          rcases this with q1 | q1
          · exact absurd (Nat.eq_of_beq_eq_true q1) (by rw [he]; exact hb)
          · simp only [Bool.and_eq_true] at q1
            obtain ⟨q1, ⟨q2, q3⟩, q4, q5⟩ := q1
            refine ⟨Nat.le_of_ble_eq_true q1, ⟨q2, q3⟩, q4, ?_⟩
            split at q5
            · rename_i fr lo w hrm
              rw [Bool.and_eq_true] at q5
              have e := Nat.eq_of_beq_eq_true q5.1
              subst e
              exact ⟨lo, w, hrm, Nat.le_of_ble_eq_true q5.2⟩
            · cases q5
        obtain ⟨r1, ⟨r2, r3⟩, r4, -⟩ := ring r c ⟨h1, h2⟩ rfl
        have key : ∀ (N : Nat), N ≤ 400 → ∀ (z : Nat) (q : Ct), G.ct.get z = some q → q.rg.1 = c.rg.1 → CtOkN E Y G J N (N : Int) z q := by
          intro N
          induction N with
          | zero => intro _ z q _ _ ρ' σ av m _ _ _ q1 q2; omega
          | succ N ihN =>
            intro hN z q hz he ρ' σ av m hko ha hm m1 m2
            rcases h z q hz with ⟨g1, g2⟩ | ⟨g1, _⟩
            · have hlim : lim z q = c.rg.1 := by
                unfold lim
                cases hq : Nat.beq q.rg.1 0 with
                | true => exact absurd (Nat.eq_of_beq_eq_true hq) (by rw [he]; exact hb)
                | false => exact he
              obtain ⟨s1, -, -, lo, w, s2, s3⟩ := ring z q ⟨g1, g2⟩ he
              have er : yrep Y z (N + 1) z = withR (Y z) (rmN (N + 1)) := if_pos rfl
              have := root_ok (Y := yrep Y z (N + 1)) (gx_rep hG s2 s3 hN) hJ hX hF (fun z' q' hz' hq' => by
                have e : yrep Y z (N + 1) z' = Y z' := if_neg (by omega)
                unfold CtOk
                rw [e]
                exact ih z' (by omega) q' hq') g1 g2 hko ha (fun z' q' hz' hm' => ⟨m, N, hm, by rw [er]; exact ⟨by show 200 + N + 1 ≤ 200 + (N + 1); omega, by show 4000 + 40 * N + 40 ≤ 4000 + 40 * (N + 1); omega⟩, ?_⟩)
              · rw [er] at this
                exact this
              · unfold mate at hm'
                rw [Bool.and_eq_true] at hm'
                intro ρ2 σ2 av2 m' k1 k2 k3 k4 k5
                rw [withR_rep]
                exact ihN (by omega) z' q' hz' ((Nat.eq_of_beq_eq_true hm'.1).trans he) ρ2 σ2 av2 m' k1 k2 k3 k4 (by omega)
            · exact absurd (he.symm.trans g1) hb
        intro ρ0 σ av hko ha
        obtain ⟨m, hm⟩ := tvo_some (ρ := ρ0) hko.1.len r2
        have h0 := leq_ok hko.1 r3 (neg_tvo hm)
        have h9 := leq_ok hko.1 r4 hm
        have hk := key 400 (Nat.le_refl _) r c hc rfl ρ0 σ av m hko ha hm (by omega) (by omega)
        have ey : withR (Y r) (rmN 400) = Y r := by rw [← hY r c hc hb]; rfl
        rw [ey] at hk
        exact hk
    · exact h1 (fun z q hz hq => ih z hz q hq)
end W14
end
