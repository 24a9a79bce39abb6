section
noncomputable section
/-! ===== PRODUCTS, 3: two sides, each with cells of its own ===== -/
/-- from frames cs (none: ended with rv) a side comes to r, σ', whatever the other side's cells hold -/
def Ex (E : xV) (Y : Nat → xY) (D : Nat → Bool) (cs : List CF) (rv : Option Value) (σ : zS) (r : Option Value) (σ' : zS) : Prop := match cs with
  | [] => r = rv ∧ σ' = σ
  | c :: cs => agD D σ σ' ∧ ∀ τ K, K r (mixD D σ' τ) → Rn E Y (c :: cs) (mixD D σ τ) K
abbrev K2t : Type := Option Value → Option Value → zS → Prop
def dN (D : Nat → Bool) : Nat → Bool := fun k => !(D k)
def PP (E : xV) (Y : Nat → xY) (D : Nat → Bool) (hc : List CF) (hr : Option Value) (mc : List CF) (mr : Option Value) (σ : zS) (K2 : K2t) : Prop := ∃ rH σ1 rM σ2, Ex E Y D hc hr σ rH σ1 ∧ Ex E Y (dN D) mc mr σ1 rM σ2 ∧ K2 rH rM σ2
section P9
variable {E : xV} {Y : Nat → xY} {D : Nat → Bool} {σ σ' τ : zS}
theorem mix_ag (h : ∀ k, D k = true → σ'.1 k = σ.1 k ∧ σ'.2 k = σ.2 k) : mixD D σ' τ = mixD D σ τ := by
  unfold mixD
  refine Prod.ext (funext fun k => ?_) (funext fun k => ?_)
  · dsimp only
    cases hk : D k with
    | true => simp only [cond_true]; exact (h k hk).1
    | false => rfl
  · dsimp only
    cases hk : D k with
    | true => simp only [cond_true]; exact (h k hk).2
    | false => rfl
theorem mix_self (h : agD D σ σ') : mixD D σ' σ = σ' := by
  unfold mixD
  refine Prod.ext (funext fun k => ?_) (funext fun k => ?_)
  · dsimp only
    cases hk : D k with
    | true => rfl
    | false => simp only [cond_false]; exact (h k hk).1.symm
  · dsimp only
    cases hk : D k with
    | true => rfl
    | false => simp only [cond_false]; exact (h k hk).2.symm
theorem mix_in {k : Nat} (h : D k = true) : (mixD D σ τ).1 k = σ.1 k ∧ (mixD D σ τ).2 k = σ.2 k := ⟨mix1 h, mix2 h⟩
theorem mix_out {k : Nat} (h : D k = false) : (mixD D σ τ).1 k = τ.1 k ∧ (mixD D σ τ).2 k = τ.2 k := by
  unfold mixD
  simp only [h, cond_false, and_self]
theorem dN_t {k : Nat} (h : dN D k = true) : D k = false := by
  have h : (!(D k)) = true := h
  cases hk : D k with
  | true => rw [hk] at h; cases h
  | false => rfl
theorem dN_f {k : Nat} (h : dN D k = false) : D k = true := by
  have h : (!(D k)) = false := h
  cases hk : D k with
  | true => rfl
  | false => rw [hk] at h; cases h
theorem dN_of {k : Nat} (h : D k = true) : dN D k = false := by
  show (!(D k)) = false
  rw [h]; rfl
theorem PP.qlH {mc : List CF} {mr : Option Value} {K2 : K2t} : QLp E Y D (fun cs rv σ => PP E Y D cs rv mc mr σ K2) := by
  refine ⟨fun c cs f fs σ σ' h1 h2 h3 => ?_, fun c cs r σ h1 h3 => ?_⟩
  · obtain ⟨rH, σ1, rM, σ2, ⟨a1, a2⟩, b, k⟩ := h3
    exact ⟨rH, σ1, rM, σ2, ⟨h1.tr a1, fun τ K q => h2 τ K (a2 τ K q)⟩, b, k⟩
  · obtain ⟨rH, σ1, rM, σ2, ⟨a1, a2⟩, b, k⟩ := h3
    subst a1
    subst a2
    exact ⟨rH, σ1, rM, σ2, ⟨agD.rf, h1⟩, b, k⟩
/-- what the other side holds is untouched -/
theorem Ex.off {cs : List CF} {rv r : Option Value} (h : Ex E Y D cs rv σ r σ') : agD D σ σ' := by
  cases cs with
  | nil => obtain ⟨_, rfl⟩ := h; exact agD.rf
  | cons _ _ => exact h.1
theorem PP.qlM {hc : List CF} {hr : Option Value} {K2 : K2t} : QLp E Y (dN D) (fun cs rv σ => PP E Y D hc hr cs rv σ K2) := by
  refine ⟨fun c cs f fs σ σ' h1 h2 h3 => ?_, fun c cs r σ h1 h3 => ?_⟩
  · obtain ⟨rH, σ1', rM, σ2, e1, ⟨a2, e2⟩, k⟩ := h3
    have hin : ∀ k, D k = true → σ'.1 k = σ.1 k ∧ σ'.2 k = σ.2 k := fun k hk => h1 k (dN_of hk)
    refine ⟨rH, mixD D σ1' σ, rM, σ2, ?_, ⟨fun k hk => ?_, fun τ K q => ?_⟩, k⟩
    · cases hc with
      | nil =>
        obtain ⟨q1, q2⟩ := e1
        refine ⟨q1, ?_⟩
        rw [q2, mix_ag hin]
        exact mix_self agD.rf
      | cons c0 cs0 =>
        obtain ⟨q1, q2⟩ := e1
        refine ⟨fun k hk => mix_out hk, fun τ K q => ?_⟩
        have e3 : mixD D (mixD D σ1' σ) τ = mixD D σ1' τ := mix_ag (fun k hk => mix_in hk)
        rw [e3] at q
        have := q2 τ K q
        rw [mix_ag hin] at this
        exact this
    · have hk' := dN_f hk
      have := a2 k hk
      exact ⟨this.1.trans (mix_in (τ := σ) hk').1.symm, this.2.trans (mix_in (τ := σ) hk').2.symm⟩
    · have e3 : mixD (dN D) (mixD D σ1' σ) τ = mixD (dN D) σ τ := mix_ag (fun k hk => mix_out (dN_t hk))
      rw [e3]
      refine h2 τ K ?_
      have e4 : mixD (dN D) σ1' τ = mixD (dN D) σ' τ := mix_ag (fun k hk => e1.off k (dN_t hk))
      rw [← e4]
      exact e2 τ K q
  · obtain ⟨rH, σ1, rM, σ2, e1, ⟨a1, a2⟩, k⟩ := h3
    subst a1
    subst a2
    refine ⟨rH, σ2, rM, σ2, e1, ⟨agD.rf, fun τ K q => ?_⟩, k⟩
    have e3 : mixD (dN D) σ2 τ = mixD (dN D) σ τ := mix_ag (fun k hk => e1.off k (dN_t hk))
    rw [e3] at q ⊢
    exact h1 τ K q
/-- fewer locals -/
def Sb : List CF → List CF → Prop
  | [], [] => True
  | c :: cs, d :: ds => (((c.1 = d.1 ∧ c.2.1 = d.2.1) ∧ c.2.2.2 = d.2.2.2) ∧ ∃ ks, lv_pick c.2.2.1 ks = d.2.2.1) ∧ Sb cs ds
  | _, _ => False
theorem Kc_sub {K : zKt} : ∀ {cs ds : List CF}, Sb cs ds → ∀ (r : Option Value) (σ : zS), Kc E Y ds K r σ → Kc E Y cs K r σ
  | [], [], _, _, _, q => q
  | c :: cs, d :: ds, ⟨⟨⟨⟨h1, h2⟩, h3⟩, ks, h4⟩, h5⟩, r, σ, q => by
    show Wz E (Y c.1) c.2.1 c.2.2.1 (r.toList ++ c.2.2.2) σ (Kc E Y cs K)
    rw [h1, h2, h3]
    exact z_sub ks h4 (Wz.mono q (fun v σ' h => Kc_sub h5 v σ' h))
  | [], _ :: _, h, _, _, _ => h.elim
  | _ :: _, [], h, _, _, _ => h.elim
theorem Rn_sub {K : zKt} {c d : CF} {cs ds : List CF} (h : Sb (c :: cs) (d :: ds)) (q : Rn E Y (d :: ds) σ K) : Rn E Y (c :: cs) σ K := by
  obtain ⟨⟨⟨⟨h1, h2⟩, h3⟩, ks, h4⟩, h5⟩ := h
  show Wz E (Y c.1) c.2.1 c.2.2.1 c.2.2.2 σ (Kc E Y cs K)
  rw [h1, h2, h3]
  exact z_sub ks h4 (Wz.mono q (fun v σ' h => Kc_sub h5 v σ' h))
theorem ql_sub {Q : Qt} (hQ : QLp E Y D Q) {cs ds : List CF} (h : Sb cs ds) {rv : Option Value} (hn : cs ≠ [] → rv = none) (q : Q ds rv σ) : Q cs rv σ := by
  cases cs with
  | nil =>
    cases ds with
    | nil => exact q
    | cons _ _ => exact h.elim
  | cons c cs =>
    cases ds with
    | nil => exact h.elim
    | cons d ds =>
      have e := hn (fun e => by cases e)
      subst e
      exact hQ.1 c cs d ds σ σ agD.rf (fun τ K q => Rn_sub h q) q
end P9
/-- frames met by a pattern -/
def mfr (s : Sy) : List Fm → List Fm → List AV → Option (List AV)
  | [], [], th => some th
  | p :: ps, f :: fs, th => bif Nat.beq p.pc f.pc && Nat.beq p.m f.m then (match mtv s f.lv p.lv th with
    | some t1 => match mtl s p.st f.st t1 with
      | some t2 => mfr s ps fs t2
      | none => none
    | none => none) else none
  | _, _, _ => none
theorem mfr_ok {J : Jt} {s : Sy} {ρ : List Int} {σ : zS} (h : Ok J s ρ σ) : ∀ {ps fs : List Fm} {cs : List CF} {th th' : List AV}, mfr s ps fs th = some th' → Df ρ th → Rg ρ fs cs → ∃ ds, Df ρ th' ∧ Ext th th' ∧ Rg (vals ρ th') ps ds ∧ Sb cs ds
  | [], [], cs, th, th', e, hd, hr => by
    cases Option.some.inj e
    cases cs with
    | nil => exact ⟨[], hd, Ext.rf, trivial, trivial⟩
    | cons _ _ => exact hr.elim
  | p :: ps, f :: fs, cs, th, th', e, hd, hr => by
    cases cs with
    | nil => exact hr.elim
    | cons c cs =>
      obtain ⟨⟨⟨e1, e2⟩, hl, hs⟩, hr⟩ := hr
      unfold mfr at e
      cases hb : Nat.beq p.pc f.pc && Nat.beq p.m f.m with
      | false => rw [hb] at e; cases e
      | true =>
        rw [hb] at e
        simp only [cond_true] at e
        rw [Bool.and_eq_true] at hb
        have b1 := Nat.eq_of_beq_eq_true hb.1
        have b2 := Nat.eq_of_beq_eq_true hb.2
        split at e
        · rename_i t1 m1
          obtain ⟨ks, l', k1, d1, x1, r1⟩ := mtv_ok h hl m1 hd
          split at e
          · rename_i t2 m2
            obtain ⟨d2, x2, r2⟩ := mtl_ok h m2 d1 hs
            obtain ⟨ds, d3, x3, r3, b3⟩ := mfr_ok h e d2 hr
            exact ⟨(c.1, (c.2.1, (l', c.2.2.2))) :: ds, d3, (x1.tr x2).tr x3, ⟨⟨⟨b2.trans e1, b1.trans e2⟩, r1.mono (x2.tr x3).pre, r2.mono x3.pre⟩, r3⟩, ⟨⟨⟨rfl, rfl⟩, rfl⟩, ks, k1⟩, b3⟩
          · cases e
        · cases e
  | [], _ :: _, _, _, _, e, _, _ => by cases e
  | _ :: _, [], _, _, _, e, _, _ => by cases e
theorem Ra.rs {ρ : List Int} : ∀ {a : Option AV} {v : Option Value}, Ra ρ a v → Rs ρ a.toList v.toList
  | none, none, _ => trivial
  | some _, some _, q => ⟨q, trivial⟩
  | none, some _, q => q.elim
  | some _, none, q => q.elim
theorem Ra.of {ρ : List Int} : ∀ {a : Option AV} {v : Option Value}, Rs ρ a.toList v.toList → Ra ρ a v
  | none, none, _ => trivial
  | some _, some _, q => q.1
  | none, some _, q => q.elim
  | some _, none, q => q.elim
/-- where both sides stand: frames or an answer of each; what is known; what falls; which sides go on from here -/
abbrev A2 : Type := (List Fm × Option AV) × ((List Fm × Option AV) × (Kn × ((Lf × Int) × (Bool × Bool))))
abbrev A2.hf (a : A2) : List Fm := a.1.1
abbrev A2.hr (a : A2) : Option AV := a.1.2
abbrev A2.mf (a : A2) : List Fm := a.2.1.1
abbrev A2.mr (a : A2) : Option AV := a.2.1.2
abbrev A2.kn (a : A2) : Kn := a.2.2.1
abbrev A2.mu (a : A2) : Lf × Int := a.2.2.2.1
abbrev A2.rh (a : A2) : Bool := a.2.2.2.2.1
abbrev A2.rm (a : A2) : Bool := a.2.2.2.2.2
def arr2 (G : Gx) (s0 : Sy) (hf : List Fm) (hr : Option AV) (mf : List Fm) (mr : Option AV) (mu0 : Lf × Int) (a : A2) : Bool :=
  let s := fillm G a.kn.me s0
  match mfr s a.hf hf [] with
  | some t1 => match mtl s a.hr.toList hr.toList t1 with
    | some t2 => match mfr s a.mf mf t2 with
      | some t3 => match mtl s a.mr.toList mr.toList t3 with
        | some t4 => match mta s a.kn t4 with
          | some th => falls s th mu0 a.mu
          | none => false
        | none => false
      | none => false
    | none => false
  | none => false
/-- the whole: hints; where the sides stop; where they meet; the end; are the answers to be the same -/
abbrev Pc : Type := BT (List (Nat × (Nat × Nat))) × (List Lb × (List Lb × (List A2 × (Al × (Bool × (Sct × Sct))))))
abbrev Pc.hint (C : Pc) : BT (List (Nat × (Nat × Nat))) := C.1
abbrev Pc.ch (C : Pc) : List Lb := C.2.1
abbrev Pc.cm (C : Pc) : List Lb := C.2.2.1
abbrev Pc.an (C : Pc) : List A2 := C.2.2.2.1
abbrev Pc.al (C : Pc) : Al := C.2.2.2.2.1
abbrev Pc.eq (C : Pc) : Bool := C.2.2.2.2.2.1
abbrev Pc.sh (C : Pc) : Sct := C.2.2.2.2.2.2.1
abbrev Pc.sm (C : Pc) : Sct := C.2.2.2.2.2.2.2
def fin2 (G : Gx) (C : Pc) (s : Sy) (hr mr : Option AV) : Bool := match hr, mr with
  | some a, some b => (((a.isI && b.isI) || (a.isL && b.isL)) && (!(C.eq) || eqv s a b)) && (match mtl (fillm G C.al.2.me s) C.al.1 [b] [] with
    | some t => isS (mta (fillm G C.al.2.me s) C.al.2 t)
    | none => false)
  | _, _ => false
def met2 (G : Gx) (C : Pc) (mu0 : Lf × Int) (s : Sy) (hf : List Fm) (hr : Option AV) (mf : List Fm) (mr : Option AV) : Bool := bif infe s then true else bif isNil hf && isNil mf then fin2 G C s hr mr else C.an.any fun a => arr2 G s hf hr mf mr mu0 a
def ktM (G : Gx) (C : Pc) (mu0 : Lf × Int) (hf : List Fm) (hr : Option AV) : Kont := fun s _ mf mr => met2 G C mu0 s hf hr mf mr
def ktH (G : Gx) (C : Pc) (D : Nat → Bool) (n : Nat) (mu0 : Lf × Int) (rm : Bool) (mf : List Fm) (mr : Option AV) : Kont := fun s mm hf hr => bif rm || (isNil hf && !(isNil mf)) then walkP G (dN D, (C.hint, (C.cm, C.sm))) (ktM G C mu0 hf hr) n s mm mf else met2 G C mu0 s hf hr mf mr
def chk2 (G : Gx) (C : Pc) (D : Nat → Bool) (n : Nat) (a : A2) : Bool := bif a.rh then (isNil a.mr.toList || isNil a.mf) && walkP G (D, (C.hint, (C.ch, C.sh))) (ktH G C D n a.mu a.rm a.mf a.mr) n a.kn.sy [] a.hf else walkP G (dN D, (C.hint, (C.cm, C.sm))) (ktM G C a.mu a.hf a.hr) n a.kn.sy [] a.mf
/-- a side that has frames has no answer -/
def sdOk (a : A2) : Bool := (isNil a.hf || isNil a.hr.toList) && (isNil a.mf || isNil a.mr.toList)
section P10
variable {E : xV} {Y : Nat → xY} {G : Gx} {J : Jt} {D : Nat → Bool} {C : Pc} {K2 : K2t}
theorem falls2_ok {s : Sy} {ρ : List Int} {σ : zS} (h : Ok J s ρ σ) {th : List AV} {mu0 mu : Lf × Int} {M : Int} (hd : Df ρ th) (hf : falls s th mu0 mu = true) (hM : tvo ρ mu0.1 = some M) : ∃ v, tvo (vals ρ th) mu.1 = some v ∧ 0 ≤ v + mu.2 ∧ v + mu.2 < M + mu0.2 := falls_ok h hd hf hM
theorem arr2_ok (hJ : POk G.g G.P J) {s : Sy} {ρ : List Int} {σ : zS} (h : Ok J s ρ σ) {hf mf : List Fm} {hr mr : Option AV} {mu0 : Lf × Int} {a : A2} {hc mc : List CF} {hv mv : Option Value} {M : Int} (ha : arr2 G s hf hr mf mr mu0 a = true) (h1 : Rg ρ hf hc) (h2 : Ra ρ hr hv) (h3 : Rg ρ mf mc) (h4 : Ra ρ mr mv) (hM : tvo ρ mu0.1 = some M) : ∃ ρ' hc' mc' m, Ko J a.kn ρ' σ ∧ (Rg ρ' a.hf hc' ∧ Ra ρ' a.hr hv) ∧ (Rg ρ' a.mf mc' ∧ Ra ρ' a.mr mv) ∧ (Sb hc hc' ∧ Sb mc mc') ∧ tvo ρ' a.mu.1 = some m ∧ 0 ≤ m + a.mu.2 ∧ m + a.mu.2 < M + mu0.2 := by
  unfold arr2 at ha
  dsimp only at ha
  obtain ⟨ρf, pf, of⟩ := fillm_ok hJ (l := a.kn.me) h
  replace h1 := h1.mono pf
  replace h2 := h2.mono pf
  replace h3 := h3.mono pf
  replace h4 := h4.mono pf
  replace hM := tvo.mono pf hM
  split at ha
  · rename_i t1 e1
    obtain ⟨hc', d1, x1, r1, b1⟩ := mfr_ok of e1 (fun b hb => by cases hb) h1
    split at ha
    · rename_i t2 e2
      obtain ⟨d2, x2, r2⟩ := mtl_ok of e2 d1 h2.rs
      split at ha
      · rename_i t3 e3
        obtain ⟨mc', d3, x3, r3, b3⟩ := mfr_ok of e3 d2 h3
        split at ha
        · rename_i t4 e4
          obtain ⟨d4, x4, r4⟩ := mtl_ok of e4 d3 h4.rs
          split at ha
          · rename_i th e5
            obtain ⟨d5, x5, k5, o5⟩ := mta_ok of e5 d4
            obtain ⟨m, m1, m2, m3⟩ := falls_ok of d5 ha hM
            exact ⟨vals ρf th, hc', mc', m, ⟨o5, mtk_tp d5 k5⟩, ⟨r1.mono (((x2.tr x3).tr x4).tr x5).pre, Ra.of (r2.mono ((x3.tr x4).tr x5).pre)⟩, ⟨r3.mono (x4.tr x5).pre, Ra.of (r4.mono x5.pre)⟩, ⟨b1, b3⟩, m1, m2, m3⟩
          · cases ha
        · cases ha
      · cases ha
    · cases ha
  · cases ha
/-- what the end gives -/
def F2 (J : Jt) (G : Gx) (C : Pc) (K2 : K2t) : Prop := ∀ (s : Sy) (ρ : List Int) (σ : zS) (hr mr : Option AV) (hv mv : Option Value), fin2 G C s hr mr = true → Ok J s ρ σ → Ra ρ hr hv → Ra ρ mr mv → K2 hv mv σ
def I2 (E : xV) (Y : Nat → xY) (J : Jt) (D : Nat → Bool) (C : Pc) (K2 : K2t) (N : Int) : Prop := ∀ a ∈ C.an, ∀ (ρ : List Int) (σ : zS) (hc mc : List CF) (hv mv : Option Value) (m : Int), Ko J a.kn ρ σ → Rg ρ a.hf hc → Ra ρ a.hr hv → Rg ρ a.mf mc → Ra ρ a.mr mv → tvo ρ a.mu.1 = some m → 0 ≤ m + a.mu.2 → m + a.mu.2 < N → PP E Y D hc hv mc mv σ K2
theorem isNil_e {α : Type} {l : List α} (h : isNil l = true) : l = [] := by
  cases l with
  | nil => rfl
  | cons _ _ => cases h
theorem Rg.nil {ρ : List Int} {cs : List CF} (h : Rg ρ [] cs) : cs = [] := by
  cases cs with
  | nil => rfl
  | cons _ _ => exact h.elim
theorem met2_ok (hJ : POk G.g G.P J) (hF : F2 J G C K2) {mu0 : Lf × Int} {s : Sy} {ρ : List Int} {σ : zS} {hf mf : List Fm} {hr mr : Option AV} {hc mc : List CF} {hv mv : Option Value} {M : Int} (hI : I2 E Y J D C K2 (M + mu0.2)) (h : met2 G C mu0 s hf hr mf mr = true) (ho : Ok J s ρ σ) (h1 : Rg ρ hf hc) (h2 : Ra ρ hr hv) (h3 : Rg ρ mf mc) (h4 : Ra ρ mr mv) (hM : tvo ρ mu0.1 = some M) (n1 : hc ≠ [] → hv = none) (n2 : mc ≠ [] → mv = none) : PP E Y D hc hv mc mv σ K2 := by
  unfold met2 at h
  cases h8 : infe s with
  | true => exact (infe_ok ho h8).elim
  | false =>
  rw [h8] at h
  simp only [cond_false] at h
  cases hb : isNil hf && isNil mf with
  | true =>
    rw [hb] at h
    rw [Bool.and_eq_true] at hb
    rw [isNil_e hb.1] at h1
    rw [isNil_e hb.2] at h3
    cases h1.nil
    cases h3.nil
    exact ⟨hv, σ, mv, σ, ⟨rfl, rfl⟩, ⟨rfl, rfl⟩, hF s ρ σ hr mr hv mv h ho h2 h4⟩
  | false =>
    rw [hb] at h
    obtain ⟨a, ha, h5⟩ := List.any_eq_true.mp h
    obtain ⟨ρ', hc', mc', m, k1, ⟨k2, k3⟩, ⟨k4, k5⟩, ⟨k6, k7⟩, k8, k9, k10⟩ := arr2_ok hJ ho h5 h1 h2 h3 h4 hM
    have q := hI a ha ρ' σ hc' mc' hv mv m k1 k2 k3 k4 k5 k8 k9 k10
    exact ql_sub (Q := fun cs rv σ => PP E Y D cs rv mc mv σ K2) PP.qlH k6 n1 (ql_sub (Q := fun cs rv σ => PP E Y D hc' hv cs rv σ K2) PP.qlM k7 n2 q)
theorem Ra_none {ρ : List Int} {v : Option Value} (h : Ra ρ none v) : v = none := by
  cases v with
  | none => rfl
  | some _ => exact h.elim
/-- a continuation is called with frames and no answer, or with an answer and no frames -/
def kok (kt : Kont) : Kont := fun s mm fs a => (isNil fs || isNil a.toList) && kt s mm fs a
theorem chk2_ok (hG : GxOk Y G) (hJ : POk G.g G.P J) (hX : HOb G J) (hT : ScT E Y J (D, (C.hint, (C.ch, C.sh))) ∧ ScT E Y J (dN D, (C.hint, (C.cm, C.sm)))) (hF : F2 J G C K2) {n : Nat} {a : A2} (h : chk2 G C D n a = true) (hs : sdOk a = true) {ρ : List Int} {σ : zS} {hc mc : List CF} {hv mv : Option Value} {m : Int} (hk : Ko J a.kn ρ σ) (h1 : Rg ρ a.hf hc) (h2 : Ra ρ a.hr hv) (h3 : Rg ρ a.mf mc) (h4 : Ra ρ a.mr mv) (hm : tvo ρ a.mu.1 = some m) (hI : I2 E Y J D C K2 (m + a.mu.2)) : PP E Y D hc hv mc mv σ K2 := by
  unfold sdOk at hs
  rw [Bool.and_eq_true, Bool.or_eq_true, Bool.or_eq_true] at hs
  have n1 : hc ≠ [] → hv = none := fun q => by
    rcases hs.1 with e | e
    · rw [isNil_e e] at h1; exact absurd h1.nil q
    · cases hr : a.hr with
      | none => rw [hr] at h2; exact Ra_none h2
      | some _ => rw [hr] at e; cases e
  have n2 : mc ≠ [] → mv = none := fun q => by
    rcases hs.2 with e | e
    · rw [isNil_e e] at h3; exact absurd h3.nil q
    · cases hr : a.mr with
      | none => rw [hr] at h4; exact Ra_none h4
      | some _ => rw [hr] at e; cases e
  unfold chk2 at h
  have nn : ∀ {D' : Nat → Bool} {Q : Qt}, QLp E Y D' Q → True := fun _ => trivial
  cases hrh : a.rh with
  | true =>
    rw [hrh] at h
    simp only [cond_true, Bool.and_eq_true] at h
    have hmn : mc ≠ [] → mv = none := n2
    -- H first
    have hh : PP E Y D hc none mc mv σ K2 := by
      refine walkP_ok (E := E) (V := (D, (C.hint, (C.ch, C.sh)))) (Q := fun cs rv σ => (cs ≠ [] → rv = none) → PP E Y D cs rv mc mv σ K2) (ρ1 := ρ) hG hJ hX ?_ hT.1 ?_ n a.kn.sy [] a.hf ρ σ hc h.2 Pre.rf hk.1 (fun e he => by cases he) h1 (fun _ => rfl)
      · refine ⟨fun c cs f fs σ σ' q1 q2 q3 _ => PP.qlH.1 c cs f fs σ σ' q1 q2 (q3 (fun _ => rfl)), fun c cs r σ q1 q3 _ => PP.qlH.2 c cs r σ q1 (q3 (fun q => absurd rfl q))⟩
      · intro s mm hf hr ρ' σ' cs rv g1 g2 g3 g4 g5 g6 g7
        unfold ktH at g1
        cases hrm : (a.rm || (isNil hf && !(isNil a.mf))) with
        | false =>
          rw [hrm] at g1
          exact met2_ok hJ hF hI g1 g3 g5 g6 (h3.mono g2) (h4.mono g2) (tvo.mono g2 hm) g7 n2
        | true =>
          rw [hrm] at g1
          simp only [cond_true] at g1
          have hmm : PP E Y D cs rv mc none σ' K2 := by
            refine walkP_ok (E := E) (V := (dN D, (C.hint, (C.cm, C.sm)))) (Q := fun cs' rv' σ => (cs' ≠ [] → rv' = none) → PP E Y D cs rv cs' rv' σ K2) (ρ1 := ρ') hG hJ hX ?_ hT.2 ?_ n s mm a.mf ρ' σ' mc g1 Pre.rf g3 g4 (h3.mono g2) (fun _ => rfl)
            · refine ⟨fun c cs f fs σ σ' q1 q2 q3 _ => PP.qlM.1 c cs f fs σ σ' q1 q2 (q3 (fun _ => rfl)), fun c cs r σ q1 q3 _ => PP.qlM.2 c cs r σ q1 (q3 (fun q => absurd rfl q))⟩
            · intro s2 mm2 mf2 mr2 ρ2 σ2 cs2 rv2 w1 w2 w3 w4 w5 w6 w7
              exact met2_ok hJ hF hI w1 w3 (g5.mono w2) (g6.mono w2) w5 w6 (tvo.mono (g2.tr w2) hm) g7 w7
          have hmv : mv = none := by
            rcases Bool.or_eq_true _ _ ▸ h.1 with e | e
            · cases hr : a.mr with
              | none => rw [hr] at h4; exact Ra_none h4
              | some _ => rw [hr] at e; cases e
            · cases n with
              | zero => cases g1
              | succ n =>
                rw [isNil_e e] at g1
                cases g1
          rw [hmv]
          exact hmm
    have hhv : hv = none := by
      refine n1 (fun e => ?_)
      rw [e] at h1
      cases hf : a.hf with
      | nil =>
        have := h.2
        rw [hf] at this
        cases n with
        | zero => cases this
        | succ n => cases this
      | cons _ _ => rw [hf] at h1; exact h1.elim
    rw [hhv]
    exact hh
  | false =>
    rw [hrh] at h
    simp only [cond_false] at h
    have hmm : PP E Y D hc hv mc none σ K2 := by
      refine walkP_ok (E := E) (V := (dN D, (C.hint, (C.cm, C.sm)))) (Q := fun cs' rv' σ => (cs' ≠ [] → rv' = none) → PP E Y D hc hv cs' rv' σ K2) (ρ1 := ρ) hG hJ hX ?_ hT.2 ?_ n a.kn.sy [] a.mf ρ σ mc h Pre.rf hk.1 (fun e he => by cases he) h3 (fun _ => rfl)
      · refine ⟨fun c cs f fs σ σ' q1 q2 q3 _ => PP.qlM.1 c cs f fs σ σ' q1 q2 (q3 (fun _ => rfl)), fun c cs r σ q1 q3 _ => PP.qlM.2 c cs r σ q1 (q3 (fun q => absurd rfl q))⟩
      · intro s2 mm2 mf2 mr2 ρ2 σ2 cs2 rv2 w1 w2 w3 w4 w5 w6 w7
        exact met2_ok hJ hF hI w1 w3 (h1.mono w2) (h2.mono w2) w5 w6 (tvo.mono w2 hm) n1 w7
    have hmv : mv = none := by
      refine n2 (fun e => ?_)
      rw [e] at h3
      cases hf : a.mf with
      | nil =>
        rw [hf] at h
        cases n with
        | zero => cases h
        | succ n => cases h
      | cons _ _ => rw [hf] at h3; exact h3.elim
    rw [hmv]
    exact hmm
theorem all2_ok (hG : GxOk Y G) (hJ : POk G.g G.P J) (hX : HOb G J) (hT : ScT E Y J (D, (C.hint, (C.ch, C.sh))) ∧ ScT E Y J (dN D, (C.hint, (C.cm, C.sm)))) (hF : F2 J G C K2) {n : Nat} (h : ∀ a ∈ C.an, chk2 G C D n a = true ∧ sdOk a = true) : ∀ N : Nat, I2 E Y J D C K2 (N : Int)
  | 0 => fun a _ ρ σ hc mc hv mv m _ _ _ _ _ _ q1 q2 => by omega
  | N + 1 => fun a ha ρ σ hc mc hv mv m k1 k2 k3 k4 k5 k6 k7 k8 => by
    refine chk2_ok hG hJ hX hT hF (h a ha).1 (h a ha).2 k1 k2 k3 k4 k5 k6 (fun b hb ρ' σ' hc' mc' hv' mv' m' g1 g2 g3 g4 g5 g6 g7 g8 => ?_)
    exact all2_ok hG hJ hX hT hF h N b hb ρ' σ' hc' mc' hv' mv' m' g1 g2 g3 g4 g5 g6 g7 (by omega)
/-- both methods from their beginnings -/
theorem root2_ok (hG : GxOk Y G) (hJ : POk G.g G.P J) (hX : HOb G J) (hT : ScT E Y J (D, (C.hint, (C.ch, C.sh))) ∧ ScT E Y J (dN D, (C.hint, (C.cm, C.sm)))) (hF : F2 J G C K2) {n : Nat} (h : ∀ a ∈ C.an, chk2 G C D n a = true ∧ sdOk a = true) {zH zM : Nat} {arH arM : List AV} {kn : Kn} {big : Nat} {fl : Bool × Bool} (hr : chk2 G C D n (([⟨zH, 0, argLv 0 arH, []⟩], none), (([⟨zM, 0, argLv 0 arM, []⟩], none), (kn, (([], (big : Int)), fl)))) = true) (eH : entOk G zH arH = true) (eM : entOk G zM arM = true) {ρ : List Int} {σ : zS} {avH avM : List Value} (hk : Ko J kn ρ σ) (h1 : Rs ρ arH avH) (h2 : Rs ρ arM avM) : ∃ rH σ1 rM σ2, K2 rH rM σ2 ∧ (∀ K : zKt, K rH σ1 → Cz E (Y zH) avH σ K) ∧ ∀ K : zKt, K rM σ2 → Cz E (Y zM) avM σ1 K := by
  have hI := all2_ok (E := E) (Y := Y) hG hJ hX hT hF h big
  have hp := chk2_ok (E := E) (Y := Y) (m := 0) (hc := [(zH, (0, (lv_args 0 avH, [])))]) (mc := [(zM, (0, (lv_args 0 avM, [])))]) (hv := none) (mv := none) hG hJ hX hT hF hr rfl hk ⟨⟨⟨rfl, rfl⟩, argLv_ok h1, trivial⟩, trivial⟩ trivial ⟨⟨⟨rfl, rfl⟩, argLv_ok h2, trivial⟩, trivial⟩ trivial rfl (fun b hb ρ' σ' hc' mc' hv' mv' m' g1 g2 g3 g4 g5 g6 g7 g8 => hI b hb ρ' σ' hc' mc' hv' mv' m' g1 g2 g3 g4 g5 g6 g7 (by dsimp only at g8; omega))
  obtain ⟨rH, σ1, rM, σ2, ⟨a1, a2⟩, ⟨b1, b2⟩, k⟩ := hp
  obtain ⟨e1, e2⟩ := entOk_ok hG eH
  obtain ⟨e3, e4⟩ := entOk_ok hG eM
  refine ⟨rH, σ1, rM, σ2, k, fun K q => ?_, fun K q => ?_⟩
  · refine z_entry e1 (fun a => by rw [sl_len, cats_ok h1]; exact e2) rfl ?_
    have := a2 σ K (by rw [mix_self a1]; exact q)
    rw [mix_self agD.rf] at this
    exact this
  · refine z_entry e3 (fun a => by rw [sl_len, cats_ok h2]; exact e4) rfl ?_
    have := b2 σ1 K (by rw [mix_self b1]; exact q)
    rw [mix_self agD.rf] at this
    exact this
end P10
end
end
section
noncomputable section
/-! ===== PRODUCTS, 4: contracts of helpers, for one side, whatever the other side's cells hold ===== -/
def Jw (J : Jt) (w : List Nat) (σ0 : zS) : Jt := fun H σ => J H σ ∧ ∀ k, memb w k = false → σ.1 k = σ0.1 k ∧ σ.2 k = σ0.2 k
def Pw (P : Pl) (w : List Nat) : Pl := (P.dm, (P.dl, (fun s k p v => bif memb w k then P.wi s k p v else none, (fun s k p v => bif memb w k then P.wl s k p v else none, (fun k => memb w k && P.fr k, fun k0 k1 => memb w k1 && P.cp k0 k1)))))
def Gw (G : Gx) (w : List Nat) : Gx := (G.g, (Pw G.P w, G.2.2))
section P11
variable {E : xV} {Y : Nat → xY} {G : Gx} {J : Jt} {D : Nat → Bool} {w : List Nat} {σ0 : zS}
theorem Ok.unw {s : Sy} {ρ : List Int} {σ : zS} (h : Ok (Jw J w σ0) s ρ σ) : Ok J s ρ σ := h.any (fun _ q => q.1)
theorem Ok.frw {s : Sy} {ρ : List Int} {σ : zS} (h : Ok (Jw J w σ0) s ρ σ) : ∀ k, memb w k = false → σ.1 k = σ0.1 k ∧ σ.2 k = σ0.2 k := by
  obtain ⟨H, _, q⟩ := h.inv
  exact q.2
theorem Ok.addw {s : Sy} {ρ : List Int} {σ : zS} (h : Ok J s ρ σ) (hf : ∀ k, memb w k = false → σ.1 k = σ0.1 k ∧ σ.2 k = σ0.2 k) : Ok (Jw J w σ0) s ρ σ := h.any (fun _ q => ⟨q, hf⟩)
theorem POk_w {G : Gl} {P : Pl} (h : POk G P J) : POk G (Pw P w) (Jw J w σ0) := by
  have ne : ∀ {k q : Nat}, memb w k = true → memb w q = false → q ≠ k := fun h1 h2 e => by rw [e, h1] at h2; cases h2
  refine ⟨fun s ρ σ k p j ho hp hi => h.rd s ρ σ k p j ho.unw hp hi, fun s ρ σ k p j ho hp hi => h.rl s ρ σ k p j ho.unw hp hi, fun s ρ σ k p v j x s' ho hp hi hv hx hw => ?_, fun s ρ σ k p v j x s' ho hp hi hv hx hw => ?_, fun H σ k f hk hJ => ?_, fun H σ k0 k1 z0 z1 f hk h0 h1 hJ hf => ?_⟩
  · have hw : (bif memb w k then P.wi s k p v else none) = some s' := hw
    cases hb : memb w k with
    | false => rw [hb] at hw; cases hw
    | true =>
      rw [hb] at hw
      exact (h.wi s ρ σ k p v j x s' ho.unw hp hi hv hx hw).addw (fun q hq => ⟨by rw [zI_row (ne hb hq)]; exact (ho.frw q hq).1, (ho.frw q hq).2⟩)
  · have hw : (bif memb w k then P.wl s k p v else none) = some s' := hw
    cases hb : memb w k with
    | false => rw [hb] at hw; cases hw
    | true =>
      rw [hb] at hw
      exact (h.wl s ρ σ k p v j x s' ho.unw hp hi hv hx hw).addw (fun q hq => ⟨(ho.frw q hq).1, by rw [zJ_row (ne hb hq)]; exact (ho.frw q hq).2⟩)
  · have hk : (memb w k && P.fr k) = true := hk
    rw [Bool.and_eq_true] at hk
    exact ⟨h.fr H σ k f hk.2 hJ.1, fun q hq => ⟨(hJ.2 q hq).1, by rw [zJr_row (ne hk.1 hq)]; exact (hJ.2 q hq).2⟩⟩
  · have hk : (memb w k1 && P.cp k0 k1) = true := hk
    rw [Bool.and_eq_true] at hk
    exact ⟨h.cp H σ k0 k1 z0 z1 f hk.2 h0 h1 hJ.1 hf, fun q hq => ⟨by rw [zIr_row (ne hk.1 hq)]; exact (hJ.2 q hq).1, (hJ.2 q hq).2⟩⟩
theorem HOk_w0 (h : ∀ h f s ρ σ, Ok J s ρ σ → ∃ s' ρ', G.hx h f s = some s' ∧ Pre ρ ρ' ∧ Ok J s' ρ' σ) : ∀ h f s ρ σ, Ok (Jw J w σ0) s ρ σ → ∃ s' ρ', (Gw G w).hx h f s = some s' ∧ Pre ρ ρ' ∧ Ok (Jw J w σ0) s' ρ' σ := by
  intro h9 f s ρ σ ho
  obtain ⟨s', ρ', a1, a2, a3⟩ := h h9 f s ρ σ ho.unw
  exact ⟨s', ρ', a1, a2, a3.addw ho.frw⟩
/-
theorem HX_w (h : HOb G J) : HOb (Gw G w) (Jw J w σ0) := HOk_w0 h
-/

theorem HX_w (h : HOb G J) : HOb (Gw G w) (Jw J w σ0) := ⟨HOk_w0 h.1, ⟨⟨fun H σ t o b r q => ⟨h.2.1.1.1 H σ t o b r q.1, q.2⟩, fun H σ t o b c r q => ⟨h.2.1.1.2.1 H σ t o b c r q.1, q.2⟩, fun H σ x y v r q => ⟨h.2.1.1.2.2 H σ x y v r q.1, q.2⟩⟩, fun n b hb H σ x y r hr q => ⟨h.2.1.2 n b hb H σ x y r hr q.1, q.2⟩⟩, ⟨fun t ht H σ x y q => ⟨h.2.2.1 t ht H σ x y q.1, q.2⟩, fun H σ x y q => ⟨h.2.2.2.1 H σ x y q.1, q.2⟩, fun t ht H σ x y q => ⟨h.2.2.2.2.1 t ht H σ x y q.1, q.2⟩, fun H σ q => h.2.2.2.2.2 H σ q.1⟩⟩

end P11
/-- one side comes to -/
def SS (E : xV) (Y : Nat → xY) (D : Nat → Bool) (cs : List CF) (rv : Option Value) (σ : zS) (K : zKt) : Prop := ∃ r σ', Ex E Y D cs rv σ r σ' ∧ K r σ'
theorem SS.ql {E : xV} {Y : Nat → xY} {D : Nat → Bool} {K : zKt} : QLp E Y D (fun cs rv σ => SS E Y D cs rv σ K) := by
  refine ⟨fun c cs f fs σ σ' h1 h2 h3 => ?_, fun c cs r σ h1 h3 => ?_⟩
  · obtain ⟨r, σ1, ⟨a1, a2⟩, k⟩ := h3
    exact ⟨r, σ1, ⟨h1.tr a1, fun τ K q => h2 τ K (a2 τ K q)⟩, k⟩
  · obtain ⟨r', σ1, ⟨a1, a2⟩, k⟩ := h3
    subst a1
    subst a2
    exact ⟨r', σ1, ⟨agD.rf, h1⟩, k⟩
/-- where a helper's loop stands: frames, what is known, what falls -/
abbrev A1 : Type := List Fm × (Kn × (Lf × Int))
def arr1 (G : Gx) (ks : List Bool) (s0 : Sy) (fs : List Fm) (mu0 : Lf × Int) (a : A1) : Bool :=
  let s := fillm G a.2.1.me s0
  match mfr s a.1 fs (ids 0 ks) with
  | some t1 => match mta s a.2.1 t1 with
    | some th => falls s th mu0 a.2.2
    | none => false
  | none => false
def kt1 (G : Gx) (q : Ct) (an : List A1) (mu0 : Lf × Int) : Kont := fun s _ fs a => bif infe s then true else bif isNil fs then finC G q s a else isNil a.toList && an.any fun e => arr1 G q.kn.ks s fs mu0 e
abbrev Hn9 : Type := BT (List (Nat × (Nat × Nat)))
def chk1E (G : Gx) (D : Nat → Bool) (n z : Nat) (q : Ct) (w : List Nat) (hn : Hn9) (lb : List Lb) (sc : Sct) (an : List A1) (big : Nat) : Bool := entOk G z q.ar && walkP (Gw G w) (D, (hn, (lb, sc))) (kt1 (Gw G w) q an ([], (big : Int))) n q.kn.sy [] [⟨z, 0, argLv 0 q.ar, []⟩]
def chk1A (G : Gx) (D : Nat → Bool) (n : Nat) (q : Ct) (w : List Nat) (hn : Hn9) (lb : List Lb) (sc : Sct) (an : List A1) (a : A1) : Bool := walkP (Gw G w) (D, (hn, (lb, sc))) (kt1 (Gw G w) q an a.2.2) n a.2.1.sy [] a.1
section P12
variable {E : xV} {Y : Nat → xY} {G : Gx} {J : Jt} {D : Nat → Bool} {q : Ct} {w : List Nat} {hn : Hn9} {lb : List Lb} {sc : Sct} {an : List A1} {ρ0 : List Int} {σ0 : zS}
theorem arr1_ok {G : Gx} {J : Jt} (hJ : POk G.g G.P J) {s : Sy} {ρ : List Int} {σ : zS} (h : Ok J s ρ σ) {ks : List Bool} (hp : Pre ρ0 ρ) (hn : ρ0.length = ks.length) (ht : Tp ρ0 0 ks) {fs : List Fm} {mu0 : Lf × Int} {a : A1} {cs : List CF} {M : Int} (ha : arr1 G ks s fs mu0 a = true) (h1 : Rg ρ fs cs) (hM : tvo ρ mu0.1 = some M) : ∃ ρ' ds m, Pre ρ0 ρ' ∧ Ko J a.2.1 ρ' σ ∧ Rg ρ' a.1 ds ∧ Sb cs ds ∧ tvo ρ' a.2.2.1 = some m ∧ 0 ≤ m + a.2.2.2 ∧ m + a.2.2.2 < M + mu0.2 := by
  unfold arr1 at ha
  dsimp only at ha
  obtain ⟨ρf, pf, of⟩ := fillm_ok hJ (l := a.2.1.me) h
  replace h1 := h1.mono pf
  replace hM := tvo.mono pf hM
  have hp2 := hp.tr pf
  split at ha
  · rename_i t1 e1
    obtain ⟨ds, d1, x1, r1, b1⟩ := mfr_ok of e1 (ids_df (ht.mono hp2)) h1
    split at ha
    · rename_i th e2
      obtain ⟨d2, x2, k2, o2⟩ := mta_ok of e2 d1
      obtain ⟨m, m1, m2, m3⟩ := falls_ok of d2 ha hM
      have e0 := ids_pre hp2 hn ht
      refine ⟨vals ρf th, ds, m, ?_, ⟨o2, mtk_tp d2 k2⟩, r1.mono x2.pre, b1, m1, m2, m3⟩
      rw [← e0]
      exact (x1.tr x2).pre
    · cases ha
  · cases ha
def I1 (E : xV) (Y : Nat → xY) (J : Jt) (D : Nat → Bool) (an : List A1) (ρ0 : List Int) (K : zKt) (N : Int) : Prop := ∀ a ∈ an, ∀ (ρ : List Int) (σ : zS) (cs : List CF) (m : Int), Pre ρ0 ρ → Ko J a.2.1 ρ σ → Rg ρ a.1 cs → tvo ρ a.2.2.1 = some m → 0 ≤ m + a.2.2.2 → m + a.2.2.2 < N → SS E Y D cs none σ K
theorem kt1_ok (hJ : POk (Gw G w).g (Gw G w).P (Jw J w σ0)) (hl : ρ0.length = q.kn.ks.length) (ht : Tp ρ0 0 q.kn.ks) {mu0 : Lf × Int} {ρ1 : List Int} {M : Int} (hp1 : Pre ρ0 ρ1) (hM : tvo ρ1 mu0.1 = some M) (hI : I1 E Y (Jw J w σ0) D an ρ0 (Ks J q w ρ0 σ0) (M + mu0.2)) : PK (Jw J w σ0) (fun cs rv σ => SS E Y D cs rv σ (Ks J q w ρ0 σ0)) ρ1 (kt1 (Gw G w) q an mu0) := by
  intro s mm fs a ρ σ cs rv h hp ho hm hr ha
  unfold kt1 at h
  cases h8 : infe s with
  | true => exact (infe_ok ho h8).elim
  | false =>
  rw [h8] at h
  simp only [cond_false] at h
  cases hb : isNil fs with
  | true =>
    rw [hb] at h
    rw [isNil_e hb] at hr
    cases hr.nil
    obtain ⟨al, f1, ρ', f2, f3, f4⟩ := finC_ok hJ h (hp1.tr hp) hl ht ho ha
    exact ⟨rv, σ, ⟨rfl, rfl⟩, ho.frw, al, f1, ρ', f2, ⟨f3.1.unw, f3.2⟩, f4⟩
  | false =>
    rw [hb] at h
    simp only [cond_false, Bool.and_eq_true] at h
    have hrv : rv = none := by
      cases a with
      | none => exact Ra_none ha
      | some _ => cases h.1
    subst hrv
    obtain ⟨e, he, h5⟩ := List.any_eq_true.mp h.2
    obtain ⟨ρ', ds, m, k1, k2, k3, k4, k5, k6, k7⟩ := arr1_ok hJ ho (hp1.tr hp) hl ht h5 hr (tvo.mono hp hM)
    exact ql_sub (Q := fun cs rv σ => SS E Y D cs rv σ (Ks J q w ρ0 σ0)) SS.ql k4 (fun _ => rfl) (hI e he ρ' σ ds m k1 k2 k3 k5 k6 k7)
theorem all1_ok (hG : GxOk Y G) (hJ : POk G.g G.P J) (hX : HOb G J) (hT : ScT E Y (Jw J w σ0) (D, (hn, (lb, sc)))) (hl : ρ0.length = q.kn.ks.length) (ht : Tp ρ0 0 q.kn.ks) {n : Nat} (h : ∀ a ∈ an, chk1A G D n q w hn lb sc an a = true) : ∀ N : Nat, I1 E Y (Jw J w σ0) D an ρ0 (Ks J q w ρ0 σ0) (N : Int)
  | 0 => fun a _ ρ σ cs m _ _ _ _ q1 q2 => by omega
  | N + 1 => fun a ha ρ σ cs m k1 k2 k3 k4 k5 k6 => by
    have ih := all1_ok hG hJ hX hT hl ht h N
    refine walkP_ok (E := E) (Y := Y) (G := Gw G w) (V := (D, (hn, (lb, sc)))) (Q := fun cs rv σ => SS E Y D cs rv σ (Ks J q w ρ0 σ0)) (ρ1 := ρ) hG (POk_w hJ) (HX_w hX) SS.ql hT (kt1_ok (POk_w hJ) hl ht k1 k4 (fun b hb ρ' σ' cs' m' g1 g2 g3 g4 g5 g6 => ih b hb ρ' σ' cs' m' g1 g2 g3 g4 g5 (by omega))) n a.2.1.sy [] a.1 ρ σ cs (h a ha) Pre.rf k2.1 (fun e he => by cases he) k3
theorem root1_ok (hG : GxOk Y G) (hJ : POk G.g G.P J) (hX : HOb G J) (hT : ∀ σ0, ScT E Y (Jw J w σ0) (D, (hn, (lb, sc)))) {n z big : Nat} (hE : chk1E G D n z q w hn lb sc an big = true) (hA : ∀ a ∈ an, chk1A G D n q w hn lb sc an a = true) : ScOk E Y D J z q w := by
  intro ρ σ av hko ha
  have hl : ρ.length = q.kn.ks.length := hko.1.len
  unfold chk1E at hE
  rw [Bool.and_eq_true] at hE
  have hI := all1_ok (E := E) (Y := Y) (J := J) (σ0 := σ) (ρ0 := ρ) (q := q) hG hJ hX (hT σ) hl hko.2 hA big
  have hk0 : Ok (Jw J w σ) q.kn.sy ρ σ := hko.1.addw (fun _ _ => ⟨rfl, rfl⟩)
  have hs := walkP_ok (E := E) (Y := Y) (G := Gw G w) (V := (D, (hn, (lb, sc)))) (Q := fun cs rv σ' => SS E Y D cs rv σ' (Ks J q w ρ σ)) (ρ1 := ρ) hG (POk_w hJ) (HX_w hX) SS.ql (hT σ) (kt1_ok (mu0 := ([], (big : Int))) (M := 0) (POk_w hJ) hl hko.2 Pre.rf rfl (fun b hb ρ' σ' cs' m' g1 g2 g3 g4 g5 g6 => hI b hb ρ' σ' cs' m' g1 g2 g3 g4 g5 (by dsimp only at g6; omega))) n q.kn.sy [] [⟨z, 0, argLv 0 q.ar, []⟩] ρ σ [(z, (0, (lv_args 0 av, [])))] hE.2 Pre.rf hk0 (fun e he => by cases he) ⟨⟨⟨rfl, rfl⟩, argLv_ok ha, trivial⟩, trivial⟩
  obtain ⟨r, σ', hx, hk⟩ := hs
  exact ⟨r, σ', hx, hk⟩
/-- a helper of a helper -/
theorem ScOk.nest {z : Nat} {q : Ct} {w w' : List Nat} {σ0 : zS} (h : ScOk E Y D J z q w') (hs : (w'.all (memb w)) = true) : ScOk E Y D (Jw J w σ0) z q w' := by
  intro ρ σ av hko ha
  obtain ⟨r, σ', hx, fr, al, j2, ρ', j3, j4, j5⟩ := h ρ σ av ⟨hko.1.unw, hko.2⟩ ha
  have hf := hko.1.frw
  refine ⟨r, σ', hx, fr, al, j2, ρ', j3, ⟨j4.1.addw (fun k hk => ?_), j4.2⟩, j5⟩
  have hk' : memb w' k = false := by
    cases hb : memb w' k with
    | false => rfl
    | true =>
      obtain ⟨e, he, hq⟩ := List.any_eq_true.mp hb
      have e1 := List.all_eq_true.mp hs e he
      rw [← Nat.eq_of_beq_eq_true hq, hk] at e1
      cases e1
  exact ⟨(fr k hk').1.trans (hf k hk).1, (fr k hk').2.trans (hf k hk).2⟩
/-- no helpers of helpers -/
theorem ScT_nil {J : Jt} : ScT E Y J (D, (hn, (lb, []))) := fun z qs h => by cases h
end P12
end
end
section
noncomputable section
/-! ===== what holds all through: bounds, columns, rows that go together ===== -/
def d9_0 : Dom := [(0, 200)]
def d9_1 : Dom := [(0, 20)]
def d9_2 : Dom := [(0, 1200)]
def d9_3 : Dom := [(0, 1000000000)]
def d9_4 : Dom := [(0, 7)]
def d9_5 : Dom := [(0, 19)]
def d9_6 : Dom := [(0, 9600)]
def d9_7 : Dom := [(0, 8)]
def d9_8 : Dom := [(0, 5)]
def d9_9 : Dom := [(0, 3)]
def d9_10 : Dom := [(0, 1)]
def d9_11 : Dom := [(0, 10)]
def d9_12 : Dom := [(0, 40)]
def d9_13 : Dom := [(0, 39)]
def d9_14 : Dom := [(0, 60)]
def d9_15 : Dom := [(0, 6)]
def d9_16 : Dom := [(0, 240)]
def d9_17 : Dom := [(0, 30)]
def d9_18 : Dom := [(0, 255)]
def d9_19 : Dom := [(0, 15)]
def d9_20 : Dom := [(0, 16)]
def d9_21 : Dom := [(0, 12)]
def d9_22 : Dom := [(0, 11)]
def d9_23 : Dom := [(0, 1301)]
def d9_24 : Dom := [(0, 1300)]
def v9_0 : AV := .inl (0, 0)
def v9_1 : AV := .inl (1, 0)
def v9_2 : AV := .inl (2, 0)
def v9_3 : AV := .inl (3, 0)
def v9_4 : AV := .inl (4, 0)
def v9_5 : AV := .inl (5, 0)
def v9_6 : AV := .inl (6, 0)
def v9_7 : AV := .inl (7, 0)
def v9_8 : AV := .inl (8, 0)
def v9_9 : AV := .inl (9, 0)
def v9_10 : AV := .inl (10, 0)
def v9_11 : AV := .inl (11, 0)
def v9_12 : AV := .inl (12, 0)
def v9_13 : AV := .inl (13, 0)
def v9_14 : AV := .inl (14, 0)
def v9_15 : AV := .inl (15, 0)
def v9_16 : AV := .inl (16, 0)
def v9_17 : AV := .inl (17, 0)
def v9_18 : AV := .inl (18, 0)
def v9_19 : AV := .inl (19, 0)
def v9_20 : AV := .inl (20, 0)
def v9_21 : AV := .inl (21, 0)
def v9_22 : AV := .inl (22, 0)
def v9_23 : AV := .inl (23, 0)
def v9_24 : AV := .inl (24, 0)
def v9_25 : AV := .inl (25, 0)
def v9_26 : AV := .inl (26, 0)
def v9_27 : AV := .inl (27, 0)
def v9_28 : AV := .inl (28, 0)
def v9_29 : AV := .inl (29, 0)
def v9_30 : AV := .inl (30, 0)
def v9_31 : AV := .inl (31, 0)
def v9_32 : AV := .inl (32, 0)
def v9_33 : AV := .inl (33, 0)
def v9_34 : AV := .inl (34, 0)
def v9_35 : AV := .inl (35, 0)
def v9_36 : AV := .inl (36, 0)
def v9_37 : AV := .inl (37, 0)
def v9_38 : AV := .inl (38, 0)
def v9_39 : AV := .inl (39, 0)
def v9_40 : AV := .inl (40, 0)
def v9_41 : AV := .inl (41, 0)
def v9_42 : AV := .inl (42, 0)
def v9_43 : AV := .inl (43, 0)
def v9_44 : AV := .inl (44, 0)
def v9_45 : AV := .inl (45, 0)
def v9_46 : AV := .inl (46, 0)
def v9_47 : AV := .inl (47, 0)
def v9_48 : AV := .inl (48, 0)
def v9_49 : AV := .inl (49, 0)
def v9_50 : AV := .inl (50, 0)
def v9_51 : AV := .inl (51, 0)
def v9_52 : AV := .inl (52, 0)
def v9_53 : AV := .inl (53, 0)
def v9_54 : AV := .inl (54, 0)
def v9_55 : AV := .inl (55, 0)
def v9_56 : AV := .inl (56, 0)
def v9_57 : AV := .inl (57, 0)
def v9_58 : AV := .inl (58, 0)
def v9_59 : AV := .inl (59, 0)
def v9_60 : AV := .inl (60, 0)
def v9_61 : AV := .inl (61, 0)
def v9_62 : AV := .inl (62, 0)
def v9_63 : AV := .inl (63, 0)
def c9_0 : AV := .inr (.inl 0)
def c9_1 : AV := .inr (.inl 1)
def c9_2 : AV := .inr (.inl 2)
def c9_3 : AV := .inr (.inl 3)
def c9_4 : AV := .inr (.inl 4)
def c9_5 : AV := .inr (.inl 5)
def c9_6 : AV := .inr (.inl 6)
def c9_7 : AV := .inr (.inl 7)
def c9_8 : AV := .inr (.inl 8)
def c9_9 : AV := .inr (.inl 9)
def c9_10 : AV := .inr (.inl 10)
def c9_11 : AV := .inr (.inl 11)
def c9_12 : AV := .inr (.inl 12)
def c9_13 : AV := .inr (.inl 13)
def c9_14 : AV := .inr (.inl 14)
def c9_15 : AV := .inr (.inl 15)
def c9_16 : AV := .inr (.inl 16)
def c9_17 : AV := .inr (.inl 17)
def c9_18 : AV := .inr (.inl 18)
def c9_19 : AV := .inr (.inl 19)
def c9_20 : AV := .inr (.inl 20)
def c9_21 : AV := .inr (.inl 21)
def c9_22 : AV := .inr (.inl 22)
def c9_23 : AV := .inr (.inl 23)
def c9_24 : AV := .inr (.inl 24)
def c9_25 : AV := .inr (.inl 25)
def c9_26 : AV := .inr (.inl 26)
def c9_27 : AV := .inr (.inl 27)
def c9_28 : AV := .inr (.inl 28)
def c9_29 : AV := .inr (.inl 29)
def c9_30 : AV := .inr (.inl 30)
def c9_31 : AV := .inr (.inl 31)
def c9_32 : AV := .inr (.inl 32)
def c9_33 : AV := .inr (.inl 33)
def c9_34 : AV := .inr (.inl 34)
def c9_35 : AV := .inr (.inl 35)
def c9_36 : AV := .inr (.inl 36)
def c9_37 : AV := .inr (.inl 37)
def c9_38 : AV := .inr (.inl 38)
def c9_39 : AV := .inr (.inl 39)
def T_fi : BT Dom := [(17408, [(1, d9_2), (2, d9_3), (5, d9_12), (7, [(0, 300)]), (5120, d9_1), (5121, d9_20), (5122, [(0, 201)]), (10240, [(1, 40)]), (17408, d9_7)]), (27654, [(17417, d9_2), (17421, [(0, 1201)]), (17422, d9_2), (17423, d9_6), (17424, d9_2), (27651, d9_5), (27652, T32), (27653, d9_13), (27654, T32)]), (34821, [(27655, T32), (27658, [(0, 64)]), (27660, [(0, 64)]), (27661, T32), (27664, d9_10), (27666, d9_10), (27667, d9_1), (34817, d9_1), (34821, [((-4), (-4)), (0, 19)])]), (53258, [(34822, d9_7), (41985, [(0, 4)]), (41996, d9_9), (41997, T32), (41998, T32), (53249, d9_14), (53253, d9_14), (53257, [(0, 576)]), (53258, d9_10)]), (112643, [(60417, d9_14), (60427, d9_14), (71686, d9_1), (100352, d9_15), (100354, d9_21), (100364, d9_1), (112640, d9_3), (112641, d9_2), (112643, [(0, 300)])]), (112670, [(112646, d9_1), (112647, d9_20), (112648, [(0, 201)]), (112660, [(1, 40)]), (112666, d9_10), (112667, d9_2), (112668, d9_8), (112669, d9_2), (112670, T32)]), (112701, [(112672, d9_7), (112686, [(0, 10400)]), (112692, [(0, 23)]), (112696, d9_24), (112697, d9_1), (112698, [((-1), 1200)]), (112699, d9_19), (112700, d9_10), (112701, d9_10)]), (112715, [(112704, d9_24), (112705, d9_9), (112706, [((-4), (-4)), (0, 29)]), (112707, T32), (112708, T32), (112709, d9_10), (112711, d9_12), (112714, d9_10), (112715, d9_1)]), (112752, [(112717, d9_1), (112721, [((-4), (-4)), (0, 19)]), (112722, d9_7), (112725, [(0, 4)]), (112735, T32), (112736, d9_14), (112747, d9_14), (112749, d9_14), (112752, [(0, 600)])]), (112790, [(112757, d9_10), (112758, d9_14), (112774, [(0, 161)]), (112776, d9_15), (112778, d9_21), (112788, d9_1), (112790, d9_10)])]
def T_ai : BT Dom := [(18, [(1, d9_18), (2, T32), (3, d9_4), (7, d9_9), (8, d9_1), (11, [((-4), (-4)), (0, 39)]), (12, [((-4), (-4)), (0, 19)]), (13, d9_10), (14, d9_10), (15, T32), (16, T32), (18, d9_9)]), (36, [(19, d9_17), (21, [(0, 25)]), (23, d9_18), (24, d9_8), (25, d9_2), (29, d9_10), (30, [(0, 2)]), (31, T32), (32, T32), (33, T32), (35, [(0, 4)]), (36, d9_19)]), (49, [(37, [(0, 24)]), (38, d9_5), (39, T32), (40, T32), (42, d9_7), (43, d9_19), (44, [((-4), (-4)), (0, 19)]), (45, d9_21), (46, [(0, 2)]), (47, T32), (48, T32), (49, T32)]), (65, [(50, T32), (51, T32), (54, d9_10), (55, [(0, 59)]), (56, d9_19), (57, d9_19), (60, d9_18), (61, d9_8), (62, [(0, 9)]), (63, T32), (64, T32), (65, T32)]), (102, [(66, T32), (67, T32), (68, d9_0), (69, [(0, 59)]), (72, T32), (73, d9_12), (74, d9_19), (96, d9_5), (99, [(0, 65535)]), (100, d9_8), (101, d9_21), (102, [(0, 4)])]), (115, [(103, T32), (104, T32), (105, d9_22), (106, d9_21), (107, [(0, 4)]), (108, T32), (109, T32), (111, d9_18), (112, T32), (113, T32), (114, [(0, 115)]), (115, d9_19)]), (129, [(116, T32), (117, T32), (118, T32), (119, T32), (120, d9_10), (121, d9_9), (122, d9_1), (125, [((-4), (-4)), (0, 39)]), (126, [((-4), (-4)), (0, 19)]), (127, d9_10), (128, d9_10), (129, d9_10)]), (141, [(130, d9_9), (131, d9_17), (132, [((-1), 2)]), (133, [((-1), 3)]), (134, T32), (135, [((-1), 6)]), (136, [((-1), 2)]), (137, T32), (138, T32), (139, [(0, 10400)]), (140, [(0, 10400)]), (141, [(0, 18)])]), (155, [(143, d9_9), (144, d9_10), (145, [(0, 2)]), (146, d9_24), (147, d9_19), (148, [(0, 0), (7, 13), (16, 18)]), (149, T32), (150, T32), (151, d9_8), (153, T32), (154, T32), (155, d9_4)]), (167, [(156, T32), (157, [(0, 4)]), (158, d9_19), (159, [(0, 24)]), (160, d9_5), (161, d9_10), (162, d9_7), (163, d9_19), (164, [((-4), (-4)), (0, 19)]), (165, T32), (166, d9_21), (167, [(0, 2)])]), (179, [(168, T32), (169, T32), (170, [((-4), (-4)), (0, 19)]), (171, d9_5), (172, d9_5), (173, d9_8), (174, d9_13), (175, T32), (176, d9_1), (177, T32), (178, d9_10), (179, d9_10)]), (191, [(180, [(0, 59)]), (181, [(0, 59)]), (182, d9_19), (183, d9_19), (184, d9_22), (185, d9_22), (186, d9_19), (187, d9_18), (188, d9_8), (189, [(0, 9)]), (190, T32), (191, T32)]), (205, [(192, T32), (193, T32), (194, T32), (195, d9_0), (196, [(0, 59)]), (198, T32), (199, d9_12), (200, d9_10), (201, d9_10), (202, T32), (204, [(0, 65535)]), (205, d9_8)]), (214, [(206, d9_21), (207, [(0, 4)]), (208, T32), (209, T32), (210, d9_22), (211, d9_21), (212, [(0, 4)]), (213, T32), (214, T32)])]
def T_co : BT (Nat × List Dom) := [(6, [(4, (7, [T32, T32, T32, T32, T32, T32, T32])), (6, (6, [[(0, 115)], d9_19, T32, T32, T32, T32]))]), (53, [(20, (9, [[(0, 2)], d9_9, T32, d9_15, [(0, 2)], d9_13, d9_6, d9_6, T32])), (53, (8, [d9_5, d9_5, d9_8, d9_13, T32, d9_1, T32, d9_10]))]), (58, [(58, (3, [d9_22, d9_22, d9_19]))])]
def T_rl : BT (Nat × Nat) := [(26, [(21, (3, 0)), (22, (3, 1)), (24, (11, 0)), (25, (11, 1)), (26, (11, 2))]), (63, [(46, (0, 0)), (47, (0, 1)), (48, (0, 2)), (61, (1, 0)), (63, (1, 1))]), (134, [(64, (1, 2)), (102, (2, 0)), (103, (2, 1)), (133, (9, 0)), (134, (9, 1))]), (157, [(136, (8, 0)), (137, (8, 1)), (141, (10, 0)), (142, (10, 1)), (157, (4, 0))]), (188, [(159, (4, 1)), (167, (5, 0)), (168, (5, 1)), (169, (5, 2)), (188, (6, 0))]), (208, [(190, (6, 1)), (191, (6, 2)), (207, (7, 0)), (208, (7, 1))])]
def T_rs : List Rl1 := [(48, ([(46, false), (47, false), (48, false)], [[d9_10, d9_4, d9_4], [[(2, 2)], [(1, 8)], T32]])), (60, ([(61, false), (63, false), (64, false)], [[[(0, 0)], [(0, 9)], [(0, 9)]], [[(1, 1)], T32, T32], [[(2, 2), (5, 5)], d9_1, T32], [[(3, 3)], [(10, 13)], T32], [[(4, 4)], [(0, 9)], d9_4]])), (144, ([(102, false), (103, false)], [[[(0, 1), (3, 3)], d9_22], [[(2, 2)], [(0, 65535)]], [[(4, 4)], T32]])), (9600, ([(21, false), (22, true)], [[[(0, 3), (7, 12), (21, 23)], T64], [[(4, 6), (13, 20)], d9_19], [[(24, 25)], d9_6]])), (20, ([(157, false), (159, false)], [[[(0, 1), (3, 4)], d9_19], [[(2, 2)], [(0, 24)]]])), (48, ([(167, false), (168, false), (169, false)], [[d9_10, d9_4, d9_4], [[(2, 2)], [(1, 8)], T32]])), (60, ([(188, false), (190, false), (191, false)], [[[(0, 0)], [(0, 9)], [(0, 9)]], [[(1, 1)], T32, T32], [[(2, 2), (5, 5)], d9_1, T32], [[(3, 3)], [(10, 13)], T32], [[(4, 4)], [(0, 9)], d9_4]])), (144, ([(207, false), (208, false)], [[[(0, 1), (3, 3)], d9_22], [[(2, 2)], [(0, 65535)]], [[(4, 4)], T32]])), (240, ([(136, false), (137, false)], [[[((-1), 0)], T32], [[(1, 2)], d9_13]])), (240, ([(133, false), (134, false)], [[[((-1), 0), (2, 3)], T32], [[(1, 1)], d9_19]])), (10400, ([(141, false), (142, true)], [[[(0, 3), (7, 13), (16, 18)], T64], [[(4, 6), (14, 15)], d9_19]])), (1201, ([(24, false), (25, false), (26, true)], [[[(1, 1)], [(0, 1199)], [(1, 1200)]], [[(0, 0), (2, 5)], d9_2, T64]]))]
def TJ : Jx := (T_fi, (T_ai, (T_co, (T_rl, T_rs))))
theorem TJ_wf : TJ.wf = true := by decide +kernel
end
end
