noncomputable section
/-! ===== PRODUCTS, 3: two sides, each with cells of its own ===== -/
/-- from frames cs (none: ended with rv) a side comes to r, σ', whatever the other side's cells hold -/
def Ex (E : xV) (Y : Nat → xY) (D : Nat → Bool) (cs : List CF) (rv : Option Value) (σ : zS) (r : Option Value) (σ' : zS) : Prop := match cs with
  | [] => r = rv ∧ σ' = σ
  | c :: cs => agD D σ σ' ∧ ∀ τ K, K r (mixD D σ' τ) → Rn E Y (c :: cs) (mixD D σ τ) K
abbrev K2t : Type := Option Value → Option Value → zS → Prop
def dN (D : Nat → Bool) : Nat → Bool := fun k => !(D k)
def PP (E : xV) (Y : Nat → xY) (D : Nat → Bool) (hc : List CF) (hr : Option Value) (mc : List CF) (mr : Option Value) (σ : zS) (K2 : K2t) : Prop := ∃ rH σ1 rM σ2, Ex E Y D hc hr σ rH σ1 ∧ Ex E Y (dN D) mc mr σ1 rM σ2 ∧ K2 rH rM σ2
section P9
variable {E : xV} {Y : Nat → xY} {D : Nat → Bool} {σ σ' τ : zS}
theorem mix_ag (h : ∀ k, D k = true → σ'.1 k = σ.1 k ∧ σ'.2 k = σ.2 k) : mixD D σ' τ = mixD D σ τ := by
  unfold mixD
  refine Prod.ext (funext fun k => ?_) (funext fun k => ?_)
  · dsimp only
    cases hk : D k with
    | true => simp only [cond_true]; exact (h k hk).1
    | false => rfl
  · dsimp only
    cases hk : D k with
    | true => simp only [cond_true]; exact (h k hk).2
    | false => rfl
theorem mix_self (h : agD D σ σ') : mixD D σ' σ = σ' := by
  unfold mixD
  refine Prod.ext (funext fun k => ?_) (funext fun k => ?_)
  · dsimp only
    cases hk : D k with
    | true => rfl
    | false => simp only [cond_false]; exact (h k hk).1.symm
  · dsimp only
    cases hk : D k with
    | true => rfl
    | false => simp only [cond_false]; exact (h k hk).2.symm
theorem mix_in {k : Nat} (h : D k = true) : (mixD D σ τ).1 k = σ.1 k ∧ (mixD D σ τ).2 k = σ.2 k := ⟨mix1 h, mix2 h⟩
theorem mix_out {k : Nat} (h : D k = false) : (mixD D σ τ).1 k = τ.1 k ∧ (mixD D σ τ).2 k = τ.2 k := by
  unfold mixD
  simp only [h, cond_false, and_self]
theorem dN_t {k : Nat} (h : dN D k = true) : D k = false := by
  have h : (!(D k)) = true := h
  cases hk : D k with
  | true => rw [hk] at h; cases h
  | false => rfl
theorem dN_f {k : Nat} (h : dN D k = false) : D k = true := by
  have h : (!(D k)) = false := h
  cases hk : D k with
  | true => rfl
  | false => rw [hk] at h; cases h
theorem dN_of {k : Nat} (h : D k = true) : dN D k = false := by
  show (!(D k)) = false
  rw [h]; rfl
theorem PP.qlH {mc : List CF} {mr : Option Value} {K2 : K2t} : QLp E Y D (fun cs rv σ => PP E Y D cs rv mc mr σ K2) := by
  refine ⟨fun c cs f fs σ σ' h1 h2 h3 => ?_, fun c cs r σ h1 h3 => ?_⟩
  · obtain ⟨rH, σ1, rM, σ2, ⟨a1, a2⟩, b, k⟩ := h3
    exact ⟨rH, σ1, rM, σ2, ⟨h1.tr a1, fun τ K q => h2 τ K (a2 τ K q)⟩, b, k⟩
  · obtain ⟨rH, σ1, rM, σ2, ⟨a1, a2⟩, b, k⟩ := h3
    subst a1
    subst a2
    exact ⟨rH, σ1, rM, σ2, ⟨agD.rf, h1⟩, b, k⟩
/-- what the other side holds is untouched -/
theorem Ex.off {cs : List CF} {rv r : Option Value} (h : Ex E Y D cs rv σ r σ') : agD D σ σ' := by
  cases cs with
  | nil => obtain ⟨_, rfl⟩ := h; exact agD.rf
  | cons _ _ => exact h.1
theorem PP.qlM {hc : List CF} {hr : Option Value} {K2 : K2t} : QLp E Y (dN D) (fun cs rv σ => PP E Y D hc hr cs rv σ K2) := by
  refine ⟨fun c cs f fs σ σ' h1 h2 h3 => ?_, fun c cs r σ h1 h3 => ?_⟩
  · obtain ⟨rH, σ1', rM, σ2, e1, ⟨a2, e2⟩, k⟩ := h3
    have hin : ∀ k, D k = true → σ'.1 k = σ.1 k ∧ σ'.2 k = σ.2 k := fun k hk => h1 k (dN_of hk)
    refine ⟨rH, mixD D σ1' σ, rM, σ2, ?_, ⟨fun k hk => ?_, fun τ K q => ?_⟩, k⟩
    · cases hc with
      | nil =>
        obtain ⟨q1, q2⟩ := e1
        refine ⟨q1, ?_⟩
        rw [q2, mix_ag hin]
        exact mix_self agD.rf
      | cons c0 cs0 =>
        obtain ⟨q1, q2⟩ := e1
        refine ⟨fun k hk => mix_out hk, fun τ K q => ?_⟩
        have e3 : mixD D (mixD D σ1' σ) τ = mixD D σ1' τ := mix_ag (fun k hk => mix_in hk)
        rw [e3] at q
        have := q2 τ K q
        rw [mix_ag hin] at this
        exact this
    · have hk' := dN_f hk
      have := a2 k hk
      exact ⟨this.1.trans (mix_in (τ := σ) hk').1.symm, this.2.trans (mix_in (τ := σ) hk').2.symm⟩
    · have e3 : mixD (dN D) (mixD D σ1' σ) τ = mixD (dN D) σ τ := mix_ag (fun k hk => mix_out (dN_t hk))
      rw [e3]
      refine h2 τ K ?_
      have e4 : mixD (dN D) σ1' τ = mixD (dN D) σ' τ := mix_ag (fun k hk => e1.off k (dN_t hk))
      rw [← e4]
      exact e2 τ K q
  · obtain ⟨rH, σ1, rM, σ2, e1, ⟨a1, a2⟩, k⟩ := h3
    subst a1
    subst a2
    refine ⟨rH, σ2, rM, σ2, e1, ⟨agD.rf, fun τ K q => ?_⟩, k⟩
    have e3 : mixD (dN D) σ2 τ = mixD (dN D) σ τ := mix_ag (fun k hk => e1.off k (dN_t hk))
    rw [e3] at q ⊢
    exact h1 τ K q
/-- fewer locals -/
def Sb : List CF → List CF → Prop
  | [], [] => True
  | c :: cs, d :: ds => (((c.1 = d.1 ∧ c.2.1 = d.2.1) ∧ c.2.2.2 = d.2.2.2) ∧ ∃ ks, lv_pick c.2.2.1 ks = d.2.2.1) ∧ Sb cs ds
  | _, _ => False
theorem Kc_sub {K : zKt} : ∀ {cs ds : List CF}, Sb cs ds → ∀ (r : Option Value) (σ : zS), Kc E Y ds K r σ → Kc E Y cs K r σ
  | [], [], _, _, _, q => q
  | c :: cs, d :: ds, ⟨⟨⟨⟨h1, h2⟩, h3⟩, ks, h4⟩, h5⟩, r, σ, q => by
    show Wz E (Y c.1) c.2.1 c.2.2.1 (r.toList ++ c.2.2.2) σ (Kc E Y cs K)
    rw [h1, h2, h3]
    exact z_sub ks h4 (Wz.mono q (fun v σ' h => Kc_sub h5 v σ' h))
  | [], _ :: _, h, _, _, _ => h.elim
  | _ :: _, [], h, _, _, _ => h.elim
theorem Rn_sub {K : zKt} {c d : CF} {cs ds : List CF} (h : Sb (c :: cs) (d :: ds)) (q : Rn E Y (d :: ds) σ K) : Rn E Y (c :: cs) σ K := by
  obtain ⟨⟨⟨⟨h1, h2⟩, h3⟩, ks, h4⟩, h5⟩ := h
  show Wz E (Y c.1) c.2.1 c.2.2.1 c.2.2.2 σ (Kc E Y cs K)
  rw [h1, h2, h3]
  exact z_sub ks h4 (Wz.mono q (fun v σ' h => Kc_sub h5 v σ' h))
theorem ql_sub {Q : Qt} (hQ : QLp E Y D Q) {cs ds : List CF} (h : Sb cs ds) {rv : Option Value} (hn : cs ≠ [] → rv = none) (q : Q ds rv σ) : Q cs rv σ := by
  cases cs with
  | nil =>
    cases ds with
    | nil => exact q
    | cons _ _ => exact h.elim
  | cons c cs =>
    cases ds with
    | nil => exact h.elim
    | cons d ds =>
      have e := hn (fun e => by cases e)
      subst e
      exact hQ.1 c cs d ds σ σ agD.rf (fun τ K q => Rn_sub h q) q
end P9
/-- frames met by a pattern -/
def mfr (s : Sy) : List Fm → List Fm → List AV → Option (List AV)
  | [], [], th => some th
  | p :: ps, f :: fs, th => bif Nat.beq p.pc f.pc && Nat.beq p.m f.m then (match mtv s f.lv p.lv th with
    | some t1 => match mtl s p.st f.st t1 with
      | some t2 => mfr s ps fs t2
      | none => none
    | none => none) else none
  | _, _, _ => none
theorem mfr_ok {J : Jt} {s : Sy} {ρ : List Int} {σ : zS} (h : Ok J s ρ σ) : ∀ {ps fs : List Fm} {cs : List CF} {th th' : List AV}, mfr s ps fs th = some th' → Df ρ th → Rg ρ fs cs → ∃ ds, Df ρ th' ∧ Ext th th' ∧ Rg (vals ρ th') ps ds ∧ Sb cs ds
  | [], [], cs, th, th', e, hd, hr => by
    cases Option.some.inj e
    cases cs with
    | nil => exact ⟨[], hd, Ext.rf, trivial, trivial⟩
    | cons _ _ => exact hr.elim
  | p :: ps, f :: fs, cs, th, th', e, hd, hr => by
    cases cs with
    | nil => exact hr.elim
    | cons c cs =>
      obtain ⟨⟨⟨e1, e2⟩, hl, hs⟩, hr⟩ := hr
      unfold mfr at e
      cases hb : Nat.beq p.pc f.pc && Nat.beq p.m f.m with
      | false => rw [hb] at e; cases e
      | true =>
        rw [hb] at e
        simp only [cond_true] at e
        rw [Bool.and_eq_true] at hb
        have b1 := Nat.eq_of_beq_eq_true hb.1
        have b2 := Nat.eq_of_beq_eq_true hb.2
        split at e
        · rename_i t1 m1
          obtain ⟨ks, l', k1, d1, x1, r1⟩ := mtv_ok h hl m1 hd
          split at e
          · rename_i t2 m2
            obtain ⟨d2, x2, r2⟩ := mtl_ok h m2 d1 hs
            obtain ⟨ds, d3, x3, r3, b3⟩ := mfr_ok h e d2 hr
            exact ⟨(c.1, (c.2.1, (l', c.2.2.2))) :: ds, d3, (x1.tr x2).tr x3, ⟨⟨⟨b2.trans e1, b1.trans e2⟩, r1.mono (x2.tr x3).pre, r2.mono x3.pre⟩, r3⟩, ⟨⟨⟨rfl, rfl⟩, rfl⟩, ks, k1⟩, b3⟩
          · cases e
        · cases e
  | [], _ :: _, _, _, _, e, _, _ => by cases e
  | _ :: _, [], _, _, _, e, _, _ => by cases e
theorem Ra.rs {ρ : List Int} : ∀ {a : Option AV} {v : Option Value}, Ra ρ a v → Rs ρ a.toList v.toList
  | none, none, _ => trivial
  | some _, some _, q => ⟨q, trivial⟩
  | none, some _, q => q.elim
  | some _, none, q => q.elim
theorem Ra.of {ρ : List Int} : ∀ {a : Option AV} {v : Option Value}, Rs ρ a.toList v.toList → Ra ρ a v
  | none, none, _ => trivial
  | some _, some _, q => q.1
  | none, some _, q => q.elim
  | some _, none, q => q.elim
/-- where both sides stand: frames or an answer of each; what is known; what falls; which sides go on from here -/
abbrev A2 : Type := (List Fm × Option AV) × ((List Fm × Option AV) × (Kn × ((Lf × Int) × (Bool × Bool))))
abbrev A2.hf (a : A2) : List Fm := a.1.1
abbrev A2.hr (a : A2) : Option AV := a.1.2
abbrev A2.mf (a : A2) : List Fm := a.2.1.1
abbrev A2.mr (a : A2) : Option AV := a.2.1.2
abbrev A2.kn (a : A2) : Kn := a.2.2.1
abbrev A2.mu (a : A2) : Lf × Int := a.2.2.2.1
abbrev A2.rh (a : A2) : Bool := a.2.2.2.2.1
abbrev A2.rm (a : A2) : Bool := a.2.2.2.2.2
def arr2 (G : Gx) (s0 : Sy) (hf : List Fm) (hr : Option AV) (mf : List Fm) (mr : Option AV) (mu0 : Lf × Int) (a : A2) : Bool :=
  let s := fillm G a.kn.me s0
  match mfr s a.hf hf [] with
  | some t1 => match mtl s a.hr.toList hr.toList t1 with
    | some t2 => match mfr s a.mf mf t2 with
      | some t3 => match mtl s a.mr.toList mr.toList t3 with
        | some t4 => match mta s a.kn t4 with
          | some th => falls s th mu0 a.mu
          | none => false
        | none => false
      | none => false
    | none => false
  | none => false
/-- the whole: hints; where the sides stop; where they meet; the end; are the answers to be the same -/
abbrev Pc : Type := BT (List (Nat × (Nat × Nat))) × (List Lb × (List Lb × (List A2 × (Al × (Bool × (Sct × Sct))))))
abbrev Pc.hint (C : Pc) : BT (List (Nat × (Nat × Nat))) := C.1
abbrev Pc.ch (C : Pc) : List Lb := C.2.1
abbrev Pc.cm (C : Pc) : List Lb := C.2.2.1
abbrev Pc.an (C : Pc) : List A2 := C.2.2.2.1
abbrev Pc.al (C : Pc) : Al := C.2.2.2.2.1
abbrev Pc.eq (C : Pc) : Bool := C.2.2.2.2.2.1
abbrev Pc.sh (C : Pc) : Sct := C.2.2.2.2.2.2.1
abbrev Pc.sm (C : Pc) : Sct := C.2.2.2.2.2.2.2
def fin2 (G : Gx) (C : Pc) (s : Sy) (hr mr : Option AV) : Bool := match hr, mr with
  | some a, some b => (((a.isI && b.isI) || (a.isL && b.isL)) && (!(C.eq) || eqv s a b)) && (match mtl (fillm G C.al.2.me s) C.al.1 [b] [] with
    | some t => isS (mta (fillm G C.al.2.me s) C.al.2 t)
    | none => false)
  | _, _ => false
def met2 (G : Gx) (C : Pc) (mu0 : Lf × Int) (s : Sy) (hf : List Fm) (hr : Option AV) (mf : List Fm) (mr : Option AV) : Bool := bif infe s then true else bif isNil hf && isNil mf then fin2 G C s hr mr else C.an.any fun a => arr2 G s hf hr mf mr mu0 a
def ktM (G : Gx) (C : Pc) (mu0 : Lf × Int) (hf : List Fm) (hr : Option AV) : Kont := fun s _ mf mr => met2 G C mu0 s hf hr mf mr
def ktH (G : Gx) (C : Pc) (D : Nat → Bool) (n : Nat) (mu0 : Lf × Int) (rm : Bool) (mf : List Fm) (mr : Option AV) : Kont := fun s mm hf hr => bif rm || (isNil hf && !(isNil mf)) then walkP G (dN D, (C.hint, (C.cm, C.sm))) (ktM G C mu0 hf hr) n s mm mf else met2 G C mu0 s hf hr mf mr
def chk2 (G : Gx) (C : Pc) (D : Nat → Bool) (n : Nat) (a : A2) : Bool := bif a.rh then (isNil a.mr.toList || isNil a.mf) && walkP G (D, (C.hint, (C.ch, C.sh))) (ktH G C D n a.mu a.rm a.mf a.mr) n a.kn.sy [] a.hf else walkP G (dN D, (C.hint, (C.cm, C.sm))) (ktM G C a.mu a.hf a.hr) n a.kn.sy [] a.mf
/-- a side that has frames has no answer -/
def sdOk (a : A2) : Bool := (isNil a.hf || isNil a.hr.toList) && (isNil a.mf || isNil a.mr.toList)
section P10
variable {E : xV} {Y : Nat → xY} {G : Gx} {J : Jt} {D : Nat → Bool} {C : Pc} {K2 : K2t}
theorem falls2_ok {s : Sy} {ρ : List Int} {σ : zS} (h : Ok J s ρ σ) {th : List AV} {mu0 mu : Lf × Int} {M : Int} (hd : Df ρ th) (hf : falls s th mu0 mu = true) (hM : tvo ρ mu0.1 = some M) : ∃ v, tvo (vals ρ th) mu.1 = some v ∧ 0 ≤ v + mu.2 ∧ v + mu.2 < M + mu0.2 := falls_ok h hd hf hM
theorem arr2_ok (hJ : POk G.g G.P J) {s : Sy} {ρ : List Int} {σ : zS} (h : Ok J s ρ σ) {hf mf : List Fm} {hr mr : Option AV} {mu0 : Lf × Int} {a : A2} {hc mc : List CF} {hv mv : Option Value} {M : Int} (ha : arr2 G s hf hr mf mr mu0 a = true) (h1 : Rg ρ hf hc) (h2 : Ra ρ hr hv) (h3 : Rg ρ mf mc) (h4 : Ra ρ mr mv) (hM : tvo ρ mu0.1 = some M) : ∃ ρ' hc' mc' m, Ko J a.kn ρ' σ ∧ (Rg ρ' a.hf hc' ∧ Ra ρ' a.hr hv) ∧ (Rg ρ' a.mf mc' ∧ Ra ρ' a.mr mv) ∧ (Sb hc hc' ∧ Sb mc mc') ∧ tvo ρ' a.mu.1 = some m ∧ 0 ≤ m + a.mu.2 ∧ m + a.mu.2 < M + mu0.2 := by
  unfold arr2 at ha
  dsimp only at ha
  obtain ⟨ρf, pf, of⟩ := fillm_ok hJ (l := a.kn.me) h
  replace h1 := h1.mono pf
  replace h2 := h2.mono pf
  replace h3 := h3.mono pf
  replace h4 := h4.mono pf
  replace hM := tvo.mono pf hM
  split at ha
  · rename_i t1 e1
    obtain ⟨hc', d1, x1, r1, b1⟩ := mfr_ok of e1 (fun b hb => by cases hb) h1
    split at ha
    · rename_i t2 e2
      obtain ⟨d2, x2, r2⟩ := mtl_ok of e2 d1 h2.rs
      split at ha
      · rename_i t3 e3
        obtain ⟨mc', d3, x3, r3, b3⟩ := mfr_ok of e3 d2 h3
        split at ha
        · rename_i t4 e4
          obtain ⟨d4, x4, r4⟩ := mtl_ok of e4 d3 h4.rs
          split at ha
          · rename_i th e5
            obtain ⟨d5, x5, k5, o5⟩ := mta_ok of e5 d4
            obtain ⟨m, m1, m2, m3⟩ := falls_ok of d5 ha hM
            exact ⟨vals ρf th, hc', mc', m, ⟨o5, mtk_tp d5 k5⟩, ⟨r1.mono (((x2.tr x3).tr x4).tr x5).pre, Ra.of (r2.mono ((x3.tr x4).tr x5).pre)⟩, ⟨r3.mono (x4.tr x5).pre, Ra.of (r4.mono x5.pre)⟩, ⟨b1, b3⟩, m1, m2, m3⟩
          · cases ha
        · cases ha
      · cases ha
    · cases ha
  · cases ha
/-- what the end gives -/
def F2 (J : Jt) (G : Gx) (C : Pc) (K2 : K2t) : Prop := ∀ (s : Sy) (ρ : List Int) (σ : zS) (hr mr : Option AV) (hv mv : Option Value), fin2 G C s hr mr = true → Ok J s ρ σ → Ra ρ hr hv → Ra ρ mr mv → K2 hv mv σ
def I2 (E : xV) (Y : Nat → xY) (J : Jt) (D : Nat → Bool) (C : Pc) (K2 : K2t) (N : Int) : Prop := ∀ a ∈ C.an, ∀ (ρ : List Int) (σ : zS) (hc mc : List CF) (hv mv : Option Value) (m : Int), Ko J a.kn ρ σ → Rg ρ a.hf hc → Ra ρ a.hr hv → Rg ρ a.mf mc → Ra ρ a.mr mv → tvo ρ a.mu.1 = some m → 0 ≤ m + a.mu.2 → m + a.mu.2 < N → PP E Y D hc hv mc mv σ K2
theorem isNil_e {α : Type} {l : List α} (h : isNil l = true) : l = [] := by
  cases l with
  | nil => rfl
  | cons _ _ => cases h
theorem Rg.nil {ρ : List Int} {cs : List CF} (h : Rg ρ [] cs) : cs = [] := by
  cases cs with
  | nil => rfl
  | cons _ _ => exact h.elim
theorem met2_ok (hJ : POk G.g G.P J) (hF : F2 J G C K2) {mu0 : Lf × Int} {s : Sy} {ρ : List Int} {σ : zS} {hf mf : List Fm} {hr mr : Option AV} {hc mc : List CF} {hv mv : Option Value} {M : Int} (hI : I2 E Y J D C K2 (M + mu0.2)) (h : met2 G C mu0 s hf hr mf mr = true) (ho : Ok J s ρ σ) (h1 : Rg ρ hf hc) (h2 : Ra ρ hr hv) (h3 : Rg ρ mf mc) (h4 : Ra ρ mr mv) (hM : tvo ρ mu0.1 = some M) (n1 : hc ≠ [] → hv = none) (n2 : mc ≠ [] → mv = none) : PP E Y D hc hv mc mv σ K2 := by
  unfold met2 at h
  cases h8 : infe s with
  | true => exact (infe_ok ho h8).elim
  | false =>
  rw [h8] at h
  simp only [cond_false] at h
  cases hb : isNil hf && isNil mf with
  | true =>
    rw [hb] at h
    rw [Bool.and_eq_true] at hb
    rw [isNil_e hb.1] at h1
    rw [isNil_e hb.2] at h3
    cases h1.nil
    cases h3.nil
    exact ⟨hv, σ, mv, σ, ⟨rfl, rfl⟩, ⟨rfl, rfl⟩, hF s ρ σ hr mr hv mv h ho h2 h4⟩
  | false =>
    rw [hb] at h
    obtain ⟨a, ha, h5⟩ := List.any_eq_true.mp h
    obtain ⟨ρ', hc', mc', m, k1, ⟨k2, k3⟩, ⟨k4, k5⟩, ⟨k6, k7⟩, k8, k9, k10⟩ := arr2_ok hJ ho h5 h1 h2 h3 h4 hM
    have q := hI a ha ρ' σ hc' mc' hv mv m k1 k2 k3 k4 k5 k8 k9 k10
    exact ql_sub (Q := fun cs rv σ => PP E Y D cs rv mc mv σ K2) PP.qlH k6 n1 (ql_sub (Q := fun cs rv σ => PP E Y D hc' hv cs rv σ K2) PP.qlM k7 n2 q)
theorem Ra_none {ρ : List Int} {v : Option Value} (h : Ra ρ none v) : v = none := by
  cases v with
  | none => rfl
  | some _ => exact h.elim
/-- a continuation is called with frames and no answer, or with an answer and no frames -/
def kok (kt : Kont) : Kont := fun s mm fs a => (isNil fs || isNil a.toList) && kt s mm fs a
theorem chk2_ok (hG : GxOk Y G) (hJ : POk G.g G.P J) (hX : HOb G J) (hT : ScT E Y J (D, (C.hint, (C.ch, C.sh))) ∧ ScT E Y J (dN D, (C.hint, (C.cm, C.sm)))) (hF : F2 J G C K2) {n : Nat} {a : A2} (h : chk2 G C D n a = true) (hs : sdOk a = true) {ρ : List Int} {σ : zS} {hc mc : List CF} {hv mv : Option Value} {m : Int} (hk : Ko J a.kn ρ σ) (h1 : Rg ρ a.hf hc) (h2 : Ra ρ a.hr hv) (h3 : Rg ρ a.mf mc) (h4 : Ra ρ a.mr mv) (hm : tvo ρ a.mu.1 = some m) (hI : I2 E Y J D C K2 (m + a.mu.2)) : PP E Y D hc hv mc mv σ K2 := by
  unfold sdOk at hs
  rw [Bool.and_eq_true, Bool.or_eq_true, Bool.or_eq_true] at hs
  have n1 : hc ≠ [] → hv = none := fun q => by
    rcases hs.1 with e | e
    · rw [isNil_e e] at h1; exact absurd h1.nil q
    · cases hr : a.hr with
      | none => rw [hr] at h2; exact Ra_none h2
      | some _ => rw [hr] at e; cases e
  have n2 : mc ≠ [] → mv = none := fun q => by
    rcases hs.2 with e | e
    · rw [isNil_e e] at h3; exact absurd h3.nil q
    · cases hr : a.mr with
      | none => rw [hr] at h4; exact Ra_none h4
      | some _ => rw [hr] at e; cases e
  unfold chk2 at h
  have nn : ∀ {D' : Nat → Bool} {Q : Qt}, QLp E Y D' Q → True := fun _ => trivial
  cases hrh : a.rh with
  | true =>
    rw [hrh] at h
    simp only [cond_true, Bool.and_eq_true] at h
    have hmn : mc ≠ [] → mv = none := n2
    -- H first
    have hh : PP E Y D hc none mc mv σ K2 := by
      refine walkP_ok (E := E) (V := (D, (C.hint, (C.ch, C.sh)))) (Q := fun cs rv σ => (cs ≠ [] → rv = none) → PP E Y D cs rv mc mv σ K2) (ρ1 := ρ) hG hJ hX ?_ hT.1 ?_ n a.kn.sy [] a.hf ρ σ hc h.2 Pre.rf hk.1 (fun e he => by cases he) h1 (fun _ => rfl)
      · refine ⟨fun c cs f fs σ σ' q1 q2 q3 _ => PP.qlH.1 c cs f fs σ σ' q1 q2 (q3 (fun _ => rfl)), fun c cs r σ q1 q3 _ => PP.qlH.2 c cs r σ q1 (q3 (fun q => absurd rfl q))⟩
      · intro s mm hf hr ρ' σ' cs rv g1 g2 g3 g4 g5 g6 g7
        unfold ktH at g1
        cases hrm : (a.rm || (isNil hf && !(isNil a.mf))) with
        | false =>
          rw [hrm] at g1
          exact met2_ok hJ hF hI g1 g3 g5 g6 (h3.mono g2) (h4.mono g2) (tvo.mono g2 hm) g7 n2
        | true =>
          rw [hrm] at g1
          simp only [cond_true] at g1
          have hmm : PP E Y D cs rv mc none σ' K2 := by
            refine walkP_ok (E := E) (V := (dN D, (C.hint, (C.cm, C.sm)))) (Q := fun cs' rv' σ => (cs' ≠ [] → rv' = none) → PP E Y D cs rv cs' rv' σ K2) (ρ1 := ρ') hG hJ hX ?_ hT.2 ?_ n s mm a.mf ρ' σ' mc g1 Pre.rf g3 g4 (h3.mono g2) (fun _ => rfl)
            · refine ⟨fun c cs f fs σ σ' q1 q2 q3 _ => PP.qlM.1 c cs f fs σ σ' q1 q2 (q3 (fun _ => rfl)), fun c cs r σ q1 q3 _ => PP.qlM.2 c cs r σ q1 (q3 (fun q => absurd rfl q))⟩
            · intro s2 mm2 mf2 mr2 ρ2 σ2 cs2 rv2 w1 w2 w3 w4 w5 w6 w7
              exact met2_ok hJ hF hI w1 w3 (g5.mono w2) (g6.mono w2) w5 w6 (tvo.mono (g2.tr w2) hm) g7 w7
          have hmv : mv = none := by
            rcases Bool.or_eq_true _ _ ▸ h.1 with e | e
            · cases hr : a.mr with
              | none => rw [hr] at h4; exact Ra_none h4
              | some _ => rw [hr] at e; cases e
            · cases n with
              | zero => cases g1
              | succ n =>
                rw [isNil_e e] at g1
                cases g1
          rw [hmv]
          exact hmm
    have hhv : hv = none := by
      refine n1 (fun e => ?_)
      rw [e] at h1
      cases hf : a.hf with
      | nil =>
        have := h.2
        rw [hf] at this
        cases n with
        | zero => cases this
        | succ n => cases this
      | cons _ _ => rw [hf] at h1; exact h1.elim
    rw [hhv]
    exact hh
  | false =>
    rw [hrh] at h
    simp only [cond_false] at h
    have hmm : PP E Y D hc hv mc none σ K2 := by
      refine walkP_ok (E := E) (V := (dN D, (C.hint, (C.cm, C.sm)))) (Q := fun cs' rv' σ => (cs' ≠ [] → rv' = none) → PP E Y D hc hv cs' rv' σ K2) (ρ1 := ρ) hG hJ hX ?_ hT.2 ?_ n a.kn.sy [] a.mf ρ σ mc h Pre.rf hk.1 (fun e he => by cases he) h3 (fun _ => rfl)
      · refine ⟨fun c cs f fs σ σ' q1 q2 q3 _ => PP.qlM.1 c cs f fs σ σ' q1 q2 (q3 (fun _ => rfl)), fun c cs r σ q1 q3 _ => PP.qlM.2 c cs r σ q1 (q3 (fun q => absurd rfl q))⟩
      · intro s2 mm2 mf2 mr2 ρ2 σ2 cs2 rv2 w1 w2 w3 w4 w5 w6 w7
        exact met2_ok hJ hF hI w1 w3 (h1.mono w2) (h2.mono w2) w5 w6 (tvo.mono w2 hm) n1 w7
    have hmv : mv = none := by
      refine n2 (fun e => ?_)
      rw [e] at h3
      cases hf : a.mf with
      | nil =>
        rw [hf] at h
        cases n with
        | zero => cases h
        | succ n => cases h
      | cons _ _ => rw [hf] at h3; exact h3.elim
    rw [hmv]
    exact hmm
theorem all2_ok (hG : GxOk Y G) (hJ : POk G.g G.P J) (hX : HOb G J) (hT : ScT E Y J (D, (C.hint, (C.ch, C.sh))) ∧ ScT E Y J (dN D, (C.hint, (C.cm, C.sm)))) (hF : F2 J G C K2) {n : Nat} (h : ∀ a ∈ C.an, chk2 G C D n a = true ∧ sdOk a = true) : ∀ N : Nat, I2 E Y J D C K2 (N : Int)
  | 0 => fun a _ ρ σ hc mc hv mv m _ _ _ _ _ _ q1 q2 => by omega
  | N + 1 => fun a ha ρ σ hc mc hv mv m k1 k2 k3 k4 k5 k6 k7 k8 => by
    refine chk2_ok hG hJ hX hT hF (h a ha).1 (h a ha).2 k1 k2 k3 k4 k5 k6 (fun b hb ρ' σ' hc' mc' hv' mv' m' g1 g2 g3 g4 g5 g6 g7 g8 => ?_)
    exact all2_ok hG hJ hX hT hF h N b hb ρ' σ' hc' mc' hv' mv' m' g1 g2 g3 g4 g5 g6 g7 (by omega)
/-- both methods from their beginnings -/
theorem root2_ok (hG : GxOk Y G) (hJ : POk G.g G.P J) (hX : HOb G J) (hT : ScT E Y J (D, (C.hint, (C.ch, C.sh))) ∧ ScT E Y J (dN D, (C.hint, (C.cm, C.sm)))) (hF : F2 J G C K2) {n : Nat} (h : ∀ a ∈ C.an, chk2 G C D n a = true ∧ sdOk a = true) {zH zM : Nat} {arH arM : List AV} {kn : Kn} {big : Nat} {fl : Bool × Bool} (hr : chk2 G C D n (([⟨zH, 0, argLv 0 arH, []⟩], none), (([⟨zM, 0, argLv 0 arM, []⟩], none), (kn, (([], (big : Int)), fl)))) = true) (eH : entOk G zH arH = true) (eM : entOk G zM arM = true) {ρ : List Int} {σ : zS} {avH avM : List Value} (hk : Ko J kn ρ σ) (h1 : Rs ρ arH avH) (h2 : Rs ρ arM avM) : ∃ rH σ1 rM σ2, K2 rH rM σ2 ∧ (∀ K : zKt, K rH σ1 → Cz E (Y zH) avH σ K) ∧ ∀ K : zKt, K rM σ2 → Cz E (Y zM) avM σ1 K := by
  have hI := all2_ok (E := E) (Y := Y) hG hJ hX hT hF h big
  have hp := chk2_ok (E := E) (Y := Y) (m := 0) (hc := [(zH, (0, (lv_args 0 avH, [])))]) (mc := [(zM, (0, (lv_args 0 avM, [])))]) (hv := none) (mv := none) hG hJ hX hT hF hr rfl hk ⟨⟨⟨rfl, rfl⟩, argLv_ok h1, trivial⟩, trivial⟩ trivial ⟨⟨⟨rfl, rfl⟩, argLv_ok h2, trivial⟩, trivial⟩ trivial rfl (fun b hb ρ' σ' hc' mc' hv' mv' m' g1 g2 g3 g4 g5 g6 g7 g8 => hI b hb ρ' σ' hc' mc' hv' mv' m' g1 g2 g3 g4 g5 g6 g7 (by dsimp only at g8; omega))
  obtain ⟨rH, σ1, rM, σ2, ⟨a1, a2⟩, ⟨b1, b2⟩, k⟩ := hp
  obtain ⟨e1, e2⟩ := entOk_ok hG eH
  obtain ⟨e3, e4⟩ := entOk_ok hG eM
  refine ⟨rH, σ1, rM, σ2, k, fun K q => ?_, fun K q => ?_⟩
  · refine z_entry e1 (fun a => by rw [sl_len, cats_ok h1]; exact e2) rfl ?_
    have := a2 σ K (by rw [mix_self a1]; exact q)
    rw [mix_self agD.rf] at this
    exact this
  · refine z_entry e3 (fun a => by rw [sl_len, cats_ok h2]; exact e4) rfl ?_
    have := b2 σ1 K (by rw [mix_self b1]; exact q)
    rw [mix_self agD.rf] at this
    exact this
end P10
end
