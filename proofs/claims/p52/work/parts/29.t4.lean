noncomputable section
/-! ===== PRODUCTS, 4: contracts of helpers, for one side, whatever the other side's cells hold ===== -/
def Jw (J : Jt) (w : List Nat) (σ0 : zS) : Jt := fun H σ => J H σ ∧ ∀ k, memb w k = false → σ.1 k = σ0.1 k ∧ σ.2 k = σ0.2 k
def Pw (P : Pl) (w : List Nat) : Pl := (P.dm, (P.dl, (fun s k p v => bif memb w k then P.wi s k p v else none, (fun s k p v => bif memb w k then P.wl s k p v else none, (fun k => memb w k && P.fr k, fun k0 k1 => memb w k1 && P.cp k0 k1)))))
def Gw (G : Gx) (w : List Nat) : Gx := (G.g, (Pw G.P w, G.2.2))
section P11
variable {E : xV} {Y : Nat → xY} {G : Gx} {J : Jt} {D : Nat → Bool} {w : List Nat} {σ0 : zS}
theorem Ok.unw {s : Sy} {ρ : List Int} {σ : zS} (h : Ok (Jw J w σ0) s ρ σ) : Ok J s ρ σ := h.any (fun _ q => q.1)
theorem Ok.frw {s : Sy} {ρ : List Int} {σ : zS} (h : Ok (Jw J w σ0) s ρ σ) : ∀ k, memb w k = false → σ.1 k = σ0.1 k ∧ σ.2 k = σ0.2 k := by
  obtain ⟨H, _, q⟩ := h.inv
  exact q.2
theorem Ok.addw {s : Sy} {ρ : List Int} {σ : zS} (h : Ok J s ρ σ) (hf : ∀ k, memb w k = false → σ.1 k = σ0.1 k ∧ σ.2 k = σ0.2 k) : Ok (Jw J w σ0) s ρ σ := h.any (fun _ q => ⟨q, hf⟩)
theorem POk_w {G : Gl} {P : Pl} (h : POk G P J) : POk G (Pw P w) (Jw J w σ0) := by
  have ne : ∀ {k q : Nat}, memb w k = true → memb w q = false → q ≠ k := fun h1 h2 e => by rw [e, h1] at h2; cases h2
  refine ⟨fun s ρ σ k p j ho hp hi => h.rd s ρ σ k p j ho.unw hp hi, fun s ρ σ k p j ho hp hi => h.rl s ρ σ k p j ho.unw hp hi, fun s ρ σ k p v j x s' ho hp hi hv hx hw => ?_, fun s ρ σ k p v j x s' ho hp hi hv hx hw => ?_, fun H σ k f hk hJ => ?_, fun H σ k0 k1 z0 z1 f hk h0 h1 hJ hf => ?_⟩
  · have hw : (bif memb w k then P.wi s k p v else none) = some s' := hw
    cases hb : memb w k with
    | false => rw [hb] at hw; cases hw
    | true =>
      rw [hb] at hw
      exact (h.wi s ρ σ k p v j x s' ho.unw hp hi hv hx hw).addw (fun q hq => ⟨by rw [zI_row (ne hb hq)]; exact (ho.frw q hq).1, (ho.frw q hq).2⟩)
  · have hw : (bif memb w k then P.wl s k p v else none) = some s' := hw
    cases hb : memb w k with
    | false => rw [hb] at hw; cases hw
    | true =>
      rw [hb] at hw
      exact (h.wl s ρ σ k p v j x s' ho.unw hp hi hv hx hw).addw (fun q hq => ⟨(ho.frw q hq).1, by rw [zJ_row (ne hb hq)]; exact (ho.frw q hq).2⟩)
  · have hk : (memb w k && P.fr k) = true := hk
    rw [Bool.and_eq_true] at hk
    exact ⟨h.fr H σ k f hk.2 hJ.1, fun q hq => ⟨(hJ.2 q hq).1, by rw [zJr_row (ne hk.1 hq)]; exact (hJ.2 q hq).2⟩⟩
  · have hk : (memb w k1 && P.cp k0 k1) = true := hk
    rw [Bool.and_eq_true] at hk
    exact ⟨h.cp H σ k0 k1 z0 z1 f hk.2 h0 h1 hJ.1 hf, fun q hq => ⟨by rw [zIr_row (ne hk.1 hq)]; exact (hJ.2 q hq).1, (hJ.2 q hq).2⟩⟩
theorem HOk_w0 (h : ∀ h f s ρ σ, Ok J s ρ σ → ∃ s' ρ', G.hx h f s = some s' ∧ Pre ρ ρ' ∧ Ok J s' ρ' σ) : ∀ h f s ρ σ, Ok (Jw J w σ0) s ρ σ → ∃ s' ρ', (Gw G w).hx h f s = some s' ∧ Pre ρ ρ' ∧ Ok (Jw J w σ0) s' ρ' σ := by
  intro h9 f s ρ σ ho
  obtain ⟨s', ρ', a1, a2, a3⟩ := h h9 f s ρ σ ho.unw
  exact ⟨s', ρ', a1, a2, a3.addw ho.frw⟩
/-
theorem HX_w (h : HOb G J) : HOb (Gw G w) (Jw J w σ0) := HOk_w0 h
-/

theorem HX_w (h : HOb G J) : HOb (Gw G w) (Jw J w σ0) := ⟨HOk_w0 h.1, fun H σ t o b r q => ⟨h.2.1 H σ t o b r q.1, q.2⟩, fun H σ t o b c r q => ⟨h.2.2.1 H σ t o b c r q.1, q.2⟩, fun H σ x y v r q => ⟨h.2.2.2 H σ x y v r q.1, q.2⟩⟩

end P11
/-- one side comes to -/
def SS (E : xV) (Y : Nat → xY) (D : Nat → Bool) (cs : List CF) (rv : Option Value) (σ : zS) (K : zKt) : Prop := ∃ r σ', Ex E Y D cs rv σ r σ' ∧ K r σ'
theorem SS.ql {E : xV} {Y : Nat → xY} {D : Nat → Bool} {K : zKt} : QLp E Y D (fun cs rv σ => SS E Y D cs rv σ K) := by
  refine ⟨fun c cs f fs σ σ' h1 h2 h3 => ?_, fun c cs r σ h1 h3 => ?_⟩
  · obtain ⟨r, σ1, ⟨a1, a2⟩, k⟩ := h3
    exact ⟨r, σ1, ⟨h1.tr a1, fun τ K q => h2 τ K (a2 τ K q)⟩, k⟩
  · obtain ⟨r', σ1, ⟨a1, a2⟩, k⟩ := h3
    subst a1
    subst a2
    exact ⟨r', σ1, ⟨agD.rf, h1⟩, k⟩
/-- where a helper's loop stands: frames, what is known, what falls -/
abbrev A1 : Type := List Fm × (Kn × (Lf × Int))
def arr1 (G : Gx) (ks : List Bool) (s0 : Sy) (fs : List Fm) (mu0 : Lf × Int) (a : A1) : Bool :=
  let s := fillm G a.2.1.me s0
  match mfr s a.1 fs (ids 0 ks) with
  | some t1 => match mta s a.2.1 t1 with
    | some th => falls s th mu0 a.2.2
    | none => false
  | none => false
def kt1 (G : Gx) (q : Ct) (an : List A1) (mu0 : Lf × Int) : Kont := fun s _ fs a => bif infe s then true else bif isNil fs then finC G q s a else isNil a.toList && an.any fun e => arr1 G q.kn.ks s fs mu0 e
abbrev Hn9 : Type := BT (List (Nat × (Nat × Nat)))
def chk1E (G : Gx) (D : Nat → Bool) (n z : Nat) (q : Ct) (w : List Nat) (hn : Hn9) (lb : List Lb) (sc : Sct) (an : List A1) (big : Nat) : Bool := entOk G z q.ar && walkP (Gw G w) (D, (hn, (lb, sc))) (kt1 (Gw G w) q an ([], (big : Int))) n q.kn.sy [] [⟨z, 0, argLv 0 q.ar, []⟩]
def chk1A (G : Gx) (D : Nat → Bool) (n : Nat) (q : Ct) (w : List Nat) (hn : Hn9) (lb : List Lb) (sc : Sct) (an : List A1) (a : A1) : Bool := walkP (Gw G w) (D, (hn, (lb, sc))) (kt1 (Gw G w) q an a.2.2) n a.2.1.sy [] a.1
section P12
variable {E : xV} {Y : Nat → xY} {G : Gx} {J : Jt} {D : Nat → Bool} {q : Ct} {w : List Nat} {hn : Hn9} {lb : List Lb} {sc : Sct} {an : List A1} {ρ0 : List Int} {σ0 : zS}
theorem arr1_ok {G : Gx} {J : Jt} (hJ : POk G.g G.P J) {s : Sy} {ρ : List Int} {σ : zS} (h : Ok J s ρ σ) {ks : List Bool} (hp : Pre ρ0 ρ) (hn : ρ0.length = ks.length) (ht : Tp ρ0 0 ks) {fs : List Fm} {mu0 : Lf × Int} {a : A1} {cs : List CF} {M : Int} (ha : arr1 G ks s fs mu0 a = true) (h1 : Rg ρ fs cs) (hM : tvo ρ mu0.1 = some M) : ∃ ρ' ds m, Pre ρ0 ρ' ∧ Ko J a.2.1 ρ' σ ∧ Rg ρ' a.1 ds ∧ Sb cs ds ∧ tvo ρ' a.2.2.1 = some m ∧ 0 ≤ m + a.2.2.2 ∧ m + a.2.2.2 < M + mu0.2 := by
  unfold arr1 at ha
  dsimp only at ha
  obtain ⟨ρf, pf, of⟩ := fillm_ok hJ (l := a.2.1.me) h
  replace h1 := h1.mono pf
  replace hM := tvo.mono pf hM
  have hp2 := hp.tr pf
  split at ha
  · rename_i t1 e1
    obtain ⟨ds, d1, x1, r1, b1⟩ := mfr_ok of e1 (ids_df (ht.mono hp2)) h1
    split at ha
    · rename_i th e2
      obtain ⟨d2, x2, k2, o2⟩ := mta_ok of e2 d1
      obtain ⟨m, m1, m2, m3⟩ := falls_ok of d2 ha hM
      have e0 := ids_pre hp2 hn ht
      refine ⟨vals ρf th, ds, m, ?_, ⟨o2, mtk_tp d2 k2⟩, r1.mono x2.pre, b1, m1, m2, m3⟩
      rw [← e0]
      exact (x1.tr x2).pre
    · cases ha
  · cases ha
def I1 (E : xV) (Y : Nat → xY) (J : Jt) (D : Nat → Bool) (an : List A1) (ρ0 : List Int) (K : zKt) (N : Int) : Prop := ∀ a ∈ an, ∀ (ρ : List Int) (σ : zS) (cs : List CF) (m : Int), Pre ρ0 ρ → Ko J a.2.1 ρ σ → Rg ρ a.1 cs → tvo ρ a.2.2.1 = some m → 0 ≤ m + a.2.2.2 → m + a.2.2.2 < N → SS E Y D cs none σ K
theorem kt1_ok (hJ : POk (Gw G w).g (Gw G w).P (Jw J w σ0)) (hl : ρ0.length = q.kn.ks.length) (ht : Tp ρ0 0 q.kn.ks) {mu0 : Lf × Int} {ρ1 : List Int} {M : Int} (hp1 : Pre ρ0 ρ1) (hM : tvo ρ1 mu0.1 = some M) (hI : I1 E Y (Jw J w σ0) D an ρ0 (Ks J q w ρ0 σ0) (M + mu0.2)) : PK (Jw J w σ0) (fun cs rv σ => SS E Y D cs rv σ (Ks J q w ρ0 σ0)) ρ1 (kt1 (Gw G w) q an mu0) := by
  intro s mm fs a ρ σ cs rv h hp ho hm hr ha
  unfold kt1 at h
  cases h8 : infe s with
  | true => exact (infe_ok ho h8).elim
  | false =>
  rw [h8] at h
  simp only [cond_false] at h
  cases hb : isNil fs with
  | true =>
    rw [hb] at h
    rw [isNil_e hb] at hr
    cases hr.nil
    obtain ⟨al, f1, ρ', f2, f3, f4⟩ := finC_ok hJ h (hp1.tr hp) hl ht ho ha
    exact ⟨rv, σ, ⟨rfl, rfl⟩, ho.frw, al, f1, ρ', f2, ⟨f3.1.unw, f3.2⟩, f4⟩
  | false =>
    rw [hb] at h
    simp only [cond_false, Bool.and_eq_true] at h
    have hrv : rv = none := by
      cases a with
      | none => exact Ra_none ha
      | some _ => cases h.1
    subst hrv
    obtain ⟨e, he, h5⟩ := List.any_eq_true.mp h.2
    obtain ⟨ρ', ds, m, k1, k2, k3, k4, k5, k6, k7⟩ := arr1_ok hJ ho (hp1.tr hp) hl ht h5 hr (tvo.mono hp hM)
    exact ql_sub (Q := fun cs rv σ => SS E Y D cs rv σ (Ks J q w ρ0 σ0)) SS.ql k4 (fun _ => rfl) (hI e he ρ' σ ds m k1 k2 k3 k5 k6 k7)
theorem all1_ok (hG : GxOk Y G) (hJ : POk G.g G.P J) (hX : HOb G J) (hT : ScT E Y (Jw J w σ0) (D, (hn, (lb, sc)))) (hl : ρ0.length = q.kn.ks.length) (ht : Tp ρ0 0 q.kn.ks) {n : Nat} (h : ∀ a ∈ an, chk1A G D n q w hn lb sc an a = true) : ∀ N : Nat, I1 E Y (Jw J w σ0) D an ρ0 (Ks J q w ρ0 σ0) (N : Int)
  | 0 => fun a _ ρ σ cs m _ _ _ _ q1 q2 => by omega
  | N + 1 => fun a ha ρ σ cs m k1 k2 k3 k4 k5 k6 => by
    have ih := all1_ok hG hJ hX hT hl ht h N
    refine walkP_ok (E := E) (Y := Y) (G := Gw G w) (V := (D, (hn, (lb, sc)))) (Q := fun cs rv σ => SS E Y D cs rv σ (Ks J q w ρ0 σ0)) (ρ1 := ρ) hG (POk_w hJ) (HX_w hX) SS.ql hT (kt1_ok (POk_w hJ) hl ht k1 k4 (fun b hb ρ' σ' cs' m' g1 g2 g3 g4 g5 g6 => ih b hb ρ' σ' cs' m' g1 g2 g3 g4 g5 (by omega))) n a.2.1.sy [] a.1 ρ σ cs (h a ha) Pre.rf k2.1 (fun e he => by cases he) k3
theorem root1_ok (hG : GxOk Y G) (hJ : POk G.g G.P J) (hX : HOb G J) (hT : ∀ σ0, ScT E Y (Jw J w σ0) (D, (hn, (lb, sc)))) {n z big : Nat} (hE : chk1E G D n z q w hn lb sc an big = true) (hA : ∀ a ∈ an, chk1A G D n q w hn lb sc an a = true) : ScOk E Y D J z q w := by
  intro ρ σ av hko ha
  have hl : ρ.length = q.kn.ks.length := hko.1.len
  unfold chk1E at hE
  rw [Bool.and_eq_true] at hE
  have hI := all1_ok (E := E) (Y := Y) (J := J) (σ0 := σ) (ρ0 := ρ) (q := q) hG hJ hX (hT σ) hl hko.2 hA big
  have hk0 : Ok (Jw J w σ) q.kn.sy ρ σ := hko.1.addw (fun _ _ => ⟨rfl, rfl⟩)
  have hs := walkP_ok (E := E) (Y := Y) (G := Gw G w) (V := (D, (hn, (lb, sc)))) (Q := fun cs rv σ' => SS E Y D cs rv σ' (Ks J q w ρ σ)) (ρ1 := ρ) hG (POk_w hJ) (HX_w hX) SS.ql (hT σ) (kt1_ok (mu0 := ([], (big : Int))) (M := 0) (POk_w hJ) hl hko.2 Pre.rf rfl (fun b hb ρ' σ' cs' m' g1 g2 g3 g4 g5 g6 => hI b hb ρ' σ' cs' m' g1 g2 g3 g4 g5 (by dsimp only at g6; omega))) n q.kn.sy [] [⟨z, 0, argLv 0 q.ar, []⟩] ρ σ [(z, (0, (lv_args 0 av, [])))] hE.2 Pre.rf hk0 (fun e he => by cases he) ⟨⟨⟨rfl, rfl⟩, argLv_ok ha, trivial⟩, trivial⟩
  obtain ⟨r, σ', hx, hk⟩ := hs
  exact ⟨r, σ', hx, hk⟩
/-- no helpers of helpers -/
theorem ScT_nil {J : Jt} : ScT E Y J (D, (hn, (lb, []))) := fun z qs h => by cases h
end P12
end
