noncomputable section
/-! ===== WHAT ELSE HOLDS, 37: blocks lie within blocks (800 n, 801 b, 802 x: none below x is left by a block of b at n); the stack of loops (805 how many, 806 behind the latest one or within it, 807 within it); hints 160 .. 179 ===== -/
section SA
variable {J : Jt} {s : Sy} {ρ : List Int} {σ : zS}
def adS (s : Sy) (l : List (AV × Int)) (c : Int) : Sy := s.factd (sml s l [] 0).1 (c - (sml s l [] 0).2)
theorem adS_ok (ho : Ok J s ρ σ) {l : List (AV × Int)} {c : Int} (he : ∀ e ∈ l, ∃ z, ev ρ e.1 = some z) (h : smv ρ l ≤ c) : Ok J (adS s l c) ρ σ := by
  obtain ⟨y, y1, y2⟩ := sml_ok ho (l := l) (f := []) (k := 0) (x := 0) he rfl
  exact factd_ok ho y1 (by omega)
theorem smv2 {a b : AV} {v w x y : Int} (ha : ev ρ a = some x) (hb : ev ρ b = some y) : smv ρ [(a, v), (b, w)] = v * x + (w * y + 0) := by
  show v * (ev ρ a).getD 0 + (w * (ev ρ b).getD 0 + 0) = _
  rw [ha, hb]; rfl
theorem smv1 {a : AV} {v x : Int} (ha : ev ρ a = some x) : smv ρ [(a, v)] = v * x + 0 := by
  show v * (ev ρ a).getD 0 + 0 = _
  rw [ha]; rfl
theorem smv3 {a b c : AV} {v w u x y z : Int} (ha : ev ρ a = some x) (hb : ev ρ b = some y) (hc : ev ρ c = some z) : smv ρ [(a, v), (b, w), (c, u)] = v * x + (w * y + (u * z + 0)) := by
  show v * (ev ρ a).getD 0 + (w * (ev ρ b).getD 0 + (u * (ev ρ c).getD 0 + 0)) = _
  rw [ha, hb, hc]; rfl
theorem smv4 {a b c d : AV} {v w u t x y z q : Int} (ha : ev ρ a = some x) (hb : ev ρ b = some y) (hc : ev ρ c = some z) (hd : ev ρ d = some q) : smv ρ [(a, v), (b, w), (c, u), (d, t)] = v * x + (w * y + (u * z + (t * q + 0))) := by
  show v * (ev ρ a).getD 0 + (w * (ev ρ b).getD 0 + (u * (ev ρ c).getD 0 + (t * (ev ρ d).getD 0 + 0))) = _
  rw [ha, hb, hc, hd]; rfl
theorem evs1 {a : AV} {v x : Int} (ha : ev ρ a = some x) : ∀ e ∈ [(a, v)], ∃ z, ev ρ e.1 = some z := fun e he => by
  rcases List.mem_cons.mp he with rfl | he
  · exact ⟨_, ha⟩
  · cases he
theorem evs2 {a b : AV} {v w x y : Int} (ha : ev ρ a = some x) (hb : ev ρ b = some y) : ∀ e ∈ [(a, v), (b, w)], ∃ z, ev ρ e.1 = some z := fun e he => by
  rcases List.mem_cons.mp he with rfl | he
  · exact ⟨_, ha⟩
  · exact evs1 hb e he
theorem evs3 {a b c : AV} {v w u x y z : Int} (ha : ev ρ a = some x) (hb : ev ρ b = some y) (hc : ev ρ c = some z) : ∀ e ∈ [(a, v), (b, w), (c, u)], ∃ z, ev ρ e.1 = some z := fun e he => by
  rcases List.mem_cons.mp he with rfl | he
  · exact ⟨_, ha⟩
  · exact evs2 hb hc e he
theorem evs4 {a b c d : AV} {v w u t x y z q : Int} (ha : ev ρ a = some x) (hb : ev ρ b = some y) (hc : ev ρ c = some z) (hd : ev ρ d = some q) : ∀ e ∈ [(a, v), (b, w), (c, u), (d, t)], ∃ z, ev ρ e.1 = some z := fun e he => by
  rcases List.mem_cons.mp he with rfl | he
  · exact ⟨_, ha⟩
  · exact evs3 hb hc hd e he
end SA
def NsS (K B : Nat → Int) (st : Int) : Prop := ∀ i j : Nat, i < j → (j : Int) < st → Blk (K i) → Blk (K j) → (j : Int) ≤ (i : Int) + B i → (j : Int) + B j ≤ (i : Int) + B i
def NsT (K B : Nat → Int) (n b x : Int) : Prop := ∀ i : Nat, (i : Int) < x → Blk (K i) → n ≤ (i : Int) + B i → n + b ≤ (i : Int) + B i
def NsL (K B L : Nat → Int) (st d : Int) : Prop := ∀ i : Nat, (i : Int) < d → (0 ≤ L i ∧ L i < st ∧ K (L i).toNat = 5) ∧ ((i : Int) + 1 < d → L i < L (i + 1) ∧ L (i + 1) ≤ L i + B (L i).toNat)
def NsX (B L : Nat → Int) (d z e : Int) : Prop := 1 ≤ d → L (d - 1).toNat < z ∧ z ≤ L (d - 1).toNat + B (L (d - 1).toNat).toNat + e
def FS (K B L : Nat → Int) (st : Int) (H : List (Nat × Int)) : Prop :=
  NsS K B st ∧ (∀ n b x, lk H 800 = some n → lk H 801 = some b → lk H 802 = some x → NsT K B n b x) ∧
  ∀ d, lk H 805 = some d → NsL K B L st d ∧ (∀ x, lk H 806 = some x → NsX B L d x 1) ∧ ∀ y, lk H 807 = some y → NsX B L d y 0
def fS9 (kK kB kL kF jS : Nat) (H : List (Nat × Int)) (σ : zS) : Prop := FS (Pp σ kK) (Pp σ kB) (Pp σ kL) (Pp σ kF jS) H
theorem nsl_lo {K B L : Nat → Int} {st d : Int} (h : NsL K B L st d) : ∀ i : Nat, (i : Int) < d → (i : Int) ≤ L i
  | 0, hi => (h 0 hi).1.1
  | i + 1, hi => by
    have g := nsl_lo h i (by omega)
    have := ((h i (by omega)).2 (by omega)).1
    omega
theorem FS_kb {K B K' B' L : Nat → Int} {st : Int} {H : List (Nat × Int)} (h : FS K B L st H) (h1 : ∀ i : Nat, (i : Int) < st → K' i = K i ∧ B' i = B i) (h2 : ∀ x, lk H 802 = some x → ∀ i : Nat, (i : Int) < x → K' i = K i ∧ B' i = B i) (h3 : lk H 805 = none) : FS K' B' L st H := by
  refine ⟨fun i j hij hj => ?_, fun n b x q1 q2 q3 i hi => ?_, fun d q => ?_⟩
  · rw [(h1 i (by omega)).1, (h1 i (by omega)).2, (h1 j hj).1, (h1 j hj).2]
    exact h.1 i j hij hj
  · rw [(h2 x q3 i hi).1, (h2 x q3 i hi).2]
    exact h.2.1 n b x q1 q2 q3 i hi
  · rw [h3] at q; cases q
theorem FS_l {K B L L' : Nat → Int} {st : Int} {H : List (Nat × Int)} (h : FS K B L st H) (hL : ∀ d, lk H 805 = some d → ∀ i : Nat, (i : Int) < d → L' i = L i) : FS K B L' st H := by
  refine ⟨h.1, h.2.1, fun d q => ?_⟩
  obtain ⟨g1, g2, g3⟩ := h.2.2 d q
  have e := hL d q
  have top : 1 ≤ d → L' (d - 1).toNat = L (d - 1).toNat := fun hd => e _ (by omega)
  refine ⟨fun i hi => ?_, fun x qx hd => ?_, fun y qy hd => ?_⟩
  · rw [e i hi]
    refine ⟨(g1 i hi).1, fun h2 => ?_⟩
    have e2 := e (i + 1) (by omega)
    rw [e2]
    exact (g1 i hi).2 h2
  · rw [top hd]; exact g2 x qx hd
  · rw [top hd]; exact g3 y qy hd
def ftg (t : Nat) : Bool := Nat.ble 800 t && Nat.ble t 807
theorem ftg_no {u : Nat} (h : ftg u = false) : ¬ (800 ≤ u ∧ u ≤ 807) := fun q => by
  have : ftg u = true := by
    show (Nat.ble 800 u && Nat.ble u 807) = true
    rw [Bool.and_eq_true]
    exact ⟨Nat.ble_eq_true_of_le q.1, Nat.ble_eq_true_of_le q.2⟩
  rw [this] at h
  cases h
/-- the statement that comes: no block, or one that leaves none -/
def fnew (kK kB : Nat) (s : Sy) (hl : List (Nat × AV)) (st : AV) : Bool := match oth s kK st with
  | some w => nblk s w || (match oth s kB st, lk hl 800 with
    | some b, some n => (match lk hl 801, lk hl 802 with
      | some m, some x => eqA s n st && (eqA s b m && leAV s st x)
      | _, _ => false)
    | _, _ => false)
  | none => false
def fw9 (kK kB kL kF jS : Nat) (s : Sy) (hl : List (Nat × AV)) (k : Nat) (p v : AV) : Option (List (Nat × AV)) :=
  bif Nat.beq k kL then (match lk hl 805 with
    | some d => bif leAV s d p then some hl else none
    | none => some hl)
  else match lk hl 805, mget s.me kF (.c (jS : Int)) with
  | none, some st => bif Nat.beq k kF then (match p with
      | .inr (.inl (.ofNat j)) => bif Nat.beq j jS then (bif st.isI && (leAV s v st || (eqA s v (shA st 1) && fnew kK kB s hl st)) then some hl else none) else some hl
      | _ => none)
    else bif (st.isI && leAV s st p) && (match lk hl 802 with
      | some x => leAV s x p
      | none => true) then some hl else none
  | _, _ => bif Nat.beq k kF then (match p with
      | .inr (.inl (.ofNat j)) => bif Nat.beq j jS then none else some hl
      | _ => none)
    else none
def cF9 (kK kB kL kF jS : Nat) : Cp := (ftg, (fS9 kK kB kL kF jS, (fun q => (Nat.beq q kK || Nat.beq q kB) || (Nat.beq q kL || Nat.beq q kF), (fun s hl k p v => fw9 kK kB kL kF jS s hl k p v, nlw))))
theorem cF9_ok {T : Jx} {G : Gl} {kK kB kL kF jS : Nat} (d1 : kL ≠ kK) (d2 : kL ≠ kB) (d3 : kL ≠ kF) (d4 : kF ≠ kK) (d5 : kF ≠ kB) : CpOk T G (cF9 kK kB kL kF jS) := by
  apply CpOk.no (fun _ => rfl)
  have tin : ∀ u, 800 ≤ u → u ≤ 807 → ftg u = true := fun u h1 h2 => by
    show (Nat.ble 800 u && Nat.ble u 807) = true
    rw [Bool.and_eq_true]
    exact ⟨Nat.ble_eq_true_of_le h1, Nat.ble_eq_true_of_le h2⟩
  refine ⟨fun u hu => ?_, fun H H' σ σ' h1 h2 hS => ?_, ?_⟩
  · have hu : (Nat.ble 800 u && Nat.ble u 807) = true := hu
    rw [Bool.and_eq_true] at hu
    have := Nat.le_of_ble_eq_true hu.1
    omega
  · have r1 : Pp σ' kK = Pp σ kK := by
      funext y
      show (σ'.1 kK y).toInt = _
      rw [h2 kK (by show ((Nat.beq kK kK || Nat.beq kK kB) || (Nat.beq kK kL || Nat.beq kK kF)) = true; rw [Nat.beq_refl]; rfl)]
    have r2 : Pp σ' kB = Pp σ kB := by
      funext y
      show (σ'.1 kB y).toInt = _
      rw [h2 kB (by show ((Nat.beq kB kK || Nat.beq kB kB) || (Nat.beq kB kL || Nat.beq kB kF)) = true; rw [Nat.beq_refl, Bool.or_true]; rfl)]
    have r3 : Pp σ' kL = Pp σ kL := by
      funext y
      show (σ'.1 kL y).toInt = _
      rw [h2 kL (by show ((Nat.beq kL kK || Nat.beq kL kB) || (Nat.beq kL kL || Nat.beq kL kF)) = true; rw [Nat.beq_refl, Bool.true_or, Bool.or_true])]
    have r4 : Pp σ' kF = Pp σ kF := by
      funext y
      show (σ'.1 kF y).toInt = _
      rw [h2 kF (by show ((Nat.beq kF kK || Nat.beq kF kB) || (Nat.beq kF kL || Nat.beq kF kF)) = true; rw [Nat.beq_refl, Bool.or_true, Bool.or_true])]
    have l : ∀ u, 800 ≤ u → u ≤ 807 → lk H' u = lk H u := fun u a b => h1 u (tin u a b)
    show fS9 kK kB kL kF jS H' σ'
    unfold fS9 FS
    rw [r1, r2, r3, r4, l 800 (by omega) (by omega), l 801 (by omega) (by omega), l 802 (by omega) (by omega), l 805 (by omega) (by omega), l 806 (by omega) (by omega), l 807 (by omega) (by omega)]
    exact hS
  · intro s ρ σ k p v j x hl hl' H ho hb hp hi hv hx hr hw hh hS
    replace hw : fw9 kK kB kL kF jS s hl k p v = some hl' := hw
    replace hS : FS (Pp σ kK) (Pp σ kB) (Pp σ kL) (Pp σ kF jS) H := hS
    replace hr : ((Nat.beq k kK || Nat.beq k kB) || (Nat.beq k kL || Nat.beq k kF)) = true := hr
    suffices hg : hl' = hl ∧ FS (Pp (zI σ k j x) kK) (Pp (zI σ k j x) kB) (Pp (zI σ k j x) kL) (Pp (zI σ k j x) kF jS) H by
      rw [hg.1]
      exact ⟨H, hh, hg.2, fun _ _ => rfl⟩
    have row : ∀ k', k' ≠ k → Pp (zI σ k j x) k' = Pp σ k' := fun k' h => by
      funext y
      show ((zI σ k j x).1 k' y).toInt = _
      rw [zI_row h]
    have off : ∀ k' y, ¬ (k' = k ∧ y = j) → Pp (zI σ k j x) k' y = Pp σ k' y := fun k' y h => by
      show ((zI σ k j x).1 k' y).toInt = _
      rw [zI_ne h]
    unfold fw9 at hw
    cases eL : Nat.beq k kL with
    | true =>
      have ek := Nat.eq_of_beq_eq_true eL
      subst ek
      rw [eL] at hw
      simp only [cond_true] at hw
      rw [row kK d1.symm, row kB d2.symm, row kF d3.symm]
      split at hw
      · rename_i d hd
        cases e1 : leAV s d p with
        | false => rw [e1] at hw; cases hw
        | true =>
          rw [e1] at hw
          cases Option.some.inj hw
          refine ⟨rfl, FS_l hS (fun z qz i hi => off _ _ ?_)⟩
          obtain ⟨z', z1, z2⟩ : ∃ z', lk H 805 = some z' ∧ ev ρ d = some z' := by
            rcases hh.lkp (t := 805) with ⟨q1, _⟩ | ⟨a, y, q1, q2, q3⟩
            · rw [q1] at hd; cases hd
            · rw [q1] at hd
              cases Option.some.inj hd
              exact ⟨y, q2, q3⟩
          rw [z1] at qz
          cases Option.some.inj qz
          have := leAV_ok ho e1 z2 hp
          rintro ⟨_, q⟩
          omega
      · rename_i hd
        cases Option.some.inj hw
        refine ⟨rfl, FS_l hS (fun z qz => ?_)⟩
        rcases hh.lkp (t := 805) with ⟨_, q2⟩ | ⟨a, y, q1, _, _⟩
        · rw [q2] at qz; cases qz
        · rw [q1] at hd; cases hd
    | false =>
      have nL : k ≠ kL := beq_ne eL
      rw [eL] at hw
      simp only [cond_false] at hw
      split at hw
      · rename_i st h5 hst
        have no5 : lk H 805 = none := by
          rcases hh.lkp (t := 805) with ⟨_, q2⟩ | ⟨a, y, q1, _, _⟩
          · exact q2
          · rw [q1] at h5; cases h5
        cases eF : Nat.beq k kF with
        | true =>
          have ek := Nat.eq_of_beq_eq_true eF
          subst ek
          rw [eF] at hw
          simp only [cond_true] at hw
          rw [row kK d4.symm, row kB d5.symm, row kL d3]
          split at hw
          · rename_i j0
            have ej : j0 = j := by
              have : ((j0 : Nat) : Int) = (j : Int) := Option.some.inj hp
              omega
            subst ej
            cases eS : Nat.beq j0 jS with
            | false =>
              have nS : j0 ≠ jS := beq_ne eS
              rw [eS] at hw
              cases Option.some.inj hw
              rw [off _ _ (by rintro ⟨_, q⟩; exact nS q.symm)]
              exact ⟨rfl, hS⟩
            | true =>
              have es := Nat.eq_of_beq_eq_true eS
              subst es
              rw [eS] at hw
              simp only [cond_true] at hw
              cases ec : st.isI && (leAV s v st || (eqA s v (shA st 1) && fnew kK kB s hl st)) with
              | false => rw [ec] at hw; cases hw
              | true =>
                rw [ec] at hw
                cases Option.some.inj hw
                have ex : Pp (zI σ k j0 x) k j0 = x.toInt := by
                  show ((zI σ k j0 x).1 k j0).toInt = _
                  rw [zI_at]
                rw [ex]
                rw [Bool.and_eq_true, Bool.or_eq_true] at ec
                have est : ev ρ st = some (Pp σ k j0) := me_at ho hst rfl ec.1
                refine ⟨rfl, ?_, hS.2.1, fun d q => by rw [no5] at q; cases q⟩
                intro i i' hii hi' b1 b2 b3
                rcases ec.2 with c | c
                · have := leAV_ok ho c hx est
                  exact hS.1 i i' hii (by omega) b1 b2 b3
                · rw [Bool.and_eq_true] at c
                  have e1 := eqA_ok ho c.1 hx (shA_ev est)
                  by_cases hlt : (i' : Int) < Pp σ k j0
                  · exact hS.1 i i' hii hlt b1 b2 b3
                  have e2 : Pp σ k j0 = (i' : Int) := by omega
                  rw [e2] at est
                  have c2 := c.2
                  unfold fnew at c2
                  split at c2
                  · rename_i w hw2
                    rw [Bool.or_eq_true] at c2
                    rcases c2 with c2 | c2
                    · exact absurd b2 (nblk_ok ho c2 (oth_ok ho hw2 est).2)
                    · split at c2
                      · rename_i b n hB hn
                        split at c2
                        · rename_i m y hm hy
                          rw [Bool.and_eq_true, Bool.and_eq_true] at c2
                          have eB : ev ρ b = some (Pp σ kB i') := (oth_ok ho hB est).2
                          rcases hh.lkp (t := 800) with ⟨q1, _⟩ | ⟨a0, z0, q1, u0, v0⟩
                          · rw [q1] at hn; cases hn
                          rw [q1] at hn
                          cases Option.some.inj hn
                          rcases hh.lkp (t := 801) with ⟨q1, _⟩ | ⟨a1, z1, q1, u1, v1⟩
                          · rw [q1] at hm; cases hm
                          rw [q1] at hm
                          cases Option.some.inj hm
                          rcases hh.lkp (t := 802) with ⟨q1, _⟩ | ⟨a2, z2, q1, u2, v2⟩
                          · rw [q1] at hy; cases hy
                          rw [q1] at hy
                          cases Option.some.inj hy
                          have f1 := eqA_ok ho c2.1 v0 est
                          have f2 := eqA_ok ho c2.2.1 eB v1
                          have f3 := leAV_ok ho c2.2.2 est v2
                          have g := hS.2.1 z0 z1 z2 u0 u1 u2 i (by omega) b1 (by omega)
                          omega
                        · cases c2
                      · cases c2
                  · cases c2
          · cases hw
        | false =>
          have nF : k ≠ kF := beq_ne eF
          rw [eF] at hw
          simp only [cond_false] at hw
          cases ec : (st.isI && leAV s st p) && (match lk hl 802 with
            | some x => leAV s x p
            | none => true) with
          | false => rw [ec] at hw; cases hw
          | true =>
            rw [ec] at hw
            cases Option.some.inj hw
            rw [Bool.and_eq_true, Bool.and_eq_true] at ec
            have est : ev ρ st = some (Pp σ kF jS) := me_at ho hst rfl ec.1.1
            have g1 := leAV_ok ho ec.1.2 est hp
            rw [row kL nL.symm, row kF nF.symm]
            refine ⟨rfl, FS_kb hS (fun i hi => ⟨off _ _ ?_, off _ _ ?_⟩) (fun y qy i hi => ?_) no5⟩
            · rintro ⟨_, q⟩; omega
            · rintro ⟨_, q⟩; omega
            · have c2 := ec.2
              rcases hh.lkp (t := 802) with ⟨_, q2⟩ | ⟨a2, z2, q1, u2, v2⟩
              · rw [q2] at qy; cases qy
              · rw [q1] at c2
                rw [u2] at qy
                cases Option.some.inj qy
                have := leAV_ok ho c2 v2 hp
                exact ⟨off _ _ (by rintro ⟨_, q⟩; omega), off _ _ (by rintro ⟨_, q⟩; omega)⟩
      · cases eF : Nat.beq k kF with
        | false => rw [eF] at hw; cases hw
        | true =>
          have ek := Nat.eq_of_beq_eq_true eF
          subst ek
          rw [eF] at hw
          simp only [cond_true] at hw
          rw [row kK d4.symm, row kB d5.symm, row kL d3]
          split at hw
          · rename_i j0
            have ej : j0 = j := by
              have : ((j0 : Nat) : Int) = (j : Int) := Option.some.inj hp
              omega
            subst ej
            cases eS : Nat.beq j0 jS with
            | true => rw [eS] at hw; cases hw
            | false =>
              have nS : j0 ≠ jS := beq_ne eS
              rw [eS] at hw
              cases Option.some.inj hw
              rw [off _ _ (by rintro ⟨_, q⟩; exact nS q.symm)]
              exact ⟨rfl, hS⟩
          · cases hw
section H37
variable {T : Jx} {G : Gl} {cs : List Cp} {s : Sy} {ρ : List Int} {σ : zS} {kK kB kL kF jS : Nat}
def h160 (a b : AV) (s : Sy) : Sy := bif (a.isI && b.isI) && (!(isS (lk s.hl 800)) && (!(isS (lk s.hl 801)) && !(isS (lk s.hl 802)))) then s.seth ((800, a) :: (801, b) :: (802, .c 0) :: s.hl) else s
theorem h160_ok (hP : PH T G cs (cF9 kK kB kL kF jS)) {a b : AV} {x y : Int} (ha : ev ρ a = some x) (hb : ev ρ b = some y) (ho : Ok (Jf T G (cS cs)) s ρ σ) : Ok (Jf T G (cS cs)) (h160 a b s) ρ σ := by
  unfold h160
  cases hc : (a.isI && b.isI) && (!(isS (lk s.hl 800)) && (!(isS (lk s.hl 801)) && !(isS (lk s.hl 802)))) with
  | false => exact ho
  | true =>
    obtain ⟨H, i1, i2⟩ := ho.inv
    obtain ⟨w1, w2, w3⟩ := (i2.2.2 _ hP.2.2.1 : fS9 kK kB kL kF jS H σ)
    refine ph_set (H := H) (H' := (800, x) :: (801, y) :: (802, 0) :: H) hP ho i2 ⟨⟨rfl, ha⟩, ⟨rfl, hb⟩, ⟨rfl, rfl⟩, i1⟩ (fun u hu => ?_) ⟨w1, fun n b x _ _ q3 i hi => ?_, fun d q => ?_⟩
    · have := ftg_no hu
      rw [lk_cons, if_neg (by omega), lk_cons, if_neg (by omega), lk_cons, if_neg (by omega)]
    · rw [lk_cons, if_neg (by decide), lk_cons, if_neg (by decide), lk_cons, if_pos rfl] at q3
      have := Option.some.inj q3
      omega
    · rw [lk_cons, if_neg (by decide), lk_cons, if_neg (by decide), lk_cons, if_neg (by decide)] at q
      rw [lk_cons, if_neg (by decide), lk_cons, if_neg (by decide), lk_cons, if_neg (by decide), lk_cons, if_neg (by decide), lk_cons, if_neg (by decide), lk_cons, if_neg (by decide)]
      exact w3 d q
def f161 (kK kB : Nat) (n m x : AV) (s : Sy) : Bool := match oth s kK x with
  | some w => nblk s w || (match oth s kB x with
    | some b => sle s [(x, 1), (b, 1), (n, -1)] (-1) || sle s [(n, 1), (m, 1), (x, -1), (b, -1)] 0
    | none => false)
  | none => false
theorem f161_ok {J : Jt} (ho : Ok J s ρ σ) {n m x : AV} {j : Nat} {zn zm : Int} (hx : ev ρ x = some (j : Int)) (hn : ev ρ n = some zn) (hm : ev ρ m = some zm) (h : f161 kK kB n m x s = true) : Blk (Pp σ kK j) → zn ≤ (j : Int) + Pp σ kB j → zn + zm ≤ (j : Int) + Pp σ kB j := by
  intro b1 b2
  unfold f161 at h
  split at h
  · rename_i w hw
    rw [Bool.or_eq_true] at h
    rcases h with h | h
    · exact absurd b1 (nblk_ok ho h (oth_ok ho hw hx).2)
    · split at h
      · rename_i b hB
        have eB : ev ρ b = some (Pp σ kB j) := (oth_ok ho hB hx).2
        rw [Bool.or_eq_true] at h
        rcases h with h | h
        · have g := sle_ok ho h (evs3 hx eB hn)
          rw [smv3 hx eB hn] at g
          omega
        · have g := sle_ok ho h (evs4 hn hm hx eB)
          rw [smv4 hn hm hx eB] at g
          omega
      · cases h
  · cases h
def h161 (kK kB : Nat) (s : Sy) : Sy := match lk s.hl 800, lk s.hl 801, lk s.hl 802 with
  | some n, some m, some x => bif leAV s (.c 0) x && f161 kK kB n m x s then s.seth (hup 802 (shA x 1) s.hl) else s
  | _, _, _ => s
theorem h161_ok (hP : PH T G cs (cF9 kK kB kL kF jS)) (ho : Ok (Jf T G (cS cs)) s ρ σ) : Ok (Jf T G (cS cs)) (h161 kK kB s) ρ σ := by
  unfold h161
  split
  · rename_i n m x qn qm qx
    cases hc : leAV s (.c 0) x && f161 kK kB n m x s with
    | false => exact ho
    | true =>
      rw [Bool.and_eq_true] at hc
      obtain ⟨H, i1, i2⟩ := ho.inv
      obtain ⟨w1, w2, w3⟩ := (i2.2.2 _ hP.2.2.1 : fS9 kK kB kL kF jS H σ)
      obtain ⟨zn, n1, n2⟩ := tag_get ho i1 qn
      obtain ⟨zm, m1, m2⟩ := tag_get ho i1 qm
      obtain ⟨zx, x1, x2⟩ := tag_get ho i1 qx
      have g0 := leAV_ok ho hc.1 (x := 0) rfl x2
      have hx : ev ρ x = some ((zx.toNat : Nat) : Int) := x2.trans (congrArg some (by omega))
      have new := f161_ok ho hx n2 m2 hc.2
      refine ph_set hP ho i2 (i1.up (shA_ev x2)) (fun u hu => lk_hup_ne (fun e => ftg_no hu (by omega))) ⟨w1, fun n' b' x' q1 q2 q3 i hi => ?_, fun d q => ?_⟩
      · rw [lk_hup_ne (by decide), n1] at q1
        rw [lk_hup_ne (by decide), m1] at q2
        rw [lk_hup_at x1] at q3
        have e3 := Option.some.inj q3
        rw [← Option.some.inj q1, ← Option.some.inj q2]
        by_cases e : i = zx.toNat
        · rw [e]; exact new
        · exact w2 zn zm zx n1 m1 x1 i (by omega)
      · rw [lk_hup_ne (by decide)] at q
        rw [lk_hup_ne (by decide), lk_hup_ne (by decide)]
        exact w3 d q
  · exact ho
def h162 (s : Sy) : Sy := s.seth (hdel 800 (hdel 801 (hdel 802 s.hl)))
theorem h162_ok (hP : PH T G cs (cF9 kK kB kL kF jS)) (ho : Ok (Jf T G (cS cs)) s ρ σ) : Ok (Jf T G (cS cs)) (h162 s) ρ σ := by
  obtain ⟨H, i1, i2⟩ := ho.inv
  obtain ⟨w1, w2, w3⟩ := (i2.2.2 _ hP.2.2.1 : fS9 kK kB kL kF jS H σ)
  refine ph_set hP ho i2 (((i1.del).del).del) (fun u hu => ?_) ⟨w1, fun n b x q => ?_, fun d q => ?_⟩
  · have := ftg_no hu
    rw [lk_hdel, if_neg (by omega), lk_hdel, if_neg (by omega), lk_hdel, if_neg (by omega)]
  · rw [lk_hdel, if_pos rfl] at q; cases q
  · rw [lk_hdel, if_neg (by decide), lk_hdel, if_neg (by decide), lk_hdel, if_neg (by decide)] at q
    rw [lk_hdel, if_neg (by decide), lk_hdel, if_neg (by decide), lk_hdel, if_neg (by decide), lk_hdel, if_neg (by decide), lk_hdel, if_neg (by decide), lk_hdel, if_neg (by decide)]
    exact w3 d q
def h165 (s : Sy) : Sy := bif !(isS (lk s.hl 805)) && (!(isS (lk s.hl 806)) && !(isS (lk s.hl 807))) then s.seth ((806, .c 0) :: (805, .c 0) :: s.hl) else s
theorem h165_ok (hP : PH T G cs (cF9 kK kB kL kF jS)) (ho : Ok (Jf T G (cS cs)) s ρ σ) : Ok (Jf T G (cS cs)) (h165 s) ρ σ := by
  unfold h165
  cases hc : !(isS (lk s.hl 805)) && (!(isS (lk s.hl 806)) && !(isS (lk s.hl 807))) with
  | false => exact ho
  | true =>
    obtain ⟨H, i1, i2⟩ := ho.inv
    obtain ⟨w1, w2, w3⟩ := (i2.2.2 _ hP.2.2.1 : fS9 kK kB kL kF jS H σ)
    refine ph_set (H := H) (H' := (806, 0) :: (805, 0) :: H) hP ho i2 ⟨⟨rfl, rfl⟩, ⟨rfl, rfl⟩, i1⟩ (fun u hu => ?_) ⟨w1, fun n b x q1 q2 q3 => ?_, fun d q => ?_⟩
    · have := ftg_no hu
      rw [lk_cons, if_neg (by omega), lk_cons, if_neg (by omega)]
    · rw [lk_cons, if_neg (by decide), lk_cons, if_neg (by decide)] at q1 q2 q3
      exact w2 n b x q1 q2 q3
    · rw [lk_cons, if_neg (by decide), lk_cons, if_pos rfl] at q
      have e := Option.some.inj q
      exact ⟨fun i hi => absurd hi (by omega), fun x _ hd => absurd hd (by omega), fun y _ hd => absurd hd (by omega)⟩
def h179 (s : Sy) : Sy := s.seth (hdel 805 (hdel 806 (hdel 807 s.hl)))
theorem h179_ok (hP : PH T G cs (cF9 kK kB kL kF jS)) (ho : Ok (Jf T G (cS cs)) s ρ σ) : Ok (Jf T G (cS cs)) (h179 s) ρ σ := by
  obtain ⟨H, i1, i2⟩ := ho.inv
  obtain ⟨w1, w2, w3⟩ := (i2.2.2 _ hP.2.2.1 : fS9 kK kB kL kF jS H σ)
  refine ph_set hP ho i2 (((i1.del).del).del) (fun u hu => ?_) ⟨w1, fun n b x q1 q2 q3 => ?_, fun d q => ?_⟩
  · have := ftg_no hu
    rw [lk_hdel, if_neg (by omega), lk_hdel, if_neg (by omega), lk_hdel, if_neg (by omega)]
  · rw [lk_hdel, if_neg (by decide), lk_hdel, if_neg (by decide), lk_hdel, if_neg (by decide)] at q1 q2 q3
    exact w2 n b x q1 q2 q3
  · rw [lk_hdel, if_pos rfl] at q; cases q
/-- what is known of the latest loop -/
theorem f_top (hm : cF9 kK kB kL kF jS ∈ cs) (ho : Ok (Jf T G (cS cs)) s ρ σ) {H : List (Nat × Int)} (i2 : Jf T G (cS cs) H σ) {d u : AV} {zd : Int} (hd : lk H 805 = some zd) (ed : ev ρ d = some zd) (h1 : leAV s (.c 1) d = true) (hu : oth s kL (shA d (-1)) = some u) : 1 ≤ zd ∧ ∃ w : Nat, Pp σ kL (zd - 1).toNat = (w : Int) ∧ ev ρ u = some (w : Int) ∧ (w : Int) < Pp σ kF jS ∧ Pp σ kK w = 5 := by
  have g1 := leAV_ok ho h1 (x := 1) rfl ed
  obtain ⟨w1, w2, w3⟩ := (i2.2.2 _ hm : fS9 kK kB kL kF jS H σ)
  obtain ⟨g3, _⟩ := w3 zd hd
  have hp : ev ρ (shA d (-1)) = some (((zd - 1).toNat : Nat) : Int) := (shA_ev ed).trans (congrArg some (by omega))
  have eu : ev ρ u = some (Pp σ kL (zd - 1).toNat) := (oth_ok ho hu hp).2
  obtain ⟨⟨c1, c2, c3⟩, _⟩ := g3 (zd - 1).toNat (by omega)
  exact ⟨g1, (Pp σ kL (zd - 1).toNat).toNat, by omega, eu.trans (congrArg some (by omega)), by omega, c3⟩
def f166b (kB : Nat) (u z : AV) (e : Int) (s : Sy) : Sy := match oth s kB u with
  | some b => adS s [(z, 1), (u, -1), (b, -1)] e
  | none => s
def f166c (kK : Nat) (u : AV) (s : Sy) : Sy := bif !(isS (mget s.me kK (pl s u))) && eqA s u (pl s u) then s.add kK (pl s u) (.c 5) else s
def f166 (kK kB : Nat) (u z st : AV) (e : Int) (s : Sy) : Sy := f166c kK u (f166b kB u z e (adS (adS (adS s [(u, 1), (z, -1)] (-1)) [(u, 1), (st, -1)] (-1)) [(u, -1)] 0))
theorem f166_ok {J : Jt} (ho : Ok J s ρ σ) {u z st : AV} {e : Int} {w : Nat} {zz : Int} (hu : ev ρ u = some (w : Int)) (hz : ev ρ z = some zz) (hs : ev ρ st = some (Pp σ kF jS)) (h1 : (w : Int) < zz) (h2 : zz ≤ (w : Int) + Pp σ kB w + e) (h3 : (w : Int) < Pp σ kF jS) (h4 : Pp σ kK w = 5) : Ok J (f166 kK kB u z st e s) ρ σ := by
  have o1 := adS_ok ho (evs2 (v := 1) (w := -1) hu hz) (c := -1) (by rw [smv2 hu hz]; omega)
  have o2 := adS_ok o1 (evs2 (v := 1) (w := -1) hu hs) (c := -1) (by rw [smv2 hu hs]; omega)
  have o3 := adS_ok o2 (evs1 (v := -1) hu) (c := 0) (by rw [smv1 hu]; omega)
  unfold f166
  generalize adS (adS (adS s [(u, 1), (z, -1)] (-1)) [(u, 1), (st, -1)] (-1)) [(u, -1)] 0 = s3 at o3
  have o4 : Ok J (f166b kB u z e s3) ρ σ := by
    unfold f166b
    split
    · rename_i b hB
      have eB : ev ρ b = some (Pp σ kB w) := (oth_ok o3 hB hu).2
      exact adS_ok o3 (evs3 (v := 1) (w := -1) (u := -1) hz hu eB) (by rw [smv3 hz hu eB]; omega)
    · exact o3
  generalize f166b kB u z e s3 = s4 at o4
  unfold f166c
  cases hc : !(isS (mget s4.me kK (pl s4 u))) && eqA s4 u (pl s4 u) with
  | false => exact o4
  | true =>
    rw [Bool.and_eq_true] at hc
    obtain ⟨y, hy⟩ := pl_ev (s := s4) hu
    have ey := eqA_ok o4 hc.2 hu hy
    exact o4.addm ⟨w, by rw [hy]; exact congrArg some ey.symm, Or.inl ⟨rfl, congrArg some h4.symm⟩⟩
def h166 (kK kB kL kF jS t : Nat) (e : Int) (s : Sy) : Sy := match lk s.hl 805, lk s.hl t with
  | some d, some z => bif leAV s (.c 1) d then (match oth s kL (shA d (-1)), mget s.me kF (.c (jS : Int)) with
    | some u, some st => bif st.isI then f166 kK kB u z st e s else s
    | _, _ => s) else s
  | _, _ => s
theorem h166_ok (hm : cF9 kK kB kL kF jS ∈ cs) {t : Nat} {e : Int} (ht : t = 806 ∧ e = 1 ∨ t = 807 ∧ e = 0) (ho : Ok (Jf T G (cS cs)) s ρ σ) : Ok (Jf T G (cS cs)) (h166 kK kB kL kF jS t e s) ρ σ := by
  unfold h166
  split
  · rename_i d z qd qz
    cases hc : leAV s (.c 1) d with
    | false => exact ho
    | true =>
      simp only [cond_true]
      split
      · rename_i u st hu hst
        cases hi : st.isI with
        | false => exact ho
        | true =>
          simp only [cond_true]
          obtain ⟨H, i1, i2⟩ := ho.inv
          obtain ⟨zd, e1, e2⟩ := tag_get ho i1 qd
          obtain ⟨zz, f1, f2⟩ := tag_get ho i1 qz
          obtain ⟨g1, w, g2, g3, g4, g5⟩ := f_top hm ho i2 e1 e2 hc hu
          have est : ev ρ st = some (Pp σ kF jS) := me_at ho hst rfl hi
          obtain ⟨w1, w2, w3⟩ := (i2.2.2 _ hm : fS9 kK kB kL kF jS H σ)
          obtain ⟨_, x1, x2⟩ := w3 zd e1
          have nx : NsX (Pp σ kB) (Pp σ kL) zd zz e := by
            rcases ht with ⟨rfl, rfl⟩ | ⟨rfl, rfl⟩
            · exact x1 zz f1
            · exact x2 zz f1
          have nx := nx g1
          rw [g2] at nx
          have tn : ((w : Nat) : Int).toNat = w := by omega
          rw [tn] at nx
          exact f166_ok ho g3 f2 est nx.1 nx.2 g4 g5
      · exact ho
  · exact ho
def h167 (kL : Nat) (s : Sy) : Sy := match lk s.hl 805 with
  | some d => bif leAV s (.c 1) d && !(isS (lk s.hl 807)) then (match oth s kL (shA d (-1)) with
    | some u => s.seth (hup 805 (shA d (-1)) ((807, u) :: hdel 806 s.hl))
    | none => s) else s
  | none => s
theorem h167_ok (hP : PH T G cs (cF9 kK kB kL kF jS)) (ho : Ok (Jf T G (cS cs)) s ρ σ) : Ok (Jf T G (cS cs)) (h167 kL s) ρ σ := by
  unfold h167
  split
  · rename_i d qd
    cases hc : leAV s (.c 1) d && !(isS (lk s.hl 807)) with
    | false => exact ho
    | true =>
      simp only [cond_true]
      rw [Bool.and_eq_true] at hc
      split
      · rename_i u hu
        obtain ⟨H, i1, i2⟩ := ho.inv
        obtain ⟨zd, e1, e2⟩ := tag_get ho i1 qd
        obtain ⟨g1, w, g2, g3, g4, g5⟩ := f_top hP.2.2.1 ho i2 e1 e2 hc.1 hu
        obtain ⟨w1, w2, w3⟩ := (i2.2.2 _ hP.2.2.1 : fS9 kK kB kL kF jS H σ)
        obtain ⟨n1, _, _⟩ := w3 zd e1
        have e5 : lk ((807, (w : Int)) :: hdel 806 H) 805 = some zd := by rw [lk_cons, if_neg (by decide), lk_hdel, if_neg (by decide)]; exact e1
        refine ph_set (H := H) (H' := hup 805 (zd + -1) ((807, (w : Int)) :: hdel 806 H)) hP ho i2 (Hl.up (shA_ev e2) ⟨⟨rfl, g3⟩, i1.del⟩) (fun v hv => ?_) ⟨w1, fun n b x q1 q2 q3 => ?_, fun d' q => ?_⟩
        · have := ftg_no hv
          rw [lk_hup_ne (by omega), lk_cons, if_neg (by omega), lk_hdel, if_neg (by omega)]
        · rw [lk_hup_ne (by decide), lk_cons, if_neg (by decide), lk_hdel, if_neg (by decide)] at q1 q2 q3
          exact w2 n b x q1 q2 q3
        · rw [lk_hup_at e5] at q
          have ed := Option.some.inj q
          refine ⟨fun i hi => ⟨(n1 i (by omega)).1, fun h2 => (n1 i (by omega)).2 (by omega)⟩, fun x qx => ?_, fun y qy hd => ?_⟩
          · rw [lk_hup_ne (by decide), lk_cons, if_neg (by decide), lk_hdel, if_pos rfl] at qx
            cases qx
          · rw [lk_hup_ne (by decide), lk_cons, if_pos rfl] at qy
            have ey := Option.some.inj qy
            have h2 := (n1 (d' - 1).toNat (by omega)).2 (by omega)
            have en : (d' - 1).toNat + 1 = (zd - 1).toNat := by omega
            rw [en, g2] at h2
            omega
      · exact ho
  · exact ho
def f173 (kB kL : Nat) (d x : AV) (s : Sy) : Bool := bif leAV s (.c 1) d then (match oth s kL (shA d (-1)) with
  | some u => (match oth s kB u with
    | some b => sle s [(x, 1), (u, -1), (b, -1)] 0
    | none => false)
  | none => false) else false
def h173 (kB kL : Nat) (s : Sy) : Sy := match lk s.hl 805, lk s.hl 806 with
  | some d, some x => bif !(isS (lk s.hl 807)) && (leAV s d (.c 0) || f173 kB kL d x s) then s.seth ((807, x) :: hdel 806 s.hl) else s
  | _, _ => s
theorem h173_ok (hP : PH T G cs (cF9 kK kB kL kF jS)) (ho : Ok (Jf T G (cS cs)) s ρ σ) : Ok (Jf T G (cS cs)) (h173 kB kL s) ρ σ := by
  unfold h173
  split
  · rename_i d x qd qx
    cases hc : !(isS (lk s.hl 807)) && (leAV s d (.c 0) || f173 kB kL d x s) with
    | false => exact ho
    | true =>
      rw [Bool.and_eq_true, Bool.or_eq_true] at hc
      obtain ⟨H, i1, i2⟩ := ho.inv
      obtain ⟨zd, e1, e2⟩ := tag_get ho i1 qd
      obtain ⟨zx, f1, f2⟩ := tag_get ho i1 qx
      obtain ⟨w1, w2, w3⟩ := (i2.2.2 _ hP.2.2.1 : fS9 kK kB kL kF jS H σ)
      obtain ⟨n1, n2, _⟩ := w3 zd e1
      have key : NsX (Pp σ kB) (Pp σ kL) zd zx 0 := by
        intro hd
        rcases hc.2 with h | h
        · have := leAV_ok ho h e2 (y := 0) rfl
          omega
        · unfold f173 at h
          cases h1 : leAV s (.c 1) d with
          | false => rw [h1] at h; cases h
          | true =>
            rw [h1] at h
            simp only [cond_true] at h
            split at h
            · rename_i u hu
              obtain ⟨g1, w, g2, g3, g4, g5⟩ := f_top hP.2.2.1 ho i2 e1 e2 h1 hu
              split at h
              · rename_i b hB
                have eB : ev ρ b = some (Pp σ kB w) := (oth_ok ho hB g3).2
                have g := sle_ok ho h (evs3 f2 g3 eB)
                rw [smv3 f2 g3 eB] at g
                have := n2 zx f1 hd
                rw [g2] at this ⊢
                have tn : ((w : Nat) : Int).toNat = w := by omega
                rw [tn] at this ⊢
                omega
              · cases h
            · cases h
      refine ph_set (H := H) (H' := (807, zx) :: hdel 806 H) hP ho i2 ⟨⟨rfl, f2⟩, i1.del⟩ (fun v hv => ?_) ⟨w1, fun n b x q1 q2 q3 => ?_, fun d' q => ?_⟩
      · have := ftg_no hv
        rw [lk_cons, if_neg (by omega), lk_hdel, if_neg (by omega)]
      · rw [lk_cons, if_neg (by decide), lk_hdel, if_neg (by decide)] at q1 q2 q3
        exact w2 n b x q1 q2 q3
      · rw [lk_cons, if_neg (by decide), lk_hdel, if_neg (by decide), e1] at q
        have ed := Option.some.inj q
        subst ed
        refine ⟨n1, fun x qx => ?_, fun y qy => ?_⟩
        · rw [lk_cons, if_neg (by decide), lk_hdel, if_pos rfl] at qx
          cases qx
        · rw [lk_cons, if_pos rfl] at qy
          rw [← Option.some.inj qy]
          exact key
  · exact ho
def h178 (s : Sy) : Sy := match lk s.hl 805, lk s.hl 807 with
  | some d, some y => bif leAV s (.c 0) y then adS s [(d, 1), (y, -1)] 0 else s
  | _, _ => s
theorem h178_ok (hm : cF9 kK kB kL kF jS ∈ cs) (ho : Ok (Jf T G (cS cs)) s ρ σ) : Ok (Jf T G (cS cs)) (h178 s) ρ σ := by
  unfold h178
  split
  · rename_i d y qd qy
    cases hc : leAV s (.c 0) y with
    | false => exact ho
    | true =>
      obtain ⟨H, i1, i2⟩ := ho.inv
      obtain ⟨zd, e1, e2⟩ := tag_get ho i1 qd
      obtain ⟨zy, f1, f2⟩ := tag_get ho i1 qy
      obtain ⟨w1, w2, w3⟩ := (i2.2.2 _ hm : fS9 kK kB kL kF jS H σ)
      obtain ⟨n1, _, n3⟩ := w3 zd e1
      have g0 := leAV_ok ho hc (x := 0) rfl f2
      have key : zd ≤ zy := by
        by_cases hd : 1 ≤ zd
        · have g1 := (n3 zy f1 hd).1
          have g2 := nsl_lo n1 (zd - 1).toNat (by omega)
          omega
        · omega
      exact adS_ok ho (evs2 e2 f2) (by rw [smv2 e2 f2]; omega)
  · exact ho
def h175 (s : Sy) : Sy := match lk s.hl 805, lk s.hl 807 with
  | some _, some y => bif !(isS (lk s.hl 806)) then s.seth ((806, shA y 1) :: hdel 807 s.hl) else s
  | _, _ => s
theorem f_to6 (hP : PH T G cs (cF9 kK kB kL kF jS)) (ho : Ok (Jf T G (cS cs)) s ρ σ) {H : List (Nat × Int)} (i1 : Hl ρ s.hl H) (i2 : Jf T G (cS cs) H σ) {zd zx : Int} {x : AV} (e1 : lk H 805 = some zd) (hx : ev ρ x = some zx) (key : NsX (Pp σ kB) (Pp σ kL) zd zx 1) : Ok (Jf T G (cS cs)) (s.seth ((806, x) :: hdel 807 s.hl)) ρ σ := by
  obtain ⟨w1, w2, w3⟩ := (i2.2.2 _ hP.2.2.1 : fS9 kK kB kL kF jS H σ)
  obtain ⟨n1, n2, n3⟩ := w3 zd e1
  refine ph_set (H := H) (H' := (806, zx) :: hdel 807 H) hP ho i2 ⟨⟨rfl, hx⟩, i1.del⟩ (fun v hv => ?_) ⟨w1, fun n b x q1 q2 q3 => ?_, fun d' q => ?_⟩
  · have := ftg_no hv
    rw [lk_cons, if_neg (by omega), lk_hdel, if_neg (by omega)]
  · rw [lk_cons, if_neg (by decide), lk_hdel, if_neg (by decide)] at q1 q2 q3
    exact w2 n b x q1 q2 q3
  · rw [lk_cons, if_neg (by decide), lk_hdel, if_neg (by decide), e1] at q
    have ed := Option.some.inj q
    subst ed
    refine ⟨n1, fun x qx => ?_, fun y qy => ?_⟩
    · rw [lk_cons, if_pos rfl] at qx
      rw [← Option.some.inj qx]
      exact key
    · rw [lk_cons, if_neg (by decide), lk_hdel, if_pos rfl] at qy
      cases qy
theorem h175_ok (hP : PH T G cs (cF9 kK kB kL kF jS)) (ho : Ok (Jf T G (cS cs)) s ρ σ) : Ok (Jf T G (cS cs)) (h175 s) ρ σ := by
  unfold h175
  split
  · rename_i d y qd qy
    cases hc : !(isS (lk s.hl 806)) with
    | false => exact ho
    | true =>
      obtain ⟨H, i1, i2⟩ := ho.inv
      obtain ⟨zd, e1, e2⟩ := tag_get ho i1 qd
      obtain ⟨zy, f1, f2⟩ := tag_get ho i1 qy
      obtain ⟨w1, w2, w3⟩ := (i2.2.2 _ hP.2.2.1 : fS9 kK kB kL kF jS H σ)
      obtain ⟨n1, n2, n3⟩ := w3 zd e1
      refine f_to6 hP ho i1 i2 e1 (shA_ev f2) (fun hd => ?_)
      have := n3 zy f1 hd
      omega
  · exact ho
/-- 176: a block is left: behind it -/
def h176 (kK kB kF jS : Nat) (s : Sy) : Sy := match lk s.hl 805, lk s.hl 807 with
  | some _, some y => (match oth s kK y, oth s kB y, mget s.me kF (.c (jS : Int)) with
    | some w, some b, some st => bif (((st.isI && leAV s (shA y 1) st) && (leAV s (.c 0) y && leAV s (.c 0) b)) && (yblk s w && !(isS (lk s.hl 806)))) && inS s (tlin 1 (nf s b).1 (nf s y).1) ((nf s y).2 + (nf s b).2 + 1) (-2147483648) 2147483647
      then (s.lin false (tlin 1 (nf s b).1 (nf s y).1) ((nf s y).2 + (nf s b).2 + 1) T32).1.seth ((806, (s.lin false (tlin 1 (nf s b).1 (nf s y).1) ((nf s y).2 + (nf s b).2 + 1) T32).2) :: hdel 807 (s.lin false (tlin 1 (nf s b).1 (nf s y).1) ((nf s y).2 + (nf s b).2 + 1) T32).1.hl) else s
    | _, _, _ => s)
  | _, _ => s
theorem lin_hl {lg : Bool} {f : Lf} {k : Int} {d : Dom} : (s.lin lg f k d).1.hl = s.hl := by
  unfold Sy.lin
  split
  · rfl
  · rename_i id w _
    cases (ile w 1 && ile 1 w) with
    | true => rfl
    | false =>
      show (match dfnd s.df [(id, w)] with
        | some (j, k') => (s, avn lg j (k - k'))
        | none => ((s.nx + 1, ((s.nx, d) :: s.env, (s.me, (s.cg, ((s.nx, ([(id, w)], k)) :: s.df, (s.fa, s.hl)))))), avn lg s.nx 0)).1.hl = s.hl
      split <;> rfl
  · split <;> rfl
theorem h176_ok (hP : PH T G cs (cF9 kK kB kL kF jS)) (ho : Ok (Jf T G (cS cs)) s ρ σ) : ∃ ρ', Pre ρ ρ' ∧ Ok (Jf T G (cS cs)) (h176 kK kB kF jS s) ρ' σ := by
  unfold h176
  split
  · rename_i d y qd qy
    split
    · rename_i w b st hw hB hst
      cases hc : (((st.isI && leAV s (shA y 1) st) && (leAV s (.c 0) y && leAV s (.c 0) b)) && (yblk s w && !(isS (lk s.hl 806)))) && inS s (tlin 1 (nf s b).1 (nf s y).1) ((nf s y).2 + (nf s b).2 + 1) (-2147483648) 2147483647 with
      | false => exact ⟨ρ, Pre.rf, ho⟩
      | true =>
        simp only [cond_true]
        simp only [Bool.and_eq_true] at hc
        obtain ⟨⟨⟨⟨c1, c2⟩, c3, c4⟩, c5, c6⟩, c7⟩ := hc
        obtain ⟨H, i1, i2⟩ := ho.inv
        obtain ⟨zd, e1, e2⟩ := tag_get ho i1 qd
        obtain ⟨zy, f1, f2⟩ := tag_get ho i1 qy
        obtain ⟨w1, w2, w3⟩ := (i2.2.2 _ hP.2.2.1 : fS9 kK kB kL kF jS H σ)
        obtain ⟨n1, n2, n3⟩ := w3 zd e1
        have g0 := leAV_ok ho c3 (x := 0) rfl f2
        have hy : ev ρ y = some ((zy.toNat : Nat) : Int) := f2.trans (congrArg some (by omega))
        have eB : ev ρ b = some (Pp σ kB zy.toNat) := (oth_ok ho hB hy).2
        have eK : Blk (Pp σ kK zy.toNat) := yblk_ok ho c5 (oth_ok ho hw hy).2
        have est : ev ρ st = some (Pp σ kF jS) := me_at ho hst rfl c1
        have g1 := leAV_ok ho c2 (shA_ev f2) est
        have g2 := leAV_ok ho c4 (x := 0) rfl eB
        obtain ⟨vy, y1, y2⟩ := nf_ok ho f2
        obtain ⟨vb, b1, b2⟩ := nf_ok ho eB
        have hv := tlin_ok (w := 1) b1 y1
        have hin := inS_ok ho c7 hv
        have ex : zy + Pp σ kB zy.toNat + 1 = vy + 1 * vb + ((nf s y).2 + (nf s b).2 + 1) := by omega
        obtain ⟨ρ', p1, o1, _, o3⟩ := lin_ok ho (lg := false) (d := T32) hv ex ⟨_, List.mem_cons_self .., by dsimp only; omega, by dsimp only; omega⟩
        refine ⟨ρ', p1, f_to6 hP o1 (by rw [lin_hl]; exact i1.mono p1) i2 e1 o3 (fun hd => ?_)⟩
        have h1 := n3 zy f1 hd
        obtain ⟨⟨q1, q2, q3⟩, _⟩ := n1 (zd - 1).toNat (by omega)
        have h2 := w1 (Pp σ kL (zd - 1).toNat).toNat zy.toNat (by omega) (by omega) (by rw [q3]; exact Or.inr rfl) eK (by omega)
        omega
    · exact ⟨ρ, Pre.rf, ho⟩
  · exact ⟨ρ, Pre.rf, ho⟩
/-- 177: a loop is begun -/
def h177 (kK kB kL kF jS : Nat) (s : Sy) : Sy := match lk s.hl 805, lk s.hl 807 with
  | some d, some y => (match oth s kK y, oth s kB y, mget s.me kF (.c (jS : Int)) with
    | some w, some b, some st => (match oth s kL d with
      | some u => bif (((st.isI && leAV s (shA y 1) st) && (leAV s (.c 0) y && leAV s (.c 0) b)) && (eqA s w (.c 5) && !(isS (lk s.hl 806)))) && (eqA s u y && leAV s (.c 0) d) then s.seth (hup 805 (shA d 1) ((806, shA y 1) :: hdel 807 s.hl)) else s
      | none => s)
    | _, _, _ => s)
  | _, _ => s
theorem h177_ok (hP : PH T G cs (cF9 kK kB kL kF jS)) (ho : Ok (Jf T G (cS cs)) s ρ σ) : Ok (Jf T G (cS cs)) (h177 kK kB kL kF jS s) ρ σ := by
  unfold h177
  split
  · rename_i d y qd qy
    split
    · rename_i w b st hw hB hst
      split
      · rename_i u hu
        cases hc : (((st.isI && leAV s (shA y 1) st) && (leAV s (.c 0) y && leAV s (.c 0) b)) && (eqA s w (.c 5) && !(isS (lk s.hl 806)))) && (eqA s u y && leAV s (.c 0) d) with
        | false => exact ho
        | true =>
          simp only [cond_true]
          simp only [Bool.and_eq_true] at hc
          obtain ⟨⟨⟨⟨c1, c2⟩, c3, c4⟩, c5, c6⟩, c7, c8⟩ := hc
          obtain ⟨H, i1, i2⟩ := ho.inv
          obtain ⟨zd, e1, e2⟩ := tag_get ho i1 qd
          obtain ⟨zy, f1, f2⟩ := tag_get ho i1 qy
          obtain ⟨w1, w2, w3⟩ := (i2.2.2 _ hP.2.2.1 : fS9 kK kB kL kF jS H σ)
          obtain ⟨n1, n2, n3⟩ := w3 zd e1
          have g0 := leAV_ok ho c3 (x := 0) rfl f2
          have hy : ev ρ y = some ((zy.toNat : Nat) : Int) := f2.trans (congrArg some (by omega))
          have eB : ev ρ b = some (Pp σ kB zy.toNat) := (oth_ok ho hB hy).2
          have eK : Pp σ kK zy.toNat = 5 := eqA_ok ho c5 (oth_ok ho hw hy).2 (y := 5) rfl
          have est : ev ρ st = some (Pp σ kF jS) := me_at ho hst rfl c1
          have g1 := leAV_ok ho c2 (shA_ev f2) est
          have g2 := leAV_ok ho c4 (x := 0) rfl eB
          have g3 := leAV_ok ho c8 (x := 0) rfl e2
          have hd : ev ρ d = some ((zd.toNat : Nat) : Int) := e2.trans (congrArg some (by omega))
          have eu : Pp σ kL zd.toNat = zy := eqA_ok ho c7 (oth_ok ho hu hd).2 f2
          have e5 : lk ((806, zy + 1) :: hdel 807 H) 805 = some zd := by rw [lk_cons, if_neg (by decide), lk_hdel, if_neg (by decide)]; exact e1
          refine ph_set (H := H) (H' := hup 805 (zd + 1) ((806, zy + 1) :: hdel 807 H)) hP ho i2 (Hl.up (shA_ev e2) ⟨⟨rfl, shA_ev f2⟩, i1.del⟩) (fun v hv => ?_) ⟨w1, fun n b x q1 q2 q3 => ?_, fun d' q => ?_⟩
          · have := ftg_no hv
            rw [lk_hup_ne (by omega), lk_cons, if_neg (by omega), lk_hdel, if_neg (by omega)]
          · rw [lk_hup_ne (by decide), lk_cons, if_neg (by decide), lk_hdel, if_neg (by decide)] at q1 q2 q3
            exact w2 n b x q1 q2 q3
          · rw [lk_hup_at e5] at q
            have ed := Option.some.inj q
            refine ⟨fun i hi => ?_, fun x qx hd' => ?_, fun z qz => ?_⟩
            · by_cases hlt : (i : Int) < zd
              · refine ⟨(n1 i hlt).1, fun h2 => ?_⟩
                by_cases h3 : (i : Int) + 1 < zd
                · exact (n1 i hlt).2 h3
                · have en : i + 1 = zd.toNat := by omega
                  have em : (zd - 1).toNat = i := by omega
                  rw [en, eu]
                  have := n3 zy f1 (by omega)
                  rw [em] at this
                  omega
              · have en : i = zd.toNat := by omega
                rw [en, eu]
                exact ⟨⟨g0, by omega, eK⟩, fun h2 => absurd h2 (by omega)⟩
            · rw [lk_hup_ne (by decide), lk_cons, if_pos rfl] at qx
              have ex := Option.some.inj qx
              have en : (d' - 1).toNat = zd.toNat := by omega
              rw [en, eu]
              omega
            · rw [lk_hup_ne (by decide), lk_cons, if_neg (by decide), lk_hdel, if_pos rfl] at qz
              cases qz
      · exact ho
    · exact ho
  · exact ho
end H37
end
