noncomputable section
/-! ===== WHAT ELSE HOLDS, 29: a cell that stays; begun where there are two things; who bears; chains ===== -/
def ck (k j : Nat) (x : Int) : Cp := (fun _ => false, (fun _ σ => (σ.1 k j).toInt = x, (fun q => Nat.beq q k, (fun s hl _ p v => bif leAV s (shA p 1) (.c (j : Int)) || (leAV s (.c ((j : Int) + 1)) p || eqA s v (.c x)) then some hl else none, nlw))))
theorem ck_ok {T : Jx} {G : Gl} {k j : Nat} {x : Int} : CpOk T G (ck k j x) := by
  apply CpOk.no (fun _ => rfl)
  refine ⟨fun u hu => (by cases hu), fun H H' σ σ' _ h2 hS => ?_, ?_⟩
  · show (σ'.1 k j).toInt = x
    rw [h2 k (Nat.beq_refl k)]
    exact hS
  · intro s ρ σ k' p v j' y hl hl' H ho hb hp hi hv hx hr hw hh hS
    have ek : k' = k := Nat.eq_of_beq_eq_true hr
    subst ek
    replace hw : (bif leAV s (shA p 1) (.c (j : Int)) || (leAV s (.c ((j : Int) + 1)) p || eqA s v (.c x)) then some hl else none) = some hl' := hw
    cases hc : leAV s (shA p 1) (.c (j : Int)) || (leAV s (.c ((j : Int) + 1)) p || eqA s v (.c x)) with
    | false => rw [hc] at hw; cases hw
    | true =>
      rw [hc] at hw
      cases Option.some.inj hw
      refine ⟨H, hh, ?_, fun _ _ => rfl⟩
      show ((zI σ k' j' y).1 k' j).toInt = x
      have ne : j' ≠ j → ((zI σ k' j' y).1 k' j).toInt = x := fun h => by rw [zI_ne (by rintro ⟨_, q⟩; exact h q.symm)]; exact hS
      simp only [Bool.or_eq_true] at hc
      rcases hc with hc | hc | hc
      · have := leAV_ok ho hc (shA_ev hp) (y := (j : Int)) rfl
        exact ne (by omega)
      · have := leAV_ok ho hc (x := (j : Int) + 1) rfl hp
        exact ne (by omega)
      · by_cases e : j' = j
        · subst e
          rw [zI_at]
          exact eqA_ok ho hc hx (y := x) rfl
        · exact ne e
/-- begun, or one thing at most -/
def nw (kF jB jT : Nat) (s : Sy) (hl : List (Nat × AV)) (p v : AV) : Option (List (Nat × AV)) := match p with
  | .inr (.inl (.ofNat j)) => bif Nat.beq j jB then (bif eqA s v (.c 1) then some hl else none)
    else bif Nat.beq j jT then (bif leAV s v (.c 1) then some hl else match mget s.me kF (.c (jB : Int)) with
      | some w => bif w.isI && eqA s w (.c 1) then some hl else none
      | none => none)
    else some hl
  | _ => none
def cn (kF jB jT : Nat) : Cp := (fun _ => false, (fun _ σ => (σ.1 kF jB).toInt = 1 ∨ (σ.1 kF jT).toInt ≤ 1, (fun q => Nat.beq q kF, (fun s hl _ p v => nw kF jB jT s hl p v, nlw))))
theorem cn_ok {T : Jx} {G : Gl} {kF jB jT : Nat} (hd : jB ≠ jT) : CpOk T G (cn kF jB jT) := by
  apply CpOk.no (fun _ => rfl)
  refine ⟨fun u hu => (by cases hu), fun H H' σ σ' _ h2 hS => ?_, ?_⟩
  · show (σ'.1 kF jB).toInt = 1 ∨ (σ'.1 kF jT).toInt ≤ 1
    rw [h2 kF (Nat.beq_refl kF)]
    exact hS
  · intro s ρ σ k p v j x hl hl' H ho hb hp hi hv hx hr hw hh hS
    have ek : k = kF := Nat.eq_of_beq_eq_true hr
    subst ek
    replace hw : nw k jB jT s hl p v = some hl' := hw
    replace hS : (σ.1 k jB).toInt = 1 ∨ (σ.1 k jT).toInt ≤ 1 := hS
    unfold nw at hw
    suffices hg : hl' = hl ∧ (((zI σ k j x).1 k jB).toInt = 1 ∨ ((zI σ k j x).1 k jT).toInt ≤ 1) by
      rw [hg.1]
      exact ⟨H, hh, hg.2, fun _ _ => rfl⟩
    split at hw
    · rename_i j0
      have ej : j0 = j := by
        have : ((j0 : Nat) : Int) = (j : Int) := Option.some.inj hp
        omega
      subst ej
      cases e1 : Nat.beq j0 jB with
      | true =>
        have eb := Nat.eq_of_beq_eq_true e1
        subst eb
        rw [e1] at hw
        simp only [cond_true] at hw
        cases e2 : eqA s v (.c 1) with
        | false => rw [e2] at hw; cases hw
        | true =>
          rw [e2] at hw
          cases Option.some.inj hw
          exact ⟨rfl, Or.inl (by rw [zI_at]; exact eqA_ok ho e2 hx (y := 1) rfl)⟩
      | false =>
        have nb : j0 ≠ jB := beq_ne e1
        rw [e1] at hw
        simp only [cond_false] at hw
        have kb : (zI σ k j0 x).1 k jB = σ.1 k jB := zI_ne (by rintro ⟨_, q⟩; exact nb q.symm)
        cases e2 : Nat.beq j0 jT with
        | false =>
          have nt : j0 ≠ jT := beq_ne e2
          rw [e2] at hw
          cases Option.some.inj hw
          rw [kb, zI_ne (by rintro ⟨_, q⟩; exact nt q.symm)]
          exact ⟨rfl, hS⟩
        | true =>
          have et := Nat.eq_of_beq_eq_true e2
          subst et
          rw [e2] at hw
          simp only [cond_true] at hw
          cases e3 : leAV s v (.c 1) with
          | true =>
            rw [e3] at hw
            cases Option.some.inj hw
            exact ⟨rfl, Or.inr (by rw [zI_at]; exact leAV_ok ho e3 hx (y := 1) rfl)⟩
          | false =>
            rw [e3] at hw
            simp only [cond_false] at hw
            split at hw
            · rename_i w hm
              cases e4 : w.isI && eqA s w (.c 1) with
              | false => rw [e4] at hw; cases hw
              | true =>
                rw [e4] at hw
                cases Option.some.inj hw
                rw [Bool.and_eq_true] at e4
                exact ⟨rfl, Or.inl (by rw [kb]; exact eqA_ok ho e4.2 (me_at ho hm rfl e4.1) (y := 1) rfl)⟩
            · cases hw
    · cases hw
/-- who bears: below 511 no place but 0 is in 510 and not gone; 512 is and isn't -/
def bS (kP kG : Nat) (H : List (Nat × Int)) (σ : zS) : Prop :=
  (∀ t x, lk H 510 = some t → lk H 511 = some x → ∀ i : Nat, 1 ≤ i → (i : Int) < x → ¬ ((σ.1 kP i).toInt = t ∧ (σ.1 kG i).toInt ≤ 0)) ∧
  ∀ t w, lk H 510 = some t → lk H 512 = some w → ∃ i : Nat, w = (i : Int) ∧ 1 ≤ i ∧ (σ.1 kP i).toInt = t ∧ (σ.1 kG i).toInt ≤ 0
def btg (t : Nat) : Bool := Nat.ble 510 t && Nat.ble t 512
def cb (kP kG : Nat) : Cp := (btg, (bS kP kG, (fun q => Nat.beq q kP || Nat.beq q kG, (fun s hl _ p _ => bif leAV s p (.c 0) || !(isS (lk hl 510)) then some hl else none, nlw))))
theorem cb_ok {T : Jx} {G : Gl} {kP kG : Nat} : CpOk T G (cb kP kG) := by
  apply CpOk.no (fun _ => rfl)
  have tin : ∀ u, 510 ≤ u → u ≤ 512 → btg u = true := fun u h1 h2 => by
    show (Nat.ble 510 u && Nat.ble u 512) = true
    rw [Bool.and_eq_true]
    exact ⟨Nat.ble_eq_true_of_le h1, Nat.ble_eq_true_of_le h2⟩
  refine ⟨fun u hu => ?_, fun H H' σ σ' h1 h2 hS => ?_, ?_⟩
  · have hu : (Nat.ble 510 u && Nat.ble u 512) = true := hu
    rw [Bool.and_eq_true] at hu
    have := Nat.le_of_ble_eq_true hu.1
    omega
  · have r1 : σ'.1 kP = σ.1 kP := h2 kP (by show (Nat.beq kP kP || Nat.beq kP kG) = true; rw [Nat.beq_refl]; rfl)
    have r2 : σ'.1 kG = σ.1 kG := h2 kG (by show (Nat.beq kG kP || Nat.beq kG kG) = true; rw [Nat.beq_refl, Bool.or_true])
    have l : ∀ u, 510 ≤ u → u ≤ 512 → lk H' u = lk H u := fun u a b => h1 u (tin u a b)
    have l0 := l 510 (by omega) (by omega)
    have l1 := l 511 (by omega) (by omega)
    have l2 := l 512 (by omega) (by omega)
    show bS kP kG H' σ'
    unfold bS
    rw [l0, l1, l2, r1, r2]
    exact hS
  · intro s ρ σ k p v j x hl hl' H ho hb hp hi hv hx hr hw hh hS
    replace hw : (bif leAV s p (.c 0) || !(isS (lk hl 510)) then some hl else none) = some hl' := hw
    replace hS : bS kP kG H σ := hS
    cases hc : leAV s p (.c 0) || !(isS (lk hl 510)) with
    | false => rw [hc] at hw; cases hw
    | true =>
      rw [hc] at hw
      cases Option.some.inj hw
      refine ⟨H, hh, ?_, fun _ _ => rfl⟩
      show bS kP kG H (zI σ k j x)
      rw [Bool.or_eq_true] at hc
      rcases hc with hc | hc
      · have hj := leAV_ok ho hc hp (y := 0) rfl
        have e : ∀ (q i : Nat), 1 ≤ i → (zI σ k j x).1 q i = σ.1 q i := fun q i h => zI_ne (by rintro ⟨_, e⟩; omega)
        refine ⟨fun t x' a b i h1 h2 => by rw [e _ _ h1, e _ _ h1]; exact hS.1 t x' a b i h1 h2, fun t w a b => ?_⟩
        obtain ⟨i, c1, c2, c3, c4⟩ := hS.2 t w a b
        exact ⟨i, c1, c2, by rw [e _ _ c2]; exact c3, by rw [e _ _ c2]; exact c4⟩
      · rcases hh.lkp (t := 510) with ⟨_, q2⟩ | ⟨a, z, q1, _, _⟩
        · exact ⟨fun t x' a => (by rw [q2] at a; cases a), fun t w a => (by rw [q2] at a; cases a)⟩
        · rw [q1] at hc; cases hc
/-- chains: 521 is on the chain of 520; 522 is on the chain of 523; 524 isn't on the chain of 525 -/
def oS (kP : Nat) (H : List (Nat × Int)) (σ : zS) : Prop :=
  (∀ q x, lk H 520 = some q → lk H 521 = some x → Un (Pp σ kP) x q) ∧ (∀ t x, lk H 522 = some t → lk H 523 = some x → Un (Pp σ kP) t x) ∧ ∀ t x, lk H 524 = some t → lk H 525 = some x → ¬ Un (Pp σ kP) t x
def otg (t : Nat) : Bool := Nat.ble 520 t && Nat.ble t 525
def co (kP : Nat) : Cp := (otg, (oS kP, (fun q => Nat.beq q kP, (fun _ hl _ _ _ => bif isS (lk hl 521) || (isS (lk hl 523) || isS (lk hl 525)) then none else some hl, nlw))))
theorem co_ok {T : Jx} {G : Gl} {kP : Nat} : CpOk T G (co kP) := by
  apply CpOk.no (fun _ => rfl)
  have tin : ∀ u, 520 ≤ u → u ≤ 525 → otg u = true := fun u h1 h2 => by
    show (Nat.ble 520 u && Nat.ble u 525) = true
    rw [Bool.and_eq_true]
    exact ⟨Nat.ble_eq_true_of_le h1, Nat.ble_eq_true_of_le h2⟩
  refine ⟨fun u hu => ?_, fun H H' σ σ' h1 h2 hS => ?_, ?_⟩
  · have hu : (Nat.ble 520 u && Nat.ble u 525) = true := hu
    rw [Bool.and_eq_true] at hu
    have := Nat.le_of_ble_eq_true hu.1
    omega
  · have r1 : Pp σ' kP = Pp σ kP := by
      funext y
      show (σ'.1 kP y).toInt = _
      rw [h2 kP (Nat.beq_refl kP)]
    have l : ∀ u, 520 ≤ u → u ≤ 525 → lk H' u = lk H u := fun u a b => h1 u (tin u a b)
    show oS kP H' σ'
    unfold oS
    rw [r1, l 520 (by omega) (by omega), l 521 (by omega) (by omega), l 522 (by omega) (by omega), l 523 (by omega) (by omega), l 524 (by omega) (by omega), l 525 (by omega) (by omega)]
    exact hS
  · intro s ρ σ k p v j x hl hl' H ho hb hp hi hv hx hr hw hh hS
    replace hw : (bif isS (lk hl 521) || (isS (lk hl 523) || isS (lk hl 525)) then none else some hl) = some hl' := hw
    cases hc : isS (lk hl 521) || (isS (lk hl 523) || isS (lk hl 525)) with
    | true => rw [hc] at hw; cases hw
    | false =>
      rw [hc] at hw
      cases Option.some.inj hw
      have no : ∀ u, isS (lk hl u) = false → lk H u = none := fun u h => by
        rcases hh.lkp (t := u) with ⟨_, q2⟩ | ⟨a, z, q1, _, _⟩
        · exact q2
        · rw [q1] at h; cases h
      simp only [Bool.or_eq_false_iff] at hc
      exact ⟨H, hh, ⟨fun q x' _ b => (by rw [no 521 hc.1] at b; cases b), fun t x' _ b => (by rw [no 523 hc.2.1] at b; cases b), fun t x' _ b => (by rw [no 525 hc.2.2] at b; cases b)⟩, fun _ _ => rfl⟩
/-- tags of one part change, all else stays -/
theorem Jf_part {T : Jx} {G : Gl} {cs : List Cp} (hwf : T.wf = true) (hc : ∀ c ∈ cs, CpOk T G c) {H H' : List (Nat × Int)} {σ : zS} {c0 : Cp} (hu : ∀ c ∈ cs, c = c0 ∨ ∀ t, c0.tg t = true → c.tg t = false) (h100 : ∀ t, c0.tg t = true → 100 ≤ t) (hl : ∀ u, c0.tg u = false → lk H' u = lk H u) (hJ : Jf T G (cS cs) H σ) (hn : c0.S H' σ) : Jf T G (cS cs) H' σ := by
  refine ⟨hJ.1, fun r R hr j hj hq => hJ.2.1 r R hr j hj (fun e => hq ?_), fun c q => ?_⟩
  · rw [hl r ?_]
    · exact e
    · cases ht : c0.tg r with
      | false => rfl
      | true =>
        have h1 := h100 r ht
        have h2 := (wf_row hwf hr).1
        omega
  · rcases hu c q with rfl | hd
    · exact hn
    · refine (hc c q).dep H H' σ σ (fun t ht => hl t ?_) (fun _ _ => rfl) (hJ.2.2 c q)
      cases h0 : c0.tg t with
      | false => rfl
      | true => rw [hd t h0] at ht; cases ht
end
