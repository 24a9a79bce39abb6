section
noncomputable section
/-! ===== WHAT ELSE HOLDS, 35: labels: what the reference shows is its own where it is labelled, else 255; 590 the open place, 591 what the class holds there, 592 what the reference shows there; 593: not labelled, 255 below; hints 140 .. 142 ===== -/
def eff9 (kM kF jF : Nat) (σ : zS) (i : Nat) : Int := if (σ.1 kF jF).toInt = 1 then (σ.1 kM i).toInt else 255
def yS9 (kL kM kF jF : Nat) (H : List (Nat × Int)) (σ : zS) : Prop :=
  (∀ i : Nat, i < 14 → lk H 590 ≠ some (i : Int) → (σ.1 kL i).toInt = eff9 kM kF jF σ i) ∧
  (∀ p, lk H 590 = some p → ∃ i : Nat, p = (i : Int) ∧ i < 14 ∧ (∀ c, lk H 591 = some c → (σ.1 kL i).toInt = c) ∧ ∀ v, lk H 592 = some v → eff9 kM kF jF σ i = v) ∧
  ∀ n, lk H 593 = some n → (σ.1 kF jF).toInt = 0 ∧ ∀ i : Nat, (i : Int) < n → i < 14 → (σ.1 kM i).toInt = 255
def ytg (t : Nat) : Bool := Nat.ble 590 t && Nat.ble t 593
theorem ytg_no {u : Nat} (h : ytg u = false) : ¬ (590 ≤ u ∧ u ≤ 593) := fun q => by
  have : ytg u = true := by
    show (Nat.ble 590 u && Nat.ble u 593) = true
    rw [Bool.and_eq_true]
    exact ⟨Nat.ble_eq_true_of_le q.1, Nat.ble_eq_true_of_le q.2⟩
  rw [this] at h
  cases h
def ywE (s : Sy) (hl : List (Nat × AV)) (v : AV) : Option (List (Nat × AV)) := match lk hl 593 with
  | some n => bif leAV s (.c 14) n && eqA s v (.c 1) then some (hdel 593 hl) else none
  | none => none
def ywF (kF jF : Nat) (s : Sy) (hl : List (Nat × AV)) (v : AV) : Option (List (Nat × AV)) := match mget s.me kF (.c (jF : Int)) with
  | some b => bif (b.isI && eqA s b (.c 1)) && eqA s v (.c 1) then some hl else ywE s hl v
  | none => ywE s hl v
def ywL (kL : Nat) (s : Sy) (hl : List (Nat × AV)) (p v : AV) : Option (List (Nat × AV)) := match lk hl 590 with
  | some x => bif eqA s x p then some (hset 591 v hl) else none
  | none => match mget s.me kL p with
    | some w => bif w.isI then some (hset 590 p (hset 591 v (hset 592 w hl))) else none
    | none => none
def ywM (kF jF : Nat) (s : Sy) (hl : List (Nat × AV)) (p v : AV) : Option (List (Nat × AV)) := match mget s.me kF (.c (jF : Int)) with
  | some b => bif b.isI then (bif eqA s b (.c 0) then (bif !(isS (lk hl 593)) || eqA s v (.c 255) then some hl else none) else bif eqA s b (.c 1) && !(isS (lk hl 593)) then (match lk hl 590 with
    | some x => match lk hl 591 with
      | some c => bif eqA s x p && eqA s v c then some (hdel 590 (hdel 591 (hdel 592 hl))) else none
      | none => none
    | none => none) else none) else none
  | none => none
def yw9 (kL kF jF : Nat) (s : Sy) (hl : List (Nat × AV)) (k : Nat) (p v : AV) : Option (List (Nat × AV)) :=
  bif Nat.beq k kF then (match p with
    | .inr (.inl (.ofNat j)) => bif Nat.beq j jF then ywF kF jF s hl v else some hl
    | _ => none)
  else bif p.isI && (leAV s (.c 0) p && leAV s p (.c 13)) then (bif Nat.beq k kL then ywL kL s hl p v else ywM kF jF s hl p v) else none
def cy9 (kL kM kF jF : Nat) : Cp := (ytg, (yS9 kL kM kF jF, (fun q => Nat.beq q kL || (Nat.beq q kM || Nat.beq q kF), (fun s hl k p v => yw9 kL kF jF s hl k p v, nlw))))
theorem cy9_ok {T : Jx} {G : Gl} {kL kM kF jF : Nat} (d1 : kL ≠ kM) (d2 : kL ≠ kF) (d3 : kM ≠ kF) : CpOk T G (cy9 kL kM kF jF) := by
  apply CpOk.no (fun _ => rfl)
  have tin : ∀ u, 590 ≤ u → u ≤ 593 → ytg u = true := fun u h1 h2 => by
    show (Nat.ble 590 u && Nat.ble u 593) = true
    rw [Bool.and_eq_true]
    exact ⟨Nat.ble_eq_true_of_le h1, Nat.ble_eq_true_of_le h2⟩
  refine ⟨fun u hu => ?_, fun H H' σ σ' h1 h2 hS => ?_, ?_⟩
  · have hu : (Nat.ble 590 u && Nat.ble u 593) = true := hu
    rw [Bool.and_eq_true] at hu
    have := Nat.le_of_ble_eq_true hu.1
    omega
  · have r1 : σ'.1 kL = σ.1 kL := h2 kL (by show (Nat.beq kL kL || (Nat.beq kL kM || Nat.beq kL kF)) = true; rw [Nat.beq_refl]; rfl)
    have r2 : σ'.1 kM = σ.1 kM := h2 kM (by show (Nat.beq kM kL || (Nat.beq kM kM || Nat.beq kM kF)) = true; rw [Nat.beq_refl, Bool.true_or, Bool.or_true])
    have r3 : σ'.1 kF = σ.1 kF := h2 kF (by show (Nat.beq kF kL || (Nat.beq kF kM || Nat.beq kF kF)) = true; rw [Nat.beq_refl, Bool.or_true, Bool.or_true])
    have l : ∀ u, 590 ≤ u → u ≤ 593 → lk H' u = lk H u := fun u a b => h1 u (tin u a b)
    show yS9 kL kM kF jF H' σ'
    unfold yS9 eff9
    rw [r1, r2, r3, l 590 (by omega) (by omega), l 591 (by omega) (by omega), l 592 (by omega) (by omega), l 593 (by omega) (by omega)]
    exact hS
  · intro s ρ σ k p v j x hl hl' H ho hb hp hi hv hx hr hw hh hS
    replace hw : yw9 kL kF jF s hl k p v = some hl' := hw
    replace hS : yS9 kL kM kF jF H σ := hS
    obtain ⟨s1, s2, s3⟩ := hS
    have tg : ∀ {t : Nat} {a : AV}, lk hl t = some a → ∃ z, lk H t = some z ∧ ev ρ a = some z := fun {t a} h => by
      rcases hh.lkp (t := t) with ⟨q, _⟩ | ⟨a', z, q, q', q''⟩
      · rw [h] at q; cases q
      · rw [h] at q; cases Option.some.inj q; exact ⟨z, q', q''⟩
    have no : ∀ {t : Nat}, lk hl t = none → lk H t = none := fun {t} h => by
      rcases hh.lkp (t := t) with ⟨_, q⟩ | ⟨a', z, q, _, _⟩
      · exact q
      · rw [h] at q; cases q
    unfold yw9 at hw
    cases e1 : Nat.beq k kF with
    | true =>
      have ek := Nat.eq_of_beq_eq_true e1
      subst ek
      rw [e1] at hw
      simp only [cond_true] at hw
      split at hw
      · rename_i j0
        have ej : j0 = j := by
          have : ((j0 : Nat) : Int) = (j : Int) := Option.some.inj hp
          omega
        subst ej
        have nL : ∀ i, (zI σ k j0 x).1 kL i = σ.1 kL i := fun i => zI_ne (by rintro ⟨e, _⟩; exact d2 e)
        have nM : ∀ i, (zI σ k j0 x).1 kM i = σ.1 kM i := fun i => zI_ne (by rintro ⟨e, _⟩; exact d3 e)
        cases e2 : Nat.beq j0 jF with
        | false =>
          have nj : j0 ≠ jF := beq_ne e2
          rw [e2] at hw
          cases Option.some.inj hw
          have nF : (zI σ k j0 x).1 k jF = σ.1 k jF := zI_ne (by rintro ⟨_, e⟩; exact nj e.symm)
          have ne : ∀ i, eff9 kM k jF (zI σ k j0 x) i = eff9 kM k jF σ i := fun i => by unfold eff9; rw [nF, nM]
          exact ⟨H, hh, ⟨fun i a b => by rw [nL, ne]; exact s1 i a b, fun q a => by
            obtain ⟨i, b1, b2, b3, b4⟩ := s2 q a
            exact ⟨i, b1, b2, fun c h => by rw [nL]; exact b3 c h, fun w h => by rw [ne]; exact b4 w h⟩, fun n a => by
            obtain ⟨b1, b2⟩ := s3 n a
            exact ⟨by rw [nF]; exact b1, fun i c d => by rw [nM]; exact b2 i c d⟩⟩, fun _ _ => rfl⟩
        | true =>
          have ej := Nat.eq_of_beq_eq_true e2
          subst ej
          rw [e2] at hw
          simp only [cond_true] at hw
          have nF : ((zI σ k j0 x).1 k j0).toInt = x.toInt := by rw [zI_at]
          have endd : ywE s hl v = some hl' → ∃ H', Hl ρ hl' H' ∧ yS9 kL kM k j0 H' (zI σ k j0 x) ∧ ∀ t, ytg t = false → lk H' t = lk H t := fun hw => by
            unfold ywE at hw
            split at hw
            · rename_i n qn
              cases e3 : leAV s (.c 14) n && eqA s v (.c 1) with
              | false => rw [e3] at hw; cases hw
              | true =>
                rw [e3] at hw
                cases Option.some.inj hw
                rw [Bool.and_eq_true] at e3
                obtain ⟨zn, n1, n2⟩ := tg qn
                have g1 := leAV_ok ho e3.1 (x := 14) rfl n2
                have g2 := eqA_ok ho e3.2 hx (y := 1) rfl
                obtain ⟨f1, f2⟩ := s3 zn n1
                have ne : ∀ i, i < 14 → eff9 kM k j0 (zI σ k j0 x) i = eff9 kM k j0 σ i := fun i h => by
                  unfold eff9
                  rw [nF, g2, if_pos rfl, if_neg (by omega), nM]
                  exact f2 i (by omega) h
                have ln : ∀ t, t ≠ 593 → lk (hdel 593 H) t = lk H t := fun t h => by rw [lk_hdel, if_neg h]
                refine ⟨hdel 593 H, hh.del, ⟨fun i a b => ?_, fun q a => ?_, fun n' a => ?_⟩, fun t ht => ln t (fun e => ytg_no ht (by omega))⟩
                · rw [ln 590 (by decide)] at b
                  rw [nL, ne i a]
                  exact s1 i a b
                · rw [ln 590 (by decide)] at a
                  obtain ⟨i, b1, b2, b3, b4⟩ := s2 q a
                  exact ⟨i, b1, b2, fun c h => by rw [ln 591 (by decide)] at h; rw [nL]; exact b3 c h, fun w h => by rw [ln 592 (by decide)] at h; rw [ne i b2]; exact b4 w h⟩
                · rw [lk_hdel, if_pos rfl] at a; cases a
            · cases hw
          unfold ywF at hw
          split at hw
          · rename_i b hbm
            cases e3 : (b.isI && eqA s b (.c 1)) && eqA s v (.c 1) with
            | false => rw [e3] at hw; exact endd hw
            | true =>
              rw [e3] at hw
              cases Option.some.inj hw
              simp only [Bool.and_eq_true] at e3
              have g1 := eqA_ok ho e3.1.2 (me_at ho hbm rfl e3.1.1) (y := 1) rfl
              have g2 := eqA_ok ho e3.2 hx (y := 1) rfl
              have ne : ∀ i, eff9 kM k j0 (zI σ k j0 x) i = eff9 kM k j0 σ i := fun i => by
                unfold eff9
                rw [nF, g2, g1, if_pos rfl, if_pos rfl, nM]
              exact ⟨H, hh, ⟨fun i a b => by rw [nL, ne]; exact s1 i a b, fun q a => by
                obtain ⟨i, b1, b2, b3, b4⟩ := s2 q a
                exact ⟨i, b1, b2, fun c h => by rw [nL]; exact b3 c h, fun w h => by rw [ne]; exact b4 w h⟩, fun n a => by
                obtain ⟨b1, _⟩ := s3 n a
                omega⟩, fun _ _ => rfl⟩
          · exact endd hw
      · cases hw
    | false =>
      have nkF : k ≠ kF := beq_ne e1
      rw [e1] at hw
      simp only [cond_false] at hw
      have nF : (zI σ k j x).1 kF jF = σ.1 kF jF := zI_ne (by rintro ⟨e, _⟩; exact nkF e.symm)
      cases e2 : p.isI && (leAV s (.c 0) p && leAV s p (.c 13)) with
      | false => rw [e2] at hw; cases hw
      | true =>
        rw [e2] at hw
        simp only [cond_true] at hw
        simp only [Bool.and_eq_true] at e2
        have hj := leAV_ok ho e2.2.2 hp (y := 13) rfl
        cases e3 : Nat.beq k kL with
        | true =>
          have ek := Nat.eq_of_beq_eq_true e3
          subst ek
          rw [e3] at hw
          simp only [cond_true] at hw
          have nM : ∀ i, (zI σ k j x).1 kM i = σ.1 kM i := fun i => zI_ne (by rintro ⟨e, _⟩; exact d1 e.symm)
          have ne : ∀ i, eff9 kM kF jF (zI σ k j x) i = eff9 kM kF jF σ i := fun i => by unfold eff9; rw [nF, nM]
          have nL : ∀ i, i ≠ j → (zI σ k j x).1 k i = σ.1 k i := fun i h => zI_ne (by rintro ⟨_, e⟩; exact h e)
          unfold ywL at hw
          split at hw
          · rename_i y qy
            cases e4 : eqA s y p with
            | false => rw [e4] at hw; cases hw
            | true =>
              rw [e4] at hw
              cases Option.some.inj hw
              obtain ⟨zy, y1, y2⟩ := tg qy
              have ey := eqA_ok ho e4 y2 hp
              have l0 : ∀ t, t ≠ 591 → lk (hset 591 x.toInt H) t = lk H t := fun t h => by rw [lk_hset, if_neg h]
              refine ⟨hset 591 x.toInt H, hh.set hx, ⟨fun i a b => ?_, fun q a => ?_, fun n a => ?_⟩, fun t ht => l0 t (fun e => ytg_no ht (by omega))⟩
              · rw [l0 590 (by decide)] at b
                have ni : i ≠ j := fun e => b (by rw [y1, ey, e])
                rw [nL i ni, ne]
                exact s1 i a b
              · rw [l0 590 (by decide)] at a
                obtain ⟨i, b1, b2, b3, b4⟩ := s2 q a
                rw [y1] at a
                have eq := Option.some.inj a
                have ei : i = j := by omega
                subst ei
                refine ⟨i, b1, b2, fun c h => ?_, fun w h => ?_⟩
                · rw [lk_hset, if_pos rfl] at h
                  rw [zI_at]
                  exact Option.some.inj h
                · rw [l0 592 (by decide)] at h
                  rw [ne]
                  exact b4 w h
              · rw [l0 593 (by decide)] at a
                obtain ⟨b1, b2⟩ := s3 n a
                exact ⟨by rw [nF]; exact b1, fun i c d => by rw [nM]; exact b2 i c d⟩
          · rename_i qy
            have h590 := no qy
            split at hw
            · rename_i w hm
              cases e4 : w.isI with
              | false => rw [e4] at hw; cases hw
              | true =>
                rw [e4] at hw
                cases Option.some.inj hw
                have ew := me_at ho hm hp e4
                have l0 : ∀ t, t ≠ 590 → t ≠ 591 → t ≠ 592 → lk (hset 590 (j : Int) (hset 591 x.toInt (hset 592 (σ.1 k j).toInt H))) t = lk H t := fun t h0 h1 h2 => by rw [lk_hset, if_neg h0, lk_hset, if_neg h1, lk_hset, if_neg h2]
                refine ⟨hset 590 (j : Int) (hset 591 x.toInt (hset 592 (σ.1 k j).toInt H)), ((hh.set ew).set hx).set hp, ⟨fun i a b => ?_, fun q a => ?_, fun n a => ?_⟩, fun t ht => l0 t (fun e => ytg_no ht (by omega)) (fun e => ytg_no ht (by omega)) (fun e => ytg_no ht (by omega))⟩
                · have ni : i ≠ j := fun e => b (by rw [lk_hset, if_pos rfl, e])
                  rw [nL i ni, ne]
                  exact s1 i a (by rw [h590]; exact fun q => by cases q)
                · rw [lk_hset, if_pos rfl] at a
                  refine ⟨j, (Option.some.inj a).symm, by omega, fun c h => ?_, fun w' h => ?_⟩
                  · rw [lk_hset, if_neg (by decide), lk_hset, if_pos rfl] at h
                    rw [zI_at]
                    exact Option.some.inj h
                  · rw [lk_hset, if_neg (by decide), lk_hset, if_neg (by decide), lk_hset, if_pos rfl] at h
                    rw [ne, ← Option.some.inj h]
                    exact (s1 j (by omega) (by rw [h590]; exact fun q => by cases q)).symm
                · rw [l0 593 (by decide) (by decide) (by decide)] at a
                  obtain ⟨b1, b2⟩ := s3 n a
                  exact ⟨by rw [nF]; exact b1, fun i c d => by rw [nM]; exact b2 i c d⟩
            · cases hw
        | false =>
          have nkL : k ≠ kL := beq_ne e3
          have ek : k = kM := by
            have hr : (Nat.beq k kL || (Nat.beq k kM || Nat.beq k kF)) = true := hr
            rw [e3, e1, Bool.false_or, Bool.or_false] at hr
            exact Nat.eq_of_beq_eq_true hr
          subst ek
          rw [e3] at hw
          simp only [cond_false] at hw
          have nL : ∀ i, (zI σ k j x).1 kL i = σ.1 kL i := fun i => zI_ne (by rintro ⟨e, _⟩; exact d1 e)
          have nM : ∀ i, i ≠ j → (zI σ k j x).1 k i = σ.1 k i := fun i h => zI_ne (by rintro ⟨_, e⟩; exact h e)
          unfold ywM at hw
          split at hw
          · rename_i b hbm
            cases e4 : b.isI with
            | false => rw [e4] at hw; cases hw
            | true =>
              rw [e4] at hw
              simp only [cond_true] at hw
              have eb := me_at ho hbm rfl e4
              cases e5 : eqA s b (.c 0) with
              | true =>
                rw [e5] at hw
                simp only [cond_true] at hw
                have g0 := eqA_ok ho e5 eb (y := 0) rfl
                cases e6 : !(isS (lk hl 593)) || eqA s v (.c 255) with
                | false => rw [e6] at hw; cases hw
                | true =>
                  rw [e6] at hw
                  cases Option.some.inj hw
                  have ne : ∀ i, eff9 k kF jF (zI σ k j x) i = eff9 k kF jF σ i := fun i => by
                    unfold eff9
                    rw [nF, if_neg (by omega), if_neg (by omega)]
                  refine ⟨H, hh, ⟨fun i a c => by rw [nL, ne]; exact s1 i a c, fun q a => ?_, fun n a => ?_⟩, fun _ _ => rfl⟩
                  · obtain ⟨i, b1, b2, b3, b4⟩ := s2 q a
                    exact ⟨i, b1, b2, fun c h => by rw [nL]; exact b3 c h, fun w h => by rw [ne]; exact b4 w h⟩
                  · obtain ⟨b1, b2⟩ := s3 n a
                    refine ⟨by rw [nF]; exact b1, fun i c d => ?_⟩
                    by_cases ei : i = j
                    · subst ei
                      rw [zI_at]
                      rw [Bool.or_eq_true] at e6
                      rcases e6 with e6 | e6
                      · cases h593 : lk hl 593 with
                        | none => rw [no h593] at a; cases a
                        | some y => rw [h593] at e6; cases e6
                      · exact eqA_ok ho e6 hx (y := 255) rfl
                    · rw [nM i ei]; exact b2 i c d
              | false =>
                rw [e5] at hw
                simp only [cond_false] at hw
                cases e6 : eqA s b (.c 1) && !(isS (lk hl 593)) with
                | false => rw [e6] at hw; cases hw
                | true =>
                  rw [e6] at hw
                  simp only [cond_true] at hw
                  rw [Bool.and_eq_true] at e6
                  have g1 := eqA_ok ho e6.1 eb (y := 1) rfl
                  have h593 : lk H 593 = none := by
                    cases h9 : lk hl 593 with
                    | none => exact no h9
                    | some y => rw [h9] at e6; cases e6.2
                  split at hw
                  · rename_i y qy
                    split at hw
                    · rename_i c qc
                      cases e7 : eqA s y p && eqA s v c with
                      | false => rw [e7] at hw; cases hw
                      | true =>
                        rw [e7] at hw
                        cases Option.some.inj hw
                        rw [Bool.and_eq_true] at e7
                        obtain ⟨zy, y1, y2⟩ := tg qy
                        obtain ⟨zc, c1, c2⟩ := tg qc
                        have ey := eqA_ok ho e7.1 y2 hp
                        have ec := eqA_ok ho e7.2 hx c2
                        obtain ⟨i0, b1, b2, b3, b4⟩ := s2 zy y1
                        have ei : i0 = j := by omega
                        subst ei
                        have ef : ∀ i, eff9 k kF jF (zI σ k i0 x) i = ((zI σ k i0 x).1 k i).toInt := fun i => by
                          unfold eff9
                          rw [nF, if_pos g1]
                        have l0 : ∀ t, t ≠ 590 → t ≠ 591 → t ≠ 592 → lk (hdel 590 (hdel 591 (hdel 592 H))) t = lk H t := fun t h0 h1 h2 => by rw [lk_hdel, if_neg h0, lk_hdel, if_neg h1, lk_hdel, if_neg h2]
                        refine ⟨hdel 590 (hdel 591 (hdel 592 H)), ((hh.del).del).del, ⟨fun i a _ => ?_, fun q a => ?_, fun n a => ?_⟩, fun t ht => l0 t (fun e => ytg_no ht (by omega)) (fun e => ytg_no ht (by omega)) (fun e => ytg_no ht (by omega))⟩
                        · rw [nL, ef]
                          by_cases e8 : i = i0
                          · subst e8
                            rw [zI_at, b3 zc c1, ec]
                          · rw [nM i e8]
                            have := s1 i a (by rw [y1]; exact fun q => e8 (by have := Option.some.inj q; omega))
                            rw [this]
                            unfold eff9
                            rw [if_pos g1]
                        · rw [lk_hdel, if_pos rfl] at a; cases a
                        · rw [l0 593 (by decide) (by decide) (by decide), h593] at a; cases a
                    · cases hw
                  · cases hw
          · cases hw
section H37
variable {T : Jx} {G : Gl} {cs : List Cp} {s : Sy} {ρ : List Int} {σ : zS} {kL kM kF jF : Nat}
def h140 (kM kF jF : Nat) (a : AV) (s : Sy) : Sy := match mget s.me kF (.c (jF : Int)) with
  | some b => match lk s.hl 590 with
    | some x => match lk s.hl 592 with
      | some v => bif ((b.isI && eqA s b (.c 1)) && (v.isI && eqA s x a)) && (eqA s a (pl s a) && !(isS (mget s.me kM (pl s a)))) then s.add kM (pl s a) v else s
      | none => s
    | none => s
  | none => s
theorem h140_ok (hm : cy9 kL kM kF jF ∈ cs) {a : AV} {z : Int} (ha : ev ρ a = some z) (ho : Ok (Jf T G (cS cs)) s ρ σ) : Ok (Jf T G (cS cs)) (h140 kM kF jF a s) ρ σ := by
  unfold h140
  split
  · rename_i b hbm
    split
    · rename_i x qx
      split
      · rename_i v qv
        cases hc : ((b.isI && eqA s b (.c 1)) && (v.isI && eqA s x a)) && (eqA s a (pl s a) && !(isS (mget s.me kM (pl s a)))) with
        | false => exact ho
        | true =>
          simp only [Bool.and_eq_true] at hc
          obtain ⟨H, i1, i2⟩ := ho.inv
          obtain ⟨s1, s2, s3⟩ := (i2.2.2 _ hm : yS9 kL kM kF jF H σ)
          obtain ⟨zx, x1, x2⟩ := tag_get ho i1 qx
          obtain ⟨zv, v1, v2⟩ := tag_get ho i1 qv
          obtain ⟨i, b1, b2, b3, b4⟩ := s2 zx x1
          have g1 := eqA_ok ho hc.1.1.2 (me_at ho hbm rfl hc.1.1.1) (y := 1) rfl
          have ex := eqA_ok ho hc.1.2.2 x2 ha
          have e4 := b4 zv v1
          unfold eff9 at e4
          rw [if_pos g1] at e4
          obtain ⟨y, hy⟩ := pl_ev (s := s) ha
          have ey := eqA_ok ho hc.2.1 ha hy
          exact ho.addm ⟨i, by rw [hy]; exact congrArg some (by omega), Or.inl ⟨hc.1.2.1, by rw [v2, e4]⟩⟩
      · exact ho
    · exact ho
  · exact ho
def h141 (kF jF : Nat) (s : Sy) : Sy := match mget s.me kF (.c (jF : Int)) with
  | some b => bif (b.isI && eqA s b (.c 0)) && !(isS (lk s.hl 593)) then s.seth ((593, .c 0) :: s.hl) else s
  | none => s
theorem h141_ok (hP : PH T G cs (cy9 kL kM kF jF)) (ho : Ok (Jf T G (cS cs)) s ρ σ) : Ok (Jf T G (cS cs)) (h141 kF jF s) ρ σ := by
  unfold h141
  split
  · rename_i b hbm
    cases hc : (b.isI && eqA s b (.c 0)) && !(isS (lk s.hl 593)) with
    | false => exact ho
    | true =>
      simp only [Bool.and_eq_true] at hc
      obtain ⟨H, i1, i2⟩ := ho.inv
      obtain ⟨s1, s2, s3⟩ := (i2.2.2 _ hP.2.2.1 : yS9 kL kM kF jF H σ)
      have g0 := eqA_ok ho hc.1.2 (me_at ho hbm rfl hc.1.1) (y := 0) rfl
      have l0 : ∀ t, t ≠ 593 → lk ((593, (0 : Int)) :: H) t = lk H t := fun t h => by rw [lk_cons, if_neg h]
      refine ph_set (H := H) (H' := (593, 0) :: H) hP ho i2 ⟨⟨rfl, rfl⟩, i1⟩ (fun u hu => l0 u (fun e => ytg_no hu (by omega))) ⟨fun i a b => ?_, fun q a => ?_, fun n a => ?_⟩
      · rw [l0 590 (by decide)] at b
        exact s1 i a b
      · rw [l0 590 (by decide)] at a
        obtain ⟨i, b1, b2, b3, b4⟩ := s2 q a
        exact ⟨i, b1, b2, fun c h => b3 c (by rw [l0 591 (by decide)] at h; exact h), fun w h => b4 w (by rw [l0 592 (by decide)] at h; exact h)⟩
      · rw [lk_cons, if_pos rfl] at a
        have := Option.some.inj a
        exact ⟨g0, fun i c _ => by omega⟩
  · exact ho
def h142 (kM : Nat) (a : AV) (s : Sy) : Sy := match lk s.hl 593 with
  | some n => match oth s kM a with
    | some w => bif eqA s n a && eqA s w (.c 255) then s.seth (hup 593 (shA a 1) s.hl) else s
    | none => s
  | none => s
theorem h142_ok (hP : PH T G cs (cy9 kL kM kF jF)) {a : AV} {j : Nat} (ha : ev ρ a = some (j : Int)) (ho : Ok (Jf T G (cS cs)) s ρ σ) : Ok (Jf T G (cS cs)) (h142 kM a s) ρ σ := by
  unfold h142
  split
  · rename_i n qn
    split
    · rename_i w hw
      cases hc : eqA s n a && eqA s w (.c 255) with
      | false => exact ho
      | true =>
        rw [Bool.and_eq_true] at hc
        obtain ⟨H, i1, i2⟩ := ho.inv
        obtain ⟨s1, s2, s3⟩ := (i2.2.2 _ hP.2.2.1 : yS9 kL kM kF jF H σ)
        obtain ⟨zn, n1, n2⟩ := tag_get ho i1 qn
        have en := eqA_ok ho hc.1 n2 ha
        have ew := eqA_ok ho hc.2 (oth_ok ho hw ha).2 (y := 255) rfl
        obtain ⟨f1, f2⟩ := s3 zn n1
        refine ph_set hP ho i2 (i1.up (shA_ev ha)) (fun u hu => lk_hup_ne (fun e => ytg_no hu (by omega))) ⟨fun i a b => ?_, fun q a => ?_, fun n' a => ?_⟩
        · rw [lk_hup_ne (by decide)] at b
          exact s1 i a b
        · rw [lk_hup_ne (by decide)] at a
          obtain ⟨i, b1, b2, b3, b4⟩ := s2 q a
          exact ⟨i, b1, b2, fun c h => b3 c (by rw [lk_hup_ne (by decide)] at h; exact h), fun w' h => b4 w' (by rw [lk_hup_ne (by decide)] at h; exact h)⟩
        · rw [lk_hup_at n1] at a
          have e := Option.some.inj a
          refine ⟨f1, fun i c d => ?_⟩
          by_cases ei : i = j
          · rw [ei]; exact ew
          · exact f2 i (by omega) d
    · exact ho
  · exact ho
/-- 143: labelled, nothing open: what the class holds at a, the reference holds -/
def h143 (kL kM kF jF : Nat) (a : AV) (s : Sy) : Sy := match mget s.me kF (.c (jF : Int)) with
  | some b => match lk s.hl 590 with
    | some _ => s
    | none => match oth s kL a with
      | some w => bif ((b.isI && eqA s b (.c 1)) && (leAV s (.c 0) a && leAV s a (.c 13))) && (eqA s a (pl s a) && !(isS (mget s.me kM (pl s a)))) then s.add kM (pl s a) w else s
      | none => s
  | none => s
theorem h143_ok (hm : cy9 kL kM kF jF ∈ cs) {a : AV} {z : Int} (ha : ev ρ a = some z) (ho : Ok (Jf T G (cS cs)) s ρ σ) : Ok (Jf T G (cS cs)) (h143 kL kM kF jF a s) ρ σ := by
  unfold h143
  split
  · rename_i b hbm
    split
    · exact ho
    · rename_i qx
      split
      · rename_i w hw
        cases hc : ((b.isI && eqA s b (.c 1)) && (leAV s (.c 0) a && leAV s a (.c 13))) && (eqA s a (pl s a) && !(isS (mget s.me kM (pl s a)))) with
        | false => exact ho
        | true =>
          simp only [Bool.and_eq_true] at hc
          obtain ⟨H, i1, i2⟩ := ho.inv
          obtain ⟨s1, s2, s3⟩ := (i2.2.2 _ hm : yS9 kL kM kF jF H σ)
          have hn : lk H 590 = none := by
            rcases i1.lkp (t := 590) with ⟨_, q⟩ | ⟨a', z', q, _, _⟩
            · exact q
            · rw [qx] at q; cases q
          have g1 := eqA_ok ho hc.1.1.2 (me_at ho hbm rfl hc.1.1.1) (y := 1) rfl
          have g2 := leAV_ok ho hc.1.2.1 (x := 0) rfl ha
          have g3 := leAV_ok ho hc.1.2.2 ha (y := 13) rfl
          obtain ⟨i, hi⟩ : ∃ i : Nat, z = (i : Int) := ⟨z.toNat, by omega⟩
          subst hi
          obtain ⟨w1, w2⟩ := oth_ok ho hw ha
          have e4 := s1 i (by omega) (by rw [hn]; exact fun q => by cases q)
          unfold eff9 at e4
          rw [if_pos g1] at e4
          obtain ⟨y, hy⟩ := pl_ev (s := s) ha
          have ey := eqA_ok ho hc.2.1 ha hy
          exact ho.addm ⟨i, by rw [hy]; exact congrArg some (by omega), Or.inl ⟨w1, by rw [w2, e4]⟩⟩
      · exact ho
  · exact ho
end H37
end
end
section
noncomputable section
/-! ===== what holds all through: bounds, columns, rows that go together ===== -/
def d9_0 : Dom := [(0, 200)]
def d9_1 : Dom := [(0, 20)]
def d9_2 : Dom := [(0, 1200)]
def d9_3 : Dom := [(0, 1000000000)]
def d9_4 : Dom := [(0, 7)]
def d9_5 : Dom := [(0, 19)]
def d9_6 : Dom := [(0, 9600)]
def d9_7 : Dom := [(0, 8)]
def d9_8 : Dom := [(0, 5)]
def d9_9 : Dom := [(0, 3)]
def d9_10 : Dom := [(0, 1)]
def d9_11 : Dom := [(0, 10)]
def d9_12 : Dom := [(0, 40)]
def d9_13 : Dom := [(0, 39)]
def d9_14 : Dom := [(0, 60)]
def d9_15 : Dom := [(0, 6)]
def d9_16 : Dom := [(0, 240)]
def d9_17 : Dom := [(0, 30)]
def d9_18 : Dom := [(0, 255)]
def d9_19 : Dom := [(0, 15)]
def d9_20 : Dom := [(0, 16)]
def d9_21 : Dom := [(0, 12)]
def d9_22 : Dom := [(0, 11)]
def d9_23 : Dom := [(0, 1301)]
def d9_24 : Dom := [(0, 1300)]
def v9_0 : AV := .inl (0, 0)
def v9_1 : AV := .inl (1, 0)
def v9_2 : AV := .inl (2, 0)
def v9_3 : AV := .inl (3, 0)
def v9_4 : AV := .inl (4, 0)
def v9_5 : AV := .inl (5, 0)
def v9_6 : AV := .inl (6, 0)
def v9_7 : AV := .inl (7, 0)
def v9_8 : AV := .inl (8, 0)
def v9_9 : AV := .inl (9, 0)
def v9_10 : AV := .inl (10, 0)
def v9_11 : AV := .inl (11, 0)
def v9_12 : AV := .inl (12, 0)
def v9_13 : AV := .inl (13, 0)
def v9_14 : AV := .inl (14, 0)
def v9_15 : AV := .inl (15, 0)
def v9_16 : AV := .inl (16, 0)
def v9_17 : AV := .inl (17, 0)
def v9_18 : AV := .inl (18, 0)
def v9_19 : AV := .inl (19, 0)
def v9_20 : AV := .inl (20, 0)
def v9_21 : AV := .inl (21, 0)
def v9_22 : AV := .inl (22, 0)
def v9_23 : AV := .inl (23, 0)
def v9_24 : AV := .inl (24, 0)
def v9_25 : AV := .inl (25, 0)
def v9_26 : AV := .inl (26, 0)
def v9_27 : AV := .inl (27, 0)
def v9_28 : AV := .inl (28, 0)
def v9_29 : AV := .inl (29, 0)
def v9_30 : AV := .inl (30, 0)
def v9_31 : AV := .inl (31, 0)
def v9_32 : AV := .inl (32, 0)
def v9_33 : AV := .inl (33, 0)
def v9_34 : AV := .inl (34, 0)
def v9_35 : AV := .inl (35, 0)
def v9_36 : AV := .inl (36, 0)
def v9_37 : AV := .inl (37, 0)
def v9_38 : AV := .inl (38, 0)
def v9_39 : AV := .inl (39, 0)
def v9_40 : AV := .inl (40, 0)
def v9_41 : AV := .inl (41, 0)
def v9_42 : AV := .inl (42, 0)
def v9_43 : AV := .inl (43, 0)
def v9_44 : AV := .inl (44, 0)
def v9_45 : AV := .inl (45, 0)
def v9_46 : AV := .inl (46, 0)
def v9_47 : AV := .inl (47, 0)
def v9_48 : AV := .inl (48, 0)
def v9_49 : AV := .inl (49, 0)
def v9_50 : AV := .inl (50, 0)
def v9_51 : AV := .inl (51, 0)
def v9_52 : AV := .inl (52, 0)
def v9_53 : AV := .inl (53, 0)
def v9_54 : AV := .inl (54, 0)
def v9_55 : AV := .inl (55, 0)
def v9_56 : AV := .inl (56, 0)
def v9_57 : AV := .inl (57, 0)
def v9_58 : AV := .inl (58, 0)
def v9_59 : AV := .inl (59, 0)
def v9_60 : AV := .inl (60, 0)
def v9_61 : AV := .inl (61, 0)
def v9_62 : AV := .inl (62, 0)
def v9_63 : AV := .inl (63, 0)
def c9_0 : AV := .inr (.inl 0)
def c9_1 : AV := .inr (.inl 1)
def c9_2 : AV := .inr (.inl 2)
def c9_3 : AV := .inr (.inl 3)
def c9_4 : AV := .inr (.inl 4)
def c9_5 : AV := .inr (.inl 5)
def c9_6 : AV := .inr (.inl 6)
def c9_7 : AV := .inr (.inl 7)
def c9_8 : AV := .inr (.inl 8)
def c9_9 : AV := .inr (.inl 9)
def c9_10 : AV := .inr (.inl 10)
def c9_11 : AV := .inr (.inl 11)
def c9_12 : AV := .inr (.inl 12)
def c9_13 : AV := .inr (.inl 13)
def c9_14 : AV := .inr (.inl 14)
def c9_15 : AV := .inr (.inl 15)
def c9_16 : AV := .inr (.inl 16)
def c9_17 : AV := .inr (.inl 17)
def c9_18 : AV := .inr (.inl 18)
def c9_19 : AV := .inr (.inl 19)
def c9_20 : AV := .inr (.inl 20)
def c9_21 : AV := .inr (.inl 21)
def c9_22 : AV := .inr (.inl 22)
def c9_23 : AV := .inr (.inl 23)
def c9_24 : AV := .inr (.inl 24)
def c9_25 : AV := .inr (.inl 25)
def c9_26 : AV := .inr (.inl 26)
def c9_27 : AV := .inr (.inl 27)
def c9_28 : AV := .inr (.inl 28)
def c9_29 : AV := .inr (.inl 29)
def c9_30 : AV := .inr (.inl 30)
def c9_31 : AV := .inr (.inl 31)
def c9_32 : AV := .inr (.inl 32)
def c9_33 : AV := .inr (.inl 33)
def c9_34 : AV := .inr (.inl 34)
def c9_35 : AV := .inr (.inl 35)
def c9_36 : AV := .inr (.inl 36)
def c9_37 : AV := .inr (.inl 37)
def c9_38 : AV := .inr (.inl 38)
def c9_39 : AV := .inr (.inl 39)
def T_fi : BT Dom := [(17408, [(1, d9_2), (2, d9_3), (5, d9_12), (7, [(0, 300)]), (5120, d9_1), (5121, d9_20), (5122, [(0, 201)]), (10240, [(1, 40)]), (17408, d9_7)]), (27654, [(17417, d9_2), (17421, [(0, 1201)]), (17422, d9_2), (17423, d9_6), (17424, d9_2), (27651, d9_5), (27652, T32), (27653, d9_13), (27654, T32)]), (34821, [(27655, T32), (27658, [(0, 64)]), (27660, [(0, 64)]), (27661, T32), (27664, d9_10), (27666, d9_10), (27667, d9_1), (34817, d9_1), (34821, [((-4), (-4)), (0, 19)])]), (53258, [(34822, d9_7), (41985, [(0, 4)]), (41996, d9_9), (41997, T32), (41998, T32), (53249, d9_14), (53253, d9_14), (53257, [(0, 576)]), (53258, d9_10)]), (112643, [(60417, d9_14), (60427, d9_14), (71686, d9_1), (100352, d9_15), (100354, d9_21), (100364, d9_1), (112640, d9_3), (112641, d9_2), (112643, [(0, 300)])]), (112670, [(112646, d9_1), (112647, d9_20), (112648, [(0, 201)]), (112660, [(1, 40)]), (112666, d9_10), (112667, d9_2), (112668, d9_8), (112669, d9_2), (112670, T32)]), (112701, [(112672, d9_7), (112686, [(0, 10400)]), (112692, [(0, 23)]), (112696, d9_24), (112697, d9_1), (112698, [((-1), 1200)]), (112699, d9_19), (112700, d9_10), (112701, d9_10)]), (112715, [(112704, d9_24), (112705, d9_9), (112706, [((-4), (-4)), (0, 29)]), (112707, T32), (112708, T32), (112709, d9_10), (112711, d9_12), (112714, d9_10), (112715, d9_1)]), (112752, [(112717, d9_1), (112721, [((-4), (-4)), (0, 19)]), (112722, d9_7), (112725, [(0, 4)]), (112735, T32), (112736, d9_14), (112747, d9_14), (112749, d9_14), (112752, [(0, 600)])]), (112790, [(112757, d9_10), (112758, d9_14), (112774, [(0, 161)]), (112776, d9_15), (112778, d9_21), (112788, d9_1), (112790, d9_10)])]
def T_ai : BT Dom := [(18, [(1, d9_18), (2, T32), (3, d9_4), (7, d9_9), (8, d9_1), (11, [((-4), (-4)), (0, 39)]), (12, [((-4), (-4)), (0, 19)]), (13, d9_10), (14, d9_10), (15, T32), (16, T32), (18, d9_9)]), (36, [(19, d9_17), (21, [(0, 25)]), (23, d9_18), (24, d9_8), (25, d9_2), (29, d9_10), (30, [(0, 2)]), (31, T32), (32, T32), (33, T32), (35, [(0, 4)]), (36, d9_19)]), (49, [(37, [(0, 24)]), (38, d9_5), (39, T32), (40, T32), (42, d9_7), (43, d9_19), (44, [((-4), (-4)), (0, 19)]), (45, d9_21), (46, [(0, 2)]), (47, T32), (48, T32), (49, T32)]), (65, [(50, T32), (51, T32), (54, d9_10), (55, [(0, 59)]), (56, d9_19), (57, d9_19), (60, d9_18), (61, d9_8), (62, [(0, 9)]), (63, T32), (64, T32), (65, T32)]), (102, [(66, T32), (67, T32), (68, d9_0), (69, [(0, 59)]), (72, T32), (73, d9_12), (74, d9_19), (96, d9_5), (99, [(0, 65535)]), (100, d9_8), (101, d9_21), (102, [(0, 4)])]), (115, [(103, T32), (104, T32), (105, d9_22), (106, d9_21), (107, [(0, 4)]), (108, T32), (109, T32), (111, d9_18), (112, T32), (113, T32), (114, [(0, 115)]), (115, d9_19)]), (129, [(116, T32), (117, T32), (118, T32), (119, T32), (120, d9_10), (121, d9_9), (122, d9_1), (125, [((-4), (-4)), (0, 39)]), (126, [((-4), (-4)), (0, 19)]), (127, d9_10), (128, d9_10), (129, d9_10)]), (141, [(130, d9_9), (131, d9_17), (132, [((-1), 2)]), (133, [((-1), 3)]), (134, T32), (135, [((-1), 6)]), (136, [((-1), 2)]), (137, T32), (138, T32), (139, [(0, 10400)]), (140, [(0, 10400)]), (141, [(0, 18)])]), (155, [(143, d9_9), (144, d9_10), (145, [(0, 2)]), (146, d9_24), (147, d9_19), (148, [(0, 0), (7, 13), (16, 18)]), (149, T32), (150, T32), (151, d9_8), (153, T32), (154, T32), (155, d9_4)]), (167, [(156, T32), (157, [(0, 4)]), (158, d9_19), (159, [(0, 24)]), (160, d9_5), (161, d9_10), (162, d9_7), (163, d9_19), (164, [((-4), (-4)), (0, 19)]), (165, T32), (166, d9_21), (167, [(0, 2)])]), (179, [(168, T32), (169, T32), (170, [((-4), (-4)), (0, 19)]), (171, d9_5), (172, d9_5), (173, d9_8), (174, d9_13), (175, T32), (176, d9_1), (177, T32), (178, d9_10), (179, d9_10)]), (191, [(180, [(0, 59)]), (181, [(0, 59)]), (182, d9_19), (183, d9_19), (184, d9_22), (185, d9_22), (186, d9_19), (187, d9_18), (188, d9_8), (189, [(0, 9)]), (190, T32), (191, T32)]), (205, [(192, T32), (193, T32), (194, T32), (195, d9_0), (196, [(0, 59)]), (198, T32), (199, d9_12), (200, d9_10), (201, d9_10), (202, T32), (204, [(0, 65535)]), (205, d9_8)]), (214, [(206, d9_21), (207, [(0, 4)]), (208, T32), (209, T32), (210, d9_22), (211, d9_21), (212, [(0, 4)]), (213, T32), (214, T32)])]
def T_co : BT (Nat × List Dom) := [(6, [(4, (7, [T32, T32, T32, T32, T32, T32, T32])), (6, (6, [[(0, 115)], d9_19, T32, T32, T32, T32]))]), (53, [(20, (9, [[(0, 2)], d9_9, T32, d9_15, [(0, 2)], d9_13, d9_6, d9_6, T32])), (53, (8, [d9_5, d9_5, d9_8, d9_13, T32, d9_1, T32, d9_10]))]), (58, [(58, (3, [d9_22, d9_22, d9_19]))])]
def T_rl : BT (Nat × Nat) := [(26, [(21, (3, 0)), (22, (3, 1)), (24, (11, 0)), (25, (11, 1)), (26, (11, 2))]), (63, [(46, (0, 0)), (47, (0, 1)), (48, (0, 2)), (61, (1, 0)), (63, (1, 1))]), (134, [(64, (1, 2)), (102, (2, 0)), (103, (2, 1)), (133, (9, 0)), (134, (9, 1))]), (157, [(136, (8, 0)), (137, (8, 1)), (141, (10, 0)), (142, (10, 1)), (157, (4, 0))]), (188, [(159, (4, 1)), (167, (5, 0)), (168, (5, 1)), (169, (5, 2)), (188, (6, 0))]), (208, [(190, (6, 1)), (191, (6, 2)), (207, (7, 0)), (208, (7, 1))])]
def T_rs : List Rl1 := [(48, ([(46, false), (47, false), (48, false)], [[d9_10, d9_4, d9_4], [[(2, 2)], [(1, 8)], T32]])), (60, ([(61, false), (63, false), (64, false)], [[[(0, 0)], [(0, 9)], [(0, 9)]], [[(1, 1)], T32, T32], [[(2, 2), (5, 5)], d9_1, T32], [[(3, 3)], [(10, 13)], T32], [[(4, 4)], [(0, 9)], d9_4]])), (144, ([(102, false), (103, false)], [[[(0, 1), (3, 3)], d9_22], [[(2, 2)], [(0, 65535)]], [[(4, 4)], T32]])), (9600, ([(21, false), (22, true)], [[[(0, 3), (7, 12), (21, 23)], T64], [[(4, 6), (13, 20)], d9_19], [[(24, 25)], d9_6]])), (20, ([(157, false), (159, false)], [[[(0, 1), (3, 4)], d9_19], [[(2, 2)], [(0, 24)]]])), (48, ([(167, false), (168, false), (169, false)], [[d9_10, d9_4, d9_4], [[(2, 2)], [(1, 8)], T32]])), (60, ([(188, false), (190, false), (191, false)], [[[(0, 0)], [(0, 9)], [(0, 9)]], [[(1, 1)], T32, T32], [[(2, 2), (5, 5)], d9_1, T32], [[(3, 3)], [(10, 13)], T32], [[(4, 4)], [(0, 9)], d9_4]])), (144, ([(207, false), (208, false)], [[[(0, 1), (3, 3)], d9_22], [[(2, 2)], [(0, 65535)]], [[(4, 4)], T32]])), (240, ([(136, false), (137, false)], [[[((-1), 0)], T32], [[(1, 2)], d9_13]])), (240, ([(133, false), (134, false)], [[[((-1), 0), (2, 3)], T32], [[(1, 1)], d9_19]])), (10400, ([(141, false), (142, true)], [[[(0, 3), (7, 13), (16, 18)], T64], [[(4, 6), (14, 15)], d9_19]])), (1201, ([(24, false), (25, false), (26, true)], [[[(1, 1)], [(0, 1199)], [(1, 1200)]], [[(0, 0), (2, 5)], d9_2, T64]]))]
def TJ : Jx := (T_fi, (T_ai, (T_co, (T_rl, T_rs))))
theorem TJ_wf : TJ.wf = true := by decide +kernel
end
end
