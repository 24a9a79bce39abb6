section
noncomputable section
/-! ===== WHAT ELSE HOLDS, 35: labels: what the reference shows is its own where it is labelled, else 255; 590 the open place, 591 what the class holds there, 592 what the reference shows there; 593: not labelled, 255 below; hints 140 .. 142 ===== -/
def eff9 (kM kF jF : Nat) (σ : zS) (i : Nat) : Int := if (σ.1 kF jF).toInt = 1 then (σ.1 kM i).toInt else 255
def yS9 (kL kM kF jF : Nat) (H : List (Nat × Int)) (σ : zS) : Prop :=
  (∀ i : Nat, i < 14 → lk H 590 ≠ some (i : Int) → (σ.1 kL i).toInt = eff9 kM kF jF σ i) ∧
  (∀ p, lk H 590 = some p → ∃ i : Nat, p = (i : Int) ∧ i < 14 ∧ (∀ c, lk H 591 = some c → (σ.1 kL i).toInt = c) ∧ ∀ v, lk H 592 = some v → eff9 kM kF jF σ i = v) ∧
  ∀ n, lk H 593 = some n → (σ.1 kF jF).toInt = 0 ∧ ∀ i : Nat, (i : Int) < n → i < 14 → (σ.1 kM i).toInt = 255
def ytg (t : Nat) : Bool := Nat.ble 590 t && Nat.ble t 593
theorem ytg_no {u : Nat} (h : ytg u = false) : ¬ (590 ≤ u ∧ u ≤ 593) := fun q => by
  have : ytg u = true := by
    show (Nat.ble 590 u && Nat.ble u 593) = true
    rw [Bool.and_eq_true]
    exact ⟨Nat.ble_eq_true_of_le q.1, Nat.ble_eq_true_of_le q.2⟩
  rw [this] at h
  cases h
def ywE (s : Sy) (hl : List (Nat × AV)) (v : AV) : Option (List (Nat × AV)) := match lk hl 593 with
  | some n => bif leAV s (.c 14) n && eqA s v (.c 1) then some (hdel 593 hl) else none
  | none => none
def ywF (kF jF : Nat) (s : Sy) (hl : List (Nat × AV)) (v : AV) : Option (List (Nat × AV)) := match mget s.me kF (.c (jF : Int)) with
  | some b => bif (b.isI && eqA s b (.c 1)) && eqA s v (.c 1) then some hl else ywE s hl v
  | none => ywE s hl v
def ywL (kL : Nat) (s : Sy) (hl : List (Nat × AV)) (p v : AV) : Option (List (Nat × AV)) := match lk hl 590 with
  | some x => bif eqA s x p then some (hset 591 v hl) else none
  | none => match mget s.me kL p with
    | some w => bif w.isI then some (hset 590 p (hset 591 v (hset 592 w hl))) else none
    | none => none
def ywM (kF jF : Nat) (s : Sy) (hl : List (Nat × AV)) (p v : AV) : Option (List (Nat × AV)) := match mget s.me kF (.c (jF : Int)) with
  | some b => bif b.isI then (bif eqA s b (.c 0) then (bif !(isS (lk hl 593)) || eqA s v (.c 255) then some hl else none) else bif eqA s b (.c 1) && !(isS (lk hl 593)) then (match lk hl 590 with
    | some x => match lk hl 591 with
      | some c => bif eqA s x p && eqA s v c then some (hdel 590 (hdel 591 (hdel 592 hl))) else none
      | none => none
    | none => none) else none) else none
  | none => none
def yw9 (kL kF jF : Nat) (s : Sy) (hl : List (Nat × AV)) (k : Nat) (p v : AV) : Option (List (Nat × AV)) :=
  bif Nat.beq k kF then (match p with
    | .inr (.inl (.ofNat j)) => bif Nat.beq j jF then ywF kF jF s hl v else some hl
    | _ => none)
  else bif p.isI && (leAV s (.c 0) p && leAV s p (.c 13)) then (bif Nat.beq k kL then ywL kL s hl p v else ywM kF jF s hl p v) else none
def cy9 (kL kM kF jF : Nat) : Cp := (ytg, (yS9 kL kM kF jF, (fun q => Nat.beq q kL || (Nat.beq q kM || Nat.beq q kF), (fun s hl k p v => yw9 kL kF jF s hl k p v, nlw))))
theorem cy9_ok {T : Jx} {G : Gl} {kL kM kF jF : Nat} (d1 : kL ≠ kM) (d2 : kL ≠ kF) (d3 : kM ≠ kF) : CpOk T G (cy9 kL kM kF jF) := by
  apply CpOk.no (fun _ => rfl)
  have tin : ∀ u, 590 ≤ u → u ≤ 593 → ytg u = true := fun u h1 h2 => by
    show (Nat.ble 590 u && Nat.ble u 593) = true
    rw [Bool.and_eq_true]
    exact ⟨Nat.ble_eq_true_of_le h1, Nat.ble_eq_true_of_le h2⟩
  refine ⟨fun u hu => ?_, fun H H' σ σ' h1 h2 hS => ?_, ?_⟩
  · have hu : (Nat.ble 590 u && Nat.ble u 593) = true := hu
    rw [Bool.and_eq_true] at hu
    have := Nat.le_of_ble_eq_true hu.1
    omega
  · have r1 : σ'.1 kL = σ.1 kL := h2 kL (by show (Nat.beq kL kL || (Nat.beq kL kM || Nat.beq kL kF)) = true; rw [Nat.beq_refl]; rfl)
    have r2 : σ'.1 kM = σ.1 kM := h2 kM (by show (Nat.beq kM kL || (Nat.beq kM kM || Nat.beq kM kF)) = true; rw [Nat.beq_refl, Bool.true_or, Bool.or_true])
    have r3 : σ'.1 kF = σ.1 kF := h2 kF (by show (Nat.beq kF kL || (Nat.beq kF kM || Nat.beq kF kF)) = true; rw [Nat.beq_refl, Bool.or_true, Bool.or_true])
    have l : ∀ u, 590 ≤ u → u ≤ 593 → lk H' u = lk H u := fun u a b => h1 u (tin u a b)
    show yS9 kL kM kF jF H' σ'
    unfold yS9 eff9
    rw [r1, r2, r3, l 590 (by omega) (by omega), l 591 (by omega) (by omega), l 592 (by omega) (by omega), l 593 (by omega) (by omega)]
    exact hS
  · intro s ρ σ k p v j x hl hl' H ho hb hp hi hv hx hr hw hh hS
    replace hw : yw9 kL kF jF s hl k p v = some hl' := hw
    replace hS : yS9 kL kM kF jF H σ := hS
    obtain ⟨s1, s2, s3⟩ := hS
    have tg : ∀ {t : Nat} {a : AV}, lk hl t = some a → ∃ z, lk H t = some z ∧ ev ρ a = some z := fun {t a} h => by
      rcases hh.lkp (t := t) with ⟨q, _⟩ | ⟨a', z, q, q', q''⟩
      · rw [h] at q; cases q
      · rw [h] at q; cases Option.some.inj q; exact ⟨z, q', q''⟩
    have no : ∀ {t : Nat}, lk hl t = none → lk H t = none := fun {t} h => by
      rcases hh.lkp (t := t) with ⟨_, q⟩ | ⟨a', z, q, _, _⟩
      · exact q
      · rw [h] at q; cases q
    unfold yw9 at hw
    cases e1 : Nat.beq k kF with
    | true =>
      have ek := Nat.eq_of_beq_eq_true e1
      subst ek
      rw [e1] at hw
      simp only [cond_true] at hw
      split at hw
      · rename_i j0
        have ej : j0 = j := by
          have : ((j0 : Nat) : Int) = (j : Int) := Option.some.inj hp
          omega
        subst ej
        have nL : ∀ i, (zI σ k j0 x).1 kL i = σ.1 kL i := fun i => zI_ne (by rintro ⟨e, _⟩; exact d2 e)
        have nM : ∀ i, (zI σ k j0 x).1 kM i = σ.1 kM i := fun i => zI_ne (by rintro ⟨e, _⟩; exact d3 e)
        cases e2 : Nat.beq j0 jF with
        | false =>
          have nj : j0 ≠ jF := beq_ne e2
          rw [e2] at hw
          cases Option.some.inj hw
          have nF : (zI σ k j0 x).1 k jF = σ.1 k jF := zI_ne (by rintro ⟨_, e⟩; exact nj e.symm)
          have ne : ∀ i, eff9 kM k jF (zI σ k j0 x) i = eff9 kM k jF σ i := fun i => by unfold eff9; rw [nF, nM]
          exact ⟨H, hh, ⟨fun i a b => by rw [nL, ne]; exact s1 i a b, fun q a => by
            obtain ⟨i, b1, b2, b3, b4⟩ := s2 q a
            exact ⟨i, b1, b2, fun c h => by rw [nL]; exact b3 c h, fun w h => by rw [ne]; exact b4 w h⟩, fun n a => by
            obtain ⟨b1, b2⟩ := s3 n a
            exact ⟨by rw [nF]; exact b1, fun i c d => by rw [nM]; exact b2 i c d⟩⟩, fun _ _ => rfl⟩
        | true =>
          have ej := Nat.eq_of_beq_eq_true e2
          subst ej
          rw [e2] at hw
          simp only [cond_true] at hw
          have nF : ((zI σ k j0 x).1 k j0).toInt = x.toInt := by rw [zI_at]
          have endd : ywE s hl v = some hl' → ∃ H', Hl ρ hl' H' ∧ yS9 kL kM k j0 H' (zI σ k j0 x) ∧ ∀ t, ytg t = false → lk H' t = lk H t := fun hw => by
            unfold ywE at hw
            split at hw
            · rename_i n qn
              cases e3 : leAV s (.c 14) n && eqA s v (.c 1) with
              | false => rw [e3] at hw; cases hw
              | true =>
                rw [e3] at hw
                cases Option.some.inj hw
                rw [Bool.and_eq_true] at e3
                obtain ⟨zn, n1, n2⟩ := tg qn
                have g1 := leAV_ok ho e3.1 (x := 14) rfl n2
                have g2 := eqA_ok ho e3.2 hx (y := 1) rfl
                obtain ⟨f1, f2⟩ := s3 zn n1
                have ne : ∀ i, i < 14 → eff9 kM k j0 (zI σ k j0 x) i = eff9 kM k j0 σ i := fun i h => by
                  unfold eff9
                  rw [nF, g2, if_pos rfl, if_neg (by omega), nM]
                  exact f2 i (by omega) h
                have ln : ∀ t, t ≠ 593 → lk (hdel 593 H) t = lk H t := fun t h => by rw [lk_hdel, if_neg h]
                refine ⟨hdel 593 H, hh.del, ⟨fun i a b => ?_, fun q a => ?_, fun n' a => ?_⟩, fun t ht => ln t (fun e => ytg_no ht (by omega))⟩
                · rw [ln 590 (by decide)] at b
                  rw [nL, ne i a]
                  exact s1 i a b
                · rw [ln 590 (by decide)] at a
                  obtain ⟨i, b1, b2, b3, b4⟩ := s2 q a
                  exact ⟨i, b1, b2, fun c h => by rw [ln 591 (by decide)] at h; rw [nL]; exact b3 c h, fun w h => by rw [ln 592 (by decide)] at h; rw [ne i b2]; exact b4 w h⟩
                · rw [lk_hdel, if_pos rfl] at a; cases a
            · cases hw
          unfold ywF at hw
          split at hw
          · rename_i b hbm
            cases e3 : (b.isI && eqA s b (.c 1)) && eqA s v (.c 1) with
            | false => rw [e3] at hw; exact endd hw
            | true =>
              rw [e3] at hw
              cases Option.some.inj hw
              simp only [Bool.and_eq_true] at e3
              have g1 := eqA_ok ho e3.1.2 (me_at ho hbm rfl e3.1.1) (y := 1) rfl
              have g2 := eqA_ok ho e3.2 hx (y := 1) rfl
              have ne : ∀ i, eff9 kM k j0 (zI σ k j0 x) i = eff9 kM k j0 σ i := fun i => by
                unfold eff9
                rw [nF, g2, g1, if_pos rfl, if_pos rfl, nM]
              exact ⟨H, hh, ⟨fun i a b => by rw [nL, ne]; exact s1 i a b, fun q a => by
                obtain ⟨i, b1, b2, b3, b4⟩ := s2 q a
                exact ⟨i, b1, b2, fun c h => by rw [nL]; exact b3 c h, fun w h => by rw [ne]; exact b4 w h⟩, fun n a => by
                obtain ⟨b1, _⟩ := s3 n a
                omega⟩, fun _ _ => rfl⟩
          · exact endd hw
      · cases hw
    | false =>
      have nkF : k ≠ kF := beq_ne e1
      rw [e1] at hw
      simp only [cond_false] at hw
      have nF : (zI σ k j x).1 kF jF = σ.1 kF jF := zI_ne (by rintro ⟨e, _⟩; exact nkF e.symm)
      cases e2 : p.isI && (leAV s (.c 0) p && leAV s p (.c 13)) with
      | false => rw [e2] at hw; cases hw
      | true =>
        rw [e2] at hw
        simp only [cond_true] at hw
        simp only [Bool.and_eq_true] at e2
        have hj := leAV_ok ho e2.2.2 hp (y := 13) rfl
        cases e3 : Nat.beq k kL with
        | true =>
          have ek := Nat.eq_of_beq_eq_true e3
          subst ek
          rw [e3] at hw
          simp only [cond_true] at hw
          have nM : ∀ i, (zI σ k j x).1 kM i = σ.1 kM i := fun i => zI_ne (by rintro ⟨e, _⟩; exact d1 e.symm)
          have ne : ∀ i, eff9 kM kF jF (zI σ k j x) i = eff9 kM kF jF σ i := fun i => by unfold eff9; rw [nF, nM]
          have nL : ∀ i, i ≠ j → (zI σ k j x).1 k i = σ.1 k i := fun i h => zI_ne (by rintro ⟨_, e⟩; exact h e)
          unfold ywL at hw
          split at hw
          · rename_i y qy
            cases e4 : eqA s y p with
            | false => rw [e4] at hw; cases hw
            | true =>
              rw [e4] at hw
              cases Option.some.inj hw
              obtain ⟨zy, y1, y2⟩ := tg qy
              have ey := eqA_ok ho e4 y2 hp
              have l0 : ∀ t, t ≠ 591 → lk (hset 591 x.toInt H) t = lk H t := fun t h => by rw [lk_hset, if_neg h]
              refine ⟨hset 591 x.toInt H, hh.set hx, ⟨fun i a b => ?_, fun q a => ?_, fun n a => ?_⟩, fun t ht => l0 t (fun e => ytg_no ht (by omega))⟩
              · rw [l0 590 (by decide)] at b
                have ni : i ≠ j := fun e => b (by rw [y1, ey, e])
                rw [nL i ni, ne]
                exact s1 i a b
              · rw [l0 590 (by decide)] at a
                obtain ⟨i, b1, b2, b3, b4⟩ := s2 q a
                rw [y1] at a
                have eq := Option.some.inj a
                have ei : i = j := by omega
                subst ei
                refine ⟨i, b1, b2, fun c h => ?_, fun w h => ?_⟩
                · rw [lk_hset, if_pos rfl] at h
                  rw [zI_at]
                  exact Option.some.inj h
                · rw [l0 592 (by decide)] at h
                  rw [ne]
                  exact b4 w h
              · rw [l0 593 (by decide)] at a
                obtain ⟨b1, b2⟩ := s3 n a
                exact ⟨by rw [nF]; exact b1, fun i c d => by rw [nM]; exact b2 i c d⟩
          · rename_i qy
            have h590 := no qy
            split at hw
            · rename_i w hm
              cases e4 : w.isI with
              | false => rw [e4] at hw; cases hw
              | true =>
                rw [e4] at hw
                cases Option.some.inj hw
                have ew := me_at ho hm hp e4
                have l0 : ∀ t, t ≠ 590 → t ≠ 591 → t ≠ 592 → lk (hset 590 (j : Int) (hset 591 x.toInt (hset 592 (σ.1 k j).toInt H))) t = lk H t := fun t h0 h1 h2 => by rw [lk_hset, if_neg h0, lk_hset, if_neg h1, lk_hset, if_neg h2]
                refine ⟨hset 590 (j : Int) (hset 591 x.toInt (hset 592 (σ.1 k j).toInt H)), ((hh.set ew).set hx).set hp, ⟨fun i a b => ?_, fun q a => ?_, fun n a => ?_⟩, fun t ht => l0 t (fun e => ytg_no ht (by omega)) (fun e => ytg_no ht (by omega)) (fun e => ytg_no ht (by omega))⟩
                · have ni : i ≠ j := fun e => b (by rw [lk_hset, if_pos rfl, e])
                  rw [nL i ni, ne]
                  exact s1 i a (by rw [h590]; exact fun q => by cases q)
                · rw [lk_hset, if_pos rfl] at a
                  refine ⟨j, (Option.some.inj a).symm, by omega, fun c h => ?_, fun w' h => ?_⟩
                  · rw [lk_hset, if_neg (by decide), lk_hset, if_pos rfl] at h
                    rw [zI_at]
                    exact Option.some.inj h
                  · rw [lk_hset, if_neg (by decide), lk_hset, if_neg (by decide), lk_hset, if_pos rfl] at h
                    rw [ne, ← Option.some.inj h]
                    exact (s1 j (by omega) (by rw [h590]; exact fun q => by cases q)).symm
                · rw [l0 593 (by decide) (by decide) (by decide)] at a
                  obtain ⟨b1, b2⟩ := s3 n a
                  exact ⟨by rw [nF]; exact b1, fun i c d => by rw [nM]; exact b2 i c d⟩
            · cases hw
        | false =>
          have nkL : k ≠ kL := beq_ne e3
          have ek : k = kM := by
            have hr : (Nat.beq k kL || (Nat.beq k kM || Nat.beq k kF)) = true := hr
            rw [e3, e1, Bool.false_or, Bool.or_false] at hr
            exact Nat.eq_of_beq_eq_true hr
          subst ek
          rw [e3] at hw
          simp only [cond_false] at hw
          have nL : ∀ i, (zI σ k j x).1 kL i = σ.1 kL i := fun i => zI_ne (by rintro ⟨e, _⟩; exact d1 e)
          have nM : ∀ i, i ≠ j → (zI σ k j x).1 k i = σ.1 k i := fun i h => zI_ne (by rintro ⟨_, e⟩; exact h e)
          unfold ywM at hw
          split at hw
          · rename_i b hbm
            cases e4 : b.isI with
            | false => rw [e4] at hw; cases hw
            | true =>
              rw [e4] at hw
              simp only [cond_true] at hw
              have eb := me_at ho hbm rfl e4
              cases e5 : eqA s b (.c 0) with
              | true =>
                rw [e5] at hw
                simp only [cond_true] at hw
                have g0 := eqA_ok ho e5 eb (y := 0) rfl
                cases e6 : !(isS (lk hl 593)) || eqA s v (.c 255) with
                | false => rw [e6] at hw; cases hw
                | true =>
                  rw [e6] at hw
                  cases Option.some.inj hw
                  have ne : ∀ i, eff9 k kF jF (zI σ k j x) i = eff9 k kF jF σ i := fun i => by
                    unfold eff9
                    rw [nF, if_neg (by omega), if_neg (by omega)]
                  refine ⟨H, hh, ⟨fun i a c => by rw [nL, ne]; exact s1 i a c, fun q a => ?_, fun n a => ?_⟩, fun _ _ => rfl⟩
                  · obtain ⟨i, b1, b2, b3, b4⟩ := s2 q a
                    exact ⟨i, b1, b2, fun c h => by rw [nL]; exact b3 c h, fun w h => by rw [ne]; exact b4 w h⟩
                  · obtain ⟨b1, b2⟩ := s3 n a
                    refine ⟨by rw [nF]; exact b1, fun i c d => ?_⟩
                    by_cases ei : i = j
                    · subst ei
                      rw [zI_at]
                      rw [Bool.or_eq_true] at e6
                      rcases e6 with e6 | e6
                      · cases h593 : lk hl 593 with
                        | none => rw [no h593] at a; cases a
                        | some y => rw [h593] at e6; cases e6
                      · exact eqA_ok ho e6 hx (y := 255) rfl
                    · rw [nM i ei]; exact b2 i c d
              | false =>
                rw [e5] at hw
                simp only [cond_false] at hw
                cases e6 : eqA s b (.c 1) && !(isS (lk hl 593)) with
                | false => rw [e6] at hw; cases hw
                | true =>
                  rw [e6] at hw
                  simp only [cond_true] at hw
                  rw [Bool.and_eq_true] at e6
                  have g1 := eqA_ok ho e6.1 eb (y := 1) rfl
                  have h593 : lk H 593 = none := by
                    cases h9 : lk hl 593 with
                    | none => exact no h9
                    | some y => rw [h9] at e6; cases e6.2
                  split at hw
                  · rename_i y qy
                    split at hw
                    · rename_i c qc
                      cases e7 : eqA s y p && eqA s v c with
                      | false => rw [e7] at hw; cases hw
                      | true =>
                        rw [e7] at hw
                        cases Option.some.inj hw
                        rw [Bool.and_eq_true] at e7
                        obtain ⟨zy, y1, y2⟩ := tg qy
                        obtain ⟨zc, c1, c2⟩ := tg qc
                        have ey := eqA_ok ho e7.1 y2 hp
                        have ec := eqA_ok ho e7.2 hx c2
                        obtain ⟨i0, b1, b2, b3, b4⟩ := s2 zy y1
                        have ei : i0 = j := by omega
                        subst ei
                        have ef : ∀ i, eff9 k kF jF (zI σ k i0 x) i = ((zI σ k i0 x).1 k i).toInt := fun i => by
                          unfold eff9
                          rw [nF, if_pos g1]
                        have l0 : ∀ t, t ≠ 590 → t ≠ 591 → t ≠ 592 → lk (hdel 590 (hdel 591 (hdel 592 H))) t = lk H t := fun t h0 h1 h2 => by rw [lk_hdel, if_neg h0, lk_hdel, if_neg h1, lk_hdel, if_neg h2]
                        refine ⟨hdel 590 (hdel 591 (hdel 592 H)), ((hh.del).del).del, ⟨fun i a _ => ?_, fun q a => ?_, fun n a => ?_⟩, fun t ht => l0 t (fun e => ytg_no ht (by omega)) (fun e => ytg_no ht (by omega)) (fun e => ytg_no ht (by omega))⟩
                        · rw [nL, ef]
                          by_cases e8 : i = i0
                          · subst e8
                            rw [zI_at, b3 zc c1, ec]
                          · rw [nM i e8]
                            have := s1 i a (by rw [y1]; exact fun q => e8 (by have := Option.some.inj q; omega))
                            rw [this]
                            unfold eff9
                            rw [if_pos g1]
                        · rw [lk_hdel, if_pos rfl] at a; cases a
                        · rw [l0 593 (by decide) (by decide) (by decide), h593] at a; cases a
                    · cases hw
                  · cases hw
          · cases hw
section H37
variable {T : Jx} {G : Gl} {cs : List Cp} {s : Sy} {ρ : List Int} {σ : zS} {kL kM kF jF : Nat}
def h140 (kM kF jF : Nat) (a : AV) (s : Sy) : Sy := match mget s.me kF (.c (jF : Int)) with
  | some b => match lk s.hl 590 with
    | some x => match lk s.hl 592 with
      | some v => bif ((b.isI && eqA s b (.c 1)) && (v.isI && eqA s x a)) && (eqA s a (pl s a) && !(isS (mget s.me kM (pl s a)))) then s.add kM (pl s a) v else s
      | none => s
    | none => s
  | none => s
theorem h140_ok (hm : cy9 kL kM kF jF ∈ cs) {a : AV} {z : Int} (ha : ev ρ a = some z) (ho : Ok (Jf T G (cS cs)) s ρ σ) : Ok (Jf T G (cS cs)) (h140 kM kF jF a s) ρ σ := by
  unfold h140
  split
  · rename_i b hbm
    split
    · rename_i x qx
      split
      · rename_i v qv
        cases hc : ((b.isI && eqA s b (.c 1)) && (v.isI && eqA s x a)) && (eqA s a (pl s a) && !(isS (mget s.me kM (pl s a)))) with
        | false => exact ho
        | true =>
          simp only [Bool.and_eq_true] at hc
          obtain ⟨H, i1, i2⟩ := ho.inv
          obtain ⟨s1, s2, s3⟩ := (i2.2.2 _ hm : yS9 kL kM kF jF H σ)
          obtain ⟨zx, x1, x2⟩ := tag_get ho i1 qx
          obtain ⟨zv, v1, v2⟩ := tag_get ho i1 qv
          obtain ⟨i, b1, b2, b3, b4⟩ := s2 zx x1
          have g1 := eqA_ok ho hc.1.1.2 (me_at ho hbm rfl hc.1.1.1) (y := 1) rfl
          have ex := eqA_ok ho hc.1.2.2 x2 ha
          have e4 := b4 zv v1
          unfold eff9 at e4
          rw [if_pos g1] at e4
          obtain ⟨y, hy⟩ := pl_ev (s := s) ha
          have ey := eqA_ok ho hc.2.1 ha hy
          exact ho.addm ⟨i, by rw [hy]; exact congrArg some (by omega), Or.inl ⟨hc.1.2.1, by rw [v2, e4]⟩⟩
      · exact ho
    · exact ho
  · exact ho
def h141 (kF jF : Nat) (s : Sy) : Sy := match mget s.me kF (.c (jF : Int)) with
  | some b => bif (b.isI && eqA s b (.c 0)) && !(isS (lk s.hl 593)) then s.seth ((593, .c 0) :: s.hl) else s
  | none => s
theorem h141_ok (hP : PH T G cs (cy9 kL kM kF jF)) (ho : Ok (Jf T G (cS cs)) s ρ σ) : Ok (Jf T G (cS cs)) (h141 kF jF s) ρ σ := by
  unfold h141
  split
  · rename_i b hbm
    cases hc : (b.isI && eqA s b (.c 0)) && !(isS (lk s.hl 593)) with
    | false => exact ho
    | true =>
      simp only [Bool.and_eq_true] at hc
      obtain ⟨H, i1, i2⟩ := ho.inv
      obtain ⟨s1, s2, s3⟩ := (i2.2.2 _ hP.2.2.1 : yS9 kL kM kF jF H σ)
      have g0 := eqA_ok ho hc.1.2 (me_at ho hbm rfl hc.1.1) (y := 0) rfl
      have l0 : ∀ t, t ≠ 593 → lk ((593, (0 : Int)) :: H) t = lk H t := fun t h => by rw [lk_cons, if_neg h]
      refine ph_set (H := H) (H' := (593, 0) :: H) hP ho i2 ⟨⟨rfl, rfl⟩, i1⟩ (fun u hu => l0 u (fun e => ytg_no hu (by omega))) ⟨fun i a b => ?_, fun q a => ?_, fun n a => ?_⟩
      · rw [l0 590 (by decide)] at b
        exact s1 i a b
      · rw [l0 590 (by decide)] at a
        obtain ⟨i, b1, b2, b3, b4⟩ := s2 q a
        exact ⟨i, b1, b2, fun c h => b3 c (by rw [l0 591 (by decide)] at h; exact h), fun w h => b4 w (by rw [l0 592 (by decide)] at h; exact h)⟩
      · rw [lk_cons, if_pos rfl] at a
        have := Option.some.inj a
        exact ⟨g0, fun i c _ => by omega⟩
  · exact ho
def h142 (kM : Nat) (a : AV) (s : Sy) : Sy := match lk s.hl 593 with
  | some n => match oth s kM a with
    | some w => bif eqA s n a && eqA s w (.c 255) then s.seth (hup 593 (shA a 1) s.hl) else s
    | none => s
  | none => s
theorem h142_ok (hP : PH T G cs (cy9 kL kM kF jF)) {a : AV} {j : Nat} (ha : ev ρ a = some (j : Int)) (ho : Ok (Jf T G (cS cs)) s ρ σ) : Ok (Jf T G (cS cs)) (h142 kM a s) ρ σ := by
  unfold h142
  split
  · rename_i n qn
    split
    · rename_i w hw
      cases hc : eqA s n a && eqA s w (.c 255) with
      | false => exact ho
      | true =>
        rw [Bool.and_eq_true] at hc
        obtain ⟨H, i1, i2⟩ := ho.inv
        obtain ⟨s1, s2, s3⟩ := (i2.2.2 _ hP.2.2.1 : yS9 kL kM kF jF H σ)
        obtain ⟨zn, n1, n2⟩ := tag_get ho i1 qn
        have en := eqA_ok ho hc.1 n2 ha
        have ew := eqA_ok ho hc.2 (oth_ok ho hw ha).2 (y := 255) rfl
        obtain ⟨f1, f2⟩ := s3 zn n1
        refine ph_set hP ho i2 (i1.up (shA_ev ha)) (fun u hu => lk_hup_ne (fun e => ytg_no hu (by omega))) ⟨fun i a b => ?_, fun q a => ?_, fun n' a => ?_⟩
        · rw [lk_hup_ne (by decide)] at b
          exact s1 i a b
        · rw [lk_hup_ne (by decide)] at a
          obtain ⟨i, b1, b2, b3, b4⟩ := s2 q a
          exact ⟨i, b1, b2, fun c h => b3 c (by rw [lk_hup_ne (by decide)] at h; exact h), fun w' h => b4 w' (by rw [lk_hup_ne (by decide)] at h; exact h)⟩
        · rw [lk_hup_at n1] at a
          have e := Option.some.inj a
          refine ⟨f1, fun i c d => ?_⟩
          by_cases ei : i = j
          · rw [ei]; exact ew
          · exact f2 i (by omega) d
    · exact ho
  · exact ho
/-- 143: labelled, nothing open: what the class holds at a, the reference holds -/
def h143 (kL kM kF jF : Nat) (a : AV) (s : Sy) : Sy := match mget s.me kF (.c (jF : Int)) with
  | some b => match lk s.hl 590 with
    | some _ => s
    | none => match oth s kL a with
      | some w => bif ((b.isI && eqA s b (.c 1)) && (leAV s (.c 0) a && leAV s a (.c 13))) && (eqA s a (pl s a) && !(isS (mget s.me kM (pl s a)))) then s.add kM (pl s a) w else s
      | none => s
  | none => s
theorem h143_ok (hm : cy9 kL kM kF jF ∈ cs) {a : AV} {z : Int} (ha : ev ρ a = some z) (ho : Ok (Jf T G (cS cs)) s ρ σ) : Ok (Jf T G (cS cs)) (h143 kL kM kF jF a s) ρ σ := by
  unfold h143
  split
  · rename_i b hbm
    split
    · exact ho
    · rename_i qx
      split
      · rename_i w hw
        cases hc : ((b.isI && eqA s b (.c 1)) && (leAV s (.c 0) a && leAV s a (.c 13))) && (eqA s a (pl s a) && !(isS (mget s.me kM (pl s a)))) with
        | false => exact ho
        | true =>
          simp only [Bool.and_eq_true] at hc
          obtain ⟨H, i1, i2⟩ := ho.inv
          obtain ⟨s1, s2, s3⟩ := (i2.2.2 _ hm : yS9 kL kM kF jF H σ)
          have hn : lk H 590 = none := by
            rcases i1.lkp (t := 590) with ⟨_, q⟩ | ⟨a', z', q, _, _⟩
            · exact q
            · rw [qx] at q; cases q
          have g1 := eqA_ok ho hc.1.1.2 (me_at ho hbm rfl hc.1.1.1) (y := 1) rfl
          have g2 := leAV_ok ho hc.1.2.1 (x := 0) rfl ha
          have g3 := leAV_ok ho hc.1.2.2 ha (y := 13) rfl
          obtain ⟨i, hi⟩ : ∃ i : Nat, z = (i : Int) := ⟨z.toNat, by omega⟩
          subst hi
          obtain ⟨w1, w2⟩ := oth_ok ho hw ha
          have e4 := s1 i (by omega) (by rw [hn]; exact fun q => by cases q)
          unfold eff9 at e4
          rw [if_pos g1] at e4
          obtain ⟨y, hy⟩ := pl_ev (s := s) ha
          have ey := eqA_ok ho hc.2.1 ha hy
          exact ho.addm ⟨i, by rw [hy]; exact congrArg some (by omega), Or.inl ⟨w1, by rw [w2, e4]⟩⟩
      · exact ho
  · exact ho
end H37
end
end
section
/-! ===== PRODUCTS, 0: rules of any judgement that goes with steps ===== -/
def mixD (D : Nat → Bool) (σ τ : zS) : zS := (fun k => bif D k then σ.1 k else τ.1 k, fun k => bif D k then σ.2 k else τ.2 k)
def agD (D : Nat → Bool) (σ σ' : zS) : Prop := ∀ k, D k = false → σ'.1 k = σ.1 k ∧ σ'.2 k = σ.2 k
abbrev Tt : Type := Nat → Nat → List (Nat × Value) → List Value → zS → Prop
/-- T goes with steps that look at the cells of D alone -/
def Lft (E : xV) (Yf : Nat → xY) (D : Nat → Bool) (T : Tt) : Prop := ∀ (m pc : Nat) (l : List (Nat × Value)) (v : List Value) (σ : zS) (pc' : Nat) (l' : List (Nat × Value)) (v' : List Value) (σ' : zS), agD D σ σ' → (∀ (τ : zS) (K : zKt), Wz E (Yf m) pc' l' v' (mixD D σ' τ) K → Wz E (Yf m) pc l v (mixD D σ τ) K) → T m pc' l' v' σ' → T m pc l v σ
section PZ
variable {E : xV} {Yf : Nat → xY} {D : Nat → Bool} {T : Tt} {m pc pc' : Nat} {lv lv' : List (Nat × Value)} {st : List Value} {σ τ : zS}
theorem agD.rf : agD D σ σ := fun _ _ => ⟨rfl, rfl⟩
theorem agD.tr {a b c : zS} (h : agD D a b) (h' : agD D b c) : agD D a c := fun k q => ⟨(h' k q).1.trans (h k q).1, (h' k q).2.trans (h k q).2⟩
theorem mix1 {k : Nat} (h : D k = true) : (mixD D σ τ).1 k = σ.1 k := by simp only [mixD, h, cond_true]
theorem mix2 {k : Nat} (h : D k = true) : (mixD D σ τ).2 k = σ.2 k := by simp only [mixD, h, cond_true]
theorem mixIr {k : Nat} {f : Nat → Int32} (h : D k = true) : zIr (mixD D σ τ) k f = mixD D (zIr σ k f) τ := by
  refine Prod.ext (funext fun q => ?_) rfl
  simp only [zIr, mixD, xup]
  by_cases e : q = k
  · subst e; simp only [h, cond_true, if_true]
  · simp only [if_neg e]
theorem mixJr {k : Nat} {f : Nat → Int64} (h : D k = true) : zJr (mixD D σ τ) k f = mixD D (zJr σ k f) τ := by
  refine Prod.ext rfl (funext fun q => ?_)
  simp only [zJr, mixD, xup]
  by_cases e : q = k
  · subst e; simp only [h, cond_true, if_true]
  · simp only [if_neg e]
theorem mixI {k j : Nat} {x : Int32} (h : D k = true) : zI (mixD D σ τ) k j x = mixD D (zI σ k j x) τ := by
  show zIr (mixD D σ τ) k (upd ((mixD D σ τ).1 k) j x) = _
  rw [mix1 h]
  exact mixIr h
theorem mixJ {k j : Nat} {x : Int64} (h : D k = true) : zJ (mixD D σ τ) k j x = mixD D (zJ σ k j x) τ := by
  show zJr (mixD D σ τ) k (vp_updL ((mixD D σ τ).2 k) j x) = _
  rw [mix2 h]
  exact mixJr h
theorem agIr {k : Nat} {f : Nat → Int32} (h : D k = true) : agD D σ (zIr σ k f) := fun q hq => ⟨by
  have e : q ≠ k := fun e => by rw [e, h] at hq; cases hq
  simp only [zIr, xup, if_neg e], rfl⟩
theorem agJr {k : Nat} {f : Nat → Int64} (h : D k = true) : agD D σ (zJr σ k f) := fun q hq => ⟨rfl, by
  have e : q ≠ k := fun e => by rw [e, h] at hq; cases hq
  simp only [zJr, xup, if_neg e]⟩
theorem agI {k j : Nat} {x : Int32} (h : D k = true) : agD D σ (zI σ k j x) := agIr h
theorem agJ {k j : Nat} {x : Int64} (h : D k = true) : agD D σ (zJ σ k j x) := agJr h
theorem g_aald (hT : Lft E Yf D T) {k z i' : Nat} {i : Int32} (hk : k < 215) (hd : KD k = (103, [z])) (hi : vp_in i z) (hr : RF k i.toNatClampNeg = i' + 1) (d : decode (Yf m).2.1 pc = .ok (.aaload, 1) ∧ pc + 1 = pc') (kk : T m pc' lv (.ref i' :: st) σ) : T m pc lv (.int i :: .ref k :: st) σ := hT _ _ _ _ _ _ _ _ _ agD.rf (fun τ K q => z_aald hk hd hi hr d q) kk
theorem g_aload (hT : Lft E Yf D T) {i q : Nat} {x : Nat} (d : decode (Yf m).2.1 pc = .ok (.aload i, 2) ∧ pc + 2 = pc') (hq : lv[q]? = some (i, .ref x)) (k : T m pc' lv (.ref x :: st) σ) : T m pc lv st σ := hT _ _ _ _ _ _ _ _ _ agD.rf (fun τ K q => z_aload d hq q) k
theorem g_aload_n (hT : Lft E Yf D T) {f : Fin 4} {i q : Nat} {x : Nat} (d : decode (Yf m).2.1 pc = .ok (.aload_n f, 1) ∧ pc + 1 = pc') (hi : (f : Nat) = i) (hq : lv[q]? = some (i, .ref x)) (k : T m pc' lv (.ref x :: st) σ) : T m pc lv st σ := hT _ _ _ _ _ _ _ _ _ agD.rf (fun τ K q => z_aload_n d hi hq q) k
theorem g_astore_n (hT : Lft E Yf D T) {f : Fin 4} {i : Nat} {x : Nat} (d : decode (Yf m).2.1 pc = .ok (.astore_n f, 1) ∧ pc + 1 = pc') (hi : (f : Nat) = i) (hn : i < (Yf m).2.2.1) (hl' : (i, Value.ref x) :: lv.filter (fun q => !(q.1 == i) && !(q.1 + 1 == i && q.2.category == 2)) = lv') (k : T m pc' lv' st σ) : T m pc lv (.ref x :: st) σ := hT _ _ _ _ _ _ _ _ _ agD.rf (fun τ K q => z_astore_n d hi hn hl' q) k
theorem g_bipush (hT : Lft E Yf D T) {i : Int} {v : Int32} (d : decode (Yf m).2.1 pc = .ok (.bipush i, 2) ∧ pc + 2 = pc') (hv : (Int8.ofInt i).toInt32 = v) (k : T m pc' lv (.int v :: st) σ) : T m pc lv st σ := hT _ _ _ _ _ _ _ _ _ agD.rf (fun τ K q => z_bipush d hv q) k
theorem g_copyi (hT : Lft E Yf D T) {idx k0 k1 z0 z1 : Nat} {sp dp v : Int32} (hD0 : D k0 = true) (hD1 : D k1 = true) (w1 : Cond.methodLink (Yf m).1.cls idx arraycopyName ∈ TBg) (w2 : Cond.native arraycopyName ∈ TBg) (w3 : Cond.static arraycopyName ∈ TBg) (w4 : Cond.initialized "java/lang/System" ∈ TBg) (hk0 : k0 < 215) (hk1 : k1 < 215) (hd0 : KD k0 = (100, [z0])) (hd1 : KD k1 = (100, [z1])) (hb : ¬ sp < 0 ∧ ¬ dp < 0 ∧ ¬ v < 0 ∧ sp.toNatClampNeg + v.toNatClampNeg ≤ z0 ∧ dp.toNatClampNeg + v.toNatClampNeg ≤ z1) (hfr : 1 ≤ (Yf m).2.2.2.2.frames) (hlo : 40 ≤ (Yf m).2.2.2.2.locals) (hcat : (st.map fun v => v.category).sum ≤ 8) (d : decode (Yf m).2.1 pc = .ok (.invokestatic idx, 3) ∧ pc + 3 = pc') (kk : T m pc' lv st (zIr σ k1 (va_cpy (σ.1 k0) (σ.1 k1) sp.toNatClampNeg dp.toNatClampNeg v.toNatClampNeg)))  : T m pc lv (.int v :: .int dp :: .ref k1 :: .int sp :: .ref k0 :: st) σ := hT _ _ _ _ _ _ _ _ _ (agIr hD1) (fun τ K q => z_copyi w1 w2 w3 w4 hk0 hk1 hd0 hd1 hb hfr hlo hcat d (by rw [mix1 hD0, mix1 hD1, mixIr hD1]; exact q)) kk
theorem g_copyl (hT : Lft E Yf D T) {idx k0 k1 z0 z1 : Nat} {sp dp v : Int32} (hD0 : D k0 = true) (hD1 : D k1 = true) (w1 : Cond.methodLink (Yf m).1.cls idx arraycopyName ∈ TBg) (w2 : Cond.native arraycopyName ∈ TBg) (w3 : Cond.static arraycopyName ∈ TBg) (w4 : Cond.initialized "java/lang/System" ∈ TBg) (hk0 : k0 < 215) (hk1 : k1 < 215) (hd0 : KD k0 = (101, [z0])) (hd1 : KD k1 = (101, [z1])) (hb : ¬ sp < 0 ∧ ¬ dp < 0 ∧ ¬ v < 0 ∧ sp.toNatClampNeg + v.toNatClampNeg ≤ z0 ∧ dp.toNatClampNeg + v.toNatClampNeg ≤ z1) (hfr : 1 ≤ (Yf m).2.2.2.2.frames) (hlo : 40 ≤ (Yf m).2.2.2.2.locals) (hcat : (st.map fun v => v.category).sum ≤ 8) (d : decode (Yf m).2.1 pc = .ok (.invokestatic idx, 3) ∧ pc + 3 = pc') (kk : T m pc' lv st (zJr σ k1 (va_cpy (σ.2 k0) (σ.2 k1) sp.toNatClampNeg dp.toNatClampNeg v.toNatClampNeg)))  : T m pc lv (.int v :: .int dp :: .ref k1 :: .int sp :: .ref k0 :: st) σ := hT _ _ _ _ _ _ _ _ _ (agJr hD1) (fun τ K q => z_copyl w1 w2 w3 w4 hk0 hk1 hd0 hd1 hb hfr hlo hcat d (by rw [mix2 hD0, mix2 hD1, mixJr hD1]; exact q)) kk
theorem g_dup2ir (hT : Lft E Yf D T) {i : Int32} {x : Nat} (d : decode (Yf m).2.1 pc = .ok (.dup2, 1) ∧ pc + 1 = pc') (k : T m pc' lv (.int i :: .ref x :: .int i :: .ref x :: st) σ) : T m pc lv (.int i :: .ref x :: st) σ := hT _ _ _ _ _ _ _ _ _ agD.rf (fun τ K q => z_dup2ir d q) k
theorem g_dup2l (hT : Lft E Yf D T) {x : Int64} (d : decode (Yf m).2.1 pc = .ok (.dup2, 1) ∧ pc + 1 = pc') (k : T m pc' lv (.long x :: .long x :: st) σ) : T m pc lv (.long x :: st) σ := hT _ _ _ _ _ _ _ _ _ agD.rf (fun τ K q => z_dup2l d q) k
theorem g_dupi (hT : Lft E Yf D T) {x : Int32} (d : decode (Yf m).2.1 pc = .ok (.dup, 1) ∧ pc + 1 = pc') (k : T m pc' lv (.int x :: .int x :: st) σ) : T m pc lv (.int x :: st) σ := hT _ _ _ _ _ _ _ _ _ agD.rf (fun τ K q => z_dupi d q) k
theorem g_dupr (hT : Lft E Yf D T) {x : Nat} (d : decode (Yf m).2.1 pc = .ok (.dup, 1) ∧ pc + 1 = pc') (k : T m pc' lv (.ref x :: .ref x :: st) σ) : T m pc lv (.ref x :: st) σ := hT _ _ _ _ _ _ _ _ _ agD.rf (fun τ K q => z_dupr d q) k
theorem g_geti (hT : Lft E Yf D T) {k j idx ci : Nat} {l : List Nat} {ty : FieldType} {fin : Bool} (hD : D k = true) (F : xFl (Yf m).1.cls idx ci j ty fin) (hk : k < 215) (hd : KD k = (ci, l)) (hc : ci < 100) (hj : l[j]? = some 0) (d : decode (Yf m).2.1 pc = .ok (.getfield idx, 3) ∧ pc + 3 = pc') (kk : T m pc' lv (.int (σ.1 k j) :: st) σ) : T m pc lv (.ref k :: st) σ := hT _ _ _ _ _ _ _ _ _ agD.rf (fun τ K q => z_geti F hk hd hc hj d (by rw [mix1 hD]; exact q)) kk
theorem g_getj (hT : Lft E Yf D T) {k j idx ci : Nat} {l : List Nat} {ty : FieldType} {fin : Bool} (hD : D k = true) (F : xFl (Yf m).1.cls idx ci j ty fin) (hk : k < 215) (hd : KD k = (ci, l)) (hc : ci < 100) (hj : l[j]? = some 1) (d : decode (Yf m).2.1 pc = .ok (.getfield idx, 3) ∧ pc + 3 = pc') (kk : T m pc' lv (.long (σ.2 k j) :: st) σ) : T m pc lv (.ref k :: st) σ := hT _ _ _ _ _ _ _ _ _ agD.rf (fun τ K q => z_getj F hk hd hc hj d (by rw [mix2 hD]; exact q)) kk
theorem g_getr (hT : Lft E Yf D T) {k j i idx ci : Nat} {l : List Nat} {ty : FieldType} {fin : Bool} (F : xFl (Yf m).1.cls idx ci j ty fin) (hk : k < 215) (hd : KD k = (ci, l)) (hc : ci < 100) (hj : l[j]? = some 2) (hr : RF k j = i + 1) (d : decode (Yf m).2.1 pc = .ok (.getfield idx, 3) ∧ pc + 3 = pc') (kk : T m pc' lv (.ref i :: st) σ) : T m pc lv (.ref k :: st) σ := hT _ _ _ _ _ _ _ _ _ agD.rf (fun τ K q => z_getr F hk hd hc hj hr d q) kk
theorem g_getsC (hT : Lft E Yf D T) {idx : Nat} (hl : Cond.fieldLink (Yf m).1.cls idx "java/lang/String" "COMPACT_STRINGS" "Z" ∈ TBg) (d : decode (Yf m).2.1 pc = .ok (.getstatic idx, 3) ∧ pc + 3 = pc') (k : T m pc' lv (.int 1 :: st) σ) : T m pc lv st σ := hT _ _ _ _ _ _ _ _ _ agD.rf (fun τ K q => z_getsC hl d q) k
theorem g_getsR (hT : Lft E Yf D T) {idx : Nat} (hl : Cond.fieldLink (Yf m).1.cls idx "RightsHouse$Judge" "RANK" "[I" ∈ TBg) (d : decode (Yf m).2.1 pc = .ok (.getstatic idx, 3) ∧ pc + 3 = pc') (k : T m pc' lv (.ref 3001 :: st) σ) : T m pc lv st σ := hT _ _ _ _ _ _ _ _ _ agD.rf (fun τ K q => z_getsR hl d q) k
theorem g_goto (hT : Lft E Yf D T) {off : Int} {tgt : Nat} (d : decode (Yf m).2.1 pc = .ok (.goto off, 3) ∧ (pc : Int) + off = (tgt : Int) ∧ pc + 3 = pc') (k : T m tgt lv st σ) : T m pc lv st σ := hT _ _ _ _ _ _ _ _ _ agD.rf (fun τ K q => z_goto d q) k
theorem g_i2b (hT : Lft E Yf D T) {x v : Int32} (d : decode (Yf m).2.1 pc = .ok (.i2b, 1) ∧ pc + 1 = pc') (hv : x.toInt8.toInt32 = v) (k : T m pc' lv (.int v :: st) σ) : T m pc lv (.int x :: st) σ := hT _ _ _ _ _ _ _ _ _ agD.rf (fun τ K q => z_i2b d hv q) k
theorem g_i2c (hT : Lft E Yf D T) {x : Int32} {v : Int32} (d : decode (Yf m).2.1 pc = .ok (.i2c, 1) ∧ pc + 1 = pc') (hv : (x.toUInt32 % 65536).toInt32 = v) (k : T m pc' lv (.int v :: st) σ) : T m pc lv (.int x :: st) σ := hT _ _ _ _ _ _ _ _ _ agD.rf (fun τ K q => z_i2c d hv q) k
theorem g_i2l (hT : Lft E Yf D T) {x : Int32} {v : Int64} (d : decode (Yf m).2.1 pc = .ok (.i2l, 1) ∧ pc + 1 = pc') (hv : x.toInt64 = v) (k : T m pc' lv (.long v :: st) σ) : T m pc lv (.int x :: st) σ := hT _ _ _ _ _ _ _ _ _ agD.rf (fun τ K q => z_i2l d hv q) k
theorem g_iadd (hT : Lft E Yf D T) {x y : Int32} (d : decode (Yf m).2.1 pc = .ok (.iadd, 1) ∧ pc + 1 = pc') (k : T m pc' lv (.int (x + y) :: st) σ) : T m pc lv (.int y :: .int x :: st) σ := hT _ _ _ _ _ _ _ _ _ agD.rf (fun τ K q => z_iadd d q) k
theorem g_iald (hT : Lft E Yf D T) {k z : Nat} {i : Int32} (hD : D k = true) (hk : k < 215) (hd : KD k = (100, [z])) (hi : vp_in i z) (d : decode (Yf m).2.1 pc = .ok (.iaload, 1) ∧ pc + 1 = pc') (kk : T m pc' lv (.int (σ.1 k i.toNatClampNeg) :: st) σ) : T m pc lv (.int i :: .ref k :: st) σ := hT _ _ _ _ _ _ _ _ _ agD.rf (fun τ K q => z_iald hk hd hi d (by rw [mix1 hD]; exact q)) kk
theorem g_iand (hT : Lft E Yf D T) {x y : Int32} (d : decode (Yf m).2.1 pc = .ok (.iand, 1) ∧ pc + 1 = pc') (k : T m pc' lv (.int (x &&& y) :: st) σ) : T m pc lv (.int y :: .int x :: st) σ := hT _ _ _ _ _ _ _ _ _ agD.rf (fun τ K q => z_iand d q) k
theorem g_iast (hT : Lft E Yf D T) {k z : Nat} {i : Int32} {x : Int32} (hD : D k = true) (hk : k < 215) (hd : KD k = (100, [z])) (hi : vp_in i z) (d : decode (Yf m).2.1 pc = .ok (.iastore, 1) ∧ pc + 1 = pc') (kk : T m pc' lv st (zI σ k i.toNatClampNeg x)) : T m pc lv (.int x :: .int i :: .ref k :: st) σ := hT _ _ _ _ _ _ _ _ _ (agI hD) (fun τ K q => z_iast hk hd hi d (by rw [mixI hD]; exact q)) kk
theorem g_icmp_eq (hT : Lft E Yf D T) {x y : Int32} {off : Int} {tgt : Nat} (d : decode (Yf m).2.1 pc = .ok (.if_icmp .eq off, 3) ∧ (pc : Int) + off = (tgt : Int) ∧ pc + 3 = pc') (kt : x = y → T m tgt lv st σ) (kf : ¬ x = y → T m pc' lv st σ) : T m pc lv (.int y :: .int x :: st) σ := by
  by_cases h : x = y
  · exact hT _ _ _ _ _ _ _ _ _ agD.rf (fun τ K q => z_icmp_eq d (fun _ => q) (fun h9 => absurd h h9)) (kt h)
  · exact hT _ _ _ _ _ _ _ _ _ agD.rf (fun τ K q => z_icmp_eq d (fun h9 => absurd h9 h) (fun _ => q)) (kf h)
theorem g_icmp_ge (hT : Lft E Yf D T) {x y : Int32} {off : Int} {tgt : Nat} (d : decode (Yf m).2.1 pc = .ok (.if_icmp .ge off, 3) ∧ (pc : Int) + off = (tgt : Int) ∧ pc + 3 = pc') (kt : y ≤ x → T m tgt lv st σ) (kf : ¬ y ≤ x → T m pc' lv st σ) : T m pc lv (.int y :: .int x :: st) σ := by
  by_cases h : y ≤ x
  · exact hT _ _ _ _ _ _ _ _ _ agD.rf (fun τ K q => z_icmp_ge d (fun _ => q) (fun h9 => absurd h h9)) (kt h)
  · exact hT _ _ _ _ _ _ _ _ _ agD.rf (fun τ K q => z_icmp_ge d (fun h9 => absurd h9 h) (fun _ => q)) (kf h)
theorem g_icmp_gt (hT : Lft E Yf D T) {x y : Int32} {off : Int} {tgt : Nat} (d : decode (Yf m).2.1 pc = .ok (.if_icmp .gt off, 3) ∧ (pc : Int) + off = (tgt : Int) ∧ pc + 3 = pc') (kt : y < x → T m tgt lv st σ) (kf : ¬ y < x → T m pc' lv st σ) : T m pc lv (.int y :: .int x :: st) σ := by
  by_cases h : y < x
  · exact hT _ _ _ _ _ _ _ _ _ agD.rf (fun τ K q => z_icmp_gt d (fun _ => q) (fun h9 => absurd h h9)) (kt h)
  · exact hT _ _ _ _ _ _ _ _ _ agD.rf (fun τ K q => z_icmp_gt d (fun h9 => absurd h9 h) (fun _ => q)) (kf h)
theorem g_icmp_le (hT : Lft E Yf D T) {x y : Int32} {off : Int} {tgt : Nat} (d : decode (Yf m).2.1 pc = .ok (.if_icmp .le off, 3) ∧ (pc : Int) + off = (tgt : Int) ∧ pc + 3 = pc') (kt : x ≤ y → T m tgt lv st σ) (kf : ¬ x ≤ y → T m pc' lv st σ) : T m pc lv (.int y :: .int x :: st) σ := by
  by_cases h : x ≤ y
  · exact hT _ _ _ _ _ _ _ _ _ agD.rf (fun τ K q => z_icmp_le d (fun _ => q) (fun h9 => absurd h h9)) (kt h)
  · exact hT _ _ _ _ _ _ _ _ _ agD.rf (fun τ K q => z_icmp_le d (fun h9 => absurd h9 h) (fun _ => q)) (kf h)
theorem g_icmp_lt (hT : Lft E Yf D T) {x y : Int32} {off : Int} {tgt : Nat} (d : decode (Yf m).2.1 pc = .ok (.if_icmp .lt off, 3) ∧ (pc : Int) + off = (tgt : Int) ∧ pc + 3 = pc') (kt : x < y → T m tgt lv st σ) (kf : ¬ x < y → T m pc' lv st σ) : T m pc lv (.int y :: .int x :: st) σ := by
  by_cases h : x < y
  · exact hT _ _ _ _ _ _ _ _ _ agD.rf (fun τ K q => z_icmp_lt d (fun _ => q) (fun h9 => absurd h h9)) (kt h)
  · exact hT _ _ _ _ _ _ _ _ _ agD.rf (fun τ K q => z_icmp_lt d (fun h9 => absurd h9 h) (fun _ => q)) (kf h)
theorem g_icmp_ne (hT : Lft E Yf D T) {x y : Int32} {off : Int} {tgt : Nat} (d : decode (Yf m).2.1 pc = .ok (.if_icmp .ne off, 3) ∧ (pc : Int) + off = (tgt : Int) ∧ pc + 3 = pc') (kt : ¬ x = y → T m tgt lv st σ) (kf : x = y → T m pc' lv st σ) : T m pc lv (.int y :: .int x :: st) σ := by
  by_cases h : x = y
  · exact hT _ _ _ _ _ _ _ _ _ agD.rf (fun τ K q => z_icmp_ne d (fun h9 => absurd h h9) (fun _ => q)) (kf h)
  · exact hT _ _ _ _ _ _ _ _ _ agD.rf (fun τ K q => z_icmp_ne d (fun _ => q) (fun h9 => absurd h9 h)) (kt h)
theorem g_iconst (hT : Lft E Yf D T) {i : Int} {v : Int32} (d : decode (Yf m).2.1 pc = .ok (.iconst i, 1) ∧ pc + 1 = pc') (hv : Int32.ofInt i = v) (k : T m pc' lv (.int v :: st) σ) : T m pc lv st σ := hT _ _ _ _ _ _ _ _ _ agD.rf (fun τ K q => z_iconst d hv q) k
theorem g_idiv (hT : Lft E Yf D T) {x y : Int32} (d : decode (Yf m).2.1 pc = .ok (.idiv, 1) ∧ pc + 1 = pc') (hne : ¬ y = 0) (k : T m pc' lv (.int (x / y) :: st) σ) : T m pc lv (.int y :: .int x :: st) σ := hT _ _ _ _ _ _ _ _ _ agD.rf (fun τ K q => z_idiv d hne q) k
theorem g_if_eq (hT : Lft E Yf D T) {x : Int32} {off : Int} {tgt : Nat} (d : decode (Yf m).2.1 pc = .ok (.ifCond .eq off, 3) ∧ (pc : Int) + off = (tgt : Int) ∧ pc + 3 = pc') (kt : x = 0 → T m tgt lv st σ) (kf : ¬ x = 0 → T m pc' lv st σ) : T m pc lv (.int x :: st) σ := by
  by_cases h : x = 0
  · exact hT _ _ _ _ _ _ _ _ _ agD.rf (fun τ K q => z_if_eq d (fun _ => q) (fun h9 => absurd h h9)) (kt h)
  · exact hT _ _ _ _ _ _ _ _ _ agD.rf (fun τ K q => z_if_eq d (fun h9 => absurd h9 h) (fun _ => q)) (kf h)
theorem g_if_ge (hT : Lft E Yf D T) {x : Int32} {off : Int} {tgt : Nat} (d : decode (Yf m).2.1 pc = .ok (.ifCond .ge off, 3) ∧ (pc : Int) + off = (tgt : Int) ∧ pc + 3 = pc') (kt : 0 ≤ x → T m tgt lv st σ) (kf : ¬ 0 ≤ x → T m pc' lv st σ) : T m pc lv (.int x :: st) σ := by
  by_cases h : 0 ≤ x
  · exact hT _ _ _ _ _ _ _ _ _ agD.rf (fun τ K q => z_if_ge d (fun _ => q) (fun h9 => absurd h h9)) (kt h)
  · exact hT _ _ _ _ _ _ _ _ _ agD.rf (fun τ K q => z_if_ge d (fun h9 => absurd h9 h) (fun _ => q)) (kf h)
theorem g_if_gt (hT : Lft E Yf D T) {x : Int32} {off : Int} {tgt : Nat} (d : decode (Yf m).2.1 pc = .ok (.ifCond .gt off, 3) ∧ (pc : Int) + off = (tgt : Int) ∧ pc + 3 = pc') (kt : 0 < x → T m tgt lv st σ) (kf : ¬ 0 < x → T m pc' lv st σ) : T m pc lv (.int x :: st) σ := by
  by_cases h : 0 < x
  · exact hT _ _ _ _ _ _ _ _ _ agD.rf (fun τ K q => z_if_gt d (fun _ => q) (fun h9 => absurd h h9)) (kt h)
  · exact hT _ _ _ _ _ _ _ _ _ agD.rf (fun τ K q => z_if_gt d (fun h9 => absurd h9 h) (fun _ => q)) (kf h)
theorem g_if_le (hT : Lft E Yf D T) {x : Int32} {off : Int} {tgt : Nat} (d : decode (Yf m).2.1 pc = .ok (.ifCond .le off, 3) ∧ (pc : Int) + off = (tgt : Int) ∧ pc + 3 = pc') (kt : x ≤ 0 → T m tgt lv st σ) (kf : ¬ x ≤ 0 → T m pc' lv st σ) : T m pc lv (.int x :: st) σ := by
  by_cases h : x ≤ 0
  · exact hT _ _ _ _ _ _ _ _ _ agD.rf (fun τ K q => z_if_le d (fun _ => q) (fun h9 => absurd h h9)) (kt h)
  · exact hT _ _ _ _ _ _ _ _ _ agD.rf (fun τ K q => z_if_le d (fun h9 => absurd h9 h) (fun _ => q)) (kf h)
theorem g_if_lt (hT : Lft E Yf D T) {x : Int32} {off : Int} {tgt : Nat} (d : decode (Yf m).2.1 pc = .ok (.ifCond .lt off, 3) ∧ (pc : Int) + off = (tgt : Int) ∧ pc + 3 = pc') (kt : x < 0 → T m tgt lv st σ) (kf : ¬ x < 0 → T m pc' lv st σ) : T m pc lv (.int x :: st) σ := by
  by_cases h : x < 0
  · exact hT _ _ _ _ _ _ _ _ _ agD.rf (fun τ K q => z_if_lt d (fun _ => q) (fun h9 => absurd h h9)) (kt h)
  · exact hT _ _ _ _ _ _ _ _ _ agD.rf (fun τ K q => z_if_lt d (fun h9 => absurd h9 h) (fun _ => q)) (kf h)
theorem g_if_ne (hT : Lft E Yf D T) {x : Int32} {off : Int} {tgt : Nat} (d : decode (Yf m).2.1 pc = .ok (.ifCond .ne off, 3) ∧ (pc : Int) + off = (tgt : Int) ∧ pc + 3 = pc') (kt : ¬ x = 0 → T m tgt lv st σ) (kf : x = 0 → T m pc' lv st σ) : T m pc lv (.int x :: st) σ := by
  by_cases h : x = 0
  · exact hT _ _ _ _ _ _ _ _ _ agD.rf (fun τ K q => z_if_ne d (fun h9 => absurd h h9) (fun _ => q)) (kf h)
  · exact hT _ _ _ _ _ _ _ _ _ agD.rf (fun τ K q => z_if_ne d (fun _ => q) (fun h9 => absurd h9 h)) (kt h)
theorem g_iinc (hT : Lft E Yf D T) {i q : Nat} {z : Int} {x v : Int32} (d : decode (Yf m).2.1 pc = .ok (.iinc i z, 3) ∧ pc + 3 = pc') (hq : lv[q]? = some (i, .int x)) (hv : x + Int32.ofInt z = v) (hn : i < (Yf m).2.2.1) (hl' : (i, Value.int v) :: lv.filter (fun q => !(q.1 == i) && !(q.1 + 1 == i && q.2.category == 2)) = lv') (k : T m pc' lv' st σ) : T m pc lv st σ := hT _ _ _ _ _ _ _ _ _ agD.rf (fun τ K q => z_iinc d hq hv hn hl' q) k
theorem g_iload (hT : Lft E Yf D T) {i q : Nat} {x : Int32} (d : decode (Yf m).2.1 pc = .ok (.iload i, 2) ∧ pc + 2 = pc') (hq : lv[q]? = some (i, .int x)) (k : T m pc' lv (.int x :: st) σ) : T m pc lv st σ := hT _ _ _ _ _ _ _ _ _ agD.rf (fun τ K q => z_iload d hq q) k
theorem g_iload_n (hT : Lft E Yf D T) {f : Fin 4} {i q : Nat} {x : Int32} (d : decode (Yf m).2.1 pc = .ok (.iload_n f, 1) ∧ pc + 1 = pc') (hi : (f : Nat) = i) (hq : lv[q]? = some (i, .int x)) (k : T m pc' lv (.int x :: st) σ) : T m pc lv st σ := hT _ _ _ _ _ _ _ _ _ agD.rf (fun τ K q => z_iload_n d hi hq q) k
theorem g_imul (hT : Lft E Yf D T) {x y : Int32} (d : decode (Yf m).2.1 pc = .ok (.imul, 1) ∧ pc + 1 = pc') (k : T m pc' lv (.int (x * y) :: st) σ) : T m pc lv (.int y :: .int x :: st) σ := hT _ _ _ _ _ _ _ _ _ agD.rf (fun τ K q => z_imul d q) k
theorem g_ineg (hT : Lft E Yf D T) {x : Int32} (d : decode (Yf m).2.1 pc = .ok (.ineg, 1) ∧ pc + 1 = pc') (k : T m pc' lv (.int (-x) :: st) σ) : T m pc lv (.int x :: st) σ := hT _ _ _ _ _ _ _ _ _ agD.rf (fun τ K q => z_ineg d q) k
theorem g_ior (hT : Lft E Yf D T) {x y : Int32} (d : decode (Yf m).2.1 pc = .ok (.ior, 1) ∧ pc + 1 = pc') (k : T m pc' lv (.int (x ||| y) :: st) σ) : T m pc lv (.int y :: .int x :: st) σ := hT _ _ _ _ _ _ _ _ _ agD.rf (fun τ K q => z_ior d q) k
theorem g_irem (hT : Lft E Yf D T) {x y : Int32} (d : decode (Yf m).2.1 pc = .ok (.irem, 1) ∧ pc + 1 = pc') (hne : ¬ y = 0) (k : T m pc' lv (.int (x - x / y * y) :: st) σ) : T m pc lv (.int y :: .int x :: st) σ := hT _ _ _ _ _ _ _ _ _ agD.rf (fun τ K q => z_irem d hne q) k
theorem g_ishl (hT : Lft E Yf D T) {x y : Int32} (d : decode (Yf m).2.1 pc = .ok (.ishl, 1) ∧ pc + 1 = pc') (k : T m pc' lv (.int (x <<< (y &&& 31)) :: st) σ) : T m pc lv (.int y :: .int x :: st) σ := hT _ _ _ _ _ _ _ _ _ agD.rf (fun τ K q => z_ishl d q) k
theorem g_ishr (hT : Lft E Yf D T) {x y : Int32} (d : decode (Yf m).2.1 pc = .ok (.ishr, 1) ∧ pc + 1 = pc') (k : T m pc' lv (.int (x >>> (y &&& 31)) :: st) σ) : T m pc lv (.int y :: .int x :: st) σ := hT _ _ _ _ _ _ _ _ _ agD.rf (fun τ K q => z_ishr d q) k
theorem g_istore (hT : Lft E Yf D T) {i : Nat} {x : Int32} (d : decode (Yf m).2.1 pc = .ok (.istore i, 2) ∧ pc + 2 = pc') (hn : i < (Yf m).2.2.1) (hl' : (i, Value.int x) :: lv.filter (fun q => !(q.1 == i) && !(q.1 + 1 == i && q.2.category == 2)) = lv') (k : T m pc' lv' st σ) : T m pc lv (.int x :: st) σ := hT _ _ _ _ _ _ _ _ _ agD.rf (fun τ K q => z_istore d hn hl' q) k
theorem g_istore_n (hT : Lft E Yf D T) {f : Fin 4} {i : Nat} {x : Int32} (d : decode (Yf m).2.1 pc = .ok (.istore_n f, 1) ∧ pc + 1 = pc') (hi : (f : Nat) = i) (hn : i < (Yf m).2.2.1) (hl' : (i, Value.int x) :: lv.filter (fun q => !(q.1 == i) && !(q.1 + 1 == i && q.2.category == 2)) = lv') (k : T m pc' lv' st σ) : T m pc lv (.int x :: st) σ := hT _ _ _ _ _ _ _ _ _ agD.rf (fun τ K q => z_istore_n d hi hn hl' q) k
theorem g_isub (hT : Lft E Yf D T) {x y : Int32} (d : decode (Yf m).2.1 pc = .ok (.isub, 1) ∧ pc + 1 = pc') (k : T m pc' lv (.int (x - y) :: st) σ) : T m pc lv (.int y :: .int x :: st) σ := hT _ _ _ _ _ _ _ _ _ agD.rf (fun τ K q => z_isub d q) k
theorem g_iushr (hT : Lft E Yf D T) {x y v : Int32} (d : decode (Yf m).2.1 pc = .ok (.iushr, 1) ∧ pc + 1 = pc') (hv : (x.toUInt32 >>> (y.toUInt32 &&& Int32.toUInt32 31)).toInt32 = v) (k : T m pc' lv (.int v :: st) σ) : T m pc lv (.int y :: .int x :: st) σ := hT _ _ _ _ _ _ _ _ _ agD.rf (fun τ K q => z_iushr d hv q) k
theorem g_ixor (hT : Lft E Yf D T) {x y : Int32} (d : decode (Yf m).2.1 pc = .ok (.ixor, 1) ∧ pc + 1 = pc') (k : T m pc' lv (.int (x ^^^ y) :: st) σ) : T m pc lv (.int y :: .int x :: st) σ := hT _ _ _ _ _ _ _ _ _ agD.rf (fun τ K q => z_ixor d q) k
theorem g_l2i (hT : Lft E Yf D T) {x : Int64} {v : Int32} (d : decode (Yf m).2.1 pc = .ok (.l2i, 1) ∧ pc + 1 = pc') (hv : x.toInt32 = v) (k : T m pc' lv (.int v :: st) σ) : T m pc lv (.long x :: st) σ := hT _ _ _ _ _ _ _ _ _ agD.rf (fun τ K q => z_l2i d hv q) k
theorem g_ladd (hT : Lft E Yf D T) {x y : Int64} (d : decode (Yf m).2.1 pc = .ok (.ladd, 1) ∧ pc + 1 = pc') (k : T m pc' lv (.long (x + y) :: st) σ) : T m pc lv (.long y :: .long x :: st) σ := hT _ _ _ _ _ _ _ _ _ agD.rf (fun τ K q => z_ladd d q) k
theorem g_lald (hT : Lft E Yf D T) {k z : Nat} {i : Int32} (hD : D k = true) (hk : k < 215) (hd : KD k = (101, [z])) (hi : vp_in i z) (d : decode (Yf m).2.1 pc = .ok (.laload, 1) ∧ pc + 1 = pc') (kk : T m pc' lv (.long (σ.2 k i.toNatClampNeg) :: st) σ) : T m pc lv (.int i :: .ref k :: st) σ := hT _ _ _ _ _ _ _ _ _ agD.rf (fun τ K q => z_lald hk hd hi d (by rw [mix2 hD]; exact q)) kk
theorem g_land (hT : Lft E Yf D T) {x y : Int64} (d : decode (Yf m).2.1 pc = .ok (.land, 1) ∧ pc + 1 = pc') (k : T m pc' lv (.long (x &&& y) :: st) σ) : T m pc lv (.long y :: .long x :: st) σ := hT _ _ _ _ _ _ _ _ _ agD.rf (fun τ K q => z_land d q) k
theorem g_last (hT : Lft E Yf D T) {k z : Nat} {i : Int32} {x : Int64} (hD : D k = true) (hk : k < 215) (hd : KD k = (101, [z])) (hi : vp_in i z) (d : decode (Yf m).2.1 pc = .ok (.lastore, 1) ∧ pc + 1 = pc') (kk : T m pc' lv st (zJ σ k i.toNatClampNeg x)) : T m pc lv (.long x :: .int i :: .ref k :: st) σ := hT _ _ _ _ _ _ _ _ _ (agJ hD) (fun τ K q => z_last hk hd hi d (by rw [mixJ hD]; exact q)) kk
theorem g_lcmp (hT : Lft E Yf D T) {x y : Int64} (d : decode (Yf m).2.1 pc = .ok (.lcmp, 1) ∧ pc + 1 = pc') (k : T m pc' lv (.int (lg_cmp x y) :: st) σ) : T m pc lv (.long y :: .long x :: st) σ := hT _ _ _ _ _ _ _ _ _ agD.rf (fun τ K q => z_lcmp d q) k
theorem g_lconst (hT : Lft E Yf D T) {i : Fin 2} {v : Int64} (d : decode (Yf m).2.1 pc = .ok (.lconst i, 1) ∧ pc + 1 = pc') (hv : Int64.ofNat (i : Nat) = v) (k : T m pc' lv (.long v :: st) σ) : T m pc lv st σ := hT _ _ _ _ _ _ _ _ _ agD.rf (fun τ K q => z_lconst d hv q) k
theorem g_ldc (hT : Lft E Yf D T) {i : Nat} {v : Int32} (d : decode (Yf m).2.1 pc = .ok (.ldc i, 2) ∧ pc + 2 = pc') (hw : Cond.constant (Yf m).1.cls i v ∈ TBg) (k : T m pc' lv (.int v :: st) σ) : T m pc lv st σ := hT _ _ _ _ _ _ _ _ _ agD.rf (fun τ K q => z_ldc d hw q) k
theorem g_ldc2 (hT : Lft E Yf D T) {i : Nat} {v : Int64} (d : decode (Yf m).2.1 pc = .ok (.ldc2_w i, 3) ∧ pc + 3 = pc') (hw : Cond.constantLong (Yf m).1.cls i v ∈ TBg) (k : T m pc' lv (.long v :: st) σ) : T m pc lv st σ := hT _ _ _ _ _ _ _ _ _ agD.rf (fun τ K q => z_ldc2 d hw q) k
theorem g_ldcS (hT : Lft E Yf D T) {i : Nat} {q : String × (Nat × String)} (hq : STR[i]? = some q) (hY : (Yf m).1.cls = q.1) (d : decode (Yf m).2.1 pc = .ok (.ldc q.2.1, 2) ∧ pc + 2 = pc') (k : T m pc' lv (.ref (1000 + i) :: st) σ) : T m pc lv st σ := hT _ _ _ _ _ _ _ _ _ agD.rf (fun τ K q => z_ldcS hq hY d q) k
theorem g_ldcw (hT : Lft E Yf D T) {i : Nat} {v : Int32} (d : decode (Yf m).2.1 pc = .ok (.ldc_w i, 3) ∧ pc + 3 = pc') (hw : Cond.constant (Yf m).1.cls i v ∈ TBg) (k : T m pc' lv (.int v :: st) σ) : T m pc lv st σ := hT _ _ _ _ _ _ _ _ _ agD.rf (fun τ K q => z_ldcw d hw q) k
theorem g_ldcwS (hT : Lft E Yf D T) {i : Nat} {q : String × (Nat × String)} (hq : STR[i]? = some q) (hY : (Yf m).1.cls = q.1) (d : decode (Yf m).2.1 pc = .ok (.ldc_w q.2.1, 3) ∧ pc + 3 = pc') (k : T m pc' lv (.ref (1000 + i) :: st) σ) : T m pc lv st σ := hT _ _ _ _ _ _ _ _ _ agD.rf (fun τ K q => z_ldcwS hq hY d q) k
theorem g_ldiv (hT : Lft E Yf D T) {x y : Int64} (d : decode (Yf m).2.1 pc = .ok (.ldiv, 1) ∧ pc + 1 = pc') (hne : ¬ y = 0) (k : T m pc' lv (.long (x / y) :: st) σ) : T m pc lv (.long y :: .long x :: st) σ := hT _ _ _ _ _ _ _ _ _ agD.rf (fun τ K q => z_ldiv d hne q) k
theorem g_lload (hT : Lft E Yf D T) {i q : Nat} {x : Int64} (d : decode (Yf m).2.1 pc = .ok (.lload i, 2) ∧ pc + 2 = pc') (hq : lv[q]? = some (i, .long x)) (k : T m pc' lv (.long x :: st) σ) : T m pc lv st σ := hT _ _ _ _ _ _ _ _ _ agD.rf (fun τ K q => z_lload d hq q) k
theorem g_lload_n (hT : Lft E Yf D T) {f : Fin 4} {i q : Nat} {x : Int64} (d : decode (Yf m).2.1 pc = .ok (.lload_n f, 1) ∧ pc + 1 = pc') (hi : (f : Nat) = i) (hq : lv[q]? = some (i, .long x)) (k : T m pc' lv (.long x :: st) σ) : T m pc lv st σ := hT _ _ _ _ _ _ _ _ _ agD.rf (fun τ K q => z_lload_n d hi hq q) k
theorem g_lmul (hT : Lft E Yf D T) {x y : Int64} (d : decode (Yf m).2.1 pc = .ok (.lmul, 1) ∧ pc + 1 = pc') (k : T m pc' lv (.long (x * y) :: st) σ) : T m pc lv (.long y :: .long x :: st) σ := hT _ _ _ _ _ _ _ _ _ agD.rf (fun τ K q => z_lmul d q) k
theorem g_lneg (hT : Lft E Yf D T) {x : Int64} (d : decode (Yf m).2.1 pc = .ok (.lneg, 1) ∧ pc + 1 = pc') (k : T m pc' lv (.long (-x) :: st) σ) : T m pc lv (.long x :: st) σ := hT _ _ _ _ _ _ _ _ _ agD.rf (fun τ K q => z_lneg d q) k
theorem g_lookup (hT : Lft E Yf D T) {dflt : Int} {ps : Array (Int × Int)} {len : Nat} {x : Int32} {off : Int} {tgt : Nat} (d : decode (Yf m).2.1 pc = .ok (.lookupswitch dflt ps, len)) (hp : (ps.toList.zip (ps.toList.drop 1)).all (fun (a, next) => a.1 < next.1) = true) (ho : Op.lookupswitch.offset ps.toList dflt x.toInt = off) (ht : (pc : Int) + off = (tgt : Int)) (k : T m tgt lv st σ) : T m pc lv (.int x :: st) σ := hT _ _ _ _ _ _ _ _ _ agD.rf (fun τ K q => z_lookup d hp ho ht q) k
theorem g_lor (hT : Lft E Yf D T) {x y : Int64} (d : decode (Yf m).2.1 pc = .ok (.lor, 1) ∧ pc + 1 = pc') (k : T m pc' lv (.long (x ||| y) :: st) σ) : T m pc lv (.long y :: .long x :: st) σ := hT _ _ _ _ _ _ _ _ _ agD.rf (fun τ K q => z_lor d q) k
theorem g_lrem (hT : Lft E Yf D T) {x y : Int64} (d : decode (Yf m).2.1 pc = .ok (.lrem, 1) ∧ pc + 1 = pc') (hne : ¬ y = 0) (k : T m pc' lv (.long (x - x / y * y) :: st) σ) : T m pc lv (.long y :: .long x :: st) σ := hT _ _ _ _ _ _ _ _ _ agD.rf (fun τ K q => z_lrem d hne q) k
theorem g_lshl (hT : Lft E Yf D T) {x v : Int64} {y : Int32} (d : decode (Yf m).2.1 pc = .ok (.lshl, 1) ∧ pc + 1 = pc') (hv : x <<< (y.toInt64 &&& 63) = v) (k : T m pc' lv (.long v :: st) σ) : T m pc lv (.int y :: .long x :: st) σ := hT _ _ _ _ _ _ _ _ _ agD.rf (fun τ K q => z_lshl d hv q) k
theorem g_lshr (hT : Lft E Yf D T) {x v : Int64} {y : Int32} (d : decode (Yf m).2.1 pc = .ok (.lshr, 1) ∧ pc + 1 = pc') (hv : x >>> (y.toInt64 &&& 63) = v) (k : T m pc' lv (.long v :: st) σ) : T m pc lv (.int y :: .long x :: st) σ := hT _ _ _ _ _ _ _ _ _ agD.rf (fun τ K q => z_lshr d hv q) k
theorem g_lstore (hT : Lft E Yf D T) {i : Nat} {x : Int64} (d : decode (Yf m).2.1 pc = .ok (.lstore i, 2) ∧ pc + 2 = pc') (hn : i + 1 < (Yf m).2.2.1) (hl' : (i, Value.long x) :: lv.filter (fun q => !(q.1 == i) && (!(q.1 == i + 1) && !(q.1 + 1 == i && q.2.category == 2))) = lv') (k : T m pc' lv' st σ) : T m pc lv (.long x :: st) σ := hT _ _ _ _ _ _ _ _ _ agD.rf (fun τ K q => z_lstore d hn hl' q) k
theorem g_lstore_n (hT : Lft E Yf D T) {f : Fin 4} {i : Nat} {x : Int64} (d : decode (Yf m).2.1 pc = .ok (.lstore_n f, 1) ∧ pc + 1 = pc') (hi : (f : Nat) = i) (hn : i + 1 < (Yf m).2.2.1) (hl' : (i, Value.long x) :: lv.filter (fun q => !(q.1 == i) && (!(q.1 == i + 1) && !(q.1 + 1 == i && q.2.category == 2))) = lv') (k : T m pc' lv' st σ) : T m pc lv (.long x :: st) σ := hT _ _ _ _ _ _ _ _ _ agD.rf (fun τ K q => z_lstore_n d hi hn hl' q) k
theorem g_lsub (hT : Lft E Yf D T) {x y : Int64} (d : decode (Yf m).2.1 pc = .ok (.lsub, 1) ∧ pc + 1 = pc') (k : T m pc' lv (.long (x - y) :: st) σ) : T m pc lv (.long y :: .long x :: st) σ := hT _ _ _ _ _ _ _ _ _ agD.rf (fun τ K q => z_lsub d q) k
theorem g_lushr (hT : Lft E Yf D T) {x v : Int64} {y : Int32} (d : decode (Yf m).2.1 pc = .ok (.lushr, 1) ∧ pc + 1 = pc') (hv : (x.toUInt64 >>> (y.toInt64.toUInt64 &&& Int64.toUInt64 63)).toInt64 = v) (k : T m pc' lv (.long v :: st) σ) : T m pc lv (.int y :: .long x :: st) σ := hT _ _ _ _ _ _ _ _ _ agD.rf (fun τ K q => z_lushr d hv q) k
theorem g_lxor (hT : Lft E Yf D T) {x y : Int64} (d : decode (Yf m).2.1 pc = .ok (.lxor, 1) ∧ pc + 1 = pc') (k : T m pc' lv (.long (x ^^^ y) :: st) σ) : T m pc lv (.long y :: .long x :: st) σ := hT _ _ _ _ _ _ _ _ _ agD.rf (fun τ K q => z_lxor d q) k
theorem g_mmax (hT : Lft E Yf D T) {pc pc' idx : Nat} {x y : Int32} (w1 : Cond.methodLink (Yf m).1.cls idx Lib.Math.max.name ∈ TBg) (w2 : Cond.static Lib.Math.max.name ∈ TBg) (w3 : Cond.initialized "java/lang/Math" ∈ TBg) (w4 : Cond.code Lib.Math.max.name Lib.Math.max.code 2 (some .int) ∈ TBg) (hfr : 1 ≤ (Yf m).2.2.2.2.frames) (hlo : 40 ≤ (Yf m).2.2.2.2.locals) (hcat : (st.map fun v => v.category).sum ≤ 8) (d : decode (Yf m).2.1 pc = .ok (.invokestatic idx, 3) ∧ pc + 3 = pc') (k : T m pc' lv (.int (if x < y then y else x) :: st) σ) : T m pc lv (.int y :: .int x :: st) σ := hT _ _ _ _ _ _ _ _ _ agD.rf (fun τ K q => z_mmax w1 w2 w3 w4 hfr hlo hcat d q) k
theorem g_mmin (hT : Lft E Yf D T) {pc pc' idx : Nat} {x y : Int32} (w1 : Cond.methodLink (Yf m).1.cls idx Lib.Math.min.name ∈ TBg) (w2 : Cond.static Lib.Math.min.name ∈ TBg) (w3 : Cond.initialized "java/lang/Math" ∈ TBg) (w4 : Cond.code Lib.Math.min.name Lib.Math.min.code 2 (some .int) ∈ TBg) (hfr : 1 ≤ (Yf m).2.2.2.2.frames) (hlo : 40 ≤ (Yf m).2.2.2.2.locals) (hcat : (st.map fun v => v.category).sum ≤ 8) (d : decode (Yf m).2.1 pc = .ok (.invokestatic idx, 3) ∧ pc + 3 = pc') (k : T m pc' lv (.int (if y < x then y else x) :: st) σ) : T m pc lv (.int y :: .int x :: st) σ := hT _ _ _ _ _ _ _ _ _ agD.rf (fun τ K q => z_mmin w1 w2 w3 w4 hfr hlo hcat d q) k
theorem g_popi (hT : Lft E Yf D T) {x : Int32} (d : decode (Yf m).2.1 pc = .ok (.pop, 1) ∧ pc + 1 = pc') (k : T m pc' lv st σ) : T m pc lv (.int x :: st) σ := hT _ _ _ _ _ _ _ _ _ agD.rf (fun τ K q => z_popi d q) k
theorem g_puti (hT : Lft E Yf D T) {k j idx ci : Nat} {l : List Nat} {ty : FieldType} {v : Int32} (hD : D k = true) (F : xFl (Yf m).1.cls idx ci j ty false) (hk : k < 215) (hd : KD k = (ci, l)) (hc : ci < 100) (hj : l[j]? = some 0) (hw : narrow ty (.int v) = .int v) (hf : fits ty (.int v) = true) (d : decode (Yf m).2.1 pc = .ok (.putfield idx, 3) ∧ pc + 3 = pc') (kk : T m pc' lv st (zI σ k j v)) : T m pc lv (.int v :: .ref k :: st) σ := hT _ _ _ _ _ _ _ _ _ (agI hD) (fun τ K q => z_puti F hk hd hc hj hw hf d (by rw [mixI hD]; exact q)) kk
theorem g_putj (hT : Lft E Yf D T) {k j idx ci : Nat} {l : List Nat} {v : Int64} (hD : D k = true) (F : xFl (Yf m).1.cls idx ci j .long false) (hk : k < 215) (hd : KD k = (ci, l)) (hc : ci < 100) (hj : l[j]? = some 1) (d : decode (Yf m).2.1 pc = .ok (.putfield idx, 3) ∧ pc + 3 = pc') (kk : T m pc' lv st (zJ σ k j v)) : T m pc lv (.long v :: .ref k :: st) σ := hT _ _ _ _ _ _ _ _ _ (agJ hD) (fun τ K q => z_putj F hk hd hc hj d (by rw [mixJ hD]; exact q)) kk
theorem g_rald (hT : Lft E Yf D T) {x : Int32} (hx : vp_in x 4) (d : decode (Yf m).2.1 pc = .ok (.iaload, 1) ∧ pc + 1 = pc') (k : T m pc' lv (.int (RNK.getD x.toNatClampNeg 0) :: st) σ) : T m pc lv (.int x :: .ref 3001 :: st) σ := hT _ _ _ _ _ _ _ _ _ agD.rf (fun τ K q => z_rald hx d q) k
theorem g_sald (hT : Lft E Yf D T) {i : Nat} {x : Int32} (hi : i < 21) (hx : vp_in x (SLN.getD i 0)) (d : decode (Yf m).2.1 pc = .ok (.baload, 1) ∧ pc + 1 = pc') (k : T m pc' lv (.int ((SBY.getD i []).getD x.toNatClampNeg 0) :: st) σ) : T m pc lv (.int x :: .ref (2000 + i) :: st) σ := hT _ _ _ _ _ _ _ _ _ agD.rf (fun τ K q => z_sald hi hx d q) k
theorem g_sgetc (hT : Lft E Yf D T) {idx i : Nat} (hi : i < 21) (hl : Cond.fieldLink (Yf m).1.cls idx "java/lang/String" "coder" "B" ∈ TBg) (d : decode (Yf m).2.1 pc = .ok (.getfield idx, 3) ∧ pc + 3 = pc') (k : T m pc' lv (.int 0 :: st) σ) : T m pc lv (.ref (1000 + i) :: st) σ := hT _ _ _ _ _ _ _ _ _ agD.rf (fun τ K q => z_sgetc hi hl d q) k
theorem g_sgetv (hT : Lft E Yf D T) {idx i : Nat} (hi : i < 21) (hl : Cond.fieldLink (Yf m).1.cls idx "java/lang/String" "value" "[B" ∈ TBg) (d : decode (Yf m).2.1 pc = .ok (.getfield idx, 3) ∧ pc + 3 = pc') (k : T m pc' lv (.ref (2000 + i) :: st) σ) : T m pc lv (.ref (1000 + i) :: st) σ := hT _ _ _ _ _ _ _ _ _ agD.rf (fun τ K q => z_sgetv hi hl d q) k
theorem g_sipush (hT : Lft E Yf D T) {i : Int} {v : Int32} (d : decode (Yf m).2.1 pc = .ok (.sipush i, 3) ∧ pc + 3 = pc') (hv : (Int16.ofInt i).toInt32 = v) (k : T m pc' lv (.int v :: st) σ) : T m pc lv st σ := hT _ _ _ _ _ _ _ _ _ agD.rf (fun τ K q => z_sipush d hv q) k
theorem g_slen (hT : Lft E Yf D T) {i : Nat} {v : Int32} (hi : i < 21) (hv : Int32.ofNat (SLN.getD i 0) = v) (d : decode (Yf m).2.1 pc = .ok (.arraylength, 1) ∧ pc + 1 = pc') (k : T m pc' lv (.int v :: st) σ) : T m pc lv (.ref (2000 + i) :: st) σ := hT _ _ _ _ _ _ _ _ _ agD.rf (fun τ K q => z_slen hi hv d q) k
theorem g_tableIn (hT : Lft E Yf D T) {dflt lo hi : Int} {offs : Array Int} {len : Nat} {x : Int32} {off : Int} {tgt : Nat} (d : decode (Yf m).2.1 pc = .ok (.tableswitch dflt lo hi offs, len)) (h1 : ¬ x.toInt < lo) (h2 : ¬ hi < x.toInt) (ho : offs[(x.toInt - lo).toNat]? = some off) (ht : (pc : Int) + off = (tgt : Int)) (k : T m tgt lv st σ) : T m pc lv (.int x :: st) σ := hT _ _ _ _ _ _ _ _ _ agD.rf (fun τ K q => z_tableIn d h1 h2 ho ht q) k
theorem g_tableOut (hT : Lft E Yf D T) {dflt lo hi : Int} {offs : Array Int} {len : Nat} {x : Int32} {tgt : Nat} (d : decode (Yf m).2.1 pc = .ok (.tableswitch dflt lo hi offs, len)) (h : x.toInt < lo ∨ hi < x.toInt) (ht : (pc : Int) + dflt = (tgt : Int)) (k : T m tgt lv st σ) : T m pc lv (.int x :: st) σ := hT _ _ _ _ _ _ _ _ _ agD.rf (fun τ K q => z_tableOut d h ht q) k
theorem g_zald (hT : Lft E Yf D T) {k z : Nat} {i : Int32} (hD : D k = true) (hk : k < 215) (hd : KD k = (102, [z])) (hi : vp_in i z) (d : decode (Yf m).2.1 pc = .ok (.baload, 1) ∧ pc + 1 = pc') (kk : T m pc' lv (.int (σ.1 k i.toNatClampNeg) :: st) σ) : T m pc lv (.int i :: .ref k :: st) σ := hT _ _ _ _ _ _ _ _ _ agD.rf (fun τ K q => z_zald hk hd hi d (by rw [mix1 hD]; exact q)) kk
theorem g_zast (hT : Lft E Yf D T) {k z : Nat} {i : Int32} {x : Int32} (hD : D k = true) (hk : k < 215) (hd : KD k = (102, [z])) (hi : vp_in i z) (d : decode (Yf m).2.1 pc = .ok (.bastore, 1) ∧ pc + 1 = pc') (kk : T m pc' lv st (zI σ k i.toNatClampNeg (vp_nar .boolean x))) : T m pc lv (.int x :: .int i :: .ref k :: st) σ := hT _ _ _ _ _ _ _ _ _ (agI hD) (fun τ K q => z_zast hk hd hi d (by rw [mixI hD]; exact q)) kk
end PZ
end
