noncomputable section
noncomputable def Uf (P C : Nat → Int) (z : Int) : Nat → Int → Prop
  | 0, _ => False
  | n + 1, x => 0 ≤ x ∧ (x = z ∨ (x ≠ z ∧ C x.toNat ≤ 0 ∧ Uf P C z n (P x.toNat)))
noncomputable def Ur (P C : Nat → Int) (z x : Int) : Prop := ∃ n, Uf P C z n x
theorem ur_self {P C : Nat → Int} {z : Int} (h : 0 ≤ z) : Ur P C z z := ⟨1, h, Or.inl rfl⟩
theorem ur_neg {P C : Nat → Int} {z x : Int} (h : x < 0) : ¬ Ur P C z x := by
  rintro ⟨n, hn⟩
  cases n with
  | zero => exact hn
  | succ n =>
    have := hn.1
    omega
theorem ur_cut {P C : Nat → Int} {z x : Int} (hn : x ≠ z) (hc : 1 ≤ C x.toNat) : ¬ Ur P C z x := by
  rintro ⟨n, h⟩
  cases n with
  | zero => exact h
  | succ n =>
    rcases h.2 with e | ⟨_, e, _⟩
    · exact hn e
    · omega
theorem ur_step {P C : Nat → Int} {z x : Int} (h0 : 0 ≤ x) (hn : x ≠ z) (hc : C x.toNat ≤ 0) : Ur P C z x ↔ Ur P C z (P x.toNat) := by
  constructor
  · rintro ⟨n, h⟩
    cases n with
    | zero => exact False.elim h
    | succ n =>
      rcases h.2 with e | ⟨_, _, e⟩
      · exact absurd e hn
      · exact ⟨n, e⟩
  · rintro ⟨n, h⟩
    exact ⟨n + 1, h0, Or.inr ⟨hn, hc, h⟩⟩
noncomputable def wS (kP kC : Nat) (H : List (Nat × Int)) (σ : zS) : Prop :=
  (∀ z q x, lk H 530 = some z → lk H 531 = some q → lk H 532 = some x → (Ur (Pp σ kP) (Pp σ kC) z q ↔ Ur (Pp σ kP) (Pp σ kC) z x)) ∧
  ∀ z q r, lk H 530 = some z → lk H 531 = some q → lk H 533 = some r → (r = 0 ∨ r = 1) ∧ (r = 1 ↔ Ur (Pp σ kP) (Pp σ kC) z q)
noncomputable def wtg (t : Nat) : Bool := Nat.ble 530 t && Nat.ble t 533
theorem wtg_no {u : Nat} (h : wtg u = false) : ¬ (530 ≤ u ∧ u ≤ 533) := fun q => by
  have : wtg u = true := by
    show (Nat.ble 530 u && Nat.ble u 533) = true
    rw [Bool.and_eq_true]
    exact ⟨Nat.ble_eq_true_of_le q.1, Nat.ble_eq_true_of_le q.2⟩
  rw [this] at h
  cases h
noncomputable def cw9 (kP kC : Nat) : Cp := (wtg, (wS kP kC, (fun q => Nat.beq q kP || Nat.beq q kC, (fun _ hl _ _ _ => bif isS (lk hl 531) then none else some hl, nlw))))
theorem cw9_ok {T : Jx} {G : Gl} {kP kC : Nat} : CpOk T G (cw9 kP kC) := by
  apply CpOk.no (fun _ => rfl)
  have tin : ∀ u, 530 ≤ u → u ≤ 533 → wtg u = true := fun u h1 h2 => by
    show (Nat.ble 530 u && Nat.ble u 533) = true
    rw [Bool.and_eq_true]
    exact ⟨Nat.ble_eq_true_of_le h1, Nat.ble_eq_true_of_le h2⟩
  refine ⟨fun u hu => ?_, fun H H' σ σ' h1 h2 hS => ?_, ?_⟩
  · have hu : (Nat.ble 530 u && Nat.ble u 533) = true := hu
    rw [Bool.and_eq_true] at hu
    have := Nat.le_of_ble_eq_true hu.1
    omega
  · have r1 : Pp σ' kP = Pp σ kP := by
      funext y
      show (σ'.1 kP y).toInt = _
      rw [h2 kP (by show (Nat.beq kP kP || Nat.beq kP kC) = true; rw [Nat.beq_refl]; rfl)]
    have r2 : Pp σ' kC = Pp σ kC := by
      funext y
      show (σ'.1 kC y).toInt = _
      rw [h2 kC (by show (Nat.beq kC kP || Nat.beq kC kC) = true; rw [Nat.beq_refl, Bool.or_true])]
    have l : ∀ u, 530 ≤ u → u ≤ 533 → lk H' u = lk H u := fun u a b => h1 u (tin u a b)
    show wS kP kC H' σ'
    unfold wS
    rw [r1, r2, l 530 (by omega) (by omega), l 531 (by omega) (by omega), l 532 (by omega) (by omega), l 533 (by omega) (by omega)]
    exact hS
  · intro s ρ σ k p v j x hl hl' H ho hb hp hi hv hx hr hw hh hS
    replace hw : (bif isS (lk hl 531) then none else some hl) = some hl' := hw
    cases hc : isS (lk hl 531) with
    | true => rw [hc] at hw; cases hw
    | false =>
      rw [hc] at hw
      cases Option.some.inj hw
      have no : lk H 531 = none := by
        rcases hh.lkp (t := 531) with ⟨_, q2⟩ | ⟨a, z, q1, _, _⟩
        · exact q2
        · rw [q1] at hc; cases hc
      exact ⟨H, hh, ⟨fun z q x' _ b => (by rw [no] at b; cases b), fun z q r _ b => (by rw [no] at b; cases b)⟩, fun _ _ => rfl⟩
section H34
variable {T : Jx} {G : Gl} {cs : List Cp} {s : Sy} {ρ : List Int} {σ : zS} {kP kC : Nat}
noncomputable def h95 (a b : AV) (s : Sy) : Sy := bif (a.isI && b.isI) && ((!(isS (lk s.hl 530)) && !(isS (lk s.hl 531))) && (!(isS (lk s.hl 532)) && !(isS (lk s.hl 533)))) then (s.new [(0, 1)]).seth ((530, b) :: (531, a) :: (533, .i s.nx 0) :: s.hl) else s
theorem h95_ok (hP : PH T G cs (cw9 kP kC)) {a b : AV} {x y : Int} (ha : ev ρ a = some x) (hb : ev ρ b = some y) (ho : Ok (Jf T G (cS cs)) s ρ σ) : ∃ ρ', Pre ρ ρ' ∧ Ok (Jf T G (cS cs)) (h95 a b s) ρ' σ := by
  unfold h95
  cases hc : (a.isI && b.isI) && ((!(isS (lk s.hl 530)) && !(isS (lk s.hl 531))) && (!(isS (lk s.hl 532)) && !(isS (lk s.hl 533)))) with
  | false => exact ⟨ρ, Pre.rf, ho⟩
  | true =>
    simp only [Bool.and_eq_true] at hc
    obtain ⟨H, i1, i2⟩ := ho.inv
    have n532 := no_tag i1 hc.2.2.1
    obtain ⟨r, hr0, hr1⟩ : ∃ r : Int, (r = 0 ∨ r = 1) ∧ (r = 1 ↔ Ur (Pp σ kP) (Pp σ kC) y x) := by
      by_cases h : Ur (Pp σ kP) (Pp σ kC) y x
      · exact ⟨1, Or.inr rfl, fun _ => h, fun _ => rfl⟩
      · exact ⟨0, Or.inl rfl, fun e => (by cases e), fun q => absurd q h⟩
    have hq := ho.new (x := r) (d := [(0, 1)]) ⟨_, List.mem_cons_self .., by dsimp only; omega, by dsimp only; omega⟩
    have hp : Pre ρ (ρ ++ [r]) := ⟨_, rfl⟩
    refine ⟨ρ ++ [r], hp, ph_set (H := H) (H' := (530, y) :: (531, x) :: (533, r) :: H) hP hq i2 ⟨⟨rfl, ev.mono hp hb⟩, ⟨rfl, ev.mono hp ha⟩, ⟨rfl, ho.new_i⟩, i1.mono hp⟩ (fun u hu => ?_) ⟨fun z q x' _ _ b3 => ?_, fun z q r' b1 b2 b3 => ?_⟩⟩
    · have := wtg_no hu
      rw [lk_cons, if_neg (by omega), lk_cons, if_neg (by omega), lk_cons, if_neg (by omega)]
    · rw [lk_cons, if_neg (by decide), lk_cons, if_neg (by decide), lk_cons, if_neg (by decide), n532] at b3
      cases b3
    · rw [lk_cons, if_pos rfl] at b1
      rw [lk_cons, if_neg (by decide), lk_cons, if_pos rfl] at b2
      rw [lk_cons, if_neg (by decide), lk_cons, if_neg (by decide), lk_cons, if_pos rfl] at b3
      rw [← Option.some.inj b1, ← Option.some.inj b2, ← Option.some.inj b3]
      exact ⟨hr0, hr1⟩
noncomputable def h96 (s : Sy) : Sy := match lk s.hl 530 with
  | some _ => match lk s.hl 531 with
    | some q => bif !(isS (lk s.hl 532)) then s.seth (hset 532 q s.hl) else s
    | none => s
  | none => s
theorem h96_ok (hP : PH T G cs (cw9 kP kC)) (ho : Ok (Jf T G (cS cs)) s ρ σ) : Ok (Jf T G (cS cs)) (h96 s) ρ σ := by
  unfold h96
  split
  · rename_i z0 qz
    split
    · rename_i q qq
      cases hc : !(isS (lk s.hl 532)) with
      | false => exact ho
      | true =>
        obtain ⟨H, i1, i2⟩ := ho.inv
        obtain ⟨w1, w2⟩ := (i2.2.2 _ hP.2.2.1 : wS kP kC H σ)
        obtain ⟨zq, q1, q2⟩ := tag_get ho i1 qq
        refine ph_set hP ho i2 (i1.set q2) (fun u hu => ?_) ⟨fun z q' x b1 b2 b3 => ?_, fun z q' r b1 b2 b3 => ?_⟩
        · have := wtg_no hu
          rw [lk_hset, if_neg (by omega)]
        · rw [lk_hset, if_neg (by decide), q1] at b2
          rw [lk_hset, if_pos rfl] at b3
          rw [← Option.some.inj b2, ← Option.some.inj b3]
        · rw [lk_hset, if_neg (by decide)] at b1 b2 b3
          exact w2 z q' r b1 b2 b3
    · exact ho
  · exact ho
/-- x isn't z -/
noncomputable def wne (s : Sy) (x z : AV) : Bool := leAV s (shA x 1) z || leAV s (shA z 1) x
theorem wne_ok {J : Jt} {x z : AV} {zx zz : Int} (ho : Ok J s ρ σ) (hx : ev ρ x = some zx) (hz : ev ρ z = some zz) (h : wne s x z = true) : zx ≠ zz := by
  unfold wne at h
  rw [Bool.or_eq_true] at h
  rcases h with h | h
  · have := leAV_ok ho h (shA_ev hx) hz
    omega
  · have := leAV_ok ho h (shA_ev hz) hx
    omega
/-- from x it goes on to v -/
noncomputable def wgo (kP kC : Nat) (s : Sy) (x z : AV) : Option AV := bif wne s x z && leAV s (.c 0) x then (match oth s kC x with
  | some c => bif leAV s c (.c 0) then oth s kP x else none
  | none => none) else none
theorem wgo_ok {J : Jt} {x z v : AV} {zx zz : Int} (ho : Ok J s ρ σ) (hx : ev ρ x = some zx) (hz : ev ρ z = some zz) (h : wgo kP kC s x z = some v) : ∃ zv, ev ρ v = some zv ∧ (Ur (Pp σ kP) (Pp σ kC) zz zx ↔ Ur (Pp σ kP) (Pp σ kC) zz zv) := by
  unfold wgo at h
  cases hb : wne s x z && leAV s (.c 0) x with
  | false => rw [hb] at h; cases h
  | true =>
    rw [hb] at h
    rw [Bool.and_eq_true] at hb
    simp only [cond_true] at h
    have hn := wne_ok ho hx hz hb.1
    have h0 := leAV_ok ho hb.2 (x := 0) rfl hx
    obtain ⟨j, hj⟩ : ∃ j : Nat, zx = (j : Int) := ⟨zx.toNat, by omega⟩
    rw [hj] at hx
    split at h
    · rename_i c hc
      cases hl : leAV s c (.c 0) with
      | false => rw [hl] at h; cases h
      | true =>
        rw [hl] at h
        simp only [cond_true] at h
        have c1 := (oth_ok ho hc hx).2
        have c2 := leAV_ok ho hl c1 (y := 0) rfl
        have v1 := (oth_ok ho h hx).2
        have ej : zx.toNat = j := by omega
        refine ⟨_, v1, ?_⟩
        have := ur_step (P := Pp σ kP) (C := Pp σ kC) (z := zz) (x := zx) h0 hn (by rw [ej]; exact c2)
        rw [ej] at this
        exact this
    · cases h
noncomputable def h97 (kP kC : Nat) (a : AV) (s : Sy) : Sy := match lk s.hl 530 with
  | some z => match lk s.hl 531 with
    | some _ => match lk s.hl 532 with
      | some x => match wgo kP kC s x z with
        | some v => bif eqA s v a then s.seth (hup 532 a s.hl) else s
        | none => s
      | none => s
    | none => s
  | none => s
theorem h97_ok (hP : PH T G cs (cw9 kP kC)) {a : AV} {y : Int} (hz : ev ρ a = some y) (ho : Ok (Jf T G (cS cs)) s ρ σ) : Ok (Jf T G (cS cs)) (h97 kP kC a s) ρ σ := by
  unfold h97
  split
  · rename_i z qz
    split
    · rename_i q qq
      split
      · rename_i x qx
        split
        · rename_i v hv
          cases hc : eqA s v a with
          | false => exact ho
          | true =>
            obtain ⟨H, i1, i2⟩ := ho.inv
            obtain ⟨w1, w2⟩ := (i2.2.2 _ hP.2.2.1 : wS kP kC H σ)
            obtain ⟨zz, z1, z2⟩ := tag_get ho i1 qz
            obtain ⟨zq, q1, q2⟩ := tag_get ho i1 qq
            obtain ⟨zx, x1, x2⟩ := tag_get ho i1 qx
            obtain ⟨zv, v1, v2⟩ := wgo_ok ho x2 z2 hv
            have e := eqA_ok ho hc v1 hz
            refine ph_set hP ho i2 (i1.up hz) (fun u hu => lk_hup_ne (fun e => wtg_no hu (by omega))) ⟨fun z' q' x' b1 b2 b3 => ?_, fun z' q' r b1 b2 b3 => ?_⟩
            · rw [lk_hup_ne (by decide), z1] at b1
              rw [lk_hup_ne (by decide), q1] at b2
              rw [lk_hup_at x1] at b3
              rw [← Option.some.inj b1, ← Option.some.inj b2, ← Option.some.inj b3, ← e]
              exact (w1 zz zq zx z1 q1 x1).trans v2
            · rw [lk_hup_ne (by decide)] at b1 b2 b3
              exact w2 z' q' r b1 b2 b3
        · exact ho
      · exact ho
    · exact ho
  · exact ho
/-- r is 1; r is 0 -/
noncomputable def w98y (s : Sy) (x z : AV) : Bool := leAV s (.c 0) x && eqA s x z
noncomputable def w98n (kP kC : Nat) (s : Sy) (x z : AV) : Bool := leAV s x (.c (-1)) || (((wne s x z && leAV s (.c 0) x) && (match oth s kC x with
  | some c => leAV s (.c 1) c
  | none => false)) || (match wgo kP kC s x z with
  | some v => leAV s v (.c (-1))
  | none => false))
theorem w98n_ok {J : Jt} {x z : AV} {zx zz : Int} (ho : Ok J s ρ σ) (hx : ev ρ x = some zx) (hz : ev ρ z = some zz) (h : w98n kP kC s x z = true) : ¬ Ur (Pp σ kP) (Pp σ kC) zz zx := by
  unfold w98n at h
  simp only [Bool.or_eq_true, Bool.and_eq_true] at h
  rcases h with h | ⟨⟨h1, h2⟩, h3⟩ | h
  · have := leAV_ok ho h hx (y := -1) rfl
    exact ur_neg (by omega)
  · have hn := wne_ok ho hx hz h1
    have h0 := leAV_ok ho h2 (x := 0) rfl hx
    obtain ⟨j, hj⟩ : ∃ j : Nat, zx = (j : Int) := ⟨zx.toNat, by omega⟩
    have ej : zx.toNat = j := by omega
    rw [hj] at hx
    split at h3
    · rename_i c hc
      have := leAV_ok ho h3 (x := 1) rfl (oth_ok ho hc hx).2
      exact ur_cut hn (by rw [ej]; exact this)
    · cases h3
  · split at h
    · rename_i v hv
      obtain ⟨zv, v1, v2⟩ := wgo_ok ho hx hz hv
      have := leAV_ok ho h v1 (y := -1) rfl
      exact fun q => ur_neg (by omega) (v2.mp q)
    · cases h
noncomputable def h98 (kP kC : Nat) (s : Sy) : Option Sy := match lk s.hl 530 with
  | some z => match lk s.hl 531 with
    | some _ => match lk s.hl 532 with
      | some x => match lk s.hl 533 with
        | some r => bif isS (edom s r) then (bif w98y s x z then s.refd r [(1, 1)] else bif w98n kP kC s x z then s.refd r [(0, 0)] else some s) else some s
        | none => some s
      | none => some s
    | none => some s
  | none => some s
theorem h98_ok (hm : cw9 kP kC ∈ cs) (ho : Ok (Jf T G (cS cs)) s ρ σ) : ∃ s', h98 kP kC s = some s' ∧ Ok (Jf T G (cS cs)) s' ρ σ := by
  unfold h98
  split
  · rename_i z qz
    split
    · rename_i q qq
      split
      · rename_i x qx
        split
        · rename_i r qr
          cases he : isS (edom s r) with
          | false => exact ⟨s, rfl, ho⟩
          | true =>
            simp only [cond_true]
            obtain ⟨H, i1, i2⟩ := ho.inv
            obtain ⟨w1, w2⟩ := (i2.2.2 _ hm : wS kP kC H σ)
            obtain ⟨zz, z1, z2⟩ := tag_get ho i1 qz
            obtain ⟨zq, q1, q2⟩ := tag_get ho i1 qq
            obtain ⟨zx, x1, x2⟩ := tag_get ho i1 qx
            obtain ⟨zr, r1, r2⟩ := tag_get ho i1 qr
            obtain ⟨p1, p2⟩ := w2 zz zq zr z1 q1 r1
            have p3 := w1 zz zq zx z1 q1 x1
            have hd := edom_ok' ho he r2
            cases hy : w98y s x z with
            | true =>
              simp only [cond_true]
              have hy : (leAV s (.c 0) x && eqA s x z) = true := hy
              rw [Bool.and_eq_true] at hy
              have g := leAV_ok ho hy.1 (x := 0) rfl x2
              have e := eqA_ok ho hy.2 x2 z2
              have er : zr = 1 := p2.mpr (p3.mpr (by rw [e]; exact ur_self (by omega)))
              exact refd_ok ho r2 hd ⟨_, List.mem_cons_self .., by rw [er]; exact Int.le_refl _, by rw [er]; exact Int.le_refl _⟩
            | false =>
              simp only [cond_false]
              cases hn : w98n kP kC s x z with
              | false => exact ⟨s, rfl, ho⟩
              | true =>
                simp only [cond_true]
                have nu := w98n_ok ho x2 z2 hn
                have er : zr = 0 := by
                  rcases p1 with e | e
                  · exact e
                  · exact absurd (p3.mp (p2.mp e)) nu
                exact refd_ok ho r2 hd ⟨_, List.mem_cons_self .., by rw [er]; exact Int.le_refl _, by rw [er]; exact Int.le_refl _⟩
        · exact ⟨s, rfl, ho⟩
      · exact ⟨s, rfl, ho⟩
    · exact ⟨s, rfl, ho⟩
  · exact ⟨s, rfl, ho⟩
noncomputable def h99 (s : Sy) : Sy := s.seth (hdel 530 (hdel 531 (hdel 532 (hdel 533 s.hl))))
theorem h99_ok (hP : PH T G cs (cw9 kP kC)) (ho : Ok (Jf T G (cS cs)) s ρ σ) : Ok (Jf T G (cS cs)) (h99 s) ρ σ := by
  obtain ⟨H, i1, i2⟩ := ho.inv
  refine ph_set hP ho i2 ((((i1.del).del).del).del) (fun u hu => ?_) ⟨fun z q x b => ?_, fun z q r b => ?_⟩
  · have := wtg_no hu
    rw [lk_hdel, if_neg (by omega), lk_hdel, if_neg (by omega), lk_hdel, if_neg (by omega), lk_hdel, if_neg (by omega)]
  · rw [lk_hdel, if_pos rfl] at b; cases b
  · rw [lk_hdel, if_pos rfl] at b; cases b
noncomputable def h100 (s : Sy) : Sy := s.seth (hdel 532 s.hl)
theorem h100_ok (hP : PH T G cs (cw9 kP kC)) (ho : Ok (Jf T G (cS cs)) s ρ σ) : Ok (Jf T G (cS cs)) (h100 s) ρ σ := by
  obtain ⟨H, i1, i2⟩ := ho.inv
  obtain ⟨w1, w2⟩ := (i2.2.2 _ hP.2.2.1 : wS kP kC H σ)
  refine ph_set hP ho i2 (i1.del) (fun u hu => ?_) ⟨fun z q x _ _ b => ?_, fun z q r b1 b2 b3 => ?_⟩
  · have := wtg_no hu
    rw [lk_hdel, if_neg (by omega)]
  · rw [lk_hdel, if_pos rfl] at b; cases b
  · rw [lk_hdel, if_neg (by decide)] at b1 b2 b3
    exact w2 z q r b1 b2 b3
end H34
end
