section
noncomputable section
/-! ===== WHAT ELSE HOLDS, 32: under, over the class's rows: 530 z, 531 q, 532 x (under for q just where for x), 533 r (1 just where q is under z); hints 95 .. 100 ===== -/
def Uf (P C : Nat → Int) (z : Int) : Nat → Int → Prop
  | 0, _ => False
  | n + 1, x => 0 ≤ x ∧ (x = z ∨ (x ≠ z ∧ C x.toNat ≤ 0 ∧ Uf P C z n (P x.toNat)))
def Ur (P C : Nat → Int) (z x : Int) : Prop := ∃ n, Uf P C z n x
theorem ur_self {P C : Nat → Int} {z : Int} (h : 0 ≤ z) : Ur P C z z := ⟨1, h, Or.inl rfl⟩
theorem ur_neg {P C : Nat → Int} {z x : Int} (h : x < 0) : ¬ Ur P C z x := by
  rintro ⟨n, hn⟩
  cases n with
  | zero => exact hn
  | succ n =>
    have := hn.1
    omega
theorem ur_cut {P C : Nat → Int} {z x : Int} (hn : x ≠ z) (hc : 1 ≤ C x.toNat) : ¬ Ur P C z x := by
  rintro ⟨n, h⟩
  cases n with
  | zero => exact h
  | succ n =>
    rcases h.2 with e | ⟨_, e, _⟩
    · exact hn e
    · omega
theorem ur_step {P C : Nat → Int} {z x : Int} (h0 : 0 ≤ x) (hn : x ≠ z) (hc : C x.toNat ≤ 0) : Ur P C z x ↔ Ur P C z (P x.toNat) := by
  constructor
  · rintro ⟨n, h⟩
    cases n with
    | zero => exact False.elim h
    | succ n =>
      rcases h.2 with e | ⟨_, _, e⟩
      · exact absurd e hn
      · exact ⟨n, e⟩
  · rintro ⟨n, h⟩
    exact ⟨n + 1, h0, Or.inr ⟨hn, hc, h⟩⟩
def wS (kP kC : Nat) (H : List (Nat × Int)) (σ : zS) : Prop :=
  (∀ z q x, lk H 530 = some z → lk H 531 = some q → lk H 532 = some x → (Ur (Pp σ kP) (Pp σ kC) z q ↔ Ur (Pp σ kP) (Pp σ kC) z x)) ∧
  ∀ z q r, lk H 530 = some z → lk H 531 = some q → lk H 533 = some r → (r = 0 ∨ r = 1) ∧ (r = 1 ↔ Ur (Pp σ kP) (Pp σ kC) z q)
def wtg (t : Nat) : Bool := Nat.ble 530 t && Nat.ble t 533
theorem wtg_no {u : Nat} (h : wtg u = false) : ¬ (530 ≤ u ∧ u ≤ 533) := fun q => by
  have : wtg u = true := by
    show (Nat.ble 530 u && Nat.ble u 533) = true
    rw [Bool.and_eq_true]
    exact ⟨Nat.ble_eq_true_of_le q.1, Nat.ble_eq_true_of_le q.2⟩
  rw [this] at h
  cases h
def cw9 (kP kC : Nat) : Cp := (wtg, (wS kP kC, (fun q => Nat.beq q kP || Nat.beq q kC, (fun _ hl _ _ _ => bif isS (lk hl 531) then none else some hl, nlw))))
theorem cw9_ok {T : Jx} {G : Gl} {kP kC : Nat} : CpOk T G (cw9 kP kC) := by
  apply CpOk.no (fun _ => rfl)
  have tin : ∀ u, 530 ≤ u → u ≤ 533 → wtg u = true := fun u h1 h2 => by
    show (Nat.ble 530 u && Nat.ble u 533) = true
    rw [Bool.and_eq_true]
    exact ⟨Nat.ble_eq_true_of_le h1, Nat.ble_eq_true_of_le h2⟩
  refine ⟨fun u hu => ?_, fun H H' σ σ' h1 h2 hS => ?_, ?_⟩
  · have hu : (Nat.ble 530 u && Nat.ble u 533) = true := hu
    rw [Bool.and_eq_true] at hu
    have := Nat.le_of_ble_eq_true hu.1
    omega
  · have r1 : Pp σ' kP = Pp σ kP := by
      funext y
      show (σ'.1 kP y).toInt = _
      rw [h2 kP (by show (Nat.beq kP kP || Nat.beq kP kC) = true; rw [Nat.beq_refl]; rfl)]
    have r2 : Pp σ' kC = Pp σ kC := by
      funext y
      show (σ'.1 kC y).toInt = _
      rw [h2 kC (by show (Nat.beq kC kP || Nat.beq kC kC) = true; rw [Nat.beq_refl, Bool.or_true])]
    have l : ∀ u, 530 ≤ u → u ≤ 533 → lk H' u = lk H u := fun u a b => h1 u (tin u a b)
    show wS kP kC H' σ'
    unfold wS
    rw [r1, r2, l 530 (by omega) (by omega), l 531 (by omega) (by omega), l 532 (by omega) (by omega), l 533 (by omega) (by omega)]
    exact hS
  · intro s ρ σ k p v j x hl hl' H ho hb hp hi hv hx hr hw hh hS
    replace hw : (bif isS (lk hl 531) then none else some hl) = some hl' := hw
    cases hc : isS (lk hl 531) with
    | true => rw [hc] at hw; cases hw
    | false =>
      rw [hc] at hw
      cases Option.some.inj hw
      have no : lk H 531 = none := by
        rcases hh.lkp (t := 531) with ⟨_, q2⟩ | ⟨a, z, q1, _, _⟩
        · exact q2
        · rw [q1] at hc; cases hc
      exact ⟨H, hh, ⟨fun z q x' _ b => (by rw [no] at b; cases b), fun z q r _ b => (by rw [no] at b; cases b)⟩, fun _ _ => rfl⟩
section H34
variable {T : Jx} {G : Gl} {cs : List Cp} {s : Sy} {ρ : List Int} {σ : zS} {kP kC : Nat}
def h95 (a b : AV) (s : Sy) : Sy := bif (a.isI && b.isI) && ((!(isS (lk s.hl 530)) && !(isS (lk s.hl 531))) && (!(isS (lk s.hl 532)) && !(isS (lk s.hl 533)))) then (s.new [(0, 1)]).seth ((530, b) :: (531, a) :: (533, .i s.nx 0) :: s.hl) else s
theorem h95_ok (hP : PH T G cs (cw9 kP kC)) {a b : AV} {x y : Int} (ha : ev ρ a = some x) (hb : ev ρ b = some y) (ho : Ok (Jf T G (cS cs)) s ρ σ) : ∃ ρ', Pre ρ ρ' ∧ Ok (Jf T G (cS cs)) (h95 a b s) ρ' σ := by
  unfold h95
  cases hc : (a.isI && b.isI) && ((!(isS (lk s.hl 530)) && !(isS (lk s.hl 531))) && (!(isS (lk s.hl 532)) && !(isS (lk s.hl 533)))) with
  | false => exact ⟨ρ, Pre.rf, ho⟩
  | true =>
    simp only [Bool.and_eq_true] at hc
    obtain ⟨H, i1, i2⟩ := ho.inv
    have n532 := no_tag i1 hc.2.2.1
    obtain ⟨r, hr0, hr1⟩ : ∃ r : Int, (r = 0 ∨ r = 1) ∧ (r = 1 ↔ Ur (Pp σ kP) (Pp σ kC) y x) := by
      by_cases h : Ur (Pp σ kP) (Pp σ kC) y x
      · exact ⟨1, Or.inr rfl, fun _ => h, fun _ => rfl⟩
      · exact ⟨0, Or.inl rfl, fun e => (by cases e), fun q => absurd q h⟩
    have hq := ho.new (x := r) (d := [(0, 1)]) ⟨_, List.mem_cons_self .., by dsimp only; omega, by dsimp only; omega⟩
    have hp : Pre ρ (ρ ++ [r]) := ⟨_, rfl⟩
    refine ⟨ρ ++ [r], hp, ph_set (H := H) (H' := (530, y) :: (531, x) :: (533, r) :: H) hP hq i2 ⟨⟨rfl, ev.mono hp hb⟩, ⟨rfl, ev.mono hp ha⟩, ⟨rfl, ho.new_i⟩, i1.mono hp⟩ (fun u hu => ?_) ⟨fun z q x' _ _ b3 => ?_, fun z q r' b1 b2 b3 => ?_⟩⟩
    · have := wtg_no hu
      rw [lk_cons, if_neg (by omega), lk_cons, if_neg (by omega), lk_cons, if_neg (by omega)]
    · rw [lk_cons, if_neg (by decide), lk_cons, if_neg (by decide), lk_cons, if_neg (by decide), n532] at b3
      cases b3
    · rw [lk_cons, if_pos rfl] at b1
      rw [lk_cons, if_neg (by decide), lk_cons, if_pos rfl] at b2
      rw [lk_cons, if_neg (by decide), lk_cons, if_neg (by decide), lk_cons, if_pos rfl] at b3
      rw [← Option.some.inj b1, ← Option.some.inj b2, ← Option.some.inj b3]
      exact ⟨hr0, hr1⟩
def h96 (s : Sy) : Sy := match lk s.hl 530 with
  | some _ => match lk s.hl 531 with
    | some q => bif !(isS (lk s.hl 532)) then s.seth (hset 532 q s.hl) else s
    | none => s
  | none => s
theorem h96_ok (hP : PH T G cs (cw9 kP kC)) (ho : Ok (Jf T G (cS cs)) s ρ σ) : Ok (Jf T G (cS cs)) (h96 s) ρ σ := by
  unfold h96
  split
  · rename_i z0 qz
    split
    · rename_i q qq
      cases hc : !(isS (lk s.hl 532)) with
      | false => exact ho
      | true =>
        obtain ⟨H, i1, i2⟩ := ho.inv
        obtain ⟨w1, w2⟩ := (i2.2.2 _ hP.2.2.1 : wS kP kC H σ)
        obtain ⟨zq, q1, q2⟩ := tag_get ho i1 qq
        refine ph_set hP ho i2 (i1.set q2) (fun u hu => ?_) ⟨fun z q' x b1 b2 b3 => ?_, fun z q' r b1 b2 b3 => ?_⟩
        · have := wtg_no hu
          rw [lk_hset, if_neg (by omega)]
        · rw [lk_hset, if_neg (by decide), q1] at b2
          rw [lk_hset, if_pos rfl] at b3
          rw [← Option.some.inj b2, ← Option.some.inj b3]
        · rw [lk_hset, if_neg (by decide)] at b1 b2 b3
          exact w2 z q' r b1 b2 b3
    · exact ho
  · exact ho
/-- x isn't z -/
def wne (s : Sy) (x z : AV) : Bool := leAV s (shA x 1) z || leAV s (shA z 1) x
theorem wne_ok {J : Jt} {x z : AV} {zx zz : Int} (ho : Ok J s ρ σ) (hx : ev ρ x = some zx) (hz : ev ρ z = some zz) (h : wne s x z = true) : zx ≠ zz := by
  unfold wne at h
  rw [Bool.or_eq_true] at h
  rcases h with h | h
  · have := leAV_ok ho h (shA_ev hx) hz
    omega
  · have := leAV_ok ho h (shA_ev hz) hx
    omega
/-- from x it goes on to v -/
def wgo (kP kC : Nat) (s : Sy) (x z : AV) : Option AV := bif wne s x z && leAV s (.c 0) x then (match oth s kC x with
  | some c => bif leAV s c (.c 0) then oth s kP x else none
  | none => none) else none
theorem wgo_ok {J : Jt} {x z v : AV} {zx zz : Int} (ho : Ok J s ρ σ) (hx : ev ρ x = some zx) (hz : ev ρ z = some zz) (h : wgo kP kC s x z = some v) : ∃ zv, ev ρ v = some zv ∧ (Ur (Pp σ kP) (Pp σ kC) zz zx ↔ Ur (Pp σ kP) (Pp σ kC) zz zv) := by
  unfold wgo at h
  cases hb : wne s x z && leAV s (.c 0) x with
  | false => rw [hb] at h; cases h
  | true =>
    rw [hb] at h
    rw [Bool.and_eq_true] at hb
    simp only [cond_true] at h
    have hn := wne_ok ho hx hz hb.1
    have h0 := leAV_ok ho hb.2 (x := 0) rfl hx
    obtain ⟨j, hj⟩ : ∃ j : Nat, zx = (j : Int) := ⟨zx.toNat, by omega⟩
    rw [hj] at hx
    split at h
    · rename_i c hc
      cases hl : leAV s c (.c 0) with
      | false => rw [hl] at h; cases h
      | true =>
        rw [hl] at h
        simp only [cond_true] at h
        have c1 := (oth_ok ho hc hx).2
        have c2 := leAV_ok ho hl c1 (y := 0) rfl
        have v1 := (oth_ok ho h hx).2
        have ej : zx.toNat = j := by omega
        refine ⟨_, v1, ?_⟩
        have := ur_step (P := Pp σ kP) (C := Pp σ kC) (z := zz) (x := zx) h0 hn (by rw [ej]; exact c2)
        rw [ej] at this
        exact this
    · cases h
def h97 (kP kC : Nat) (a : AV) (s : Sy) : Sy := match lk s.hl 530 with
  | some z => match lk s.hl 531 with
    | some _ => match lk s.hl 532 with
      | some x => match wgo kP kC s x z with
        | some v => bif eqA s v a then s.seth (hup 532 a s.hl) else s
        | none => s
      | none => s
    | none => s
  | none => s
theorem h97_ok (hP : PH T G cs (cw9 kP kC)) {a : AV} {y : Int} (hz : ev ρ a = some y) (ho : Ok (Jf T G (cS cs)) s ρ σ) : Ok (Jf T G (cS cs)) (h97 kP kC a s) ρ σ := by
  unfold h97
  split
  · rename_i z qz
    split
    · rename_i q qq
      split
      · rename_i x qx
        split
        · rename_i v hv
          cases hc : eqA s v a with
          | false => exact ho
          | true =>
            obtain ⟨H, i1, i2⟩ := ho.inv
            obtain ⟨w1, w2⟩ := (i2.2.2 _ hP.2.2.1 : wS kP kC H σ)
            obtain ⟨zz, z1, z2⟩ := tag_get ho i1 qz
            obtain ⟨zq, q1, q2⟩ := tag_get ho i1 qq
            obtain ⟨zx, x1, x2⟩ := tag_get ho i1 qx
            obtain ⟨zv, v1, v2⟩ := wgo_ok ho x2 z2 hv
            have e := eqA_ok ho hc v1 hz
            refine ph_set hP ho i2 (i1.up hz) (fun u hu => lk_hup_ne (fun e => wtg_no hu (by omega))) ⟨fun z' q' x' b1 b2 b3 => ?_, fun z' q' r b1 b2 b3 => ?_⟩
            · rw [lk_hup_ne (by decide), z1] at b1
              rw [lk_hup_ne (by decide), q1] at b2
              rw [lk_hup_at x1] at b3
              rw [← Option.some.inj b1, ← Option.some.inj b2, ← Option.some.inj b3, ← e]
              exact (w1 zz zq zx z1 q1 x1).trans v2
            · rw [lk_hup_ne (by decide)] at b1 b2 b3
              exact w2 z' q' r b1 b2 b3
        · exact ho
      · exact ho
    · exact ho
  · exact ho
/-- r is 1; r is 0 -/
def w98y (s : Sy) (x z : AV) : Bool := leAV s (.c 0) x && eqA s x z
def w98n (kP kC : Nat) (s : Sy) (x z : AV) : Bool := leAV s x (.c (-1)) || (((wne s x z && leAV s (.c 0) x) && (match oth s kC x with
  | some c => leAV s (.c 1) c
  | none => false)) || (match wgo kP kC s x z with
  | some v => leAV s v (.c (-1))
  | none => false))
theorem w98n_ok {J : Jt} {x z : AV} {zx zz : Int} (ho : Ok J s ρ σ) (hx : ev ρ x = some zx) (hz : ev ρ z = some zz) (h : w98n kP kC s x z = true) : ¬ Ur (Pp σ kP) (Pp σ kC) zz zx := by
  unfold w98n at h
  simp only [Bool.or_eq_true, Bool.and_eq_true] at h
  rcases h with h | ⟨⟨h1, h2⟩, h3⟩ | h
  · have := leAV_ok ho h hx (y := -1) rfl
    exact ur_neg (by omega)
  · have hn := wne_ok ho hx hz h1
    have h0 := leAV_ok ho h2 (x := 0) rfl hx
    obtain ⟨j, hj⟩ : ∃ j : Nat, zx = (j : Int) := ⟨zx.toNat, by omega⟩
    have ej : zx.toNat = j := by omega
    rw [hj] at hx
    split at h3
    · rename_i c hc
      have := leAV_ok ho h3 (x := 1) rfl (oth_ok ho hc hx).2
      exact ur_cut hn (by rw [ej]; exact this)
    · cases h3
  · split at h
    · rename_i v hv
      obtain ⟨zv, v1, v2⟩ := wgo_ok ho hx hz hv
      have := leAV_ok ho h v1 (y := -1) rfl
      exact fun q => ur_neg (by omega) (v2.mp q)
    · cases h
def h98 (kP kC : Nat) (s : Sy) : Option Sy := match lk s.hl 530 with
  | some z => match lk s.hl 531 with
    | some _ => match lk s.hl 532 with
      | some x => match lk s.hl 533 with
        | some r => bif isS (edom s r) then (bif w98y s x z then s.refd r [(1, 1)] else bif w98n kP kC s x z then s.refd r [(0, 0)] else some s) else some s
        | none => some s
      | none => some s
    | none => some s
  | none => some s
theorem h98_ok (hm : cw9 kP kC ∈ cs) (ho : Ok (Jf T G (cS cs)) s ρ σ) : ∃ s', h98 kP kC s = some s' ∧ Ok (Jf T G (cS cs)) s' ρ σ := by
  unfold h98
  split
  · rename_i z qz
    split
    · rename_i q qq
      split
      · rename_i x qx
        split
        · rename_i r qr
          cases he : isS (edom s r) with
          | false => exact ⟨s, rfl, ho⟩
          | true =>
            simp only [cond_true]
            obtain ⟨H, i1, i2⟩ := ho.inv
            obtain ⟨w1, w2⟩ := (i2.2.2 _ hm : wS kP kC H σ)
            obtain ⟨zz, z1, z2⟩ := tag_get ho i1 qz
            obtain ⟨zq, q1, q2⟩ := tag_get ho i1 qq
            obtain ⟨zx, x1, x2⟩ := tag_get ho i1 qx
            obtain ⟨zr, r1, r2⟩ := tag_get ho i1 qr
            obtain ⟨p1, p2⟩ := w2 zz zq zr z1 q1 r1
            have p3 := w1 zz zq zx z1 q1 x1
            have hd := edom_ok' ho he r2
            cases hy : w98y s x z with
            | true =>
              simp only [cond_true]
              have hy : (leAV s (.c 0) x && eqA s x z) = true := hy
              rw [Bool.and_eq_true] at hy
              have g := leAV_ok ho hy.1 (x := 0) rfl x2
              have e := eqA_ok ho hy.2 x2 z2
              have er : zr = 1 := p2.mpr (p3.mpr (by rw [e]; exact ur_self (by omega)))
              exact refd_ok ho r2 hd ⟨_, List.mem_cons_self .., by rw [er]; exact Int.le_refl _, by rw [er]; exact Int.le_refl _⟩
            | false =>
              simp only [cond_false]
              cases hn : w98n kP kC s x z with
              | false => exact ⟨s, rfl, ho⟩
              | true =>
                simp only [cond_true]
                have nu := w98n_ok ho x2 z2 hn
                have er : zr = 0 := by
                  rcases p1 with e | e
                  · exact e
                  · exact absurd (p3.mp (p2.mp e)) nu
                exact refd_ok ho r2 hd ⟨_, List.mem_cons_self .., by rw [er]; exact Int.le_refl _, by rw [er]; exact Int.le_refl _⟩
        · exact ⟨s, rfl, ho⟩
      · exact ⟨s, rfl, ho⟩
    · exact ⟨s, rfl, ho⟩
  · exact ⟨s, rfl, ho⟩
def h99 (s : Sy) : Sy := s.seth (hdel 530 (hdel 531 (hdel 532 (hdel 533 s.hl))))
theorem h99_ok (hP : PH T G cs (cw9 kP kC)) (ho : Ok (Jf T G (cS cs)) s ρ σ) : Ok (Jf T G (cS cs)) (h99 s) ρ σ := by
  obtain ⟨H, i1, i2⟩ := ho.inv
  refine ph_set hP ho i2 ((((i1.del).del).del).del) (fun u hu => ?_) ⟨fun z q x b => ?_, fun z q r b => ?_⟩
  · have := wtg_no hu
    rw [lk_hdel, if_neg (by omega), lk_hdel, if_neg (by omega), lk_hdel, if_neg (by omega), lk_hdel, if_neg (by omega)]
  · rw [lk_hdel, if_pos rfl] at b; cases b
  · rw [lk_hdel, if_pos rfl] at b; cases b
def h100 (s : Sy) : Sy := s.seth (hdel 532 s.hl)
theorem h100_ok (hP : PH T G cs (cw9 kP kC)) (ho : Ok (Jf T G (cS cs)) s ρ σ) : Ok (Jf T G (cS cs)) (h100 s) ρ σ := by
  obtain ⟨H, i1, i2⟩ := ho.inv
  obtain ⟨w1, w2⟩ := (i2.2.2 _ hP.2.2.1 : wS kP kC H σ)
  refine ph_set hP ho i2 (i1.del) (fun u hu => ?_) ⟨fun z q x _ _ b => ?_, fun z q r b1 b2 b3 => ?_⟩
  · have := wtg_no hu
    rw [lk_hdel, if_neg (by omega)]
  · rw [lk_hdel, if_pos rfl] at b; cases b
  · rw [lk_hdel, if_neg (by decide)] at b1 b2 b3
    exact w2 z q r b1 b2 b3
end H34
end
end
section
noncomputable section
/-! ===== what holds all through: bounds, columns, rows that go together ===== -/
def d9_0 : Dom := [(0, 200)]
def d9_1 : Dom := [(0, 20)]
def d9_2 : Dom := [(0, 1200)]
def d9_3 : Dom := [(0, 1000000000)]
def d9_4 : Dom := [(0, 7)]
def d9_5 : Dom := [(0, 19)]
def d9_6 : Dom := [(0, 9600)]
def d9_7 : Dom := [(0, 8)]
def d9_8 : Dom := [(0, 5)]
def d9_9 : Dom := [(0, 3)]
def d9_10 : Dom := [(0, 1)]
def d9_11 : Dom := [(0, 10)]
def d9_12 : Dom := [(0, 40)]
def d9_13 : Dom := [(0, 39)]
def d9_14 : Dom := [(0, 60)]
def d9_15 : Dom := [(0, 6)]
def d9_16 : Dom := [(0, 240)]
def d9_17 : Dom := [(0, 30)]
def d9_18 : Dom := [(0, 255)]
def d9_19 : Dom := [(0, 15)]
def d9_20 : Dom := [(0, 16)]
def d9_21 : Dom := [(0, 12)]
def d9_22 : Dom := [(0, 11)]
def d9_23 : Dom := [(0, 1301)]
def d9_24 : Dom := [(0, 1300)]
def v9_0 : AV := .inl (0, 0)
def v9_1 : AV := .inl (1, 0)
def v9_2 : AV := .inl (2, 0)
def v9_3 : AV := .inl (3, 0)
def v9_4 : AV := .inl (4, 0)
def v9_5 : AV := .inl (5, 0)
def v9_6 : AV := .inl (6, 0)
def v9_7 : AV := .inl (7, 0)
def v9_8 : AV := .inl (8, 0)
def v9_9 : AV := .inl (9, 0)
def v9_10 : AV := .inl (10, 0)
def v9_11 : AV := .inl (11, 0)
def v9_12 : AV := .inl (12, 0)
def v9_13 : AV := .inl (13, 0)
def v9_14 : AV := .inl (14, 0)
def v9_15 : AV := .inl (15, 0)
def v9_16 : AV := .inl (16, 0)
def v9_17 : AV := .inl (17, 0)
def v9_18 : AV := .inl (18, 0)
def v9_19 : AV := .inl (19, 0)
def v9_20 : AV := .inl (20, 0)
def v9_21 : AV := .inl (21, 0)
def v9_22 : AV := .inl (22, 0)
def v9_23 : AV := .inl (23, 0)
def v9_24 : AV := .inl (24, 0)
def v9_25 : AV := .inl (25, 0)
def v9_26 : AV := .inl (26, 0)
def v9_27 : AV := .inl (27, 0)
def v9_28 : AV := .inl (28, 0)
def v9_29 : AV := .inl (29, 0)
def v9_30 : AV := .inl (30, 0)
def v9_31 : AV := .inl (31, 0)
def v9_32 : AV := .inl (32, 0)
def v9_33 : AV := .inl (33, 0)
def v9_34 : AV := .inl (34, 0)
def v9_35 : AV := .inl (35, 0)
def v9_36 : AV := .inl (36, 0)
def v9_37 : AV := .inl (37, 0)
def v9_38 : AV := .inl (38, 0)
def v9_39 : AV := .inl (39, 0)
def v9_40 : AV := .inl (40, 0)
def v9_41 : AV := .inl (41, 0)
def v9_42 : AV := .inl (42, 0)
def v9_43 : AV := .inl (43, 0)
def v9_44 : AV := .inl (44, 0)
def v9_45 : AV := .inl (45, 0)
def v9_46 : AV := .inl (46, 0)
def v9_47 : AV := .inl (47, 0)
def v9_48 : AV := .inl (48, 0)
def v9_49 : AV := .inl (49, 0)
def v9_50 : AV := .inl (50, 0)
def v9_51 : AV := .inl (51, 0)
def v9_52 : AV := .inl (52, 0)
def v9_53 : AV := .inl (53, 0)
def v9_54 : AV := .inl (54, 0)
def v9_55 : AV := .inl (55, 0)
def v9_56 : AV := .inl (56, 0)
def v9_57 : AV := .inl (57, 0)
def v9_58 : AV := .inl (58, 0)
def v9_59 : AV := .inl (59, 0)
def v9_60 : AV := .inl (60, 0)
def v9_61 : AV := .inl (61, 0)
def v9_62 : AV := .inl (62, 0)
def v9_63 : AV := .inl (63, 0)
def c9_0 : AV := .inr (.inl 0)
def c9_1 : AV := .inr (.inl 1)
def c9_2 : AV := .inr (.inl 2)
def c9_3 : AV := .inr (.inl 3)
def c9_4 : AV := .inr (.inl 4)
def c9_5 : AV := .inr (.inl 5)
def c9_6 : AV := .inr (.inl 6)
def c9_7 : AV := .inr (.inl 7)
def c9_8 : AV := .inr (.inl 8)
def c9_9 : AV := .inr (.inl 9)
def c9_10 : AV := .inr (.inl 10)
def c9_11 : AV := .inr (.inl 11)
def c9_12 : AV := .inr (.inl 12)
def c9_13 : AV := .inr (.inl 13)
def c9_14 : AV := .inr (.inl 14)
def c9_15 : AV := .inr (.inl 15)
def c9_16 : AV := .inr (.inl 16)
def c9_17 : AV := .inr (.inl 17)
def c9_18 : AV := .inr (.inl 18)
def c9_19 : AV := .inr (.inl 19)
def c9_20 : AV := .inr (.inl 20)
def c9_21 : AV := .inr (.inl 21)
def c9_22 : AV := .inr (.inl 22)
def c9_23 : AV := .inr (.inl 23)
def c9_24 : AV := .inr (.inl 24)
def c9_25 : AV := .inr (.inl 25)
def c9_26 : AV := .inr (.inl 26)
def c9_27 : AV := .inr (.inl 27)
def c9_28 : AV := .inr (.inl 28)
def c9_29 : AV := .inr (.inl 29)
def c9_30 : AV := .inr (.inl 30)
def c9_31 : AV := .inr (.inl 31)
def c9_32 : AV := .inr (.inl 32)
def c9_33 : AV := .inr (.inl 33)
def c9_34 : AV := .inr (.inl 34)
def c9_35 : AV := .inr (.inl 35)
def c9_36 : AV := .inr (.inl 36)
def c9_37 : AV := .inr (.inl 37)
def c9_38 : AV := .inr (.inl 38)
def c9_39 : AV := .inr (.inl 39)
def T_fi : BT Dom := [(17408, [(1, d9_2), (2, d9_3), (5, d9_12), (7, [(0, 300)]), (5120, d9_1), (5121, d9_20), (5122, [(0, 201)]), (10240, [(1, 40)]), (17408, d9_7)]), (27654, [(17417, d9_2), (17421, [(0, 1201)]), (17422, d9_2), (17423, d9_6), (17424, d9_2), (27651, d9_5), (27652, T32), (27653, d9_13), (27654, T32)]), (34821, [(27655, T32), (27658, [(0, 64)]), (27660, [(0, 64)]), (27661, T32), (27664, d9_10), (27666, d9_10), (27667, d9_1), (34817, d9_1), (34821, [((-4), (-4)), (0, 19)])]), (53258, [(34822, d9_7), (41985, [(0, 4)]), (41996, d9_9), (41997, T32), (41998, T32), (53249, d9_14), (53253, d9_14), (53257, [(0, 576)]), (53258, d9_10)]), (112643, [(60417, d9_14), (60427, d9_14), (71686, d9_1), (100352, d9_15), (100354, d9_21), (100364, d9_1), (112640, d9_3), (112641, d9_2), (112643, [(0, 300)])]), (112670, [(112646, d9_1), (112647, d9_20), (112648, [(0, 201)]), (112660, [(1, 40)]), (112666, d9_10), (112667, d9_2), (112668, d9_8), (112669, d9_2), (112670, T32)]), (112701, [(112672, d9_7), (112686, [(0, 10400)]), (112692, [(0, 23)]), (112696, d9_24), (112697, d9_1), (112698, [((-1), 1200)]), (112699, d9_19), (112700, d9_10), (112701, d9_10)]), (112715, [(112704, d9_24), (112705, d9_9), (112706, [((-4), (-4)), (0, 29)]), (112707, T32), (112708, T32), (112709, d9_10), (112711, d9_12), (112714, d9_10), (112715, d9_1)]), (112752, [(112717, d9_1), (112721, [((-4), (-4)), (0, 19)]), (112722, d9_7), (112725, [(0, 4)]), (112735, T32), (112736, d9_14), (112747, d9_14), (112749, d9_14), (112752, [(0, 600)])]), (112790, [(112757, d9_10), (112758, d9_14), (112774, [(0, 161)]), (112776, d9_15), (112778, d9_21), (112788, d9_1), (112790, d9_10)])]
def T_ai : BT Dom := [(18, [(1, d9_18), (2, T32), (3, d9_4), (7, d9_9), (8, d9_1), (11, [((-4), (-4)), (0, 39)]), (12, [((-4), (-4)), (0, 19)]), (13, d9_10), (14, d9_10), (15, T32), (16, T32), (18, d9_9)]), (36, [(19, d9_17), (21, [(0, 25)]), (23, d9_18), (24, d9_8), (25, d9_2), (29, d9_10), (30, [(0, 2)]), (31, T32), (32, T32), (33, T32), (35, [(0, 4)]), (36, d9_19)]), (49, [(37, [(0, 24)]), (38, d9_5), (39, T32), (40, T32), (42, d9_7), (43, d9_19), (44, [((-4), (-4)), (0, 19)]), (45, d9_21), (46, [(0, 2)]), (47, T32), (48, T32), (49, T32)]), (65, [(50, T32), (51, T32), (54, d9_10), (55, [(0, 59)]), (56, d9_19), (57, d9_19), (60, d9_18), (61, d9_8), (62, [(0, 9)]), (63, T32), (64, T32), (65, T32)]), (102, [(66, T32), (67, T32), (68, d9_0), (69, [(0, 59)]), (72, T32), (73, d9_12), (74, d9_19), (96, d9_5), (99, [(0, 65535)]), (100, d9_8), (101, d9_21), (102, [(0, 4)])]), (115, [(103, T32), (104, T32), (105, d9_22), (106, d9_21), (107, [(0, 4)]), (108, T32), (109, T32), (111, d9_18), (112, T32), (113, T32), (114, [(0, 115)]), (115, d9_19)]), (129, [(116, T32), (117, T32), (118, T32), (119, T32), (120, d9_10), (121, d9_9), (122, d9_1), (125, [((-4), (-4)), (0, 39)]), (126, [((-4), (-4)), (0, 19)]), (127, d9_10), (128, d9_10), (129, d9_10)]), (141, [(130, d9_9), (131, d9_17), (132, [((-1), 2)]), (133, [((-1), 3)]), (134, T32), (135, [((-1), 6)]), (136, [((-1), 2)]), (137, T32), (138, T32), (139, [(0, 10400)]), (140, [(0, 10400)]), (141, [(0, 18)])]), (155, [(143, d9_9), (144, d9_10), (145, [(0, 2)]), (146, d9_24), (147, d9_19), (148, [(0, 0), (7, 13), (16, 18)]), (149, T32), (150, T32), (151, d9_8), (153, T32), (154, T32), (155, d9_4)]), (167, [(156, T32), (157, [(0, 4)]), (158, d9_19), (159, [(0, 24)]), (160, d9_5), (161, d9_10), (162, d9_7), (163, d9_19), (164, [((-4), (-4)), (0, 19)]), (165, T32), (166, d9_21), (167, [(0, 2)])]), (179, [(168, T32), (169, T32), (170, [((-4), (-4)), (0, 19)]), (171, d9_5), (172, d9_5), (173, d9_8), (174, d9_13), (175, T32), (176, d9_1), (177, T32), (178, d9_10), (179, d9_10)]), (191, [(180, [(0, 59)]), (181, [(0, 59)]), (182, d9_19), (183, d9_19), (184, d9_22), (185, d9_22), (186, d9_19), (187, d9_18), (188, d9_8), (189, [(0, 9)]), (190, T32), (191, T32)]), (205, [(192, T32), (193, T32), (194, T32), (195, d9_0), (196, [(0, 59)]), (198, T32), (199, d9_12), (200, d9_10), (201, d9_10), (202, T32), (204, [(0, 65535)]), (205, d9_8)]), (214, [(206, d9_21), (207, [(0, 4)]), (208, T32), (209, T32), (210, d9_22), (211, d9_21), (212, [(0, 4)]), (213, T32), (214, T32)])]
def T_co : BT (Nat × List Dom) := [(6, [(4, (7, [T32, T32, T32, T32, T32, T32, T32])), (6, (6, [[(0, 115)], d9_19, T32, T32, T32, T32]))]), (53, [(20, (9, [[(0, 2)], d9_9, T32, d9_15, [(0, 2)], d9_13, d9_6, d9_6, T32])), (53, (8, [d9_5, d9_5, d9_8, d9_13, T32, d9_1, T32, d9_10]))]), (58, [(58, (3, [d9_22, d9_22, d9_19]))])]
def T_rl : BT (Nat × Nat) := [(26, [(21, (3, 0)), (22, (3, 1)), (24, (11, 0)), (25, (11, 1)), (26, (11, 2))]), (63, [(46, (0, 0)), (47, (0, 1)), (48, (0, 2)), (61, (1, 0)), (63, (1, 1))]), (134, [(64, (1, 2)), (102, (2, 0)), (103, (2, 1)), (133, (9, 0)), (134, (9, 1))]), (157, [(136, (8, 0)), (137, (8, 1)), (141, (10, 0)), (142, (10, 1)), (157, (4, 0))]), (188, [(159, (4, 1)), (167, (5, 0)), (168, (5, 1)), (169, (5, 2)), (188, (6, 0))]), (208, [(190, (6, 1)), (191, (6, 2)), (207, (7, 0)), (208, (7, 1))])]
def T_rs : List Rl1 := [(48, ([(46, false), (47, false), (48, false)], [[d9_10, d9_4, d9_4], [[(2, 2)], [(1, 8)], T32]])), (60, ([(61, false), (63, false), (64, false)], [[[(0, 0)], [(0, 9)], [(0, 9)]], [[(1, 1)], T32, T32], [[(2, 2), (5, 5)], d9_1, T32], [[(3, 3)], [(10, 13)], T32], [[(4, 4)], [(0, 9)], d9_4]])), (144, ([(102, false), (103, false)], [[[(0, 1), (3, 3)], d9_22], [[(2, 2)], [(0, 65535)]], [[(4, 4)], T32]])), (9600, ([(21, false), (22, true)], [[[(0, 3), (7, 12), (21, 23)], T64], [[(4, 6), (13, 20)], d9_19], [[(24, 25)], d9_6]])), (20, ([(157, false), (159, false)], [[[(0, 1), (3, 4)], d9_19], [[(2, 2)], [(0, 24)]]])), (48, ([(167, false), (168, false), (169, false)], [[d9_10, d9_4, d9_4], [[(2, 2)], [(1, 8)], T32]])), (60, ([(188, false), (190, false), (191, false)], [[[(0, 0)], [(0, 9)], [(0, 9)]], [[(1, 1)], T32, T32], [[(2, 2), (5, 5)], d9_1, T32], [[(3, 3)], [(10, 13)], T32], [[(4, 4)], [(0, 9)], d9_4]])), (144, ([(207, false), (208, false)], [[[(0, 1), (3, 3)], d9_22], [[(2, 2)], [(0, 65535)]], [[(4, 4)], T32]])), (240, ([(136, false), (137, false)], [[[((-1), 0)], T32], [[(1, 2)], d9_13]])), (240, ([(133, false), (134, false)], [[[((-1), 0), (2, 3)], T32], [[(1, 1)], d9_19]])), (10400, ([(141, false), (142, true)], [[[(0, 3), (7, 13), (16, 18)], T64], [[(4, 6), (14, 15)], d9_19]])), (1201, ([(24, false), (25, false), (26, true)], [[[(1, 1)], [(0, 1199)], [(1, 1200)]], [[(0, 0), (2, 5)], d9_2, T64]]))]
def TJ : Jx := (T_fi, (T_ai, (T_co, (T_rl, T_rs))))
theorem TJ_wf : TJ.wf = true := by decide +kernel
end
end
