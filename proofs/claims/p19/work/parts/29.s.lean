section
noncomputable section
/-! ===== WHAT ELSE HOLDS, 36: the first owner (595 open while it is written); how deep (535 q, 538 r: from q it is r + 1 steps to below 0; 536 x, 537 n: x is n + 1 steps behind q); hints 150 .. 156 ===== -/
def vS9 (kO kF jB : Nat) (H : List (Nat × Int)) (σ : zS) : Prop := (σ.1 kF jB).toInt = 1 → lk H 595 = none → (σ.1 kO 0).toInt = -4
def vtg (t : Nat) : Bool := Nat.ble 595 t && Nat.ble t 595
theorem vtg_no {u : Nat} (h : vtg u = false) : u ≠ 595 := fun q => by
  rw [q] at h
  cases h
def vw9 (kF jB : Nat) (s : Sy) (hl : List (Nat × AV)) (k : Nat) (p v : AV) : Option (List (Nat × AV)) :=
  bif Nat.beq k kF then (match p with
    | .inr (.inl (.ofNat j)) => bif Nat.beq j jB then (bif isS (lk hl 595) then some hl else some ((595, .c 0) :: hl)) else some hl
    | _ => none)
  else bif leAV s (.c 1) p then some hl else bif eqA s p (.c 0) && eqA s v (.c (-4)) then some (hdel 595 hl) else none
def cv9 (kO kF jB : Nat) : Cp := (vtg, (vS9 kO kF jB, (fun q => Nat.beq q kO || Nat.beq q kF, (fun s hl k p v => vw9 kF jB s hl k p v, nlw))))
theorem cv9_ok {T : Jx} {G : Gl} {kO kF jB : Nat} (d1 : kO ≠ kF) : CpOk T G (cv9 kO kF jB) := by
  apply CpOk.no (fun _ => rfl)
  refine ⟨fun u hu => ?_, fun H H' σ σ' h1 h2 hS => ?_, ?_⟩
  · have hu : (Nat.ble 595 u && Nat.ble u 595) = true := hu
    rw [Bool.and_eq_true] at hu
    have := Nat.le_of_ble_eq_true hu.1
    omega
  · have r1 : σ'.1 kO = σ.1 kO := h2 kO (by show (Nat.beq kO kO || Nat.beq kO kF) = true; rw [Nat.beq_refl]; rfl)
    have r2 : σ'.1 kF = σ.1 kF := h2 kF (by show (Nat.beq kF kO || Nat.beq kF kF) = true; rw [Nat.beq_refl, Bool.or_true])
    show vS9 kO kF jB H' σ'
    unfold vS9
    rw [r1, r2, h1 595 rfl]
    exact hS
  · intro s ρ σ k p v j x hl hl' H ho hb hp hi hv hx hr hw hh hS
    replace hw : vw9 kF jB s hl k p v = some hl' := hw
    replace hS : vS9 kO kF jB H σ := hS
    unfold vw9 at hw
    cases e1 : Nat.beq k kF with
    | true =>
      have ek := Nat.eq_of_beq_eq_true e1
      subst ek
      rw [e1] at hw
      simp only [cond_true] at hw
      split at hw
      · rename_i j0
        have ej : j0 = j := by
          have : ((j0 : Nat) : Int) = (j : Int) := Option.some.inj hp
          omega
        subst ej
        have nO : (zI σ k j0 x).1 kO 0 = σ.1 kO 0 := zI_ne (by rintro ⟨e, _⟩; exact d1 e)
        cases e2 : Nat.beq j0 jB with
        | false =>
          have nj : j0 ≠ jB := beq_ne e2
          rw [e2] at hw
          cases Option.some.inj hw
          have nF : (zI σ k j0 x).1 k jB = σ.1 k jB := zI_ne (by rintro ⟨_, e⟩; exact nj e.symm)
          exact ⟨H, hh, fun a b => by rw [nF] at a; rw [nO]; exact hS a b, fun _ _ => rfl⟩
        | true =>
          rw [e2] at hw
          simp only [cond_true] at hw
          cases e3 : isS (lk hl 595) with
          | true =>
            rw [e3] at hw
            cases Option.some.inj hw
            refine ⟨H, hh, fun _ b => ?_, fun _ _ => rfl⟩
            rcases hh.lkp (t := 595) with ⟨q, _⟩ | ⟨a', z, _, q', _⟩
            · rw [q] at e3; cases e3
            · rw [q'] at b; cases b
          | false =>
            rw [e3] at hw
            cases Option.some.inj hw
            refine ⟨(595, 0) :: H, ⟨⟨rfl, rfl⟩, hh⟩, fun _ b => ?_, fun t ht => by rw [lk_cons, if_neg (vtg_no ht)]⟩
            rw [lk_cons, if_pos rfl] at b
            cases b
      · cases hw
    | false =>
      have nk : k ≠ kF := beq_ne e1
      have ek : k = kO := by
        have hr : (Nat.beq k kO || Nat.beq k kF) = true := hr
        rw [e1, Bool.or_false] at hr
        exact Nat.eq_of_beq_eq_true hr
      subst ek
      rw [e1] at hw
      simp only [cond_false] at hw
      have nF : (zI σ k j x).1 kF jB = σ.1 kF jB := zI_ne (by rintro ⟨e, _⟩; exact nk e.symm)
      cases e2 : leAV s (.c 1) p with
      | true =>
        rw [e2] at hw
        cases Option.some.inj hw
        have g := leAV_ok ho e2 (x := 1) rfl hp
        exact ⟨H, hh, fun a b => by rw [nF] at a; rw [zI_ne (by rintro ⟨_, e⟩; omega)]; exact hS a b, fun _ _ => rfl⟩
      | false =>
        rw [e2] at hw
        simp only [cond_false] at hw
        cases e3 : eqA s p (.c 0) && eqA s v (.c (-4)) with
        | false => rw [e3] at hw; cases hw
        | true =>
          rw [e3] at hw
          cases Option.some.inj hw
          rw [Bool.and_eq_true] at e3
          have g1 := eqA_ok ho e3.1 hp (y := 0) rfl
          have g2 := eqA_ok ho e3.2 hx (y := -4) rfl
          have ej : j = 0 := by omega
          subst ej
          exact ⟨hdel 595 H, hh.del, fun _ _ => by rw [zI_at]; exact g2, fun t ht => by rw [lk_hdel, if_neg (vtg_no ht)]⟩
def Dp (P : Nat → Int) : Nat → Int → Prop
  | 0, x => x < 0
  | d + 1, x => 0 ≤ x ∧ Dp P d (P x.toNat)
theorem dp_fun {P : Nat → Int} : ∀ {d e : Nat} {x : Int}, Dp P d x → Dp P e x → d = e
  | 0, 0, _, _, _ => rfl
  | 0, e + 1, x, h1, h2 => by
    have h1 : x < 0 := h1
    have := h2.1
    omega
  | d + 1, 0, x, h1, h2 => by
    have h2 : x < 0 := h2
    have := h1.1
    omega
  | d + 1, e + 1, x, h1, h2 => congrArg Nat.succ (dp_fun h1.2 h2.2)
def dS9 (kP : Nat) (H : List (Nat × Int)) (σ : zS) : Prop :=
  (∀ q x n, lk H 535 = some q → lk H 536 = some x → lk H 537 = some n → ∃ k : Nat, n = (k : Int) ∧ ∀ d, Dp (Pp σ kP) d x → Dp (Pp σ kP) (k + 1 + d) q) ∧
  ∀ q r, lk H 535 = some q → lk H 538 = some r → ∀ d : Nat, (d : Int) ≤ 2147483647 → Dp (Pp σ kP) (d + 1) q → r = (d : Int)
def dtg (t : Nat) : Bool := Nat.ble 535 t && Nat.ble t 538
theorem dtg_no {u : Nat} (h : dtg u = false) : ¬ (535 ≤ u ∧ u ≤ 538) := fun q => by
  have : dtg u = true := by
    show (Nat.ble 535 u && Nat.ble u 538) = true
    rw [Bool.and_eq_true]
    exact ⟨Nat.ble_eq_true_of_le q.1, Nat.ble_eq_true_of_le q.2⟩
  rw [this] at h
  cases h
def cd9 (kP : Nat) : Cp := (dtg, (dS9 kP, (fun q => Nat.beq q kP, (fun _ hl _ _ _ => bif isS (lk hl 535) then none else some hl, nlw))))
theorem cd9_ok {T : Jx} {G : Gl} {kP : Nat} : CpOk T G (cd9 kP) := by
  apply CpOk.no (fun _ => rfl)
  have tin : ∀ u, 535 ≤ u → u ≤ 538 → dtg u = true := fun u h1 h2 => by
    show (Nat.ble 535 u && Nat.ble u 538) = true
    rw [Bool.and_eq_true]
    exact ⟨Nat.ble_eq_true_of_le h1, Nat.ble_eq_true_of_le h2⟩
  refine ⟨fun u hu => ?_, fun H H' σ σ' h1 h2 hS => ?_, ?_⟩
  · have hu : (Nat.ble 535 u && Nat.ble u 538) = true := hu
    rw [Bool.and_eq_true] at hu
    have := Nat.le_of_ble_eq_true hu.1
    omega
  · have r1 : Pp σ' kP = Pp σ kP := by
      funext y
      show (σ'.1 kP y).toInt = _
      rw [h2 kP (Nat.beq_refl kP)]
    have l : ∀ u, 535 ≤ u → u ≤ 538 → lk H' u = lk H u := fun u a b => h1 u (tin u a b)
    show dS9 kP H' σ'
    unfold dS9
    rw [r1, l 535 (by omega) (by omega), l 536 (by omega) (by omega), l 537 (by omega) (by omega), l 538 (by omega) (by omega)]
    exact hS
  · intro s ρ σ k p v j x hl hl' H ho hb hp hi hv hx hr hw hh hS
    replace hw : (bif isS (lk hl 535) then none else some hl) = some hl' := hw
    cases hc : isS (lk hl 535) with
    | true => rw [hc] at hw; cases hw
    | false =>
      rw [hc] at hw
      cases Option.some.inj hw
      have no : lk H 535 = none := by
        rcases hh.lkp (t := 535) with ⟨_, q2⟩ | ⟨a, z, q1, _, _⟩
        · exact q2
        · rw [q1] at hc; cases hc
      exact ⟨H, hh, ⟨fun q y n a => (by rw [no] at a; cases a), fun q r a => (by rw [no] at a; cases a)⟩, fun _ _ => rfl⟩
section H38
variable {T : Jx} {G : Gl} {cs : List Cp} {s : Sy} {ρ : List Int} {σ : zS} {kP kO kF jB : Nat}
def h150 (kO kF jB : Nat) (s : Sy) : Option Sy := match mget s.me kF (.c (jB : Int)) with
  | some b => bif (b.isI && eqA s b (.c 1)) && !(isS (lk s.hl 595)) then (match mget s.me kO (.c ((0 : Nat) : Int)) with
    | some w => bif w.isI then s.refd w [(-4, -4)] else some s
    | none => some (s.add kO (.c ((0 : Nat) : Int)) (.c (-4)))) else some s
  | none => some s
theorem h150_ok (hm : cv9 kO kF jB ∈ cs) (ho : Ok (Jf T G (cS cs)) s ρ σ) : ∃ s', h150 kO kF jB s = some s' ∧ Ok (Jf T G (cS cs)) s' ρ σ := by
  unfold h150
  split
  · rename_i b hbm
    cases hc : (b.isI && eqA s b (.c 1)) && !(isS (lk s.hl 595)) with
    | false => exact ⟨s, rfl, ho⟩
    | true =>
      simp only [cond_true]
      simp only [Bool.and_eq_true] at hc
      obtain ⟨H, i1, i2⟩ := ho.inv
      have hS : vS9 kO kF jB H σ := i2.2.2 _ hm
      have e : (σ.1 kO 0).toInt = -4 := hS (eqA_ok ho hc.1.2 (me_at ho hbm rfl hc.1.1) (y := 1) rfl) (no_tag i1 hc.2)
      split
      · rename_i w hw
        cases hi : w.isI with
        | false => exact ⟨s, rfl, ho⟩
        | true =>
          have g := me_at ho hw rfl hi
          exact refd_ok ho g (dom_i ho hi g) ⟨_, List.mem_cons_self .., by rw [e]; exact Int.le_refl _, by rw [e]; exact Int.le_refl _⟩
      · exact ⟨_, rfl, ho.addm ⟨0, rfl, Or.inl ⟨rfl, congrArg some e.symm⟩⟩⟩
  · exact ⟨s, rfl, ho⟩
def h151 (a : AV) (s : Sy) : Sy := bif a.isI && ((!(isS (lk s.hl 535)) && !(isS (lk s.hl 536))) && (!(isS (lk s.hl 537)) && !(isS (lk s.hl 538)))) then (s.new [(0, 2147483647)]).seth ((535, a) :: (538, .i s.nx 0) :: s.hl) else s
theorem h151_ok (hP : PH T G cs (cd9 kP)) {a : AV} {x : Int} (ha : ev ρ a = some x) (ho : Ok (Jf T G (cS cs)) s ρ σ) : ∃ ρ', Pre ρ ρ' ∧ Ok (Jf T G (cS cs)) (h151 a s) ρ' σ := by
  unfold h151
  cases hc : a.isI && ((!(isS (lk s.hl 535)) && !(isS (lk s.hl 536))) && (!(isS (lk s.hl 537)) && !(isS (lk s.hl 538)))) with
  | false => exact ⟨ρ, Pre.rf, ho⟩
  | true =>
    simp only [Bool.and_eq_true] at hc
    obtain ⟨H, i1, i2⟩ := ho.inv
    have n536 := no_tag i1 hc.2.1.2
    obtain ⟨r, hr0, hr1, hr⟩ : ∃ r : Int, 0 ≤ r ∧ r ≤ 2147483647 ∧ ∀ d : Nat, (d : Int) ≤ 2147483647 → Dp (Pp σ kP) (d + 1) x → r = (d : Int) := by
      by_cases h : ∃ d : Nat, (d : Int) ≤ 2147483647 ∧ Dp (Pp σ kP) (d + 1) x
      · obtain ⟨d, h1, h2⟩ := h
        exact ⟨d, by omega, h1, fun e h3 h4 => by have := dp_fun h2 h4; omega⟩
      · exact ⟨0, by omega, by omega, fun d h1 h2 => absurd ⟨d, h1, h2⟩ h⟩
    have hq := ho.new (x := r) (d := [(0, 2147483647)]) ⟨_, List.mem_cons_self .., hr0, hr1⟩
    have hp : Pre ρ (ρ ++ [r]) := ⟨_, rfl⟩
    refine ⟨ρ ++ [r], hp, ph_set (H := H) (H' := (535, x) :: (538, r) :: H) hP hq i2 ⟨⟨rfl, ev.mono hp ha⟩, ⟨rfl, ho.new_i⟩, i1.mono hp⟩ (fun u hu => ?_) ⟨fun q y n _ b _ => ?_, fun q r' b1 b2 => ?_⟩⟩
    · have := dtg_no hu
      rw [lk_cons, if_neg (by omega), lk_cons, if_neg (by omega)]
    · rw [lk_cons, if_neg (by decide), lk_cons, if_neg (by decide), n536] at b
      cases b
    · rw [lk_cons, if_pos rfl] at b1
      rw [lk_cons, if_neg (by decide), lk_cons, if_pos rfl] at b2
      rw [← Option.some.inj b1, ← Option.some.inj b2]
      exact hr
def h152 (kP : Nat) (a : AV) (s : Sy) : Sy := match lk s.hl 535 with
  | some q => bif stp9 kP q a s && (!(isS (lk s.hl 536)) && !(isS (lk s.hl 537))) then s.seth ((536, a) :: (537, .c 0) :: s.hl) else s
  | none => s
theorem h152_ok (hP : PH T G cs (cd9 kP)) {a : AV} {z : Int} (hz : ev ρ a = some z) (ho : Ok (Jf T G (cS cs)) s ρ σ) : Ok (Jf T G (cS cs)) (h152 kP a s) ρ σ := by
  unfold h152
  split
  · rename_i q qq
    cases hc : stp9 kP q a s && (!(isS (lk s.hl 536)) && !(isS (lk s.hl 537))) with
    | false => exact ho
    | true =>
      rw [Bool.and_eq_true] at hc
      obtain ⟨H, i1, i2⟩ := ho.inv
      obtain ⟨w1, w2⟩ := (i2.2.2 _ hP.2.2.1 : dS9 kP H σ)
      obtain ⟨zq, q1, q2⟩ := tag_get ho i1 qq
      obtain ⟨g0, g1⟩ := stp9_ok ho q2 hz hc.1
      have l0 : ∀ t, t ≠ 536 → t ≠ 537 → lk ((536, z) :: (537, 0) :: H) t = lk H t := fun t h1 h2 => by rw [lk_cons, if_neg h1, lk_cons, if_neg h2]
      refine ph_set (H := H) (H' := (536, z) :: (537, 0) :: H) hP ho i2 ⟨⟨rfl, hz⟩, ⟨rfl, rfl⟩, i1⟩ (fun u hu => l0 u (fun e => dtg_no hu (by omega)) (fun e => dtg_no hu (by omega))) ⟨fun q' x n b1 b2 b3 => ?_, fun q' r b1 b2 => ?_⟩
      · rw [l0 535 (by decide) (by decide), q1] at b1
        rw [lk_cons, if_pos rfl] at b2
        rw [lk_cons, if_neg (by decide), lk_cons, if_pos rfl] at b3
        rw [← Option.some.inj b1, ← Option.some.inj b2]
        refine ⟨0, (Option.some.inj b3).symm, fun d hd => ?_⟩
        have e : 0 + 1 + d = d + 1 := by omega
        rw [e]
        exact ⟨g0, by rw [g1]; exact hd⟩
      · rw [l0 535 (by decide) (by decide)] at b1
        rw [l0 538 (by decide) (by decide)] at b2
        exact w2 q' r b1 b2
  · exact ho
def h153 (kP : Nat) (a : AV) (s : Sy) : Sy := match lk s.hl 535, lk s.hl 536, lk s.hl 537 with
  | some _, some x, some n => bif stp9 kP x a s then s.seth (hup 536 a (hup 537 (shA n 1) s.hl)) else s
  | _, _, _ => s
theorem h153_ok (hP : PH T G cs (cd9 kP)) {a : AV} {z : Int} (hz : ev ρ a = some z) (ho : Ok (Jf T G (cS cs)) s ρ σ) : Ok (Jf T G (cS cs)) (h153 kP a s) ρ σ := by
  unfold h153
  split
  · rename_i q x n qq qx qn
    cases hc : stp9 kP x a s with
    | false => exact ho
    | true =>
      obtain ⟨H, i1, i2⟩ := ho.inv
      obtain ⟨w1, w2⟩ := (i2.2.2 _ hP.2.2.1 : dS9 kP H σ)
      obtain ⟨zq, q1, q2⟩ := tag_get ho i1 qq
      obtain ⟨zx, x1, x2⟩ := tag_get ho i1 qx
      obtain ⟨zn, n1, n2⟩ := tag_get ho i1 qn
      obtain ⟨g0, g1⟩ := stp9_ok ho x2 hz hc
      obtain ⟨k, k1, k2⟩ := w1 zq zx zn q1 x1 n1
      have x3 : lk (hup 537 (zn + 1) H) 536 = some zx := by
        rw [lk_hup_ne (by decide)]
        exact x1
      have l0 : ∀ t, t ≠ 536 → t ≠ 537 → lk (hup 536 z (hup 537 (zn + 1) H)) t = lk H t := fun t h1 h2 => by rw [lk_hup_ne h1, lk_hup_ne h2]
      refine ph_set hP ho i2 ((i1.up (shA_ev n2)).up hz) (fun u hu => l0 u (fun e => dtg_no hu (by omega)) (fun e => dtg_no hu (by omega))) ⟨fun q' x' n' b1 b2 b3 => ?_, fun q' r b1 b2 => ?_⟩
      · rw [l0 535 (by decide) (by decide), q1] at b1
        rw [lk_hup_at x3] at b2
        rw [lk_hup_ne (by decide), lk_hup_at n1] at b3
        rw [← Option.some.inj b1, ← Option.some.inj b2]
        refine ⟨k + 1, by rw [← Option.some.inj b3]; omega, fun d hd => ?_⟩
        have h := k2 (d + 1) ⟨g0, by rw [g1]; exact hd⟩
        have e : k + 1 + (d + 1) = k + 1 + 1 + d := by omega
        rw [e] at h
        exact h
      · rw [l0 535 (by decide) (by decide)] at b1
        rw [l0 538 (by decide) (by decide)] at b2
        exact w2 q' r b1 b2
  · exact ho
def h154 (s : Sy) : Sy := match lk s.hl 535, lk s.hl 536, lk s.hl 537 with
  | some _, some x, some n => match lk s.hl 538 with
    | some r => bif leAV s x (.c (-1)) && leAV s n (.c 2147483647) then (s.factd (tlin (-1) (nf s r).1 (nf s n).1) ((nf s r).2 - (nf s n).2)).factd (tlin (-1) (nf s n).1 (nf s r).1) ((nf s n).2 - (nf s r).2) else s
    | none => s
  | _, _, _ => s
theorem h154_ok (hm : cd9 kP ∈ cs) (ho : Ok (Jf T G (cS cs)) s ρ σ) : Ok (Jf T G (cS cs)) (h154 s) ρ σ := by
  unfold h154
  split
  · rename_i q x n qq qx qn
    split
    · rename_i r qr
      cases hc : leAV s x (.c (-1)) && leAV s n (.c 2147483647) with
      | false => exact ho
      | true =>
        rw [Bool.and_eq_true] at hc
        obtain ⟨H, i1, i2⟩ := ho.inv
        obtain ⟨w1, w2⟩ := (i2.2.2 _ hm : dS9 kP H σ)
        obtain ⟨zq, q1, q2⟩ := tag_get ho i1 qq
        obtain ⟨zx, x1, x2⟩ := tag_get ho i1 qx
        obtain ⟨zn, n1, n2⟩ := tag_get ho i1 qn
        obtain ⟨zr, r1, r2⟩ := tag_get ho i1 qr
        have g1 := leAV_ok ho hc.1 x2 (y := -1) rfl
        have g2 := leAV_ok ho hc.2 n2 (y := 2147483647) rfl
        obtain ⟨k, k1, k2⟩ := w1 zq zx zn q1 x1 n1
        have er : zr = zn := by
          have h := k2 0 (show zx < 0 by omega)
          have := w2 zq zr q1 r1 k (by omega) h
          omega
        obtain ⟨v, v1, v2⟩ := nf_ok ho r2
        obtain ⟨u, u1, u2⟩ := nf_ok ho n2
        have f1 := tlin_ok (w := -1) v1 u1
        have f2 := tlin_ok (w := -1) u1 v1
        have o1 := factd_ok ho (c := (nf s r).2 - (nf s n).2) f1 (by omega)
        exact factd_ok o1 f2 (by omega)
    · exact ho
  · exact ho
def h155 (s : Sy) : Sy := s.seth (hdel 536 (hdel 537 s.hl))
theorem h155_ok (hP : PH T G cs (cd9 kP)) (ho : Ok (Jf T G (cS cs)) s ρ σ) : Ok (Jf T G (cS cs)) (h155 s) ρ σ := by
  obtain ⟨H, i1, i2⟩ := ho.inv
  obtain ⟨w1, w2⟩ := (i2.2.2 _ hP.2.2.1 : dS9 kP H σ)
  refine ph_set hP ho i2 ((i1.del).del) (fun u hu => ?_) ⟨fun q x n _ b => ?_, fun q r b1 b2 => ?_⟩
  · have := dtg_no hu
    rw [lk_hdel, if_neg (by omega), lk_hdel, if_neg (by omega)]
  · rw [lk_hdel, if_pos rfl] at b; cases b
  · rw [lk_hdel, if_neg (by decide), lk_hdel, if_neg (by decide)] at b1 b2
    exact w2 q r b1 b2
def h156 (s : Sy) : Sy := s.seth (hdel 535 (hdel 536 (hdel 537 (hdel 538 s.hl))))
theorem h156_ok (hP : PH T G cs (cd9 kP)) (ho : Ok (Jf T G (cS cs)) s ρ σ) : Ok (Jf T G (cS cs)) (h156 s) ρ σ := by
  obtain ⟨H, i1, i2⟩ := ho.inv
  refine ph_set hP ho i2 ((((i1.del).del).del).del) (fun u hu => ?_) ⟨fun q x n b => ?_, fun q r b => ?_⟩
  · have := dtg_no hu
    rw [lk_hdel, if_neg (by omega), lk_hdel, if_neg (by omega), lk_hdel, if_neg (by omega), lk_hdel, if_neg (by omega)]
  · rw [lk_hdel, if_pos rfl] at b; cases b
  · rw [lk_hdel, if_pos rfl] at b; cases b
end H38
end
end
section
noncomputable section
/-! ===== what holds all through: bounds, columns, rows that go together ===== -/
def d9_0 : Dom := [(0, 200)]
def d9_1 : Dom := [(0, 20)]
def d9_2 : Dom := [(0, 1200)]
def d9_3 : Dom := [(0, 1000000000)]
def d9_4 : Dom := [(0, 7)]
def d9_5 : Dom := [(0, 19)]
def d9_6 : Dom := [(0, 9600)]
def d9_7 : Dom := [(0, 8)]
def d9_8 : Dom := [(0, 5)]
def d9_9 : Dom := [(0, 3)]
def d9_10 : Dom := [(0, 1)]
def d9_11 : Dom := [(0, 10)]
def d9_12 : Dom := [(0, 40)]
def d9_13 : Dom := [(0, 39)]
def d9_14 : Dom := [(0, 60)]
def d9_15 : Dom := [(0, 6)]
def d9_16 : Dom := [(0, 240)]
def d9_17 : Dom := [(0, 30)]
def d9_18 : Dom := [(0, 255)]
def d9_19 : Dom := [(0, 15)]
def d9_20 : Dom := [(0, 16)]
def d9_21 : Dom := [(0, 12)]
def d9_22 : Dom := [(0, 11)]
def d9_23 : Dom := [(0, 1301)]
def d9_24 : Dom := [(0, 1300)]
def v9_0 : AV := .inl (0, 0)
def v9_1 : AV := .inl (1, 0)
def v9_2 : AV := .inl (2, 0)
def v9_3 : AV := .inl (3, 0)
def v9_4 : AV := .inl (4, 0)
def v9_5 : AV := .inl (5, 0)
def v9_6 : AV := .inl (6, 0)
def v9_7 : AV := .inl (7, 0)
def v9_8 : AV := .inl (8, 0)
def v9_9 : AV := .inl (9, 0)
def v9_10 : AV := .inl (10, 0)
def v9_11 : AV := .inl (11, 0)
def v9_12 : AV := .inl (12, 0)
def v9_13 : AV := .inl (13, 0)
def v9_14 : AV := .inl (14, 0)
def v9_15 : AV := .inl (15, 0)
def v9_16 : AV := .inl (16, 0)
def v9_17 : AV := .inl (17, 0)
def v9_18 : AV := .inl (18, 0)
def v9_19 : AV := .inl (19, 0)
def v9_20 : AV := .inl (20, 0)
def v9_21 : AV := .inl (21, 0)
def v9_22 : AV := .inl (22, 0)
def v9_23 : AV := .inl (23, 0)
def v9_24 : AV := .inl (24, 0)
def v9_25 : AV := .inl (25, 0)
def v9_26 : AV := .inl (26, 0)
def v9_27 : AV := .inl (27, 0)
def v9_28 : AV := .inl (28, 0)
def v9_29 : AV := .inl (29, 0)
def v9_30 : AV := .inl (30, 0)
def v9_31 : AV := .inl (31, 0)
def v9_32 : AV := .inl (32, 0)
def v9_33 : AV := .inl (33, 0)
def v9_34 : AV := .inl (34, 0)
def v9_35 : AV := .inl (35, 0)
def v9_36 : AV := .inl (36, 0)
def v9_37 : AV := .inl (37, 0)
def v9_38 : AV := .inl (38, 0)
def v9_39 : AV := .inl (39, 0)
def v9_40 : AV := .inl (40, 0)
def v9_41 : AV := .inl (41, 0)
def v9_42 : AV := .inl (42, 0)
def v9_43 : AV := .inl (43, 0)
def v9_44 : AV := .inl (44, 0)
def v9_45 : AV := .inl (45, 0)
def v9_46 : AV := .inl (46, 0)
def v9_47 : AV := .inl (47, 0)
def v9_48 : AV := .inl (48, 0)
def v9_49 : AV := .inl (49, 0)
def v9_50 : AV := .inl (50, 0)
def v9_51 : AV := .inl (51, 0)
def v9_52 : AV := .inl (52, 0)
def v9_53 : AV := .inl (53, 0)
def v9_54 : AV := .inl (54, 0)
def v9_55 : AV := .inl (55, 0)
def v9_56 : AV := .inl (56, 0)
def v9_57 : AV := .inl (57, 0)
def v9_58 : AV := .inl (58, 0)
def v9_59 : AV := .inl (59, 0)
def v9_60 : AV := .inl (60, 0)
def v9_61 : AV := .inl (61, 0)
def v9_62 : AV := .inl (62, 0)
def v9_63 : AV := .inl (63, 0)
def c9_0 : AV := .inr (.inl 0)
def c9_1 : AV := .inr (.inl 1)
def c9_2 : AV := .inr (.inl 2)
def c9_3 : AV := .inr (.inl 3)
def c9_4 : AV := .inr (.inl 4)
def c9_5 : AV := .inr (.inl 5)
def c9_6 : AV := .inr (.inl 6)
def c9_7 : AV := .inr (.inl 7)
def c9_8 : AV := .inr (.inl 8)
def c9_9 : AV := .inr (.inl 9)
def c9_10 : AV := .inr (.inl 10)
def c9_11 : AV := .inr (.inl 11)
def c9_12 : AV := .inr (.inl 12)
def c9_13 : AV := .inr (.inl 13)
def c9_14 : AV := .inr (.inl 14)
def c9_15 : AV := .inr (.inl 15)
def c9_16 : AV := .inr (.inl 16)
def c9_17 : AV := .inr (.inl 17)
def c9_18 : AV := .inr (.inl 18)
def c9_19 : AV := .inr (.inl 19)
def c9_20 : AV := .inr (.inl 20)
def c9_21 : AV := .inr (.inl 21)
def c9_22 : AV := .inr (.inl 22)
def c9_23 : AV := .inr (.inl 23)
def c9_24 : AV := .inr (.inl 24)
def c9_25 : AV := .inr (.inl 25)
def c9_26 : AV := .inr (.inl 26)
def c9_27 : AV := .inr (.inl 27)
def c9_28 : AV := .inr (.inl 28)
def c9_29 : AV := .inr (.inl 29)
def c9_30 : AV := .inr (.inl 30)
def c9_31 : AV := .inr (.inl 31)
def c9_32 : AV := .inr (.inl 32)
def c9_33 : AV := .inr (.inl 33)
def c9_34 : AV := .inr (.inl 34)
def c9_35 : AV := .inr (.inl 35)
def c9_36 : AV := .inr (.inl 36)
def c9_37 : AV := .inr (.inl 37)
def c9_38 : AV := .inr (.inl 38)
def c9_39 : AV := .inr (.inl 39)
def T_fi : BT Dom := [(17408, [(1, d9_2), (2, d9_3), (5, d9_12), (7, [(0, 300)]), (5120, d9_1), (5121, d9_20), (5122, [(0, 201)]), (10240, [(1, 40)]), (17408, d9_7)]), (27654, [(17417, d9_2), (17421, [(0, 1201)]), (17422, d9_2), (17423, d9_6), (17424, d9_2), (27651, d9_5), (27652, T32), (27653, d9_13), (27654, T32)]), (34821, [(27655, T32), (27658, [(0, 64)]), (27660, [(0, 64)]), (27661, T32), (27664, d9_10), (27666, d9_10), (27667, d9_1), (34817, d9_1), (34821, [((-4), (-4)), (0, 19)])]), (53258, [(34822, d9_7), (41985, [(0, 4)]), (41996, d9_9), (41997, T32), (41998, T32), (53249, d9_14), (53253, d9_14), (53257, [(0, 576)]), (53258, d9_10)]), (112643, [(60417, d9_14), (60427, d9_14), (71686, d9_1), (100352, d9_15), (100354, d9_21), (100364, d9_1), (112640, d9_3), (112641, d9_2), (112643, [(0, 300)])]), (112670, [(112646, d9_1), (112647, d9_20), (112648, [(0, 201)]), (112660, [(1, 40)]), (112666, d9_10), (112667, d9_2), (112668, d9_8), (112669, d9_2), (112670, T32)]), (112701, [(112672, d9_7), (112686, [(0, 10400)]), (112692, [(0, 23)]), (112696, d9_24), (112697, d9_1), (112698, [((-1), 1200)]), (112699, d9_19), (112700, d9_10), (112701, d9_10)]), (112715, [(112704, d9_24), (112705, d9_9), (112706, [((-4), (-4)), (0, 29)]), (112707, T32), (112708, T32), (112709, d9_10), (112711, d9_12), (112714, d9_10), (112715, d9_1)]), (112752, [(112717, d9_1), (112721, [((-4), (-4)), (0, 19)]), (112722, d9_7), (112725, [(0, 4)]), (112735, T32), (112736, d9_14), (112747, d9_14), (112749, d9_14), (112752, [(0, 600)])]), (112790, [(112757, d9_10), (112758, d9_14), (112774, [(0, 161)]), (112776, d9_15), (112778, d9_21), (112788, d9_1), (112790, d9_10)])]
def T_ai : BT Dom := [(18, [(1, d9_18), (2, T32), (3, d9_4), (7, d9_9), (8, d9_1), (11, [((-4), (-4)), (0, 39)]), (12, [((-4), (-4)), (0, 19)]), (13, d9_10), (14, d9_10), (15, T32), (16, T32), (18, d9_9)]), (36, [(19, d9_17), (21, [(0, 25)]), (23, d9_18), (24, d9_8), (25, d9_2), (29, d9_10), (30, [(0, 2)]), (31, T32), (32, T32), (33, T32), (35, [(0, 4)]), (36, d9_19)]), (49, [(37, [(0, 24)]), (38, d9_5), (39, T32), (40, T32), (42, d9_7), (43, d9_19), (44, [((-4), (-4)), (0, 19)]), (45, d9_21), (46, [(0, 2)]), (47, T32), (48, T32), (49, T32)]), (65, [(50, T32), (51, T32), (54, d9_10), (55, [(0, 59)]), (56, d9_19), (57, d9_19), (60, d9_18), (61, d9_8), (62, [(0, 9)]), (63, T32), (64, T32), (65, T32)]), (102, [(66, T32), (67, T32), (68, d9_0), (69, [(0, 59)]), (72, T32), (73, d9_12), (74, d9_19), (96, d9_5), (99, [(0, 65535)]), (100, d9_8), (101, d9_21), (102, [(0, 4)])]), (115, [(103, T32), (104, T32), (105, d9_22), (106, d9_21), (107, [(0, 4)]), (108, T32), (109, T32), (111, d9_18), (112, T32), (113, T32), (114, [(0, 115)]), (115, d9_19)]), (129, [(116, T32), (117, T32), (118, T32), (119, T32), (120, d9_10), (121, d9_9), (122, d9_1), (125, [((-4), (-4)), (0, 39)]), (126, [((-4), (-4)), (0, 19)]), (127, d9_10), (128, d9_10), (129, d9_10)]), (141, [(130, d9_9), (131, d9_17), (132, [((-1), 2)]), (133, [((-1), 3)]), (134, T32), (135, [((-1), 6)]), (136, [((-1), 2)]), (137, T32), (138, T32), (139, [(0, 10400)]), (140, [(0, 10400)]), (141, [(0, 18)])]), (155, [(143, d9_9), (144, d9_10), (145, [(0, 2)]), (146, d9_24), (147, d9_19), (148, [(0, 0), (7, 13), (16, 18)]), (149, T32), (150, T32), (151, d9_8), (153, T32), (154, T32), (155, d9_4)]), (167, [(156, T32), (157, [(0, 4)]), (158, d9_19), (159, [(0, 24)]), (160, d9_5), (161, d9_10), (162, d9_7), (163, d9_19), (164, [((-4), (-4)), (0, 19)]), (165, T32), (166, d9_21), (167, [(0, 2)])]), (179, [(168, T32), (169, T32), (170, [((-4), (-4)), (0, 19)]), (171, d9_5), (172, d9_5), (173, d9_8), (174, d9_13), (175, T32), (176, d9_1), (177, T32), (178, d9_10), (179, d9_10)]), (191, [(180, [(0, 59)]), (181, [(0, 59)]), (182, d9_19), (183, d9_19), (184, d9_22), (185, d9_22), (186, d9_19), (187, d9_18), (188, d9_8), (189, [(0, 9)]), (190, T32), (191, T32)]), (205, [(192, T32), (193, T32), (194, T32), (195, d9_0), (196, [(0, 59)]), (198, T32), (199, d9_12), (200, d9_10), (201, d9_10), (202, T32), (204, [(0, 65535)]), (205, d9_8)]), (214, [(206, d9_21), (207, [(0, 4)]), (208, T32), (209, T32), (210, d9_22), (211, d9_21), (212, [(0, 4)]), (213, T32), (214, T32)])]
def T_co : BT (Nat × List Dom) := [(6, [(4, (7, [T32, T32, T32, T32, T32, T32, T32])), (6, (6, [[(0, 115)], d9_19, T32, T32, T32, T32]))]), (53, [(20, (9, [[(0, 2)], d9_9, T32, d9_15, [(0, 2)], d9_13, d9_6, d9_6, T32])), (53, (8, [d9_5, d9_5, d9_8, d9_13, T32, d9_1, T32, d9_10]))]), (58, [(58, (3, [d9_22, d9_22, d9_19]))])]
def T_rl : BT (Nat × Nat) := [(26, [(21, (3, 0)), (22, (3, 1)), (24, (11, 0)), (25, (11, 1)), (26, (11, 2))]), (63, [(46, (0, 0)), (47, (0, 1)), (48, (0, 2)), (61, (1, 0)), (63, (1, 1))]), (134, [(64, (1, 2)), (102, (2, 0)), (103, (2, 1)), (133, (9, 0)), (134, (9, 1))]), (157, [(136, (8, 0)), (137, (8, 1)), (141, (10, 0)), (142, (10, 1)), (157, (4, 0))]), (188, [(159, (4, 1)), (167, (5, 0)), (168, (5, 1)), (169, (5, 2)), (188, (6, 0))]), (208, [(190, (6, 1)), (191, (6, 2)), (207, (7, 0)), (208, (7, 1))])]
def T_rs : List Rl1 := [(48, ([(46, false), (47, false), (48, false)], [[d9_10, d9_4, d9_4], [[(2, 2)], [(1, 8)], T32]])), (60, ([(61, false), (63, false), (64, false)], [[[(0, 0)], [(0, 9)], [(0, 9)]], [[(1, 1)], T32, T32], [[(2, 2), (5, 5)], d9_1, T32], [[(3, 3)], [(10, 13)], T32], [[(4, 4)], [(0, 9)], d9_4]])), (144, ([(102, false), (103, false)], [[[(0, 1), (3, 3)], d9_22], [[(2, 2)], [(0, 65535)]], [[(4, 4)], T32]])), (9600, ([(21, false), (22, true)], [[[(0, 3), (7, 12), (21, 23)], T64], [[(4, 6), (13, 20)], d9_19], [[(24, 25)], d9_6]])), (20, ([(157, false), (159, false)], [[[(0, 1), (3, 4)], d9_19], [[(2, 2)], [(0, 24)]]])), (48, ([(167, false), (168, false), (169, false)], [[d9_10, d9_4, d9_4], [[(2, 2)], [(1, 8)], T32]])), (60, ([(188, false), (190, false), (191, false)], [[[(0, 0)], [(0, 9)], [(0, 9)]], [[(1, 1)], T32, T32], [[(2, 2), (5, 5)], d9_1, T32], [[(3, 3)], [(10, 13)], T32], [[(4, 4)], [(0, 9)], d9_4]])), (144, ([(207, false), (208, false)], [[[(0, 1), (3, 3)], d9_22], [[(2, 2)], [(0, 65535)]], [[(4, 4)], T32]])), (240, ([(136, false), (137, false)], [[[((-1), 0)], T32], [[(1, 2)], d9_13]])), (240, ([(133, false), (134, false)], [[[((-1), 0), (2, 3)], T32], [[(1, 1)], d9_19]])), (10400, ([(141, false), (142, true)], [[[(0, 3), (7, 13), (16, 18)], T64], [[(4, 6), (14, 15)], d9_19]])), (1201, ([(24, false), (25, false), (26, true)], [[[(1, 1)], [(0, 1199)], [(1, 1200)]], [[(0, 0), (2, 5)], d9_2, T64]]))]
def TJ : Jx := (T_fi, (T_ai, (T_co, (T_rl, T_rs))))
theorem TJ_wf : TJ.wf = true := by decide +kernel
end
end
