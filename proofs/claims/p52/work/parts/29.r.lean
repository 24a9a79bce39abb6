noncomputable section
/-! ===== WHAT ELSE HOLDS, 36: the first owner (595 open while it is written); how deep (535 q, 538 r: from q it is r + 1 steps to below 0; 536 x, 537 n: x is n + 1 steps behind q); hints 150 .. 156 ===== -/
def vS9 (kO kF jB : Nat) (H : List (Nat × Int)) (σ : zS) : Prop := (σ.1 kF jB).toInt = 1 → lk H 595 = none → (σ.1 kO 0).toInt = -4
def vtg (t : Nat) : Bool := Nat.ble 595 t && Nat.ble t 595
theorem vtg_no {u : Nat} (h : vtg u = false) : u ≠ 595 := fun q => by
  rw [q] at h
  cases h
def vw9 (kF jB : Nat) (s : Sy) (hl : List (Nat × AV)) (k : Nat) (p v : AV) : Option (List (Nat × AV)) :=
  bif Nat.beq k kF then (match p with
    | .inr (.inl (.ofNat j)) => bif Nat.beq j jB then (bif isS (lk hl 595) then some hl else some ((595, .c 0) :: hl)) else some hl
    | _ => none)
  else bif leAV s (.c 1) p then some hl else bif eqA s p (.c 0) && eqA s v (.c (-4)) then some (hdel 595 hl) else none
def cv9 (kO kF jB : Nat) : Cp := (vtg, (vS9 kO kF jB, (fun q => Nat.beq q kO || Nat.beq q kF, (fun s hl k p v => vw9 kF jB s hl k p v, nlw))))
theorem cv9_ok {T : Jx} {G : Gl} {kO kF jB : Nat} (d1 : kO ≠ kF) : CpOk T G (cv9 kO kF jB) := by
  apply CpOk.no (fun _ => rfl)
  refine ⟨fun u hu => ?_, fun H H' σ σ' h1 h2 hS => ?_, ?_⟩
  · have hu : (Nat.ble 595 u && Nat.ble u 595) = true := hu
    rw [Bool.and_eq_true] at hu
    have := Nat.le_of_ble_eq_true hu.1
    omega
  · have r1 : σ'.1 kO = σ.1 kO := h2 kO (by show (Nat.beq kO kO || Nat.beq kO kF) = true; rw [Nat.beq_refl]; rfl)
    have r2 : σ'.1 kF = σ.1 kF := h2 kF (by show (Nat.beq kF kO || Nat.beq kF kF) = true; rw [Nat.beq_refl, Bool.or_true])
    show vS9 kO kF jB H' σ'
    unfold vS9
    rw [r1, r2, h1 595 rfl]
    exact hS
  · intro s ρ σ k p v j x hl hl' H ho hb hp hi hv hx hr hw hh hS
    replace hw : vw9 kF jB s hl k p v = some hl' := hw
    replace hS : vS9 kO kF jB H σ := hS
    unfold vw9 at hw
    cases e1 : Nat.beq k kF with
    | true =>
      have ek := Nat.eq_of_beq_eq_true e1
      subst ek
      rw [e1] at hw
      simp only [cond_true] at hw
      split at hw
      · rename_i j0
        have ej : j0 = j := by
          have : ((j0 : Nat) : Int) = (j : Int) := Option.some.inj hp
          omega
        subst ej
        have nO : (zI σ k j0 x).1 kO 0 = σ.1 kO 0 := zI_ne (by rintro ⟨e, _⟩; exact d1 e)
        cases e2 : Nat.beq j0 jB with
        | false =>
          have nj : j0 ≠ jB := beq_ne e2
          rw [e2] at hw
          cases Option.some.inj hw
          have nF : (zI σ k j0 x).1 k jB = σ.1 k jB := zI_ne (by rintro ⟨_, e⟩; exact nj e.symm)
          exact ⟨H, hh, fun a b => by rw [nF] at a; rw [nO]; exact hS a b, fun _ _ => rfl⟩
        | true =>
          rw [e2] at hw
          simp only [cond_true] at hw
          cases e3 : isS (lk hl 595) with
          | true =>
            rw [e3] at hw
            cases Option.some.inj hw
            refine ⟨H, hh, fun _ b => ?_, fun _ _ => rfl⟩
            rcases hh.lkp (t := 595) with ⟨q, _⟩ | ⟨a', z, _, q', _⟩
            · rw [q] at e3; cases e3
            · rw [q'] at b; cases b
          | false =>
            rw [e3] at hw
            cases Option.some.inj hw
            refine ⟨(595, 0) :: H, ⟨⟨rfl, rfl⟩, hh⟩, fun _ b => ?_, fun t ht => by rw [lk_cons, if_neg (vtg_no ht)]⟩
            rw [lk_cons, if_pos rfl] at b
            cases b
      · cases hw
    | false =>
      have nk : k ≠ kF := beq_ne e1
      have ek : k = kO := by
        have hr : (Nat.beq k kO || Nat.beq k kF) = true := hr
        rw [e1, Bool.or_false] at hr
        exact Nat.eq_of_beq_eq_true hr
      subst ek
      rw [e1] at hw
      simp only [cond_false] at hw
      have nF : (zI σ k j x).1 kF jB = σ.1 kF jB := zI_ne (by rintro ⟨e, _⟩; exact nk e.symm)
      cases e2 : leAV s (.c 1) p with
      | true =>
        rw [e2] at hw
        cases Option.some.inj hw
        have g := leAV_ok ho e2 (x := 1) rfl hp
        exact ⟨H, hh, fun a b => by rw [nF] at a; rw [zI_ne (by rintro ⟨_, e⟩; omega)]; exact hS a b, fun _ _ => rfl⟩
      | false =>
        rw [e2] at hw
        simp only [cond_false] at hw
        cases e3 : eqA s p (.c 0) && eqA s v (.c (-4)) with
        | false => rw [e3] at hw; cases hw
        | true =>
          rw [e3] at hw
          cases Option.some.inj hw
          rw [Bool.and_eq_true] at e3
          have g1 := eqA_ok ho e3.1 hp (y := 0) rfl
          have g2 := eqA_ok ho e3.2 hx (y := -4) rfl
          have ej : j = 0 := by omega
          subst ej
          exact ⟨hdel 595 H, hh.del, fun _ _ => by rw [zI_at]; exact g2, fun t ht => by rw [lk_hdel, if_neg (vtg_no ht)]⟩
def Dp (P : Nat → Int) : Nat → Int → Prop
  | 0, x => x < 0
  | d + 1, x => 0 ≤ x ∧ Dp P d (P x.toNat)
theorem dp_fun {P : Nat → Int} : ∀ {d e : Nat} {x : Int}, Dp P d x → Dp P e x → d = e
  | 0, 0, _, _, _ => rfl
  | 0, e + 1, x, h1, h2 => by
    have h1 : x < 0 := h1
    have := h2.1
    omega
  | d + 1, 0, x, h1, h2 => by
    have h2 : x < 0 := h2
    have := h1.1
    omega
  | d + 1, e + 1, x, h1, h2 => congrArg Nat.succ (dp_fun h1.2 h2.2)
def dS9 (kP : Nat) (H : List (Nat × Int)) (σ : zS) : Prop :=
  (∀ q x n, lk H 535 = some q → lk H 536 = some x → lk H 537 = some n → ∃ k : Nat, n = (k : Int) ∧ ∀ d, Dp (Pp σ kP) d x → Dp (Pp σ kP) (k + 1 + d) q) ∧
  ∀ q r, lk H 535 = some q → lk H 538 = some r → ∀ d : Nat, (d : Int) ≤ 2147483647 → Dp (Pp σ kP) (d + 1) q → r = (d : Int)
def dtg (t : Nat) : Bool := Nat.ble 535 t && Nat.ble t 538
theorem dtg_no {u : Nat} (h : dtg u = false) : ¬ (535 ≤ u ∧ u ≤ 538) := fun q => by
  have : dtg u = true := by
    show (Nat.ble 535 u && Nat.ble u 538) = true
    rw [Bool.and_eq_true]
    exact ⟨Nat.ble_eq_true_of_le q.1, Nat.ble_eq_true_of_le q.2⟩
  rw [this] at h
  cases h
def cd9 (kP : Nat) : Cp := (dtg, (dS9 kP, (fun q => Nat.beq q kP, (fun _ hl _ _ _ => bif isS (lk hl 535) then none else some hl, nlw))))
theorem cd9_ok {T : Jx} {G : Gl} {kP : Nat} : CpOk T G (cd9 kP) := by
  apply CpOk.no (fun _ => rfl)
  have tin : ∀ u, 535 ≤ u → u ≤ 538 → dtg u = true := fun u h1 h2 => by
    show (Nat.ble 535 u && Nat.ble u 538) = true
    rw [Bool.and_eq_true]
    exact ⟨Nat.ble_eq_true_of_le h1, Nat.ble_eq_true_of_le h2⟩
  refine ⟨fun u hu => ?_, fun H H' σ σ' h1 h2 hS => ?_, ?_⟩
  · have hu : (Nat.ble 535 u && Nat.ble u 538) = true := hu
    rw [Bool.and_eq_true] at hu
    have := Nat.le_of_ble_eq_true hu.1
    omega
  · have r1 : Pp σ' kP = Pp σ kP := by
      funext y
      show (σ'.1 kP y).toInt = _
      rw [h2 kP (Nat.beq_refl kP)]
    have l : ∀ u, 535 ≤ u → u ≤ 538 → lk H' u = lk H u := fun u a b => h1 u (tin u a b)
    show dS9 kP H' σ'
    unfold dS9
    rw [r1, l 535 (by omega) (by omega), l 536 (by omega) (by omega), l 537 (by omega) (by omega), l 538 (by omega) (by omega)]
    exact hS
  · intro s ρ σ k p v j x hl hl' H ho hb hp hi hv hx hr hw hh hS
    replace hw : (bif isS (lk hl 535) then none else some hl) = some hl' := hw
    cases hc : isS (lk hl 535) with
    | true => rw [hc] at hw; cases hw
    | false =>
      rw [hc] at hw
      cases Option.some.inj hw
      have no : lk H 535 = none := by
        rcases hh.lkp (t := 535) with ⟨_, q2⟩ | ⟨a, z, q1, _, _⟩
        · exact q2
        · rw [q1] at hc; cases hc
      exact ⟨H, hh, ⟨fun q y n a => (by rw [no] at a; cases a), fun q r a => (by rw [no] at a; cases a)⟩, fun _ _ => rfl⟩
section H38
variable {T : Jx} {G : Gl} {cs : List Cp} {s : Sy} {ρ : List Int} {σ : zS} {kP kO kF jB : Nat}
def h150 (kO kF jB : Nat) (s : Sy) : Option Sy := match mget s.me kF (.c (jB : Int)) with
  | some b => bif (b.isI && eqA s b (.c 1)) && !(isS (lk s.hl 595)) then (match mget s.me kO (.c ((0 : Nat) : Int)) with
    | some w => bif w.isI then s.refd w [(-4, -4)] else some s
    | none => some (s.add kO (.c ((0 : Nat) : Int)) (.c (-4)))) else some s
  | none => some s
theorem h150_ok (hm : cv9 kO kF jB ∈ cs) (ho : Ok (Jf T G (cS cs)) s ρ σ) : ∃ s', h150 kO kF jB s = some s' ∧ Ok (Jf T G (cS cs)) s' ρ σ := by
  unfold h150
  split
  · rename_i b hbm
    cases hc : (b.isI && eqA s b (.c 1)) && !(isS (lk s.hl 595)) with
    | false => exact ⟨s, rfl, ho⟩
    | true =>
      simp only [cond_true]
      simp only [Bool.and_eq_true] at hc
      obtain ⟨H, i1, i2⟩ := ho.inv
      have hS : vS9 kO kF jB H σ := i2.2.2 _ hm
      have e : (σ.1 kO 0).toInt = -4 := hS (eqA_ok ho hc.1.2 (me_at ho hbm rfl hc.1.1) (y := 1) rfl) (no_tag i1 hc.2)
      split
      · rename_i w hw
        cases hi : w.isI with
        | false => exact ⟨s, rfl, ho⟩
        | true =>
          have g := me_at ho hw rfl hi
          exact refd_ok ho g (dom_i ho hi g) ⟨_, List.mem_cons_self .., by rw [e]; exact Int.le_refl _, by rw [e]; exact Int.le_refl _⟩
      · exact ⟨_, rfl, ho.addm ⟨0, rfl, Or.inl ⟨rfl, congrArg some e.symm⟩⟩⟩
  · exact ⟨s, rfl, ho⟩
def h151 (a : AV) (s : Sy) : Sy := bif a.isI && ((!(isS (lk s.hl 535)) && !(isS (lk s.hl 536))) && (!(isS (lk s.hl 537)) && !(isS (lk s.hl 538)))) then (s.new [(0, 2147483647)]).seth ((535, a) :: (538, .i s.nx 0) :: s.hl) else s
theorem h151_ok (hP : PH T G cs (cd9 kP)) {a : AV} {x : Int} (ha : ev ρ a = some x) (ho : Ok (Jf T G (cS cs)) s ρ σ) : ∃ ρ', Pre ρ ρ' ∧ Ok (Jf T G (cS cs)) (h151 a s) ρ' σ := by
  unfold h151
  cases hc : a.isI && ((!(isS (lk s.hl 535)) && !(isS (lk s.hl 536))) && (!(isS (lk s.hl 537)) && !(isS (lk s.hl 538)))) with
  | false => exact ⟨ρ, Pre.rf, ho⟩
  | true =>
    simp only [Bool.and_eq_true] at hc
    obtain ⟨H, i1, i2⟩ := ho.inv
    have n536 := no_tag i1 hc.2.1.2
    obtain ⟨r, hr0, hr1, hr⟩ : ∃ r : Int, 0 ≤ r ∧ r ≤ 2147483647 ∧ ∀ d : Nat, (d : Int) ≤ 2147483647 → Dp (Pp σ kP) (d + 1) x → r = (d : Int) := by
      by_cases h : ∃ d : Nat, (d : Int) ≤ 2147483647 ∧ Dp (Pp σ kP) (d + 1) x
      · obtain ⟨d, h1, h2⟩ := h
        exact ⟨d, by omega, h1, fun e h3 h4 => by have := dp_fun h2 h4; omega⟩
      · exact ⟨0, by omega, by omega, fun d h1 h2 => absurd ⟨d, h1, h2⟩ h⟩
    have hq := ho.new (x := r) (d := [(0, 2147483647)]) ⟨_, List.mem_cons_self .., hr0, hr1⟩
    have hp : Pre ρ (ρ ++ [r]) := ⟨_, rfl⟩
    refine ⟨ρ ++ [r], hp, ph_set (H := H) (H' := (535, x) :: (538, r) :: H) hP hq i2 ⟨⟨rfl, ev.mono hp ha⟩, ⟨rfl, ho.new_i⟩, i1.mono hp⟩ (fun u hu => ?_) ⟨fun q y n _ b _ => ?_, fun q r' b1 b2 => ?_⟩⟩
    · have := dtg_no hu
      rw [lk_cons, if_neg (by omega), lk_cons, if_neg (by omega)]
    · rw [lk_cons, if_neg (by decide), lk_cons, if_neg (by decide), n536] at b
      cases b
    · rw [lk_cons, if_pos rfl] at b1
      rw [lk_cons, if_neg (by decide), lk_cons, if_pos rfl] at b2
      rw [← Option.some.inj b1, ← Option.some.inj b2]
      exact hr
def h152 (kP : Nat) (a : AV) (s : Sy) : Sy := match lk s.hl 535 with
  | some q => bif stp9 kP q a s && (!(isS (lk s.hl 536)) && !(isS (lk s.hl 537))) then s.seth ((536, a) :: (537, .c 0) :: s.hl) else s
  | none => s
theorem h152_ok (hP : PH T G cs (cd9 kP)) {a : AV} {z : Int} (hz : ev ρ a = some z) (ho : Ok (Jf T G (cS cs)) s ρ σ) : Ok (Jf T G (cS cs)) (h152 kP a s) ρ σ := by
  unfold h152
  split
  · rename_i q qq
    cases hc : stp9 kP q a s && (!(isS (lk s.hl 536)) && !(isS (lk s.hl 537))) with
    | false => exact ho
    | true =>
      rw [Bool.and_eq_true] at hc
      obtain ⟨H, i1, i2⟩ := ho.inv
      obtain ⟨w1, w2⟩ := (i2.2.2 _ hP.2.2.1 : dS9 kP H σ)
      obtain ⟨zq, q1, q2⟩ := tag_get ho i1 qq
      obtain ⟨g0, g1⟩ := stp9_ok ho q2 hz hc.1
      have l0 : ∀ t, t ≠ 536 → t ≠ 537 → lk ((536, z) :: (537, 0) :: H) t = lk H t := fun t h1 h2 => by rw [lk_cons, if_neg h1, lk_cons, if_neg h2]
      refine ph_set (H := H) (H' := (536, z) :: (537, 0) :: H) hP ho i2 ⟨⟨rfl, hz⟩, ⟨rfl, rfl⟩, i1⟩ (fun u hu => l0 u (fun e => dtg_no hu (by omega)) (fun e => dtg_no hu (by omega))) ⟨fun q' x n b1 b2 b3 => ?_, fun q' r b1 b2 => ?_⟩
      · rw [l0 535 (by decide) (by decide), q1] at b1
        rw [lk_cons, if_pos rfl] at b2
        rw [lk_cons, if_neg (by decide), lk_cons, if_pos rfl] at b3
        rw [← Option.some.inj b1, ← Option.some.inj b2]
        refine ⟨0, (Option.some.inj b3).symm, fun d hd => ?_⟩
        have e : 0 + 1 + d = d + 1 := by omega
        rw [e]
        exact ⟨g0, by rw [g1]; exact hd⟩
      · rw [l0 535 (by decide) (by decide)] at b1
        rw [l0 538 (by decide) (by decide)] at b2
        exact w2 q' r b1 b2
  · exact ho
def h153 (kP : Nat) (a : AV) (s : Sy) : Sy := match lk s.hl 535, lk s.hl 536, lk s.hl 537 with
  | some _, some x, some n => bif stp9 kP x a s then s.seth (hup 536 a (hup 537 (shA n 1) s.hl)) else s
  | _, _, _ => s
theorem h153_ok (hP : PH T G cs (cd9 kP)) {a : AV} {z : Int} (hz : ev ρ a = some z) (ho : Ok (Jf T G (cS cs)) s ρ σ) : Ok (Jf T G (cS cs)) (h153 kP a s) ρ σ := by
  unfold h153
  split
  · rename_i q x n qq qx qn
    cases hc : stp9 kP x a s with
    | false => exact ho
    | true =>
      obtain ⟨H, i1, i2⟩ := ho.inv
      obtain ⟨w1, w2⟩ := (i2.2.2 _ hP.2.2.1 : dS9 kP H σ)
      obtain ⟨zq, q1, q2⟩ := tag_get ho i1 qq
      obtain ⟨zx, x1, x2⟩ := tag_get ho i1 qx
      obtain ⟨zn, n1, n2⟩ := tag_get ho i1 qn
      obtain ⟨g0, g1⟩ := stp9_ok ho x2 hz hc
      obtain ⟨k, k1, k2⟩ := w1 zq zx zn q1 x1 n1
      have x3 : lk (hup 537 (zn + 1) H) 536 = some zx := by
        rw [lk_hup_ne (by decide)]
        exact x1
      have l0 : ∀ t, t ≠ 536 → t ≠ 537 → lk (hup 536 z (hup 537 (zn + 1) H)) t = lk H t := fun t h1 h2 => by rw [lk_hup_ne h1, lk_hup_ne h2]
      refine ph_set hP ho i2 ((i1.up (shA_ev n2)).up hz) (fun u hu => l0 u (fun e => dtg_no hu (by omega)) (fun e => dtg_no hu (by omega))) ⟨fun q' x' n' b1 b2 b3 => ?_, fun q' r b1 b2 => ?_⟩
      · rw [l0 535 (by decide) (by decide), q1] at b1
        rw [lk_hup_at x3] at b2
        rw [lk_hup_ne (by decide), lk_hup_at n1] at b3
        rw [← Option.some.inj b1, ← Option.some.inj b2]
        refine ⟨k + 1, by rw [← Option.some.inj b3]; omega, fun d hd => ?_⟩
        have h := k2 (d + 1) ⟨g0, by rw [g1]; exact hd⟩
        have e : k + 1 + (d + 1) = k + 1 + 1 + d := by omega
        rw [e] at h
        exact h
      · rw [l0 535 (by decide) (by decide)] at b1
        rw [l0 538 (by decide) (by decide)] at b2
        exact w2 q' r b1 b2
  · exact ho
def h154 (s : Sy) : Sy := match lk s.hl 535, lk s.hl 536, lk s.hl 537 with
  | some _, some x, some n => match lk s.hl 538 with
    | some r => bif leAV s x (.c (-1)) && leAV s n (.c 2147483647) then (s.factd (tlin (-1) (nf s r).1 (nf s n).1) ((nf s r).2 - (nf s n).2)).factd (tlin (-1) (nf s n).1 (nf s r).1) ((nf s n).2 - (nf s r).2) else s
    | none => s
  | _, _, _ => s
theorem h154_ok (hm : cd9 kP ∈ cs) (ho : Ok (Jf T G (cS cs)) s ρ σ) : Ok (Jf T G (cS cs)) (h154 s) ρ σ := by
  unfold h154
  split
  · rename_i q x n qq qx qn
    split
    · rename_i r qr
      cases hc : leAV s x (.c (-1)) && leAV s n (.c 2147483647) with
      | false => exact ho
      | true =>
        rw [Bool.and_eq_true] at hc
        obtain ⟨H, i1, i2⟩ := ho.inv
        obtain ⟨w1, w2⟩ := (i2.2.2 _ hm : dS9 kP H σ)
        obtain ⟨zq, q1, q2⟩ := tag_get ho i1 qq
        obtain ⟨zx, x1, x2⟩ := tag_get ho i1 qx
        obtain ⟨zn, n1, n2⟩ := tag_get ho i1 qn
        obtain ⟨zr, r1, r2⟩ := tag_get ho i1 qr
        have g1 := leAV_ok ho hc.1 x2 (y := -1) rfl
        have g2 := leAV_ok ho hc.2 n2 (y := 2147483647) rfl
        obtain ⟨k, k1, k2⟩ := w1 zq zx zn q1 x1 n1
        have er : zr = zn := by
          have h := k2 0 (show zx < 0 by omega)
          have := w2 zq zr q1 r1 k (by omega) h
          omega
        obtain ⟨v, v1, v2⟩ := nf_ok ho r2
        obtain ⟨u, u1, u2⟩ := nf_ok ho n2
        have f1 := tlin_ok (w := -1) v1 u1
        have f2 := tlin_ok (w := -1) u1 v1
        have o1 := factd_ok ho (c := (nf s r).2 - (nf s n).2) f1 (by omega)
        exact factd_ok o1 f2 (by omega)
    · exact ho
  · exact ho
def h155 (s : Sy) : Sy := s.seth (hdel 536 (hdel 537 s.hl))
theorem h155_ok (hP : PH T G cs (cd9 kP)) (ho : Ok (Jf T G (cS cs)) s ρ σ) : Ok (Jf T G (cS cs)) (h155 s) ρ σ := by
  obtain ⟨H, i1, i2⟩ := ho.inv
  obtain ⟨w1, w2⟩ := (i2.2.2 _ hP.2.2.1 : dS9 kP H σ)
  refine ph_set hP ho i2 ((i1.del).del) (fun u hu => ?_) ⟨fun q x n _ b => ?_, fun q r b1 b2 => ?_⟩
  · have := dtg_no hu
    rw [lk_hdel, if_neg (by omega), lk_hdel, if_neg (by omega)]
  · rw [lk_hdel, if_pos rfl] at b; cases b
  · rw [lk_hdel, if_neg (by decide), lk_hdel, if_neg (by decide)] at b1 b2
    exact w2 q r b1 b2
def h156 (s : Sy) : Sy := s.seth (hdel 535 (hdel 536 (hdel 537 (hdel 538 s.hl))))
theorem h156_ok (hP : PH T G cs (cd9 kP)) (ho : Ok (Jf T G (cS cs)) s ρ σ) : Ok (Jf T G (cS cs)) (h156 s) ρ σ := by
  obtain ⟨H, i1, i2⟩ := ho.inv
  refine ph_set hP ho i2 ((((i1.del).del).del).del) (fun u hu => ?_) ⟨fun q x n b => ?_, fun q r b => ?_⟩
  · have := dtg_no hu
    rw [lk_hdel, if_neg (by omega), lk_hdel, if_neg (by omega), lk_hdel, if_neg (by omega), lk_hdel, if_neg (by omega)]
  · rw [lk_hdel, if_pos rfl] at b; cases b
  · rw [lk_hdel, if_pos rfl] at b; cases b
end H38
end
