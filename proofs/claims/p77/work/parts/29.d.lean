noncomputable section
/-! ===== WHAT ELSE HOLDS, 20: a tree ===== -/
/-- towards the parent a rank falls -/
def Acy (P : Nat → Int) (r : Nat → Nat) : Prop := ∀ x p : Nat, x < 40 → P x = (p : Int) → r p < r x
/-- how many of the first n have a rank below b -/
def cnt (r : Nat → Nat) (b : Nat) : Nat → Nat
  | 0 => 0
  | n + 1 => cnt r b n + (if r n < b then 1 else 0)
theorem cnt_le {r : Nat → Nat} {b : Nat} : ∀ n : Nat, cnt r b n ≤ n
  | 0 => Nat.le_refl 0
  | n + 1 => by
    have := cnt_le (r := r) (b := b) n
    unfold cnt
    split <;> omega
theorem cnt_mono {r : Nat → Nat} {b c : Nat} (h : b ≤ c) : ∀ n : Nat, cnt r b n ≤ cnt r c n
  | 0 => Nat.le_refl 0
  | n + 1 => by
    have := cnt_mono (r := r) h n
    unfold cnt
    split <;> split <;> omega
theorem cnt_lt {r : Nat → Nat} {c p : Nat} (h : r p < c) : ∀ n : Nat, p < n → cnt r (r p) n < cnt r c n
  | 0, hp => absurd hp (Nat.not_lt_zero _)
  | n + 1, hp => by
    have hm := cnt_mono (r := r) (Nat.le_of_lt h) n
    unfold cnt
    by_cases e : p = n
    · subst e
      rw [if_neg (Nat.lt_irrefl _), if_pos h]
      omega
    · have := cnt_lt h n (by omega)
      split <;> split <;> omega
/-- how far a place is from the end -/
def rk (r : Nat → Nat) (x : Int) : Int := if 0 ≤ x then ((cnt r (r x.toNat) 40 : Nat) : Int) + 1 else 0
theorem rk_in {r : Nat → Nat} {x : Int} : 0 ≤ rk r x ∧ rk r x ≤ 41 := by
  unfold rk
  have := cnt_le (r := r) (b := r x.toNat) 40
  split <;> omega
theorem rk_step {P : Nat → Int} {r : Nat → Nat} (h : Acy P r) {x : Int} (h0 : 0 ≤ x) (h1 : x < 40) (h2 : P x.toNat < 40) : rk r (P x.toNat) < rk r x := by
  unfold rk
  rw [if_pos h0]
  split
  · rename_i hp
    have e : P x.toNat = ((P x.toNat).toNat : Int) := by omega
    have := cnt_lt (h x.toNat (P x.toNat).toNat (by omega) e) 40 (by omega)
    omega
  · omega
/-- n steps up -/
def up (P : Nat → Int) : Nat → Int → Int
  | 0, x => x
  | n + 1, x => up P n (if 0 ≤ x then P x.toNat else x)
def Un (P : Nat → Int) (t y : Int) : Prop := ∃ n, up P n y = t
theorem un_step {P : Nat → Int} {t x : Int} (h : Un P t x) (h0 : 0 ≤ x) (hn : x ≠ t) : Un P t (P x.toNat) := by
  obtain ⟨n, hn2⟩ := h
  cases n with
  | zero => exact absurd hn2 hn
  | succ n =>
    unfold up at hn2
    rw [if_pos h0] at hn2
    exact ⟨n, hn2⟩
theorem un_back {P : Nat → Int} {t x : Int} (h0 : 0 ≤ x) (h : Un P t (P x.toNat)) : Un P t x := by
  obtain ⟨n, hn⟩ := h
  refine ⟨n + 1, ?_⟩
  unfold up
  rw [if_pos h0]
  exact hn
theorem un_neg {P : Nat → Int} {t x : Int} (h0 : x < 0) (ht : 0 ≤ t) : ¬ Un P t x := by
  rintro ⟨n, hn⟩
  have : ∀ n : Nat, up P n x = x := by
    intro n
    induction n with
    | zero => rfl
    | succ n ih =>
      unfold up
      rw [if_neg (by omega)]
      exact ih
  rw [this n] at hn
  omega
def setP (P : Nat → Int) (t : Nat) (q : Int) : Nat → Int := fun y => if y = t then q else P y
theorem acy_move {P : Nat → Int} {r : Nat → Nat} (h : Acy P r) {t : Nat} {q : Int} (hq : 0 ≤ q) (hu : ¬ Un P (t : Int) q) : ∃ r', Acy (setP P t q) r' := by
  classical
  refine ⟨fun y => if Un P (t : Int) (y : Int) then r y + (r q.toNat + 1) else r y, ?_⟩
  intro x p hx hp
  unfold setP at hp
  dsimp only
  by_cases e : x = t
  · rw [if_pos e] at hp
    have ep : q.toNat = p := by omega
    have eq2 : q = (p : Int) := by omega
    have h1 : ¬ Un P (t : Int) (p : Int) := by rw [← eq2]; exact hu
    have h2 : Un P (t : Int) (x : Int) := ⟨0, by rw [e]; rfl⟩
    rw [if_neg h1, if_pos h2, ep]
    omega
  · rw [if_neg e] at hp
    have hr := h x p hx hp
    have e1 : P ((x : Int)).toNat = (p : Int) := by rw [Int.toNat_natCast]; exact hp
    by_cases hu2 : Un P (t : Int) (x : Int)
    · have h3 := un_step hu2 (by omega) (by omega)
      rw [e1] at h3
      rw [if_pos h3, if_pos hu2]
      omega
    · have h3 : ¬ Un P (t : Int) (p : Int) := fun h4 => hu2 (un_back (by omega) (by rw [e1]; exact h4))
      rw [if_neg h3, if_neg hu2]
      exact hr
theorem acy_new {P : Nat → Int} {r : Nat → Nat} (h : Acy P r) {t : Nat} {q : Int} (hq : q < (t : Int)) (hb : ∀ x, x < 40 → P x < (t : Int)) : ∃ r', Acy (setP P t q) r' := by
  refine ⟨fun y => if y = t then r q.toNat + 1 else r y, ?_⟩
  intro x p hx hp
  unfold setP at hp
  dsimp only
  by_cases e : x = t
  · rw [if_pos e] at hp
    rw [if_pos e, if_neg (by omega)]
    have : q.toNat = p := by omega
    rw [this]
    omega
  · rw [if_neg e] at hp
    have hr := h x p hx hp
    have := hb x hx
    rw [if_neg e, if_neg (by omega)]
    exact hr
theorem acy_zero {P : Nat → Int} {q : Int} (hq : q < 0) (hb : ∀ x, x < 40 → P x = 0) : ∃ r', Acy (setP P 0 q) r' := by
  refine ⟨fun y => if y = 0 then 0 else 1, ?_⟩
  intro x p hx hp
  unfold setP at hp
  dsimp only
  by_cases e : x = 0
  · rw [if_pos e] at hp
    omega
  · rw [if_neg e] at hp
    have := hb x hx
    rw [if_neg e, if_pos (by omega)]
    decide
theorem acy_cut {P : Nat → Int} {r : Nat → Nat} (h : Acy P r) {t : Nat} {q : Int} (hq : q < 0) : Acy (setP P t q) r := by
  intro x p hx hp
  unfold setP at hp
  by_cases e : x = t
  · rw [if_pos e] at hp
    omega
  · rw [if_neg e] at hp
    exact h x p hx hp
abbrev Pp (σ : zS) (kP : Nat) : Nat → Int := fun x => (σ.1 kP x).toInt
theorem Pp_set {σ : zS} {kP j : Nat} {x : Int32} : Pp (zI σ kP j x) kP = setP (Pp σ kP) j x.toInt := by
  funext y
  unfold setP
  by_cases e : y = j
  · subst e
    rw [if_pos rfl]
    show ((zI σ kP y x).1 kP y).toInt = _
    rw [zI_at]
  · rw [if_neg e]
    show ((zI σ kP j x).1 kP y).toInt = _
    rw [zI_ne (by rintro ⟨_, q⟩; exact e q)]
/-- what is known of the tree: tags 300 a place, 301 how far it is; 302 under which, 303 what is asked for, 304 where the climb stands; 340: just begun -/
def tS (kP kF jT jB : Nat) (H : List (Nat × Int)) (σ : zS) : Prop := (Pp σ kP 0 < 0 → ∃ r, Acy (Pp σ kP) r ∧ ∀ x n, lk H 300 = some x → lk H 301 = some n → n = rk r x) ∧ (0 ≤ Pp σ kP 0 → ∀ x, x < 40 → Pp σ kP x = 0) ∧ (lk H 340 = none → (σ.1 kF jB).toInt = 1 → Pp σ kP 0 < 0) ∧ (∀ x, x < 40 → Pp σ kP x < (σ.1 kF jT).toInt) ∧ (∀ q t x, lk H 302 = some q → lk H 303 = some t → lk H 304 = some x → Un (Pp σ kP) t q → Un (Pp σ kP) t x)
def eqAV (s : Sy) (a b : AV) : Bool := leAV s a b && leAV s b a
def begun (kF jB : Nat) (s : Sy) (hl : List (Nat × AV)) : Bool := !(isS (lk hl 340)) && (match mget s.me kF (.c (jB : Int)) with
  | some w => w.isI && eqAV s w (.c 1)
  | none => false)
def tw (kP kF jT jB : Nat) (s : Sy) (hl : List (Nat × AV)) (k : Nat) (p v : AV) : Option (List (Nat × AV)) :=
  bif Nat.beq k kP then (match mget s.me kF (.c (jT : Int)) with
    | some th => bif (th.isI && leAV s (shA v 1) th) && !(isS (lk hl 300)) then
        (bif (eqAV s p (.c 0) && leAV s v (.c (-1))) && !(isS (lk hl 302)) then some (hdel 340 hl)
        else bif begun kF jB s hl && (leAV s (.c 1) p && leAV s (.c 0) v) then
          (bif eqAV s p th && !(isS (lk hl 302)) then some hl
          else match lk hl 302, lk hl 303, lk hl 304 with
            | some a, some b, some c => bif eqAV s v a && (eqAV s p b && leAV s c (.c (-1))) then some (hdel 302 hl) else none
            | _, _, _ => none)
        else none) else none
    | none => none)
  else match p with
    | .inr (.inl (.ofNat j)) => bif Nat.beq j jT then (match mget s.me kF (.c (jT : Int)) with
        | some th => bif th.isI && leAV s th v then some hl else none
        | none => none)
      else bif Nat.beq j jB then (bif isS (lk hl 340) then some hl else some ((340, .c 0) :: hl))
      else some hl
    | _ => none
def ctr (kP kF jT jB : Nat) : Cp := (fun u => (Nat.ble 300 u && Nat.ble u 304) || Nat.beq u 340, (tS kP kF jT jB, (fun q => Nat.beq q kP || Nat.beq q kF, (tw kP kF jT jB, nlw))))
section C20
variable {T : Jx} {G : Gl}
theorem eqAV_ok {s : Sy} {ρ : List Int} {σ : zS} {J : Jt} {a b : AV} {x y : Int} (ho : Ok J s ρ σ) (h : eqAV s a b = true) (ha : ev ρ a = some x) (hb : ev ρ b = some y) : x = y := by
  unfold eqAV at h
  rw [Bool.and_eq_true] at h
  have := leAV_ok ho h.1 ha hb
  have := leAV_ok ho h.2 hb ha
  omega
theorem lk_no {ρ : List Int} {hl : List (Nat × AV)} {H : List (Nat × Int)} (hh : Hl ρ hl H) {t : Nat} (h : (!(isS (lk hl t))) = true) : lk H t = none := by
  rcases hh.lkp (t := t) with ⟨_, q⟩ | ⟨a, z, q, _, _⟩
  · exact q
  · rw [q] at h; cases h
theorem begun_ok {s : Sy} {ρ : List Int} {σ : zS} {J : Jt} {kF jB : Nat} {hl : List (Nat × AV)} {H : List (Nat × Int)} (ho : Ok J s ρ σ) (hh : Hl ρ hl H) (h : begun kF jB s hl = true) : lk H 340 = none ∧ (σ.1 kF jB).toInt = 1 := by
  unfold begun at h
  rw [Bool.and_eq_true] at h
  refine ⟨lk_no hh h.1, ?_⟩
  have h2 := h.2
  split at h2
  · rename_i w hm
    rw [Bool.and_eq_true] at h2
    exact eqAV_ok ho h2.2 (me_at ho hm (j := jB) rfl h2.1) (y := 1) rfl
  · cases h2
theorem ctr_ok {kP kF jT jB : Nat} (d1 : kP ≠ kF) (d2 : jT ≠ jB) (hk : ∀ j, InB G kP j → j < 40) : CpOk T G (ctr kP kF jT jB) := by
  apply CpOk.no (fun _ => rfl)
  have bb : ∀ k, Nat.beq k k = true := Nat.beq_refl
  refine ⟨fun u hu => ?_, fun H H' σ σ' h1 h2 hS => ?_, ?_⟩
  · have hu : ((Nat.ble 300 u && Nat.ble u 304) || Nat.beq u 340) = true := hu
    rw [Bool.or_eq_true, Bool.and_eq_true] at hu
    rcases hu with ⟨hu, _⟩ | hu
    · have := Nat.le_of_ble_eq_true hu; omega
    · rw [Nat.eq_of_beq_eq_true hu]; decide
  · have hS : tS kP kF jT jB H σ := hS
    show tS kP kF jT jB H' σ'
    have q1 : (ctr kP kF jT jB).rw kP = true := by
      show (Nat.beq kP kP || Nat.beq kP kF) = true
      rw [bb kP, Bool.true_or]
    have q2 : (ctr kP kF jT jB).rw kF = true := by
      show (Nat.beq kF kP || Nat.beq kF kF) = true
      rw [bb kF, Bool.or_true]
    have r1 := h2 kP q1
    have r2 := h2 kF q2
    have e1 := h1 300 rfl
    have e2 := h1 301 rfl
    have e3 := h1 302 rfl
    have e4 := h1 303 rfl
    have e5 := h1 304 rfl
    have e6 := h1 340 rfl
    have rp : Pp σ' kP = Pp σ kP := by funext y; show (σ'.1 kP y).toInt = _; rw [r1]
    unfold tS at hS ⊢
    rw [rp, r2, e1, e2, e3, e4, e5, e6]
    exact hS
  · intro s ρ σ k p v j x hl hl' H ho hb hp hi hv hx hr hw hh hS
    obtain ⟨s1, s2, s3, s4, s5⟩ := (hS : tS kP kF jT jB H σ)
    replace hw : tw kP kF jT jB s hl k p v = some hl' := hw
    have off : ∀ {t : Nat}, ((Nat.ble 300 t && Nat.ble t 304) || Nat.beq t 340) = false → t ≠ 302 ∧ t ≠ 340 := fun h => by
      rw [Bool.or_eq_false_iff] at h
      refine ⟨fun e => ?_, beq_ne h.2⟩
      rw [e] at h
      cases h.1
    unfold tw at hw
    cases e1 : Nat.beq k kP with
    | true =>
      have ek := Nat.eq_of_beq_eq_true e1
      subst ek
      rw [e1] at hw
      simp only [cond_true] at hw
      have hj := hk j hi
      split at hw
      · rename_i th hm
        cases hc : (th.isI && leAV s (shA v 1) th) && !(isS (lk hl 300)) with
        | false => rw [hc] at hw; cases hw
        | true =>
          rw [hc] at hw
          simp only [cond_true] at hw
          rw [Bool.and_eq_true, Bool.and_eq_true] at hc
          have eth := me_at ho hm (j := jT) rfl hc.1.1
          have hlt := leAV_ok ho hc.1.2 (shA_ev hx) eth
          have n300 := lk_no hh hc.2
          have rF : (zI σ k j x).1 kF = σ.1 kF := zI_row d1.symm
          have hD : ∀ y, y < 40 → Pp (zI σ k j x) k y < ((zI σ k j x).1 kF jT).toInt := by
            intro y hy
            rw [rF, Pp_set]
            unfold setP
            split
            · omega
            · exact s4 y hy
          cases hA : (eqAV s p (.c 0) && leAV s v (.c (-1))) && !(isS (lk hl 302)) with
          | true =>
            rw [hA] at hw
            cases Option.some.inj hw
            rw [Bool.and_eq_true, Bool.and_eq_true] at hA
            have hj0 : (j : Int) = 0 := eqAV_ok ho hA.1.1 hp (y := 0) rfl
            have hx0 := leAV_ok ho hA.1.2 hx (y := -1) rfl
            have ej : j = 0 := by omega
            subst ej
            have n302 := lk_no hh hA.2
            refine ⟨hdel 340 H, hh.del, ⟨fun _ => ?_, fun h => ?_, fun _ _ => ?_, hD, fun q t y hq => ?_⟩, fun t ht => by rw [lk_hdel, if_neg (off ht).2]⟩
            · rw [Pp_set]
              by_cases h0 : Pp σ k 0 < 0
              · obtain ⟨r, a1, _⟩ := s1 h0
                exact ⟨r, acy_cut a1 (by omega), fun y n hy => by rw [lk_hdel, if_neg (by decide), n300] at hy; cases hy⟩
              · obtain ⟨r, a1⟩ := acy_zero (P := Pp σ k) (q := x.toInt) (by omega) (s2 (by omega))
                exact ⟨r, a1, fun y n hy => by rw [lk_hdel, if_neg (by decide), n300] at hy; cases hy⟩
            · rw [Pp_set] at h
              unfold setP at h
              rw [if_pos rfl] at h
              omega
            · rw [Pp_set]
              unfold setP
              rw [if_pos rfl]
              omega
            · rw [lk_hdel, if_neg (by decide), n302] at hq
              cases hq
          | false =>
            rw [hA] at hw
            simp only [cond_false] at hw
            cases hB : begun kF jB s hl && (leAV s (.c 1) p && leAV s (.c 0) v) with
            | false => rw [hB] at hw; cases hw
            | true =>
              rw [hB] at hw
              simp only [cond_true] at hw
              rw [Bool.and_eq_true, Bool.and_eq_true] at hB
              obtain ⟨b1, b2⟩ := begun_ok ho hh hB.1
              have hP0 := s3 b1 b2
              have hj1 := leAV_ok ho hB.2.1 (x := 1) rfl hp
              have hx0 := leAV_ok ho hB.2.2 (x := 0) rfl hx
              have hP0' : Pp (zI σ k j x) k 0 < 0 := by
                rw [Pp_set]
                unfold setP
                rw [if_neg (by omega)]
                exact hP0
              obtain ⟨r, a1, _⟩ := s1 hP0
              cases hE : eqAV s p th && !(isS (lk hl 302)) with
              | true =>
                rw [hE] at hw
                cases Option.some.inj hw
                rw [Bool.and_eq_true] at hE
                have hjt := eqAV_ok ho hE.1 hp eth
                have n302 := lk_no hh hE.2
                refine ⟨H, hh, ⟨fun _ => ?_, fun h => by omega, fun _ _ => hP0', hD, fun q t y hq => by rw [n302] at hq; cases hq⟩, fun _ _ => rfl⟩
                rw [Pp_set]
                obtain ⟨r', a2⟩ := acy_new (t := j) (q := x.toInt) a1 (by omega) (fun y hy => by have := s4 y hy; omega)
                exact ⟨r', a2, fun y n hy => by rw [n300] at hy; cases hy⟩
              | false =>
                rw [hE] at hw
                simp only [cond_false] at hw
                split at hw
                · rename_i a b c q1 q2 q3
                  cases hG : eqAV s v a && (eqAV s p b && leAV s c (.c (-1))) with
                  | false => rw [hG] at hw; cases hw
                  | true =>
                    rw [hG] at hw
                    cases Option.some.inj hw
                    simp only [Bool.and_eq_true] at hG
                    have get : ∀ {t : Nat} {a : AV}, lk hl t = some a → ∃ z, lk H t = some z ∧ ev ρ a = some z := fun {t a} h => by
                      rcases hh.lkp (t := t) with ⟨q, _⟩ | ⟨a', z, q, q', q''⟩
                      · rw [h] at q; cases q
                      · rw [h] at q; cases Option.some.inj q; exact ⟨z, q', q''⟩
                    obtain ⟨zq, f1, f2⟩ := get q1
                    obtain ⟨zt, f3, f4⟩ := get q2
                    obtain ⟨zy, f5, f6⟩ := get q3
                    have g1 := eqAV_ok ho hG.1 hx f2
                    have g2 := eqAV_ok ho hG.2.1 hp f4
                    have g3 := leAV_ok ho hG.2.2 f6 (y := -1) rfl
                    have hnu : ¬ Un (Pp σ k) (j : Int) x.toInt := fun hu => un_neg (x := zy) (t := zt) (by omega) (by omega) (s5 zq zt zy f1 f3 f5 (by rw [← g1, ← g2]; exact hu))
                    refine ⟨hdel 302 H, hh.del, ⟨fun _ => ?_, fun h => by omega, fun _ _ => hP0', hD, fun q t y hq => by rw [lk_hdel, if_pos rfl] at hq; cases hq⟩, fun t ht => by rw [lk_hdel, if_neg (off ht).1]⟩
                    rw [Pp_set]
                    obtain ⟨r', a2⟩ := acy_move a1 hx0 hnu
                    exact ⟨r', a2, fun y n hy => by rw [lk_hdel, if_neg (by decide), n300] at hy; cases hy⟩
                · cases hw
      · cases hw
    | false =>
      rw [e1] at hw
      simp only [cond_false] at hw
      have ekF : k = kF := by
        have hr : (Nat.beq k kP || Nat.beq k kF) = true := hr
        rw [e1, Bool.false_or] at hr
        exact Nat.eq_of_beq_eq_true hr
      subst ekF
      have rp : Pp (zI σ k j x) kP = Pp σ kP := by
        funext y
        show ((zI σ k j x).1 kP y).toInt = _
        rw [zI_row d1]
      split at hw
      · rename_i j0
        have ej : j0 = j := by
          have : ((j0 : Nat) : Int) = (j : Int) := Option.some.inj hp
          omega
        subst ej
        cases e2 : Nat.beq j0 jT with
        | true =>
          have ejt := Nat.eq_of_beq_eq_true e2
          subst ejt
          rw [e2] at hw
          simp only [cond_true] at hw
          split at hw
          · rename_i th hm
            cases hc : th.isI && leAV s th v with
            | false => rw [hc] at hw; cases hw
            | true =>
              rw [hc] at hw
              cases Option.some.inj hw
              rw [Bool.and_eq_true] at hc
              have := leAV_ok ho hc.2 (me_at ho hm (j := j0) rfl hc.1) hx
              refine ⟨H, hh, ?_, fun _ _ => rfl⟩
              show tS kP k j0 jB H (zI σ k j0 x)
              unfold tS
              rw [rp, zI_at, zI_ne (by rintro ⟨_, q⟩; exact d2 q.symm)]
              exact ⟨s1, s2, s3, fun y hy => by have := s4 y hy; omega, s5⟩
          · cases hw
        | false =>
          rw [e2] at hw
          simp only [cond_false] at hw
          have hnt : j0 ≠ jT := beq_ne e2
          cases e3 : Nat.beq j0 jB with
          | true =>
            have ejb := Nat.eq_of_beq_eq_true e3
            subst ejb
            rw [e3] at hw
            simp only [cond_true] at hw
            cases h340 : isS (lk hl 340) with
            | true =>
              rw [h340] at hw
              cases Option.some.inj hw
              have hs : ∃ z, lk H 340 = some z := by
                rcases hh.lkp (t := 340) with ⟨q, _⟩ | ⟨a', z, q, q', _⟩
                · rw [q] at h340; cases h340
                · exact ⟨z, q'⟩
              obtain ⟨z, hz⟩ := hs
              refine ⟨H, hh, ?_, fun _ _ => rfl⟩
              show tS kP k jT j0 H (zI σ k j0 x)
              unfold tS
              rw [rp, zI_ne (j' := jT) (by rintro ⟨_, q⟩; exact d2 q)]
              exact ⟨s1, s2, fun q => (by rw [hz] at q; cases q), s4, s5⟩
            | false =>
              rw [h340] at hw
              cases Option.some.inj hw
              refine ⟨(340, 0) :: H, ⟨⟨rfl, rfl⟩, hh⟩, ?_, fun t ht => by rw [lk_cons, if_neg (off ht).2]⟩
              show tS kP k jT j0 ((340, 0) :: H) (zI σ k j0 x)
              unfold tS
              rw [rp, zI_ne (j' := jT) (by rintro ⟨_, q⟩; exact d2 q)]
              rw [lk_cons, lk_cons, lk_cons, lk_cons, lk_cons, lk_cons]
              refine ⟨s1, s2, fun q => ?_, s4, s5⟩
              rw [if_pos rfl] at q
              cases q
          | false =>
            rw [e3] at hw
            cases Option.some.inj hw
            have hnb : j0 ≠ jB := beq_ne e3
            refine ⟨H, hh, ?_, fun _ _ => rfl⟩
            show tS kP k jT jB H (zI σ k j0 x)
            unfold tS
            rw [rp, zI_ne (j' := jT) (by rintro ⟨_, q⟩; exact hnt q.symm), zI_ne (j' := jB) (by rintro ⟨_, q⟩; exact hnb q.symm)]
            exact ⟨s1, s2, s3, s4, s5⟩
      · cases hw
end C20
end
