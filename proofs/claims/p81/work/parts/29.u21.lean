section
section
/-! ===== the judge's fold ===== -/
/-- how many rules spoke; the one that decides: its number, its weight, what it says, its fault -/
noncomputable abbrev JdS := Nat × Option (Nat × Int × Int × Int)
noncomputable def jdB (r : Nat) (x : Int × Int × Int) (s : Option (Nat × Int × Int × Int)) : Option (Nat × Int × Int × Int) := match s with
  | none => some (r, x.2.1, x.1, x.2.2)
  | some y => if y.2.1 < x.2.1 then some (r, x.2.1, x.1, x.2.2) else some y
noncomputable def jd1 (s : JdS) (r : Nat) (x : Option (Int × Int × Int)) : JdS := match x with
  | none => s
  | some x => (s.1 + 1, jdB r x s.2)
noncomputable def jdF (g : Nat → Option (Int × Int × Int)) : Nat → JdS
  | 0 => (0, none)
  | n + 1 => jd1 (jdF g n) n (g n)
theorem jd_le {g : Nat → Option (Int × Int × Int)} : ∀ n, (jdF g n).1 ≤ n
  | 0 => Nat.le_refl 0
  | n + 1 => by
    have := jd_le (g := g) n
    show (jd1 (jdF g n) n (g n)).1 ≤ n + 1
    unfold jd1
    cases g n with
    | none => show (jdF g n).1 ≤ n + 1; omega
    | some x => show (jdF g n).1 + 1 ≤ n + 1; omega
/-! what the class's judge leaves as it is -/
noncomputable def FrA (σ τ : zS) : Prop := (∀ k j, k ≠ 29 → k ≠ 30 → k ≠ 31 → ¬ (k = 27 ∧ (j = 10 ∨ j = 12 ∨ j = 13)) → τ.1 k j = σ.1 k j) ∧ ∀ k j, k ≠ 28 → τ.2 k j = σ.2 k j
theorem FrA.refl (σ : zS) : FrA σ σ := ⟨fun _ _ _ _ _ _ => rfl, fun _ _ _ => rfl⟩
theorem FrA.of {σ τ ρ : zS} (h : FrA σ τ) (q : FrC τ ρ) : FrA σ ρ := ⟨fun k j a b c d => (q.1 k j a b d).trans (h.1 k j a b c d), fun k j a => (q.2 k j a).trans (h.2 k j a)⟩
theorem FrA.w {σ τ ρ : zS} {n : Nat} {v : Int32} (h : FrA σ τ) (q : zI τ 31 n v = ρ) : FrA σ ρ := by
  subst q
  exact ⟨fun k j a b c d => by rw [yI_ne (fun q => c q.1)]; exact h.1 k j a b c d, h.2⟩
theorem FrA.e {σ τ : zS} (h : FrA σ τ) {k : Nat} (hk : k < 27) : τ.1 k = σ.1 k := funext fun j => h.1 k j (by omega) (by omega) (by omega) (by omega)
theorem FrA.f {σ τ : zS} (h : FrA σ τ) {j : Nat} (hj : j < 10) : τ.1 27 j = σ.1 27 j := h.1 27 j (by decide) (by decide) (by decide) (by omega)
theorem FrA.l {σ τ : zS} (h : FrA σ τ) {k : Nat} (hk : k ≠ 28) : τ.2 k = σ.2 k := funext fun j => h.2 k j hk
theorem un_cg {σ τ : zS} (h : FrA σ τ) : ∀ {n : Nat} {x o : Int}, unC τ n x o = unC σ n x o
  | 0, _, _ => rfl
  | n + 1, x, o => by
    show (x ≠ -4 ∧ (x = o ∨ ((τ.1 13 x.toNat).toInt = 0 ∧ unC τ n (τ.1 11 x.toNat).toInt o))) = (x ≠ -4 ∧ (x = o ∨ ((σ.1 13 x.toNat).toInt = 0 ∧ unC σ n (σ.1 11 x.toNat).toInt o)))
    rw [h.e (k := 13) (by decide), h.e (k := 11) (by decide), un_cg h]
theorem dp_cg {σ τ : zS} (h : FrA σ τ) : ∀ {n : Nat} {x : Int}, dpC τ n x = dpC σ n x
  | 0, _ => rfl
  | n + 1, x => by
    show (if x = -4 then 0 else dpC τ n (τ.1 11 x.toNat).toInt + 1) = (if x = -4 then 0 else dpC σ n (σ.1 11 x.toNat).toInt + 1)
    rw [h.e (k := 11) (by decide), dp_cg h]
theorem ru_cg {σ τ : zS} (h : FrA σ τ) {a c : Nat} : ruC τ a c = ruC σ a c := by show (τ.1 20 (a + c)).toInt = (σ.1 20 (a + c)).toInt; rw [h.e (k := 20) (by decide)]
theorem ft_cg {σ τ : zS} (h : FrA σ τ) {a : Nat} {act : Int32} : FtA τ a act = FtA σ a act := by
  unfold FtA fwC faC ftC ruC
  rw [h.e (k := 20) (by decide), h.e (k := 12) (by decide), h.e (k := 16) (by decide), h.f (j := 3) (by decide), h.f (j := 4) (by decide), h.f (j := 5) (by decide), un_cg h]
theorem rb_cg {σ τ : zS} (h : FrA σ τ) {a : Nat} : RuB τ a = RuB σ a := by
  unfold RuB ruC
  rw [h.e (k := 20) (by decide), h.f (j := 5) (by decide)]
theorem pl_cg {σ τ : zS} (h : FrA σ τ) : PlC τ = PlC σ := by
  unfold PlC
  rw [h.e (k := 11) (by decide)]
theorem wt_cg {σ τ : zS} (h : FrA σ τ) {way : Int} {a : Nat} {sd : Int} : wtC τ way a sd = wtC σ way a sd := by
  unfold wtC ruC
  rw [h.e (k := 20) (by decide), h.e (k := 11) (by decide), dp_cg h]
theorem co_cg {σ τ : zS} (h : FrA σ τ) {e : Nat} : CoC τ e = CoC σ e := by
  unfold CoC
  rw [h.e (k := 21) (by decide), h.l (k := 22) (by decide)]
theorem rc_cg {σ τ : zS} (h : FrA σ τ) : RC9 τ = RC9 σ := by
  unfold RC9
  rw [h.e (k := 21) (by decide), h.l (k := 22) (by decide)]
theorem it_cg {σ τ : zS} (h : FrA σ τ) {f : Nat} {i : Int} : itC τ f i = itC σ f i := by
  unfold itC
  rw [h.e (k := 7) (by decide), h.e (k := 8) (by decide), h.l (k := 9) (by decide)]
theorem has_cg {σ τ : zS} (h : FrA σ τ) {f : Nat} {v : Int} : ∀ {n : Nat}, hasC τ f v n = hasC σ f v n
  | 0 => rfl
  | n + 1 => by
    show (hasC τ f v n || decide ((τ.2 9 (20 * f + n)).toInt = v)) = (hasC σ f v n || decide ((σ.2 9 (20 * f + n)).toInt = v))
    rw [has_cg h, h.l (k := 9) (by decide)]
theorem ec_cg {σ τ : zS} (h : FrA σ τ) : ECV τ = ECV σ := by
  show EvC τ (τ.1 27 3).toInt (τ.1 27 5).toInt (τ.1 27 6).toInt = EvC σ (σ.1 27 3).toInt (σ.1 27 5).toInt (σ.1 27 6).toInt
  rw [h.f (j := 3) (by decide), h.f (j := 5) (by decide), h.f (j := 6) (by decide), evc_mk, evc_mk]
  refine mk_eq (funext fun c => funext fun v => ?_) (funext fun f => funext fun v => ?_) (funext fun f => funext fun v => ?_) (funext fun f => ?_)
  · rw [h.f (j := 7) (by decide), it_cg h, h.e (k := 7) (by decide), h.e (k := 8) (by decide)]
  · unfold paC; rw [it_cg h]
  · unfold mgC; rw [h.e (k := 7) (by decide), h.e (k := 8) (by decide), has_cg h]
  · rw [h.e (k := 7) (by decide)]
/-- a rule's number among the columns -/
noncomputable abbrev raN (p r : Nat) : Nat := 9 * (30 * p + r)
/-- what a rule says, or nothing -/
noncomputable def RsC (σ : zS) (way : Int) (a : Nat) (act : Int32) (x : EntJ) (g : Option (Int × Int × Int)) : Prop := (¬ (FtA σ a act ∧ spV (ruC σ a 0) x ≠ -4) ∧ g = none) ∨ ((FtA σ a act ∧ spV (ruC σ a 0) x ≠ -4) ∧ g = some (spV (ruC σ a 0) x, wtC σ way a (spV (ruC σ a 0) x), if x.1 = 3 then x.2 else 0))
/-- all that is known of a rule -/
noncomputable def RaC (σ : zS) (way : Int) (a : Nat) (act : Int32) (x : EntJ) (g : Option (Int × Int × Int)) : Prop := RuB σ a ∧ ((0 ≤ ruC σ a 0 ∧ ruC σ a 0 ≤ 2) ∧ (0 ≤ ruC σ a 1 ∧ ruC σ a 1 ≤ 3) ∧ (0 ≤ ruC σ a 4 ∧ ruC σ a 4 ≤ 2) ∧ (ruC σ a 4 ≠ 0 → 0 ≤ ruC σ a 5 ∧ ruC σ a 5 ≤ 39)) ∧ (∃ sn en m : Nat, (σ.1 20 (a + 6)).toInt = (sn : Int) ∧ (σ.1 20 (a + 7)).toInt = (en : Int) ∧ CoC σ en ∧ (FtA σ a act → cr9 (ECV σ) (RC9 σ) en m sn [] [] = some x)) ∧ (2 ≤ x.1 ∧ x.1 ≤ 5) ∧ RsC σ way a act x g
theorem sp_fr {σ τ ρ : zS} {a : Nat} {act : Int32} {x : EntJ} {o : Int32} (hF : FrA σ τ) (h : SpR τ ρ a act x o) : FrA σ ρ ∧ ρ.1 31 = τ.1 31 := by
  rcases h with ⟨_, _, rfl⟩ | ⟨_, _, V, T, hc⟩
  · exact ⟨hF, rfl⟩
  · exact ⟨hF.of hc.1, funext fun j => hc.1.1 31 j (by decide) (by decide) (by omega)⟩
theorem rs_no {σ τ ρ : zS} {way : Int} {a : Nat} {act : Int32} {x : EntJ} {o : Int32} {g : Option (Int × Int × Int)} (hF : FrA σ τ) (h : SpR τ ρ a act x o) (ho : o.toInt = -4) (hg : RsC σ way a act x g) : g = none := by
  unfold SpR at h
  rw [ft_cg hF, ru_cg hF] at h
  rcases hg with q | q
  · exact q.2
  · rcases h with h | h
    · exact absurd q.1.1 h.1
    · exact absurd (h.2.1.symm.trans ho) q.1.2
theorem rs_yes {σ τ ρ : zS} {way : Int} {a : Nat} {act : Int32} {x : EntJ} {o : Int32} {g : Option (Int × Int × Int)} (hF : FrA σ τ) (h : SpR τ ρ a act x o) (ho : o.toInt ≠ -4) (hg : RsC σ way a act x g) : g = some (o.toInt, wtC σ way a o.toInt, (ρ.1 27 13).toInt) := by
  unfold SpR at h
  rw [ft_cg hF, ru_cg hF] at h
  rcases h with h | ⟨h1, h2, V, T, hc⟩
  · exact absurd h.2.1 ho
  · rcases hg with q | q
    · exact absurd ⟨h1, by rw [← h2]; exact ho⟩ q.1
    · rw [q.2, h2, hc.2.2.2.1]
theorem sp_b {σ τ ρ : zS} {a : Nat} {act : Int32} {x : EntJ} {o : Int32} (hF : FrA σ τ) (h : SpR τ ρ a act x o) (ho : o.toInt ≠ -4) (he : 0 ≤ ruC σ a 0 ∧ ruC σ a 0 ≤ 2) : 0 ≤ o.toInt ∧ o.toInt ≤ 3 := by
  unfold SpR at h
  rw [ru_cg hF] at h
  rcases h with h | ⟨_, h2, _⟩
  · exact absurd h.2.1 ho
  · unfold spV at h2
    by_cases h3 : x.1 = 3
    · rw [if_pos h3] at h2; omega
    · rw [if_neg h3] at h2
      by_cases h4 : x.1 = 4 ∨ (x.1 = 2 ∧ ruC σ a 0 ≠ 1)
      · rw [if_pos h4] at h2; omega
      · rw [if_neg h4] at h2; omega
/-- the decision as the class holds it -/
noncomputable def DsO (σ τ : zS) (p : Nat) (s : Option (Nat × Int × Int × Int)) (ans best : Int) : Prop := match s with
  | none => (τ.1 31 0).toInt = -4 ∧ (τ.1 31 1).toInt = 0 ∧ (τ.1 31 2).toInt = 0 ∧ ans = 0 ∧ best = 0
  | some y => (τ.1 31 0).toInt = (y.1 : Int) ∧ (τ.1 31 1).toInt = ruC σ (raN p y.1) 8 ∧ (τ.1 31 2).toInt = y.2.2.2 ∧ ans = y.2.2.1 ∧ best = y.2.1
noncomputable def DsC (σ τ : zS) (p : Nat) (s : JdS) (ans best : Int) : Prop := (τ.1 31 3).toInt = (s.1 : Int) ∧ DsO σ τ p s.2 ans best
theorem ds_none {σ τ ρ : zS} {p n : Nat} {g : Nat → Option (Int × Int × Int)} {ans best : Int} (h : DsC σ τ p (jdF g n) ans best) (e : ρ.1 31 = τ.1 31) (hg : g n = none) : DsC σ ρ p (jdF g (n + 1)) ans best := by
  show DsC σ ρ p (jd1 (jdF g n) n (g n)) ans best
  rw [hg]
  show DsC σ ρ p (jdF g n) ans best
  unfold DsC DsO at h ⊢
  rw [e]; exact h
/-- it spoke, and does not decide -/
theorem ds_keep {σ τ ρ ω : zS} {p n : Nat} {g : Nat → Option (Int × Int × Int)} {ans best : Int} {v : Int32} {x : Int × Int × Int} (h : DsC σ τ p (jdF g n) ans best) (e : ρ.1 31 = τ.1 31) (hw : zI ρ 31 3 v = ω) (hv : v.toInt = (ρ.1 31 3).toInt + 1) (hg : g n = some x) (h0 : (ω.1 31 0).toInt ≠ -4) (hb : ¬ best < x.2.1) : DsC σ ω p (jdF g (n + 1)) ans best := by
  show DsC σ ω p (jd1 (jdF g n) n (g n)) ans best
  rw [hg]
  show (ω.1 31 3).toInt = (((jdF g n).1 + 1 : Nat) : Int) ∧ DsO σ ω p (jdB n x (jdF g n).2) ans best
  have e0 : ω.1 31 0 = τ.1 31 0 := by rw [← hw, yI_ne (by first | decide | omega), e]
  have e1 : ω.1 31 1 = τ.1 31 1 := by rw [← hw, yI_ne (by first | decide | omega), e]
  have e2 : ω.1 31 2 = τ.1 31 2 := by rw [← hw, yI_ne (by first | decide | omega), e]
  have e3 : ω.1 31 3 = v := by rw [← hw, yI_at]
  refine ⟨by have q := h.1; rw [e3, hv, e]; omega, ?_⟩
  have h2 := h.2
  unfold DsO at h2
  revert h2
  cases (jdF g n).2 with
  | none => intro h2; exact absurd (by rw [e0]; exact h2.1) h0
  | some y =>
    intro h2
    have : jdB n x (some y) = some y := by show (if y.2.1 < x.2.1 then some (n, x.2.1, x.1, x.2.2) else some y) = some y; rw [if_neg (by rw [← h2.2.2.2.2]; exact hb)]
    rw [this]
    show (ω.1 31 0).toInt = (y.1 : Int) ∧ (ω.1 31 1).toInt = ruC σ (raN p y.1) 8 ∧ (ω.1 31 2).toInt = y.2.2.2 ∧ ans = y.2.2.1 ∧ best = y.2.1
    rw [e0, e1, e2]; exact h2
/-- it spoke, and decides -/
theorem ds_take {σ τ ω : zS} {p n : Nat} {g : Nat → Option (Int × Int × Int)} {ans best : Int} {x : Int × Int × Int} (h : DsC σ τ p (jdF g n) ans best) (hg : g n = some x) (h3 : (ω.1 31 3).toInt = (τ.1 31 3).toInt + 1) (h0 : (ω.1 31 0).toInt = (n : Int)) (h1 : (ω.1 31 1).toInt = ruC σ (raN p n) 8) (h2 : (ω.1 31 2).toInt = x.2.2) (hb : (τ.1 31 0).toInt = -4 ∨ best < x.2.1) : DsC σ ω p (jdF g (n + 1)) x.1 x.2.1 := by
  show DsC σ ω p (jd1 (jdF g n) n (g n)) x.1 x.2.1
  rw [hg]
  show (ω.1 31 3).toInt = (((jdF g n).1 + 1 : Nat) : Int) ∧ DsO σ ω p (jdB n x (jdF g n).2) x.1 x.2.1
  refine ⟨by have q := h.1; rw [h3]; omega, ?_⟩
  have q2 := h.2
  unfold DsO at q2
  revert q2
  cases (jdF g n).2 with
  | none => intro q2; exact ⟨h0, h1, h2, rfl, rfl⟩
  | some y =>
    intro q2
    have : jdB n x (some y) = some (n, x.2.1, x.1, x.2.2) := by
      show (if y.2.1 < x.2.1 then some (n, x.2.1, x.1, x.2.2) else some y) = _
      rw [if_pos ?_]
      rcases hb with hb | hb
      · exfalso
        have := q2.1
        omega
      · rw [← q2.2.2.2.2]; exact hb
    rw [this]
    exact ⟨h0, h1, h2, rfl, rfl⟩
theorem ra_at {x y : Int32} {p n : Nat} (hx : x.toInt = (p : Int)) (hp : p < 8) (hy : y.toInt = (n : Int)) (hn : n < 30) : ((x * 30 + y) * 9).toInt = ((raN p n : Nat) : Int) := by
  have e30 : (30 : Int32).toInt = 30 := by decide
  have e9 : (9 : Int32).toInt = 9 := by decide
  have e1 : (x * 30).toInt = (p : Int) * 30 := by rw [Int32.toInt_mul, e30, hx, Int.bmod_eq_of_le (by omega) (by omega)]
  have e2 : (x * 30 + y).toInt = (p : Int) * 30 + n := by rw [i32_add (by omega), e1, hy]
  rw [Int32.toInt_mul, e9, e2, Int.bmod_eq_of_le (by omega) (by omega)]
  show _ = ((9 * (30 * p + n) : Nat) : Int)
  omega
/-- the state where the judge's loop begins -/
noncomputable def stA (σ : zS) (asked : Int32) : zS := zI (zI (zI (zI (zI σ 31 0 (-4)) 31 1 0) 31 2 0) 31 3 0) 27 5 asked
theorem ds_0 {σ ρ ω : zS} {asked : Int32} {p : Nat} {g : Nat → Option (Int × Int × Int)} (h : stA σ asked = ρ) : DsC ω ρ p (jdF g 0) (0 : Int32).toInt (0 : Int32).toInt := by
  subst h
  show ((stA σ asked).1 31 3).toInt = ((0 : Nat) : Int) ∧ ((stA σ asked).1 31 0).toInt = -4 ∧ ((stA σ asked).1 31 1).toInt = 0 ∧ ((stA σ asked).1 31 2).toInt = 0 ∧ (0 : Int32).toInt = 0 ∧ (0 : Int32).toInt = 0
  unfold stA
  refine ⟨?_, ?_, ?_, ?_, by decide, by decide⟩
  · rw [yI_ne (by decide), yI_at]; decide
  · rw [yI_ne (by decide), yI_ne (by decide), yI_ne (by decide), yI_ne (by decide), yI_at]; decide
  · rw [yI_ne (by decide), yI_ne (by decide), yI_ne (by decide), yI_at]; decide
  · rw [yI_ne (by decide), yI_ne (by decide), yI_at]; decide
theorem fxe_5_35 : FxE "RightsHouse$Judge" 35 3 14 := fx_e (m := 113) (t := 3) rfl (by decide) (by decide +kernel)
theorem fxe_5_74 : FxE "RightsHouse$Judge" 74 5 2 := fx_e (m := 113) (t := 3) rfl (by decide) (by decide +kernel)
theorem fxe_5_86 : FxE "RightsHouse$Judge" 86 5 1 := fx_e (m := 113) (t := 3) rfl (by decide) (by decide +kernel)
theorem fxe_5_95 : FxE "RightsHouse$Judge" 95 3 13 := fx_e (m := 113) (t := 0) rfl (by decide) (by decide +kernel)
theorem fxi_5_71 : FxI "RightsHouse$Judge" 71 3 5 := fx_i (m := 113) rfl (by decide) (by decide +kernel)
theorem kaa_18 : KaA 18 100 8 := ka_a (by decide +kernel)
theorem kaa_19 : KaA 19 100 8 := ka_a (by decide +kernel)
theorem kaa_31 : KaA 31 100 4 := ka_a (by decide +kernel)
theorem kfa_17_1 : KfA 17 1 5 2 18 := kf_a (by decide) (by decide +kernel)
theorem kfa_17_2 : KfA 17 2 5 2 19 := kf_a (by decide) (by decide +kernel)
theorem kfa_27_14 : KfA 27 14 3 2 31 := kf_a (by decide) (by decide +kernel)
theorem run_Po_ruleAt {E : xV} {σ : zS} {K : zKt} {x y : Int32} {p n : Nat} (hx : x.toInt = (p : Int)) (hp : p < 8) (hy : y.toInt = (n : Int)) (hn : n < 30) (k : ∀ v : Int32, v.toInt = ((raN p n : Nat) : Int) → K (some (.int v)) σ) : Wz E Y_Po_ruleAt 0 [(0, .int x), (1, .int y)] [] σ K := by
  refine z_iload_n (f := 0) (i := 0) (q := 0) (pc' := 1) ⟨by decide +kernel, rfl⟩ rfl rfl ?_
  refine z_bipush (i := 30) (v := 30) (pc' := 3) ⟨by decide +kernel, rfl⟩ (by decide) ?_
  refine z_imul (pc' := 4) ⟨by decide +kernel, rfl⟩ ?_
  refine z_iload_n (f := 1) (i := 1) (q := 1) (pc' := 5) ⟨by decide +kernel, rfl⟩ rfl rfl ?_
  refine z_iadd (pc' := 6) ⟨by decide +kernel, rfl⟩ ?_
  refine z_bipush (i := 9) (v := 9) (pc' := 8) ⟨by decide +kernel, rfl⟩ (by decide) ?_
  refine z_imul (pc' := 9) ⟨by decide +kernel, rfl⟩ ?_
  refine z_iret (ty := .int) rfl rfl (by decide +kernel) ?_
  have z0L : (0 : Int64).toInt = 0 := by decide
  exact k _ (ra_at hx hp hy hn)
theorem cz_Po_ruleAt {E : xV} {σ : zS} {K : zKt} {x y : Int32} {p n : Nat} (hx : x.toInt = (p : Int)) (hp : p < 8) (hy : y.toInt = (n : Int)) (hn : n < 30) (k : ∀ v : Int32, v.toInt = ((raN p n : Nat) : Int) → K (some (.int v)) σ) : Cz E Y_Po_ruleAt [.int x, .int y] σ K := z_entry (by decide) (fun a => by rw [sl_len]; exact Nat.le_of_ble_eq_true rfl) rfl (run_Po_ruleAt hx hp hy hn k)
theorem run_Ju_answer_l {E : xV} {σ : zS} {K : zKt} {po act asked : Int32} {p N : Nat} {g : Nat → Option (Int × Int × Int)} {x : Nat → EntJ} (hpo : po.toInt = (p : Int)) (hp8 : p < 8) (hact : 0 ≤ act.toInt ∧ act.toInt ≤ 5) (hP : PlC σ) (hc : ∀ f : Nat, f < 480 → 0 ≤ (σ.1 8 f).toInt ∧ (σ.1 8 f).toInt ≤ 20) (hw : 0 ≤ (σ.1 27 3).toInt ∧ (σ.1 27 3).toInt ≤ 19) (hn7 : 0 ≤ (σ.1 27 7).toInt ∧ (σ.1 27 7).toInt ≤ 1000000000) (ht6 : 0 ≤ (σ.1 27 6).toInt ∧ (σ.1 27 6).toInt ≤ 1000000000) (hN : N ≤ 30) (hA : ∀ r, r < N → RaC σ (σ.1 18 p).toInt (raN p r) act (x r) (g r)) : ∀ (j : Nat) {τ : zS} {i cn bst ans : Int32} {n : Nat}, i.toInt = (n : Int) → cn.toInt = (N : Int) → n + j = N → FrA σ τ → DsC σ τ p (jdF g n) ans.toInt bst.toInt → (∀ (τ' : zS) (ans' bst' : Int32), FrA σ τ' → DsC σ τ' p (jdF g N) ans'.toInt bst'.toInt → K (some (.int ans')) τ') → Wz E Y_Ju_answer 64 [(7, .int i), (6, .int cn), (5, .int bst), (4, .int ans), (0, .ref 27), (1, .int po), (2, .int act), (3, .int asked)] [] τ K
  | 0, τ, i, cn, bst, ans, n, hi, hcn, hj, hF, hD, k => by
    refine z_iload (i := 7) (q := 0) (pc' := 66) ⟨by decide +kernel, rfl⟩ rfl ?_
    refine z_iload (i := 6) (q := 1) (pc' := 68) ⟨by decide +kernel, rfl⟩ rfl ?_
    refine z_icmp_ge (off := 128) (tgt := 196) (pc' := 71) ⟨by decide +kernel, by decide, rfl⟩ (fun h1 => ?_) (fun h1 => ?_)
    · refine z_iload (i := 4) (q := 3) (pc' := 198) ⟨by decide +kernel, rfl⟩ rfl ?_
      refine z_iret (ty := .int) rfl rfl (by decide +kernel) ?_
      have z0L : (0 : Int64).toInt = 0 := by decide
      have gh1 := j_ge_t h1
      have e : n = N := by omega
      subst e
      exact k _ _ _ hF hD
    · have z0L : (0 : Int64).toInt = 0 := by decide
      have gh1 := j_ge_f h1
      exfalso
      omega
  | j + 1, τ, i, cn, bst, ans, n, hi, hcn, hj, hF, hD, k => by
    have ih := @run_Ju_answer_l E σ K po act asked p N g x hpo hp8 hact hP hc hw hn7 ht6 hN hA j
    refine z_iload (i := 7) (q := 0) (pc' := 66) ⟨by decide +kernel, rfl⟩ rfl ?_
    refine z_iload (i := 6) (q := 1) (pc' := 68) ⟨by decide +kernel, rfl⟩ rfl ?_
    refine z_icmp_ge (off := 128) (tgt := 196) (pc' := 71) ⟨by decide +kernel, by decide, rfl⟩ (fun h1 => ?_) (fun h1 => ?_)
    · refine z_iload (i := 4) (q := 3) (pc' := 198) ⟨by decide +kernel, rfl⟩ rfl ?_
      refine z_iret (ty := .int) rfl rfl (by decide +kernel) ?_
      have z0L : (0 : Int64).toInt = 0 := by decide
      have gh1 := j_ge_t h1
      have e : n = N := by omega
      subst e
      exact k _ _ _ hF hD
    · have hnN : n < N := by have q := j_ge_f h1; omega
      obtain ⟨q1, qb, ⟨sn, en, m, qs, qe, qc, qr⟩, q25, qg⟩ := hA n hnN
      refine z_iload_n (f := 1) (i := 1) (q := 5) (pc' := 72) ⟨by decide +kernel, rfl⟩ rfl rfl ?_
      refine z_iload (i := 7) (q := 0) (pc' := 74) ⟨by decide +kernel, rfl⟩ rfl ?_
      refine w_invS (Z := Y_Po_ruleAt) (idx := 79) (As := [.int po, .int i]) (rest := []) (pc' := 77) cl_5_79 rfl ⟨rfl, rfl⟩ ⟨⟨by decide, by decide⟩, rfl, rfl⟩ ⟨by decide +kernel, rfl⟩ rfl rfl (Nat.le_of_ble_eq_true rfl) rfl rfl ?_
      refine cz_Po_ruleAt (p := p) (n := n) hpo hp8 hi (by omega) (fun v2 hv2 => ?_)
      show Wz E Y_Ju_answer 77 [(7, .int i), (6, .int cn), (5, .int bst), (4, .int ans), (0, .ref 27), (1, .int po), (2, .int act), (3, .int asked)] [.int v2] τ K
      refine z_istore (i := 8) (pc' := 79) ⟨by decide +kernel, rfl⟩ (by decide) rfl ?_
      show Wz E Y_Ju_answer 79 [(8, .int v2), (7, .int i), (6, .int cn), (5, .int bst), (4, .int ans), (0, .ref 27), (1, .int po), (2, .int act), (3, .int asked)] [] τ K
      refine z_aload_n (f := 0) (i := 0) (q := 5) (pc' := 80) ⟨by decide +kernel, rfl⟩ rfl rfl ?_
      refine z_iload (i := 8) (q := 0) (pc' := 82) ⟨by decide +kernel, rfl⟩ rfl ?_
      refine z_iload_n (f := 2) (i := 2) (q := 7) (pc' := 83) ⟨by decide +kernel, rfl⟩ rfl rfl ?_
      refine w_invV (Z := Y_Ju_spoken) (idx := 83) (kb := 27) (As := [.int v2, .int act]) (rest := []) (pc' := 86) cl_5_83 rfl ⟨rfl, rfl⟩ kfa_27_0 rfl ⟨⟨by decide, by decide⟩, rfl, rfl⟩ ⟨by decide +kernel, rfl⟩ rfl rfl (Nat.le_of_ble_eq_true rfl) rfl rfl ?_
      refine cz_Ju_spoken (a := raN p n) (sn := sn) (en := en) (m := m) (r := x n) hv2 (by rw [rb_cg hF]; exact q1) hact (by rw [pl_cg hF]; exact hP) (by rw [hF.e (k := 20) (by decide)]; exact qs) (by rw [hF.e (k := 20) (by decide)]; exact qe) (by rw [co_cg hF]; exact qc) (by rw [hF.e (k := 8) (by decide)]; exact hc) (by rw [hF.f (j := 3) (by decide)]; exact hw) (by rw [hF.f (j := 7) (by decide)]; exact hn7) (by rw [hF.f (j := 6) (by decide)]; exact ht6) q25 (by rw [ft_cg hF, ec_cg hF, rc_cg hF]; exact qr) (fun σ3 v3 hv3 => ?_)
      show Wz E Y_Ju_answer 86 [(8, .int v2), (7, .int i), (6, .int cn), (5, .int bst), (4, .int ans), (0, .ref 27), (1, .int po), (2, .int act), (3, .int asked)] [.int v3] σ3 K
      refine z_istore (i := 9) (pc' := 88) ⟨by decide +kernel, rfl⟩ (by decide) rfl ?_
      show Wz E Y_Ju_answer 88 [(9, .int v3), (8, .int v2), (7, .int i), (6, .int cn), (5, .int bst), (4, .int ans), (0, .ref 27), (1, .int po), (2, .int act), (3, .int asked)] [] σ3 K
      refine z_iload (i := 9) (q := 0) (pc' := 90) ⟨by decide +kernel, rfl⟩ rfl ?_
      refine z_bipush (i := (-4)) (v := (-4)) (pc' := 92) ⟨by decide +kernel, rfl⟩ (by decide) ?_
      refine z_icmp_ne (off := 6) (tgt := 98) (pc' := 95) ⟨by decide +kernel, by decide, rfl⟩ (fun h4 => ?_) (fun h4 => ?_)
      · have hF2 := sp_fr hF hv3
        have ho4 : (v3 : Int32).toInt ≠ -4 := by have q := j_ne_t h4; have z4 : (-4 : Int32).toInt = -4 := (by decide); omega
        have hgn := rs_yes hF hv3 ho4 qg
        have hsd := sp_b hF hv3 ho4 qb.1
        refine z_aload_n (f := 0) (i := 0) (q := 6) (pc' := 99) ⟨by decide +kernel, rfl⟩ rfl rfl ?_
        refine w_getr (k := 27) (j := 14) (idx := 35) (pc' := 102) fxe_5_35 kfa_27_14 ⟨by decide +kernel, rfl⟩ ?_
        refine z_iconst (i := 3) (v := 3) (pc' := 103) ⟨by decide +kernel, rfl⟩ (by decide) ?_
        refine z_dup2ir (pc' := 104) ⟨by decide +kernel, rfl⟩ ?_
        refine w_iald (k := 31) (n := 3) (pc' := 105) kaa_31 (by decide) (by decide) ⟨by decide +kernel, rfl⟩ ?_
        refine z_iconst (i := 1) (v := 1) (pc' := 106) ⟨by decide +kernel, rfl⟩ (by decide) ?_
        refine z_iadd (pc' := 107) ⟨by decide +kernel, rfl⟩ ?_
        refine w_iast (k := 31) (n := 3) (pc' := 108) kaa_31 (by decide) (by decide) ⟨by decide +kernel, rfl⟩ ?_
        generalize hs5 : zI σ3 31 3 ((σ3.1 31 3) + 1) = σ5
        have hF3 := hF2.1.w hs5
        refine z_aload_n (f := 0) (i := 0) (q := 6) (pc' := 109) ⟨by decide +kernel, rfl⟩ rfl rfl ?_
        refine z_aload_n (f := 0) (i := 0) (q := 6) (pc' := 110) ⟨by decide +kernel, rfl⟩ rfl rfl ?_
        refine w_getr (k := 27) (j := 2) (idx := 19) (pc' := 113) fxe_5_19 kfa_27_2 ⟨by decide +kernel, rfl⟩ ?_
        refine w_getr (k := 17) (j := 1) (idx := 86) (pc' := 116) fxe_5_86 kfa_17_1 ⟨by decide +kernel, rfl⟩ ?_
        refine z_iload_n (f := 1) (i := 1) (q := 7) (pc' := 117) ⟨by decide +kernel, rfl⟩ rfl rfl ?_
        refine w_iald (k := 18) (n := p) (pc' := 118) kaa_18 (hpo) (hp8) ⟨by decide +kernel, rfl⟩ ?_
        refine z_iload (i := 8) (q := 1) (pc' := 120) ⟨by decide +kernel, rfl⟩ rfl ?_
        refine z_iload (i := 9) (q := 0) (pc' := 122) ⟨by decide +kernel, rfl⟩ rfl ?_
        refine w_invV (Z := Y_Ju_weightOf) (idx := 89) (kb := 27) (As := [.int (σ5.1 18 p), .int v2, .int v3]) (rest := []) (pc' := 125) cl_5_89 rfl ⟨rfl, rfl⟩ kfa_27_0 rfl ⟨⟨by decide, by decide⟩, rfl, rfl⟩ ⟨by decide +kernel, rfl⟩ rfl rfl (Nat.le_of_ble_eq_true rfl) rfl rfl ?_
        refine cz_Ju_weightOf (a := raN p n) hv2 (by rw [rb_cg hF3]; exact q1) (by rw [pl_cg hF3]; exact hP) hsd (by rw [ru_cg hF3]; exact qb.2.1) (by rw [ru_cg hF3]; exact qb.2.2.1) (by rw [ru_cg hF3, ru_cg hF3]; exact qb.2.2.2) (fun v6 hv6 => ?_)
        show Wz E Y_Ju_answer 125 [(9, .int v3), (8, .int v2), (7, .int i), (6, .int cn), (5, .int bst), (4, .int ans), (0, .ref 27), (1, .int po), (2, .int act), (3, .int asked)] [.int v6] σ5 K
        refine z_istore (i := 10) (pc' := 127) ⟨by decide +kernel, rfl⟩ (by decide) rfl ?_
        show Wz E Y_Ju_answer 127 [(10, .int v6), (9, .int v3), (8, .int v2), (7, .int i), (6, .int cn), (5, .int bst), (4, .int ans), (0, .ref 27), (1, .int po), (2, .int act), (3, .int asked)] [] σ5 K
        refine z_aload_n (f := 0) (i := 0) (q := 7) (pc' := 128) ⟨by decide +kernel, rfl⟩ rfl rfl ?_
        refine w_getr (k := 27) (j := 14) (idx := 35) (pc' := 131) fxe_5_35 kfa_27_14 ⟨by decide +kernel, rfl⟩ ?_
        refine z_iconst (i := 0) (v := 0) (pc' := 132) ⟨by decide +kernel, rfl⟩ (by decide) ?_
        refine w_iald (k := 31) (n := 0) (pc' := 133) kaa_31 (by decide) (by decide) ⟨by decide +kernel, rfl⟩ ?_
        refine z_bipush (i := (-4)) (v := (-4)) (pc' := 135) ⟨by decide +kernel, rfl⟩ (by decide) ?_
        refine z_icmp_eq (off := 10) (tgt := 145) (pc' := 138) ⟨by decide +kernel, by decide, rfl⟩ (fun h7 => ?_) (fun h7 => ?_)
        · refine z_aload_n (f := 0) (i := 0) (q := 7) (pc' := 146) ⟨by decide +kernel, rfl⟩ rfl rfl ?_
          refine w_getr (k := 27) (j := 14) (idx := 35) (pc' := 149) fxe_5_35 kfa_27_14 ⟨by decide +kernel, rfl⟩ ?_
          refine z_iconst (i := 0) (v := 0) (pc' := 150) ⟨by decide +kernel, rfl⟩ (by decide) ?_
          refine z_iload (i := 7) (q := 3) (pc' := 152) ⟨by decide +kernel, rfl⟩ rfl ?_
          refine w_iast (k := 31) (n := 0) (pc' := 153) kaa_31 (by decide) (by decide) ⟨by decide +kernel, rfl⟩ ?_
          generalize hs8 : zI σ5 31 0 i = σ8
          refine z_aload_n (f := 0) (i := 0) (q := 7) (pc' := 154) ⟨by decide +kernel, rfl⟩ rfl rfl ?_
          refine w_getr (k := 27) (j := 14) (idx := 35) (pc' := 157) fxe_5_35 kfa_27_14 ⟨by decide +kernel, rfl⟩ ?_
          refine z_iconst (i := 1) (v := 1) (pc' := 158) ⟨by decide +kernel, rfl⟩ (by decide) ?_
          refine z_aload_n (f := 0) (i := 0) (q := 7) (pc' := 159) ⟨by decide +kernel, rfl⟩ rfl rfl ?_
          refine w_getr (k := 27) (j := 2) (idx := 19) (pc' := 162) fxe_5_19 kfa_27_2 ⟨by decide +kernel, rfl⟩ ?_
          refine w_getr (k := 17) (j := 3) (idx := 92) (pc' := 165) fxe_5_92 kfa_17_3 ⟨by decide +kernel, rfl⟩ ?_
          refine z_iload (i := 8) (q := 2) (pc' := 167) ⟨by decide +kernel, rfl⟩ rfl ?_
          refine z_bipush (i := 8) (v := 8) (pc' := 169) ⟨by decide +kernel, rfl⟩ (by decide) ?_
          refine z_iadd (pc' := 170) ⟨by decide +kernel, rfl⟩ ?_
          refine w_iald (k := 20) (n := (raN p n + 8)) (pc' := 171) kaa_20 (at_c hv2 (by decide) (by have := q1.1; omega)) (by have := q1.1; omega) ⟨by decide +kernel, rfl⟩ ?_
          refine w_iast (k := 31) (n := 1) (pc' := 172) kaa_31 (by decide) (by decide) ⟨by decide +kernel, rfl⟩ ?_
          generalize hs9 : zI σ8 31 1 (σ8.1 20 (raN p n + 8)) = σ9
          refine z_aload_n (f := 0) (i := 0) (q := 7) (pc' := 173) ⟨by decide +kernel, rfl⟩ rfl rfl ?_
          refine w_getr (k := 27) (j := 14) (idx := 35) (pc' := 176) fxe_5_35 kfa_27_14 ⟨by decide +kernel, rfl⟩ ?_
          refine z_iconst (i := 2) (v := 2) (pc' := 177) ⟨by decide +kernel, rfl⟩ (by decide) ?_
          refine z_aload_n (f := 0) (i := 0) (q := 7) (pc' := 178) ⟨by decide +kernel, rfl⟩ rfl rfl ?_
          refine w_geti (k := 27) (j := 13) (idx := 95) (pc' := 181) fxe_5_95 kfa_27_13 ⟨by decide +kernel, rfl⟩ ?_
          refine w_iast (k := 31) (n := 2) (pc' := 182) kaa_31 (by decide) (by decide) ⟨by decide +kernel, rfl⟩ ?_
          generalize hs10 : zI σ9 31 2 (σ9.1 27 13) = σ10
          refine z_iload (i := 10) (q := 0) (pc' := 184) ⟨by decide +kernel, rfl⟩ rfl ?_
          refine z_istore (i := 5) (pc' := 186) ⟨by decide +kernel, rfl⟩ (by decide) rfl ?_
          show Wz E Y_Ju_answer 186 [(5, .int v6), (10, .int v6), (9, .int v3), (8, .int v2), (7, .int i), (6, .int cn), (4, .int ans), (0, .ref 27), (1, .int po), (2, .int act), (3, .int asked)] [] σ10 K
          refine z_iload (i := 9) (q := 2) (pc' := 188) ⟨by decide +kernel, rfl⟩ rfl ?_
          refine z_istore (i := 4) (pc' := 190) ⟨by decide +kernel, rfl⟩ (by decide) rfl ?_
          show Wz E Y_Ju_answer 190 [(4, .int v3), (5, .int v6), (10, .int v6), (9, .int v3), (8, .int v2), (7, .int i), (6, .int cn), (0, .ref 27), (1, .int po), (2, .int act), (3, .int asked)] [] σ10 K
          refine z_iinc (i := 7) (z := 1) (q := 5) (pc' := 193) ⟨by decide +kernel, rfl⟩ rfl rfl (by decide) rfl ?_
          show Wz E Y_Ju_answer 193 [(7, .int (i + Int32.ofInt 1)), (4, .int v3), (5, .int v6), (10, .int v6), (9, .int v3), (8, .int v2), (6, .int cn), (0, .ref 27), (1, .int po), (2, .int act), (3, .int asked)] [] σ10 K
          refine z_goto (off := (-129)) (tgt := 64) (pc' := 196) ⟨by decide +kernel, by decide, rfl⟩ ?_
          have z0L : (0 : Int64).toInt = 0 := by decide
          have z__4_ : ((-4) : Int32).toInt = (-4) := by decide
          have gh1 := j_ge_f h1
          have gh4 := j_ne_t h4
          have gh7 := j_eq_t h7
          refine z_sub [0, 6, 2, 1, 7, 8, 9, 10] rfl ?_
          have e1 : (Int32.ofInt 1).toInt = 1 := by decide
          have es : (σ3.1 31 3 + 1).toInt = (σ3.1 31 3).toInt + 1 := by have q : (σ3.1 31 3).toInt = (((jdF g n).1 : Nat) : Int) := (by rw [hF2.2]; exact hD.1); rw [i32_le q (by have := jd_le (g := g) n; omega), q]
          have ew : wtC σ5 (σ5.1 18 p).toInt (raN p n) (v3 : Int32).toInt = wtC σ (σ.1 18 p).toInt (raN p n) (v3 : Int32).toInt := by rw [wt_cg hF3, hF3.e (k := 18) (by decide)]
          have e30 : σ5.1 31 0 = τ.1 31 0 := by rw [← hs5, yI_ne (by first | decide | omega), hF2.2]
          have hF4 := ((hF3.w hs8).w hs9).w hs10
          have t3 : (σ10.1 31 3).toInt = (τ.1 31 3).toInt + 1 := by rw [← hs10, yI_ne (by first | decide | omega), ← hs9, yI_ne (by first | decide | omega), ← hs8, yI_ne (by first | decide | omega), ← hs5, yI_at, es, hF2.2]
          have t0 : (σ10.1 31 0).toInt = (n : Int) := by rw [← hs10, yI_ne (by first | decide | omega), ← hs9, yI_ne (by first | decide | omega), ← hs8, yI_at]; exact hi
          have t1 : (σ10.1 31 1).toInt = ruC σ (raN p n) 8 := by rw [← hs10, yI_ne (by first | decide | omega), ← hs9, yI_at, (hF3.w hs8).e (k := 20) (by decide)]
          have t2 : (σ10.1 31 2).toInt = (σ3.1 27 13).toInt := by rw [← hs10, yI_at, ← hs9, yI_ne (by first | decide | omega), ← hs8, yI_ne (by first | decide | omega), ← hs5, yI_ne (by first | decide | omega)]
          have dt := ds_take hD hgn t3 t0 t1 t2 (Or.inl (by rw [← e30]; omega))
          have ew2 := hv6.trans ew
          exact ih (n := n + 1) (by rw [i32_add (by rw [e1]; omega), e1]; omega) hcn (by omega) (hF4) (by rw [ew2]; exact dt) k
        · refine z_iload (i := 10) (q := 0) (pc' := 140) ⟨by decide +kernel, rfl⟩ rfl ?_
          refine z_iload (i := 5) (q := 5) (pc' := 142) ⟨by decide +kernel, rfl⟩ rfl ?_
          refine z_icmp_le (off := 48) (tgt := 190) (pc' := 145) ⟨by decide +kernel, by decide, rfl⟩ (fun h11 => ?_) (fun h11 => ?_)
          · refine z_iinc (i := 7) (z := 1) (q := 3) (pc' := 193) ⟨by decide +kernel, rfl⟩ rfl rfl (by decide) rfl ?_
            show Wz E Y_Ju_answer 193 [(7, .int (i + Int32.ofInt 1)), (10, .int v6), (9, .int v3), (8, .int v2), (6, .int cn), (5, .int bst), (4, .int ans), (0, .ref 27), (1, .int po), (2, .int act), (3, .int asked)] [] σ5 K
            refine z_goto (off := (-129)) (tgt := 64) (pc' := 196) ⟨by decide +kernel, by decide, rfl⟩ ?_
            have z0L : (0 : Int64).toInt = 0 := by decide
            have z__4_ : ((-4) : Int32).toInt = (-4) := by decide
            have gh1 := j_ge_f h1
            have gh4 := j_ne_t h4
            have gh7 := j_eq_f h7
            have gh11 := j_le_t h11
            refine z_sub [0, 4, 5, 6, 7, 8, 9, 10] rfl ?_
            have e1 : (Int32.ofInt 1).toInt = 1 := by decide
            have es : (σ3.1 31 3 + 1).toInt = (σ3.1 31 3).toInt + 1 := by have q : (σ3.1 31 3).toInt = (((jdF g n).1 : Nat) : Int) := (by rw [hF2.2]; exact hD.1); rw [i32_le q (by have := jd_le (g := g) n; omega), q]
            have ew : wtC σ5 (σ5.1 18 p).toInt (raN p n) (v3 : Int32).toInt = wtC σ (σ.1 18 p).toInt (raN p n) (v3 : Int32).toInt := by rw [wt_cg hF3, hF3.e (k := 18) (by decide)]
            have e30 : σ5.1 31 0 = τ.1 31 0 := by rw [← hs5, yI_ne (by first | decide | omega), hF2.2]
            exact ih (n := n + 1) (by rw [i32_add (by rw [e1]; omega), e1]; omega) hcn (by omega) (hF3) (ds_keep hD hF2.2 hs5 es hgn (by omega) (by show ¬ bst.toInt < wtC σ (σ.1 18 p).toInt (raN p n) (v3 : Int32).toInt; rw [← ew, ← hv6]; omega)) k
          · refine z_aload_n (f := 0) (i := 0) (q := 7) (pc' := 146) ⟨by decide +kernel, rfl⟩ rfl rfl ?_
            refine w_getr (k := 27) (j := 14) (idx := 35) (pc' := 149) fxe_5_35 kfa_27_14 ⟨by decide +kernel, rfl⟩ ?_
            refine z_iconst (i := 0) (v := 0) (pc' := 150) ⟨by decide +kernel, rfl⟩ (by decide) ?_
            refine z_iload (i := 7) (q := 3) (pc' := 152) ⟨by decide +kernel, rfl⟩ rfl ?_
            refine w_iast (k := 31) (n := 0) (pc' := 153) kaa_31 (by decide) (by decide) ⟨by decide +kernel, rfl⟩ ?_
            generalize hs12 : zI σ5 31 0 i = σ12
            refine z_aload_n (f := 0) (i := 0) (q := 7) (pc' := 154) ⟨by decide +kernel, rfl⟩ rfl rfl ?_
            refine w_getr (k := 27) (j := 14) (idx := 35) (pc' := 157) fxe_5_35 kfa_27_14 ⟨by decide +kernel, rfl⟩ ?_
            refine z_iconst (i := 1) (v := 1) (pc' := 158) ⟨by decide +kernel, rfl⟩ (by decide) ?_
            refine z_aload_n (f := 0) (i := 0) (q := 7) (pc' := 159) ⟨by decide +kernel, rfl⟩ rfl rfl ?_
            refine w_getr (k := 27) (j := 2) (idx := 19) (pc' := 162) fxe_5_19 kfa_27_2 ⟨by decide +kernel, rfl⟩ ?_
            refine w_getr (k := 17) (j := 3) (idx := 92) (pc' := 165) fxe_5_92 kfa_17_3 ⟨by decide +kernel, rfl⟩ ?_
            refine z_iload (i := 8) (q := 2) (pc' := 167) ⟨by decide +kernel, rfl⟩ rfl ?_
            refine z_bipush (i := 8) (v := 8) (pc' := 169) ⟨by decide +kernel, rfl⟩ (by decide) ?_
            refine z_iadd (pc' := 170) ⟨by decide +kernel, rfl⟩ ?_
            refine w_iald (k := 20) (n := (raN p n + 8)) (pc' := 171) kaa_20 (at_c hv2 (by decide) (by have := q1.1; omega)) (by have := q1.1; omega) ⟨by decide +kernel, rfl⟩ ?_
            refine w_iast (k := 31) (n := 1) (pc' := 172) kaa_31 (by decide) (by decide) ⟨by decide +kernel, rfl⟩ ?_
            generalize hs13 : zI σ12 31 1 (σ12.1 20 (raN p n + 8)) = σ13
            refine z_aload_n (f := 0) (i := 0) (q := 7) (pc' := 173) ⟨by decide +kernel, rfl⟩ rfl rfl ?_
            refine w_getr (k := 27) (j := 14) (idx := 35) (pc' := 176) fxe_5_35 kfa_27_14 ⟨by decide +kernel, rfl⟩ ?_
            refine z_iconst (i := 2) (v := 2) (pc' := 177) ⟨by decide +kernel, rfl⟩ (by decide) ?_
            refine z_aload_n (f := 0) (i := 0) (q := 7) (pc' := 178) ⟨by decide +kernel, rfl⟩ rfl rfl ?_
            refine w_geti (k := 27) (j := 13) (idx := 95) (pc' := 181) fxe_5_95 kfa_27_13 ⟨by decide +kernel, rfl⟩ ?_
            refine w_iast (k := 31) (n := 2) (pc' := 182) kaa_31 (by decide) (by decide) ⟨by decide +kernel, rfl⟩ ?_
            generalize hs14 : zI σ13 31 2 (σ13.1 27 13) = σ14
            refine z_iload (i := 10) (q := 0) (pc' := 184) ⟨by decide +kernel, rfl⟩ rfl ?_
            refine z_istore (i := 5) (pc' := 186) ⟨by decide +kernel, rfl⟩ (by decide) rfl ?_
            show Wz E Y_Ju_answer 186 [(5, .int v6), (10, .int v6), (9, .int v3), (8, .int v2), (7, .int i), (6, .int cn), (4, .int ans), (0, .ref 27), (1, .int po), (2, .int act), (3, .int asked)] [] σ14 K
            refine z_iload (i := 9) (q := 2) (pc' := 188) ⟨by decide +kernel, rfl⟩ rfl ?_
            refine z_istore (i := 4) (pc' := 190) ⟨by decide +kernel, rfl⟩ (by decide) rfl ?_
            show Wz E Y_Ju_answer 190 [(4, .int v3), (5, .int v6), (10, .int v6), (9, .int v3), (8, .int v2), (7, .int i), (6, .int cn), (0, .ref 27), (1, .int po), (2, .int act), (3, .int asked)] [] σ14 K
            refine z_iinc (i := 7) (z := 1) (q := 5) (pc' := 193) ⟨by decide +kernel, rfl⟩ rfl rfl (by decide) rfl ?_
            show Wz E Y_Ju_answer 193 [(7, .int (i + Int32.ofInt 1)), (4, .int v3), (5, .int v6), (10, .int v6), (9, .int v3), (8, .int v2), (6, .int cn), (0, .ref 27), (1, .int po), (2, .int act), (3, .int asked)] [] σ14 K
            refine z_goto (off := (-129)) (tgt := 64) (pc' := 196) ⟨by decide +kernel, by decide, rfl⟩ ?_
            have z0L : (0 : Int64).toInt = 0 := by decide
            have z__4_ : ((-4) : Int32).toInt = (-4) := by decide
            have gh1 := j_ge_f h1
            have gh4 := j_ne_t h4
            have gh7 := j_eq_f h7
            have gh11 := j_le_f h11
            refine z_sub [0, 6, 2, 1, 7, 8, 9, 10] rfl ?_
            have e1 : (Int32.ofInt 1).toInt = 1 := by decide
            have es : (σ3.1 31 3 + 1).toInt = (σ3.1 31 3).toInt + 1 := by have q : (σ3.1 31 3).toInt = (((jdF g n).1 : Nat) : Int) := (by rw [hF2.2]; exact hD.1); rw [i32_le q (by have := jd_le (g := g) n; omega), q]
            have ew : wtC σ5 (σ5.1 18 p).toInt (raN p n) (v3 : Int32).toInt = wtC σ (σ.1 18 p).toInt (raN p n) (v3 : Int32).toInt := by rw [wt_cg hF3, hF3.e (k := 18) (by decide)]
            have e30 : σ5.1 31 0 = τ.1 31 0 := by rw [← hs5, yI_ne (by first | decide | omega), hF2.2]
            have hF4 := ((hF3.w hs12).w hs13).w hs14
            have t3 : (σ14.1 31 3).toInt = (τ.1 31 3).toInt + 1 := by rw [← hs14, yI_ne (by first | decide | omega), ← hs13, yI_ne (by first | decide | omega), ← hs12, yI_ne (by first | decide | omega), ← hs5, yI_at, es, hF2.2]
            have t0 : (σ14.1 31 0).toInt = (n : Int) := by rw [← hs14, yI_ne (by first | decide | omega), ← hs13, yI_ne (by first | decide | omega), ← hs12, yI_at]; exact hi
            have t1 : (σ14.1 31 1).toInt = ruC σ (raN p n) 8 := by rw [← hs14, yI_ne (by first | decide | omega), ← hs13, yI_at, (hF3.w hs12).e (k := 20) (by decide)]
            have t2 : (σ14.1 31 2).toInt = (σ3.1 27 13).toInt := by rw [← hs14, yI_at, ← hs13, yI_ne (by first | decide | omega), ← hs12, yI_ne (by first | decide | omega), ← hs5, yI_ne (by first | decide | omega)]
            have dt := ds_take hD hgn t3 t0 t1 t2 (Or.inr (by show bst.toInt < wtC σ (σ.1 18 p).toInt (raN p n) (v3 : Int32).toInt; rw [← ew, ← hv6]; omega))
            have ew2 := hv6.trans ew
            exact ih (n := n + 1) (by rw [i32_add (by rw [e1]; omega), e1]; omega) hcn (by omega) (hF4) (by rw [ew2]; exact dt) k
      · refine z_goto (off := 95) (tgt := 190) (pc' := 98) ⟨by decide +kernel, by decide, rfl⟩ ?_
        refine z_iinc (i := 7) (z := 1) (q := 2) (pc' := 193) ⟨by decide +kernel, rfl⟩ rfl rfl (by decide) rfl ?_
        show Wz E Y_Ju_answer 193 [(7, .int (i + Int32.ofInt 1)), (9, .int v3), (8, .int v2), (6, .int cn), (5, .int bst), (4, .int ans), (0, .ref 27), (1, .int po), (2, .int act), (3, .int asked)] [] σ3 K
        refine z_goto (off := (-129)) (tgt := 64) (pc' := 196) ⟨by decide +kernel, by decide, rfl⟩ ?_
        have z0L : (0 : Int64).toInt = 0 := by decide
        have z__4_ : ((-4) : Int32).toInt = (-4) := by decide
        have gh1 := j_ge_f h1
        have gh4 := j_ne_f h4
        refine z_sub [0, 3, 4, 5, 6, 7, 8, 9] rfl ?_
        have e1 : (Int32.ofInt 1).toInt = 1 := by decide
        have hF2 := sp_fr hF hv3
        exact ih (n := n + 1) (by rw [i32_add (by rw [e1]; omega), e1]; omega) hcn (by omega) (hF2.1) (ds_none hD hF2.2 (rs_no hF hv3 (by omega) qg)) k
theorem run_Ju_answer {E : xV} {σ : zS} {K : zKt} {po act asked : Int32} {p N : Nat} {g : Nat → Option (Int × Int × Int)} {x : Nat → EntJ}  {ρ : zS} (hρ : stA σ asked = ρ) (hpo : po.toInt = (p : Int)) (hp8 : p < 8) (hact : 0 ≤ act.toInt ∧ act.toInt ≤ 5) (hP : PlC ρ) (hc : ∀ f : Nat, f < 480 → 0 ≤ (ρ.1 8 f).toInt ∧ (ρ.1 8 f).toInt ≤ 20) (hw : 0 ≤ (ρ.1 27 3).toInt ∧ (ρ.1 27 3).toInt ≤ 19) (hn7 : 0 ≤ (ρ.1 27 7).toInt ∧ (ρ.1 27 7).toInt ≤ 1000000000) (ht6 : 0 ≤ (ρ.1 27 6).toInt ∧ (ρ.1 27 6).toInt ≤ 1000000000) (hN : N ≤ 30) (hA : ∀ r, r < N → RaC ρ (ρ.1 18 p).toInt (raN p r) act (x r) (g r)) (hcnt : (ρ.1 19 p).toInt = (N : Int)) (k : ∀ (τ' : zS) (ans' bst' : Int32), FrA ρ τ' → DsC ρ τ' p (jdF g N) ans'.toInt bst'.toInt → K (some (.int ans')) τ') : Wz E Y_Ju_answer 0 [(0, .ref 27), (1, .int po), (2, .int act), (3, .int asked)] [] σ K := by
  refine z_aload_n (f := 0) (i := 0) (q := 0) (pc' := 1) ⟨by decide +kernel, rfl⟩ rfl rfl ?_
  refine w_getr (k := 27) (j := 14) (idx := 35) (pc' := 4) fxe_5_35 kfa_27_14 ⟨by decide +kernel, rfl⟩ ?_
  refine z_iconst (i := 0) (v := 0) (pc' := 5) ⟨by decide +kernel, rfl⟩ (by decide) ?_
  refine z_bipush (i := (-4)) (v := (-4)) (pc' := 7) ⟨by decide +kernel, rfl⟩ (by decide) ?_
  refine w_iast (k := 31) (n := 0) (pc' := 8) kaa_31 (by decide) (by decide) ⟨by decide +kernel, rfl⟩ ?_
  generalize hs1 : zI σ 31 0 (-4) = σ1
  refine z_aload_n (f := 0) (i := 0) (q := 0) (pc' := 9) ⟨by decide +kernel, rfl⟩ rfl rfl ?_
  refine w_getr (k := 27) (j := 14) (idx := 35) (pc' := 12) fxe_5_35 kfa_27_14 ⟨by decide +kernel, rfl⟩ ?_
  refine z_iconst (i := 1) (v := 1) (pc' := 13) ⟨by decide +kernel, rfl⟩ (by decide) ?_
  refine z_iconst (i := 0) (v := 0) (pc' := 14) ⟨by decide +kernel, rfl⟩ (by decide) ?_
  refine w_iast (k := 31) (n := 1) (pc' := 15) kaa_31 (by decide) (by decide) ⟨by decide +kernel, rfl⟩ ?_
  generalize hs2 : zI σ1 31 1 0 = σ2
  refine z_aload_n (f := 0) (i := 0) (q := 0) (pc' := 16) ⟨by decide +kernel, rfl⟩ rfl rfl ?_
  refine w_getr (k := 27) (j := 14) (idx := 35) (pc' := 19) fxe_5_35 kfa_27_14 ⟨by decide +kernel, rfl⟩ ?_
  refine z_iconst (i := 2) (v := 2) (pc' := 20) ⟨by decide +kernel, rfl⟩ (by decide) ?_
  refine z_iconst (i := 0) (v := 0) (pc' := 21) ⟨by decide +kernel, rfl⟩ (by decide) ?_
  refine w_iast (k := 31) (n := 2) (pc' := 22) kaa_31 (by decide) (by decide) ⟨by decide +kernel, rfl⟩ ?_
  generalize hs3 : zI σ2 31 2 0 = σ3
  refine z_aload_n (f := 0) (i := 0) (q := 0) (pc' := 23) ⟨by decide +kernel, rfl⟩ rfl rfl ?_
  refine w_getr (k := 27) (j := 14) (idx := 35) (pc' := 26) fxe_5_35 kfa_27_14 ⟨by decide +kernel, rfl⟩ ?_
  refine z_iconst (i := 3) (v := 3) (pc' := 27) ⟨by decide +kernel, rfl⟩ (by decide) ?_
  refine z_iconst (i := 0) (v := 0) (pc' := 28) ⟨by decide +kernel, rfl⟩ (by decide) ?_
  refine w_iast (k := 31) (n := 3) (pc' := 29) kaa_31 (by decide) (by decide) ⟨by decide +kernel, rfl⟩ ?_
  generalize hs4 : zI σ3 31 3 0 = σ4
  refine z_aload_n (f := 0) (i := 0) (q := 0) (pc' := 30) ⟨by decide +kernel, rfl⟩ rfl rfl ?_
  refine z_iload_n (f := 3) (i := 3) (q := 3) (pc' := 31) ⟨by decide +kernel, rfl⟩ rfl rfl ?_
  refine w_puti (k := 27) (j := 5) (idx := 71) (pc' := 34) fxi_5_71 kfa_27_5 ⟨by decide +kernel, rfl⟩ ?_
  generalize hs5 : zI σ4 27 5 asked = σ5
  refine z_iconst (i := 0) (v := 0) (pc' := 35) ⟨by decide +kernel, rfl⟩ (by decide) ?_
  refine z_istore (i := 4) (pc' := 37) ⟨by decide +kernel, rfl⟩ (by decide) rfl ?_
  show Wz E Y_Ju_answer 37 [(4, .int 0), (0, .ref 27), (1, .int po), (2, .int act), (3, .int asked)] [] σ5 K
  refine z_iconst (i := 0) (v := 0) (pc' := 38) ⟨by decide +kernel, rfl⟩ (by decide) ?_
  refine z_istore (i := 5) (pc' := 40) ⟨by decide +kernel, rfl⟩ (by decide) rfl ?_
  show Wz E Y_Ju_answer 40 [(5, .int 0), (4, .int 0), (0, .ref 27), (1, .int po), (2, .int act), (3, .int asked)] [] σ5 K
  refine z_iload_n (f := 1) (i := 1) (q := 3) (pc' := 41) ⟨by decide +kernel, rfl⟩ rfl rfl ?_
  refine z_bipush (i := (-4)) (v := (-4)) (pc' := 43) ⟨by decide +kernel, rfl⟩ (by decide) ?_
  refine z_icmp_ne (off := 7) (tgt := 50) (pc' := 46) ⟨by decide +kernel, by decide, rfl⟩ (fun h6 => ?_) (fun h6 => ?_)
  · refine z_aload_n (f := 0) (i := 0) (q := 2) (pc' := 51) ⟨by decide +kernel, rfl⟩ rfl rfl ?_
    refine w_getr (k := 27) (j := 2) (idx := 19) (pc' := 54) fxe_5_19 kfa_27_2 ⟨by decide +kernel, rfl⟩ ?_
    refine w_getr (k := 17) (j := 2) (idx := 74) (pc' := 57) fxe_5_74 kfa_17_2 ⟨by decide +kernel, rfl⟩ ?_
    refine z_iload_n (f := 1) (i := 1) (q := 3) (pc' := 58) ⟨by decide +kernel, rfl⟩ rfl rfl ?_
    refine w_iald (k := 19) (n := p) (pc' := 59) kaa_19 (hpo) (hp8) ⟨by decide +kernel, rfl⟩ ?_
    refine z_istore (i := 6) (pc' := 61) ⟨by decide +kernel, rfl⟩ (by decide) rfl ?_
    show Wz E Y_Ju_answer 61 [(6, .int (σ5.1 19 p)), (5, .int 0), (4, .int 0), (0, .ref 27), (1, .int po), (2, .int act), (3, .int asked)] [] σ5 K
    refine z_iconst (i := 0) (v := 0) (pc' := 62) ⟨by decide +kernel, rfl⟩ (by decide) ?_
    refine z_istore (i := 7) (pc' := 64) ⟨by decide +kernel, rfl⟩ (by decide) rfl ?_
    show Wz E Y_Ju_answer 64 [(7, .int 0), (6, .int (σ5.1 19 p)), (5, .int 0), (4, .int 0), (0, .ref 27), (1, .int po), (2, .int act), (3, .int asked)] [] σ5 K
    have z0L : (0 : Int64).toInt = 0 := by decide
    have z__4_ : ((-4) : Int32).toInt = (-4) := by decide
    have gh6 := j_ne_t h6
    have hr : stA σ asked = σ5 := by subst hs5; subst hs4; subst hs3; subst hs2; subst hs1; rfl
    have e5 : σ5 = ρ := hr.symm.trans hρ
    rw [e5]
    refine z_sub [0, 1, 2, 3, 4, 5, 6, 7] rfl ?_
    exact run_Ju_answer_l hpo hp8 hact hP hc hw hn7 ht6 hN hA N (n := 0) (by decide) hcnt (by omega) (FrA.refl ρ) (ds_0 hρ) k
  · refine z_iconst (i := 0) (v := 0) (pc' := 47) ⟨by decide +kernel, rfl⟩ (by decide) ?_
    refine z_goto (off := 12) (tgt := 59) (pc' := 50) ⟨by decide +kernel, by decide, rfl⟩ ?_
    refine z_istore (i := 6) (pc' := 61) ⟨by decide +kernel, rfl⟩ (by decide) rfl ?_
    show Wz E Y_Ju_answer 61 [(6, .int 0), (5, .int 0), (4, .int 0), (0, .ref 27), (1, .int po), (2, .int act), (3, .int asked)] [] σ5 K
    refine z_iconst (i := 0) (v := 0) (pc' := 62) ⟨by decide +kernel, rfl⟩ (by decide) ?_
    refine z_istore (i := 7) (pc' := 64) ⟨by decide +kernel, rfl⟩ (by decide) rfl ?_
    show Wz E Y_Ju_answer 64 [(7, .int 0), (6, .int 0), (5, .int 0), (4, .int 0), (0, .ref 27), (1, .int po), (2, .int act), (3, .int asked)] [] σ5 K
    have z0L : (0 : Int64).toInt = 0 := by decide
    have z__4_ : ((-4) : Int32).toInt = (-4) := by decide
    have gh6 := j_ne_f h6
    exfalso
    omega
theorem cz_Ju_answer {E : xV} {σ : zS} {K : zKt} {po act asked : Int32} {p N : Nat} {g : Nat → Option (Int × Int × Int)} {x : Nat → EntJ}  {ρ : zS} (hρ : stA σ asked = ρ) (hpo : po.toInt = (p : Int)) (hp8 : p < 8) (hact : 0 ≤ act.toInt ∧ act.toInt ≤ 5) (hP : PlC ρ) (hc : ∀ f : Nat, f < 480 → 0 ≤ (ρ.1 8 f).toInt ∧ (ρ.1 8 f).toInt ≤ 20) (hw : 0 ≤ (ρ.1 27 3).toInt ∧ (ρ.1 27 3).toInt ≤ 19) (hn7 : 0 ≤ (ρ.1 27 7).toInt ∧ (ρ.1 27 7).toInt ≤ 1000000000) (ht6 : 0 ≤ (ρ.1 27 6).toInt ∧ (ρ.1 27 6).toInt ≤ 1000000000) (hN : N ≤ 30) (hA : ∀ r, r < N → RaC ρ (ρ.1 18 p).toInt (raN p r) act (x r) (g r)) (hcnt : (ρ.1 19 p).toInt = (N : Int)) (k : ∀ (τ' : zS) (ans' bst' : Int32), FrA ρ τ' → DsC ρ τ' p (jdF g N) ans'.toInt bst'.toInt → K (some (.int ans')) τ') : Cz E Y_Ju_answer [.ref 27, .int po, .int act, .int asked] σ K := z_entry (by decide) (fun a => by rw [sl_len]; exact Nat.le_of_ble_eq_true rfl) rfl (run_Ju_answer hρ hpo hp8 hact hP hc hw hn7 ht6 hN hA hcnt k)
theorem run_Ju_answer_n {E : xV} {σ : zS} {K : zKt} {po act asked : Int32} {ρ : zS} (hρ : stA σ asked = ρ) (hpo : po.toInt = -4) (k : K (some (.int 0)) ρ) : Wz E Y_Ju_answer 0 [(0, .ref 27), (1, .int po), (2, .int act), (3, .int asked)] [] σ K := by
  refine z_aload_n (f := 0) (i := 0) (q := 0) (pc' := 1) ⟨by decide +kernel, rfl⟩ rfl rfl ?_
  refine w_getr (k := 27) (j := 14) (idx := 35) (pc' := 4) fxe_5_35 kfa_27_14 ⟨by decide +kernel, rfl⟩ ?_
  refine z_iconst (i := 0) (v := 0) (pc' := 5) ⟨by decide +kernel, rfl⟩ (by decide) ?_
  refine z_bipush (i := (-4)) (v := (-4)) (pc' := 7) ⟨by decide +kernel, rfl⟩ (by decide) ?_
  refine w_iast (k := 31) (n := 0) (pc' := 8) kaa_31 (by decide) (by decide) ⟨by decide +kernel, rfl⟩ ?_
  generalize hs1 : zI σ 31 0 (-4) = σ1
  refine z_aload_n (f := 0) (i := 0) (q := 0) (pc' := 9) ⟨by decide +kernel, rfl⟩ rfl rfl ?_
  refine w_getr (k := 27) (j := 14) (idx := 35) (pc' := 12) fxe_5_35 kfa_27_14 ⟨by decide +kernel, rfl⟩ ?_
  refine z_iconst (i := 1) (v := 1) (pc' := 13) ⟨by decide +kernel, rfl⟩ (by decide) ?_
  refine z_iconst (i := 0) (v := 0) (pc' := 14) ⟨by decide +kernel, rfl⟩ (by decide) ?_
  refine w_iast (k := 31) (n := 1) (pc' := 15) kaa_31 (by decide) (by decide) ⟨by decide +kernel, rfl⟩ ?_
  generalize hs2 : zI σ1 31 1 0 = σ2
  refine z_aload_n (f := 0) (i := 0) (q := 0) (pc' := 16) ⟨by decide +kernel, rfl⟩ rfl rfl ?_
  refine w_getr (k := 27) (j := 14) (idx := 35) (pc' := 19) fxe_5_35 kfa_27_14 ⟨by decide +kernel, rfl⟩ ?_
  refine z_iconst (i := 2) (v := 2) (pc' := 20) ⟨by decide +kernel, rfl⟩ (by decide) ?_
  refine z_iconst (i := 0) (v := 0) (pc' := 21) ⟨by decide +kernel, rfl⟩ (by decide) ?_
  refine w_iast (k := 31) (n := 2) (pc' := 22) kaa_31 (by decide) (by decide) ⟨by decide +kernel, rfl⟩ ?_
  generalize hs3 : zI σ2 31 2 0 = σ3
  refine z_aload_n (f := 0) (i := 0) (q := 0) (pc' := 23) ⟨by decide +kernel, rfl⟩ rfl rfl ?_
  refine w_getr (k := 27) (j := 14) (idx := 35) (pc' := 26) fxe_5_35 kfa_27_14 ⟨by decide +kernel, rfl⟩ ?_
  refine z_iconst (i := 3) (v := 3) (pc' := 27) ⟨by decide +kernel, rfl⟩ (by decide) ?_
  refine z_iconst (i := 0) (v := 0) (pc' := 28) ⟨by decide +kernel, rfl⟩ (by decide) ?_
  refine w_iast (k := 31) (n := 3) (pc' := 29) kaa_31 (by decide) (by decide) ⟨by decide +kernel, rfl⟩ ?_
  generalize hs4 : zI σ3 31 3 0 = σ4
  refine z_aload_n (f := 0) (i := 0) (q := 0) (pc' := 30) ⟨by decide +kernel, rfl⟩ rfl rfl ?_
  refine z_iload_n (f := 3) (i := 3) (q := 3) (pc' := 31) ⟨by decide +kernel, rfl⟩ rfl rfl ?_
  refine w_puti (k := 27) (j := 5) (idx := 71) (pc' := 34) fxi_5_71 kfa_27_5 ⟨by decide +kernel, rfl⟩ ?_
  generalize hs5 : zI σ4 27 5 asked = σ5
  refine z_iconst (i := 0) (v := 0) (pc' := 35) ⟨by decide +kernel, rfl⟩ (by decide) ?_
  refine z_istore (i := 4) (pc' := 37) ⟨by decide +kernel, rfl⟩ (by decide) rfl ?_
  show Wz E Y_Ju_answer 37 [(4, .int 0), (0, .ref 27), (1, .int po), (2, .int act), (3, .int asked)] [] σ5 K
  refine z_iconst (i := 0) (v := 0) (pc' := 38) ⟨by decide +kernel, rfl⟩ (by decide) ?_
  refine z_istore (i := 5) (pc' := 40) ⟨by decide +kernel, rfl⟩ (by decide) rfl ?_
  show Wz E Y_Ju_answer 40 [(5, .int 0), (4, .int 0), (0, .ref 27), (1, .int po), (2, .int act), (3, .int asked)] [] σ5 K
  refine z_iload_n (f := 1) (i := 1) (q := 3) (pc' := 41) ⟨by decide +kernel, rfl⟩ rfl rfl ?_
  refine z_bipush (i := (-4)) (v := (-4)) (pc' := 43) ⟨by decide +kernel, rfl⟩ (by decide) ?_
  refine z_icmp_ne (off := 7) (tgt := 50) (pc' := 46) ⟨by decide +kernel, by decide, rfl⟩ (fun h6 => ?_) (fun h6 => ?_)
  · have z0L : (0 : Int64).toInt = 0 := by decide
    have z__4_ : ((-4) : Int32).toInt = (-4) := by decide
    have gh6 := j_ne_t h6
    exfalso
    omega
  · refine z_iconst (i := 0) (v := 0) (pc' := 47) ⟨by decide +kernel, rfl⟩ (by decide) ?_
    refine z_goto (off := 12) (tgt := 59) (pc' := 50) ⟨by decide +kernel, by decide, rfl⟩ ?_
    refine z_istore (i := 6) (pc' := 61) ⟨by decide +kernel, rfl⟩ (by decide) rfl ?_
    show Wz E Y_Ju_answer 61 [(6, .int 0), (5, .int 0), (4, .int 0), (0, .ref 27), (1, .int po), (2, .int act), (3, .int asked)] [] σ5 K
    refine z_iconst (i := 0) (v := 0) (pc' := 62) ⟨by decide +kernel, rfl⟩ (by decide) ?_
    refine z_istore (i := 7) (pc' := 64) ⟨by decide +kernel, rfl⟩ (by decide) rfl ?_
    show Wz E Y_Ju_answer 64 [(7, .int 0), (6, .int 0), (5, .int 0), (4, .int 0), (0, .ref 27), (1, .int po), (2, .int act), (3, .int asked)] [] σ5 K
    refine z_iload (i := 7) (q := 0) (pc' := 66) ⟨by decide +kernel, rfl⟩ rfl ?_
    refine z_iload (i := 6) (q := 1) (pc' := 68) ⟨by decide +kernel, rfl⟩ rfl ?_
    refine z_icmp_ge (off := 128) (tgt := 196) (pc' := 71) ⟨by decide +kernel, by decide, rfl⟩ (fun h7 => ?_) (fun h7 => ?_)
    · refine z_iload (i := 4) (q := 3) (pc' := 198) ⟨by decide +kernel, rfl⟩ rfl ?_
      refine z_iret (ty := .int) rfl rfl (by decide +kernel) ?_
      have z0L : (0 : Int64).toInt = 0 := by decide
      have z__4_ : ((-4) : Int32).toInt = (-4) := by decide
      have z0 : (0 : Int32).toInt = 0 := by decide
      have gh6 := j_ne_f h6
      have gh7 := j_ge_t h7
      have hr : stA σ asked = σ5 := by subst hs5; subst hs4; subst hs3; subst hs2; subst hs1; rfl
      rw [← hr, hρ]
      exact k
    · have z0L : (0 : Int64).toInt = 0 := by decide
      have z__4_ : ((-4) : Int32).toInt = (-4) := by decide
      have z0 : (0 : Int32).toInt = 0 := by decide
      have gh6 := j_ne_f h6
      have gh7 := j_ge_f h7
      exfalso
      omega
theorem cz_Ju_answer_n {E : xV} {σ : zS} {K : zKt} {po act asked : Int32} {ρ : zS} (hρ : stA σ asked = ρ) (hpo : po.toInt = -4) (k : K (some (.int 0)) ρ) : Cz E Y_Ju_answer [.ref 27, .int po, .int act, .int asked] σ K := z_entry (by decide) (fun a => by rw [sl_len]; exact Nat.le_of_ble_eq_true rfl) rfl (run_Ju_answer_n hρ hpo k)

end
end
section
section
/-! ===== the reference's judge: what it leaves as it is ===== -/
noncomputable def FrB (σ τ : zS) : Prop := (∀ k j, k ≠ 151 → ¬ (k = 110 ∧ 64 ≤ j ∧ j ≤ 68) → τ.1 k j = σ.1 k j) ∧ ∀ k j, k ≠ 152 → τ.2 k j = σ.2 k j
theorem FrB.refl (σ : zS) : FrB σ σ := ⟨fun _ _ _ _ => rfl, fun _ _ _ => rfl⟩
theorem FrB.of {σ τ ρ : zS} (h : FrB σ τ) (q : FrK τ ρ) : FrB σ ρ := ⟨fun k j a b => (q.1 k j a (by omega)).trans (h.1 k j a b), fun k j a => (q.2 k j a).trans (h.2 k j a)⟩
theorem FrB.w {σ τ ρ : zS} {n : Nat} {v : Int32} (h : FrB σ τ) (hn : 64 ≤ n ∧ n ≤ 68) (q : zI τ 110 n v = ρ) : FrB σ ρ := by
  subst q
  exact ⟨fun k j a b => by rw [yI_ne (by omega)]; exact h.1 k j a b, h.2⟩
theorem FrB.e {σ τ : zS} (h : FrB σ τ) {k : Nat} (hk : k ≠ 151 ∧ k ≠ 110) : τ.1 k = σ.1 k := funext fun j => h.1 k j hk.1 (by omega)
theorem FrB.f {σ τ : zS} (h : FrB σ τ) {j : Nat} (hj : j < 64) : τ.1 110 j = σ.1 110 j := h.1 110 j (by decide) (by omega)
theorem FrB.l {σ τ : zS} (h : FrB σ τ) {k : Nat} (hk : k ≠ 152) : τ.2 k = σ.2 k := funext fun j => h.2 k j hk
theorem um_cg {σ τ : zS} (h : FrB σ τ) : ∀ {n : Nat} {x o : Int}, unM τ n x o = unM σ n x o
  | 0, _, _ => rfl
  | n + 1, x, o => by
    show (x ≠ -4 ∧ (x = o ∨ ((τ.1 127 x.toNat).toInt = 0 ∧ unM τ n (τ.1 125 x.toNat).toInt o))) = (x ≠ -4 ∧ (x = o ∨ ((σ.1 127 x.toNat).toInt = 0 ∧ unM σ n (σ.1 125 x.toNat).toInt o)))
    rw [h.e (k := 127) (by decide), h.e (k := 125) (by decide), um_cg h]
theorem dm_cg {σ τ : zS} (h : FrB σ τ) : ∀ {n : Nat} {x : Int}, dpM τ n x = dpM σ n x
  | 0, _ => rfl
  | n + 1, x => by
    show (if x = -4 then 0 else dpM τ n (τ.1 125 x.toNat).toInt + 1) = (if x = -4 then 0 else dpM σ n (σ.1 125 x.toNat).toInt + 1)
    rw [h.e (k := 125) (by decide), dm_cg h]
theorem tm_cg {σ τ : zS} (h : FrB σ τ) {rk : Nat → Nat} : TrM τ rk = TrM σ rk := by unfold TrM; rw [h.e (k := 125) (by decide)]
theorem rn_cg {σ τ : zS} (h : FrB σ τ) : ∀ {n a b : Nat}, rcN τ n a b = rcN σ n a b
  | 0, _, _ => rfl
  | n + 1, a, b => by
    show (rcN τ n a b ∨ ∃ c, c < 6 ∧ rcN τ n a c ∧ (τ.1 129 (6 * c + b)).toInt ≠ 0) = (rcN σ n a b ∨ ∃ c, c < 6 ∧ rcN σ n a c ∧ (σ.1 129 (6 * c + b)).toInt ≠ 0)
    rw [h.e (k := 129) (by decide), funext fun c => rn_cg h (n := n) (a := a) (b := c)]
theorem rh_cg {σ τ : zS} (h : FrB σ τ) {a b : Nat} : RcH τ a b = RcH σ a b := propext ⟨fun ⟨n, q⟩ => ⟨n, by rw [← rn_cg h]; exact q⟩, fun ⟨n, q⟩ => ⟨n, by rw [rn_cg h]; exact q⟩⟩
theorem rm_cg {σ τ : zS} (h : FrB σ τ) {k r : Nat} (hk : k ≠ 151 ∧ k ≠ 110) : rM τ k r = rM σ k r := by show (τ.1 k r).toInt = (σ.1 k r).toInt; rw [h.e hk]
noncomputable abbrev FtN (σ : zS) (w u : Int) (un an r : Nat) : Prop := (fwM σ w un r ∧ faM σ an r) ∧ ftM σ u r
theorem fm_cg {σ τ : zS} (h : FrB σ τ) {w u : Int} {un an r : Nat} : FtN τ w u un an r = FtN σ w u un an r := by
  unfold FtN fwM faM ftM rM
  rw [h.e (k := 133) (by decide), h.e (k := 126) (by decide), h.e (k := 134) (by decide), h.e (k := 120) (by decide), h.e (k := 135) (by decide), h.e (k := 132) (by decide), h.e (k := 136) (by decide), h.e (k := 137) (by decide), rh_cg h, rh_cg h, um_cg h]
theorem pm_cg {σ τ : zS} (h : FrB σ τ) {way : Int} {r : Nat} {sd : Int} : plMq τ way r sd = plMq σ way r sd := by
  unfold plMq gpM rM
  rw [h.e (k := 133) (by decide), h.e (k := 136) (by decide), h.e (k := 137) (by decide), h.e (k := 125) (by decide), dm_cg h]
theorem ck_cg {σ τ : zS} (h : FrB σ τ) {n j : Nat} {i : Int} : CoK τ n j i = CoK σ n j i := by
  unfold CoK
  rw [h.e (k := 141) (by decide), h.l (k := 142) (by decide)]
theorem cl_cg {σ τ : zS} (h : FrB σ τ) : ∀ {n k : Nat}, cdL τ k n = cdL σ k n
  | 0, _ => rfl
  | n + 1, k => by
    show ((τ.1 141 k).toInt.toNat, (τ.2 142 k).toInt) :: cdL τ (k + 1) n = ((σ.1 141 k).toInt.toNat, (σ.2 142 k).toInt) :: cdL σ (k + 1) n
    rw [h.e (k := 141) (by decide), h.l (k := 142) (by decide), cl_cg h]
theorem ij_cg {σ τ : zS} (h : FrB σ τ) {f : Nat} {i : Int} : itJ τ f i = itJ σ f i := by
  unfold itJ
  rw [h.e (k := 121) (by decide), h.e (k := 122) (by decide), h.l (k := 123) (by decide)]
theorem hj_cg {σ τ : zS} (h : FrB σ τ) {f : Nat} {v : Int} : ∀ {n : Nat}, hasJ τ f v n = hasJ σ f v n
  | 0 => rfl
  | n + 1 => by
    show (hasJ τ f v n || decide ((τ.2 123 (20 * f + n)).toInt = v)) = (hasJ σ f v n || decide ((σ.2 123 (20 * f + n)).toInt = v))
    rw [hj_cg h, h.l (k := 123) (by decide)]
theorem em_cg {σ τ : zS} (h : FrB σ τ) {w u t : Int} : EvM τ w u t = EvM σ w u t := by
  rw [evm_mk, evm_mk]
  refine mk_eq (funext fun c => funext fun v => ?_) (funext fun f => funext fun v => ?_) (funext fun f => funext fun v => ?_) (funext fun f => ?_)
  · rw [h.f (j := 0) (by decide), ij_cg h, h.e (k := 121) (by decide), h.e (k := 122) (by decide)]
  · unfold paJ; rw [ij_cg h]
  · unfold mgJ; rw [h.e (k := 121) (by decide), h.e (k := 122) (by decide), hj_cg h]
  · rw [h.e (k := 121) (by decide)]
/-- what it says -/
noncomputable def sM (eff : Int) (j : Nat) (x : EntJ) : Int := if j = 0 then eff else if x.1 = 3 then 3 else if x.1 = 4 ∨ (x.1 = 2 ∧ eff ≠ 1) then eff else -1
theorem sy_s {σ τ : zS} {r j : Nat} {F : Prop} {x : EntJ} {v : Int} (h : syM σ τ r j F x v) : (¬ F ∧ v = -1) ∨ (F ∧ v = sM (rM σ 132 r) j x ∧ (j ≠ 0 → x.1 = 3 → (τ.2 152 0).toInt = x.2)) := by
  unfold sM
  rcases h with h | ⟨h1, h2, h3⟩ | ⟨h1, h2, h3, h4, h5⟩ | ⟨h1, h2, h3, h4⟩ | ⟨h1, h2, h3, h4⟩
  · exact Or.inl h
  · exact Or.inr ⟨h1, by rw [if_pos h2]; exact h3, fun q => absurd h2 q⟩
  · exact Or.inr ⟨h1, by rw [if_neg h2, if_pos h3]; exact h4, fun _ _ => h5⟩
  · exact Or.inr ⟨h1, by rw [if_neg h2, if_neg (by omega), if_pos h3]; exact h4, fun _ q => (by omega)⟩
  · exact Or.inr ⟨h1, by rw [if_neg h2, if_neg (fun q => h3 (Or.inl q)), if_neg (fun q => h3 (Or.inr q))]; exact h4, fun _ q => absurd (Or.inl q) h3⟩
noncomputable def RsM (σ : zS) (way w u : Int) (un an r j : Nat) (x : EntJ) (g : Option (Int × Int × Int)) : Prop := (¬ (FtN σ w u un an r ∧ 0 ≤ sM (rM σ 132 r) j x) ∧ g = none) ∨ ((FtN σ w u un an r ∧ 0 ≤ sM (rM σ 132 r) j x) ∧ g = some (sM (rM σ 132 r) j x, -plMq σ way r (sM (rM σ 132 r) j x), if sM (rM σ 132 r) j x = 3 then x.2 else 0))
/-- all that is known of a rule -/
noncomputable def RaM (σ : zS) (way w u t : Int) (un an r : Nat) (x : EntJ) (g : Option (Int × Int × Int)) : Prop := ((0 ≤ rM σ 132 r ∧ rM σ 132 r ≤ 2) ∧ (0 ≤ rM σ 133 r ∧ rM σ 133 r ≤ 3) ∧ (rM σ 133 r = 1 → 0 ≤ rM σ 134 r ∧ rM σ 134 r ≤ 15) ∧ (0 ≤ rM σ 135 r ∧ rM σ 135 r ≤ 6) ∧ (rM σ 136 r ≠ 0 → 0 ≤ rM σ 137 r ∧ rM σ 137 r ≤ 39)) ∧ ∃ f0 j : Nat, ((σ.1 139 r).toInt = (f0 : Int) ∧ (σ.1 140 r).toInt = ((f0 + j : Nat) : Int) ∧ j ≤ 1300 ∧ CoK σ f0 j 0 ∧ (FtN σ w u un an r → j ≠ 0 → mrun9 (EvM σ w u t) (cdL σ f0 j) [] = [x])) ∧ (x.1 = 3 → 0 ≤ x.2 ∧ x.2 ≤ 1000) ∧ RsM σ way w u un an r j x g
theorem rm_no {σ τ : zS} {way w u : Int} {un an r j : Nat} {x : EntJ} {g : Option (Int × Int × Int)} {v : Int} (h : syM σ τ r j (FtN σ w u un an r) x v) (hv : v < 0) (hg : RsM σ way w u un an r j x g) : g = none := by
  rcases hg with q | q
  · exact q.2
  · rcases sy_s h with h | h
    · exact absurd q.1.1 h.1
    · exact absurd q.1.2 (by rw [← h.2.1]; omega)
theorem rm_yes {σ τ : zS} {way w u : Int} {un an r j : Nat} {x : EntJ} {g : Option (Int × Int × Int)} {v : Int} (h : syM σ τ r j (FtN σ w u un an r) x v) (hv : 0 ≤ v) (he : 0 ≤ rM σ 132 r ∧ rM σ 132 r ≤ 2) (hg : RsM σ way w u un an r j x g) : g = some (v, -plMq σ way r v, if v = 3 then x.2 else 0) ∧ v ≤ 3 ∧ (v = 3 → x.1 = 3 ∧ (τ.2 152 0).toInt = x.2) := by
  rcases sy_s h with h | ⟨h1, h2, h3⟩
  · omega
  · rcases hg with q | q
    · exact absurd ⟨h1, by rw [← h2]; exact hv⟩ q.1
    · refine ⟨by rw [q.2, ← h2], ?_⟩
      unfold sM at h2
      by_cases e0 : j = 0
      · rw [if_pos e0] at h2; exact ⟨by omega, fun q => (by omega)⟩
      · rw [if_neg e0] at h2
        by_cases e3 : x.1 = 3
        · rw [if_pos e3] at h2; exact ⟨by omega, fun _ => ⟨e3, h3 e0 e3⟩⟩
        · rw [if_neg e3] at h2
          by_cases e4 : x.1 = 4 ∨ (x.1 = 2 ∧ rM σ 132 r ≠ 1)
          · rw [if_pos e4] at h2; exact ⟨by omega, fun q => (by omega)⟩
          · rw [if_neg e4] at h2; omega
/-- the decision as the reference holds it -/
noncomputable def DmO (τ : zS) (s : Option (Nat × Int × Int × Int)) (best : Int) : Prop := match s with
  | none => (τ.1 110 66).toInt = -4 ∧ (τ.1 110 65).toInt = 0 ∧ (τ.1 110 67).toInt = 0 ∧ best = 0
  | some y => (τ.1 110 66).toInt = (y.1 : Int) ∧ (τ.1 110 65).toInt = y.2.2.1 ∧ (τ.1 110 67).toInt = y.2.2.2 ∧ best = -y.2.1
noncomputable def DsM (τ : zS) (s : JdS) (best : Int) : Prop := (τ.1 110 68).toInt = (s.1 : Int) ∧ DmO τ s.2 best
theorem dq_none {τ ρ : zS} {n : Nat} {g : Nat → Option (Int × Int × Int)} {best : Int} (h : DsM τ (jdF g n) best) (e : FrK τ ρ) (hg : g n = none) : DsM ρ (jdF g (n + 1)) best := by
  show DsM ρ (jd1 (jdF g n) n (g n)) best
  rw [hg]
  show DsM ρ (jdF g n) best
  unfold DsM DmO at h ⊢
  rw [e.1 110 65 (by decide) (by decide), e.1 110 66 (by decide) (by decide), e.1 110 67 (by decide) (by decide), e.1 110 68 (by decide) (by decide)]; exact h
theorem dq_keep {τ ω : zS} {n : Nat} {g : Nat → Option (Int × Int × Int)} {best : Int} {x : Int × Int × Int} (h : DsM τ (jdF g n) best) (e5 : ω.1 110 65 = τ.1 110 65) (e6 : ω.1 110 66 = τ.1 110 66) (e7 : ω.1 110 67 = τ.1 110 67) (h8 : (ω.1 110 68).toInt = (τ.1 110 68).toInt + 1) (hg : g n = some x) (h0 : (τ.1 110 66).toInt ≠ -4) (hb : ¬ -x.2.1 < best) : DsM ω (jdF g (n + 1)) best := by
  show DsM ω (jd1 (jdF g n) n (g n)) best
  rw [hg]
  show (ω.1 110 68).toInt = (((jdF g n).1 + 1 : Nat) : Int) ∧ DmO ω (jdB n x (jdF g n).2) best
  refine ⟨by have q := h.1; rw [h8]; omega, ?_⟩
  have h2 := h.2
  unfold DmO at h2
  revert h2
  cases (jdF g n).2 with
  | none => intro h2; exact absurd h2.1 h0
  | some y =>
    intro h2
    have hz := h2.2.2.2
    have : jdB n x (some y) = some y := by show (if y.2.1 < x.2.1 then some (n, x.2.1, x.1, x.2.2) else some y) = some y; rw [if_neg (by omega)]
    rw [this]
    show (ω.1 110 66).toInt = (y.1 : Int) ∧ (ω.1 110 65).toInt = y.2.2.1 ∧ (ω.1 110 67).toInt = y.2.2.2 ∧ best = -y.2.1
    rw [e5, e6, e7]; exact h2
theorem dq_take {τ ω : zS} {n : Nat} {g : Nat → Option (Int × Int × Int)} {best b2 : Int} {x : Int × Int × Int} (h : DsM τ (jdF g n) best) (hg : g n = some x) (h8 : (ω.1 110 68).toInt = (τ.1 110 68).toInt + 1) (h6 : (ω.1 110 66).toInt = (n : Int)) (h5 : (ω.1 110 65).toInt = x.1) (h7 : (ω.1 110 67).toInt = x.2.2) (e2 : b2 = -x.2.1) (hb : (τ.1 110 66).toInt = -4 ∨ -x.2.1 < best) : DsM ω (jdF g (n + 1)) b2 := by
  show DsM ω (jd1 (jdF g n) n (g n)) b2
  rw [hg]
  show (ω.1 110 68).toInt = (((jdF g n).1 + 1 : Nat) : Int) ∧ DmO ω (jdB n x (jdF g n).2) b2
  refine ⟨by have q := h.1; rw [h8]; omega, ?_⟩
  have q2 := h.2
  unfold DmO at q2
  revert q2
  cases (jdF g n).2 with
  | none => intro q2; exact ⟨h6, h5, h7, e2⟩
  | some y =>
    intro q2
    have hz := q2.2.2.2
    have hy := q2.1
    have : jdB n x (some y) = some (n, x.2.1, x.1, x.2.2) := by
      show (if y.2.1 < x.2.1 then some (n, x.2.1, x.1, x.2.2) else some y) = _
      rw [if_pos (by omega)]
    rw [this]
    exact ⟨h6, h5, h7, e2⟩
/-- folds of rules that weigh the same but for a shift -/
noncomputable def shB (c : Int) (s : Option (Nat × Int × Int × Int)) : Option (Nat × Int × Int × Int) := match s with
  | none => none
  | some y => some (y.1, y.2.1 + c, y.2.2.1, y.2.2.2)
noncomputable def shG (c : Int) (s : Option (Int × Int × Int)) : Option (Int × Int × Int) := match s with
  | none => none
  | some y => some (y.1, y.2.1 + c, y.2.2)
theorem jd_sh {g g' : Nat → Option (Int × Int × Int)} {c : Int} : ∀ {n : Nat}, (∀ r, r < n → g' r = shG c (g r)) → jdF g' n = ((jdF g n).1, shB c (jdF g n).2)
  | 0, _ => rfl
  | n + 1, h => by
    have ih := jd_sh (g := g) (g' := g') (c := c) (n := n) (fun r hr => h r (by omega))
    show jd1 (jdF g' n) n (g' n) = ((jd1 (jdF g n) n (g n)).1, shB c (jd1 (jdF g n) n (g n)).2)
    rw [ih, h n (by omega)]
    cases g n with
    | none => rfl
    | some x =>
      show ((jdF g n).1 + 1, jdB n (x.1, x.2.1 + c, x.2.2) (shB c (jdF g n).2)) = ((jdF g n).1 + 1, shB c (jdB n x (jdF g n).2))
      congr 1
      cases (jdF g n).2 with
      | none => rfl
      | some y =>
        show (if y.2.1 + c < x.2.1 + c then some (n, x.2.1 + c, x.1, x.2.2) else some (y.1, y.2.1 + c, y.2.2.1, y.2.2.2)) = shB c (if y.2.1 < x.2.1 then some (n, x.2.1, x.1, x.2.2) else some y)
        by_cases q : y.2.1 < x.2.1
        · rw [if_pos q, if_pos (by omega)]; rfl
        · rw [if_neg q, if_neg (by omega)]; rfl
theorem sy_cg {σ τ ρ : zS} (hF : FrB σ τ) {r j un an : Nat} {w u : Int} {x : EntJ} {v : Int} (h : syM τ ρ r j (FtN τ w u un an r) x v) : syM σ ρ r j (FtN σ w u un an r) x v := by
  rw [fm_cg hF] at h
  unfold syM at h ⊢
  rw [rm_cg (k := 132) hF (by decide)] at h
  exact h
theorem rj_at {x y : Int32} {p n : Nat} (hx : x.toInt = (p : Int)) (hp : p < 8) (hy : y.toInt = (n : Int)) (hn : n < 30) : (30 * x + y).toInt = ((30 * p + n : Nat) : Int) := by
  have e30 : (30 : Int32).toInt = 30 := by decide
  have e1 : (30 * x).toInt = 30 * (p : Int) := by rw [Int32.toInt_mul, e30, hx, Int.bmod_eq_of_le (by omega) (by omega)]
  rw [i32_add (by omega), e1, hy]; omega
/-- the state where the judge's loop begins -/
noncomputable def stM (σ : zS) : zS := zI (zI (zI (zI σ 110 65 0) 110 66 (-4)) 110 67 0) 110 68 0
theorem stM_g {σ ρ : zS} (h : stM σ = ρ) (q : (ρ.1 110 26).toInt ≠ 0) : (σ.1 110 26).toInt ≠ 0 := by
  subst h
  unfold stM at q
  rw [yI_ne (by decide), yI_ne (by decide), yI_ne (by decide), yI_ne (by decide)] at q
  exact q
theorem dm_start {σ ρ : zS} {g : Nat → Option (Int × Int × Int)} (h : stM σ = ρ) : DsM ρ (jdF g 0) (0 : Int32).toInt := by
  subst h
  show ((stM σ).1 110 68).toInt = ((0 : Nat) : Int) ∧ ((stM σ).1 110 66).toInt = -4 ∧ ((stM σ).1 110 65).toInt = 0 ∧ ((stM σ).1 110 67).toInt = 0 ∧ (0 : Int32).toInt = 0
  unfold stM
  refine ⟨?_, ?_, ?_, ?_, by decide⟩
  · rw [yI_at]; decide
  · rw [yI_ne (by decide), yI_ne (by decide), yI_at]; decide
  · rw [yI_ne (by decide), yI_ne (by decide), yI_ne (by decide), yI_at]; decide
  · rw [yI_ne (by decide), yI_at]; decide
theorem fxe_13_704 : FxE "RightsHouseModel" 704 11 66 := fx_e (m := 284) (t := 0) rfl (by decide) (by decide +kernel)
theorem fxe_13_710 : FxE "RightsHouseModel" 710 11 68 := fx_e (m := 284) (t := 0) rfl (by decide) (by decide +kernel)
theorem fxe_13_73 : FxE "RightsHouseModel" 73 11 33 := fx_e (m := 284) (t := 3) rfl (by decide) (by decide +kernel)
theorem fxe_13_76 : FxE "RightsHouseModel" 76 11 34 := fx_e (m := 284) (t := 3) rfl (by decide) (by decide +kernel)
theorem fxi_13_701 : FxI "RightsHouseModel" 701 11 65 := fx_i (m := 284) rfl (by decide) (by decide +kernel)
theorem fxi_13_704 : FxI "RightsHouseModel" 704 11 66 := fx_i (m := 284) rfl (by decide) (by decide +kernel)
theorem fxi_13_707 : FxI "RightsHouseModel" 707 11 67 := fx_i (m := 284) rfl (by decide) (by decide +kernel)
theorem fxi_13_710 : FxI "RightsHouseModel" 710 11 68 := fx_i (m := 284) rfl (by decide) (by decide +kernel)
theorem kaa_130 : KaA 130 100 8 := ka_a (by decide +kernel)
theorem kaa_131 : KaA 131 100 8 := ka_a (by decide +kernel)
theorem kfa_110_33 : KfA 110 33 11 2 130 := kf_a (by decide) (by decide +kernel)
theorem kfa_110_34 : KfA 110 34 11 2 131 := kf_a (by decide) (by decide +kernel)
theorem kfa_110_65 : KfA 110 65 11 0 0 := kf_a (by decide) (by decide +kernel)
theorem kfa_110_66 : KfA 110 66 11 0 0 := kf_a (by decide) (by decide +kernel)
theorem kfa_110_67 : KfA 110 67 11 0 0 := kf_a (by decide) (by decide +kernel)
theorem kfa_110_68 : KfA 110 68 11 0 0 := kf_a (by decide) (by decide +kernel)
theorem run_M_judge_l {E : xV} {σ : zS} {K : zKt} {po who act th t : Int32} {p N un an : Nat} {rk : Nat → Nat} {g : Nat → Option (Int × Int × Int)} {x : Nat → EntJ} (hpo : po.toInt = (p : Int)) (hp8 : p < 8) (hun : th.toInt = (un : Int)) (hu : un < 40) (hac : act.toInt = (an : Int)) (han : an < 6) (hg : (σ.1 110 26).toInt ≠ 0) (htr : TrM σ rk) (hc : ∀ f : Nat, f < 480 → 0 ≤ (σ.1 122 f).toInt ∧ (σ.1 122 f).toInt ≤ 20) (hwho : 0 ≤ who.toInt ∧ who.toInt ≤ 19) (hnow : 0 ≤ (σ.1 110 0).toInt ∧ (σ.1 110 0).toInt ≤ 1000000000) (htm : 0 ≤ t.toInt ∧ t.toInt ≤ 1000000000) (hcn : (σ.1 131 p).toInt = (N : Int)) (hN : N ≤ 30) (hA : ∀ r, r < N → RaM σ (σ.1 130 p).toInt who.toInt th.toInt t.toInt un an (30 * p + r) (x r) (g r)) : ∀ (j : Nat) {τ : zS} {i bst : Int32} {n : Nat}, i.toInt = (n : Int) → n + j = N → FrB σ τ → DsM τ (jdF g n) bst.toInt → (∀ (τ' : zS) (bst' : Int32), FrB σ τ' → DsM τ' (jdF g N) bst'.toInt → K none τ') → Wz E Y_M_judge 31 [(7, .int i), (6, .int bst), (0, .ref 110), (1, .int po), (2, .int who), (3, .int act), (4, .int th), (5, .int t)] [] τ K
  | 0, τ, i, bst, n, hi, hj, hF, hD, k => by
    refine z_iload_n (f := 1) (i := 1) (q := 3) (pc' := 32) ⟨by decide +kernel, rfl⟩ rfl rfl ?_
    refine z_bipush (i := (-4)) (v := (-4)) (pc' := 34) ⟨by decide +kernel, rfl⟩ (by decide) ?_
    refine z_icmp_eq (off := 127) (tgt := 161) (pc' := 37) ⟨by decide +kernel, by decide, rfl⟩ (fun h1 => ?_) (fun h1 => ?_)
    · refine z_vret rfl (by decide +kernel) ?_
      have z0L : (0 : Int64).toInt = 0 := by decide
      have z__4_ : ((-4) : Int32).toInt = (-4) := by decide
      have gh1 := j_eq_t h1
      exfalso
      omega
    · refine z_iload (i := 7) (q := 0) (pc' := 39) ⟨by decide +kernel, rfl⟩ rfl ?_
      refine z_aload_n (f := 0) (i := 0) (q := 2) (pc' := 40) ⟨by decide +kernel, rfl⟩ rfl rfl ?_
      refine w_getr (k := 110) (j := 34) (idx := 76) (pc' := 43) fxe_13_76 kfa_110_34 ⟨by decide +kernel, rfl⟩ ?_
      refine z_iload_n (f := 1) (i := 1) (q := 3) (pc' := 44) ⟨by decide +kernel, rfl⟩ rfl rfl ?_
      refine w_iald (k := 131) (n := p) (pc' := 45) kaa_131 (hpo) (hp8) ⟨by decide +kernel, rfl⟩ ?_
      refine z_icmp_ge (off := 116) (tgt := 161) (pc' := 48) ⟨by decide +kernel, by decide, rfl⟩ (fun h2 => ?_) (fun h2 => ?_)
      · refine z_vret rfl (by decide +kernel) ?_
        have z0L : (0 : Int64).toInt = 0 := by decide
        have z__4_ : ((-4) : Int32).toInt = (-4) := by decide
        have gh1 := j_eq_f h1
        have gh2 := j_ge_t h2
        have ecn : (τ.1 131 p).toInt = (N : Int) := by rw [hF.e (k := 131) (by decide)]; exact hcn
        have e : n = N := by omega
        subst e
        exact k _ _ hF hD
      · have z0L : (0 : Int64).toInt = 0 := by decide
        have z__4_ : ((-4) : Int32).toInt = (-4) := by decide
        have gh1 := j_eq_f h1
        have gh2 := j_ge_f h2
        have ecn : (τ.1 131 p).toInt = (N : Int) := by rw [hF.e (k := 131) (by decide)]; exact hcn
        exfalso
        omega
  | j + 1, τ, i, bst, n, hi, hj, hF, hD, k => by
    have ih := @run_M_judge_l E σ K po who act th t p N un an rk g x hpo hp8 hun hu hac han hg htr hc hwho hnow htm hcn hN hA j
    refine z_iload_n (f := 1) (i := 1) (q := 3) (pc' := 32) ⟨by decide +kernel, rfl⟩ rfl rfl ?_
    refine z_bipush (i := (-4)) (v := (-4)) (pc' := 34) ⟨by decide +kernel, rfl⟩ (by decide) ?_
    refine z_icmp_eq (off := 127) (tgt := 161) (pc' := 37) ⟨by decide +kernel, by decide, rfl⟩ (fun h1 => ?_) (fun h1 => ?_)
    · refine z_vret rfl (by decide +kernel) ?_
      have z0L : (0 : Int64).toInt = 0 := by decide
      have z__4_ : ((-4) : Int32).toInt = (-4) := by decide
      have gh1 := j_eq_t h1
      exfalso
      omega
    · refine z_iload (i := 7) (q := 0) (pc' := 39) ⟨by decide +kernel, rfl⟩ rfl ?_
      refine z_aload_n (f := 0) (i := 0) (q := 2) (pc' := 40) ⟨by decide +kernel, rfl⟩ rfl rfl ?_
      refine w_getr (k := 110) (j := 34) (idx := 76) (pc' := 43) fxe_13_76 kfa_110_34 ⟨by decide +kernel, rfl⟩ ?_
      refine z_iload_n (f := 1) (i := 1) (q := 3) (pc' := 44) ⟨by decide +kernel, rfl⟩ rfl rfl ?_
      refine w_iald (k := 131) (n := p) (pc' := 45) kaa_131 (hpo) (hp8) ⟨by decide +kernel, rfl⟩ ?_
      refine z_icmp_ge (off := 116) (tgt := 161) (pc' := 48) ⟨by decide +kernel, by decide, rfl⟩ (fun h2 => ?_) (fun h2 => ?_)
      · refine z_vret rfl (by decide +kernel) ?_
        have z0L : (0 : Int64).toInt = 0 := by decide
        have z__4_ : ((-4) : Int32).toInt = (-4) := by decide
        have gh1 := j_eq_f h1
        have gh2 := j_ge_t h2
        have ecn : (τ.1 131 p).toInt = (N : Int) := by rw [hF.e (k := 131) (by decide)]; exact hcn
        have e : n = N := by omega
        subst e
        exact k _ _ hF hD
      · have ecn : (τ.1 131 p).toInt = (N : Int) := by rw [hF.e (k := 131) (by decide)]; exact hcn
        have hnN : n < N := by have q := j_ge_f h2; omega
        obtain ⟨qb, f0, jn, ⟨qf, qt, qj, qc, qX⟩, qx, qg⟩ := hA n hnN
        refine z_bipush (i := 30) (v := 30) (pc' := 50) ⟨by decide +kernel, rfl⟩ (by decide) ?_
        refine z_iload_n (f := 1) (i := 1) (q := 3) (pc' := 51) ⟨by decide +kernel, rfl⟩ rfl rfl ?_
        refine z_imul (pc' := 52) ⟨by decide +kernel, rfl⟩ ?_
        refine z_iload (i := 7) (q := 0) (pc' := 54) ⟨by decide +kernel, rfl⟩ rfl ?_
        refine z_iadd (pc' := 55) ⟨by decide +kernel, rfl⟩ ?_
        refine z_istore (i := 8) (pc' := 57) ⟨by decide +kernel, rfl⟩ (by decide) rfl ?_
        show Wz E Y_M_judge 57 [(8, .int ((30 * po) + i)), (7, .int i), (6, .int bst), (0, .ref 110), (1, .int po), (2, .int who), (3, .int act), (4, .int th), (5, .int t)] [] τ K
        refine z_aload_n (f := 0) (i := 0) (q := 3) (pc' := 58) ⟨by decide +kernel, rfl⟩ rfl rfl ?_
        refine z_iload (i := 8) (q := 0) (pc' := 60) ⟨by decide +kernel, rfl⟩ rfl ?_
        refine z_iload_n (f := 2) (i := 2) (q := 5) (pc' := 61) ⟨by decide +kernel, rfl⟩ rfl rfl ?_
        refine z_iload_n (f := 3) (i := 3) (q := 6) (pc' := 62) ⟨by decide +kernel, rfl⟩ rfl rfl ?_
        refine z_iload (i := 4) (q := 7) (pc' := 64) ⟨by decide +kernel, rfl⟩ rfl ?_
        refine z_iload (i := 5) (q := 8) (pc' := 66) ⟨by decide +kernel, rfl⟩ rfl ?_
        refine w_invV (Z := Y_M_says) (idx := 713) (kb := 110) (As := [.int ((30 * po) + i), .int who, .int act, .int th, .int t]) (rest := []) (pc' := 69) cl_13_713 rfl ⟨rfl, rfl⟩ kfa_110_0 rfl ⟨⟨by decide, by decide⟩, rfl, rfl⟩ ⟨by decide +kernel, rfl⟩ rfl rfl (Nat.le_of_ble_eq_true rfl) rfl rfl ?_
        refine cz_M_says (r := 30 * p + n) (u := un) (an := an) (f0 := f0) (j := jn) (rk := rk) (x := x n) (rj_at hpo hp8 hi (by omega)) (by omega) hun hu hac han (by rw [hF.f (j := 26) (by decide)]; exact hg) (by rw [tm_cg hF]; exact htr) (by rw [rm_cg (k := 133) hF (by decide), rm_cg (k := 134) hF (by decide)]; exact qb.2.2.1) (by rw [rm_cg (k := 135) hF (by decide)]; exact qb.2.2.2.1) (by rw [hF.e (k := 139) (by decide)]; exact qf) (by rw [hF.e (k := 140) (by decide)]; exact qt) qj (by rw [ck_cg hF]; exact qc) (by rw [hF.e (k := 122) (by decide)]; exact hc) hwho (by rw [hF.f (j := 0) (by decide)]; exact hnow) htm (by show FtN τ who.toInt th.toInt un an (30 * p + n) → _; rw [fm_cg hF, em_cg hF, cl_cg hF]; exact qX) (fun v3 σ3 hv3a hv3b => ?_)
        show Wz E Y_M_judge 69 [(8, .int ((30 * po) + i)), (7, .int i), (6, .int bst), (0, .ref 110), (1, .int po), (2, .int who), (3, .int act), (4, .int th), (5, .int t)] [.int v3] σ3 K
        refine z_istore (i := 9) (pc' := 71) ⟨by decide +kernel, rfl⟩ (by decide) rfl ?_
        show Wz E Y_M_judge 71 [(9, .int v3), (8, .int ((30 * po) + i)), (7, .int i), (6, .int bst), (0, .ref 110), (1, .int po), (2, .int who), (3, .int act), (4, .int th), (5, .int t)] [] σ3 K
        refine z_iload (i := 9) (q := 0) (pc' := 73) ⟨by decide +kernel, rfl⟩ rfl ?_
        refine z_if_lt (off := 82) (tgt := 155) (pc' := 76) ⟨by decide +kernel, by decide, rfl⟩ (fun h4 => ?_) (fun h4 => ?_)
        · refine z_iinc (i := 7) (z := 1) (q := 2) (pc' := 158) ⟨by decide +kernel, rfl⟩ rfl rfl (by decide) rfl ?_
          show Wz E Y_M_judge 158 [(7, .int (i + Int32.ofInt 1)), (9, .int v3), (8, .int ((30 * po) + i)), (6, .int bst), (0, .ref 110), (1, .int po), (2, .int who), (3, .int act), (4, .int th), (5, .int t)] [] σ3 K
          refine z_goto (off := (-127)) (tgt := 31) (pc' := 161) ⟨by decide +kernel, by decide, rfl⟩ ?_
          have z0L : (0 : Int64).toInt = 0 := by decide
          have z__4_ : ((-4) : Int32).toInt = (-4) := by decide
          have z0 : (0 : Int32).toInt = 0 := by decide
          have gh1 := j_eq_f h1
          have gh2 := j_ge_f h2
          have gh4 := j_lt_t (y := 0) h4
          refine z_sub [0, 3, 4, 5, 6, 7, 8, 9] rfl ?_
          have e1 : (Int32.ofInt 1).toInt = 1 := by decide
          have hsy := sy_cg hF hv3b
          exact ih (n := n + 1) (by rw [i32_add (by rw [e1]; omega), e1]; omega) (by omega) (hF.of hv3a) (dq_none hD hv3a (rm_no hsy (by omega) qg)) k
        · have hsy := sy_cg hF hv3b
          have hv0 : 0 ≤ (v3 : Int32).toInt := by have q := j_lt_f (y := 0) h4; have z0 : (0 : Int32).toInt = 0 := (by decide); omega
          have hgn := rm_yes hsy hv0 qb.1 qg
          have hF2 := hF.of hv3a
          refine z_aload_n (f := 0) (i := 0) (q := 4) (pc' := 77) ⟨by decide +kernel, rfl⟩ rfl rfl ?_
          refine z_dupr (pc' := 78) ⟨by decide +kernel, rfl⟩ ?_
          refine w_geti (k := 110) (j := 68) (idx := 710) (pc' := 81) fxe_13_710 kfa_110_68 ⟨by decide +kernel, rfl⟩ ?_
          refine z_iconst (i := 1) (v := 1) (pc' := 82) ⟨by decide +kernel, rfl⟩ (by decide) ?_
          refine z_iadd (pc' := 83) ⟨by decide +kernel, rfl⟩ ?_
          refine w_puti (k := 110) (j := 68) (idx := 710) (pc' := 86) fxi_13_710 kfa_110_68 ⟨by decide +kernel, rfl⟩ ?_
          generalize hs5 : zI σ3 110 68 ((σ3.1 110 68) + 1) = σ5
          have hF3 := hF2.w (by decide) hs5
          refine z_aload_n (f := 0) (i := 0) (q := 4) (pc' := 87) ⟨by decide +kernel, rfl⟩ rfl rfl ?_
          refine z_iload (i := 8) (q := 1) (pc' := 89) ⟨by decide +kernel, rfl⟩ rfl ?_
          refine z_iload (i := 9) (q := 0) (pc' := 91) ⟨by decide +kernel, rfl⟩ rfl ?_
          refine z_aload_n (f := 0) (i := 0) (q := 4) (pc' := 92) ⟨by decide +kernel, rfl⟩ rfl rfl ?_
          refine w_getr (k := 110) (j := 33) (idx := 73) (pc' := 95) fxe_13_73 kfa_110_33 ⟨by decide +kernel, rfl⟩ ?_
          refine z_iload_n (f := 1) (i := 1) (q := 5) (pc' := 96) ⟨by decide +kernel, rfl⟩ rfl rfl ?_
          refine w_iald (k := 130) (n := p) (pc' := 97) kaa_130 (hpo) (hp8) ⟨by decide +kernel, rfl⟩ ?_
          refine w_invV (Z := Y_M_placeOf) (idx := 717) (kb := 110) (As := [.int ((30 * po) + i), .int v3, .int (σ5.1 130 p)]) (rest := []) (pc' := 100) cl_13_717 rfl ⟨rfl, rfl⟩ kfa_110_0 rfl ⟨⟨by decide, by decide⟩, rfl, rfl⟩ ⟨by decide +kernel, rfl⟩ rfl rfl (Nat.le_of_ble_eq_true rfl) rfl rfl ?_
          refine cz_M_placeOf (r := 30 * p + n) (rk := rk) (by rw [tm_cg hF3]; exact htr) (rj_at hpo hp8 hi (by omega)) (by omega) (by rw [rm_cg (k := 133) hF3 (by decide)]; exact qb.2.1) (by rw [rm_cg (k := 136) hF3 (by decide), rm_cg (k := 137) hF3 (by decide)]; exact qb.2.2.2.2) (fun v6 hv6 => ?_)
          show Wz E Y_M_judge 100 [(9, .int v3), (8, .int ((30 * po) + i)), (7, .int i), (6, .int bst), (0, .ref 110), (1, .int po), (2, .int who), (3, .int act), (4, .int th), (5, .int t)] [.int v6] σ5 K
          refine z_istore (i := 10) (pc' := 102) ⟨by decide +kernel, rfl⟩ (by decide) rfl ?_
          show Wz E Y_M_judge 102 [(10, .int v6), (9, .int v3), (8, .int ((30 * po) + i)), (7, .int i), (6, .int bst), (0, .ref 110), (1, .int po), (2, .int who), (3, .int act), (4, .int th), (5, .int t)] [] σ5 K
          refine z_aload_n (f := 0) (i := 0) (q := 5) (pc' := 103) ⟨by decide +kernel, rfl⟩ rfl rfl ?_
          refine w_geti (k := 110) (j := 66) (idx := 704) (pc' := 106) fxe_13_704 kfa_110_66 ⟨by decide +kernel, rfl⟩ ?_
          refine z_bipush (i := (-4)) (v := (-4)) (pc' := 108) ⟨by decide +kernel, rfl⟩ (by decide) ?_
          refine z_icmp_eq (off := 10) (tgt := 118) (pc' := 111) ⟨by decide +kernel, by decide, rfl⟩ (fun h7 => ?_) (fun h7 => ?_)
          · refine z_iload (i := 10) (q := 0) (pc' := 120) ⟨by decide +kernel, rfl⟩ rfl ?_
            refine z_istore (i := 6) (pc' := 122) ⟨by decide +kernel, rfl⟩ (by decide) rfl ?_
            show Wz E Y_M_judge 122 [(6, .int v6), (10, .int v6), (9, .int v3), (8, .int ((30 * po) + i)), (7, .int i), (0, .ref 110), (1, .int po), (2, .int who), (3, .int act), (4, .int th), (5, .int t)] [] σ5 K
            refine z_aload_n (f := 0) (i := 0) (q := 5) (pc' := 123) ⟨by decide +kernel, rfl⟩ rfl rfl ?_
            refine z_iload (i := 7) (q := 4) (pc' := 125) ⟨by decide +kernel, rfl⟩ rfl ?_
            refine w_puti (k := 110) (j := 66) (idx := 704) (pc' := 128) fxi_13_704 kfa_110_66 ⟨by decide +kernel, rfl⟩ ?_
            generalize hs8 : zI σ5 110 66 i = σ8
            refine z_aload_n (f := 0) (i := 0) (q := 5) (pc' := 129) ⟨by decide +kernel, rfl⟩ rfl rfl ?_
            refine z_iload (i := 9) (q := 2) (pc' := 131) ⟨by decide +kernel, rfl⟩ rfl ?_
            refine w_puti (k := 110) (j := 65) (idx := 701) (pc' := 134) fxi_13_701 kfa_110_65 ⟨by decide +kernel, rfl⟩ ?_
            generalize hs9 : zI σ8 110 65 v3 = σ9
            refine z_aload_n (f := 0) (i := 0) (q := 5) (pc' := 135) ⟨by decide +kernel, rfl⟩ rfl rfl ?_
            refine z_iload (i := 9) (q := 2) (pc' := 137) ⟨by decide +kernel, rfl⟩ rfl ?_
            refine z_iconst (i := 3) (v := 3) (pc' := 138) ⟨by decide +kernel, rfl⟩ (by decide) ?_
            refine z_icmp_ne (off := 13) (tgt := 151) (pc' := 141) ⟨by decide +kernel, by decide, rfl⟩ (fun h10 => ?_) (fun h10 => ?_)
            · refine z_iconst (i := 0) (v := 0) (pc' := 152) ⟨by decide +kernel, rfl⟩ (by decide) ?_
              refine w_puti (k := 110) (j := 67) (idx := 707) (pc' := 155) fxi_13_707 kfa_110_67 ⟨by decide +kernel, rfl⟩ ?_
              generalize hs11 : zI σ9 110 67 0 = σ11
              refine z_iinc (i := 7) (z := 1) (q := 4) (pc' := 158) ⟨by decide +kernel, rfl⟩ rfl rfl (by decide) rfl ?_
              show Wz E Y_M_judge 158 [(7, .int (i + Int32.ofInt 1)), (6, .int v6), (10, .int v6), (9, .int v3), (8, .int ((30 * po) + i)), (0, .ref 110), (1, .int po), (2, .int who), (3, .int act), (4, .int th), (5, .int t)] [] σ11 K
              refine z_goto (off := (-127)) (tgt := 31) (pc' := 161) ⟨by decide +kernel, by decide, rfl⟩ ?_
              have z0L : (0 : Int64).toInt = 0 := by decide
              have z__4_ : ((-4) : Int32).toInt = (-4) := by decide
              have z0 : (0 : Int32).toInt = 0 := by decide
              have z3 : (3 : Int32).toInt = 3 := by decide
              have gh1 := j_eq_f h1
              have gh2 := j_ge_f h2
              have gh4 := j_lt_f (y := 0) h4
              have gh7 := j_eq_t h7
              have gh10 := j_ne_t h10
              refine z_sub [0, 1, 5, 6, 7, 8, 9, 10] rfl ?_
              have e1 : (Int32.ofInt 1).toInt = 1 := by decide
              have q8 : (σ3.1 110 68).toInt = (((jdF g n).1 : Nat) : Int) := by rw [hv3a.1 110 68 (by decide) (by decide)]; exact hD.1
              have w8 : (σ5.1 110 68).toInt = (τ.1 110 68).toInt + 1 := by rw [← hs5, yI_at, i32_le q8 (by have := jd_le (g := g) n; omega), hD.1]
              have w5 : σ5.1 110 65 = τ.1 110 65 := by rw [← hs5, yI_ne (by decide)]; exact hv3a.1 110 65 (by decide) (by decide)
              have w6 : σ5.1 110 66 = τ.1 110 66 := by rw [← hs5, yI_ne (by decide)]; exact hv3a.1 110 66 (by decide) (by decide)
              have w7 : σ5.1 110 67 = τ.1 110 67 := by rw [← hs5, yI_ne (by decide)]; exact hv3a.1 110 67 (by decide) (by decide)
              have ew : (v6 : Int32).toInt = plMq σ (σ.1 130 p).toInt (30 * p + n) (v3 : Int32).toInt := by rw [hv6, pm_cg hF3, hF3.e (k := 130) (by decide)]
              have w6i := congrArg Int32.toInt w6
              have hF4 := ((hF3.w (by decide) hs8).w (by decide) hs9).w (by decide) hs11
              have t8 : (σ11.1 110 68).toInt = (τ.1 110 68).toInt + 1 := by rw [← hs11, yI_ne (by decide), ← hs9, yI_ne (by decide), ← hs8, yI_ne (by decide)]; exact w8
              have t6 : (σ11.1 110 66).toInt = (n : Int) := by rw [← hs11, yI_ne (by decide), ← hs9, yI_ne (by decide), ← hs8, yI_at]; exact hi
              have t5 : (σ11.1 110 65).toInt = (v3 : Int32).toInt := by rw [← hs11, yI_ne (by decide), ← hs9, yI_at]
              have t7 : (σ11.1 110 67).toInt = if (v3 : Int32).toInt = 3 then (x n).2 else 0 := by rw [← hs11, yI_at, if_neg (by omega)]; decide
              have dt := dq_take (b2 := (v6 : Int32).toInt) hD hgn.1 t8 t6 t5 t7 (by show _ = - -plMq σ (σ.1 130 p).toInt (30 * p + n) (v3 : Int32).toInt; omega) (Or.inl (by omega))
              exact ih (n := n + 1) (by rw [i32_add (by rw [e1]; omega), e1]; omega) (by omega) (hF4) (dt) k
            · refine z_aload_n (f := 0) (i := 0) (q := 5) (pc' := 142) ⟨by decide +kernel, rfl⟩ rfl rfl ?_
              refine w_getr (k := 110) (j := 63) (idx := 139) (pc' := 145) fxe_13_139 kfa_110_63 ⟨by decide +kernel, rfl⟩ ?_
              refine z_iconst (i := 0) (v := 0) (pc' := 146) ⟨by decide +kernel, rfl⟩ (by decide) ?_
              refine w_lald (k := 152) (n := 0) (pc' := 147) kaa_152 (by decide) (by decide) ⟨by decide +kernel, rfl⟩ ?_
              refine z_l2i (pc' := 148) ⟨by decide +kernel, rfl⟩ rfl ?_
              refine z_goto (off := 4) (tgt := 152) (pc' := 151) ⟨by decide +kernel, by decide, rfl⟩ ?_
              refine w_puti (k := 110) (j := 67) (idx := 707) (pc' := 155) fxi_13_707 kfa_110_67 ⟨by decide +kernel, rfl⟩ ?_
              generalize hs12 : zI σ9 110 67 (Int64.toInt32 (σ9.2 152 0)) = σ12
              refine z_iinc (i := 7) (z := 1) (q := 4) (pc' := 158) ⟨by decide +kernel, rfl⟩ rfl rfl (by decide) rfl ?_
              show Wz E Y_M_judge 158 [(7, .int (i + Int32.ofInt 1)), (6, .int v6), (10, .int v6), (9, .int v3), (8, .int ((30 * po) + i)), (0, .ref 110), (1, .int po), (2, .int who), (3, .int act), (4, .int th), (5, .int t)] [] σ12 K
              refine z_goto (off := (-127)) (tgt := 31) (pc' := 161) ⟨by decide +kernel, by decide, rfl⟩ ?_
              have z0L : (0 : Int64).toInt = 0 := by decide
              have z__4_ : ((-4) : Int32).toInt = (-4) := by decide
              have z0 : (0 : Int32).toInt = 0 := by decide
              have z3 : (3 : Int32).toInt = 3 := by decide
              have gh1 := j_eq_f h1
              have gh2 := j_ge_f h2
              have gh4 := j_lt_f (y := 0) h4
              have gh7 := j_eq_t h7
              have gh10 := j_ne_f h10
              refine z_sub [0, 1, 5, 6, 7, 8, 9, 10] rfl ?_
              have e1 : (Int32.ofInt 1).toInt = 1 := by decide
              have q8 : (σ3.1 110 68).toInt = (((jdF g n).1 : Nat) : Int) := by rw [hv3a.1 110 68 (by decide) (by decide)]; exact hD.1
              have w8 : (σ5.1 110 68).toInt = (τ.1 110 68).toInt + 1 := by rw [← hs5, yI_at, i32_le q8 (by have := jd_le (g := g) n; omega), hD.1]
              have w5 : σ5.1 110 65 = τ.1 110 65 := by rw [← hs5, yI_ne (by decide)]; exact hv3a.1 110 65 (by decide) (by decide)
              have w6 : σ5.1 110 66 = τ.1 110 66 := by rw [← hs5, yI_ne (by decide)]; exact hv3a.1 110 66 (by decide) (by decide)
              have w7 : σ5.1 110 67 = τ.1 110 67 := by rw [← hs5, yI_ne (by decide)]; exact hv3a.1 110 67 (by decide) (by decide)
              have ew : (v6 : Int32).toInt = plMq σ (σ.1 130 p).toInt (30 * p + n) (v3 : Int32).toInt := by rw [hv6, pm_cg hF3, hF3.e (k := 130) (by decide)]
              have w6i := congrArg Int32.toInt w6
              have hF4 := ((hF3.w (by decide) hs8).w (by decide) hs9).w (by decide) hs12
              have t8 : (σ12.1 110 68).toInt = (τ.1 110 68).toInt + 1 := by rw [← hs12, yI_ne (by decide), ← hs9, yI_ne (by decide), ← hs8, yI_ne (by decide)]; exact w8
              have t6 : (σ12.1 110 66).toInt = (n : Int) := by rw [← hs12, yI_ne (by decide), ← hs9, yI_ne (by decide), ← hs8, yI_at]; exact hi
              have t5 : (σ12.1 110 65).toInt = (v3 : Int32).toInt := by rw [← hs12, yI_ne (by decide), ← hs9, yI_at]
              have is3 : (v3 : Int32).toInt = 3 := by omega
              have t7 : (σ12.1 110 67).toInt = if (v3 : Int32).toInt = 3 then (x n).2 else 0 := by rw [← hs12, yI_at, if_pos is3, ← hs9, yI_l, ← hs8, yI_l, ← hs5, yI_l]; exact l2i_s (hgn.2.2 is3).2 (qx (hgn.2.2 is3).1)
              have dt := dq_take (b2 := (v6 : Int32).toInt) hD hgn.1 t8 t6 t5 t7 (by show _ = - -plMq σ (σ.1 130 p).toInt (30 * p + n) (v3 : Int32).toInt; omega) (Or.inl (by omega))
              exact ih (n := n + 1) (by rw [i32_add (by rw [e1]; omega), e1]; omega) (by omega) (hF4) (dt) k
          · refine z_iload (i := 10) (q := 0) (pc' := 113) ⟨by decide +kernel, rfl⟩ rfl ?_
            refine z_iload (i := 6) (q := 4) (pc' := 115) ⟨by decide +kernel, rfl⟩ rfl ?_
            refine z_icmp_ge (off := 40) (tgt := 155) (pc' := 118) ⟨by decide +kernel, by decide, rfl⟩ (fun h13 => ?_) (fun h13 => ?_)
            · refine z_iinc (i := 7) (z := 1) (q := 3) (pc' := 158) ⟨by decide +kernel, rfl⟩ rfl rfl (by decide) rfl ?_
              show Wz E Y_M_judge 158 [(7, .int (i + Int32.ofInt 1)), (10, .int v6), (9, .int v3), (8, .int ((30 * po) + i)), (6, .int bst), (0, .ref 110), (1, .int po), (2, .int who), (3, .int act), (4, .int th), (5, .int t)] [] σ5 K
              refine z_goto (off := (-127)) (tgt := 31) (pc' := 161) ⟨by decide +kernel, by decide, rfl⟩ ?_
              have z0L : (0 : Int64).toInt = 0 := by decide
              have z__4_ : ((-4) : Int32).toInt = (-4) := by decide
              have z0 : (0 : Int32).toInt = 0 := by decide
              have gh1 := j_eq_f h1
              have gh2 := j_ge_f h2
              have gh4 := j_lt_f (y := 0) h4
              have gh7 := j_eq_f h7
              have gh13 := j_ge_t h13
              refine z_sub [0, 4, 5, 6, 7, 8, 9, 10] rfl ?_
              have e1 : (Int32.ofInt 1).toInt = 1 := by decide
              have q8 : (σ3.1 110 68).toInt = (((jdF g n).1 : Nat) : Int) := by rw [hv3a.1 110 68 (by decide) (by decide)]; exact hD.1
              have w8 : (σ5.1 110 68).toInt = (τ.1 110 68).toInt + 1 := by rw [← hs5, yI_at, i32_le q8 (by have := jd_le (g := g) n; omega), hD.1]
              have w5 : σ5.1 110 65 = τ.1 110 65 := by rw [← hs5, yI_ne (by decide)]; exact hv3a.1 110 65 (by decide) (by decide)
              have w6 : σ5.1 110 66 = τ.1 110 66 := by rw [← hs5, yI_ne (by decide)]; exact hv3a.1 110 66 (by decide) (by decide)
              have w7 : σ5.1 110 67 = τ.1 110 67 := by rw [← hs5, yI_ne (by decide)]; exact hv3a.1 110 67 (by decide) (by decide)
              have ew : (v6 : Int32).toInt = plMq σ (σ.1 130 p).toInt (30 * p + n) (v3 : Int32).toInt := by rw [hv6, pm_cg hF3, hF3.e (k := 130) (by decide)]
              have w6i := congrArg Int32.toInt w6
              exact ih (n := n + 1) (by rw [i32_add (by rw [e1]; omega), e1]; omega) (by omega) (hF3) (dq_keep hD w5 w6 w7 w8 hgn.1 (by omega) (by show ¬ - -plMq σ (σ.1 130 p).toInt (30 * p + n) (v3 : Int32).toInt < bst.toInt; omega)) k
            · refine z_iload (i := 10) (q := 0) (pc' := 120) ⟨by decide +kernel, rfl⟩ rfl ?_
              refine z_istore (i := 6) (pc' := 122) ⟨by decide +kernel, rfl⟩ (by decide) rfl ?_
              show Wz E Y_M_judge 122 [(6, .int v6), (10, .int v6), (9, .int v3), (8, .int ((30 * po) + i)), (7, .int i), (0, .ref 110), (1, .int po), (2, .int who), (3, .int act), (4, .int th), (5, .int t)] [] σ5 K
              refine z_aload_n (f := 0) (i := 0) (q := 5) (pc' := 123) ⟨by decide +kernel, rfl⟩ rfl rfl ?_
              refine z_iload (i := 7) (q := 4) (pc' := 125) ⟨by decide +kernel, rfl⟩ rfl ?_
              refine w_puti (k := 110) (j := 66) (idx := 704) (pc' := 128) fxi_13_704 kfa_110_66 ⟨by decide +kernel, rfl⟩ ?_
              generalize hs14 : zI σ5 110 66 i = σ14
              refine z_aload_n (f := 0) (i := 0) (q := 5) (pc' := 129) ⟨by decide +kernel, rfl⟩ rfl rfl ?_
              refine z_iload (i := 9) (q := 2) (pc' := 131) ⟨by decide +kernel, rfl⟩ rfl ?_
              refine w_puti (k := 110) (j := 65) (idx := 701) (pc' := 134) fxi_13_701 kfa_110_65 ⟨by decide +kernel, rfl⟩ ?_
              generalize hs15 : zI σ14 110 65 v3 = σ15
              refine z_aload_n (f := 0) (i := 0) (q := 5) (pc' := 135) ⟨by decide +kernel, rfl⟩ rfl rfl ?_
              refine z_iload (i := 9) (q := 2) (pc' := 137) ⟨by decide +kernel, rfl⟩ rfl ?_
              refine z_iconst (i := 3) (v := 3) (pc' := 138) ⟨by decide +kernel, rfl⟩ (by decide) ?_
              refine z_icmp_ne (off := 13) (tgt := 151) (pc' := 141) ⟨by decide +kernel, by decide, rfl⟩ (fun h16 => ?_) (fun h16 => ?_)
              · refine z_iconst (i := 0) (v := 0) (pc' := 152) ⟨by decide +kernel, rfl⟩ (by decide) ?_
                refine w_puti (k := 110) (j := 67) (idx := 707) (pc' := 155) fxi_13_707 kfa_110_67 ⟨by decide +kernel, rfl⟩ ?_
                generalize hs17 : zI σ15 110 67 0 = σ17
                refine z_iinc (i := 7) (z := 1) (q := 4) (pc' := 158) ⟨by decide +kernel, rfl⟩ rfl rfl (by decide) rfl ?_
                show Wz E Y_M_judge 158 [(7, .int (i + Int32.ofInt 1)), (6, .int v6), (10, .int v6), (9, .int v3), (8, .int ((30 * po) + i)), (0, .ref 110), (1, .int po), (2, .int who), (3, .int act), (4, .int th), (5, .int t)] [] σ17 K
                refine z_goto (off := (-127)) (tgt := 31) (pc' := 161) ⟨by decide +kernel, by decide, rfl⟩ ?_
                have z0L : (0 : Int64).toInt = 0 := by decide
                have z__4_ : ((-4) : Int32).toInt = (-4) := by decide
                have z0 : (0 : Int32).toInt = 0 := by decide
                have z3 : (3 : Int32).toInt = 3 := by decide
                have gh1 := j_eq_f h1
                have gh2 := j_ge_f h2
                have gh4 := j_lt_f (y := 0) h4
                have gh7 := j_eq_f h7
                have gh13 := j_ge_f h13
                have gh16 := j_ne_t h16
                refine z_sub [0, 1, 5, 6, 7, 8, 9, 10] rfl ?_
                have e1 : (Int32.ofInt 1).toInt = 1 := by decide
                have q8 : (σ3.1 110 68).toInt = (((jdF g n).1 : Nat) : Int) := by rw [hv3a.1 110 68 (by decide) (by decide)]; exact hD.1
                have w8 : (σ5.1 110 68).toInt = (τ.1 110 68).toInt + 1 := by rw [← hs5, yI_at, i32_le q8 (by have := jd_le (g := g) n; omega), hD.1]
                have w5 : σ5.1 110 65 = τ.1 110 65 := by rw [← hs5, yI_ne (by decide)]; exact hv3a.1 110 65 (by decide) (by decide)
                have w6 : σ5.1 110 66 = τ.1 110 66 := by rw [← hs5, yI_ne (by decide)]; exact hv3a.1 110 66 (by decide) (by decide)
                have w7 : σ5.1 110 67 = τ.1 110 67 := by rw [← hs5, yI_ne (by decide)]; exact hv3a.1 110 67 (by decide) (by decide)
                have ew : (v6 : Int32).toInt = plMq σ (σ.1 130 p).toInt (30 * p + n) (v3 : Int32).toInt := by rw [hv6, pm_cg hF3, hF3.e (k := 130) (by decide)]
                have w6i := congrArg Int32.toInt w6
                have hF4 := ((hF3.w (by decide) hs14).w (by decide) hs15).w (by decide) hs17
                have t8 : (σ17.1 110 68).toInt = (τ.1 110 68).toInt + 1 := by rw [← hs17, yI_ne (by decide), ← hs15, yI_ne (by decide), ← hs14, yI_ne (by decide)]; exact w8
                have t6 : (σ17.1 110 66).toInt = (n : Int) := by rw [← hs17, yI_ne (by decide), ← hs15, yI_ne (by decide), ← hs14, yI_at]; exact hi
                have t5 : (σ17.1 110 65).toInt = (v3 : Int32).toInt := by rw [← hs17, yI_ne (by decide), ← hs15, yI_at]
                have t7 : (σ17.1 110 67).toInt = if (v3 : Int32).toInt = 3 then (x n).2 else 0 := by rw [← hs17, yI_at, if_neg (by omega)]; decide
                have dt := dq_take (b2 := (v6 : Int32).toInt) hD hgn.1 t8 t6 t5 t7 (by show _ = - -plMq σ (σ.1 130 p).toInt (30 * p + n) (v3 : Int32).toInt; omega) (Or.inr (by show - -plMq σ (σ.1 130 p).toInt (30 * p + n) (v3 : Int32).toInt < bst.toInt; omega))
                exact ih (n := n + 1) (by rw [i32_add (by rw [e1]; omega), e1]; omega) (by omega) (hF4) (dt) k
              · refine z_aload_n (f := 0) (i := 0) (q := 5) (pc' := 142) ⟨by decide +kernel, rfl⟩ rfl rfl ?_
                refine w_getr (k := 110) (j := 63) (idx := 139) (pc' := 145) fxe_13_139 kfa_110_63 ⟨by decide +kernel, rfl⟩ ?_
                refine z_iconst (i := 0) (v := 0) (pc' := 146) ⟨by decide +kernel, rfl⟩ (by decide) ?_
                refine w_lald (k := 152) (n := 0) (pc' := 147) kaa_152 (by decide) (by decide) ⟨by decide +kernel, rfl⟩ ?_
                refine z_l2i (pc' := 148) ⟨by decide +kernel, rfl⟩ rfl ?_
                refine z_goto (off := 4) (tgt := 152) (pc' := 151) ⟨by decide +kernel, by decide, rfl⟩ ?_
                refine w_puti (k := 110) (j := 67) (idx := 707) (pc' := 155) fxi_13_707 kfa_110_67 ⟨by decide +kernel, rfl⟩ ?_
                generalize hs18 : zI σ15 110 67 (Int64.toInt32 (σ15.2 152 0)) = σ18
                refine z_iinc (i := 7) (z := 1) (q := 4) (pc' := 158) ⟨by decide +kernel, rfl⟩ rfl rfl (by decide) rfl ?_
                show Wz E Y_M_judge 158 [(7, .int (i + Int32.ofInt 1)), (6, .int v6), (10, .int v6), (9, .int v3), (8, .int ((30 * po) + i)), (0, .ref 110), (1, .int po), (2, .int who), (3, .int act), (4, .int th), (5, .int t)] [] σ18 K
                refine z_goto (off := (-127)) (tgt := 31) (pc' := 161) ⟨by decide +kernel, by decide, rfl⟩ ?_
                have z0L : (0 : Int64).toInt = 0 := by decide
                have z__4_ : ((-4) : Int32).toInt = (-4) := by decide
                have z0 : (0 : Int32).toInt = 0 := by decide
                have z3 : (3 : Int32).toInt = 3 := by decide
                have gh1 := j_eq_f h1
                have gh2 := j_ge_f h2
                have gh4 := j_lt_f (y := 0) h4
                have gh7 := j_eq_f h7
                have gh13 := j_ge_f h13
                have gh16 := j_ne_f h16
                refine z_sub [0, 1, 5, 6, 7, 8, 9, 10] rfl ?_
                have e1 : (Int32.ofInt 1).toInt = 1 := by decide
                have q8 : (σ3.1 110 68).toInt = (((jdF g n).1 : Nat) : Int) := by rw [hv3a.1 110 68 (by decide) (by decide)]; exact hD.1
                have w8 : (σ5.1 110 68).toInt = (τ.1 110 68).toInt + 1 := by rw [← hs5, yI_at, i32_le q8 (by have := jd_le (g := g) n; omega), hD.1]
                have w5 : σ5.1 110 65 = τ.1 110 65 := by rw [← hs5, yI_ne (by decide)]; exact hv3a.1 110 65 (by decide) (by decide)
                have w6 : σ5.1 110 66 = τ.1 110 66 := by rw [← hs5, yI_ne (by decide)]; exact hv3a.1 110 66 (by decide) (by decide)
                have w7 : σ5.1 110 67 = τ.1 110 67 := by rw [← hs5, yI_ne (by decide)]; exact hv3a.1 110 67 (by decide) (by decide)
                have ew : (v6 : Int32).toInt = plMq σ (σ.1 130 p).toInt (30 * p + n) (v3 : Int32).toInt := by rw [hv6, pm_cg hF3, hF3.e (k := 130) (by decide)]
                have w6i := congrArg Int32.toInt w6
                have hF4 := ((hF3.w (by decide) hs14).w (by decide) hs15).w (by decide) hs18
                have t8 : (σ18.1 110 68).toInt = (τ.1 110 68).toInt + 1 := by rw [← hs18, yI_ne (by decide), ← hs15, yI_ne (by decide), ← hs14, yI_ne (by decide)]; exact w8
                have t6 : (σ18.1 110 66).toInt = (n : Int) := by rw [← hs18, yI_ne (by decide), ← hs15, yI_ne (by decide), ← hs14, yI_at]; exact hi
                have t5 : (σ18.1 110 65).toInt = (v3 : Int32).toInt := by rw [← hs18, yI_ne (by decide), ← hs15, yI_at]
                have is3 : (v3 : Int32).toInt = 3 := by omega
                have t7 : (σ18.1 110 67).toInt = if (v3 : Int32).toInt = 3 then (x n).2 else 0 := by rw [← hs18, yI_at, if_pos is3, ← hs15, yI_l, ← hs14, yI_l, ← hs5, yI_l]; exact l2i_s (hgn.2.2 is3).2 (qx (hgn.2.2 is3).1)
                have dt := dq_take (b2 := (v6 : Int32).toInt) hD hgn.1 t8 t6 t5 t7 (by show _ = - -plMq σ (σ.1 130 p).toInt (30 * p + n) (v3 : Int32).toInt; omega) (Or.inr (by show - -plMq σ (σ.1 130 p).toInt (30 * p + n) (v3 : Int32).toInt < bst.toInt; omega))
                exact ih (n := n + 1) (by rw [i32_add (by rw [e1]; omega), e1]; omega) (by omega) (hF4) (dt) k
theorem run_M_judge {E : xV} {σ : zS} {K : zKt} {po who act th t : Int32} {p N un an : Nat} {rk : Nat → Nat} {g : Nat → Option (Int × Int × Int)} {x : Nat → EntJ}  {ρ : zS} (hρ : stM σ = ρ) (hpo : po.toInt = (p : Int)) (hp8 : p < 8) (hun : th.toInt = (un : Int)) (hu : un < 40) (hac : act.toInt = (an : Int)) (han : an < 6) (hg : (ρ.1 110 26).toInt ≠ 0) (htr : TrM ρ rk) (hc : ∀ f : Nat, f < 480 → 0 ≤ (ρ.1 122 f).toInt ∧ (ρ.1 122 f).toInt ≤ 20) (hwho : 0 ≤ who.toInt ∧ who.toInt ≤ 19) (hnow : 0 ≤ (ρ.1 110 0).toInt ∧ (ρ.1 110 0).toInt ≤ 1000000000) (htm : 0 ≤ t.toInt ∧ t.toInt ≤ 1000000000) (hcn : (ρ.1 131 p).toInt = (N : Int)) (hN : N ≤ 30) (hA : ∀ r, r < N → RaM ρ (ρ.1 130 p).toInt who.toInt th.toInt t.toInt un an (30 * p + r) (x r) (g r)) (k : ∀ (τ' : zS) (bst' : Int32), FrB ρ τ' → DsM τ' (jdF g N) bst'.toInt → K none τ') : Wz E Y_M_judge 0 [(0, .ref 110), (1, .int po), (2, .int who), (3, .int act), (4, .int th), (5, .int t)] [] σ K := by
  have hgs := stM_g hρ hg
  refine z_aload_n (f := 0) (i := 0) (q := 0) (pc' := 1) ⟨by decide +kernel, rfl⟩ rfl rfl ?_
  refine w_invV (Z := Y_M_begins) (idx := 476) (kb := 110) (As := []) (rest := []) (pc' := 4) cl_13_476 rfl ⟨rfl, rfl⟩ kfa_110_0 rfl ⟨⟨by decide, by decide⟩, rfl, rfl⟩ ⟨by decide +kernel, rfl⟩ rfl rfl (Nat.le_of_ble_eq_true rfl) rfl rfl ?_
  refine cz_M_begins hgs ?_
  show Wz E Y_M_judge 4 [(0, .ref 110), (1, .int po), (2, .int who), (3, .int act), (4, .int th), (5, .int t)] [] σ K
  refine z_aload_n (f := 0) (i := 0) (q := 0) (pc' := 5) ⟨by decide +kernel, rfl⟩ rfl rfl ?_
  refine z_iconst (i := 0) (v := 0) (pc' := 6) ⟨by decide +kernel, rfl⟩ (by decide) ?_
  refine w_puti (k := 110) (j := 65) (idx := 701) (pc' := 9) fxi_13_701 kfa_110_65 ⟨by decide +kernel, rfl⟩ ?_
  generalize hs2 : zI σ 110 65 0 = σ2
  refine z_aload_n (f := 0) (i := 0) (q := 0) (pc' := 10) ⟨by decide +kernel, rfl⟩ rfl rfl ?_
  refine z_bipush (i := (-4)) (v := (-4)) (pc' := 12) ⟨by decide +kernel, rfl⟩ (by decide) ?_
  refine w_puti (k := 110) (j := 66) (idx := 704) (pc' := 15) fxi_13_704 kfa_110_66 ⟨by decide +kernel, rfl⟩ ?_
  generalize hs3 : zI σ2 110 66 (-4) = σ3
  refine z_aload_n (f := 0) (i := 0) (q := 0) (pc' := 16) ⟨by decide +kernel, rfl⟩ rfl rfl ?_
  refine z_iconst (i := 0) (v := 0) (pc' := 17) ⟨by decide +kernel, rfl⟩ (by decide) ?_
  refine w_puti (k := 110) (j := 67) (idx := 707) (pc' := 20) fxi_13_707 kfa_110_67 ⟨by decide +kernel, rfl⟩ ?_
  generalize hs4 : zI σ3 110 67 0 = σ4
  refine z_aload_n (f := 0) (i := 0) (q := 0) (pc' := 21) ⟨by decide +kernel, rfl⟩ rfl rfl ?_
  refine z_iconst (i := 0) (v := 0) (pc' := 22) ⟨by decide +kernel, rfl⟩ (by decide) ?_
  refine w_puti (k := 110) (j := 68) (idx := 710) (pc' := 25) fxi_13_710 kfa_110_68 ⟨by decide +kernel, rfl⟩ ?_
  generalize hs5 : zI σ4 110 68 0 = σ5
  refine z_iconst (i := 0) (v := 0) (pc' := 26) ⟨by decide +kernel, rfl⟩ (by decide) ?_
  refine z_istore (i := 6) (pc' := 28) ⟨by decide +kernel, rfl⟩ (by decide) rfl ?_
  show Wz E Y_M_judge 28 [(6, .int 0), (0, .ref 110), (1, .int po), (2, .int who), (3, .int act), (4, .int th), (5, .int t)] [] σ5 K
  refine z_iconst (i := 0) (v := 0) (pc' := 29) ⟨by decide +kernel, rfl⟩ (by decide) ?_
  refine z_istore (i := 7) (pc' := 31) ⟨by decide +kernel, rfl⟩ (by decide) rfl ?_
  show Wz E Y_M_judge 31 [(7, .int 0), (6, .int 0), (0, .ref 110), (1, .int po), (2, .int who), (3, .int act), (4, .int th), (5, .int t)] [] σ5 K
  have z0L : (0 : Int64).toInt = 0 := by decide
  have hr : stM σ = σ5 := by subst hs5; subst hs4; subst hs3; subst hs2; rfl
  have e5 : σ5 = ρ := hr.symm.trans hρ
  rw [e5]
  exact run_M_judge_l hpo hp8 hun hu hac han hg htr hc hwho hnow htm hcn hN hA N (n := 0) (by decide) (by omega) (FrB.refl ρ) (dm_start hρ) k
theorem cz_M_judge {E : xV} {σ : zS} {K : zKt} {po who act th t : Int32} {p N un an : Nat} {rk : Nat → Nat} {g : Nat → Option (Int × Int × Int)} {x : Nat → EntJ}  {ρ : zS} (hρ : stM σ = ρ) (hpo : po.toInt = (p : Int)) (hp8 : p < 8) (hun : th.toInt = (un : Int)) (hu : un < 40) (hac : act.toInt = (an : Int)) (han : an < 6) (hg : (ρ.1 110 26).toInt ≠ 0) (htr : TrM ρ rk) (hc : ∀ f : Nat, f < 480 → 0 ≤ (ρ.1 122 f).toInt ∧ (ρ.1 122 f).toInt ≤ 20) (hwho : 0 ≤ who.toInt ∧ who.toInt ≤ 19) (hnow : 0 ≤ (ρ.1 110 0).toInt ∧ (ρ.1 110 0).toInt ≤ 1000000000) (htm : 0 ≤ t.toInt ∧ t.toInt ≤ 1000000000) (hcn : (ρ.1 131 p).toInt = (N : Int)) (hN : N ≤ 30) (hA : ∀ r, r < N → RaM ρ (ρ.1 130 p).toInt who.toInt th.toInt t.toInt un an (30 * p + r) (x r) (g r)) (k : ∀ (τ' : zS) (bst' : Int32), FrB ρ τ' → DsM τ' (jdF g N) bst'.toInt → K none τ') : Cz E Y_M_judge [.ref 110, .int po, .int who, .int act, .int th, .int t] σ K := z_entry (by decide) (fun a => by rw [sl_len]; exact Nat.le_of_ble_eq_true rfl) rfl (run_M_judge hρ hpo hp8 hun hu hac han hg htr hc hwho hnow htm hcn hN hA k)
theorem run_M_judge_n {E : xV} {σ : zS} {K : zKt} {po who act th t : Int32} {ρ : zS} (hρ : stM σ = ρ) (hpo : po.toInt = -4) (hgs : (σ.1 110 26).toInt ≠ 0) (k : K none ρ) : Wz E Y_M_judge 0 [(0, .ref 110), (1, .int po), (2, .int who), (3, .int act), (4, .int th), (5, .int t)] [] σ K := by
  refine z_aload_n (f := 0) (i := 0) (q := 0) (pc' := 1) ⟨by decide +kernel, rfl⟩ rfl rfl ?_
  refine w_invV (Z := Y_M_begins) (idx := 476) (kb := 110) (As := []) (rest := []) (pc' := 4) cl_13_476 rfl ⟨rfl, rfl⟩ kfa_110_0 rfl ⟨⟨by decide, by decide⟩, rfl, rfl⟩ ⟨by decide +kernel, rfl⟩ rfl rfl (Nat.le_of_ble_eq_true rfl) rfl rfl ?_
  refine cz_M_begins hgs ?_
  show Wz E Y_M_judge 4 [(0, .ref 110), (1, .int po), (2, .int who), (3, .int act), (4, .int th), (5, .int t)] [] σ K
  refine z_aload_n (f := 0) (i := 0) (q := 0) (pc' := 5) ⟨by decide +kernel, rfl⟩ rfl rfl ?_
  refine z_iconst (i := 0) (v := 0) (pc' := 6) ⟨by decide +kernel, rfl⟩ (by decide) ?_
  refine w_puti (k := 110) (j := 65) (idx := 701) (pc' := 9) fxi_13_701 kfa_110_65 ⟨by decide +kernel, rfl⟩ ?_
  generalize hs2 : zI σ 110 65 0 = σ2
  refine z_aload_n (f := 0) (i := 0) (q := 0) (pc' := 10) ⟨by decide +kernel, rfl⟩ rfl rfl ?_
  refine z_bipush (i := (-4)) (v := (-4)) (pc' := 12) ⟨by decide +kernel, rfl⟩ (by decide) ?_
  refine w_puti (k := 110) (j := 66) (idx := 704) (pc' := 15) fxi_13_704 kfa_110_66 ⟨by decide +kernel, rfl⟩ ?_
  generalize hs3 : zI σ2 110 66 (-4) = σ3
  refine z_aload_n (f := 0) (i := 0) (q := 0) (pc' := 16) ⟨by decide +kernel, rfl⟩ rfl rfl ?_
  refine z_iconst (i := 0) (v := 0) (pc' := 17) ⟨by decide +kernel, rfl⟩ (by decide) ?_
  refine w_puti (k := 110) (j := 67) (idx := 707) (pc' := 20) fxi_13_707 kfa_110_67 ⟨by decide +kernel, rfl⟩ ?_
  generalize hs4 : zI σ3 110 67 0 = σ4
  refine z_aload_n (f := 0) (i := 0) (q := 0) (pc' := 21) ⟨by decide +kernel, rfl⟩ rfl rfl ?_
  refine z_iconst (i := 0) (v := 0) (pc' := 22) ⟨by decide +kernel, rfl⟩ (by decide) ?_
  refine w_puti (k := 110) (j := 68) (idx := 710) (pc' := 25) fxi_13_710 kfa_110_68 ⟨by decide +kernel, rfl⟩ ?_
  generalize hs5 : zI σ4 110 68 0 = σ5
  refine z_iconst (i := 0) (v := 0) (pc' := 26) ⟨by decide +kernel, rfl⟩ (by decide) ?_
  refine z_istore (i := 6) (pc' := 28) ⟨by decide +kernel, rfl⟩ (by decide) rfl ?_
  show Wz E Y_M_judge 28 [(6, .int 0), (0, .ref 110), (1, .int po), (2, .int who), (3, .int act), (4, .int th), (5, .int t)] [] σ5 K
  refine z_iconst (i := 0) (v := 0) (pc' := 29) ⟨by decide +kernel, rfl⟩ (by decide) ?_
  refine z_istore (i := 7) (pc' := 31) ⟨by decide +kernel, rfl⟩ (by decide) rfl ?_
  show Wz E Y_M_judge 31 [(7, .int 0), (6, .int 0), (0, .ref 110), (1, .int po), (2, .int who), (3, .int act), (4, .int th), (5, .int t)] [] σ5 K
  refine z_iload_n (f := 1) (i := 1) (q := 3) (pc' := 32) ⟨by decide +kernel, rfl⟩ rfl rfl ?_
  refine z_bipush (i := (-4)) (v := (-4)) (pc' := 34) ⟨by decide +kernel, rfl⟩ (by decide) ?_
  refine z_icmp_eq (off := 127) (tgt := 161) (pc' := 37) ⟨by decide +kernel, by decide, rfl⟩ (fun h6 => ?_) (fun h6 => ?_)
  · refine z_vret rfl (by decide +kernel) ?_
    have z0L : (0 : Int64).toInt = 0 := by decide
    have z__4_ : ((-4) : Int32).toInt = (-4) := by decide
    have gh6 := j_eq_t h6
    have hr : stM σ = σ5 := by subst hs5; subst hs4; subst hs3; subst hs2; rfl
    rw [← hr, hρ]
    exact k
  · have z0L : (0 : Int64).toInt = 0 := by decide
    have z__4_ : ((-4) : Int32).toInt = (-4) := by decide
    have gh6 := j_eq_f h6
    exfalso
    omega
theorem cz_M_judge_n {E : xV} {σ : zS} {K : zKt} {po who act th t : Int32} {ρ : zS} (hρ : stM σ = ρ) (hpo : po.toInt = -4) (hgs : (σ.1 110 26).toInt ≠ 0) (k : K none ρ) : Cz E Y_M_judge [.ref 110, .int po, .int who, .int act, .int th, .int t] σ K := z_entry (by decide) (fun a => by rw [sl_len]; exact Nat.le_of_ble_eq_true rfl) rfl (run_M_judge_n hρ hpo hgs k)

end
end
section
section
/-! ===== both judges say the same of one rule ===== -/
theorem rk_rp {s : Int} (h : 0 ≤ s ∧ s ≤ 3) : rkC s + rpM s = 3 := by
  have : s = 0 ∨ s = 1 ∨ s = 2 ∨ s = 3 := by omega
  rcases this with rfl | rfl | rfl | rfl <;> decide
/-- a rule is the same on both sides -/
noncomputable def SmR (σ : zS) (a r : Nat) : Prop := ruC σ a 0 = rM σ 132 r ∧ ruC σ a 1 = rM σ 133 r ∧ (ruC σ a 1 = 1 ∨ ruC σ a 1 = 3 → ruC σ a 2 = rM σ 134 r) ∧ ruC σ a 3 = rM σ 135 r ∧ ((ruC σ a 4 = 0 ∧ rM σ 136 r = 0) ∨ (ruC σ a 4 = 1 ∧ rM σ 136 r = 2) ∨ (ruC σ a 4 = 2 ∧ rM σ 136 r = 1)) ∧ (ruC σ a 4 ≠ 0 → ruC σ a 5 = rM σ 137 r)
/-- places are the same on both sides -/
noncomputable def SmP (σ : zS) : Prop := (∀ x, x < 40 → σ.1 11 x = σ.1 125 x) ∧ ∀ x, x < 40 → ((σ.1 13 x).toInt = 0 ↔ (σ.1 127 x).toInt = 0)
theorem dp_eq {σ : zS} (h : SmP σ) (hp : PlC σ) : ∀ {n : Nat} {x : Int}, (x = -4 ∨ (0 ≤ x ∧ x ≤ 39)) → dpC σ n x = dpM σ n x
  | 0, _, _ => rfl
  | n + 1, x, hx => by
    show (if x = -4 then 0 else dpC σ n (σ.1 11 x.toNat).toInt + 1) = (if x = -4 then 0 else dpM σ n (σ.1 125 x.toNat).toInt + 1)
    by_cases q : x = -4
    · rw [if_pos q, if_pos q]
    · rw [if_neg q, if_neg q, dp_eq h hp (hp x.toNat (by omega)), h.1 x.toNat (by omega)]
theorem un_eq {σ : zS} (h : SmP σ) (hp : PlC σ) {o : Int} : ∀ {n : Nat} {x : Int}, (x = -4 ∨ (0 ≤ x ∧ x ≤ 39)) → (unC σ n x o ↔ unM σ n x o)
  | 0, _, _ => Iff.rfl
  | n + 1, x, hx => by
    show (x ≠ -4 ∧ (x = o ∨ ((σ.1 13 x.toNat).toInt = 0 ∧ unC σ n (σ.1 11 x.toNat).toInt o))) ↔ (x ≠ -4 ∧ (x = o ∨ ((σ.1 127 x.toNat).toInt = 0 ∧ unM σ n (σ.1 125 x.toNat).toInt o)))
    by_cases q : x = -4
    · exact ⟨fun z => absurd q z.1, fun z => absurd q z.1⟩
    · rw [un_eq h hp (hp x.toNat (by omega)), h.1 x.toNat (by omega), h.2 x.toNat (by omega)]
/-- places are counted down where weights are counted up -/
theorem pw_eq {σ : zS} {a r : Nat} {way sd : Int} (hs : SmR σ a r) (h : SmP σ) (hp : PlC σ) (u5 : ruC σ a 4 ≠ 0 → 0 ≤ ruC σ a 5 ∧ ruC σ a 5 ≤ 39) (hd : 0 ≤ sd ∧ sd ≤ 3) : -plMq σ way r sd = wtC σ way a sd + (if way = 0 then 0 else -403) := by
  have e := rk_rp hd
  unfold plMq gpM wtC
  by_cases h0 : way = 0
  · rw [if_pos h0, if_pos h0, if_pos h0]; omega
  · rw [if_neg h0, if_neg h0, if_neg h0]
    by_cases h2 : way = 2
    · rw [if_pos h2, if_neg (show ¬ way = 3 by omega)]
      rcases hs.2.2.2.2.1 with q | q | q
      · rw [if_pos q.2, if_neg (fun z => z.2 q.1)]; omega
      · have de : dpC σ 40 (σ.1 11 (ruC σ a 5).toNat).toInt = dpM σ 40 (σ.1 125 (rM σ 137 r).toNat).toInt := by
          have := u5 (by omega)
          rw [dp_eq h hp (hp _ (by omega)), h.1 _ (by omega), hs.2.2.2.2.2 (by omega)]
        rw [if_neg (show ¬ rM σ 136 r = 0 by omega), if_neg (show ¬ rM σ 136 r = 1 by omega), if_pos ⟨h2, by omega⟩, de, q.1]; omega
      · have de : dpC σ 40 (σ.1 11 (ruC σ a 5).toNat).toInt = dpM σ 40 (σ.1 125 (rM σ 137 r).toNat).toInt := by
          have := u5 (by omega)
          rw [dp_eq h hp (hp _ (by omega)), h.1 _ (by omega), hs.2.2.2.2.2 (by omega)]
        rw [if_neg (show ¬ rM σ 136 r = 0 by omega), if_pos q.2, if_pos ⟨h2, by omega⟩, de, q.1]; omega
    · rw [if_neg h2]
      by_cases h3 : way = 3
      · rw [if_pos h3, if_pos h3, hs.2.1]; omega
      · rw [if_neg h3, if_neg h3, if_neg (fun z => h2 z.1)]; omega
/-- a rule fits on both sides or on none -/
theorem ft_eq {σ : zS} {a r un an : Nat} {act : Int32} (hs : SmR σ a r) (h : SmP σ) (hp : PlC σ) (hu : (σ.1 27 5).toInt = (un : Int)) (hu2 : un < 40) (ho : σ.1 12 un = σ.1 126 un) (u1 : 0 ≤ ruC σ a 1 ∧ ruC σ a 1 ≤ 3) (hgb : ruC σ a 1 = 1 → (btC (σ.1 27 4) (σ.1 20 (a + 2)) ↔ (σ.1 120 (rM σ 134 r).toNat).toInt ≠ 0)) (hh1 : ruC σ a 3 ≠ 6 → (btC (σ.1 16 act.toInt.toNat) (σ.1 20 (a + 3)) ↔ RcH σ an (rM σ 135 r).toNat)) (hh2 : ruC σ a 3 ≠ 6 → (btC (σ.1 16 (ruC σ a 3).toNat) act ↔ RcH σ (rM σ 135 r).toNat an)) : FtA σ a act ↔ FtN σ (σ.1 27 3).toInt (σ.1 27 5).toInt un an r := by
  obtain ⟨s0, s1, s2, s3, s4, s5⟩ := hs
  have e5 : (σ.1 27 5).toInt.toNat = un := by omega
  have w1 : fwC σ a ↔ fwM σ (σ.1 27 3).toInt un r := by
    unfold fwC fwM
    rw [e5, ho, ← s1]
    constructor
    · rintro (q | q | q | q)
      · exact Or.inr (Or.inr (Or.inl ⟨q.1, by rw [← s2 (Or.inr q.1)]; exact q.2⟩))
      · exact Or.inr (Or.inl q)
      · exact Or.inr (Or.inr (Or.inr ⟨q.1, (hgb q.1).mp q.2⟩))
      · exact Or.inl (by omega)
    · rintro (q | q | q | q)
      · exact Or.inr (Or.inr (Or.inr (by omega)))
      · exact Or.inr (Or.inl q)
      · exact Or.inl ⟨q.1, by rw [s2 (Or.inr q.1)]; exact q.2⟩
      · exact Or.inr (Or.inr (Or.inl ⟨q.1, (hgb q.1).mpr q.2⟩))
  have w2 : faC σ a act ↔ faM σ an r := by
    unfold faC faM
    rw [← s3, ← s0]
    by_cases q6 : ruC σ a 3 = 6
    · exact ⟨fun _ => Or.inl q6, fun _ => Or.inl q6⟩
    · have k1 := hh1 q6
      have k2 := hh2 q6
      rw [← s3] at k1 k2
      rw [k1, k2]
  have w3 : ftC σ a ↔ ftM σ (σ.1 27 5).toInt r := by
    unfold ftC ftM
    have ue := un_eq h hp (o := rM σ 137 r) (n := 40) (x := (σ.1 27 5).toInt) (Or.inr (by omega))
    rcases s4 with q | q | q
    · exact ⟨fun _ => Or.inl q.2, fun _ => Or.inr (Or.inr (by omega))⟩
    · rw [s5 (by omega)]
      constructor
      · rintro (z | z | z)
        · omega
        · exact Or.inr (Or.inr ⟨q.2, ue.mp z.2⟩)
        · omega
      · rintro (z | z | z)
        · omega
        · omega
        · exact Or.inr (Or.inl ⟨q.1, ue.mpr z.2⟩)
    · rw [s5 (by omega)]
      constructor
      · rintro (z | z | z)
        · exact Or.inr (Or.inl ⟨q.2, z.2⟩)
        · omega
        · omega
      · rintro (z | z | z)
        · omega
        · exact Or.inl ⟨q.1, z.2⟩
        · omega
  unfold FtA FtN
  rw [w1, w2, w3]
  exact ⟨fun z => ⟨⟨z.1, z.2.1⟩, z.2.2⟩, fun z => ⟨z.1.1, z.1.2, z.2⟩⟩
/-! ===== what both judges make of one rule is the same but for a shift ===== -/
theorem sv_eq {eff : Int} {j : Nat} {x y : EntJ} (he : 0 ≤ eff ∧ eff ≤ 2) (h0 : j = 0 → y.1 = 4) (h1 : j ≠ 0 → y.1 = x.1 ∧ (x.1 = 3 → y.2 = x.2)) : (spV eff y = -4 ∧ sM eff j x = -1) ∨ (spV eff y = sM eff j x ∧ (0 ≤ sM eff j x ∧ sM eff j x ≤ 3) ∧ (if sM eff j x = 3 then x.2 else 0) = (if y.1 = 3 then y.2 else 0)) := by
  by_cases q0 : j = 0
  · have hy := h0 q0
    have a1 : spV eff y = eff := by unfold spV; rw [if_neg (show ¬ y.1 = 3 by omega), if_pos (Or.inl hy)]
    have a2 : sM eff j x = eff := by unfold sM; rw [if_pos q0]
    rw [a1, a2]
    exact Or.inr ⟨rfl, by omega, by rw [if_neg (show ¬ eff = 3 by omega), if_neg (show ¬ y.1 = 3 by omega)]⟩
  · obtain ⟨e1, e2⟩ := h1 q0
    by_cases q3 : x.1 = 3
    · have a1 : spV eff y = 3 := by unfold spV; rw [if_pos (e1.trans q3)]
      have a2 : sM eff j x = 3 := by unfold sM; rw [if_neg q0, if_pos q3]
      rw [a1, a2]
      exact Or.inr ⟨rfl, by omega, by rw [if_pos rfl, if_pos (e1.trans q3), e2 q3]⟩
    · by_cases q4 : x.1 = 4 ∨ (x.1 = 2 ∧ eff ≠ 1)
      · have a1 : spV eff y = eff := by unfold spV; rw [if_neg (show ¬ y.1 = 3 by omega), if_pos (show y.1 = 4 ∨ (y.1 = 2 ∧ eff ≠ 1) by omega)]
        have a2 : sM eff j x = eff := by unfold sM; rw [if_neg q0, if_neg q3, if_pos q4]
        rw [a1, a2]
        exact Or.inr ⟨rfl, by omega, by rw [if_neg (show ¬ eff = 3 by omega), if_neg (show ¬ y.1 = 3 by omega)]⟩
      · have a1 : spV eff y = -4 := by unfold spV; rw [if_neg (show ¬ y.1 = 3 by omega), if_neg (show ¬ (y.1 = 4 ∨ (y.1 = 2 ∧ eff ≠ 1)) by omega)]
        have a2 : sM eff j x = -1 := by unfold sM; rw [if_neg q0, if_neg q3, if_neg q4]
        exact Or.inl ⟨a1, a2⟩
theorem g_eq {σ : zS} {way c w u : Int} {a r un an j : Nat} {act : Int32} {x y : EntJ} {g g' : Option (Int × Int × Int)} (ft : FtA σ a act ↔ FtN σ w u un an r) (e0 : ruC σ a 0 = rM σ 132 r) (he : 0 ≤ ruC σ a 0 ∧ ruC σ a 0 ≤ 2) (h0 : j = 0 → y.1 = 4) (h1 : j ≠ 0 → y.1 = x.1 ∧ (x.1 = 3 → y.2 = x.2)) (pw : ∀ sd : Int, 0 ≤ sd ∧ sd ≤ 3 → -plMq σ way r sd = wtC σ way a sd + c) (hC : RsC σ way a act y g) (hM : RsM σ way w u un an r j x g') : g' = shG c g := by
  unfold RsC at hC
  unfold RsM at hM
  rw [← e0, ← ft] at hM
  rcases sv_eq he h0 h1 with ⟨q1, q2⟩ | ⟨q1, q2, q3⟩
  · rw [q1] at hC
    rw [q2] at hM
    rcases hC with hC | hC
    · rcases hM with hM | hM
      · rw [hC.2, hM.2]; rfl
      · exact absurd hM.1.2 (by omega)
    · exact absurd rfl hC.1.2
  · rw [q1] at hC
    rcases hC with hC | hC
    · rcases hM with hM | hM
      · rw [hC.2, hM.2]; rfl
      · exact absurd ⟨hM.1.1, by omega⟩ hC.1
    · rcases hM with hM | hM
      · exact absurd ⟨hC.1.1, q2.1⟩ hM.1
      · rw [hC.2, hM.2, pw _ q2, q3]; rfl
/-! ===== what a condition comes to in the class, out of what it comes to in the reference ===== -/
noncomputable def yC (x : EntJ) : EntJ := if x.1 = 3 then x else (x.1, if x.1 = 2 then 0 else x.2)
theorem yc_1 (x : EntJ) : (yC x).1 = x.1 ∧ (x.1 = 3 → (yC x).2 = x.2) := by
  unfold yC
  by_cases h : x.1 = 3
  · rw [if_pos h]; exact ⟨rfl, fun _ => rfl⟩
  · rw [if_neg h]; exact ⟨rfl, fun q => absurd q h⟩
theorem cr_none {E : EvJ} {R : CwJ} {e : Nat} : cr9 E R e 1 e [] [] = some (4, 0) := by
  unfold cr9
  rw [if_neg (Nat.lt_irrefl e)]
/-- with code -/
theorem yc_ev {σ : zS} {a b f j : Nat} {w u t : Int} (hS : SmT (RC9 σ) a b (cdL σ f j) 43) (hE : EvC σ w u t = EvM σ w u t) : ∃ x : EntJ, (2 ≤ x.1 ∧ x.1 ≤ 5) ∧ mrun9 (EvM σ w u t) (cdL σ f j) [] = [x] ∧ ∃ m, cr9 (EvC σ w u t) (RC9 σ) b m a [] [] = some (yC x) := both_ev hS hE

end
end
section
section
/-! ===== what the reference keeps of a decision ===== -/
noncomputable def MkM (σ τ : zS) (d : Int) : Prop := ((τ.1 153 0 = σ.1 110 66 ∧ (τ.1 153 1).toInt = d) ∧ τ.1 153 2 = σ.1 110 67 ∧ τ.1 153 3 = σ.1 110 68 ∧ τ.1 110 69 = 1) ∧ (∀ k j, k ≠ 153 → ¬ (k = 110 ∧ j = 69) → τ.1 k j = σ.1 k j) ∧ τ.2 = σ.2
theorem mk_ok {σ a b c d e : zS} {v : Int32} (h1 : zI σ 110 69 1 = a) (h2 : zI a 153 0 (a.1 110 66) = b) (h3 : zI b 153 1 v = c) (h4 : zI c 153 2 (c.1 110 67) = d) (h5 : zI d 153 3 (d.1 110 68) = e) : MkM σ e v.toInt := by
  have a6 : a.1 110 66 = σ.1 110 66 := by rw [← h1, yI_ne (by decide)]
  have c7 : c.1 110 67 = σ.1 110 67 := by rw [← h3, yI_ne (by decide), ← h2, yI_ne (by decide), ← h1, yI_ne (by decide)]
  have d8 : d.1 110 68 = σ.1 110 68 := by rw [← h4, yI_ne (by decide), ← h3, yI_ne (by decide), ← h2, yI_ne (by decide), ← h1, yI_ne (by decide)]
  refine ⟨⟨⟨?_, ?_⟩, ?_, ?_, ?_⟩, ?_, ?_⟩
  · rw [← h5, yI_ne (by decide), ← h4, yI_ne (by decide), ← h3, yI_ne (by decide), ← h2, yI_at]; exact a6
  · rw [← h5, yI_ne (by decide), ← h4, yI_ne (by decide), ← h3, yI_at]
  · rw [← h5, yI_ne (by decide), ← h4, yI_at]; exact c7
  · rw [← h5, yI_at]; exact d8
  · rw [← h5, yI_ne (by decide), ← h4, yI_ne (by decide), ← h3, yI_ne (by decide), ← h2, yI_ne (by decide), ← h1, yI_at]
  · intro k j p q
    rw [← h5, yI_ne (by omega), ← h4, yI_ne (by omega), ← h3, yI_ne (by omega), ← h2, yI_ne (by omega), ← h1, yI_ne (by omega)]
  · rw [← h5, yI_l, ← h4, yI_l, ← h3, yI_l, ← h2, yI_l, ← h1, yI_l]
theorem fxe_13_142 : FxE "RightsHouseModel" 142 11 70 := fx_e (m := 284) (t := 3) rfl (by decide) (by decide +kernel)
theorem fxe_13_701 : FxE "RightsHouseModel" 701 11 65 := fx_e (m := 284) (t := 0) rfl (by decide) (by decide +kernel)
theorem fxe_13_707 : FxE "RightsHouseModel" 707 11 67 := fx_e (m := 284) (t := 0) rfl (by decide) (by decide +kernel)
theorem fxe_13_97 : FxE "RightsHouseModel" 97 11 41 := fx_e (m := 284) (t := 3) rfl (by decide) (by decide +kernel)
theorem fxz_13_721 : FxZ "RightsHouseModel" 721 11 69 := fx_z (m := 284) rfl (by decide) (by decide +kernel)
theorem kaa_138 : KaA 138 100 240 := ka_a (by decide +kernel)
theorem kaa_153 : KaA 153 100 4 := ka_a (by decide +kernel)
theorem kfa_110_41 : KfA 110 41 11 2 138 := kf_a (by decide) (by decide +kernel)
theorem kfa_110_69 : KfA 110 69 11 0 0 := kf_a (by decide) (by decide +kernel)
theorem kfa_110_70 : KfA 110 70 11 2 153 := kf_a (by decide) (by decide +kernel)
theorem run_M_keeps {E : xV} {σ : zS} {K : zKt} {po : Int32} {p n : Nat} (hpo : po.toInt = (p : Int)) (hp8 : p < 8) (hn : (σ.1 110 66).toInt = (n : Int)) (hn2 : n < 30) (k : ∀ τ' : zS, MkM σ τ' (rM σ 138 (30 * p + n)) → K (some (.int (τ'.1 110 65))) τ') : Wz E Y_M_keeps 0 [(0, .ref 110), (1, .int po)] [] σ K := by
  refine z_aload_n (f := 0) (i := 0) (q := 0) (pc' := 1) ⟨by decide +kernel, rfl⟩ rfl rfl ?_
  refine z_iconst (i := 1) (v := 1) (pc' := 2) ⟨by decide +kernel, rfl⟩ (by decide) ?_
  refine w_putz (k := 110) (j := 69) (idx := 721) (pc' := 5) fxz_13_721 kfa_110_69 (Or.inr rfl) ⟨by decide +kernel, rfl⟩ ?_
  generalize hs1 : zI σ 110 69 1 = σ1
  refine z_aload_n (f := 0) (i := 0) (q := 0) (pc' := 6) ⟨by decide +kernel, rfl⟩ rfl rfl ?_
  refine w_getr (k := 110) (j := 70) (idx := 142) (pc' := 9) fxe_13_142 kfa_110_70 ⟨by decide +kernel, rfl⟩ ?_
  refine z_iconst (i := 0) (v := 0) (pc' := 10) ⟨by decide +kernel, rfl⟩ (by decide) ?_
  refine z_aload_n (f := 0) (i := 0) (q := 0) (pc' := 11) ⟨by decide +kernel, rfl⟩ rfl rfl ?_
  refine w_geti (k := 110) (j := 66) (idx := 704) (pc' := 14) fxe_13_704 kfa_110_66 ⟨by decide +kernel, rfl⟩ ?_
  refine w_iast (k := 153) (n := 0) (pc' := 15) kaa_153 (by decide) (by decide) ⟨by decide +kernel, rfl⟩ ?_
  generalize hs2 : zI σ1 153 0 (σ1.1 110 66) = σ2
  refine z_aload_n (f := 0) (i := 0) (q := 0) (pc' := 16) ⟨by decide +kernel, rfl⟩ rfl rfl ?_
  refine w_getr (k := 110) (j := 70) (idx := 142) (pc' := 19) fxe_13_142 kfa_110_70 ⟨by decide +kernel, rfl⟩ ?_
  refine z_iconst (i := 1) (v := 1) (pc' := 20) ⟨by decide +kernel, rfl⟩ (by decide) ?_
  have e6 : σ2.1 110 66 = σ.1 110 66 := by rw [← hs2, yI_ne (by decide), ← hs1, yI_ne (by decide)]
  have e6i := congrArg Int32.toInt e6
  have e8 : σ2.1 138 = σ.1 138 := funext fun j => by rw [← hs2, yI_ne (by omega), ← hs1, yI_ne (by omega)]
  refine z_aload_n (f := 0) (i := 0) (q := 0) (pc' := 21) ⟨by decide +kernel, rfl⟩ rfl rfl ?_
  refine w_geti (k := 110) (j := 66) (idx := 704) (pc' := 24) fxe_13_704 kfa_110_66 ⟨by decide +kernel, rfl⟩ ?_
  refine z_bipush (i := (-4)) (v := (-4)) (pc' := 26) ⟨by decide +kernel, rfl⟩ (by decide) ?_
  refine z_icmp_ne (off := 7) (tgt := 33) (pc' := 29) ⟨by decide +kernel, by decide, rfl⟩ (fun h3 => ?_) (fun h3 => ?_)
  · refine z_aload_n (f := 0) (i := 0) (q := 0) (pc' := 34) ⟨by decide +kernel, rfl⟩ rfl rfl ?_
    refine w_getr (k := 110) (j := 41) (idx := 97) (pc' := 37) fxe_13_97 kfa_110_41 ⟨by decide +kernel, rfl⟩ ?_
    refine z_bipush (i := 30) (v := 30) (pc' := 39) ⟨by decide +kernel, rfl⟩ (by decide) ?_
    refine z_iload_n (f := 1) (i := 1) (q := 1) (pc' := 40) ⟨by decide +kernel, rfl⟩ rfl rfl ?_
    refine z_imul (pc' := 41) ⟨by decide +kernel, rfl⟩ ?_
    refine z_aload_n (f := 0) (i := 0) (q := 0) (pc' := 42) ⟨by decide +kernel, rfl⟩ rfl rfl ?_
    refine w_geti (k := 110) (j := 66) (idx := 704) (pc' := 45) fxe_13_704 kfa_110_66 ⟨by decide +kernel, rfl⟩ ?_
    refine z_iadd (pc' := 46) ⟨by decide +kernel, rfl⟩ ?_
    refine w_iald (k := 138) (n := (30 * p + n)) (pc' := 47) kaa_138 (rj_at hpo hp8 (by rw [e6]; exact hn) hn2) (by omega) ⟨by decide +kernel, rfl⟩ ?_
    refine w_iast (k := 153) (n := 1) (pc' := 48) kaa_153 (by decide) (by decide) ⟨by decide +kernel, rfl⟩ ?_
    generalize hs4 : zI σ2 153 1 (σ2.1 138 (30 * p + n)) = σ4
    refine z_aload_n (f := 0) (i := 0) (q := 0) (pc' := 49) ⟨by decide +kernel, rfl⟩ rfl rfl ?_
    refine w_getr (k := 110) (j := 70) (idx := 142) (pc' := 52) fxe_13_142 kfa_110_70 ⟨by decide +kernel, rfl⟩ ?_
    refine z_iconst (i := 2) (v := 2) (pc' := 53) ⟨by decide +kernel, rfl⟩ (by decide) ?_
    refine z_aload_n (f := 0) (i := 0) (q := 0) (pc' := 54) ⟨by decide +kernel, rfl⟩ rfl rfl ?_
    refine w_geti (k := 110) (j := 67) (idx := 707) (pc' := 57) fxe_13_707 kfa_110_67 ⟨by decide +kernel, rfl⟩ ?_
    refine w_iast (k := 153) (n := 2) (pc' := 58) kaa_153 (by decide) (by decide) ⟨by decide +kernel, rfl⟩ ?_
    generalize hs5 : zI σ4 153 2 (σ4.1 110 67) = σ5
    refine z_aload_n (f := 0) (i := 0) (q := 0) (pc' := 59) ⟨by decide +kernel, rfl⟩ rfl rfl ?_
    refine w_getr (k := 110) (j := 70) (idx := 142) (pc' := 62) fxe_13_142 kfa_110_70 ⟨by decide +kernel, rfl⟩ ?_
    refine z_iconst (i := 3) (v := 3) (pc' := 63) ⟨by decide +kernel, rfl⟩ (by decide) ?_
    refine z_aload_n (f := 0) (i := 0) (q := 0) (pc' := 64) ⟨by decide +kernel, rfl⟩ rfl rfl ?_
    refine w_geti (k := 110) (j := 68) (idx := 710) (pc' := 67) fxe_13_710 kfa_110_68 ⟨by decide +kernel, rfl⟩ ?_
    refine w_iast (k := 153) (n := 3) (pc' := 68) kaa_153 (by decide) (by decide) ⟨by decide +kernel, rfl⟩ ?_
    generalize hs6 : zI σ5 153 3 (σ5.1 110 68) = σ6
    refine z_aload_n (f := 0) (i := 0) (q := 0) (pc' := 69) ⟨by decide +kernel, rfl⟩ rfl rfl ?_
    refine w_geti (k := 110) (j := 65) (idx := 701) (pc' := 72) fxe_13_701 kfa_110_65 ⟨by decide +kernel, rfl⟩ ?_
    refine z_iret (ty := .int) rfl rfl (by decide +kernel) ?_
    have z0L : (0 : Int64).toInt = 0 := by decide
    have z__4_ : ((-4) : Int32).toInt = (-4) := by decide
    have gh3 := j_ne_t h3
    have hm := mk_ok hs1 hs2 hs4 hs5 hs6
    rw [e8] at hm
    exact k _ hm
  · have z0L : (0 : Int64).toInt = 0 := by decide
    have z__4_ : ((-4) : Int32).toInt = (-4) := by decide
    have gh3 := j_ne_f h3
    exfalso
    omega
theorem cz_M_keeps {E : xV} {σ : zS} {K : zKt} {po : Int32} {p n : Nat} (hpo : po.toInt = (p : Int)) (hp8 : p < 8) (hn : (σ.1 110 66).toInt = (n : Int)) (hn2 : n < 30) (k : ∀ τ' : zS, MkM σ τ' (rM σ 138 (30 * p + n)) → K (some (.int (τ'.1 110 65))) τ') : Cz E Y_M_keeps [.ref 110, .int po] σ K := z_entry (by decide) (fun a => by rw [sl_len]; exact Nat.le_of_ble_eq_true rfl) rfl (run_M_keeps hpo hp8 hn hn2 k)
theorem run_M_keeps_n {E : xV} {σ : zS} {K : zKt} {po : Int32} (hn : (σ.1 110 66).toInt = -4) (k : ∀ τ' : zS, MkM σ τ' (0 : Int32).toInt → K (some (.int (τ'.1 110 65))) τ') : Wz E Y_M_keeps 0 [(0, .ref 110), (1, .int po)] [] σ K := by
  refine z_aload_n (f := 0) (i := 0) (q := 0) (pc' := 1) ⟨by decide +kernel, rfl⟩ rfl rfl ?_
  refine z_iconst (i := 1) (v := 1) (pc' := 2) ⟨by decide +kernel, rfl⟩ (by decide) ?_
  refine w_putz (k := 110) (j := 69) (idx := 721) (pc' := 5) fxz_13_721 kfa_110_69 (Or.inr rfl) ⟨by decide +kernel, rfl⟩ ?_
  generalize hs1 : zI σ 110 69 1 = σ1
  refine z_aload_n (f := 0) (i := 0) (q := 0) (pc' := 6) ⟨by decide +kernel, rfl⟩ rfl rfl ?_
  refine w_getr (k := 110) (j := 70) (idx := 142) (pc' := 9) fxe_13_142 kfa_110_70 ⟨by decide +kernel, rfl⟩ ?_
  refine z_iconst (i := 0) (v := 0) (pc' := 10) ⟨by decide +kernel, rfl⟩ (by decide) ?_
  refine z_aload_n (f := 0) (i := 0) (q := 0) (pc' := 11) ⟨by decide +kernel, rfl⟩ rfl rfl ?_
  refine w_geti (k := 110) (j := 66) (idx := 704) (pc' := 14) fxe_13_704 kfa_110_66 ⟨by decide +kernel, rfl⟩ ?_
  refine w_iast (k := 153) (n := 0) (pc' := 15) kaa_153 (by decide) (by decide) ⟨by decide +kernel, rfl⟩ ?_
  generalize hs2 : zI σ1 153 0 (σ1.1 110 66) = σ2
  refine z_aload_n (f := 0) (i := 0) (q := 0) (pc' := 16) ⟨by decide +kernel, rfl⟩ rfl rfl ?_
  refine w_getr (k := 110) (j := 70) (idx := 142) (pc' := 19) fxe_13_142 kfa_110_70 ⟨by decide +kernel, rfl⟩ ?_
  refine z_iconst (i := 1) (v := 1) (pc' := 20) ⟨by decide +kernel, rfl⟩ (by decide) ?_
  have e6 : σ2.1 110 66 = σ.1 110 66 := by rw [← hs2, yI_ne (by decide), ← hs1, yI_ne (by decide)]
  have e6i := congrArg Int32.toInt e6
  have e8 : σ2.1 138 = σ.1 138 := funext fun j => by rw [← hs2, yI_ne (by omega), ← hs1, yI_ne (by omega)]
  refine z_aload_n (f := 0) (i := 0) (q := 0) (pc' := 21) ⟨by decide +kernel, rfl⟩ rfl rfl ?_
  refine w_geti (k := 110) (j := 66) (idx := 704) (pc' := 24) fxe_13_704 kfa_110_66 ⟨by decide +kernel, rfl⟩ ?_
  refine z_bipush (i := (-4)) (v := (-4)) (pc' := 26) ⟨by decide +kernel, rfl⟩ (by decide) ?_
  refine z_icmp_ne (off := 7) (tgt := 33) (pc' := 29) ⟨by decide +kernel, by decide, rfl⟩ (fun h3 => ?_) (fun h3 => ?_)
  · have z0L : (0 : Int64).toInt = 0 := by decide
    have z__4_ : ((-4) : Int32).toInt = (-4) := by decide
    have gh3 := j_ne_t h3
    exfalso
    omega
  · refine z_iconst (i := 0) (v := 0) (pc' := 30) ⟨by decide +kernel, rfl⟩ (by decide) ?_
    refine z_goto (off := 17) (tgt := 47) (pc' := 33) ⟨by decide +kernel, by decide, rfl⟩ ?_
    refine w_iast (k := 153) (n := 1) (pc' := 48) kaa_153 (by decide) (by decide) ⟨by decide +kernel, rfl⟩ ?_
    generalize hs4 : zI σ2 153 1 0 = σ4
    refine z_aload_n (f := 0) (i := 0) (q := 0) (pc' := 49) ⟨by decide +kernel, rfl⟩ rfl rfl ?_
    refine w_getr (k := 110) (j := 70) (idx := 142) (pc' := 52) fxe_13_142 kfa_110_70 ⟨by decide +kernel, rfl⟩ ?_
    refine z_iconst (i := 2) (v := 2) (pc' := 53) ⟨by decide +kernel, rfl⟩ (by decide) ?_
    refine z_aload_n (f := 0) (i := 0) (q := 0) (pc' := 54) ⟨by decide +kernel, rfl⟩ rfl rfl ?_
    refine w_geti (k := 110) (j := 67) (idx := 707) (pc' := 57) fxe_13_707 kfa_110_67 ⟨by decide +kernel, rfl⟩ ?_
    refine w_iast (k := 153) (n := 2) (pc' := 58) kaa_153 (by decide) (by decide) ⟨by decide +kernel, rfl⟩ ?_
    generalize hs5 : zI σ4 153 2 (σ4.1 110 67) = σ5
    refine z_aload_n (f := 0) (i := 0) (q := 0) (pc' := 59) ⟨by decide +kernel, rfl⟩ rfl rfl ?_
    refine w_getr (k := 110) (j := 70) (idx := 142) (pc' := 62) fxe_13_142 kfa_110_70 ⟨by decide +kernel, rfl⟩ ?_
    refine z_iconst (i := 3) (v := 3) (pc' := 63) ⟨by decide +kernel, rfl⟩ (by decide) ?_
    refine z_aload_n (f := 0) (i := 0) (q := 0) (pc' := 64) ⟨by decide +kernel, rfl⟩ rfl rfl ?_
    refine w_geti (k := 110) (j := 68) (idx := 710) (pc' := 67) fxe_13_710 kfa_110_68 ⟨by decide +kernel, rfl⟩ ?_
    refine w_iast (k := 153) (n := 3) (pc' := 68) kaa_153 (by decide) (by decide) ⟨by decide +kernel, rfl⟩ ?_
    generalize hs6 : zI σ5 153 3 (σ5.1 110 68) = σ6
    refine z_aload_n (f := 0) (i := 0) (q := 0) (pc' := 69) ⟨by decide +kernel, rfl⟩ rfl rfl ?_
    refine w_geti (k := 110) (j := 65) (idx := 701) (pc' := 72) fxe_13_701 kfa_110_65 ⟨by decide +kernel, rfl⟩ ?_
    refine z_iret (ty := .int) rfl rfl (by decide +kernel) ?_
    have z0L : (0 : Int64).toInt = 0 := by decide
    have z__4_ : ((-4) : Int32).toInt = (-4) := by decide
    have gh3 := j_ne_f h3
    have hm := mk_ok hs1 hs2 hs4 hs5 hs6
    exact k _ hm
theorem cz_M_keeps_n {E : xV} {σ : zS} {K : zKt} {po : Int32} (hn : (σ.1 110 66).toInt = -4) (k : ∀ τ' : zS, MkM σ τ' (0 : Int32).toInt → K (some (.int (τ'.1 110 65))) τ') : Cz E Y_M_keeps [.ref 110, .int po] σ K := z_entry (by decide) (fun a => by rw [sl_len]; exact Nat.le_of_ble_eq_true rfl) rfl (run_M_keeps_n hn k)

end
end
section
section
/-! ===== what a method does, as a predicate over states: what its proof wants ===== -/
noncomputable def fuF : Nat := 100000
theorem xk1 (i : Nat) : xokv 215 (.ref (1000 + i)) = true := by
  show (decide (1000 + i < 215) || decide (1000 ≤ 1000 + i)) = true
  rw [decide_eq_true (p := 1000 ≤ 1000 + i) (by omega), Bool.or_true]
theorem xk2 (i : Nat) : xokv 215 (.ref (2000 + i)) = true := by
  show (decide (2000 + i < 215) || decide (1000 ≤ 2000 + i)) = true
  rw [decide_eq_true (p := 1000 ≤ 2000 + i) (by omega), Bool.or_true]
theorem wR {Y : xY} {r : Room} {pc : Nat} {x} (h : decode Y.2.1 pc = x) : decode (withR Y r).2.1 pc = x := h
theorem wQ {Y : xY} {r : Room} {i : Nat} (h : i < Y.2.2.1) : i < (withR Y r).2.2.1 := h
theorem rm_i {Y Z : xY} {R : Nat} (h : Z.2.2.1 ≤ 20) : zRm (withR Y (rmN (R + 1))) (withR Z (rmN R)) := by
  refine ⟨⟨?_, ?_⟩, rfl, rfl⟩
  · show 200 + R + 1 ≤ 200 + (R + 1); omega
  · show 8 + (Z.2.2.1 + 11) + (4000 + 40 * R) ≤ 4000 + 40 * (R + 1); omega
theorem rm_o {Y Z : xY} {R : Nat} (h : Z.2.2.2.2.frames ≤ 199) (h2 : Z.2.2.1 + Z.2.2.2.2.locals ≤ 3900) (h3 : Z.2.2.2.2.cells = 0 ∧ Z.2.2.2.2.slots = 0) : zRm (withR Y (rmN (R + 1))) Z := by
  refine ⟨⟨?_, ?_⟩, h3⟩
  · show Z.2.2.2.2.frames + 1 ≤ 200 + (R + 1); omega
  · show 8 + (Z.2.2.1 + 11) + Z.2.2.2.2.locals ≤ 4000 + 40 * (R + 1); omega
section K97
variable {x y : Int32} {u w : Int64} {a b : Int}
theorem ia_ok (hx : x.toInt = a) (hy : y.toInt = b) (g : -2147483648 ≤ a + b ∧ a + b ≤ 2147483647) : (x + y).toInt = a + b := by
  rw [Int32.toInt_add, hx, hy, Int.bmod_eq_of_le (by omega) (by omega)]
theorem is_ok (hx : x.toInt = a) (hy : y.toInt = b) (g : -2147483648 ≤ a - b ∧ a - b ≤ 2147483647) : (x - y).toInt = a - b := by
  rw [Int32.toInt_sub, hx, hy, Int.bmod_eq_of_le (by omega) (by omega)]
theorem im_ok (hx : x.toInt = a) (hy : y.toInt = b) (g : -2147483648 ≤ a * b ∧ a * b ≤ 2147483647) : (x * y).toInt = a * b := by
  rw [Int32.toInt_mul, hx, hy, Int.bmod_eq_of_le (by omega) (by omega)]
theorem remi_ok {b : Int} (hx : 0 ≤ x.toInt) (hy : y.toInt = b) (hb : 0 < b) : (x - x / y * y).toInt = x.toInt % b := by
  have l := Int32.toInt_lt x
  have q1 := Int.ediv_nonneg hx (Int.le_of_lt hb)
  have q2 := Int.ediv_le_self b hx
  have q : (x / y).toInt = x.toInt / b := by rw [Int32.toInt_div, hy, Int.tdiv_eq_ediv_of_nonneg hx, Int.bmod_eq_of_le (by omega) (by omega)]
  have m1 := Int.ediv_mul_le x.toInt (Int.ne_of_gt hb)
  have m2 := Int.mul_nonneg q1 (Int.le_of_lt hb)
  have m : (x / y * y).toInt = x.toInt / b * b := im_ok q hy (by omega)
  rw [is_ok rfl m (by omega), Int.emod_def, Int.mul_comm]
theorem ial_ok (hx : u.toInt = a) (hy : w.toInt = b) (g : -9223372036854775808 ≤ a + b ∧ a + b ≤ 9223372036854775807) : (u + w).toInt = a + b := by
  rw [Int64.toInt_add, hx, hy, Int.bmod_eq_of_le (by omega) (by omega)]
theorem isl_ok (hx : u.toInt = a) (hy : w.toInt = b) (g : -9223372036854775808 ≤ a - b ∧ a - b ≤ 9223372036854775807) : (u - w).toInt = a - b := by
  rw [Int64.toInt_sub, hx, hy, Int.bmod_eq_of_le (by omega) (by omega)]
theorem iml_ok (hx : u.toInt = a) (hy : w.toInt = b) (g : -9223372036854775808 ≤ a * b ∧ a * b ≤ 9223372036854775807) : (u * w).toInt = a * b := by
  rw [Int64.toInt_mul, hx, hy, Int.bmod_eq_of_le (by omega) (by omega)]
theorem il_ok (_ : -9223372036854775808 ≤ x.toInt ∧ x.toInt ≤ 9223372036854775807) : (Int32.toInt64 x).toInt = x.toInt := Int32.toInt_toInt64 x
theorem li_ok (g : -2147483648 ≤ u.toInt ∧ u.toInt ≤ 2147483647) : (Int64.toInt32 u).toInt = u.toInt := by
  rw [Int64.toInt_toInt32, Int.bmod_eq_of_le (by omega) (by omega)]
theorem qi_eq_t (hx : x.toInt = a) (hy : y.toInt = b) (h : x = y) : a = b := by rw [← hx, ← hy, h]
theorem qi_eq_f (hx : x.toInt = a) (hy : y.toInt = b) (h : ¬ x = y) : ¬ a = b := by rw [← hx, ← hy]; exact fun q => h (Int32.toInt_inj.mp q)
theorem qi_ne_t (hx : x.toInt = a) (hy : y.toInt = b) (h : ¬ x = y) : ¬ a = b := qi_eq_f hx hy h
theorem qi_ne_f (hx : x.toInt = a) (hy : y.toInt = b) (h : x = y) : a = b := qi_eq_t hx hy h
theorem qi_lt_t (hx : x.toInt = a) (hy : y.toInt = b) (h : x < y) : a < b := by rw [← hx, ← hy]; exact Int32.lt_iff_toInt_lt.mp h
theorem qi_lt_f (hx : x.toInt = a) (hy : y.toInt = b) (h : ¬ x < y) : ¬ a < b := by rw [← hx, ← hy]; exact fun q => h (Int32.lt_iff_toInt_lt.mpr q)
theorem qi_le_t (hx : x.toInt = a) (hy : y.toInt = b) (h : x ≤ y) : a ≤ b := by rw [← hx, ← hy]; exact Int32.le_iff_toInt_le.mp h
theorem qi_le_f (hx : x.toInt = a) (hy : y.toInt = b) (h : ¬ x ≤ y) : ¬ a ≤ b := by rw [← hx, ← hy]; exact fun q => h (Int32.le_iff_toInt_le.mpr q)
theorem qi_ge_t (hx : x.toInt = a) (hy : y.toInt = b) (h : y ≤ x) : b ≤ a := qi_le_t hy hx h
theorem qi_ge_f (hx : x.toInt = a) (hy : y.toInt = b) (h : ¬ y ≤ x) : ¬ b ≤ a := qi_le_f hy hx h
theorem qi_gt_t (hx : x.toInt = a) (hy : y.toInt = b) (h : y < x) : b < a := qi_lt_t hy hx h
theorem qi_gt_f (hx : x.toInt = a) (hy : y.toInt = b) (h : ¬ y < x) : ¬ b < a := qi_lt_f hy hx h
theorem mx_eq {x y : Int32} : (if x < y then y else x).toInt = max x.toInt y.toInt := by
  by_cases h : x < y
  · rw [if_pos h]; have := Int32.lt_iff_toInt_lt.mp h; omega
  · rw [if_neg h]; have : ¬ x.toInt < y.toInt := fun q => h (Int32.lt_iff_toInt_lt.mpr q); omega
theorem ma_okj9 (hx : x.toInt = a) (hy : y.toInt = b) : (if x < y then y else x).toInt = max a b := by rw [mx_eq, hx, hy]
theorem mi_ok (hx : x.toInt = a) (hy : y.toInt = b) : (if y < x then y else x).toInt = min a b := by
  subst hx hy
  by_cases h : y < x
  · rw [if_pos h]; have := Int32.lt_iff_toInt_lt.mp h; omega
  · rw [if_neg h]; have : ¬ y.toInt < x.toInt := fun q => h (Int32.lt_iff_toInt_lt.mpr q); omega
theorem lg_lt (u w : Int64) : lg_cmp u w < 0 ↔ u.toInt < w.toInt := by rw [← Int64.lt_iff_toInt_lt]; exact lg_cmp_lt u w
theorem lg_eq (u w : Int64) : lg_cmp u w = 0 ↔ u.toInt = w.toInt := by rw [Int64.toInt_inj]; exact lg_cmp_eq u w
theorem lg_le (u w : Int64) : lg_cmp u w ≤ 0 ↔ u.toInt ≤ w.toInt := by
  have h1 := lg_lt u w
  have h2 := lg_eq u w
  rw [Int32.lt_iff_toInt_lt] at h1
  rw [← Int32.toInt_inj] at h2
  rw [Int32.le_iff_toInt_le]
  omega
theorem qk_eq_t (hx : u.toInt = a) (hy : w.toInt = b) (h : lg_cmp u w = 0) : a = b := by rw [← hx, ← hy]; exact (lg_eq u w).mp h
theorem qk_eq_f (hx : u.toInt = a) (hy : w.toInt = b) (h : ¬ lg_cmp u w = 0) : ¬ a = b := by rw [← hx, ← hy]; exact fun q => h ((lg_eq u w).mpr q)
theorem qk_ne_t (hx : u.toInt = a) (hy : w.toInt = b) (h : ¬ lg_cmp u w = 0) : ¬ a = b := qk_eq_f hx hy h
theorem qk_ne_f (hx : u.toInt = a) (hy : w.toInt = b) (h : lg_cmp u w = 0) : a = b := qk_eq_t hx hy h
theorem qk_lt_t (hx : u.toInt = a) (hy : w.toInt = b) (h : lg_cmp u w < 0) : a < b := by rw [← hx, ← hy]; exact (lg_lt u w).mp h
theorem qk_lt_f (hx : u.toInt = a) (hy : w.toInt = b) (h : ¬ lg_cmp u w < 0) : ¬ a < b := by rw [← hx, ← hy]; exact fun q => h ((lg_lt u w).mpr q)
theorem qk_le_t (hx : u.toInt = a) (hy : w.toInt = b) (h : lg_cmp u w ≤ 0) : a ≤ b := by rw [← hx, ← hy]; exact (lg_le u w).mp h
theorem qk_le_f (hx : u.toInt = a) (hy : w.toInt = b) (h : ¬ lg_cmp u w ≤ 0) : ¬ a ≤ b := by rw [← hx, ← hy]; exact fun q => h ((lg_le u w).mpr q)
theorem qk_ge_t (hx : u.toInt = a) (hy : w.toInt = b) (h : 0 ≤ lg_cmp u w) : b ≤ a := by
  rw [← hx, ← hy]
  rw [Int32.le_iff_toInt_le] at h
  refine Int.not_lt.mp (fun p => ?_)
  have p := (lg_lt u w).mpr p
  rw [Int32.lt_iff_toInt_lt] at p
  omega
theorem qk_ge_f (hx : u.toInt = a) (hy : w.toInt = b) (h : ¬ 0 ≤ lg_cmp u w) : ¬ b ≤ a := by
  rw [← hx, ← hy]
  rw [Int32.le_iff_toInt_le] at h
  refine Int.not_le.mpr ((lg_lt u w).mp ?_)
  rw [Int32.lt_iff_toInt_lt]
  omega
theorem qk_gt_t (hx : u.toInt = a) (hy : w.toInt = b) (h : 0 < lg_cmp u w) : b < a := by
  rw [← hx, ← hy]
  rw [Int32.lt_iff_toInt_lt] at h
  refine Int.not_le.mp (fun p => ?_)
  have p := (lg_le u w).mpr p
  rw [Int32.le_iff_toInt_le] at p
  omega
theorem qk_gt_f (hx : u.toInt = a) (hy : w.toInt = b) (h : ¬ 0 < lg_cmp u w) : ¬ b < a := by
  rw [← hx, ← hy]
  rw [Int32.lt_iff_toInt_lt] at h
  refine Int.not_lt.mpr ((lg_le u w).mp ?_)
  rw [Int32.le_iff_toInt_le]
  omega
end K97
theorem w_invVR {E : xV} {Y : xY} {pc pc' : Nat} {lv : List (Nat × Value)} {st : List Value} {σ : zS} {K : zKt} {Z : xY} {rm : Room} {x z idx kb ci j kd t nA : Nat} {As rest : List Value} (hC : CallOk x (z, (nA, false))) (hZ : Yf z = Z) (hx : cname (x / 4096) = Y.1.cls ∧ x % 4096 = idx) (h : KfA kb j ci kd t) (hcn : (cls[ci]?.map fun q => q.1) = some Z.1.cls) (hrm : zRm Y (withR Z rm)) (d : decode Y.2.1 pc = .ok (.invokevirtual idx, 3) ∧ pc + 3 = pc') (hA : As.length = nA) (hst : st = As.reverse ++ .ref kb :: rest) (hcat : (rest.map fun v => v.category).sum ≤ 8) (hlv : (lv.all fun q => xokv 215 q.2) = true) (hrs : (rest.all (xokv 215)) = true)
    (kk : Cz E (withR Z rm) (.ref kb :: As) σ (fun v σ' => Wz E Y pc' lv (v.toList ++ rest) σ' K)) : Wz E Y pc lv st σ K := by
  obtain ⟨h1, h2, ⟨l, h3, h4⟩, _⟩ := h
  obtain ⟨c1, _, c3⟩ := hC
  obtain ⟨⟨c4, c5⟩, _⟩ := c3 rfl
  rw [hx.1, hx.2, hZ] at c1
  rw [hZ] at c4 c5
  exact z_invV (Z := withR Z rm) c1 c4 c5 h1 h3 h2 hcn hrm d hA hst hcat hlv hrs kk
theorem w_invVS {E : xV} {Y : xY} {pc pc' : Nat} {lv : List (Nat × Value)} {st : List Value} {σ : zS} {K : zKt} {Z : xY} {x z idx i nA : Nat} {As rest : List Value} (hC : CallOk x (z, (nA, false))) (hZ : Yf z = Z) (hx : cname (x / 4096) = Y.1.cls ∧ x % 4096 = idx) (hi : i < 21) (hcn : Z.1.cls = "java/lang/String") (hrm : zRm Y Z) (d : decode Y.2.1 pc = .ok (.invokevirtual idx, 3) ∧ pc + 3 = pc') (hA : As.length = nA) (hst : st = As.reverse ++ .ref (1000 + i) :: rest) (hcat : (rest.map fun v => v.category).sum ≤ 8) (hlv : (lv.all fun q => xokv 215 q.2) = true) (hrs : (rest.all (xokv 215)) = true)
    (kk : Cz E Z (.ref (1000 + i) :: As) σ (fun v σ' => Wz E Y pc' lv (v.toList ++ rest) σ' K)) : Wz E Y pc lv st σ K := by
  obtain ⟨c1, _, c3⟩ := hC
  obtain ⟨⟨c4, c5⟩, _⟩ := c3 rfl
  rw [hx.1, hx.2, hZ] at c1
  rw [hZ] at c4 c5
  exact z_invVS c1 c4 c5 hi hcn hrm d hA hst hcat hlv hrs kk
theorem w_maxR {E : xV} {Y : xY} {pc pc' m idx R : Nat} {lv : List (Nat × Value)} {st : List Value} {σ : zS} {K : zKt} {x y : Int32} (hm : Yf m = Y) (hx : idx < 4096) (hl : t_lib.get (G0.own m * 4096 + idx) = some 6) (hcat : (st.map fun v => v.category).sum ≤ 8) (d : decode (withR Y (rmN (R + 1))).2.1 pc = .ok (.invokestatic idx, 3) ∧ pc + 3 = pc') (kk : Wz E (withR Y (rmN (R + 1))) pc' lv (.int (if x < y then y else x) :: st) σ K) : Wz E (withR Y (rmN (R + 1))) pc lv (.int y :: .int x :: st) σ K := by
  subst hm
  obtain ⟨_, _, _, _, h6, _⟩ := G0_ok.fz m idx 6 hx hl
  obtain ⟨w1, w2, w3, w4⟩ := h6 rfl
  exact z_max (Y := withR (Yf m) (rmN (R + 1))) w1 w2 w3 w4 (by show 1 ≤ 200 + (R + 1); omega) (by show 40 ≤ 4000 + 40 * (R + 1); omega) hcat d kk
theorem w_min {E : xV} {Y : xY} {pc pc' m idx : Nat} {lv : List (Nat × Value)} {st : List Value} {σ : zS} {K : zKt} {x y : Int32} (hm : Yf m = Y) (hx : idx < 4096) (hl : t_lib.get (G0.own m * 4096 + idx) = some 7) (hfr : 1 ≤ Y.2.2.2.2.frames) (hlo : 40 ≤ Y.2.2.2.2.locals) (hcat : (st.map fun v => v.category).sum ≤ 8) (d : decode Y.2.1 pc = .ok (.invokestatic idx, 3) ∧ pc + 3 = pc') (kk : Wz E Y pc' lv (.int (if y < x then y else x) :: st) σ K) : Wz E Y pc lv (.int y :: .int x :: st) σ K := by
  subst hm
  obtain ⟨_, _, _, _, _, h7⟩ := G0_ok.fz m idx 7 hx hl
  obtain ⟨w1, w2, w3, w4⟩ := h7 rfl
  exact z_mmin w1 w2 w3 w4 hfr hlo hcat d kk
theorem w_copyi {E : xV} {Y : xY} {pc pc' m idx k0 k1 z0 z1 a b c : Nat} {lv : List (Nat × Value)} {st : List Value} {σ : zS} {K : zKt} {sp dp v : Int32} (hm : Yf m = Y) (hx : idx < 4096) (hl : t_lib.get (G0.own m * 4096 + idx) = some 1) (h0 : KaA k0 100 z0) (h1 : KaA k1 100 z1) (ha : sp.toInt = (a : Int)) (hb : dp.toInt = (b : Int)) (hc : v.toInt = (c : Int)) (hg : a + c ≤ z0 ∧ b + c ≤ z1) (hfr : 1 ≤ Y.2.2.2.2.frames) (hlo : 40 ≤ Y.2.2.2.2.locals) (hcat : (st.map fun v => v.category).sum ≤ 8) (d : decode Y.2.1 pc = .ok (.invokestatic idx, 3) ∧ pc + 3 = pc') (kk : Wz E Y pc' lv st (zIr σ k1 (va_cpy (σ.1 k0) (σ.1 k1) a b c)) K) : Wz E Y pc lv (.int v :: .int dp :: .ref k1 :: .int sp :: .ref k0 :: st) σ K := by
  subst hm
  obtain ⟨⟨c1, c2⟩, c3, c4⟩ := G0_ok.copy m idx hx hl
  have z : (0 : Int32).toInt = 0 := by decide
  have n : ∀ {q : Int32} {e : Nat}, q.toInt = (e : Int) → ¬ q < 0 := fun h p => by rw [Int32.lt_iff_toInt_lt, z] at p; omega
  refine z_copyi c1 c2 c3 c4 h0.1 h1.1 h0.2.1 h1.2.1 ⟨n ha, n hb, n hc, ?_, ?_⟩ hfr hlo hcat d ?_
  · rw [cl_a ha, cl_a hc]; exact hg.1
  · rw [cl_a hb, cl_a hc]; exact hg.2
  · rw [cl_a ha, cl_a hb, cl_a hc]; exact kk
theorem w_copyl {E : xV} {Y : xY} {pc pc' m idx k0 k1 z0 z1 a b c : Nat} {lv : List (Nat × Value)} {st : List Value} {σ : zS} {K : zKt} {sp dp v : Int32} (hm : Yf m = Y) (hx : idx < 4096) (hl : t_lib.get (G0.own m * 4096 + idx) = some 1) (h0 : KaA k0 101 z0) (h1 : KaA k1 101 z1) (ha : sp.toInt = (a : Int)) (hb : dp.toInt = (b : Int)) (hc : v.toInt = (c : Int)) (hg : a + c ≤ z0 ∧ b + c ≤ z1) (hfr : 1 ≤ Y.2.2.2.2.frames) (hlo : 40 ≤ Y.2.2.2.2.locals) (hcat : (st.map fun v => v.category).sum ≤ 8) (d : decode Y.2.1 pc = .ok (.invokestatic idx, 3) ∧ pc + 3 = pc') (kk : Wz E Y pc' lv st (zJr σ k1 (va_cpy (σ.2 k0) (σ.2 k1) a b c)) K) : Wz E Y pc lv (.int v :: .int dp :: .ref k1 :: .int sp :: .ref k0 :: st) σ K := by
  subst hm
  obtain ⟨⟨c1, c2⟩, c3, c4⟩ := G0_ok.copy m idx hx hl
  have z : (0 : Int32).toInt = 0 := by decide
  have n : ∀ {q : Int32} {e : Nat}, q.toInt = (e : Int) → ¬ q < 0 := fun h p => by rw [Int32.lt_iff_toInt_lt, z] at p; omega
  refine z_copyl c1 c2 c3 c4 h0.1 h1.1 h0.2.1 h1.2.1 ⟨n ha, n hb, n hc, ?_, ?_⟩ hfr hlo hcat d ?_
  · rw [cl_a ha, cl_a hc]; exact hg.1
  · rw [cl_a hb, cl_a hc]; exact hg.2
  · rw [cl_a ha, cl_a hb, cl_a hc]; exact kk
theorem w_getsC {E : xV} {Y : xY} {pc pc' m idx : Nat} {lv : List (Nat × Value)} {st : List Value} {σ : zS} {K : zKt} (hm : Yf m = Y) (hx : idx < 4096) (hl : t_lib.get (G0.own m * 4096 + idx) = some 2) (d : decode Y.2.1 pc = .ok (.getstatic idx, 3) ∧ pc + 3 = pc') (k : Wz E Y pc' lv (.int 1 :: st) σ K) : Wz E Y pc lv st σ K := by
  subst hm
  exact z_getsC ((G0_ok.fz m idx 2 hx hl).1 rfl) d k
theorem w_sgetc {E : xV} {Y : xY} {pc pc' m idx i : Nat} {lv : List (Nat × Value)} {st : List Value} {σ : zS} {K : zKt} (hm : Yf m = Y) (hx : idx < 4096) (hl : t_lib.get (G0.own m * 4096 + idx) = some 4) (hi : i < 21) (d : decode Y.2.1 pc = .ok (.getfield idx, 3) ∧ pc + 3 = pc') (k : Wz E Y pc' lv (.int 0 :: st) σ K) : Wz E Y pc lv (.ref (1000 + i) :: st) σ K := by
  subst hm
  exact z_sgetc hi ((G0_ok.fz m idx 4 hx hl).2.2.1 rfl) d k
theorem w_sgetv {E : xV} {Y : xY} {pc pc' m idx i : Nat} {lv : List (Nat × Value)} {st : List Value} {σ : zS} {K : zKt} (hm : Yf m = Y) (hx : idx < 4096) (hl : t_lib.get (G0.own m * 4096 + idx) = some 5) (hi : i < 21) (d : decode Y.2.1 pc = .ok (.getfield idx, 3) ∧ pc + 3 = pc') (k : Wz E Y pc' lv (.ref (2000 + i) :: st) σ K) : Wz E Y pc lv (.ref (1000 + i) :: st) σ K := by
  subst hm
  exact z_sgetv hi ((G0_ok.fz m idx 5 hx hl).2.2.2.1 rfl) d k
theorem w_sald {E : xV} {Y : xY} {pc pc' i n : Nat} {lv : List (Nat × Value)} {st : List Value} {σ : zS} {K : zKt} {x : Int32} (hi : i < 21) (hx : x.toInt = (n : Int)) (hn : n < SLN.getD i 0) (d : decode Y.2.1 pc = .ok (.baload, 1) ∧ pc + 1 = pc') (k : Wz E Y pc' lv (.int ((SBY.getD i []).getD n 0) :: st) σ K) : Wz E Y pc lv (.int x :: .ref (2000 + i) :: st) σ K := z_sald hi (in_a hx hn) d (by rw [cl_a hx]; exact k)
theorem w_shr0 {E : xV} {Y : xY} {pc pc' : Nat} {lv : List (Nat × Value)} {st : List Value} {σ : zS} {K : zKt} {x : Int32} (d : decode Y.2.1 pc = .ok (.ishr, 1) ∧ pc + 1 = pc') (k : Wz E Y pc' lv (.int x :: st) σ K) : Wz E Y pc lv (.int 0 :: .int x :: st) σ K := z_ishr d (by
  have e : x >>> ((0 : Int32) &&& 31) = x := by
    rw [show ((0 : Int32) &&& 31) = 0 by decide]
    first | exact Int32.shiftRight_zero | simp | (apply Int32.toBitVec_inj.mp; simp)
  rw [e]; exact k)
theorem sln_i (i : Nat) : (Int32.ofNat (SLN.getD i 0)).toInt = ((SLN.getD i 0 : Nat) : Int) := by
  by_cases h : i < 21
  · have : ∀ j : Fin 21, (Int32.ofNat (SLN.getD j.1 0)).toInt = ((SLN.getD j.1 0 : Nat) : Int) := by decide
    exact this ⟨i, h⟩
  · have e : SLN.getD i 0 = 0 := by
      rw [List.getD_eq_getElem?_getD, List.getElem?_eq_none (by show 21 ≤ i; omega)]; rfl
    rw [e]; rfl
/-- places of a word -/
noncomputable def W_JS_checkIndex (a0 a1 : Int32) (σ : zS) (Q : Unit → zS → Prop) : Prop := (0 ≤ a0.toInt ∧ a0.toInt < a1.toInt) ∧ Q () σ
theorem sF_JS_checkIndex {E : xV} {σ : zS} {K : zKt} {a0 a1 : Int32} {Q : Unit → zS → Prop} (h : W_JS_checkIndex a0 a1 σ Q) (k : ∀ v s, Q v s → K none s) : Cz E Y_JS_checkIndex [.int a0, .int a1] σ K := by
  have z : (0 : Int32).toInt = 0 := by decide
  exact z_checkIndex (fun q => by rw [Int32.lt_iff_toInt_lt, z] at q; exact absurd h.1.1 (by omega)) (Int32.lt_iff_toInt_lt.mpr h.1.2) (k _ _ h.2)
theorem nch {v : Int32} (h : 0 ≤ v.toInt ∧ v.toInt ≤ 65535) : narrow .char (.int v) = .int v := congrArg Value.int ((i2c_ok v).2 h.1 h.2)
theorem i2c_i (x : Int32) : ((Int32.toUInt32 x % 65536).toInt32).toInt = x.toInt % 65536 := by
  have h1 : x.toInt = x.toBitVec.toInt := rfl
  have h2 : ((Int32.toUInt32 x % 65536).toInt32).toInt = (Int32.toUInt32 x % 65536).toBitVec.toInt := rfl
  have h3 : (Int32.toUInt32 x % 65536).toBitVec.toNat = x.toBitVec.toNat % 65536 := rfl
  rw [h1, h2, BitVec.toInt_eq_toNat_cond, BitVec.toInt_eq_toNat_cond, h3]
  have h4 : x.toBitVec.toNat < 2 ^ 32 := x.toBitVec.isLt
  split <;> split <;> omega
theorem w_putj {E : xV} {Y : xY} {pc pc' : Nat} {lv : List (Nat × Value)} {st : List Value} {σ : zS} {K : zKt} {k j idx ci t : Nat} {v : Int64} (F : FxJ Y.1.cls idx ci j) (h : KfA k j ci 1 t) (d : decode Y.2.1 pc = .ok (.putfield idx, 3) ∧ pc + 3 = pc') (kk : Wz E Y pc' lv st (zJ σ k j v) K) : Wz E Y pc lv (.long v :: .ref k :: st) σ K := by
  obtain ⟨h1, h2, ⟨l, h3, h4⟩, _⟩ := h
  exact z_putj F h1 h3 h2 h4 d kk

end
end
