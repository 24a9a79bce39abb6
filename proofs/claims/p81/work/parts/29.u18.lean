section
section
/-! ===== what a rule says, in the reference ===== -/
noncomputable def unM (σ : zS) : Nat → Int → Int → Prop
  | 0, _, _ => False
  | n + 1, x, o => x ≠ -4 ∧ (x = o ∨ ((σ.1 127 x.toNat).toInt = 0 ∧ unM σ n (σ.1 125 x.toNat).toInt o))
noncomputable def dpM (σ : zS) : Nat → Int → Nat
  | 0, _ => 0
  | n + 1, x => if x = -4 then 0 else dpM σ n (σ.1 125 x.toNat).toInt + 1
/-- places of things are things of a lower rank, or none -/
noncomputable def TrM (σ : zS) (rk : Nat → Nat) : Prop := ∀ x, x < 40 → rk x < 40 ∧ ((σ.1 125 x).toInt = -4 ∨ ((0 ≤ (σ.1 125 x).toInt ∧ (σ.1 125 x).toInt ≤ 39) ∧ rk (σ.1 125 x).toInt.toNat < rk x))
theorem um_y {σ : zS} {n k : Nat} {x o : Int} (hk : x = (k : Int)) (e : x = o) : unM σ (n + 1) x o := ⟨by omega, Or.inl e⟩
theorem um_c {σ : zS} {n k : Nat} {x o : Int} (hk : x = (k : Int)) (e : x ≠ o) (hc : (σ.1 127 k).toInt ≠ 0) : ¬ unM σ (n + 1) x o := by
  intro q
  rcases q.2 with q | q
  · exact e q
  · rw [hk] at q; exact hc q.1
theorem um_4 {σ : zS} {n : Nat} {x o : Int} (h : x = -4) : ¬ unM σ n x o := by
  cases n with
  | zero => exact fun q => q
  | succ n => exact fun q => q.1 h
theorem um_e {σ : zS} {n k : Nat} {x o : Int} (hk : x = (k : Int)) (e : x ≠ o) (hp : (σ.1 125 k).toInt = -4) : ¬ unM σ (n + 1) x o := by
  intro q
  rcases q.2 with q | q
  · exact e q
  · rw [hk] at q; exact um_4 hp q.2
theorem um_s {σ : zS} {n k : Nat} {x o : Int} (hk : x = (k : Int)) (e : x ≠ o) (hc : (σ.1 127 k).toInt = 0) : unM σ (n + 1) x o ↔ unM σ n (σ.1 125 k).toInt o := by
  subst hk
  constructor
  · intro q
    rcases q.2 with q | q
    · exact absurd q e
    · exact q.2
  · intro q; exact ⟨by omega, Or.inr ⟨hc, q⟩⟩
theorem dm_s {σ : zS} {n k : Nat} {x : Int} (hk : x = (k : Int)) : dpM σ (n + 1) x = dpM σ n (σ.1 125 k).toInt + 1 := by
  subst hk
  show (if ((k : Nat) : Int) = -4 then 0 else dpM σ n (σ.1 125 ((k : Nat) : Int).toNat).toInt + 1) = _
  rw [if_neg (by omega)]; rfl
theorem dm_4 {σ : zS} {n : Nat} {x : Int} (h : x = -4) : dpM σ n x = 0 := by
  cases n with
  | zero => rfl
  | succ n => show (if x = -4 then 0 else _) = 0; rw [if_pos h]
theorem dm_le {σ : zS} : ∀ {n : Nat} {x : Int}, dpM σ n x ≤ n
  | 0, _ => Nat.le_refl 0
  | n + 1, x => by
    show (if x = -4 then 0 else dpM σ n (σ.1 125 x.toNat).toInt + 1) ≤ n + 1
    split
    · omega
    · have := dm_le (σ := σ) (n := n) (x := (σ.1 125 x.toNat).toInt); omega
/-- more steps than the rank are no more -/
theorem um_more {σ : zS} {rk : Nat → Nat} (ht : TrM σ rk) {o : Int} : ∀ {j m x : Nat}, x < 40 → rk x < j → j ≤ m → (unM σ m (x : Int) o ↔ unM σ j (x : Int) o)
  | 0, m, x, _, h, _ => by omega
  | j + 1, 0, x, _, _, h => by omega
  | j + 1, m + 1, x, hx, h, hm => by
    have h1 := (ht x hx).2
    have key : unM σ m (σ.1 125 x).toInt o ↔ unM σ j (σ.1 125 x).toInt o := by
      rcases h1 with h1 | ⟨h1, h2⟩
      · exact ⟨fun q => absurd q (um_4 h1), fun q => absurd q (um_4 h1)⟩
      · have := um_more ht (o := o) (j := j) (m := m) (x := (σ.1 125 x).toInt.toNat) (by omega) (by omega) (by omega)
        rw [show (((σ.1 125 x).toInt.toNat : Nat) : Int) = (σ.1 125 x).toInt by omega] at this
        exact this
    constructor
    · intro q; exact ⟨q.1, q.2.imp id (fun z => ⟨z.1, key.mp z.2⟩)⟩
    · intro q; exact ⟨q.1, q.2.imp id (fun z => ⟨z.1, key.mpr z.2⟩)⟩
theorem dm_more {σ : zS} {rk : Nat → Nat} (ht : TrM σ rk) : ∀ {j m x : Nat}, x < 40 → rk x < j → j ≤ m → dpM σ m (x : Int) = dpM σ j (x : Int)
  | 0, m, x, _, h, _ => by omega
  | j + 1, 0, x, _, _, h => by omega
  | j + 1, m + 1, x, hx, h, hm => by
    rw [dm_s rfl, dm_s rfl]
    rcases (ht x hx).2 with h1 | ⟨h1, h2⟩
    · rw [dm_4 h1, dm_4 h1]
    · have := dm_more ht (j := j) (m := m) (x := (σ.1 125 x).toInt.toNat) (by omega) (by omega) (by omega)
      rw [show (((σ.1 125 x).toInt.toNat : Nat) : Int) = (σ.1 125 x).toInt by omega] at this
      rw [this]
noncomputable abbrev rM (σ : zS) (k r : Nat) : Int := (σ.1 k r).toInt
/-- how a rule's place is counted -/
noncomputable def rpM (said : Int) : Int := if said = 0 then 0 else if said = 3 then 1 else if said = 2 then 2 else 3
noncomputable def gpM (σ : zS) (way : Int) (r : Nat) : Int := if way = 2 then (if rM σ 136 r = 0 then 0 else 1 + 2 * ((dpM σ 40 (σ.1 125 (rM σ 137 r).toNat).toInt : Nat) : Int) + (if rM σ 136 r = 1 then 1 else 0)) else if way = 3 then rM σ 133 r else 0
noncomputable def plMq (σ : zS) (way : Int) (r : Nat) (said : Int) : Int := if way = 0 then 0 else 4 * (100 - gpM σ way r) + rpM said
theorem pq_put {σ : zS} {way said z g : Int} {r : Nat} {s q : Int32} (hw : way ≠ 0) (hs : s.toInt = g) (hg : g = gpM σ way r) (hb : 0 ≤ g ∧ g ≤ 1000) (hq : q.toInt = z) (hz : z = rpM said) : (4 * (100 - s) + q).toInt = plMq σ way r said := by
  have e4 : (4 : Int32).toInt = 4 := by decide
  have e100 : (100 : Int32).toInt = 100 := by decide
  have e1 : (100 - s).toInt = 100 - g := by rw [i32_sub (by omega), e100, hs]
  have e2 : (4 * (100 - s)).toInt = 4 * (100 - g) := by rw [Int32.toInt_mul, e4, e1, Int.bmod_eq_of_le (by omega) (by omega)]
  have e3 : 0 ≤ rpM said ∧ rpM said ≤ 3 := by
    unfold rpM
    by_cases h0 : said = 0
    · rw [if_pos h0]; omega
    · rw [if_neg h0]
      by_cases h1 : said = 3
      · rw [if_pos h1]; omega
      · rw [if_neg h1]; split <;> omega
  unfold plMq
  rw [if_neg hw, i32_add (by omega), e2, hq, hg, hz]
theorem rp_0 {s : Int} (h : s = 0) : (0 : Int) = rpM s := by unfold rpM; rw [if_pos h]
theorem rp_1 {s : Int} (h : s = 3) : (1 : Int) = rpM s := by unfold rpM; rw [if_neg (by omega), if_pos h]
theorem rp_2 {s : Int} (h : s = 2) : (2 : Int) = rpM s := by unfold rpM; rw [if_neg (by omega), if_neg (by omega), if_pos h]
theorem rp_3 {s : Int} (h : ¬ (s = 0 ∨ s = 3 ∨ s = 2)) : (3 : Int) = rpM s := by unfold rpM; rw [if_neg (by omega), if_neg (by omega), if_neg (by omega)]
/-! ===== what an act holds, in the reference ===== -/
noncomputable def hoR (σ : zS) (a b : Nat) : Prop := (σ.1 129 (6 * a + b)).toInt ≠ 0
noncomputable def rcN (σ : zS) : Nat → Nat → Nat → Prop
  | 0, a, b => a = b
  | n + 1, a, b => rcN σ n a b ∨ ∃ c, c < 6 ∧ rcN σ n a c ∧ hoR σ c b
/-- b is held by a -/
noncomputable def RcH (σ : zS) (a b : Nat) : Prop := ∃ n, rcN σ n a b
theorem RcH.st {σ : zS} {a c b : Nat} (h : RcH σ a c) (hc : c < 6) (e : hoR σ c b) : RcH σ a b := by
  obtain ⟨n, h⟩ := h
  exact ⟨n + 1, Or.inr ⟨c, hc, h, e⟩⟩
noncomputable def InH (σ : zS) (act B : Nat) : Prop := B < 64 ∧ B.testBit act = true ∧ ∀ b, b < 6 → B.testBit b = true → RcH σ act b
noncomputable def PsH (σ : zS) (act B0 B a b : Nat) : Prop := (∀ i, B0.testBit i = true → B.testBit i = true) ∧ (∀ a' b', a' < 6 → b' < 6 → (a' < a ∨ (a' = a ∧ b' < b)) → B0.testBit a' = true → hoR σ a' b' → B.testBit b' = true) ∧ InH σ act B
theorem or_64 : ∀ B, B < 64 → ∀ b, b < 6 → Int32.ofNat B ||| ((1 : Int32) <<< (Int32.ofNat b &&& 31)) = Int32.ofNat (B ||| 2 ^ b) ∧ (B ||| 2 ^ b) < 64 := by decide +kernel
theorem bt_64 : ∀ B, B < 64 → ∀ n, n < 6 → (btC (Int32.ofNat B) (Int32.ofNat n) ↔ B.testBit n = true) := by decide +kernel
theorem or_0h : ∀ B, B < 64 → Int32.ofNat B ||| 0 = Int32.ofNat B := by decide +kernel
theorem sh_1 : ∀ n, n < 6 → ((1 : Int32) <<< (Int32.ofNat n &&& 31)) = Int32.ofNat (2 ^ n) ∧ (2 : Nat) ^ n < 64 := by decide +kernel
theorem of_inj : ∀ A, A < 64 → ∀ B, B < 64 → Int32.ofNat A = Int32.ofNat B → A = B := by
  intro A hA B hB h
  have e : ∀ X, X < 64 → (Int32.ofNat X).toInt = (X : Int) := by decide +kernel
  have := congrArg Int32.toInt h
  rw [e A hA, e B hB] at this
  omega
theorem i32_n {x : Int32} {n : Nat} (h : x.toInt = (n : Int)) : x = Int32.ofNat n := by
  rw [i32_of h]
  first | exact Int32.ofInt_eq_ofNat | exact (Int32.ofInt_eq_ofNat n) | exact (Int32.ofInt_natCast n) | rfl | (apply Int32.toBitVec_inj.mp; simp)
theorem tb_or {B b i : Nat} : (B ||| 2 ^ b).testBit i = (B.testBit i || decide (b = i)) := by rw [Nat.testBit_or, Nat.testBit_two_pow]
theorem sub_le {A B : Nat} (h : ∀ i, A.testBit i = true → B.testBit i = true) : A ≤ B := by
  have e : A ||| B = B := by
    apply Nat.eq_of_testBit_eq
    intro i
    rw [Nat.testBit_or]
    cases ha : A.testBit i with
    | false => rfl
    | true => rw [h i ha]; rfl
  rw [← e]; exact Nat.left_le_or
/-- one place more -/
theorem ps_add {σ : zS} {act B0 B a b : Nat} (h : PsH σ act B0 B a b) (ha : a < 6) (hb : b < 6) (hB : B.testBit a = true) (he : hoR σ a b) : PsH σ act B0 (B ||| 2 ^ b) a (b + 1) := by
  obtain ⟨h1, h2, h3, h4, h5⟩ := h
  have up : ∀ i, B.testBit i = true → (B ||| 2 ^ b).testBit i = true := fun i hi => by rw [tb_or, hi]; rfl
  refine ⟨fun i hi => up i (h1 i hi), fun a' b' p q r s t => ?_, (or_64 B h3 b hb).2, up act h4, fun i hi q => ?_⟩
  · by_cases e : a' = a ∧ b' = b
    · rw [tb_or, e.2]; simp
    · exact up b' (h2 a' b' p q (by omega) s t)
  · rw [tb_or, Bool.or_eq_true] at q
    rcases q with q | q
    · exact h5 i hi q
    · have := of_decide_eq_true q
      subst this
      exact (h5 a ha hB).st ha he
theorem ps_not {σ : zS} {act B0 B a b : Nat} (h : PsH σ act B0 B a b) (hn : ¬ (B.testBit a = true ∧ hoR σ a b)) : PsH σ act B0 B a (b + 1) := by
  obtain ⟨h1, h2, h3⟩ := h
  refine ⟨h1, fun a' b' p q r s t => ?_, h3⟩
  by_cases e : a' = a ∧ b' = b
  · rw [e.1] at s t
    rw [e.2] at t
    exact absurd ⟨h1 a s, t⟩ hn
  · exact h2 a' b' p q (by omega) s t
theorem ps_row {σ : zS} {act B0 B a : Nat} (h : PsH σ act B0 B a 6) : PsH σ act B0 B (a + 1) 0 := ⟨h.1, fun a' b' p q r s t => h.2.1 a' b' p q (by omega) s t, h.2.2⟩
theorem ps_go {σ : zS} {act B0 B : Nat} (h : PsH σ act B0 B 6 0) : PsH σ act B B 0 0 := ⟨fun _ q => q, fun a' b' p q r => by omega, h.2.2⟩
theorem ps_first {σ : zS} {act : Nat} (ha : act < 6) : PsH σ act 0 (2 ^ act) 6 0 := by
  refine ⟨fun i q => (by rw [Nat.zero_testBit] at q; cases q), fun a' b' p q r s => (by rw [Nat.zero_testBit] at s; cases s), (sh_1 act ha).2, (by rw [Nat.testBit_two_pow]; simp), fun b hb q => ?_⟩
  rw [Nat.testBit_two_pow] at q
  have q' : act = b := of_decide_eq_true q
  exact ⟨0, q'⟩
theorem ps_end {σ : zS} {act B0 B b : Nat} (h : PsH σ act B0 B 6 0) (e : B = B0) (hb : b < 6) : B.testBit b = true ↔ RcH σ act b := by
  subst e
  refine ⟨h.2.2.2.2 b hb, fun ⟨n, q⟩ => ?_⟩
  have key : ∀ n b, b < 6 → rcN σ n act b → B.testBit b = true := by
    intro n
    induction n with
    | zero => intro b _ q; have q : act = b := q; subst q; exact h.2.2.2.1
    | succ n ih =>
      intro b hb q
      rcases q with q | ⟨c, hc, q, e⟩
      · exact ih b hb q
      · exact h.2.1 c b hc hb (by omega) (ih c hc q) e
  exact key n b hb q
theorem ix_6 {a b : Int32} {an bn : Nat} (ha : a.toInt = (an : Int)) (hb : b.toInt = (bn : Int)) (h1 : an < 6) (h2 : bn < 6) : (6 * a + b).toInt = ((6 * an + bn : Nat) : Int) := by
  have e : (6 : Int32).toInt = 6 := by decide
  have e1 : (6 * a).toInt = 6 * (an : Int) := by rw [Int32.toInt_mul, e, ha, Int.bmod_eq_of_le (by omega) (by omega)]
  rw [i32_add (by omega), e1, hb]; rfl

end
end
section
section
theorem fxe_13_472 : FxE "RightsHouseModel" 472 11 26 := fx_e (m := 284) (t := 1) rfl (by decide) (by decide +kernel)
theorem fxe_13_58 : FxE "RightsHouseModel" 58 11 21 := fx_e (m := 284) (t := 3) rfl (by decide) (by decide +kernel)
theorem fxe_13_64 : FxE "RightsHouseModel" 64 11 23 := fx_e (m := 284) (t := 3) rfl (by decide) (by decide +kernel)
theorem fxe_13_70 : FxE "RightsHouseModel" 70 11 25 := fx_e (m := 284) (t := 3) rfl (by decide) (by decide +kernel)
theorem fxe_13_82 : FxE "RightsHouseModel" 82 11 36 := fx_e (m := 284) (t := 3) rfl (by decide) (by decide +kernel)
theorem fxe_13_91 : FxE "RightsHouseModel" 91 11 39 := fx_e (m := 284) (t := 3) rfl (by decide) (by decide +kernel)
theorem fxe_13_94 : FxE "RightsHouseModel" 94 11 40 := fx_e (m := 284) (t := 3) rfl (by decide) (by decide +kernel)
theorem kaa_125 : KaA 125 100 40 := ka_a (by decide +kernel)
theorem kaa_127 : KaA 127 102 40 := ka_a (by decide +kernel)
theorem kaa_129 : KaA 129 102 36 := ka_a (by decide +kernel)
theorem kaa_133 : KaA 133 100 240 := ka_a (by decide +kernel)
theorem kaa_136 : KaA 136 100 240 := ka_a (by decide +kernel)
theorem kaa_137 : KaA 137 100 240 := ka_a (by decide +kernel)
theorem kfa_110_21 : KfA 110 21 11 2 125 := kf_a (by decide) (by decide +kernel)
theorem kfa_110_23 : KfA 110 23 11 2 127 := kf_a (by decide) (by decide +kernel)
theorem kfa_110_25 : KfA 110 25 11 2 129 := kf_a (by decide) (by decide +kernel)
theorem kfa_110_26 : KfA 110 26 11 0 0 := kf_a (by decide) (by decide +kernel)
theorem kfa_110_36 : KfA 110 36 11 2 133 := kf_a (by decide) (by decide +kernel)
theorem kfa_110_39 : KfA 110 39 11 2 136 := kf_a (by decide) (by decide +kernel)
theorem kfa_110_40 : KfA 110 40 11 2 137 := kf_a (by decide) (by decide +kernel)
theorem run_M_isUnder_l {E : xV} {σ : zS} {K : zKt} {t ot : Int32} {rk : Nat → Nat} (ht : TrM σ rk) : ∀ (j : Nat) {x : Int32} {n : Nat}, x.toInt = (n : Int) → n < 40 → rk n < j → (∀ v : Int32, (v = 1 ∧ unM σ j x.toInt ot.toInt) ∨ (v = 0 ∧ ¬ unM σ j x.toInt ot.toInt) → K (some (.int v)) σ) → Wz E Y_M_isUnder 2 [(3, .int x), (0, .ref 110), (1, .int t), (2, .int ot)] [] σ K
  | 0, x, n, hx, hn, hk, k => by
    refine z_iload_n (f := 3) (i := 3) (q := 0) (pc' := 3) ⟨by decide +kernel, rfl⟩ rfl rfl ?_
    refine z_iload_n (f := 2) (i := 2) (q := 3) (pc' := 4) ⟨by decide +kernel, rfl⟩ rfl rfl ?_
    refine z_icmp_eq (off := 33) (tgt := 37) (pc' := 7) ⟨by decide +kernel, by decide, rfl⟩ (fun h1 => ?_) (fun h1 => ?_)
    · have z0L : (0 : Int64).toInt = 0 := by decide
      have gh1 := j_eq_t h1
      exfalso
      omega
    · have z0L : (0 : Int64).toInt = 0 := by decide
      have gh1 := j_eq_f h1
      exfalso
      omega
  | j + 1, x, n, hx, hn, hk, k => by
    have ih := @run_M_isUnder_l E σ K t ot rk ht j
    refine z_iload_n (f := 3) (i := 3) (q := 0) (pc' := 3) ⟨by decide +kernel, rfl⟩ rfl rfl ?_
    refine z_iload_n (f := 2) (i := 2) (q := 3) (pc' := 4) ⟨by decide +kernel, rfl⟩ rfl rfl ?_
    refine z_icmp_eq (off := 33) (tgt := 37) (pc' := 7) ⟨by decide +kernel, by decide, rfl⟩ (fun h1 => ?_) (fun h1 => ?_)
    · refine z_iload_n (f := 3) (i := 3) (q := 0) (pc' := 38) ⟨by decide +kernel, rfl⟩ rfl rfl ?_
      refine z_iload_n (f := 2) (i := 2) (q := 3) (pc' := 39) ⟨by decide +kernel, rfl⟩ rfl rfl ?_
      refine z_icmp_ne (off := 7) (tgt := 46) (pc' := 42) ⟨by decide +kernel, by decide, rfl⟩ (fun h2 => ?_) (fun h2 => ?_)
      · refine z_iconst (i := 0) (v := 0) (pc' := 47) ⟨by decide +kernel, rfl⟩ (by decide) ?_
        refine z_iret (ty := .boolean) rfl rfl (by decide +kernel) ?_
        have z0L : (0 : Int64).toInt = 0 := by decide
        have gh1 := j_eq_t h1
        have gh2 := j_ne_t h2
        exfalso
        omega
      · refine z_iconst (i := 1) (v := 1) (pc' := 43) ⟨by decide +kernel, rfl⟩ (by decide) ?_
        refine z_goto (off := 4) (tgt := 47) (pc' := 46) ⟨by decide +kernel, by decide, rfl⟩ ?_
        refine z_iret (ty := .boolean) rfl rfl (by decide +kernel) ?_
        have z0L : (0 : Int64).toInt = 0 := by decide
        have gh1 := j_eq_t h1
        have gh2 := j_ne_f h2
        exact k _ (Or.inl ⟨rfl, um_y hx (by omega)⟩)
    · refine z_aload_n (f := 0) (i := 0) (q := 1) (pc' := 8) ⟨by decide +kernel, rfl⟩ rfl rfl ?_
      refine w_getr (k := 110) (j := 23) (idx := 64) (pc' := 11) fxe_13_64 kfa_110_23 ⟨by decide +kernel, rfl⟩ ?_
      refine z_iload_n (f := 3) (i := 3) (q := 0) (pc' := 12) ⟨by decide +kernel, rfl⟩ rfl rfl ?_
      refine w_zald (k := 127) (n := n) (pc' := 13) kaa_127 (hx) (hn) ⟨by decide +kernel, rfl⟩ ?_
      refine z_if_ne (off := 24) (tgt := 37) (pc' := 16) ⟨by decide +kernel, by decide, rfl⟩ (fun h3 => ?_) (fun h3 => ?_)
      · refine z_iload_n (f := 3) (i := 3) (q := 0) (pc' := 38) ⟨by decide +kernel, rfl⟩ rfl rfl ?_
        refine z_iload_n (f := 2) (i := 2) (q := 3) (pc' := 39) ⟨by decide +kernel, rfl⟩ rfl rfl ?_
        refine z_icmp_ne (off := 7) (tgt := 46) (pc' := 42) ⟨by decide +kernel, by decide, rfl⟩ (fun h4 => ?_) (fun h4 => ?_)
        · refine z_iconst (i := 0) (v := 0) (pc' := 47) ⟨by decide +kernel, rfl⟩ (by decide) ?_
          refine z_iret (ty := .boolean) rfl rfl (by decide +kernel) ?_
          have z0L : (0 : Int64).toInt = 0 := by decide
          have z0 : (0 : Int32).toInt = 0 := by decide
          have gh1 := j_eq_f h1
          have gh3 := j_ne_t (y := 0) h3
          have gh4 := j_ne_t h4
          exact k _ (Or.inr ⟨rfl, um_c hx (by omega) (by omega)⟩)
        · refine z_iconst (i := 1) (v := 1) (pc' := 43) ⟨by decide +kernel, rfl⟩ (by decide) ?_
          refine z_goto (off := 4) (tgt := 47) (pc' := 46) ⟨by decide +kernel, by decide, rfl⟩ ?_
          refine z_iret (ty := .boolean) rfl rfl (by decide +kernel) ?_
          have z0L : (0 : Int64).toInt = 0 := by decide
          have z0 : (0 : Int32).toInt = 0 := by decide
          have gh1 := j_eq_f h1
          have gh3 := j_ne_t (y := 0) h3
          have gh4 := j_ne_f h4
          exfalso
          omega
      · refine z_aload_n (f := 0) (i := 0) (q := 1) (pc' := 17) ⟨by decide +kernel, rfl⟩ rfl rfl ?_
        refine w_getr (k := 110) (j := 21) (idx := 58) (pc' := 20) fxe_13_58 kfa_110_21 ⟨by decide +kernel, rfl⟩ ?_
        refine z_iload_n (f := 3) (i := 3) (q := 0) (pc' := 21) ⟨by decide +kernel, rfl⟩ rfl rfl ?_
        refine w_iald (k := 125) (n := n) (pc' := 22) kaa_125 (hx) (hn) ⟨by decide +kernel, rfl⟩ ?_
        refine z_bipush (i := (-4)) (v := (-4)) (pc' := 24) ⟨by decide +kernel, rfl⟩ (by decide) ?_
        refine z_icmp_eq (off := 13) (tgt := 37) (pc' := 27) ⟨by decide +kernel, by decide, rfl⟩ (fun h5 => ?_) (fun h5 => ?_)
        · refine z_iload_n (f := 3) (i := 3) (q := 0) (pc' := 38) ⟨by decide +kernel, rfl⟩ rfl rfl ?_
          refine z_iload_n (f := 2) (i := 2) (q := 3) (pc' := 39) ⟨by decide +kernel, rfl⟩ rfl rfl ?_
          refine z_icmp_ne (off := 7) (tgt := 46) (pc' := 42) ⟨by decide +kernel, by decide, rfl⟩ (fun h6 => ?_) (fun h6 => ?_)
          · refine z_iconst (i := 0) (v := 0) (pc' := 47) ⟨by decide +kernel, rfl⟩ (by decide) ?_
            refine z_iret (ty := .boolean) rfl rfl (by decide +kernel) ?_
            have z0L : (0 : Int64).toInt = 0 := by decide
            have z__4_ : ((-4) : Int32).toInt = (-4) := by decide
            have z0 : (0 : Int32).toInt = 0 := by decide
            have gh1 := j_eq_f h1
            have gh3 := j_ne_f (y := 0) h3
            have gh5 := j_eq_t h5
            have gh6 := j_ne_t h6
            exact k _ (Or.inr ⟨rfl, um_e hx (by omega) (by omega)⟩)
          · refine z_iconst (i := 1) (v := 1) (pc' := 43) ⟨by decide +kernel, rfl⟩ (by decide) ?_
            refine z_goto (off := 4) (tgt := 47) (pc' := 46) ⟨by decide +kernel, by decide, rfl⟩ ?_
            refine z_iret (ty := .boolean) rfl rfl (by decide +kernel) ?_
            have z0L : (0 : Int64).toInt = 0 := by decide
            have z__4_ : ((-4) : Int32).toInt = (-4) := by decide
            have z0 : (0 : Int32).toInt = 0 := by decide
            have gh1 := j_eq_f h1
            have gh3 := j_ne_f (y := 0) h3
            have gh5 := j_eq_t h5
            have gh6 := j_ne_f h6
            exfalso
            omega
        · refine z_aload_n (f := 0) (i := 0) (q := 1) (pc' := 28) ⟨by decide +kernel, rfl⟩ rfl rfl ?_
          refine w_getr (k := 110) (j := 21) (idx := 58) (pc' := 31) fxe_13_58 kfa_110_21 ⟨by decide +kernel, rfl⟩ ?_
          refine z_iload_n (f := 3) (i := 3) (q := 0) (pc' := 32) ⟨by decide +kernel, rfl⟩ rfl rfl ?_
          refine w_iald (k := 125) (n := n) (pc' := 33) kaa_125 (hx) (hn) ⟨by decide +kernel, rfl⟩ ?_
          refine z_istore_n (f := 3) (i := 3) (pc' := 34) ⟨by decide +kernel, rfl⟩ rfl (by decide) rfl ?_
          show Wz E Y_M_isUnder 34 [(3, .int (σ.1 125 n)), (0, .ref 110), (1, .int t), (2, .int ot)] [] σ K
          refine z_goto (off := (-32)) (tgt := 2) (pc' := 37) ⟨by decide +kernel, by decide, rfl⟩ ?_
          have z0L : (0 : Int64).toInt = 0 := by decide
          have z__4_ : ((-4) : Int32).toInt = (-4) := by decide
          have z0 : (0 : Int32).toInt = 0 := by decide
          have gh1 := j_eq_f h1
          have gh3 := j_ne_f (y := 0) h3
          have gh5 := j_eq_f h5
          have hp := (ht n hn).2
          have us := um_s (σ := σ) (n := j) (o := ot.toInt) hx (by omega) (by omega)
          exact ih (n := (σ.1 125 n).toInt.toNat) (by omega) (by omega) (by omega) (fun v q => k v (by rw [us]; exact q))
theorem run_M_isUnder {E : xV} {σ : zS} {K : zKt} {t ot : Int32} {n : Nat} {rk : Nat → Nat} (ht : TrM σ rk) (hx : t.toInt = (n : Int)) (hn : n < 40) (k : ∀ v : Int32, (v = 1 ∧ unM σ 40 t.toInt ot.toInt) ∨ (v = 0 ∧ ¬ unM σ 40 t.toInt ot.toInt) → K (some (.int v)) σ) : Wz E Y_M_isUnder 0 [(0, .ref 110), (1, .int t), (2, .int ot)] [] σ K := by
  refine z_iload_n (f := 1) (i := 1) (q := 1) (pc' := 1) ⟨by decide +kernel, rfl⟩ rfl rfl ?_
  refine z_istore_n (f := 3) (i := 3) (pc' := 2) ⟨by decide +kernel, rfl⟩ rfl (by decide) rfl ?_
  show Wz E Y_M_isUnder 2 [(3, .int t), (0, .ref 110), (1, .int t), (2, .int ot)] [] σ K
  have z0L : (0 : Int64).toInt = 0 := by decide
  have hr := ht n hn
  exact run_M_isUnder_l ht 40 hx hn hr.1 k
theorem cz_M_isUnder {E : xV} {σ : zS} {K : zKt} {t ot : Int32} {n : Nat} {rk : Nat → Nat} (ht : TrM σ rk) (hx : t.toInt = (n : Int)) (hn : n < 40) (k : ∀ v : Int32, (v = 1 ∧ unM σ 40 t.toInt ot.toInt) ∨ (v = 0 ∧ ¬ unM σ 40 t.toInt ot.toInt) → K (some (.int v)) σ) : Cz E Y_M_isUnder [.ref 110, .int t, .int ot] σ K := z_entry (by decide) (fun a => by rw [sl_len]; exact Nat.le_of_ble_eq_true rfl) rfl (run_M_isUnder ht hx hn k)
theorem run_M_depthOf_l {E : xV} {σ : zS} {K : zKt} {t : Int32} {rk : Nat → Nat} (ht : TrM σ rk) : ∀ (j : Nat) {x d : Int32}, (x.toInt = -4 ∨ ((0 ≤ x.toInt ∧ x.toInt ≤ 39) ∧ rk x.toInt.toNat < j)) → (0 ≤ d.toInt ∧ d.toInt + j ≤ 40) → (∀ v : Int32, v.toInt = d.toInt + ((dpM σ j x.toInt : Nat) : Int) → K (some (.int v)) σ) → Wz E Y_M_depthOf 9 [(3, .int x), (2, .int d), (0, .ref 110), (1, .int t)] [] σ K
  | 0, x, d, hx, hd, k => by
    refine z_iload_n (f := 3) (i := 3) (q := 0) (pc' := 10) ⟨by decide +kernel, rfl⟩ rfl rfl ?_
    refine z_bipush (i := (-4)) (v := (-4)) (pc' := 12) ⟨by decide +kernel, rfl⟩ (by decide) ?_
    refine z_icmp_eq (off := 16) (tgt := 28) (pc' := 15) ⟨by decide +kernel, by decide, rfl⟩ (fun h1 => ?_) (fun h1 => ?_)
    · refine z_iload_n (f := 2) (i := 2) (q := 1) (pc' := 29) ⟨by decide +kernel, rfl⟩ rfl rfl ?_
      refine z_iret (ty := .int) rfl rfl (by decide +kernel) ?_
      have z0L : (0 : Int64).toInt = 0 := by decide
      have z__4_ : ((-4) : Int32).toInt = (-4) := by decide
      have gh1 := j_eq_t h1
      exact k _ (by rw [dm_4 (by omega)]; omega)
    · have z0L : (0 : Int64).toInt = 0 := by decide
      have z__4_ : ((-4) : Int32).toInt = (-4) := by decide
      have gh1 := j_eq_f h1
      exfalso
      omega
  | j + 1, x, d, hx, hd, k => by
    have ih := @run_M_depthOf_l E σ K t rk ht j
    refine z_iload_n (f := 3) (i := 3) (q := 0) (pc' := 10) ⟨by decide +kernel, rfl⟩ rfl rfl ?_
    refine z_bipush (i := (-4)) (v := (-4)) (pc' := 12) ⟨by decide +kernel, rfl⟩ (by decide) ?_
    refine z_icmp_eq (off := 16) (tgt := 28) (pc' := 15) ⟨by decide +kernel, by decide, rfl⟩ (fun h1 => ?_) (fun h1 => ?_)
    · refine z_iload_n (f := 2) (i := 2) (q := 1) (pc' := 29) ⟨by decide +kernel, rfl⟩ rfl rfl ?_
      refine z_iret (ty := .int) rfl rfl (by decide +kernel) ?_
      have z0L : (0 : Int64).toInt = 0 := by decide
      have z__4_ : ((-4) : Int32).toInt = (-4) := by decide
      have gh1 := j_eq_t h1
      exact k _ (by rw [dm_4 (by omega)]; omega)
    · refine z_iinc (i := 2) (z := 1) (q := 1) (pc' := 18) ⟨by decide +kernel, rfl⟩ rfl rfl (by decide) rfl ?_
      show Wz E Y_M_depthOf 18 [(2, .int (d + Int32.ofInt 1)), (3, .int x), (0, .ref 110), (1, .int t)] [] σ K
      refine z_aload_n (f := 0) (i := 0) (q := 2) (pc' := 19) ⟨by decide +kernel, rfl⟩ rfl rfl ?_
      refine w_getr (k := 110) (j := 21) (idx := 58) (pc' := 22) fxe_13_58 kfa_110_21 ⟨by decide +kernel, rfl⟩ ?_
      refine z_iload_n (f := 3) (i := 3) (q := 1) (pc' := 23) ⟨by decide +kernel, rfl⟩ rfl rfl ?_
      refine w_iald (k := 125) (n := x.toInt.toNat) (pc' := 24) kaa_125 (by have q := j_eq_f h1; have z4 : (-4 : Int32).toInt = -4 := (by decide); omega) (by have q := j_eq_f h1; have z4 : (-4 : Int32).toInt = -4 := (by decide); omega) ⟨by decide +kernel, rfl⟩ ?_
      refine z_istore_n (f := 3) (i := 3) (pc' := 25) ⟨by decide +kernel, rfl⟩ rfl (by decide) rfl ?_
      show Wz E Y_M_depthOf 25 [(3, .int (σ.1 125 x.toInt.toNat)), (2, .int (d + Int32.ofInt 1)), (0, .ref 110), (1, .int t)] [] σ K
      refine z_goto (off := (-16)) (tgt := 9) (pc' := 28) ⟨by decide +kernel, by decide, rfl⟩ ?_
      have z0L : (0 : Int64).toInt = 0 := by decide
      have z__4_ : ((-4) : Int32).toInt = (-4) := by decide
      have gh1 := j_eq_f h1
      have e1 : (Int32.ofInt 1).toInt = 1 := by decide
      have hp := (ht x.toInt.toNat (by omega)).2
      have us := dm_s (σ := σ) (n := j) (x := x.toInt) (k := x.toInt.toNat) (by omega)
      have ed : (d + Int32.ofInt 1).toInt = d.toInt + 1 := by rw [i32_add (by rw [e1]; omega), e1]
      exact ih (hp.imp id (fun q => ⟨q.1, by omega⟩)) (by omega) (fun v q => k v (by rw [q, ed, us]; omega))
theorem run_M_depthOf {E : xV} {σ : zS} {K : zKt} {t : Int32} {n : Nat} {rk : Nat → Nat} (ht : TrM σ rk) (hx : t.toInt = (n : Int)) (hn : n < 40) (k : ∀ v : Int32, v.toInt = ((dpM σ 40 (σ.1 125 n).toInt : Nat) : Int) → K (some (.int v)) σ) : Wz E Y_M_depthOf 0 [(0, .ref 110), (1, .int t)] [] σ K := by
  refine z_iconst (i := 0) (v := 0) (pc' := 1) ⟨by decide +kernel, rfl⟩ (by decide) ?_
  refine z_istore_n (f := 2) (i := 2) (pc' := 2) ⟨by decide +kernel, rfl⟩ rfl (by decide) rfl ?_
  show Wz E Y_M_depthOf 2 [(2, .int 0), (0, .ref 110), (1, .int t)] [] σ K
  refine z_aload_n (f := 0) (i := 0) (q := 1) (pc' := 3) ⟨by decide +kernel, rfl⟩ rfl rfl ?_
  refine w_getr (k := 110) (j := 21) (idx := 58) (pc' := 6) fxe_13_58 kfa_110_21 ⟨by decide +kernel, rfl⟩ ?_
  refine z_iload_n (f := 1) (i := 1) (q := 2) (pc' := 7) ⟨by decide +kernel, rfl⟩ rfl rfl ?_
  refine w_iald (k := 125) (n := n) (pc' := 8) kaa_125 (hx) (hn) ⟨by decide +kernel, rfl⟩ ?_
  refine z_istore_n (f := 3) (i := 3) (pc' := 9) ⟨by decide +kernel, rfl⟩ rfl (by decide) rfl ?_
  show Wz E Y_M_depthOf 9 [(3, .int (σ.1 125 n)), (2, .int 0), (0, .ref 110), (1, .int t)] [] σ K
  have z0L : (0 : Int64).toInt = 0 := by decide
  have hr := ht n hn
  exact run_M_depthOf_l ht 40 (hr.2.imp id (fun q => ⟨q.1, by omega⟩)) (by decide) (fun v q => k v (by rw [q]; have z : (0 : Int32).toInt = 0 := (by decide); omega))
theorem cz_M_depthOf {E : xV} {σ : zS} {K : zKt} {t : Int32} {n : Nat} {rk : Nat → Nat} (ht : TrM σ rk) (hx : t.toInt = (n : Int)) (hn : n < 40) (k : ∀ v : Int32, v.toInt = ((dpM σ 40 (σ.1 125 n).toInt : Nat) : Int) → K (some (.int v)) σ) : Cz E Y_M_depthOf [.ref 110, .int t] σ K := z_entry (by decide) (fun a => by rw [sl_len]; exact Nat.le_of_ble_eq_true rfl) rfl (run_M_depthOf ht hx hn k)
theorem run_M_placeOf_b {E : xV} {σ : zS} {K : zKt} {q ru said way : Int32} {r : Nat} {rk : Nat → Nat} (ht : TrM σ rk) (hr : ru.toInt = (r : Int)) (hr2 : r < 240) (u3 : 0 ≤ rM σ 133 r ∧ rM σ 133 r ≤ 3) (u6 : rM σ 136 r ≠ 0 → 0 ≤ rM σ 137 r ∧ rM σ 137 r ≤ 39) (hq : q.toInt = rpM said.toInt) (k : ∀ v : Int32, v.toInt = plMq σ way.toInt r said.toInt → K (some (.int v)) σ) : Wz E Y_M_placeOf 32 [(5, .int 0), (4, .int q), (0, .ref 110), (1, .int ru), (2, .int said), (3, .int way)] [] σ K := by
  refine z_iload_n (f := 3) (i := 3) (q := 5) (pc' := 33) ⟨by decide +kernel, rfl⟩ rfl rfl ?_
  refine z_iconst (i := 2) (v := 2) (pc' := 34) ⟨by decide +kernel, rfl⟩ (by decide) ?_
  refine z_icmp_ne (off := 51) (tgt := 85) (pc' := 37) ⟨by decide +kernel, by decide, rfl⟩ (fun h1 => ?_) (fun h1 => ?_)
  · refine z_iload_n (f := 3) (i := 3) (q := 5) (pc' := 86) ⟨by decide +kernel, rfl⟩ rfl rfl ?_
    refine z_iconst (i := 3) (v := 3) (pc' := 87) ⟨by decide +kernel, rfl⟩ (by decide) ?_
    refine z_icmp_ne (off := 11) (tgt := 98) (pc' := 90) ⟨by decide +kernel, by decide, rfl⟩ (fun h2 => ?_) (fun h2 => ?_)
    · refine z_iload_n (f := 3) (i := 3) (q := 5) (pc' := 99) ⟨by decide +kernel, rfl⟩ rfl rfl ?_
      refine z_if_ne (off := 7) (tgt := 106) (pc' := 102) ⟨by decide +kernel, by decide, rfl⟩ (fun h3 => ?_) (fun h3 => ?_)
      · refine z_iconst (i := 4) (v := 4) (pc' := 107) ⟨by decide +kernel, rfl⟩ (by decide) ?_
        refine z_bipush (i := 100) (v := 100) (pc' := 109) ⟨by decide +kernel, rfl⟩ (by decide) ?_
        refine z_iload (i := 5) (q := 0) (pc' := 111) ⟨by decide +kernel, rfl⟩ rfl ?_
        refine z_isub (pc' := 112) ⟨by decide +kernel, rfl⟩ ?_
        refine z_imul (pc' := 113) ⟨by decide +kernel, rfl⟩ ?_
        refine z_iload (i := 4) (q := 1) (pc' := 115) ⟨by decide +kernel, rfl⟩ rfl ?_
        refine z_iadd (pc' := 116) ⟨by decide +kernel, rfl⟩ ?_
        refine z_iret (ty := .int) rfl rfl (by decide +kernel) ?_
        have z0L : (0 : Int64).toInt = 0 := by decide
        have z0 : (0 : Int32).toInt = 0 := by decide
        have z2 : (2 : Int32).toInt = 2 := by decide
        have z3 : (3 : Int32).toInt = 3 := by decide
        have gh1 := j_ne_t h1
        have gh2 := j_ne_t h2
        have gh3 := j_ne_t (y := 0) h3
        have e3 : (σ.1 133 r).toInt = rM σ 133 r := rfl
        have e6 : (σ.1 136 r).toInt = rM σ 136 r := rfl
        exact k _ (pq_put (g := 0) (by omega) (by decide) (by unfold gpM; rw [if_neg (by omega), if_neg (by omega)]) (by omega) rfl hq)
      · refine z_iconst (i := 0) (v := 0) (pc' := 103) ⟨by decide +kernel, rfl⟩ (by decide) ?_
        refine z_goto (off := 13) (tgt := 116) (pc' := 106) ⟨by decide +kernel, by decide, rfl⟩ ?_
        refine z_iret (ty := .int) rfl rfl (by decide +kernel) ?_
        have z0L : (0 : Int64).toInt = 0 := by decide
        have z0 : (0 : Int32).toInt = 0 := by decide
        have z2 : (2 : Int32).toInt = 2 := by decide
        have z3 : (3 : Int32).toInt = 3 := by decide
        have gh1 := j_ne_t h1
        have gh2 := j_ne_t h2
        have gh3 := j_ne_f (y := 0) h3
        exact k _ (by unfold plMq; rw [if_pos (by omega)]; decide)
    · refine z_aload_n (f := 0) (i := 0) (q := 2) (pc' := 91) ⟨by decide +kernel, rfl⟩ rfl rfl ?_
      refine w_getr (k := 110) (j := 36) (idx := 82) (pc' := 94) fxe_13_82 kfa_110_36 ⟨by decide +kernel, rfl⟩ ?_
      refine z_iload_n (f := 1) (i := 1) (q := 3) (pc' := 95) ⟨by decide +kernel, rfl⟩ rfl rfl ?_
      refine w_iald (k := 133) (n := r) (pc' := 96) kaa_133 (hr) (hr2) ⟨by decide +kernel, rfl⟩ ?_
      refine z_istore (i := 5) (pc' := 98) ⟨by decide +kernel, rfl⟩ (by decide) rfl ?_
      show Wz E Y_M_placeOf 98 [(5, .int (σ.1 133 r)), (4, .int q), (0, .ref 110), (1, .int ru), (2, .int said), (3, .int way)] [] σ K
      refine z_iload_n (f := 3) (i := 3) (q := 5) (pc' := 99) ⟨by decide +kernel, rfl⟩ rfl rfl ?_
      refine z_if_ne (off := 7) (tgt := 106) (pc' := 102) ⟨by decide +kernel, by decide, rfl⟩ (fun h4 => ?_) (fun h4 => ?_)
      · refine z_iconst (i := 4) (v := 4) (pc' := 107) ⟨by decide +kernel, rfl⟩ (by decide) ?_
        refine z_bipush (i := 100) (v := 100) (pc' := 109) ⟨by decide +kernel, rfl⟩ (by decide) ?_
        refine z_iload (i := 5) (q := 0) (pc' := 111) ⟨by decide +kernel, rfl⟩ rfl ?_
        refine z_isub (pc' := 112) ⟨by decide +kernel, rfl⟩ ?_
        refine z_imul (pc' := 113) ⟨by decide +kernel, rfl⟩ ?_
        refine z_iload (i := 4) (q := 1) (pc' := 115) ⟨by decide +kernel, rfl⟩ rfl ?_
        refine z_iadd (pc' := 116) ⟨by decide +kernel, rfl⟩ ?_
        refine z_iret (ty := .int) rfl rfl (by decide +kernel) ?_
        have z0L : (0 : Int64).toInt = 0 := by decide
        have z0 : (0 : Int32).toInt = 0 := by decide
        have z2 : (2 : Int32).toInt = 2 := by decide
        have z3 : (3 : Int32).toInt = 3 := by decide
        have gh1 := j_ne_t h1
        have gh2 := j_ne_f h2
        have gh4 := j_ne_t (y := 0) h4
        have e3 : (σ.1 133 r).toInt = rM σ 133 r := rfl
        have e6 : (σ.1 136 r).toInt = rM σ 136 r := rfl
        exact k _ (pq_put (g := rM σ 133 r) (by omega) rfl (by unfold gpM; rw [if_neg (by omega), if_pos (by omega)]) (by omega) rfl hq)
      · refine z_iconst (i := 0) (v := 0) (pc' := 103) ⟨by decide +kernel, rfl⟩ (by decide) ?_
        refine z_goto (off := 13) (tgt := 116) (pc' := 106) ⟨by decide +kernel, by decide, rfl⟩ ?_
        refine z_iret (ty := .int) rfl rfl (by decide +kernel) ?_
        have z0L : (0 : Int64).toInt = 0 := by decide
        have z0 : (0 : Int32).toInt = 0 := by decide
        have z2 : (2 : Int32).toInt = 2 := by decide
        have z3 : (3 : Int32).toInt = 3 := by decide
        have gh1 := j_ne_t h1
        have gh2 := j_ne_f h2
        have gh4 := j_ne_f (y := 0) h4
        exact k _ (by unfold plMq; rw [if_pos (by omega)]; decide)
  · refine z_aload_n (f := 0) (i := 0) (q := 2) (pc' := 38) ⟨by decide +kernel, rfl⟩ rfl rfl ?_
    refine w_getr (k := 110) (j := 39) (idx := 91) (pc' := 41) fxe_13_91 kfa_110_39 ⟨by decide +kernel, rfl⟩ ?_
    refine z_iload_n (f := 1) (i := 1) (q := 3) (pc' := 42) ⟨by decide +kernel, rfl⟩ rfl rfl ?_
    refine w_iald (k := 136) (n := r) (pc' := 43) kaa_136 (hr) (hr2) ⟨by decide +kernel, rfl⟩ ?_
    refine z_if_ne (off := 7) (tgt := 50) (pc' := 46) ⟨by decide +kernel, by decide, rfl⟩ (fun h5 => ?_) (fun h5 => ?_)
    · refine z_iconst (i := 1) (v := 1) (pc' := 51) ⟨by decide +kernel, rfl⟩ (by decide) ?_
      refine z_iconst (i := 2) (v := 2) (pc' := 52) ⟨by decide +kernel, rfl⟩ (by decide) ?_
      refine z_aload_n (f := 0) (i := 0) (q := 2) (pc' := 53) ⟨by decide +kernel, rfl⟩ rfl rfl ?_
      refine z_aload_n (f := 0) (i := 0) (q := 2) (pc' := 54) ⟨by decide +kernel, rfl⟩ rfl rfl ?_
      refine w_getr (k := 110) (j := 40) (idx := 94) (pc' := 57) fxe_13_94 kfa_110_40 ⟨by decide +kernel, rfl⟩ ?_
      refine z_iload_n (f := 1) (i := 1) (q := 3) (pc' := 58) ⟨by decide +kernel, rfl⟩ rfl rfl ?_
      refine w_iald (k := 137) (n := r) (pc' := 59) kaa_137 (hr) (hr2) ⟨by decide +kernel, rfl⟩ ?_
      refine w_invV (Z := Y_M_depthOf) (idx := 484) (kb := 110) (As := [.int (σ.1 137 r)]) (rest := [.int 2, .int 1]) (pc' := 62) cl_13_484 rfl ⟨rfl, rfl⟩ kfa_110_0 rfl ⟨⟨by decide, by decide⟩, rfl, rfl⟩ ⟨by decide +kernel, rfl⟩ rfl rfl (Nat.le_of_ble_eq_true rfl) rfl rfl ?_
      refine cz_M_depthOf (n := (rM σ 137 r).toNat) ht (by have cf : rM σ 137 r = (σ.1 137 r).toInt := rfl; show (σ.1 137 r).toInt = _; have := u6 (by have q := j_ne_t (y := 0) h5; have z0 : (0 : Int32).toInt = 0 := (by decide); show (σ.1 136 r).toInt ≠ 0; omega); omega) (by have := u6 (by have q := j_ne_t (y := 0) h5; have z0 : (0 : Int32).toInt = 0 := (by decide); show (σ.1 136 r).toInt ≠ 0; omega); omega) (fun v6 hv6 => ?_)
      show Wz E Y_M_placeOf 62 [(5, .int 0), (4, .int q), (0, .ref 110), (1, .int ru), (2, .int said), (3, .int way)] [.int v6, .int 2, .int 1] σ K
      refine z_imul (pc' := 63) ⟨by decide +kernel, rfl⟩ ?_
      refine z_iadd (pc' := 64) ⟨by decide +kernel, rfl⟩ ?_
      refine z_aload_n (f := 0) (i := 0) (q := 2) (pc' := 65) ⟨by decide +kernel, rfl⟩ rfl rfl ?_
      refine w_getr (k := 110) (j := 39) (idx := 91) (pc' := 68) fxe_13_91 kfa_110_39 ⟨by decide +kernel, rfl⟩ ?_
      refine z_iload_n (f := 1) (i := 1) (q := 3) (pc' := 69) ⟨by decide +kernel, rfl⟩ rfl rfl ?_
      refine w_iald (k := 136) (n := r) (pc' := 70) kaa_136 (hr) (hr2) ⟨by decide +kernel, rfl⟩ ?_
      refine z_iconst (i := 1) (v := 1) (pc' := 71) ⟨by decide +kernel, rfl⟩ (by decide) ?_
      refine z_icmp_ne (off := 7) (tgt := 78) (pc' := 74) ⟨by decide +kernel, by decide, rfl⟩ (fun h7 => ?_) (fun h7 => ?_)
      · refine z_iconst (i := 0) (v := 0) (pc' := 79) ⟨by decide +kernel, rfl⟩ (by decide) ?_
        refine z_iadd (pc' := 80) ⟨by decide +kernel, rfl⟩ ?_
        refine z_istore (i := 5) (pc' := 82) ⟨by decide +kernel, rfl⟩ (by decide) rfl ?_
        show Wz E Y_M_placeOf 82 [(5, .int ((1 + (2 * v6)) + 0)), (4, .int q), (0, .ref 110), (1, .int ru), (2, .int said), (3, .int way)] [] σ K
        refine z_goto (off := 16) (tgt := 98) (pc' := 85) ⟨by decide +kernel, by decide, rfl⟩ ?_
        refine z_iload_n (f := 3) (i := 3) (q := 5) (pc' := 99) ⟨by decide +kernel, rfl⟩ rfl rfl ?_
        refine z_if_ne (off := 7) (tgt := 106) (pc' := 102) ⟨by decide +kernel, by decide, rfl⟩ (fun h8 => ?_) (fun h8 => ?_)
        · refine z_iconst (i := 4) (v := 4) (pc' := 107) ⟨by decide +kernel, rfl⟩ (by decide) ?_
          refine z_bipush (i := 100) (v := 100) (pc' := 109) ⟨by decide +kernel, rfl⟩ (by decide) ?_
          refine z_iload (i := 5) (q := 0) (pc' := 111) ⟨by decide +kernel, rfl⟩ rfl ?_
          refine z_isub (pc' := 112) ⟨by decide +kernel, rfl⟩ ?_
          refine z_imul (pc' := 113) ⟨by decide +kernel, rfl⟩ ?_
          refine z_iload (i := 4) (q := 1) (pc' := 115) ⟨by decide +kernel, rfl⟩ rfl ?_
          refine z_iadd (pc' := 116) ⟨by decide +kernel, rfl⟩ ?_
          refine z_iret (ty := .int) rfl rfl (by decide +kernel) ?_
          have z0L : (0 : Int64).toInt = 0 := by decide
          have z0 : (0 : Int32).toInt = 0 := by decide
          have z1 : (1 : Int32).toInt = 1 := by decide
          have z2 : (2 : Int32).toInt = 2 := by decide
          have gh1 := j_ne_f h1
          have gh5 := j_ne_t (y := 0) h5
          have gh7 := j_ne_t h7
          have gh8 := j_ne_t (y := 0) h8
          have e3 : (σ.1 133 r).toInt = rM σ 133 r := rfl
          have e6 : (σ.1 136 r).toInt = rM σ 136 r := rfl
          have dl := dm_le (σ := σ) (n := 40) (x := (σ.1 125 (rM σ 137 r).toNat).toInt)
          have z1 : (1 : Int32).toInt = 1 := by decide
          have z2 : (2 : Int32).toInt = 2 := by decide
          have m2 : (2 * v6).toInt = 2 * v6.toInt := by rw [Int32.toInt_mul, z2, Int.bmod_eq_of_le (by omega) (by omega)]
          have m3 : (1 + 2 * v6).toInt = 1 + 2 * v6.toInt := by rw [i32_add (by omega), z1, m2]
          have zz : (0 : Int32).toInt = 0 := by decide
          exact k _ (pq_put (g := 1 + 2 * ((dpM σ 40 (σ.1 125 (rM σ 137 r).toNat).toInt : Nat) : Int) + 0) (by omega) (by rw [i32_add (by omega), m3, zz, hv6]) (by unfold gpM; rw [if_pos (by omega), if_neg (by omega), if_neg (by omega)]) (by omega) rfl hq)
        · refine z_iconst (i := 0) (v := 0) (pc' := 103) ⟨by decide +kernel, rfl⟩ (by decide) ?_
          refine z_goto (off := 13) (tgt := 116) (pc' := 106) ⟨by decide +kernel, by decide, rfl⟩ ?_
          refine z_iret (ty := .int) rfl rfl (by decide +kernel) ?_
          have z0L : (0 : Int64).toInt = 0 := by decide
          have z0 : (0 : Int32).toInt = 0 := by decide
          have z1 : (1 : Int32).toInt = 1 := by decide
          have z2 : (2 : Int32).toInt = 2 := by decide
          have gh1 := j_ne_f h1
          have gh5 := j_ne_t (y := 0) h5
          have gh7 := j_ne_t h7
          have gh8 := j_ne_f (y := 0) h8
          exact k _ (by unfold plMq; rw [if_pos (by omega)]; decide)
      · refine z_iconst (i := 1) (v := 1) (pc' := 75) ⟨by decide +kernel, rfl⟩ (by decide) ?_
        refine z_goto (off := 4) (tgt := 79) (pc' := 78) ⟨by decide +kernel, by decide, rfl⟩ ?_
        refine z_iadd (pc' := 80) ⟨by decide +kernel, rfl⟩ ?_
        refine z_istore (i := 5) (pc' := 82) ⟨by decide +kernel, rfl⟩ (by decide) rfl ?_
        show Wz E Y_M_placeOf 82 [(5, .int ((1 + (2 * v6)) + 1)), (4, .int q), (0, .ref 110), (1, .int ru), (2, .int said), (3, .int way)] [] σ K
        refine z_goto (off := 16) (tgt := 98) (pc' := 85) ⟨by decide +kernel, by decide, rfl⟩ ?_
        refine z_iload_n (f := 3) (i := 3) (q := 5) (pc' := 99) ⟨by decide +kernel, rfl⟩ rfl rfl ?_
        refine z_if_ne (off := 7) (tgt := 106) (pc' := 102) ⟨by decide +kernel, by decide, rfl⟩ (fun h9 => ?_) (fun h9 => ?_)
        · refine z_iconst (i := 4) (v := 4) (pc' := 107) ⟨by decide +kernel, rfl⟩ (by decide) ?_
          refine z_bipush (i := 100) (v := 100) (pc' := 109) ⟨by decide +kernel, rfl⟩ (by decide) ?_
          refine z_iload (i := 5) (q := 0) (pc' := 111) ⟨by decide +kernel, rfl⟩ rfl ?_
          refine z_isub (pc' := 112) ⟨by decide +kernel, rfl⟩ ?_
          refine z_imul (pc' := 113) ⟨by decide +kernel, rfl⟩ ?_
          refine z_iload (i := 4) (q := 1) (pc' := 115) ⟨by decide +kernel, rfl⟩ rfl ?_
          refine z_iadd (pc' := 116) ⟨by decide +kernel, rfl⟩ ?_
          refine z_iret (ty := .int) rfl rfl (by decide +kernel) ?_
          have z0L : (0 : Int64).toInt = 0 := by decide
          have z0 : (0 : Int32).toInt = 0 := by decide
          have z1 : (1 : Int32).toInt = 1 := by decide
          have z2 : (2 : Int32).toInt = 2 := by decide
          have gh1 := j_ne_f h1
          have gh5 := j_ne_t (y := 0) h5
          have gh7 := j_ne_f h7
          have gh9 := j_ne_t (y := 0) h9
          have e3 : (σ.1 133 r).toInt = rM σ 133 r := rfl
          have e6 : (σ.1 136 r).toInt = rM σ 136 r := rfl
          have dl := dm_le (σ := σ) (n := 40) (x := (σ.1 125 (rM σ 137 r).toNat).toInt)
          have z1 : (1 : Int32).toInt = 1 := by decide
          have z2 : (2 : Int32).toInt = 2 := by decide
          have m2 : (2 * v6).toInt = 2 * v6.toInt := by rw [Int32.toInt_mul, z2, Int.bmod_eq_of_le (by omega) (by omega)]
          have m3 : (1 + 2 * v6).toInt = 1 + 2 * v6.toInt := by rw [i32_add (by omega), z1, m2]
          have zz : (1 : Int32).toInt = 1 := by decide
          exact k _ (pq_put (g := 1 + 2 * ((dpM σ 40 (σ.1 125 (rM σ 137 r).toNat).toInt : Nat) : Int) + 1) (by omega) (by rw [i32_add (by omega), m3, zz, hv6]) (by unfold gpM; rw [if_pos (by omega), if_neg (by omega), if_pos (by omega)]) (by omega) rfl hq)
        · refine z_iconst (i := 0) (v := 0) (pc' := 103) ⟨by decide +kernel, rfl⟩ (by decide) ?_
          refine z_goto (off := 13) (tgt := 116) (pc' := 106) ⟨by decide +kernel, by decide, rfl⟩ ?_
          refine z_iret (ty := .int) rfl rfl (by decide +kernel) ?_
          have z0L : (0 : Int64).toInt = 0 := by decide
          have z0 : (0 : Int32).toInt = 0 := by decide
          have z1 : (1 : Int32).toInt = 1 := by decide
          have z2 : (2 : Int32).toInt = 2 := by decide
          have gh1 := j_ne_f h1
          have gh5 := j_ne_t (y := 0) h5
          have gh7 := j_ne_f h7
          have gh9 := j_ne_f (y := 0) h9
          exact k _ (by unfold plMq; rw [if_pos (by omega)]; decide)
    · refine z_iconst (i := 0) (v := 0) (pc' := 47) ⟨by decide +kernel, rfl⟩ (by decide) ?_
      refine z_goto (off := 33) (tgt := 80) (pc' := 50) ⟨by decide +kernel, by decide, rfl⟩ ?_
      refine z_istore (i := 5) (pc' := 82) ⟨by decide +kernel, rfl⟩ (by decide) rfl ?_
      show Wz E Y_M_placeOf 82 [(5, .int 0), (4, .int q), (0, .ref 110), (1, .int ru), (2, .int said), (3, .int way)] [] σ K
      refine z_goto (off := 16) (tgt := 98) (pc' := 85) ⟨by decide +kernel, by decide, rfl⟩ ?_
      refine z_iload_n (f := 3) (i := 3) (q := 5) (pc' := 99) ⟨by decide +kernel, rfl⟩ rfl rfl ?_
      refine z_if_ne (off := 7) (tgt := 106) (pc' := 102) ⟨by decide +kernel, by decide, rfl⟩ (fun h10 => ?_) (fun h10 => ?_)
      · refine z_iconst (i := 4) (v := 4) (pc' := 107) ⟨by decide +kernel, rfl⟩ (by decide) ?_
        refine z_bipush (i := 100) (v := 100) (pc' := 109) ⟨by decide +kernel, rfl⟩ (by decide) ?_
        refine z_iload (i := 5) (q := 0) (pc' := 111) ⟨by decide +kernel, rfl⟩ rfl ?_
        refine z_isub (pc' := 112) ⟨by decide +kernel, rfl⟩ ?_
        refine z_imul (pc' := 113) ⟨by decide +kernel, rfl⟩ ?_
        refine z_iload (i := 4) (q := 1) (pc' := 115) ⟨by decide +kernel, rfl⟩ rfl ?_
        refine z_iadd (pc' := 116) ⟨by decide +kernel, rfl⟩ ?_
        refine z_iret (ty := .int) rfl rfl (by decide +kernel) ?_
        have z0L : (0 : Int64).toInt = 0 := by decide
        have z0 : (0 : Int32).toInt = 0 := by decide
        have z2 : (2 : Int32).toInt = 2 := by decide
        have gh1 := j_ne_f h1
        have gh5 := j_ne_f (y := 0) h5
        have gh10 := j_ne_t (y := 0) h10
        have e3 : (σ.1 133 r).toInt = rM σ 133 r := rfl
        have e6 : (σ.1 136 r).toInt = rM σ 136 r := rfl
        exact k _ (pq_put (g := 0) (by omega) (by decide) (by unfold gpM; rw [if_pos (by omega), if_pos (by omega)]) (by omega) rfl hq)
      · refine z_iconst (i := 0) (v := 0) (pc' := 103) ⟨by decide +kernel, rfl⟩ (by decide) ?_
        refine z_goto (off := 13) (tgt := 116) (pc' := 106) ⟨by decide +kernel, by decide, rfl⟩ ?_
        refine z_iret (ty := .int) rfl rfl (by decide +kernel) ?_
        have z0L : (0 : Int64).toInt = 0 := by decide
        have z0 : (0 : Int32).toInt = 0 := by decide
        have z2 : (2 : Int32).toInt = 2 := by decide
        have gh1 := j_ne_f h1
        have gh5 := j_ne_f (y := 0) h5
        have gh10 := j_ne_f (y := 0) h10
        exact k _ (by unfold plMq; rw [if_pos (by omega)]; decide)
theorem run_M_placeOf {E : xV} {σ : zS} {K : zKt} {ru said way : Int32} {r : Nat} {rk : Nat → Nat} (ht : TrM σ rk) (hr : ru.toInt = (r : Int)) (hr2 : r < 240) (u3 : 0 ≤ rM σ 133 r ∧ rM σ 133 r ≤ 3) (u6 : rM σ 136 r ≠ 0 → 0 ≤ rM σ 137 r ∧ rM σ 137 r ≤ 39) (k : ∀ v : Int32, v.toInt = plMq σ way.toInt r said.toInt → K (some (.int v)) σ) : Wz E Y_M_placeOf 0 [(0, .ref 110), (1, .int ru), (2, .int said), (3, .int way)] [] σ K := by
  refine z_iload_n (f := 2) (i := 2) (q := 2) (pc' := 1) ⟨by decide +kernel, rfl⟩ rfl rfl ?_
  refine z_if_ne (off := 7) (tgt := 8) (pc' := 4) ⟨by decide +kernel, by decide, rfl⟩ (fun h1 => ?_) (fun h1 => ?_)
  · refine z_iload_n (f := 2) (i := 2) (q := 2) (pc' := 9) ⟨by decide +kernel, rfl⟩ rfl rfl ?_
    refine z_iconst (i := 3) (v := 3) (pc' := 10) ⟨by decide +kernel, rfl⟩ (by decide) ?_
    refine z_icmp_ne (off := 7) (tgt := 17) (pc' := 13) ⟨by decide +kernel, by decide, rfl⟩ (fun h2 => ?_) (fun h2 => ?_)
    · refine z_iload_n (f := 2) (i := 2) (q := 2) (pc' := 18) ⟨by decide +kernel, rfl⟩ rfl rfl ?_
      refine z_iconst (i := 2) (v := 2) (pc' := 19) ⟨by decide +kernel, rfl⟩ (by decide) ?_
      refine z_icmp_ne (off := 7) (tgt := 26) (pc' := 22) ⟨by decide +kernel, by decide, rfl⟩ (fun h3 => ?_) (fun h3 => ?_)
      · refine z_iconst (i := 3) (v := 3) (pc' := 27) ⟨by decide +kernel, rfl⟩ (by decide) ?_
        refine z_istore (i := 4) (pc' := 29) ⟨by decide +kernel, rfl⟩ (by decide) rfl ?_
        show Wz E Y_M_placeOf 29 [(4, .int 3), (0, .ref 110), (1, .int ru), (2, .int said), (3, .int way)] [] σ K
        refine z_iconst (i := 0) (v := 0) (pc' := 30) ⟨by decide +kernel, rfl⟩ (by decide) ?_
        refine z_istore (i := 5) (pc' := 32) ⟨by decide +kernel, rfl⟩ (by decide) rfl ?_
        show Wz E Y_M_placeOf 32 [(5, .int 0), (4, .int 3), (0, .ref 110), (1, .int ru), (2, .int said), (3, .int way)] [] σ K
        have z0L : (0 : Int64).toInt = 0 := by decide
        have z0 : (0 : Int32).toInt = 0 := by decide
        have z2 : (2 : Int32).toInt = 2 := by decide
        have z3 : (3 : Int32).toInt = 3 := by decide
        have gh1 := j_ne_t (y := 0) h1
        have gh2 := j_ne_t h2
        have gh3 := j_ne_t h3
        exact run_M_placeOf_b ht hr hr2 u3 u6 (by rw [show (3 : Int32).toInt = 3 by decide]; exact rp_3 (by omega)) k
      · refine z_iconst (i := 2) (v := 2) (pc' := 23) ⟨by decide +kernel, rfl⟩ (by decide) ?_
        refine z_goto (off := 4) (tgt := 27) (pc' := 26) ⟨by decide +kernel, by decide, rfl⟩ ?_
        refine z_istore (i := 4) (pc' := 29) ⟨by decide +kernel, rfl⟩ (by decide) rfl ?_
        show Wz E Y_M_placeOf 29 [(4, .int 2), (0, .ref 110), (1, .int ru), (2, .int said), (3, .int way)] [] σ K
        refine z_iconst (i := 0) (v := 0) (pc' := 30) ⟨by decide +kernel, rfl⟩ (by decide) ?_
        refine z_istore (i := 5) (pc' := 32) ⟨by decide +kernel, rfl⟩ (by decide) rfl ?_
        show Wz E Y_M_placeOf 32 [(5, .int 0), (4, .int 2), (0, .ref 110), (1, .int ru), (2, .int said), (3, .int way)] [] σ K
        have z0L : (0 : Int64).toInt = 0 := by decide
        have z0 : (0 : Int32).toInt = 0 := by decide
        have z2 : (2 : Int32).toInt = 2 := by decide
        have z3 : (3 : Int32).toInt = 3 := by decide
        have gh1 := j_ne_t (y := 0) h1
        have gh2 := j_ne_t h2
        have gh3 := j_ne_f h3
        exact run_M_placeOf_b ht hr hr2 u3 u6 (by rw [show (2 : Int32).toInt = 2 by decide]; exact rp_2 (by omega)) k
    · refine z_iconst (i := 1) (v := 1) (pc' := 14) ⟨by decide +kernel, rfl⟩ (by decide) ?_
      refine z_goto (off := 13) (tgt := 27) (pc' := 17) ⟨by decide +kernel, by decide, rfl⟩ ?_
      refine z_istore (i := 4) (pc' := 29) ⟨by decide +kernel, rfl⟩ (by decide) rfl ?_
      show Wz E Y_M_placeOf 29 [(4, .int 1), (0, .ref 110), (1, .int ru), (2, .int said), (3, .int way)] [] σ K
      refine z_iconst (i := 0) (v := 0) (pc' := 30) ⟨by decide +kernel, rfl⟩ (by decide) ?_
      refine z_istore (i := 5) (pc' := 32) ⟨by decide +kernel, rfl⟩ (by decide) rfl ?_
      show Wz E Y_M_placeOf 32 [(5, .int 0), (4, .int 1), (0, .ref 110), (1, .int ru), (2, .int said), (3, .int way)] [] σ K
      have z0L : (0 : Int64).toInt = 0 := by decide
      have z0 : (0 : Int32).toInt = 0 := by decide
      have z3 : (3 : Int32).toInt = 3 := by decide
      have gh1 := j_ne_t (y := 0) h1
      have gh2 := j_ne_f h2
      exact run_M_placeOf_b ht hr hr2 u3 u6 (by rw [show (1 : Int32).toInt = 1 by decide]; exact rp_1 (by omega)) k
  · refine z_iconst (i := 0) (v := 0) (pc' := 5) ⟨by decide +kernel, rfl⟩ (by decide) ?_
    refine z_goto (off := 22) (tgt := 27) (pc' := 8) ⟨by decide +kernel, by decide, rfl⟩ ?_
    refine z_istore (i := 4) (pc' := 29) ⟨by decide +kernel, rfl⟩ (by decide) rfl ?_
    show Wz E Y_M_placeOf 29 [(4, .int 0), (0, .ref 110), (1, .int ru), (2, .int said), (3, .int way)] [] σ K
    refine z_iconst (i := 0) (v := 0) (pc' := 30) ⟨by decide +kernel, rfl⟩ (by decide) ?_
    refine z_istore (i := 5) (pc' := 32) ⟨by decide +kernel, rfl⟩ (by decide) rfl ?_
    show Wz E Y_M_placeOf 32 [(5, .int 0), (4, .int 0), (0, .ref 110), (1, .int ru), (2, .int said), (3, .int way)] [] σ K
    have z0L : (0 : Int64).toInt = 0 := by decide
    have z0 : (0 : Int32).toInt = 0 := by decide
    have gh1 := j_ne_f (y := 0) h1
    exact run_M_placeOf_b ht hr hr2 u3 u6 (by rw [show (0 : Int32).toInt = 0 by decide]; exact rp_0 (by omega)) k
theorem cz_M_placeOf {E : xV} {σ : zS} {K : zKt} {ru said way : Int32} {r : Nat} {rk : Nat → Nat} (ht : TrM σ rk) (hr : ru.toInt = (r : Int)) (hr2 : r < 240) (u3 : 0 ≤ rM σ 133 r ∧ rM σ 133 r ≤ 3) (u6 : rM σ 136 r ≠ 0 → 0 ≤ rM σ 137 r ∧ rM σ 137 r ≤ 39) (k : ∀ v : Int32, v.toInt = plMq σ way.toInt r said.toInt → K (some (.int v)) σ) : Cz E Y_M_placeOf [.ref 110, .int ru, .int said, .int way] σ K := z_entry (by decide) (fun a => by rw [sl_len]; exact Nat.le_of_ble_eq_true rfl) rfl (run_M_placeOf ht hr hr2 u3 u6 k)
theorem run_M_begins {E : xV} {σ : zS} {K : zKt}  (hg : (σ.1 110 26).toInt ≠ 0) (k : K none σ) : Wz E Y_M_begins 0 [(0, .ref 110)] [] σ K := by
  refine z_aload_n (f := 0) (i := 0) (q := 0) (pc' := 1) ⟨by decide +kernel, rfl⟩ rfl rfl ?_
  refine w_geti (k := 110) (j := 26) (idx := 472) (pc' := 4) fxe_13_472 kfa_110_26 ⟨by decide +kernel, rfl⟩ ?_
  refine z_if_ne (off := 55) (tgt := 59) (pc' := 7) ⟨by decide +kernel, by decide, rfl⟩ (fun h1 => ?_) (fun h1 => ?_)
  · refine z_vret rfl (by decide +kernel) ?_
    have z0L : (0 : Int64).toInt = 0 := by decide
    have z0 : (0 : Int32).toInt = 0 := by decide
    have gh1 := j_ne_t (y := 0) h1
    exact k
  · have z0L : (0 : Int64).toInt = 0 := by decide
    have z0 : (0 : Int32).toInt = 0 := by decide
    have gh1 := j_ne_f (y := 0) h1
    exfalso
    omega
theorem cz_M_begins {E : xV} {σ : zS} {K : zKt}  (hg : (σ.1 110 26).toInt ≠ 0) (k : K none σ) : Cz E Y_M_begins [.ref 110] σ K := z_entry (by decide) (fun a => by rw [sl_len]; exact Nat.le_of_ble_eq_true rfl) rfl (run_M_begins hg k)
theorem run_M_heldBy_30 {E : xV} {σ : zS} {K : zKt} {act : Int32} {an : Nat} (hac : act.toInt = (an : Int)) (han : an < 6) {a bf : Int32} {aN B0 : Nat} (ha : a.toInt = (aN : Int)) (haN : aN < 6) : ∀ (j : Nat) {b bits : Int32} {bn B : Nat}, b.toInt = (bn : Int) → bn + j = 6 → bits = Int32.ofNat B → PsH σ an B0 B aN bn → (∀ (bits' b' : Int32) (B' : Nat), bits' = Int32.ofNat B' → PsH σ an B0 B' aN 6 → Wz E Y_M_heldBy 80 [(5, .int b'), (4, .int a), (3, .int bf), (2, .int bits'), (0, .ref 110), (1, .int act)] [] σ K) → Wz E Y_M_heldBy 30 [(5, .int b), (4, .int a), (3, .int bf), (2, .int bits), (0, .ref 110), (1, .int act)] [] σ K
  | 0, b, bits, bn, B, hb, hj, hbt, hps, k => by
    refine z_iload (i := 5) (q := 0) (pc' := 32) ⟨by decide +kernel, rfl⟩ rfl ?_
    refine z_bipush (i := 6) (v := 6) (pc' := 34) ⟨by decide +kernel, rfl⟩ (by decide) ?_
    refine z_icmp_ge (off := 46) (tgt := 80) (pc' := 37) ⟨by decide +kernel, by decide, rfl⟩ (fun h1 => ?_) (fun h1 => ?_)
    · have z0L : (0 : Int64).toInt = 0 := by decide
      have z6 : (6 : Int32).toInt = 6 := by decide
      have gh1 := j_ge_t h1
      refine z_sub [0, 1, 2, 3, 4, 5] rfl ?_
      have e6 : bn = 6 := by omega
      subst e6
      exact k bits b B hbt hps
    · have z0L : (0 : Int64).toInt = 0 := by decide
      have z6 : (6 : Int32).toInt = 6 := by decide
      have gh1 := j_ge_f h1
      exfalso
      omega
  | j + 1, b, bits, bn, B, hb, hj, hbt, hps, k => by
    have ih := @run_M_heldBy_30 E σ K act an hac han a bf aN B0 ha haN j
    refine z_iload (i := 5) (q := 0) (pc' := 32) ⟨by decide +kernel, rfl⟩ rfl ?_
    refine z_bipush (i := 6) (v := 6) (pc' := 34) ⟨by decide +kernel, rfl⟩ (by decide) ?_
    refine z_icmp_ge (off := 46) (tgt := 80) (pc' := 37) ⟨by decide +kernel, by decide, rfl⟩ (fun h1 => ?_) (fun h1 => ?_)
    · have z0L : (0 : Int64).toInt = 0 := by decide
      have z6 : (6 : Int32).toInt = 6 := by decide
      have gh1 := j_ge_t h1
      exfalso
      omega
    · refine z_iload_n (f := 2) (i := 2) (q := 3) (pc' := 38) ⟨by decide +kernel, rfl⟩ rfl rfl ?_
      refine z_iload_n (f := 2) (i := 2) (q := 3) (pc' := 39) ⟨by decide +kernel, rfl⟩ rfl rfl ?_
      refine z_iload (i := 4) (q := 1) (pc' := 41) ⟨by decide +kernel, rfl⟩ rfl ?_
      refine z_ishr (pc' := 42) ⟨by decide +kernel, rfl⟩ ?_
      refine z_iconst (i := 1) (v := 1) (pc' := 43) ⟨by decide +kernel, rfl⟩ (by decide) ?_
      refine z_iand (pc' := 44) ⟨by decide +kernel, rfl⟩ ?_
      refine z_iconst (i := 1) (v := 1) (pc' := 45) ⟨by decide +kernel, rfl⟩ (by decide) ?_
      refine z_icmp_ne (off := 26) (tgt := 71) (pc' := 48) ⟨by decide +kernel, by decide, rfl⟩ (fun h2 => ?_) (fun h2 => ?_)
      · refine z_iconst (i := 0) (v := 0) (pc' := 72) ⟨by decide +kernel, rfl⟩ (by decide) ?_
        refine z_ior (pc' := 73) ⟨by decide +kernel, rfl⟩ ?_
        refine z_istore_n (f := 2) (i := 2) (pc' := 74) ⟨by decide +kernel, rfl⟩ rfl (by decide) rfl ?_
        show Wz E Y_M_heldBy 74 [(2, .int (bits ||| 0)), (5, .int b), (4, .int a), (3, .int bf), (0, .ref 110), (1, .int act)] [] σ K
        refine z_iinc (i := 5) (z := 1) (q := 1) (pc' := 77) ⟨by decide +kernel, rfl⟩ rfl rfl (by decide) rfl ?_
        show Wz E Y_M_heldBy 77 [(5, .int (b + Int32.ofInt 1)), (2, .int (bits ||| 0)), (4, .int a), (3, .int bf), (0, .ref 110), (1, .int act)] [] σ K
        refine z_goto (off := (-47)) (tgt := 30) (pc' := 80) ⟨by decide +kernel, by decide, rfl⟩ ?_
        have z0L : (0 : Int64).toInt = 0 := by decide
        have z1 : (1 : Int32).toInt = 1 := by decide
        have z6 : (6 : Int32).toInt = 6 := by decide
        have gh1 := j_ge_f h1
        have gh2 := j_ne_t h2
        refine z_sub [0, 2, 3, 1, 4, 5] rfl ?_
        have e1 : (Int32.ofInt 1).toInt = 1 := by decide
        have hB := hps.2.2.1
        have hbn : bn < 6 := by omega
        have eb := bt_64 B hB aN haN
        rw [← i32_n ha] at eb
        have ebn := i32_n hb
        exact ih (bn := bn + 1) (by rw [i32_add (by rw [e1]; omega), e1]; omega) (by omega) (by rw [hbt]; exact or_0h B hB) (ps_not hps (fun z => h2 (by rw [hbt]; exact eb.mpr z.1))) k
      · refine z_aload_n (f := 0) (i := 0) (q := 4) (pc' := 49) ⟨by decide +kernel, rfl⟩ rfl rfl ?_
        refine w_getr (k := 110) (j := 25) (idx := 70) (pc' := 52) fxe_13_70 kfa_110_25 ⟨by decide +kernel, rfl⟩ ?_
        refine z_bipush (i := 6) (v := 6) (pc' := 54) ⟨by decide +kernel, rfl⟩ (by decide) ?_
        refine z_iload (i := 4) (q := 1) (pc' := 56) ⟨by decide +kernel, rfl⟩ rfl ?_
        refine z_imul (pc' := 57) ⟨by decide +kernel, rfl⟩ ?_
        refine z_iload (i := 5) (q := 0) (pc' := 59) ⟨by decide +kernel, rfl⟩ rfl ?_
        refine z_iadd (pc' := 60) ⟨by decide +kernel, rfl⟩ ?_
        refine w_zald (k := 129) (n := (6 * aN + bn)) (pc' := 61) kaa_129 (ix_6 ha hb haN (by have q := j_ge_f h1; have z6 : (6 : Int32).toInt = 6 := (by decide); omega)) (by have q := j_ge_f h1; have z6 : (6 : Int32).toInt = 6 := (by decide); omega) ⟨by decide +kernel, rfl⟩ ?_
        refine z_if_eq (off := 10) (tgt := 71) (pc' := 64) ⟨by decide +kernel, by decide, rfl⟩ (fun h3 => ?_) (fun h3 => ?_)
        · refine z_iconst (i := 0) (v := 0) (pc' := 72) ⟨by decide +kernel, rfl⟩ (by decide) ?_
          refine z_ior (pc' := 73) ⟨by decide +kernel, rfl⟩ ?_
          refine z_istore_n (f := 2) (i := 2) (pc' := 74) ⟨by decide +kernel, rfl⟩ rfl (by decide) rfl ?_
          show Wz E Y_M_heldBy 74 [(2, .int (bits ||| 0)), (5, .int b), (4, .int a), (3, .int bf), (0, .ref 110), (1, .int act)] [] σ K
          refine z_iinc (i := 5) (z := 1) (q := 1) (pc' := 77) ⟨by decide +kernel, rfl⟩ rfl rfl (by decide) rfl ?_
          show Wz E Y_M_heldBy 77 [(5, .int (b + Int32.ofInt 1)), (2, .int (bits ||| 0)), (4, .int a), (3, .int bf), (0, .ref 110), (1, .int act)] [] σ K
          refine z_goto (off := (-47)) (tgt := 30) (pc' := 80) ⟨by decide +kernel, by decide, rfl⟩ ?_
          have z0L : (0 : Int64).toInt = 0 := by decide
          have z0 : (0 : Int32).toInt = 0 := by decide
          have z1 : (1 : Int32).toInt = 1 := by decide
          have z6 : (6 : Int32).toInt = 6 := by decide
          have gh1 := j_ge_f h1
          have gh2 := j_ne_f h2
          have gh3 := j_eq_t (y := 0) h3
          refine z_sub [0, 2, 3, 1, 4, 5] rfl ?_
          have e1 : (Int32.ofInt 1).toInt = 1 := by decide
          have hB := hps.2.2.1
          have hbn : bn < 6 := by omega
          have eb := bt_64 B hB aN haN
          rw [← i32_n ha] at eb
          have ebn := i32_n hb
          exact ih (bn := bn + 1) (by rw [i32_add (by rw [e1]; omega), e1]; omega) (by omega) (by rw [hbt]; exact or_0h B hB) (ps_not hps (fun z => z.2 (by show (σ.1 129 (6 * aN + bn)).toInt = 0; omega))) k
        · refine z_iconst (i := 1) (v := 1) (pc' := 65) ⟨by decide +kernel, rfl⟩ (by decide) ?_
          refine z_iload (i := 5) (q := 0) (pc' := 67) ⟨by decide +kernel, rfl⟩ rfl ?_
          refine z_ishl (pc' := 68) ⟨by decide +kernel, rfl⟩ ?_
          refine z_goto (off := 4) (tgt := 72) (pc' := 71) ⟨by decide +kernel, by decide, rfl⟩ ?_
          refine z_ior (pc' := 73) ⟨by decide +kernel, rfl⟩ ?_
          refine z_istore_n (f := 2) (i := 2) (pc' := 74) ⟨by decide +kernel, rfl⟩ rfl (by decide) rfl ?_
          show Wz E Y_M_heldBy 74 [(2, .int (bits ||| (1 <<< (b &&& 31)))), (5, .int b), (4, .int a), (3, .int bf), (0, .ref 110), (1, .int act)] [] σ K
          refine z_iinc (i := 5) (z := 1) (q := 1) (pc' := 77) ⟨by decide +kernel, rfl⟩ rfl rfl (by decide) rfl ?_
          show Wz E Y_M_heldBy 77 [(5, .int (b + Int32.ofInt 1)), (2, .int (bits ||| (1 <<< (b &&& 31)))), (4, .int a), (3, .int bf), (0, .ref 110), (1, .int act)] [] σ K
          refine z_goto (off := (-47)) (tgt := 30) (pc' := 80) ⟨by decide +kernel, by decide, rfl⟩ ?_
          have z0L : (0 : Int64).toInt = 0 := by decide
          have z0 : (0 : Int32).toInt = 0 := by decide
          have z1 : (1 : Int32).toInt = 1 := by decide
          have z6 : (6 : Int32).toInt = 6 := by decide
          have gh1 := j_ge_f h1
          have gh2 := j_ne_f h2
          have gh3 := j_eq_f (y := 0) h3
          refine z_sub [0, 2, 3, 1, 4, 5] rfl ?_
          have e1 : (Int32.ofInt 1).toInt = 1 := by decide
          have hB := hps.2.2.1
          have hbn : bn < 6 := by omega
          have eb := bt_64 B hB aN haN
          rw [← i32_n ha] at eb
          have ebn := i32_n hb
          exact ih (bn := bn + 1) (by rw [i32_add (by rw [e1]; omega), e1]; omega) (by omega) (by rw [hbt, ebn]; exact (or_64 B hB bn hbn).1) (ps_add hps haN hbn (eb.mp (by rw [← hbt]; exact h2)) (by show (σ.1 129 (6 * aN + bn)).toInt ≠ 0; omega)) k
theorem run_M_heldBy_80 {E : xV} {σ : zS} {K : zKt} {act a bf b bits : Int32} {an aN B0 B : Nat} (hac : act.toInt = (an : Int)) (han : an < 6) (ha : a.toInt = (aN : Int)) (haN : aN < 6) (hbt : bits = Int32.ofNat B) (hps : PsH σ an B0 B aN 6) (k : ∀ a' : Int32, a'.toInt = ((aN + 1 : Nat) : Int) → PsH σ an B0 B (aN + 1) 0 → Wz E Y_M_heldBy 20 [(4, .int a'), (3, .int bf), (2, .int bits), (0, .ref 110), (1, .int act)] [] σ K) : Wz E Y_M_heldBy 80 [(5, .int b), (4, .int a), (3, .int bf), (2, .int bits), (0, .ref 110), (1, .int act)] [] σ K := by
  refine z_iinc (i := 4) (z := 1) (q := 1) (pc' := 83) ⟨by decide +kernel, rfl⟩ rfl rfl (by decide) rfl ?_
  show Wz E Y_M_heldBy 83 [(4, .int (a + Int32.ofInt 1)), (5, .int b), (3, .int bf), (2, .int bits), (0, .ref 110), (1, .int act)] [] σ K
  refine z_goto (off := (-63)) (tgt := 20) (pc' := 86) ⟨by decide +kernel, by decide, rfl⟩ ?_
  have z0L : (0 : Int64).toInt = 0 := by decide
  refine z_sub [0, 2, 3, 4, 5] rfl ?_
  have e1 : (Int32.ofInt 1).toInt = 1 := by decide
  exact k _ (by rw [i32_add (by rw [e1]; omega), e1]; omega) (ps_row hps)
theorem run_M_heldBy_20 {E : xV} {σ : zS} {K : zKt} {act : Int32} {an : Nat} (hac : act.toInt = (an : Int)) (han : an < 6) {bf : Int32} {B0 : Nat} : ∀ (j : Nat) {a bits : Int32} {aN B : Nat}, a.toInt = (aN : Int) → aN + j = 6 → bits = Int32.ofNat B → PsH σ an B0 B aN 0 → (∀ (bits' a' : Int32) (B' : Nat), bits' = Int32.ofNat B' → PsH σ an B0 B' 6 0 → Wz E Y_M_heldBy 86 [(4, .int a'), (3, .int bf), (2, .int bits'), (0, .ref 110), (1, .int act)] [] σ K) → Wz E Y_M_heldBy 20 [(4, .int a), (3, .int bf), (2, .int bits), (0, .ref 110), (1, .int act)] [] σ K
  | 0, a, bits, aN, B, ha, hj, hbt, hps, k => by
    refine z_iload (i := 4) (q := 0) (pc' := 22) ⟨by decide +kernel, rfl⟩ rfl ?_
    refine z_bipush (i := 6) (v := 6) (pc' := 24) ⟨by decide +kernel, rfl⟩ (by decide) ?_
    refine z_icmp_ge (off := 62) (tgt := 86) (pc' := 27) ⟨by decide +kernel, by decide, rfl⟩ (fun h1 => ?_) (fun h1 => ?_)
    · have z0L : (0 : Int64).toInt = 0 := by decide
      have z6 : (6 : Int32).toInt = 6 := by decide
      have gh1 := j_ge_t h1
      refine z_sub [0, 1, 2, 3, 4] rfl ?_
      have e6 : aN = 6 := by omega
      subst e6
      exact k bits a B hbt hps
    · have z0L : (0 : Int64).toInt = 0 := by decide
      have z6 : (6 : Int32).toInt = 6 := by decide
      have gh1 := j_ge_f h1
      exfalso
      omega
  | j + 1, a, bits, aN, B, ha, hj, hbt, hps, k => by
    have ih := fun {a : Int32} {bits : Int32} {aN B : Nat} => @run_M_heldBy_20 E σ K act an hac han bf B0 j a bits aN B
    refine z_iload (i := 4) (q := 0) (pc' := 22) ⟨by decide +kernel, rfl⟩ rfl ?_
    refine z_bipush (i := 6) (v := 6) (pc' := 24) ⟨by decide +kernel, rfl⟩ (by decide) ?_
    refine z_icmp_ge (off := 62) (tgt := 86) (pc' := 27) ⟨by decide +kernel, by decide, rfl⟩ (fun h1 => ?_) (fun h1 => ?_)
    · have z0L : (0 : Int64).toInt = 0 := by decide
      have z6 : (6 : Int32).toInt = 6 := by decide
      have gh1 := j_ge_t h1
      exfalso
      omega
    · refine z_iconst (i := 0) (v := 0) (pc' := 28) ⟨by decide +kernel, rfl⟩ (by decide) ?_
      refine z_istore (i := 5) (pc' := 30) ⟨by decide +kernel, rfl⟩ (by decide) rfl ?_
      show Wz E Y_M_heldBy 30 [(5, .int 0), (4, .int a), (3, .int bf), (2, .int bits), (0, .ref 110), (1, .int act)] [] σ K
      have z0L : (0 : Int64).toInt = 0 := by decide
      have z6 : (6 : Int32).toInt = 6 := by decide
      have gh1 := j_ge_f h1
      refine z_sub [0, 1, 2, 3, 4, 5] rfl ?_
      exact run_M_heldBy_30 hac han ha (by omega) 6 (bn := 0) (by decide) (by omega) hbt hps (fun bits1 b1 B1 q1 q2 => run_M_heldBy_80 hac han ha (by omega) q1 q2 (fun a1 q3 q4 => ih q3 (by omega) q1 q4 k))
theorem run_M_heldBy_86 {E : xV} {σ : zS} {K : zKt} {act a bf bits : Int32} (k : Wz E Y_M_heldBy 10 [(3, .int bf), (2, .int bits), (0, .ref 110), (1, .int act)] [] σ K) : Wz E Y_M_heldBy 86 [(4, .int a), (3, .int bf), (2, .int bits), (0, .ref 110), (1, .int act)] [] σ K := by
  refine z_goto (off := (-76)) (tgt := 10) (pc' := 89) ⟨by decide +kernel, by decide, rfl⟩ ?_
  have z0L : (0 : Int64).toInt = 0 := by decide
  refine z_sub [1, 2, 3, 4] rfl ?_
  exact k
theorem run_M_heldBy_10 {E : xV} {σ : zS} {K : zKt} {act : Int32} {an : Nat} (hac : act.toInt = (an : Int)) (han : an < 6) (k : ∀ (bits' : Int32) (B' : Nat), bits' = Int32.ofNat B' → B' < 64 → (∀ b, b < 6 → (B'.testBit b = true ↔ RcH σ an b)) → K (some (.int bits')) σ) : ∀ (j : Nat) {bits bf : Int32} {B B0 : Nat}, bits = Int32.ofNat B → bf = Int32.ofNat B0 → B0 < 64 → PsH σ an B0 B 6 0 → (B = B0 ∨ 64 ≤ B + j) → Wz E Y_M_heldBy 10 [(3, .int bf), (2, .int bits), (0, .ref 110), (1, .int act)] [] σ K
  | 0, bits, bf, B, B0, hbt, hbf, h0, hps, hj => by
    refine z_iload_n (f := 2) (i := 2) (q := 1) (pc' := 11) ⟨by decide +kernel, rfl⟩ rfl rfl ?_
    refine z_iload_n (f := 3) (i := 3) (q := 0) (pc' := 12) ⟨by decide +kernel, rfl⟩ rfl rfl ?_
    refine z_icmp_eq (off := 77) (tgt := 89) (pc' := 15) ⟨by decide +kernel, by decide, rfl⟩ (fun h1 => ?_) (fun h1 => ?_)
    · refine z_iload_n (f := 2) (i := 2) (q := 1) (pc' := 90) ⟨by decide +kernel, rfl⟩ rfl rfl ?_
      refine z_iret (ty := .int) rfl rfl (by decide +kernel) ?_
      have z0L : (0 : Int64).toInt = 0 := by decide
      have gh1 := j_eq_t h1
      have hB := hps.2.2.1
      have e : B = B0 := of_inj B hB B0 h0 (by rw [← hbt, ← hbf]; exact h1)
      exact k _ B hbt hB (fun b hb => ps_end hps e hb)
    · have z0L : (0 : Int64).toInt = 0 := by decide
      have gh1 := j_eq_f h1
      have hB := hps.2.2.1
      exfalso
      have e : B ≠ B0 := fun q => h1 (by rw [hbt, hbf, q])
      omega
  | j + 1, bits, bf, B, B0, hbt, hbf, h0, hps, hj => by
    have ih := fun {bits bf : Int32} {B B0 : Nat} => @run_M_heldBy_10 E σ K act an hac han k j bits bf B B0
    refine z_iload_n (f := 2) (i := 2) (q := 1) (pc' := 11) ⟨by decide +kernel, rfl⟩ rfl rfl ?_
    refine z_iload_n (f := 3) (i := 3) (q := 0) (pc' := 12) ⟨by decide +kernel, rfl⟩ rfl rfl ?_
    refine z_icmp_eq (off := 77) (tgt := 89) (pc' := 15) ⟨by decide +kernel, by decide, rfl⟩ (fun h1 => ?_) (fun h1 => ?_)
    · refine z_iload_n (f := 2) (i := 2) (q := 1) (pc' := 90) ⟨by decide +kernel, rfl⟩ rfl rfl ?_
      refine z_iret (ty := .int) rfl rfl (by decide +kernel) ?_
      have z0L : (0 : Int64).toInt = 0 := by decide
      have gh1 := j_eq_t h1
      have hB := hps.2.2.1
      have e : B = B0 := of_inj B hB B0 h0 (by rw [← hbt, ← hbf]; exact h1)
      exact k _ B hbt hB (fun b hb => ps_end hps e hb)
    · refine z_iload_n (f := 2) (i := 2) (q := 1) (pc' := 16) ⟨by decide +kernel, rfl⟩ rfl rfl ?_
      refine z_istore_n (f := 3) (i := 3) (pc' := 17) ⟨by decide +kernel, rfl⟩ rfl (by decide) rfl ?_
      show Wz E Y_M_heldBy 17 [(3, .int bits), (2, .int bits), (0, .ref 110), (1, .int act)] [] σ K
      refine z_iconst (i := 0) (v := 0) (pc' := 18) ⟨by decide +kernel, rfl⟩ (by decide) ?_
      refine z_istore (i := 4) (pc' := 20) ⟨by decide +kernel, rfl⟩ (by decide) rfl ?_
      show Wz E Y_M_heldBy 20 [(4, .int 0), (3, .int bits), (2, .int bits), (0, .ref 110), (1, .int act)] [] σ K
      have z0L : (0 : Int64).toInt = 0 := by decide
      have gh1 := j_eq_f h1
      refine z_sub [0, 1, 2, 3, 4] rfl ?_
      have hB := hps.2.2.1
      have e : B ≠ B0 := fun q => h1 (by rw [hbt, hbf, q])
      exact run_M_heldBy_20 hac han 6 (aN := 0) (by decide) (by omega) hbt (ps_go hps) (fun bits1 a1 B1 q1 q2 => run_M_heldBy_86 (ih q1 hbt hB q2 (by have q3 := sub_le q2.1; have q4 := q2.2.2.1; omega)))
theorem run_M_heldBy {E : xV} {σ : zS} {K : zKt} {act : Int32} {an : Nat} (hac : act.toInt = (an : Int)) (han : an < 6) (hg : (σ.1 110 26).toInt ≠ 0) (k : ∀ (bits' : Int32) (B' : Nat), bits' = Int32.ofNat B' → B' < 64 → (∀ b, b < 6 → (B'.testBit b = true ↔ RcH σ an b)) → K (some (.int bits')) σ) : Wz E Y_M_heldBy 0 [(0, .ref 110), (1, .int act)] [] σ K := by
  refine z_aload_n (f := 0) (i := 0) (q := 0) (pc' := 1) ⟨by decide +kernel, rfl⟩ rfl rfl ?_
  refine w_invV (Z := Y_M_begins) (idx := 476) (kb := 110) (As := []) (rest := []) (pc' := 4) cl_13_476 rfl ⟨rfl, rfl⟩ kfa_110_0 rfl ⟨⟨by decide, by decide⟩, rfl, rfl⟩ ⟨by decide +kernel, rfl⟩ rfl rfl (Nat.le_of_ble_eq_true rfl) rfl rfl ?_
  refine cz_M_begins hg ?_
  show Wz E Y_M_heldBy 4 [(0, .ref 110), (1, .int act)] [] σ K
  refine z_iconst (i := 1) (v := 1) (pc' := 5) ⟨by decide +kernel, rfl⟩ (by decide) ?_
  refine z_iload_n (f := 1) (i := 1) (q := 1) (pc' := 6) ⟨by decide +kernel, rfl⟩ rfl rfl ?_
  refine z_ishl (pc' := 7) ⟨by decide +kernel, rfl⟩ ?_
  refine z_istore_n (f := 2) (i := 2) (pc' := 8) ⟨by decide +kernel, rfl⟩ rfl (by decide) rfl ?_
  show Wz E Y_M_heldBy 8 [(2, .int (1 <<< (act &&& 31))), (0, .ref 110), (1, .int act)] [] σ K
  refine z_iconst (i := 0) (v := 0) (pc' := 9) ⟨by decide +kernel, rfl⟩ (by decide) ?_
  refine z_istore_n (f := 3) (i := 3) (pc' := 10) ⟨by decide +kernel, rfl⟩ rfl (by decide) rfl ?_
  show Wz E Y_M_heldBy 10 [(3, .int 0), (2, .int (1 <<< (act &&& 31))), (0, .ref 110), (1, .int act)] [] σ K
  have z0L : (0 : Int64).toInt = 0 := by decide
  refine z_sub [0, 1, 2, 3] rfl ?_
  have es := sh_1 an han
  exact run_M_heldBy_10 hac han k 64 (B := 2 ^ an) (B0 := 0) (by rw [← es.1, ← i32_n hac]) (by decide) (by decide) (ps_first han) (Or.inr (Nat.le_add_left 64 (2 ^ an)))
theorem cz_M_heldBy {E : xV} {σ : zS} {K : zKt} {act : Int32} {an : Nat} (hac : act.toInt = (an : Int)) (han : an < 6) (hg : (σ.1 110 26).toInt ≠ 0) (k : ∀ (bits' : Int32) (B' : Nat), bits' = Int32.ofNat B' → B' < 64 → (∀ b, b < 6 → (B'.testBit b = true ↔ RcH σ an b)) → K (some (.int bits')) σ) : Cz E Y_M_heldBy [.ref 110, .int act] σ K := z_entry (by decide) (fun a => by rw [sl_len]; exact Nat.le_of_ble_eq_true rfl) rfl (run_M_heldBy hac han hg k)
theorem run_M_isHeld {E : xV} {σ : zS} {K : zKt} {x y : Int32} {n m : Nat} (hx : x.toInt = (n : Int)) (hn : n < 6) (hy : y.toInt = (m : Int)) (hm : m < 6) (hg : (σ.1 110 26).toInt ≠ 0) (k : ∀ v : Int32, (v = 1 ∧ RcH σ n m) ∨ (v = 0 ∧ ¬ RcH σ n m) → K (some (.int v)) σ) : Wz E Y_M_isHeld 0 [(0, .ref 110), (1, .int x), (2, .int y)] [] σ K := by
  refine z_aload_n (f := 0) (i := 0) (q := 0) (pc' := 1) ⟨by decide +kernel, rfl⟩ rfl rfl ?_
  refine z_iload_n (f := 1) (i := 1) (q := 1) (pc' := 2) ⟨by decide +kernel, rfl⟩ rfl rfl ?_
  refine w_invV (Z := Y_M_heldBy) (idx := 492) (kb := 110) (As := [.int x]) (rest := []) (pc' := 5) cl_13_492 rfl ⟨rfl, rfl⟩ kfa_110_0 rfl ⟨⟨by decide, by decide⟩, rfl, rfl⟩ ⟨by decide +kernel, rfl⟩ rfl rfl (Nat.le_of_ble_eq_true rfl) rfl rfl ?_
  refine cz_M_heldBy hx hn hg (fun v1 B1 hv1a hv1b hv1c => ?_)
  show Wz E Y_M_isHeld 5 [(0, .ref 110), (1, .int x), (2, .int y)] [.int v1] σ K
  refine z_iload_n (f := 2) (i := 2) (q := 2) (pc' := 6) ⟨by decide +kernel, rfl⟩ rfl rfl ?_
  refine z_ishr (pc' := 7) ⟨by decide +kernel, rfl⟩ ?_
  refine z_iconst (i := 1) (v := 1) (pc' := 8) ⟨by decide +kernel, rfl⟩ (by decide) ?_
  refine z_iand (pc' := 9) ⟨by decide +kernel, rfl⟩ ?_
  refine z_iconst (i := 1) (v := 1) (pc' := 10) ⟨by decide +kernel, rfl⟩ (by decide) ?_
  refine z_icmp_ne (off := 7) (tgt := 17) (pc' := 13) ⟨by decide +kernel, by decide, rfl⟩ (fun h2 => ?_) (fun h2 => ?_)
  · refine z_iconst (i := 0) (v := 0) (pc' := 18) ⟨by decide +kernel, rfl⟩ (by decide) ?_
    refine z_iret (ty := .boolean) rfl rfl (by decide +kernel) ?_
    have z0L : (0 : Int64).toInt = 0 := by decide
    have z1 : (1 : Int32).toInt = 1 := by decide
    have gh2 := j_ne_t h2
    have eb := bt_64 B1 hv1b m hm
    rw [← hv1a, ← i32_n hy, hv1c m hm] at eb
    exact k _ (Or.inr ⟨rfl, fun q => h2 (eb.mpr q)⟩)
  · refine z_iconst (i := 1) (v := 1) (pc' := 14) ⟨by decide +kernel, rfl⟩ (by decide) ?_
    refine z_goto (off := 4) (tgt := 18) (pc' := 17) ⟨by decide +kernel, by decide, rfl⟩ ?_
    refine z_iret (ty := .boolean) rfl rfl (by decide +kernel) ?_
    have z0L : (0 : Int64).toInt = 0 := by decide
    have z1 : (1 : Int32).toInt = 1 := by decide
    have gh2 := j_ne_f h2
    have eb := bt_64 B1 hv1b m hm
    rw [← hv1a, ← i32_n hy, hv1c m hm] at eb
    exact k _ (Or.inl ⟨rfl, eb.mp h2⟩)
theorem cz_M_isHeld {E : xV} {σ : zS} {K : zKt} {x y : Int32} {n m : Nat} (hx : x.toInt = (n : Int)) (hn : n < 6) (hy : y.toInt = (m : Int)) (hm : m < 6) (hg : (σ.1 110 26).toInt ≠ 0) (k : ∀ v : Int32, (v = 1 ∧ RcH σ n m) ∨ (v = 0 ∧ ¬ RcH σ n m) → K (some (.int v)) σ) : Cz E Y_M_isHeld [.ref 110, .int x, .int y] σ K := z_entry (by decide) (fun a => by rw [sl_len]; exact Nat.le_of_ble_eq_true rfl) rfl (run_M_isHeld hx hn hy hm hg k)

end
end
section
section
/-! ===== what a rule says, in the reference: who, act, thing, and what it says ===== -/
noncomputable def fwM (σ : zS) (w : Int) (u r : Nat) : Prop := rM σ 133 r = 0 ∨ (rM σ 133 r = 2 ∧ (σ.1 126 u).toInt = w) ∨ (rM σ 133 r = 3 ∧ rM σ 134 r = w) ∨ (rM σ 133 r = 1 ∧ (σ.1 120 (rM σ 134 r).toNat).toInt ≠ 0)
noncomputable def faM (σ : zS) (an r : Nat) : Prop := rM σ 135 r = 6 ∨ (rM σ 135 r ≠ 6 ∧ ((rM σ 132 r = 0 ∧ RcH σ an (rM σ 135 r).toNat) ∨ (rM σ 132 r ≠ 0 ∧ RcH σ (rM σ 135 r).toNat an)))
noncomputable def ftM (σ : zS) (u : Int) (r : Nat) : Prop := rM σ 136 r = 0 ∨ (rM σ 136 r = 1 ∧ rM σ 137 r = u) ∨ (rM σ 136 r = 2 ∧ unM σ 40 u (rM σ 137 r))
/-- what it says: -1 nothing, 3 a fault, else its effect -/
noncomputable def syM (σ τ : zS) (r j : Nat) (F : Prop) (x : EntJ) (v : Int) : Prop := (¬ F ∧ v = -1) ∨ (F ∧ j = 0 ∧ v = rM σ 132 r) ∨ (F ∧ j ≠ 0 ∧ x.1 = 3 ∧ v = 3 ∧ (τ.2 152 0).toInt = x.2) ∨ (F ∧ j ≠ 0 ∧ (x.1 = 4 ∨ (x.1 = 2 ∧ rM σ 132 r ≠ 1)) ∧ v = rM σ 132 r) ∨ (F ∧ j ≠ 0 ∧ ¬ (x.1 = 3 ∨ x.1 = 4 ∨ (x.1 = 2 ∧ rM σ 132 r ≠ 1)) ∧ v = -1)
theorem FrK.refl (σ : zS) : FrK σ σ := ⟨fun _ _ _ _ => rfl, fun _ _ _ => rfl⟩
theorem fxe_13_100 : FxE "RightsHouseModel" 100 11 42 := fx_e (m := 284) (t := 3) rfl (by decide) (by decide +kernel)
theorem fxe_13_103 : FxE "RightsHouseModel" 103 11 43 := fx_e (m := 284) (t := 3) rfl (by decide) (by decide +kernel)
theorem fxe_13_37 : FxE "RightsHouseModel" 37 11 15 := fx_e (m := 284) (t := 3) rfl (by decide) (by decide +kernel)
theorem fxe_13_61 : FxE "RightsHouseModel" 61 11 22 := fx_e (m := 284) (t := 3) rfl (by decide) (by decide +kernel)
theorem fxe_13_79 : FxE "RightsHouseModel" 79 11 35 := fx_e (m := 284) (t := 3) rfl (by decide) (by decide +kernel)
theorem fxe_13_85 : FxE "RightsHouseModel" 85 11 37 := fx_e (m := 284) (t := 3) rfl (by decide) (by decide +kernel)
theorem fxe_13_88 : FxE "RightsHouseModel" 88 11 38 := fx_e (m := 284) (t := 3) rfl (by decide) (by decide +kernel)
theorem kaa_120 : KaA 120 102 16 := ka_a (by decide +kernel)
theorem kaa_126 : KaA 126 100 40 := ka_a (by decide +kernel)
theorem kaa_132 : KaA 132 100 240 := ka_a (by decide +kernel)
theorem kaa_134 : KaA 134 100 240 := ka_a (by decide +kernel)
theorem kaa_135 : KaA 135 100 240 := ka_a (by decide +kernel)
theorem kaa_139 : KaA 139 100 240 := ka_a (by decide +kernel)
theorem kaa_140 : KaA 140 100 240 := ka_a (by decide +kernel)
theorem kfa_110_15 : KfA 110 15 11 2 120 := kf_a (by decide) (by decide +kernel)
theorem kfa_110_22 : KfA 110 22 11 2 126 := kf_a (by decide) (by decide +kernel)
theorem kfa_110_35 : KfA 110 35 11 2 132 := kf_a (by decide) (by decide +kernel)
theorem kfa_110_37 : KfA 110 37 11 2 134 := kf_a (by decide) (by decide +kernel)
theorem kfa_110_38 : KfA 110 38 11 2 135 := kf_a (by decide) (by decide +kernel)
theorem kfa_110_42 : KfA 110 42 11 2 139 := kf_a (by decide) (by decide +kernel)
theorem kfa_110_43 : KfA 110 43 11 2 140 := kf_a (by decide) (by decide +kernel)
theorem run_M_says_0 {E : xV} {σ : zS} {K : zKt} {ru who act th t : Int32} {r u : Nat} (hr : ru.toInt = (r : Int)) (hr2 : r < 240) (hun : th.toInt = (u : Int)) (hu : u < 40) (u1 : rM σ 133 r = 1 → 0 ≤ rM σ 134 r ∧ rM σ 134 r ≤ 15) (k : ∀ v : Int32, (v = 1 ∧ fwM σ who.toInt u r) ∨ (v = 0 ∧ ¬ fwM σ who.toInt u r) → Wz E Y_M_says 79 [(0, .ref 110), (1, .int ru), (2, .int who), (3, .int act), (4, .int th), (5, .int t)] [.int v] σ K) : Wz E Y_M_says 0 [(0, .ref 110), (1, .int ru), (2, .int who), (3, .int act), (4, .int th), (5, .int t)] [] σ K := by
  refine z_aload_n (f := 0) (i := 0) (q := 0) (pc' := 1) ⟨by decide +kernel, rfl⟩ rfl rfl ?_
  refine w_getr (k := 110) (j := 36) (idx := 82) (pc' := 4) fxe_13_82 kfa_110_36 ⟨by decide +kernel, rfl⟩ ?_
  refine z_iload_n (f := 1) (i := 1) (q := 1) (pc' := 5) ⟨by decide +kernel, rfl⟩ rfl rfl ?_
  refine w_iald (k := 133) (n := r) (pc' := 6) kaa_133 (hr) (hr2) ⟨by decide +kernel, rfl⟩ ?_
  refine z_if_eq (off := 68) (tgt := 74) (pc' := 9) ⟨by decide +kernel, by decide, rfl⟩ (fun h1 => ?_) (fun h1 => ?_)
  · refine z_iconst (i := 1) (v := 1) (pc' := 75) ⟨by decide +kernel, rfl⟩ (by decide) ?_
    refine z_goto (off := 4) (tgt := 79) (pc' := 78) ⟨by decide +kernel, by decide, rfl⟩ ?_
    have z0L : (0 : Int64).toInt = 0 := by decide
    have z0 : (0 : Int32).toInt = 0 := by decide
    have gh1 := j_eq_t (y := 0) h1
    have cf133 : rM σ 133 r = (σ.1 133 r).toInt := rfl
    have cf134 : rM σ 134 r = (σ.1 134 r).toInt := rfl
    exact k _ (Or.inl ⟨rfl, Or.inl (by omega)⟩)
  · refine z_aload_n (f := 0) (i := 0) (q := 0) (pc' := 10) ⟨by decide +kernel, rfl⟩ rfl rfl ?_
    refine w_getr (k := 110) (j := 36) (idx := 82) (pc' := 13) fxe_13_82 kfa_110_36 ⟨by decide +kernel, rfl⟩ ?_
    refine z_iload_n (f := 1) (i := 1) (q := 1) (pc' := 14) ⟨by decide +kernel, rfl⟩ rfl rfl ?_
    refine w_iald (k := 133) (n := r) (pc' := 15) kaa_133 (hr) (hr2) ⟨by decide +kernel, rfl⟩ ?_
    refine z_iconst (i := 2) (v := 2) (pc' := 16) ⟨by decide +kernel, rfl⟩ (by decide) ?_
    refine z_icmp_ne (off := 14) (tgt := 30) (pc' := 19) ⟨by decide +kernel, by decide, rfl⟩ (fun h2 => ?_) (fun h2 => ?_)
    · refine z_aload_n (f := 0) (i := 0) (q := 0) (pc' := 31) ⟨by decide +kernel, rfl⟩ rfl rfl ?_
      refine w_getr (k := 110) (j := 36) (idx := 82) (pc' := 34) fxe_13_82 kfa_110_36 ⟨by decide +kernel, rfl⟩ ?_
      refine z_iload_n (f := 1) (i := 1) (q := 1) (pc' := 35) ⟨by decide +kernel, rfl⟩ rfl rfl ?_
      refine w_iald (k := 133) (n := r) (pc' := 36) kaa_133 (hr) (hr2) ⟨by decide +kernel, rfl⟩ ?_
      refine z_iconst (i := 3) (v := 3) (pc' := 37) ⟨by decide +kernel, rfl⟩ (by decide) ?_
      refine z_icmp_ne (off := 13) (tgt := 50) (pc' := 40) ⟨by decide +kernel, by decide, rfl⟩ (fun h3 => ?_) (fun h3 => ?_)
      · refine z_aload_n (f := 0) (i := 0) (q := 0) (pc' := 51) ⟨by decide +kernel, rfl⟩ rfl rfl ?_
        refine w_getr (k := 110) (j := 36) (idx := 82) (pc' := 54) fxe_13_82 kfa_110_36 ⟨by decide +kernel, rfl⟩ ?_
        refine z_iload_n (f := 1) (i := 1) (q := 1) (pc' := 55) ⟨by decide +kernel, rfl⟩ rfl rfl ?_
        refine w_iald (k := 133) (n := r) (pc' := 56) kaa_133 (hr) (hr2) ⟨by decide +kernel, rfl⟩ ?_
        refine z_iconst (i := 1) (v := 1) (pc' := 57) ⟨by decide +kernel, rfl⟩ (by decide) ?_
        refine z_icmp_ne (off := 21) (tgt := 78) (pc' := 60) ⟨by decide +kernel, by decide, rfl⟩ (fun h4 => ?_) (fun h4 => ?_)
        · refine z_iconst (i := 0) (v := 0) (pc' := 79) ⟨by decide +kernel, rfl⟩ (by decide) ?_
          have z0L : (0 : Int64).toInt = 0 := by decide
          have z0 : (0 : Int32).toInt = 0 := by decide
          have z1 : (1 : Int32).toInt = 1 := by decide
          have z2 : (2 : Int32).toInt = 2 := by decide
          have z3 : (3 : Int32).toInt = 3 := by decide
          have gh1 := j_eq_f (y := 0) h1
          have gh2 := j_ne_t h2
          have gh3 := j_ne_t h3
          have gh4 := j_ne_t h4
          have cf133 : rM σ 133 r = (σ.1 133 r).toInt := rfl
          have cf134 : rM σ 134 r = (σ.1 134 r).toInt := rfl
          exact k _ (Or.inr ⟨rfl, fun q => (by rcases q with q | q | q | q <;> omega)⟩)
        · refine z_aload_n (f := 0) (i := 0) (q := 0) (pc' := 61) ⟨by decide +kernel, rfl⟩ rfl rfl ?_
          refine w_getr (k := 110) (j := 15) (idx := 37) (pc' := 64) fxe_13_37 kfa_110_15 ⟨by decide +kernel, rfl⟩ ?_
          refine z_aload_n (f := 0) (i := 0) (q := 0) (pc' := 65) ⟨by decide +kernel, rfl⟩ rfl rfl ?_
          refine w_getr (k := 110) (j := 37) (idx := 85) (pc' := 68) fxe_13_85 kfa_110_37 ⟨by decide +kernel, rfl⟩ ?_
          refine z_iload_n (f := 1) (i := 1) (q := 1) (pc' := 69) ⟨by decide +kernel, rfl⟩ rfl rfl ?_
          refine w_iald (k := 134) (n := r) (pc' := 70) kaa_134 (hr) (hr2) ⟨by decide +kernel, rfl⟩ ?_
          refine w_zald (k := 120) (n := (rM σ 134 r).toNat) (pc' := 71) kaa_120 (by have := u1 (by have q := j_ne_f h4; have z1 : (1 : Int32).toInt = 1 := (by decide); show (σ.1 133 r).toInt = 1; omega); have cf134 : rM σ 134 r = (σ.1 134 r).toInt := rfl; show (σ.1 134 r).toInt = _; omega) (by have := u1 (by have q := j_ne_f h4; have z1 : (1 : Int32).toInt = 1 := (by decide); show (σ.1 133 r).toInt = 1; omega); have cf134 : rM σ 134 r = (σ.1 134 r).toInt := rfl; omega) ⟨by decide +kernel, rfl⟩ ?_
          refine z_if_eq (off := 7) (tgt := 78) (pc' := 74) ⟨by decide +kernel, by decide, rfl⟩ (fun h5 => ?_) (fun h5 => ?_)
          · refine z_iconst (i := 0) (v := 0) (pc' := 79) ⟨by decide +kernel, rfl⟩ (by decide) ?_
            have z0L : (0 : Int64).toInt = 0 := by decide
            have z0 : (0 : Int32).toInt = 0 := by decide
            have z1 : (1 : Int32).toInt = 1 := by decide
            have z2 : (2 : Int32).toInt = 2 := by decide
            have z3 : (3 : Int32).toInt = 3 := by decide
            have gh1 := j_eq_f (y := 0) h1
            have gh2 := j_ne_t h2
            have gh3 := j_ne_t h3
            have gh4 := j_ne_f h4
            have gh5 := j_eq_t (y := 0) h5
            have cf133 : rM σ 133 r = (σ.1 133 r).toInt := rfl
            have cf134 : rM σ 134 r = (σ.1 134 r).toInt := rfl
            exact k _ (Or.inr ⟨rfl, fun q => (by rcases q with q | q | q | q <;> omega)⟩)
          · refine z_iconst (i := 1) (v := 1) (pc' := 75) ⟨by decide +kernel, rfl⟩ (by decide) ?_
            refine z_goto (off := 4) (tgt := 79) (pc' := 78) ⟨by decide +kernel, by decide, rfl⟩ ?_
            have z0L : (0 : Int64).toInt = 0 := by decide
            have z0 : (0 : Int32).toInt = 0 := by decide
            have z1 : (1 : Int32).toInt = 1 := by decide
            have z2 : (2 : Int32).toInt = 2 := by decide
            have z3 : (3 : Int32).toInt = 3 := by decide
            have gh1 := j_eq_f (y := 0) h1
            have gh2 := j_ne_t h2
            have gh3 := j_ne_t h3
            have gh4 := j_ne_f h4
            have gh5 := j_eq_f (y := 0) h5
            have cf133 : rM σ 133 r = (σ.1 133 r).toInt := rfl
            have cf134 : rM σ 134 r = (σ.1 134 r).toInt := rfl
            exact k _ (Or.inl ⟨rfl, Or.inr (Or.inr (Or.inr ⟨by omega, by omega⟩))⟩)
      · refine z_aload_n (f := 0) (i := 0) (q := 0) (pc' := 41) ⟨by decide +kernel, rfl⟩ rfl rfl ?_
        refine w_getr (k := 110) (j := 37) (idx := 85) (pc' := 44) fxe_13_85 kfa_110_37 ⟨by decide +kernel, rfl⟩ ?_
        refine z_iload_n (f := 1) (i := 1) (q := 1) (pc' := 45) ⟨by decide +kernel, rfl⟩ rfl rfl ?_
        refine w_iald (k := 134) (n := r) (pc' := 46) kaa_134 (hr) (hr2) ⟨by decide +kernel, rfl⟩ ?_
        refine z_iload_n (f := 2) (i := 2) (q := 2) (pc' := 47) ⟨by decide +kernel, rfl⟩ rfl rfl ?_
        refine z_icmp_eq (off := 27) (tgt := 74) (pc' := 50) ⟨by decide +kernel, by decide, rfl⟩ (fun h6 => ?_) (fun h6 => ?_)
        · refine z_iconst (i := 1) (v := 1) (pc' := 75) ⟨by decide +kernel, rfl⟩ (by decide) ?_
          refine z_goto (off := 4) (tgt := 79) (pc' := 78) ⟨by decide +kernel, by decide, rfl⟩ ?_
          have z0L : (0 : Int64).toInt = 0 := by decide
          have z0 : (0 : Int32).toInt = 0 := by decide
          have z2 : (2 : Int32).toInt = 2 := by decide
          have z3 : (3 : Int32).toInt = 3 := by decide
          have gh1 := j_eq_f (y := 0) h1
          have gh2 := j_ne_t h2
          have gh3 := j_ne_f h3
          have gh6 := j_eq_t h6
          have cf133 : rM σ 133 r = (σ.1 133 r).toInt := rfl
          have cf134 : rM σ 134 r = (σ.1 134 r).toInt := rfl
          exact k _ (Or.inl ⟨rfl, Or.inr (Or.inr (Or.inl ⟨by omega, by omega⟩))⟩)
        · refine z_aload_n (f := 0) (i := 0) (q := 0) (pc' := 51) ⟨by decide +kernel, rfl⟩ rfl rfl ?_
          refine w_getr (k := 110) (j := 36) (idx := 82) (pc' := 54) fxe_13_82 kfa_110_36 ⟨by decide +kernel, rfl⟩ ?_
          refine z_iload_n (f := 1) (i := 1) (q := 1) (pc' := 55) ⟨by decide +kernel, rfl⟩ rfl rfl ?_
          refine w_iald (k := 133) (n := r) (pc' := 56) kaa_133 (hr) (hr2) ⟨by decide +kernel, rfl⟩ ?_
          refine z_iconst (i := 1) (v := 1) (pc' := 57) ⟨by decide +kernel, rfl⟩ (by decide) ?_
          refine z_icmp_ne (off := 21) (tgt := 78) (pc' := 60) ⟨by decide +kernel, by decide, rfl⟩ (fun h7 => ?_) (fun h7 => ?_)
          · refine z_iconst (i := 0) (v := 0) (pc' := 79) ⟨by decide +kernel, rfl⟩ (by decide) ?_
            have z0L : (0 : Int64).toInt = 0 := by decide
            have z0 : (0 : Int32).toInt = 0 := by decide
            have z1 : (1 : Int32).toInt = 1 := by decide
            have z2 : (2 : Int32).toInt = 2 := by decide
            have z3 : (3 : Int32).toInt = 3 := by decide
            have gh1 := j_eq_f (y := 0) h1
            have gh2 := j_ne_t h2
            have gh3 := j_ne_f h3
            have gh6 := j_eq_f h6
            have gh7 := j_ne_t h7
            have cf133 : rM σ 133 r = (σ.1 133 r).toInt := rfl
            have cf134 : rM σ 134 r = (σ.1 134 r).toInt := rfl
            exact k _ (Or.inr ⟨rfl, fun q => (by rcases q with q | q | q | q <;> omega)⟩)
          · refine z_aload_n (f := 0) (i := 0) (q := 0) (pc' := 61) ⟨by decide +kernel, rfl⟩ rfl rfl ?_
            refine w_getr (k := 110) (j := 15) (idx := 37) (pc' := 64) fxe_13_37 kfa_110_15 ⟨by decide +kernel, rfl⟩ ?_
            refine z_aload_n (f := 0) (i := 0) (q := 0) (pc' := 65) ⟨by decide +kernel, rfl⟩ rfl rfl ?_
            refine w_getr (k := 110) (j := 37) (idx := 85) (pc' := 68) fxe_13_85 kfa_110_37 ⟨by decide +kernel, rfl⟩ ?_
            refine z_iload_n (f := 1) (i := 1) (q := 1) (pc' := 69) ⟨by decide +kernel, rfl⟩ rfl rfl ?_
            refine w_iald (k := 134) (n := r) (pc' := 70) kaa_134 (hr) (hr2) ⟨by decide +kernel, rfl⟩ ?_
            refine w_zald (k := 120) (n := (rM σ 134 r).toNat) (pc' := 71) kaa_120 (by have := u1 (by have q := j_ne_f h7; have z1 : (1 : Int32).toInt = 1 := (by decide); show (σ.1 133 r).toInt = 1; omega); have cf134 : rM σ 134 r = (σ.1 134 r).toInt := rfl; show (σ.1 134 r).toInt = _; omega) (by have := u1 (by have q := j_ne_f h7; have z1 : (1 : Int32).toInt = 1 := (by decide); show (σ.1 133 r).toInt = 1; omega); have cf134 : rM σ 134 r = (σ.1 134 r).toInt := rfl; omega) ⟨by decide +kernel, rfl⟩ ?_
            refine z_if_eq (off := 7) (tgt := 78) (pc' := 74) ⟨by decide +kernel, by decide, rfl⟩ (fun h8 => ?_) (fun h8 => ?_)
            · refine z_iconst (i := 0) (v := 0) (pc' := 79) ⟨by decide +kernel, rfl⟩ (by decide) ?_
              have z0L : (0 : Int64).toInt = 0 := by decide
              have z0 : (0 : Int32).toInt = 0 := by decide
              have z1 : (1 : Int32).toInt = 1 := by decide
              have z2 : (2 : Int32).toInt = 2 := by decide
              have z3 : (3 : Int32).toInt = 3 := by decide
              have gh1 := j_eq_f (y := 0) h1
              have gh2 := j_ne_t h2
              have gh3 := j_ne_f h3
              have gh6 := j_eq_f h6
              have gh7 := j_ne_f h7
              have gh8 := j_eq_t (y := 0) h8
              have cf133 : rM σ 133 r = (σ.1 133 r).toInt := rfl
              have cf134 : rM σ 134 r = (σ.1 134 r).toInt := rfl
              exact k _ (Or.inr ⟨rfl, fun q => (by rcases q with q | q | q | q <;> omega)⟩)
            · refine z_iconst (i := 1) (v := 1) (pc' := 75) ⟨by decide +kernel, rfl⟩ (by decide) ?_
              refine z_goto (off := 4) (tgt := 79) (pc' := 78) ⟨by decide +kernel, by decide, rfl⟩ ?_
              have z0L : (0 : Int64).toInt = 0 := by decide
              have z0 : (0 : Int32).toInt = 0 := by decide
              have z1 : (1 : Int32).toInt = 1 := by decide
              have z2 : (2 : Int32).toInt = 2 := by decide
              have z3 : (3 : Int32).toInt = 3 := by decide
              have gh1 := j_eq_f (y := 0) h1
              have gh2 := j_ne_t h2
              have gh3 := j_ne_f h3
              have gh6 := j_eq_f h6
              have gh7 := j_ne_f h7
              have gh8 := j_eq_f (y := 0) h8
              have cf133 : rM σ 133 r = (σ.1 133 r).toInt := rfl
              have cf134 : rM σ 134 r = (σ.1 134 r).toInt := rfl
              exact k _ (Or.inl ⟨rfl, Or.inr (Or.inr (Or.inr ⟨by omega, by omega⟩))⟩)
    · refine z_aload_n (f := 0) (i := 0) (q := 0) (pc' := 20) ⟨by decide +kernel, rfl⟩ rfl rfl ?_
      refine w_getr (k := 110) (j := 22) (idx := 61) (pc' := 23) fxe_13_61 kfa_110_22 ⟨by decide +kernel, rfl⟩ ?_
      refine z_iload (i := 4) (q := 4) (pc' := 25) ⟨by decide +kernel, rfl⟩ rfl ?_
      refine w_iald (k := 126) (n := u) (pc' := 26) kaa_126 (hun) (hu) ⟨by decide +kernel, rfl⟩ ?_
      refine z_iload_n (f := 2) (i := 2) (q := 2) (pc' := 27) ⟨by decide +kernel, rfl⟩ rfl rfl ?_
      refine z_icmp_eq (off := 47) (tgt := 74) (pc' := 30) ⟨by decide +kernel, by decide, rfl⟩ (fun h9 => ?_) (fun h9 => ?_)
      · refine z_iconst (i := 1) (v := 1) (pc' := 75) ⟨by decide +kernel, rfl⟩ (by decide) ?_
        refine z_goto (off := 4) (tgt := 79) (pc' := 78) ⟨by decide +kernel, by decide, rfl⟩ ?_
        have z0L : (0 : Int64).toInt = 0 := by decide
        have z0 : (0 : Int32).toInt = 0 := by decide
        have z2 : (2 : Int32).toInt = 2 := by decide
        have gh1 := j_eq_f (y := 0) h1
        have gh2 := j_ne_f h2
        have gh9 := j_eq_t h9
        have cf133 : rM σ 133 r = (σ.1 133 r).toInt := rfl
        have cf134 : rM σ 134 r = (σ.1 134 r).toInt := rfl
        exact k _ (Or.inl ⟨rfl, Or.inr (Or.inl ⟨by omega, by omega⟩)⟩)
      · refine z_aload_n (f := 0) (i := 0) (q := 0) (pc' := 31) ⟨by decide +kernel, rfl⟩ rfl rfl ?_
        refine w_getr (k := 110) (j := 36) (idx := 82) (pc' := 34) fxe_13_82 kfa_110_36 ⟨by decide +kernel, rfl⟩ ?_
        refine z_iload_n (f := 1) (i := 1) (q := 1) (pc' := 35) ⟨by decide +kernel, rfl⟩ rfl rfl ?_
        refine w_iald (k := 133) (n := r) (pc' := 36) kaa_133 (hr) (hr2) ⟨by decide +kernel, rfl⟩ ?_
        refine z_iconst (i := 3) (v := 3) (pc' := 37) ⟨by decide +kernel, rfl⟩ (by decide) ?_
        refine z_icmp_ne (off := 13) (tgt := 50) (pc' := 40) ⟨by decide +kernel, by decide, rfl⟩ (fun h10 => ?_) (fun h10 => ?_)
        · refine z_aload_n (f := 0) (i := 0) (q := 0) (pc' := 51) ⟨by decide +kernel, rfl⟩ rfl rfl ?_
          refine w_getr (k := 110) (j := 36) (idx := 82) (pc' := 54) fxe_13_82 kfa_110_36 ⟨by decide +kernel, rfl⟩ ?_
          refine z_iload_n (f := 1) (i := 1) (q := 1) (pc' := 55) ⟨by decide +kernel, rfl⟩ rfl rfl ?_
          refine w_iald (k := 133) (n := r) (pc' := 56) kaa_133 (hr) (hr2) ⟨by decide +kernel, rfl⟩ ?_
          refine z_iconst (i := 1) (v := 1) (pc' := 57) ⟨by decide +kernel, rfl⟩ (by decide) ?_
          refine z_icmp_ne (off := 21) (tgt := 78) (pc' := 60) ⟨by decide +kernel, by decide, rfl⟩ (fun h11 => ?_) (fun h11 => ?_)
          · refine z_iconst (i := 0) (v := 0) (pc' := 79) ⟨by decide +kernel, rfl⟩ (by decide) ?_
            have z0L : (0 : Int64).toInt = 0 := by decide
            have z0 : (0 : Int32).toInt = 0 := by decide
            have z1 : (1 : Int32).toInt = 1 := by decide
            have z2 : (2 : Int32).toInt = 2 := by decide
            have z3 : (3 : Int32).toInt = 3 := by decide
            have gh1 := j_eq_f (y := 0) h1
            have gh2 := j_ne_f h2
            have gh9 := j_eq_f h9
            have gh10 := j_ne_t h10
            have gh11 := j_ne_t h11
            have cf133 : rM σ 133 r = (σ.1 133 r).toInt := rfl
            have cf134 : rM σ 134 r = (σ.1 134 r).toInt := rfl
            exact k _ (Or.inr ⟨rfl, fun q => (by rcases q with q | q | q | q <;> omega)⟩)
          · refine z_aload_n (f := 0) (i := 0) (q := 0) (pc' := 61) ⟨by decide +kernel, rfl⟩ rfl rfl ?_
            refine w_getr (k := 110) (j := 15) (idx := 37) (pc' := 64) fxe_13_37 kfa_110_15 ⟨by decide +kernel, rfl⟩ ?_
            refine z_aload_n (f := 0) (i := 0) (q := 0) (pc' := 65) ⟨by decide +kernel, rfl⟩ rfl rfl ?_
            refine w_getr (k := 110) (j := 37) (idx := 85) (pc' := 68) fxe_13_85 kfa_110_37 ⟨by decide +kernel, rfl⟩ ?_
            refine z_iload_n (f := 1) (i := 1) (q := 1) (pc' := 69) ⟨by decide +kernel, rfl⟩ rfl rfl ?_
            refine w_iald (k := 134) (n := r) (pc' := 70) kaa_134 (hr) (hr2) ⟨by decide +kernel, rfl⟩ ?_
            refine w_zald (k := 120) (n := (rM σ 134 r).toNat) (pc' := 71) kaa_120 (by have := u1 (by have q := j_ne_f h11; have z1 : (1 : Int32).toInt = 1 := (by decide); show (σ.1 133 r).toInt = 1; omega); have cf134 : rM σ 134 r = (σ.1 134 r).toInt := rfl; show (σ.1 134 r).toInt = _; omega) (by have := u1 (by have q := j_ne_f h11; have z1 : (1 : Int32).toInt = 1 := (by decide); show (σ.1 133 r).toInt = 1; omega); have cf134 : rM σ 134 r = (σ.1 134 r).toInt := rfl; omega) ⟨by decide +kernel, rfl⟩ ?_
            refine z_if_eq (off := 7) (tgt := 78) (pc' := 74) ⟨by decide +kernel, by decide, rfl⟩ (fun h12 => ?_) (fun h12 => ?_)
            · refine z_iconst (i := 0) (v := 0) (pc' := 79) ⟨by decide +kernel, rfl⟩ (by decide) ?_
              have z0L : (0 : Int64).toInt = 0 := by decide
              have z0 : (0 : Int32).toInt = 0 := by decide
              have z1 : (1 : Int32).toInt = 1 := by decide
              have z2 : (2 : Int32).toInt = 2 := by decide
              have z3 : (3 : Int32).toInt = 3 := by decide
              have gh1 := j_eq_f (y := 0) h1
              have gh2 := j_ne_f h2
              have gh9 := j_eq_f h9
              have gh10 := j_ne_t h10
              have gh11 := j_ne_f h11
              have gh12 := j_eq_t (y := 0) h12
              have cf133 : rM σ 133 r = (σ.1 133 r).toInt := rfl
              have cf134 : rM σ 134 r = (σ.1 134 r).toInt := rfl
              exact k _ (Or.inr ⟨rfl, fun q => (by rcases q with q | q | q | q <;> omega)⟩)
            · refine z_iconst (i := 1) (v := 1) (pc' := 75) ⟨by decide +kernel, rfl⟩ (by decide) ?_
              refine z_goto (off := 4) (tgt := 79) (pc' := 78) ⟨by decide +kernel, by decide, rfl⟩ ?_
              have z0L : (0 : Int64).toInt = 0 := by decide
              have z0 : (0 : Int32).toInt = 0 := by decide
              have z1 : (1 : Int32).toInt = 1 := by decide
              have z2 : (2 : Int32).toInt = 2 := by decide
              have z3 : (3 : Int32).toInt = 3 := by decide
              have gh1 := j_eq_f (y := 0) h1
              have gh2 := j_ne_f h2
              have gh9 := j_eq_f h9
              have gh10 := j_ne_t h10
              have gh11 := j_ne_f h11
              have gh12 := j_eq_f (y := 0) h12
              have cf133 : rM σ 133 r = (σ.1 133 r).toInt := rfl
              have cf134 : rM σ 134 r = (σ.1 134 r).toInt := rfl
              exact k _ (Or.inl ⟨rfl, Or.inr (Or.inr (Or.inr ⟨by omega, by omega⟩))⟩)
        · refine z_aload_n (f := 0) (i := 0) (q := 0) (pc' := 41) ⟨by decide +kernel, rfl⟩ rfl rfl ?_
          refine w_getr (k := 110) (j := 37) (idx := 85) (pc' := 44) fxe_13_85 kfa_110_37 ⟨by decide +kernel, rfl⟩ ?_
          refine z_iload_n (f := 1) (i := 1) (q := 1) (pc' := 45) ⟨by decide +kernel, rfl⟩ rfl rfl ?_
          refine w_iald (k := 134) (n := r) (pc' := 46) kaa_134 (hr) (hr2) ⟨by decide +kernel, rfl⟩ ?_
          refine z_iload_n (f := 2) (i := 2) (q := 2) (pc' := 47) ⟨by decide +kernel, rfl⟩ rfl rfl ?_
          refine z_icmp_eq (off := 27) (tgt := 74) (pc' := 50) ⟨by decide +kernel, by decide, rfl⟩ (fun h13 => ?_) (fun h13 => ?_)
          · refine z_iconst (i := 1) (v := 1) (pc' := 75) ⟨by decide +kernel, rfl⟩ (by decide) ?_
            refine z_goto (off := 4) (tgt := 79) (pc' := 78) ⟨by decide +kernel, by decide, rfl⟩ ?_
            have z0L : (0 : Int64).toInt = 0 := by decide
            have z0 : (0 : Int32).toInt = 0 := by decide
            have z2 : (2 : Int32).toInt = 2 := by decide
            have z3 : (3 : Int32).toInt = 3 := by decide
            have gh1 := j_eq_f (y := 0) h1
            have gh2 := j_ne_f h2
            have gh9 := j_eq_f h9
            have gh10 := j_ne_f h10
            have gh13 := j_eq_t h13
            have cf133 : rM σ 133 r = (σ.1 133 r).toInt := rfl
            have cf134 : rM σ 134 r = (σ.1 134 r).toInt := rfl
            exact k _ (Or.inl ⟨rfl, Or.inr (Or.inr (Or.inl ⟨by omega, by omega⟩))⟩)
          · refine z_aload_n (f := 0) (i := 0) (q := 0) (pc' := 51) ⟨by decide +kernel, rfl⟩ rfl rfl ?_
            refine w_getr (k := 110) (j := 36) (idx := 82) (pc' := 54) fxe_13_82 kfa_110_36 ⟨by decide +kernel, rfl⟩ ?_
            refine z_iload_n (f := 1) (i := 1) (q := 1) (pc' := 55) ⟨by decide +kernel, rfl⟩ rfl rfl ?_
            refine w_iald (k := 133) (n := r) (pc' := 56) kaa_133 (hr) (hr2) ⟨by decide +kernel, rfl⟩ ?_
            refine z_iconst (i := 1) (v := 1) (pc' := 57) ⟨by decide +kernel, rfl⟩ (by decide) ?_
            refine z_icmp_ne (off := 21) (tgt := 78) (pc' := 60) ⟨by decide +kernel, by decide, rfl⟩ (fun h14 => ?_) (fun h14 => ?_)
            · refine z_iconst (i := 0) (v := 0) (pc' := 79) ⟨by decide +kernel, rfl⟩ (by decide) ?_
              have z0L : (0 : Int64).toInt = 0 := by decide
              have z0 : (0 : Int32).toInt = 0 := by decide
              have z1 : (1 : Int32).toInt = 1 := by decide
              have z2 : (2 : Int32).toInt = 2 := by decide
              have z3 : (3 : Int32).toInt = 3 := by decide
              have gh1 := j_eq_f (y := 0) h1
              have gh2 := j_ne_f h2
              have gh9 := j_eq_f h9
              have gh10 := j_ne_f h10
              have gh13 := j_eq_f h13
              have gh14 := j_ne_t h14
              have cf133 : rM σ 133 r = (σ.1 133 r).toInt := rfl
              have cf134 : rM σ 134 r = (σ.1 134 r).toInt := rfl
              exact k _ (Or.inr ⟨rfl, fun q => (by rcases q with q | q | q | q <;> omega)⟩)
            · refine z_aload_n (f := 0) (i := 0) (q := 0) (pc' := 61) ⟨by decide +kernel, rfl⟩ rfl rfl ?_
              refine w_getr (k := 110) (j := 15) (idx := 37) (pc' := 64) fxe_13_37 kfa_110_15 ⟨by decide +kernel, rfl⟩ ?_
              refine z_aload_n (f := 0) (i := 0) (q := 0) (pc' := 65) ⟨by decide +kernel, rfl⟩ rfl rfl ?_
              refine w_getr (k := 110) (j := 37) (idx := 85) (pc' := 68) fxe_13_85 kfa_110_37 ⟨by decide +kernel, rfl⟩ ?_
              refine z_iload_n (f := 1) (i := 1) (q := 1) (pc' := 69) ⟨by decide +kernel, rfl⟩ rfl rfl ?_
              refine w_iald (k := 134) (n := r) (pc' := 70) kaa_134 (hr) (hr2) ⟨by decide +kernel, rfl⟩ ?_
              refine w_zald (k := 120) (n := (rM σ 134 r).toNat) (pc' := 71) kaa_120 (by have := u1 (by have q := j_ne_f h14; have z1 : (1 : Int32).toInt = 1 := (by decide); show (σ.1 133 r).toInt = 1; omega); have cf134 : rM σ 134 r = (σ.1 134 r).toInt := rfl; show (σ.1 134 r).toInt = _; omega) (by have := u1 (by have q := j_ne_f h14; have z1 : (1 : Int32).toInt = 1 := (by decide); show (σ.1 133 r).toInt = 1; omega); have cf134 : rM σ 134 r = (σ.1 134 r).toInt := rfl; omega) ⟨by decide +kernel, rfl⟩ ?_
              refine z_if_eq (off := 7) (tgt := 78) (pc' := 74) ⟨by decide +kernel, by decide, rfl⟩ (fun h15 => ?_) (fun h15 => ?_)
              · refine z_iconst (i := 0) (v := 0) (pc' := 79) ⟨by decide +kernel, rfl⟩ (by decide) ?_
                have z0L : (0 : Int64).toInt = 0 := by decide
                have z0 : (0 : Int32).toInt = 0 := by decide
                have z1 : (1 : Int32).toInt = 1 := by decide
                have z2 : (2 : Int32).toInt = 2 := by decide
                have z3 : (3 : Int32).toInt = 3 := by decide
                have gh1 := j_eq_f (y := 0) h1
                have gh2 := j_ne_f h2
                have gh9 := j_eq_f h9
                have gh10 := j_ne_f h10
                have gh13 := j_eq_f h13
                have gh14 := j_ne_f h14
                have gh15 := j_eq_t (y := 0) h15
                have cf133 : rM σ 133 r = (σ.1 133 r).toInt := rfl
                have cf134 : rM σ 134 r = (σ.1 134 r).toInt := rfl
                exact k _ (Or.inr ⟨rfl, fun q => (by rcases q with q | q | q | q <;> omega)⟩)
              · refine z_iconst (i := 1) (v := 1) (pc' := 75) ⟨by decide +kernel, rfl⟩ (by decide) ?_
                refine z_goto (off := 4) (tgt := 79) (pc' := 78) ⟨by decide +kernel, by decide, rfl⟩ ?_
                have z0L : (0 : Int64).toInt = 0 := by decide
                have z0 : (0 : Int32).toInt = 0 := by decide
                have z1 : (1 : Int32).toInt = 1 := by decide
                have z2 : (2 : Int32).toInt = 2 := by decide
                have z3 : (3 : Int32).toInt = 3 := by decide
                have gh1 := j_eq_f (y := 0) h1
                have gh2 := j_ne_f h2
                have gh9 := j_eq_f h9
                have gh10 := j_ne_f h10
                have gh13 := j_eq_f h13
                have gh14 := j_ne_f h14
                have gh15 := j_eq_f (y := 0) h15
                have cf133 : rM σ 133 r = (σ.1 133 r).toInt := rfl
                have cf134 : rM σ 134 r = (σ.1 134 r).toInt := rfl
                exact k _ (Or.inl ⟨rfl, Or.inr (Or.inr (Or.inr ⟨by omega, by omega⟩))⟩)
theorem run_M_says_79 {E : xV} {σ : zS} {K : zKt} {ru who act th t : Int32} {v : Int32} {r an : Nat} {A : Prop} (hr : ru.toInt = (r : Int)) (hr2 : r < 240) (hac : act.toInt = (an : Int)) (han : an < 6) (hg : (σ.1 110 26).toInt ≠ 0) (u3 : 0 ≤ rM σ 135 r ∧ rM σ 135 r ≤ 6) (hv : (v = 1 ∧ A) ∨ (v = 0 ∧ ¬ A)) (k : ∀ v1 : Int32, (v1 = 1 ∧ (A ∧ faM σ an r)) ∨ (v1 = 0 ∧ ¬ (A ∧ faM σ an r)) → Wz E Y_M_says 142 [(6, .int v), (0, .ref 110), (1, .int ru), (2, .int who), (3, .int act), (4, .int th), (5, .int t)] [.int v1] σ K) : Wz E Y_M_says 79 [(0, .ref 110), (1, .int ru), (2, .int who), (3, .int act), (4, .int th), (5, .int t)] [.int v] σ K := by
  refine z_istore (i := 6) (pc' := 81) ⟨by decide +kernel, rfl⟩ (by decide) rfl ?_
  show Wz E Y_M_says 81 [(6, .int v), (0, .ref 110), (1, .int ru), (2, .int who), (3, .int act), (4, .int th), (5, .int t)] [] σ K
  refine z_iload (i := 6) (q := 0) (pc' := 83) ⟨by decide +kernel, rfl⟩ rfl ?_
  refine z_if_eq (off := 58) (tgt := 141) (pc' := 86) ⟨by decide +kernel, by decide, rfl⟩ (fun h1 => ?_) (fun h1 => ?_)
  · refine z_iconst (i := 0) (v := 0) (pc' := 142) ⟨by decide +kernel, rfl⟩ (by decide) ?_
    have z0L : (0 : Int64).toInt = 0 := by decide
    have z0 : (0 : Int32).toInt = 0 := by decide
    have gh1 := j_eq_t (y := 0) h1
    exact k _ (Or.inr ⟨rfl, fun q => p3_f hv h1 q.1⟩)
  · refine z_aload_n (f := 0) (i := 0) (q := 1) (pc' := 87) ⟨by decide +kernel, rfl⟩ rfl rfl ?_
    refine w_getr (k := 110) (j := 38) (idx := 88) (pc' := 90) fxe_13_88 kfa_110_38 ⟨by decide +kernel, rfl⟩ ?_
    refine z_iload_n (f := 1) (i := 1) (q := 2) (pc' := 91) ⟨by decide +kernel, rfl⟩ rfl rfl ?_
    refine w_iald (k := 135) (n := r) (pc' := 92) kaa_135 (hr) (hr2) ⟨by decide +kernel, rfl⟩ ?_
    refine z_bipush (i := 6) (v := 6) (pc' := 94) ⟨by decide +kernel, rfl⟩ (by decide) ?_
    refine z_icmp_eq (off := 43) (tgt := 137) (pc' := 97) ⟨by decide +kernel, by decide, rfl⟩ (fun h2 => ?_) (fun h2 => ?_)
    · refine z_iconst (i := 1) (v := 1) (pc' := 138) ⟨by decide +kernel, rfl⟩ (by decide) ?_
      refine z_goto (off := 4) (tgt := 142) (pc' := 141) ⟨by decide +kernel, by decide, rfl⟩ ?_
      have z0L : (0 : Int64).toInt = 0 := by decide
      have z0 : (0 : Int32).toInt = 0 := by decide
      have z6 : (6 : Int32).toInt = 6 := by decide
      have gh1 := j_eq_f (y := 0) h1
      have gh2 := j_eq_t h2
      have cf135 : rM σ 135 r = (σ.1 135 r).toInt := rfl
      have cf132 : rM σ 132 r = (σ.1 132 r).toInt := rfl
      exact k _ (Or.inl ⟨rfl, p3_t hv h1, Or.inl (by omega)⟩)
    · refine z_aload_n (f := 0) (i := 0) (q := 1) (pc' := 98) ⟨by decide +kernel, rfl⟩ rfl rfl ?_
      refine w_getr (k := 110) (j := 35) (idx := 79) (pc' := 101) fxe_13_79 kfa_110_35 ⟨by decide +kernel, rfl⟩ ?_
      refine z_iload_n (f := 1) (i := 1) (q := 2) (pc' := 102) ⟨by decide +kernel, rfl⟩ rfl rfl ?_
      refine w_iald (k := 132) (n := r) (pc' := 103) kaa_132 (hr) (hr2) ⟨by decide +kernel, rfl⟩ ?_
      refine z_if_ne (off := 20) (tgt := 123) (pc' := 106) ⟨by decide +kernel, by decide, rfl⟩ (fun h3 => ?_) (fun h3 => ?_)
      · refine z_aload_n (f := 0) (i := 0) (q := 1) (pc' := 124) ⟨by decide +kernel, rfl⟩ rfl rfl ?_
        refine z_aload_n (f := 0) (i := 0) (q := 1) (pc' := 125) ⟨by decide +kernel, rfl⟩ rfl rfl ?_
        refine w_getr (k := 110) (j := 38) (idx := 88) (pc' := 128) fxe_13_88 kfa_110_38 ⟨by decide +kernel, rfl⟩ ?_
        refine z_iload_n (f := 1) (i := 1) (q := 2) (pc' := 129) ⟨by decide +kernel, rfl⟩ rfl rfl ?_
        refine w_iald (k := 135) (n := r) (pc' := 130) kaa_135 (hr) (hr2) ⟨by decide +kernel, rfl⟩ ?_
        refine z_iload_n (f := 3) (i := 3) (q := 4) (pc' := 131) ⟨by decide +kernel, rfl⟩ rfl rfl ?_
        refine w_invV (Z := Y_M_isHeld) (idx := 495) (kb := 110) (As := [.int (σ.1 135 r), .int act]) (rest := []) (pc' := 134) cl_13_495 rfl ⟨rfl, rfl⟩ kfa_110_0 rfl ⟨⟨by decide, by decide⟩, rfl, rfl⟩ ⟨by decide +kernel, rfl⟩ rfl rfl (Nat.le_of_ble_eq_true rfl) rfl rfl ?_
        refine cz_M_isHeld (n := (rM σ 135 r).toNat) (m := an) (by have := u3; have q := j_eq_f h2; have z6 : (6 : Int32).toInt = 6 := (by decide); have cf135 : rM σ 135 r = (σ.1 135 r).toInt := rfl; show (σ.1 135 r).toInt = _; omega) (by have := u3; have q := j_eq_f h2; have z6 : (6 : Int32).toInt = 6 := (by decide); have cf135 : rM σ 135 r = (σ.1 135 r).toInt := rfl; omega) hac han hg (fun v4 hv4 => ?_)
        show Wz E Y_M_says 134 [(6, .int v), (0, .ref 110), (1, .int ru), (2, .int who), (3, .int act), (4, .int th), (5, .int t)] [.int v4] σ K
        refine z_if_eq (off := 7) (tgt := 141) (pc' := 137) ⟨by decide +kernel, by decide, rfl⟩ (fun h5 => ?_) (fun h5 => ?_)
        · refine z_iconst (i := 0) (v := 0) (pc' := 142) ⟨by decide +kernel, rfl⟩ (by decide) ?_
          have z0L : (0 : Int64).toInt = 0 := by decide
          have z0 : (0 : Int32).toInt = 0 := by decide
          have z6 : (6 : Int32).toInt = 6 := by decide
          have gh1 := j_eq_f (y := 0) h1
          have gh2 := j_eq_f h2
          have gh3 := j_ne_t (y := 0) h3
          have gh5 := p3_f hv4 h5
          have cf135 : rM σ 135 r = (σ.1 135 r).toInt := rfl
          have cf132 : rM σ 132 r = (σ.1 132 r).toInt := rfl
          have n6 : rM σ 135 r ≠ 6 := by omega
          have e0 : rM σ 132 r ≠ 0 := by omega
          exact k _ (Or.inr ⟨rfl, fun z => (by rcases z.2 with z | ⟨_, z | z⟩; exact n6 z; exact e0 z.1; exact p3_f hv4 h5 z.2)⟩)
        · refine z_iconst (i := 1) (v := 1) (pc' := 138) ⟨by decide +kernel, rfl⟩ (by decide) ?_
          refine z_goto (off := 4) (tgt := 142) (pc' := 141) ⟨by decide +kernel, by decide, rfl⟩ ?_
          have z0L : (0 : Int64).toInt = 0 := by decide
          have z0 : (0 : Int32).toInt = 0 := by decide
          have z6 : (6 : Int32).toInt = 6 := by decide
          have gh1 := j_eq_f (y := 0) h1
          have gh2 := j_eq_f h2
          have gh3 := j_ne_t (y := 0) h3
          have gh5 := p3_t hv4 h5
          have cf135 : rM σ 135 r = (σ.1 135 r).toInt := rfl
          have cf132 : rM σ 132 r = (σ.1 132 r).toInt := rfl
          have n6 : rM σ 135 r ≠ 6 := by omega
          have e0 : rM σ 132 r ≠ 0 := by omega
          exact k _ (Or.inl ⟨rfl, p3_t hv h1, Or.inr ⟨n6, Or.inr ⟨e0, p3_t hv4 h5⟩⟩⟩)
      · refine z_aload_n (f := 0) (i := 0) (q := 1) (pc' := 107) ⟨by decide +kernel, rfl⟩ rfl rfl ?_
        refine z_iload_n (f := 3) (i := 3) (q := 4) (pc' := 108) ⟨by decide +kernel, rfl⟩ rfl rfl ?_
        refine z_aload_n (f := 0) (i := 0) (q := 1) (pc' := 109) ⟨by decide +kernel, rfl⟩ rfl rfl ?_
        refine w_getr (k := 110) (j := 38) (idx := 88) (pc' := 112) fxe_13_88 kfa_110_38 ⟨by decide +kernel, rfl⟩ ?_
        refine z_iload_n (f := 1) (i := 1) (q := 2) (pc' := 113) ⟨by decide +kernel, rfl⟩ rfl rfl ?_
        refine w_iald (k := 135) (n := r) (pc' := 114) kaa_135 (hr) (hr2) ⟨by decide +kernel, rfl⟩ ?_
        refine w_invV (Z := Y_M_isHeld) (idx := 495) (kb := 110) (As := [.int act, .int (σ.1 135 r)]) (rest := []) (pc' := 117) cl_13_495 rfl ⟨rfl, rfl⟩ kfa_110_0 rfl ⟨⟨by decide, by decide⟩, rfl, rfl⟩ ⟨by decide +kernel, rfl⟩ rfl rfl (Nat.le_of_ble_eq_true rfl) rfl rfl ?_
        refine cz_M_isHeld (n := an) (m := (rM σ 135 r).toNat) hac han (by have := u3; have q := j_eq_f h2; have z6 : (6 : Int32).toInt = 6 := (by decide); have cf135 : rM σ 135 r = (σ.1 135 r).toInt := rfl; show (σ.1 135 r).toInt = _; omega) (by have := u3; have q := j_eq_f h2; have z6 : (6 : Int32).toInt = 6 := (by decide); have cf135 : rM σ 135 r = (σ.1 135 r).toInt := rfl; omega) hg (fun v6 hv6 => ?_)
        show Wz E Y_M_says 117 [(6, .int v), (0, .ref 110), (1, .int ru), (2, .int who), (3, .int act), (4, .int th), (5, .int t)] [.int v6] σ K
        refine z_if_eq (off := 24) (tgt := 141) (pc' := 120) ⟨by decide +kernel, by decide, rfl⟩ (fun h7 => ?_) (fun h7 => ?_)
        · refine z_iconst (i := 0) (v := 0) (pc' := 142) ⟨by decide +kernel, rfl⟩ (by decide) ?_
          have z0L : (0 : Int64).toInt = 0 := by decide
          have z0 : (0 : Int32).toInt = 0 := by decide
          have z6 : (6 : Int32).toInt = 6 := by decide
          have gh1 := j_eq_f (y := 0) h1
          have gh2 := j_eq_f h2
          have gh3 := j_ne_f (y := 0) h3
          have gh7 := p3_f hv6 h7
          have cf135 : rM σ 135 r = (σ.1 135 r).toInt := rfl
          have cf132 : rM σ 132 r = (σ.1 132 r).toInt := rfl
          have n6 : rM σ 135 r ≠ 6 := by omega
          have e0 : rM σ 132 r = 0 := by omega
          exact k _ (Or.inr ⟨rfl, fun z => (by rcases z.2 with z | ⟨_, z | z⟩; exact n6 z; exact p3_f hv6 h7 z.2; exact z.1 e0)⟩)
        · refine z_goto (off := 17) (tgt := 137) (pc' := 123) ⟨by decide +kernel, by decide, rfl⟩ ?_
          refine z_iconst (i := 1) (v := 1) (pc' := 138) ⟨by decide +kernel, rfl⟩ (by decide) ?_
          refine z_goto (off := 4) (tgt := 142) (pc' := 141) ⟨by decide +kernel, by decide, rfl⟩ ?_
          have z0L : (0 : Int64).toInt = 0 := by decide
          have z0 : (0 : Int32).toInt = 0 := by decide
          have z6 : (6 : Int32).toInt = 6 := by decide
          have gh1 := j_eq_f (y := 0) h1
          have gh2 := j_eq_f h2
          have gh3 := j_ne_f (y := 0) h3
          have gh7 := p3_t hv6 h7
          have cf135 : rM σ 135 r = (σ.1 135 r).toInt := rfl
          have cf132 : rM σ 132 r = (σ.1 132 r).toInt := rfl
          have n6 : rM σ 135 r ≠ 6 := by omega
          have e0 : rM σ 132 r = 0 := by omega
          exact k _ (Or.inl ⟨rfl, p3_t hv h1, Or.inr ⟨n6, Or.inl ⟨e0, p3_t hv6 h7⟩⟩⟩)
theorem run_M_says_142 {E : xV} {σ : zS} {K : zKt} {ru who act th t : Int32} {v v0 : Int32} {r u : Nat} {A : Prop} {rk : Nat → Nat} (hr : ru.toInt = (r : Int)) (hr2 : r < 240) (hun : th.toInt = (u : Int)) (hu : u < 40) (htr : TrM σ rk) (hv : (v = 1 ∧ A) ∨ (v = 0 ∧ ¬ A)) (k : ∀ v1 : Int32, (v1 = 1 ∧ (A ∧ ftM σ th.toInt r)) ∨ (v1 = 0 ∧ ¬ (A ∧ ftM σ th.toInt r)) → Wz E Y_M_says 209 [(6, .int v), (0, .ref 110), (1, .int ru), (2, .int who), (3, .int act), (4, .int th), (5, .int t)] [.int v1] σ K) : Wz E Y_M_says 142 [(6, .int v0), (0, .ref 110), (1, .int ru), (2, .int who), (3, .int act), (4, .int th), (5, .int t)] [.int v] σ K := by
  refine z_istore (i := 6) (pc' := 144) ⟨by decide +kernel, rfl⟩ (by decide) rfl ?_
  show Wz E Y_M_says 144 [(6, .int v), (0, .ref 110), (1, .int ru), (2, .int who), (3, .int act), (4, .int th), (5, .int t)] [] σ K
  refine z_iload (i := 6) (q := 0) (pc' := 146) ⟨by decide +kernel, rfl⟩ rfl ?_
  refine z_if_eq (off := 62) (tgt := 208) (pc' := 149) ⟨by decide +kernel, by decide, rfl⟩ (fun h1 => ?_) (fun h1 => ?_)
  · refine z_iconst (i := 0) (v := 0) (pc' := 209) ⟨by decide +kernel, rfl⟩ (by decide) ?_
    have z0L : (0 : Int64).toInt = 0 := by decide
    have z0 : (0 : Int32).toInt = 0 := by decide
    have gh1 := j_eq_t (y := 0) h1
    exact k _ (Or.inr ⟨rfl, fun q => p3_f hv h1 q.1⟩)
  · refine z_aload_n (f := 0) (i := 0) (q := 1) (pc' := 150) ⟨by decide +kernel, rfl⟩ rfl rfl ?_
    refine w_getr (k := 110) (j := 39) (idx := 91) (pc' := 153) fxe_13_91 kfa_110_39 ⟨by decide +kernel, rfl⟩ ?_
    refine z_iload_n (f := 1) (i := 1) (q := 2) (pc' := 154) ⟨by decide +kernel, rfl⟩ rfl rfl ?_
    refine w_iald (k := 136) (n := r) (pc' := 155) kaa_136 (hr) (hr2) ⟨by decide +kernel, rfl⟩ ?_
    refine z_if_eq (off := 49) (tgt := 204) (pc' := 158) ⟨by decide +kernel, by decide, rfl⟩ (fun h2 => ?_) (fun h2 => ?_)
    · refine z_iconst (i := 1) (v := 1) (pc' := 205) ⟨by decide +kernel, rfl⟩ (by decide) ?_
      refine z_goto (off := 4) (tgt := 209) (pc' := 208) ⟨by decide +kernel, by decide, rfl⟩ ?_
      have z0L : (0 : Int64).toInt = 0 := by decide
      have z0 : (0 : Int32).toInt = 0 := by decide
      have gh1 := j_eq_f (y := 0) h1
      have gh2 := j_eq_t (y := 0) h2
      have cf136 : rM σ 136 r = (σ.1 136 r).toInt := rfl
      have cf137 : rM σ 137 r = (σ.1 137 r).toInt := rfl
      exact k _ (Or.inl ⟨rfl, p3_t hv h1, Or.inl (by omega)⟩)
    · refine z_aload_n (f := 0) (i := 0) (q := 1) (pc' := 159) ⟨by decide +kernel, rfl⟩ rfl rfl ?_
      refine w_getr (k := 110) (j := 39) (idx := 91) (pc' := 162) fxe_13_91 kfa_110_39 ⟨by decide +kernel, rfl⟩ ?_
      refine z_iload_n (f := 1) (i := 1) (q := 2) (pc' := 163) ⟨by decide +kernel, rfl⟩ rfl rfl ?_
      refine w_iald (k := 136) (n := r) (pc' := 164) kaa_136 (hr) (hr2) ⟨by decide +kernel, rfl⟩ ?_
      refine z_iconst (i := 1) (v := 1) (pc' := 165) ⟨by decide +kernel, rfl⟩ (by decide) ?_
      refine z_icmp_ne (off := 14) (tgt := 179) (pc' := 168) ⟨by decide +kernel, by decide, rfl⟩ (fun h3 => ?_) (fun h3 => ?_)
      · refine z_aload_n (f := 0) (i := 0) (q := 1) (pc' := 180) ⟨by decide +kernel, rfl⟩ rfl rfl ?_
        refine w_getr (k := 110) (j := 39) (idx := 91) (pc' := 183) fxe_13_91 kfa_110_39 ⟨by decide +kernel, rfl⟩ ?_
        refine z_iload_n (f := 1) (i := 1) (q := 2) (pc' := 184) ⟨by decide +kernel, rfl⟩ rfl rfl ?_
        refine w_iald (k := 136) (n := r) (pc' := 185) kaa_136 (hr) (hr2) ⟨by decide +kernel, rfl⟩ ?_
        refine z_iconst (i := 2) (v := 2) (pc' := 186) ⟨by decide +kernel, rfl⟩ (by decide) ?_
        refine z_icmp_ne (off := 22) (tgt := 208) (pc' := 189) ⟨by decide +kernel, by decide, rfl⟩ (fun h4 => ?_) (fun h4 => ?_)
        · refine z_iconst (i := 0) (v := 0) (pc' := 209) ⟨by decide +kernel, rfl⟩ (by decide) ?_
          have z0L : (0 : Int64).toInt = 0 := by decide
          have z0 : (0 : Int32).toInt = 0 := by decide
          have z1 : (1 : Int32).toInt = 1 := by decide
          have z2 : (2 : Int32).toInt = 2 := by decide
          have gh1 := j_eq_f (y := 0) h1
          have gh2 := j_eq_f (y := 0) h2
          have gh3 := j_ne_t h3
          have gh4 := j_ne_t h4
          have cf136 : rM σ 136 r = (σ.1 136 r).toInt := rfl
          have cf137 : rM σ 137 r = (σ.1 137 r).toInt := rfl
          exact k _ (Or.inr ⟨rfl, fun z => (by rcases z.2 with z | z | z <;> omega)⟩)
        · refine z_aload_n (f := 0) (i := 0) (q := 1) (pc' := 190) ⟨by decide +kernel, rfl⟩ rfl rfl ?_
          refine z_iload (i := 4) (q := 5) (pc' := 192) ⟨by decide +kernel, rfl⟩ rfl ?_
          refine z_aload_n (f := 0) (i := 0) (q := 1) (pc' := 193) ⟨by decide +kernel, rfl⟩ rfl rfl ?_
          refine w_getr (k := 110) (j := 40) (idx := 94) (pc' := 196) fxe_13_94 kfa_110_40 ⟨by decide +kernel, rfl⟩ ?_
          refine z_iload_n (f := 1) (i := 1) (q := 2) (pc' := 197) ⟨by decide +kernel, rfl⟩ rfl rfl ?_
          refine w_iald (k := 137) (n := r) (pc' := 198) kaa_137 (hr) (hr2) ⟨by decide +kernel, rfl⟩ ?_
          refine w_invV (Z := Y_M_isUnder) (idx := 488) (kb := 110) (As := [.int th, .int (σ.1 137 r)]) (rest := []) (pc' := 201) cl_13_488 rfl ⟨rfl, rfl⟩ kfa_110_0 rfl ⟨⟨by decide, by decide⟩, rfl, rfl⟩ ⟨by decide +kernel, rfl⟩ rfl rfl (Nat.le_of_ble_eq_true rfl) rfl rfl ?_
          refine cz_M_isUnder (n := u) htr hun hu (fun v5 hv5 => ?_)
          show Wz E Y_M_says 201 [(6, .int v), (0, .ref 110), (1, .int ru), (2, .int who), (3, .int act), (4, .int th), (5, .int t)] [.int v5] σ K
          refine z_if_eq (off := 7) (tgt := 208) (pc' := 204) ⟨by decide +kernel, by decide, rfl⟩ (fun h6 => ?_) (fun h6 => ?_)
          · refine z_iconst (i := 0) (v := 0) (pc' := 209) ⟨by decide +kernel, rfl⟩ (by decide) ?_
            have z0L : (0 : Int64).toInt = 0 := by decide
            have z0 : (0 : Int32).toInt = 0 := by decide
            have z1 : (1 : Int32).toInt = 1 := by decide
            have z2 : (2 : Int32).toInt = 2 := by decide
            have gh1 := j_eq_f (y := 0) h1
            have gh2 := j_eq_f (y := 0) h2
            have gh3 := j_ne_t h3
            have gh4 := j_ne_f h4
            have gh6 := p3_f hv5 h6
            have cf136 : rM σ 136 r = (σ.1 136 r).toInt := rfl
            have cf137 : rM σ 137 r = (σ.1 137 r).toInt := rfl
            exact k _ (Or.inr ⟨rfl, fun z => (by rcases z.2 with z | z | z; omega; omega; exact p3_f hv5 h6 z.2)⟩)
          · refine z_iconst (i := 1) (v := 1) (pc' := 205) ⟨by decide +kernel, rfl⟩ (by decide) ?_
            refine z_goto (off := 4) (tgt := 209) (pc' := 208) ⟨by decide +kernel, by decide, rfl⟩ ?_
            have z0L : (0 : Int64).toInt = 0 := by decide
            have z0 : (0 : Int32).toInt = 0 := by decide
            have z1 : (1 : Int32).toInt = 1 := by decide
            have z2 : (2 : Int32).toInt = 2 := by decide
            have gh1 := j_eq_f (y := 0) h1
            have gh2 := j_eq_f (y := 0) h2
            have gh3 := j_ne_t h3
            have gh4 := j_ne_f h4
            have gh6 := p3_t hv5 h6
            have cf136 : rM σ 136 r = (σ.1 136 r).toInt := rfl
            have cf137 : rM σ 137 r = (σ.1 137 r).toInt := rfl
            exact k _ (Or.inl ⟨rfl, p3_t hv h1, Or.inr (Or.inr ⟨by omega, p3_t hv5 h6⟩)⟩)
      · refine z_aload_n (f := 0) (i := 0) (q := 1) (pc' := 169) ⟨by decide +kernel, rfl⟩ rfl rfl ?_
        refine w_getr (k := 110) (j := 40) (idx := 94) (pc' := 172) fxe_13_94 kfa_110_40 ⟨by decide +kernel, rfl⟩ ?_
        refine z_iload_n (f := 1) (i := 1) (q := 2) (pc' := 173) ⟨by decide +kernel, rfl⟩ rfl rfl ?_
        refine w_iald (k := 137) (n := r) (pc' := 174) kaa_137 (hr) (hr2) ⟨by decide +kernel, rfl⟩ ?_
        refine z_iload (i := 4) (q := 5) (pc' := 176) ⟨by decide +kernel, rfl⟩ rfl ?_
        refine z_icmp_eq (off := 28) (tgt := 204) (pc' := 179) ⟨by decide +kernel, by decide, rfl⟩ (fun h7 => ?_) (fun h7 => ?_)
        · refine z_iconst (i := 1) (v := 1) (pc' := 205) ⟨by decide +kernel, rfl⟩ (by decide) ?_
          refine z_goto (off := 4) (tgt := 209) (pc' := 208) ⟨by decide +kernel, by decide, rfl⟩ ?_
          have z0L : (0 : Int64).toInt = 0 := by decide
          have z0 : (0 : Int32).toInt = 0 := by decide
          have z1 : (1 : Int32).toInt = 1 := by decide
          have gh1 := j_eq_f (y := 0) h1
          have gh2 := j_eq_f (y := 0) h2
          have gh3 := j_ne_f h3
          have gh7 := j_eq_t h7
          have cf136 : rM σ 136 r = (σ.1 136 r).toInt := rfl
          have cf137 : rM σ 137 r = (σ.1 137 r).toInt := rfl
          exact k _ (Or.inl ⟨rfl, p3_t hv h1, Or.inr (Or.inl ⟨by omega, by omega⟩)⟩)
        · refine z_aload_n (f := 0) (i := 0) (q := 1) (pc' := 180) ⟨by decide +kernel, rfl⟩ rfl rfl ?_
          refine w_getr (k := 110) (j := 39) (idx := 91) (pc' := 183) fxe_13_91 kfa_110_39 ⟨by decide +kernel, rfl⟩ ?_
          refine z_iload_n (f := 1) (i := 1) (q := 2) (pc' := 184) ⟨by decide +kernel, rfl⟩ rfl rfl ?_
          refine w_iald (k := 136) (n := r) (pc' := 185) kaa_136 (hr) (hr2) ⟨by decide +kernel, rfl⟩ ?_
          refine z_iconst (i := 2) (v := 2) (pc' := 186) ⟨by decide +kernel, rfl⟩ (by decide) ?_
          refine z_icmp_ne (off := 22) (tgt := 208) (pc' := 189) ⟨by decide +kernel, by decide, rfl⟩ (fun h8 => ?_) (fun h8 => ?_)
          · refine z_iconst (i := 0) (v := 0) (pc' := 209) ⟨by decide +kernel, rfl⟩ (by decide) ?_
            have z0L : (0 : Int64).toInt = 0 := by decide
            have z0 : (0 : Int32).toInt = 0 := by decide
            have z1 : (1 : Int32).toInt = 1 := by decide
            have z2 : (2 : Int32).toInt = 2 := by decide
            have gh1 := j_eq_f (y := 0) h1
            have gh2 := j_eq_f (y := 0) h2
            have gh3 := j_ne_f h3
            have gh7 := j_eq_f h7
            have gh8 := j_ne_t h8
            have cf136 : rM σ 136 r = (σ.1 136 r).toInt := rfl
            have cf137 : rM σ 137 r = (σ.1 137 r).toInt := rfl
            exact k _ (Or.inr ⟨rfl, fun z => (by rcases z.2 with z | z | z <;> omega)⟩)
          · refine z_aload_n (f := 0) (i := 0) (q := 1) (pc' := 190) ⟨by decide +kernel, rfl⟩ rfl rfl ?_
            refine z_iload (i := 4) (q := 5) (pc' := 192) ⟨by decide +kernel, rfl⟩ rfl ?_
            refine z_aload_n (f := 0) (i := 0) (q := 1) (pc' := 193) ⟨by decide +kernel, rfl⟩ rfl rfl ?_
            refine w_getr (k := 110) (j := 40) (idx := 94) (pc' := 196) fxe_13_94 kfa_110_40 ⟨by decide +kernel, rfl⟩ ?_
            refine z_iload_n (f := 1) (i := 1) (q := 2) (pc' := 197) ⟨by decide +kernel, rfl⟩ rfl rfl ?_
            refine w_iald (k := 137) (n := r) (pc' := 198) kaa_137 (hr) (hr2) ⟨by decide +kernel, rfl⟩ ?_
            refine w_invV (Z := Y_M_isUnder) (idx := 488) (kb := 110) (As := [.int th, .int (σ.1 137 r)]) (rest := []) (pc' := 201) cl_13_488 rfl ⟨rfl, rfl⟩ kfa_110_0 rfl ⟨⟨by decide, by decide⟩, rfl, rfl⟩ ⟨by decide +kernel, rfl⟩ rfl rfl (Nat.le_of_ble_eq_true rfl) rfl rfl ?_
            refine cz_M_isUnder (n := u) htr hun hu (fun v9 hv9 => ?_)
            show Wz E Y_M_says 201 [(6, .int v), (0, .ref 110), (1, .int ru), (2, .int who), (3, .int act), (4, .int th), (5, .int t)] [.int v9] σ K
            refine z_if_eq (off := 7) (tgt := 208) (pc' := 204) ⟨by decide +kernel, by decide, rfl⟩ (fun h10 => ?_) (fun h10 => ?_)
            · refine z_iconst (i := 0) (v := 0) (pc' := 209) ⟨by decide +kernel, rfl⟩ (by decide) ?_
              have z0L : (0 : Int64).toInt = 0 := by decide
              have z0 : (0 : Int32).toInt = 0 := by decide
              have z1 : (1 : Int32).toInt = 1 := by decide
              have z2 : (2 : Int32).toInt = 2 := by decide
              have gh1 := j_eq_f (y := 0) h1
              have gh2 := j_eq_f (y := 0) h2
              have gh3 := j_ne_f h3
              have gh7 := j_eq_f h7
              have gh8 := j_ne_f h8
              have gh10 := p3_f hv9 h10
              have cf136 : rM σ 136 r = (σ.1 136 r).toInt := rfl
              have cf137 : rM σ 137 r = (σ.1 137 r).toInt := rfl
              exact k _ (Or.inr ⟨rfl, fun z => (by rcases z.2 with z | z | z; omega; omega; exact p3_f hv9 h10 z.2)⟩)
            · refine z_iconst (i := 1) (v := 1) (pc' := 205) ⟨by decide +kernel, rfl⟩ (by decide) ?_
              refine z_goto (off := 4) (tgt := 209) (pc' := 208) ⟨by decide +kernel, by decide, rfl⟩ ?_
              have z0L : (0 : Int64).toInt = 0 := by decide
              have z0 : (0 : Int32).toInt = 0 := by decide
              have z1 : (1 : Int32).toInt = 1 := by decide
              have z2 : (2 : Int32).toInt = 2 := by decide
              have gh1 := j_eq_f (y := 0) h1
              have gh2 := j_eq_f (y := 0) h2
              have gh3 := j_ne_f h3
              have gh7 := j_eq_f h7
              have gh8 := j_ne_f h8
              have gh10 := p3_t hv9 h10
              have cf136 : rM σ 136 r = (σ.1 136 r).toInt := rfl
              have cf137 : rM σ 137 r = (σ.1 137 r).toInt := rfl
              exact k _ (Or.inl ⟨rfl, p3_t hv h1, Or.inr (Or.inr ⟨by omega, p3_t hv9 h10⟩)⟩)
theorem run_M_says_209 {E : xV} {σ : zS} {K : zKt} {ru who act th t : Int32} {v v0 : Int32} {r u f0 j : Nat} {A : Prop} {x : EntJ} (hr : ru.toInt = (r : Int)) (hr2 : r < 240) (hun : th.toInt = (u : Int)) (hu : u < 40) (hv : (v = 1 ∧ A) ∨ (v = 0 ∧ ¬ A)) (hf0 : (σ.1 139 r).toInt = (f0 : Int)) (hto : (σ.1 140 r).toInt = ((f0 + j : Nat) : Int)) (hj : j ≤ 1300) (hco : CoK σ f0 j 0) (hc : ∀ f : Nat, f < 480 → 0 ≤ (σ.1 122 f).toInt ∧ (σ.1 122 f).toInt ≤ 20) (hwho : 0 ≤ who.toInt ∧ who.toInt ≤ 19) (hnow : 0 ≤ (σ.1 110 0).toInt ∧ (σ.1 110 0).toInt ≤ 1000000000) (htm : 0 ≤ t.toInt ∧ t.toInt ≤ 1000000000) (hX : A → j ≠ 0 → mrun9 (EvM σ who.toInt th.toInt t.toInt) (cdL σ f0 j) [] = [x]) (k : ∀ (v1 : Int32) (τ' : zS), FrK σ τ' → syM σ τ' r j A x v1.toInt → K (some (.int v1)) τ') : Wz E Y_M_says 209 [(6, .int v0), (0, .ref 110), (1, .int ru), (2, .int who), (3, .int act), (4, .int th), (5, .int t)] [.int v] σ K := by
  refine z_istore (i := 6) (pc' := 211) ⟨by decide +kernel, rfl⟩ (by decide) rfl ?_
  show Wz E Y_M_says 211 [(6, .int v), (0, .ref 110), (1, .int ru), (2, .int who), (3, .int act), (4, .int th), (5, .int t)] [] σ K
  refine z_iload (i := 6) (q := 0) (pc' := 213) ⟨by decide +kernel, rfl⟩ rfl ?_
  refine z_if_ne (off := 5) (tgt := 218) (pc' := 216) ⟨by decide +kernel, by decide, rfl⟩ (fun h1 => ?_) (fun h1 => ?_)
  · refine z_aload_n (f := 0) (i := 0) (q := 1) (pc' := 219) ⟨by decide +kernel, rfl⟩ rfl rfl ?_
    refine w_getr (k := 110) (j := 42) (idx := 100) (pc' := 222) fxe_13_100 kfa_110_42 ⟨by decide +kernel, rfl⟩ ?_
    refine z_iload_n (f := 1) (i := 1) (q := 2) (pc' := 223) ⟨by decide +kernel, rfl⟩ rfl rfl ?_
    refine w_iald (k := 139) (n := r) (pc' := 224) kaa_139 (hr) (hr2) ⟨by decide +kernel, rfl⟩ ?_
    refine z_aload_n (f := 0) (i := 0) (q := 1) (pc' := 225) ⟨by decide +kernel, rfl⟩ rfl rfl ?_
    refine w_getr (k := 110) (j := 43) (idx := 103) (pc' := 228) fxe_13_103 kfa_110_43 ⟨by decide +kernel, rfl⟩ ?_
    refine z_iload_n (f := 1) (i := 1) (q := 2) (pc' := 229) ⟨by decide +kernel, rfl⟩ rfl rfl ?_
    refine w_iald (k := 140) (n := r) (pc' := 230) kaa_140 (hr) (hr2) ⟨by decide +kernel, rfl⟩ ?_
    refine z_icmp_ne (off := 10) (tgt := 240) (pc' := 233) ⟨by decide +kernel, by decide, rfl⟩ (fun h2 => ?_) (fun h2 => ?_)
    · refine z_aload_n (f := 0) (i := 0) (q := 1) (pc' := 241) ⟨by decide +kernel, rfl⟩ rfl rfl ?_
      refine z_aload_n (f := 0) (i := 0) (q := 1) (pc' := 242) ⟨by decide +kernel, rfl⟩ rfl rfl ?_
      refine w_getr (k := 110) (j := 42) (idx := 100) (pc' := 245) fxe_13_100 kfa_110_42 ⟨by decide +kernel, rfl⟩ ?_
      refine z_iload_n (f := 1) (i := 1) (q := 2) (pc' := 246) ⟨by decide +kernel, rfl⟩ rfl rfl ?_
      refine w_iald (k := 139) (n := r) (pc' := 247) kaa_139 (hr) (hr2) ⟨by decide +kernel, rfl⟩ ?_
      refine z_aload_n (f := 0) (i := 0) (q := 1) (pc' := 248) ⟨by decide +kernel, rfl⟩ rfl rfl ?_
      refine w_getr (k := 110) (j := 43) (idx := 103) (pc' := 251) fxe_13_103 kfa_110_43 ⟨by decide +kernel, rfl⟩ ?_
      refine z_iload_n (f := 1) (i := 1) (q := 2) (pc' := 252) ⟨by decide +kernel, rfl⟩ rfl rfl ?_
      refine w_iald (k := 140) (n := r) (pc' := 253) kaa_140 (hr) (hr2) ⟨by decide +kernel, rfl⟩ ?_
      refine z_iload_n (f := 2) (i := 2) (q := 3) (pc' := 254) ⟨by decide +kernel, rfl⟩ rfl rfl ?_
      refine z_iload (i := 4) (q := 5) (pc' := 256) ⟨by decide +kernel, rfl⟩ rfl ?_
      refine z_iload (i := 5) (q := 6) (pc' := 258) ⟨by decide +kernel, rfl⟩ rfl ?_
      refine w_invV (Z := Y_M_evaluate) (idx := 697) (kb := 110) (As := [.int (σ.1 139 r), .int (σ.1 140 r), .int who, .int th, .int t]) (rest := []) (pc' := 261) cl_13_697 rfl ⟨rfl, rfl⟩ kfa_110_0 rfl ⟨⟨by decide, by decide⟩, rfl, rfl⟩ ⟨by decide +kernel, rfl⟩ rfl rfl (Nat.le_of_ble_eq_true rfl) rfl rfl ?_
      refine cz_M_evaluate (f0n := f0) (j := j) hf0 hto hj hco hc hwho (by omega) hnow htm (fun σ3 hv3 => ?_)
      show Wz E Y_M_says 261 [(6, .int v), (0, .ref 110), (1, .int ru), (2, .int who), (3, .int act), (4, .int th), (5, .int t)] [] σ3 K
      refine z_aload_n (f := 0) (i := 0) (q := 1) (pc' := 262) ⟨by decide +kernel, rfl⟩ rfl rfl ?_
      refine w_getr (k := 110) (j := 62) (idx := 136) (pc' := 265) fxe_13_136 kfa_110_62 ⟨by decide +kernel, rfl⟩ ?_
      refine z_iconst (i := 0) (v := 0) (pc' := 266) ⟨by decide +kernel, rfl⟩ (by decide) ?_
      refine w_iald (k := 151) (n := 0) (pc' := 267) kaa_151 (by decide) (by decide) ⟨by decide +kernel, rfl⟩ ?_
      refine z_iconst (i := 3) (v := 3) (pc' := 268) ⟨by decide +kernel, rfl⟩ (by decide) ?_
      refine z_icmp_ne (off := 5) (tgt := 273) (pc' := 271) ⟨by decide +kernel, by decide, rfl⟩ (fun h4 => ?_) (fun h4 => ?_)
      · refine z_aload_n (f := 0) (i := 0) (q := 1) (pc' := 274) ⟨by decide +kernel, rfl⟩ rfl rfl ?_
        refine w_getr (k := 110) (j := 62) (idx := 136) (pc' := 277) fxe_13_136 kfa_110_62 ⟨by decide +kernel, rfl⟩ ?_
        refine z_iconst (i := 0) (v := 0) (pc' := 278) ⟨by decide +kernel, rfl⟩ (by decide) ?_
        refine w_iald (k := 151) (n := 0) (pc' := 279) kaa_151 (by decide) (by decide) ⟨by decide +kernel, rfl⟩ ?_
        refine z_iconst (i := 4) (v := 4) (pc' := 280) ⟨by decide +kernel, rfl⟩ (by decide) ?_
        refine z_icmp_eq (off := 23) (tgt := 303) (pc' := 283) ⟨by decide +kernel, by decide, rfl⟩ (fun h5 => ?_) (fun h5 => ?_)
        · refine z_aload_n (f := 0) (i := 0) (q := 1) (pc' := 304) ⟨by decide +kernel, rfl⟩ rfl rfl ?_
          refine w_getr (k := 110) (j := 35) (idx := 79) (pc' := 307) fxe_13_79 kfa_110_35 ⟨by decide +kernel, rfl⟩ ?_
          refine z_iload_n (f := 1) (i := 1) (q := 2) (pc' := 308) ⟨by decide +kernel, rfl⟩ rfl rfl ?_
          refine w_iald (k := 132) (n := r) (pc' := 309) kaa_132 (hr) (hr2) ⟨by decide +kernel, rfl⟩ ?_
          refine z_goto (off := 4) (tgt := 313) (pc' := 312) ⟨by decide +kernel, by decide, rfl⟩ ?_
          refine z_iret (ty := .int) rfl rfl (by decide +kernel) ?_
          have z0L : (0 : Int64).toInt = 0 := by decide
          have z0 : (0 : Int32).toInt = 0 := by decide
          have z3 : (3 : Int32).toInt = 3 := by decide
          have z4 : (4 : Int32).toInt = 4 := by decide
          have gh1 := j_ne_t (y := 0) h1
          have gh2 := j_ne_t h2
          have gh4 := j_ne_t h4
          have gh5 := j_eq_t h5
          have hA := p3_t hv h1
          have j0 : j ≠ 0 := by omega
          have hm := hv3
          rw [hX hA j0] at hm
          have e0 : (σ3.1 151 0).toInt = (x.1 : Int) := hm.2.2.2.1.1
          have eE : σ3.1 132 r = σ.1 132 r := hm.1.1 132 r (by decide) (fun q => absurd q.1 (by decide))
          have cE : rM σ 132 r = (σ3.1 132 r).toInt := by rw [eE]
          exact k _ _ hm.1 (Or.inr (Or.inr (Or.inr (Or.inl ⟨hA, j0, Or.inl (by omega), cE.symm⟩))))
        · refine z_aload_n (f := 0) (i := 0) (q := 1) (pc' := 284) ⟨by decide +kernel, rfl⟩ rfl rfl ?_
          refine w_getr (k := 110) (j := 62) (idx := 136) (pc' := 287) fxe_13_136 kfa_110_62 ⟨by decide +kernel, rfl⟩ ?_
          refine z_iconst (i := 0) (v := 0) (pc' := 288) ⟨by decide +kernel, rfl⟩ (by decide) ?_
          refine w_iald (k := 151) (n := 0) (pc' := 289) kaa_151 (by decide) (by decide) ⟨by decide +kernel, rfl⟩ ?_
          refine z_iconst (i := 2) (v := 2) (pc' := 290) ⟨by decide +kernel, rfl⟩ (by decide) ?_
          refine z_icmp_ne (off := 22) (tgt := 312) (pc' := 293) ⟨by decide +kernel, by decide, rfl⟩ (fun h6 => ?_) (fun h6 => ?_)
          · refine z_iconst (i := (-1)) (v := (-1)) (pc' := 313) ⟨by decide +kernel, rfl⟩ (by decide) ?_
            refine z_iret (ty := .int) rfl rfl (by decide +kernel) ?_
            have z0L : (0 : Int64).toInt = 0 := by decide
            have z0 : (0 : Int32).toInt = 0 := by decide
            have z2 : (2 : Int32).toInt = 2 := by decide
            have z3 : (3 : Int32).toInt = 3 := by decide
            have z4 : (4 : Int32).toInt = 4 := by decide
            have gh1 := j_ne_t (y := 0) h1
            have gh2 := j_ne_t h2
            have gh4 := j_ne_t h4
            have gh5 := j_eq_f h5
            have gh6 := j_ne_t h6
            have hA := p3_t hv h1
            have j0 : j ≠ 0 := by omega
            have hm := hv3
            rw [hX hA j0] at hm
            have e0 : (σ3.1 151 0).toInt = (x.1 : Int) := hm.2.2.2.1.1
            have eE : σ3.1 132 r = σ.1 132 r := hm.1.1 132 r (by decide) (fun q => absurd q.1 (by decide))
            have cE : rM σ 132 r = (σ3.1 132 r).toInt := by rw [eE]
            have zm : (-1 : Int32).toInt = -1 := by decide
            exact k _ _ hm.1 (Or.inr (Or.inr (Or.inr (Or.inr ⟨hA, j0, by omega, zm⟩))))
          · refine z_aload_n (f := 0) (i := 0) (q := 1) (pc' := 294) ⟨by decide +kernel, rfl⟩ rfl rfl ?_
            refine w_getr (k := 110) (j := 35) (idx := 79) (pc' := 297) fxe_13_79 kfa_110_35 ⟨by decide +kernel, rfl⟩ ?_
            refine z_iload_n (f := 1) (i := 1) (q := 2) (pc' := 298) ⟨by decide +kernel, rfl⟩ rfl rfl ?_
            refine w_iald (k := 132) (n := r) (pc' := 299) kaa_132 (hr) (hr2) ⟨by decide +kernel, rfl⟩ ?_
            refine z_iconst (i := 1) (v := 1) (pc' := 300) ⟨by decide +kernel, rfl⟩ (by decide) ?_
            refine z_icmp_eq (off := 12) (tgt := 312) (pc' := 303) ⟨by decide +kernel, by decide, rfl⟩ (fun h7 => ?_) (fun h7 => ?_)
            · refine z_iconst (i := (-1)) (v := (-1)) (pc' := 313) ⟨by decide +kernel, rfl⟩ (by decide) ?_
              refine z_iret (ty := .int) rfl rfl (by decide +kernel) ?_
              have z0L : (0 : Int64).toInt = 0 := by decide
              have z0 : (0 : Int32).toInt = 0 := by decide
              have z1 : (1 : Int32).toInt = 1 := by decide
              have z2 : (2 : Int32).toInt = 2 := by decide
              have z3 : (3 : Int32).toInt = 3 := by decide
              have z4 : (4 : Int32).toInt = 4 := by decide
              have gh1 := j_ne_t (y := 0) h1
              have gh2 := j_ne_t h2
              have gh4 := j_ne_t h4
              have gh5 := j_eq_f h5
              have gh6 := j_ne_f h6
              have gh7 := j_eq_t h7
              have hA := p3_t hv h1
              have j0 : j ≠ 0 := by omega
              have hm := hv3
              rw [hX hA j0] at hm
              have e0 : (σ3.1 151 0).toInt = (x.1 : Int) := hm.2.2.2.1.1
              have eE : σ3.1 132 r = σ.1 132 r := hm.1.1 132 r (by decide) (fun q => absurd q.1 (by decide))
              have cE : rM σ 132 r = (σ3.1 132 r).toInt := by rw [eE]
              have zm : (-1 : Int32).toInt = -1 := by decide
              exact k _ _ hm.1 (Or.inr (Or.inr (Or.inr (Or.inr ⟨hA, j0, by omega, zm⟩))))
            · refine z_aload_n (f := 0) (i := 0) (q := 1) (pc' := 304) ⟨by decide +kernel, rfl⟩ rfl rfl ?_
              refine w_getr (k := 110) (j := 35) (idx := 79) (pc' := 307) fxe_13_79 kfa_110_35 ⟨by decide +kernel, rfl⟩ ?_
              refine z_iload_n (f := 1) (i := 1) (q := 2) (pc' := 308) ⟨by decide +kernel, rfl⟩ rfl rfl ?_
              refine w_iald (k := 132) (n := r) (pc' := 309) kaa_132 (hr) (hr2) ⟨by decide +kernel, rfl⟩ ?_
              refine z_goto (off := 4) (tgt := 313) (pc' := 312) ⟨by decide +kernel, by decide, rfl⟩ ?_
              refine z_iret (ty := .int) rfl rfl (by decide +kernel) ?_
              have z0L : (0 : Int64).toInt = 0 := by decide
              have z0 : (0 : Int32).toInt = 0 := by decide
              have z1 : (1 : Int32).toInt = 1 := by decide
              have z2 : (2 : Int32).toInt = 2 := by decide
              have z3 : (3 : Int32).toInt = 3 := by decide
              have z4 : (4 : Int32).toInt = 4 := by decide
              have gh1 := j_ne_t (y := 0) h1
              have gh2 := j_ne_t h2
              have gh4 := j_ne_t h4
              have gh5 := j_eq_f h5
              have gh6 := j_ne_f h6
              have gh7 := j_eq_f h7
              have hA := p3_t hv h1
              have j0 : j ≠ 0 := by omega
              have hm := hv3
              rw [hX hA j0] at hm
              have e0 : (σ3.1 151 0).toInt = (x.1 : Int) := hm.2.2.2.1.1
              have eE : σ3.1 132 r = σ.1 132 r := hm.1.1 132 r (by decide) (fun q => absurd q.1 (by decide))
              have cE : rM σ 132 r = (σ3.1 132 r).toInt := by rw [eE]
              exact k _ _ hm.1 (Or.inr (Or.inr (Or.inr (Or.inl ⟨hA, j0, Or.inr ⟨by omega, by omega⟩, cE.symm⟩))))
      · refine z_iconst (i := 3) (v := 3) (pc' := 272) ⟨by decide +kernel, rfl⟩ (by decide) ?_
        refine z_iret (ty := .int) rfl rfl (by decide +kernel) ?_
        have z0L : (0 : Int64).toInt = 0 := by decide
        have z0 : (0 : Int32).toInt = 0 := by decide
        have z3 : (3 : Int32).toInt = 3 := by decide
        have gh1 := j_ne_t (y := 0) h1
        have gh2 := j_ne_t h2
        have gh4 := j_ne_f h4
        have hA := p3_t hv h1
        have j0 : j ≠ 0 := by omega
        have hm := hv3
        rw [hX hA j0] at hm
        have e0 : (σ3.1 151 0).toInt = (x.1 : Int) := hm.2.2.2.1.1
        have eE : σ3.1 132 r = σ.1 132 r := hm.1.1 132 r (by decide) (fun q => absurd q.1 (by decide))
        have cE : rM σ 132 r = (σ3.1 132 r).toInt := by rw [eE]
        exact k _ _ hm.1 (Or.inr (Or.inr (Or.inl ⟨hA, j0, by omega, by decide, hm.2.2.2.1.2⟩)))
    · refine z_aload_n (f := 0) (i := 0) (q := 1) (pc' := 234) ⟨by decide +kernel, rfl⟩ rfl rfl ?_
      refine w_getr (k := 110) (j := 35) (idx := 79) (pc' := 237) fxe_13_79 kfa_110_35 ⟨by decide +kernel, rfl⟩ ?_
      refine z_iload_n (f := 1) (i := 1) (q := 2) (pc' := 238) ⟨by decide +kernel, rfl⟩ rfl rfl ?_
      refine w_iald (k := 132) (n := r) (pc' := 239) kaa_132 (hr) (hr2) ⟨by decide +kernel, rfl⟩ ?_
      refine z_iret (ty := .int) rfl rfl (by decide +kernel) ?_
      have z0L : (0 : Int64).toInt = 0 := by decide
      have z0 : (0 : Int32).toInt = 0 := by decide
      have gh1 := j_ne_t (y := 0) h1
      have gh2 := j_ne_f h2
      have hA := p3_t hv h1
      exact k _ _ (FrK.refl σ) (Or.inr (Or.inl ⟨hA, by omega, rfl⟩))
  · refine z_iconst (i := (-1)) (v := (-1)) (pc' := 217) ⟨by decide +kernel, rfl⟩ (by decide) ?_
    refine z_iret (ty := .int) rfl rfl (by decide +kernel) ?_
    have z0L : (0 : Int64).toInt = 0 := by decide
    have z0 : (0 : Int32).toInt = 0 := by decide
    have gh1 := j_ne_f (y := 0) h1
    have zm : (-1 : Int32).toInt = -1 := by decide
    exact k _ _ (FrK.refl σ) (Or.inl ⟨p3_f hv h1, zm⟩)
theorem cz_M_says {E : xV} {σ : zS} {K : zKt} {ru who act th t : Int32} {r u an f0 j : Nat} {rk : Nat → Nat} {x : EntJ} (hr : ru.toInt = (r : Int)) (hr2 : r < 240) (hun : th.toInt = (u : Int)) (hu : u < 40) (hac : act.toInt = (an : Int)) (han : an < 6) (hg : (σ.1 110 26).toInt ≠ 0) (htr : TrM σ rk) (u1 : rM σ 133 r = 1 → 0 ≤ rM σ 134 r ∧ rM σ 134 r ≤ 15) (u3 : 0 ≤ rM σ 135 r ∧ rM σ 135 r ≤ 6) (hf0 : (σ.1 139 r).toInt = (f0 : Int)) (hto : (σ.1 140 r).toInt = ((f0 + j : Nat) : Int)) (hj : j ≤ 1300) (hco : CoK σ f0 j 0) (hc : ∀ f : Nat, f < 480 → 0 ≤ (σ.1 122 f).toInt ∧ (σ.1 122 f).toInt ≤ 20) (hwho : 0 ≤ who.toInt ∧ who.toInt ≤ 19) (hnow : 0 ≤ (σ.1 110 0).toInt ∧ (σ.1 110 0).toInt ≤ 1000000000) (htm : 0 ≤ t.toInt ∧ t.toInt ≤ 1000000000) (hX : ((fwM σ who.toInt u r ∧ faM σ an r) ∧ ftM σ th.toInt r) → j ≠ 0 → mrun9 (EvM σ who.toInt th.toInt t.toInt) (cdL σ f0 j) [] = [x]) (k : ∀ (v1 : Int32) (τ' : zS), FrK σ τ' → syM σ τ' r j ((fwM σ who.toInt u r ∧ faM σ an r) ∧ ftM σ th.toInt r) x v1.toInt → K (some (.int v1)) τ') : Cz E Y_M_says [.ref 110, .int ru, .int who, .int act, .int th, .int t] σ K :=
  z_entry (by decide) (fun a => by rw [sl_len]; exact Nat.le_of_ble_eq_true rfl) rfl (run_M_says_0 hr hr2 hun hu u1 (fun _ q1 => run_M_says_79 hr hr2 hac han hg u3 q1 (fun _ q2 => run_M_says_142 hr hr2 hun hu htr q2 (fun _ q3 => run_M_says_209 hr hr2 hun hu q3 hf0 hto hj hco hc hwho hnow htm hX k))))

end
end
