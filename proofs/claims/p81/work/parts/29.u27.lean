section
/-! ===== who belongs where: both sides come to the least set (over FD's texts of groups) ===== -/
noncomputable def bG (x : Int32) (k : Nat) : Bool := x.toBitVec.getLsbD k
theorem bG_k {o : Int32} {n : Nat} (hn : o.toInt = (n : Int)) (h : n < 31) : o = Int32.ofNat n := by
  have key : ∀ n, n < 31 → (Int32.ofNat n).toInt = (n : Int) := by decide
  exact Int32.toInt_inj.mp (hn.trans (key n h).symm)
theorem bG_or {x y : Int32} {k : Nat} : bG (x ||| y) k = (bG x k || bG y k) := by
  show (x.toBitVec ||| y.toBitVec).getLsbD k = _
  rw [BitVec.getLsbD_or]; rfl
theorem bG_one : ∀ n, n < 31 → ∀ m, m < 32 → bG ((1 : Int32) <<< (Int32.ofNat n &&& 31)) m = decide (m = n) := by decide +kernel
theorem bG_sm : ∀ n, n < 31 → ((Int32.ofNat n &&& 31).toBitVec.smod 32#32).toNat = n := by decide +kernel
theorem bG_and1 {y : BitVec 32} : (y &&& 1#32).toInt = if y.getLsbD 0 = true then 1 else 0 := by
  have e : y &&& 1#32 = bif y.getLsbD 0 then 1#32 else 0#32 := by
    apply BitVec.eq_of_getLsbD_eq
    intro i hi
    rw [BitVec.getLsbD_and, BitVec.getLsbD_one]
    by_cases h : i = 0
    · subst h
      cases y.getLsbD 0 <;> rfl
    · have : decide (i = 0) = false := decide_eq_false h
      rw [this, Bool.and_false, Bool.and_false]
      cases y.getLsbD 0
      · exact BitVec.getLsbD_zero.symm
      · show false = (1#32).getLsbD i
        rw [BitVec.getLsbD_one, this, Bool.and_false]
  rw [e]
  cases y.getLsbD 0 <;> rfl
theorem bG_rd {x o : Int32} {n : Nat} (hn : o.toInt = (n : Int)) (h : n < 31) : ((x >>> (o &&& 31)) &&& 1).toInt = if bG x n = true then 1 else 0 := by
  rw [bG_k hn h]
  show (x.toBitVec.sshiftRight ((Int32.ofNat n &&& 31).toBitVec.smod 32#32).toNat &&& 1#32).toInt = _
  rw [bG_sm n h, bG_and1, BitVec.getLsbD_sshiftRight]
  have e : n + 0 < 32 := by omega
  rw [if_pos e]
  have e2 : (!decide (32 ≤ 0)) = true := rfl
  show (if (!decide (32 ≤ 0) && x.toBitVec.getLsbD (n + 0)) = true then (1 : Int) else 0) = _
  rw [e2, Bool.true_and]
  rfl
theorem bG_st {x o : Int32} {n m : Nat} (hn : o.toInt = (n : Int)) (h : n < 31) (hm : m < 32) : bG (x ||| (1 <<< (o &&& 31))) m = (bG x m || decide (m = n)) := by
  rw [bG_k hn h, bG_or, bG_one n h m hm]
/-- all bits are below 16 -/
noncomputable def b16 (x : Int32) : Prop := ∀ n, 16 ≤ n → bG x n = false
theorem b16_0 : b16 0 := fun n _ => BitVec.getLsbD_zero
theorem b16_st {x o : Int32} {n : Nat} (hx : b16 x) (hn : o.toInt = (n : Int)) (h : n < 16) : b16 (x ||| (1 <<< (o &&& 31))) := fun m hm => by
  by_cases h2 : m < 32
  · rw [bG_st hn (by omega) h2, hx m hm, decide_eq_false (by omega)]; rfl
  · exact BitVec.getLsbD_of_ge _ _ (by omega)
theorem b16_ext {x y : Int32} (hx : b16 x) (hy : b16 y) (h : ∀ n, n < 16 → bG x n = bG y n) : x = y := by
  apply Int32.toBitVec_inj.mp
  apply BitVec.eq_of_getLsbD_eq
  intro i _
  by_cases h2 : i < 16
  · exact h i h2
  · have a := hx i (by omega)
    have b := hy i (by omega)
    exact a.trans b.symm
/-- how many are set below N -/
noncomputable def cnG (p : Nat → Bool) : Nat → Nat
  | 0 => 0
  | n + 1 => cnG p n + (if p n = true then 1 else 0)
theorem cnG_le {p : Nat → Bool} : ∀ n, cnG p n ≤ n
  | 0 => Nat.le_refl _
  | n + 1 => by
    have := cnG_le (p := p) n
    unfold cnG
    split <;> omega
theorem cnG_mono {p q : Nat → Bool} : ∀ n, (∀ i, i < n → p i = true → q i = true) → cnG p n ≤ cnG q n
  | 0, _ => Nat.le_refl _
  | n + 1, h => by
    have h1 := cnG_mono n (fun i hi => h i (by omega))
    have h2 := h n (by omega)
    unfold cnG
    by_cases e : p n = true
    · rw [if_pos e, if_pos (h2 e)]; omega
    · rw [if_neg e]; split <;> omega
theorem cnG_lt {p q : Nat → Bool} : ∀ n, (∀ i, i < n → p i = true → q i = true) → (∃ i, i < n ∧ q i = true ∧ p i = false) → cnG p n < cnG q n
  | 0, _, ⟨i, hi, _⟩ => absurd hi (by omega)
  | n + 1, h, ⟨i, hi, hq, hp⟩ => by
    have h2 := h n (by omega)
    unfold cnG
    by_cases e : i = n
    · subst e
      have h1 := cnG_mono i (fun j hj => h j (by omega))
      rw [if_pos hq, if_neg (by rw [hp]; decide)]
      omega
    · have h1 := cnG_lt n (fun j hj => h j (by omega)) ⟨i, by omega, hq, hp⟩
      by_cases e2 : p n = true
      · rw [if_pos e2, if_pos (h2 e2)]; omega
      · rw [if_neg e2]; split <;> omega
theorem cnG_pos {p : Nat → Bool} {n i : Nat} (hi : i < n) (h : p i = true) : 1 ≤ cnG p n := by
  have := cnG_lt (p := fun _ => false) (q := p) n (fun _ _ q => by cases q) ⟨i, hi, h, rfl⟩
  omega
/-- the least set: n rows with members m, groups g, that count by c; p a person -/
noncomputable def InG (n : Nat) (m g : Nat → Int) (c : Nat → Prop) (p x : Int) : Prop := ∀ S : Int → Prop, (∀ r, r < n → m r = p → c r → S (g r)) → (∀ r, r < n → 100 ≤ m r → S (m r - 100) → c r → S (g r)) → S x
section InG
variable {n : Nat} {m g : Nat → Int} {c : Nat → Prop} {p : Int}
theorem InG.d {r : Nat} (hr : r < n) (hm : m r = p) (hc : c r) : InG n m g c p (g r) := fun _ h _ => h r hr hm hc
theorem InG.s {r : Nat} (hr : r < n) (hm : 100 ≤ m r) (h : InG n m g c p (m r - 100)) (hc : c r) : InG n m g c p (g r) := fun S h1 h2 => h2 r hr hm (h S h1 h2) hc
theorem InG.same {m' g' : Nat → Int} {c' : Nat → Prop} {x : Int} (h1 : ∀ r, r < n → m r = m' r) (h2 : ∀ r, r < n → g r = g' r) (h3 : ∀ r, r < n → (c r ↔ c' r)) : InG n m g c p x → InG n m' g' c' p x := fun h S a b => h S (fun r hr e q => by rw [h2 r hr]; exact a r hr (by rw [← h1 r hr]; exact e) ((h3 r hr).mp q)) (fun r hr e s q => by rw [h2 r hr]; exact b r hr (by rw [← h1 r hr]; exact e) (by rw [← h1 r hr]; exact s) ((h3 r hr).mp q))
end InG
/-! the class -/
noncomputable def mC (σ : zS) (r : Nat) : Int := (σ.1 6 (6 * r)).toInt
noncomputable def gCj9 (σ : zS) (r : Nat) : Int := (σ.1 6 (6 * r + 1)).toInt
noncomputable def ctG (σ : zS) (t k : Int) (r : Nat) : Prop := (σ.1 6 (6 * r + 2)).toInt ≤ t ∧ t < (σ.1 6 (6 * r + 3)).toInt ∧ (σ.1 6 (6 * r + 4)).toInt ≤ k ∧ ((σ.1 6 (6 * r + 5)).toInt = -4 ∨ k < (σ.1 6 (6 * r + 5)).toInt)
/-- rows are in their bounds -/
noncomputable def RwC (σ : zS) (n : Nat) : Prop := ((σ.1 5 2).toInt = (n : Int) ∧ n ≤ 201) ∧ ∀ r, r < n → (0 ≤ gCj9 σ r ∧ gCj9 σ r ≤ 15) ∧ mC σ r ≤ 115
theorem w_isLasting {σ : zS} {Q : Int32 → zS → Prop} {a : Int32} {r : Nat} (ha : a.toInt = (r : Int)) (hr : r < 201) (k1 : (σ.1 6 (6 * r + 5)).toInt = -4 → Q 1 σ) (k0 : (σ.1 6 (6 * r + 5)).toInt ≠ -4 → Q 0 σ) : W_Wh_isLasting a σ Q :=
  ⟨by omega, fun r1 h1 => ⟨by omega, fun r2 h2 => ⟨6 * r + 5, by omega, by omega, k1, k0⟩⟩⟩
theorem w_counts {σ : zS} {Q : Int32 → zS → Prop} {a t k : Int32} {r : Nat} (ha : a.toInt = (r : Int)) (hr : r < 201) (ht : t.toInt ≠ -1) (k1 : ctG σ t.toInt k.toInt r → Q 1 σ) (k0 : ¬ ctG σ t.toInt k.toInt r → Q 0 σ) : W_Wh_counts a t k σ Q := by
  have z0 : (0 : Int32).toInt = 0 := by decide
  have z1 : (1 : Int32).toInt = 1 := by decide
  have no : ∀ r2 : Int32, ¬ ctG σ t.toInt k.toInt r → W_Wh_counts_b48 a k r2 0 σ Q := fun r2 q => ⟨fun _ => k0 q, fun c => absurd z0 c⟩
  unfold W_Wh_counts
  refine ⟨fun c => absurd c ht, fun _ => ⟨by omega, fun r2 h2 => ⟨by omega, fun r3 h3 => ⟨6 * r + 2, by omega, by omega, fun c1 => no r2 (fun q => absurd q.1 (by omega)), fun c1 => ⟨by omega, fun r6 h6 => ⟨6 * r + 3, by omega, by omega, fun c2 => no r2 (fun q => absurd q.2.1 (by omega)), fun c2 => ?_⟩⟩⟩⟩⟩⟩
  unfold W_Wh_counts_b48
  refine ⟨fun c => absurd c (by rw [z1]; decide), fun _ => ⟨by omega, fun r2 h2 => ⟨6 * r + 4, by omega, by omega, fun c3 => k0 (fun q => absurd q.2.2.1 (by omega)), fun c3 => ?_⟩⟩⟩
  refine w_isLasting ha hr (fun e => ⟨fun c => absurd c (by rw [z1]; decide), fun _ => k1 ⟨by omega, by omega, by omega, Or.inl e⟩⟩) (fun e => ⟨fun _ => ⟨by omega, fun r7 h7 => ⟨6 * r + 5, by omega, by omega, fun c4 => k0 (fun q => by rcases q.2.2.2 with q | q; exact e q; omega), fun c4 => k1 ⟨by omega, by omega, by omega, Or.inr (by omega)⟩⟩⟩, fun c => absurd z0 c⟩)
theorem w_isFromAmong {σ : zS} {Q : Int32 → zS → Prop} {a s : Int32} {r n : Nat} (hw : RwC σ n) (ha : a.toInt = (r : Int)) (hr : r < n) (k1 : 100 ≤ mC σ r → bG s (mC σ r - 100).toNat = true → Q 1 σ) (k0 : ¬ (100 ≤ mC σ r ∧ bG s (mC σ r - 100).toNat = true) → Q 0 σ) : W_Wh_isFromAmong a s σ Q := by
  have h1 := hw.1.2
  have h2 := (hw.2 r hr).2
  have e : (σ.1 6 (6 * r)).toInt = mC σ r := rfl
  unfold W_Wh_isFromAmong
  refine ⟨by omega, fun r1 q1 => ⟨by omega, fun r2 q2 => ⟨6 * r, by omega, by omega, fun c => k0 (fun q => absurd q.1 (by omega)), fun c => ⟨by omega, fun r5 q5 => ?_⟩⟩⟩⟩
  have b := bG_rd (x := s) (o := r5) (n := (mC σ r - 100).toNat) (by omega) (by omega)
  rw [b]
  refine ⟨fun d => k1 (by omega) ?_, fun d => k0 (fun q => d (if_pos q.2))⟩
  by_cases f : bG s (mC σ r - 100).toNat = true
  · exact f
  · rw [if_neg f] at d; exact absurd d (by decide)
section reachedFrom
variable {σ : zS} {n : Nat} {t k : Int32} {p : Int} {Q : Int32 → zS → Prop}
noncomputable abbrev InC (σ : zS) (n : Nat) (t k p x : Int) : Prop := InG n (mC σ) (gCj9 σ) (ctG σ t k) p x
/-- bits that are in the least set, all that are straight in it -/
noncomputable def SoC (σ : zS) (n : Nat) (t k p : Int) (x : Int32) : Prop := b16 x ∧ (∀ j, j < 16 → bG x j = true → InC σ n t k p (j : Int)) ∧ ∀ r, r < n → mC σ r = p → ctG σ t k r → bG x (gCj9 σ r).toNat = true
noncomputable def ClC (σ : zS) (n : Nat) (t k : Int) (x : Int32) : Prop := ∀ r, r < n → 100 ≤ mC σ r → bG x (mC σ r - 100).toNat = true → ctG σ t k r → bG x (gCj9 σ r).toNat = true
theorem so_cl {x : Int32} (hw : RwC σ n) (h : SoC σ n t.toInt k.toInt p x) (hc : ClC σ n t.toInt k.toInt x) : ∀ j, j < 16 → (bG x j = true ↔ InC σ n t.toInt k.toInt p (j : Int)) := fun j hj => by
  refine ⟨h.2.1 j hj, fun q => ?_⟩
  have q := q (fun y => bG x y.toNat = true) (fun r hr e c => h.2.2 r hr e c) (fun r hr e s c => hc r hr e s c)
  simpa using q
theorem so_st {x o : Int32} {r : Nat} (hw : RwC σ n) (hr : r < n) (ho : o.toInt = gCj9 σ r) (h : SoC σ n t.toInt k.toInt p x) (hi : InC σ n t.toInt k.toInt p (gCj9 σ r)) : SoC σ n t.toInt k.toInt p (x ||| (1 <<< (o &&& 31))) := by
  have hg := (hw.2 r hr).1
  have e : o.toInt = (((gCj9 σ r).toNat : Nat) : Int) := by omega
  refine ⟨b16_st h.1 e (by omega), fun j hj q => ?_, fun r' hr' e' c' => ?_⟩
  · rw [bG_st e (by omega) (by omega)] at q
    by_cases f : j = (gCj9 σ r).toNat
    · have : ((j : Nat) : Int) = gCj9 σ r := by omega
      rw [this]; exact hi
    · rw [decide_eq_false f, Bool.or_false] at q; exact h.2.1 j hj q
  · have hg' := (hw.2 r' hr').1
    rw [bG_st e (by omega) (by omega), h.2.2 r' hr' e' c']; rfl
/-- one further: the rows below r have been looked at -/
noncomputable def LkC (σ : zS) (t k : Int) (r : Nat) (x0 x : Int32) : Prop := (∀ j, bG x0 j = true → bG x j = true) ∧ ∀ r', r' < r → 100 ≤ mC σ r' → bG x0 (mC σ r' - 100).toNat = true → ctG σ t k r' → bG x (gCj9 σ r').toNat = true
theorem lk_noj9 {x0 x : Int32} {r : Nat} (h : LkC σ t.toInt k.toInt r x0 x) (q : ¬ (100 ≤ mC σ r ∧ bG x (mC σ r - 100).toNat = true) ∨ ¬ ctG σ t.toInt k.toInt r) : LkC σ t.toInt k.toInt (r + 1) x0 x := ⟨h.1, fun r' hr' a b c => by
  by_cases e : r' = r
  · subst e
    rcases q with q | q
    · exact absurd ⟨a, h.1 _ b⟩ q
    · exact absurd c q
  · exact h.2 r' (by omega) a b c⟩
theorem lk_st {x0 x o : Int32} {r : Nat} (hw : RwC σ n) (hr : r < n) (ho : o.toInt = gCj9 σ r) (h : LkC σ t.toInt k.toInt r x0 x) : LkC σ t.toInt k.toInt (r + 1) x0 (x ||| (1 <<< (o &&& 31))) := by
  have hg := (hw.2 r hr).1
  have e : o.toInt = (((gCj9 σ r).toNat : Nat) : Int) := by omega
  refine ⟨fun j q => ?_, fun r' hr' a b c => ?_⟩
  · by_cases j32 : j < 32
    · rw [bG_st e (by omega) j32, h.1 j q]; rfl
    · exact absurd q (by rw [show bG x0 j = false from BitVec.getLsbD_of_ge _ _ (by omega)]; decide)
  · have hg' := (hw.2 r' (by omega)).1
    rw [bG_st e (by omega) (by omega)]
    by_cases f : r' = r
    · subst f; rw [decide_eq_true rfl, Bool.or_true]
    · rw [h.2 r' (by omega) a b c]; rfl
theorem wl_reachedFrom (hw : RwC σ n) (ht : t.toInt ≠ -1) (kk : ∀ v : Int32, b16 v → (∀ j, j < 16 → (bG v j = true ↔ InC σ n t.toInt k.toInt p (j : Int))) → Q v σ) : ∀ N : Nat,
    (∀ (x x5 : Int32) (c : Nat), x5.toInt = (c : Int) → c ≤ 16 → c + 1 ≤ cnG (bG x) 16 → SoC σ n t.toInt k.toInt p x → 300 * (16 - c) + 10 ≤ N → (WL_Wh_reachedFrom N).1 t k x x5 σ Q) ∧
    (∀ (x x5 x6 x7 : Int32) (c r : Nat), x5.toInt = (c : Int) → c < 16 → c + 1 ≤ cnG (bG x6) 16 → b16 x6 → SoC σ n t.toInt k.toInt p x → x7.toInt = (r : Int) → r ≤ n → LkC σ t.toInt k.toInt r x6 x → 300 * (15 - c) + (201 - r) + 20 ≤ N → (WL_Wh_reachedFrom N).2 t k x x5 x6 x7 σ Q)
  | 0 => ⟨fun _ _ _ _ _ _ _ h => absurd h (by omega), fun _ _ _ _ _ _ _ _ _ _ _ _ _ _ h => absurd h (by omega)⟩
  | N + 1 => by
    obtain ⟨i1, i2⟩ := wl_reachedFrom hw ht kk N
    have hn := hw.1.2
    have en := hw.1.1
    constructor
    · intro x x5 c h5 hc hcn hs hN
      refine wl_Wh_reachedFrom_6 ?_
      refine ⟨fun q => ?_, fun q => i2 x x5 x 0 c 0 h5 (by omega) hcn hs.1 hs (by decide) (by omega) ⟨fun _ q => q, fun r' hr' => absurd hr' (by omega)⟩ (by omega)⟩
      have := cnG_le (p := bG x) 16
      omega
    · intro x x5 x6 x7 c r h5 hc hcn h16 hs h7 hr hl hN
      refine wl_Wh_reachedFrom_20 ?_
      refine ⟨fun q => ⟨fun e => ?_, fun e => ⟨by omega, fun r3 h3 => ?_⟩⟩, fun q => ?_⟩
      · have e := Int32.toInt_inj.mp e
        subst e
        have : r = n := by omega
        subst this
        exact kk x hs.1 (so_cl hw hs (fun r' hr' a b c' => hl.2 r' hr' a b c'))
      · have hlt : cnG (bG x6) 16 < cnG (bG x) 16 := by
          refine cnG_lt 16 (fun i _ => hl.1 i) ?_
          apply Classical.byContradiction
          intro hne
          apply e
          have : x = x6 := b16_ext hs.1 h16 (fun i hi => by
            cases a : bG x i with
            | false =>
              cases b : bG x6 i with
              | false => rfl
              | true => exact absurd (hl.1 i b) (by rw [a]; decide)
            | true =>
              cases b : bG x6 i with
              | false => exact absurd ⟨i, hi, a, b⟩ hne
              | true => rfl)
          rw [this]
        exact i1 x r3 (c + 1) (by omega) (by omega) (by omega) hs (by omega)
      · have hrn : r < n := by omega
        have nx : ∀ {x' : Int32}, SoC σ n t.toInt k.toInt p x' → LkC σ t.toInt k.toInt (r + 1) x6 x' → (-2147483648 ≤ x7.toInt + 1 ∧ x7.toInt + 1 ≤ 2147483647) ∧ ∀ r6 : Int32, r6.toInt = x7.toInt + 1 → (WL_Wh_reachedFrom N).2 t k x' x5 x6 r6 σ Q := fun hs' hl' => ⟨by omega, fun r6 h6 => i2 _ x5 x6 r6 c (r + 1) h5 hc hcn h16 hs' (by omega) (by omega) hl' (by omega)⟩
        refine w_isFromAmong hw h7 hrn (fun m1 m2 => ⟨fun z => absurd z (by decide), fun _ => ?_⟩) (fun m0 => ⟨fun _ => nx hs (lk_noj9 hl (Or.inl m0)), fun z => absurd rfl z⟩)
        refine w_counts h7 (by omega) ht (fun c1 => ⟨fun z => absurd z (by decide), fun _ => ⟨by omega, fun r10 h10 => ⟨by omega, fun r11 h11 => ⟨6 * r + 1, by omega, by omega, ?_⟩⟩⟩⟩) (fun c0 => ⟨fun _ => nx hs (lk_noj9 hl (Or.inr c0)), fun z => absurd rfl z⟩)
        have hi : InC σ n t.toInt k.toInt p (gCj9 σ r) := InG.s hrn m1 (by
          have b := (hw.2 r hrn).2
          have := hs.2.1 (mC σ r - 100).toNat (by omega) m2
          rwa [show (((mC σ r - 100).toNat : Nat) : Int) = mC σ r - 100 by omega] at this) c1
        exact nx (so_st hw hrn rfl hs hi) (lk_st hw hrn rfl hl)
theorem wl_groupsOf {pp : Int32} (hw : RwC σ n) (ht : t.toInt ≠ -1) (kk : ∀ v : Int32, b16 v → (∀ j, j < 16 → (bG v j = true ↔ InC σ n t.toInt k.toInt pp.toInt (j : Int))) → Q v σ) : ∀ (N : Nat) (x x5 : Int32) (r : Nat), x5.toInt = (r : Int) → r ≤ n → b16 x → (∀ j, j < 16 → bG x j = true → InC σ n t.toInt k.toInt pp.toInt (j : Int)) → (∀ r', r' < r → mC σ r' = pp.toInt → ctG σ t.toInt k.toInt r' → bG x (gCj9 σ r').toNat = true) → (201 - r) + 20 ≤ N → (WL_Wh_groupsOf N) pp t k x x5 σ Q
  | 0, _, _, _, _, _, _, _, _, h => absurd h (by omega)
  | N + 1, x, x5, r, h5, hr, h16, hs, hd, hN => by
    have ih := wl_groupsOf hw ht kk N
    have hn := hw.1.2
    have en := hw.1.1
    refine wl_Wh_groupsOf_6 ?_
    have nx : ∀ {x' : Int32}, b16 x' → (∀ j, j < 16 → bG x' j = true → InC σ n t.toInt k.toInt pp.toInt (j : Int)) → r < n → (∀ r', r' < r + 1 → mC σ r' = pp.toInt → ctG σ t.toInt k.toInt r' → bG x' (gCj9 σ r').toNat = true) → (-2147483648 ≤ x5.toInt + 1 ∧ x5.toInt + 1 ≤ 2147483647) ∧ ∀ r6 : Int32, r6.toInt = x5.toInt + 1 → (WL_Wh_groupsOf N) pp t k x' r6 σ Q := fun a b hrn d => ⟨by omega, fun r6 h6 => ih _ r6 (r + 1) (by omega) (by omega) a b d (by omega)⟩
    refine ⟨fun q => ⟨fun e => ?_, fun e => ?_⟩, fun q => ⟨by omega, fun r4 h4 => ⟨by omega, fun r5 h5' => ⟨6 * r, by omega, by omega, fun em => ?_, fun em => ?_⟩⟩⟩⟩
    · have : r = n := by omega
      subst this
      have e : x = 0 := Int32.toInt_inj.mp (e.trans (by decide))
      subst e
      refine kk 0 b16_0 (fun j hj => ⟨fun q => hs j hj q, fun q => ?_⟩)
      have z : ∀ y, bG 0 y = false := fun y => BitVec.getLsbD_zero
      have q := q (fun _ => False) (fun r' hr' e' c' => absurd (hd r' hr' e' c') (by rw [z]; decide)) (fun _ _ _ s _ => s)
      exact q.elim
    · have : r = n := by omega
      subst this
      have hso : SoC σ r t.toInt k.toInt pp.toInt x := ⟨h16, hs, hd⟩
      refine (wl_reachedFrom (p := pp.toInt) hw ht kk fuF).1 x 0 0 (by decide) (by omega) ?_ hso (by show 300 * 16 + 10 ≤ 100000; decide)
      apply Classical.byContradiction
      intro hlt
      apply e
      have : x = 0 := b16_ext h16 b16_0 (fun i hi => by
        cases a : bG x i with
        | false => exact (BitVec.getLsbD_zero).symm
        | true => exact absurd (cnG_pos hi a) (by omega))
      rw [this]; decide
    · have hrn : r < n := by omega
      refine w_counts h5 (by omega) ht (fun c1 => ⟨fun z => absurd z (by decide), fun _ => ⟨by omega, fun r12 h12 => ⟨by omega, fun r13 h13 => ⟨6 * r + 1, by omega, by omega, ?_⟩⟩⟩⟩) (fun c0 => ⟨fun _ => nx h16 hs hrn (fun r' hr' a b => ?_), fun z => absurd rfl z⟩)
      · have hg := (hw.2 r hrn).1
        have e : (σ.1 6 (6 * r + 1)).toInt = (((gCj9 σ r).toNat : Nat) : Int) := by show gCj9 σ r = _; omega
        refine nx (b16_st h16 e (by omega)) (fun j hj q => ?_) hrn (fun r' hr' a b => ?_)
        · rw [bG_st e (by omega) (by omega)] at q
          by_cases f : j = (gCj9 σ r).toNat
          · rw [show ((j : Nat) : Int) = gCj9 σ r by omega]; exact InG.d hrn em c1
          · rw [decide_eq_false f, Bool.or_false] at q; exact hs j hj q
        · have hg' := (hw.2 r' (by omega)).1
          rw [bG_st e (by omega) (by omega)]
          by_cases f : r' = r
          · subst f; rw [decide_eq_true rfl, Bool.or_true]
          · rw [hd r' (by omega) a b]; rfl
      · by_cases f : r' = r
        · subst f; exact absurd b c0
        · exact hd r' (by omega) a b
    · have hrn : r < n := by omega
      exact nx h16 hs hrn (fun r' hr' a b => by
        by_cases f : r' = r
        · subst f; exact absurd a em
        · exact hd r' (by omega) a b)
/-- the groups of a person, as bits -/
theorem w_groupsOf {pp : Int32} (hw : RwC σ n) (ht : t.toInt ≠ -1) (kk : ∀ v : Int32, b16 v → (∀ j, j < 16 → (bG v j = true ↔ InC σ n t.toInt k.toInt pp.toInt (j : Int))) → Q v σ) : W_Wh_groupsOf pp t k σ Q :=
  wl_groupsOf hw ht kk fuF 0 0 0 (by decide) (by omega) b16_0 (fun j _ q => absurd q (by rw [show bG 0 j = false from BitVec.getLsbD_zero]; decide)) (fun r' hr' => absurd hr' (by omega)) (by show 201 + 20 ≤ 100000; decide)
end reachedFrom
/-! ===== the reference: reaches ===== -/
noncomputable def mM (σ : zS) (r : Nat) : Int := (σ.1 114 r).toInt
noncomputable def gM (σ : zS) (r : Nat) : Int := (σ.1 115 r).toInt
noncomputable def stG (σ : zS) (t k : Int) (r : Nat) : Prop := (σ.1 116 r).toInt ≤ t ∧ t < (σ.1 117 r).toInt ∧ (σ.1 118 r).toInt ≤ k ∧ ((σ.1 119 r).toInt = -4 ∨ k < (σ.1 119 r).toInt)
noncomputable def RwM (σ : zS) (n : Nat) : Prop := ((σ.1 110 8).toInt = (n : Int) ∧ n ≤ 201) ∧ ∀ r, r < n → (0 ≤ gM σ r ∧ gM σ r ≤ 15) ∧ mM σ r ≤ 115
/-- all but who is reached is as before -/
noncomputable def FrG (σ τ : zS) : Prop := (∀ k j, k ≠ 120 → τ.1 k j = σ.1 k j) ∧ τ.2 = σ.2
theorem FrG.rf {σ : zS} : FrG σ σ := ⟨fun _ _ _ => rfl, rfl⟩
theorem FrG.st {σ τ τ' : zS} {n : Nat} {v : Int32} (h : FrG σ τ) (e : zI τ 120 n v = τ') : FrG σ τ' := ⟨fun k j hk => by rw [← e, yI_ne (by omega)]; exact h.1 k j hk, by rw [← e]; exact h.2⟩
theorem FrG.rw {σ τ : zS} {n : Nat} (h : FrG σ τ) (hw : RwM σ n) : RwM τ n := by
  refine ⟨⟨by rw [h.1 110 8 (by decide)]; exact hw.1.1, hw.1.2⟩, fun r hr => ?_⟩
  have := hw.2 r hr
  unfold gM mM at this ⊢
  rw [h.1 115 r (by decide), h.1 114 r (by decide)]
  exact this
theorem FrG.m {σ τ : zS} (h : FrG σ τ) (r : Nat) : mM τ r = mM σ r := by unfold mM; rw [h.1 114 r (by decide)]
theorem FrG.g {σ τ : zS} (h : FrG σ τ) (r : Nat) : gM τ r = gM σ r := by unfold gM; rw [h.1 115 r (by decide)]
theorem FrG.c {σ τ : zS} (h : FrG σ τ) {t k : Int} (r : Nat) : stG τ t k r ↔ stG σ t k r := by unfold stG; rw [h.1 116 r (by decide), h.1 117 r (by decide), h.1 118 r (by decide), h.1 119 r (by decide)]
noncomputable def rG (τ : zS) (j : Nat) : Bool := decide ((τ.1 120 j).toInt ≠ 0)
theorem rG_st {τ τ' : zS} {n j : Nat} (e : zI τ 120 n 1 = τ') : rG τ' j = (rG τ j || decide (j = n)) := by
  unfold rG
  by_cases h : j = n
  · subst h
    rw [← e, yI_at, decide_eq_true (p := j = j) rfl, Bool.or_true]
    decide
  · rw [← e, yI_ne (by omega), decide_eq_false h, Bool.or_false]
theorem rG_0 {τ : zS} {j : Nat} (h : (τ.1 120 j).toInt = 0) : rG τ j = false := decide_eq_false (fun q => q h)
theorem rG_1 {τ : zS} {j : Nat} (h : ¬ (τ.1 120 j).toInt = 0) : rG τ j = true := decide_eq_true h
theorem w_standsAt {σ : zS} {Q : Int32 → zS → Prop} {a t k : Int32} {r : Nat} (ha : a.toInt = (r : Int)) (hr : r < 201) (k1 : stG σ t.toInt k.toInt r → Q 1 σ) (k0 : ¬ stG σ t.toInt k.toInt r → Q 0 σ) : W_M_standsAt a t k σ Q := by
  unfold W_M_standsAt
  refine ⟨r, ha, hr, fun c1 => k0 (fun q => absurd q.1 (by omega)), fun c1 => ⟨fun c2 => k0 (fun q => absurd q.2.1 (by omega)), fun c2 => ⟨fun c3 => k0 (fun q => absurd q.2.2.1 (by omega)), fun c3 => ⟨fun c4 => k1 ⟨by omega, by omega, by omega, Or.inl c4⟩, fun c4 => ⟨fun c5 => k0 (fun q => by rcases q.2.2.2 with q | q; exact c4 q; omega), fun c5 => k1 ⟨by omega, by omega, by omega, Or.inr (by omega)⟩⟩⟩⟩⟩⟩
section spreads
variable {σ : zS} {n : Nat} {t k : Int32} {p : Int} {Q : Unit → zS → Prop}
noncomputable abbrev InM (σ : zS) (n : Nat) (t k p x : Int) : Prop := InG n (mM σ) (gM σ) (stG σ t k) p x
noncomputable def SoM (σ τ : zS) (n : Nat) (t k p : Int) : Prop := FrG σ τ ∧ (∀ j, j < 16 → rG τ j = true → InM σ n t k p (j : Int)) ∧ ∀ r, r < n → mM σ r = p → stG σ t k r → rG τ (gM σ r).toNat = true
theorem som_st {τ τ' : zS} {r : Nat} (hw : RwM σ n) (hr : r < n) (h : SoM σ τ n t.toInt k.toInt p) (hi : InM σ n t.toInt k.toInt p (gM σ r)) (e : zI τ 120 (gM σ r).toNat 1 = τ') : SoM σ τ' n t.toInt k.toInt p := by
  have hg := (hw.2 r hr).1
  refine ⟨h.1.st e, fun j hj q => ?_, fun r' hr' e' c' => ?_⟩
  · rw [rG_st e] at q
    by_cases f : j = (gM σ r).toNat
    · rw [show ((j : Nat) : Int) = gM σ r by omega]; exact hi
    · rw [decide_eq_false f, Bool.or_false] at q; exact h.2.1 j hj q
  · rw [rG_st e, h.2.2 r' hr' e' c']; rfl
/-- while more is 0: the rows below r lead nowhere new -/
noncomputable def LkM (σ τ : zS) (t k : Int) (r : Nat) : Prop := ∀ r', r' < r → 100 ≤ mM σ r' → rG τ (mM σ r' - 100).toNat = true → stG σ t k r' → rG τ (gM σ r').toNat = true
theorem wl_spreads (hw : RwM σ n) (kk : ∀ τ, FrG σ τ → (∀ j, j < 16 → (rG τ j = true ↔ InM σ n t.toInt k.toInt p (j : Int))) → Q () τ) : ∀ N : Nat,
    (∀ (τ : zS) (x3 : Int32), SoM σ τ n t.toInt k.toInt p → (x3.toInt = 0 → LkM σ τ t.toInt k.toInt n) → 300 * (16 - cnG (rG τ) 16) + 250 ≤ N ∨ (x3.toInt = 0 ∧ 1 ≤ N) → (WL_M_spreads N).1 t k x3 τ Q) ∧
    (∀ (τ : zS) (x3 x4 : Int32) (r : Nat), SoM σ τ n t.toInt k.toInt p → x4.toInt = (r : Int) → r ≤ n → (x3.toInt = 0 → LkM σ τ t.toInt k.toInt r) → (300 * (16 - cnG (rG τ) 16) + (if x3.toInt = 0 then 0 else 300)) + (201 - r) + 10 ≤ N → (WL_M_spreads N).2 t k x3 x4 τ Q)
  | 0 => ⟨fun _ _ _ _ h => absurd h (by omega), fun _ _ _ _ _ _ _ _ h => absurd h (by omega)⟩
  | N + 1 => by
    obtain ⟨i1, i2⟩ := wl_spreads hw kk N
    have hn := hw.1.2
    have en := hw.1.1
    constructor
    · intro τ x3 hs hl hN
      refine wl_M_spreads_2 ?_
      refine ⟨fun q => kk τ hs.1 (fun j hj => ⟨hs.2.1 j hj, fun w => ?_⟩), fun q => ?_⟩
      · have w := w (fun y => rG τ y.toNat = true) (fun r hr e c => hs.2.2 r hr e c) (fun r hr e s c => hl q r hr e s c)
        simpa using w
      · exact i2 τ 0 0 0 hs (by decide) (by omega) (fun _ r' hr' => absurd hr' (by omega)) (by rw [if_pos (by decide)]; omega)
    · intro τ x3 x4 r hs h4 hr hl hN
      have fr := hs.1
      have em : ∀ r, (τ.1 114 r).toInt = mM σ r := fr.m
      have eg : ∀ r, (τ.1 115 r).toInt = gM σ r := fr.g
      refine wl_M_spreads_11 ?_
      refine ⟨fun q => ?_, fun q => ?_⟩
      · have e8 : (τ.1 110 8).toInt = (n : Int) := by rw [fr.1 110 8 (by decide)]; exact en
        have : r = n := by omega
        subst this
        refine i1 τ x3 hs hl ?_
        by_cases z : x3.toInt = 0
        · exact Or.inr ⟨z, by omega⟩
        · rw [if_neg z] at hN; exact Or.inl (by omega)
      · have e8 : (τ.1 110 8).toInt = (n : Int) := by rw [fr.1 110 8 (by decide)]; exact en
        have hrn : r < n := by omega
        have hg := (hw.2 r hrn).1
        have hm := (hw.2 r hrn).2
        have nx : (x3.toInt = 0 → LkM σ τ t.toInt k.toInt (r + 1)) → (-2147483648 ≤ x4.toInt + 1 ∧ x4.toInt + 1 ≤ 2147483647) ∧ ∀ r6 : Int32, r6.toInt = x4.toInt + 1 → (WL_M_spreads N).2 t k x3 r6 τ Q := fun hl' => ⟨by omega, fun r6 h6 => i2 τ x3 r6 (r + 1) hs (by omega) (by omega) hl' (by omega)⟩
        have lk : (100 ≤ mM σ r → rG τ (mM σ r - 100).toNat = true → stG σ t.toInt k.toInt r → rG τ (gM σ r).toNat = true) → x3.toInt = 0 → LkM σ τ t.toInt k.toInt (r + 1) := fun z q r' hr' a b c => by
          by_cases f : r' = r
          · subst f; exact z a b c
          · exact hl q r' (by omega) a b c
        have m1 := em r
        have g1 := eg r
        refine ⟨r, h4, by omega, fun c1 => nx (lk (fun a => absurd a (by omega))), fun c1 => ⟨by omega, fun r5 h5 => ⟨(mM σ r - 100).toNat, by omega, by omega, fun c2 => nx (lk (fun _ b => absurd b (by rw [rG_0 c2]; decide))), fun c2 => ⟨(gM σ r).toNat, by omega, by omega, fun c3 => ?_, fun c3 => nx (lk (fun _ _ _ => rG_1 c3))⟩⟩⟩⟩
        refine w_standsAt h4 (by omega) (fun s1 => ⟨fun z => absurd z (by decide), fun _ => ⟨(gM σ r).toNat, by omega, by omega, fun τ' e => ⟨by omega, fun r17 h17 => ?_⟩⟩⟩) (fun s0 => ⟨fun _ => nx (lk (fun _ _ s => absurd ((fr.c r).mpr s) s0)), fun z => absurd rfl z⟩)
        have s1 := (fr.c r).mp s1
        have hi : InM σ n t.toInt k.toInt p (gM σ r) := InG.s hrn (by omega) (by
          have := hs.2.1 (mM σ r - 100).toNat (by omega) (rG_1 c2)
          rwa [show (((mM σ r - 100).toNat : Nat) : Int) = mM σ r - 100 by omega] at this) s1
        have hs' := som_st hw hrn hs hi e
        have hlt : cnG (rG τ) 16 < cnG (rG τ') 16 := cnG_lt 16 (fun i _ q => by rw [rG_st e, q]; rfl) ⟨(gM σ r).toNat, by omega, by rw [rG_st e, decide_eq_true rfl, Bool.or_true], rG_0 c3⟩
        have h16 := cnG_le (p := rG τ') 16
        refine i2 τ' 1 r17 (r + 1) hs' (by omega) (by omega) (fun z => absurd z (by decide)) ?_
        rw [if_neg (by decide)]
        split at hN <;> omega
theorem wl_reaches {pp : Int32} (hw : RwM σ n) (kk : ∀ τ, FrG σ τ → (∀ j, j < 16 → (rG τ j = true ↔ InM σ n t.toInt k.toInt pp.toInt (j : Int))) → Q () τ) : ∀ N : Nat,
    (∀ (τ : zS) (x4 : Int32) (g : Nat), FrG σ τ → x4.toInt = (g : Int) → g ≤ 16 → (∀ j, j < g → rG τ j = false) → (16 - g) + 300 ≤ N → (WL_M_reaches N).1 pp t k x4 τ Q) ∧
    (∀ (τ : zS) (x4 : Int32) (r : Nat), FrG σ τ → x4.toInt = (r : Int) → r ≤ n → (∀ j, j < 16 → rG τ j = true → InM σ n t.toInt k.toInt pp.toInt (j : Int)) → (∀ r', r' < r → mM σ r' = pp.toInt → stG σ t.toInt k.toInt r' → rG τ (gM σ r').toNat = true) → (201 - r) + 10 ≤ N → (WL_M_reaches N).2 pp t k x4 τ Q)
  | 0 => ⟨fun _ _ _ _ _ _ _ h => absurd h (by omega), fun _ _ _ _ _ _ _ _ h => absurd h (by omega)⟩
  | N + 1 => by
    obtain ⟨i1, i2⟩ := wl_reaches hw kk N
    have hn := hw.1.2
    have en := hw.1.1
    constructor
    · intro τ x4 g fr h4 hg hz hN
      refine wl_M_reaches_3 ?_
      refine ⟨fun q => i2 τ 0 0 fr (by decide) (by omega) (fun j hj b => absurd b (by rw [hz j (by omega)]; decide)) (fun r' hr' => absurd hr' (by omega)) (by omega), fun q => ⟨g, h4, by omega, fun τ' e => ⟨by omega, fun r4 h4' => i1 τ' r4 (g + 1) (fr.st e) (by omega) (by omega) (fun j hj => ?_) (by omega)⟩⟩⟩
      by_cases f : j = g
      · subst f
        exact rG_0 (by rw [← e, yI_at]; decide)
      · have := hz j (by omega)
        unfold rG at this ⊢
        rw [← e, yI_ne (by omega)]
        exact this
    · intro τ x4 r fr h4 hr hs hd hN
      have em : ∀ r, (τ.1 114 r).toInt = mM σ r := fr.m
      have eg : ∀ r, (τ.1 115 r).toInt = gM σ r := fr.g
      have e8 : (τ.1 110 8).toInt = (n : Int) := by rw [fr.1 110 8 (by decide)]; exact en
      refine wl_M_reaches_27 ?_
      refine ⟨fun q => ?_, fun q => ?_⟩
      · have : r = n := by omega
        subst this
        exact (wl_spreads (p := pp.toInt) hw kk fuF).1 τ 1 ⟨fr, hs, hd⟩ (fun z => absurd z (by decide)) (Or.inl (by show 300 * (16 - cnG (rG τ) 16) + 250 ≤ 100000; omega))
      · have hrn : r < n := by omega
        have hg := (hw.2 r hrn).1
        have m1 := em r
        have g1 := eg r
        have nx : ∀ {τ' : zS}, FrG σ τ' → (∀ j, j < 16 → rG τ' j = true → InM σ n t.toInt k.toInt pp.toInt (j : Int)) → (∀ r', r' < r + 1 → mM σ r' = pp.toInt → stG σ t.toInt k.toInt r' → rG τ' (gM σ r').toNat = true) → (-2147483648 ≤ x4.toInt + 1 ∧ x4.toInt + 1 ≤ 2147483647) ∧ ∀ r6 : Int32, r6.toInt = x4.toInt + 1 → (WL_M_reaches N).2 pp t k r6 τ' Q := fun a b d => ⟨by omega, fun r6 h6 => i2 _ r6 (r + 1) a (by omega) (by omega) b d (by omega)⟩
        refine ⟨r, h4, by omega, fun c1 => ?_, fun c1 => nx fr hs (fun r' hr' a b => ?_)⟩
        · refine w_standsAt h4 (by omega) (fun s1 => ⟨fun z => absurd z (by decide), fun _ => ⟨(gM σ r).toNat, by omega, by omega, fun τ' e => ?_⟩⟩) (fun s0 => ⟨fun _ => nx fr hs (fun r' hr' a b => ?_), fun z => absurd rfl z⟩)
          · have s1 := (fr.c r).mp s1
            refine nx (fr.st e) (fun j hj q => ?_) (fun r' hr' a b => ?_)
            · rw [rG_st e] at q
              by_cases f : j = (gM σ r).toNat
              · rw [show ((j : Nat) : Int) = gM σ r by omega]; exact InG.d hrn (by omega) s1
              · rw [decide_eq_false f, Bool.or_false] at q; exact hs j hj q
            · rw [rG_st e]
              by_cases f : r' = r
              · subst f; rw [decide_eq_true rfl, Bool.or_true]
              · rw [hd r' (by omega) a b]; rfl
          · by_cases f : r' = r
            · subst f; exact absurd ((fr.c r').mpr b) s0
            · exact hd r' (by omega) a b
        · by_cases f : r' = r
          · subst f; exact absurd a (by omega)
          · exact hd r' (by omega) a b
/-- who is reached -/
theorem w_reaches {pp : Int32} (hw : RwM σ n) (kk : ∀ τ, FrG σ τ → (∀ j, j < 16 → (rG τ j = true ↔ InM σ n t.toInt k.toInt pp.toInt (j : Int))) → Q () τ) : W_M_reaches pp t k σ Q :=
  (wl_reaches hw kk fuF).1 σ 0 0 FrG.rf (by decide) (by omega) (fun j hj => absurd hj (by omega)) (by show 16 + 300 ≤ 100000; decide)
end spreads
/-- rows that hold the same: the same least set -/
theorem in_same {σ : zS} {n : Nat} {t k p x : Int} (h : ∀ r, r < n → σ.1 6 (6 * r) = σ.1 114 r ∧ σ.1 6 (6 * r + 1) = σ.1 115 r ∧ σ.1 6 (6 * r + 2) = σ.1 116 r ∧ σ.1 6 (6 * r + 3) = σ.1 117 r ∧ σ.1 6 (6 * r + 4) = σ.1 118 r ∧ σ.1 6 (6 * r + 5) = σ.1 119 r) : InC σ n t k p x ↔ InM σ n t k p x := by
  have h1 : ∀ r, r < n → mC σ r = mM σ r := fun r hr => by unfold mC mM; rw [(h r hr).1]
  have h2 : ∀ r, r < n → gCj9 σ r = gM σ r := fun r hr => by unfold gCj9 gM; rw [(h r hr).2.1]
  have h3 : ∀ r, r < n → (ctG σ t k r ↔ stG σ t k r) := fun r hr => by
    obtain ⟨_, _, a, b, c, d⟩ := h r hr
    unfold ctG stG; rw [a, b, c, d]
  exact ⟨InG.same h1 h2 h3, InG.same (fun r hr => (h1 r hr).symm) (fun r hr => (h2 r hr).symm) (fun r hr => (h3 r hr).symm)⟩

end
