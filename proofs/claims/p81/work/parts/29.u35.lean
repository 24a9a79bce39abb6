section
/-! ===== the class's way (cd8): more fuel, rows that are the same ===== -/
section L05
variable {K : Tkn} {M : EmJ} {R R' : CwJ}
theorem cdB_mono {F G : CdF} (hF : ∀ m d p q a b, F m d p q a b → G m d p q a b) {m d p q a b : Nat} (h : cdB K M R F m d p q a b) : cdB K M R G m d p q a b := by
  unfold cdB at h ⊢
  split at h
  · rcases h with ⟨h1, h2, c, h3, h4⟩ | ⟨h1, h2, j, h3, h4⟩ | h | h | h | ⟨h1, h2, j, i, c, h3, h4, h5, h6⟩
    · exact Or.inl ⟨h1, h2, c, hF _ _ _ _ _ _ h3, h4⟩
    · exact Or.inr (Or.inl ⟨h1, h2, j, hF _ _ _ _ _ _ h3, h4⟩)
    · exact Or.inr (Or.inr (Or.inl h))
    · exact Or.inr (Or.inr (Or.inr (Or.inl h)))
    · exact Or.inr (Or.inr (Or.inr (Or.inr (Or.inl h))))
    · exact Or.inr (Or.inr (Or.inr (Or.inr (Or.inr ⟨h1, h2, j, i, c, h3, h4, hF _ _ _ _ _ _ h5, h6⟩))))
  · rcases h with h | ⟨j, c, e, h1, h2, h3, h4⟩
    · exact Or.inl (hF _ _ _ _ _ _ h)
    · exact Or.inr ⟨j, c, e, hF _ _ _ _ _ _ h1, h2, hF _ _ _ _ _ _ h3, h4⟩
  · rcases h with h | ⟨j, c, e, h1, h2, h3, h4⟩
    · exact Or.inl (hF _ _ _ _ _ _ h)
    · exact Or.inr ⟨j, c, e, hF _ _ _ _ _ _ h1, h2, hF _ _ _ _ _ _ h3, h4⟩
  · rcases h with ⟨j, c, h1, h2⟩ | ⟨j, c, e, k, h1, h2, h3, h4⟩
    · exact Or.inl ⟨j, c, hF _ _ _ _ _ _ h1, h2⟩
    · exact Or.inr ⟨j, c, e, k, hF _ _ _ _ _ _ h1, h2, hF _ _ _ _ _ _ h3, h4⟩
  · rcases h with ⟨h1, h2, c, h3, h4⟩ | h | ⟨h1, h2, j, h3, h4⟩ | h
    · exact Or.inl ⟨h1, h2, c, hF _ _ _ _ _ _ h3, h4⟩
    · exact Or.inr (Or.inl h)
    · exact Or.inr (Or.inr (Or.inl ⟨h1, h2, j, hF _ _ _ _ _ _ h3, h4⟩))
    · exact Or.inr (Or.inr (Or.inr (hF _ _ _ _ _ _ h)))
  · rcases h with h | ⟨j, c, e, h1, h2, h3, h4, h5, h6⟩
    · exact Or.inl (hF _ _ _ _ _ _ h)
    · exact Or.inr ⟨j, c, e, hF _ _ _ _ _ _ h1, h2, h3, h4, hF _ _ _ _ _ _ h5, h6⟩
  · rcases h with h | ⟨j, c, e, h1, h2, h3, h4, h5, h6⟩
    · exact Or.inl (hF _ _ _ _ _ _ h)
    · exact Or.inr ⟨j, c, e, hF _ _ _ _ _ _ h1, h2, h3, h4, hF _ _ _ _ _ _ h5, h6⟩
theorem cd8_s : ∀ {f m d p q a b : Nat}, cd8 K M R f m d p q a b → cd8 K M R (f + 1) m d p q a b
  | 0, _, _, _, _, _, _, h => h.elim
  | _ + 1, _, _, _, _, _, _, h => cdB_mono (fun _ _ _ _ _ _ q => cd8_s q) h
theorem cd8_up {f m d p q a b : Nat} (h : cd8 K M R f m d p q a b) : ∀ g, cd8 K M R (f + g) m d p q a b
  | 0 => h
  | g + 1 => cd8_s (cd8_up h g)
/-- read by the class: some fuel -/
noncomputable def CD (K : Tkn) (M : EmJ) (R : CwJ) (m d p q a b : Nat) : Prop := ∃ f, cd8 K M R f m d p q a b
theorem CD.two {m d p q a b m2 d2 p2 q2 a2 b2 : Nat} (h : CD K M R m d p q a b) (h' : CD K M R m2 d2 p2 q2 a2 b2) : ∃ f, cd8 K M R f m d p q a b ∧ cd8 K M R f m2 d2 p2 q2 a2 b2 := by
  obtain ⟨f, h⟩ := h
  obtain ⟨g, h'⟩ := h'
  exact ⟨f + g, cd8_up h g, by rw [Nat.add_comm]; exact cd8_up h' f⟩
theorem CD.s {f m d p q a b : Nat} (h : cdB K M R (cd8 K M R f) m d p q a b) : CD K M R m d p q a b := ⟨f + 1, h⟩
/-- it emits something -/
theorem cd8_lt : ∀ {f m d p q a b : Nat}, cd8 K M R f m d p q a b → a < b
  | 0, _, _, _, _, _, _, h => h.elim
  | f + 1, m, d, p, q, a, b, h => by
    have ih := @cd8_lt f
    have h : cdB K M R (cd8 K M R f) m d p q a b := h
    unfold cdB at h
    split at h
    · rcases h with ⟨_, _, c, h3, _, h4⟩ | ⟨_, _, j, h3, _⟩ | ⟨_, _, _, _, h⟩ | ⟨_, _, _, h⟩ | ⟨_, _, _, _, h⟩ | ⟨_, _, j, i, c, _, _, h5, _, _, _, h6⟩
      · have := ih h3; omega
      · exact ih h3
      · omega
      · omega
      · omega
      · have := ih h5; omega
    · rcases h with h | ⟨j, c, e, h1, _, h3, _, _, h4⟩
      · exact ih h
      · have := ih h1; have := ih h3; omega
    · rcases h with h | ⟨j, c, e, h1, _, h3, _, _, h4⟩
      · exact ih h
      · have := ih h1; have := ih h3; omega
    · rcases h with ⟨j, c, h1, _, _, _, h2⟩ | ⟨j, c, e, k, h1, _, h3, _, _, _, h4⟩
      · have := ih h1; omega
      · have := ih h1; have := ih h3; omega
    · rcases h with ⟨_, _, c, h3, _, h4⟩ | ⟨_, _, _, h⟩ | ⟨_, _, j, h3, _⟩ | h
      · have := ih h3; omega
      · omega
      · exact ih h3
      · exact ih h
    · rcases h with h | ⟨j, c, e, h1, _, _, _, h5, _, h6⟩
      · exact ih h
      · have := ih h1; have := ih h5; omega
    · rcases h with h | ⟨j, c, e, h1, _, _, _, h5, _, h6⟩
      · exact ih h
      · have := ih h1; have := ih h5; omega
theorem cd8_cg : ∀ {f m d p q a b : Nat}, (∀ i, a ≤ i → i < b → R i = R' i) → cd8 K M R f m d p q a b → cd8 K M R' f m d p q a b
  | 0, _, _, _, _, _, _, _, h => h.elim
  | f + 1, m, d, p, q, a, b, hR, h => by
    have ih := @cd8_cg f
    have lt := @cd8_lt K M R f
    have h : cdB K M R (cd8 K M R f) m d p q a b := h
    show cdB K M R' (cd8 K M R' f) m d p q a b
    unfold cdB at h ⊢
    split at h
    · rcases h with ⟨h1, h2, c, h3, h4, rfl⟩ | ⟨h1, h2, j, h3, h4⟩ | ⟨h1, h2, h3, h4, rfl⟩ | ⟨h1, h2, h3, rfl⟩ | ⟨h1, h2, h3, h4, rfl⟩ | ⟨h1, h2, j, i, c, h3, h4, h5, h6, h7, h8, rfl⟩
      · have := lt h3
        exact Or.inl ⟨h1, h2, c, ih (fun i a b => hR i a (by omega)) h3, by rw [← hR c (by omega) (by omega)]; exact h4, rfl⟩
      · exact Or.inr (Or.inl ⟨h1, h2, j, ih hR h3, h4⟩)
      · exact Or.inr (Or.inr (Or.inl ⟨h1, h2, by rw [← hR a (by omega) (by omega)]; exact h3, h4, rfl⟩))
      · exact Or.inr (Or.inr (Or.inr (Or.inl ⟨h1, h2, by rw [← hR a (by omega) (by omega)]; exact h3, rfl⟩)))
      · exact Or.inr (Or.inr (Or.inr (Or.inr (Or.inl ⟨h1, h2, h3, by rw [← hR a (by omega) (by omega)]; exact h4, rfl⟩))))
      · have := lt h5
        exact Or.inr (Or.inr (Or.inr (Or.inr (Or.inr ⟨h1, h2, j, i, c, h3, h4, ih (fun i a b => hR i a (by omega)) h5, h6, h7, by rw [← hR c (by omega) (by omega)]; exact h8, rfl⟩))))
    · rcases h with h | ⟨j, c, e, h1, h2, h3, h4, h5, rfl⟩
      · exact Or.inl (ih hR h)
      · have l1 := lt h1
        have l2 := lt h3
        exact Or.inr ⟨j, c, e, ih (fun i a b => hR i a (by omega)) h1, h2, ih (fun i a b => hR i (by omega) (by omega)) h3, by rw [← hR e (by omega) (by omega)]; exact h4, h5, rfl⟩
    · rcases h with h | ⟨j, c, e, h1, h2, h3, h4, h5, rfl⟩
      · exact Or.inl (ih hR h)
      · have l1 := lt h1
        have l2 := lt h3
        exact Or.inr ⟨j, c, e, ih (fun i a b => hR i a (by omega)) h1, h2, ih (fun i a b => hR i (by omega) (by omega)) h3, by rw [← hR e (by omega) (by omega)]; exact h4, h5, rfl⟩
    · rcases h with ⟨j, c, h1, h2, h3, h4, rfl⟩ | ⟨j, c, e, k, h1, h2, h3, h4, h5, h6, rfl⟩
      · have l1 := lt h1
        exact Or.inl ⟨j, c, ih (fun i a b => hR i a (by omega)) h1, h2, h3, by rw [← hR c (by omega) (by omega)]; exact h4, rfl⟩
      · have l1 := lt h1
        have l2 := lt h3
        exact Or.inr ⟨j, c, e, k, ih (fun i a b => hR i a (by omega)) h1, h2, ih (fun i a b => hR i (by omega) (by omega)) h3, h4, h5, by rw [← hR e (by omega) (by omega)]; exact h6, rfl⟩
    · rcases h with ⟨h1, h2, c, h3, h4, rfl⟩ | ⟨h1, h2, h3, rfl⟩ | ⟨h1, h2, j, h3, h4⟩ | h
      · have := lt h3
        exact Or.inl ⟨h1, h2, c, ih (fun i a b => hR i a (by omega)) h3, by rw [← hR c (by omega) (by omega)]; exact h4, rfl⟩
      · exact Or.inr (Or.inl ⟨h1, h2, by rw [← hR a (by omega) (by omega)]; exact h3, rfl⟩)
      · exact Or.inr (Or.inr (Or.inl ⟨h1, h2, j, ih hR h3, h4⟩))
      · exact Or.inr (Or.inr (Or.inr (ih hR h)))
    · rcases h with h | ⟨j, c, e, h1, h2, h3, h4, h5, h6, rfl⟩
      · exact Or.inl (ih hR h)
      · have l1 := lt h1
        have l2 := lt h5
        exact Or.inr ⟨j, c, e, ih (fun i a b => hR i a (by omega)) h1, h2, h3, by rw [← hR c (by omega) (by omega)]; exact h4, ih (fun i a b => hR i (by omega) (by omega)) h5, by rw [← hR e (by omega) (by omega)]; exact h6, rfl⟩
    · rcases h with h | ⟨j, c, e, h1, h2, h3, h4, h5, h6, rfl⟩
      · exact Or.inl (ih hR h)
      · have l1 := lt h1
        have l2 := lt h5
        exact Or.inr ⟨j, c, e, ih (fun i a b => hR i a (by omega)) h1, h2, h3, by rw [← hR c (by omega) (by omega)]; exact h4, ih (fun i a b => hR i (by omega) (by omega)) h5, by rw [← hR e (by omega) (by omega)]; exact h6, rfl⟩
theorem CD.cg {m d p q a b : Nat} (hR : ∀ i, a ≤ i → i < b → R i = R' i) (h : CD K M R m d p q a b) : CD K M R' m d p q a b := by
  obtain ⟨f, h⟩ := h
  exact ⟨f, cd8_cg hR h⟩
theorem CD.lt {m d p q a b : Nat} (h : CD K M R m d p q a b) : a < b := by
  obtain ⟨f, h⟩ := h
  exact cd8_lt h
end L05
/-! ===== states while a condition is read ===== -/
/-- a number with a point, by its bytes -/
noncomputable def rlV (X : Txt) (p : Nat) : Int := oneF (RlV (dgV X (fe9 X p + 1) (fe9 X (fe9 X p + 1) - (fe9 X p + 1)) (dgV X p (fe9 X p - p) 0)) (fe9 X (fe9 X p + 1) - (fe9 X p + 1)))
/-- what a token emits, by its code -/
noncomputable def emN (c : Nat) : ItJ := if c = 24 then (2, 0) else if c = 25 then (3, 0) else if c = 30 then (17, 0) else if c = 31 then (18, 0) else if 8 ≤ c ∧ c ≤ 12 then (c, 0) else (13, (c : Int) - 13)
noncomputable def emX (X : Txt) (p : Nat) : ItJ := if rc9 X p = 2 then (0, dgV X p (fe9 X p - p) 0) else if rc9 X p = 3 then (1, rlV X p) else emN (rc9 X p)
/-- the feature at p: me or it, a dot, a letter -/
noncomputable def ftX (X : Txt) (p : Nat) : Int := ((rc9 X (nx9t X (nx9t X p)) : Nat) : Int) - 40 + (if rc9 X p = 28 then 8 else 0)
noncomputable def EmX (X : Txt) : EmJ := (emX X, ftX X)
section tp
variable {X : Txt} {n : Nat}
theorem tp_le (h : NT9 X n) : ∀ {j : Nat}, j < n → Tp9 X j ≤ X.2
  | 0, _ => wh_le.2 (Nat.zero_le _)
  | j + 1, hj => (nx_lt (h.2.1 j hj)).2
theorem tp_lt (h : NT9 X n) {j : Nat} (hj : j + 1 < n) : Tp9 X j < Tp9 X (j + 1) := (nx_lt (h.2.1 j hj)).1
theorem rc_lt {p : Nat} (h : 2 ≤ rc9 X p) : p < X.2 := by9_lt (rc_pos h)
end tp
/-- the fault's place is one -/
noncomputable def rgF (τ : zS) : Prop := 0 ≤ (τ.1 17 16).toInt ∧ (τ.1 17 16).toInt ≤ 1200
/-- all but the place, the codes, the fault is as before -/
noncomputable def FrP (σ τ : zS) : Prop := (∀ k j, k ≠ 21 → ¬ (k = 17 ∧ (j = 14 ∨ j = 15 ∨ j = 16)) → τ.1 k j = σ.1 k j) ∧ (∀ k j, k ≠ 22 → τ.2 k j = σ.2 k j) ∧ (rgF σ → rgF τ)
theorem FrP.rf {σ : zS} : FrP σ σ := ⟨fun _ _ _ _ => rfl, fun _ _ _ => rfl, fun h => h⟩
theorem FrP.tr {σ τ υ : zS} (h : FrP σ τ) (h' : FrP τ υ) : FrP σ υ := ⟨fun k j a b => (h'.1 k j a b).trans (h.1 k j a b), fun k j a => (h'.2.1 k j a).trans (h.2.1 k j a), fun q => h'.2.2 (h.2.2 q)⟩
/-- the codes below a are as before -/
noncomputable def SmB (σ τ : zS) (a : Nat) : Prop := ∀ i, i < a → τ.1 21 i = σ.1 21 i ∧ τ.2 22 i = σ.2 22 i
theorem SmB.rf {σ : zS} {a : Nat} : SmB σ σ a := fun _ _ => ⟨rfl, rfl⟩
theorem SmB.tr {σ τ υ : zS} {a b : Nat} (h : SmB σ τ a) (h' : SmB τ υ b) (hb : a ≤ b) : SmB σ υ a := fun i hi => ⟨((h' i (by omega)).1).trans (h i hi).1, ((h' i (by omega)).2).trans (h i hi).2⟩
theorem SmB.rc {σ τ : zS} {a : Nat} (h : SmB σ τ a) {i : Nat} (hi : i < a) : RC9 σ i = RC9 τ i := by
  show ((σ.1 21 i).toInt.toNat, (σ.2 22 i).toInt) = ((τ.1 21 i).toInt.toNat, (τ.2 22 i).toInt)
  rw [(h i hi).1, (h i hi).2]
theorem FrP.rd {σ τ : zS} {X : Txt} {n j j' : Nat} (h : FrP σ τ) (hr : RdT σ X n j) (e : (τ.1 17 14).toInt = (j' : Int)) (hj : j' < n) : RdT τ X n j' := by
  obtain ⟨⟨tx, tk, nt⟩, hn, _, _⟩ := hr
  refine ⟨⟨⟨⟨?_, tx.1.2⟩, fun p hp => ?_⟩, ⟨?_, fun i hi => ?_⟩, nt⟩, hn, e, hj⟩
  · rw [h.1 17 9 (by decide) (by decide)]; exact tx.1.1
  · rw [h.1 23 p (by decide) (by omega)]; exact tx.2 p hp
  · rw [h.1 17 13 (by decide) (by decide)]; exact tk.1
  · rw [h.1 25 i (by decide) (by omega), h.1 24 i (by decide) (by omega), h.2.1 26 i (by decide)]; exact tk.2 i hi
/-- one token further -/
noncomputable def StP (σ τ : zS) (j : Nat) : Prop := FrP σ τ ∧ (τ.1 17 14).toInt = (j : Int) + 1 ∧ τ.1 17 15 = σ.1 17 15 ∧ (∀ i, τ.1 21 i = σ.1 21 i) ∧ τ.2 = σ.2
theorem stp {σ τ : zS} {j : Nat} {r : Int32} (hr : r.toInt = (j : Int) + 1) (e : zI σ 17 14 r = τ) : StP σ τ j := by
  refine ⟨⟨fun k i a b => ?_, fun k i _ => ?_, fun q => ?_⟩, ?_, ?_, fun i => ?_, ?_⟩
  · rw [← e, yI_ne (by omega)]
  · rw [← e, yI_l]
  · unfold rgF at q ⊢; rw [← e, yI_ne (by omega)]; exact q
  · rw [← e, yI_at]; exact hr
  · rw [← e, yI_ne (by omega)]
  · rw [← e, yI_ne (by omega)]
  · rw [← e, yI_l]
theorem StP.sb {σ τ : zS} {j a : Nat} (h : StP σ τ j) : SmB σ τ a := fun i _ => ⟨h.2.2.2.1 i, by rw [h.2.2.2.2]⟩
/-- an op is emitted -/
noncomputable def EmR (σ τ : zS) (a : Nat) (op : Int32) (v : Int64) : Prop := FrP σ τ ∧ τ.1 17 14 = σ.1 17 14 ∧ (τ.1 17 15).toInt = (a : Int) + 1 ∧ SmB σ τ a ∧ τ.1 21 a = op ∧ τ.2 22 a = v
theorem w_emit {σ : zS} {Q : Unit → zS → Prop} {op : Int32} {v : Int64} {a : Nat} (ha : (σ.1 17 15).toInt = (a : Int)) (ha2 : a < 9600) (k : ∀ τ, EmR σ τ a op v → Q () τ) : W_Po_emit op v σ Q := by
  unfold W_Po_emit
  refine ⟨fun c => absurd c (by omega), fun c => ⟨a, ha, ha2, fun s3 e3 => ?_⟩⟩
  have a3 : s3.1 17 15 = σ.1 17 15 := by rw [← e3, yI_ne (by omega)]
  refine ⟨a, by rw [a3]; exact ha, ha2, fun s5 e5 => ?_⟩
  have a5 : s5.1 17 15 = σ.1 17 15 := by rw [← e5, yJ_i, a3]
  rw [a5]
  refine ⟨by omega, fun r6 h6 s7 e7 => k s7 ?_⟩
  refine ⟨⟨fun k i q1 q2 => ?_, fun k i q => ?_, fun q => ?_⟩, ?_, ?_, fun i hi => ⟨?_, ?_⟩, ?_, ?_⟩
  · rw [← e7, yI_ne (by omega), ← e5, yJ_i, ← e3, yI_ne (by omega)]
  · rw [← e7, yI_l, ← e5, yJ_ne (by omega), ← e3, yI_l]
  · unfold rgF at q ⊢; rw [← e7, yI_ne (by omega), ← e5, yJ_i, ← e3, yI_ne (by omega)]; exact q
  · rw [← e7, yI_ne (by omega), ← e5, yJ_i, ← e3, yI_ne (by omega)]
  · rw [← e7, yI_at]; omega
  · rw [← e7, yI_ne (by omega), ← e5, yJ_i, ← e3, yI_ne (by omega)]
  · rw [← e7, yI_l, ← e5, yJ_ne (by omega), ← e3, yI_l]
  · rw [← e7, yI_ne (by omega), ← e5, yJ_i, ← e3, yI_at]
  · rw [← e7, yI_l, ← e5, yJ_at]
/-- a fault is told -/
noncomputable def FaR (σ τ : zS) : Prop := FrP σ τ ∧ τ.1 17 14 = σ.1 17 14 ∧ τ.1 17 15 = σ.1 17 15 ∧ (∀ i, τ.1 21 i = σ.1 21 i) ∧ τ.2 = σ.2
theorem w_fail {σ : zS} {X : Txt} {n j : Nat} {Q : Int32 → zS → Prop} (h : RdT σ X n j) (k : ∀ τ, FaR σ τ → (τ.1 17 16).toInt = (Tp9 X j : Int) → Q 0 τ) : W_Po_fail σ Q := by
  have := h.2.2.2
  have := h.2.1
  have tl := tp_le h.1.2.2 h.2.2.2
  have hX := h.1.1.1.2
  have hpl := h.pl
  refine ⟨j, h.2.2.1, by omega, fun s2 e2 => k s2 ⟨⟨fun k i a b => ?_, fun k i _ => ?_, fun q => ?_⟩, ?_, ?_, fun i => ?_, ?_⟩ ?_⟩
  · rw [← e2, yI_ne (by omega)]
  · rw [← e2, yI_l]
  · unfold rgF; rw [← e2, yI_at]; omega
  · rw [← e2, yI_ne (by omega)]
  · rw [← e2, yI_ne (by omega)]
  · rw [← e2, yI_ne (by omega)]
  · rw [← e2, yI_l]
  · rw [← e2, yI_at]; exact h.pl
theorem FaR.sb {σ τ : zS} {a : Nat} (h : FaR σ τ) : SmB σ τ a := fun i _ => ⟨h.2.2.2.1 i, by rw [h.2.2.2.2]⟩
/-- what lies at a skip is told: here -/
theorem w_aimHere {σ : zS} {Q : Unit → zS → Prop} {x : Int32} {c b : Nat} (hx : x.toInt = (c : Int)) (hb : (σ.1 17 15).toInt = (b : Int)) (hcb : c < b) (hb2 : b ≤ 9600) (k : ∀ τ, FrP σ τ → τ.1 = σ.1 → (∀ i, i ≠ c → τ.2 22 i = σ.2 22 i) → (τ.2 22 c).toInt = (b : Int) → Q () τ) : W_Po_aimHere x σ Q := by
  unfold W_Po_aimHere
  refine ⟨fun q => absurd q (by omega), fun q r2 h2 => ⟨c, hx, by omega, fun s4 e4 => k s4 ⟨fun k i _ _ => ?_, fun k i q => ?_, fun q => ?_⟩ ?_ (fun i hi => ?_) ?_⟩⟩
  · rw [← e4, yJ_i]
  · rw [← e4, yJ_ne (by omega)]
  · unfold rgF at q ⊢; rw [← e4, yJ_i]; exact q
  · rw [← e4, yJ_i]
  · rw [← e4, yJ_ne (by omega)]
  · rw [← e4, yJ_at]; omega
/-! ===== the class reads a condition: its codes (cd8), and what reading comes to (Rd) ===== -/
/-- codes for the reader, one by one -/
theorem kc1 {X : Txt} {p : Nat} : (KT9 X).c p = 1 ↔ rc9 X p = 22 := by
  have h : ∀ c, c < 52 → (km9 c = 1 ↔ c = 22) := by decide +kernel
  exact h _ (Nat.lt_succ_of_le rc_le)
theorem kc2 {X : Txt} {p : Nat} : (KT9 X).c p = 2 ↔ rc9 X p = 23 := by
  have h : ∀ c, c < 52 → (km9 c = 2 ↔ c = 23) := by decide +kernel
  exact h _ (Nat.lt_succ_of_le rc_le)
theorem kc3 {X : Txt} {p : Nat} : (KT9 X).c p = 3 ↔ rc9 X p = 4 := by
  have h : ∀ c, c < 52 → (km9 c = 3 ↔ c = 4) := by decide +kernel
  exact h _ (Nat.lt_succ_of_le rc_le)
theorem kc4 {X : Txt} {p : Nat} : (KT9 X).c p = 4 ↔ rc9 X p = 9 := by
  have h : ∀ c, c < 52 → (km9 c = 4 ↔ c = 9) := by decide +kernel
  exact h _ (Nat.lt_succ_of_le rc_le)
theorem kc5 {X : Txt} {p : Nat} : (KT9 X).c p = 5 ↔ rc9 X p = 2 ∨ rc9 X p = 3 := by
  have h : ∀ c, c < 52 → (km9 c = 5 ↔ c = 2 ∨ c = 3) := by decide +kernel
  exact h _ (Nat.lt_succ_of_le rc_le)
theorem kc6 {X : Txt} {p : Nat} : (KT9 X).c p = 6 ↔ rc9 X p = 24 ∨ rc9 X p = 25 := by
  have h : ∀ c, c < 52 → (km9 c = 6 ↔ c = 24 ∨ c = 25) := by decide +kernel
  exact h _ (Nat.lt_succ_of_le rc_le)
theorem kc7 {X : Txt} {p : Nat} : (KT9 X).c p = 7 ↔ rc9 X p = 26 := by
  have h : ∀ c, c < 52 → (km9 c = 7 ↔ c = 26) := by decide +kernel
  exact h _ (Nat.lt_succ_of_le rc_le)
theorem kc8 {X : Txt} {p : Nat} : (KT9 X).c p = 8 ↔ rc9 X p = 27 ∨ rc9 X p = 28 := by
  have h : ∀ c, c < 52 → (km9 c = 8 ↔ c = 27 ∨ c = 28) := by decide +kernel
  exact h _ (Nat.lt_succ_of_le rc_le)
theorem kc9 {X : Txt} {p : Nat} : (KT9 X).c p = 9 ↔ rc9 X p = 6 := by
  have h : ∀ c, c < 52 → (km9 c = 9 ↔ c = 6) := by decide +kernel
  exact h _ (Nat.lt_succ_of_le rc_le)
theorem kc10 {X : Txt} {p : Nat} : (KT9 X).c p = 10 ↔ rc9 X p = 7 := by
  have h : ∀ c, c < 52 → (km9 c = 10 ↔ c = 7) := by decide +kernel
  exact h _ (Nat.lt_succ_of_le rc_le)
theorem kc11 {X : Txt} {p : Nat} : (KT9 X).c p = 11 ↔ rc9 X p = 5 := by
  have h : ∀ c, c < 52 → (km9 c = 11 ↔ c = 5) := by decide +kernel
  exact h _ (Nat.lt_succ_of_le rc_le)
theorem kc12 {X : Txt} {p : Nat} : (KT9 X).c p = 12 ↔ rc9 X p = 8 := by
  have h : ∀ c, c < 52 → (km9 c = 12 ↔ c = 8) := by decide +kernel
  exact h _ (Nat.lt_succ_of_le rc_le)
theorem kc13 {X : Txt} {p : Nat} : (KT9 X).c p = 13 ↔ 10 ≤ rc9 X p ∧ rc9 X p ≤ 12 := by
  have h : ∀ c, c < 52 → (km9 c = 13 ↔ 10 ≤ c ∧ c ≤ 12) := by decide +kernel
  exact h _ (Nat.lt_succ_of_le rc_le)
theorem kc14 {X : Txt} {p : Nat} : (KT9 X).c p = 14 ↔ 13 ≤ rc9 X p ∧ rc9 X p ≤ 18 := by
  have h : ∀ c, c < 52 → (km9 c = 14 ↔ 13 ≤ c ∧ c ≤ 18) := by decide +kernel
  exact h _ (Nat.lt_succ_of_le rc_le)
theorem kc15 {X : Txt} {p : Nat} : (KT9 X).c p = 15 ↔ rc9 X p = 29 := by
  have h : ∀ c, c < 52 → (km9 c = 15 ↔ c = 29) := by decide +kernel
  exact h _ (Nat.lt_succ_of_le rc_le)
theorem kc16 {X : Txt} {p : Nat} : (KT9 X).c p = 16 ↔ rc9 X p = 30 := by
  have h : ∀ c, c < 52 → (km9 c = 16 ↔ c = 30) := by decide +kernel
  exact h _ (Nat.lt_succ_of_le rc_le)
theorem kc17 {X : Txt} {p : Nat} : (KT9 X).c p = 17 ↔ rc9 X p = 31 := by
  have h : ∀ c, c < 52 → (km9 c = 17 ↔ c = 31) := by decide +kernel
  exact h _ (Nat.lt_succ_of_le rc_le)
theorem kc18 {X : Txt} {p : Nat} : (KT9 X).c p = 18 ↔ rc9 X p = 19 := by
  have h : ∀ c, c < 52 → (km9 c = 18 ↔ c = 19) := by decide +kernel
  exact h _ (Nat.lt_succ_of_le rc_le)
theorem kc19 {X : Txt} {p : Nat} : (KT9 X).c p = 19 ↔ rc9 X p = 32 := by
  have h : ∀ c, c < 52 → (km9 c = 19 ↔ c = 32) := by decide +kernel
  exact h _ (Nat.lt_succ_of_le rc_le)
theorem kc20 {X : Txt} {p : Nat} : (KT9 X).c p = 20 ↔ rc9 X p = 1 := by
  have h : ∀ c, c < 52 → (km9 c = 20 ↔ c = 1) := by decide +kernel
  exact h _ (Nat.lt_succ_of_le rc_le)
theorem kc21 {X : Txt} {p : Nat} : (KT9 X).c p = 21 ↔ rc9 X p = 20 := by
  have h : ∀ c, c < 52 → (km9 c = 21 ↔ c = 20) := by decide +kernel
  exact h _ (Nat.lt_succ_of_le rc_le)
theorem kc22 {X : Txt} {p : Nat} : (KT9 X).c p = 22 ↔ 40 ≤ rc9 X p ∧ rc9 X p ≤ 47 := by
  have h : ∀ c, c < 52 → (km9 c = 22 ↔ 40 ≤ c ∧ c ≤ 47) := by decide +kernel
  exact h _ (Nat.lt_succ_of_le rc_le)
/-- letters -/
theorem wdr_l : ∀ k, k < 8 → (WDR.all fun e => !(Nat.beq e.2 (40 + k)) || decide (e.1 = nv8 [97 + (k : Int)] 0)) = true ∧ lkd 21 WDR (nv8 [97 + (k : Int)] 0) = 40 + k := by decide +kernel
theorem ol_rc {X : Txt} {p k : Nat} (hk : k < 8) : olV X p = 97 + (k : Int) ↔ rc9 X p = 40 + k := by
  obtain ⟨a, b⟩ := wdr_l k hk
  constructor
  · intro h
    unfold olV at h
    split at h
    · rename_i q
      have te := te_word q.1
      have e : bs9 X p 1 = [97 + (k : Int)] := by
        show [by9 X (p + 0)] = _
        rw [Nat.add_zero, h]
      have v := word_to (X := X) (p := p) (l := [97 + (k : Int)]) (by simp) (by rw [← te.1]; exact q.2) e
      unfold rc9
      rw [q.1, v]
      exact b
    · omega
  · intro h
    obtain ⟨r1, r2⟩ := rc_wv (by omega) h a
    obtain ⟨q1, q2⟩ := word_of (X := X) (p := p) (l := [97 + (k : Int)]) (fun x hx => by
      cases hx with
      | head => omega
      | tail _ hx => cases hx) (by simp) r2
    have te := te_word r1
    have q1 : we9 X p - p = 1 := q1
    have q2 : [by9 X (p + 0)] = [97 + (k : Int)] := q2
    unfold olV
    rw [if_pos ⟨r1, by rw [te.1]; exact q1⟩]
    have := (List.cons.inj q2).1
    rwa [Nat.add_zero] at this
theorem wd13 : wdL 13 = 8 ∧ ∀ j, j < 8 → wdB 13 j = 97 + (j : Int) := by decide +kernel
/-- the place of a letter among a .. h -/
theorem ix13 {X : Txt} {p : Nat} {r : Int} (h : IxW 13 (olV X p) r) : (0 ≤ r ∧ 40 ≤ rc9 X p ∧ rc9 X p ≤ 47 ∧ r = ((rc9 X p : Nat) : Int) - 40) ∨ (r = -1 ∧ ¬ (40 ≤ rc9 X p ∧ rc9 X p ≤ 47)) := by
  rcases h with ⟨r1, r2⟩ | ⟨j, r1, r2, r3, _⟩
  · refine Or.inr ⟨r1, fun q => ?_⟩
    have := (ol_rc (X := X) (p := p) (k := rc9 X p - 40) (by omega)).mpr (by omega)
    exact r2 (rc9 X p - 40) (by rw [wd13.1]; omega) (by rw [wd13.2 _ (by omega), this])
  · rw [wd13.1] at r2
    rw [wd13.2 j r2] at r3
    have := (ol_rc (X := X) (p := p) (k := j) r2).mp r3.symm
    exact Or.inl ⟨by omega, by omega, by omega, by omega⟩
/-- what is known behind a reading that went well; the codes from a to b -/
noncomputable def PoS (σ τ : zS) (X : Txt) (n j a m d j' b : Nat) : Prop := (FrP σ τ ∧ SmB σ τ a) ∧ ((τ.1 17 14).toInt = (j' : Int) ∧ j' < n ∧ Tp9 X j < Tp9 X j') ∧ ((τ.1 17 15).toInt = (b : Int) ∧ b + Tp9 X j ≤ a + Tp9 X j') ∧ CD (KT9 X) (EmX X) (RC9 τ) m d (Tp9 X j) (Tp9 X j') a b
noncomputable def PoF (σ τ : zS) (a : Nat) : Prop := FrP σ τ ∧ SmB σ τ a
theorem PoS.rd {σ τ : zS} {X : Txt} {n j a m d j' b : Nat} (h : PoS σ τ X n j a m d j' b) (hr : RdT σ X n j) : RdT τ X n j' := h.1.1.rd hr h.2.1.1 h.2.1.2.1
theorem PoS.lt {σ τ : zS} {X : Txt} {n j a m d j' b : Nat} (h : PoS σ τ X n j a m d j' b) : a < b := h.2.2.2.lt
/-- one token further, from a state at j -/
theorem StP.rd {σ τ : zS} {X : Txt} {n j : Nat} (h : StP σ τ j) (hr : RdT σ X n j) (h2 : 2 ≤ rc9 X (Tp9 X j)) : RdT τ X n (j + 1) ∧ Tp9 X j < Tp9 X (j + 1) ∧ Tp9 X (j + 1) ≤ X.2 := by
  have hj := nt_lt hr.1.2.2 hr.2.2.2 h2
  exact ⟨h.1.rd hr (by rw [h.2.1]; omega) hj, tp_lt hr.1.2.2 hj, tp_le hr.1.2.2 hj⟩
theorem bit_one9 {v : Int32} (h : v = 0 ∨ v = 1) : v = 0 ∨ v = 1 := h
/-- the token goes by -/
theorem w_st {σ : zS} {X : Txt} {n j : Nat} (hr : RdT σ X n j) {P : zS → Prop} (k : ∀ τ, StP σ τ j → P τ) : (-2147483648 ≤ (σ.1 17 14).toInt + 1 ∧ (σ.1 17 14).toInt + 1 ≤ 2147483647) ∧ ∀ r : Int32, r.toInt = (σ.1 17 14).toInt + 1 → ∀ τ : zS, zI σ 17 14 r = τ → P τ := by
  have a := hr.2.2.1
  have b := hr.2.2.2
  have c := hr.2.1
  exact ⟨by omega, fun r h τ e => k τ (stp (by omega) e)⟩
/-- a feature -/
theorem w_readFeature {σ : zS} {X : Txt} {n j a U : Nat} {op : Int32} {Q : Int32 → zS → Prop} (hr : RdT σ X n j) (ha : (σ.1 17 15).toInt = (a : Int)) (hu : a + (X.2 - Tp9 X j) ≤ U) (hU : U ≤ 9600)
    (k1 : ∀ τ q, ftr (KT9 X) (Tp9 X j) = okR q → rc9 X (Tp9 X j) = 27 ∨ rc9 X (Tp9 X j) = 28 → q = Tp9 X (j + 3) → FrP σ τ → SmB σ τ a → (τ.1 17 14).toInt = (j : Int) + 3 → j + 3 < n → Tp9 X j + 3 ≤ Tp9 X (j + 3) → (τ.1 17 15).toInt = (a : Int) + 1 → τ.1 21 a = op → (τ.2 22 a).toInt = ftX X (Tp9 X j) → Q 1 τ)
    (k0 : ∀ τ f, ftr (KT9 X) (Tp9 X j) = bdR f → PoF σ τ a → Q 0 τ) : W_Po_readFeature op σ Q := by
  have go : ∀ x2 : Int32, (x2 = 1 ∧ rc9 X (Tp9 X j) = 27) ∨ (x2 = 0 ∧ rc9 X (Tp9 X j) = 28) → W_Po_readFeature_b27 op x2 σ Q := fun x2 hx => by
    have c8 : (KT9 X).c (Tp9 X j) = 8 := kc8.mpr (by omega)
    refine w_st hr (fun τ st => ?_)
    obtain ⟨hr1, l1, e1⟩ := st.rd hr (by omega)
    have t1 : nx9t X (Tp9 X j) = Tp9 X (j + 1) := rfl
    have f1 : ftr (KT9 X) (Tp9 X j) = if (KT9 X).c (Tp9 X (j + 1)) = 21 then (if (KT9 X).c (Tp9 X (j + 2)) = 22 then okR (Tp9 X (j + 3)) else bdR (Tp9 X (j + 2))) else bdR (Tp9 X (j + 1)) := by
      show (if (KT9 X).c (Tp9 X j) = 8 then _ else _) = _
      rw [if_pos c8]
      rfl
    refine w_isSign (c := 20) hr1 (fun c1 => ⟨fun z => absurd z (by decide), fun _ => ?_⟩) (fun c1 => ⟨fun _ => w_fail hr1 (fun τ' fa _ => ⟨Or.inl rfl, k0 τ' _ (by rw [f1, if_neg (fun z => absurd (kc21.mp z) (by omega))]) ⟨st.1.tr fa.1, st.sb.tr fa.sb (Nat.le_refl a)⟩⟩), fun z => absurd rfl z⟩)
    refine w_st hr1 (fun τ2 st2 => ?_)
    obtain ⟨hr2, l2, e2⟩ := st2.rd hr1 (by omega)
    have fr2 := st.1.tr st2.1
    have sb2 : SmB σ τ2 a := st.sb.tr st2.sb (Nat.le_refl a)
    refine w_oneLetter hr2 (fun v7 h7 => ?_)
    have hx7 : 0 ≤ v7.toInt ∧ v7.toInt ≤ 255 := by
      rw [h7]
      unfold olV
      split
      · rename_i q
        have te := te_lt (kd1_by q.1)
        exact (hr2.1.1.at (p := Tp9 X (j + 2)) (by show Tp9 X (j + 1 + 1) < X.2; omega)).2
      · decide
    refine w_indexOf (i := 13) (by decide) hx7 (fun v8 h8 => ?_)
    rw [h7] at h8
    rcases ix13 h8 with ⟨p0, p1, p2, p3⟩ | ⟨p0, p1⟩
    · have c22 : (KT9 X).c (Tp9 X (j + 2)) = 22 := kc22.mpr ⟨p1, p2⟩
      have c21 : (KT9 X).c (Tp9 X (j + 1)) = 21 := kc21.mpr c1
      refine ⟨fun _ => ?_, fun z => absurd p0 z⟩
      refine w_st hr2 (fun τ3 st3 => ?_)
      obtain ⟨hr3, l3, e3⟩ := st3.rd hr2 (by omega)
      have fr3 := fr2.tr st3.1
      have sb3 : SmB σ τ3 a := sb2.tr st3.sb (Nat.le_refl a)
      have ha3 : (τ3.1 17 15).toInt = (a : Int) := by rw [st3.2.2.1, st2.2.2.1, st.2.2.1]; exact ha
      have hj3 : j + 3 < n := hr3.2.2.2
      have fin : ∀ r : Int64, r.toInt = ftX X (Tp9 X j) → W_Po_emit op r τ3 (fun _ s => Q 1 s) := fun r hrv => by
        refine w_emit ha3 (by omega) (fun τ4 em => ?_)
        refine k1 τ4 (Tp9 X (j + 3)) (by rw [f1, if_pos c21, if_pos c22]) (by omega) rfl (fr3.tr em.1) (sb3.tr em.2.2.2.1 (Nat.le_refl a)) (by rw [em.2.1, st3.2.1]; omega) hj3 ?_ em.2.2.1 em.2.2.2.2.1 (by rw [em.2.2.2.2.2]; exact hrv)
        show Tp9 X j + 3 ≤ Tp9 X (j + 1 + 1 + 1)
        omega
      have et : nx9t X (nx9t X (Tp9 X j)) = Tp9 X (j + 2) := rfl
      have eft : ftX X (Tp9 X j) = v8.toInt + (if rc9 X (Tp9 X j) = 28 then 8 else 0) := by unfold ftX; rw [et, p3]
      rcases hx with ⟨rfl, h27⟩ | ⟨rfl, h28⟩
      · rw [if_neg (by omega)] at eft
        exact ⟨fun z => absurd z (by decide), fun _ r hrv => fin r (by omega)⟩
      · rw [if_pos h28] at eft
        exact ⟨fun _ => ⟨by omega, fun r13 h13 r14 h14 => fin r14 (by omega)⟩, fun z => absurd rfl z⟩
    · refine ⟨fun z => absurd z (by omega), fun _ => w_fail hr2 (fun τ' fa _ => ⟨Or.inl rfl, k0 τ' (Tp9 X (j + 2)) (by rw [f1, if_pos (kc21.mpr c1), if_neg (fun z => p1 (kc22.mp z))]) ⟨fr2.tr fa.1, sb2.tr fa.sb (Nat.le_refl a)⟩⟩)⟩
  unfold W_Po_readFeature
  refine w_isWord (i := 11) hr (fun c1 => ⟨fun z => absurd z (by decide), fun _ => go 1 (Or.inl ⟨rfl, c1⟩)⟩) (fun c1 => ⟨fun _ => ?_, fun z => absurd rfl z⟩)
  refine w_isWord (i := 12) hr (fun c2 => ⟨fun z => absurd z (by decide), fun _ => go 0 (Or.inr ⟨rfl, c2⟩)⟩) (fun c2 => ⟨fun _ => w_fail hr (fun τ' fa _ => ⟨Or.inl rfl, k0 τ' (Tp9 X j) ?_ ⟨fa.1, fa.sb⟩⟩), fun z => absurd rfl z⟩)
  show (if (KT9 X).c (Tp9 X j) = 8 then _ else _) = _
  have c1 : rc9 X (Tp9 X j) ≠ 27 := c1
  have c2 : rc9 X (Tp9 X j) ≠ 28 := c2
  rw [if_neg (fun z => absurd (kc8.mp z) (by omega))]
theorem w_passes {σ : zS} {X : Txt} {n j c : Nat} {x : Int32} {Q : Int32 → zS → Prop} (hr : RdT σ X n j) (k1 : ∀ τ, StP σ τ j → rc9 X (Tp9 X j) = c → Q 1 τ) (k0 : ∀ τ, FaR σ τ → rc9 X (Tp9 X j) ≠ c → Q 0 τ) (hc : (decide (4 ≤ c) && decide (c ≤ 20) && (SGR.all fun e => !(Nat.beq e.2 c) || decide (e.1 = x.toInt)) && Nat.beq (lkd 0 SGR x.toInt) c) = true := by decide) : W_Po_passes x σ Q := by
  unfold W_Po_passes
  exact w_isSign (c := c) hr (fun c1 => ⟨fun z => absurd z (by decide), fun _ => w_st hr (fun τ st => k1 τ st c1)⟩) (fun c1 => ⟨fun _ => w_fail hr (fun τ' fa _ => ⟨Or.inl rfl, k0 τ' fa c1⟩), fun z => absurd rfl z⟩) hc
/-- which reading a method is: its codes' mode, its own claim -/
noncomputable def cmR (m : Nat) : Nat := [0, 0, 0, 7, 1, 6, 5, 5, 9, 3].getD m 0
noncomputable def rmRL (m : Nat) : Nat := [0, 0, 0, 1, 1, 6, 5, 5, 3, 3].getD m 0
noncomputable def PrR (X : Txt) (m p : Nat) : Prop := (m = 1 → rc9 X p = 9 ∨ rc9 X p = 4) ∧ (m = 2 → ¬ (rc9 X p = 9 ∨ rc9 X p = 4 ∨ rc9 X p = 2 ∨ rc9 X p = 3 ∨ rc9 X p = 24 ∨ rc9 X p = 25 ∨ rc9 X p = 26)) ∧ (m = 6 → rc9 X p = 4)
noncomputable def RdOk (X : Txt) (m d p q : Nat) : Prop := match m with
  | 3 => (∀ r, Rd (KT9 X) 2 d q r → Rd (KT9 X) 1 d p r) ∧ (KT9 X).c q ≠ 13
  | 4 => Rd (KT9 X) 1 d p (Int.ofNat q) ∧ ¬ isOp ((KT9 X).c q)
  | 8 => (∀ r, Rd (KT9 X) 4 d q r → Rd (KT9 X) 3 d p r) ∧ (KT9 X).c q ≠ 16
  | 9 => Rd (KT9 X) 3 d p (Int.ofNat q) ∧ ¬ ((KT9 X).c q = 16 ∨ (KT9 X).c q = 17)
  | m => Rd (KT9 X) (rmRL m) d p (Int.ofNat q)
noncomputable def RdNo (X : Txt) (m d p : Nat) : Prop := ∃ f, Rd (KT9 X) (rmRL m) d p (Int.negSucc f)
noncomputable def RgW (X : Txt) (n U : Nat) (W : Int32 → zS → (Int32 → zS → Prop) → Prop) (m d : Nat) : Prop := ∀ (dd : Int32) (σ : zS) (j a : Nat) (Q : Int32 → zS → Prop), dd.toInt = (d : Int) → RdT σ X n j → (σ.1 17 15).toInt = (a : Int) → a + (X.2 - Tp9 X j) ≤ U → PrR X m (Tp9 X j) → (∀ τ j' b, PoS σ τ X n j a (cmR m) d j' b → RdOk X m d (Tp9 X j) (Tp9 X j') → Q 1 τ) → (∀ τ, PoF σ τ a → RdNo X m d (Tp9 X j) → Q 0 τ) → W dd σ Q
theorem pr_no {X : Txt} {m p : Nat} (h : (decide (m ≠ 1) && decide (m ≠ 2) && decide (m ≠ 6)) = true := by decide) : PrR X m p := by
  simp only [Bool.and_eq_true, decide_eq_true_eq] at h
  exact ⟨fun q => absurd q h.1.1, fun q => absurd q h.1.2, fun q => absurd q h.2⟩
section ring
variable {X : Txt} {n U d : Nat} {G : Nat → Int32 → zS → (Int32 → zS → Prop) → Prop}
/-- one op by one token -/
theorem po_one {σ τ τ' : zS} {j a m : Nat} (hr : RdT σ X n j) (h2 : 2 ≤ rc9 X (Tp9 X j)) {op : Int32} {v : Int64} (em : EmR σ τ a op v) (st : StP τ τ' j) (hcd : RC9 τ' a = (op.toInt.toNat, v.toInt) → CD (KT9 X) (EmX X) (RC9 τ') m d (Tp9 X j) (Tp9 X (j + 1)) a (a + 1)) : PoS σ τ' X n j a m d (j + 1) (a + 1) := by
  have hj := nt_lt hr.1.2.2 hr.2.2.2 h2
  have hlt := tp_lt hr.1.2.2 hj
  refine ⟨⟨em.1.tr st.1, em.2.2.2.1.tr (st.sb (a := a)) (Nat.le_refl a)⟩, ⟨by rw [st.2.1]; omega, hj, hlt⟩, ⟨by rw [st.2.2.1, em.2.2.1]; omega, by omega⟩, hcd ?_⟩
  show ((τ'.1 21 a).toInt.toNat, (τ'.2 22 a).toInt) = _
  rw [st.2.2.2.1 a, st.2.2.2.2, em.2.2.2.2.1, em.2.2.2.2.2]
end ring
/-! ===== the class's readers, one by one ===== -/
section ring7
variable {X : Txt} {n U d : Nat} {G : Nat → Int32 → zS → (Int32 → zS → Prop) → Prop}
/-- a feature behind what was read -/
theorem po_ft {σ σ1 τ : zS} {j j1 a m : Nat} {op : Int32} (h0 : FrP σ σ1) (hs : SmB σ σ1 a) (hl : Tp9 X j ≤ Tp9 X j1) (fr : FrP σ1 τ) (sb : SmB σ1 τ a) (e14 : (τ.1 17 14).toInt = (j1 : Int) + 3) (hj : j1 + 3 < n) (h3 : Tp9 X j1 + 3 ≤ Tp9 X (j1 + 3)) (e15 : (τ.1 17 15).toInt = (a : Int) + 1) (eo : τ.1 21 a = op) (ev : (τ.2 22 a).toInt = ftX X (Tp9 X j1)) (hcd : RC9 τ a = (op.toInt.toNat, ftX X (Tp9 X j1)) → CD (KT9 X) (EmX X) (RC9 τ) m d (Tp9 X j) (Tp9 X (j1 + 3)) a (a + 1)) : PoS σ τ X n j a m d (j1 + 3) (a + 1) := by
  refine ⟨⟨h0.tr fr, hs.tr sb (Nat.le_refl a)⟩, ⟨by omega, hj, by omega⟩, ⟨by omega, by omega⟩, hcd ?_⟩
  show ((τ.1 21 a).toInt.toNat, (τ.2 22 a).toInt) = _
  rw [eo, ev]
theorem em_2 {p : Nat} (h : rc9 X p = 2) : (EmX X).em p = (0, dgV X p (fe9 X p - p) 0) := if_pos h
theorem em_3 {p : Nat} (h : rc9 X p = 3) : (EmX X).em p = (1, rlV X p) := by
  show (if rc9 X p = 2 then _ else if rc9 X p = 3 then _ else _) = _
  rw [if_neg (by omega), if_pos h]
theorem em_c {p : Nat} (h : 4 ≤ rc9 X p) : (EmX X).em p = emN (rc9 X p) := by
  show (if rc9 X p = 2 then _ else if rc9 X p = 3 then _ else _) = _
  rw [if_neg (by omega), if_neg (by omega)]
theorem r_term (hU : U ≤ 9600) (hG1 : RgW X n U (G 1) 1 d) (hG2 : RgW X n U (G 2) 2 d) : RgW X n U (W_Po_readTerm G) 0 d := by
  intro dd σ j a Q hd hr ha hu _ k1 k0
  have rk := rc_kd (X := X) (p := Tp9 X j)
  have kd := hr.kd
  have hj := hr.2.2.2
  have hn := hr.2.1
  have ne : (rc9 X (Tp9 X j) = 9 ∨ rc9 X (Tp9 X j) = 4) → G 1 dd σ (fun v s => (v = 0 ∨ v = 1) ∧ Q v s) := fun q => hG1 dd σ j a _ hd hr ha hu ⟨fun _ => q, fun z => absurd z (by decide), fun z => absurd z (by decide)⟩ (fun τ j' b po ok => ⟨Or.inr rfl, k1 τ j' b po ok⟩) (fun τ po no => ⟨Or.inl rfl, k0 τ po no⟩)
  -- one token, one op
  have one : ∀ (op : Int32) (v : Int64), (km9 (rc9 X (Tp9 X j)) = 5 ∨ km9 (rc9 X (Tp9 X j)) = 6) → (EmX X).em (Tp9 X j) = (op.toInt.toNat, v.toInt) → op.toInt.toNat < 4 → W_Po_emit op v σ (fun _ s => (-2147483648 ≤ (s.1 17 14).toInt + 1 ∧ (s.1 17 14).toInt + 1 ≤ 2147483647) ∧ ∀ r3 : Int32, r3.toInt = (s.1 17 14).toInt + 1 → ∀ s4 : zS, zI s 17 14 r3 = s4 → Q 1 s4) := fun op v c56 hem hlt => by
    have h2 : 2 ≤ rc9 X (Tp9 X j) := by
      rcases c56 with z | z
      · have := kc5.mp z; omega
      · have := kc6.mp z; omega
    have hX := rc_lt h2
    refine w_emit ha (by omega) (fun τ em => ?_)
    have hr1 : RdT τ X n j := em.1.rd hr (by rw [em.2.1]; exact hr.2.2.1) hj
    refine w_st hr1 (fun τ' st => k1 τ' (j + 1) (a + 1) (po_one hr h2 em st (fun e => CD.s (f := 0) ?_)) ?_)
    · exact Or.inr (Or.inr (Or.inl ⟨c56, rfl, by rw [e, hem], by rw [hem]; exact hlt, rfl⟩))
    · exact Rd.t_num c56
  have nu : (kd9 X (Tp9 X j) = 2 ∨ kd9 X (Tp9 X j) = 3) → W_Po_readTerm_b50 G σ Q := fun q => by
    refine ⟨j, hr.2.2.1, by omega, fun e2 => ⟨j, hr.2.2.1, by omega, ?_⟩, fun e2 => ⟨j, hr.2.2.1, by omega, ?_⟩⟩
    · have k2 : kd9 X (Tp9 X j) = 2 := by omega
      have r2 := rk.2.2.1 k2
      exact one 0 _ (Or.inl (kc5.mpr (Or.inl r2))) (by rw [em_2 r2, hr.vl.2.1 k2]; rfl) (by decide)
    · have k3 : kd9 X (Tp9 X j) = 3 := by omega
      have r3 := rk.2.2.2.1 k3
      refine one 1 _ (Or.inl (kc5.mpr (Or.inr r3))) ?_ (by decide)
      rw [em_3 r3]
      have := hr.vl.2.2.1 k3
      show (1, rlV X (Tp9 X j)) = ((1 : Int32).toInt.toNat, (σ.2 26 j).toInt)
      unfold rlV
      rw [one_eq (fun _ _ => rl_one) this]
      rfl
  have nw : (rc9 X (Tp9 X j) = 24 ∨ rc9 X (Tp9 X j) = 25) → W_Po_readTerm_b112 G σ Q := fun q => by
    refine w_isWord (i := 14) hr (fun c => ⟨fun z => absurd z (by decide), fun _ => ?_⟩) (fun c => ⟨fun _ => ?_, fun z => absurd rfl z⟩)
    · have c : rc9 X (Tp9 X j) = 24 := c
      exact one 2 0 (Or.inr (kc6.mpr (Or.inl c))) (by rw [em_c (by omega), c]; rfl) (by decide)
    · have c : rc9 X (Tp9 X j) ≠ 24 := c
      have c' : rc9 X (Tp9 X j) = 25 := by omega
      exact one 3 0 (Or.inr (kc6.mpr (Or.inr c'))) (by rw [em_c (by omega), c']; rfl) (by decide)
  unfold W_Po_readTerm
  refine w_isSign (c := 9) hr (fun c1 => ⟨fun z => absurd z (by decide), fun _ => ne (Or.inl c1)⟩) (fun c1 => ⟨fun _ => ?_, fun z => absurd rfl z⟩)
  refine w_isSign (c := 4) hr (fun c2 => ⟨fun z => absurd z (by decide), fun _ => ne (Or.inr c2)⟩) (fun c2 => ⟨fun _ => ?_, fun z => absurd rfl z⟩)
  refine ⟨j, hr.2.2.1, by omega, fun e2 => nu (by omega), fun e2 => ⟨fun e3 => nu (by omega), fun e3 => ?_⟩⟩
  refine w_isWord (i := 14) hr (fun c3 => ⟨fun z => absurd z (by decide), fun _ => nw (Or.inl c3)⟩) (fun c3 => ⟨fun _ => ?_, fun z => absurd rfl z⟩)
  refine w_isWord (i := 15) hr (fun c4 => ⟨fun z => absurd z (by decide), fun _ => nw (Or.inr c4)⟩) (fun c4 => ⟨fun _ => ?_, fun z => absurd rfl z⟩)
  have n2 : rc9 X (Tp9 X j) ≠ 2 := fun q => by
    have := kd9_le (X := X) (p := Tp9 X j)
    rcases (by omega : kd9 X (Tp9 X j) = 0 ∨ kd9 X (Tp9 X j) = 1 ∨ kd9 X (Tp9 X j) = 4 ∨ kd9 X (Tp9 X j) = 5) with e | e | e | e
    · have := rk.1 e; omega
    · have := rk.2.1 e; omega
    · have := rk.2.2.2.2.1 e; omega
    · have := rk.2.2.2.2.2 e; omega
  have n3 : rc9 X (Tp9 X j) ≠ 3 := fun q => by
    have := kd9_le (X := X) (p := Tp9 X j)
    rcases (by omega : kd9 X (Tp9 X j) = 0 ∨ kd9 X (Tp9 X j) = 1 ∨ kd9 X (Tp9 X j) = 4 ∨ kd9 X (Tp9 X j) = 5) with e | e | e | e
    · have := rk.1 e; omega
    · have := rk.2.1 e; omega
    · have := rk.2.2.2.2.1 e; omega
    · have := rk.2.2.2.2.2 e; omega
  have c3 : rc9 X (Tp9 X j) ≠ 24 := c3
  have c4 : rc9 X (Tp9 X j) ≠ 25 := c4
  refine w_isWord (i := 16) hr (fun c5 => ⟨fun z => absurd z (by decide), fun _ => ?_⟩) (fun c5 => ⟨fun _ => ?_, fun z => absurd rfl z⟩)
  · have c5 : rc9 X (Tp9 X j) = 26 := c5
    have c7 : km9 (rc9 X (Tp9 X j)) = 7 := kc7.mpr (by omega)
    refine w_st hr (fun τ st => ?_)
    obtain ⟨hr1, l1, e1⟩ := st.rd hr (by omega)
    refine w_readFeature (a := a) hr1 (by rw [st.2.2.1]; exact ha) (U := U) (by omega) hU (fun τ' q f1 _ hq fr sb e14 hj3 h3 e15 eo ev => ?_) (fun τ' f f1 po => ?_)
    · subst hq
      refine ⟨Or.inr rfl, k1 τ' (j + 1 + 3) (a + 1) (po_ft st.1 st.sb (by omega) fr sb (by omega) hj3 h3 e15 eo ev (fun e => CD.s (f := 0) ?_)) ?_⟩
      · exact Or.inr (Or.inr (Or.inr (Or.inl ⟨c7, f1, e, rfl⟩)))
      · exact Rd.t_size c7 f1
    · exact ⟨Or.inl rfl, k0 τ' ⟨st.1.tr po.1, (st.sb (a := a)).tr po.2 (Nat.le_refl a)⟩ ⟨f, Rd.t_size c7 f1⟩⟩
  · have c5 : rc9 X (Tp9 X j) ≠ 26 := c5
    exact hG2 dd σ j a _ hd hr ha hu ⟨fun z => absurd z (by decide), fun _ => by omega, fun z => absurd z (by decide)⟩ (fun τ j' b po ok => ⟨Or.inr rfl, k1 τ j' b po ok⟩) (fun τ po no => ⟨Or.inl rfl, k0 τ po no⟩)
theorem sgR_no {K : Tkn} {k q : Nat} (h : K.c q ≠ k) : sgR K k (Int.ofNat q) = Int.negSucc q := by
  show (if K.c q = k then _ else _) = _
  exact if_neg h
theorem sgR_yes {K : Tkn} {k q : Nat} (h : K.c q = k) : sgR K k (Int.ofNat q) = Int.ofNat (K.n q) := by
  show (if K.c q = k then _ else _) = _
  exact if_pos h
/-- a minus sign or a parenthesis -/
theorem r_nested (hU : U ≤ 9600) (hG : d < 20 → RgW X n U (G 0) 0 (d + 1) ∧ RgW X n U (G 4) 4 (d + 1)) : RgW X n U (W_Po_readNested G) 1 d := by
  intro dd σ j a Q hd hr ha hu pr k1 k0
  have pr := pr.1 rfl
  have h2 : 2 ≤ rc9 X (Tp9 X j) := by omega
  unfold W_Po_readNested
  refine ⟨fun q => ?_, fun q => w_fail hr (fun τ fa _ => ⟨Or.inl rfl, k0 τ ⟨fa.1, fa.sb⟩ ⟨_, Rd.t_deep (pr.elim (fun q => Or.inl (kc4.mpr q)) (fun q => Or.inr (kc3.mpr q))) (by omega)⟩⟩)⟩
  obtain ⟨g0, g4⟩ := hG (by omega)
  refine w_isSign (c := 9) hr (fun c1 => w_st hr (fun τ st => ⟨fun z => absurd z (by decide), fun _ => ?_⟩)) (fun c1 => w_st hr (fun τ st => ⟨fun _ => ?_, fun z => absurd rfl z⟩))
  · obtain ⟨hr1, l1, e1⟩ := st.rd hr h2
    have c4 : km9 (rc9 X (Tp9 X j)) = 4 := kc4.mpr (by omega)
    refine ⟨by omega, fun r6 h6 => g0 r6 τ (j + 1) a _ (by omega) hr1 (by rw [st.2.2.1]; exact ha) (by omega) pr_no (fun τ2 j' b po ok => ⟨fun z => absurd z (by decide), fun _ => ?_⟩) (fun τ2 po no => ⟨fun _ => k0 τ2 ⟨st.1.tr po.1, (st.sb (a := a)).tr po.2 (Nat.le_refl a)⟩ ?_, fun z => absurd rfl z⟩)⟩
    · have hlt := po.lt
      have ple := tp_le hr.1.2.2 po.2.1.2.1
      refine w_emit po.2.2.1.1 (by have := po.2.2.1.2; omega) (fun τ3 em => k1 τ3 j' (b + 1) ⟨⟨(st.1.tr po.1.1).tr em.1, ((st.sb (a := a)).tr po.1.2 (Nat.le_refl a)).tr em.2.2.2.1 (by omega)⟩, ⟨by rw [em.2.1]; exact po.2.1.1, po.2.1.2.1, by have := po.2.1.2.2; omega⟩, ⟨by rw [em.2.2.1]; omega, by have := po.2.2.1.2; omega⟩, ?_⟩ (Rd.t_neg c4 (by omega) ok))
      obtain ⟨f, cd⟩ := (po.2.2.2).cg (R' := RC9 τ3) (fun i _ hi => em.2.2.2.1.rc hi)
      refine CD.s (f := f) (Or.inl ⟨c4, by omega, b, cd, ?_, rfl⟩)
      show (τ3.1 21 b).toInt.toNat = 7
      rw [em.2.2.2.2.1]; rfl
    · obtain ⟨f, no⟩ := no
      exact ⟨f, Rd.t_neg c4 (by omega) no⟩
  · obtain ⟨hr1, l1, e1⟩ := st.rd hr h2
    have c3 : km9 (rc9 X (Tp9 X j)) = 3 := kc3.mpr (by omega)
    refine ⟨by omega, fun r6 h6 => g4 r6 τ (j + 1) a _ (by omega) hr1 (by rw [st.2.2.1]; exact ha) (by omega) pr_no (fun τ2 j' b po ok => ⟨fun z => absurd z (by decide), fun _ => ?_⟩) (fun τ2 po no => ⟨fun _ => k0 τ2 ⟨st.1.tr po.1, (st.sb (a := a)).tr po.2 (Nat.le_refl a)⟩ ?_, fun z => absurd rfl z⟩)⟩
    · have hr2 := po.rd hr1
      have hlt := po.lt
      have ok : Rd (KT9 X) 1 (d + 1) (Tp9 X (j + 1)) (Int.ofNat (Tp9 X j')) ∧ _ := ok
      refine w_passes (c := 5) hr2 (fun τ3 st3 c5 => ⟨fun z => absurd z (by decide), fun _ => ?_⟩) (fun τ3 fa c5 => ⟨fun _ => ?_, fun z => absurd rfl z⟩)
      · obtain ⟨hr3, l3, e3⟩ := st3.rd hr2 (by omega)
        refine k1 τ3 (j' + 1) b ⟨⟨(st.1.tr po.1.1).tr st3.1, ((st.sb (a := a)).tr po.1.2 (Nat.le_refl a)).tr (st3.sb (a := a)) (Nat.le_refl a)⟩, ⟨by rw [st3.2.1]; omega, hr3.2.2.2, by have := po.2.1.2.2; omega⟩, ⟨by rw [st3.2.2.1]; exact po.2.2.1.1, by have := po.2.2.1.2; omega⟩, ?_⟩ ?_
        · obtain ⟨f, cd⟩ := (po.2.2.2).cg (R' := RC9 τ3) (fun i _ hi => (st3.sb (a := b)).rc hi)
          exact CD.s (f := f) (Or.inr (Or.inl ⟨c3, by omega, Tp9 X j', cd, kc11.mpr (by omega), rfl⟩))
        · have := Rd.t_par c3 (by omega) ok.1
          rw [sgR_yes (kc11.mpr (by omega))] at this
          exact this
      · refine k0 τ3 ⟨(st.1.tr po.1.1).tr fa.1, ((st.sb (a := a)).tr po.1.2 (Nat.le_refl a)).tr (fa.sb (a := a)) (Nat.le_refl a)⟩ ⟨Tp9 X j', ?_⟩
        have := Rd.t_par c3 (by omega) ok.1
        rw [sgR_no (fun z => absurd (kc11.mp z) (by omega))] at this
        exact this
    · obtain ⟨f, no⟩ := no
      exact ⟨f, Rd.t_par c3 (by omega) no⟩
/-- an item, or the place of one -/
theorem r_item (hU : U ≤ 9600) (hG : d < 20 → RgW X n U (G 4) 4 (d + 1)) : RgW X n U (W_Po_readItem G) 2 d := by
  intro dd σ j a Q hd hr ha hu pr k1 k0
  have pr := pr.2.1 rfl
  have cne : (KT9 X).c (Tp9 X j) ≠ 3 ∧ (KT9 X).c (Tp9 X j) ≠ 4 ∧ (KT9 X).c (Tp9 X j) ≠ 5 ∧ (KT9 X).c (Tp9 X j) ≠ 6 ∧ (KT9 X).c (Tp9 X j) ≠ 7 := by
    exact ⟨fun z => absurd (kc3.mp z) (by omega), fun z => absurd (kc4.mp z) (by omega), fun z => absurd (kc5.mp z) (by omega), fun z => absurd (kc6.mp z) (by omega), fun z => absurd (kc7.mp z) (by omega)⟩
  unfold W_Po_readItem
  refine w_readFeature (a := a) hr ha hu hU (fun τ q f1 c27 hq fr sb e14 hj3 h3 e15 eo ev => ⟨fun z => absurd z (by decide), fun _ => ?_⟩) (fun τ f f1 po => ⟨fun _ => k0 τ po ⟨f, Rd.t_fbad cne f1⟩, fun z => absurd rfl z⟩)
  subst hq
  have c8 : (KT9 X).c (Tp9 X j) = 8 := kc8.mpr (by omega)
  have hr1 : RdT τ X n (j + 3) := fr.rd hr (by omega) hj3
  refine w_isSign (c := 6) hr1 (fun c1 => ⟨fun z => absurd z (by decide), fun _ => ?_⟩) (fun c1 => ⟨fun _ => ?_, fun z => absurd rfl z⟩)
  · have c9 : (KT9 X).c (Tp9 X (j + 3)) = 9 := kc9.mpr (by omega)
    refine ⟨fun q20 => ?_, fun q20 => w_fail hr1 (fun τ2 fa _ => ⟨Or.inl rfl, k0 τ2 ⟨fr.tr fa.1, sb.tr (fa.sb (a := a)) (Nat.le_refl a)⟩ ⟨_, Rd.t_itemD cne f1 c9 (by omega)⟩⟩)⟩
    have g4 := hG (by omega)
    refine ⟨a, ha, by have := rc_lt (X := X) (p := Tp9 X j) (by omega); omega, fun τ2 e2 => ?_⟩
    -- the codes' end is put back
    have fr2 : FrP τ τ2 := ⟨fun k i q1 q2 => by rw [← e2, yI_ne (by omega)], fun k i _ => by rw [← e2, yI_l], fun q => by unfold rgF at q ⊢; rw [← e2, yI_ne (by omega)]; exact q⟩
    have sb2 : SmB τ τ2 a := fun i _ => ⟨by rw [← e2, yI_ne (by omega)], by rw [← e2, yI_l]⟩
    have hr2 : RdT τ2 X n (j + 3) := fr2.rd hr1 (by rw [← e2, yI_ne (by omega)]; omega) hj3
    have ha2 : (τ2.1 17 15).toInt = (a : Int) := by rw [← e2, yI_at]; exact ha
    refine w_st hr2 (fun τ3 st3 => ⟨by omega, fun r10 h10 => ?_⟩)
    obtain ⟨hr3, l3, le3⟩ := st3.rd hr2 (by omega)
    have fr3 : FrP σ τ3 := (fr.tr fr2).tr st3.1
    have sb3 : SmB σ τ3 a := (sb.tr sb2 (Nat.le_refl a)).tr (st3.sb (a := a)) (Nat.le_refl a)
    refine g4 r10 τ3 (j + 3 + 1) a _ (by omega) hr3 (by rw [st3.2.2.1]; exact ha2) (by omega) pr_no (fun τ4 j' b po ok => ⟨fun z => absurd z (by decide), fun _ => ?_⟩) (fun τ4 po no => ⟨fun _ => k0 τ4 ⟨fr3.tr po.1, sb3.tr po.2 (Nat.le_refl a)⟩ ?_, fun z => absurd rfl z⟩)
    · have ok : Rd (KT9 X) 1 (d + 1) (Tp9 X (j + 3 + 1)) (Int.ofNat (Tp9 X j')) ∧ _ := ok
      have hr4 := po.rd hr3
      have hlt := po.lt
      have rdi : ∀ x, sgR (KT9 X) 10 (Int.ofNat (Tp9 X j')) = x → Rd (KT9 X) 0 d (Tp9 X j) x := fun x hx => by rw [← hx]; exact Rd.t_item cne f1 c9 (by omega) ok.1
      refine w_passes (c := 7) hr4 (fun τ5 st5 c7 => ⟨fun z => absurd z (by decide), fun _ => ?_⟩) (fun τ5 fa c7 => ⟨fun _ => ?_, fun z => absurd rfl z⟩)
      · obtain ⟨hr5, l5, e5⟩ := st5.rd hr4 (by omega)
        have e15' : (τ5.1 17 15).toInt = (b : Int) := by rw [st5.2.2.1]; exact po.2.2.1.1
        have bd := po.2.2.1.2
        have pl := po.2.1.2.2
        refine w_emit e15' (by omega) (fun τ6 em => k1 τ6 (j' + 1) (b + 1) ⟨⟨((fr3.tr po.1.1).tr st5.1).tr em.1, ((sb3.tr po.1.2 (Nat.le_refl a)).tr (st5.sb (a := a)) (Nat.le_refl a)).tr em.2.2.2.1 (by omega)⟩, ⟨by rw [em.2.1, st5.2.1]; omega, hr5.2.2.2, by omega⟩, ⟨by rw [em.2.2.1]; omega, by omega⟩, ?_⟩ ?_)
        · have cd := ((po.2.2.2).cg (R' := RC9 τ5) (fun i _ hi => (st5.sb (a := b)).rc hi)).cg (R' := RC9 τ6) (fun i _ hi => em.2.2.2.1.rc hi)
          obtain ⟨f, cd⟩ := cd
          refine CD.s (f := f) (Or.inr (Or.inr (Or.inr (Or.inr (Or.inr ⟨c8, by omega, Tp9 X (j + 3), Tp9 X j', b, f1, c9, cd, kc10.mpr (by omega), rfl, ?_, rfl⟩)))))
          show ((τ6.1 21 b).toInt.toNat, (τ6.2 22 b).toInt) = _
          rw [em.2.2.2.2.1, em.2.2.2.2.2, ev]; rfl
        · exact rdi _ (sgR_yes (kc10.mpr (by omega)))
      · exact k0 τ5 ⟨(fr3.tr po.1.1).tr fa.1, (sb3.tr po.1.2 (Nat.le_refl a)).tr (fa.sb (a := a)) (Nat.le_refl a)⟩ ⟨_, rdi _ (sgR_no (fun z => absurd (kc10.mp z) (by omega)))⟩
    · obtain ⟨f, no⟩ := no
      exact ⟨f, Rd.t_item cne f1 c9 (by omega) no⟩
  · have c9 : (KT9 X).c (Tp9 X (j + 3)) ≠ 9 := fun z => absurd (kc9.mp z) (by omega)
    refine k1 τ (j + 3) (a + 1) (po_ft FrP.rf SmB.rf (Nat.le_refl _) fr sb e14 hj3 h3 e15 eo ev (fun e => CD.s (f := 0) ?_)) (Rd.t_feat cne f1 c9)
    exact Or.inr (Or.inr (Or.inr (Or.inr (Or.inl ⟨c8, f1, c9, e, rfl⟩))))
end ring7
/-! ===== products, sums, comparisons, conditions ===== -/
section ring8
variable {X : Txt} {n U d : Nat} {G : Nat → Int32 → zS → (Int32 → zS → Prop) → Prop}
/-- what was read, a token, something more, an op -/
theorem po_bin {σ τ τ1 τ2 τ3 : zS} {j a m j1 b m2 d2 j2 e m3 : Nat} {op : Int32} {v : Int64} (hr : RdT σ X n j) (po : PoS σ τ X n j a m d j1 b) (st : StP τ τ1 j1) (h2 : 2 ≤ rc9 X (Tp9 X j1)) (po2 : PoS τ1 τ2 X n (j1 + 1) b m2 d2 j2 e) (em : EmR τ2 τ3 e op v) (hcd : CD (KT9 X) (EmX X) (RC9 τ3) m d (Tp9 X j) (Tp9 X j1) a b → CD (KT9 X) (EmX X) (RC9 τ3) m2 d2 (Tp9 X (j1 + 1)) (Tp9 X j2) b e → (RC9 τ3 e).1 = op.toInt.toNat → CD (KT9 X) (EmX X) (RC9 τ3) m3 d (Tp9 X j) (Tp9 X j2) a (e + 1)) : PoS σ τ3 X n j a m3 d j2 (e + 1) := by
  obtain ⟨hr1, l1, e1⟩ := st.rd (po.rd hr) h2
  have q1 := po.2.2.1.2
  have q2 := po2.2.2.1.2
  have q3 := po.2.1.2.2
  have q4 := po2.2.1.2.2
  have lt1 := po.lt
  have lt2 := po2.lt
  refine ⟨⟨((po.1.1.tr st.1).tr po2.1.1).tr em.1, (((po.1.2).tr (st.sb (a := a)) (Nat.le_refl a)).tr po2.1.2 (by omega)).tr em.2.2.2.1 (by omega)⟩, ⟨by rw [em.2.1]; exact po2.2.1.1, po2.2.1.2.1, by omega⟩, ⟨by rw [em.2.2.1]; omega, by omega⟩, ?_⟩
  refine hcd ?_ ?_ ?_
  · exact (((po.2.2.2).cg (R' := RC9 τ1) (fun i _ hi => (st.sb (a := b)).rc hi)).cg (R' := RC9 τ2) (fun i _ hi => po2.1.2.rc hi)).cg (R' := RC9 τ3) (fun i _ hi => em.2.2.2.1.rc (by omega))
  · exact (po2.2.2.2).cg (R' := RC9 τ3) (fun i _ hi => em.2.2.2.1.rc hi)
  · show (τ3.1 21 e).toInt.toNat = _
    rw [em.2.2.2.2.1]
theorem wl_product {σ : zS} {Q : Int32 → zS → Prop} {j a : Nat} {dd : Int32} (hU : U ≤ 9600) (hG : RgW X n U (G 0) 0 d) (hd : dd.toInt = (d : Int)) (hr : RdT σ X n j) (hu : a + (X.2 - Tp9 X j) ≤ U) (k1 : ∀ τ j' b, PoS σ τ X n j a 7 d j' b → RdOk X 3 d (Tp9 X j) (Tp9 X j') → Q 1 τ) (k0 : ∀ τ, PoF σ τ a → RdNo X 3 d (Tp9 X j) → Q 0 τ) : ∀ (N : Nat) (x2 : Int32) (τ : zS) (j1 b c : Nat), x2.toInt = (c : Int) → PoS σ τ X n j a 7 d j1 b → (∀ r, Rd (KT9 X) 2 d (Tp9 X j1) r → Rd (KT9 X) 1 d (Tp9 X j) r) → c + 1 ≤ Tp9 X j1 - Tp9 X j → 1200 - c + 5 ≤ N → (WL_Po_readProduct G N) dd x2 τ Q
  | 0, _, _, _, _, _, _, _, _, _, h => absurd h (by omega)
  | N + 1, x2, τ, j1, b, c, hx, po, hrd, hc, hN => by
    have ih := wl_product hU hG hd hr hu k1 k0 N
    have hr1 := po.rd hr
    have hX := hr.1.1.1.2
    have ple := tp_le hr.1.2.2 po.2.1.2.1
    -- the op goes by, a term follows
    have go : ∀ y0 : Int32, (10 ≤ rc9 X (Tp9 X j1) ∧ rc9 X (Tp9 X j1) ≤ 12) → y0.toInt = ((rc9 X (Tp9 X j1) : Nat) : Int) → W_Po_readProduct_b76 G (WL_Po_readProduct G N) dd x2 y0 τ Q := fun y0 q hy => by
      have c13 : (KT9 X).c (Tp9 X j1) = 13 := kc13.mpr (by omega)
      have iop : isOp ((KT9 X).c (Tp9 X j1)) := Or.inr (Or.inr c13)
      have bd := po.2.2.1.2
      refine w_st hr1 (fun τ1 st => ?_)
      obtain ⟨hr2, l2, e2⟩ := st.rd hr1 (by omega)
      refine hG dd τ1 (j1 + 1) b _ hd hr2 (by rw [st.2.2.1]; exact po.2.2.1.1) (by omega) pr_no (fun τ2 j2 e po2 ok => ⟨fun z => absurd z (by decide), fun _ => ?_⟩) (fun τ2 po2 no => ⟨fun _ => k0 τ2 ⟨(po.1.1.tr st.1).tr po2.1, (po.1.2.tr (st.sb (a := a)) (Nat.le_refl a)).tr po2.2 (by have := po.lt; omega)⟩ ?_, fun z => absurd rfl z⟩)
      · have bd2 := po2.2.2.1.2
        have ple2 := tp_le hr.1.2.2 po2.2.1.2.1
        have pl2 := po2.2.1.2.2
        refine w_emit po2.2.2.1.1 (by omega) (fun τ3 em => ⟨by omega, fun r6 h6 => ?_⟩)
        refine ih r6 τ3 j2 (e + 1) (c + 1) (by omega) (po_bin (m := 7) hr po st (by omega) po2 em (fun cd1 cd2 er => ?_)) (fun r h => hrd r (Rd.l_op iop (Rd.s_go ok h))) (by omega) (by omega)
        obtain ⟨f, g1, g2⟩ := cd1.two cd2
        refine CD.s (f := f) (Or.inr ⟨Tp9 X j1, b, e, g1, c13, g2, ?_, ?_, rfl⟩)
        · rw [er, em_c (by omega)]
          unfold emN
          rw [if_neg (by omega), if_neg (by omega), if_neg (by omega), if_neg (by omega), if_pos (by omega)]
          show y0.toInt.toNat = rc9 X (Tp9 X j1)
          omega
        · rw [em_c (by omega)]
          unfold emN
          rw [if_neg (by omega), if_neg (by omega), if_neg (by omega), if_neg (by omega), if_pos (by omega)]
          exact q
      · obtain ⟨f, no⟩ := no
        exact ⟨f, hrd _ (Rd.l_op iop (Rd.s_bad no))⟩
    have b46 : (10 ≤ rc9 X (Tp9 X j1) ∧ rc9 X (Tp9 X j1) ≤ 12) → W_Po_readProduct_b46 G (WL_Po_readProduct G N) dd x2 τ Q := fun q => by
      refine w_isSign (c := 10) hr1 (fun c1 => ⟨fun z => absurd z (by decide), fun _ => go 10 q (by rw [c1]; decide)⟩) (fun c1 => ⟨fun _ => ?_, fun z => absurd rfl z⟩)
      refine w_isSign (c := 11) hr1 (fun c2 => ⟨fun z => absurd z (by decide), fun _ => go 11 q (by rw [c2]; decide)⟩) (fun c2 => ⟨fun _ => go 12 q (by rw [show rc9 X (Tp9 X j1) = 12 by omega]; decide), fun z => absurd rfl z⟩)
    refine wl_Po_readProduct_12 G ?_
    refine ⟨fun q => absurd q (by omega), fun q => ?_⟩
    refine w_isSign (c := 10) hr1 (fun c1 => ⟨fun z => absurd z (by decide), fun _ => b46 (by omega)⟩) (fun c1 => ⟨fun _ => ?_, fun z => absurd rfl z⟩)
    refine w_isSign (c := 11) hr1 (fun c2 => ⟨fun z => absurd z (by decide), fun _ => b46 (by omega)⟩) (fun c2 => ⟨fun _ => ?_, fun z => absurd rfl z⟩)
    refine w_isSign (c := 12) hr1 (fun c3 => ⟨fun z => absurd z (by decide), fun _ => b46 (by omega)⟩) (fun c3 => ⟨fun _ => k1 τ j1 b po ⟨hrd, fun z => absurd (kc13.mp z) (by omega)⟩, fun z => absurd rfl z⟩)
theorem r_product (hU : U ≤ 9600) (hG : RgW X n U (G 0) 0 d) : RgW X n U (W_Po_readProduct G) 3 d := by
  intro dd σ j a Q hd hr ha hu _ k1 k0
  have hX := hr.1.1.1.2
  refine hG dd σ j a _ hd hr ha hu pr_no (fun τ j1 b po ok => ⟨fun z => absurd z (by decide), fun _ => ?_⟩) (fun τ po no => ⟨fun _ => k0 τ po ?_, fun z => absurd rfl z⟩)
  · have pl := po.2.1.2.2
    refine wl_product hU hG hd hr hu k1 k0 fuF 0 τ j1 b 0 (by decide) ⟨po.1, po.2.1, po.2.2.1, ?_⟩ (fun r h => Rd.s_go ok h) (by omega) (by show 1200 - 0 + 5 ≤ 100000; decide)
    obtain ⟨f, cd⟩ := po.2.2.2
    exact CD.s (f := f) (Or.inl cd)
  · obtain ⟨f, no⟩ := no
    exact ⟨f, Rd.s_bad no⟩
theorem wl_sum {σ : zS} {Q : Int32 → zS → Prop} {j a : Nat} {dd : Int32} (hU : U ≤ 9600) (hG : RgW X n U (G 3) 3 d) (hd : dd.toInt = (d : Int)) (hr : RdT σ X n j) (hu : a + (X.2 - Tp9 X j) ≤ U) (k1 : ∀ τ j' b, PoS σ τ X n j a 1 d j' b → RdOk X 4 d (Tp9 X j) (Tp9 X j') → Q 1 τ) (k0 : ∀ τ, PoF σ τ a → RdNo X 4 d (Tp9 X j) → Q 0 τ) : ∀ (N : Nat) (x2 : Int32) (τ : zS) (j1 b c : Nat), x2.toInt = (c : Int) → PoS σ τ X n j a 1 d j1 b → (∀ r, Rd (KT9 X) 2 d (Tp9 X j1) r → Rd (KT9 X) 1 d (Tp9 X j) r) → (KT9 X).c (Tp9 X j1) ≠ 13 → c + 1 ≤ Tp9 X j1 - Tp9 X j → 1200 - c + 5 ≤ N → (WL_Po_readSum G N) dd x2 τ Q
  | 0, _, _, _, _, _, _, _, _, _, _, h => absurd h (by omega)
  | N + 1, x2, τ, j1, b, c, hx, po, hrd, h13, hc, hN => by
    have ih := wl_sum hU hG hd hr hu k1 k0 N
    have hr1 := po.rd hr
    have hX := hr.1.1.1.2
    have ple := tp_le hr.1.2.2 po.2.1.2.1
    have h13 : km9 (rc9 X (Tp9 X j1)) ≠ 13 := h13
    have go : ∀ y0 : Int32, (8 ≤ rc9 X (Tp9 X j1) ∧ rc9 X (Tp9 X j1) ≤ 9) → y0.toInt = ((rc9 X (Tp9 X j1) : Nat) : Int) → W_Po_readSum_b53 G (WL_Po_readSum G N) dd x2 y0 τ Q := fun y0 q hy => by
      have c4 : (KT9 X).c (Tp9 X j1) = 4 ∨ (KT9 X).c (Tp9 X j1) = 12 := (by omega : rc9 X (Tp9 X j1) = 9 ∨ rc9 X (Tp9 X j1) = 8).elim (fun q => Or.inl (kc4.mpr q)) (fun q => Or.inr (kc12.mpr q))
      have iop : isOp ((KT9 X).c (Tp9 X j1)) := by rcases c4 with q | q; exact Or.inl q; exact Or.inr (Or.inl q)
      have bd := po.2.2.1.2
      refine w_st hr1 (fun τ1 st => ?_)
      obtain ⟨hr2, l2, e2⟩ := st.rd hr1 (by omega)
      refine hG dd τ1 (j1 + 1) b _ hd hr2 (by rw [st.2.2.1]; exact po.2.2.1.1) (by omega) pr_no (fun τ2 j2 e po2 ok => ⟨fun z => absurd z (by decide), fun _ => ?_⟩) (fun τ2 po2 no => ⟨fun _ => k0 τ2 ⟨(po.1.1.tr st.1).tr po2.1, (po.1.2.tr (st.sb (a := a)) (Nat.le_refl a)).tr po2.2 (by have := po.lt; omega)⟩ ?_, fun z => absurd rfl z⟩)
      · have ok : (∀ r, Rd (KT9 X) 2 d (Tp9 X j2) r → Rd (KT9 X) 1 d (Tp9 X (j1 + 1)) r) ∧ _ := ok
        have bd2 := po2.2.2.1.2
        have ple2 := tp_le hr.1.2.2 po2.2.1.2.1
        have pl2 := po2.2.1.2.2
        refine w_emit po2.2.2.1.1 (by omega) (fun τ3 em => ⟨by omega, fun r6 h6 => ?_⟩)
        refine ih r6 τ3 j2 (e + 1) (c + 1) (by omega) (po_bin (m := 1) hr po st (by omega) po2 em (fun cd1 cd2 er => ?_)) (fun r h => hrd r (Rd.l_op iop (ok.1 r h))) ok.2 (by omega) (by omega)
        obtain ⟨f, g1, g2⟩ := cd1.two cd2
        have ee : (EmX X).em (Tp9 X j1) = (rc9 X (Tp9 X j1), 0) := by
          rw [em_c (by omega)]
          unfold emN
          rw [if_neg (by omega), if_neg (by omega), if_neg (by omega), if_neg (by omega), if_pos (by omega)]
        refine CD.s (f := f) (Or.inr ⟨Tp9 X j1, b, e, g1, c4, g2, ?_, ?_, rfl⟩)
        · rw [er, ee]
          show y0.toInt.toNat = rc9 X (Tp9 X j1)
          omega
        · rw [ee]; exact q
      · obtain ⟨f, no⟩ := no
        exact ⟨f, hrd _ (Rd.l_op iop no)⟩
    refine wl_Po_readSum_12 G ?_
    refine ⟨fun q => absurd q (by omega), fun q => ?_⟩
    refine w_isSign (c := 8) hr1 (fun c1 => ⟨fun z => absurd z (by decide), fun _ => w_isSign (c := 8) hr1 (fun c1 => ⟨fun z => absurd z (by decide), fun _ => go 8 (by omega) (by rw [c1]; decide)⟩) (fun c2 => absurd c1 c2)⟩) (fun c1 => ⟨fun _ => ?_, fun z => absurd rfl z⟩)
    refine w_isSign (c := 9) hr1 (fun c2 => ⟨fun z => absurd z (by decide), fun _ => w_isSign (c := 8) hr1 (fun c3 => absurd c3 c1) (fun c3 => ⟨fun _ => go 9 (by omega) (by rw [c2]; decide), fun z => absurd rfl z⟩)⟩) (fun c2 => ⟨fun _ => k1 τ j1 b po ?_, fun z => absurd rfl z⟩)
    have nop : ¬ isOp ((KT9 X).c (Tp9 X j1)) := fun z => by
      rcases z with z | z | z
      · exact c2 (kc4.mp z)
      · exact c1 (kc12.mp z)
      · exact h13 z
    exact ⟨hrd _ (Rd.l_end nop), nop⟩
theorem r_sum (hU : U ≤ 9600) (hG : RgW X n U (G 3) 3 d) : RgW X n U (W_Po_readSum G) 4 d := by
  intro dd σ j a Q hd hr ha hu _ k1 k0
  have hX := hr.1.1.1.2
  refine hG dd σ j a _ hd hr ha hu pr_no (fun τ j1 b po ok => ⟨fun z => absurd z (by decide), fun _ => ?_⟩) (fun τ po no => ⟨fun _ => k0 τ po no, fun z => absurd rfl z⟩)
  have ok : (∀ r, Rd (KT9 X) 2 d (Tp9 X j1) r → Rd (KT9 X) 1 d (Tp9 X j) r) ∧ _ := ok
  have pl := po.2.1.2.2
  refine wl_sum hU hG hd hr hu k1 k0 fuF 0 τ j1 b 0 (by decide) ⟨po.1, po.2.1, po.2.2.1, ?_⟩ ok.1 ok.2 (by omega) (by show 1200 - 0 + 5 ≤ 100000; decide)
  obtain ⟨f, cd⟩ := po.2.2.2
  exact CD.s (f := f) (Or.inl cd)
theorem w_comparisonHere {σ : zS} {j : Nat} {Q : Int32 → zS → Prop} (hr : RdT σ X n j) (k1 : ∀ v : Int32, 13 ≤ rc9 X (Tp9 X j) → rc9 X (Tp9 X j) ≤ 18 → v.toInt = ((rc9 X (Tp9 X j) : Nat) : Int) → Q v σ) (k0 : ¬ (13 ≤ rc9 X (Tp9 X j) ∧ rc9 X (Tp9 X j) ≤ 18) → Q (-4) σ) : W_Po_comparisonHere σ Q := by
  have hj := hr.2.2.2
  have hn := hr.2.1
  have kd := hr.kd
  have s := fun (c : Nat) (v : Int) (h1 : 4 ≤ c ∧ c ≤ 20) h2 h3 => sg_rc (X := X) (p := Tp9 X j) (c := c) (v := v) h1 h2 h3
  have s13 := s 13 60 (by decide) (by decide) (by decide)
  have s14 := s 14 256 (by decide) (by decide) (by decide)
  have s15 := s 15 61 (by decide) (by decide) (by decide)
  have s16 := s 16 258 (by decide) (by decide) (by decide)
  have s17 := s 17 257 (by decide) (by decide) (by decide)
  have s18 := s 18 62 (by decide) (by decide) (by decide)
  refine ⟨j, hr.2.2.1, by omega, fun c => ?_, fun c => k0 (fun q => c ?_)⟩
  · have k4 : kd9 X (Tp9 X j) = 4 := by omega
    have vl := hr.vl.2.2.2 k4
    have sb : 0 ≤ sg9 X (Tp9 X j) ∧ sg9 X (Tp9 X j) ≤ 258 := by
      have te := te_lt (X := X) (p := Tp9 X j) (by
        apply Classical.byContradiction
        intro q
        rw [kd_end (by omega)] at k4
        omega)
      have hb := (hr.1.1.at (p := Tp9 X j) (by omega)).2
      unfold sg9
      cases pr9 X (Tp9 X j) with
      | false => show 0 ≤ by9 X (Tp9 X j) ∧ by9 X (Tp9 X j) ≤ 258; omega
      | true =>
        show 0 ≤ (bif decide (by9 X (Tp9 X j) = 62) then (257 : Int) else bif decide (by9 X (Tp9 X j + 1) = 61) then 256 else 258) ∧ (bif decide (by9 X (Tp9 X j) = 62) then (257 : Int) else bif decide (by9 X (Tp9 X j + 1) = 61) then 256 else 258) ≤ 258
        cases decide (by9 X (Tp9 X j) = 62) <;> cases decide (by9 X (Tp9 X j + 1) = 61) <;> decide
    refine ⟨by omega, fun r3 h3 => ?_⟩
    have go : ∀ (v : Int32) (c : Nat) (w : Int), r3.toInt = w → ((kd9 X (Tp9 X j) = 4 ∧ sg9 X (Tp9 X j) = w) ↔ rc9 X (Tp9 X j) = c) → 13 ≤ c → c ≤ 18 → v.toInt = (c : Int) → Q v σ := fun v c w h1 h2 h3 h4 h5 => by
      have := h2.mp ⟨k4, by omega⟩
      exact k1 v (by omega) (by omega) (by omega)
    refine ⟨fun q => go 13 13 60 q s13 (by decide) (by decide) (by decide), fun q1 => ⟨fun q => go 15 15 61 q s15 (by decide) (by decide) (by decide), fun q2 => ⟨fun q => go 18 18 62 q s18 (by decide) (by decide) (by decide), fun q3 => ⟨fun q => go 14 14 256 q s14 (by decide) (by decide) (by decide), fun q4 => ⟨fun q => go 17 17 257 q s17 (by decide) (by decide) (by decide), fun q5 => ⟨fun q => go 16 16 258 q s16 (by decide) (by decide) (by decide), fun q6 => k0 (fun q => ?_)⟩⟩⟩⟩⟩⟩
    rcases (by omega : rc9 X (Tp9 X j) = 13 ∨ rc9 X (Tp9 X j) = 14 ∨ rc9 X (Tp9 X j) = 15 ∨ rc9 X (Tp9 X j) = 16 ∨ rc9 X (Tp9 X j) = 17 ∨ rc9 X (Tp9 X j) = 18) with e | e | e | e | e | e
    · have := (s13.mpr e).2; omega
    · have := (s14.mpr e).2; omega
    · have := (s15.mpr e).2; omega
    · have := (s16.mpr e).2; omega
    · have := (s17.mpr e).2; omega
    · have := (s18.mpr e).2; omega
  · have e : kd9 X (Tp9 X j) = 4 := by
      rcases (by omega : rc9 X (Tp9 X j) = 13 ∨ rc9 X (Tp9 X j) = 14 ∨ rc9 X (Tp9 X j) = 15 ∨ rc9 X (Tp9 X j) = 16 ∨ rc9 X (Tp9 X j) = 17 ∨ rc9 X (Tp9 X j) = 18) with e | e | e | e | e | e
      · exact (s13.mpr e).1
      · exact (s14.mpr e).1
      · exact (s15.mpr e).1
      · exact (s16.mpr e).1
      · exact (s17.mpr e).1
      · exact (s18.mpr e).1
    omega
theorem r_cmp (hU : U ≤ 9600) (hG : RgW X n U (G 4) 4 d) : RgW X n U (W_Po_readComparisonR G) 5 d := by
  intro dd σ j a Q hd hr ha hu _ k1 k0
  have hX := hr.1.1.1.2
  refine hG dd σ j a _ hd hr ha hu pr_no (fun τ j1 b po ok => ⟨fun z => absurd z (by decide), fun _ => ?_⟩) (fun τ po no => ⟨fun _ => k0 τ po ?_, fun z => absurd rfl z⟩)
  · have ok : Rd (KT9 X) 1 d (Tp9 X j) (Int.ofNat (Tp9 X j1)) ∧ _ := ok
    have hr1 := po.rd hr
    have ple := tp_le hr.1.2.2 po.2.1.2.1
    have bd := po.2.2.1.2
    have pl := po.2.1.2.2
    have lt := po.lt
    refine w_isWord (i := 17) hr1 (fun c1 => ⟨fun z => absurd z (by decide), fun _ => ?_⟩) (fun c1 => ⟨fun _ => ?_, fun z => absurd rfl z⟩)
    · have c1 : rc9 X (Tp9 X j1) = 29 := c1
      have c15 : (KT9 X).c (Tp9 X j1) = 15 := kc15.mpr (by omega)
      refine w_st hr1 (fun τ1 st => ?_)
      obtain ⟨hr2, l2, e2⟩ := st.rd hr1 (by omega)
      refine w_readFeature (a := b) (U := U) hr2 (by rw [st.2.2.1]; exact po.2.2.1.1) (by omega) hU (fun τ2 q f1 _ hq fr sb e14 hj3 h3 e15 eo ev => ?_) (fun τ2 f f1 po2 => ?_)
      · subst hq
        have e14' : (τ2.1 17 14).toInt = ((j1 + 1 + 3 : Nat) : Int) := by omega
        refine ⟨Or.inr rfl, k1 τ2 (j1 + 1 + 3) (b + 1) ⟨⟨(po.1.1.tr st.1).tr fr, (po.1.2.tr (st.sb (a := a)) (Nat.le_refl a)).tr sb (by omega)⟩, ⟨e14', hj3, by omega⟩, ⟨by omega, by omega⟩, ?_⟩ (Rd.m_in ok.1 c15 f1)⟩
        obtain ⟨f, cd⟩ := ((po.2.2.2).cg (R' := RC9 τ1) (fun i _ hi => (st.sb (a := b)).rc hi)).cg (R' := RC9 τ2) (fun i _ hi => sb.rc hi)
        refine CD.s (f := f) (Or.inl ⟨Tp9 X j1, b, cd, c15, f1, ?_, rfl⟩)
        show ((τ2.1 21 b).toInt.toNat, (τ2.2 22 b).toInt) = _
        rw [eo, ev]; rfl
      · exact ⟨Or.inl rfl, k0 τ2 ⟨(po.1.1.tr st.1).tr po2.1, (po.1.2.tr (st.sb (a := a)) (Nat.le_refl a)).tr po2.2 (by omega)⟩ ⟨f, Rd.m_in ok.1 c15 f1⟩⟩
    · have c1 : rc9 X (Tp9 X j1) ≠ 29 := c1
      refine w_comparisonHere hr1 (fun v q1 q2 hv => ⟨fun z => absurd z (by omega), fun _ => ?_⟩) (fun q => ⟨fun _ => w_fail hr1 (fun τ1 fa _ => ⟨Or.inl rfl, k0 τ1 ⟨po.1.1.tr fa.1, po.1.2.tr (fa.sb (a := a)) (Nat.le_refl a)⟩ ⟨_, Rd.m_no ok.1 ?_⟩⟩), fun z => absurd (by decide) z⟩)
      · have c14 : (KT9 X).c (Tp9 X j1) = 14 := kc14.mpr (by omega)
        refine w_st hr1 (fun τ1 st => ?_)
        obtain ⟨hr2, l2, e2⟩ := st.rd hr1 (by omega)
        refine hG dd τ1 (j1 + 1) b _ hd hr2 (by rw [st.2.2.1]; exact po.2.2.1.1) (by omega) pr_no (fun τ2 j2 e po2 ok2 => ⟨fun z => absurd z (by decide), fun _ => ?_⟩) (fun τ2 po2 no => ⟨fun _ => k0 τ2 ⟨(po.1.1.tr st.1).tr po2.1, (po.1.2.tr (st.sb (a := a)) (Nat.le_refl a)).tr po2.2 (by omega)⟩ ?_, fun z => absurd rfl z⟩)
        · have ok2 : Rd (KT9 X) 1 d (Tp9 X (j1 + 1)) (Int.ofNat (Tp9 X j2)) ∧ _ := ok2
          have bd2 := po2.2.2.1.2
          have ple2 := tp_le hr.1.2.2 po2.2.1.2.1
          have pl2 := po2.2.1.2.2
          refine w_emit po2.2.2.1.1 (by omega) (fun τ3 em => k1 τ3 j2 (e + 1) (po_bin (m := 1) hr po st (by omega) po2 em (fun cd1 cd2 er => ?_)) (Rd.m_cmp ok.1 c14 ok2.1))
          obtain ⟨f, g1, g2⟩ := cd1.two cd2
          have ee : (EmX X).em (Tp9 X j1) = (13, ((rc9 X (Tp9 X j1) : Nat) : Int) - 13) := by
            rw [em_c (by omega)]
            unfold emN
            rw [if_neg (by omega), if_neg (by omega), if_neg (by omega), if_neg (by omega), if_neg (by omega)]
          refine CD.s (f := f) (Or.inr ⟨Tp9 X j1, b, e, rc9 X (Tp9 X j1) - 13, g1, c14, g2, by omega, ?_, ?_, rfl⟩)
          · rw [ee]
            have : ((rc9 X (Tp9 X j1) : Nat) : Int) - 13 = ((rc9 X (Tp9 X j1) - 13 : Nat) : Int) := by omega
            rw [this]
          · rw [er]
            omega
        · obtain ⟨f, no⟩ := no
          exact ⟨f, Rd.m_cmp ok.1 c14 no⟩
      · exact ⟨fun z => q (kc14.mp z), fun z => c1 (kc15.mp z)⟩
  · obtain ⟨f, no⟩ := no
    exact ⟨f, Rd.m_bad no⟩
end ring8
/-! ===== parts, conditions; all together ===== -/
section ring9
variable {X : Txt} {n U d : Nat} {G : Nat → Int32 → zS → (Int32 → zS → Prop) → Prop}
/-- a parenthesis: a condition, or a comparison that begins with one -/
theorem r_both (hU : U ≤ 9600) (hG5 : RgW X n U (G 5) 5 d) (hG9 : d < 20 → RgW X n U (G 9) 9 (d + 1)) : RgW X n U (W_Po_readBothWays G) 6 d := by
  intro dd σ j a Q hd hr ha hu pr k1 k0
  have pr := pr.2.2 rfl
  have c3 : (KT9 X).c (Tp9 X j) = 3 := kc3.mpr (by omega)
  have hX := hr.1.1.1.2
  -- the other way
  have other : d < 20 → ∀ σ5 : zS, FrP σ σ5 → SmB σ σ5 a → ∀ (x : Int) (f : Nat), Rd (KT9 X) 3 (d + 1) (Tp9 X (j + 1)) x → sgR (KT9 X) 11 x = Int.negSucc f → W_Po_readBothWays_b52 G dd (σ.1 17 14) (σ.1 17 15) σ5 Q := fun hlt σ5 fr sb x f hx1 hx2 => by
    intro s1 e1 s2 e2
    have fr2 : FrP σ s2 := fr.tr ⟨fun k i q1 q2 => by rw [← e2, yI_ne (by omega), ← e1, yI_ne (by omega)], fun k i _ => by rw [← e2, yI_l, ← e1, yI_l], fun q => by unfold rgF at q ⊢; rw [← e2, yI_ne (by omega), ← e1, yI_ne (by omega)]; exact q⟩
    have sb2 : SmB σ s2 a := sb.tr (b := a) (fun i _ => ⟨by rw [← e2, yI_ne (by omega), ← e1, yI_ne (by omega)], by rw [← e2, yI_l, ← e1, yI_l]⟩) (Nat.le_refl a)
    have hr2 : RdT s2 X n j := fr2.rd hr (by rw [← e2, yI_ne (by omega), ← e1, yI_at]; exact hr.2.2.1) hr.2.2.2
    have ha2 : (s2.1 17 15).toInt = (a : Int) := by rw [← e2, yI_at]; exact ha
    refine hG5 dd s2 j a _ hd hr2 ha2 hu pr_no (fun τ j1 b po ok => ⟨fun z => absurd z (by decide), fun _ => ?_⟩) (fun τ po no => ⟨fun _ r5 h5 s6 e6 => ?_, fun z => absurd rfl z⟩)
    · refine k1 τ j1 b ⟨⟨fr2.tr po.1.1, sb2.tr po.1.2 (Nat.le_refl a)⟩, po.2.1, po.2.2.1, ?_⟩ (Rd.u_two c3 hlt hx1 hx2 ok)
      obtain ⟨g, cd⟩ := po.2.2.2
      exact CD.s (f := g) (Or.inr (Or.inr (Or.inr cd)))
    · obtain ⟨g, no⟩ := no
      have fr3 := fr2.tr po.1
      refine k0 s6 ⟨⟨fun k i q1 q2 => by rw [← e6, yI_ne (by omega)]; exact fr3.1 k i q1 q2, fun k i q => by rw [← e6, yI_l]; exact fr3.2.1 k i q, fun q => by have u1 := fr3.2.2 q; have u2 := fr.2.2 q; unfold rgF at u1 u2 ⊢; rw [← e6, yI_at]; omega⟩, (sb2.tr po.2 (Nat.le_refl a)).tr (b := a) (fun i _ => ⟨by rw [← e6, yI_ne (by omega)], by rw [← e6, yI_l]⟩) (Nat.le_refl a)⟩ ⟨_, Rd.u_two c3 hlt hx1 hx2 no⟩
  unfold W_Po_readBothWays
  refine ⟨fun q => ?_, fun q => w_fail hr (fun τ fa _ => ⟨Or.inl rfl, k0 τ ⟨fa.1, fa.sb⟩ ⟨_, Rd.u_deep (Or.inr c3) (by omega)⟩⟩)⟩
  have hlt : d < 20 := by omega
  refine w_st hr (fun τ st => ⟨by omega, fun r4 h4 => ?_⟩)
  obtain ⟨hr1, l1, e1⟩ := st.rd hr (by omega)
  refine hG9 hlt r4 τ (j + 1) a _ (by omega) hr1 (by rw [st.2.2.1]; exact ha) (by omega) pr_no (fun τ2 j1 b po ok => ⟨fun z => absurd z (by decide), fun _ => ?_⟩) (fun τ2 po no => ⟨fun _ => ?_, fun z => absurd rfl z⟩)
  · have ok : Rd (KT9 X) 3 (d + 1) (Tp9 X (j + 1)) (Int.ofNat (Tp9 X j1)) ∧ _ := ok
    have hr2 := po.rd hr1
    have pl := po.2.1.2.2
    have bd := po.2.2.1.2
    have lt := po.lt
    refine w_passes (c := 5) hr2 (fun τ3 st3 c5 => ⟨fun z => absurd z (by decide), fun _ => ?_⟩) (fun τ3 fa c5 => ⟨fun _ => ?_, fun z => absurd rfl z⟩)
    · obtain ⟨hr3, l3, e3⟩ := st3.rd hr2 (by omega)
      have c11 : (KT9 X).c (Tp9 X j1) = 11 := kc11.mpr (by omega)
      refine k1 τ3 (j1 + 1) b ⟨⟨(st.1.tr po.1.1).tr st3.1, ((st.sb (a := a)).tr po.1.2 (Nat.le_refl a)).tr (st3.sb (a := a)) (Nat.le_refl a)⟩, ⟨by rw [st3.2.1]; omega, hr3.2.2.2, by omega⟩, ⟨by rw [st3.2.2.1]; exact po.2.2.1.1, by omega⟩, ?_⟩ (Rd.u_par c3 hlt ok.1 (sgR_yes c11))
      obtain ⟨f, cd⟩ := (po.2.2.2).cg (R' := RC9 τ3) (fun i _ hi => (st3.sb (a := b)).rc hi)
      exact CD.s (f := f) (Or.inr (Or.inr (Or.inl ⟨c3, hlt, Tp9 X j1, cd, c11, rfl⟩)))
    · exact other hlt τ3 ((st.1.tr po.1.1).tr fa.1) (((st.sb (a := a)).tr po.1.2 (Nat.le_refl a)).tr (fa.sb (a := a)) (Nat.le_refl a)) _ _ ok.1 (sgR_no (fun z => absurd (kc11.mp z) (by omega)))
  · obtain ⟨f, no⟩ := no
    exact other hlt τ2 (st.1.tr po.1) ((st.sb (a := a)).tr po.2 (Nat.le_refl a)) _ f no rfl
theorem r_such (hU : U ≤ 9600) (hG5 : RgW X n U (G 5) 5 d) (hG6 : RgW X n U (G 6) 6 d) (hG7 : d < 20 → RgW X n U (G 7) 7 (d + 1)) : RgW X n U (W_Po_readSuch G) 7 d := by
  intro dd σ j a Q hd hr ha hu _ k1 k0
  have hX := hr.1.1.1.2
  unfold W_Po_readSuch
  refine w_isWord (i := 9) hr (fun c1 => ⟨fun z => absurd z (by decide), fun _ => ?_⟩) (fun c1 => ⟨fun _ => ?_, fun z => absurd rfl z⟩)
  · have c1 : rc9 X (Tp9 X j) = 22 := c1
    have cc : (KT9 X).c (Tp9 X j) = 1 := kc1.mpr (by omega)
    refine ⟨fun q => ?_, fun q => w_fail hr (fun τ fa _ => ⟨Or.inl rfl, k0 τ ⟨fa.1, fa.sb⟩ ⟨_, Rd.u_deep (Or.inl cc) (by omega)⟩⟩)⟩
    have hlt : d < 20 := by omega
    refine w_st hr (fun τ st => ⟨by omega, fun r4 h4 => ?_⟩)
    obtain ⟨hr1, l1, e1⟩ := st.rd hr (by omega)
    refine hG7 hlt r4 τ (j + 1) a _ (by omega) hr1 (by rw [st.2.2.1]; exact ha) (by omega) pr_no (fun τ2 j1 b po ok => ⟨fun z => absurd z (by decide), fun _ => ?_⟩) (fun τ2 po no => ⟨fun _ => k0 τ2 ⟨st.1.tr po.1, (st.sb (a := a)).tr po.2 (Nat.le_refl a)⟩ ?_, fun z => absurd rfl z⟩)
    · have pl := po.2.1.2.2
      have bd := po.2.2.1.2
      have lt := po.lt
      have ple := tp_le hr.1.2.2 po.2.1.2.1
      refine w_emit po.2.2.1.1 (by omega) (fun τ3 em => k1 τ3 j1 (b + 1) ⟨⟨(st.1.tr po.1.1).tr em.1, ((st.sb (a := a)).tr po.1.2 (Nat.le_refl a)).tr em.2.2.2.1 (by omega)⟩, ⟨by rw [em.2.1]; exact po.2.1.1, po.2.1.2.1, by omega⟩, ⟨by rw [em.2.2.1]; omega, by omega⟩, ?_⟩ (Rd.u_not cc hlt ok))
      obtain ⟨f, cd⟩ := (po.2.2.2).cg (R' := RC9 τ3) (fun i _ hi => em.2.2.2.1.rc hi)
      refine CD.s (f := f) (Or.inl ⟨cc, hlt, b, cd, ?_, rfl⟩)
      show (τ3.1 21 b).toInt.toNat = 21
      rw [em.2.2.2.2.1]; rfl
    · obtain ⟨f, no⟩ := no
      exact ⟨f, Rd.u_not cc hlt no⟩
  · have c1 : rc9 X (Tp9 X j) ≠ 22 := c1
    refine w_isWord (i := 10) hr (fun c2 => ⟨fun z => absurd z (by decide), fun _ => ?_⟩) (fun c2 => ⟨fun _ => ?_, fun z => absurd rfl z⟩)
    · have c2 : rc9 X (Tp9 X j) = 23 := c2
      have cc : (KT9 X).c (Tp9 X j) = 2 := kc2.mpr (by omega)
      refine w_st hr (fun τ st => ?_)
      obtain ⟨hr1, l1, e1⟩ := st.rd hr (by omega)
      refine w_readFeature (a := a) (U := U) hr1 (by rw [st.2.2.1]; exact ha) (by omega) hU (fun τ' q f1 _ hq fr sb e14 hj3 h3 e15 eo ev => ?_) (fun τ' f f1 po => ?_)
      · subst hq
        refine ⟨Or.inr rfl, k1 τ' (j + 1 + 3) (a + 1) (po_ft st.1 st.sb (by omega) fr sb (by omega) hj3 h3 e15 eo ev (fun e => CD.s (f := 0) ?_)) (Rd.u_known cc f1)⟩
        exact Or.inr (Or.inl ⟨cc, f1, e, rfl⟩)
      · exact ⟨Or.inl rfl, k0 τ' ⟨st.1.tr po.1, (st.sb (a := a)).tr po.2 (Nat.le_refl a)⟩ ⟨f, Rd.u_known cc f1⟩⟩
    · have c2 : rc9 X (Tp9 X j) ≠ 23 := c2
      refine w_isSign (c := 4) hr (fun c3 => ⟨fun z => absurd z (by decide), fun _ => hG6 dd σ j a _ hd hr ha hu ⟨fun z => absurd z (by decide), fun z => absurd z (by decide), fun _ => c3⟩ (fun τ j' b po ok => ⟨Or.inr rfl, k1 τ j' b po ok⟩) (fun τ po no => ⟨Or.inl rfl, k0 τ po no⟩)⟩) (fun c3 => ⟨fun _ => ?_, fun z => absurd rfl z⟩)
      have ne : (KT9 X).c (Tp9 X j) ≠ 1 ∧ (KT9 X).c (Tp9 X j) ≠ 2 ∧ (KT9 X).c (Tp9 X j) ≠ 3 := by
        exact ⟨fun z => c1 (kc1.mp z), fun z => c2 (kc2.mp z), fun z => c3 (kc3.mp z)⟩
      refine hG5 dd σ j a _ hd hr ha hu pr_no (fun τ j' b po ok => ⟨Or.inr rfl, k1 τ j' b ⟨po.1, po.2.1, po.2.2.1, ?_⟩ (Rd.u_cmp ne ok)⟩) (fun τ po no => ⟨Or.inl rfl, k0 τ po ?_⟩)
      · obtain ⟨f, cd⟩ := po.2.2.2
        exact CD.s (f := f) (Or.inr (Or.inr (Or.inr cd)))
      · obtain ⟨f, no⟩ := no
        exact ⟨f, Rd.u_cmp ne no⟩
/-- and, or: two bytes at least -/
theorem nx_2 {p i : Nat} (h : rc9 X p = wcd i) (hi : i < 21) (h0 : i ≠ 0) (h7 : i ≠ 7) (h13 : i ≠ 13) (hl : 2 ≤ wdL i) : p + 2 ≤ nx9t X p := by
  have w := (wd_rc (X := X) (p := p) hi h0 h7 h13).mpr h
  have h1 := w.2.1
  have h2 : te9 X p ≤ nx9t X p := wh_le.1
  omega
/-- what was read, and (or or), a skip, something more, the op, the skip told where -/
theorem po_jn {σ τ τ1 τ2 τ3 τ4 τ5 : zS} {j a m j1 b m2 j2 e m3 : Nat} {s9 op : Int32} {v w : Int64} (hr : RdT σ X n j) (po : PoS σ τ X n j a m d j1 b) (st : StP τ τ1 j1) (h2 : 2 ≤ rc9 X (Tp9 X j1)) (h3 : Tp9 X j1 + 2 ≤ Tp9 X (j1 + 1)) (sk : EmR τ1 τ2 b s9 v) (po2 : PoS τ2 τ3 X n (j1 + 1) (b + 1) m2 d j2 e) (em : EmR τ3 τ4 e op w) (f5 : FrP τ4 τ5) (i5 : τ5.1 = τ4.1) (n5 : ∀ i, i ≠ b → τ5.2 22 i = τ4.2 22 i) (v5 : (τ5.2 22 b).toInt = ((e + 1 : Nat) : Int))
    (hcd : CD (KT9 X) (EmX X) (RC9 τ5) m d (Tp9 X j) (Tp9 X j1) a b → RC9 τ5 b = (s9.toInt.toNat, (e : Int) + 1) → CD (KT9 X) (EmX X) (RC9 τ5) m2 d (Tp9 X (j1 + 1)) (Tp9 X j2) (b + 1) e → (RC9 τ5 e).1 = op.toInt.toNat → CD (KT9 X) (EmX X) (RC9 τ5) m3 d (Tp9 X j) (Tp9 X j2) a (e + 1)) : PoS σ τ5 X n j a m3 d j2 (e + 1) := by
  obtain ⟨hr1, l1, e1⟩ := st.rd (po.rd hr) h2
  have q1 := po.2.2.1.2
  have q2 := po2.2.2.1.2
  have q3 := po.2.1.2.2
  have q4 := po2.2.1.2.2
  have lt1 := po.lt
  have lt2 := po2.lt
  have sb5 : SmB τ4 τ5 b := fun i hi => ⟨by rw [i5], n5 i (by omega)⟩
  refine ⟨⟨((((po.1.1.tr st.1).tr sk.1).tr po2.1.1).tr em.1).tr f5, (((((po.1.2).tr (st.sb (a := a)) (Nat.le_refl a)).tr sk.2.2.2.1 (by omega)).tr po2.1.2 (by omega)).tr em.2.2.2.1 (by omega)).tr sb5 (by omega)⟩, ⟨by rw [i5, em.2.1]; exact po2.2.1.1, po2.2.1.2.1, by omega⟩, ⟨by rw [i5, em.2.2.1]; omega, by omega⟩, ?_⟩
  refine hcd ?_ ?_ ?_ ?_
  · exact (((((po.2.2.2).cg (R' := RC9 τ1) (fun i _ hi => (st.sb (a := b)).rc hi)).cg (R' := RC9 τ2) (fun i _ hi => sk.2.2.2.1.rc hi)).cg (R' := RC9 τ3) (fun i _ hi => po2.1.2.rc (by omega))).cg (R' := RC9 τ4) (fun i _ hi => em.2.2.2.1.rc (by omega))).cg (R' := RC9 τ5) (fun i _ hi => sb5.rc hi)
  · show ((τ5.1 21 b).toInt.toNat, (τ5.2 22 b).toInt) = _
    rw [v5, i5, (em.2.2.2.1 b (by omega)).1, (po2.1.2 b (by omega)).1, sk.2.2.2.2.1]
    rfl
  · refine ((po2.2.2.2).cg (R' := RC9 τ4) (fun i _ hi => em.2.2.2.1.rc hi)).cg (R' := RC9 τ5) (fun i q hi => ?_)
    show ((τ4.1 21 i).toInt.toNat, (τ4.2 22 i).toInt) = ((τ5.1 21 i).toInt.toNat, (τ5.2 22 i).toInt)
    rw [i5, n5 i (by omega)]
  · show (τ5.1 21 e).toInt.toNat = _
    rw [i5, em.2.2.2.2.1]
theorem wl_part {σ : zS} {Q : Int32 → zS → Prop} {j a : Nat} {dd : Int32} (hU : U ≤ 9600) (hG : RgW X n U (G 7) 7 d) (hd : dd.toInt = (d : Int)) (hr : RdT σ X n j) (hu : a + (X.2 - Tp9 X j) ≤ U) (k1 : ∀ τ j' b, PoS σ τ X n j a 9 d j' b → RdOk X 8 d (Tp9 X j) (Tp9 X j') → Q 1 τ) (k0 : ∀ τ, PoF σ τ a → RdNo X 8 d (Tp9 X j) → Q 0 τ) : ∀ (N : Nat) (x2 : Int32) (τ : zS) (j1 b c : Nat), x2.toInt = (c : Int) → PoS σ τ X n j a 9 d j1 b → (∀ r, Rd (KT9 X) 4 d (Tp9 X j1) r → Rd (KT9 X) 3 d (Tp9 X j) r) → c + 1 ≤ Tp9 X j1 - Tp9 X j → 1200 - c + 5 ≤ N → (WL_Po_readPart G N) dd x2 τ Q
  | 0, _, _, _, _, _, _, _, _, _, h => absurd h (by omega)
  | N + 1, x2, τ, j1, b, c, hx, po, hrd, hc, hN => by
    have ih := wl_part hU hG hd hr hu k1 k0 N
    have hr1 := po.rd hr
    have hX := hr.1.1.1.2
    have ple := tp_le hr.1.2.2 po.2.1.2.1
    have bd := po.2.2.1.2
    have lt1 := po.lt
    refine wl_Po_readPart_12 G ?_
    refine ⟨fun q => absurd q (by omega), fun q => ?_⟩
    refine w_isWord (i := 18) hr1 (fun c1 => ⟨fun z => absurd z (by decide), fun _ => ?_⟩) (fun c1 => ⟨fun _ => k1 τ j1 b po ⟨hrd, ?_⟩, fun z => absurd rfl z⟩)
    · have n2 := nx_2 (X := X) c1 (by decide) (by decide) (by decide) (by decide) (by decide)
      have c1 : rc9 X (Tp9 X j1) = 30 := c1
      have cc : (KT9 X).c (Tp9 X j1) = 16 := kc16.mpr (by omega)
      refine w_st hr1 (fun τ1 st => ?_)
      obtain ⟨hr2, l2, e2⟩ := st.rd hr1 (by omega)
      have n2 : Tp9 X j1 + 2 ≤ Tp9 X (j1 + 1) := n2
      have ha1 : (τ1.1 17 15).toInt = (b : Int) := by rw [st.2.2.1]; exact po.2.2.1.1
      refine w_emit ha1 (by omega) (fun τ2 sk => ?_)
      have hr2' : RdT τ2 X n (j1 + 1) := sk.1.rd hr2 (by rw [sk.2.1]; exact hr2.2.2.1) hr2.2.2.2
      refine hG dd τ2 (j1 + 1) (b + 1) _ hd hr2' (by rw [sk.2.2.1]; omega) (by omega) pr_no (fun τ3 j2 e po2 ok => ⟨fun z => absurd z (by decide), fun _ => ?_⟩) (fun τ3 po2 no => ⟨fun _ => k0 τ3 ⟨((po.1.1.tr st.1).tr sk.1).tr po2.1, ((po.1.2.tr (st.sb (a := a)) (Nat.le_refl a)).tr sk.2.2.2.1 (by omega)).tr po2.2 (by omega)⟩ ?_, fun z => absurd rfl z⟩)
      · have bd2 := po2.2.2.1.2
        have ple2 := tp_le hr.1.2.2 po2.2.1.2.1
        have pl2 := po2.2.1.2.2
        have lt2 := po2.lt
        refine w_emit po2.2.2.1.1 (by omega) (fun τ4 em => ?_)
        refine w_aimHere (c := b) (b := e + 1) ha1 (by rw [em.2.2.1]; omega) (by omega) (by omega) (fun τ5 f5 i5 n5 v5 => ⟨by omega, fun r11 h11 => ?_⟩)
        refine ih r11 τ5 j2 (e + 1) (c + 1) (by omega) (po_jn (m := 9) hr po st (by omega) n2 sk po2 em f5 i5 n5 v5 (fun cd1 rb cd2 re => ?_)) (fun r h => hrd r (Rd.k_op (Or.inl cc) (Rd.c_go ok h))) (by omega) (by omega)
        obtain ⟨f, g1, g2⟩ := cd1.two cd2
        refine CD.s (f := f) (Or.inr ⟨Tp9 X j1, b, e, g1, cc, ?_, rb, g2, re, rfl⟩)
        rw [em_c (by omega), c1]; rfl
      · obtain ⟨f, no⟩ := no
        exact ⟨f, hrd _ (Rd.k_op (Or.inl cc) (Rd.c_bad no))⟩
    · have c1 : rc9 X (Tp9 X j1) ≠ 30 := c1
      exact fun z => c1 (kc16.mp z)
theorem r_part (hU : U ≤ 9600) (hG : RgW X n U (G 7) 7 d) : RgW X n U (W_Po_readPart G) 8 d := by
  intro dd σ j a Q hd hr ha hu _ k1 k0
  have hX := hr.1.1.1.2
  refine hG dd σ j a _ hd hr ha hu pr_no (fun τ j1 b po ok => ⟨fun z => absurd z (by decide), fun _ => ?_⟩) (fun τ po no => ⟨fun _ => k0 τ po ?_, fun z => absurd rfl z⟩)
  · have pl := po.2.1.2.2
    refine wl_part hU hG hd hr hu k1 k0 fuF 0 τ j1 b 0 (by decide) ⟨po.1, po.2.1, po.2.2.1, ?_⟩ (fun r h => Rd.c_go ok h) (by omega) (by show 1200 - 0 + 5 ≤ 100000; decide)
    obtain ⟨f, cd⟩ := po.2.2.2
    exact CD.s (f := f) (Or.inl cd)
  · obtain ⟨f, no⟩ := no
    exact ⟨f, Rd.c_bad no⟩
theorem wl_cond {σ : zS} {Q : Int32 → zS → Prop} {j a : Nat} {dd : Int32} (hU : U ≤ 9600) (hG : RgW X n U (G 8) 8 d) (hd : dd.toInt = (d : Int)) (hr : RdT σ X n j) (hu : a + (X.2 - Tp9 X j) ≤ U) (k1 : ∀ τ j' b, PoS σ τ X n j a 3 d j' b → RdOk X 9 d (Tp9 X j) (Tp9 X j') → Q 1 τ) (k0 : ∀ τ, PoF σ τ a → RdNo X 9 d (Tp9 X j) → Q 0 τ) : ∀ (N : Nat) (x2 : Int32) (τ : zS) (j1 b c : Nat), x2.toInt = (c : Int) → PoS σ τ X n j a 3 d j1 b → (∀ r, Rd (KT9 X) 4 d (Tp9 X j1) r → Rd (KT9 X) 3 d (Tp9 X j) r) → (KT9 X).c (Tp9 X j1) ≠ 16 → c + 1 ≤ Tp9 X j1 - Tp9 X j → 1200 - c + 5 ≤ N → (WL_Po_readCondition G N) dd x2 τ Q
  | 0, _, _, _, _, _, _, _, _, _, _, h => absurd h (by omega)
  | N + 1, x2, τ, j1, b, c, hx, po, hrd, h16, hc, hN => by
    have ih := wl_cond hU hG hd hr hu k1 k0 N
    have hr1 := po.rd hr
    have hX := hr.1.1.1.2
    have ple := tp_le hr.1.2.2 po.2.1.2.1
    have bd := po.2.2.1.2
    have lt1 := po.lt
    refine wl_Po_readCondition_12 G ?_
    refine ⟨fun q => absurd q (by omega), fun q => ?_⟩
    refine w_isWord (i := 19) hr1 (fun c1 => ⟨fun z => absurd z (by decide), fun _ => ?_⟩) (fun c1 => ⟨fun _ => ?_, fun z => absurd rfl z⟩)
    · have n2 := nx_2 (X := X) c1 (by decide) (by decide) (by decide) (by decide) (by decide)
      have c1 : rc9 X (Tp9 X j1) = 31 := c1
      have cc : (KT9 X).c (Tp9 X j1) = 17 := kc17.mpr (by omega)
      refine w_st hr1 (fun τ1 st => ?_)
      obtain ⟨hr2, l2, e2⟩ := st.rd hr1 (by omega)
      have n2 : Tp9 X j1 + 2 ≤ Tp9 X (j1 + 1) := n2
      have ha1 : (τ1.1 17 15).toInt = (b : Int) := by rw [st.2.2.1]; exact po.2.2.1.1
      refine w_emit ha1 (by omega) (fun τ2 sk => ?_)
      have hr2' : RdT τ2 X n (j1 + 1) := sk.1.rd hr2 (by rw [sk.2.1]; exact hr2.2.2.1) hr2.2.2.2
      refine hG dd τ2 (j1 + 1) (b + 1) _ hd hr2' (by rw [sk.2.2.1]; omega) (by omega) pr_no (fun τ3 j2 e po2 ok => ⟨fun z => absurd z (by decide), fun _ => ?_⟩) (fun τ3 po2 no => ⟨fun _ => k0 τ3 ⟨((po.1.1.tr st.1).tr sk.1).tr po2.1, ((po.1.2.tr (st.sb (a := a)) (Nat.le_refl a)).tr sk.2.2.2.1 (by omega)).tr po2.2 (by omega)⟩ ?_, fun z => absurd rfl z⟩)
      · have ok : (∀ r, Rd (KT9 X) 4 d (Tp9 X j2) r → Rd (KT9 X) 3 d (Tp9 X (j1 + 1)) r) ∧ _ := ok
        have bd2 := po2.2.2.1.2
        have ple2 := tp_le hr.1.2.2 po2.2.1.2.1
        have pl2 := po2.2.1.2.2
        have lt2 := po2.lt
        refine w_emit po2.2.2.1.1 (by omega) (fun τ4 em => ?_)
        refine w_aimHere (c := b) (b := e + 1) ha1 (by rw [em.2.2.1]; omega) (by omega) (by omega) (fun τ5 f5 i5 n5 v5 => ⟨by omega, fun r11 h11 => ?_⟩)
        refine ih r11 τ5 j2 (e + 1) (c + 1) (by omega) (po_jn (m := 3) hr po st (by omega) n2 sk po2 em f5 i5 n5 v5 (fun cd1 rb cd2 re => ?_)) (fun r h => hrd r (Rd.k_op (Or.inr cc) (ok.1 r h))) ok.2 (by omega) (by omega)
        obtain ⟨f, g1, g2⟩ := cd1.two cd2
        refine CD.s (f := f) (Or.inr ⟨Tp9 X j1, b, e, g1, cc, ?_, rb, g2, re, rfl⟩)
        rw [em_c (by omega), c1]; rfl
      · obtain ⟨f, no⟩ := no
        exact ⟨f, hrd _ (Rd.k_op (Or.inr cc) no)⟩
    · have c1 : rc9 X (Tp9 X j1) ≠ 31 := c1
      have h16 : km9 (rc9 X (Tp9 X j1)) ≠ 16 := h16
      have no : ¬ ((KT9 X).c (Tp9 X j1) = 16 ∨ (KT9 X).c (Tp9 X j1) = 17) := by
        exact fun z => z.elim h16 (fun z => c1 (kc17.mp z))
      exact k1 τ j1 b po ⟨hrd _ (Rd.k_end no), no⟩
theorem r_cond (hU : U ≤ 9600) (hG : RgW X n U (G 8) 8 d) : RgW X n U (W_Po_readCondition G) 9 d := by
  intro dd σ j a Q hd hr ha hu _ k1 k0
  have hX := hr.1.1.1.2
  refine hG dd σ j a _ hd hr ha hu pr_no (fun τ j1 b po ok => ⟨fun z => absurd z (by decide), fun _ => ?_⟩) (fun τ po no => ⟨fun _ => k0 τ po no, fun z => absurd rfl z⟩)
  have ok : (∀ r, Rd (KT9 X) 4 d (Tp9 X j1) r → Rd (KT9 X) 3 d (Tp9 X j) r) ∧ _ := ok
  have pl := po.2.1.2.2
  refine wl_cond hU hG hd hr hu k1 k0 fuF 0 τ j1 b 0 (by decide) ⟨po.1, po.2.1, po.2.2.1, ?_⟩ ok.1 ok.2 (by omega) (by show 1200 - 0 + 5 ≤ 100000; decide)
  obtain ⟨f, cd⟩ := po.2.2.2
  exact CD.s (f := f) (Or.inl cd)
end ring9
/-- what a method may need yet: calls at this depth, depths -/
noncomputable def nnR (m d : Nat) : Nat := 12 * (20 - d) + [3, 2, 2, 4, 5, 6, 7, 8, 9, 10].getD m 0
theorem ring_all {X : Txt} {n U : Nat} (hU : U ≤ 9600) : ∀ (R m d : Nat), m ≤ 9 → d ≤ 20 → nnR m d ≤ R → RgW X n U (WRm R m) m d
  | 0, m, d, hm, hd, h => by
    exfalso
    unfold nnR at h
    rcases (by omega : m = 0 ∨ m = 1 ∨ m = 2 ∨ m = 3 ∨ m = 4 ∨ m = 5 ∨ m = 6 ∨ m = 7 ∨ m = 8 ∨ m = 9) with rfl | rfl | rfl | rfl | rfl | rfl | rfl | rfl | rfl | rfl <;> simp at h
  | R + 1, m, d, hm, hd, h => by
    have ih := ring_all hU R (X := X) (n := n)
    have g : ∀ m', m' ≤ 9 → nnR m' d ≤ R → RgW X n U (WRm R m') m' d := fun m' h1 h2 => ih m' d h1 hd h2
    have g1 : ∀ m', m' ≤ 9 → d < 20 → RgW X n U (WRm R m') m' (d + 1) := fun m' h1 h2 => ih m' (d + 1) h1 (by omega) (by
      unfold nnR at h ⊢
      rcases (by omega : m = 0 ∨ m = 1 ∨ m = 2 ∨ m = 3 ∨ m = 4 ∨ m = 5 ∨ m = 6 ∨ m = 7 ∨ m = 8 ∨ m = 9) with rfl | rfl | rfl | rfl | rfl | rfl | rfl | rfl | rfl | rfl <;> rcases (by omega : m' = 0 ∨ m' = 1 ∨ m' = 2 ∨ m' = 3 ∨ m' = 4 ∨ m' = 5 ∨ m' = 6 ∨ m' = 7 ∨ m' = 8 ∨ m' = 9) with rfl | rfl | rfl | rfl | rfl | rfl | rfl | rfl | rfl | rfl <;> simp at h ⊢ <;> omega)
    unfold nnR at h g
    rcases (by omega : m = 0 ∨ m = 1 ∨ m = 2 ∨ m = 3 ∨ m = 4 ∨ m = 5 ∨ m = 6 ∨ m = 7 ∨ m = 8 ∨ m = 9) with rfl | rfl | rfl | rfl | rfl | rfl | rfl | rfl | rfl | rfl <;> simp at h
    · exact r_term hU (g 1 (by decide) (by simp; omega)) (g 2 (by decide) (by simp; omega))
    · exact r_nested hU (fun q => ⟨g1 0 (by decide) q, g1 4 (by decide) q⟩)
    · exact r_item hU (fun q => g1 4 (by decide) q)
    · exact r_product hU (g 0 (by decide) (by simp; omega))
    · exact r_sum hU (g 3 (by decide) (by simp; omega))
    · exact r_cmp hU (g 4 (by decide) (by simp; omega))
    · exact r_both hU (g 5 (by decide) (by simp; omega)) (fun q => g1 9 (by decide) q)
    · exact r_such hU (g 5 (by decide) (by simp; omega)) (g 6 (by decide) (by simp; omega)) (fun q => g1 7 (by decide) q)
    · exact r_part hU (g 7 (by decide) (by simp; omega))
    · exact r_cond hU (g 8 (by decide) (by simp; omega))
/-- a condition is read -/
theorem w_readCondition {σ : zS} {X : Txt} {n j a U : Nat} {Q : Int32 → zS → Prop} (hU : U ≤ 9600) (hr : RdT σ X n j) (ha : (σ.1 17 15).toInt = (a : Int)) (hu : a + (X.2 - Tp9 X j) ≤ U) (k1 : ∀ τ j' b, PoS σ τ X n j a 3 0 j' b → RdOk X 9 0 (Tp9 X j) (Tp9 X j') → Q 1 τ) (k0 : ∀ τ, PoF σ τ a → RdNo X 9 0 (Tp9 X j) → Q 0 τ) : WR_Po_readCondition 0 σ Q :=
  ring_all hU 400 9 0 (by decide) (by decide) (by decide) 0 σ j a Q (by decide) hr ha hu pr_no k1 k0

end
