section
/-! ===== THE JUDGE, 85: what the class's codes work on ===== -/
noncomputable def itC (σ : zS) (f : Nat) (i : Int) : EntJ := if (σ.1 7 f).toInt = 0 then (2, 0) else if ¬ (0 ≤ i ∧ i ≤ (σ.1 8 f).toInt - 1) then (3, 2) else ((if (σ.1 7 f).toInt = 2 then 1 else 0), (σ.2 9 (20 * f + i.toNat)).toInt)
noncomputable def paC (σ : zS) (f : Nat) (v : Int) : EntJ := itC σ f (if 0 ≤ v ∧ v ≤ 19 then v else -1)
noncomputable def hasC (σ : zS) (f : Nat) (v : Int) : Nat → Bool
  | 0 => false
  | n + 1 => hasC σ f v n || decide ((σ.2 9 (20 * f + n)).toInt = v)
noncomputable def mgC (σ : zS) (f : Nat) (v : Int) : EntJ := if (σ.1 7 f).toInt = 0 then (2, 0) else if (σ.1 7 f).toInt ≠ 3 then (3, 4) else if hasC σ f v (σ.1 8 f).toInt.toNat then (4, 0) else (5, 0)
theorem itc_u {σ : zS} {f : Nat} {i : Int} (h : (σ.1 7 f).toInt = 0) : itC σ f i = (2, 0) := by unfold itC; rw [if_pos h]
theorem itc_f {σ : zS} {f : Nat} {i : Int} (h : (σ.1 7 f).toInt ≠ 0) (h2 : ¬ (0 ≤ i ∧ i ≤ (σ.1 8 f).toInt - 1)) : itC σ f i = (3, 2) := by unfold itC; rw [if_neg h, if_pos h2]
theorem itc_0 {σ : zS} {f : Nat} {i : Int} (h : (σ.1 7 f).toInt ≠ 0) (h2 : 0 ≤ i ∧ i ≤ (σ.1 8 f).toInt - 1) (h3 : (σ.1 7 f).toInt ≠ 2) : itC σ f i = (0, (σ.2 9 (20 * f + i.toNat)).toInt) := by unfold itC; rw [if_neg h, if_neg (fun q => q h2), if_neg h3]
theorem itc_1 {σ : zS} {f : Nat} {i : Int} (h : (σ.1 7 f).toInt ≠ 0) (h2 : 0 ≤ i ∧ i ≤ (σ.1 8 f).toInt - 1) (h3 : (σ.1 7 f).toInt = 2) : itC σ f i = (1, (σ.2 9 (20 * f + i.toNat)).toInt) := by unfold itC; rw [if_neg h, if_neg (fun q => q h2), if_pos h3]
theorem mgc_u0 {σ : zS} {f : Nat} {v : Int} (h : (σ.1 7 f).toInt = 0) : mgC σ f v = (2, 0) := by unfold mgC; rw [if_pos h]
theorem mgc_x {σ : zS} {f : Nat} {v : Int} (h : (σ.1 7 f).toInt ≠ 0) (h3 : (σ.1 7 f).toInt ≠ 3) : mgC σ f v = (3, 4) := by unfold mgC; rw [if_neg h, if_pos h3]
theorem cs_c1 {σ : zS} {fn : Nat} (hc : ∀ f : Nat, f < 480 → 0 ≤ (σ.1 8 f).toInt ∧ (σ.1 8 f).toInt ≤ 20) (hfn : fn < 480) : ((σ.1 8 fn) - 1).toInt = (σ.1 8 fn).toInt - 1 := by
  have e : (1 : Int32).toInt = 1 := by decide
  have := hc fn hfn
  rw [i32_sub (by rw [e]; omega), e]
theorem mgc_1 {σ : zS} {f : Nat} {v : Int} (h3 : (σ.1 7 f).toInt = 3) (h : hasC σ f v (σ.1 8 f).toInt.toNat = true) : mgC σ f v = (4, 0) := by
  unfold mgC; rw [if_neg (by omega), if_neg (by omega), h]; rfl
theorem mgc_0 {σ : zS} {f : Nat} {v : Int} (h3 : (σ.1 7 f).toInt = 3) (h : ¬ hasC σ f v (σ.1 8 f).toInt.toNat = true) : mgC σ f v = (5, 0) := by
  unfold mgC; rw [if_neg (by omega), if_neg (by omega), if_neg h]
theorem hac_mono {σ : zS} {f : Nat} {v : Int} : ∀ {n m : Nat}, hasC σ f v n = true → n ≤ m → hasC σ f v m = true
  | n, 0, h, hm => by have e : n = 0 := by omega
                      subst e; exact h
  | n, m + 1, h, hm => by
    by_cases e : n = m + 1
    · subst e; exact h
    · unfold hasC; rw [hac_mono h (by omega), Bool.true_or]
theorem hac_eq {σ : zS} {f n m : Nat} {v : Int} (h : (σ.2 9 (20 * f + n)).toInt = v) (hm : n < m) : hasC σ f v m = true := hac_mono (n := n + 1) (by unfold hasC; rw [decide_eq_true h, Bool.or_true]) hm
theorem hac_ne {σ : zS} {f n : Nat} {v : Int} (h : ¬ hasC σ f v n = true) (h2 : (σ.2 9 (20 * f + n)).toInt ≠ v) : ¬ hasC σ f v (n + 1) = true := by
  unfold hasC; rw [decide_eq_false h2, Bool.or_false]; exact h
/-- all of it, for the class -/
noncomputable def EvC (σ : zS) (who thing t : Int) : EvJ := (fun c v => if c < 2 then (c, v) else if c = 2 then (0, t) else if c = 3 then (0, (σ.1 27 7).toInt - t) else if c = 4 then gd (fsJ who thing (c32 v)) (itC σ (fsJ who thing (c32 v)) 0) else gd (fsJ who thing (c32 v)) ((if (σ.1 7 (fsJ who thing (c32 v))).toInt = 0 then 2 else 0), (σ.1 8 (fsJ who thing (c32 v))).toInt),
  (fun f v => gd (fsJ who thing (c32 f)) (paC σ (fsJ who thing (c32 f)) v), (ngJ, (arJ, (fun c => cpJ (c32 c), (fun f v => gd (fsJ who thing (c32 f)) (mgC σ (fsJ who thing (c32 f)) v), fun f => if fsJ who thing (c32 f) < 480 ∧ ¬ (σ.1 7 (fsJ who thing (c32 f))).toInt = 0 then (4, 0) else (5, 0)))))))
/-! ===== the class's stacks ===== -/
noncomputable def tcJ (x : EntJ) : Int := if x.1 = 4 then 1 else if x.1 = 5 then 0 else 2
noncomputable def VsE (τ : zS) : List EntJ → Prop
  | [] => True
  | x :: V => (((τ.1 29 V.length).toInt = x.1 ∧ (τ.2 28 V.length).toInt = x.2) ∧ x.1 ≤ 1) ∧ VsE τ V
noncomputable def TsE (τ : zS) : List EntJ → Prop
  | [] => True
  | x :: T => ((τ.1 30 T.length).toInt = tcJ x ∧ (x.1 = 2 ∨ x.1 = 4 ∨ x.1 = 5)) ∧ TsE τ T
noncomputable def FrC (σ τ : zS) : Prop := (∀ k j, k ≠ 29 → k ≠ 30 → ¬ (k = 27 ∧ (j = 10 ∨ j = 12 ∨ j = 13)) → τ.1 k j = σ.1 k j) ∧ ∀ k j, k ≠ 28 → τ.2 k j = σ.2 k j
noncomputable def CsJ (σ τ : zS) (V T : List EntJ) (fl : Int) : Prop := FrC σ τ ∧ ((τ.1 27 10).toInt = V.length ∧ V.length ≤ 64) ∧ ((τ.1 27 12).toInt = T.length ∧ T.length ≤ 64) ∧ (τ.1 27 13).toInt = fl ∧ VsE τ V ∧ TsE τ T
theorem VsE.cg {τ τ' : zS} : ∀ {V : List EntJ}, VsE τ V → (∀ i, i < V.length → τ'.1 29 i = τ.1 29 i ∧ τ'.2 28 i = τ.2 28 i) → VsE τ' V
  | [], _, _ => trivial
  | x :: V, h, hc => by
    have h1 := hc V.length (by rw [List.length_cons]; omega)
    exact ⟨by rw [h1.1, h1.2]; exact h.1, h.2.cg (fun i hi => hc i (by rw [List.length_cons]; omega))⟩
theorem TsE.cg {τ τ' : zS} : ∀ {T : List EntJ}, TsE τ T → (∀ i, i < T.length → τ'.1 30 i = τ.1 30 i) → TsE τ' T
  | [], _, _ => trivial
  | x :: T, h, hc => by
    have h1 := hc T.length (by rw [List.length_cons]; omega)
    exact ⟨by rw [h1]; exact h.1, h.2.cg (fun i hi => hc i (by rw [List.length_cons]; omega))⟩
theorem cs_s {σ τ : zS} {V T : List EntJ} {fl : Int} (h : CsJ σ τ V T fl) (f : Nat) : τ.1 7 f = σ.1 7 f ∧ τ.1 8 f = σ.1 8 f ∧ τ.2 9 f = σ.2 9 f ∧ τ.1 21 f = σ.1 21 f ∧ τ.2 22 f = σ.2 22 f := ⟨h.1.1 7 f (by decide) (by decide) (by omega), h.1.1 8 f (by decide) (by decide) (by omega), h.1.2 9 f (by decide), h.1.1 21 f (by decide) (by decide) (by omega), h.1.2 22 f (by decide)⟩
theorem cs_j {σ τ : zS} {V T : List EntJ} {fl : Int} (h : CsJ σ τ V T fl) : τ.1 27 3 = σ.1 27 3 ∧ τ.1 27 5 = σ.1 27 5 ∧ τ.1 27 6 = σ.1 27 6 ∧ τ.1 27 7 = σ.1 27 7 := ⟨h.1.1 27 3 (by decide) (by decide) (by omega), h.1.1 27 5 (by decide) (by decide) (by omega), h.1.1 27 6 (by decide) (by decide) (by omega), h.1.1 27 7 (by decide) (by decide) (by omega)⟩
theorem cs_tr1 {σ τ τ1 : zS} {V T : List EntJ} {fl : Int} {n : Nat} {t : Int32} (h : CsJ σ τ V T fl) (h1 : zI τ 30 n t = τ1) : (τ1.1 27 12).toInt = T.length := by
  rw [← h1, yI_ne (by omega)]; exact h.2.2.1.1
theorem cs_truth {σ τ τ1 τ2 : zS} {V T : List EntJ} {fl : Int} {t : Int32} {x : EntJ} (h : CsJ σ τ V T fl) (hl : T.length < 64) (ht : t.toInt = tcJ x) (hk : x.1 = 2 ∨ x.1 = 4 ∨ x.1 = 5) (h1 : zI τ 30 T.length t = τ1) (h2 : zI τ1 27 12 (τ1.1 27 12 + 1) = τ2) : CsJ σ τ2 V (x :: T) fl := by
  obtain ⟨⟨a1, a2⟩, a3, a4, a5, a6, a7⟩ := h
  have e1 : ∀ k j, ¬ (k = 30 ∧ j = T.length) → ¬ (k = 27 ∧ j = 12) → τ2.1 k j = τ.1 k j := fun k j q1 q2 => by rw [← h2, yI_ne q2, ← h1, yI_ne q1]
  have e2 : ∀ k j, τ2.2 k j = τ.2 k j := fun k j => by rw [← h2, yI_l, ← h1, yI_l]
  refine ⟨⟨fun k j q1 q2 q3 => by rw [e1 k j (fun z => q2 z.1) (by omega)]; exact a1 k j q1 q2 q3, fun k j q => by rw [e2]; exact a2 k j q⟩, by rw [e1 _ _ (by omega) (by omega)]; exact a3, ⟨?_, by rw [List.length_cons]; omega⟩, by rw [e1 _ _ (by omega) (by omega)]; exact a5, a6.cg (fun i _ => ⟨e1 _ _ (by omega) (by omega), e2 _ _⟩), ⟨⟨?_, hk⟩, a7.cg (fun i hi => e1 _ _ (by omega) (by omega))⟩⟩
  · rw [← h2, yI_at, i32_le (n := T.length) (by rw [← h1, yI_ne (by omega)]; exact a4.1) (by omega), List.length_cons]; rfl
  · rw [← h2, yI_ne (by omega), ← h1, yI_at]; exact ht
theorem cs_v1 {σ τ τ1 : zS} {V T : List EntJ} {fl : Int} {n : Nat} {t : Int32} (h : CsJ σ τ V T fl) (h1 : zI τ 29 n t = τ1) : (τ1.1 27 10).toInt = V.length := by
  rw [← h1, yI_ne (by omega)]; exact h.2.1.1
theorem cs_value {σ τ τ1 τ2 τ3 : zS} {V T : List EntJ} {fl : Int} {r : Int32} {v : Int64} {c : Nat} (h : CsJ σ τ V T fl) (hl : V.length < 64) (hr : r.toInt = (c : Int)) (hc1 : c ≤ 1) (h1 : zI τ 29 V.length r = τ1) (h2 : zJ τ1 28 V.length v = τ2) (h3 : zI τ2 27 10 (τ2.1 27 10 + 1) = τ3) : CsJ σ τ3 ((c, v.toInt) :: V) T fl := by
  obtain ⟨⟨a1, a2⟩, a3, a4, a5, a6, a7⟩ := h
  have e1 : ∀ k j, ¬ (k = 29 ∧ j = V.length) → ¬ (k = 27 ∧ j = 10) → τ3.1 k j = τ.1 k j := fun k j q1 q2 => by rw [← h3, yI_ne q2, ← h2, yJ_i, ← h1, yI_ne q1]
  have e2 : ∀ k j, ¬ (k = 28 ∧ j = V.length) → τ3.2 k j = τ.2 k j := fun k j q => by rw [← h3, yI_l, ← h2, yJ_ne q, ← h1, yI_l]
  refine ⟨⟨fun k j q1 q2 q3 => by rw [e1 k j (fun z => q1 z.1) (by omega)]; exact a1 k j q1 q2 q3, fun k j q => by rw [e2 k j (fun z => q z.1)]; exact a2 k j q⟩, ⟨?_, by rw [List.length_cons]; omega⟩, by rw [e1 _ _ (by omega) (by omega)]; exact a4, by rw [e1 _ _ (by omega) (by omega)]; exact a5, ⟨⟨⟨?_, ?_⟩, hc1⟩, a6.cg (fun i hi => ⟨e1 _ _ (by omega) (by omega), e2 _ _ (by omega)⟩)⟩, a7.cg (fun i hi => e1 _ _ (by omega) (by omega))⟩
  · rw [← h3, yI_at, i32_le (n := V.length) (by rw [← h2, yJ_i, ← h1, yI_ne (by omega)]; exact a3.1) (by omega), List.length_cons]; rfl
  · rw [← h3, yI_ne (by omega), ← h2, yJ_i, ← h1, yI_at]; exact hr
  · rw [← h3, yI_l, ← h2, yJ_at]
theorem cs_fail {σ τ τ1 : zS} {V T : List EntJ} {fl : Int} {n : Int32} (h : CsJ σ τ V T fl) (h1 : zI τ 27 13 n = τ1) : CsJ σ τ1 V T n.toInt := by
  obtain ⟨⟨a1, a2⟩, a3, a4, a5, a6, a7⟩ := h
  have e1 : ∀ k j, ¬ (k = 27 ∧ j = 13) → τ1.1 k j = τ.1 k j := fun k j q => by rw [← h1, yI_ne q]
  have e2 : ∀ k j, τ1.2 k j = τ.2 k j := fun k j => by rw [← h1, yI_l]
  exact ⟨⟨fun k j q1 q2 q3 => by rw [e1 k j (by omega)]; exact a1 k j q1 q2 q3, fun k j q => by rw [e2]; exact a2 k j q⟩, by rw [e1 _ _ (by omega)]; exact a3, by rw [e1 _ _ (by omega)]; exact a4, by rw [← h1, yI_at], a6.cg (fun i _ => ⟨e1 _ _ (by omega), e2 _ _⟩), a7.cg (fun i _ => e1 _ _ (by omega))⟩
/-- values are taken off, m of them: they still lie there -/
theorem cs_down {σ τ τ1 : zS} {V W T : List EntJ} {fl : Int} {n : Int32} (h : CsJ σ τ V T fl) (h1 : zI τ 27 10 n = τ1) (hn : n.toInt = W.length) (hW : W.length ≤ 64) (hv : VsE τ W) : CsJ σ τ1 W T fl ∧ ∀ k j, ¬ (k = 27 ∧ j = 10) → τ1.1 k j = τ.1 k j := by
  obtain ⟨⟨a1, a2⟩, a3, a4, a5, a6, a7⟩ := h
  have e1 : ∀ k j, ¬ (k = 27 ∧ j = 10) → τ1.1 k j = τ.1 k j := fun k j q => by rw [← h1, yI_ne q]
  have e2 : ∀ k j, τ1.2 k j = τ.2 k j := fun k j => by rw [← h1, yI_l]
  exact ⟨⟨⟨fun k j q1 q2 q3 => by rw [e1 k j (by omega)]; exact a1 k j q1 q2 q3, fun k j q => by rw [e2]; exact a2 k j q⟩, ⟨by rw [← h1, yI_at]; exact hn, hW⟩, by rw [e1 _ _ (by omega)]; exact a4, by rw [e1 _ _ (by omega)]; exact a5, hv.cg (fun i _ => ⟨e1 _ _ (by omega), e2 _ _⟩), a7.cg (fun i _ => e1 _ _ (by omega))⟩, e1⟩
/-- one value is taken off; two are -/
noncomputable def Q1J (σ τ : zS) (x : EntJ) (V T : List EntJ) (fl : Int) : Prop := CsJ σ τ V T fl ∧ (((τ.1 29 V.length).toInt = x.1 ∧ (τ.2 28 V.length).toInt = x.2) ∧ x.1 ≤ 1) ∧ V.length < 64
theorem cs_pop {σ τ τ1 : zS} {V T : List EntJ} {x : EntJ} {fl : Int} (h : CsJ σ τ (x :: V) T fl) (h1 : zI τ 27 10 (τ.1 27 10 - 1) = τ1) : Q1J σ τ1 x V T fl := by
  have e : (1 : Int32).toInt = 1 := by decide
  have hl := h.2.1
  rw [List.length_cons] at hl
  have ⟨d1, d2⟩ := cs_down (W := V) h h1 (by rw [i32_sub (by rw [e]; omega), e]; omega) (by omega) h.2.2.2.2.1.2
  have d3 : τ1.2 28 V.length = τ.2 28 V.length := by rw [← h1, yI_l]
  exact ⟨d1, ⟨⟨by rw [d2 _ _ (by omega)]; exact h.2.2.2.2.1.1.1.1, by rw [d3]; exact h.2.2.2.2.1.1.1.2⟩, h.2.2.2.2.1.1.2⟩, by omega⟩
noncomputable def Q2J (σ τ : zS) (x y : EntJ) (V T : List EntJ) (fl : Int) : Prop := CsJ σ τ V T fl ∧ (((τ.1 29 V.length).toInt = x.1 ∧ (τ.2 28 V.length).toInt = x.2) ∧ ((τ.1 29 (V.length + 1)).toInt = y.1 ∧ (τ.2 28 (V.length + 1)).toInt = y.2) ∧ x.1 ≤ 1 ∧ y.1 ≤ 1) ∧ V.length + 1 < 64
theorem cs_pop2 {σ τ τ1 : zS} {V T : List EntJ} {x y : EntJ} {fl : Int} (h : CsJ σ τ (y :: x :: V) T fl) (h1 : zI τ 27 10 (τ.1 27 10 - 2) = τ1) : Q2J σ τ1 x y V T fl := by
  have e : (2 : Int32).toInt = 2 := by decide
  have hl := h.2.1
  rw [List.length_cons, List.length_cons] at hl
  have ⟨d1, d2⟩ := cs_down (W := V) h h1 (by rw [i32_sub (by rw [e]; omega), e]; omega) (by omega) h.2.2.2.2.1.2.2
  have d3 : ∀ j, τ1.2 28 j = τ.2 28 j := fun j => by rw [← h1, yI_l]
  exact ⟨d1, ⟨⟨by rw [d2 _ _ (by omega)]; exact h.2.2.2.2.1.2.1.1.1, by rw [d3]; exact h.2.2.2.2.1.2.1.1.2⟩, ⟨by rw [d2 _ _ (by omega)]; exact h.2.2.2.2.1.1.1.1, by rw [d3]; exact h.2.2.2.2.1.1.1.2⟩, h.2.2.2.2.1.2.1.2, h.2.2.2.2.1.1.2⟩, by omega⟩
theorem Q2J.t1 {σ τ : zS} {x y : EntJ} {V T : List EntJ} {fl : Int} (h : Q2J σ τ x y V T fl) : (τ.1 27 10 + 1).toInt = ((V.length + 1 : Nat) : Int) := by
  rw [i32_le h.1.2.1.1 (by have := h.2.2; omega)]; rfl
/-- how an op of sums ends, and what it tells -/
noncomputable def OutV (σ τ : zS) (x : EntJ) (W T : List EntJ) (o : Int32) : Prop := (x.1 ≤ 1 ∧ o.toInt = 4 ∧ CsJ σ τ (x :: W) T 0) ∨ (x.1 = 2 ∧ o.toInt = 2 ∧ ∃ V, CsJ σ τ V T 0) ∨ (x.1 = 3 ∧ o.toInt = 3 ∧ ∃ V, CsJ σ τ V T x.2)
noncomputable def OutT (σ τ : zS) (x : EntJ) (W T : List EntJ) (o : Int32) : Prop := (4 ≤ x.1 ∧ o.toInt = 4 ∧ CsJ σ τ W (x :: T) 0) ∨ (x.1 = 2 ∧ o.toInt = 2 ∧ ∃ V, CsJ σ τ V T 0) ∨ (x.1 = 3 ∧ o.toInt = 3 ∧ ∃ V, CsJ σ τ V T x.2)
/-! ===== the class's ops, one by one ===== -/
noncomputable abbrev ECV (σ : zS) : EvJ := EvC σ (σ.1 27 3).toInt (σ.1 27 5).toInt (σ.1 27 6).toInt
noncomputable abbrev RC9 (σ : zS) : CwJ := fun i => ((σ.1 21 i).toInt.toNat, (σ.2 22 i).toInt)
theorem out_2 {σ τ : zS} {x : EntJ} {V W T : List EntJ} {o : Int32} (hx : x.1 = 2) (ho : o.toInt = 2) (h : CsJ σ τ V T 0) : OutV σ τ x W T o := Or.inr (Or.inl ⟨hx, ho, V, h⟩)
theorem out_3 {σ τ : zS} {x : EntJ} {V W T : List EntJ} {o : Int32} {n : Int} (hx : x = (3, n)) (ho : o.toInt = 3) (h : CsJ σ τ V T n) : OutV σ τ x W T o := by
  subst hx; exact Or.inr (Or.inr ⟨rfl, ho, V, h⟩)
theorem out_4 {σ τ : zS} {x y : EntJ} {W T : List EntJ} {o : Int32} (hx : x = y) (h1 : y.1 ≤ 1) (ho : o.toInt = 4) (h : CsJ σ τ (y :: W) T 0) : OutV σ τ x W T o := by
  subst hx; exact Or.inl ⟨h1, ho, h⟩
theorem outt_2 {σ τ : zS} {x : EntJ} {V W T : List EntJ} {o : Int32} (hx : x.1 = 2) (ho : o.toInt = 2) (h : CsJ σ τ V T 0) : OutT σ τ x W T o := Or.inr (Or.inl ⟨hx, ho, V, h⟩)
theorem outt_3 {σ τ : zS} {x : EntJ} {V W T : List EntJ} {o : Int32} {n : Int} (hx : x = (3, n)) (ho : o.toInt = 3) (h : CsJ σ τ V T n) : OutT σ τ x W T o := by
  subst hx; exact Or.inr (Or.inr ⟨rfl, ho, V, h⟩)
theorem outt_4 {σ τ : zS} {x y : EntJ} {W T : List EntJ} {o : Int32} (hx : x = y) (h1 : 4 ≤ y.1) (ho : o.toInt = 4) (h : CsJ σ τ W (y :: T) 0) : OutT σ τ x W T o := by
  subst hx; exact Or.inl ⟨h1, ho, h⟩
theorem cop_l {E : EvJ} {c : Nat} {v : Int} {V W : List EntJ} {x : EntJ} (h : cop9 E c v V = some (x, W)) (hc : c < 6) : x = E.ld (lod9 c) v ∧ W = V := by
  unfold cop9 at h; rw [if_pos hc] at h
  have := Option.some.inj h
  exact ⟨(congrArg Prod.fst this).symm, (congrArg Prod.snd this).symm⟩
theorem cop_6 {E : EvJ} {c : Nat} {v : Int} {V W : List EntJ} {x : EntJ} (h : cop9 E c v V = some (x, W)) (hc : c = 6) : ∃ a, V = a :: W ∧ x = onJ9 (E.pa v) a := by
  unfold cop9 at h; rw [if_neg (by omega), if_pos hc] at h
  cases V with
  | nil => cases h
  | cons a V =>
    have := Option.some.inj h
    have e2 : V = W := congrArg Prod.snd this
    exact ⟨a, by rw [e2], (congrArg Prod.fst this).symm⟩
theorem cop_7 {E : EvJ} {c : Nat} {v : Int} {V W : List EntJ} {x : EntJ} (h : cop9 E c v V = some (x, W)) (hc : c = 7) : ∃ a, V = a :: W ∧ x = E.ng a := by
  unfold cop9 at h; rw [if_neg (by omega), if_neg (by omega), if_pos hc] at h
  cases V with
  | nil => cases h
  | cons a V =>
    have := Option.some.inj h
    have e2 : V = W := congrArg Prod.snd this
    exact ⟨a, by rw [e2], (congrArg Prod.fst this).symm⟩
theorem cop_8 {E : EvJ} {c : Nat} {v : Int} {V W : List EntJ} {x : EntJ} (h : cop9 E c v V = some (x, W)) (hc : 8 ≤ c) (hc2 : c < 13) : ∃ a b, V = b :: a :: W ∧ x = E.ar c a b := by
  unfold cop9 at h; rw [if_neg (by omega), if_neg (by omega), if_neg (by omega), if_pos hc2] at h
  cases V with
  | nil => cases h
  | cons b V =>
    cases V with
    | nil => cases h
    | cons a V =>
      have := Option.some.inj h
      have e2 : V = W := congrArg Prod.snd this
      exact ⟨a, b, by rw [e2], (congrArg Prod.fst this).symm⟩
theorem cop_13 {E : EvJ} {c : Nat} {v : Int} {V W : List EntJ} {x : EntJ} (h : cop9 E c v V = some (x, W)) (hc : 13 ≤ c) (hc2 : c < 19) : ∃ a b, V = b :: a :: W ∧ x = E.cp ((c : Int) - 13) a b := by
  unfold cop9 at h; rw [if_neg (by omega), if_neg (by omega), if_neg (by omega), if_neg (by omega), if_pos hc2] at h
  cases V with
  | nil => cases h
  | cons b V =>
    cases V with
    | nil => cases h
    | cons a V =>
      have := Option.some.inj h
      have e2 : V = W := congrArg Prod.snd this
      exact ⟨a, b, by rw [e2], (congrArg Prod.fst this).symm⟩
theorem cop_19 {E : EvJ} {c : Nat} {v : Int} {V W : List EntJ} {x : EntJ} (h : cop9 E c v V = some (x, W)) (hc : 19 ≤ c) : ∃ a, V = a :: W ∧ x = onJ9 (E.mg v) a := by
  unfold cop9 at h; rw [if_neg (by omega), if_neg (by omega), if_neg (by omega), if_neg (by omega), if_neg (by omega)] at h
  cases V with
  | nil => cases h
  | cons a V =>
    have := Option.some.inj h
    have e2 : V = W := congrArg Prod.snd this
    exact ⟨a, by rw [e2], (congrArg Prod.fst this).symm⟩
theorem ec_01 {σ : zS} {w u t v : Int} {c : Nat} (h : c < 2) : (EvC σ w u t).ld (lod9 c) v = (c, v) := by
  have e : lod9 c = c := by unfold lod9; rw [if_neg (by omega), if_neg (by omega)]
  show (if lod9 c < 2 then (lod9 c, v) else _) = _
  rw [e, if_pos h]
theorem ec_2 {σ : zS} {w u t v : Int} {c : Nat} (h : c = 2) : (EvC σ w u t).ld (lod9 c) v = (0, t) := by subst h; rfl
theorem ec_3 {σ : zS} {w u t v : Int} {c : Nat} (h : c = 3) : (EvC σ w u t).ld (lod9 c) v = (0, (σ.1 27 7).toInt - t) := by subst h; rfl
theorem ec_5 {σ : zS} {w u t v : Int} {c : Nat} (h : c = 5) (hf : fsJ w u (c32 v) < 480) : (EvC σ w u t).ld (lod9 c) v = itC σ (fsJ w u (c32 v)) 0 := by
  subst h
  show gd (fsJ w u (c32 v)) (itC σ (fsJ w u (c32 v)) 0) = _
  rw [gd_in hf]
theorem ec_4 {σ : zS} {w u t v : Int} {c : Nat} (h : c = 4) (hf : fsJ w u (c32 v) < 480) : (EvC σ w u t).ld (lod9 c) v = ((if (σ.1 7 (fsJ w u (c32 v))).toInt = 0 then 2 else 0), (σ.1 8 (fsJ w u (c32 v))).toInt) := by
  subst h
  show gd (fsJ w u (c32 v)) _ = _
  rw [gd_in hf]
theorem ec_pa {σ : zS} {w u t f v : Int} (hf : fsJ w u (c32 f) < 480) : (EvC σ w u t).pa f v = paC σ (fsJ w u (c32 f)) v := by
  show gd (fsJ w u (c32 f)) (paC σ (fsJ w u (c32 f)) v) = _
  rw [gd_in hf]
theorem ec_mg {σ : zS} {w u t f v : Int} (hf : fsJ w u (c32 f) < 480) : (EvC σ w u t).mg f v = mgC σ (fsJ w u (c32 f)) v := by
  show gd (fsJ w u (c32 f)) (mgC σ (fsJ w u (c32 f)) v) = _
  rw [gd_in hf]
theorem ec_kn1 {σ : zS} {w u t f : Int} (hf : fsJ w u (c32 f) < 480) (h : (σ.1 7 (fsJ w u (c32 f))).toInt ≠ 0) : (EvC σ w u t).kn f = (4, 0) := by
  show (if fsJ w u (c32 f) < 480 ∧ ¬ (σ.1 7 (fsJ w u (c32 f))).toInt = 0 then ((4, 0) : EntJ) else (5, 0)) = _
  rw [if_pos ⟨hf, h⟩]
theorem ec_kn0 {σ : zS} {w u t f : Int} (h : (σ.1 7 (fsJ w u (c32 f))).toInt = 0) : (EvC σ w u t).kn f = (5, 0) := by
  show (if fsJ w u (c32 f) < 480 ∧ ¬ (σ.1 7 (fsJ w u (c32 f))).toInt = 0 then ((4, 0) : EntJ) else (5, 0)) = _
  rw [if_neg (fun q => q.2 h)]
theorem pac_it {σ : zS} {f : Nat} {v : Int} (hc : (σ.1 8 f).toInt ≤ 20) : paC σ f v = itC σ f v := by
  unfold paC
  by_cases h : 0 ≤ v ∧ v ≤ 19
  · rw [if_pos h]
  · rw [if_neg h]
    unfold itC
    by_cases h0 : (σ.1 7 f).toInt = 0
    · rw [if_pos h0, if_pos h0]
    · rw [if_neg h0, if_neg h0, if_pos (by omega), if_pos (by omega)]
theorem sl_p {p f : Int32} {z : Int} {v : Int32} {u : Int} (hv : v.toInt = p.toInt * 8 + f.toInt) (hz : f.toInt = z) (h0 : 0 ≤ z) (hp : 0 ≤ p.toInt) (h : z < 8) : v.toInt = ((fsJ p.toInt u z : Nat) : Int) := by
  unfold fsJ; rw [if_pos h, hv]; omega
theorem sl_t {p f : Int32} {z : Int} {v : Int32} {w : Int} (hv : v.toInt = (20 + p.toInt) * 8 + f.toInt) (hz : f.toInt = z - 8) (hp : 0 ≤ p.toInt) (h : 8 ≤ z) : v.toInt = ((fsJ w p.toInt z : Nat) : Int) := by
  unfold fsJ; rw [if_neg (by omega), hv]; omega
theorem lx_a {f : Int32} {v : Int64} {fn : Nat} (hf : f.toInt = (fn : Int)) (hfn : fn < 480) (hv : 0 ≤ v.toInt ∧ v.toInt ≤ 19) : (f * 20 + Int64.toInt32 v).toInt = ((20 * fn + v.toInt.toNat : Nat) : Int) := by
  have e : (20 : Int32).toInt = 20 := by decide
  have h1 : (f * 20).toInt = 20 * (fn : Int) := by rw [Int32.toInt_mul, e, hf, Int.bmod_eq_of_le (by omega) (by omega)]; omega
  have h2 : (Int64.toInt32 v).toInt = v.toInt := l2i_s rfl (by omega)
  rw [i32_add (by omega), h1, h2]; omega
theorem lx_b {f i : Int32} {fn n : Nat} (hf : f.toInt = (fn : Int)) (hfn : fn < 480) (hi : i.toInt = (n : Int)) (hn : n ≤ 19) : (f * 20 + i).toInt = ((20 * fn + n : Nat) : Int) := by
  have e : (20 : Int32).toInt = 20 := by decide
  have h1 : (f * 20).toInt = 20 * (fn : Int) := by rw [Int32.toInt_mul, e, hf, Int.bmod_eq_of_le (by omega) (by omega)]; omega
  rw [i32_add (by omega), h1]; omega
theorem age_c {σ : zS} (hn : 0 ≤ (σ.1 27 7).toInt ∧ (σ.1 27 7).toInt ≤ 1000000000) (ht : 0 ≤ (σ.1 27 6).toInt ∧ (σ.1 27 6).toInt ≤ 1000000000) : (Int32.toInt64 (σ.1 27 7 - σ.1 27 6)).toInt = (σ.1 27 7).toInt - (σ.1 27 6).toInt := by
  rw [i2l_i, i32_sub (by omega)]
/-- the value on top is put anew -/
theorem cs_setv {σ τ τ1 : zS} {V T : List EntJ} {x : EntJ} {fl : Int} {v : Int64} (h : CsJ σ τ (x :: V) T fl) (h1 : zJ τ 28 V.length v = τ1) : CsJ σ τ1 ((x.1, v.toInt) :: V) T fl := by
  obtain ⟨⟨a1, a2⟩, a3, a4, a5, a6, a7⟩ := h
  refine ⟨⟨fun k j q1 q2 q3 => by rw [← h1, yJ_i]; exact a1 k j q1 q2 q3, fun k j q => by rw [← h1, yJ_ne (fun z => q z.1)]; exact a2 k j q⟩, by rw [← h1, yJ_i]; exact a3, by rw [← h1, yJ_i]; exact a4, by rw [← h1, yJ_i]; exact a5, ⟨⟨⟨by rw [← h1, yJ_i]; exact a6.1.1.1, by rw [← h1, yJ_at]⟩, a6.1.2⟩, a6.2.cg (fun i hi => ⟨by rw [← h1, yJ_i], by rw [← h1, yJ_ne (by omega)]⟩)⟩, a7.cg (fun i hi => by rw [← h1, yJ_i])⟩
theorem cs_top {σ τ : zS} {V T : List EntJ} {x : EntJ} {fl : Int} (h : CsJ σ τ (x :: V) T fl) : (τ.1 27 10 - 1).toInt = ((V.length : Nat) : Int) ∧ V.length < 64 ∧ (τ.1 29 V.length).toInt = x.1 ∧ (τ.2 28 V.length).toInt = x.2 ∧ x.1 ≤ 1 := by
  have e : (1 : Int32).toInt = 1 := by decide
  have hl := h.2.1
  rw [List.length_cons] at hl
  exact ⟨by rw [i32_sub (by rw [e]; omega), e]; omega, by omega, h.2.2.2.2.1.1.1.1, h.2.2.2.2.1.1.1.2, h.2.2.2.2.1.1.2⟩
theorem ng_0 {x : EntJ} {v : Int64} (h : x.1 = 0) (hv : v.toInt = x.2) : ngJ x = (x.1, (-v).toInt) := by unfold ngJ; rw [if_pos h, of_i hv, h]
theorem ng_1 {x : EntJ} {v : Int64} (h : x.1 = 1) (hv : v.toInt = ngF x.2) : ngJ x = (x.1, v.toInt) := by unfold ngJ; rw [if_neg (by omega), hv, h]
theorem so_13 {c : Nat} {w : Int} {op : Int} (ho : op = (c : Int)) : ((c : Int) - 13) = op - 13 := by omega
noncomputable abbrev soC (op w : Int) : Prop := (w = 2 ∧ op = 16) ∨ (w ≠ 2 ∧ hoJ (op - 13) w)
theorem c32_c {c : Int} (h : 0 ≤ c ∧ c ≤ 15) : c32 c = c := c32_s h
theorem cmp_le (a b : Int) : cmpF a b ≤ 1 := by
  unfold cmpF
  by_cases h : a < b
  · rw [if_pos h]; omega
  · rw [if_neg h]; split <;> omega
/-- a comparison, as the class has it -/
theorem cpc_wt {c : Nat} {x y : EntJ} {r : Int32} (hc : 13 ≤ c ∧ c ≤ 18) (h : x.1 = 0 ∧ y.1 = 0) (hr : r.toInt = cmpF x.2 y.2) (hh : soC (c : Int) r.toInt) : cpJ (c32 ((c : Int) - 13)) x y = (4, 0) := by
  have hb : r.toInt ≤ 1 := by rw [hr]; exact cmp_le _ _
  rw [c32_c (by omega)]
  rcases hh with hh | hh
  · omega
  · exact (cp_wt h hr hh.2).symm
theorem cpc_wf {c : Nat} {x y : EntJ} {r : Int32} (hc : 13 ≤ c ∧ c ≤ 18) (h : x.1 = 0 ∧ y.1 = 0) (hr : r.toInt = cmpF x.2 y.2) (hh : ¬ soC (c : Int) r.toInt) : cpJ (c32 ((c : Int) - 13)) x y = (5, 0) := by
  have hb : r.toInt ≤ 1 := by rw [hr]; exact cmp_le _ _
  rw [c32_c (by omega)]
  exact (cp_wf h hr (fun q => hh (Or.inr ⟨by omega, q⟩))).symm
theorem cpc_rt {c : Nat} {x y : EntJ} {r : Int32} (hc : 13 ≤ c ∧ c ≤ 18) (h : ¬ (x.1 = 0 ∧ y.1 = 0)) (hr : OrR (rlJ x) (rlJ y) r.toInt) (hh : soC (c : Int) r.toInt) : cpJ (c32 ((c : Int) - 13)) x y = (4, 0) := by
  rw [c32_c (by omega)]
  unfold OrR at hr
  by_cases hn : isNaF (rlJ x) ∨ isNaF (rlJ y)
  · rw [if_pos hn] at hr
    rcases hh with hh | hh
    · exact (cp_nt h hn (by omega)).symm
    · exact absurd hr hh.1
  · rw [if_neg hn, ← cmp_rk] at hr
    have hb : r.toInt ≤ 1 := by rw [hr]; exact cmp_le _ _
    rcases hh with hh | hh
    · omega
    · exact (cp_rt h hn hr hh.2).symm
theorem cpc_rf {c : Nat} {x y : EntJ} {r : Int32} (hc : 13 ≤ c ∧ c ≤ 18) (h : ¬ (x.1 = 0 ∧ y.1 = 0)) (hr : OrR (rlJ x) (rlJ y) r.toInt) (hh : ¬ soC (c : Int) r.toInt) : cpJ (c32 ((c : Int) - 13)) x y = (5, 0) := by
  rw [c32_c (by omega)]
  unfold OrR at hr
  by_cases hn : isNaF (rlJ x) ∨ isNaF (rlJ y)
  · rw [if_pos hn] at hr
    exact (cp_nf h hn (fun q => hh (Or.inl ⟨hr, by omega⟩))).symm
  · rw [if_neg hn, ← cmp_rk] at hr
    have hb : r.toInt ≤ 1 := by rw [hr]; exact cmp_le _ _
    exact (cp_rf h hn hr (fun q => hh (Or.inr ⟨by omega, q⟩))).symm
/-! ===== the class's run, one step ===== -/
section K83
variable {E : EvJ} {R : CwJ} {e n i : Nat} {V T : List EntJ} {r : EntJ}
theorem crb_end (h : cr9 E R e (n + 1) i V T = some r) (hi : ¬ i < e) : (∀ t T', T = t :: T' → r = t) ∧ (T = [] → r = (4, 0)) := by
  unfold cr9 at h; rw [if_neg hi] at h
  cases T with
  | nil => exact ⟨fun t T' q => (by cases q), fun _ => (Option.some.inj h).symm⟩
  | cons t T => exact ⟨fun t' T' q => (by cases q; exact (Option.some.inj h).symm), fun q => (by cases q)⟩
theorem crb_skip (h : cr9 E R e (n + 1) i V T = some r) (hi : i < e) (ho : 24 ≤ (R i).1) : cr9 E R e n (skJ9 R i T) V T = some r := by
  unfold cr9 at h; rw [if_pos hi, if_pos ho] at h; exact h
theorem crb_kn (h : cr9 E R e (n + 1) i V T = some r) (hi : i < e) (ho : (R i).1 = 20) : T.length < 64 ∧ cr9 E R e n (i + 1) V (E.kn (R i).2 :: T) = some r := by
  unfold cr9 at h; rw [if_pos hi, if_neg (by omega), if_pos ho] at h
  by_cases hl : T.length < 64
  · rw [if_pos hl] at h; exact ⟨hl, h⟩
  · rw [if_neg hl] at h; cases h
theorem crb_not (h : cr9 E R e (n + 1) i V T = some r) (hi : i < e) (ho : (R i).1 = 21) : cr9 E R e n (i + 1) V (nts9 T) = some r := by
  unfold cr9 at h; rw [if_pos hi, if_neg (by omega), if_neg (by omega), if_pos ho] at h; exact h
theorem crb_jn (h : cr9 E R e (n + 1) i V T = some r) (hi : i < e) (ho : 22 ≤ (R i).1) (ho2 : (R i).1 ≤ 23) : ∃ b a T', T = b :: a :: T' ∧ cr9 E R e n (i + 1) V ((if a.1 = 2 ∧ b.1 = (if (R i).1 = 22 then 4 else 5) then (2, 0) else b) :: T') = some r := by
  unfold cr9 at h; rw [if_pos hi, if_neg (by omega), if_neg (by omega), if_neg (by omega), if_pos ho] at h
  cases T with
  | nil => cases h
  | cons b T =>
    cases T with
    | nil => cases h
    | cons a T => exact ⟨b, a, T, rfl, h⟩
theorem crb_op (h : cr9 E R e (n + 1) i V T = some r) (hi : i < e) (ho : (R i).1 < 20) : ∃ x W, cop9 E (R i).1 (R i).2 V = some (x, W) ∧ W.length < 64 ∧ T.length < 64 ∧ (x.1 = 3 → r = x) ∧ (x.1 = 2 → cr9 E R e n (eoc9 R e e i + 1) [] ((2, 0) :: T) = some r) ∧ (x.1 ≠ 3 → x.1 ≠ 2 → isCm (R i).1 = true → cr9 E R e n (i + 1) W (x :: T) = some r) ∧ (x.1 ≠ 3 → x.1 ≠ 2 → isCm (R i).1 = false → cr9 E R e n (i + 1) (x :: W) T = some r) := by
  unfold cr9 at h; rw [if_pos hi, if_neg (by omega), if_neg (by omega), if_neg (by omega), if_neg (by omega)] at h
  cases hc : cop9 E (R i).1 (R i).2 V with
  | none => rw [hc] at h; cases h
  | some q =>
    rw [hc] at h
    obtain ⟨x, W⟩ := q
    dsimp only at h
    by_cases hl : W.length < 64 ∧ T.length < 64
    · rw [if_pos hl] at h
      refine ⟨x, W, rfl, hl.1, hl.2, fun q => ?_, fun q => ?_, fun q1 q2 q3 => ?_, fun q1 q2 q3 => ?_⟩
      · rw [if_pos q] at h; exact (Option.some.inj h).symm
      · rw [if_neg (by omega), if_pos q] at h; exact h
      · rw [if_neg q1, if_neg q2, if_pos q3] at h; exact h
      · rw [if_neg q1, if_neg q2, q3, if_neg (by decide)] at h; exact h
    · rw [if_neg hl] at h; cases h
theorem eoc_s {m : Nat} (hi : i < e) : eoc9 R e (m + 1) i = if isCm (R i).1 then i else eoc9 R e m (i + 1) := by
  show (if i < e then (if isCm (R i).1 then i else eoc9 R e m (i + 1)) else e) = _
  rw [if_pos hi]
theorem eoc_e {m : Nat} (hi : ¬ i < e) : eoc9 R e m i = e := by
  cases m with
  | zero => rfl
  | succ m =>
    show (if i < e then (if isCm (R i).1 then i else eoc9 R e m (i + 1)) else e) = _
    rw [if_neg hi]
theorem eoc_f : ∀ {m m' i : Nat}, e ≤ i + m → e ≤ i + m' → eoc9 R e m i = eoc9 R e m' i
  | 0, m', i, h, _ => by rw [eoc_e (m := 0) (by omega), eoc_e (m := m') (by omega)]
  | m + 1, 0, i, _, h => by rw [eoc_e (m := m + 1) (by omega), eoc_e (m := 0) (by omega)]
  | m + 1, m' + 1, i, h, h' => by
    by_cases hi : i < e
    · rw [eoc_s hi, eoc_s hi, eoc_f (m := m) (m' := m') (i := i + 1) (by omega) (by omega)]
    · rw [eoc_e hi, eoc_e hi]
theorem eoc_le : ∀ {m i : Nat}, eoc9 R e m i ≤ max i e
  | 0, i => by show e ≤ max i e; omega
  | m + 1, i => by
    by_cases hi : i < e
    · rw [eoc_s hi]
      split
      · omega
      · have := eoc_le (m := m) (i := i + 1); omega
    · rw [eoc_e hi]; omega
end K83
theorem cm_iff {σ : zS} {i : Nat} (h : 0 ≤ (σ.1 21 i).toInt) : isCm ((RC9 σ) i).1 = true ↔ 13 ≤ (σ.1 21 i).toInt ∧ (σ.1 21 i).toInt ≤ 19 := by
  unfold isCm
  show (Nat.ble 13 (σ.1 21 i).toInt.toNat && Nat.ble (σ.1 21 i).toInt.toNat 19) = true ↔ _
  rw [Bool.and_eq_true, Nat.ble_eq, Nat.ble_eq]
  omega
/-- what is known of the class's code below e -/
noncomputable def CoC (σ : zS) (e : Nat) : Prop := e ≤ 9600 ∧ ∀ i, i < e → (0 ≤ (σ.1 21 i).toInt ∧ (σ.1 21 i).toInt ≤ 25) ∧ ((σ.1 21 i).toInt = 4 ∨ (σ.1 21 i).toInt = 5 ∨ (σ.1 21 i).toInt = 6 ∨ (σ.1 21 i).toInt = 19 ∨ (σ.1 21 i).toInt = 20 → 0 ≤ (σ.2 22 i).toInt ∧ (σ.2 22 i).toInt ≤ 15) ∧ (24 ≤ (σ.1 21 i).toInt → 0 ≤ (σ.2 22 i).toInt ∧ (σ.2 22 i).toInt ≤ 10000)
/-- a truth on top; two; put anew -/
theorem cs_ttop {σ τ : zS} {V T : List EntJ} {x : EntJ} {fl : Int} (h : CsJ σ τ V (x :: T) fl) : (τ.1 27 12 - 1).toInt = ((T.length : Nat) : Int) ∧ T.length < 64 ∧ (τ.1 30 T.length).toInt = tcJ x ∧ (x.1 = 2 ∨ x.1 = 4 ∨ x.1 = 5) := by
  have e : (1 : Int32).toInt = 1 := by decide
  have hl := h.2.2.1
  rw [List.length_cons] at hl
  exact ⟨by rw [i32_sub (by rw [e]; omega), e]; omega, by omega, h.2.2.2.2.2.1.1, h.2.2.2.2.2.1.2⟩
theorem cs_sett {σ τ τ1 : zS} {V T : List EntJ} {x y : EntJ} {fl : Int} {t : Int32} (h : CsJ σ τ V (x :: T) fl) (ht : t.toInt = tcJ y) (hk : y.1 = 2 ∨ y.1 = 4 ∨ y.1 = 5) (h1 : zI τ 30 T.length t = τ1) : CsJ σ τ1 V (y :: T) fl := by
  obtain ⟨⟨a1, a2⟩, a3, a4, a5, a6, a7⟩ := h
  have e1 : ∀ k j, ¬ (k = 30 ∧ j = T.length) → τ1.1 k j = τ.1 k j := fun k j q => by rw [← h1, yI_ne q]
  have e2 : ∀ k j, τ1.2 k j = τ.2 k j := fun k j => by rw [← h1, yI_l]
  exact ⟨⟨fun k j q1 q2 q3 => by rw [e1 k j (fun z => q2 z.1)]; exact a1 k j q1 q2 q3, fun k j q => by rw [e2]; exact a2 k j q⟩, by rw [e1 _ _ (by omega)]; exact a3, by rw [e1 _ _ (by omega)]; exact a4, by rw [e1 _ _ (by omega)]; exact a5, a6.cg (fun i _ => ⟨e1 _ _ (by omega), e2 _ _⟩), ⟨⟨by rw [← h1, yI_at]; exact ht, hk⟩, a7.2.cg (fun i hi => e1 _ _ (by omega))⟩⟩
noncomputable def QTJ (σ τ : zS) (a b : EntJ) (V T : List EntJ) (fl : Int) : Prop := CsJ σ τ V T fl ∧ (((τ.1 30 T.length).toInt = tcJ a ∧ (τ.1 30 (T.length + 1)).toInt = tcJ b) ∧ (a.1 = 2 ∨ a.1 = 4 ∨ a.1 = 5) ∧ (b.1 = 2 ∨ b.1 = 4 ∨ b.1 = 5)) ∧ T.length + 1 < 64
theorem cs_tpop2 {σ τ τ1 : zS} {V T : List EntJ} {a b : EntJ} {fl : Int} (h : CsJ σ τ V (b :: a :: T) fl) (h1 : zI τ 27 12 (τ.1 27 12 - 2) = τ1) : QTJ σ τ1 a b V T fl := by
  have e : (2 : Int32).toInt = 2 := by decide
  have hl := h.2.2.1
  rw [List.length_cons, List.length_cons] at hl
  obtain ⟨⟨a1, a2⟩, a3, a4, a5, a6, a7⟩ := h
  have e1 : ∀ k j, ¬ (k = 27 ∧ j = 12) → τ1.1 k j = τ.1 k j := fun k j q => by rw [← h1, yI_ne q]
  have e2 : ∀ k j, τ1.2 k j = τ.2 k j := fun k j => by rw [← h1, yI_l]
  exact ⟨⟨⟨fun k j q1 q2 q3 => by rw [e1 k j (by omega)]; exact a1 k j q1 q2 q3, fun k j q => by rw [e2]; exact a2 k j q⟩, by rw [e1 _ _ (by omega)]; exact a3, ⟨by rw [← h1, yI_at, i32_sub (by rw [e]; omega), e]; omega, by omega⟩, by rw [e1 _ _ (by omega)]; exact a5, a6.cg (fun i _ => ⟨e1 _ _ (by omega), e2 _ _⟩), a7.2.2.cg (fun i _ => e1 _ _ (by omega))⟩, ⟨⟨by rw [e1 _ _ (by omega)]; exact a7.2.1.1, by rw [e1 _ _ (by omega)]; exact a7.1.1⟩, a7.2.1.2, a7.1.2⟩, by omega⟩
theorem QTJ.t1 {σ τ : zS} {a b : EntJ} {V T : List EntJ} {fl : Int} (h : QTJ σ τ a b V T fl) : (τ.1 27 12 + 1).toInt = ((T.length + 1 : Nat) : Int) := by
  rw [i32_le h.1.2.2.1.1 (by have := h.2.2; omega)]; rfl
theorem tc_n {x : EntJ} {t : Int32} (h : t.toInt = tcJ x) (h2 : t.toInt ≠ 2) : (1 - t).toInt = tcJ (nt9 x) := by
  have e : (1 : Int32).toInt = 1 := by decide
  unfold tcJ at h
  unfold nt9 tcJ
  by_cases h4 : x.1 = 4
  · rw [if_pos h4] at h ⊢; rw [i32_sub (by omega), e, h]; rfl
  · rw [if_neg h4] at h ⊢
    by_cases h5 : x.1 = 5
    · rw [if_pos h5] at h ⊢; rw [i32_sub (by omega), e, h]; rfl
    · rw [if_neg h5] at h; exact absurd h h2
theorem tc_u {x : EntJ} (h : tcJ x = 2) : nt9 x = x := by
  unfold tcJ at h
  unfold nt9
  by_cases h4 : x.1 = 4
  · rw [if_pos h4] at h; omega
  · rw [if_neg h4] at h ⊢
    by_cases h5 : x.1 = 5
    · rw [if_pos h5] at h; omega
    · rw [if_neg h5]
theorem tc_1 {x : EntJ} : tcJ x = 1 ↔ x.1 = 4 := by
  unfold tcJ; split
  · omega
  · split <;> omega
theorem tc_0 {x : EntJ} : tcJ x = 0 ↔ x.1 = 5 := by
  unfold tcJ; split
  · omega
  · split <;> omega
theorem tc_2 {x : EntJ} (hx : x.1 = 2 ∨ x.1 = 4 ∨ x.1 = 5) : tcJ x = 2 ↔ x.1 = 2 := by
  unfold tcJ; split
  · omega
  · split <;> omega
theorem cs_3 {σ τ1 τ2 τ3 : zS} (h1 : zI σ 27 10 0 = τ1) (h2 : zI τ1 27 12 0 = τ2) (h3 : zI τ2 27 13 0 = τ3) : CsJ σ τ3 [] [] 0 := by
  have e0 : (0 : Int32).toInt = 0 := by decide
  refine ⟨⟨fun k j q1 q2 q3 => by rw [← h3, yI_ne (by omega), ← h2, yI_ne (by omega), ← h1, yI_ne (by omega)], fun k j _ => by rw [← h3, yI_l, ← h2, yI_l, ← h1, yI_l]⟩, ⟨?_, by decide⟩, ⟨?_, by decide⟩, by rw [← h3, yI_at]; exact e0, trivial, trivial⟩
  · rw [← h3, yI_ne (by omega), ← h2, yI_ne (by omega), ← h1, yI_at]; exact e0
  · rw [← h3, yI_ne (by omega), ← h2, yI_at]; exact e0
theorem cs_v0 {σ τ τ1 : zS} {V T : List EntJ} {fl : Int} (h : CsJ σ τ V T fl) (h1 : zI τ 27 10 0 = τ1) : CsJ σ τ1 [] T fl := (cs_down (W := []) h h1 (by decide) (by decide) trivial).1
theorem nt_k {x : EntJ} (h : x.1 = 2 ∨ x.1 = 4 ∨ x.1 = 5) : (nt9 x).1 = 2 ∨ (nt9 x).1 = 4 ∨ (nt9 x).1 = 5 := by
  unfold nt9
  by_cases h4 : x.1 = 4
  · rw [if_pos h4]; exact Or.inr (Or.inr rfl)
  · rw [if_neg h4]
    by_cases h5 : x.1 = 5
    · rw [if_pos h5]; exact Or.inr (Or.inl rfl)
    · rw [if_neg h5]; exact h

end
