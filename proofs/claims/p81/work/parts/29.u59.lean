section
/-! ===== N10: compare, compared ===== -/
noncomputable abbrev CmS : Type := Int × (Nat → Int)
/-- one request: what both say -/
noncomputable def cmS (σ : zS) (n : Nat) (po po' : Int) (p a t : Nat) (s : CmS) : CmS := (if ansJ (vdF σ n po (p : Int) t a (σ.1 110 0).toInt) = ansJ (vdF σ n po' (p : Int) t a (σ.1 110 0).toInt) then s.1 else s.1 + 1, fun i => if i = 5 then s.2 5 + 1 else if i = 0 then (if ansJ (vdF σ n po' (p : Int) t a (σ.1 110 0).toInt) = 1 ∧ ansJ (vdF σ n po (p : Int) t a (σ.1 110 0).toInt) ≠ 1 then s.2 0 + 1 else s.2 0) else if i = 1 then (if ansJ (vdF σ n po (p : Int) t a (σ.1 110 0).toInt) = 1 ∧ ansJ (vdF σ n po' (p : Int) t a (σ.1 110 0).toInt) ≠ 1 then s.2 1 + 1 else s.2 1) else if ansJ (vdF σ n po (p : Int) t a (σ.1 110 0).toInt) ≠ ansJ (vdF σ n po' (p : Int) t a (σ.1 110 0).toInt) ∧ s.1 = 0 then (if i = 2 then (p : Int) else if i = 3 then (a : Int) else (t : Int)) else s.2 i)
noncomputable def CmB (s : CmS) (b : Int) : Prop := (0 ≤ s.1 ∧ s.1 ≤ s.2 5) ∧ (0 ≤ s.2 0 ∧ s.2 0 ≤ s.2 5) ∧ (0 ≤ s.2 1 ∧ s.2 1 ≤ s.2 5) ∧ s.2 5 ≤ b ∧ (s.1 = 0 ↔ s.2 2 = -4)
/-- a row holds it -/
noncomputable def CmR (σ : zS) (k : Nat) (x : Int) (s : CmS) : Prop := x = s.1 ∧ ∀ i, i < 6 → (σ.1 k i).toInt = s.2 i
section N10
variable {ω : Bool} {σ τ ρ μ : zS} {n P F : Nat} {rk : Nat → Nat} {po po' : Int} {p a t : Nat} {s : CmS} {b : Int}
theorem cmS_b (h : CmB s b) : CmB (cmS σ n po po' p a t s) (b + 1) := by
  obtain ⟨h1, h2, h3, h4, h5⟩ := h
  generalize hf : ansJ (vdF σ n po (p : Int) t a (σ.1 110 0).toInt) = f
  generalize hg : ansJ (vdF σ n po' (p : Int) t a (σ.1 110 0).toInt) = g
  have e1 : (cmS σ n po po' p a t s).1 = if f = g then s.1 else s.1 + 1 := by rw [← hf, ← hg]; rfl
  have e5 : (cmS σ n po po' p a t s).2 5 = s.2 5 + 1 := rfl
  have e0 : (cmS σ n po po' p a t s).2 0 = if g = 1 ∧ f ≠ 1 then s.2 0 + 1 else s.2 0 := by rw [← hf, ← hg]; rfl
  have e3 : (cmS σ n po po' p a t s).2 1 = if f = 1 ∧ g ≠ 1 then s.2 1 + 1 else s.2 1 := by rw [← hf, ← hg]; rfl
  have e2 : (cmS σ n po po' p a t s).2 2 = if f ≠ g ∧ s.1 = 0 then (p : Int) else s.2 2 := by rw [← hf, ← hg]; rfl
  unfold CmB
  rw [e1, e5, e0, e3, e2]
  by_cases q : f = g
  · rw [if_pos q, if_neg (fun z => z.2 (by omega)), if_neg (fun z => z.2 (by omega)), if_neg (fun z => z.1 q)]
    exact ⟨by omega, by omega, by omega, by omega, h5⟩
  · rw [if_neg q]
    have c0 : 0 ≤ (if g = 1 ∧ f ≠ 1 then s.2 0 + 1 else s.2 0) ∧ (if g = 1 ∧ f ≠ 1 then s.2 0 + 1 else s.2 0) ≤ s.2 5 + 1 := by
      by_cases z : g = 1 ∧ f ≠ 1
      · rw [if_pos z]; omega
      · rw [if_neg z]; omega
    have c1 : 0 ≤ (if f = 1 ∧ g ≠ 1 then s.2 1 + 1 else s.2 1) ∧ (if f = 1 ∧ g ≠ 1 then s.2 1 + 1 else s.2 1) ≤ s.2 5 + 1 := by
      by_cases z : f = 1 ∧ g ≠ 1
      · rw [if_pos z]; omega
      · rw [if_neg z]; omega
    refine ⟨by omega, c0, c1, by omega, ?_⟩
    by_cases z : s.1 = 0
    · rw [if_pos ⟨q, z⟩]; exact ⟨fun y => by omega, fun y => by omega⟩
    · rw [if_neg (fun y => z y.2)]; exact ⟨fun y => by omega, fun y => absurd (h5.mpr y) z⟩
/-- the class notes it -/
theorem w_note {v7 v8 x5 x6 x3 r11 : Int32} {Q : Unit → zS → Prop} {ρ0 : zS} (hb : CmB s b) (hbb : b ≤ 10000) (h0 : CmR ρ0 33 x3.toInt s) (hr : ∀ i, i < 5 → ρ.1 33 i = ρ0.1 33 i) (hr5 : (ρ.1 33 5).toInt = s.2 5 + 1) (e7 : v7.toInt = ansJ (vdF σ n po (p : Int) t a (σ.1 110 0).toInt)) (e8 : v8.toInt = ansJ (vdF σ n po' (p : Int) t a (σ.1 110 0).toInt)) (ne : ¬ v7.toInt = v8.toInt) (h11 : r11.toInt = x3.toInt + 1) (h3 : (ρ.1 27 3).toInt = (p : Int)) (ha : x5.toInt = (a : Int)) (ht : x6.toInt = (t : Int)) (kk : ∀ τ : zS, (∀ k j, k ≠ 33 → τ.1 k j = ρ.1 k j) → τ.2 = ρ.2 → CmR τ 33 r11.toInt (cmS σ n po po' p a t s) → Q () τ) : W_Ju_noteDifference v7 v8 x5 x6 ρ Q := by
  obtain ⟨b1, b2, b3, b4, b5⟩ := hb
  have f7 := e7
  have f8 := e8
  have c0 : ((ρ.1 33 0).toInt) = s.2 0 := by rw [hr 0 (by omega)]; exact h0.2 0 (by omega)
  have c1 : ((ρ.1 33 1).toInt) = s.2 1 := by rw [hr 1 (by omega)]; exact h0.2 1 (by omega)
  have c2 : ((ρ.1 33 2).toInt) = s.2 2 := by rw [hr 2 (by omega)]; exact h0.2 2 (by omega)
  have c3 : ((ρ.1 33 3).toInt) = s.2 3 := by rw [hr 3 (by omega)]; exact h0.2 3 (by omega)
  have c4 : ((ρ.1 33 4).toInt) = s.2 4 := by rw [hr 4 (by omega)]; exact h0.2 4 (by omega)
  have e1 : (cmS σ n po po' p a t s).1 = if v7.toInt = v8.toInt then s.1 else s.1 + 1 := by rw [e7, e8]; rfl
  have e5 : (cmS σ n po po' p a t s).2 5 = s.2 5 + 1 := rfl
  have e0 : (cmS σ n po po' p a t s).2 0 = if v8.toInt = 1 ∧ v7.toInt ≠ 1 then s.2 0 + 1 else s.2 0 := by rw [e7, e8]; rfl
  have e3 : (cmS σ n po po' p a t s).2 1 = if v7.toInt = 1 ∧ v8.toInt ≠ 1 then s.2 1 + 1 else s.2 1 := by rw [e7, e8]; rfl
  have e2 : ∀ i, i ≠ 0 → i ≠ 1 → i ≠ 5 → (cmS σ n po po' p a t s).2 i = if v7.toInt ≠ v8.toInt ∧ s.1 = 0 then (if i = 2 then (p : Int) else if i = 3 then (a : Int) else (t : Int)) else s.2 i := fun i q0 q1 q5 => by
    rw [e7, e8]
    show (if i = 5 then _ else if i = 0 then _ else if i = 1 then _ else _) = _
    rw [if_neg q5, if_neg q0, if_neg q1]
  have fin : ∀ ρ1 : zS, (∀ k j, ¬ (k = 33 ∧ j < 2) → ρ1.1 k j = ρ.1 k j) → ρ1.2 = ρ.2 → (ρ1.1 33 0).toInt = (cmS σ n po po' p a t s).2 0 → (ρ1.1 33 1).toInt = (cmS σ n po po' p a t s).2 1 → W_Ju_noteDifference_b33 x5 x6 ρ1 Q := fun ρ1 g1 g2 g3 g4 => by
    have d2 : (ρ1.1 33 2).toInt = s.2 2 := by rw [g1 33 2 (by omega)]; exact c2
    refine ⟨fun z σ2 y2 σ3 y3 σ4 y4 => ?_, fun z => ?_⟩
    · have s1 : s.1 = 0 := b5.mpr (by rw [← d2]; exact z)
      have g : ∀ k j, ¬ (k = 33 ∧ 2 ≤ j ∧ j ≤ 4) → σ4.1 k j = ρ1.1 k j := fun k j q => by rw [← y4, yI_ne (by omega), ← y3, yI_ne (by omega), ← y2, yI_ne (by omega)]
      refine kk σ4 (fun k j q => by rw [g k j (by omega), g1 k j (by omega)]) (by rw [← y4, yI_l, ← y3, yI_l, ← y2, yI_l]; exact g2) ⟨by rw [e1, if_neg ne, h11, h0.1], fun i hi => ?_⟩
      have : i = 0 ∨ i = 1 ∨ i = 2 ∨ i = 3 ∨ i = 4 ∨ i = 5 := by omega
      rcases this with q | q | q | q | q | q <;> subst q
      · rw [g 33 0 (by omega)]; exact g3
      · rw [g 33 1 (by omega)]; exact g4
      · rw [e2 2 (by decide) (by decide) (by decide), if_pos ⟨ne, s1⟩, ← y4, yI_ne (by omega), ← y3, yI_ne (by omega), ← y2, yI_at, g1 27 3 (by omega)]; exact h3
      · rw [e2 3 (by decide) (by decide) (by decide), if_pos ⟨ne, s1⟩, ← y4, yI_ne (by omega), ← y3, yI_at]; exact ha
      · rw [e2 4 (by decide) (by decide) (by decide), if_pos ⟨ne, s1⟩, ← y4, yI_at]; exact ht
      · rw [g 33 5 (by omega), g1 33 5 (by omega), e5]; exact hr5
    · have s1 : ¬ s.1 = 0 := fun q => z (by rw [d2]; exact b5.mp q)
      refine kk ρ1 (fun k j q => g1 k j (by omega)) g2 ⟨by rw [e1, if_neg ne, h11, h0.1], fun i hi => ?_⟩
      have : i = 0 ∨ i = 1 ∨ i = 2 ∨ i = 3 ∨ i = 4 ∨ i = 5 := by omega
      rcases this with q | q | q | q | q | q <;> subst q
      · exact g3
      · exact g4
      · rw [e2 2 (by decide) (by decide) (by decide), if_neg (fun q => s1 q.2), g1 33 2 (by omega)]; exact c2
      · rw [e2 3 (by decide) (by decide) (by decide), if_neg (fun q => s1 q.2), g1 33 3 (by omega)]; exact c3
      · rw [e2 4 (by decide) (by decide) (by decide), if_neg (fun q => s1 q.2), g1 33 4 (by omega)]; exact c4
      · rw [g1 33 5 (by omega), e5]; exact hr5
  refine ⟨fun q8 => ⟨by omega, fun r5 h5' σ6 y6 => fin σ6 (fun k j q => by rw [← y6, yI_ne (by omega)]) (by rw [← y6, yI_l]) ?_ ?_⟩, fun q8 => ⟨fun q7 => ⟨by omega, fun r3 h3' σ4 y4 => fin σ4 (fun k j q => by rw [← y4, yI_ne (by omega)]) (by rw [← y4, yI_l]) ?_ ?_⟩, fun q7 => fin ρ (fun _ _ _ => rfl) rfl ?_ ?_⟩⟩
  · rw [e0, if_pos ⟨q8, fun z => ne (by omega)⟩, ← y6, yI_at]; omega
  · rw [e3, if_neg (fun z => z.2 q8), ← y6, yI_ne (by omega)]; exact c1
  · rw [e0, if_neg (fun z => q8 z.1), ← y4, yI_ne (by omega)]; exact c0
  · rw [e3, if_pos ⟨q7, q8⟩, ← y4, yI_at]; omega
  · rw [e0, if_neg (fun z => q8 z.1)]; exact c0
  · rw [e3, if_neg (fun z => q7 z.1)]; exact c1
end N10
/-! ===== N11: acts that hold others ===== -/
noncomputable def wsH (T : Nat → Nat → Prop) : Nat → Nat → Nat → Prop
  | 0, a, b => a = b ∨ T a b
  | k + 1, a, b => wsH T k a b ∨ (wsH T k a k ∧ wsH T k k b)
noncomputable abbrev toH (σ : zS) : Nat → Nat → Prop := fun a b => bG (σ.1 15 a) b = true
section N11
variable {T : Nat → Nat → Prop} {σ τ : zS}
theorem ws_up {a b : Nat} : ∀ {k l : Nat}, k ≤ l → wsH T k a b → wsH T l a b
  | k, 0, h, q => by rw [Nat.le_zero.mp h] at q; exact q
  | k, l + 1, h, q => by
    rcases Nat.lt_or_ge l k with z | z
    · rw [show k = l + 1 by omega] at q; exact q
    · exact Or.inl (ws_up z q)
theorem ws_tr : ∀ {k a c b : Nat}, c < k → wsH T k a c → wsH T k c b → wsH T k a b
  | 0, _, _, _, h, _, _ => absurd h (Nat.not_lt_zero _)
  | k + 1, a, c, b, h, p, q => by
    by_cases e : c = k
    · subst e
      have p' : wsH T c a c := by rcases p with p | p; exact p; exact p.1
      have q' : wsH T c c b := by rcases q with q | q; exact q; exact q.2
      exact Or.inr ⟨p', q'⟩
    · have hc : c < k := by omega
      rcases p with p | ⟨p1, p2⟩
      · rcases q with q | ⟨q1, q2⟩
        · exact Or.inl (ws_tr hc p q)
        · exact Or.inr ⟨ws_tr hc p q1, q2⟩
      · rcases q with q | ⟨q1, q2⟩
        · exact Or.inr ⟨p1, ws_tr hc p2 q⟩
        · exact Or.inr ⟨p1, q2⟩
theorem rc_tr {a c : Nat} (h : RcH σ a c) : ∀ {n b : Nat}, rcN σ n c b → RcH σ a b
  | 0, b, q => by
    have q : c = b := q
    subst q
    exact h
  | n + 1, b, q => by
    rcases q with q | ⟨d, hd, q1, q2⟩
    · exact rc_tr h q
    · exact (rc_tr h q1).st hd q2
theorem ws_rc (hT : ∀ a b, a < 6 → b < 6 → a ≠ b → T a b → (σ.1 129 (6 * a + b)).toInt ≠ 0) : ∀ {k a b : Nat}, k ≤ 6 → a < 6 → b < 6 → wsH T k a b → RcH σ a b
  | 0, a, b, _, ha, hb, q => by
    by_cases e : a = b
    · exact ⟨0, e⟩
    · have q' : T a b := by rcases q with q | q; exact absurd q e; exact q
      exact RcH.st (c := a) ⟨0, rfl⟩ ha (hT a b ha hb e q')
  | k + 1, a, b, hk, ha, hb, q => by
    rcases q with q | ⟨q1, q2⟩
    · exact ws_rc hT (by omega) ha hb q
    · obtain ⟨n, q2⟩ := ws_rc hT (by omega) (by omega) hb q2
      exact rc_tr (ws_rc hT (by omega) ha (by omega) q1) q2
theorem rc_ws (hT : ∀ a b, a < 6 → b < 6 → a ≠ b → (σ.1 129 (6 * a + b)).toInt ≠ 0 → T a b) : ∀ {n a b : Nat}, a < 6 → b < 6 → rcN σ n a b → wsH T 6 a b
  | 0, a, b, ha, hb, q => ws_up (k := 0) (Nat.zero_le _) (Or.inl q)
  | n + 1, a, b, ha, hb, q => by
    rcases q with q | ⟨c, hc, q1, q2⟩
    · exact rc_ws hT ha hb q
    · refine ws_tr hc (rc_ws hT ha hc q1) ?_
      by_cases e : c = b
      · exact ws_up (k := 0) (Nat.zero_le _) (Or.inl e)
      · exact ws_up (k := 0) (Nat.zero_le _) (Or.inr (hT c b hc hb e q2))
/-- what holds of acts: the class's rows; both sides once begun, and before -/
noncomputable def HdJ (σ : zS) : Prop := (∀ a b, a < 6 → b < 6 → (bG (σ.1 16 a) b = true ↔ wsH (toH σ) 6 a b)) ∧ ((σ.1 110 26).toInt ≠ 0 → ∀ a b, a < 6 → b < 6 → a ≠ b → (bG (σ.1 15 a) b = true ↔ (σ.1 129 (6 * a + b)).toInt ≠ 0)) ∧ ((σ.1 110 26).toInt = 0 → (∀ j, j < 36 → (σ.1 129 j).toInt = 0) ∧ ∀ a b, a < 6 → b < 6 → a ≠ b → (bG (σ.1 15 a) b = true ↔ (a = 5 ∨ (a = 1 ∧ b = 0))))
theorem HdJ.rc (h : HdJ σ) (hb : (σ.1 110 26).toInt ≠ 0) {a b : Nat} (ha : a < 6) (hb6 : b < 6) : bG (σ.1 16 a) b = true ↔ RcH σ a b := by
  have e := h.2.1 hb
  exact (h.1 a b ha hb6).trans ⟨fun q => ws_rc (fun a b ha hb n q => (e a b ha hb n).mp q) (Nat.le_refl _) ha hb6 q, fun ⟨n, q⟩ => rc_ws (fun a b ha hb n q => (e a b ha hb n).mpr q) ha hb6 q⟩
/-- the class closes what holds: only its row 16 changes -/
theorem w_close40 {N k : Nat} {x1 : Int32} {ρ0 : zS} {Q : Unit → zS → Prop} (hk : k < 6) (h1 : x1.toInt = (k : Int)) : ∀ (f a : Nat) (x2 : Int32) (ρ : zS), a + f = 6 → x2.toInt = (a : Int) → (∀ k j, k ≠ 16 → ρ.1 k j = ρ0.1 k j) → ρ.2 = ρ0.2 → (∀ i b, i < 6 → b < 6 → (bG (ρ.1 16 i) b = true ↔ wsH T (if i < a then k + 1 else k) i b)) → (∀ (r : Int32) (τ : zS), r.toInt = (k : Int) + 1 → (∀ k j, k ≠ 16 → τ.1 k j = ρ0.1 k j) → τ.2 = ρ0.2 → (∀ i b, i < 6 → b < 6 → (bG (τ.1 16 i) b = true ↔ wsH T (k + 1) i b)) → (WL_Th_closeHolds N).2.1 r τ Q) → (WL_Th_closeHolds (N + f + 1)).2.2 x1 x2 ρ Q
  | 0, a, x2, ρ, e, h2, f1, f2, hw, kk => wl_Th_closeHolds_40 ⟨fun _ => ⟨by omega, fun r2 hr => kk r2 ρ (by omega) f1 f2 (fun i b hi hb => by rw [hw i b hi hb, if_pos (by omega)])⟩, fun z => absurd (by omega) z⟩
  | f + 1, a, x2, ρ, e, h2, f1, f2, hw, kk => by
    show (WL_Th_closeHolds ((N + f + 1) + 1)).2.2 x1 x2 ρ Q
    have rd := bG_rd (x := ρ.1 16 a) h1 (by omega)
    have lv : wsH T k k k := ws_up (k := 0) (Nat.zero_le _) (Or.inl rfl)
    have row : ∀ b, b < 6 → (bG (ρ.1 16 k) b = true ↔ wsH T k k b) := fun b hb => by
      rw [hw k b hk hb]
      by_cases z : k < a
      · rw [if_pos z]; exact ⟨fun q => by rcases q with q | q; exact q; exact q.2, fun q => Or.inl q⟩
      · rw [if_neg z]
    refine wl_Th_closeHolds_40 ⟨fun z => absurd z (by omega), fun _ => ⟨a, h2, by omega, ⟨fun c => ⟨k, h1, hk, fun s7 e7 => ⟨by omega, fun r8 h8 => ?_⟩⟩, fun c => ⟨by omega, fun r5 h5 => ?_⟩⟩⟩⟩
    · have hit : wsH T k a k := by
        rw [rd] at c
        by_cases z : bG (ρ.1 16 a) k = true
        · rw [hw a k (by omega) hk, if_neg (by omega)] at z; exact z
        · rw [if_neg z] at c; exact absurd c (by decide)
      refine w_close40 hk h1 f (a + 1) r8 s7 (by omega) (by omega) (fun k' j q => by rw [← e7, yI_ne (by omega)]; exact f1 k' j q) (by rw [← e7, yI_l]; exact f2) (fun i b hi hb => ?_) kk
      by_cases z : i = a
      · subst z
        rw [← e7, yI_at, bG_or, if_pos (by omega), Bool.or_eq_true, hw i b hi hb, if_neg (by omega), row b hb]
        exact ⟨fun q => by rcases q with q | q; exact Or.inl q; exact Or.inr ⟨hit, q⟩, fun q => by rcases q with q | q; exact Or.inl q; exact Or.inr q.2⟩
      · rw [← e7, yI_ne (by omega), hw i b hi hb]
        by_cases y : i < a
        · rw [if_pos y, if_pos (by omega)]
        · rw [if_neg y, if_neg (by omega)]
    · have no : ¬ wsH T k a k := fun q => by
        have z : bG (ρ.1 16 a) k = true := by rw [hw a k (by omega) hk, if_neg (by omega)]; exact q
        rw [rd, if_pos z] at c
        exact c rfl
      refine w_close40 hk h1 f (a + 1) r5 ρ (by omega) (by omega) f1 f2 (fun i b hi hb => ?_) kk
      rw [hw i b hi hb]
      by_cases z : i = a
      · subst z
        rw [if_neg (by omega), if_pos (by omega)]
        exact ⟨fun q => Or.inl q, fun q => by rcases q with q | q; exact q; exact absurd q.1 no⟩
      · by_cases y : i < a
        · rw [if_pos y, if_pos (by omega)]
        · rw [if_neg y, if_neg (by omega)]
theorem w_close32 {N : Nat} {ρ0 : zS} {Q : Unit → zS → Prop} : ∀ (f k : Nat) (x1 : Int32) (ρ : zS), k + f = 6 → x1.toInt = (k : Int) → (∀ k j, k ≠ 16 → ρ.1 k j = ρ0.1 k j) → ρ.2 = ρ0.2 → (∀ i b, i < 6 → b < 6 → (bG (ρ.1 16 i) b = true ↔ wsH T k i b)) → (∀ τ : zS, (∀ k j, k ≠ 16 → τ.1 k j = ρ0.1 k j) → τ.2 = ρ0.2 → (∀ i b, i < 6 → b < 6 → (bG (τ.1 16 i) b = true ↔ wsH T 6 i b)) → Q () τ) → (WL_Th_closeHolds (N + f * 8 + 1)).2.1 x1 ρ Q
  | 0, k, x1, ρ, e, h1, f1, f2, hw, kk => wl_Th_closeHolds_32 ⟨fun _ => kk ρ f1 f2 (by rw [show k = 6 by omega] at hw; exact hw), fun z => absurd (by omega) z⟩
  | f + 1, k, x1, ρ, e, h1, f1, f2, hw, kk => by
    refine wl_Th_closeHolds_32 ⟨fun z => absurd z (by omega), fun _ => ?_⟩
    have hN : N + (f + 1) * 8 = (N + f * 8 + 1) + 6 + 1 := by omega
    rw [hN]
    exact w_close40 (T := T) (ρ0 := ρ0) (k := k) (by omega) h1 6 0 0 ρ (by omega) (by decide) f1 f2 (fun i b hi hb => by rw [if_neg (by omega)]; exact hw i b hi hb) (fun r τ h g1 g2 g3 => w_close32 f (k + 1) r τ (by omega) (by omega) g1 g2 g3 kk)
theorem w_close2 {N : Nat} {ρ0 : zS} {Q : Unit → zS → Prop} : ∀ (f a : Nat) (x1 : Int32) (ρ : zS), a + f = 6 → x1.toInt = (a : Int) → (∀ k j, k ≠ 16 → ρ.1 k j = ρ0.1 k j) → ρ.2 = ρ0.2 → (∀ i b, i < a → b < 6 → (bG (ρ.1 16 i) b = true ↔ wsH (toH ρ0) 0 i b)) → (∀ τ : zS, (∀ k j, k ≠ 16 → τ.1 k j = ρ0.1 k j) → τ.2 = ρ0.2 → (∀ i b, i < 6 → b < 6 → (bG (τ.1 16 i) b = true ↔ wsH (toH ρ0) 6 i b)) → Q () τ) → (WL_Th_closeHolds (N + 6 * 8 + 1 + f + 1)).1 x1 ρ Q
  | 0, a, x1, ρ, e, h1, f1, f2, hw, kk => wl_Th_closeHolds_2 ⟨fun _ => w_close32 (T := toH ρ0) (ρ0 := ρ0) 6 0 0 ρ (by omega) (by decide) f1 f2 (fun i b hi hb => hw i b (by omega) hb) kk, fun z => absurd (by omega) z⟩
  | f + 1, a, x1, ρ, e, h1, f1, f2, hw, kk => by
    show (WL_Th_closeHolds ((N + 6 * 8 + 1 + f + 1) + 1)).1 x1 ρ Q
    refine wl_Th_closeHolds_2 ⟨fun z => absurd z (by omega), fun _ => ⟨a, h1, by omega, fun s3 e3 => ⟨by omega, fun r4 h4 => ?_⟩⟩⟩
    refine w_close2 f (a + 1) r4 s3 (by omega) (by omega) (fun k j q => by rw [← e3, yI_ne (by omega)]; exact f1 k j q) (by rw [← e3, yI_l]; exact f2) (fun i b hi hb => ?_) kk
    by_cases z : i = a
    · subst z
      rw [← e3, yI_at, bG_st h1 (by omega) (by omega), f1 15 i (by decide), Bool.or_eq_true, decide_eq_true_iff]
      exact ⟨fun q => by rcases q with q | q; exact Or.inr q; exact Or.inl q.symm, fun q => by rcases q with q | q; exact Or.inr q.symm; exact Or.inl q⟩
    · rw [← e3, yI_ne (by omega)]
      exact hw i b (by omega) hb
theorem w_closeHolds {Q : Unit → zS → Prop} (kk : ∀ τ : zS, (∀ k j, k ≠ 16 → τ.1 k j = σ.1 k j) → τ.2 = σ.2 → (∀ i b, i < 6 → b < 6 → (bG (τ.1 16 i) b = true ↔ wsH (toH σ) 6 i b)) → Q () τ) : W_Th_closeHolds σ Q := by
  have e : fuF = 99944 + 6 * 8 + 1 + 6 + 1 := by show 100000 = 99944 + 6 * 8 + 1 + 6 + 1; decide
  show (WL_Th_closeHolds fuF).1 0 σ Q
  rw [e]
  exact w_close2 6 0 0 σ (by omega) (by decide) (fun _ _ _ => rfl) rfl (fun i b hi => absurd hi (by omega)) kk
/-! the reference begins -/
noncomputable def BgR (σ τ : zS) : Prop := ((σ.1 110 26).toInt ≠ 0 ∧ τ = σ) ∨ ((σ.1 110 26).toInt = 0 ∧ (∀ k j, ¬ (k = 110 ∧ j = 26) → ¬ ((k = 125 ∨ k = 126) ∧ j = 0) → ¬ (k = 129 ∧ (j = 6 ∨ (30 ≤ j ∧ j ≤ 34))) → τ.1 k j = σ.1 k j) ∧ τ.2 = σ.2 ∧ τ.1 110 26 = 1 ∧ (τ.1 125 0 = -4 ∧ τ.1 126 0 = -4) ∧ τ.1 129 6 = 1 ∧ ∀ j, 30 ≤ j → j ≤ 34 → τ.1 129 j = 1)
theorem wl_begins {ρ0 : zS} {Q : Unit → zS → Prop} (kk : ∀ τ : zS, (∀ k j, ¬ (k = 129 ∧ (j = 6 ∨ (30 ≤ j ∧ j ≤ 34))) → τ.1 k j = ρ0.1 k j) → τ.2 = ρ0.2 → τ.1 129 6 = 1 → (∀ j, 30 ≤ j → j ≤ 34 → τ.1 129 j = 1) → Q () τ) : ∀ (f i : Nat) (x1 : Int32) (ρ : zS), i + f = 5 → x1.toInt = (i : Int) → (∀ k j, ¬ (k = 129 ∧ (30 ≤ j ∧ j < 30 + i)) → ρ.1 k j = ρ0.1 k j) → ρ.2 = ρ0.2 → (∀ j, 30 ≤ j → j < 30 + i → ρ.1 129 j = 1) → ∀ N, (WL_M_begins (N + f + 1)) x1 ρ Q
  | 0, i, x1, ρ, e, h1, g1, g2, g3, N => by
    refine wl_M_begins_30 ⟨fun _ s2 e2 => kk s2 (fun k j q => ?_) (by rw [← e2, yI_l]; exact g2) (by rw [← e2, yI_at]) (fun j q1 q2 => ?_), fun z => absurd (by omega) z⟩
    · rw [← e2, yI_ne (by omega)]; exact g1 k j (by omega)
    · rw [← e2, yI_ne (by omega)]; exact g3 j q1 (by omega)
  | f + 1, i, x1, ρ, e, h1, g1, g2, g3, N => by
    show (WL_M_begins ((N + f + 1) + 1)) x1 ρ Q
    refine wl_M_begins_30 ⟨fun z => absurd z (by omega), fun _ => ⟨by omega, fun r3 h3 => ⟨30 + i, by omega, by omega, fun s5 e5 => ⟨by omega, fun r6 h6 => ?_⟩⟩⟩⟩
    refine wl_begins kk f (i + 1) r6 s5 (by omega) (by omega) (fun k j q => by rw [← e5, yI_ne (by omega)]; exact g1 k j (by omega)) (by rw [← e5, yI_l]; exact g2) (fun j q1 q2 => ?_) N
    by_cases z : j = 30 + i
    · subst z; rw [← e5, yI_at]
    · rw [← e5, yI_ne (by omega)]; exact g3 j q1 (by omega)
theorem w_begins {Q : Unit → zS → Prop} (kk : ∀ τ : zS, BgR σ τ → Q () τ) : W_M_begins σ Q := by
  refine ⟨fun z s2 e2 s3 e3 s4 e4 => ?_, fun z => kk σ (Or.inl ⟨z, rfl⟩)⟩
  have e : fuF = 99994 + 5 + 1 := by show 100000 = 99994 + 5 + 1; decide
  rw [e]
  refine wl_begins (ρ0 := s4) (fun τ g1 g2 g3 g4 => kk τ (Or.inr ⟨z, fun k j q1 q2 q3 => ?_, ?_, ?_, ⟨?_, ?_⟩, g3, g4⟩)) 5 0 0 s4 (by omega) (by decide) (fun _ _ _ => rfl) rfl (fun j q1 q2 => absurd q2 (by omega)) 99994
  · rw [g1 k j q3, ← e4, yI_ne (by omega), ← e3, yI_ne (by omega), ← e2, yI_ne (by omega)]
  · rw [g2, ← e4, yI_l, ← e3, yI_l, ← e2, yI_l]
  · rw [g1 110 26 (by omega), ← e4, yI_ne (by omega), ← e3, yI_ne (by omega), ← e2, yI_at]
  · rw [g1 125 0 (by omega), ← e4, yI_ne (by omega), ← e3, yI_at]
  · rw [g1 126 0 (by omega), ← e4, yI_at]
theorem BgR.on (h : BgR σ τ) : (τ.1 110 26).toInt ≠ 0 := by
  rcases h with ⟨h, e⟩ | ⟨_, _, _, e, _⟩
  · rw [e]; exact h
  · rw [e]; decide
theorem HdJ.bg (h : BgR σ τ) (q : HdJ σ) : HdJ τ := by
  rcases h with ⟨h, e⟩ | ⟨h0, h1, h2, h3, h4, h5, h6⟩
  · rw [e]; exact q
  · have e15 : ∀ a, τ.1 15 a = σ.1 15 a := fun a => h1 15 a (by omega) (by omega) (by omega)
    have e16 : ∀ a, τ.1 16 a = σ.1 16 a := fun a => h1 16 a (by omega) (by omega) (by omega)
    have eT : toH τ = toH σ := funext fun a => funext fun b => by show (bG (τ.1 15 a) b = true) = (bG (σ.1 15 a) b = true); rw [e15]
    refine ⟨fun a b ha hb => by rw [e16, eT]; exact q.1 a b ha hb, fun _ a b ha hb n => ?_, fun z => absurd z (by rw [h3]; decide)⟩
    obtain ⟨q1, q2⟩ := q.2.2 h0
    rw [e15, q2 a b ha hb n]
    have one : (1 : Int32).toInt ≠ 0 := by decide
    by_cases z : a = 5 ∨ (a = 1 ∧ b = 0)
    · refine ⟨fun _ => ?_, fun _ => z⟩
      rcases z with z | z
      · rw [h6 _ (by omega) (by omega)]; exact one
      · rw [show 6 * a + b = 6 by omega, h5]; exact one
    · refine ⟨fun y => absurd y z, fun y => absurd (?_ : (τ.1 129 (6 * a + b)).toInt = 0) y⟩
      rw [h1 129 _ (by omega) (by omega) (by omega)]
      exact q1 _ (by omega)
theorem bG_m1 : ∀ m, m < 32 → bG (-1) m = true := by decide +kernel
theorem bG_cl {x o : Int32} {n m : Nat} (hn : o.toInt = (n : Int)) (h : n < 31) (hm : m < 32) : bG (x &&& ((1 <<< (o &&& 31)) ^^^ (-1))) m = (bG x m && !decide (m = n)) := by
  rw [bG_k hn h]
  have e1 := bG_one n h m hm
  have e2 := bG_m1 m hm
  unfold bG at e1 e2 ⊢
  show (x.toBitVec &&& (((1 : Int32) <<< (Int32.ofNat n &&& 31)).toBitVec ^^^ (-1 : Int32).toBitVec)).getLsbD m = _
  rw [BitVec.getLsbD_and, BitVec.getLsbD_xor, e1, e2, Bool.xor_true]
noncomputable def FrHo (σ τ : zS) : Prop := (∀ k j, k ≠ 15 → k ≠ 16 → τ.1 k j = σ.1 k j) ∧ τ.2 = σ.2
/-- the class tells -/
theorem w_holdsC {a1 a2 a3 : Int32} {a b : Nat} {Q : Int32 → zS → Prop} (h1 : a1.toInt = (a : Int)) (h2 : a2.toInt = (b : Int)) (ha : a < 6) (hb : b < 6) (h3 : a3 = 0 ∨ a3 = 1) (kk : ∀ (τ : zS) (v : Int32), FrHo σ τ → (∀ i j, i < 6 → j < 6 → (bG (τ.1 16 i) j = true ↔ wsH (toH τ) 6 i j)) → (∀ i, i ≠ a → τ.1 15 i = σ.1 15 i) → (∀ j, j < 6 → bG (τ.1 15 a) j = if j = b then decide (a3 = 1) else bG (σ.1 15 a) j) → v = (if (bG (σ.1 15 a) b = true ↔ a3 = 1) then 0 else 1) → Q v τ) : W_Th_tellHolds a1 a2 a3 σ Q := by
  have n0 : (0 : Int32).toInt = 0 := by decide
  have n1 : (1 : Int32).toInt = 1 := by decide
  have rd := bG_rd (x := σ.1 15 a) h2 (by omega)
  have fin : ∀ (y0 w : Int32), (∀ j, j < 6 → bG w j = if j = b then decide (a3 = 1) else bG (σ.1 15 a) j) → (y0.toInt = if bG (σ.1 15 a) b = true then 1 else 0) → W_Th_tellHolds_b55 a3 y0 w a1 σ Q := fun y0 w hw hy => by
    refine ⟨a, h1, ha, fun s2 e2 => w_closeHolds (fun τ g1 g2 g3 => ?_)⟩
    have f : FrHo σ τ := ⟨fun k j q1 q2 => by rw [g1 k j q2, ← e2, yI_ne (by omega)], by rw [g2, ← e2, yI_l]⟩
    have e15 : ∀ i, τ.1 15 i = s2.1 15 i := fun i => g1 15 i (by decide)
    have eT : toH τ = toH s2 := funext fun i => funext fun j => by show (bG (τ.1 15 i) j = true) = (bG (s2.1 15 i) j = true); rw [e15]
    have k' := fun (v : Int32) => kk τ v f (by rw [eT]; exact g3) (fun i hi => by rw [e15, ← e2, yI_ne (by omega)]) (fun j hj => by rw [e15, ← e2, yI_at]; exact hw j hj)
    refine ⟨fun z => k' 0 ?_, fun z => k' 1 ?_⟩
    · rw [hy] at z
      rcases h3 with q | q <;> subst q
      · rw [if_pos]
        by_cases c : bG (σ.1 15 a) b = true
        · rw [if_pos c, n0] at z; omega
        · exact ⟨fun y => absurd y c, fun y => absurd y (by decide)⟩
      · rw [if_pos]
        by_cases c : bG (σ.1 15 a) b = true
        · exact ⟨fun _ => rfl, fun _ => c⟩
        · rw [if_neg c, n1] at z; omega
    · rw [hy] at z
      rcases h3 with q | q <;> subst q
      · rw [if_neg]
        intro y
        by_cases c : bG (σ.1 15 a) b = true
        · exact absurd (y.mp c) (by decide)
        · rw [if_neg c, n0] at z; exact z rfl
      · rw [if_neg]
        intro y
        by_cases c : bG (σ.1 15 a) b = true
        · rw [if_pos c, n1] at z; exact z rfl
        · exact c (y.mpr rfl)
  have b19 : ∀ y0 : Int32, (y0.toInt = if bG (σ.1 15 a) b = true then 1 else 0) → W_Th_tellHolds_b19 a1 a2 a3 y0 σ Q := fun y0 hy => by
    refine ⟨fun z => ⟨a, h1, ha, fin y0 _ (fun j hj => ?_) hy⟩, fun z => ⟨a, h1, ha, fin y0 _ (fun j hj => ?_) hy⟩⟩
    · have q : a3 = 0 := by rcases h3 with q | q; exact q; rw [q, n1] at z; omega
      rw [bG_cl h2 (by omega) (by omega), q]
      by_cases c : j = b
      · rw [if_pos c, decide_eq_true c]; cases bG (σ.1 15 a) j <;> rfl
      · rw [if_neg c, decide_eq_false c]; cases bG (σ.1 15 a) j <;> rfl
    · have q : a3 = 1 := by rcases h3 with q | q; rw [q, n0] at z; exact absurd rfl z; exact q
      rw [bG_st h2 (by omega) (by omega), q]
      by_cases c : j = b
      · rw [if_pos c, decide_eq_true c]; cases bG (σ.1 15 a) j <;> rfl
      · rw [if_neg c, decide_eq_false c]; cases bG (σ.1 15 a) j <;> rfl
  refine ⟨a, h1, ha, ⟨fun z => b19 1 ?_, fun z => b19 0 ?_⟩⟩
  · rw [rd] at z
    by_cases c : bG (σ.1 15 a) b = true
    · rw [if_pos c]; exact n1
    · rw [if_neg c] at z; omega
  · rw [rd] at z
    by_cases c : bG (σ.1 15 a) b = true
    · rw [if_pos c] at z; exact absurd rfl z
    · rw [if_neg c]; exact n0
end N11
/-! ===== N12: features and items ===== -/
/-- both sides hold the same items -/
noncomputable def ItS (σ : zS) : Prop := (∀ f, f < 480 → σ.1 7 f = σ.1 121 f ∧ σ.1 8 f = σ.1 122 f) ∧ ∀ i, i < 9600 → σ.2 9 i = σ.2 123 i
/-- the slot of a bearer's feature -/
noncomputable def SlV (σ : zS) (a1 a2 : Int) (n : Nat) : Prop := (0 ≤ a2 ∧ a2 < 8) ∧ (((0 ≤ a1 ∧ a1 < (σ.1 5 0).toInt) ∧ (n : Int) = 8 * a1 + a2) ∨ (¬ (0 ≤ a1 ∧ a1 < (σ.1 5 0).toInt) ∧ 100 ≤ a1 ∧ (a1 - 100 < (σ.1 10 0).toInt ∧ (σ.1 14 (a1 - 100).toNat).toInt = 0) ∧ (n : Int) = 8 * (a1 - 80) + a2))
noncomputable def FrI (σ τ : zS) : Prop := (∀ k j, k ≠ 7 → k ≠ 8 → τ.1 k j = σ.1 k j) ∧ ∀ k j, k ≠ 9 → τ.2 k j = σ.2 k j
noncomputable def FrJ (σ τ : zS) : Prop := (∀ k j, k ≠ 121 → k ≠ 122 → τ.1 k j = σ.1 k j) ∧ ∀ k j, k ≠ 123 → k ≠ 124 → τ.2 k j = σ.2 k j
section N12
variable {σ τ ρ : zS} {a1 a2 a3 : Int32}
theorem w_slotOf {Q : Int32 → zS → Prop} (hp : 0 ≤ (σ.1 5 0).toInt ∧ (σ.1 5 0).toInt ≤ 20) (ht : (σ.1 10 0).toInt ≤ 40) (k1 : ∀ (v : Int32) (n : Nat), v.toInt = (n : Int) → n < 480 → SlV σ a1.toInt a2.toInt n → Q v σ) (k0 : (∀ n, ¬ SlV σ a1.toInt a2.toInt n) → Q (-4) σ) : W_H_slotOf a1 a2 σ Q := by
  have n0 : (0 : Int32).toInt = 0 := by decide
  have n1 : ¬ (1 : Int32).toInt = 0 := by decide
  have n8 : (8 : Int32).toInt = 8 := by decide
  have b1 := Int32.toInt_lt a1
  refine w_isAmong (fun q1 => ⟨fun z => absurd z n1, fun _ => ?_⟩) (fun q => ⟨fun _ => k0 (fun n z => q (by rw [n8]; exact z.1)), fun z => absurd n0 z⟩)
  rw [n8] at q1
  refine w_isPerson (fun p1 p2 => ⟨fun z => absurd z n1, fun _ => ⟨by omega, fun r1 h1 => ⟨by omega, fun r2 h2 => k1 r2 (8 * a1.toInt + a2.toInt).toNat (by omega) (by omega) ⟨q1, Or.inl ⟨⟨p1, p2⟩, by omega⟩⟩⟩⟩⟩) (fun p => ⟨fun _ => ⟨fun c => k0 (fun n z => ?_), fun c => ⟨by omega, fun r6 h6 => ?_⟩⟩, fun z => absurd n0 z⟩)
  · rcases z.2 with z | z
    · exact p z.1
    · omega
  · refine w_isThere ht (fun g => ⟨fun z => absurd z n1, fun _ => ⟨by omega, fun r9 h9 => ⟨by omega, fun r1 h1 => ⟨by omega, fun r2 h2 => ⟨by omega, fun r3 h3 => k1 r3 (8 * (a1.toInt - 80) + a2.toInt).toNat (by omega) (by omega) ⟨q1, Or.inr ⟨p, by omega, ?_, by omega⟩⟩⟩⟩⟩⟩⟩) (fun g => ⟨fun _ => k0 (fun n z => ?_), fun z => absurd n0 z⟩)
    · rw [h6] at g; exact ⟨g.2.1, g.2.2⟩
    · rcases z.2 with z | z
      · exact p z.1
      · exact g (by rw [h6]; exact ⟨by omega, z.2.2.1.1, z.2.2.1.2⟩)
theorem w_isThingN {a : Int32} {Q : Int32 → zS → Prop} (h : 0 ≤ (σ.1 110 20).toInt ∧ (σ.1 110 20).toInt ≤ 1000) (k1 : (0 ≤ a.toInt ∧ a.toInt < (σ.1 110 20).toInt) → Q 1 σ) (k0 : ¬ (0 ≤ a.toInt ∧ a.toInt < (σ.1 110 20).toInt) → Q 0 σ) : W_M_isThing a σ Q := fun r1 h1 => ⟨by omega, fun r2 h2 r3 h3 => by
  have z0 : (0 : Int64).toInt = 0 := by decide
  exact ⟨fun c => ⟨Or.inl rfl, k0 (by omega)⟩, fun c => ⟨fun d => ⟨Or.inl rfl, k0 (by omega)⟩, fun d => ⟨Or.inr rfl, k1 (by omega)⟩⟩⟩⟩
/-- the reference's row for it; the world told by the class's rows -/
theorem w_rowFor {Q : Int32 → zS → Prop} (e1 : (σ.1 5 0).toInt = (σ.1 110 6).toInt) (e2 : (σ.1 10 0).toInt = (σ.1 110 20).toInt) (e3 : ∀ u, u < 40 → ((σ.1 14 u).toInt = 0 ↔ (σ.1 128 u).toInt = 0)) (hp : 0 ≤ (σ.1 110 6).toInt ∧ (σ.1 110 6).toInt ≤ 20) (ht : 0 ≤ (σ.1 110 20).toInt ∧ (σ.1 110 20).toInt ≤ 40) (k1 : ∀ (v : Int32) (n : Nat), v.toInt = (n : Int) → n < 480 → SlV σ a1.toInt a2.toInt n → Q v σ) (k0 : (∀ n, ¬ SlV σ a1.toInt a2.toInt n) → Q (-1) σ) : W_M_rowFor a1 a2 σ Q := by
  have n0 : (0 : Int32).toInt = 0 := by decide
  have n1 : ¬ (1 : Int32).toInt = 0 := by decide
  unfold SlV at k1 k0
  rw [e1, e2] at k1 k0
  have b1 := Int32.toInt_lt a1
  have no : ∀ {y0 : Int32}, y0.toInt = 0 → (¬ (0 ≤ a1.toInt ∧ a1.toInt < (σ.1 110 6).toInt) ∧ ¬ (100 ≤ a1.toInt ∧ a1.toInt - 100 < (σ.1 110 20).toInt ∧ (σ.1 14 (a1.toInt - 100).toNat).toInt = 0)) → W_M_rowFor_b42 a1 a2 y0 σ Q := fun {y0} h0 q => ⟨fun _ => k0 (fun n z => by
    rcases z.2 with z | z
    · exact q.1 z.1
    · exact q.2 ⟨z.2.1, z.2.2.1.1, z.2.2.1.2⟩), fun z => absurd h0 z⟩
  refine w_isPersonN (by omega) (fun p => ⟨fun z => absurd z n1, fun _ => ⟨fun z => absurd z n1, fun _ r2 h2 => ?_⟩⟩) (fun p => ⟨fun _ => ⟨fun c => no n0 ⟨p, fun z => by omega⟩, fun c => ⟨by omega, fun r4 h4 => ?_⟩⟩, fun z => absurd n0 z⟩)
  · refine w_inN (l := 0) (u := 7) h2 (by decide) (by decide) (fun q => ⟨fun z => absurd z n1, fun _ => ⟨fun c => absurd c (by omega), fun _ => ⟨by omega, fun r9 h9 => ⟨by omega, fun r10 h10 => k1 r10 (8 * a1.toInt + a2.toInt).toNat (by omega) (by omega) ⟨by omega, Or.inl ⟨p, by omega⟩⟩⟩⟩⟩⟩) (fun q => ⟨fun _ => k0 (fun n z => q (by omega)), fun z => absurd n0 z⟩)
  · refine w_isThingN (by omega) (fun t => ⟨fun z => absurd z n1, fun _ => ⟨by omega, fun r7 h7 => ⟨(a1.toInt - 100).toNat, by omega, by omega, ⟨fun g => ?_, fun g => no n0 ⟨p, fun z => g ((e3 _ (by omega)).mp z.2.2)⟩⟩⟩⟩⟩) (fun t => ⟨fun _ => no n0 ⟨p, fun z => t (by omega)⟩, fun z => absurd n0 z⟩)
    refine ⟨fun z => absurd z n1, fun _ r2 h2 => ?_⟩
    refine w_inN (l := 0) (u := 7) h2 (by decide) (by decide) (fun q => ⟨fun z => absurd z n1, fun _ => ⟨fun c' => ⟨by omega, fun r6 h6 => ⟨by omega, fun r7' h7' => ⟨by omega, fun r8 h8 => k1 r8 (8 * (a1.toInt - 80) + a2.toInt).toNat (by omega) (by omega) ⟨by omega, Or.inr ⟨p, by omega, ⟨by omega, (e3 _ (by omega)).mpr g⟩, by omega⟩⟩⟩⟩⟩, fun c' => absurd c' (by omega)⟩⟩) (fun q => ⟨fun _ => k0 (fun n z => q (by omega)), fun z => absurd n0 z⟩)
theorem SlV.one {x y : Int} {n m : Nat} (h : SlV σ x y n) (h' : SlV σ x y m) : n = m := by
  rcases h.2 with a | a
  · rcases h'.2 with b | b
    · omega
    · exact absurd a.1 b.1
  · rcases h'.2 with b | b
    · exact absurd b.1 a.1
    · omega
theorem SlV.cg {x y : Int} {n : Nat} (h : FrI σ τ) (q : SlV σ x y n) : SlV τ x y n := by
  unfold SlV at q ⊢
  rw [h.1 5 0 (by decide) (by decide), h.1 10 0 (by decide) (by decide), h.1 14 _ (by decide) (by decide)]
  exact q
/-! feature -/
theorem wl_setFeature {n : Nat} {x1 : Int32} {ρ0 : zS} {Q : Unit → zS → Prop} (h1 : x1.toInt = (n : Int)) (hn : n < 480) (kk : ∀ τ : zS, τ.1 = ρ0.1 → (∀ k j, ¬ (k = 9 ∧ 20 * n ≤ j ∧ j < 20 * n + 20) → τ.2 k j = ρ0.2 k j) → (∀ i, i < 20 → τ.2 9 (20 * n + i) = 0) → Q () τ) : ∀ (f i : Nat) (x4 : Int32) (ρ : zS), i + f = 20 → x4.toInt = (i : Int) → ρ.1 = ρ0.1 → (∀ k j, ¬ (k = 9 ∧ 20 * n ≤ j ∧ j < 20 * n + i) → ρ.2 k j = ρ0.2 k j) → (∀ i', i' < i → ρ.2 9 (20 * n + i') = 0) → ∀ N, (WL_Wh_setFeature (N + f + 1)) x1 x4 ρ Q
  | 0, i, x4, ρ, e, h4, g1, g2, g3, N => wl_Wh_setFeature_17 ⟨fun _ => kk ρ g1 (by rw [show i = 20 by omega] at g2; exact g2) (by rw [show i = 20 by omega] at g3; exact g3), fun z => absurd (by omega) z⟩
  | f + 1, i, x4, ρ, e, h4, g1, g2, g3, N => by
    show (WL_Wh_setFeature ((N + f + 1) + 1)) x1 x4 ρ Q
    refine wl_Wh_setFeature_17 ⟨fun z => absurd z (by omega), fun _ => ⟨by omega, fun r2 h2 => ⟨by omega, fun r3 h3 => ⟨20 * n + i, by omega, by omega, fun s5 e5 => ⟨by omega, fun r6 h6 => ?_⟩⟩⟩⟩⟩
    refine wl_setFeature h1 hn kk f (i + 1) r6 s5 (by omega) (by omega) (by rw [← e5]; exact g1) (fun k j q => ?_) (fun i' hi => ?_) N
    · rw [← e5, yJ_ne (by omega)]; exact g2 k j (by omega)
    · by_cases z : i' = i
      · subst z; rw [← e5, yJ_at]
      · rw [← e5, yJ_ne (by omega)]; exact g3 i' (by omega)
end N12
/-! ===== N13: holds, on both sides ===== -/
section N13
variable {σ τ : zS}
theorem holds_M {a1 a2 a3 : Int32} {a b : Nat} {Q : Int32 → zS → Prop} (h1 : a1.toInt = (a : Int)) (h2 : a2.toInt = (b : Int)) (ha : a < 6) (hb : b < 6) (ne : a ≠ b) (h3 : a3 = 0 ∨ a3 = 1) (kk : ∀ (s τ : zS) (v : Int32), BgR σ s → zI s 129 (6 * a + b) a3 = τ → v = (if (s.1 129 (6 * a + b)).toInt = a3.toInt then 0 else 1) → Q v τ) : W_M_holds a1 a2 a3 σ Q := by
  have n1 : ¬ (1 : Int32).toInt = 0 := by decide
  refine w_begins (fun s bg r2 hr2 => ?_)
  refine w_inN (l := 0) (u := 5) hr2 (by decide) (by decide) (fun _ => ⟨fun z => absurd z n1, fun _ r5 hr5 => ?_⟩) (fun q => absurd (by omega) q)
  refine w_inN (l := 0) (u := 5) hr5 (by decide) (by decide) (fun _ => ⟨fun z => absurd z n1, fun _ => ⟨fun z => absurd z (by omega), fun _ => ⟨by omega, fun r9 h9 => ⟨by omega, fun r10 h10 => ⟨6 * a + b, by omega, by omega, ⟨fun z => ?_, fun z => ?_⟩⟩⟩⟩⟩⟩) (fun q => absurd (by omega) q)
  · exact ⟨by omega, fun r1 k1 => ⟨by omega, fun r2' k2 => ⟨6 * a + b, by omega, by omega, h3, fun s5 e5 => kk s s5 0 bg e5 (by rw [if_pos z])⟩⟩⟩
  · exact ⟨by omega, fun r1 k1 => ⟨by omega, fun r2' k2 => ⟨6 * a + b, by omega, by omega, h3, fun s5 e5 => kk s s5 1 bg e5 (by rw [if_neg z])⟩⟩⟩
theorem holds_same {a1 a2 a3 : Int32} (h : HdJ σ) (h3 : a3 = 0 ∨ a3 = 1) (hbo : ∀ j, j < 36 → (σ.1 129 j).toInt = 0 ∨ (σ.1 129 j).toInt = 1) : W_H_holds a1 a2 a3 σ (fun r σ1 => FrHo σ σ1 ∧ W_M_holds a1 a2 a3 σ1 (fun r2 σ2 => r = r2 ∧ HdJ σ2 ∧ ∃ s, BgR σ1 s ∧ (∀ k j, k ≠ 129 → σ2.1 k j = s.1 k j) ∧ σ2.2 = s.2)) := by
  have n0 : (0 : Int32).toInt = 0 := by decide
  have n1 : ¬ (1 : Int32).toInt = 0 := by decide
  have m1 : (1 : Int32).toInt = 1 := by decide
  have bad : ¬ ((0 ≤ a1.toInt ∧ a1.toInt ≤ 5) ∧ (0 ≤ a2.toInt ∧ a2.toInt ≤ 5) ∧ a1.toInt ≠ a2.toInt) → W_M_holds a1 a2 a3 σ (fun r2 σ2 => (-1 : Int32) = r2 ∧ HdJ σ2 ∧ ∃ s, BgR σ s ∧ (∀ k j, k ≠ 129 → σ2.1 k j = s.1 k j) ∧ σ2.2 = s.2) := fun no => by
    refine w_begins (fun s bg r2 hr2 => ?_)
    have fin : ∀ {x : Int32}, x = -1 → ((-1 : Int32) = x ∧ HdJ s ∧ ∃ s', BgR σ s' ∧ (∀ k j, k ≠ 129 → s.1 k j = s'.1 k j) ∧ s.2 = s'.2) := fun {x} e => ⟨e.symm, h.bg bg, s, bg, fun _ _ _ => rfl, rfl⟩
    refine w_inN (l := 0) (u := 5) hr2 (by decide) (by decide) (fun q1 => ⟨fun z => absurd z n1, fun _ r5 hr5 => ?_⟩) (fun _ => ⟨fun _ => fin rfl, fun z => absurd n0 z⟩)
    exact w_inN (l := 0) (u := 5) hr5 (by decide) (by decide) (fun q2 => ⟨fun z => absurd z n1, fun _ => ⟨fun _ => fin rfl, fun z => absurd ⟨q1, q2, z⟩ no⟩⟩) (fun _ => ⟨fun _ => fin rfl, fun z => absurd n0 z⟩)
  refine w_isAct (fun q1 => ⟨fun z => absurd z n1, fun _ => ?_⟩) (fun q => ⟨fun _ => ⟨⟨fun _ _ _ _ => rfl, rfl⟩, bad (fun z => q z.1)⟩, fun z => absurd n0 z⟩)
  refine w_isAct (fun q2 => ⟨fun z => absurd z n1, fun _ => ⟨fun e => ⟨⟨fun _ _ _ _ => rfl, rfl⟩, bad (fun z => z.2.2 e)⟩, fun ne => ?_⟩⟩) (fun q => ⟨fun _ => ⟨⟨fun _ _ _ _ => rfl, rfl⟩, bad (fun z => q z.2.1)⟩, fun z => absurd n0 z⟩)
  obtain ⟨a, ha⟩ : ∃ a : Nat, a1.toInt = (a : Int) := ⟨a1.toInt.toNat, by omega⟩
  obtain ⟨b, hb⟩ : ∃ b : Nat, a2.toInt = (b : Int) := ⟨a2.toInt.toNat, by omega⟩
  refine w_holdsC ha hb (by omega) (by omega) h3 (fun σ1 v f g1 g2 g3 gv => ?_)
  have rest : ∀ r : Int32, r = v → FrHo σ σ1 ∧ W_M_holds a1 a2 a3 σ1 (fun r2 σ2 => r = r2 ∧ HdJ σ2 ∧ ∃ s, BgR σ1 s ∧ (∀ k j, k ≠ 129 → σ2.1 k j = s.1 k j) ∧ σ2.2 = s.2) := fun r hr => by
    refine ⟨f, holds_M ha hb (by omega) (by omega) (by omega) h3 (fun s τ w bg e ew => ?_)⟩
    have c : ∀ k j, k ≠ 15 → k ≠ 16 → σ1.1 k j = σ.1 k j := f.1
    -- both sides before, but begun
    have old : ∀ i j, i < 6 → j < 6 → i ≠ j → (bG (σ.1 15 i) j = true ↔ (s.1 129 (6 * i + j)).toInt ≠ 0) := fun i j hi hj hn => by
      rcases bg with ⟨b1, b2⟩ | ⟨b0, b1, b2, b3, b4, b5, b6⟩
      · rw [b2, c 129 _ (by decide) (by decide)]
        rw [c 110 26 (by decide) (by decide)] at b1
        exact h.2.1 b1 i j hi hj hn
      · rw [c 110 26 (by decide) (by decide)] at b0
        obtain ⟨z1, z2⟩ := h.2.2 b0
        rw [z2 i j hi hj hn]
        have one : (1 : Int32).toInt ≠ 0 := by decide
        by_cases z : i = 5 ∨ (i = 1 ∧ j = 0)
        · refine ⟨fun _ => ?_, fun _ => z⟩
          rcases z with z | z
          · rw [b6 _ (by omega) (by omega)]; exact one
          · rw [show 6 * i + j = 6 by omega, b5]; exact one
        · refine ⟨fun y => absurd y z, fun y => absurd (?_ : (s.1 129 (6 * i + j)).toInt = 0) y⟩
          rw [b1 129 _ (by omega) (by omega) (by omega), c 129 _ (by decide) (by decide)]
          exact z1 _ (by omega)
    have bo : (s.1 129 (6 * a + b)).toInt = 0 ∨ (s.1 129 (6 * a + b)).toInt = 1 := by
      rcases bg with ⟨b1, b2⟩ | ⟨b0, b1, b2, b3, b4, b5, b6⟩
      · rw [b2, c 129 _ (by decide) (by decide)]; exact hbo _ (by omega)
      · by_cases z : 6 * a + b = 6 ∨ (30 ≤ 6 * a + b ∧ 6 * a + b ≤ 34)
        · rcases z with z | z
          · rw [z, b5]; exact Or.inr m1
          · rw [b6 _ z.1 z.2]; exact Or.inr m1
        · rw [b1 129 _ (by omega) (by omega) (by omega), c 129 _ (by decide) (by decide)]; exact hbo _ (by omega)
    have s15 : ∀ i, s.1 15 i = σ1.1 15 i := fun i => by
      rcases bg with ⟨b1, b2⟩ | ⟨b0, b1, _⟩
      · rw [b2]
      · exact b1 15 i (by omega) (by omega) (by omega)
    have s16 : ∀ i, s.1 16 i = σ1.1 16 i := fun i => by
      rcases bg with ⟨b1, b2⟩ | ⟨b0, b1, _⟩
      · rw [b2]
      · exact b1 16 i (by omega) (by omega) (by omega)
    have t15 : ∀ i, τ.1 15 i = σ1.1 15 i := fun i => by rw [← e, yI_ne (by omega)]; exact s15 i
    have eT : toH τ = toH σ1 := funext fun i => funext fun j => by show (bG (τ.1 15 i) j = true) = (bG (σ1.1 15 i) j = true); rw [t15]
    have on : (τ.1 110 26).toInt ≠ 0 := by rw [← e, yI_ne (by omega)]; exact bg.on
    refine ⟨?_, ⟨fun i j hi hj => by rw [← e, yI_ne (by omega), s16, e, eT]; exact g1 i j hi hj, fun _ i j hi hj hn => ?_, fun z => absurd z on⟩, s, bg, fun k j q => by rw [← e, yI_ne (by omega)], by rw [← e, yI_l]⟩
    · rw [hr, gv, ew]
      have o := old a b (by omega) (by omega) (by omega)
      have k1 : (bG (σ.1 15 a) b = true ↔ a3 = 1) ↔ (s.1 129 (6 * a + b)).toInt = a3.toInt := by
        rw [o]
        rcases h3 with q | q
        · rw [q, n0]; exact ⟨fun y => Classical.byContradiction fun z => absurd (y.mp z) (by decide), fun y => ⟨fun z => absurd y z, fun z => absurd z (by decide)⟩⟩
        · rw [q, m1]; exact ⟨fun y => by have := y.mpr rfl; omega, fun y => ⟨fun _ => rfl, fun _ => by omega⟩⟩
      by_cases z : (s.1 129 (6 * a + b)).toInt = a3.toInt
      · rw [if_pos z, if_pos (k1.mpr z)]
      · rw [if_neg z, if_neg (fun y => z (k1.mp y))]
    · rw [t15]
      by_cases z : i = a
      · subst z
        rw [g3 j hj]
        by_cases y : j = b
        · subst y
          rw [if_pos rfl, ← e, yI_at, decide_eq_true_iff]
          rcases h3 with q | q
          · rw [q]; exact ⟨fun y => absurd y (by decide), fun y => absurd n0 y⟩
          · rw [q]; exact ⟨fun _ => n1, fun _ => rfl⟩
        · rw [if_neg y, ← e, yI_ne (by omega)]
          exact old i j hi hj hn
      · rw [g2 i z, ← e, yI_ne (by omega)]
        exact old i j hi hj hn
  refine ⟨fun z => rest 0 (Int32.toInt_inj.mp (by rw [z]; exact n0)), fun z => rest 1 ?_⟩
  rw [gv] at z ⊢
  by_cases y : (bG (σ.1 15 a) b = true ↔ a3 = 1)
  · rw [if_pos y] at z; exact absurd n0 z
  · rw [if_neg y]
end N13
/-! ===== N14: feature, on both sides ===== -/
/-- the world for bearers -/
noncomputable def WdB (σ : zS) : Prop := ((σ.1 5 0).toInt = (σ.1 110 6).toInt ∧ (σ.1 10 0).toInt = (σ.1 110 20).toInt ∧ ∀ u, u < 40 → ((σ.1 14 u).toInt = 0 ↔ (σ.1 128 u).toInt = 0)) ∧ (0 ≤ (σ.1 110 6).toInt ∧ (σ.1 110 6).toInt ≤ 20) ∧ 0 ≤ (σ.1 110 20).toInt ∧ (σ.1 110 20).toInt ≤ 40
/-- one slot is set: sort, size, and twenty items of none -/
noncomputable def SetF (k7 k8 k9 n : Nat) (x y : Int32) (σ τ : zS) : Prop := ((∀ k j, ¬ ((k = k7 ∨ k = k8) ∧ j = n) → τ.1 k j = σ.1 k j) ∧ τ.1 k7 n = x ∧ τ.1 k8 n = y) ∧ (∀ k j, ¬ (k = k9 ∧ 20 * n ≤ j ∧ j < 20 * n + 20) → τ.2 k j = σ.2 k j) ∧ ∀ i, i < 20 → τ.2 k9 (20 * n + i) = 0
section N14
variable {σ τ ρ : zS} {a1 a2 a3 a4 : Int32}
theorem WdB.cg (h : FrI σ τ) (q : WdB σ) : WdB τ := by
  unfold WdB at q ⊢
  rw [h.1 5 0 (by decide) (by decide), h.1 10 0 (by decide) (by decide), h.1 110 6 (by decide) (by decide), h.1 110 20 (by decide) (by decide)]
  refine ⟨⟨q.1.1, q.1.2.1, fun u hu => ?_⟩, q.2⟩
  rw [h.1 14 u (by decide) (by decide), h.1 128 u (by decide) (by decide)]
  exact q.1.2.2 u hu
theorem w_setFeature {x1 x2 x3 : Int32} {n : Nat} {Q : Unit → zS → Prop} (h1 : x1.toInt = (n : Int)) (hn : n < 480) (kk : ∀ τ : zS, SetF 7 8 9 n x2 x3 σ τ → Q () τ) : W_Wh_setFeature x1 x2 x3 σ Q := by
  refine ⟨n, h1, hn, fun s2 e2 s3 e3 => ?_⟩
  have e : fuF = 99979 + 20 + 1 := by show 100000 = 99979 + 20 + 1; decide
  rw [e]
  refine wl_setFeature (ρ0 := s3) h1 hn (fun τ g1 g2 g3 => kk τ ⟨⟨fun k j q => ?_, ?_, ?_⟩, fun k j q => ?_, g3⟩) 20 0 0 s3 (by omega) (by decide) rfl (fun _ _ _ => rfl) (fun i hi => absurd hi (by omega)) 99979
  · rw [g1, ← e3, yI_ne (by omega), ← e2, yI_ne (by omega)]
  · rw [g1, ← e3, yI_ne (by omega), ← e2, yI_at]
  · rw [g1, ← e3, yI_at]
  · rw [g2 k j q, ← e3, yI_l, ← e2, yI_l]
theorem wl_featureM {n : Nat} {x5 : Int32} {ρ0 : zS} {Q : Int32 → zS → Prop} (h1 : x5.toInt = (n : Int)) (hn : n < 480) (kk : ∀ τ : zS, τ.1 = ρ0.1 → (∀ k j, ¬ (k = 123 ∧ 20 * n ≤ j ∧ j < 20 * n + 20) → τ.2 k j = ρ0.2 k j) → (∀ i, i < 20 → τ.2 123 (20 * n + i) = 0) → Q (τ.1 122 n) τ) : ∀ (f i : Nat) (x6 : Int32) (ρ : zS), i + f = 20 → x6.toInt = (i : Int) → ρ.1 = ρ0.1 → (∀ k j, ¬ (k = 123 ∧ 20 * n ≤ j ∧ j < 20 * n + i) → ρ.2 k j = ρ0.2 k j) → (∀ i', i' < i → ρ.2 123 (20 * n + i') = 0) → ∀ N, (WL_M_feature (N + f + 1)) x5 x6 ρ Q
  | 0, i, x6, ρ, e, h4, g1, g2, g3, N => wl_M_feature_78 ⟨fun _ => ⟨n, h1, hn, kk ρ g1 (by rw [show i = 20 by omega] at g2; exact g2) (by rw [show i = 20 by omega] at g3; exact g3)⟩, fun z => absurd (by omega) z⟩
  | f + 1, i, x6, ρ, e, h4, g1, g2, g3, N => by
    show (WL_M_feature ((N + f + 1) + 1)) x5 x6 ρ Q
    refine wl_M_feature_78 ⟨fun z => absurd z (by omega), fun _ => ⟨by omega, fun r3 h3 => ⟨by omega, fun r4 h4' => ⟨20 * n + i, by omega, by omega, fun s6 e6 => ⟨by omega, fun r7 h7 => ?_⟩⟩⟩⟩⟩
    refine wl_featureM h1 hn kk f (i + 1) r7 s6 (by omega) (by omega) (by rw [← e6]; exact g1) (fun k j q => ?_) (fun i' hi => ?_) N
    · rw [← e6, yJ_ne (by omega)]; exact g2 k j (by omega)
    · by_cases z : i' = i
      · subst z; rw [← e6, yJ_at]
      · rw [← e6, yJ_ne (by omega)]; exact g3 i' (by omega)
theorem w_setM50 {x3 x4 x5 y : Int32} {n : Nat} {Q : Int32 → zS → Prop} (h1 : x5.toInt = (n : Int)) (hn : n < 480) (hy : y = if x3.toInt = 0 then 0 else x4) (kk : ∀ τ : zS, SetF 121 122 123 n x3 y σ τ → Q y τ) : W_M_feature_b50 (WL_M_feature fuF) x3 x4 x5 σ Q := by
  have e : fuF = 99979 + 20 + 1 := by show 100000 = 99979 + 20 + 1; decide
  rw [e]
  have go : ∀ s2 s3 : zS, zI σ 121 n x3 = s2 → zI s2 122 n y = s3 → (WL_M_feature (99979 + 20 + 1)) x5 0 s3 Q := fun s2 s3 e2 e3 => by
    refine wl_featureM (ρ0 := s3) h1 hn (fun τ g1 g2 g3 => ?_) 20 0 0 s3 (by omega) (by decide) rfl (fun _ _ _ => rfl) (fun i hi => absurd hi (by omega)) 99979
    have ey : τ.1 122 n = y := by rw [g1, ← e3, yI_at]
    rw [ey]
    refine kk τ ⟨⟨fun k j q => ?_, ?_, ey⟩, fun k j q => ?_, g3⟩
    · rw [g1, ← e3, yI_ne (by omega), ← e2, yI_ne (by omega)]
    · rw [g1, ← e3, yI_ne (by omega), ← e2, yI_at]
    · rw [g2 k j q, ← e3, yI_l, ← e2, yI_l]
  refine ⟨n, h1, hn, fun s2 e2 => ⟨fun z s5 e5 => go s2 s5 e2 (by rw [hy, if_pos z]; exact e5), fun z s4 e4 => go s2 s4 e2 (by rw [hy, if_neg z]; exact e4)⟩⟩
theorem SetF.both {n : Nat} {x y : Int32} {s t : zS} (h : ItS σ) (f : SetF 7 8 9 n x y σ s) (g : SetF 121 122 123 n x y s t) : ItS t := by
  obtain ⟨⟨f1, f2, f3⟩, f4, f5⟩ := f
  obtain ⟨⟨g1, g2, g3⟩, g4, g5⟩ := g
  refine ⟨fun m hm => ?_, fun i hi => ?_⟩
  · by_cases z : m = n
    · subst z
      rw [g2, g3, g1 7 m (by omega), g1 8 m (by omega), f2, f3]
      exact ⟨rfl, rfl⟩
    · rw [g1 7 m (by omega), g1 8 m (by omega), g1 121 m (by omega), g1 122 m (by omega), f1 7 m (by omega), f1 8 m (by omega), f1 121 m (by omega), f1 122 m (by omega)]
      exact h.1 m hm
  · by_cases z : 20 * n ≤ i ∧ i < 20 * n + 20
    · obtain ⟨j, hj⟩ : ∃ j, i = 20 * n + j := ⟨i - 20 * n, by omega⟩
      subst hj
      rw [g5 j (by omega), g4 9 _ (by omega), f5 j (by omega)]
    · rw [g4 9 i (by omega), g4 123 i (by omega), f4 9 i (by omega), f4 123 i (by omega)]
      exact h.2 i hi
theorem SetF.i {n : Nat} {x y : Int32} {s : zS} (f : SetF 7 8 9 n x y σ s) : FrI σ s := ⟨fun k j q q2 => f.1.1 k j (by omega), fun k j q => f.2.1 k j (by omega)⟩
theorem SetF.j {n : Nat} {x y : Int32} {s : zS} (f : SetF 121 122 123 n x y σ s) : FrJ σ s := ⟨fun k j q q2 => f.1.1 k j (by omega), fun k j q _ => f.2.1 k j (by omega)⟩
theorem feature_same (hw : WdB σ) (h : ItS σ) : W_H_feature a1 a2 a3 a4 σ (fun r σ1 => FrI σ σ1 ∧ W_M_feature a1 a2 a3 a4 σ1 (fun r2 σ2 => r = r2 ∧ FrJ σ1 σ2 ∧ ItS σ2)) := by
  have n0 : (0 : Int32).toInt = 0 := by decide
  have n1 : ¬ (1 : Int32).toInt = 0 := by decide
  have n4 : (-4 : Int32).toInt = -4 := by decide
  have m1 : (-1 : Int32).toInt = -1 := by decide
  have same : ∀ {x y : Int32}, x = y → (x = y ∧ FrJ σ σ ∧ ItS σ) := fun e => ⟨e, ⟨fun _ _ _ _ => rfl, fun _ _ _ _ => rfl⟩, h⟩
  have fr : FrI σ σ := ⟨fun _ _ _ _ => rfl, fun _ _ _ => rfl⟩
  obtain ⟨⟨w1, w2, w3⟩, w4, w5⟩ := id hw
  -- the reference, where nothing is set
  have bad : ((∀ n, ¬ SlV σ a1.toInt a2.toInt n) ∨ ¬ (0 ≤ a3.toInt ∧ a3.toInt ≤ 3) ∨ (0 < a3.toInt ∧ 20 < a4.toInt)) → W_M_feature a1 a2 a3 a4 σ (fun r2 σ2 => (-1 : Int32) = r2 ∧ FrJ σ σ2 ∧ ItS σ2) := fun no => by
    refine w_rowFor w1 w2 w3 w4 w5 (fun v n hv hn sl => ⟨fun z => absurd z (by omega), fun _ r3 h3 => ?_⟩) (fun _ => ⟨fun _ => same rfl, fun z => absurd (by omega) z⟩)
    refine w_inN (l := 0) (u := 3) h3 (by decide) (by decide) (fun q => ⟨fun z => absurd z n1, fun _ => ?_⟩) (fun _ => ⟨fun _ => same rfl, fun z => absurd n0 z⟩)
    rcases no with q' | q' | q'
    · exact absurd sl (q' n)
    · exact absurd q q'
    · exact ⟨fun z => absurd z (by omega), fun _ => ⟨fun z => absurd z (by omega), fun _ => same rfl⟩⟩
  have neg : (∃ n, SlV σ a1.toInt a2.toInt n) → (0 < a3.toInt ∧ a3.toInt ≤ 3) → a4.toInt < 0 → W_M_feature a1 a2 a3 a4 σ (fun r2 σ2 => (-13 : Int32) = r2 ∧ FrJ σ σ2 ∧ ItS σ2) := fun yes q3 q4 => by
    refine w_rowFor w1 w2 w3 w4 w5 (fun v n hv hn sl => ⟨fun z => absurd z (by omega), fun _ r3 h3 => ?_⟩) (fun q => yes.elim (fun m z => absurd z (q m)))
    refine w_inN (l := 0) (u := 3) h3 (by decide) (by decide) (fun q => ⟨fun z => absurd z n1, fun _ => ?_⟩) (fun q => absurd (by omega) q)
    exact ⟨fun z => absurd z (by omega), fun _ => ⟨fun _ => ⟨fun z => absurd z (by omega), fun _ => ⟨fun z => absurd z (by omega), fun _ => same rfl⟩⟩, fun z => absurd (by omega) z⟩⟩
  have set : ∀ {n : Nat} {y : Int32} {s : zS}, SlV σ a1.toInt a2.toInt n → (0 ≤ a3.toInt ∧ a3.toInt ≤ 3) → (0 < a3.toInt → 0 ≤ a4.toInt ∧ a4.toInt ≤ 20) → y = (if a3.toInt = 0 then 0 else a4) → SetF 7 8 9 n a3 y σ s → W_M_feature a1 a2 a3 a4 s (fun r2 σ2 => y = r2 ∧ FrJ s σ2 ∧ ItS σ2) := fun {n y s} sl q3 q4 hy f => by
    have hw' := hw.cg f.i
    obtain ⟨⟨w1, w2, w3⟩, w4, w5⟩ := hw'
    have sl' := sl.cg f.i
    refine w_rowFor w1 w2 w3 w4 w5 (fun v m hv hm sm => ⟨fun z => absurd z (by omega), fun _ r3 h3 => ?_⟩) (fun q => absurd sl' (q n))
    have e : m = n := sm.one sl'
    subst e
    have fin : W_M_feature_b50 (WL_M_feature fuF) a3 a4 v s (fun r2 σ2 => y = r2 ∧ FrJ s σ2 ∧ ItS σ2) := w_setM50 hv hm hy (fun τ g => ⟨rfl, g.j, f.both h g⟩)
    refine w_inN (l := 0) (u := 3) h3 (by decide) (by decide) (fun q => ⟨fun z => absurd z n1, fun _ => ?_⟩) (fun q => absurd q3 q)
    exact ⟨fun z => ⟨fun _ => fin, fun z' => absurd z z'⟩, fun z => ⟨fun _ => ⟨fun z' => absurd z' z, fun _ => ⟨fun _ => fin, fun z' => absurd (q4 (by omega)).1 z'⟩⟩, fun z' => absurd (q4 (by omega)).2 z'⟩⟩
  refine w_slotOf (by omega) (by omega) (fun v n hv hn sl => ⟨fun z => absurd z (by omega), fun _ => ⟨fun z => ⟨fr, bad (Or.inr (Or.inl (by omega)))⟩, fun q3 => ⟨fun q3' => ⟨fun z => ?_, fun z => ?_⟩, fun z => ⟨fr, bad (Or.inr (Or.inl (by omega)))⟩⟩⟩⟩) (fun no => ⟨fun _ => ⟨fr, bad (Or.inl no)⟩, fun z => absurd n4 z⟩)
  · refine ⟨fun _ => ⟨fun _ => w_setFeature hv hn (fun s f => ⟨f.i, set sl (by omega) (fun z' => by omega) (by rw [if_pos z]) f⟩), fun z' => absurd (by decide) z'⟩, fun z' => absurd (by decide) z'⟩
  · refine ⟨fun z1 => ⟨fun z2 => w_setFeature hv hn (fun s f => ⟨f.i, set sl (by omega) (fun _ => ⟨z2, z1⟩) (by rw [if_neg z]) f⟩), fun z2 => ⟨fr, neg ⟨n, sl⟩ (by omega) (by omega)⟩⟩, fun z1 => ⟨fr, bad (Or.inr (Or.inr (by omega)))⟩⟩
end N14
/-! ===== N15: compare ===== -/
noncomputable abbrev cmT (σ : zS) (n : Nat) (po po' : Int) (m p a : Nat) (f t : Nat) (s : CmS) : CmS := fdT (fun u => (σ.1 128 u).toInt = 0) (cmS σ n po po' p a) f t s
noncomputable abbrev cmA (σ : zS) (n : Nat) (po po' : Int) (m p : Nat) (f a : Nat) (s : CmS) : CmS := fdI (fun a s => cmT σ n po po' m p a m 0 s) f a s
noncomputable abbrev cmP (σ : zS) (n : Nat) (po po' : Int) (m : Nat) (f p : Nat) (s : CmS) : CmS := fdI (fun p s => cmA σ n po po' m p 6 0 s) f p s
section N15
variable {σ τ ρ μ : zS} {n P F : Nat} {rk : Nat → Nat}
theorem CmB.le {s : CmS} {b c : Int} (h : CmB s b) (hb : b ≤ c) : CmB s c := ⟨h.1, h.2.1, h.2.2.1, Int.le_trans h.2.2.2.1 hb, h.2.2.2.2⟩
/-- only row 33 changes -/
theorem FldJ.r33 {w : Int32} {t : Int} (h : FldJ true σ ρ n w t) (g1 : ∀ k j, k ≠ 33 → τ.1 k j = ρ.1 k j) (g2 : τ.2 = ρ.2) : FldJ true σ τ n w t := by
  obtain ⟨h1, h2, h3, h4, h5⟩ := h
  refine ⟨h1.tr ⟨fun k j q q2 q3 q4 q5 => g1 k j (q5 rfl), fun k j _ => by rw [g2]⟩, ?_, ?_, ?_, ?_⟩
  · rw [g1 27 3 (by decide)]; exact h2
  · rw [g1 27 4 (by decide)]; exact h3
  · rw [g1 27 6 (by decide)]; exact h4
  · rw [g1 27 7 (by decide)]; exact h5
theorem fa33 {x : Int32} {j : Nat} (f : FrA (stA ρ x) τ) : τ.1 33 j = ρ.1 33 j := by
  rw [f.1 33 j (by decide) (by decide) (by decide) (by omega)]
  unfold stA
  rw [yI_ne (by omega), yI_ne (by omega), yI_ne (by omega), yI_ne (by omega), yI_ne (by omega)]
/-- both said the same -/
theorem cmS_eq {po po' : Int} {p a t : Nat} {s : CmS} (h : ansJ (vdF σ n po (p : Int) t a (σ.1 110 0).toInt) = ansJ (vdF σ n po' (p : Int) t a (σ.1 110 0).toInt)) : (cmS σ n po po' p a t s).1 = s.1 ∧ ∀ i, (cmS σ n po po' p a t s).2 i = if i = 5 then s.2 5 + 1 else s.2 i := by
  refine ⟨?_, fun i => ?_⟩
  · show (if ansJ (vdF σ n po (p : Int) t a (σ.1 110 0).toInt) = ansJ (vdF σ n po' (p : Int) t a (σ.1 110 0).toInt) then s.1 else s.1 + 1) = s.1
    rw [if_pos h]
  · show (if i = 5 then s.2 5 + 1 else if i = 0 then (if ansJ (vdF σ n po' (p : Int) t a (σ.1 110 0).toInt) = 1 ∧ ansJ (vdF σ n po (p : Int) t a (σ.1 110 0).toInt) ≠ 1 then s.2 0 + 1 else s.2 0) else if i = 1 then (if ansJ (vdF σ n po (p : Int) t a (σ.1 110 0).toInt) = 1 ∧ ansJ (vdF σ n po' (p : Int) t a (σ.1 110 0).toInt) ≠ 1 then s.2 1 + 1 else s.2 1) else if ansJ (vdF σ n po (p : Int) t a (σ.1 110 0).toInt) ≠ ansJ (vdF σ n po' (p : Int) t a (σ.1 110 0).toInt) ∧ s.1 = 0 then (if i = 2 then (p : Int) else if i = 3 then (a : Int) else (t : Int)) else s.2 i) = _
    rw [h]
    by_cases q5 : i = 5
    · rw [if_pos q5, if_pos q5]
    · rw [if_neg q5, if_neg q5]
      by_cases q0 : i = 0
      · rw [if_pos q0, if_neg (fun z => z.2 z.1), q0]
      · rw [if_neg q0]
        by_cases q1 : i = 1
        · rw [if_pos q1, if_neg (fun z => z.2 z.1), q1]
        · rw [if_neg q1, if_neg (fun z => z.1 rfl)]
theorem w_set33 {a t k : Int32} {ρ : zS} {Q : Unit → zS → Prop} (h : Wa σ n P F rk) (hF : FrHa true σ ρ) (h6 : ρ.1 27 6 = t) (h7 : ρ.1 27 7 = σ.1 110 0) (ht : 0 ≤ t.toInt) (hk : k = σ.1 110 0) (kk : ∀ τ : zS, FldJ true σ τ n a t.toInt → (∀ j, τ.1 33 j = ρ.1 33 j) → Q () τ) : W_Wh_groupsOf a t k ρ (fun v s => W_Ju_setPerson a v s Q) := by
  refine w_groupsOf (n := n) (h.1.2.1.cx hF.v).1 (by omega) (fun v _ hv s1 e1 s2 e2 => kk s2 ⟨(hF.i e1 (by omega)).i e2 (by omega), ?_, fun j hj => ?_, ?_, ?_⟩ (fun j => ?_))
  · rw [← e2, yI_ne (by omega), ← e1, yI_at]
  · rw [← e2, yI_at, hv j hj, hk, inc_cx hF.v]
  · rw [← e2, yI_ne (by omega), ← e1, yI_ne (by omega), h6]
  · rw [← e2, yI_ne (by omega), ← e1, yI_ne (by omega), h7]
  · rw [← e2, yI_ne (by omega), ← e1, yI_ne (by omega)]
theorem wt_cmp {po po' : Int32} {x4 x5 : Int32} {p a m : Nat} {Q : Int32 → zS → Prop} {N : Nat} (h : Wa σ n P F rk) (hm : (σ.1 110 20).toInt = (m : Int)) (hp : po.toInt = -4 ∨ (0 ≤ po.toInt ∧ po.toInt < (P : Int))) (hp' : po'.toInt = -4 ∨ (0 ≤ po'.toInt ∧ po'.toInt < (P : Int))) (h4 : x4.toInt = (p : Int)) (hp20 : p < 20) (h5 : x5.toInt = (a : Int)) (ha6 : a < 6) : ∀ (f t : Nat) (s : CmS) (x3 x6 : Int32) (ρ : zS), t + f = m → FldJ true σ ρ n x4 (σ.1 110 0).toInt → x6.toInt = (t : Int) → CmR ρ 33 x3.toInt s → CmB s (240 * (p : Int) + 40 * a + t) → (∀ (r y3 : Int32) (τ : zS), r.toInt = (a : Int) + 1 → FldJ true σ τ n x4 (σ.1 110 0).toInt → CmR τ 33 y3.toInt (cmT σ n po.toInt po'.toInt m p a f t s) → CmB (cmT σ n po.toInt po'.toInt m p a f t s) (240 * (p : Int) + 40 * ((a : Int) + 1)) → (WL_Ju_differences N).2.1 po po' y3 x4 r τ Q) → (WL_Ju_differences (N + f + 1)).2.2 po po' x3 x4 x5 x6 ρ Q
  | 0, t, s, x3, x6, ρ, e, hf, h6, hR, hB, kk => by
    have h0 := h
    obtain ⟨_, _, _, _, _, ⟨t1, t2, t3⟩, _⟩ := h0
    have r10 : (ρ.1 10 0).toInt = (m : Int) := by rw [hf.1.k 10 0 (by omega) (by omega) (by omega), t1]; exact hm
    exact wl_Ju_differences_113 ⟨fun _ => ⟨by omega, fun r2 h2 => kk r2 x3 ρ (by omega) hf hR (hB.le (by omega))⟩, fun z => absurd (by omega) z⟩
  | f + 1, t, s, x3, x6, ρ, e, hf, h6, hR, hB, kk => by
    have n0 : (0 : Int32).toInt = 0 := by decide
    have n1 : ¬ (1 : Int32).toInt = 0 := by decide
    have h0 := h
    obtain ⟨_, _, _, ⟨w1, w2⟩, _, ⟨t1, t2, t3⟩, g, _⟩ := h0
    have r10 : (ρ.1 10 0).toInt = (m : Int) := by rw [hf.1.k 10 0 (by omega) (by omega) (by omega), t1]; exact hm
    have r14 : ∀ u, ρ.1 14 u = σ.1 14 u := fun u => hf.1.k 14 u (by omega) (by omega) (by omega)
    have tn : x6.toInt.toNat = t := by omega
    have B4 := hB.2.2.2.1
    have B5 := hB.1
    show (WL_Ju_differences ((N + f + 1) + 1)).2.2 po po' x3 x4 x5 x6 ρ Q
    refine wl_Ju_differences_113 ⟨fun z => absurd z (by omega), fun _ => ?_⟩
    refine w_isThere (by omega) (fun c => ⟨fun z => absurd z n1, fun _ => ?_⟩) (fun c => ⟨fun _ => ⟨by omega, fun r14' h14 => ?_⟩, fun z => absurd n0 z⟩)
    · have gx : (σ.1 128 t).toInt = 0 := (g t (by omega)).mp (by rw [tn, r14] at c; exact c.2.2)
      have q5 := hR.2 5 (by omega)
      refine ⟨by omega, fun r5 h5' σ6 e6 => ?_⟩
      have f6 : FldJ true σ σ6 n x4 (σ.1 110 0).toInt := hf.r33 (fun k j q => by rw [← e6, yI_ne (by omega)]) (by rw [← e6, yI_l])
      refine w_ans1 (ω := true) (n := n) h f6 hp (by omega) w2 h6 (by omega) h5 ha6 (fun τ7 v7 f7 e7 _ fa7 => ?_)
      refine w_ans1 (ω := true) (n := n) h f7 hp' (by omega) w2 h6 (by omega) h5 ha6 (fun τ8 v8 f8 e8 _ fa8 => ?_)
      rw [h4] at e7 e8
      have row : ∀ i, i ≠ 5 → τ8.1 33 i = ρ.1 33 i := fun i q => by rw [fa33 fa8, fa33 fa7, ← e6, yI_ne (by omega)]
      have row5 : (τ8.1 33 5).toInt = s.2 5 + 1 := by rw [fa33 fa8, fa33 fa7, ← e6, yI_at, h5', q5]
      have nb := cmS_b (σ := σ) (n := n) (po := po.toInt) (po' := po'.toInt) (p := p) (a := a) (t := t) hB
      refine ⟨fun eq => ⟨by omega, fun r10' h10 => ?_⟩, fun ne => ⟨by have := hR.1; omega, fun r11 h11 => ?_⟩⟩
      · have ce := cmS_eq (σ := σ) (n := n) (po := po.toInt) (po' := po'.toInt) (p := p) (a := a) (t := t) (s := s) (by rw [← e7, ← e8]; exact eq)
        refine wt_cmp h hm hp hp' h4 hp20 h5 ha6 f (t + 1) (cmS σ n po.toInt po'.toInt p a t s) x3 r10' τ8 (by omega) f8 (by omega) ⟨by rw [ce.1]; exact hR.1, fun i hi => ?_⟩ (nb.le (by omega)) (fun r y3 τ' k1 k2 k3 k4 => kk r y3 τ' k1 k2 ?_ ?_)
        · rw [ce.2 i]
          by_cases z : i = 5
          · rw [if_pos z, z]; exact row5
          · rw [if_neg z, row i z]; exact hR.2 i hi
        · show CmR τ' 33 y3.toInt (fdT _ _ (f + 1) t s)
          rw [fdT_y gx]; exact k3
        · show CmB (fdT _ _ (f + 1) t s) _
          rw [fdT_y gx]; exact k4
      · refine w_note (ρ0 := ρ) (x3 := x3) (σ := σ) (n := n) (po := po.toInt) (po' := po'.toInt) (p := p) (a := a) (t := t) (b := 240 * (p : Int) + 40 * a + t) hB (by omega) hR (fun i hi => row i (by omega)) row5 e7 e8 ne h11 (by rw [f8.2.1]; exact h4) h5 h6 (fun τ9 g1 g2 g3 => ⟨by omega, fun r13 h13 => ?_⟩)
        refine wt_cmp h hm hp hp' h4 hp20 h5 ha6 f (t + 1) (cmS σ n po.toInt po'.toInt p a t s) r11 r13 τ9 (by omega) (f8.r33 g1 g2) (by omega) g3 (nb.le (by omega)) (fun r y3 τ' k1 k2 k3 k4 => kk r y3 τ' k1 k2 ?_ ?_)
        · show CmR τ' 33 y3.toInt (fdT _ _ (f + 1) t s)
          rw [fdT_y gx]; exact k3
        · show CmB (fdT _ _ (f + 1) t s) _
          rw [fdT_y gx]; exact k4
    · have gn : ¬ (σ.1 128 t).toInt = 0 := fun z => c ⟨by omega, by omega, by rw [tn, r14]; exact (g t (by omega)).mpr z⟩
      refine wt_cmp h hm hp hp' h4 hp20 h5 ha6 f (t + 1) s x3 r14' ρ (by omega) hf (by omega) hR (hB.le (by omega)) (fun r y3 τ' k1 k2 k3 k4 => kk r y3 τ' k1 k2 ?_ ?_)
      · show CmR τ' 33 y3.toInt (fdT _ _ (f + 1) t s)
        rw [fdT_n gn]; exact k3
      · show CmB (fdT _ _ (f + 1) t s) _
        rw [fdT_n gn]; exact k4
theorem wa_cmp {po po' : Int32} {x4 : Int32} {p m : Nat} {Q : Int32 → zS → Prop} {N : Nat} (h : Wa σ n P F rk) (hm : (σ.1 110 20).toInt = (m : Int)) (hp : po.toInt = -4 ∨ (0 ≤ po.toInt ∧ po.toInt < (P : Int))) (hp' : po'.toInt = -4 ∨ (0 ≤ po'.toInt ∧ po'.toInt < (P : Int))) (h4 : x4.toInt = (p : Int)) (hp20 : p < 20) : ∀ (f a : Nat) (s : CmS) (x3 x5 : Int32) (ρ : zS), a + f = 6 → FldJ true σ ρ n x4 (σ.1 110 0).toInt → x5.toInt = (a : Int) → CmR ρ 33 x3.toInt s → CmB s (240 * (p : Int) + 40 * a) → (∀ (r y3 : Int32) (τ : zS), r.toInt = (p : Int) + 1 → FldJ true σ τ n x4 (σ.1 110 0).toInt → CmR τ 33 y3.toInt (cmA σ n po.toInt po'.toInt m p f a s) → CmB (cmA σ n po.toInt po'.toInt m p f a s) (240 * ((p : Int) + 1)) → (WL_Ju_differences N).1 po po' y3 r τ Q) → (WL_Ju_differences (N + f * (m + 2) + 1)).2.1 po po' x3 x4 x5 ρ Q
  | 0, a, s, x3, x5, ρ, e, hf, h5, hR, hB, kk => by
    rw [Nat.zero_mul]
    exact wl_Ju_differences_103 ⟨fun _ => ⟨by omega, fun r2 h2 => kk r2 x3 ρ (by omega) hf hR (hB.le (by omega))⟩, fun z => absurd (by omega) z⟩
  | f + 1, a, s, x3, x5, ρ, e, hf, h5, hR, hB, kk => by
    refine wl_Ju_differences_103 ⟨fun z => absurd z (by omega), fun _ => ?_⟩
    have hN : N + (f + 1) * (m + 2) = (N + f * (m + 2) + 1) + m + 1 := by rw [Nat.add_mul]; omega
    rw [hN]
    refine wt_cmp (a := a) h hm hp hp' h4 hp20 h5 (by omega) m 0 s x3 0 ρ (by omega) hf (by decide) hR (hB.le (by omega)) (fun r y3 τ k1 k2 k3 k4 => ?_)
    exact wa_cmp h hm hp hp' h4 hp20 f (a + 1) _ y3 r τ (by omega) k2 (by omega) k3 (k4.le (by omega)) (fun r' y3' τ' j1 j2 j3 j4 => kk r' y3' τ' j1 j2 j3 j4)
theorem wp_cmp {po po' : Int32} {M m : Nat} {Q : Int32 → zS → Prop} {N : Nat} (h : Wa σ n P F rk) (hm : (σ.1 110 20).toInt = (m : Int)) (hM : (σ.1 110 6).toInt = (M : Int)) (hp : po.toInt = -4 ∨ (0 ≤ po.toInt ∧ po.toInt < (P : Int))) (hp' : po'.toInt = -4 ∨ (0 ≤ po'.toInt ∧ po'.toInt < (P : Int))) : ∀ (f p : Nat) (s : CmS) (x3 x4 : Int32) (ρ : zS), p + f = M → FrHa true σ ρ → ρ.1 27 6 = σ.1 110 0 → ρ.1 27 7 = σ.1 110 0 → x4.toInt = (p : Int) → CmR ρ 33 x3.toInt s → CmB s (240 * (p : Int)) → (∀ (y3 : Int32) (τ : zS), FrHa true σ τ → CmR τ 33 y3.toInt (cmP σ n po.toInt po'.toInt m f p s) → Q y3 τ) → (WL_Ju_differences (N + f * (6 * (m + 2) + 2) + 1)).1 po po' x3 x4 ρ Q
  | 0, p, s, x3, x4, ρ, e, hf, r6, r7, h4, hR, hB, kk => by
    have h0 := h
    obtain ⟨_, _, _, _, ⟨p1, p2, p3⟩, _⟩ := h0
    have r5 : (ρ.1 5 0).toInt = (M : Int) := by rw [hf.k 5 0 (by omega) (by omega) (by omega), p1]; exact hM
    rw [Nat.zero_mul]
    exact wl_Ju_differences_65 ⟨fun _ => kk x3 ρ hf hR, fun z => absurd (by omega) z⟩
  | f + 1, p, s, x3, x4, ρ, e, hf, r6, r7, h4, hR, hB, kk => by
    have h0 := h
    obtain ⟨_, _, _, ⟨w1, w2⟩, ⟨p1, p2, p3⟩, _⟩ := h0
    have r5 : (ρ.1 5 0).toInt = (M : Int) := by rw [hf.k 5 0 (by omega) (by omega) (by omega), p1]; exact hM
    refine wl_Ju_differences_65 ⟨fun z => absurd z (by omega), fun _ => ?_⟩
    have hN : N + (f + 1) * (6 * (m + 2) + 2) = (N + f * (6 * (m + 2) + 2) + 1) + 6 * (m + 2) + 1 := by rw [Nat.add_mul]; omega
    rw [hN, r6, r7]
    refine w_set33 (n := n) h hf r6 r7 w2.1 rfl (fun ρ' fj c33 => ?_)
    refine wa_cmp (p := p) h hm hp hp' h4 (by omega) 6 0 s x3 0 ρ' (by omega) fj (by decide) ⟨hR.1, fun i hi => by rw [c33]; exact hR.2 i hi⟩ (hB.le (by omega)) (fun r y3 τ k1 k2 k3 k4 => ?_)
    exact wp_cmp h hm hM hp hp' f (p + 1) _ y3 r τ (by omega) k2.1 (Int32.toInt_inj.mp k2.2.2.2.1) k2.2.2.2.2 (by omega) k3 (k4.le (by omega)) (fun y3' τ' j1 j2 => kk y3' τ' j1 j2)
end N15
/-! ===== N16: the reference compares; both together ===== -/
section N16
variable {σ τ ρ μ : zS} {n P F : Nat} {rk : Nat → Nat}
theorem FldM.r156 {w t : Int} (h : FldM σ μ n w t) (g1 : ∀ k j, k ≠ 156 → τ.1 k j = μ.1 k j) (g2 : τ.2 = μ.2) : FldM σ τ n w t := by
  refine ⟨h.1.tr (FrVn.all (fun k j _ _ _ _ _ _ _ _ q => g1 k j (by omega)) (fun k j _ _ => by rw [g2])), fun j hj => ?_⟩
  rw [← h.2 j hj]
  unfold rG
  rw [g1 120 j (by decide)]
theorem FrMa.r156 {σ1 : zS} (h : FrMa true σ1 μ) (g1 : ∀ k j, k ≠ 156 → τ.1 k j = μ.1 k j) (g2 : τ.2 = μ.2) : FrMa true σ1 τ := h.tr ⟨fun k j _ _ _ _ _ q => g1 k j (q rfl), fun k j _ => by rw [g2]⟩
theorem fb156 {j : Nat} (f : FrB (stM μ) τ) : τ.1 156 j = μ.1 156 j := by rw [f.1 156 j (by decide) (by omega), stM_ne (by omega)]
/-- one request, noted by the reference -/
theorem w_noteM {po po' : Int32} {x3 x4 x5 x6 x7 : Int32} {p a t N : Nat} {s : CmS} {b : Int} {Q : Int32 → zS → Prop} (hb : CmB s b) (hbb : b ≤ 10000) (hR : ∀ i, i < 5 → (μ.1 156 i).toInt = s.2 i) (hR5 : (μ.1 156 5).toInt = s.2 5 + 1) (hx3 : x3.toInt = s.1) (e7 : x7.toInt = ansJ (vdF σ n po.toInt (p : Int) t a (σ.1 110 0).toInt)) (e8 : (μ.1 110 65).toInt = ansJ (vdF σ n po'.toInt (p : Int) t a (σ.1 110 0).toInt)) (h4 : x4.toInt = (p : Int)) (h5 : x5.toInt = (a : Int)) (h6 : x6.toInt = (t : Int)) (ht : t < 40) (kk : ∀ (y3 r : Int32) (τ : zS), (∀ k j, k ≠ 156 → τ.1 k j = μ.1 k j) → τ.2 = μ.2 → r.toInt = (t : Int) + 1 → CmR τ 156 y3.toInt (cmS σ n po.toInt po'.toInt p a t s) → (WL_M_compare N).2.2.2 po po' y3 x4 x5 r τ Q) : ((Int32.toInt (μ.1 110 65)) = 1 → (((Int32.toInt x7) = 1 → (W_M_compare_b221 (WL_M_compare N).1 (WL_M_compare N).2.1 (WL_M_compare N).2.2.1 (WL_M_compare N).2.2.2 po po' x3 x4 x5 x6 x7 0 (μ.1 156 0) 0 μ Q)) ∧ (¬ (Int32.toInt x7) = 1 → (W_M_compare_b221 (WL_M_compare N).1 (WL_M_compare N).2.1 (WL_M_compare N).2.2.1 (WL_M_compare N).2.2.2 po po' x3 x4 x5 x6 x7 1 (μ.1 156 0) 0 μ Q)))) ∧ (¬ (Int32.toInt (μ.1 110 65)) = 1 → (W_M_compare_b221 (WL_M_compare N).1 (WL_M_compare N).2.1 (WL_M_compare N).2.2.1 (WL_M_compare N).2.2.2 po po' x3 x4 x5 x6 x7 0 (μ.1 156 0) 0 μ Q)) := by
  have n0 : (0 : Int32).toInt = 0 := by decide
  have m1 : (1 : Int32).toInt = 1 := by decide
  obtain ⟨b1, b2, b3, b4, b5⟩ := hb
  have e1 : (cmS σ n po.toInt po'.toInt p a t s).1 = if x7.toInt = (μ.1 110 65).toInt then s.1 else s.1 + 1 := by rw [e7, e8]; rfl
  have e5 : (cmS σ n po.toInt po'.toInt p a t s).2 5 = s.2 5 + 1 := rfl
  have e0 : (cmS σ n po.toInt po'.toInt p a t s).2 0 = if (μ.1 110 65).toInt = 1 ∧ x7.toInt ≠ 1 then s.2 0 + 1 else s.2 0 := by rw [e7, e8]; rfl
  have e3 : (cmS σ n po.toInt po'.toInt p a t s).2 1 = if x7.toInt = 1 ∧ (μ.1 110 65).toInt ≠ 1 then s.2 1 + 1 else s.2 1 := by rw [e7, e8]; rfl
  have e2 : ∀ i, i ≠ 0 → i ≠ 1 → i ≠ 5 → (cmS σ n po.toInt po'.toInt p a t s).2 i = if x7.toInt ≠ (μ.1 110 65).toInt ∧ s.1 = 0 then (if i = 2 then (p : Int) else if i = 3 then (a : Int) else (t : Int)) else s.2 i := fun i q0 q1 q5 => by
    rw [e7, e8]
    show (if i = 5 then _ else if i = 0 then _ else if i = 1 then _ else _) = _
    rw [if_neg q5, if_neg q0, if_neg q1]
  have c0 := hR 0 (by omega)
  have c1 := hR 1 (by omega)
  -- the last of it: column 1, then the first difference
  have last : ∀ (y0 : Int32) (μ1 : zS), (∀ k j, ¬ (k = 156 ∧ j = 0) → μ1.1 k j = μ.1 k j) → μ1.2 = μ.2 → (μ1.1 156 0).toInt = (cmS σ n po.toInt po'.toInt p a t s).2 0 → s.2 1 + y0.toInt = (cmS σ n po.toInt po'.toInt p a t s).2 1 → (y0.toInt = 0 ∨ y0.toInt = 1) → W_M_compare_b249 (WL_M_compare N).1 (WL_M_compare N).2.1 (WL_M_compare N).2.2.1 (WL_M_compare N).2.2.2 po po' x3 x4 x5 x6 x7 y0 (μ1.1 156 1) 1 μ1 Q := fun y0 μ1 g1 g2 g3 g4 g5 => by
    have d1 : (μ1.1 156 1).toInt = s.2 1 := by rw [g1 156 1 (by omega)]; exact c1
    refine ⟨by omega, fun r1 h1 => ⟨1, by decide, by decide, fun s3 y3 => ?_⟩⟩
    have d65 : s3.1 110 65 = μ.1 110 65 := by rw [← y3, yI_ne (by omega), g1 110 65 (by omega)]
    have k3 : ∀ k j, ¬ (k = 156 ∧ j < 2) → s3.1 k j = μ.1 k j := fun k j q => by rw [← y3, yI_ne (by omega), g1 k j (by omega)]
    have l3 : s3.2 = μ.2 := by rw [← y3, yI_l]; exact g2
    have c30 : (s3.1 156 0).toInt = (cmS σ n po.toInt po'.toInt p a t s).2 0 := by rw [← y3, yI_ne (by omega)]; exact g3
    have c31 : (s3.1 156 1).toInt = (cmS σ n po.toInt po'.toInt p a t s).2 1 := by rw [← y3, yI_at, h1, d1]; exact g4
    rw [d65]
    refine ⟨fun eq => ⟨by omega, fun r5 h5' => kk x3 r5 s3 (fun k j q => k3 k j (by omega)) l3 (by omega) ⟨by rw [e1, if_pos eq]; exact hx3, fun i hi => ?_⟩⟩, fun ne => ⟨fun z σ9 y9 σ10 y10 σ11 y11 => ⟨by omega, fun r12 h12 => ⟨by omega, fun r13 h13 => kk r12 r13 σ11 (fun k j q => ?_) ?_ (by omega) ⟨by rw [e1, if_neg ne, h12, hx3], fun i hi => ?_⟩⟩⟩, fun z => ⟨by omega, fun r7 h7 => ⟨by omega, fun r8 h8 => kk r7 r8 s3 (fun k j q => k3 k j (by omega)) l3 (by omega) ⟨by rw [e1, if_neg ne, h7, hx3], fun i hi => ?_⟩⟩⟩⟩⟩
    · have : i = 0 ∨ i = 1 ∨ i = 5 ∨ (i ≠ 0 ∧ i ≠ 1 ∧ i ≠ 5) := by omega
      rcases this with q | q | q | ⟨q0, q1, q5⟩
      · rw [q]; exact c30
      · rw [q]; exact c31
      · rw [q, k3 156 5 (by omega), e5]; exact hR5
      · rw [e2 i q0 q1 q5, if_neg (fun z => z.1 eq), k3 156 i (by omega)]; exact hR i (by omega)
    · rw [← y11, yI_ne (by omega), ← y10, yI_ne (by omega), ← y9, yI_ne (by omega)]; exact k3 k j (by omega)
    · rw [← y11, yI_l, ← y10, yI_l, ← y9, yI_l]; exact l3
    · have s1 : s.1 = 0 := by omega
      have : i = 0 ∨ i = 1 ∨ i = 2 ∨ i = 3 ∨ i = 4 ∨ i = 5 := by omega
      rcases this with q | q | q | q | q | q
      · rw [q, ← y11, yI_ne (by omega), ← y10, yI_ne (by omega), ← y9, yI_ne (by omega)]; exact c30
      · rw [q, ← y11, yI_ne (by omega), ← y10, yI_ne (by omega), ← y9, yI_ne (by omega)]; exact c31
      · rw [q, e2 2 (by decide) (by decide) (by decide), if_pos ⟨ne, s1⟩, ← y11, yI_ne (by omega), ← y10, yI_ne (by omega), ← y9, yI_at]; exact h4
      · rw [q, e2 3 (by decide) (by decide) (by decide), if_pos ⟨ne, s1⟩, ← y11, yI_ne (by omega), ← y10, yI_at]; exact h5
      · rw [q, e2 4 (by decide) (by decide) (by decide), if_pos ⟨ne, s1⟩, ← y11, yI_at]; exact h6
      · rw [q, ← y11, yI_ne (by omega), ← y10, yI_ne (by omega), ← y9, yI_ne (by omega), k3 156 5 (by omega), e5]; exact hR5
    · have s1 : ¬ s.1 = 0 := by omega
      have : i = 0 ∨ i = 1 ∨ i = 5 ∨ (i ≠ 0 ∧ i ≠ 1 ∧ i ≠ 5) := by omega
      rcases this with q | q | q | ⟨q0, q1, q5⟩
      · rw [q]; exact c30
      · rw [q]; exact c31
      · rw [q, k3 156 5 (by omega), e5]; exact hR5
      · rw [e2 i q0 q1 q5, if_neg (fun z => s1 z.2), k3 156 i (by omega)]; exact hR i (by omega)
  have mid : ∀ y0 : Int32, s.2 0 + y0.toInt = (cmS σ n po.toInt po'.toInt p a t s).2 0 → (y0.toInt = 0 ∨ y0.toInt = 1) → W_M_compare_b221 (WL_M_compare N).1 (WL_M_compare N).2.1 (WL_M_compare N).2.2.1 (WL_M_compare N).2.2.2 po po' x3 x4 x5 x6 x7 y0 (μ.1 156 0) 0 μ Q := fun y0 g4 g5 => by
    refine ⟨by omega, fun r1 h1 => ⟨0, by decide, by decide, fun s3 y3 => ?_⟩⟩
    have g1 : ∀ k j, ¬ (k = 156 ∧ j = 0) → s3.1 k j = μ.1 k j := fun k j q => by rw [← y3, yI_ne (by omega)]
    have g2 : s3.2 = μ.2 := by rw [← y3, yI_l]
    have g3 : (s3.1 156 0).toInt = (cmS σ n po.toInt po'.toInt p a t s).2 0 := by rw [← y3, yI_at, h1, c0]; exact g4
    have d65 : s3.1 110 65 = μ.1 110 65 := g1 110 65 (by omega)
    rw [d65]
    refine ⟨fun q7 => ⟨fun q8 => last 0 s3 g1 g2 g3 ?_ (Or.inl n0), fun q8 => last 1 s3 g1 g2 g3 ?_ (Or.inr m1)⟩, fun q7 => last 0 s3 g1 g2 g3 ?_ (Or.inl n0)⟩
    · rw [e3, if_neg (fun z => z.2 q8), n0, Int.add_zero]
    · rw [e3, if_pos ⟨q7, q8⟩, m1]
    · rw [e3, if_neg (fun z => q7 z.1), n0, Int.add_zero]
  refine ⟨fun q8 => ⟨fun q7 => mid 0 ?_ (Or.inl n0), fun q7 => mid 1 ?_ (Or.inr m1)⟩, fun q8 => mid 0 ?_ (Or.inl n0)⟩
  · rw [e0, if_neg (fun z => z.2 q7), n0, Int.add_zero]
  · rw [e0, if_pos ⟨q8, q7⟩, m1]
  · rw [e0, if_neg (fun z => q8 z.1), n0, Int.add_zero]
end N16
section N16b
variable {σ τ ρ μ : zS} {n P F : Nat} {rk : Nat → Nat}
theorem wt_cmpM {po po' : Int32} {x4 x5 : Int32} {p a m : Nat} {σ1 : zS} {Q : Int32 → zS → Prop} {N : Nat} (h : Wa σ n P F rk) (hbg : (σ.1 110 26).toInt ≠ 0) (hm : (σ.1 110 20).toInt = (m : Int)) (hp : po.toInt = -4 ∨ (0 ≤ po.toInt ∧ po.toInt < (P : Int))) (hp' : po'.toInt = -4 ∨ (0 ≤ po'.toInt ∧ po'.toInt < (P : Int))) (h4 : x4.toInt = (p : Int)) (hp20 : p < 20) (h5 : x5.toInt = (a : Int)) (ha6 : a < 6) : ∀ (f t : Nat) (s : CmS) (x3 x6 : Int32) (μ : zS), t + f = m → FldM σ μ n x4.toInt (σ.1 110 0).toInt → FrMa true σ1 μ → x6.toInt = (t : Int) → CmR μ 156 x3.toInt s → CmB s (240 * (p : Int) + 40 * a + t) → (∀ (r y3 : Int32) (τ : zS), r.toInt = (a : Int) + 1 → FldM σ τ n x4.toInt (σ.1 110 0).toInt → FrMa true σ1 τ → CmR τ 156 y3.toInt (cmT σ n po.toInt po'.toInt m p a f t s) → CmB (cmT σ n po.toInt po'.toInt m p a f t s) (240 * (p : Int) + 40 * ((a : Int) + 1)) → (WL_M_compare N).2.2.1 po po' y3 x4 r τ Q) → (WL_M_compare (N + f + 1)).2.2.2 po po' x3 x4 x5 x6 μ Q
  | 0, t, s, x3, x6, μ, e, hf, hfa, h6, hR, hB, kk => by
    have r20 : (μ.1 110 20).toInt = (m : Int) := by rw [hf.1.2.2.2.2 20 (by omega)]; exact hm
    have := h.2.2.2.2.2.1
    exact wl_M_compare_127 ⟨fun _ => ⟨by omega, fun r2 h2 => kk r2 x3 μ (by omega) hf hfa hR (hB.le (by omega))⟩, fun z => absurd (by omega) z⟩
  | f + 1, t, s, x3, x6, μ, e, hf, hfa, h6, hR, hB, kk => by
    have h0 := h
    obtain ⟨_, _, _, ⟨w1, w2⟩, _, ⟨t1, t2, t3⟩, g, _⟩ := h0
    have r20 : (μ.1 110 20).toInt = (m : Int) := by rw [hf.1.2.2.2.2 20 (by omega)]; exact hm
    have r128 : ∀ u, μ.1 128 u = σ.1 128 u := fun u => hf.1.2.2.1.1 128 u (by omega) (by omega)
    have r0 : μ.1 110 0 = σ.1 110 0 := hf.1.2.2.1.2.1
    have B4 := hB.2.2.2.1
    have B5 := hB.1
    show (WL_M_compare ((N + f + 1) + 1)).2.2.2 po po' x3 x4 x5 x6 μ Q
    refine wl_M_compare_127 ⟨fun z => absurd z (by omega), fun _ => ⟨t, h6, by omega, ⟨fun c => ?_, fun c => ⟨by omega, fun r11 h11 => ?_⟩⟩⟩⟩
    · rw [r128] at c
      have q5 := hR.2 5 (by omega)
      refine w_jud1 (n := n) h hbg (by rw [r0]; exact hf) hp (by omega) (by rw [r0]; exact w2) h6 (by omega) h5 ha6 (fun τ5 f5 e5 _ fb5 => ?_)
      rw [r0, h4] at e5
      rw [r0] at f5
      have r05 : τ5.1 110 0 = σ.1 110 0 := f5.1.2.2.1.2.1
      refine w_jud1 (n := n) h hbg (by rw [r05]; exact f5) hp' (by omega) (by rw [r05]; exact w2) h6 (by omega) h5 ha6 (fun τ6 f6 e6 _ fb6 => ?_)
      rw [r05, h4] at e6
      rw [r05] at f6
      have row : ∀ i, τ6.1 156 i = μ.1 156 i := fun i => by rw [fb156 fb6, fb156 fb5]
      have fa6 : FrMa true σ1 τ6 := (hfa.tr (stM_a.tr fb5.a)).tr (stM_a.tr fb6.a)
      refine ⟨by rw [row]; omega, fun r7 h7 s8 e8 => ?_⟩
      rw [row, q5] at h7
      have g8 : ∀ k j, k ≠ 156 → s8.1 k j = τ6.1 k j := fun k j q => by rw [← e8, yI_ne (by omega)]
      have l8 : s8.2 = τ6.2 := by rw [← e8, yI_l]
      have d65 : s8.1 110 65 = τ6.1 110 65 := g8 110 65 (by decide)
      have nb := cmS_b (σ := σ) (n := n) (po := po.toInt) (po' := po'.toInt) (p := p) (a := a) (t := t) hB
      refine w_noteM (σ := σ) (n := n) (s := s) (b := 240 * (p : Int) + 40 * a + t) (p := p) (a := a) (t := t) hB (by omega) (fun i hi => ?_) ?_ hR.1 e5 (by rw [d65]; exact e6) h4 h5 h6 (by omega) (fun y3 r τ g1 g2 hr k3 => ?_)
      · rw [← e8, yI_ne (by omega), row]; exact hR.2 i (by omega)
      · rw [← e8, yI_at]; exact h7
      · refine wt_cmpM h hbg hm hp hp' h4 hp20 h5 ha6 f (t + 1) (cmS σ n po.toInt po'.toInt p a t s) y3 r τ (by omega) ((f6.r156 g8 l8).r156 g1 g2) ((fa6.r156 g8 l8).r156 g1 g2) (by omega) k3 (nb.le (by omega)) (fun r' y3' τ' j1 j2 j3 j4 j5 => kk r' y3' τ' j1 j2 j3 ?_ ?_)
        · show CmR τ' 156 y3'.toInt (fdT _ _ (f + 1) t s)
          rw [fdT_y c]; exact j4
        · show CmB (fdT _ _ (f + 1) t s) _
          rw [fdT_y c]; exact j5
    · rw [r128] at c
      refine wt_cmpM h hbg hm hp hp' h4 hp20 h5 ha6 f (t + 1) s x3 r11 μ (by omega) hf hfa (by omega) hR (hB.le (by omega)) (fun r' y3' τ' j1 j2 j3 j4 j5 => kk r' y3' τ' j1 j2 j3 ?_ ?_)
      · show CmR τ' 156 y3'.toInt (fdT _ _ (f + 1) t s)
        rw [fdT_n c]; exact j4
      · show CmB (fdT _ _ (f + 1) t s) _
        rw [fdT_n c]; exact j5
theorem wa_cmpM {po po' : Int32} {x4 : Int32} {p m : Nat} {σ1 : zS} {Q : Int32 → zS → Prop} {N : Nat} (h : Wa σ n P F rk) (hbg : (σ.1 110 26).toInt ≠ 0) (hm : (σ.1 110 20).toInt = (m : Int)) (hp : po.toInt = -4 ∨ (0 ≤ po.toInt ∧ po.toInt < (P : Int))) (hp' : po'.toInt = -4 ∨ (0 ≤ po'.toInt ∧ po'.toInt < (P : Int))) (h4 : x4.toInt = (p : Int)) (hp20 : p < 20) : ∀ (f a : Nat) (s : CmS) (x3 x5 : Int32) (μ : zS), a + f = 6 → FldM σ μ n x4.toInt (σ.1 110 0).toInt → FrMa true σ1 μ → x5.toInt = (a : Int) → CmR μ 156 x3.toInt s → CmB s (240 * (p : Int) + 40 * a) → (∀ (r y3 : Int32) (τ : zS), r.toInt = (p : Int) + 1 → FrVn σ τ → FrMa true σ1 τ → CmR τ 156 y3.toInt (cmA σ n po.toInt po'.toInt m p f a s) → CmB (cmA σ n po.toInt po'.toInt m p f a s) (240 * ((p : Int) + 1)) → (WL_M_compare N).2.1 po po' y3 r τ Q) → (WL_M_compare (N + f * (m + 2) + 1)).2.2.1 po po' x3 x4 x5 μ Q
  | 0, a, s, x3, x5, μ, e, hf, hfa, h5, hR, hB, kk => by
    rw [Nat.zero_mul]
    exact wl_M_compare_117 ⟨fun _ => ⟨by omega, fun r2 h2 => kk r2 x3 μ (by omega) hf.1 hfa hR (hB.le (by omega))⟩, fun z => absurd (by omega) z⟩
  | f + 1, a, s, x3, x5, μ, e, hf, hfa, h5, hR, hB, kk => by
    refine wl_M_compare_117 ⟨fun z => absurd z (by omega), fun _ => ?_⟩
    have hN : N + (f + 1) * (m + 2) = (N + f * (m + 2) + 1) + m + 1 := by rw [Nat.add_mul]; omega
    rw [hN]
    refine wt_cmpM (a := a) h hbg hm hp hp' h4 hp20 h5 (by omega) m 0 s x3 0 μ (by omega) hf hfa (by decide) hR (hB.le (by omega)) (fun r y3 τ k1 k2 k3 k4 k5 => ?_)
    exact wa_cmpM h hbg hm hp hp' h4 hp20 f (a + 1) _ y3 r τ (by omega) k2 k3 (by omega) k4 (k5.le (by omega)) (fun r' y3' τ' j1 j2 j3 j4 j5 => kk r' y3' τ' j1 j2 j3 j4 j5)
theorem wp_cmpM {po po' : Int32} {M m : Nat} {σ1 : zS} {Q : Int32 → zS → Prop} {N : Nat} (h : Wa σ n P F rk) (hbg : (σ.1 110 26).toInt ≠ 0) (hm : (σ.1 110 20).toInt = (m : Int)) (hM : (σ.1 110 6).toInt = (M : Int)) (hp : po.toInt = -4 ∨ (0 ≤ po.toInt ∧ po.toInt < (P : Int))) (hp' : po'.toInt = -4 ∨ (0 ≤ po'.toInt ∧ po'.toInt < (P : Int))) : ∀ (f p : Nat) (s : CmS) (x3 x4 : Int32) (μ : zS), p + f = M → FrVn σ μ → FrMa true σ1 μ → x4.toInt = (p : Int) → CmR μ 156 x3.toInt s → CmB s (240 * (p : Int)) → (∀ (y3 : Int32) (τ : zS), FrMa true σ1 τ → CmR τ 156 y3.toInt (cmP σ n po.toInt po'.toInt m f p s) → Q y3 τ) → (WL_M_compare (N + f * (6 * (m + 2) + 2) + 1)).2.1 po po' x3 x4 μ Q
  | 0, p, s, x3, x4, μ, e, hf, hfa, h4, hR, hB, kk => by
    have r6 : (μ.1 110 6).toInt = (M : Int) := by rw [hf.2.2.2.2 6 (by omega)]; exact hM
    rw [Nat.zero_mul]
    exact wl_M_compare_91 ⟨fun _ => kk x3 μ hfa hR, fun z => absurd (by omega) z⟩
  | f + 1, p, s, x3, x4, μ, e, hf, hfa, h4, hR, hB, kk => by
    have h0 := h
    obtain ⟨_, _, _, ⟨w1, w2⟩, ⟨p1, p2, p3⟩, _⟩ := h0
    have r6 : (μ.1 110 6).toInt = (M : Int) := by rw [hf.2.2.2.2 6 (by omega)]; exact hM
    refine wl_M_compare_91 ⟨fun z => absurd z (by omega), fun _ => ?_⟩
    have hN : N + (f + 1) * (6 * (m + 2) + 2) = (N + f * (6 * (m + 2) + 2) + 1) + 6 * (m + 2) + 1 := by rw [Nat.add_mul]; omega
    rw [hN]
    refine w_setM (n := n) h hf hf.2.2.1.2.1 (fun μ' fm fg => ?_)
    rw [hf.2.2.1.2.1] at fm
    refine wa_cmpM (p := p) h hbg hm hp hp' h4 (by omega) 6 0 s x3 0 μ' (by omega) fm (hfa.tr fg.a) (by decide) ⟨hR.1, fun i hi => by rw [fg.1 156 i (by decide)]; exact hR.2 i hi⟩ (hB.le (by omega)) (fun r y3 τ k1 k2 k3 k4 k5 => ?_)
    exact wp_cmpM h hbg hm hM hp hp' f (p + 1) _ y3 r τ (by omega) k2 k3 (by omega) k4 (k5.le (by omega)) (fun y3' τ' j1 j2 => kk y3' τ' j1 j2)
end N16b

end
