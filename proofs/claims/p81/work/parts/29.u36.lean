section
/-! ===== the class reads a rule's head ===== -/
noncomputable def FrQ (A : Nat) (σ τ : zS) : Prop := (∀ k j, k ≠ 21 → ¬ (k = 17 ∧ (j = 14 ∨ j = 15 ∨ j = 16)) → ¬ (k = 20 ∧ A ≤ j ∧ j < A + 9) → τ.1 k j = σ.1 k j) ∧ (∀ k j, k ≠ 22 → τ.2 k j = σ.2 k j) ∧ (rgF σ → rgF τ)
theorem FrP.q {A : Nat} {σ τ : zS} (h : FrP σ τ) : FrQ A σ τ := ⟨fun k j a b _ => h.1 k j a b, h.2⟩
theorem FrQ.rf {A : Nat} {σ : zS} : FrQ A σ σ := FrP.rf.q
theorem FrQ.tr {A : Nat} {σ τ υ : zS} (h : FrQ A σ τ) (h' : FrQ A τ υ) : FrQ A σ υ := ⟨fun k j a b c => (h'.1 k j a b c).trans (h.1 k j a b c), fun k j a => (h'.2.1 k j a).trans (h.2.1 k j a), fun q => h'.2.2 (h.2.2 q)⟩
theorem FrQ.rd {A : Nat} {σ τ : zS} {X : Txt} {n j j' : Nat} (h : FrQ A σ τ) (hr : RdT σ X n j) (e : (τ.1 17 14).toInt = (j' : Int)) (hj : j' < n) : RdT τ X n j' := by
  obtain ⟨⟨tx, tk, nt⟩, hn, _, _⟩ := hr
  refine ⟨⟨⟨⟨?_, tx.1.2⟩, fun p hp => ?_⟩, ⟨?_, fun i hi => ?_⟩, nt⟩, hn, e, hj⟩
  · rw [h.1 17 9 (by decide) (by decide) (by omega)]; exact tx.1.1
  · rw [h.1 23 p (by decide) (by omega) (by omega)]; exact tx.2 p hp
  · rw [h.1 17 13 (by decide) (by decide) (by omega)]; exact tk.1
  · rw [h.1 25 i (by decide) (by omega) (by omega), h.1 24 i (by decide) (by omega) (by omega), h.2.1 26 i (by decide)]; exact tk.2 i hi
/-- the head goes on: the place, the codes as before -/
noncomputable def HdS (A : Nat) (σ τ : zS) (j' : Nat) : Prop := FrQ A σ τ ∧ (τ.1 17 14).toInt = (j' : Int) ∧ τ.1 17 15 = σ.1 17 15 ∧ (∀ i, τ.1 21 i = σ.1 21 i) ∧ τ.2 = σ.2
noncomputable def HdF (A : Nat) (σ τ : zS) : Prop := FrQ A σ τ ∧ (∀ i, τ.1 21 i = σ.1 21 i) ∧ τ.2 = σ.2
theorem HdS.f {A j : Nat} {σ τ : zS} (h : HdS A σ τ j) : HdF A σ τ := ⟨h.1, h.2.2.2.1, h.2.2.2.2⟩
theorem HdS.tr {A j j' : Nat} {σ τ υ : zS} (h : HdS A σ τ j) (h' : HdS A τ υ j') : HdS A σ υ j' := ⟨h.1.tr h'.1, h'.2.1, h'.2.2.1.trans h.2.2.1, fun i => (h'.2.2.2.1 i).trans (h.2.2.2.1 i), h'.2.2.2.2.trans h.2.2.2.2⟩
theorem HdS.trF {A j : Nat} {σ τ υ : zS} (h : HdS A σ τ j) (h' : HdF A τ υ) : HdF A σ υ := ⟨h.1.tr h'.1, fun i => (h'.2.1 i).trans (h.2.2.2.1 i), h'.2.2.trans h.2.2.2.2⟩
theorem FaR.h {A : Nat} {σ τ : zS} (h : FaR σ τ) : HdF A σ τ := ⟨h.1.q, h.2.2.2.1, h.2.2.2.2⟩
theorem StP.h {A j : Nat} {σ τ : zS} (h : StP σ τ j) : HdS A σ τ (j + 1) := ⟨h.1.q, by rw [h.2.1]; omega, h.2.2.1, h.2.2.2.1, h.2.2.2.2⟩
/-- a cell of the rule is written -/
theorem hd_wr {A i j : Nat} {σ τ : zS} {v : Int32} (hi : A ≤ i ∧ i < A + 9) (hj : (σ.1 17 14).toInt = (j : Int)) (e : zI σ 20 i v = τ) : HdS A σ τ j ∧ (∀ i', i' ≠ i → τ.1 20 i' = σ.1 20 i') ∧ τ.1 20 i = v := by
  refine ⟨⟨⟨fun k q a b c => ?_, fun k q _ => ?_, fun q => ?_⟩, ?_, ?_, fun q => ?_, ?_⟩, fun i' h => ?_, ?_⟩
  · rw [← e, yI_ne (by omega)]
  · rw [← e, yI_l]
  · unfold rgF at q ⊢; rw [← e, yI_ne (by omega)]; exact q
  · rw [← e, yI_ne (by omega)]; exact hj
  · rw [← e, yI_ne (by omega)]
  · rw [← e, yI_ne (by omega)]
  · rw [← e, yI_l]
  · rw [← e, yI_ne (by omega)]
  · rw [← e, yI_at]
section L10
variable {σ : zS} {X : Txt} {n j A : Nat} {x : Int32} {Q : Int32 → zS → Prop}
/-- a cell, then the token goes by -/
theorem w_rs (hr : RdT σ X n j) (h2 : 2 ≤ rc9 X (Tp9 X j)) (hA : x.toInt = (A : Int)) (hA2 : A + 9 ≤ 2160) {z : Int} (c : Nat) (hz : z = (c : Int)) (hc : c < 9) (v : Int32) {P : zS → Prop} (k : ∀ τ, HdS A σ τ (j + 1) → j + 1 < n → (∀ i, i ≠ A + c → τ.1 20 i = σ.1 20 i) → τ.1 20 (A + c) = v → P τ) : (-2147483648 ≤ x.toInt + z ∧ x.toInt + z ≤ 2147483647) ∧ ∀ r : Int32, r.toInt = x.toInt + z → ∃ m : Nat, r.toInt = (m : Int) ∧ m < 2160 ∧ ∀ s : zS, zI σ 20 m v = s → (-2147483648 ≤ (s.1 17 14).toInt + 1 ∧ (s.1 17 14).toInt + 1 ≤ 2147483647) ∧ ∀ r' : Int32, r'.toInt = (s.1 17 14).toInt + 1 → ∀ s' : zS, zI s 17 14 r' = s' → P s' := by
  refine ⟨by omega, fun r h => ⟨A + c, by omega, by omega, fun s e => ?_⟩⟩
  obtain ⟨h1, h3, h4⟩ := hd_wr (A := A) (by omega) hr.2.2.1 e
  have hr1 : RdT s X n j := h1.1.rd hr h1.2.1 hr.2.2.2
  refine w_st hr1 (fun τ st => k τ (h1.tr st.h) (nt_lt hr.1.2.2 hr.2.2.2 h2) (fun i hi => ?_) ?_)
  · rw [st.1.1 20 i (by decide) (by omega)]; exact h3 i hi
  · rw [st.1.1 20 _ (by decide) (by omega)]; exact h4
theorem w_readEffect (hr : RdT σ X n j) (hA : x.toInt = (A : Int)) (hA2 : A + 9 ≤ 2160) (k1 : ∀ τ, HdS A σ τ (j + 1) → j + 1 < n → (∀ i, i ≠ A → τ.1 20 i = σ.1 20 i) → 37 ≤ rc9 X (Tp9 X j) → rc9 X (Tp9 X j) ≤ 39 → (τ.1 20 A).toInt = ((rc9 X (Tp9 X j) : Nat) : Int) - 37 → Q 1 τ) (k0 : ∀ τ, HdF A σ τ → ¬ (37 ≤ rc9 X (Tp9 X j) ∧ rc9 X (Tp9 X j) ≤ 39) → Q 0 τ) : W_Po_readEffect x σ Q := by
  have z0 : (0 : Int32).toInt = 0 := by decide
  have z1 : (1 : Int32).toInt = 1 := by decide
  have z2 : (2 : Int32).toInt = 2 := by decide
  unfold W_Po_readEffect
  refine w_isWord (i := 1) hr (fun c1 => ⟨fun z => absurd z (by decide), fun _ => ?_⟩) (fun c1 => ⟨fun _ => ?_, fun z => absurd rfl z⟩)
  · have c1 : rc9 X (Tp9 X j) = 37 := c1
    exact w_rs hr (by omega) hA hA2 0 rfl (by decide) 0 (fun τ h hn w e => k1 τ h hn w (by omega) (by omega) (by have e : τ.1 20 A = 0 := e; rw [e, z0, c1]; rfl))
  have c1 : rc9 X (Tp9 X j) ≠ 37 := c1
  refine w_isWord (i := 2) hr (fun c2 => ⟨fun z => absurd z (by decide), fun _ => ?_⟩) (fun c2 => ⟨fun _ => ?_, fun z => absurd rfl z⟩)
  · have c2 : rc9 X (Tp9 X j) = 38 := c2
    exact w_rs hr (by omega) hA hA2 0 rfl (by decide) 1 (fun τ h hn w e => k1 τ h hn w (by omega) (by omega) (by have e : τ.1 20 A = 1 := e; rw [e, z1, c2]; rfl))
  have c2 : rc9 X (Tp9 X j) ≠ 38 := c2
  refine w_isWord (i := 3) hr (fun c3 => ⟨fun z => absurd z (by decide), fun _ => ?_⟩) (fun c3 => ⟨fun _ => w_fail hr (fun τ fa _ => ⟨Or.inl rfl, k0 τ fa.h ?_⟩), fun z => absurd rfl z⟩)
  · have c3 : rc9 X (Tp9 X j) = 39 := c3
    exact w_rs hr (by omega) hA hA2 0 rfl (by decide) 2 (fun τ h hn w e => k1 τ h hn w (by omega) (by omega) (by have e : τ.1 20 A = 2 := e; rw [e, z2, c3]; rfl))
  · have c3 : rc9 X (Tp9 X j) ≠ 39 := c3
    omega
/-- the number behind a letter -/
theorem nb_t {p : Nat} {c : Int} (h1 : kd9 X p = 1) (h2 : by9 X p = c) (h3 : 2 ≤ te9 X p - p ∧ te9 X p - p ≤ 10) (h4 : ∀ i, p + 1 ≤ i → i < te9 X p → fi9 X i = true) : nb9 X p c = nm9 X (te9 X p - p - 1) (p + 1) 0 := by
  unfold nb9
  have a : af9 X (p + 1) (te9 X p) = true := by
    unfold af9
    rw [List.all_eq_true]
    intro i hi
    rw [List.mem_range] at hi
    exact h4 (p + 1 + i) (by omega) (by omega)
  rw [h1, decide_eq_true h2, Nat.ble_eq_true_of_le h3.1, Nat.ble_eq_true_of_le h3.2, a]
  rfl
theorem nb_f {p : Nat} {c : Int} (h : ¬ (kd9 X p = 1 ∧ by9 X p = c ∧ (2 ≤ te9 X p - p ∧ te9 X p - p ≤ 10) ∧ ∀ i, p + 1 ≤ i → i < te9 X p → fi9 X i = true)) : nb9 X p c = -1 := by
  unfold nb9
  cases e : ((Nat.beq (kd9 X p) 1 && decide (by9 X p = c)) && ((Nat.ble 2 (te9 X p - p) && Nat.ble (te9 X p - p) 10) && af9 X (p + 1) (te9 X p))) with
  | false => rfl
  | true =>
    exfalso
    simp only [Bool.and_eq_true, decide_eq_true_eq] at e
    obtain ⟨⟨e1, e2⟩, ⟨e3, e4⟩, e5⟩ := e
    refine h ⟨Nat.eq_of_beq_eq_true e1, e2, ⟨Nat.le_of_ble_eq_true e3, Nat.le_of_ble_eq_true e4⟩, fun i a b => ?_⟩
    unfold af9 at e5
    have := List.all_eq_true.mp e5 (i - (p + 1)) (List.mem_range.mpr (by omega))
    rwa [show p + 1 + (i - (p + 1)) = i by omega] at this
theorem nm_in : ∀ {k p : Nat} {v : Int} {b : Nat}, 0 ≤ v → v < 10 ^ b → (∀ i, p ≤ i → i < p + k → fi9 X i = true) → 0 ≤ nm9 X k p v ∧ nm9 X k p v < 10 ^ (b + k)
  | 0, _, _, _, h1, h2, _ => ⟨h1, h2⟩
  | k + 1, p, v, b, h1, h2, h => by
    have hb := fi_by (h p (Nat.le_refl _) (by omega))
    have e : (10 : Int) ^ (b + 1) = 10 ^ b * 10 := Int.pow_succ _ _
    have := nm_in (k := k) (p := p + 1) (v := v * 10 + by9 X p - 48) (b := b + 1) (by omega) (by rw [e]; omega) (fun i a c => h i (by omega) (by omega))
    rw [show b + (k + 1) = b + 1 + k by omega]
    exact this
theorem wl_number {τ : zS} {p E : Nat} {T : Int} (hx : TxC τ X) (hE : E ≤ X.2) (hE2 : E - p ≤ 10) (hp : p < E) (k1 : ∀ v : Int32, v.toInt = nm9 X (E - p - 1) (p + 1) 0 → (∀ i, p + 1 ≤ i → i < E → fi9 X i = true) → Q v τ) (k0 : (¬ ∀ i, p + 1 ≤ i → i < E → fi9 X i = true) → Q (-4) τ) : ∀ (N : Nat) (x2 x4 x5 : Int32) (i : Nat), x2.toInt = (E : Int) → x5.toInt = (i : Int) → p + 1 ≤ i → i ≤ E → (∀ i', p + 1 ≤ i' → i' < i → fi9 X i' = true) → (0 ≤ x4.toInt ∧ x4.toInt < 10 ^ (i - p - 1)) → nm9 X (E - i) i x4.toInt = nm9 X (E - p - 1) (p + 1) 0 → E - i + 2 ≤ N → (WL_Po_numberBehind N) x2 x4 x5 τ Q
  | 0, _, _, _, _, _, _, _, _, _, _, _, h => absurd h (by omega)
  | N + 1, x2, x4, x5, i, h2, h5, hi1, hi2, hf, hv, hm, hN => by
    have ih := wl_number (T := T) hx hE hE2 hp k1 k0 N
    have hX := hx.1.2
    refine wl_Po_numberBehind_89 ?_
    refine ⟨fun q => ?_, fun q => ?_⟩
    · have e : i = E := by omega
      subst e
      rw [Nat.sub_self] at hm
      exact k1 x4 hm hf
    · refine w_isFigure hx h5 (fun f1 => ⟨fun z => absurd z (by decide), fun _ => ?_⟩) (fun f0 => ⟨fun _ => k0 (fun a => absurd (a i hi1 (by omega)) (by rw [f0]; decide)), fun z => absurd rfl z⟩)
      have hb := fi_by f1
      have ea := (hx.at (p := i) (by omega)).1
      have mono : (10 : Int) ^ (i - p - 1) ≤ 100000000 := by
        have key : ∀ c, c < 9 → (10 : Int) ^ c ≤ 100000000 := by decide
        exact key _ (by omega)
      refine ⟨by omega, fun r4 q4 => ⟨i, h5, by omega, by omega, fun r6 q6 => ⟨by omega, fun r7 q7 => ⟨by omega, fun r8 q8 => ?_⟩⟩⟩⟩
      refine ih x2 r7 r8 (i + 1) h2 (by omega) (by omega) (by omega) (fun i' a b => ?_) ?_ ?_ (by omega)
      · by_cases g : i' = i
        · subst g; exact f1
        · exact hf i' a (by omega)
      · have e : (10 : Int) ^ (i + 1 - p - 1) = 10 ^ (i - p - 1) * 10 := by rw [show i + 1 - p - 1 = i - p - 1 + 1 by omega, Int.pow_succ]
        rw [e]
        omega
      · rw [← hm, show E - i = (E - (i + 1)) + 1 by omega]
        show _ = nm9 X (E - (i + 1)) (i + 1) (x4.toInt * 10 + by9 X i - 48)
        rw [show r7.toInt = x4.toInt * 10 + by9 X i - 48 by omega]
theorem w_numberBehind {c : Int32} (hr : RdT σ X n j) (k : ∀ v : Int32, (0 ≤ nb9 X (Tp9 X j) c.toInt → v.toInt = nb9 X (Tp9 X j) c.toInt) → (nb9 X (Tp9 X j) c.toInt < 0 → v.toInt = -4) → v.toInt < 1000000000 → Q v σ) : W_Po_numberBehind c σ Q := by
  have hj := hr.2.2.2
  have hn := hr.2.1
  have kd := hr.kd
  have pl := hr.pl
  have hX := hr.1.1.1.2
  have z4 : (-4 : Int32).toInt = -4 := by decide
  have no : ¬ (kd9 X (Tp9 X j) = 1 ∧ by9 X (Tp9 X j) = c.toInt ∧ (2 ≤ te9 X (Tp9 X j) - Tp9 X j ∧ te9 X (Tp9 X j) - Tp9 X j ≤ 10) ∧ ∀ i, Tp9 X j + 1 ≤ i → i < te9 X (Tp9 X j) → fi9 X i = true) → Q (-4) σ := fun q => by
    have e := nb_f q
    exact k (-4) (fun z => absurd z (by omega)) (fun _ => z4) (by omega)
  refine ⟨j, hr.2.2.1, by omega, fun c1 => ?_, fun c1 => no (fun q => c1 (by rw [kd, q.1]; decide))⟩
  have hk : kd9 X (Tp9 X j) = 1 := by omega
  have te := te_lt (kd1_by hk)
  have v1 := hr.vl.1 hk
  have hb := (hr.1.1.at (p := Tp9 X j) (by omega)).1
  refine ⟨Tp9 X j, pl, by omega, fun c2 => ?_, fun c2 => no (fun q => c2 (by rw [hb]; exact q.2.1))⟩
  refine ⟨by omega, fun r5 q5 => ⟨by omega, fun r6 q6 => ⟨by omega, fun r7 q7 => ⟨fun q => no (fun w => by have := w.2.2.1; omega), fun q => ⟨fun q9 => ⟨by omega, fun r10 q10 => ?_⟩, fun q9 => no (fun w => by have := w.2.2.1; omega)⟩⟩⟩⟩⟩
  refine wl_number (T := 0) (p := Tp9 X j) (E := te9 X (Tp9 X j)) hr.1.1 te.2 (by omega) te.1 (fun v hv hf => ?_) (fun hf => no (fun w => hf w.2.2.2)) fuF r5 0 r10 (Tp9 X j + 1) (by omega) (by omega) (Nat.le_refl _) (by omega) (fun i' a b => absurd b (by omega)) ?_ ?_ (by show te9 X (Tp9 X j) - (Tp9 X j + 1) + 2 ≤ 100000; omega)
  · have e := nb_t (c := c.toInt) hk (by omega) (by omega) hf
    have bd := nm_in (X := X) (k := te9 X (Tp9 X j) - Tp9 X j - 1) (p := Tp9 X j + 1) (v := 0) (b := 0) (by decide) (by decide) (fun i a b => hf i a (by omega))
    have mono : (10 : Int) ^ (0 + (te9 X (Tp9 X j) - Tp9 X j - 1)) ≤ 1000000000 := by
      have key : ∀ c, c < 10 → (10 : Int) ^ (0 + c) ≤ 1000000000 := by decide
      exact key _ (by omega)
    exact k v (fun _ => by rw [e]; exact hv) (fun z => absurd z (by rw [e]; omega)) (by omega)
  · rw [show Tp9 X j + 1 - Tp9 X j - 1 = 0 by omega]; decide
  · rw [show te9 X (Tp9 X j) - (Tp9 X j + 1) = te9 X (Tp9 X j) - Tp9 X j - 1 by omega]; rfl
end L10
/-! ===== the class reads a rule ===== -/
theorem ol_rcG {X : Txt} {p c : Nat} {b : Int} (hb : 33 ≤ b ∧ b ≤ 122) (hc : 22 ≤ c) (ha : (WDR.all fun e => !(Nat.beq e.2 c) || decide (e.1 = nv8 [b] 0)) = true) (hl : lkd 21 WDR (nv8 [b] 0) = c) : olV X p = b ↔ rc9 X p = c := by
  constructor
  · intro h
    unfold olV at h
    split at h
    · rename_i q
      have te := te_word q.1
      have e : bs9 X p 1 = [b] := by
        show [by9 X (p + 0)] = _
        rw [Nat.add_zero, h]
      have v := word_to (X := X) (p := p) (l := [b]) (by simp) (by rw [← te.1]; exact q.2) e
      unfold rc9
      rw [q.1, v]
      exact hl
    · omega
  · intro h
    obtain ⟨r1, r2⟩ := rc_wv hc h ha
    obtain ⟨q1, q2⟩ := word_of (X := X) (p := p) (l := [b]) (fun x hx => by
      cases hx with
      | head => omega
      | tail _ hx => cases hx) (by simp) r2
    have te := te_word r1
    have q1 : we9 X p - p = 1 := q1
    have q2 : [by9 X (p + 0)] = [b] := q2
    unfold olV
    rw [if_pos ⟨r1, by rw [te.1]; exact q1⟩]
    have := (List.cons.inj q2).1
    rwa [Nat.add_zero] at this
/-- acts by their codes -/
noncomputable def acN (c : Nat) : Int := if c = 36 then 6 else if c = 48 then 0 else if c = 49 then 1 else if c = 50 then 2 else if c = 43 then 3 else if c = 46 then 4 else 5
theorem act_iff : ∀ c, c < 52 → (act9 c = true ↔ c = 36 ∨ c = 43 ∨ c = 46 ∨ c = 48 ∨ c = 49 ∨ c = 50 ∨ c = 51) := by decide +kernel
theorem wd7 : wdL 7 = 6 ∧ wdB 7 0 = 114 ∧ wdB 7 1 = 119 ∧ wdB 7 2 = 120 ∧ wdB 7 3 = 100 ∧ wdB 7 4 = 103 ∧ wdB 7 5 = 111 := by decide +kernel
theorem ix7 {X : Txt} {p : Nat} {r : Int} (h : IxW 7 (olV X p) r) (h36 : rc9 X p ≠ 36) : (0 ≤ r ∧ act9 (rc9 X p) = true ∧ r = acN (rc9 X p)) ∨ (r = -1 ∧ act9 (rc9 X p) = false) := by
  obtain ⟨l, b0, b1, b2, b3, b4, b5⟩ := wd7
  have ai := act_iff (rc9 X p) (Nat.lt_succ_of_le rc_le)
  have o0 := ol_rcG (X := X) (p := p) (b := 114) (c := 48) (by decide) (by decide) (by decide) (by decide)
  have o1 := ol_rcG (X := X) (p := p) (b := 119) (c := 49) (by decide) (by decide) (by decide) (by decide)
  have o2 := ol_rcG (X := X) (p := p) (b := 120) (c := 50) (by decide) (by decide) (by decide) (by decide)
  have o3 := ol_rcG (X := X) (p := p) (b := 100) (c := 43) (by decide) (by decide) (by decide) (by decide)
  have o4 := ol_rcG (X := X) (p := p) (b := 103) (c := 46) (by decide) (by decide) (by decide) (by decide)
  have o5 := ol_rcG (X := X) (p := p) (b := 111) (c := 51) (by decide) (by decide) (by decide) (by decide)
  rcases h with ⟨r1, r2⟩ | ⟨j, r1, r2, r3, _⟩
  · refine Or.inr ⟨r1, ?_⟩
    cases e : act9 (rc9 X p) with
    | false => rfl
    | true =>
      exfalso
      have n0 := r2 0 (by omega)
      have n1 := r2 1 (by omega)
      have n2 := r2 2 (by omega)
      have n3 := r2 3 (by omega)
      have n4 := r2 4 (by omega)
      have n5 := r2 5 (by omega)
      rw [b0] at n0
      rw [b1] at n1
      rw [b2] at n2
      rw [b3] at n3
      rw [b4] at n4
      rw [b5] at n5
      rcases ai.mp e with q | q | q | q | q | q | q
      · exact h36 q
      · exact n3 (o3.mpr q).symm
      · exact n4 (o4.mpr q).symm
      · exact n0 (o0.mpr q).symm
      · exact n1 (o1.mpr q).symm
      · exact n2 (o2.mpr q).symm
      · exact n5 (o5.mpr q).symm
  · refine Or.inl ⟨by omega, ?_⟩
    rw [l] at r2
    rcases (by omega : j = 0 ∨ j = 1 ∨ j = 2 ∨ j = 3 ∨ j = 4 ∨ j = 5) with rfl | rfl | rfl | rfl | rfl | rfl
    · rw [b0] at r3
      have q := o0.mp r3.symm
      exact ⟨ai.mpr (by omega), by rw [q, r1]; rfl⟩
    · rw [b1] at r3
      have q := o1.mp r3.symm
      exact ⟨ai.mpr (by omega), by rw [q, r1]; rfl⟩
    · rw [b2] at r3
      have q := o2.mp r3.symm
      exact ⟨ai.mpr (by omega), by rw [q, r1]; rfl⟩
    · rw [b3] at r3
      have q := o3.mp r3.symm
      exact ⟨ai.mpr (by omega), by rw [q, r1]; rfl⟩
    · rw [b4] at r3
      have q := o4.mp r3.symm
      exact ⟨ai.mpr (by omega), by rw [q, r1]; rfl⟩
    · rw [b5] at r3
      have q := o5.mp r3.symm
      exact ⟨ai.mpr (by omega), by rw [q, r1]; rfl⟩
/-- persons, groups, things that are there, in the class -/
noncomputable def WlC (σ : zS) (w : Wld) : Prop := (σ.1 5 0).toInt = w.1 ∧ (σ.1 5 1).toInt = w.2.1 ∧ (σ.1 10 0).toInt ≤ 40 ∧ ∀ t : Nat, w.2.2 (t : Int) = true ↔ (t : Int) < (σ.1 10 0).toInt ∧ (σ.1 14 t).toInt = 0
theorem FrQ.wl {A : Nat} {σ τ : zS} {w : Wld} (h : FrQ A σ τ) (hw : WlC σ w) : WlC τ w := by
  obtain ⟨a, b, c, d⟩ := hw
  refine ⟨?_, ?_, ?_, fun t => ?_⟩
  · rw [h.1 5 0 (by decide) (by decide) (by omega)]; exact a
  · rw [h.1 5 1 (by decide) (by decide) (by omega)]; exact b
  · rw [h.1 10 0 (by decide) (by decide) (by omega)]; exact c
  · rw [h.1 10 0 (by decide) (by decide) (by omega), h.1 14 t (by decide) (by omega) (by omega)]; exact d t
/-- who: kind and number -/
noncomputable def WhR (X : Txt) (w : Wld) (p : Nat) (k v : Int) : Prop := (rc9 X p = 34 ∧ k = 0) ∨ (rc9 X p = 35 ∧ k = 2) ∨ (rc9 X p ≠ 34 ∧ rc9 X p ≠ 35 ∧ ((0 ≤ nb9 X p 112 ∧ nb9 X p 112 < w.1 ∧ k = 3 ∧ v = nb9 X p 112) ∨ (¬ (0 ≤ nb9 X p 112 ∧ nb9 X p 112 < w.1) ∧ 0 ≤ nb9 X p 103 ∧ nb9 X p 103 < w.2.1 ∧ k = 1 ∧ v = nb9 X p 103)))
theorem kd_2 {X : Txt} {p : Nat} (h : kd9 X p = 1) : 2 ≤ rc9 X p := by
  have := rc_kd.2.1 h
  omega
section L11
variable {σ : zS} {X : Txt} {n j A : Nat} {x : Int32} {w : Wld} {Q : Int32 → zS → Prop}
theorem who_t {p : Nat} (h : (rc9 X p = 34 ∨ rc9 X p = 35) ∨ (0 ≤ nb9 X p 112 ∧ nb9 X p 112 < w.1) ∨ (0 ≤ nb9 X p 103 ∧ nb9 X p 103 < w.2.1)) : who9 X w p = true := by
  unfold who9
  rcases h with h | h | h
  · rw [in9_iff.mpr (by omega)]; rfl
  · rw [decide_eq_true h.1, decide_eq_true h.2]; simp
  · rw [decide_eq_true h.1, decide_eq_true h.2]; simp
theorem who_f {p : Nat} (h1 : rc9 X p ≠ 34 ∧ rc9 X p ≠ 35) (h2 : ¬ (0 ≤ nb9 X p 112 ∧ nb9 X p 112 < w.1)) (h3 : ¬ (0 ≤ nb9 X p 103 ∧ nb9 X p 103 < w.2.1)) : who9 X w p = false := by
  cases e : who9 X w p with
  | false => rfl
  | true =>
    exfalso
    unfold who9 at e
    simp only [Bool.or_eq_true, Bool.and_eq_true, decide_eq_true_eq] at e
    rcases e with e | e | e
    · have := in9_iff.mp e; omega
    · exact h2 e
    · exact h3 e
theorem w_isPerson {a : Int32} {τ : zS} (k1 : 0 ≤ a.toInt → a.toInt < (τ.1 5 0).toInt → Q 1 τ) (k0 : ¬ (0 ≤ a.toInt ∧ a.toInt < (τ.1 5 0).toInt) → Q 0 τ) : W_Wh_isPerson a τ Q := ⟨fun c => k0 (by omega), fun c => ⟨fun d => k0 (by omega), fun d => k1 (by omega) (by omega)⟩⟩
theorem w_isGroup {a : Int32} {τ : zS} (k1 : 0 ≤ a.toInt → a.toInt < (τ.1 5 1).toInt → Q 1 τ) (k0 : ¬ (0 ≤ a.toInt ∧ a.toInt < (τ.1 5 1).toInt) → Q 0 τ) : W_Wh_isGroup a τ Q := ⟨fun c => k0 (by omega), fun c => ⟨fun d => k0 (by omega), fun d => k1 (by omega) (by omega)⟩⟩
theorem w_readWho (hr : RdT σ X n j) (hw : WlC σ w) (hA : x.toInt = (A : Int)) (hA2 : A + 9 ≤ 2160) (k1 : ∀ τ, HdS A σ τ (j + 1) → j + 1 < n → (∀ i, i ≠ A + 1 → i ≠ A + 2 → τ.1 20 i = σ.1 20 i) → who9 X w (Tp9 X j) = true → WhR X w (Tp9 X j) (τ.1 20 (A + 1)).toInt (τ.1 20 (A + 2)).toInt → Q 1 τ) (k0 : ∀ τ, HdF A σ τ → who9 X w (Tp9 X j) = false → Q 0 τ) : W_Po_readWho x σ Q := by
  have z0 : (0 : Int32).toInt = 0 := by decide
  have z1 : (1 : Int32).toInt = 1 := by decide
  have z2 : (2 : Int32).toInt = 2 := by decide
  have z3 : (3 : Int32).toInt = 3 := by decide
  have z112 : (112 : Int32).toInt = 112 := by decide
  have z103 : (103 : Int32).toInt = 103 := by decide
  unfold W_Po_readWho
  refine w_numberBehind hr (fun v1 a1 a2 a3 => ?_)
  refine w_numberBehind hr (fun v2 b1 b2 b3 => ?_)
  rw [z112] at a1 a2
  rw [z103] at b1 b2
  refine ⟨by omega, fun r3 h3 r4 h4 => ⟨A + 2, by omega, by omega, fun s6 e6 => ?_⟩⟩
  obtain ⟨g1, g2, g3⟩ := hd_wr (A := A) (by omega) hr.2.2.1 e6
  have hr1 : RdT s6 X n j := g1.1.rd hr g1.2.1 hr.2.2.2
  have hw1 := g1.1.wl hw
  have fin : ∀ v : Int32, 2 ≤ rc9 X (Tp9 X j) → who9 X w (Tp9 X j) = true → WhR X w (Tp9 X j) v.toInt r4.toInt → (-2147483648 ≤ x.toInt + 1 ∧ x.toInt + 1 ≤ 2147483647) ∧ ∀ r : Int32, r.toInt = x.toInt + 1 → ∃ m : Nat, r.toInt = (m : Int) ∧ m < 2160 ∧ ∀ s : zS, zI s6 20 m v = s → (-2147483648 ≤ (s.1 17 14).toInt + 1 ∧ (s.1 17 14).toInt + 1 ≤ 2147483647) ∧ ∀ r' : Int32, r'.toInt = (s.1 17 14).toInt + 1 → ∀ s' : zS, zI s 17 14 r' = s' → Q 1 s' := fun v q2 q3 q4 =>
    w_rs hr1 q2 hA hA2 1 rfl (by decide) v (fun τ h hn wr e => k1 τ (g1.tr h) hn (fun i i1 i2 => by rw [wr i i1]; exact g2 i i2) q3 (by rw [e, wr (A + 2) (by omega), g3]; exact q4))
  refine w_isWord (i := 4) hr1 (fun c1 => ⟨fun z => absurd z (by decide), fun _ => ?_⟩) (fun c1 => ⟨fun _ => ?_, fun z => absurd rfl z⟩)
  · have c1 : rc9 X (Tp9 X j) = 34 := c1
    exact fin 0 (by omega) (who_t (Or.inl (Or.inl c1))) (Or.inl ⟨c1, z0⟩)
  have c1 : rc9 X (Tp9 X j) ≠ 34 := c1
  refine w_isWord (i := 5) hr1 (fun c2 => ⟨fun z => absurd z (by decide), fun _ => ?_⟩) (fun c2 => ⟨fun _ => ?_, fun z => absurd rfl z⟩)
  · have c2 : rc9 X (Tp9 X j) = 35 := c2
    exact fin 2 (by omega) (who_t (Or.inl (Or.inr c2))) (Or.inr (Or.inl ⟨c2, z2⟩))
  have c2 : rc9 X (Tp9 X j) ≠ 35 := c2
  have by2 : 0 ≤ nb9 X (Tp9 X j) 112 → nb9 X (Tp9 X j) 103 < 0 := fun q => by
    apply Classical.byContradiction
    intro z
    have u1 := nb_by (X := X) (p := Tp9 X j) (c := 112) q
    have u2 := nb_by (X := X) (p := Tp9 X j) (c := 103) (by omega)
    omega
  refine w_isPerson (fun d1 d2 => ⟨fun z => absurd z (by decide), fun _ => ?_⟩) (fun d => ⟨fun _ => ?_, fun z => absurd rfl z⟩)
  · have n1 : 0 ≤ nb9 X (Tp9 X j) 112 := by
      apply Classical.byContradiction
      intro z
      have := a2 (by omega)
      omega
    have n2 := a1 n1
    have n3 := b2 (by2 n1)
    rw [hw1.1] at d2
    exact fin 3 (kd_2 (nb_kd n1)) (who_t (Or.inr (Or.inl ⟨n1, by omega⟩))) (Or.inr (Or.inr ⟨c1, c2, Or.inl ⟨n1, by omega, z3, by omega⟩⟩))
  have np : ¬ (0 ≤ nb9 X (Tp9 X j) 112 ∧ nb9 X (Tp9 X j) 112 < w.1) := fun q => d (by rw [hw1.1]; have := a1 q.1; omega)
  refine w_isGroup (fun d1 d2 => ⟨fun z => absurd z (by decide), fun _ => ?_⟩) (fun d' => ⟨fun _ => ?_, fun z => absurd rfl z⟩)
  · have n1 : 0 ≤ nb9 X (Tp9 X j) 103 := by
      apply Classical.byContradiction
      intro z
      have := b2 (by omega)
      omega
    have n2 := b1 n1
    have n3 : v1.toInt = -4 := a2 (by
      apply Classical.byContradiction
      intro z
      have := by2 (by omega)
      omega)
    rw [hw1.2.1] at d2
    exact fin 1 (kd_2 (nb_kd n1)) (who_t (Or.inr (Or.inr ⟨n1, by omega⟩))) (Or.inr (Or.inr ⟨c1, c2, Or.inr ⟨np, n1, by omega, z1, by omega⟩⟩))
  · exact w_fail hr1 (fun τ fa _ => ⟨Or.inl rfl, k0 τ (g1.trF fa.h) (who_f ⟨c1, c2⟩ np (fun q => d' (by rw [hw1.2.1]; have := b1 q.1; omega)))⟩)
theorem ol_255 {τ : zS} (hr : RdT τ X n j) : 0 ≤ olV X (Tp9 X j) ∧ olV X (Tp9 X j) ≤ 255 := by
  unfold olV
  split
  · rename_i q
    have te := te_lt (kd1_by q.1)
    exact (hr.1.1.at (p := Tp9 X j) (by omega)).2
  · decide
theorem w_readAct (hr : RdT σ X n j) (hA : x.toInt = (A : Int)) (hA2 : A + 9 ≤ 2160) (k1 : ∀ τ, HdS A σ τ (j + 1) → j + 1 < n → (∀ i, i ≠ A + 3 → τ.1 20 i = σ.1 20 i) → act9 (rc9 X (Tp9 X j)) = true → (τ.1 20 (A + 3)).toInt = acN (rc9 X (Tp9 X j)) → Q 1 τ) (k0 : ∀ τ, HdF A σ τ → act9 (rc9 X (Tp9 X j)) = false → Q 0 τ) : W_Po_readAct x σ Q := by
  have ai := act_iff (rc9 X (Tp9 X j)) (Nat.lt_succ_of_le rc_le)
  unfold W_Po_readAct
  refine w_isWord (i := 6) hr (fun c1 => ⟨fun z => absurd z (by decide), fun _ => ?_⟩) (fun c1 => ⟨fun _ => ?_, fun z => absurd rfl z⟩)
  · have c1 : rc9 X (Tp9 X j) = 36 := c1
    exact w_rs hr (by omega) hA hA2 3 rfl (by decide) 6 (fun τ h hn wr e => k1 τ h hn wr (ai.mpr (Or.inl c1)) (by rw [e, c1]; decide))
  have c1 : rc9 X (Tp9 X j) ≠ 36 := c1
  refine w_oneLetter hr (fun v3 h3 => ?_)
  have h255 := ol_255 hr
  refine w_indexOf (i := 7) (by decide) (by omega) (fun v4 h4 => ?_)
  rw [h3] at h4
  rcases ix7 h4 c1 with ⟨q1, q2, q3⟩ | ⟨q1, q2⟩
  · exact ⟨fun _ => w_rs hr (by have := ai.mp q2; omega) hA hA2 3 rfl (by decide) v4 (fun τ h hn wr e => k1 τ h hn wr q2 (by rw [e]; exact q3)), fun z => absurd q1 z⟩
  · exact ⟨fun z => absurd z (by omega), fun _ => w_fail hr (fun τ fa _ => ⟨Or.inl rfl, k0 τ fa.h q2⟩)⟩
/-- things: kind (0 any, 1 with all in it, 2 alone), number, the place behind -/
noncomputable def ThR (X : Txt) (w : Wld) (p : Nat) (k v : Int) (q : Nat) : Prop := (rc9 X p = 34 ∧ k = 0 ∧ q = nx9t X p) ∨ (rc9 X p ≠ 34 ∧ thg9 X w p = true ∧ v = nb9 X p 116 ∧ ((rc9 X (nx9t X p) = 11 ∧ k = 1 ∧ q = nx9t X (nx9t X p)) ∨ (rc9 X (nx9t X p) ≠ 11 ∧ k = 2 ∧ q = nx9t X p)))
theorem w_readThing (hr : RdT σ X n j) (hw : WlC σ w) (hA : x.toInt = (A : Int)) (hA2 : A + 9 ≤ 2160) (k1 : ∀ τ j', HdS A σ τ j' → j' < n → Tp9 X j ≤ Tp9 X j' → (∀ i, i ≠ A + 4 → i ≠ A + 5 → τ.1 20 i = σ.1 20 i) → ThR X w (Tp9 X j) (τ.1 20 (A + 4)).toInt (τ.1 20 (A + 5)).toInt (Tp9 X j') → Q 1 τ) (k0 : ∀ τ, HdF A σ τ → rc9 X (Tp9 X j) ≠ 34 → thg9 X w (Tp9 X j) = false → Q 0 τ) : W_Po_readThing x σ Q := by
  have z0 : (0 : Int32).toInt = 0 := by decide
  have z1 : (1 : Int32).toInt = 1 := by decide
  have z2 : (2 : Int32).toInt = 2 := by decide
  have z116 : (116 : Int32).toInt = 116 := by decide
  unfold W_Po_readThing
  refine w_isWord (i := 4) hr (fun c1 => ⟨fun z => absurd z (by decide), fun _ => ?_⟩) (fun c1 => ⟨fun _ => ?_, fun z => absurd rfl z⟩)
  · have c1 : rc9 X (Tp9 X j) = 34 := c1
    exact w_rs hr (by omega) hA hA2 4 rfl (by decide) 0 (fun τ h hn wr e => k1 τ (j + 1) h hn (Nat.le_of_lt (tp_lt hr.1.2.2 hn)) (fun i a _ => wr i a) (Or.inl ⟨c1, by rw [e]; exact z0, rfl⟩))
  have c1 : rc9 X (Tp9 X j) ≠ 34 := c1
  refine w_numberBehind hr (fun v3 a1 a2 a3 => ?_)
  rw [z116] at a1 a2
  have no : ¬ (0 ≤ nb9 X (Tp9 X j) 116 ∧ w.2.2 (nb9 X (Tp9 X j) 116) = true) → thg9 X w (Tp9 X j) = false := fun q => by
    unfold thg9
    by_cases z : 0 ≤ nb9 X (Tp9 X j) 116
    · cases e : w.2.2 (nb9 X (Tp9 X j) 116) with
      | false => rw [Bool.and_false]
      | true => exact absurd ⟨z, e⟩ q
    · rw [decide_eq_false z, Bool.false_and]
  have bad : ¬ (0 ≤ nb9 X (Tp9 X j) 116 ∧ w.2.2 (nb9 X (Tp9 X j) 116) = true) → W_Po_fail σ (fun v21 σ21 => (v21 = 0 ∨ v21 = 1) ∧ Q v21 σ21) := fun q => w_fail hr (fun τ fa _ => ⟨Or.inl rfl, k0 τ fa.h c1 (no q)⟩)
  have hnn : v3.toInt < 0 → ¬ (0 ≤ nb9 X (Tp9 X j) 116 ∧ w.2.2 (nb9 X (Tp9 X j) 116) = true) := fun q z => by have := a1 z.1; omega
  refine ⟨fun c => ⟨fun _ => bad (hnn c), fun z => absurd rfl z⟩, fun c => ?_⟩
  have n1 : 0 ≤ nb9 X (Tp9 X j) 116 := by
    apply Classical.byContradiction
    intro z
    have := a2 (by omega)
    omega
  have e3 := a1 n1
  have wi := hw.2.2.2 v3.toInt.toNat
  have ei : ((v3.toInt.toNat : Nat) : Int) = nb9 X (Tp9 X j) 116 := by omega
  rw [ei] at wi
  have h40 := hw.2.2.1
  refine ⟨fun c2 => ⟨fun _ => bad (fun z => by have := (wi.mp z.2).1; omega), fun z => absurd rfl z⟩, fun c2 => ⟨v3.toInt.toNat, by omega, by omega, fun c3 => ⟨fun z => absurd z (by decide), fun _ => ?_⟩, fun c3 => ⟨fun _ => bad (fun z => c3 (wi.mp z.2).2), fun z => absurd rfl z⟩⟩⟩
  have there : w.2.2 (nb9 X (Tp9 X j) 116) = true := wi.mpr ⟨by omega, c3⟩
  have thg : thg9 X w (Tp9 X j) = true := by unfold thg9; rw [decide_eq_true n1, there]; rfl
  refine w_st hr (fun τ st => ?_)
  obtain ⟨hr1, l1, e1⟩ := st.rd hr (kd_2 (nb_kd n1))
  refine ⟨by omega, fun r8 h8 => ⟨A + 5, by omega, by omega, fun s10 e10 => ?_⟩⟩
  obtain ⟨g1, g2, g3⟩ := hd_wr (A := A) (by omega) hr1.2.2.1 e10
  have hr2 : RdT s10 X n (j + 1) := g1.1.rd hr1 g1.2.1 hr1.2.2.2
  refine ⟨by omega, fun r11 h11 => ⟨A + 4, by omega, by omega, fun s13 e13 => ?_⟩⟩
  obtain ⟨f1, f2, f3⟩ := hd_wr (A := A) (by omega) hr2.2.2.1 e13
  have hr3 : RdT s13 X n (j + 1) := f1.1.rd hr2 f1.2.1 hr2.2.2.2
  have hh : HdS A σ s13 (j + 1) := (st.h.tr g1).tr f1
  have cells : ∀ i, i ≠ A + 4 → i ≠ A + 5 → s13.1 20 i = σ.1 20 i := fun i a b => by rw [f2 i a, g2 i b, st.1.1 20 i (by decide) (by omega)]
  refine w_isSign (c := 11) hr3 (fun c4 => ⟨fun z => absurd z (by decide), fun _ => ?_⟩) (fun c4 => ⟨fun _ => ?_, fun z => absurd rfl z⟩)
  · refine w_st hr3 (fun τ2 st2 => ?_)
    obtain ⟨hr4, l4, e4⟩ := st2.rd hr3 (by omega)
    refine ⟨by omega, fun r18 h18 => ⟨A + 4, by omega, by omega, fun s20 e20 => ?_⟩⟩
    obtain ⟨d1, d2, d3⟩ := hd_wr (A := A) (by omega) hr4.2.2.1 e20
    refine k1 s20 (j + 1 + 1) ((hh.tr st2.h).tr d1) hr4.2.2.2 (by omega) (fun i a b => by rw [d2 i a, st2.1.1 20 i (by decide) (by omega)]; exact cells i a b) (Or.inr ⟨c1, thg, ?_, Or.inl ⟨c4, by rw [d3]; exact z1, rfl⟩⟩)
    rw [d2 (A + 5) (by omega), st2.1.1 20 _ (by decide) (by omega), f2 (A + 5) (by omega), g3]
    exact e3
  · refine k1 s13 (j + 1) hh hr3.2.2.2 (by omega) cells (Or.inr ⟨c1, thg, ?_, Or.inr ⟨c4, by rw [f3]; exact z2, rfl⟩⟩)
    rw [f2 (A + 5) (by omega), g3]
    exact e3
end L11
/-! ===== a whole rule, in the class ===== -/
theorem nv_run {X : Txt} {p : Nat} : ∀ k, k ≤ 9 → p + k ≤ X.2 → (∀ j, p ≤ j → j < p + k → fi9 X j = true) → nv9w X p = vb9 (fi9 X) (ng9 X p) X.2 (p + k) (dgV X p k 0)
  | 0, _, _, _ => rfl
  | k + 1, hk, hX, h => by
    rw [nv_run k (by omega) (by omega) (fun j a b => h j a (by omega)), vb_t (by omega) (h (p + k) (by omega) (by omega))]
    have e : ng9 X p (p + k) (dgV X p k 0) = dgV X p (k + 1) 0 := by
      unfold ng9
      rw [if_pos (by omega)]
      rfl
    rw [e]
    rfl
theorem nv_dg {X : Txt} {p : Nat} (h : kd9 X p = 2) : nv9w X p = dgV X p (fe9 X p - p) 0 := by
  have h0 : 0 ≤ by9 X p := by
    apply Classical.byContradiction
    intro q
    rw [kd_end (by omega)] at h
    omega
  have hp := by9_lt h0
  have hl : le9 X p = false := by
    cases e : le9 X p with
    | false => rfl
    | true => rw [kd_let h0 e] at h; omega
  have hf : fi9 X p = true := by
    cases e : fi9 X p with
    | true => rfl
    | false =>
      rw [kd_sgn h0 hl e] at h
      split at h
      · omega
      · split at h <;> omega
  rw [kd_fig h0 hl hf] at h
  have h9 : ¬ 9 < fe9 X p - p := fun q => by rw [if_pos q] at h; omega
  have b := wh_le (f := fi9 X) (L := X.2) (p := p)
  have b1 : p ≤ fe9 X p := b.1
  have b2 : fe9 X p ≤ X.2 := b.2 (by omega)
  have al : ∀ j, p ≤ j → j < p + (fe9 X p - p) → fi9 X j = true := fun j a c => whF_all (f := fi9 X) (n := X.2 - p) (p := p) a (by show j < fe9 X p; omega)
  rw [nv_run (fe9 X p - p) (by omega) (by omega) al]
  apply vb_f
  rw [show p + (fe9 X p - p) = fe9 X p by omega]
  rcases whF_end (f := fi9 X) (n := X.2 - p) (p := p) with e | e
  · have e : fe9 X p = p + (X.2 - p) := e
    exact fi_f (by rw [by9_out (X := X) (p := fe9 X p) (by omega)]; omega)
  · exact e
/-- a rule's head by its text; p6 behind it -/
noncomputable def RuX (X : Txt) (w : Wld) (p : Nat) (e : Nat → Int) (p6 : Nat) : Prop := ((37 ≤ rc9 X p ∧ rc9 X p ≤ 39) ∧ e 0 = ((rc9 X p : Nat) : Int) - 37) ∧ WhR X w (nx9t X p) (e 1) (e 2) ∧ (act9 (rc9 X (nx9t X (nx9t X p))) = true ∧ e 3 = acN (rc9 X (nx9t X (nx9t X p)))) ∧ ThR X w (nx9t X (nx9t X (nx9t X p))) (e 4) (e 5) p6
/-- its condition -/
noncomputable def CoX (X : Txt) (R : CwJ) (p6 q a b : Nat) : Prop := (rc9 X p6 = 33 ∧ CD (KT9 X) (EmX X) R 3 0 (nx9t X p6) q a b ∧ Rd (KT9 X) 3 0 (nx9t X p6) (Int.ofNat q)) ∨ (rc9 X p6 ≠ 33 ∧ q = p6 ∧ b = a)
/-- what must be done -/
noncomputable def DuX (X : Txt) (q : Nat) (v : Int) (z : Nat) : Prop := (rc9 X q = 32 ∧ kd9 X (nx9t X q) = 2 ∧ 1 ≤ nv9w X (nx9t X q) ∧ v = nv9w X (nx9t X q) ∧ z = nx9t X (nx9t X q)) ∨ (rc9 X q ≠ 32 ∧ v = 0 ∧ z = q)
/-- a rule that lies at A, by its text from p to z; its codes from a to b -/
noncomputable def RuL (τ : zS) (X : Txt) (w : Wld) (A p z a b : Nat) : Prop := ∃ p6 q, RuX X w p (fun i => (τ.1 20 (A + i)).toInt) p6 ∧ CoX X (RC9 τ) p6 q a b ∧ DuX X q (τ.1 20 (A + 8)).toInt z ∧ (τ.1 20 (A + 6)).toInt = (a : Int) ∧ (τ.1 20 (A + 7)).toInt = (b : Int)
theorem RuL.cg {τ υ : zS} {X : Txt} {w : Wld} {A p z a b : Nat} (h : RuL τ X w A p z a b) (hc : ∀ i, i < 9 → υ.1 20 (A + i) = τ.1 20 (A + i)) (hR : ∀ i, a ≤ i → i < b → RC9 τ i = RC9 υ i) : RuL υ X w A p z a b := by
  obtain ⟨p6, q, h1, h2, h3, h4, h5⟩ := h
  refine ⟨p6, q, ?_, ?_, ?_, ?_, ?_⟩
  · unfold RuX at h1 ⊢
    show ((_ ∧ (υ.1 20 (A + 0)).toInt = _) ∧ WhR X w _ (υ.1 20 (A + 1)).toInt (υ.1 20 (A + 2)).toInt ∧ (_ ∧ (υ.1 20 (A + 3)).toInt = _) ∧ ThR X w _ (υ.1 20 (A + 4)).toInt (υ.1 20 (A + 5)).toInt p6)
    rw [hc 0 (by decide), hc 1 (by decide), hc 2 (by decide), hc 3 (by decide), hc 4 (by decide), hc 5 (by decide)]
    exact h1
  · rcases h2 with ⟨a1, a2, a3⟩ | h2
    · exact Or.inl ⟨a1, a2.cg hR, a3⟩
    · exact Or.inr h2
  · rw [hc 8 (by decide)]; exact h3
  · rw [hc 6 (by decide)]; exact h4
  · rw [hc 7 (by decide)]; exact h5
section L12
variable {σ : zS} {X : Txt} {n j A a U : Nat} {x : Int32} {w : Wld} {Q : Int32 → zS → Prop}
/-- what must be done, and the end of a rule -/
theorem w_ruleEnd {τ : zS} {j6 jq b p6 : Nat} (hr : RdT τ X n jq) (fr : FrQ A σ τ) (sb : SmB σ τ a) (hA : x.toInt = (A : Int)) (hA2 : A + 9 ≤ 2160) (hb : (τ.1 17 15).toInt = (b : Int)) (hab : a ≤ b) (hlt : Tp9 X j < Tp9 X jq) (hbd : b + Tp9 X j ≤ a + Tp9 X jq) (ru : RuX X w (Tp9 X j) (fun i => (τ.1 20 (A + i)).toInt) p6) (co : CoX X (RC9 τ) p6 (Tp9 X jq) a b) (e6 : (τ.1 20 (A + 6)).toInt = (a : Int)) (hS : ∀ r, RS9 (CH9 X) X w 18 (Tp9 X jq) r → S10 (CH9 X) X w (Tp9 X j) r)
    (k1 : ∀ (υ : zS) (j' b' : Nat), FrQ A σ υ → SmB σ υ a → (υ.1 17 14).toInt = (j' : Int) → j' < n → Tp9 X j < Tp9 X j' → (υ.1 17 15).toInt = (b' : Int) → a ≤ b' → b' + Tp9 X j ≤ a + Tp9 X j' → RuL υ X w A (Tp9 X j) (Tp9 X j') a b' → S10 (CH9 X) X w (Tp9 X j) (Int.ofNat (Tp9 X j')) → Q 1 υ) (k0 : ∀ υ f, FrQ A σ υ → SmB σ υ a → S10 (CH9 X) X w (Tp9 X j) (Int.negSucc f) → Q 0 υ) : W_Po_readRule_b76 x τ Q := by
  refine ⟨by omega, fun r1 h1 => ⟨A + 7, by omega, by omega, fun s3 e3 => ⟨by omega, fun r4 h4 => ⟨A + 8, by omega, by omega, fun s6 e6' => ?_⟩⟩⟩⟩
  obtain ⟨g1, g2, g3⟩ := hd_wr (A := A) (by omega) hr.2.2.1 e3
  have hr3 : RdT s3 X n jq := g1.1.rd hr g1.2.1 hr.2.2.2
  obtain ⟨f1, f2, f3⟩ := hd_wr (A := A) (by omega) hr3.2.2.1 e6'
  have hr6 : RdT s6 X n jq := f1.1.rd hr3 f1.2.1 hr3.2.2.2
  have h6 := g1.tr f1
  have rc6 : RC9 s6 = RC9 τ := funext fun i => by
    show ((s6.1 21 i).toInt.toNat, (s6.2 22 i).toInt) = ((τ.1 21 i).toInt.toNat, (τ.2 22 i).toInt)
    rw [h6.2.2.2.1 i, h6.2.2.2.2]
  have cl : ∀ i, i < 7 → s6.1 20 (A + i) = τ.1 20 (A + i) := fun i hi => by rw [f2 _ (by omega), g2 _ (by omega)]
  have c7 : (s6.1 20 (A + 7)).toInt = (b : Int) := by rw [f2 _ (by omega), g3]; exact hb
  have c8 : s6.1 20 (A + 8) = 0 := f3
  have hb6 : (s6.1 17 15).toInt = (b : Int) := by rw [h6.2.2.1]; exact hb
  have ru6 : ∀ υ : zS, (∀ i, i < 7 → υ.1 20 (A + i) = s6.1 20 (A + i)) → RuX X w (Tp9 X j) (fun i => (υ.1 20 (A + i)).toInt) p6 := fun υ h => by
    unfold RuX at ru ⊢
    show ((_ ∧ (υ.1 20 (A + 0)).toInt = _) ∧ WhR X w _ (υ.1 20 (A + 1)).toInt (υ.1 20 (A + 2)).toInt ∧ (_ ∧ (υ.1 20 (A + 3)).toInt = _) ∧ ThR X w _ (υ.1 20 (A + 4)).toInt (υ.1 20 (A + 5)).toInt p6)
    rw [h 0 (by decide), h 1 (by decide), h 2 (by decide), h 3 (by decide), h 4 (by decide), h 5 (by decide), cl 0 (by decide), cl 1 (by decide), cl 2 (by decide), cl 3 (by decide), cl 4 (by decide), cl 5 (by decide)]
    exact ru
  have fr6 := fr.tr h6.1
  have sb6 : SmB σ s6 a := fun i hi => ⟨by rw [h6.2.2.2.1 i]; exact (sb i hi).1, by rw [h6.2.2.2.2]; exact (sb i hi).2⟩
  refine w_isWord (i := 20) hr6 (fun c1 => ⟨fun z => absurd z (by decide), fun _ => ?_⟩) (fun c1 => ⟨fun _ => ?_, fun z => absurd rfl z⟩)
  · have c1 : rc9 X (Tp9 X jq) = 32 := c1
    refine w_st hr6 (fun τ2 st => ?_)
    obtain ⟨hr2, l2, le2⟩ := st.rd hr6 (by omega)
    have hj2 := hr2.2.2.2
    have hn := hr.2.1
    have kd := hr2.kd
    have bad : (kd9 X (Tp9 X (jq + 1)) ≠ 2 ∨ nv9w X (Tp9 X (jq + 1)) ≤ 0) → W_Po_fail τ2 (fun v s => (v = 0 ∨ v = 1) ∧ Q v s) := fun q => w_fail hr2 (fun υ fa _ => ⟨Or.inl rfl, k0 υ (Tp9 X (jq + 1)) ((fr6.tr st.1.q).tr fa.1.q) ((sb6.tr (st.sb (a := a)) (Nat.le_refl a)).tr (fa.sb (a := a)) (Nat.le_refl a)) (hS _ (q_5c (Or.inr rfl) c1 (q_9x q)))⟩)
    refine ⟨jq + 1, hr2.2.2.1, by omega, fun c2 => ⟨fun c3 => ?_, fun c3 => bad (Or.inr ?_)⟩, fun c2 => bad (Or.inl (by omega))⟩
    · have k2 : kd9 X (Tp9 X (jq + 1)) = 2 := by omega
      have v2 := hr2.vl.2.1 k2
      rw [← nv_dg k2] at v2
      have nvb : nv9w X (Tp9 X (jq + 1)) < 1000000000 := by
        rw [nv_dg k2]
        have h0 : 0 ≤ by9 X (Tp9 X (jq + 1)) := by
          apply Classical.byContradiction
          intro q
          rw [kd_end (by omega)] at k2
          omega
        have hl : le9 X (Tp9 X (jq + 1)) = false := by
          cases e : le9 X (Tp9 X (jq + 1)) with
          | false => rfl
          | true => rw [kd_let h0 e] at k2; omega
        have hf : fi9 X (Tp9 X (jq + 1)) = true := by
          cases e : fi9 X (Tp9 X (jq + 1)) with
          | true => rfl
          | false =>
            rw [kd_sgn h0 hl e] at k2
            split at k2
            · omega
            · split at k2 <;> omega
        have k2' := k2
        rw [kd_fig h0 hl hf] at k2'
        have h9 : ¬ 9 < fe9 X (Tp9 X (jq + 1)) - Tp9 X (jq + 1) := fun q => by rw [if_pos q] at k2'; omega
        have al : ∀ i, Tp9 X (jq + 1) ≤ i → i < Tp9 X (jq + 1) + (fe9 X (Tp9 X (jq + 1)) - Tp9 X (jq + 1)) → fi9 X i = true := fun i u v => whF_all (f := fi9 X) (n := X.2 - Tp9 X (jq + 1)) (p := Tp9 X (jq + 1)) u (by show i < fe9 X (Tp9 X (jq + 1)); omega)
        have bd := dgV_in (X := X) (p := Tp9 X (jq + 1)) (v := 0) (b := 0) (by decide) (by decide) _ al
        have mono : (10 : Int) ^ (0 + (fe9 X (Tp9 X (jq + 1)) - Tp9 X (jq + 1))) ≤ 1000000000 := by
          have key : ∀ c, c < 10 → (10 : Int) ^ (0 + c) ≤ 1000000000 := by decide
          exact key _ (by omega)
        omega
      refine ⟨by omega, fun r16 h16 => ⟨by omega, fun r17 h17 => ⟨A + 8, by omega, by omega, fun s19 e19 => ?_⟩⟩⟩
      obtain ⟨d1, d2, d3⟩ := hd_wr (A := A) (by omega) hr2.2.2.1 e19
      have hr19 : RdT s19 X n (jq + 1) := d1.1.rd hr2 d1.2.1 hj2
      have r2 : 2 ≤ rc9 X (Tp9 X (jq + 1)) := by have := rc_kd.2.2.1 k2; omega
      refine w_st hr19 (fun υ st2 => ?_)
      obtain ⟨hr5, l5, le5⟩ := st2.rd hr19 r2
      have cells : ∀ i, i ≠ A + 8 → υ.1 20 i = s6.1 20 i := fun i hi => by rw [st2.1.1 20 i (by decide) (by omega), d2 i hi, st.1.1 20 i (by decide) (by omega)]
      have hh := (st.h (A := A)).tr (d1.tr (st2.h (A := A)))
      have rcu : RC9 υ = RC9 τ := by
        rw [← rc6]
        exact funext fun i => by
          show ((υ.1 21 i).toInt.toNat, (υ.2 22 i).toInt) = ((s6.1 21 i).toInt.toNat, (s6.2 22 i).toInt)
          rw [hh.2.2.2.1 i, hh.2.2.2.2]
      refine k1 υ (jq + 1 + 1) b (fr6.tr hh.1) (fun i hi => ⟨by rw [hh.2.2.2.1 i]; exact (sb6 i hi).1, by rw [hh.2.2.2.2]; exact (sb6 i hi).2⟩) hh.2.1 hr5.2.2.2 (by omega) (by rw [hh.2.2.1]; exact hb6) hab (by omega) ⟨p6, Tp9 X jq, ru6 υ (fun i hi => cells _ (by omega)), by rw [rcu]; exact co, Or.inl ⟨c1, k2, by show 1 ≤ nv9w X (Tp9 X (jq + 1)); omega, ?_, rfl⟩, by rw [cells _ (by omega), cl 6 (by decide)]; exact e6, by rw [cells _ (by omega)]; exact c7⟩ (hS _ (q_5c (Or.inr rfl) c1 (q_9o k2 (by show 1 ≤ nv9w X (Tp9 X (jq + 1)); omega))))
      rw [st2.1.1 20 (A + 8) (by decide) (by omega), d3]
      show r17.toInt = nv9w X (Tp9 X (jq + 1))
      omega
    · have k2 : kd9 X (Tp9 X (jq + 1)) = 2 := by omega
      have v2 := hr2.vl.2.1 k2
      rw [← nv_dg k2] at v2
      omega
  · have c1 : rc9 X (Tp9 X jq) ≠ 32 := c1
    refine k1 s6 jq b fr6 sb6 h6.2.1 hr.2.2.2 hlt hb6 hab hbd ⟨p6, Tp9 X jq, ru6 s6 (fun _ _ => rfl), by rw [rc6]; exact co, Or.inr ⟨c1, by rw [c8]; decide, rfl⟩, by rw [cl 6 (by decide)]; exact e6, c7⟩ (hS _ (q_5n (Or.inr rfl) c1))
theorem w_readRule (hU : U ≤ 9600) (hr : RdT σ X n j) (hw : WlC σ w) (hA : x.toInt = (A : Int)) (hA2 : A + 9 ≤ 2160) (ha : (σ.1 17 15).toInt = (a : Int)) (hu : a + (X.2 - Tp9 X j) ≤ U)
    (k1 : ∀ (υ : zS) (j' b' : Nat), FrQ A σ υ → SmB σ υ a → (υ.1 17 14).toInt = (j' : Int) → j' < n → Tp9 X j < Tp9 X j' → (υ.1 17 15).toInt = (b' : Int) → a ≤ b' → b' + Tp9 X j ≤ a + Tp9 X j' → RuL υ X w A (Tp9 X j) (Tp9 X j') a b' → S10 (CH9 X) X w (Tp9 X j) (Int.ofNat (Tp9 X j')) → Q 1 υ) (k0 : ∀ υ f, FrQ A σ υ → SmB σ υ a → S10 (CH9 X) X w (Tp9 X j) (Int.negSucc f) → Q 0 υ) : W_Po_readRule x σ Q := by
  have sbF : ∀ {τ : zS}, HdF A σ τ → SmB σ τ a := fun h i _ => ⟨h.2.1 i, by rw [h.2.2]⟩
  unfold W_Po_readRule
  refine w_readEffect hr hA hA2 (fun τ1 h1 n1 c1 e1 e2 e3 => ⟨fun z => absurd z (by decide), fun _ => ?_⟩) (fun τ h e => ⟨fun _ => k0 τ (Tp9 X j) h.1 (sbF h) ?_, fun z => absurd rfl z⟩)
  rotate_left
  · rcases (by omega : rc9 X (Tp9 X j) ≤ 36 ∨ 40 ≤ rc9 X (Tp9 X j)) with q | q
    · exact q_0a q
    · exact q_0b q
  have hr1 : RdT τ1 X n (j + 1) := h1.1.rd hr h1.2.1 n1
  refine w_readWho hr1 (h1.1.wl hw) hA hA2 (fun τ2 h2 n2 c2 o1 o2 => ⟨fun z => absurd z (by decide), fun _ => ?_⟩) (fun τ h e => ⟨fun _ => k0 τ (Tp9 X (j + 1)) (h1.trF h).1 (sbF (h1.trF h)) (q_0 e1 e2 (bt_no e rfl)), fun z => absurd rfl z⟩)
  have h2' := h1.tr h2
  have hr2 : RdT τ2 X n (j + 2) := h2.1.rd hr1 h2.2.1 n2
  refine w_readAct hr2 hA hA2 (fun τ3 h3 n3 c3 t1 t2 => ⟨fun z => absurd z (by decide), fun _ => ?_⟩) (fun τ h e => ⟨fun _ => k0 τ (Tp9 X (j + 2)) (h2'.trF h).1 (sbF (h2'.trF h)) (q_0 e1 e2 (bt_up o1 (bt_no e rfl))), fun z => absurd rfl z⟩)
  have h3' := h2'.tr h3
  have hr3 : RdT τ3 X n (j + 3) := h3.1.rd hr2 h3.2.1 n3
  refine w_readThing hr3 (h3'.1.wl hw) hA hA2 (fun τ4 j4 h4 n4 l4 c4 th => ⟨fun z => absurd z (by decide), fun _ => ?_⟩) (fun τ h e1' e2' => ⟨fun _ => k0 τ (Tp9 X (j + 3)) (h3'.trF h).1 (sbF (h3'.trF h)) (q_0 e1 e2 (bt_up o1 (bt_up t1 ⟨fun z => absurd z e1', fun _ => bt_no e2' rfl⟩))), fun z => absurd rfl z⟩)
  have h4' := h3'.tr h4
  have hr4 : RdT τ4 X n j4 := h4.1.rd hr3 h4.2.1 n4
  have l1 : Tp9 X j < Tp9 X (j + 1) := tp_lt hr.1.2.2 n1
  have l2 : Tp9 X (j + 1) < Tp9 X (j + 2) := tp_lt hr.1.2.2 n2
  have l3 : Tp9 X (j + 2) < Tp9 X (j + 3) := tp_lt hr.1.2.2 n3
  -- a condition, or none
  have hS : ∀ r, RS9 (CH9 X) X w 14 (Tp9 X j4) r → S10 (CH9 X) X w (Tp9 X j) r := fun r h => by
    refine q_0 e1 e2 (bt_up o1 (bt_up t1 ?_))
    rcases th with ⟨a1, _, a3⟩ | ⟨a1, a2, _, ⟨b1, _, b3⟩ | ⟨b1, _, b3⟩⟩
    · rw [a3] at h
      exact q_3a a1 h
    · rw [b3] at h
      exact ⟨fun z => absurd z a1, fun _ => bt_up a2 (q_6c b1 h)⟩
    · rw [b3] at h
      exact ⟨fun z => absurd z a1, fun _ => bt_up a2 (q_6n b1 h)⟩
  refine ⟨by omega, fun r9 h9 => ⟨A + 6, by omega, by omega, fun s11 e11 => ?_⟩⟩
  obtain ⟨g1, g2, g3⟩ := hd_wr (A := A) (by omega) hr4.2.2.1 e11
  have h11 := h4'.tr g1
  have hr11 : RdT s11 X n j4 := g1.1.rd hr4 g1.2.1 n4
  have ha11 : (s11.1 17 15).toInt = (a : Int) := by rw [h11.2.2.1]; exact ha
  have ru : ∀ υ : zS, (∀ i, i < 6 → υ.1 20 (A + i) = s11.1 20 (A + i)) → RuX X w (Tp9 X j) (fun i => (υ.1 20 (A + i)).toInt) (Tp9 X j4) := fun υ h => by
    have x0 : υ.1 20 (A + 0) = τ1.1 20 A := by rw [h 0 (by decide), g2 _ (by omega), c4 _ (by omega) (by omega), c3 _ (by omega), c2 _ (by omega) (by omega)]; rfl
    have x1 : υ.1 20 (A + 1) = τ2.1 20 (A + 1) := by rw [h 1 (by decide), g2 _ (by omega), c4 _ (by omega) (by omega), c3 _ (by omega)]
    have x2 : υ.1 20 (A + 2) = τ2.1 20 (A + 2) := by rw [h 2 (by decide), g2 _ (by omega), c4 _ (by omega) (by omega), c3 _ (by omega)]
    have x3 : υ.1 20 (A + 3) = τ3.1 20 (A + 3) := by rw [h 3 (by decide), g2 _ (by omega), c4 _ (by omega) (by omega)]
    have x4 : υ.1 20 (A + 4) = τ4.1 20 (A + 4) := by rw [h 4 (by decide), g2 _ (by omega)]
    have x5 : υ.1 20 (A + 5) = τ4.1 20 (A + 5) := by rw [h 5 (by decide), g2 _ (by omega)]
    unfold RuX
    show ((_ ∧ (υ.1 20 (A + 0)).toInt = _) ∧ WhR X w _ (υ.1 20 (A + 1)).toInt (υ.1 20 (A + 2)).toInt ∧ (_ ∧ (υ.1 20 (A + 3)).toInt = _) ∧ ThR X w _ (υ.1 20 (A + 4)).toInt (υ.1 20 (A + 5)).toInt (Tp9 X j4))
    rw [x0, x1, x2, x3, x4, x5]
    exact ⟨⟨⟨e1, e2⟩, e3⟩, o2, ⟨t1, t2⟩, th⟩
  refine w_isWord (i := 8) hr11 (fun d1 => ⟨fun z => absurd z (by decide), fun _ => ?_⟩) (fun d1 => ⟨fun _ => ?_, fun z => absurd rfl z⟩)
  · have d1 : rc9 X (Tp9 X j4) = 33 := d1
    refine w_st hr11 (fun τ5 st => ?_)
    obtain ⟨hr5, l5, le5⟩ := st.rd hr11 (by omega)
    have fr5 := h11.1.tr st.1.q
    have sb5 : SmB σ τ5 a := fun i hi => ⟨by rw [st.2.2.2.1 i]; exact h11.2.2.2.1 i, by rw [st.2.2.2.2, h11.2.2.2.2]⟩
    refine w_readCondition hU hr5 (by rw [st.2.2.1]; exact ha11) (by omega) (fun τ6 jq b po ok => ⟨fun z => absurd z (by decide), fun _ => ?_⟩) (fun τ6 po no => ⟨fun _ => ?_, fun z => absurd rfl z⟩)
    · have ok : Rd (KT9 X) 3 0 (Tp9 X (j4 + 1)) (Int.ofNat (Tp9 X jq)) ∧ _ := ok
      have bd := po.2.2.1.2
      have pl := po.2.1.2.2
      have lt := po.lt
      have cells : ∀ i, τ6.1 20 i = s11.1 20 i := fun i => by rw [po.1.1.1 20 i (by decide) (by omega), st.1.1 20 i (by decide) (by omega)]
      refine w_ruleEnd (j6 := 0) (a := a) (b := b) (p6 := Tp9 X j4) (po.rd hr5) (fr5.tr po.1.1.q) (sb5.tr po.1.2 (Nat.le_refl a)) hA hA2 po.2.2.1.1 (by omega) (by omega) (by omega) (ru τ6 (fun i _ => cells _)) (Or.inl ⟨d1, po.2.2.2, ok.1⟩) ?_ (fun r h => hS r (q_4c d1 (q_7o ok.1 h))) k1 k0
      rw [cells, g3]
      exact (by rw [h4'.2.2.1]; exact ha)
    · obtain ⟨f, no⟩ := no
      exact k0 τ6 f (fr5.tr po.1.q) (sb5.tr po.2 (Nat.le_refl a)) (hS _ (q_4c d1 (q_7x no)))
  · have d1 : rc9 X (Tp9 X j4) ≠ 33 := d1
    refine w_ruleEnd (j6 := 0) (a := a) (b := a) (p6 := Tp9 X j4) hr11 h11.1 (fun i _ => ⟨h11.2.2.2.1 i, by rw [h11.2.2.2.2]⟩) hA hA2 ha11 (Nat.le_refl a) (by omega) (by omega) (ru s11 (fun _ _ => rfl)) (Or.inr ⟨d1, rfl, rfl⟩) ?_ (fun r h => hS r (q_4n d1 h)) k1 k0
    rw [g3, h4'.2.2.1]
    exact ha
end L12
/-! ===== the class reads a policy ===== -/
theorem cpy_in {f g : Nat → Int32} {n j : Nat} (h : j < n) : va_cpy f g 0 0 n j = f j := by
  unfold va_cpy
  split
  · congr 1; omega
  · exfalso; omega
/-- the k-th rule begins at p -/
noncomputable def PlQ9 (X : Txt) (w : Wld) : Nat → Nat → Prop
  | 0, p => p = Tp9 X 0
  | k + 1, p => ∃ p' z, PlQ9 X w k p' ∧ S10 (CH9 X) X w p' (Int.ofNat z) ∧ rc9 X z = 19 ∧ p = nx9t X z
theorem PlQ9.det {X : Txt} {w : Wld} : ∀ {k p q : Nat}, PlQ9 X w k p → PlQ9 X w k q → p = q
  | 0, _, _, h, h' => h.trans h'.symm
  | k + 1, p, q, ⟨p', z, a1, a2, _, a4⟩, ⟨q', y, b1, b2, _, b4⟩ => by
    have e := PlQ9.det a1 b1
    subst e
    have := Int.ofNat.inj (S10.det CH_det a2 b2)
    subst this
    exact a4.trans b4.symm
/-- what reading a policy leaves as it is (but for way, rules, their number) -/
noncomputable def FrN (pol : Nat) (σ τ : zS) : Prop := (∀ k j, k ≠ 20 → k ≠ 21 → k ≠ 23 → k ≠ 24 → k ≠ 25 → ¬ (k = 17 ∧ (j = 9 ∨ j = 13 ∨ j = 14 ∨ j = 15 ∨ j = 16)) → τ.1 k j = σ.1 k j) ∧ (∀ j, j < 270 * pol → τ.1 20 j = σ.1 20 j) ∧ (∀ i, i < 1200 * pol → τ.1 21 i = σ.1 21 i ∧ τ.2 22 i = σ.2 22 i) ∧ ∀ k j, k ≠ 22 → k ≠ 26 → τ.2 k j = σ.2 k j
theorem FrN.tr {pol : Nat} {a b c : zS} (h : FrN pol a b) (h' : FrN pol b c) : FrN pol a c := ⟨fun k j q1 q2 q3 q4 q5 q6 => (h'.1 k j q1 q2 q3 q4 q5 q6).trans (h.1 k j q1 q2 q3 q4 q5 q6), fun j hj => (h'.2.1 j hj).trans (h.2.1 j hj), fun i hi => ⟨(h'.2.2.1 i hi).1.trans (h.2.2.1 i hi).1, (h'.2.2.1 i hi).2.trans (h.2.2.1 i hi).2⟩, fun k j q1 q2 => (h'.2.2.2 k j q1 q2).trans (h.2.2.2 k j q1 q2)⟩
theorem FrQ.n {A pol a : Nat} {σ τ : zS} (h : FrQ A σ τ) (hs : SmB σ τ a) (hA : 270 * pol ≤ A) (ha : 1200 * pol ≤ a) : FrN pol σ τ := ⟨fun k j q1 q2 _ _ _ q6 => h.1 k j q2 (by omega) (by omega), fun j hj => h.1 20 j (by decide) (by omega) (by omega), fun i hi => hs i (by omega), fun k j q1 _ => h.2.1 k j q1⟩
/-- all rules of a policy, so far -/
noncomputable def RuA (τ : zS) (X : Txt) (w : Wld) (pol k B : Nat) : Prop := ∀ i, i < k → ∃ p z a b, PlQ9 X w i p ∧ S10 (CH9 X) X w p (Int.ofNat z) ∧ RuL τ X w (9 * (30 * pol + i)) p z a b ∧ 1200 * pol ≤ a ∧ a ≤ b ∧ b ≤ B
theorem RuA.cg {τ υ : zS} {X : Txt} {w : Wld} {pol k B : Nat} (h : RuA τ X w pol k B) (hc : ∀ j, j < 9 * (30 * pol + k) → υ.1 20 j = τ.1 20 j) (hR : ∀ i, i < B → RC9 τ i = RC9 υ i) : RuA υ X w pol k B := fun i hi => by
  obtain ⟨p, z, a, b, h1, h2, h3, h4, h5, h6⟩ := h i hi
  exact ⟨p, z, a, b, h1, h2, h3.cg (fun q hq => hc _ (by omega)) (fun q _ hq => hR q (by omega)), h4, h5, h6⟩
section L13
variable {σ : zS} {X : Txt} {w : Wld} {n pol : Nat} {Q : Int32 → zS → Prop}
theorem w_ruleAt {x y : Int32} {k : Nat} {τ : zS} (hx : x.toInt = (pol : Int)) (hp : pol < 8) (hy : y.toInt = (k : Int)) (hk : k < 30) (kk : ∀ v : Int32, v.toInt = ((9 * (30 * pol + k) : Nat) : Int) → Q v τ) : W_Po_ruleAt x y τ Q := ⟨by omega, fun r1 h1 => ⟨by omega, fun r2 h2 => ⟨by omega, fun r3 h3 => kk r3 (by omega)⟩⟩⟩
theorem wl_read {x3 : Int32} (hp : pol < 8) (k1 : ∀ τ υ c, FrN pol σ τ → (τ.1 17 0) = σ.1 17 0 → RuA τ X w pol c (1200 * (pol + 1)) → 1 ≤ c → c ≤ 30 → PoR X w 30 0 (Tp9 X 0) (Int.ofNat c) → (∀ k j, ¬ (k = 18 ∧ j = pol) → ¬ (k = 19 ∧ j = pol) → ¬ (k = 17 ∧ j = 0) → υ.1 k j = τ.1 k j) → υ.2 = τ.2 → υ.1 18 pol = x3 → (υ.1 19 pol).toInt = (c : Int) → (υ.1 17 0).toInt = (pol : Int) + 1 → Q (-4) υ) (k0 : ∀ v τ f, FrN pol σ τ → τ.1 17 0 = σ.1 17 0 → 0 ≤ v.toInt → v.toInt ≤ 1200 → PoR X w 30 0 (Tp9 X 0) (Int.negSucc f) → Q v τ) (hpol : (σ.1 17 0).toInt = (pol : Int)) : ∀ (N : Nat) (x4 : Int32) (τ : zS) (j a k : Nat), x4.toInt = (k : Int) → k ≤ 30 → RdT τ X n j → WlC τ w → FrN pol σ τ → τ.1 17 0 = σ.1 17 0 → rgF τ → (τ.1 17 15).toInt = (a : Int) → 1200 * pol ≤ a → a + (X.2 - Tp9 X j) ≤ 1200 * (pol + 1) → RuA τ X w pol k a → PlQ9 X w k (Tp9 X j) → (∀ r, PoR X w (30 - k) k (Tp9 X j) r → PoR X w 30 0 (Tp9 X 0) r) → 30 - k + 2 ≤ N → (WL_Po_read N) x3 x4 τ Q
  | 0, _, _, _, _, _, _, _, _, _, _, _, _, _, _, _, _, _, _, h => absurd h (by omega)
  | N + 1, x4, τ, j, a, k, h4, hk, hr, hw, fr, e0, hg, ha, ha1, hu, ru, pl, hP, hN => by
    have ih := wl_read hp k1 k0 hpol N
    have hX := hr.1.1.1.2
    have hn := hr.2.1
    have tpl := tp_le hr.1.2.2 hr.2.2.2
    have flt : ∀ {υ : zS} {j' : Nat}, RdT υ X n j' → 0 ≤ (υ.1 25 j').toInt ∧ (υ.1 25 j').toInt ≤ 1200 := fun h => by
      have := h.pl
      have := tp_le h.1.2.2 h.2.2.2
      omega
    refine wl_Po_read_40 ?_
    refine ⟨fun q => ⟨j, hr.2.2.1, by have := hr.2.2.2; omega, ?_⟩, fun q => ?_⟩
    · have : k = 30 := by omega
      subst this
      exact k0 _ τ (Tp9 X j) fr e0 (flt hr).1 (flt hr).2 (hP _ rfl)
    · have hpx : (τ.1 17 0).toInt = (pol : Int) := by rw [e0]; exact hpol
      refine w_ruleAt hpx hp h4 (by omega) (fun v3 h3 => ?_)
      have eP : 30 - k = (30 - (k + 1)) + 1 := by omega
      have nof : ∀ υ f, FrQ (9 * (30 * pol + k)) τ υ → SmB τ υ a → S10 (CH9 X) X w (Tp9 X j) (Int.negSucc f) → (∀ v : Int32, 0 ≤ v.toInt → v.toInt ≤ 1200 → Q v υ) := fun υ f fq sb hS v v1 v2 =>
        k0 v υ f (fr.tr (fq.n sb (by omega) ha1)) (by rw [fq.1 17 0 (by decide) (by decide) (by omega)]; exact e0) v1 v2 (hP _ (by rw [eP]; exact ⟨_, hS, fun f' e => e, fun z e => by cases e⟩))
      refine w_readRule (U := 1200 * (pol + 1)) (A := 9 * (30 * pol + k)) (by omega) hr hw h3 (by omega) ha hu (fun υ j' b' fq sb e14 hj' hlt e15 hab hbd rl hS => ⟨fun z => absurd z (by decide), fun _ => ?_⟩) (fun υ f fq sb hS => ⟨fun _ => nof υ f fq sb hS _ (fq.2.2 hg).1 (fq.2.2 hg).2, fun z => absurd rfl z⟩)
      have hr' : RdT υ X n j' := fq.rd hr e14 hj'
      have kd := hr'.kd
      have rk := rc_kd (X := X) (p := Tp9 X j')
      have kle := kd9_le (X := X) (p := Tp9 X j')
      have tl' := tp_le hr.1.2.2 hj'
      have fr' := fr.tr (fq.n sb (by omega) ha1)
      have e0' : υ.1 17 0 = σ.1 17 0 := by rw [fq.1 17 0 (by decide) (by decide) (by omega)]; exact e0
      have ru' : RuA υ X w pol (k + 1) b' := fun i hi => by
        by_cases g : i = k
        · subst g
          exact ⟨Tp9 X j, Tp9 X j', a, b', pl, hS, rl, ha1, hab, Nat.le_refl _⟩
        · obtain ⟨p, z, a2, b2, q1, q2, q3, q4, q5, q6⟩ := ru i (by omega)
          exact ⟨p, z, a2, b2, q1, q2, q3.cg (fun q hq => fq.1 20 _ (by decide) (by omega) (by omega)) (fun q _ hq => sb.rc (by omega)), q4, q5, by omega⟩
      have PS : ∀ r, ((∀ f, Int.ofNat (Tp9 X j') = Int.negSucc f → r = Int.negSucc f) ∧ ∀ z, Int.ofNat (Tp9 X j') = Int.ofNat z → (rc9 X z = 1 → r = Int.ofNat (k + 1)) ∧ (rc9 X z = 19 → PoR X w (30 - (k + 1)) (k + 1) (nx9t X z) r) ∧ (rc9 X z ≠ 1 ∧ rc9 X z ≠ 19 → r = Int.negSucc z)) → PoR X w 30 0 (Tp9 X 0) r := fun r h => hP r (by rw [eP]; exact ⟨_, hS, h⟩)
      refine ⟨j', e14, by omega, fun c0 => ?_, fun c0 => ?_⟩
      · have r1 : rc9 X (Tp9 X j') = 1 := rk.1 (by omega)
        have hpx' : (υ.1 17 0).toInt = (pol : Int) := by rw [e0']; exact hpol
        refine ⟨pol, hpx', hp, fun s12 e12 => ⟨by omega, fun r13 h13 => ?_⟩⟩
        have x12 : s12.1 17 0 = υ.1 17 0 := by rw [← e12, yI_ne (by omega)]
        refine ⟨pol, by rw [x12]; exact hpx', hp, fun s15 e15' => ?_⟩
        have x15 : s15.1 17 0 = υ.1 17 0 := by rw [← e15', yI_ne (by omega), x12]
        rw [x15]
        refine ⟨by omega, fun r16 h16 s17 e17 => k1 υ s17 (k + 1) fr' e0' (fun i hi => by obtain ⟨p, z, a2, b2, q1, q2, q3, q4, q5, q6⟩ := ru' i hi; exact ⟨p, z, a2, b2, q1, q2, q3, q4, q5, by omega⟩) (by omega) (by omega) (PS _ ⟨fun f e => (by cases e), fun z e => ?_⟩) (fun q i n1 n2 n3 => ?_) ?_ ?_ ?_ ?_⟩
        · cases Int.ofNat.inj e
          exact ⟨fun _ => rfl, fun q => absurd q (by omega), fun q => absurd r1 q.1⟩
        · rw [← e17, yI_ne n3, ← e15', yI_ne n2, ← e12, yI_ne n1]
        · rw [← e17, yI_l, ← e15', yI_l, ← e12, yI_l]
        · rw [← e17, yI_ne (by omega), ← e15', yI_ne (by omega), ← e12, yI_at]
        · rw [← e17, yI_ne (by omega), ← e15', yI_at]; omega
        · rw [← e17, yI_at]; omega
      · have r1 : rc9 X (Tp9 X j') ≠ 1 := by
          rcases (by omega : kd9 X (Tp9 X j') = 1 ∨ kd9 X (Tp9 X j') = 2 ∨ kd9 X (Tp9 X j') = 3 ∨ kd9 X (Tp9 X j') = 4 ∨ kd9 X (Tp9 X j') = 5) with e | e | e | e | e
          · have := rk.2.1 e; omega
          · have := rk.2.2.1 e; omega
          · have := rk.2.2.2.1 e; omega
          · have := rk.2.2.2.2.1 e; omega
          · have := rk.2.2.2.2.2 e; omega
        refine w_passes (c := 19) hr' (fun υ2 st c19 => ⟨fun z => absurd z (by decide), fun _ => ⟨by omega, fun r10 h10 => ?_⟩⟩) (fun υ2 fa c19 => ⟨fun _ => ?_, fun z => absurd rfl z⟩)
        · obtain ⟨hr2, l2, le2⟩ := st.rd hr' (by omega)
          have fq2 := st.1.q (A := 9 * (30 * pol + (k + 1)))
          refine ih r10 υ2 (j' + 1) b' (k + 1) (by omega) (by omega) hr2 (fq2.wl (fq.wl hw)) (fr'.tr (fq2.n (st.sb (a := b')) (by omega) (by omega))) (by rw [st.1.1 17 0 (by decide) (by decide)]; exact e0') (st.1.2.2 (fq.2.2 hg)) (by rw [st.2.2.1]; exact e15) (by omega) (by omega) (ru'.cg (fun q hq => st.1.1 20 q (by decide) (by omega)) (fun i _ => (st.sb (a := i + 1)).rc (by omega))) ⟨Tp9 X j, Tp9 X j', pl, hS, c19, rfl⟩ (fun r h => PS r ⟨fun f e => (by cases e), fun z e => ?_⟩) (by omega)
          cases Int.ofNat.inj e
          exact ⟨fun q => absurd q r1, fun _ => h, fun q => absurd c19 q.2⟩
        · have g := fa.1.2.2 (fq.2.2 hg)
          refine k0 _ υ2 (Tp9 X j') (fr'.tr ((fa.1.q (A := 9 * (30 * pol + k))).n (fa.sb (a := a)) (by omega) ha1)) (by rw [fa.1.1 17 0 (by decide) (by decide)]; exact e0') g.1 g.2 (PS _ ⟨fun f e => (by cases e), fun z e => ?_⟩)
          cases Int.ofNat.inj e
          exact ⟨fun q => absurd q r1, fun q => absurd q c19, fun _ => rfl⟩
/-- the class's tape -/
noncomputable def TaC (σ : zS) (X : Txt) : Prop := X.2 ≤ 1200 ∧ ∀ p, p < X.2 → (σ.1 1 p).toInt = X.1 p ∧ 0 ≤ X.1 p ∧ X.1 p ≤ 255
theorem w_read {x2 x3 : Int32} (ht : TaC σ X) (hw : WlC σ w) (h2 : x2.toInt = (X.2 : Int)) (hg : rgF σ) (hp : pol < 8) (hpol : (σ.1 17 0).toInt = (pol : Int)) (k1 : ∀ τ υ c, FrN pol σ τ → (τ.1 17 0) = σ.1 17 0 → RuA τ X w pol c (1200 * (pol + 1)) → 1 ≤ c → c ≤ 30 → PoR X w 30 0 (Tp9 X 0) (Int.ofNat c) → (∀ k j, ¬ (k = 18 ∧ j = pol) → ¬ (k = 19 ∧ j = pol) → ¬ (k = 17 ∧ j = 0) → υ.1 k j = τ.1 k j) → υ.2 = τ.2 → υ.1 18 pol = x3 → (υ.1 19 pol).toInt = (c : Int) → (υ.1 17 0).toInt = (pol : Int) + 1 → Q (-4) υ) (k0 : ∀ v τ f, FrN pol σ τ → τ.1 17 0 = σ.1 17 0 → 0 ≤ v.toInt → v.toInt ≤ 1200 → PoR X w 30 0 (Tp9 X 0) (Int.negSucc f) → Q v τ) : W_Po_read x2 x3 σ Q := by
  have hX := ht.1
  refine ⟨X.2, h2, by omega, fun s4 e4 s5 e5 => ?_⟩
  have f4 : ∀ k j, k ≠ 23 → s4.1 k j = σ.1 k j := fun k j hk => by
    rw [← e4]
    show xup σ.1 23 _ k j = σ.1 k j
    rw [xup_ne hk]
  have c4 : ∀ p, p < X.2 → s4.1 23 p = σ.1 1 p := fun p hp => by
    rw [← e4]
    show xup σ.1 23 _ 23 p = σ.1 1 p
    rw [xup_same]
    exact cpy_in hp
  have l4 : s4.2 = σ.2 := by rw [← e4]; rfl
  have f5 : ∀ k j, k ≠ 23 → ¬ (k = 17 ∧ j = 9) → s5.1 k j = σ.1 k j := fun k j h h' => by rw [← e5, yI_ne h']; exact f4 k j h
  have l5 : s5.2 = σ.2 := by rw [← e5, yI_l]; exact l4
  have tx : TxC s5 X := ⟨⟨by rw [← e5, yI_at]; exact h2, hX⟩, fun p hp => by rw [← e5, yI_ne (by omega), c4 p hp]; exact ht.2 p hp⟩
  refine w_split tx (fun s6 n fr6 tk nt hn s7 e7 => ?_)
  have f6 : ∀ k j, k ≠ 23 → k ≠ 24 → k ≠ 25 → ¬ (k = 17 ∧ (j = 9 ∨ j = 13)) → s6.1 k j = σ.1 k j := fun k j a b c d => by rw [fr6.1 k j b c (by omega)]; exact f5 k j a (by omega)
  have x7 : s7.1 17 0 = σ.1 17 0 := by rw [← e7, yI_ne (by omega)]; exact f6 17 0 (by decide) (by decide) (by decide) (by omega)
  rw [x7]
  refine ⟨by omega, fun r8 h8 s9 e9 => ?_⟩
  have f9 : ∀ k j, k ≠ 23 → k ≠ 24 → k ≠ 25 → ¬ (k = 17 ∧ (j = 9 ∨ j = 13 ∨ j = 14 ∨ j = 15)) → s9.1 k j = σ.1 k j := fun k j a b c d => by rw [← e9, yI_ne (by omega), ← e7, yI_ne (by omega)]; exact f6 k j a b c (by omega)
  have g9 : ∀ k j, ¬ (k = 17 ∧ (j = 14 ∨ j = 15)) → s9.1 k j = s6.1 k j := fun k j d => by rw [← e9, yI_ne (by omega), ← e7, yI_ne (by omega)]
  have l9 : s9.2 = s6.2 := by rw [← e9, yI_l, ← e7, yI_l]
  have rd : RdT s9 X n 0 := by
    refine ⟨⟨⟨⟨?_, hX⟩, fun p hp => ?_⟩, ⟨?_, fun i hi => ?_⟩, nt⟩, hn, ?_, by have := nt.1; omega⟩
    · rw [g9 17 9 (by omega), (fr6.tx tx).1.1]
    · rw [g9 23 p (by omega)]; exact (fr6.tx tx).2 p hp
    · rw [g9 17 13 (by omega)]; exact tk.1
    · rw [g9 25 i (by omega), g9 24 i (by omega), l9]; exact tk.2 i hi
    · rw [← e9, yI_ne (by omega), ← e7, yI_at]; decide
  have fn : FrN pol σ s9 := ⟨fun k j a b c d e g => f9 k j c d e (by omega), fun j _ => f9 20 j (by decide) (by decide) (by decide) (by omega), fun i _ => ⟨f9 21 i (by decide) (by decide) (by decide) (by omega), by rw [l9, fr6.2 22 i (by decide), l5]⟩, fun k j a b => by rw [l9, fr6.2 k j b, l5]⟩
  have wl : WlC s9 w := by
    obtain ⟨a, b, c, d⟩ := hw
    refine ⟨?_, ?_, ?_, fun t => ?_⟩
    · rw [f9 5 0 (by decide) (by decide) (by decide) (by omega)]; exact a
    · rw [f9 5 1 (by decide) (by decide) (by decide) (by omega)]; exact b
    · rw [f9 10 0 (by decide) (by decide) (by decide) (by omega)]; exact c
    · rw [f9 10 0 (by decide) (by decide) (by decide) (by omega), f9 14 t (by decide) (by decide) (by decide) (by omega)]; exact d t
  have tl := tp_le (X := X) nt (j := 0) (by have := nt.1; omega)
  exact wl_read hp k1 k0 hpol fuF 0 s9 0 (1200 * pol) 0 (by decide) (by omega) rd wl fn (by rw [f9 17 0 (by decide) (by decide) (by decide) (by omega)]) (by unfold rgF at hg ⊢; rw [f9 17 16 (by decide) (by decide) (by decide) (by omega)]; exact hg) (by rw [← e9, yI_at]; omega) (Nat.le_refl _) (by omega) (fun i hi => absurd hi (by omega)) rfl (fun r h => h) (by show 30 - 0 + 2 ≤ 100000; decide)
end L13

end
