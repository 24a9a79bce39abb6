section
/-! ===== N05: the log, the policy in force, requests ===== -/
noncomputable def FrL4 (σ τ : zS) : Prop := (∀ k j, k ≠ 4 → τ.1 k j = σ.1 k j) ∧ τ.2 = σ.2
noncomputable def FrHa (ω : Bool) (σ τ : zS) : Prop := (∀ k j, ¬ (k = 0 ∧ j = 7) → k ≠ 4 → ¬ (k = 27 ∧ j < 18) → ¬ (28 ≤ k ∧ k ≤ 32) → (ω = true → k ≠ 33) → τ.1 k j = σ.1 k j) ∧ ∀ k j, k ≠ 28 → τ.2 k j = σ.2 k j
noncomputable def FrMa (ω : Bool) (σ τ : zS) : Prop := (∀ k j, ¬ (k = 110 ∧ (j = 3 ∨ (64 ≤ j ∧ j ≤ 69))) → k ≠ 112 → k ≠ 113 → k ≠ 120 → ¬ (151 ≤ k ∧ k ≤ 153) → (ω = true → k ≠ 156) → τ.1 k j = σ.1 k j) ∧ ∀ k j, k ≠ 152 → τ.2 k j = σ.2 k j
section N05
variable {ω : Bool} {σ τ : zS}
theorem FrL4.refl : FrL4 σ σ := ⟨fun _ _ _ => rfl, rfl⟩
theorem FrL4.w {ρ : zS} {m : Nat} {v : Int32} (h : FrL4 σ τ) (e : zI τ 4 m v = ρ) : FrL4 σ ρ := by
  subst e
  exact ⟨fun k j q => by rw [yI_ne (by omega)]; exact h.1 k j q, h.2⟩
theorem FrHa.k (h : FrHa ω σ τ) (k j : Nat) (q : ¬ (k = 0 ∧ j = 7)) (q2 : k ≠ 4) (q3 : ¬ (27 ≤ k ∧ k ≤ 33)) : τ.1 k j = σ.1 k j := h.1 k j q q2 (by omega) (by omega) (fun _ => by omega)
theorem FrHa.refl : FrHa ω σ σ := ⟨fun _ _ _ _ _ _ _ => rfl, fun _ _ _ => rfl⟩
theorem FrHa.tr {a b c : zS} (h : FrHa ω a b) (h' : FrHa ω b c) : FrHa ω a c := ⟨fun k j q q2 q3 q4 q5 => (h'.1 k j q q2 q3 q4 q5).trans (h.1 k j q q2 q3 q4 q5), fun k j q => (h'.2 k j q).trans (h.2 k j q)⟩
theorem FrL4.a (h : FrL4 σ τ) : FrHa ω σ τ := ⟨fun k j _ q _ _ _ => h.1 k j q, fun k j _ => by rw [h.2]⟩
theorem FrA.a (h : FrA σ τ) : FrHa ω σ τ := ⟨fun k j _ _ q q2 _ => h.1 k j (by omega) (by omega) (by omega) (by omega), h.2⟩
theorem FrHa.i {ρ : zS} {k0 j0 : Nat} {v : Int32} (h : FrHa ω σ τ) (e : zI τ k0 j0 v = ρ) (hk : (k0 = 0 ∧ j0 = 7) ∨ k0 = 4 ∨ (k0 = 27 ∧ j0 < 18) ∨ (28 ≤ k0 ∧ k0 ≤ 32)) : FrHa ω σ ρ := by
  subst e
  exact ⟨fun k j q q2 q3 q4 q5 => by rw [yI_ne (by omega)]; exact h.1 k j q q2 q3 q4 q5, h.2⟩
theorem FrHa.c {ρ : zS} {k0 j0 : Nat} {v : Int32} (h : FrHa true σ τ) (e : zI τ k0 j0 v = ρ) (hk : k0 = 33) : FrHa true σ ρ := by
  subst e
  exact ⟨fun k j q q2 q3 q4 q5 => by have := q5 rfl; rw [yI_ne (by omega)]; exact h.1 k j q q2 q3 q4 q5, h.2⟩
theorem FrHa.r {ρ : zS} {k0 : Nat} {f : Nat → Int32} (h : FrHa ω σ τ) (e : zIr τ k0 f = ρ) (hk : 28 ≤ k0 ∧ k0 ≤ 32) : FrHa ω σ ρ := by
  subst e
  refine ⟨fun k j q q2 q3 q4 q5 => ?_, h.2⟩
  show xup τ.1 k0 _ k j = σ.1 k j
  rw [xup_ne (by omega)]
  exact h.1 k j q q2 q3 q4 q5
theorem zIr_nn {k0 k j : Nat} {f : Nat → Int32} (h : k ≠ k0) : (zIr τ k0 f).1 k j = τ.1 k j := by
  show xup τ.1 k0 f k j = τ.1 k j
  rw [xup_ne h]
theorem FrHa.v (h : FrHa ω σ τ) : FrVn σ τ := FrVn.all (fun k j q q2 q3 _ _ _ _ _ _ => by
  by_cases z : k = 0 ∧ j = 7
  · exact absurd ⟨z.1, by omega⟩ q
  · exact h.k k j z q2 q3) (fun k j q _ => h.2 k j q)
theorem stA_a {asked : Int32} : FrHa ω σ (stA σ asked) := by
  unfold stA
  exact ((((FrHa.refl.i rfl (by omega)).i rfl (by omega)).i rfl (by omega)).i rfl (by omega)).i rfl (by omega)
theorem FrMa.refl : FrMa ω σ σ := ⟨fun _ _ _ _ _ _ _ _ => rfl, fun _ _ _ => rfl⟩
theorem FrMa.tr {a b c : zS} (h : FrMa ω a b) (h' : FrMa ω b c) : FrMa ω a c := ⟨fun k j q q2 q3 q4 q5 q6 => (h'.1 k j q q2 q3 q4 q5 q6).trans (h.1 k j q q2 q3 q4 q5 q6), fun k j q => (h'.2 k j q).trans (h.2 k j q)⟩
theorem FrB.a (h : FrB σ τ) : FrMa ω σ τ := ⟨fun k j q _ _ _ q5 _ => h.1 k j (by omega) (by omega), h.2⟩
theorem FrG.a (h : FrG σ τ) : FrMa ω σ τ := ⟨fun k j _ _ _ q _ _ => h.1 k j q, fun k j _ => by rw [h.2]⟩
theorem MkM.a {d : Int} (h : MkM σ τ d) : FrMa ω σ τ := ⟨fun k j q _ _ _ q5 _ => h.2.1 k j (by omega) (by omega), fun k j _ => by rw [h.2.2]⟩
theorem FrMa.i {ρ : zS} {k0 j0 : Nat} {v : Int32} (h : FrMa ω σ τ) (e : zI τ k0 j0 v = ρ) (hk : (k0 = 110 ∧ (j0 = 3 ∨ (64 ≤ j0 ∧ j0 ≤ 69))) ∨ k0 = 112 ∨ k0 = 113) : FrMa ω σ ρ := by
  subst e
  exact ⟨fun k j q q2 q3 q4 q5 q6 => by rw [yI_ne (by omega)]; exact h.1 k j q q2 q3 q4 q5 q6, h.2⟩
theorem FrMa.c {ρ : zS} {k0 j0 : Nat} {v : Int32} (h : FrMa true σ τ) (e : zI τ k0 j0 v = ρ) (hk : k0 = 156) : FrMa true σ ρ := by
  subst e
  exact ⟨fun k j q q2 q3 q4 q5 q6 => by have := q6 rfl; rw [yI_ne (by omega)]; exact h.1 k j q q2 q3 q4 q5 q6, h.2⟩
theorem stM_a : FrMa ω σ (stM σ) := by
  unfold stM
  exact (((FrMa.refl.i rfl (by omega)).i rfl (by omega)).i rfl (by omega)).i rfl (by omega)
theorem FrMa.v (h : FrMa ω σ τ) : FrVn σ τ := FrVn.all (fun k j _ _ _ q q2 q3 q4 q5 q6 => h.1 k j (by omega) q3 q4 q5 (by omega) (fun _ => by omega)) (fun k j _ q => h.2 k j q)
/-! wide frames -/
noncomputable def FrHw (σ τ : zS) : Prop := (∀ k j, ¬ (k = 0 ∧ j = 7) → k ≠ 4 → ¬ (27 ≤ k ∧ k ≤ 33) → τ.1 k j = σ.1 k j) ∧ ∀ k j, k ≠ 28 → τ.2 k j = σ.2 k j
noncomputable def FrMw (σ τ : zS) : Prop := (∀ k j, ¬ (k = 110 ∧ (j = 3 ∨ (64 ≤ j ∧ j ≤ 69) ∨ (74 ≤ j ∧ j ≤ 75))) → k ≠ 112 → k ≠ 113 → k ≠ 120 → ¬ (151 ≤ k ∧ k ≤ 153) → k ≠ 156 → τ.1 k j = σ.1 k j) ∧ ∀ k j, k ≠ 152 → τ.2 k j = σ.2 k j
theorem FrHa.w (h : FrHa ω σ τ) : FrHw σ τ := ⟨fun k j q q2 q3 => h.k k j q q2 q3, h.2⟩
theorem FrMa.w (h : FrMa ω σ τ) : FrMw σ τ := ⟨fun k j q q2 q3 q4 q5 q6 => h.1 k j (by omega) q2 q3 q4 q5 (fun _ => q6), h.2⟩
theorem FrHw.refl : FrHw σ σ := ⟨fun _ _ _ _ _ => rfl, fun _ _ _ => rfl⟩
theorem FrMw.refl : FrMw σ σ := ⟨fun _ _ _ _ _ _ _ _ => rfl, fun _ _ _ => rfl⟩
theorem FrHw.tr {a b c : zS} (h : FrHw a b) (h' : FrHw b c) : FrHw a c := ⟨fun k j q q2 q3 => (h'.1 k j q q2 q3).trans (h.1 k j q q2 q3), fun k j q => (h'.2 k j q).trans (h.2 k j q)⟩
theorem FrMw.tr {a b c : zS} (h : FrMw a b) (h' : FrMw b c) : FrMw a c := ⟨fun k j q q2 q3 q4 q5 q6 => (h'.1 k j q q2 q3 q4 q5 q6).trans (h.1 k j q q2 q3 q4 q5 q6), fun k j q => (h'.2 k j q).trans (h.2 k j q)⟩
theorem FrHw.i {ρ : zS} {k0 j0 : Nat} {v : Int32} (h : FrHw σ τ) (e : zI τ k0 j0 v = ρ) (hk : 27 ≤ k0 ∧ k0 ≤ 33) : FrHw σ ρ := by
  subst e
  exact ⟨fun k j q q2 q3 => by rw [yI_ne (by omega)]; exact h.1 k j q q2 q3, h.2⟩
theorem FrMw.i {ρ : zS} {k0 j0 : Nat} {v : Int32} (h : FrMw σ τ) (e : zI τ k0 j0 v = ρ) (hk : (k0 = 110 ∧ 74 ≤ j0 ∧ j0 ≤ 75) ∨ k0 = 156) : FrMw σ ρ := by
  subst e
  exact ⟨fun k j q q2 q3 q4 q5 q6 => by rw [yI_ne (by omega)]; exact h.1 k j q q2 q3 q4 q5 q6, h.2⟩
theorem FrHw.v (h : FrHw σ τ) : FrVn σ τ := FrVn.all (fun k j q q2 q3 _ _ _ _ _ _ => by
  by_cases z : k = 0 ∧ j = 7
  · exact absurd ⟨z.1, by omega⟩ q
  · exact h.1 k j z q2 q3) (fun k j q _ => h.2 k j q)
theorem FrMw.v (h : FrMw σ τ) : FrVn σ τ := FrVn.all (fun k j _ _ _ q q2 q3 q4 q5 q6 => h.1 k j (by omega) q3 q4 q5 (by omega) (by omega)) (fun k j _ q => h.2 k j q)
/-! the log -/
theorem w_sumAhead {a : Int32} {L : Nat} {Q : Int32 → zS → Prop} (h : a.toInt = (L : Int)) (hL : L < 300) (kk : ∀ v, Q v σ) : W_H_sumAhead a σ Q := ⟨fun _ => kk _, fun c => ⟨by omega, fun r2 h2 => ⟨by omega, fun r3 h3 => ⟨by omega, fun r4 h4 => ⟨7 * (L - 1) + 6, by omega, by omega, kk _⟩⟩⟩⟩⟩
theorem wl_sumBehind {a2 : Int32} {L : Nat} {Q : Int32 → zS → Prop} (h : a2.toInt = (L : Int)) (hL : L < 300) (kk : ∀ v, Q v σ) : ∀ (N k : Nat) (x3 x4 : Int32), x4.toInt = (k : Int) → k ≤ 6 → 7 - k ≤ N → WL_H_sumBehind N a2 x3 x4 σ Q
  | 0, k, _, _, _, _, q => absurd q (by omega)
  | N + 1, k, x3, x4, h4, hk, q => by
    have e7 : (a2 * 7).toInt = (L : Int) * 7 := im_ok h (by decide) (by omega)
    have e1 : ((a2 * 7) + x4).toInt = (L : Int) * 7 + k := ia_ok e7 h4 (by omega)
    refine wl_H_sumBehind_5 ⟨fun _ => kk _, fun c => ⟨7 * L + k, by omega, by omega, ?_⟩⟩
    exact wl_sumBehind h hL kk N (k + 1) _ _ (by rw [ia_ok h4 (show (Int32.ofInt 1).toInt = 1 by decide) (by omega)]; omega) (by omega) (by omega)
theorem w_sumBehind {a1 a2 : Int32} {L : Nat} {Q : Int32 → zS → Prop} (h : a2.toInt = (L : Int)) (hL : L < 300) (kk : ∀ v, Q v σ) : W_H_sumBehind a1 a2 σ Q := wl_sumBehind h hL kk fuF 0 a1 0 (by decide) (by omega) (by show 7 - 0 ≤ 100000; omega)
theorem w_writeLog {a1 a2 a3 a4 a5 : Int32} {Q : Unit → zS → Prop} (hl : 0 ≤ (σ.1 0 7).toInt ∧ (σ.1 0 7).toInt ≤ 300) (kk : ∀ τ, FrHa ω σ τ → Q () τ) : W_H_writeLog a1 a2 a3 a4 a5 σ Q := by
  obtain ⟨L, hL⟩ : ∃ L : Nat, (σ.1 0 7).toInt = (L : Int) := ⟨(σ.1 0 7).toInt.toNat, by omega⟩
  refine ⟨fun c => ⟨by omega, fun r2 h2 => ?_⟩, fun c => kk σ FrHa.refl⟩
  refine ⟨7 * L, by omega, by omega, fun s4 e4 => ⟨by omega, fun r5 h5 => ⟨7 * L + 1, by omega, by omega, fun s7 e7 => ⟨by omega, fun r8 h8 => ⟨7 * L + 2, by omega, by omega, fun s10 e10 => ⟨by omega, fun r11 h11 => ⟨7 * L + 3, by omega, by omega, fun s13 e13 => ⟨by omega, fun r14 h14 => ⟨7 * L + 4, by omega, by omega, fun s16 e16 => ⟨by omega, fun r17 h17 => ⟨7 * L + 5, by omega, by omega, fun s19 e19 => ⟨by omega, fun r20 h20 => ?_⟩⟩⟩⟩⟩⟩⟩⟩⟩⟩⟩⟩
  have f : FrL4 σ s19 := (((((FrL4.refl.w e4).w e7).w e10).w e13).w e16).w e19
  have l19 : (s19.1 0 7).toInt = (L : Int) := by rw [f.1 0 7 (by decide)]; exact hL
  refine w_sumAhead l19 (by omega) (fun v21 => w_sumBehind l19 (by omega) (fun v22 => ⟨7 * L + 6, by omega, by omega, fun s24 e24 => ?_⟩))
  have f24 := f.w e24
  have l24 : (s24.1 0 7).toInt = (L : Int) := by rw [f24.1 0 7 (by decide)]; exact hL
  exact ⟨by omega, fun r25 h25 s26 e26 => kk s26 (f24.a.i e26 (by omega))⟩
theorem wl_sumOf {a1 : Int32} {L : Nat} {Q : Int32 → zS → Prop} (h : a1.toInt = (L : Int)) (hL : L < 300) (kk : ∀ v, Q v σ) : ∀ (N k : Nat) (x3 x4 : Int32), x4.toInt = (k : Int) → k ≤ 6 → 7 - k ≤ N → WL_M_sumOf N a1 x3 x4 σ Q
  | 0, k, _, _, _, _, q => absurd q (by omega)
  | N + 1, k, x3, x4, h4, hk, q => by
    refine wl_M_sumOf_5 ⟨fun _ => kk _, fun c => ⟨by omega, fun r2 h2 => ⟨by omega, fun r3 h3 => ⟨6 * L + k, by omega, by omega, ?_⟩⟩⟩⟩
    exact ⟨by omega, fun r6 h6 => wl_sumOf h hL kk N (k + 1) _ _ (by omega) (by omega) (by omega)⟩
theorem w_sumOf {a1 a2 : Int32} {L : Nat} {Q : Int32 → zS → Prop} (h : a1.toInt = (L : Int)) (hL : L < 300) (kk : ∀ v, Q v σ) : W_M_sumOf a1 a2 σ Q := wl_sumOf h hL kk fuF 0 a2 0 (by decide) (by omega) (by show 7 - 0 ≤ 100000; omega)
theorem w_logM {a1 a2 a3 a4 a5 : Int32} {Q : Unit → zS → Prop} (hl : 0 ≤ (σ.1 110 3).toInt ∧ (σ.1 110 3).toInt ≤ 300) (kk : ∀ τ, FrMa ω σ τ → Q () τ) : W_M_log a1 a2 a3 a4 a5 σ Q := by
  obtain ⟨L, hL⟩ : ∃ L : Nat, (σ.1 110 3).toInt = (L : Int) := ⟨(σ.1 110 3).toInt.toNat, by omega⟩
  refine ⟨fun c => kk σ FrMa.refl, fun c => ⟨by omega, fun r2 h2 => ⟨6 * L, by omega, by omega, fun s4 e4 => ?_⟩⟩⟩
  have l4 : (s4.1 110 3).toInt = (L : Int) := by rw [← e4, yI_ne (by omega)]; exact hL
  refine ⟨by omega, fun r5 h5 => ⟨by omega, fun r6 h6 => ⟨6 * L + 1, by omega, by omega, fun s8 e8 => ?_⟩⟩⟩
  have l8 : (s8.1 110 3).toInt = (L : Int) := by rw [← e8, yI_ne (by omega)]; exact l4
  refine ⟨by omega, fun r9 h9 => ⟨by omega, fun r10 h10 => ⟨6 * L + 2, by omega, by omega, fun s12 e12 => ?_⟩⟩⟩
  have l12 : (s12.1 110 3).toInt = (L : Int) := by rw [← e12, yI_ne (by omega)]; exact l8
  refine ⟨by omega, fun r13 h13 => ⟨by omega, fun r14 h14 => ⟨6 * L + 3, by omega, by omega, fun s16 e16 => ?_⟩⟩⟩
  have l16 : (s16.1 110 3).toInt = (L : Int) := by rw [← e16, yI_ne (by omega)]; exact l12
  refine ⟨by omega, fun r17 h17 => ⟨by omega, fun r18 h18 => ⟨6 * L + 4, by omega, by omega, fun s20 e20 => ?_⟩⟩⟩
  have l20 : (s20.1 110 3).toInt = (L : Int) := by rw [← e20, yI_ne (by omega)]; exact l16
  refine ⟨by omega, fun r21 h21 => ⟨by omega, fun r22 h22 => ⟨6 * L + 5, by omega, by omega, fun s24 e24 => ?_⟩⟩⟩
  have l24 : (s24.1 110 3).toInt = (L : Int) := by rw [← e24, yI_ne (by omega)]; exact l20
  have f : FrMa ω σ s24 := (((((FrMa.refl.i e4 (by omega)).i e8 (by omega)).i e12 (by omega)).i e16 (by omega)).i e20 (by omega)).i e24 (by omega)
  have last : ∀ y0 : Int32, W_M_log_b138 y0 (s24.1 110 3) (s24.1 110 3) s24 Q := fun y0 => by
    refine w_sumOf (a1 := s24.1 110 3) (a2 := y0) l24 (by omega) (fun v => ⟨L, l24, by omega, fun s3 e3 => ?_⟩)
    have l3 : (s3.1 110 3).toInt = (L : Int) := by rw [← e3, yI_ne (by omega)]; exact l24
    exact ⟨by omega, fun r4 h4 s5 e5 => kk s5 ((f.i e3 (by omega)).i e5 (by omega))⟩
  exact ⟨fun _ => last _, fun c' => ⟨by omega, fun r26 h26 => ⟨L - 1, by omega, by omega, last _⟩⟩⟩
/-! the policy in force -/
noncomputable def fo9 (T P : Nat → Int) (t : Int) : Nat → Int
  | 0 => -4
  | i + 1 => if T i ≤ t then P i else fo9 T P t i
noncomputable def FoS (σ : zS) (F P : Nat) : Prop := ((σ.1 0 5).toInt = (F : Int) ∧ (σ.1 110 71).toInt = (F : Int) ∧ F ≤ 40) ∧ ∀ i, i < F → σ.1 2 i = σ.1 154 i ∧ σ.1 3 i = σ.1 155 i ∧ 0 ≤ (σ.1 3 i).toInt ∧ (σ.1 3 i).toInt < (P : Int)
theorem fo_in {T P : Nat → Int} {t : Int} {n : Nat} : ∀ {i : Nat}, (∀ j, j < i → 0 ≤ P j ∧ P j < (n : Int)) → fo9 T P t i = -4 ∨ (0 ≤ fo9 T P t i ∧ fo9 T P t i < (n : Int))
  | 0, _ => Or.inl rfl
  | i + 1, h => by
    show (if T i ≤ t then P i else fo9 T P t i) = -4 ∨ (0 ≤ (if T i ≤ t then P i else fo9 T P t i) ∧ (if T i ≤ t then P i else fo9 T P t i) < (n : Int))
    by_cases q : T i ≤ t
    · rw [if_pos q]; exact Or.inr (h i (by omega))
    · rw [if_neg q]; exact fo_in (fun j hj => h j (by omega))
theorem fo_cg {T P T' P' : Nat → Int} {t : Int} : ∀ {i : Nat}, (∀ j, j < i → T j = T' j ∧ P j = P' j) → fo9 T P t i = fo9 T' P' t i
  | 0, _ => rfl
  | i + 1, h => by
    show (if T i ≤ t then P i else fo9 T P t i) = (if T' i ≤ t then P' i else fo9 T' P' t i)
    rw [(h i (by omega)).1, (h i (by omega)).2, fo_cg (fun j hj => h j (by omega))]
theorem wl_policyInForce {a1 : Int32} {Q : Int32 → zS → Prop} : ∀ (N i : Nat) (x2 : Int32), x2.toInt = (i : Int) - 1 → i ≤ 40 → i + 1 ≤ N → (∀ v : Int32, v.toInt = fo9 (fun j => (σ.1 2 j).toInt) (fun j => (σ.1 3 j).toInt) a1.toInt i → Q v σ) → WL_H_policyInForce N a1 x2 σ Q
  | 0, _, _, _, _, q, _ => absurd q (by omega)
  | N + 1, 0, x2, h2, hi, q, kk => wl_H_policyInForce_7 ⟨fun _ => kk (-4) (by show (-4 : Int32).toInt = -4; decide), fun z => absurd h2 (by omega)⟩
  | N + 1, i + 1, x2, h2, hi, q, kk => by
    refine wl_H_policyInForce_7 ⟨fun z => absurd z (by omega), fun _ => ⟨i, by omega, by omega, ⟨fun c => ⟨by omega, fun r4 h4 => ?_⟩, fun c => ?_⟩⟩⟩
    · refine wl_policyInForce N i r4 (by omega) (by omega) (by omega) (fun v hv => kk v ?_)
      show v.toInt = (if (σ.1 2 i).toInt ≤ a1.toInt then (σ.1 3 i).toInt else _)
      rw [if_neg (by omega)]; exact hv
    · refine kk _ ?_
      show (σ.1 3 i).toInt = (if (σ.1 2 i).toInt ≤ a1.toInt then (σ.1 3 i).toInt else _)
      rw [if_pos (by omega)]
theorem w_policyInForce {a1 : Int32} {F P : Nat} {Q : Int32 → zS → Prop} (h : FoS σ F P) (kk : ∀ v : Int32, v.toInt = fo9 (fun j => (σ.1 2 j).toInt) (fun j => (σ.1 3 j).toInt) a1.toInt F → Q v σ) : W_H_policyInForce a1 σ Q := by
  obtain ⟨⟨h1, h2, h3⟩, _⟩ := h
  exact ⟨by omega, fun r1 e1 => wl_policyInForce fuF F r1 (by omega) h3 (by show F + 1 ≤ 100000; omega) kk⟩
theorem wl_forceAt {a1 : Int32} {F : Nat} {Q : Int32 → zS → Prop} (hF : (σ.1 110 71).toInt = (F : Int)) (hF4 : F ≤ 40) (kk : ∀ v : Int32, v.toInt = fo9 (fun j => (σ.1 154 j).toInt) (fun j => (σ.1 155 j).toInt) a1.toInt F → Q v σ) : ∀ (N i : Nat) (x2 x3 : Int32), x3.toInt = (i : Int) → i ≤ F → F - i + 1 ≤ N → x2.toInt = fo9 (fun j => (σ.1 154 j).toInt) (fun j => (σ.1 155 j).toInt) a1.toInt i → WL_M_forceAt N a1 x2 x3 σ Q
  | 0, _, _, _, _, _, q, _ => absurd q (by omega)
  | N + 1, i, x2, x3, h3, hi, q, h2 => by
    refine wl_M_forceAt_5 ⟨fun z => ?_, fun z => ⟨i, h3, by omega, ⟨fun c => ⟨by omega, fun r4 h4 => ?_⟩, fun c => ⟨by omega, fun r5 h5 => ?_⟩⟩⟩⟩
    · have : i = F := by omega
      subst this
      exact kk x2 h2
    · refine wl_forceAt hF hF4 kk N (i + 1) x2 r4 (by omega) (by omega) (by omega) ?_
      show x2.toInt = (if (σ.1 154 i).toInt ≤ a1.toInt then (σ.1 155 i).toInt else _)
      rw [if_neg (by omega)]; exact h2
    · refine wl_forceAt hF hF4 kk N (i + 1) _ r5 (by omega) (by omega) (by omega) ?_
      show (σ.1 155 i).toInt = (if (σ.1 154 i).toInt ≤ a1.toInt then (σ.1 155 i).toInt else _)
      rw [if_pos (by omega)]
theorem w_forceAt {a1 : Int32} {F : Nat} {Q : Int32 → zS → Prop} (hF : (σ.1 110 71).toInt = (F : Int)) (hF4 : F ≤ 40) (kk : ∀ v : Int32, v.toInt = fo9 (fun j => (σ.1 154 j).toInt) (fun j => (σ.1 155 j).toInt) a1.toInt F → Q v σ) : W_M_forceAt a1 σ Q := wl_forceAt hF hF4 kk fuF 0 (-4) 0 (by decide) (by omega) (by show F - 0 + 1 ≤ 100000; omega) (by show (-4 : Int32).toInt = -4; decide)
/-! requests -/
noncomputable def RqOk (σ : zS) (a1 a2 a3 : Int) : Prop := (0 ≤ a1 ∧ a1 < (σ.1 5 0).toInt) ∧ (0 ≤ a2 ∧ a2 ≤ 5) ∧ (0 ≤ a3 ∧ a3 < (σ.1 10 0).toInt ∧ (σ.1 14 a3.toNat).toInt = 0)
theorem w_isThere {a : Int32} {Q : Int32 → zS → Prop} (ht : (σ.1 10 0).toInt ≤ 40) (k1 : (0 ≤ a.toInt ∧ a.toInt < (σ.1 10 0).toInt ∧ (σ.1 14 a.toInt.toNat).toInt = 0) → Q 1 σ) (k0 : ¬ (0 ≤ a.toInt ∧ a.toInt < (σ.1 10 0).toInt ∧ (σ.1 14 a.toInt.toNat).toInt = 0) → Q 0 σ) : W_Th_isThere a σ Q := by
  refine ⟨fun c => k0 (by omega), fun c => ⟨fun d => k0 (by omega), fun d => ?_⟩⟩
  obtain ⟨m, hm⟩ : ∃ m : Nat, a.toInt = (m : Int) := ⟨a.toInt.toNat, by omega⟩
  have e : a.toInt.toNat = m := by omega
  rw [e] at k1 k0
  exact ⟨m, hm, by omega, fun z => k1 ⟨by omega, by omega, z⟩, fun z => k0 (fun q => z q.2.2)⟩
theorem w_isRequest {a1 a2 a3 : Int32} {Q : Int32 → zS → Prop} (ht : (σ.1 10 0).toInt ≤ 40) (k1 : RqOk σ a1.toInt a2.toInt a3.toInt → Q 1 σ) (k0 : ¬ RqOk σ a1.toInt a2.toInt a3.toInt → Q 0 σ) : W_H_isRequest a1 a2 a3 σ Q := by
  have n0 : (0 : Int32).toInt = 0 := by decide
  have n1 : ¬ (1 : Int32).toInt = 0 := by decide
  refine w_isPerson (fun p1 p2 => ⟨fun z => absurd z n1, fun _ => ?_⟩) (fun p => ⟨fun _ => k0 (fun q => p q.1), fun z => absurd n0 z⟩)
  have act : ∀ {R : Int32 → zS → Prop}, ((0 ≤ a2.toInt ∧ a2.toInt ≤ 5) → R 1 σ) → (¬ (0 ≤ a2.toInt ∧ a2.toInt ≤ 5) → R 0 σ) → W_H_isAct a2 σ R := fun {R} g1 g0 => ⟨fun c => g0 (by omega), fun c => ⟨fun d => g0 (by omega), fun d => g1 (by omega)⟩⟩
  refine act (fun q1 => ⟨fun z => absurd z n1, fun _ => ?_⟩) (fun q1 => ⟨fun _ => k0 (fun q => q1 q.2.1), fun z => absurd n0 z⟩)
  exact w_isThere ht (fun q2 => ⟨fun z => absurd z n1, fun _ => k1 ⟨⟨p1, p2⟩, q1, q2⟩⟩) (fun q2 => ⟨fun _ => k0 (fun q => q2 q.2.2), fun z => absurd n0 z⟩)
end N05
/-! ===== N06: ask, asked ===== -/
noncomputable def Wa (σ : zS) (n P F : Nat) (rk : Nat → Nat) : Prop := (Wj σ ∧ Wg σ n ∧ TrM σ rk) ∧ ((σ.1 17 0).toInt = (P : Int) ∧ (σ.1 110 32).toInt = (P : Int) ∧ P ≤ 8 ∧ ∀ p, p < P → PoSa σ p) ∧ (∀ p r, p < 8 → r < 30 → RuZ σ (raN p r) (30 * p + r)) ∧ (σ.1 0 2 = σ.1 110 0 ∧ 0 ≤ (σ.1 110 0).toInt ∧ (σ.1 110 0).toInt ≤ 1000000000) ∧ (σ.1 5 0 = σ.1 110 6 ∧ 0 ≤ (σ.1 110 6).toInt ∧ (σ.1 110 6).toInt ≤ 20) ∧ (σ.1 10 0 = σ.1 110 20 ∧ 0 ≤ (σ.1 110 20).toInt ∧ (σ.1 110 20).toInt ≤ 40) ∧ (∀ u, u < 40 → ((σ.1 14 u).toInt = 0 ↔ (σ.1 128 u).toInt = 0)) ∧ FoS σ F P ∧ (0 ≤ (σ.1 0 7).toInt ∧ (σ.1 0 7).toInt ≤ 300) ∧ 0 ≤ (σ.1 110 3).toInt ∧ (σ.1 110 3).toInt ≤ 300
section N06
variable {ω : Bool} {σ τ : zS} {n P F : Nat} {rk : Nat → Nat}
theorem Wg.cx (h : FrVn σ τ) (q : Wg σ n) : Wg τ n := by
  obtain ⟨⟨⟨a1, a2⟩, a3⟩, ⟨⟨b1, b2⟩, b3⟩, c⟩ := q
  have e1 : mC τ = mC σ := funext fun r => by unfold mC; rw [h.e (k := 6) (by decide)]
  have e2 : gCj9 τ = gCj9 σ := funext fun r => by unfold gCj9; rw [h.e (k := 6) (by decide)]
  have e3 : mM τ = mM σ := funext fun r => by unfold mM; rw [h.gg (k := 114) (by decide)]
  have e4 : gM τ = gM σ := funext fun r => by unfold gM; rw [h.gg (k := 115) (by decide)]
  refine ⟨⟨⟨by rw [h.e (k := 5) (by decide)]; exact a1, a2⟩, by rw [e1, e2]; exact a3⟩, ⟨⟨by rw [h.2.2.2.2 8 (by omega)]; exact b1, b2⟩, by rw [e3, e4]; exact b3⟩, ?_⟩
  rw [h.e (k := 6) (by decide), h.gg (k := 114) (by decide), h.gg (k := 115) (by decide), h.gg (k := 116) (by decide), h.gg (k := 117) (by decide), h.gg (k := 118) (by decide), h.gg (k := 119) (by decide)]
  exact c
theorem FoS.ch (h : FrHa ω σ τ) (q : FoS σ F P) : FoS τ F P := by
  obtain ⟨⟨q1, q2, q3⟩, q4⟩ := q
  refine ⟨⟨by rw [h.k 0 5 (by omega) (by omega) (by omega)]; exact q1, by rw [h.k 110 71 (by omega) (by omega) (by omega)]; exact q2, q3⟩, fun i hi => ?_⟩
  rw [h.k 2 i (by omega) (by omega) (by omega), h.k 3 i (by omega) (by omega) (by omega), h.k 154 i (by omega) (by omega) (by omega), h.k 155 i (by omega) (by omega) (by omega)]
  exact q4 i hi
theorem PoSa.cv {p : Nat} (h : FrVn σ τ) (q : PoSa σ p) : PoSa τ p := q.cg (fun j _ => h.1 20 j (by omega) (by omega)) (fun i _ => ⟨h.1 21 i (by omega) (by omega), h.2.1 22 i (by omega) (by omega)⟩) (fun k j q1 q2 _ => h.2.2.1.1 k j (by omega) (by omega)) (fun j _ => ⟨h.2.2.1.1 141 j (by omega) (by omega), h.2.2.1.2.2 142 j (by omega) (by omega)⟩) ⟨h.1 18 p (by omega) (by omega), h.1 19 p (by omega) (by omega), h.2.2.1.1 130 p (by omega) (by omega), h.2.2.1.1 131 p (by omega) (by omega)⟩
/-- the class's fields that are set while it asks -/
theorem Wa.ch (h : FrHw σ τ) (h7 : τ.1 0 7 = σ.1 0 7) (q : Wa σ n P F rk) : Wa τ n P F rk := by
  obtain ⟨⟨q1, q2, q3⟩, ⟨q4, q5, q6, q7⟩, q8, q9, q10, q11, q12, ⟨⟨o1, o2, o3⟩, o4⟩, q14, q15⟩ := q
  have v := h.v
  have c : ∀ k j : Nat, 110 ≤ k → τ.1 k j = σ.1 k j := fun k j q => h.1 k j (by omega) (by omega) (by omega)
  have d : ∀ k j : Nat, ¬ (k = 0 ∧ j = 7) → k < 27 → k ≠ 4 → τ.1 k j = σ.1 k j := fun k j q q2 q3 => h.1 k j q q3 (by omega)
  refine ⟨⟨q1.cx v, q2.cx v, by rw [tm_cx v.2.2.1]; exact q3⟩, ⟨by rw [d 17 0 (by omega) (by omega) (by omega)]; exact q4, by rw [c 110 32 (by omega)]; exact q5, q6, fun p hp => (q7 p hp).cv v⟩, fun p r hp hr => (q8 p r hp hr).cx v, by rw [d 0 2 (by omega) (by omega) (by omega), c 110 0 (by omega)]; exact q9, by rw [d 5 0 (by omega) (by omega) (by omega), c 110 6 (by omega)]; exact q10, by rw [d 10 0 (by omega) (by omega) (by omega), c 110 20 (by omega)]; exact q11, fun u hu => by rw [d 14 u (by omega) (by omega) (by omega), c 128 u (by omega)]; exact q12 u hu, ⟨⟨by rw [d 0 5 (by omega) (by omega) (by omega)]; exact o1, by rw [c 110 71 (by omega)]; exact o2, o3⟩, fun i hi => ?_⟩, by rw [h7]; exact q14, by rw [c 110 3 (by omega)]; exact q15⟩
  rw [d 2 i (by omega) (by omega) (by omega), d 3 i (by omega) (by omega) (by omega), c 154 i (by omega), c 155 i (by omega)]
  exact o4 i hi
theorem w_isPersonN {a : Int32} {Q : Int32 → zS → Prop} (h : 0 ≤ (σ.1 110 6).toInt ∧ (σ.1 110 6).toInt ≤ 1000) (k1 : (0 ≤ a.toInt ∧ a.toInt < (σ.1 110 6).toInt) → Q 1 σ) (k0 : ¬ (0 ≤ a.toInt ∧ a.toInt < (σ.1 110 6).toInt) → Q 0 σ) : W_M_isPerson a σ Q := fun r1 h1 => ⟨by omega, fun r2 h2 r3 h3 => by
  have z0 : (0 : Int64).toInt = 0 := by decide
  exact ⟨fun c => ⟨Or.inl rfl, k0 (by omega)⟩, fun c => ⟨fun d => ⟨Or.inl rfl, k0 (by omega)⟩, fun d => ⟨Or.inr rfl, k1 (by omega)⟩⟩⟩⟩
theorem w_isPolicyN {a : Int32} {Q : Int32 → zS → Prop} (h : 0 ≤ (σ.1 110 32).toInt ∧ (σ.1 110 32).toInt ≤ 1000) (k1 : (0 ≤ a.toInt ∧ a.toInt < (σ.1 110 32).toInt) → Q 1 σ) (k0 : ¬ (0 ≤ a.toInt ∧ a.toInt < (σ.1 110 32).toInt) → Q 0 σ) : W_M_isPolicy a σ Q := fun r1 h1 => ⟨by omega, fun r2 h2 r3 h3 => by
  have z0 : (0 : Int64).toInt = 0 := by decide
  exact ⟨fun c => ⟨Or.inl rfl, k0 (by omega)⟩, fun c => ⟨fun d => ⟨Or.inl rfl, k0 (by omega)⟩, fun d => ⟨Or.inr rfl, k1 (by omega)⟩⟩⟩⟩
theorem w_inN {a lo hi : Int64} {x l u : Int} {Q : Int32 → zS → Prop} (ha : a.toInt = x) (hl : lo.toInt = l) (hu : hi.toInt = u) (k1 : (l ≤ x ∧ x ≤ u) → Q 1 σ) (k0 : ¬ (l ≤ x ∧ x ≤ u) → Q 0 σ) : W_M_in a lo hi σ Q := ⟨fun c => k0 (by omega), fun c => ⟨fun d => k0 (by omega), fun d => k1 (by omega)⟩⟩
theorem w_isHereN {a : Int32} {Q : Int32 → zS → Prop} (h : 0 ≤ (σ.1 110 20).toInt ∧ (σ.1 110 20).toInt ≤ 40) (k1 : (0 ≤ a.toInt ∧ a.toInt < (σ.1 110 20).toInt ∧ (σ.1 128 a.toInt.toNat).toInt = 0) → Q 1 σ) (k0 : ¬ (0 ≤ a.toInt ∧ a.toInt < (σ.1 110 20).toInt ∧ (σ.1 128 a.toInt.toNat).toInt = 0) → Q 0 σ) : W_M_isHere a σ Q := by
  have z0 : (0 : Int64).toInt = 0 := by decide
  have n0 : (0 : Int32).toInt = 0 := by decide
  have n1 : ¬ (1 : Int32).toInt = 0 := by decide
  refine fun r1 h1 => ⟨by omega, fun r2 h2 r3 h3 => ⟨fun c => ⟨Or.inl rfl, fun _ => k0 (by omega), fun z => absurd n0 z⟩, fun c => ⟨fun d => ⟨Or.inl rfl, fun _ => k0 (by omega), fun z => absurd n0 z⟩, fun d => ⟨Or.inr rfl, fun z => absurd z n1, fun _ => ?_⟩⟩⟩⟩
  obtain ⟨m, hm⟩ : ∃ m : Nat, a.toInt = (m : Int) := ⟨a.toInt.toNat, by omega⟩
  have e : a.toInt.toNat = m := by omega
  rw [e] at k1 k0
  exact ⟨m, hm, by omega, fun z => k1 ⟨by omega, by omega, z⟩, fun z => k0 (fun q => z q.2.2)⟩
theorem rul_in {s : JdS} : rulJ s = -4 ∨ 0 ≤ rulJ s := by
  unfold rulJ
  cases s.2 with
  | none => exact Or.inl rfl
  | some y => exact Or.inr (by show (0 : Int) ≤ (y.1 : Int); omega)
/-- a policy that stands, or none -/
theorem Wa.po (h : Wa σ n P F rk) {po : Int} (hp : po = -4 ∨ (0 ≤ po ∧ po < (P : Int))) : po = -4 ∨ ∃ p : Nat, po = (p : Int) ∧ p < 8 ∧ PoSa σ p ∧ ∀ r, r < 30 → RuZ σ (raN p r) (30 * p + r) := by
  rcases hp with q | q
  · exact Or.inl q
  · have := h.2.1.2.2.1
    exact Or.inr ⟨po.toNat, by omega, by omega, h.2.1.2.2.2 _ (by omega), fun r hr => h.2.2.1 _ r (by omega) hr⟩
/-- a request, as the reference sees it -/
theorem Wa.rq (h : Wa σ n P F rk) {a1 a2 a3 : Int} : RqOk σ a1 a2 a3 ↔ ((0 ≤ a1 ∧ a1 < (σ.1 110 6).toInt) ∧ (0 ≤ a2 ∧ a2 ≤ 5) ∧ (0 ≤ a3 ∧ a3 < (σ.1 110 20).toInt ∧ (σ.1 128 a3.toNat).toInt = 0)) := by
  obtain ⟨_, _, _, _, ⟨p1, p2, p3⟩, ⟨t1, t2, t3⟩, g, _⟩ := h
  unfold RqOk
  rw [p1, t1]
  constructor
  · rintro ⟨q1, q2, q3, q4, q5⟩
    exact ⟨q1, q2, q3, q4, (g _ (by omega)).mp q5⟩
  · rintro ⟨q1, q2, q3, q4, q5⟩
    exact ⟨q1, q2, q3, q4, (g _ (by omega)).mpr q5⟩
/-- the reference: judge, keep -/
theorem w_judgeK {v a1 a2 a3 t : Int32} {s : JdS} {un an : Nat} {μ : zS} {Q : Int32 → zS → Prop} (h : Wa σ n P F rk) (hb : (σ.1 110 26).toInt ≠ 0) (hv : PoV σ n v.toInt a1.toInt un an t.toInt s) (hF : FrVn σ μ) (hu : a3.toInt = (un : Int)) (hu4 : un < 40) (ha : a2.toInt = (an : Int)) (ha6 : an < 6) (hw : 0 ≤ a1.toInt ∧ a1.toInt ≤ 19) (ht : 0 ≤ t.toInt ∧ t.toInt ≤ 1000000000) (hr : ∀ j, j < 16 → (rG μ j = true ↔ InM σ n t.toInt (σ.1 110 0).toInt a1.toInt (j : Int))) (kk : ∀ (τ : zS) (r : Int32), FrMa ω μ τ → τ.1 110 3 = μ.1 110 3 → r.toInt = ansJ s → Q r τ) : W_M_judge v a1 a2 a3 t μ (fun _ σ10 => W_M_keeps v σ10 Q) := by
  refine w_judgeM (σ := σ) (n := n) h.1.1 h.1.2.2 hb hv hF hr hu hu4 ha ha6 hw h.2.2.2.1.2 ht (fun τ fb e5 e6 e30 => ?_)
  have f1 : FrMa ω μ τ := stM_a.tr fb.a
  have g3 : τ.1 110 3 = μ.1 110 3 := (fb.1 110 3 (by omega) (by omega)).trans (stM_ne (by omega))
  have fin : ∀ {d : Int} {τ' : zS}, MkM τ τ' d → Q (τ'.1 110 65) τ' := fun {d τ'} m => kk τ' _ (f1.tr m.a) ((m.2.1 110 3 (by omega) (by omega)).trans g3) (by rw [m.2.1 110 65 (by omega) (by omega)]; exact e5)
  rcases rul_in (s := s) with q | q
  · exact Or.inr ⟨by rw [e6, q], fun τ' m => fin m⟩
  · rcases hv with ⟨_, v2⟩ | ⟨p, v1, v2, _⟩
    · rw [v2] at q
      exact absurd q (by decide)
    · exact Or.inl ⟨p, (rulJ s).toNat, ⟨v1, v2, by rw [e6]; omega, by omega⟩, fun τ' m => fin m⟩
theorem ask_M {a1 a2 a3 : Int32} {s : JdS} {un an : Nat} {σ1 : zS} {Q : Int32 → zS → Prop} (h : Wa σ n P F rk) (hb : (σ.1 110 26).toInt ≠ 0) (ok : RqOk σ a1.toInt a2.toInt a3.toInt) (hu : a3.toInt = (un : Int)) (ha : a2.toInt = (an : Int)) (hv : PoV σ n (fo9 (fun j => (σ.1 2 j).toInt) (fun j => (σ.1 3 j).toInt) (σ.1 0 2).toInt F) a1.toInt un an (σ.1 110 0).toInt s) (hF : FrHa ω σ σ1) (kk : ∀ (σ2 : zS) (r : Int32), FrMa ω σ1 σ2 → r.toInt = ansJ s → Q r σ2) : W_M_ask a1 a2 a3 σ1 Q := by
  have n1 : ¬ (1 : Int32).toInt = 0 := by decide
  have ok' := h.rq.mp ok
  have c : ∀ k j : Nat, 110 ≤ k → σ1.1 k j = σ.1 k j := fun k j q => hF.k k j (by omega) (by omega) (by omega)
  have h0 := h
  obtain ⟨_, _, _, ⟨w1, w2⟩, ⟨p1, p2, p3⟩, ⟨t1, t2, t3⟩, _, ⟨⟨o1, o2, o3⟩, o4⟩, _, l1⟩ := h0
  refine w_isPersonN (by rw [c 110 6 (by omega)]; omega) (fun _ => ⟨fun z => absurd z n1, fun _ r3 h3 => ?_⟩) (fun q => absurd (by rw [c 110 6 (by omega)]; exact ok'.1) q)
  refine w_inN (l := 0) (u := 5) h3 (by decide) (by decide) (fun _ => ⟨fun z => absurd z n1, fun _ => ?_⟩) (fun q => absurd ok'.2.1 q)
  refine w_isHereN (by rw [c 110 20 (by omega)]; omega) (fun _ => ⟨fun z => absurd z n1, fun _ => ?_⟩) (fun q => absurd (by rw [c 110 20 (by omega), c 128 _ (by omega)]; exact ok'.2.2) q)
  refine w_forceAt (F := F) (by rw [c 110 71 (by omega)]; exact o2) o3 (fun v8 h8 => ?_)
  have e8 : v8.toInt = fo9 (fun j => (σ.1 2 j).toInt) (fun j => (σ.1 3 j).toInt) (σ.1 0 2).toInt F := by
    rw [h8, c 110 0 (by omega), w1]
    exact fo_cg (fun j hj => ⟨by rw [c 154 j (by omega), (o4 j hj).1], by rw [c 155 j (by omega), (o4 j hj).2.1]⟩)
  refine w_reaches (n := n) (h.1.2.1.cx hF.v).2.1 (fun τ fg hr => ?_)
  have eτ : τ.1 110 0 = σ.1 110 0 := (fg.1 110 0 (by omega)).trans (c 110 0 (by omega))
  refine w_judgeK (ω := ω) (n := n) (s := s) (un := un) (an := an) h hb (by rw [e8, eτ]; exact hv) (hF.v.tr fg.v) hu (by have := ok'.2.2; omega) ha (by have := ok'.2.1; omega) (by have := ok'.1; omega) (by rw [eτ]; exact w2) (fun j hj => ?_) (fun τ2 r f2 g2 hr2 => ?_)
  · rw [hr j hj, inm_cx hF.v, eτ, c 110 0 (by omega)]
  · refine w_logM (by rw [g2, fg.1 110 3 (by omega), c 110 3 (by omega)]; exact l1) (fun τ3 f3 => kk τ3 r ((fg.a.tr f2).tr f3) hr2)
/-- ask: both answer the same -/
theorem ask_same {a1 a2 a3 : Int32} (h : Wa σ n P F rk) (hb : (σ.1 110 26).toInt ≠ 0) : W_H_ask a1 a2 a3 σ (fun r σ1 => FrHa ω σ σ1 ∧ W_M_ask a1 a2 a3 σ1 (fun r2 σ2 => r = r2 ∧ FrMa ω σ1 σ2)) := by
  have n0 : (0 : Int32).toInt = 0 := by decide
  have n1 : ¬ (1 : Int32).toInt = 0 := by decide
  have h0 := h
  obtain ⟨_, _, _, ⟨w1, w2⟩, ⟨p1, p2, p3⟩, ⟨t1, t2, t3⟩, _, fo, l0, l1⟩ := h0
  refine w_isRequest (by rw [t1]; omega) (fun ok => ⟨fun z => absurd z n1, fun _ s1 e1 s2 e2 => ?_⟩) (fun no => ⟨fun _ => ⟨FrHa.refl, ?_⟩, fun z => absurd n0 z⟩)
  · have ok' := h.rq.mp ok
    obtain ⟨un, hu⟩ : ∃ un : Nat, a3.toInt = (un : Int) := ⟨a3.toInt.toNat, by have := ok'.2.2; omega⟩
    obtain ⟨an, ha⟩ : ∃ an : Nat, a2.toInt = (an : Int) := ⟨a2.toInt.toNat, by have := ok'.2.1; omega⟩
    have f2 : FrHa ω σ s2 := (FrHa.refl.i e1 (by omega)).i e2 (by omega)
    have now2 : s2.1 0 2 = σ.1 110 0 := by rw [f2.k 0 2 (by omega) (by omega) (by omega)]; exact w1
    refine w_groupsOf (n := n) (h.1.2.1.cx f2.v).1 (by rw [now2]; omega) (fun v4 _ hv4 s3 e3 s4 e4 => ?_)
    have f4 : FrHa ω σ s4 := (f2.i e3 (by omega)).i e4 (by omega)
    have now4 : s4.1 0 2 = σ.1 0 2 := f4.k 0 2 (by omega) (by omega) (by omega)
    refine w_policyInForce (fo.ch f4) (fun v6 h6 => ?_)
    have e6 : v6.toInt = fo9 (fun j => (σ.1 2 j).toInt) (fun j => (σ.1 3 j).toInt) (σ.1 0 2).toInt F := by
      rw [h6, now4]
      exact fo_cg (fun j _ => ⟨by rw [f4.k 2 j (by omega) (by omega) (by omega)], by rw [f4.k 3 j (by omega) (by omega) (by omega)]⟩)
    obtain ⟨s, hs⟩ := pv_ex (n := n) (un := un) (an := an) (w := a1.toInt) (t := (σ.1 110 0).toInt) (h.po (po := v6.toInt) (by rw [e6]; exact fo_in (fun j hj => (fo.2 j hj).2.2)))
    refine w_answer (σ := σ) (n := n) (s := s) (un := un) (an := an) (w := a1.toInt) (t := (σ.1 110 0).toInt) h.1.1 h.1.2.1 hs f4.v ?_ (by have := ok'.1; omega) (fun j hj => ?_) hu (by have := ok'.2.2; omega) ?_ w2 ?_ w2 ha (by have := ok'.2.1; omega) (fun τ a fa ea _ => ⟨by omega, fun s5 e5 s6 e6' => ?_⟩)
    · rw [← e4, yI_ne (by omega), ← e3, yI_at]
    · rw [← e4, yI_at, hv4 j hj, now2, inc_cx f2.v]
    · rw [← e4, yI_ne (by omega), ← e3, yI_ne (by omega), ← e2, yI_ne (by omega), ← e1, yI_at, w1]
    · rw [← e4, yI_ne (by omega), ← e3, yI_ne (by omega), ← e2, yI_at, w1]
    · have f6 : FrHa ω σ s6 := (((f4.tr stA_a).tr fa.a).r e5 (by omega)).i e6' (by omega)
      have g7 : s6.1 0 7 = σ.1 0 7 := by
        rw [← e6', yI_ne (by omega), ← e5, zIr_nn (by decide), fa.1 0 7 (by omega) (by omega) (by omega) (by omega)]
        unfold stA
        rw [yI_ne (by omega), yI_ne (by omega), yI_ne (by omega), yI_ne (by omega), yI_ne (by omega), ← e4, yI_ne (by omega), ← e3, yI_ne (by omega), ← e2, yI_ne (by omega), ← e1, yI_ne (by omega)]
      refine w_writeLog (by rw [g7]; exact l0) (fun s7 f7 => ⟨f6.tr f7, ?_⟩)
      rw [e6] at hs
      exact ask_M (n := n) h hb ok hu ha hs (f6.tr f7) (fun σ2 r fm er => ⟨Int32.toInt_inj.mp (ea.trans er.symm), fm⟩)
  · have no' : ¬ _ := fun q => no (h.rq.mpr q)
    refine w_isPersonN (by omega) (fun q1 => ⟨fun z => absurd z n1, fun _ r3 h3 => ?_⟩) (fun _ => ⟨fun _ => ⟨rfl, FrMa.refl⟩, fun z => absurd n0 z⟩)
    refine w_inN (l := 0) (u := 5) h3 (by decide) (by decide) (fun q2 => ⟨fun z => absurd z n1, fun _ => ?_⟩) (fun _ => ⟨fun _ => ⟨rfl, FrMa.refl⟩, fun z => absurd n0 z⟩)
    exact w_isHereN (by omega) (fun q3 => absurd ⟨q1, q2, q3⟩ no') (fun _ => ⟨fun _ => ⟨rfl, FrMa.refl⟩, fun z => absurd n0 z⟩)
end N06
/-! ===== N07: asked, may, who, could ===== -/
noncomputable def vdF (σ : zS) (n : Nat) (po w : Int) (un an : Nat) (t : Int) : JdS := @Classical.epsilon JdS ⟨(0, none)⟩ (fun s => PoV σ n po w un an t s)
noncomputable def pk9 (q : Nat → Prop) (m : Nat) : Nat → Nat → Int → Int
  | 0, _, _ => -4
  | f + 1, x, l => if x < m then (@ite _ (q x) (Classical.propDecidable _) (if l = 0 then (x : Int) else pk9 q m f (x + 1) (l - 1)) (pk9 q m f (x + 1) l)) else -4
/-- the class's judge is set to a person and a moment -/
noncomputable def FldJ (ω : Bool) (σ ρ : zS) (n : Nat) (w : Int32) (t : Int) : Prop := FrHa ω σ ρ ∧ ρ.1 27 3 = w ∧ (∀ j, j < 16 → (bG (ρ.1 27 4) j = true ↔ InC σ n t (σ.1 110 0).toInt w.toInt (j : Int))) ∧ (ρ.1 27 6).toInt = t ∧ ρ.1 27 7 = σ.1 110 0
section N07
variable {ω : Bool} {σ τ ρ μ : zS} {n P F : Nat} {rk : Nat → Nat}
theorem vdF_ok (h : Wa σ n P F rk) {po w t : Int} {un an : Nat} (hp : po = -4 ∨ (0 ≤ po ∧ po < (P : Int))) : PoV σ n po w un an t (vdF σ n po w un an t) := Classical.epsilon_spec (p := fun s => PoV σ n po w un an t s) (pv_ex (h.po hp))
section pk
variable {ω : Bool} {q : Nat → Prop} {m f x : Nat} {l : Int}
theorem pk_end (h : ¬ x < m) : pk9 q m (f + 1) x l = -4 := by unfold pk9; rw [if_neg h]
theorem pk_hit (h : x < m) (hq : q x) (hl : l = 0) : pk9 q m (f + 1) x l = (x : Int) := by unfold pk9; rw [if_pos h, if_pos hq, if_pos hl]
theorem pk_one (h : x < m) (hq : q x) (hl : l ≠ 0) : pk9 q m (f + 1) x l = pk9 q m f (x + 1) (l - 1) := by
  conv => lhs; unfold pk9
  rw [if_pos h, if_pos hq, if_neg hl]
theorem pk_no (h : x < m) (hq : ¬ q x) : pk9 q m (f + 1) x l = pk9 q m f (x + 1) l := by
  conv => lhs; unfold pk9
  rw [if_pos h, if_neg hq]
end pk
theorem FldJ.st {w : Int32} {t : Int} {asked : Int32} (h : FldJ ω σ ρ n w t) (f : FrA (stA ρ asked) τ) : FldJ ω σ τ n w t := by
  obtain ⟨h1, h2, h3, h4, h5⟩ := h
  have e : ∀ j, j ≠ 5 → j < 10 → τ.1 27 j = ρ.1 27 j := fun j q q2 => (f.1 27 j (by omega) (by omega) (by omega) (by omega)).trans (stA_27 q)
  exact ⟨(h1.tr stA_a).tr f.a, by rw [e 3 (by omega) (by omega)]; exact h2, by rw [e 4 (by omega) (by omega)]; exact h3, by rw [e 6 (by omega) (by omega)]; exact h4, by rw [e 7 (by omega) (by omega)]; exact h5⟩
/-- one question to the class -/
theorem w_ans1 {po act asked w : Int32} {t : Int} {un an : Nat} {Q : Int32 → zS → Prop} (h : Wa σ n P F rk) (hf : FldJ ω σ ρ n w t) (hp : po.toInt = -4 ∨ (0 ≤ po.toInt ∧ po.toInt < (P : Int))) (hw : 0 ≤ w.toInt ∧ w.toInt ≤ 19) (ht : 0 ≤ t ∧ t ≤ 1000000000) (hu : asked.toInt = (un : Int)) (hu4 : un < 40) (ha : act.toInt = (an : Int)) (ha6 : an < 6) (kk : ∀ (τ : zS) (a : Int32), FldJ ω σ τ n w t → a.toInt = ansJ (vdF σ n po.toInt w.toInt un an t) → (τ.1 31 0).toInt = rulJ (vdF σ n po.toInt w.toInt un an t) → FrA (stA ρ asked) τ → Q a τ) : W_Ju_answer po act asked ρ Q := w_answer (σ := σ) (n := n) h.1.1 h.1.2.1 (vdF_ok h hp) hf.1.v (by rw [hf.2.1]) hw hf.2.2.1 hu hu4 hf.2.2.2.1 ht hf.2.2.2.2 h.2.2.2.1.2 ha ha6 (fun τ a fa ea er => kk τ a (hf.st fa) ea er fa)
/-- the reference is set to a person and a moment -/
noncomputable def FldM (σ μ : zS) (n : Nat) (w : Int) (t : Int) : Prop := FrVn σ μ ∧ ∀ j, j < 16 → (rG μ j = true ↔ InM σ n t (σ.1 110 0).toInt w (j : Int))
theorem FldM.st {w t : Int} (h : FldM σ μ n w t) (f : FrB (stM μ) τ) : FldM σ τ n w t := by
  refine ⟨h.1.tr (stM_v.tr f.v), fun j hj => ?_⟩
  rw [← h.2 j hj]
  unfold rG
  rw [f.1 120 j (by omega) (by omega), stM_ne (by omega)]
theorem w_jud1 {po who act th t : Int32} {un an : Nat} {Q : Unit → zS → Prop} (h : Wa σ n P F rk) (hb : (σ.1 110 26).toInt ≠ 0) (hf : FldM σ μ n who.toInt t.toInt) (hp : po.toInt = -4 ∨ (0 ≤ po.toInt ∧ po.toInt < (P : Int))) (hw : 0 ≤ who.toInt ∧ who.toInt ≤ 19) (ht : 0 ≤ t.toInt ∧ t.toInt ≤ 1000000000) (hu : th.toInt = (un : Int)) (hu4 : un < 40) (ha : act.toInt = (an : Int)) (ha6 : an < 6) (kk : ∀ τ : zS, FldM σ τ n who.toInt t.toInt → (τ.1 110 65).toInt = ansJ (vdF σ n po.toInt who.toInt un an t.toInt) → (τ.1 110 66).toInt = rulJ (vdF σ n po.toInt who.toInt un an t.toInt) → FrB (stM μ) τ → Q () τ) : W_M_judge po who act th t μ Q := w_judgeM (σ := σ) (n := n) h.1.1 h.1.2.2 hb (vdF_ok h hp) hf.1 hf.2 hu hu4 ha ha6 hw h.2.2.2.1.2 ht (fun τ fb e5 e6 _ => kk τ (hf.st fb) e5 e6 fb)
/-! which things -/
theorem wl_thingAllowed {po act w : Int32} {t : Int} {an m : Nat} {Q : Int32 → zS → Prop} (h : Wa σ n P F rk) (hm : (σ.1 110 20).toInt = (m : Int)) (hp : po.toInt = -4 ∨ (0 ≤ po.toInt ∧ po.toInt < (P : Int))) (hw : 0 ≤ w.toInt ∧ w.toInt ≤ 19) (ht : 0 ≤ t ∧ t ≤ 1000000000) (ha : act.toInt = (an : Int)) (ha6 : an < 6) : ∀ (N x : Nat) (x4 x5 : Int32) (ρ : zS), FldJ ω σ ρ n w t → x5.toInt = (x : Int) → x ≤ m → m - x + 1 ≤ N → 0 ≤ x4.toInt → (∀ (τ : zS) (v : Int32), FrHa ω σ τ → v.toInt = pk9 (fun u => (σ.1 128 u).toInt = 0 ∧ ansJ (vdF σ n po.toInt w.toInt u an t) = 1) m (m - x + 1) x x4.toInt → Q v τ) → WL_Ju_thingAllowed N po act x4 x5 ρ Q
  | 0, _, _, _, _, _, _, _, q, _, _ => absurd q (by omega)
  | N + 1, x, x4, x5, ρ, hf, h5, hx, q, h4, kk => by
    have n0 : (0 : Int32).toInt = 0 := by decide
    have n1 : ¬ (1 : Int32).toInt = 0 := by decide
    have h0 := h
    obtain ⟨_, _, _, _, _, ⟨t1, t2, t3⟩, g, _⟩ := h0
    have r10 : (ρ.1 10 0).toInt = (m : Int) := by rw [hf.1.k 10 0 (by omega) (by omega) (by omega), t1]; exact hm
    have r14 : ∀ u, ρ.1 14 u = σ.1 14 u := fun u => hf.1.k 14 u (by omega) (by omega) (by omega)
    have b4 := Int32.toInt_lt x4
    refine wl_Ju_thingAllowed_6 ⟨fun z => kk ρ (-4) hf.1 ?_, fun z => ?_⟩
    · rw [pk_end (by omega)]; decide
    · have hxm : x < m := by omega
      have e1 : m - x + 1 = (m - (x + 1) + 1) + 1 := by omega
      rw [e1] at kk
      have tn : x5.toInt.toNat = x := by omega
      refine w_isThere (by omega) (fun c => ⟨fun z => absurd z n1, fun _ => ?_⟩) (fun c => ⟨fun _ => ⟨by omega, fun r4 h4' => ?_⟩, fun z => absurd n0 z⟩)
      · have gx : (σ.1 128 x).toInt = 0 := (g x (by omega)).mp (by rw [tn, r14] at c; exact c.2.2)
        refine w_ans1 (n := n) h hf hp hw ht h5 (by omega) ha ha6 (fun τ a f2 ea _ _ => ⟨fun y => ⟨fun y0 => kk τ x5 f2.1 ?_, fun y0 => ⟨by omega, fun r9 h9 => ⟨by omega, fun r10' h10 => ?_⟩⟩⟩, fun y => ⟨by omega, fun r7 h7 => ?_⟩⟩)
        · rw [pk_hit hxm ⟨gx, by rw [← ea]; exact y⟩ y0]; exact h5
        · refine wl_thingAllowed h hm hp hw ht ha ha6 N (x + 1) r9 r10' τ f2 (by omega) (by omega) (by omega) (by omega) (fun τ' v f' hv => kk τ' v f' ?_)
          rw [pk_one hxm ⟨gx, by rw [← ea]; exact y⟩ y0, hv, show r9.toInt = x4.toInt - 1 by omega]
        · refine wl_thingAllowed h hm hp hw ht ha ha6 N (x + 1) x4 r7 τ f2 (by omega) (by omega) (by omega) h4 (fun τ' v f' hv => kk τ' v f' ?_)
          rw [pk_no hxm (fun z => y (by rw [ea]; exact z.2)), hv]
      · refine wl_thingAllowed h hm hp hw ht ha ha6 N (x + 1) x4 r4 ρ hf (by omega) (by omega) (by omega) h4 (fun τ' v f' hv => kk τ' v f' ?_)
        rw [pk_no hxm (fun z => c ⟨by omega, by omega, by rw [tn, r14]; exact (g x (by omega)).mpr z.1⟩), hv]
theorem wl_mayM {po w act i : Int32} {an m : Nat} {σ1 : zS} {Q : Int32 → zS → Prop} (h : Wa σ n P F rk) (hb : (σ.1 110 26).toInt ≠ 0) (hm : (σ.1 110 20).toInt = (m : Int)) (hp : po.toInt = -4 ∨ (0 ≤ po.toInt ∧ po.toInt < (P : Int))) (hw : 0 ≤ w.toInt ∧ w.toInt ≤ 19) (ha : act.toInt = (an : Int)) (ha6 : an < 6) : ∀ (N x : Nat) (x5 x6 : Int32) (μ : zS), FldM σ μ n w.toInt (σ.1 110 0).toInt → FrMa ω σ1 μ → x6.toInt = (x : Int) → x ≤ m → m - x + 1 ≤ N → 0 ≤ x5.toInt → x5.toInt ≤ i.toInt → (∀ (τ : zS) (v : Int32), FrMa ω σ1 τ → v.toInt = pk9 (fun u => (σ.1 128 u).toInt = 0 ∧ ansJ (vdF σ n po.toInt w.toInt u an (σ.1 110 0).toInt) = 1) m (m - x + 1) x (i.toInt - x5.toInt) → Q v τ) → WL_M_may N po w act i x5 x6 μ Q
  | 0, _, _, _, _, _, _, _, _, q, _, _, _ => absurd q (by omega)
  | N + 1, x, x5, x6, μ, hf, hfa, h6, hx, q, h5, h5i, kk => by
    have h0 := h
    obtain ⟨_, _, _, ⟨w1, w2⟩, _, ⟨t1, t2, t3⟩, g, _⟩ := h0
    have r20 : (μ.1 110 20).toInt = (m : Int) := by rw [hf.1.2.2.2.2 20 (by omega)]; exact hm
    have r128 : ∀ u, μ.1 128 u = σ.1 128 u := fun u => hf.1.2.2.1.1 128 u (by omega) (by omega)
    have r0 : μ.1 110 0 = σ.1 110 0 := hf.1.2.2.1.2.1
    have bi := Int32.toInt_lt i
    refine wl_M_may_54 ⟨fun z => kk μ (-4) hfa ?_, fun z => ⟨x, h6, by omega, ⟨fun c => ?_, fun c => ⟨by omega, fun r4 h4' => ?_⟩⟩⟩⟩
    · rw [pk_end (by omega)]; decide
    · have hxm : x < m := by omega
      have e1 : m - x + 1 = (m - (x + 1) + 1) + 1 := by omega
      rw [e1] at kk
      rw [r128] at c
      refine w_jud1 (n := n) h hb (by rw [r0]; exact hf) hp hw (by rw [r0]; exact w2) h6 (by omega) ha ha6 (fun τ f2 e5 _ fb => ?_)
      rw [r0] at f2 e5
      have fa : FrMa ω σ1 τ := hfa.tr (stM_a.tr fb.a)
      refine ⟨fun y => ⟨fun y0 => kk τ x6 fa ?_, fun y0 => ⟨by omega, fun r9 h9 => ⟨by omega, fun r10 h10 => ?_⟩⟩⟩, fun y => ⟨by omega, fun r7 h7 => ?_⟩⟩
      · rw [pk_hit hxm ⟨c, by rw [← e5]; exact y⟩ (by omega)]; exact h6
      · refine wl_mayM h hb hm hp hw ha ha6 N (x + 1) r9 r10 τ f2 fa (by omega) (by omega) (by omega) (by omega) (by omega) (fun τ' v f' hv => kk τ' v f' ?_)
        rw [pk_one hxm ⟨c, by rw [← e5]; exact y⟩ (by omega), hv, show i.toInt - r9.toInt = i.toInt - x5.toInt - 1 by omega]
      · refine wl_mayM h hb hm hp hw ha ha6 N (x + 1) x5 r7 τ f2 fa (by omega) (by omega) (by omega) h5 h5i (fun τ' v f' hv => kk τ' v f' ?_)
        rw [pk_no hxm (fun z => y (by rw [e5]; exact z.2)), hv]
    · have hxm : x < m := by omega
      have e1 : m - x + 1 = (m - (x + 1) + 1) + 1 := by omega
      rw [e1] at kk
      rw [r128] at c
      refine wl_mayM h hb hm hp hw ha ha6 N (x + 1) x5 r4 μ hf hfa (by omega) (by omega) (by omega) h5 h5i (fun τ' v f' hv => kk τ' v f' ?_)
      rw [pk_no hxm (fun z => c z.1), hv]
theorem w_isAmong {a b : Int32} {Q : Int32 → zS → Prop} (k1 : (0 ≤ a.toInt ∧ a.toInt < b.toInt) → Q 1 σ) (k0 : ¬ (0 ≤ a.toInt ∧ a.toInt < b.toInt) → Q 0 σ) : W_H_isAmong a b σ Q := ⟨fun c => k0 (by omega), fun c => ⟨fun d => k0 (by omega), fun d => k1 (by omega)⟩⟩
theorem w_isAct {a : Int32} {Q : Int32 → zS → Prop} (k1 : (0 ≤ a.toInt ∧ a.toInt ≤ 5) → Q 1 σ) (k0 : ¬ (0 ≤ a.toInt ∧ a.toInt ≤ 5) → Q 0 σ) : W_H_isAct a σ Q := ⟨fun c => k0 (by omega), fun c => ⟨fun d => k0 (by omega), fun d => k1 (by omega)⟩⟩
/-- the class is set to a person -/
theorem w_setJ {a t k : Int32} {ρ : zS} {Q : Unit → zS → Prop} (h : Wa σ n P F rk) (hF : FrHa ω σ ρ) (h6 : ρ.1 27 6 = t) (h7 : ρ.1 27 7 = σ.1 110 0) (ht : 0 ≤ t.toInt) (hk : k = σ.1 110 0) (kk : ∀ τ : zS, FldJ ω σ τ n a t.toInt → τ.1 27 6 = t → Q () τ) : W_Wh_groupsOf a t k ρ (fun v s => W_Ju_setPerson a v s Q) := by
  refine w_groupsOf (n := n) (h.1.2.1.cx hF.v).1 (by omega) (fun v _ hv s1 e1 s2 e2 => kk s2 ⟨(hF.i e1 (by omega)).i e2 (by omega), ?_, fun j hj => ?_, ?_, ?_⟩ ?_)
  · rw [← e2, yI_ne (by omega), ← e1, yI_at]
  · rw [← e2, yI_at, hv j hj, hk, inc_cx hF.v]
  · rw [← e2, yI_ne (by omega), ← e1, yI_ne (by omega), h6]
  · rw [← e2, yI_ne (by omega), ← e1, yI_ne (by omega), h7]
  · rw [← e2, yI_ne (by omega), ← e1, yI_ne (by omega), h6]
theorem w_setM {a t k : Int32} {μ : zS} {Q : Unit → zS → Prop} (h : Wa σ n P F rk) (hF : FrVn σ μ) (hk : k = σ.1 110 0) (kk : ∀ τ : zS, FldM σ τ n a.toInt t.toInt → FrG μ τ → Q () τ) : W_M_reaches a t k μ Q := w_reaches (n := n) (h.1.2.1.cx hF).2.1 (fun τ fg hr => kk τ ⟨hF.tr fg.v, fun j hj => by rw [hr j hj, hk, inm_cx hF]⟩ fg)
theorem may_same {a1 a2 a3 a4 : Int32} (h : Wa σ n P F rk) (hb : 0 < P → (σ.1 110 26).toInt ≠ 0) : W_H_may a1 a2 a3 a4 σ (fun r σ1 => FrHa ω σ σ1 ∧ W_M_may a1 a2 a3 a4 σ1 (fun r2 σ2 => r = r2 ∧ FrMa ω σ1 σ2)) := by
  have n0 : (0 : Int32).toInt = 0 := by decide
  have n1 : ¬ (1 : Int32).toInt = 0 := by decide
  have h0 := h
  obtain ⟨_, ⟨c1, c2, c3, _⟩, _, ⟨w1, w2⟩, ⟨p1, p2, p3⟩, ⟨t1, t2, t3⟩, _⟩ := h0
  have bad : ¬ ((0 ≤ a1.toInt ∧ a1.toInt < (P : Int)) ∧ (0 ≤ a2.toInt ∧ a2.toInt < (σ.1 110 6).toInt) ∧ (0 ≤ a3.toInt ∧ a3.toInt ≤ 5) ∧ 0 ≤ a4.toInt) → W_M_may a1 a2 a3 a4 σ (fun r2 σ2 => (-1 : Int32) = r2 ∧ FrMa ω σ σ2) := fun no => by
    refine w_isPolicyN (by omega) (fun q1 => ⟨fun z => absurd z n1, fun _ => ?_⟩) (fun _ => ⟨fun _ => ⟨rfl, FrMa.refl⟩, fun z => absurd n0 z⟩)
    refine w_isPersonN (by omega) (fun q2 => ⟨fun z => absurd z n1, fun _ r3 h3 => ?_⟩) (fun _ => ⟨fun _ => ⟨rfl, FrMa.refl⟩, fun z => absurd n0 z⟩)
    exact w_inN (l := 0) (u := 5) h3 (by decide) (by decide) (fun q3 => ⟨fun z => absurd z n1, fun _ => ⟨fun q4 => absurd ⟨by omega, q2, q3, q4⟩ no, fun _ => ⟨rfl, FrMa.refl⟩⟩⟩) (fun _ => ⟨fun _ => ⟨rfl, FrMa.refl⟩, fun z => absurd n0 z⟩)
  refine w_isAmong (fun q1 => ⟨fun z => absurd z n1, fun _ => ?_⟩) (fun q => ⟨fun _ => ⟨FrHa.refl, bad (fun z => q (by omega))⟩, fun z => absurd n0 z⟩)
  refine w_isPerson (fun q2 q2' => ⟨fun z => absurd z n1, fun _ => ?_⟩) (fun q => ⟨fun _ => ⟨FrHa.refl, bad (fun z => q (by rw [p1]; exact z.2.1))⟩, fun z => absurd n0 z⟩)
  refine w_isAct (fun q3 => ⟨fun z => absurd z n1, fun _ => ⟨fun q4 => ?_, fun q => ⟨FrHa.refl, bad (fun z => q z.2.2.2)⟩⟩⟩) (fun q => ⟨fun _ => ⟨FrHa.refl, bad (fun z => q z.2.2.1)⟩, fun z => absurd n0 z⟩)
  have hp : a1.toInt = -4 ∨ (0 ≤ a1.toInt ∧ a1.toInt < (P : Int)) := Or.inr (by omega)
  rw [p1] at q2'
  obtain ⟨an, ha⟩ : ∃ an : Nat, a3.toInt = (an : Int) := ⟨a3.toInt.toNat, by omega⟩
  obtain ⟨m, hm⟩ : ∃ m : Nat, (σ.1 110 20).toInt = (m : Int) := ⟨(σ.1 110 20).toInt.toNat, by omega⟩
  intro s1 e1 s2 e2
  have f2 : FrHa ω σ s2 := (FrHa.refl.i e1 (by omega)).i e2 (by omega)
  have now2 : s2.1 0 2 = σ.1 110 0 := by rw [f2.k 0 2 (by omega) (by omega) (by omega)]; exact w1
  rw [now2]
  refine w_setJ (n := n) h f2 (by rw [← e2, yI_ne (by omega), ← e1, yI_at, w1]) (by rw [← e2, yI_at, w1]) w2.1 rfl (fun ρ fj _ => ?_)
  refine wl_thingAllowed h hm hp (by omega) w2 ha (by omega) fuF 0 a4 0 ρ fj (by decide) (by omega) (by show m - 0 + 1 ≤ 100000; omega) q4 (fun σ1 r f1 er => ⟨f1, ?_⟩)
  have c : ∀ k j : Nat, 110 ≤ k → σ1.1 k j = σ.1 k j := fun k j q => f1.k k j (by omega) (by omega) (by omega)
  refine w_isPolicyN (by rw [c 110 32 (by omega)]; omega) (fun _ => ⟨fun z => absurd z n1, fun _ => ?_⟩) (fun q => absurd (by rw [c 110 32 (by omega)]; omega) q)
  refine w_isPersonN (by rw [c 110 6 (by omega)]; omega) (fun _ => ⟨fun z => absurd z n1, fun _ r3 h3 => ?_⟩) (fun q => absurd (by rw [c 110 6 (by omega)]; omega) q)
  refine w_inN (l := 0) (u := 5) h3 (by decide) (by decide) (fun _ => ⟨fun z => absurd z n1, fun _ => ⟨fun _ => ?_, fun q => absurd q4 q⟩⟩) (fun q => absurd q3 q)
  refine w_setM (n := n) h f1.v (c 110 0 (by omega)) (fun μ fm fg => ?_)
  rw [c 110 0 (by omega)] at fm
  exact wl_mayM (σ1 := σ1) h (hb (by omega)) hm hp (by omega) ha (by omega) fuF 0 0 0 μ fm fg.a (by decide) (by omega) (by show m - 0 + 1 ≤ 100000; omega) (by decide) (by rw [n0]; exact q4) (fun σ2 r2 f2' er2 => ⟨Int32.toInt_inj.mp (by rw [er, er2, n0, Int.sub_zero]), f2'⟩)
end N07
/-! ===== N08: who, could, asked ===== -/
section N08
variable {ω : Bool} {σ τ ρ μ : zS} {n P F : Nat} {rk : Nat → Nat}
theorem wl_personAllowed {po act th t : Int32} {un an m : Nat} {Q : Int32 → zS → Prop} (h : Wa σ n P F rk) (hm : (σ.1 110 6).toInt = (m : Int)) (hp : po.toInt = -4 ∨ (0 ≤ po.toInt ∧ po.toInt < (P : Int))) (ht : 0 ≤ t.toInt ∧ t.toInt ≤ 1000000000) (hu : th.toInt = (un : Int)) (hu4 : un < 40) (ha : act.toInt = (an : Int)) (ha6 : an < 6) : ∀ (N x : Nat) (x5 x6 : Int32) (ρ : zS), FrHa ω σ ρ → ρ.1 27 6 = t → ρ.1 27 7 = σ.1 110 0 → x6.toInt = (x : Int) → x ≤ m → m - x + 1 ≤ N → 0 ≤ x5.toInt → (∀ (τ : zS) (v : Int32), FrHa ω σ τ → v.toInt = pk9 (fun w => ansJ (vdF σ n po.toInt (w : Int) un an t.toInt) = 1) m (m - x + 1) x x5.toInt → Q v τ) → WL_Ju_personAllowed N po act th x5 x6 ρ Q
  | 0, _, _, _, _, _, _, _, _, _, q, _, _ => absurd q (by omega)
  | N + 1, x, x5, x6, ρ, hf, r6, r7, h6, hx, q, h5, kk => by
    have h0 := h
    obtain ⟨_, _, _, ⟨w1, w2⟩, ⟨p1, p2, p3⟩, _⟩ := h0
    have r5 : (ρ.1 5 0).toInt = (m : Int) := by rw [hf.k 5 0 (by omega) (by omega) (by omega), p1]; exact hm
    have b5 := Int32.toInt_lt x5
    refine wl_Ju_personAllowed_7 ⟨fun z => kk ρ (-4) hf ?_, fun z => ?_⟩
    · rw [pk_end (by omega)]; decide
    · have hxm : x < m := by omega
      have e1 : m - x + 1 = (m - (x + 1) + 1) + 1 := by omega
      rw [e1] at kk
      rw [r6, r7]
      refine w_setJ (n := n) h hf r6 r7 ht.1 rfl (fun ρ' fj s6 => ?_)
      have e : ∀ {τ : zS}, FrA (stA ρ' th) τ → τ.1 27 6 = t := fun {τ} f => ((f.1 27 6 (by omega) (by omega) (by omega) (by omega)).trans (stA_27 (by decide))).trans s6
      refine w_ans1 (n := n) h fj hp (by omega) ht hu hu4 ha ha6 (fun τ a f2 ea _ fa => ⟨fun y => ⟨fun y0 => kk τ x6 f2.1 ?_, fun y0 => ⟨by omega, fun r8 h8 => ⟨by omega, fun r9 h9 => ?_⟩⟩⟩, fun y => ⟨by omega, fun r6' h6' => ?_⟩⟩)
      · rw [h6] at ea
        rw [pk_hit hxm (by rw [← ea]; exact y) y0]; exact h6
      · rw [h6] at ea
        refine wl_personAllowed h hm hp ht hu hu4 ha ha6 N (x + 1) r8 r9 τ f2.1 (e fa) f2.2.2.2.2 (by omega) (by omega) (by omega) (by omega) (fun τ' v f' hv => kk τ' v f' ?_)
        rw [pk_one hxm (by rw [← ea]; exact y) y0, hv, show r8.toInt = x5.toInt - 1 by omega]
      · rw [h6] at ea
        refine wl_personAllowed h hm hp ht hu hu4 ha ha6 N (x + 1) x5 r6' τ f2.1 (e fa) f2.2.2.2.2 (by omega) (by omega) (by omega) h5 (fun τ' v f' hv => kk τ' v f' ?_)
        rw [pk_no hxm (fun z => y (by rw [ea]; exact z)), hv]
theorem wl_whoAt {po act th t i : Int32} {un an m : Nat} {σ1 : zS} {Q : Int32 → zS → Prop} (h : Wa σ n P F rk) (hb : (σ.1 110 26).toInt ≠ 0) (hm : (σ.1 110 6).toInt = (m : Int)) (hp : po.toInt = -4 ∨ (0 ≤ po.toInt ∧ po.toInt < (P : Int))) (ht : 0 ≤ t.toInt ∧ t.toInt ≤ 1000000000) (hu : th.toInt = (un : Int)) (hu4 : un < 40) (ha : act.toInt = (an : Int)) (ha6 : an < 6) : ∀ (N x : Nat) (x6 x7 : Int32) (μ : zS), FrVn σ μ → FrMa ω σ1 μ → x7.toInt = (x : Int) → x ≤ m → m - x + 1 ≤ N → 0 ≤ x6.toInt → x6.toInt ≤ i.toInt → (∀ (τ : zS) (v : Int32), FrMa ω σ1 τ → v.toInt = pk9 (fun w => ansJ (vdF σ n po.toInt (w : Int) un an t.toInt) = 1) m (m - x + 1) x (i.toInt - x6.toInt) → Q v τ) → WL_M_whoAt N po act th t i x6 x7 μ Q
  | 0, _, _, _, _, _, _, _, _, q, _, _, _ => absurd q (by omega)
  | N + 1, x, x6, x7, μ, hf, hfa, h7, hx, q, h6, h6i, kk => by
    have h0 := h
    obtain ⟨_, _, _, ⟨w1, w2⟩, ⟨p1, p2, p3⟩, _⟩ := h0
    have r6 : (μ.1 110 6).toInt = (m : Int) := by rw [hf.2.2.2.2 6 (by omega)]; exact hm
    have bi := Int32.toInt_lt i
    refine wl_M_whoAt_6 ⟨fun z => kk μ (-4) hfa ?_, fun z => ?_⟩
    · rw [pk_end (by omega)]; decide
    · have hxm : x < m := by omega
      have e1 : m - x + 1 = (m - (x + 1) + 1) + 1 := by omega
      rw [e1] at kk
      refine w_setM (n := n) h hf hf.2.2.1.2.1 (fun μ' fm fg => ?_)
      refine w_jud1 (n := n) h hb fm hp (by omega) ht hu hu4 ha ha6 (fun τ f2 e5 _ fb => ?_)
      rw [h7] at e5
      have fa : FrMa ω σ1 τ := (hfa.tr fg.a).tr (stM_a.tr fb.a)
      refine ⟨fun y => ⟨fun y0 => kk τ x7 fa ?_, fun y0 => ⟨by omega, fun r7 h7' => ⟨by omega, fun r8 h8 => ?_⟩⟩⟩, fun y => ⟨by omega, fun r5 h5 => ?_⟩⟩
      · rw [pk_hit hxm (by rw [← e5]; exact y) (by omega)]; exact h7
      · refine wl_whoAt h hb hm hp ht hu hu4 ha ha6 N (x + 1) r7 r8 τ f2.1 fa (by omega) (by omega) (by omega) (by omega) (by omega) (fun τ' v f' hv => kk τ' v f' ?_)
        rw [pk_one hxm (by rw [← e5]; exact y) (by omega), hv, show i.toInt - r7.toInt = i.toInt - x6.toInt - 1 by omega]
      · refine wl_whoAt h hb hm hp ht hu hu4 ha ha6 N (x + 1) x6 r5 τ f2.1 fa (by omega) (by omega) (by omega) h6 h6i (fun τ' v f' hv => kk τ' v f' ?_)
        rw [pk_no hxm (fun z => y (by rw [e5]; exact z)), hv]
theorem who_same {a1 a2 a3 a4 : Int32} (h : Wa σ n P F rk) (hb : 0 < P → (σ.1 110 26).toInt ≠ 0) : W_H_who a1 a2 a3 a4 σ (fun r σ1 => FrHa ω σ σ1 ∧ W_M_who a1 a2 a3 a4 σ1 (fun r2 σ2 => r = r2 ∧ FrMa ω σ1 σ2)) := by
  have n0 : (0 : Int32).toInt = 0 := by decide
  have n1 : ¬ (1 : Int32).toInt = 0 := by decide
  have h0 := h
  obtain ⟨_, ⟨c1, c2, c3, _⟩, _, ⟨w1, w2⟩, ⟨p1, p2, p3⟩, ⟨t1, t2, t3⟩, g, _⟩ := h0
  have bad : ¬ ((0 ≤ a1.toInt ∧ a1.toInt < (P : Int)) ∧ (0 ≤ a2.toInt ∧ a2.toInt ≤ 5) ∧ (0 ≤ a3.toInt ∧ a3.toInt < (σ.1 110 20).toInt ∧ (σ.1 128 a3.toInt.toNat).toInt = 0) ∧ 0 ≤ a4.toInt) → W_M_who a1 a2 a3 a4 σ (fun r2 σ2 => (-1 : Int32) = r2 ∧ FrMa ω σ σ2) := fun no => by
    refine w_isPolicyN (by omega) (fun q1 => ⟨fun z => absurd z n1, fun _ r3 h3 => ?_⟩) (fun _ => ⟨fun _ => ⟨rfl, FrMa.refl⟩, fun z => absurd n0 z⟩)
    refine w_inN (l := 0) (u := 5) h3 (by decide) (by decide) (fun q2 => ⟨fun z => absurd z n1, fun _ => ?_⟩) (fun _ => ⟨fun _ => ⟨rfl, FrMa.refl⟩, fun z => absurd n0 z⟩)
    exact w_isHereN (by omega) (fun q3 => ⟨fun z => absurd z n1, fun _ => ⟨fun q4 => absurd ⟨by omega, q2, q3, q4⟩ no, fun _ => ⟨rfl, FrMa.refl⟩⟩⟩) (fun _ => ⟨fun _ => ⟨rfl, FrMa.refl⟩, fun z => absurd n0 z⟩)
  refine w_isAmong (fun q1 => ⟨fun z => absurd z n1, fun _ => ?_⟩) (fun q => ⟨fun _ => ⟨FrHa.refl, bad (fun z => q (by omega))⟩, fun z => absurd n0 z⟩)
  refine w_isAct (fun q2 => ⟨fun z => absurd z n1, fun _ => ?_⟩) (fun q => ⟨fun _ => ⟨FrHa.refl, bad (fun z => q z.2.1)⟩, fun z => absurd n0 z⟩)
  refine w_isThere (by rw [t1]; omega) (fun q3 => ⟨fun z => absurd z n1, fun _ => ⟨fun q4 => ?_, fun q => ⟨FrHa.refl, bad (fun z => q z.2.2.2)⟩⟩⟩) (fun q => ⟨fun _ => ⟨FrHa.refl, bad (fun z => q ⟨z.2.2.1.1, by rw [t1]; exact z.2.2.1.2.1, (g _ (by omega)).mpr z.2.2.1.2.2⟩)⟩, fun z => absurd n0 z⟩)
  have hp : a1.toInt = -4 ∨ (0 ≤ a1.toInt ∧ a1.toInt < (P : Int)) := Or.inr (by omega)
  rw [t1] at q3
  obtain ⟨an, ha⟩ : ∃ an : Nat, a2.toInt = (an : Int) := ⟨a2.toInt.toNat, by omega⟩
  obtain ⟨un, hu⟩ : ∃ un : Nat, a3.toInt = (un : Int) := ⟨a3.toInt.toNat, by omega⟩
  obtain ⟨m, hm⟩ : ∃ m : Nat, (σ.1 110 6).toInt = (m : Int) := ⟨(σ.1 110 6).toInt.toNat, by omega⟩
  have q3' : (σ.1 128 a3.toInt.toNat).toInt = 0 := (g _ (by omega)).mp q3.2.2
  intro s1 e1 s2 e2
  have f2 : FrHa ω σ s2 := (FrHa.refl.i e1 (by omega)).i e2 (by omega)
  refine wl_personAllowed (t := σ.1 110 0) h hm hp w2 hu (by omega) ha (by omega) fuF 0 a4 0 s2 f2 (by rw [← e2, yI_ne (by omega), ← e1, yI_at, w1]) (by rw [← e2, yI_at, w1]) (by decide) (by omega) (by show m - 0 + 1 ≤ 100000; omega) q4 (fun σ1 r f1 er => ⟨f1, ?_⟩)
  have c : ∀ k j : Nat, 110 ≤ k → σ1.1 k j = σ.1 k j := fun k j q => f1.k k j (by omega) (by omega) (by omega)
  refine w_isPolicyN (by rw [c 110 32 (by omega)]; omega) (fun _ => ⟨fun z => absurd z n1, fun _ r3 h3 => ?_⟩) (fun q => absurd (by rw [c 110 32 (by omega)]; omega) q)
  refine w_inN (l := 0) (u := 5) h3 (by decide) (by decide) (fun _ => ⟨fun z => absurd z n1, fun _ => ?_⟩) (fun q => absurd q2 q)
  refine w_isHereN (by rw [c 110 20 (by omega)]; omega) (fun _ => ⟨fun z => absurd z n1, fun _ => ⟨fun _ => ?_, fun q => absurd q4 q⟩⟩) (fun q => absurd ⟨q3.1, by rw [c 110 20 (by omega)]; exact q3.2.1, by rw [c 128 _ (by omega)]; exact q3'⟩ q)
  rw [c 110 0 (by omega)]
  exact wl_whoAt (σ1 := σ1) h (hb (by omega)) hm hp w2 hu (by omega) ha (by omega) fuF 0 0 0 σ1 f1.v FrMa.refl (by decide) (by omega) (by show m - 0 + 1 ≤ 100000; omega) (by decide) (by rw [n0]; exact q4) (fun σ2 r2 f2' er2 => ⟨Int32.toInt_inj.mp (by rw [er, er2, n0, Int.sub_zero]), f2'⟩)
theorem could_same {a1 a2 a3 a4 : Int32} (h : Wa σ n P F rk) (hb : (σ.1 110 26).toInt ≠ 0) : W_H_could a1 a2 a3 a4 σ (fun r σ1 => FrHa ω σ σ1 ∧ W_M_could a1 a2 a3 a4 σ1 (fun r2 σ2 => r = r2 ∧ FrMa ω σ1 σ2)) := by
  have n0 : (0 : Int32).toInt = 0 := by decide
  have n1 : ¬ (1 : Int32).toInt = 0 := by decide
  have z0 : (0 : Int64).toInt = 0 := by decide
  have h0 := h
  obtain ⟨_, ⟨c1, c2, c3, _⟩, _, ⟨w1, w2⟩, ⟨p1, p2, p3⟩, ⟨t1, t2, t3⟩, g, fo, _⟩ := h0
  have bad : ¬ ((0 ≤ a1.toInt ∧ a1.toInt ≤ 5) ∧ (0 ≤ a2.toInt ∧ a2.toInt < (σ.1 110 20).toInt ∧ (σ.1 128 a2.toInt.toNat).toInt = 0) ∧ (0 ≤ a3.toInt ∧ a3.toInt ≤ (σ.1 110 0).toInt) ∧ 0 ≤ a4.toInt) → W_M_could a1 a2 a3 a4 σ (fun r2 σ2 => (-1 : Int32) = r2 ∧ FrMa ω σ σ2) := fun no r1 h1 => by
    refine w_inN (l := 0) (u := 5) h1 (by decide) (by decide) (fun q1 => ⟨fun z => absurd z n1, fun _ => ?_⟩) (fun _ => ⟨fun _ => ⟨rfl, FrMa.refl⟩, fun z => absurd n0 z⟩)
    refine w_isHereN (by omega) (fun q2 => ⟨fun z => absurd z n1, fun _ r6 h6 r7 h7 => ?_⟩) (fun _ => ⟨fun _ => ⟨rfl, FrMa.refl⟩, fun z => absurd n0 z⟩)
    exact w_inN h6 z0 h7 (fun q3 => ⟨fun z => absurd z n1, fun _ => ⟨fun q4 => absurd ⟨q1, q2, q3, q4⟩ no, fun _ => ⟨rfl, FrMa.refl⟩⟩⟩) (fun _ => ⟨fun _ => ⟨rfl, FrMa.refl⟩, fun z => absurd n0 z⟩)
  refine w_isAct (fun q1 => ⟨fun z => absurd z n1, fun _ => ?_⟩) (fun q => ⟨fun _ => ⟨FrHa.refl, bad (fun z => q z.1)⟩, fun z => absurd n0 z⟩)
  refine w_isThere (by rw [t1]; omega) (fun q2 => ⟨fun z => absurd z n1, fun _ => ?_⟩) (fun q => ⟨fun _ => ⟨FrHa.refl, bad (fun z => q ⟨z.2.1.1, by rw [t1]; exact z.2.1.2.1, (g _ (by omega)).mpr z.2.1.2.2⟩)⟩, fun z => absurd n0 z⟩)
  refine ⟨fun q => ⟨FrHa.refl, bad (fun z => by omega)⟩, fun q3 => ⟨fun q => ⟨FrHa.refl, bad (fun z => by rw [w1] at q; omega)⟩, fun q3' => ⟨fun q4 => ?_, fun q => ⟨FrHa.refl, bad (fun z => q z.2.2.2)⟩⟩⟩⟩
  rw [w1] at q3'
  rw [t1] at q2
  obtain ⟨an, ha⟩ : ∃ an : Nat, a1.toInt = (an : Int) := ⟨a1.toInt.toNat, by omega⟩
  obtain ⟨un, hu⟩ : ∃ un : Nat, a2.toInt = (un : Int) := ⟨a2.toInt.toNat, by omega⟩
  obtain ⟨m, hm⟩ : ∃ m : Nat, (σ.1 110 6).toInt = (m : Int) := ⟨(σ.1 110 6).toInt.toNat, by omega⟩
  have q2' : (σ.1 128 a2.toInt.toNat).toInt = 0 := (g _ (by omega)).mp q2.2.2
  intro s1 e1 s2 e2
  have f2 : FrHa ω σ s2 := (FrHa.refl.i e1 (by omega)).i e2 (by omega)
  refine w_policyInForce (fo.ch f2) (fun v9 h9 => ?_)
  have e9 : v9.toInt = fo9 (fun j => (σ.1 2 j).toInt) (fun j => (σ.1 3 j).toInt) a3.toInt F := by
    rw [h9]
    exact fo_cg (fun j _ => ⟨by rw [f2.k 2 j (by omega) (by omega) (by omega)], by rw [f2.k 3 j (by omega) (by omega) (by omega)]⟩)
  have hp : v9.toInt = -4 ∨ (0 ≤ v9.toInt ∧ v9.toInt < (P : Int)) := by rw [e9]; exact fo_in (fun j hj => (fo.2 j hj).2.2)
  have ht : 0 ≤ a3.toInt ∧ a3.toInt ≤ 1000000000 := by omega
  refine wl_personAllowed (t := a3) h hm hp ht hu (by omega) ha (by omega) fuF 0 a4 0 s2 f2 (by rw [← e2, yI_ne (by omega), ← e1, yI_at]) (by rw [← e2, yI_at, w1]) (by decide) (by omega) (by show m - 0 + 1 ≤ 100000; omega) q4 (fun σ1 r f1 er => ⟨f1, ?_⟩)
  have c : ∀ k j : Nat, 110 ≤ k → σ1.1 k j = σ.1 k j := fun k j q => f1.k k j (by omega) (by omega) (by omega)
  intro r1 h1
  refine w_inN (l := 0) (u := 5) h1 (by decide) (by decide) (fun _ => ⟨fun z => absurd z n1, fun _ => ?_⟩) (fun q => absurd q1 q)
  refine w_isHereN (by rw [c 110 20 (by omega)]; omega) (fun _ => ⟨fun z => absurd z n1, fun _ r6 h6 r7 h7 => ?_⟩) (fun q => absurd ⟨q2.1, by rw [c 110 20 (by omega)]; exact q2.2.1, by rw [c 128 _ (by omega)]; exact q2'⟩ q)
  rw [c 110 0 (by omega)] at h7
  refine w_inN h6 z0 h7 (fun _ => ⟨fun z => absurd z n1, fun _ => ⟨fun _ => ?_, fun q => absurd q4 q⟩⟩) (fun q => absurd (by omega) q)
  refine w_forceAt (F := F) (by rw [c 110 71 (by omega)]; exact fo.1.2.1) fo.1.2.2 (fun v11 h11 => ?_)
  have e11 : v11.toInt = v9.toInt := by
    rw [h11, e9]
    exact fo_cg (fun j hj => ⟨by rw [c 154 j (by omega), (fo.2 j hj).1], by rw [c 155 j (by omega), (fo.2 j hj).2.1]⟩)
  exact wl_whoAt (σ1 := σ1) h hb hm (by rw [e11]; exact hp) ht hu (by omega) ha (by omega) fuF 0 0 0 σ1 f1.v FrMa.refl (by decide) (by omega) (by show m - 0 + 1 ≤ 100000; omega) (by decide) (by rw [n0]; exact q4) (fun σ2 r2 f2' er2 => ⟨Int32.toInt_inj.mp (by rw [er, er2, n0, Int.sub_zero, e11]), f2'⟩)
theorem w_isMomentN {a : Int32} {Q : Int32 → zS → Prop} (k1 : (0 ≤ a.toInt ∧ a.toInt ≤ 1000000000) → Q 1 σ) (k0 : ¬ (0 ≤ a.toInt ∧ a.toInt ≤ 1000000000) → Q 0 σ) : W_M_isMoment a σ Q := fun r1 h1 => w_inN (l := 0) (u := 1000000000) h1 (by decide) (by decide) (fun q => ⟨Or.inr rfl, k1 q⟩) (fun q => ⟨Or.inl rfl, k0 q⟩)
theorem asked_same {a1 a2 a3 a4 a5 : Int32} (h : Wa σ n P F rk) (hb : 0 < P → (σ.1 110 26).toInt ≠ 0) : W_H_asked a1 a2 a3 a4 a5 σ (fun r σ1 => FrHa ω σ σ1 ∧ W_M_asked a1 a2 a3 a4 a5 σ1 (fun r2 σ2 => r = r2 ∧ FrMa ω σ1 σ2)) := by
  have n0 : (0 : Int32).toInt = 0 := by decide
  have n1 : ¬ (1 : Int32).toInt = 0 := by decide
  have h0 := h
  obtain ⟨_, ⟨c1, c2, c3, _⟩, _, ⟨w1, w2⟩, ⟨p1, p2, p3⟩, ⟨t1, t2, t3⟩, g, _⟩ := h0
  have bad : ¬ ((0 ≤ a1.toInt ∧ a1.toInt < (P : Int)) ∧ RqOk σ a2.toInt a3.toInt a4.toInt ∧ (0 ≤ a5.toInt ∧ a5.toInt ≤ 1000000000)) → W_M_asked a1 a2 a3 a4 a5 σ (fun r2 σ2 => (-1 : Int32) = r2 ∧ FrMa ω σ σ2) := fun no => by
    refine w_isPolicyN (by omega) (fun q1 => ⟨fun z => absurd z n1, fun _ => ?_⟩) (fun _ => ⟨fun _ => ⟨rfl, FrMa.refl⟩, fun z => absurd n0 z⟩)
    refine w_isPersonN (by omega) (fun q2 => ⟨fun z => absurd z n1, fun _ r3 h3 => ?_⟩) (fun _ => ⟨fun _ => ⟨rfl, FrMa.refl⟩, fun z => absurd n0 z⟩)
    refine w_inN (l := 0) (u := 5) h3 (by decide) (by decide) (fun q3 => ⟨fun z => absurd z n1, fun _ => ?_⟩) (fun _ => ⟨fun _ => ⟨rfl, FrMa.refl⟩, fun z => absurd n0 z⟩)
    refine w_isHereN (by omega) (fun q4 => ⟨fun z => absurd z n1, fun _ => ?_⟩) (fun _ => ⟨fun _ => ⟨rfl, FrMa.refl⟩, fun z => absurd n0 z⟩)
    exact w_isMomentN (fun q5 => absurd ⟨by omega, h.rq.mpr ⟨q2, q3, q4⟩, q5⟩ no) (fun _ => ⟨fun _ => ⟨rfl, FrMa.refl⟩, fun z => absurd n0 z⟩)
  refine w_isAmong (fun q1 => ⟨fun z => absurd z n1, fun _ => ?_⟩) (fun q => ⟨fun _ => ⟨FrHa.refl, bad (fun z => q (by omega))⟩, fun z => absurd n0 z⟩)
  refine w_isRequest (by rw [t1]; omega) (fun ok => ⟨fun z => absurd z n1, fun _ => ?_⟩) (fun q => ⟨fun _ => ⟨FrHa.refl, bad (fun z => q z.2.1)⟩, fun z => absurd n0 z⟩)
  have mom : ∀ {R : Int32 → zS → Prop}, ((0 ≤ a5.toInt ∧ a5.toInt ≤ 1000000000) → R 1 σ) → (¬ (0 ≤ a5.toInt ∧ a5.toInt ≤ 1000000000) → R 0 σ) → W_H_isMoment a5 σ R := fun {R} g1 g0 => ⟨fun c => g0 (by omega), fun c => ⟨fun d => g0 (by omega), fun d => g1 (by omega)⟩⟩
  refine mom (fun q5 => ⟨fun z => absurd z n1, fun _ s1 e1 s2 e2 => ?_⟩) (fun q => ⟨fun _ => ⟨FrHa.refl, bad (fun z => q z.2.2)⟩, fun z => absurd n0 z⟩)
  have ok' := h.rq.mp ok
  have hp : a1.toInt = -4 ∨ (0 ≤ a1.toInt ∧ a1.toInt < (P : Int)) := Or.inr (by omega)
  obtain ⟨un, hu⟩ : ∃ un : Nat, a4.toInt = (un : Int) := ⟨a4.toInt.toNat, by have := ok'.2.2; omega⟩
  obtain ⟨an, ha⟩ : ∃ an : Nat, a3.toInt = (an : Int) := ⟨a3.toInt.toNat, by have := ok'.2.1; omega⟩
  have f2 : FrHa ω σ s2 := (FrHa.refl.i e1 (by omega)).i e2 (by omega)
  have now2 : s2.1 0 2 = σ.1 110 0 := by rw [f2.k 0 2 (by omega) (by omega) (by omega)]; exact w1
  show W_Wh_groupsOf a2 a5 (s2.1 0 2) s2 _
  rw [now2]
  refine w_setJ (n := n) h f2 (by rw [← e2, yI_ne (by omega), ← e1, yI_at]) (by rw [← e2, yI_at, w1]) q5.1 rfl (fun ρ fj _ => ?_)
  refine w_ans1 (n := n) h fj hp (by have := ok'.1; omega) q5 hu (by have := ok'.2.2; omega) ha (by have := ok'.2.1; omega) (fun τ a f3 ea _ fa => ⟨by omega, fun s5 e5 s6 e6 => ?_⟩)
  have f6 : FrHa ω σ s6 := (f3.1.r e5 (by omega)).i e6 (by omega)
  refine ⟨f6, ?_⟩
  have c : ∀ k j : Nat, 110 ≤ k → s6.1 k j = σ.1 k j := fun k j q => f6.k k j (by omega) (by omega) (by omega)
  refine w_isPolicyN (by rw [c 110 32 (by omega)]; omega) (fun _ => ⟨fun z => absurd z n1, fun _ => ?_⟩) (fun q => absurd (by rw [c 110 32 (by omega)]; omega) q)
  refine w_isPersonN (by rw [c 110 6 (by omega)]; omega) (fun _ => ⟨fun z => absurd z n1, fun _ r3 h3 => ?_⟩) (fun q => absurd (by rw [c 110 6 (by omega)]; exact ok'.1) q)
  refine w_inN (l := 0) (u := 5) h3 (by decide) (by decide) (fun _ => ⟨fun z => absurd z n1, fun _ => ?_⟩) (fun q => absurd ok'.2.1 q)
  refine w_isHereN (by rw [c 110 20 (by omega)]; omega) (fun _ => ⟨fun z => absurd z n1, fun _ => ?_⟩) (fun q => absurd (by rw [c 110 20 (by omega), c 128 _ (by omega)]; exact ok'.2.2) q)
  refine w_isMomentN (fun _ => ⟨fun z => absurd z n1, fun _ => ?_⟩) (fun q => absurd q5 q)
  refine w_setM (n := n) h f6.v (c 110 0 (by omega)) (fun μ fm fg => ?_)
  exact w_judgeK (ω := ω) (n := n) (un := un) (an := an) h (hb (by omega)) (vdF_ok h hp) fm.1 hu (by have := ok'.2.2; omega) ha (by have := ok'.2.1; omega) (by have := ok'.1; omega) q5 fm.2 (fun τ2 r f2' _ er => ⟨Int32.toInt_inj.mp (ea.trans er.symm), fg.a.tr f2'⟩)
end N08
/-! ===== N09: decides ===== -/
noncomputable def fdT {S : Type} (g : Nat → Prop) (st : Nat → S → S) : Nat → Nat → S → S
  | 0, _, s => s
  | f + 1, t, s => fdT g st f (t + 1) (@ite _ (g t) (Classical.propDecidable _) (st t s) s)
noncomputable def fdI {S : Type} (h : Nat → S → S) : Nat → Nat → S → S
  | 0, _, s => s
  | f + 1, a, s => fdI h f (a + 1) (h a s)
section N09
variable {ω : Bool} {σ τ ρ μ : zS} {n P F : Nat} {rk : Nat → Nat}
theorem fdT_y {S : Type} {g : Nat → Prop} {st : Nat → S → S} {f t : Nat} {s : S} (h : g t) : fdT g st (f + 1) t s = fdT g st f (t + 1) (st t s) := by
  conv => lhs; unfold fdT
  rw [if_pos h]
theorem fdT_n {S : Type} {g : Nat → Prop} {st : Nat → S → S} {f t : Nat} {s : S} (h : ¬ g t) : fdT g st (f + 1) t s = fdT g st f (t + 1) s := by
  conv => lhs; unfold fdT
  rw [if_neg h]
/-- one more where the rule decides -/
noncomputable def dcS (σ : zS) (n : Nat) (po rule : Int) (p a t : Nat) (s : Int) : Int := if rulJ (vdF σ n po (p : Int) t a (σ.1 110 0).toInt) = rule then s + 1 else s
noncomputable abbrev dcT (σ : zS) (n : Nat) (po rule : Int) (m p a : Nat) (f t : Nat) (s : Int) : Int := fdT (fun u => (σ.1 128 u).toInt = 0) (dcS σ n po rule p a) f t s
noncomputable abbrev dcA (σ : zS) (n : Nat) (po rule : Int) (m p : Nat) (f a : Nat) (s : Int) : Int := fdI (fun a s => dcT σ n po rule m p a m 0 s) f a s
noncomputable abbrev dcP (σ : zS) (n : Nat) (po rule : Int) (m : Nat) (f p : Nat) (s : Int) : Int := fdI (fun p s => dcA σ n po rule m p 6 0 s) f p s
theorem dcS_y {po rule : Int} {p a t : Nat} {s : Int} (h : rulJ (vdF σ n po (p : Int) t a (σ.1 110 0).toInt) = rule) : dcS σ n po rule p a t s = s + 1 := by unfold dcS; rw [if_pos h]
theorem dcS_n {po rule : Int} {p a t : Nat} {s : Int} (h : ¬ rulJ (vdF σ n po (p : Int) t a (σ.1 110 0).toInt) = rule) : dcS σ n po rule p a t s = s := by unfold dcS; rw [if_neg h]
theorem dcS_b {po rule : Int} {p a t : Nat} {s b : Int} (h : 0 ≤ s ∧ s ≤ b) : 0 ≤ dcS σ n po rule p a t s ∧ dcS σ n po rule p a t s ≤ b + 1 := by
  unfold dcS
  by_cases q : rulJ (vdF σ n po (p : Int) t a (σ.1 110 0).toInt) = rule
  · rw [if_pos q]; omega
  · rw [if_neg q]; omega
theorem wt_dec {po rule : Int32} {x4 x5 : Int32} {p a m : Nat} {Q : Int32 → zS → Prop} {N : Nat} (h : Wa σ n P F rk) (hm : (σ.1 110 20).toInt = (m : Int)) (hp : po.toInt = -4 ∨ (0 ≤ po.toInt ∧ po.toInt < (P : Int))) (h4 : x4.toInt = (p : Int)) (hp20 : p < 20) (h5 : x5.toInt = (a : Int)) (ha6 : a < 6) : ∀ (f t : Nat) (x3 x6 : Int32) (ρ : zS), t + f = m → FldJ ω σ ρ n x4 (σ.1 110 0).toInt → x6.toInt = (t : Int) → (0 ≤ x3.toInt ∧ x3.toInt ≤ 240 * (p : Int) + 40 * a + t) → (∀ (r y3 : Int32) (τ : zS), r.toInt = (a : Int) + 1 → FldJ ω σ τ n x4 (σ.1 110 0).toInt → y3.toInt = dcT σ n po.toInt rule.toInt m p a f t x3.toInt → (0 ≤ y3.toInt ∧ y3.toInt ≤ 240 * (p : Int) + 40 * ((a : Int) + 1)) → (WL_Ju_decidedBy N).2.1 po rule y3 x4 r τ Q) → (WL_Ju_decidedBy (N + f + 1)).2.2 po rule x3 x4 x5 x6 ρ Q
  | 0, t, x3, x6, ρ, e, hf, h6, hb, kk => by
    have h0 := h
    obtain ⟨_, _, _, _, _, ⟨t1, t2, t3⟩, _⟩ := h0
    have r10 : (ρ.1 10 0).toInt = (m : Int) := by rw [hf.1.k 10 0 (by omega) (by omega) (by omega), t1]; exact hm
    exact wl_Ju_decidedBy_63 ⟨fun _ => ⟨by omega, fun r2 h2 => kk r2 x3 ρ (by omega) hf rfl (by omega)⟩, fun z => absurd (by omega) z⟩
  | f + 1, t, x3, x6, ρ, e, hf, h6, hb, kk => by
    have n0 : (0 : Int32).toInt = 0 := by decide
    have n1 : ¬ (1 : Int32).toInt = 0 := by decide
    have h0 := h
    obtain ⟨_, _, _, ⟨w1, w2⟩, _, ⟨t1, t2, t3⟩, g, _⟩ := h0
    have r10 : (ρ.1 10 0).toInt = (m : Int) := by rw [hf.1.k 10 0 (by omega) (by omega) (by omega), t1]; exact hm
    have r14 : ∀ u, ρ.1 14 u = σ.1 14 u := fun u => hf.1.k 14 u (by omega) (by omega) (by omega)
    have tn : x6.toInt.toNat = t := by omega
    show (WL_Ju_decidedBy ((N + f + 1) + 1)).2.2 po rule x3 x4 x5 x6 ρ Q
    refine wl_Ju_decidedBy_63 ⟨fun z => absurd z (by omega), fun _ => ?_⟩
    refine w_isThere (by omega) (fun c => ⟨fun z => absurd z n1, fun _ => ?_⟩) (fun c => ⟨fun _ => ⟨by omega, fun r5 h5' => ?_⟩, fun z => absurd n0 z⟩)
    · have gx : (σ.1 128 t).toInt = 0 := (g t (by omega)).mp (by rw [tn, r14] at c; exact c.2.2)
      refine w_ans1 (ω := ω) (n := n) h hf hp (by omega) w2 h6 (by omega) h5 ha6 (fun τ v f2 _ er _ => ⟨fun y => ⟨by omega, fun r10' h10 => ⟨by omega, fun r11 h11 => ?_⟩⟩, fun y => ⟨by omega, fun r8 h8 => ⟨by omega, fun r9 h9 => ?_⟩⟩⟩)
      · refine wt_dec h hm hp h4 hp20 h5 ha6 f (t + 1) r10' r11 τ (by omega) f2 (by omega) (by omega) (fun r y3 τ' k1 k2 k3 k4 => kk r y3 τ' k1 k2 ?_ k4)
        rw [k3]
        show _ = fdT _ _ (f + 1) t x3.toInt
        rw [h4] at er
        rw [fdT_y gx, h10, dcS_y (by rw [← er]; exact y)]
      · refine wt_dec h hm hp h4 hp20 h5 ha6 f (t + 1) r8 r9 τ (by omega) f2 (by omega) (by omega) (fun r y3 τ' k1 k2 k3 k4 => kk r y3 τ' k1 k2 ?_ k4)
        rw [k3]
        show _ = fdT _ _ (f + 1) t x3.toInt
        rw [h4] at er
        rw [fdT_y gx, h8, Int.add_zero, dcS_n (by rw [← er]; exact y)]
    · refine wt_dec h hm hp h4 hp20 h5 ha6 f (t + 1) x3 r5 ρ (by omega) hf (by omega) (by omega) (fun r y3 τ' k1 k2 k3 k4 => kk r y3 τ' k1 k2 ?_ k4)
      rw [k3]
      show _ = fdT _ _ (f + 1) t x3.toInt
      rw [fdT_n (fun z => c ⟨by omega, by omega, by rw [tn, r14]; exact (g t (by omega)).mpr z⟩)]
theorem wa_dec {po rule : Int32} {x4 : Int32} {p m : Nat} {Q : Int32 → zS → Prop} {N : Nat} (h : Wa σ n P F rk) (hm : (σ.1 110 20).toInt = (m : Int)) (hp : po.toInt = -4 ∨ (0 ≤ po.toInt ∧ po.toInt < (P : Int))) (h4 : x4.toInt = (p : Int)) (hp20 : p < 20) : ∀ (f a : Nat) (x3 x5 : Int32) (ρ : zS), a + f = 6 → FldJ ω σ ρ n x4 (σ.1 110 0).toInt → x5.toInt = (a : Int) → (0 ≤ x3.toInt ∧ x3.toInt ≤ 240 * (p : Int) + 40 * a) → (∀ (r y3 : Int32) (τ : zS), r.toInt = (p : Int) + 1 → FldJ ω σ τ n x4 (σ.1 110 0).toInt → y3.toInt = dcA σ n po.toInt rule.toInt m p f a x3.toInt → (0 ≤ y3.toInt ∧ y3.toInt ≤ 240 * ((p : Int) + 1)) → (WL_Ju_decidedBy N).1 po rule y3 r τ Q) → (WL_Ju_decidedBy (N + f * (m + 2) + 1)).2.1 po rule x3 x4 x5 ρ Q
  | 0, a, x3, x5, ρ, e, hf, h5, hb, kk => by
    rw [Nat.zero_mul]
    exact wl_Ju_decidedBy_53 ⟨fun _ => ⟨by omega, fun r2 h2 => kk r2 x3 ρ (by omega) hf rfl (by omega)⟩, fun z => absurd (by omega) z⟩
  | f + 1, a, x3, x5, ρ, e, hf, h5, hb, kk => by
    refine wl_Ju_decidedBy_53 ⟨fun z => absurd z (by omega), fun _ => ?_⟩
    have hN : N + (f + 1) * (m + 2) = (N + f * (m + 2) + 1) + m + 1 := by rw [Nat.add_mul]; omega
    rw [hN]
    refine wt_dec (a := a) h hm hp h4 hp20 h5 (by omega) m 0 x3 0 ρ (by omega) hf (by decide) (by omega) (fun r y3 τ k1 k2 k3 k4 => ?_)
    exact wa_dec h hm hp h4 hp20 f (a + 1) y3 r τ (by omega) k2 (by omega) (by omega) (fun r' y3' τ' j1 j2 j3 j4 => kk r' y3' τ' j1 j2 (by rw [j3, k3]; rfl) j4)
theorem wp_dec {po rule : Int32} {M m : Nat} {Q : Int32 → zS → Prop} {N : Nat} (h : Wa σ n P F rk) (hm : (σ.1 110 20).toInt = (m : Int)) (hM : (σ.1 110 6).toInt = (M : Int)) (hp : po.toInt = -4 ∨ (0 ≤ po.toInt ∧ po.toInt < (P : Int))) : ∀ (f p : Nat) (x3 x4 : Int32) (ρ : zS), p + f = M → FrHa ω σ ρ → ρ.1 27 6 = σ.1 110 0 → ρ.1 27 7 = σ.1 110 0 → x4.toInt = (p : Int) → (0 ≤ x3.toInt ∧ x3.toInt ≤ 240 * (p : Int)) → (∀ (y3 : Int32) (τ : zS), FrHa ω σ τ → y3.toInt = dcP σ n po.toInt rule.toInt m f p x3.toInt → Q y3 τ) → (WL_Ju_decidedBy (N + f * (6 * (m + 2) + 2) + 1)).1 po rule x3 x4 ρ Q
  | 0, p, x3, x4, ρ, e, hf, r6, r7, h4, hb, kk => by
    have h0 := h
    obtain ⟨_, _, _, _, ⟨p1, p2, p3⟩, _⟩ := h0
    have r5 : (ρ.1 5 0).toInt = (M : Int) := by rw [hf.k 5 0 (by omega) (by omega) (by omega), p1]; exact hM
    rw [Nat.zero_mul]
    exact wl_Ju_decidedBy_15 ⟨fun _ => kk x3 ρ hf rfl, fun z => absurd (by omega) z⟩
  | f + 1, p, x3, x4, ρ, e, hf, r6, r7, h4, hb, kk => by
    have h0 := h
    obtain ⟨_, _, _, ⟨w1, w2⟩, ⟨p1, p2, p3⟩, _⟩ := h0
    have r5 : (ρ.1 5 0).toInt = (M : Int) := by rw [hf.k 5 0 (by omega) (by omega) (by omega), p1]; exact hM
    refine wl_Ju_decidedBy_15 ⟨fun z => absurd z (by omega), fun _ => ?_⟩
    have hN : N + (f + 1) * (6 * (m + 2) + 2) = (N + f * (6 * (m + 2) + 2) + 1) + 6 * (m + 2) + 1 := by rw [Nat.add_mul]; omega
    rw [hN, r6, r7]
    refine w_setJ (ω := ω) (n := n) h hf r6 r7 w2.1 rfl (fun ρ' fj s6 => ?_)
    refine wa_dec (p := p) h hm hp h4 (by omega) 6 0 x3 0 ρ' (by omega) fj (by decide) (by omega) (fun r y3 τ k1 k2 k3 k4 => ?_)
    exact wp_dec h hm hM hp f (p + 1) y3 r τ (by omega) k2.1 (Int32.toInt_inj.mp k2.2.2.2.1) k2.2.2.2.2 (by omega) (by omega) (fun y3' τ' j1 j2 => kk y3' τ' j1 (by rw [j2, k3]; rfl))
/-! the reference -/
theorem wt_decM {po rule : Int32} {x4 x5 : Int32} {p a m : Nat} {σ1 : zS} {Q : Int32 → zS → Prop} {N : Nat} (h : Wa σ n P F rk) (hbg : (σ.1 110 26).toInt ≠ 0) (hm : (σ.1 110 20).toInt = (m : Int)) (hp : po.toInt = -4 ∨ (0 ≤ po.toInt ∧ po.toInt < (P : Int))) (h4 : x4.toInt = (p : Int)) (hp20 : p < 20) (h5 : x5.toInt = (a : Int)) (ha6 : a < 6) : ∀ (f t : Nat) (x3 x6 : Int32) (μ : zS), t + f = m → FldM σ μ n x4.toInt (σ.1 110 0).toInt → FrMa ω σ1 μ → x6.toInt = (t : Int) → (0 ≤ x3.toInt ∧ x3.toInt ≤ 240 * (p : Int) + 40 * a + t) → (∀ (r y3 : Int32) (τ : zS), r.toInt = (a : Int) + 1 → FldM σ τ n x4.toInt (σ.1 110 0).toInt → FrMa ω σ1 τ → y3.toInt = dcT σ n po.toInt rule.toInt m p a f t x3.toInt → (0 ≤ y3.toInt ∧ y3.toInt ≤ 240 * (p : Int) + 40 * ((a : Int) + 1)) → (WL_M_decides N).2.1 po rule y3 x4 r τ Q) → (WL_M_decides (N + f + 1)).2.2 po rule x3 x4 x5 x6 μ Q
  | 0, t, x3, x6, μ, e, hf, hfa, h6, hb, kk => by
    have r20 : (μ.1 110 20).toInt = (m : Int) := by rw [hf.1.2.2.2.2 20 (by omega)]; exact hm
    have := h.2.2.2.2.2.1
    exact wl_M_decides_91 ⟨fun _ => ⟨by omega, fun r2 h2 => kk r2 x3 μ (by omega) hf hfa rfl (by omega)⟩, fun z => absurd (by omega) z⟩
  | f + 1, t, x3, x6, μ, e, hf, hfa, h6, hb, kk => by
    have h0 := h
    obtain ⟨_, _, _, ⟨w1, w2⟩, _, ⟨t1, t2, t3⟩, g, _⟩ := h0
    have r20 : (μ.1 110 20).toInt = (m : Int) := by rw [hf.1.2.2.2.2 20 (by omega)]; exact hm
    have r128 : ∀ u, μ.1 128 u = σ.1 128 u := fun u => hf.1.2.2.1.1 128 u (by omega) (by omega)
    have r0 : μ.1 110 0 = σ.1 110 0 := hf.1.2.2.1.2.1
    show (WL_M_decides ((N + f + 1) + 1)).2.2 po rule x3 x4 x5 x6 μ Q
    refine wl_M_decides_91 ⟨fun z => absurd z (by omega), fun _ => ⟨t, h6, by omega, ⟨fun c => ?_, fun c => ⟨by omega, fun r5 h5' => ?_⟩⟩⟩⟩
    · rw [r128] at c
      refine w_jud1 (n := n) h hbg (by rw [r0]; exact hf) hp (by omega) (by rw [r0]; exact w2) h6 (by omega) h5 ha6 (fun τ f2 _ er fb => ?_)
      rw [r0] at f2 er
      rw [h4] at er
      have fa : FrMa ω σ1 τ := hfa.tr (stM_a.tr fb.a)
      refine ⟨fun y => ⟨by omega, fun r10 h10 => ⟨by omega, fun r11 h11 => ?_⟩⟩, fun y => ⟨by omega, fun r8 h8 => ⟨by omega, fun r9 h9 => ?_⟩⟩⟩
      · refine wt_decM h hbg hm hp h4 hp20 h5 ha6 f (t + 1) r10 r11 τ (by omega) f2 fa (by omega) (by omega) (fun r y3 τ' k1 k2 k3 k4 k5 => kk r y3 τ' k1 k2 k3 ?_ k5)
        rw [k4]
        show _ = fdT _ _ (f + 1) t x3.toInt
        rw [fdT_y c, h10, dcS_y (by rw [← er]; exact y)]
      · refine wt_decM h hbg hm hp h4 hp20 h5 ha6 f (t + 1) r8 r9 τ (by omega) f2 fa (by omega) (by omega) (fun r y3 τ' k1 k2 k3 k4 k5 => kk r y3 τ' k1 k2 k3 ?_ k5)
        rw [k4]
        show _ = fdT _ _ (f + 1) t x3.toInt
        rw [fdT_y c, h8, Int.add_zero, dcS_n (by rw [← er]; exact y)]
    · rw [r128] at c
      refine wt_decM h hbg hm hp h4 hp20 h5 ha6 f (t + 1) x3 r5 μ (by omega) hf hfa (by omega) (by omega) (fun r y3 τ' k1 k2 k3 k4 k5 => kk r y3 τ' k1 k2 k3 ?_ k5)
      rw [k4]
      show _ = fdT _ _ (f + 1) t x3.toInt
      rw [fdT_n c]
theorem wa_decM {po rule : Int32} {x4 : Int32} {p m : Nat} {σ1 : zS} {Q : Int32 → zS → Prop} {N : Nat} (h : Wa σ n P F rk) (hbg : (σ.1 110 26).toInt ≠ 0) (hm : (σ.1 110 20).toInt = (m : Int)) (hp : po.toInt = -4 ∨ (0 ≤ po.toInt ∧ po.toInt < (P : Int))) (h4 : x4.toInt = (p : Int)) (hp20 : p < 20) : ∀ (f a : Nat) (x3 x5 : Int32) (μ : zS), a + f = 6 → FldM σ μ n x4.toInt (σ.1 110 0).toInt → FrMa ω σ1 μ → x5.toInt = (a : Int) → (0 ≤ x3.toInt ∧ x3.toInt ≤ 240 * (p : Int) + 40 * a) → (∀ (r y3 : Int32) (τ : zS), r.toInt = (p : Int) + 1 → FrVn σ τ → FrMa ω σ1 τ → y3.toInt = dcA σ n po.toInt rule.toInt m p f a x3.toInt → (0 ≤ y3.toInt ∧ y3.toInt ≤ 240 * ((p : Int) + 1)) → (WL_M_decides N).1 po rule y3 r τ Q) → (WL_M_decides (N + f * (m + 2) + 1)).2.1 po rule x3 x4 x5 μ Q
  | 0, a, x3, x5, μ, e, hf, hfa, h5, hb, kk => by
    rw [Nat.zero_mul]
    exact wl_M_decides_81 ⟨fun _ => ⟨by omega, fun r2 h2 => kk r2 x3 μ (by omega) hf.1 hfa rfl (by omega)⟩, fun z => absurd (by omega) z⟩
  | f + 1, a, x3, x5, μ, e, hf, hfa, h5, hb, kk => by
    refine wl_M_decides_81 ⟨fun z => absurd z (by omega), fun _ => ?_⟩
    have hN : N + (f + 1) * (m + 2) = (N + f * (m + 2) + 1) + m + 1 := by rw [Nat.add_mul]; omega
    rw [hN]
    refine wt_decM (a := a) h hbg hm hp h4 hp20 h5 (by omega) m 0 x3 0 μ (by omega) hf hfa (by decide) (by omega) (fun r y3 τ k1 k2 k3 k4 k5 => ?_)
    exact wa_decM h hbg hm hp h4 hp20 f (a + 1) y3 r τ (by omega) k2 k3 (by omega) (by omega) (fun r' y3' τ' j1 j2 j3 j4 j5 => kk r' y3' τ' j1 j2 j3 (by rw [j4, k4]; rfl) j5)
theorem wp_decM {po rule : Int32} {M m : Nat} {σ1 : zS} {Q : Int32 → zS → Prop} {N : Nat} (h : Wa σ n P F rk) (hbg : (σ.1 110 26).toInt ≠ 0) (hm : (σ.1 110 20).toInt = (m : Int)) (hM : (σ.1 110 6).toInt = (M : Int)) (hp : po.toInt = -4 ∨ (0 ≤ po.toInt ∧ po.toInt < (P : Int))) : ∀ (f p : Nat) (x3 x4 : Int32) (μ : zS), p + f = M → FrVn σ μ → FrMa ω σ1 μ → x4.toInt = (p : Int) → (0 ≤ x3.toInt ∧ x3.toInt ≤ 240 * (p : Int)) → (∀ (y3 : Int32) (τ : zS), FrMa ω σ1 τ → y3.toInt = dcP σ n po.toInt rule.toInt m f p x3.toInt → Q y3 τ) → (WL_M_decides (N + f * (6 * (m + 2) + 2) + 1)).1 po rule x3 x4 μ Q
  | 0, p, x3, x4, μ, e, hf, hfa, h4, hb, kk => by
    have r6 : (μ.1 110 6).toInt = (M : Int) := by rw [hf.2.2.2.2 6 (by omega)]; exact hM
    rw [Nat.zero_mul]
    exact wl_M_decides_55 ⟨fun _ => kk x3 μ hfa rfl, fun z => absurd (by omega) z⟩
  | f + 1, p, x3, x4, μ, e, hf, hfa, h4, hb, kk => by
    have h0 := h
    obtain ⟨_, _, _, ⟨w1, w2⟩, ⟨p1, p2, p3⟩, _⟩ := h0
    have r6 : (μ.1 110 6).toInt = (M : Int) := by rw [hf.2.2.2.2 6 (by omega)]; exact hM
    refine wl_M_decides_55 ⟨fun z => absurd z (by omega), fun _ => ?_⟩
    have hN : N + (f + 1) * (6 * (m + 2) + 2) = (N + f * (6 * (m + 2) + 2) + 1) + 6 * (m + 2) + 1 := by rw [Nat.add_mul]; omega
    rw [hN]
    refine w_setM (n := n) h hf hf.2.2.1.2.1 (fun μ' fm fg => ?_)
    rw [hf.2.2.1.2.1] at fm
    refine wa_decM (p := p) h hbg hm hp h4 (by omega) 6 0 x3 0 μ' (by omega) fm (hfa.tr fg.a) (by decide) (by omega) (fun r y3 τ k1 k2 k3 k4 k5 => ?_)
    exact wp_decM h hbg hm hM hp f (p + 1) y3 r τ (by omega) k2 k3 (by omega) (by omega) (fun y3' τ' j1 j2 => kk y3' τ' j1 (by rw [j2, k4]; rfl))
theorem fu_in {M m : Nat} (hM : M ≤ 20) (hm : m ≤ 40) : ∃ N, fuF = N + M * (6 * (m + 2) + 2) + 1 := by
  have : M * (6 * (m + 2) + 2) ≤ 20 * (6 * (40 + 2) + 2) := Nat.mul_le_mul hM (by omega)
  exact ⟨100000 - (M * (6 * (m + 2) + 2) + 1), by show 100000 = _; omega⟩
theorem decides_same {a1 a2 : Int32} (h : Wa σ n P F rk) (hb : 0 < P → (σ.1 110 26).toInt ≠ 0) (hl : σ.1 27 19 = σ.1 110 75 ∧ 0 ≤ (σ.1 110 75).toInt ∧ (σ.1 110 75).toInt ≤ 20) : W_H_decides a1 a2 σ (fun r σ1 => FrHw σ σ1 ∧ W_M_decides a1 a2 σ1 (fun r2 σ2 => r = r2 ∧ FrMw σ1 σ2 ∧ (∀ j, σ2.1 33 j = σ.1 33 j ∧ σ2.1 156 j = σ.1 156 j) ∧ (σ2.1 27 18 = σ.1 27 18 ∧ σ2.1 110 74 = σ.1 110 74) ∧ σ2.1 27 19 = σ2.1 110 75 ∧ 0 ≤ (σ2.1 110 75).toInt ∧ (σ2.1 110 75).toInt ≤ 20)) := by
  have n0 : (0 : Int32).toInt = 0 := by decide
  have n1 : ¬ (1 : Int32).toInt = 0 := by decide
  have z0 : (0 : Int64).toInt = 0 := by decide
  have h0 := h
  obtain ⟨_, ⟨c1, c2, c3, c4⟩, _, ⟨w1, w2⟩, ⟨p1, p2, p3⟩, ⟨t1, t2, t3⟩, _⟩ := h0
  refine w_isAmong (fun q1 => ⟨fun z => absurd z n1, fun _ => ?_⟩) (fun q => ⟨fun _ => ⟨FrHw.refl, ?_⟩, fun z => absurd n0 z⟩)
  · obtain ⟨p0, hp0⟩ : ∃ p0 : Nat, a1.toInt = (p0 : Int) := ⟨a1.toInt.toNat, by omega⟩
    obtain ⟨c, ⟨cc, cm⟩, c30, _⟩ := (c4 p0 (by omega)).ru (by omega)
    refine ⟨p0, hp0, by omega, ?_⟩
    refine w_isAmong (fun q2 => ⟨fun z => absurd z n1, fun _ => ?_⟩) (fun q => ⟨fun _ => ⟨FrHw.refl, ?_⟩, fun z => absurd n0 z⟩)
    · refine ⟨fun q3 s1 e1 s2 e2 => ?_, fun q3 => ⟨FrHw.refl, ?_⟩⟩
      · have g19 : s2.1 27 19 = σ.1 27 19 := by rw [← e2, yI_ne (by omega), ← e1, yI_ne (by omega)]
        have hp : a1.toInt = -4 ∨ (0 ≤ a1.toInt ∧ a1.toInt < (P : Int)) := Or.inr (by omega)
        obtain ⟨m, hm⟩ : ∃ m : Nat, (σ.1 110 20).toInt = (m : Int) := ⟨(σ.1 110 20).toInt.toNat, by omega⟩
        obtain ⟨M, hM⟩ : ∃ M : Nat, (σ.1 110 6).toInt = (M : Int) := ⟨(σ.1 110 6).toInt.toNat, by omega⟩
        obtain ⟨N, hN⟩ := fu_in (M := M) (m := m) (by omega) (by omega)
        refine ⟨by rw [g19]; rw [hl.1] at q3 ⊢; omega, fun r1 h1 s3 e3 => ?_⟩
        rw [hN]
        have f3 : FrHw σ s3 := ((FrHw.refl.i e1 (by omega)).i e2 (by omega)).i e3 (by omega)
        have g3 : ∀ k j, ¬ (k = 27 ∧ (j = 6 ∨ j = 7 ∨ j = 19)) → s3.1 k j = σ.1 k j := fun k j q => by rw [← e3, yI_ne (by omega), ← e2, yI_ne (by omega), ← e1, yI_ne (by omega)]
        have hw3 : Wa s3 n P F rk := h.ch f3 (g3 0 7 (by omega))
        have now3 : s3.1 110 0 = σ.1 110 0 := g3 110 0 (by omega)
        refine wp_dec (ω := false) hw3 (by rw [g3 110 20 (by omega)]; exact hm) (by rw [g3 110 6 (by omega)]; exact hM) hp M 0 0 0 s3 (by omega) FrHa.refl (by rw [now3, ← e3, yI_ne (by omega), ← e2, yI_ne (by omega), ← e1, yI_at, w1]) (by rw [now3, ← e3, yI_ne (by omega), ← e2, yI_at, w1]) (by decide) (by decide) (fun r σ1 f1 er => ⟨f3.tr f1.w, ?_⟩)
        have k : ∀ k j : Nat, 110 ≤ k → σ1.1 k j = σ.1 k j := fun k j q => (f1.k k j (by omega) (by omega) (by omega)).trans (g3 k j (by omega))
        refine w_isPolicyN (by rw [k 110 32 (by omega)]; omega) (fun _ => ⟨fun z => absurd z n1, fun _ r3 h3 => ⟨p0, hp0, by omega, ⟨by rw [k 131 _ (by omega)]; omega, fun r5 h5 r6 h6 => ?_⟩⟩⟩) (fun q => absurd (by rw [k 110 32 (by omega)]; omega) q)
        rw [k 131 _ (by omega)] at h5
        refine w_inN h3 z0 h6 (fun _ => ⟨fun z => absurd z n1, fun _ => ⟨fun q => ?_, fun _ => ?_⟩⟩) (fun q => absurd (by omega) q)
        · rw [k 110 75 (by omega)] at q
          rw [hl.1] at q3
          omega
        · refine ⟨by rw [k 110 75 (by omega)]; omega, fun r10 h10 s11 e11 => ?_⟩
          rw [hN]
          refine wp_decM (ω := false) (σ := s3) (σ1 := s11) hw3 (by rw [g3 110 26 (by omega)]; exact hb (by omega)) (by rw [g3 110 20 (by omega)]; exact hm) (by rw [g3 110 6 (by omega)]; exact hM) hp M 0 0 0 s11 (by omega) (f1.v.tr (FrMw.refl.i e11 (by omega)).v) FrMa.refl (by decide) (by decide) (fun r2 σ2 f2' er2 => ⟨Int32.toInt_inj.mp (er.trans er2.symm), (FrMw.refl.i e11 (by omega)).tr f2'.w, fun j => ⟨?_, ?_⟩, ⟨?_, ?_⟩, ?_⟩)
          · rw [f2'.1 33 j (by omega) (by omega) (by omega) (by omega) (by omega) (fun _ => by omega), ← e11, yI_ne (by omega), f1.1 33 j (by omega) (by omega) (by omega) (by omega) (fun q => by cases q), g3 33 j (by omega)]
          · rw [f2'.1 156 j (by omega) (by omega) (by omega) (by omega) (by omega) (fun q => by cases q), ← e11, yI_ne (by omega), k 156 j (by omega)]
          · rw [f2'.1 27 18 (by omega) (by omega) (by omega) (by omega) (by omega) (fun _ => by omega), ← e11, yI_ne (by omega), f1.1 27 18 (by omega) (by omega) (by omega) (by omega) (fun _ => by omega), g3 27 18 (by omega)]
          · rw [f2'.1 110 74 (by omega) (by omega) (by omega) (by omega) (by omega) (fun _ => by omega), ← e11, yI_ne (by omega), k 110 74 (by omega)]
          · have a19 : σ2.1 27 19 = r1 := by rw [f2'.1 27 19 (by omega) (by omega) (by omega) (by omega) (by omega) (fun _ => by omega), ← e11, yI_ne (by omega), f1.1 27 19 (by omega) (by omega) (by omega) (by omega) (fun _ => by omega), ← e3, yI_at]
            have a75 : σ2.1 110 75 = r10 := by rw [f2'.1 110 75 (by omega) (by omega) (by omega) (by omega) (by omega) (fun _ => by omega), ← e11, yI_at]
            rw [k 110 75 (by omega)] at h10
            rw [g19, hl.1] at h1
            rw [hl.1] at q3
            rw [a19, a75]
            exact ⟨Int32.toInt_inj.mp (by omega), by omega, by omega⟩
      · refine w_isPolicyN (by omega) (fun _ => ⟨fun z => absurd z n1, fun _ r3 h3 => ⟨p0, hp0, by omega, ⟨by omega, fun r5 h5 r6 h6 => ?_⟩⟩⟩) (fun q => absurd (by omega) q)
        refine w_inN h3 z0 h6 (fun _ => ⟨fun z => absurd z n1, fun _ => ⟨fun _ => ⟨rfl, FrMw.refl, fun _ => ⟨rfl, rfl⟩, ⟨rfl, rfl⟩, hl⟩, fun q => ?_⟩⟩) (fun q => absurd (by omega) q)
        rw [hl.1] at q3
        omega
    · refine w_isPolicyN (by omega) (fun _ => ⟨fun z => absurd z n1, fun _ r3 h3 => ⟨p0, hp0, by omega, ⟨by omega, fun r5 h5 r6 h6 => ?_⟩⟩⟩) (fun q => absurd (by omega) q)
      exact w_inN h3 z0 h6 (fun q' => absurd (by omega) q) (fun _ => ⟨fun _ => ⟨rfl, FrMw.refl, fun _ => ⟨rfl, rfl⟩, ⟨rfl, rfl⟩, hl⟩, fun z => absurd n0 z⟩)
  · exact w_isPolicyN (by omega) (fun q' => absurd (by omega) q) (fun _ => ⟨fun _ => ⟨rfl, FrMw.refl, fun _ => ⟨rfl, rfl⟩, ⟨rfl, rfl⟩, hl⟩, fun z => absurd n0 z⟩)
end N09

end
