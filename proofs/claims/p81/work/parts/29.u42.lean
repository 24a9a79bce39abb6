section
/-! ===== the reference's tokens ===== -/
noncomputable def TxM (τ : zS) (X : Txt) : Prop := ((τ.1 110 1).toInt = (X.2 : Int) ∧ X.2 ≤ 1200) ∧ ∀ p, p < X.2 → (τ.1 111 p).toInt = X.1 p ∧ 0 ≤ X.1 p ∧ X.1 p ≤ 255
theorem TxM.at {τ : zS} {X : Txt} (h : TxM τ X) {p : Nat} (hp : p < X.2) : (τ.1 111 p).toInt = by9 X p ∧ 0 ≤ by9 X p ∧ by9 X p ≤ 255 := by rw [by9_in hp]; exact h.2 p hp
/-- only the token is another one -/
noncomputable def FrKt (σ τ : zS) : Prop := (∀ k j, ¬ (k = 110 ∧ (j = 27 ∨ j = 28 ∨ j = 29 ∨ j = 30)) → τ.1 k j = σ.1 k j) ∧ ∀ k j, ¬ (k = 110 ∧ j = 31) → τ.2 k j = σ.2 k j
theorem FrKt.rf {σ : zS} : FrKt σ σ := ⟨fun _ _ _ => rfl, fun _ _ _ => rfl⟩
theorem FrKt.tr {a b c : zS} (h : FrKt a b) (h' : FrKt b c) : FrKt a c := ⟨fun k j q => (h'.1 k j q).trans (h.1 k j q), fun k j q => (h'.2 k j q).trans (h.2 k j q)⟩
theorem FrKt.i {σ τ : zS} {j : Nat} {v : Int32} (hj : j = 27 ∨ j = 28 ∨ j = 29 ∨ j = 30) (e : zI σ 110 j v = τ) : FrKt σ τ := ⟨fun k i q => by rw [← e, yI_ne (by omega)], fun k i _ => by rw [← e, yI_l]⟩
theorem FrKt.j {σ τ : zS} {v : Int64} (e : zJ σ 110 31 v = τ) : FrKt σ τ := ⟨fun k i _ => by rw [← e, yJ_i], fun k i q => by rw [← e, yJ_ne q]⟩
theorem FrKt.tx {σ τ : zS} {X : Txt} (h : FrKt σ τ) (hx : TxM σ X) : TxM τ X := ⟨⟨by rw [h.1 110 1 (by omega)]; exact hx.1.1, hx.1.2⟩, fun p hp => by rw [h.1 111 p (by omega)]; exact hx.2 p hp⟩
/-- signs, as the reference tells them -/
noncomputable def sgM (X : Txt) (p : Nat) : Int := if pr9 X p = true then (if by9 X p = 62 then 301 else if by9 X (p + 1) = 61 then 300 else 302) else by9 X p
/-- the token at p -/
noncomputable def TkM (τ : zS) (X : Txt) (p : Nat) : Prop := ((τ.1 110 29).toInt = (p : Int) ∧ (τ.1 110 27).toInt = (te9 X p : Int) ∧ (τ.1 110 28).toInt = (kd9 X p : Int)) ∧ (kd9 X p = 1 → (τ.2 110 31).toInt = wv9 X p) ∧ (kd9 X p = 2 → (τ.2 110 31).toInt = nv9w X p) ∧ (kd9 X p = 3 → RlV (dgV X (fe9 X p + 1) (fe9 X (fe9 X p + 1) - (fe9 X p + 1)) (dgV X p (fe9 X p - p) 0)) (fe9 X (fe9 X p + 1) - (fe9 X p + 1)) (τ.2 110 31).toInt) ∧ (kd9 X p = 4 → (τ.1 110 30).toInt = sgM X p)
section L20
variable {τ : zS} {X : Txt} {p : Nat}
theorem w_byteAt {Q : Int32 → zS → Prop} {a : Int32} (hx : TxM τ X) (ha : a.toInt = (p : Int)) (k : ∀ v : Int32, v.toInt = by9 X p → Q v τ) : W_M_byteAt a τ Q := by
  have e := hx.1.1
  have e2 := hx.1.2
  refine ⟨fun c => k _ (by rw [by9_out (X := X) (p := p) (by omega)]; decide), fun c => ⟨p, ha, by omega, k _ (hx.at (by omega)).1⟩⟩
theorem w_isFigureM {Q : Int32 → zS → Prop} {a : Int32} (ha : a.toInt = by9 X p) (k1 : fi9 X p = true → Q 1 τ) (k0 : fi9 X p = false → Q 0 τ) : W_M_isFigure a τ Q := ⟨fun c => k0 (fi_f (by omega)), fun c => ⟨fun d => k0 (fi_f (by omega)), fun d => k1 (fi_t (by omega))⟩⟩
theorem w_isLetterM {Q : Int32 → zS → Prop} {a : Int32} (ha : a.toInt = by9 X p) (k1 : le9 X p = true → Q 1 τ) (k0 : le9 X p = false → Q 0 τ) : W_M_isLetter a τ Q := ⟨fun c => k0 (ltr_f (by omega)), fun c => ⟨fun d => k0 (ltr_f (by omega)), fun d => k1 (ltr_t (by omega))⟩⟩
/-- a sign -/
theorem w_signM {Q : Unit → zS → Prop} {a : Int32} (hx : TxM τ X) (hp : p < X.2) (hle : le9 X p = false) (hfi : fi9 X p = false) (ha : a.toInt = by9 X p) (e27 : (τ.1 110 27).toInt = (p : Int)) (e29 : (τ.1 110 29).toInt = (p : Int)) (k : ∀ τ', FrKt τ τ' → TkM τ' X p → Q () τ') : W_M_sign a τ Q := by
  have hb := hx.at hp
  have hX := hx.1.2
  have kd := kd_sgn hb.2.1 hle hfi
  have te := te_sgn hb.2.1 hle hfi
  have z4 : (4 : Int32).toInt = 4 := by decide
  have z5 : (5 : Int32).toInt = 5 := by decide
  have z300 : (300 : Int32).toInt = 300 := by decide
  have z301 : (301 : Int32).toInt = 301 := by decide
  have z302 : (302 : Int32).toInt = 302 := by decide
  unfold W_M_sign
  refine ⟨by omega, fun r1 h1 => ?_⟩
  refine w_byteAt (p := p + 1) hx (by omega) (fun v2 h2 s3 e3 => ?_)
  have f3 : FrKt τ s3 := FrKt.i (by omega) e3
  have a27 : (s3.1 110 27).toInt = (p : Int) := by rw [← e3, yI_ne (by omega)]; exact e27
  have a28 : (s3.1 110 28).toInt = 4 := by rw [← e3, yI_at]; exact z4
  have a29 : (s3.1 110 29).toInt = (p : Int) := by rw [← e3, yI_ne (by omega)]; exact e29
  -- two bytes
  have two : ∀ g : Int32, pr9 X p = true → g.toInt = sgM X p → ∀ s9 : zS, zI s3 110 30 g = s9 → (-2147483648 ≤ (s9.1 110 27).toInt + 2 ∧ (s9.1 110 27).toInt + 2 ≤ 2147483647) ∧ ∀ r : Int32, r.toInt = (s9.1 110 27).toInt + 2 → ∀ s11 : zS, zI s9 110 27 r = s11 → Q () s11 := fun g q1 q2 s9 e9 => by
    have b27 : (s9.1 110 27).toInt = (p : Int) := by rw [← e9, yI_ne (by omega)]; exact a27
    refine ⟨by omega, fun r h s11 e11 => k s11 ((f3.tr (FrKt.i (by omega) e9)).tr (FrKt.i (by omega) e11)) ?_⟩
    rw [q1, if_pos rfl] at kd te
    refine ⟨⟨?_, ?_, ?_⟩, fun q => absurd q (by omega), fun q => absurd q (by omega), fun q => absurd q (by omega), fun _ => ?_⟩
    · rw [← e11, yI_ne (by omega), ← e9, yI_ne (by omega)]; exact a29
    · rw [← e11, yI_at, te]; omega
    · rw [← e11, yI_ne (by omega), ← e9, yI_ne (by omega), kd]; exact a28
    · rw [← e11, yI_ne (by omega), ← e9, yI_at]; exact q2
  -- one byte
  have one : ∀ (g : Int32) (c : Nat), pr9 X p = false → g.toInt = (c : Int) → kd9 X p = c → (c = 4 ∨ c = 5) → W_M_sign_b194 a g s3 Q := fun g c q1 q2 q3 q4 => by
    intro s4 e4 s5 e5
    have b27 : (s5.1 110 27).toInt = (p : Int) := by rw [← e5, yI_ne (by omega), ← e4, yI_ne (by omega)]; exact a27
    refine ⟨by omega, fun r h s6 e6 => k s6 (((f3.tr (FrKt.i (by omega) e4)).tr (FrKt.i (by omega) e5)).tr (FrKt.i (by omega) e6)) ?_⟩
    rw [q1, if_neg (by decide)] at te
    refine ⟨⟨?_, ?_, ?_⟩, fun q => absurd q (by omega), fun q => absurd q (by omega), fun q => absurd q (by omega), fun _ => ?_⟩
    · rw [← e6, yI_ne (by omega), ← e5, yI_ne (by omega), ← e4, yI_ne (by omega)]; exact a29
    · rw [← e6, yI_at, te]; omega
    · rw [← e6, yI_ne (by omega), ← e5, yI_ne (by omega), ← e4, yI_at, q3]; exact q2
    · rw [← e6, yI_ne (by omega), ← e5, yI_at]
      unfold sgM
      rw [q1, if_neg (by decide)]
      exact ha
  have b94 : pr9 X p = false → W_M_sign_b94 a s3 Q := fun q => by
    rw [q, if_neg (by decide)] at kd
    have yes : (∃ c ∈ SG9, c = by9 X p) → W_M_sign_b178 a s3 Q := fun w => by
      obtain ⟨c, c1, c2⟩ := w
      refine one 4 4 q z4 ?_ (Or.inl rfl)
      rw [kd, if_pos (List.any_eq_true.mpr ⟨c, c1, decide_eq_true c2⟩)]
    refine ⟨fun c => yes ⟨40, by decide, by omega⟩, fun c1 => ⟨fun c => yes ⟨41, by decide, by omega⟩, fun c2 => ⟨fun c => yes ⟨91, by decide, by omega⟩, fun c3 => ⟨fun c => yes ⟨93, by decide, by omega⟩, fun c4 => ⟨fun c => yes ⟨43, by decide, by omega⟩, fun c5 => ⟨fun c => yes ⟨45, by decide, by omega⟩, fun c6 => ⟨fun c => yes ⟨42, by decide, by omega⟩, fun c7 => ⟨fun c => yes ⟨47, by decide, by omega⟩, fun c8 => ⟨fun c => yes ⟨37, by decide, by omega⟩, fun c9 => ⟨fun c => yes ⟨60, by decide, by omega⟩, fun c10 => ⟨fun c => yes ⟨62, by decide, by omega⟩, fun c11 => ⟨fun c => yes ⟨61, by decide, by omega⟩, fun c12 => ⟨fun c => yes ⟨59, by decide, by omega⟩, fun c13 => ⟨fun c => yes ⟨46, by decide, by omega⟩, fun c14 => one 5 5 q z5 ?_ (Or.inr rfl)⟩⟩⟩⟩⟩⟩⟩⟩⟩⟩⟩⟩⟩⟩
    rw [kd, if_neg (fun z => ?_)]
    obtain ⟨c, d1, d2⟩ := List.any_eq_true.mp z
    have d2 := of_decide_eq_true d2
    have : c = 40 ∨ c = 41 ∨ c = 91 ∨ c = 93 ∨ c = 43 ∨ c = 45 ∨ c = 42 ∨ c = 47 ∨ c = 37 ∨ c = 60 ∨ c = 62 ∨ c = 61 ∨ c = 59 ∨ c = 46 := by simpa [SG9] using d1
    omega
  have sg_t : pr9 X p = true → sgM X p = if by9 X p = 62 then 301 else if by9 X (p + 1) = 61 then 300 else 302 := fun q => if_pos q
  have b52 : pr9 X p = true → W_M_sign_b52 a v2 s3 Q := fun q => by
    have sg := sg_t q
    refine ⟨fun c => two 301 q (by rw [sg, if_pos (by omega)]; exact z301), fun c => ⟨fun c' => two 300 q (by rw [sg, if_neg (by omega), if_pos (by omega)]; exact z300), fun c' => two 302 q (by rw [sg, if_neg (by omega), if_neg (by omega)]; exact z302)⟩⟩
  have b28 : ¬ (by9 X p = 60 ∧ by9 X (p + 1) = 61) → W_M_sign_b28 a v2 s3 Q := fun q => by
    refine ⟨fun c1 => ⟨fun c2 => b52 (pr_t (by omega)), fun c2 => ⟨fun c3 => absurd c3 (by omega), fun c3 => b94 (pr_f (by omega))⟩⟩, fun c1 => ⟨fun c3 => ⟨fun c4 => b52 (pr_t (by omega)), fun c4 => b94 (pr_f (by omega))⟩, fun c3 => b94 (pr_f (by omega))⟩⟩
  exact ⟨fun c1 => ⟨fun c2 => b52 (pr_t (by omega)), fun c2 => b28 (by omega)⟩, fun c1 => b28 (by omega)⟩
end L20
/-! ===== the reference's numbers, words, tokens ===== -/
section L21
variable {σ : zS} {X : Txt} {p : Nat} {Q : Unit → zS → Prop}
theorem p15 : ∀ c, c < 16 → (10 : Int) ^ c ≤ 1000000000000000 := by decide
/-- behind the point -/
theorem wl_numM2 {f : Nat} {g5 : Int} (hX : X.2 ≤ 1200) (hp : p < X.2) (h0 : 0 ≤ by9 X p) (hle : le9 X p = false) (hfi : fi9 X p = true) (hpf : p < f) (hf : fe9 X p = f) (hpt : pt9 X f = true) (ib : ∀ j, p ≤ j → j < f → fi9 X j = true) (hg : g5 = if 9 < f - p then 5 else 2) (k : ∀ τ', FrKt σ τ' → TkM τ' X p → Q () τ') : ∀ (N : Nat) (x1 : Int32) (x2 : Int64) (τ : zS) (e : Nat), TxM τ X → FrKt σ τ → (τ.1 110 29).toInt = (p : Int) → (τ.1 110 27).toInt = (e : Int) → (τ.1 110 28).toInt = g5 → x1.toInt = ((f + 1 : Nat) : Int) → f + 1 ≤ e → e ≤ X.2 → (∀ j, f + 1 ≤ j → j < e → fi9 X j = true) → (τ.2 110 31).toInt = dgV X (f + 1) (min (e - (f + 1)) 6) (dgV X p (min (f - p) 9) 0) → x2.toInt = 10 ^ (min (e - (f + 1)) 6) → 1200 - e + 5 ≤ N → (WL_M_number N).2 x1 x2 τ Q
  | 0, _, _, _, _, _, _, _, _, _, _, _, _, _, _, _, h => absurd h (by omega)
  | N + 1, x1, x2, τ, e, tx, fr, e29, e27, e28, h1, hfe, heX, ia, hv, hx2, hN => by
    have ih := wl_numM2 hX hp h0 hle hfi hpf hf hpt ib hg k N
    have kd := kd_fig h0 hle hfi
    have te := te_fig h0 hle hfi
    rw [hf, hpt, if_pos rfl] at kd te
    have bd0 := dgV_in (X := X) (p := p) (v := 0) (b := 0) (by decide) (by decide) (min (f - p) 9) (fun j a b => ib j a (by omega))
    have bd := dgV_in (X := X) (p := f + 1) (v := dgV X p (min (f - p) 9) 0) (b := 0 + min (f - p) 9) bd0.1 bd0.2 (min (e - (f + 1)) 6) (fun j a b => ia j a (by omega))
    have m15 := p15 (0 + min (f - p) 9 + min (e - (f + 1)) 6) (by omega)
    refine wl_M_number_143 ?_
    refine w_byteAt tx e27 (fun v1 hv1 => ?_)
    refine w_isFigureM hv1 (fun f1 => ⟨fun z => absurd z (by decide), fun _ => ?_⟩) (fun f0 => ⟨fun _ => ?_, fun z => absurd rfl z⟩)
    · have hb := fi_by f1
      have heX2 : e < X.2 := by
        apply Classical.byContradiction
        intro z
        rw [by9_out (X := X) (p := e) (by omega)] at hb
        omega
      have ia' : ∀ j, f + 1 ≤ j → j < e + 1 → fi9 X j = true := fun j a b => by
        by_cases g : j = e
        · subst g; exact f1
        · exact ia j a (by omega)
      refine ⟨by omega, fun r7 h7 => ⟨fun q => ⟨by omega, fun r9 h9 s10 e10 => ?_⟩, fun q => ?_⟩⟩
      · have g := FrKt.i (j := 27) (by omega) e10
        refine ih x1 x2 s10 (e + 1) (g.tx tx) (fr.tr g) (by rw [← e10, yI_ne (by omega)]; exact e29) (by rw [← e10, yI_at]; omega) (by rw [← e10, yI_ne (by omega)]; exact e28) h1 (by omega) (by omega) ia' ?_ ?_ (by omega)
        · rw [← e10, yI_l, hv, show min (e - (f + 1)) 6 = min (e + 1 - (f + 1)) 6 by omega]
        · rw [hx2, show min (e - (f + 1)) 6 = min (e + 1 - (f + 1)) 6 by omega]
      · have ec : min (e - (f + 1)) 6 = e - (f + 1) := by omega
        rw [ec] at hv hx2 bd m15
        refine ⟨by omega, fun r11 h11 => ?_⟩
        refine w_byteAt tx e27 (fun v12 hv12 r13 h13 => ⟨by omega, fun r14 h14 => ⟨by omega, fun r15 h15 s16 e16 => ?_⟩⟩)
        have x16 := FrKt.j e16
        have m10 := p15 (e - (f + 1)) (by omega)
        have mp : 0 ≤ (10 : Int) ^ (e - (f + 1)) := by
          have key : ∀ c, c < 16 → 0 ≤ (10 : Int) ^ c := by decide
          exact key _ (by omega)
        have e27' : (s16.1 110 27).toInt = (e : Int) := by rw [← e16, yJ_i]; exact e27
        refine ⟨by omega, fun r17 h17 => ⟨by omega, fun r18 h18 s19 e19 => ?_⟩⟩
        have x19 := FrKt.i (j := 27) (by omega) e19
        refine ih x1 r17 s19 (e + 1) (x19.tx (x16.tx tx)) ((fr.tr x16).tr x19) (by rw [← e19, yI_ne (by omega), ← e16, yJ_i]; exact e29) (by rw [← e19, yI_at]; omega) (by rw [← e19, yI_ne (by omega), ← e16, yJ_i]; exact e28) h1 (by omega) (by omega) ia' ?_ ?_ (by omega)
        · rw [← e19, yI_l, ← e16, yJ_at, show min (e + 1 - (f + 1)) 6 = (e - (f + 1)) + 1 by omega]
          show _ = dgV X (f + 1) (e - (f + 1)) (dgV X p (min (f - p) 9) 0) * 10 + by9 X (f + 1 + (e - (f + 1))) - 48
          rw [show f + 1 + (e - (f + 1)) = e by omega]
          omega
        · rw [show min (e + 1 - (f + 1)) 6 = (e - (f + 1)) + 1 by omega, Int.pow_succ]
          omega
    · have ef : fe9 X (f + 1) = e := by
        have := wh_run (f := fi9 X) (L := X.2) (e - (f + 1)) (f + 1) (by omega) (fun j a b => ia j a (by omega)) (by rw [show f + 1 + (e - (f + 1)) = e by omega]; exact Or.inl f0)
        unfold fe9; rw [this]; omega
      rw [ef] at kd te
      have fin : ∀ (g : Int32), g.toInt = (kd9 X p : Int) → (kd9 X p = 3 → f - p ≤ 9 ∧ e - (f + 1) ≤ 6) → (kd9 X p = 3 ∨ kd9 X p = 5) → W_M_number_b238 (WL_M_number N).1 (WL_M_number N).2 x2 g τ Q := fun g q1 q2 q3 => by
        intro s1 e1
        have v1 : (s1.2 110 31).toInt = (τ.2 110 31).toInt := by rw [← e1, yI_l]
        intro w hw t ht v hv2 s5 e5
        refine k s5 ((fr.tr (FrKt.i (j := 28) (by omega) e1)).tr (FrKt.j e5)) ⟨⟨?_, ?_, ?_⟩, fun q => absurd q (by omega), fun q => absurd q (by omega), fun q => ?_, fun q => absurd q (by omega)⟩
        · rw [← e5, yJ_i, ← e1, yI_ne (by omega)]; exact e29
        · rw [← e5, yJ_i, ← e1, yI_ne (by omega), te]; exact e27
        · rw [← e5, yJ_i, ← e1, yI_at]; exact q1
        · obtain ⟨u1, u2⟩ := q2 q
          rw [← e5, yJ_at, hf, ef]
          rw [v1, hv, show min (e - (f + 1)) 6 = e - (f + 1) by omega, show min (f - p) 9 = f - p by omega] at hw
          rw [hx2, show min (e - (f + 1)) 6 = e - (f + 1) by omega] at ht
          exact ⟨_, _, hw, ht, inL_i t, hv2⟩
      have z3 : (3 : Int32).toInt = 3 := by decide
      have z5 : (5 : Int32).toInt = 5 := by decide
      refine ⟨fun q => ?_, fun q => ⟨by omega, fun r5 h5 => ⟨fun q6 => ?_, fun q6 => ?_⟩⟩⟩
      · have h9 : 9 < f - p := by
          apply Classical.byContradiction
          intro z
          rw [if_neg z] at hg
          omega
        rw [if_pos h9] at kd
        exact fin 5 (by rw [kd]; exact z5) (fun z => absurd z (by omega)) (Or.inr kd)
      · have h9 : ¬ 9 < f - p := fun z => by rw [if_pos z] at hg; omega
        rw [if_neg h9, if_neg (by omega)] at kd
        exact fin 3 (by rw [kd]; exact z3) (fun _ => ⟨by omega, by omega⟩) (Or.inl kd)
      · have h9 : ¬ 9 < f - p := fun z => by rw [if_pos z] at hg; omega
        rw [if_neg h9, if_pos (by omega)] at kd
        exact fin 5 (by rw [kd]; exact z5) (fun z => absurd z (by omega)) (Or.inr kd)
theorem wl_numM1 (hX : X.2 ≤ 1200) (hp : p < X.2) (h0 : 0 ≤ by9 X p) (hle : le9 X p = false) (hfi : fi9 X p = true) (k : ∀ τ', FrKt σ τ' → TkM τ' X p → Q () τ') : ∀ (N : Nat) (τ : zS) (e : Nat), TxM τ X → FrKt σ τ → (τ.1 110 29).toInt = (p : Int) → (τ.1 110 27).toInt = (e : Int) → p ≤ e → e ≤ X.2 → (∀ j, p ≤ j → j < e → fi9 X j = true) → (τ.2 110 31).toInt = dgV X p (min (e - p) 9) 0 → 2600 - 2 * e + 5 ≤ N → (WL_M_number N).1 τ Q
  | 0, _, _, _, _, _, _, _, _, _, _, h => absurd h (by omega)
  | N + 1, τ, e, tx, fr, e29, e27, hpe, heX, ia, hv, hN => by
    have ih := wl_numM1 hX hp h0 hle hfi k N
    have kd := kd_fig h0 hle hfi
    have te := te_fig h0 hle hfi
    have bd := dgV_in (X := X) (p := p) (v := 0) (b := 0) (by decide) (by decide) (min (e - p) 9) (fun j a b => ia j a (by omega))
    have m15 := p15 (0 + min (e - p) 9) (by omega)
    have z2 : (2 : Int32).toInt = 2 := by decide
    have z5 : (5 : Int32).toInt = 5 := by decide
    refine wl_M_number_0 ?_
    refine w_byteAt tx e27 (fun v1 hv1 => ?_)
    refine w_isFigureM hv1 (fun f1 => ⟨fun z => absurd z (by decide), fun _ => ?_⟩) (fun f0 => ⟨fun _ => ?_, fun z => absurd rfl z⟩)
    · have hb := fi_by f1
      have heX2 : e < X.2 := by
        apply Classical.byContradiction
        intro z
        rw [by9_out (X := X) (p := e) (by omega)] at hb
        omega
      have ia' : ∀ j, p ≤ j → j < e + 1 → fi9 X j = true := fun j a b => by
        by_cases g : j = e
        · subst g; exact f1
        · exact ia j a (by omega)
      refine ⟨by omega, fun r6 h6 => ⟨fun q s8 e8 => ?_, fun q => ⟨by omega, fun r11 h11 => ?_⟩⟩⟩
      · have x8 := FrKt.j e8
        have e27' : (s8.1 110 27).toInt = (e : Int) := by rw [← e8, yJ_i]; exact e27
        refine ⟨by omega, fun r9 h9 s10 e10 => ?_⟩
        have x10 := FrKt.i (j := 27) (by omega) e10
        refine ih s10 (e + 1) (x10.tx (x8.tx tx)) ((fr.tr x8).tr x10) (by rw [← e10, yI_ne (by omega), ← e8, yJ_i]; exact e29) (by rw [← e10, yI_at]; omega) (by omega) (by omega) ia' ?_ (by omega)
        rw [← e10, yI_l, ← e8, yJ_at, hv, show min (e - p) 9 = min (e + 1 - p) 9 by omega]
      · have ec : min (e - p) 9 = e - p := by omega
        rw [ec] at hv bd m15
        refine w_byteAt tx e27 (fun v12 hv12 r13 h13 => ⟨by omega, fun r14 h14 => ⟨by omega, fun r15 h15 s16 e16 => ?_⟩⟩)
        have x16 := FrKt.j e16
        have e27' : (s16.1 110 27).toInt = (e : Int) := by rw [← e16, yJ_i]; exact e27
        refine ⟨by omega, fun r17 h17 s18 e18 => ?_⟩
        have x18 := FrKt.i (j := 27) (by omega) e18
        refine ih s18 (e + 1) (x18.tx (x16.tx tx)) ((fr.tr x16).tr x18) (by rw [← e18, yI_ne (by omega), ← e16, yJ_i]; exact e29) (by rw [← e18, yI_at]; omega) (by omega) (by omega) ia' ?_ (by omega)
        rw [← e18, yI_l, ← e16, yJ_at, show min (e + 1 - p) 9 = (e - p) + 1 by omega]
        show _ = dgV X p (e - p) 0 * 10 + by9 X (p + (e - p)) - 48
        rw [show p + (e - p) = e by omega]
        omega
    · have ef : fe9 X p = e := by
        have := wh_run (f := fi9 X) (L := X.2) (e - p) p (by omega) (fun j a b => ia j a (by omega)) (by rw [show p + (e - p) = e by omega]; exact Or.inl f0)
        unfold fe9; rw [this]; omega
      rw [ef] at kd te
      have hpe2 : p < e := by
        apply Classical.byContradiction
        intro z
        have : e = p := by omega
        rw [this, hfi] at f0
        cases f0
      have go : ∀ (g : Int32), g.toInt = (if 9 < e - p then 5 else 2) → W_M_number_b94 (WL_M_number N).1 (WL_M_number N).2 g τ Q := fun g hg => by
        intro s1 e1
        have x1 := FrKt.i (j := 28) (by omega) e1
        have t1 := x1.tx tx
        have a27 : (s1.1 110 27).toInt = (e : Int) := by rw [← e1, yI_ne (by omega)]; exact e27
        have a28 : (s1.1 110 28).toInt = (if 9 < e - p then 5 else 2) := by rw [← e1, yI_at]; exact hg
        have a29 : (s1.1 110 29).toInt = (p : Int) := by rw [← e1, yI_ne (by omega)]; exact e29
        have no : pt9 X e = false → Q () s1 := fun q => by
          rw [q, if_neg (by decide)] at te
          rw [q] at kd
          refine k s1 (fr.tr x1) ⟨⟨a29, by rw [te]; exact a27, ?_⟩, fun z => ?_, fun z => ?_, fun z => ?_, fun z => ?_⟩
          · rw [a28, kd]
            by_cases h9 : 9 < e - p
            · rw [if_pos h9, if_pos h9]; rfl
            · rw [if_neg h9, if_neg h9, if_neg (by decide)]; rfl
          · rw [kd] at z; split at z <;> simp at z
          · have nd := nv_dg z
            rw [nd, ef, ← e1, yI_l, hv]
            rw [kd] at z
            split at z
            · omega
            · rw [show min (e - p) 9 = e - p by omega]
          · rw [kd] at z; split at z <;> simp at z
          · rw [kd] at z; split at z <;> simp at z
        refine w_byteAt t1 a27 (fun v2 hv2 => ⟨fun c => ?_, fun c => no (by unfold pt9; rw [decide_eq_false (by omega)]; rfl)⟩)
        refine ⟨by omega, fun r4 h4 => ?_⟩
        refine w_byteAt (p := e + 1) t1 (by omega) (fun v5 hv5 => ?_)
        refine w_isFigureM hv5 (fun f1 => ⟨fun z => absurd z (by decide), fun _ => ?_⟩) (fun f0' => ⟨fun _ => no (by unfold pt9; rw [f0', Bool.and_false]), fun z => absurd rfl z⟩)
        have hpt : pt9 X e = true := by unfold pt9; rw [decide_eq_true (by omega), f1]; rfl
        have hb := fi_by f1
        have heX3 : e + 1 < X.2 := by
          apply Classical.byContradiction
          intro z
          rw [by9_out (X := X) (p := e + 1) (by omega)] at hb
          omega
        refine ⟨by omega, fun r8 h8 s9 e9 => ?_⟩
        have x9 := FrKt.i (j := 27) (by omega) e9
        have b27 : (s9.1 110 27).toInt = ((e + 1 : Nat) : Int) := by rw [← e9, yI_at]; omega
        refine wl_numM2 (f := e) hX hp h0 hle hfi hpe2 ef hpt ia rfl k N _ 1 s9 (e + 1) (x9.tx t1) ((fr.tr x1).tr x9) (by rw [← e9, yI_ne (by omega)]; exact a29) b27 (by rw [← e9, yI_ne (by omega)]; exact a28) b27 (Nat.le_refl _) (by omega) (fun j a b => absurd b (by omega)) ?_ ?_ (by omega)
        · rw [← e9, yI_l, ← e1, yI_l, hv, Nat.sub_self]; rfl
        · rw [Nat.sub_self]; decide
      refine ⟨by omega, fun r4 h4 => ⟨fun q => go 2 (by rw [if_neg (by omega)]; exact z2), fun q => go 5 (by rw [if_pos (by omega)]; exact z5)⟩⟩
/-- a word -/
theorem wl_wordM (hX : X.2 ≤ 1200) (hp : p < X.2) (h0 : 0 ≤ by9 X p) (hle : le9 X p = true) (k : ∀ τ', FrKt σ τ' → TkM τ' X p → Q () τ') : ∀ (N : Nat) (τ : zS) (e : Nat), TxM τ X → FrKt σ τ → (τ.1 110 29).toInt = (p : Int) → (τ.1 110 28).toInt = 1 → (τ.1 110 27).toInt = (e : Int) → p ≤ e → e ≤ X.2 → (∀ j, p ≤ j → j < e → al9 X j = true) → (e - p ≤ 8 → 0 ≤ (τ.2 110 31).toInt ∧ 2 * (τ.2 110 31).toInt < 256 ^ (e - p)) → vb9 (al9 X) (wg9 X p) X.2 e (τ.2 110 31).toInt = wv9 X p → 1200 - e + 5 ≤ N → (WL_M_token N).2 τ Q
  | 0, _, _, _, _, _, _, _, _, _, _, _, _, h => absurd h (by omega)
  | N + 1, τ, e, tx, fr, e29, e28, e27, hpe, heX, ia, hb, hv, hN => by
    have ih := wl_wordM hX hp h0 hle k N
    have kd := kd_let h0 hle
    have te := te_let h0 hle
    have fin : al9 X e = false → Q () τ := fun q => by
      have ew : we9 X p = e := by
        have := wh_run (f := al9 X) (L := X.2) (e - p) p (by omega) (fun j a b => ia j a (by omega)) (by rw [show p + (e - p) = e by omega]; exact Or.inl q)
        unfold we9; rw [this]; omega
      rw [vb_f q] at hv
      exact k τ fr ⟨⟨e29, by rw [te, ew]; exact e27, by rw [kd]; exact e28⟩, fun _ => hv, fun z => absurd z (by omega), fun z => absurd z (by omega), fun z => absurd z (by omega)⟩
    have go : al9 X e = true → W_M_token_b113 (WL_M_token N).1 (WL_M_token N).2 τ Q := fun q => by
      have hby := al_by q
      have heX2 : e < X.2 := by
        apply Classical.byContradiction
        intro z
        rw [by9_out (X := X) (p := e) (by omega)] at hby
        omega
      rw [vb_t heX2 q] at hv
      have ia' : ∀ j, p ≤ j → j < e + 1 → al9 X j = true := fun j a b => by
        by_cases g : j = e
        · subst g; exact q
        · exact ia j a (by omega)
      refine ⟨by omega, fun r1 h1 => ⟨fun c s3 e3 => ?_, fun c => ?_⟩⟩
      · have x3 := FrKt.j e3
        have e27' : (s3.1 110 27).toInt = (e : Int) := by rw [← e3, yJ_i]; exact e27
        refine ⟨by omega, fun r4 h4 s5 e5 => ?_⟩
        have x5 := FrKt.i (j := 27) (by omega) e5
        refine ih s5 (e + 1) (x5.tx (x3.tx tx)) ((fr.tr x3).tr x5) (by rw [← e5, yI_ne (by omega), ← e3, yJ_i]; exact e29) (by rw [← e5, yI_ne (by omega), ← e3, yJ_i]; exact e28) (by rw [← e5, yI_at]; omega) (by omega) (by omega) ia' (fun z => absurd z (by omega)) ?_ (by omega)
        have : wg9 X p e (τ.2 110 31).toInt = -1 := by unfold wg9; rw [if_neg (by omega)]
        rw [this] at hv
        rw [← e5, yI_l, ← e3, yJ_at]
        exact hv
      · have b := hb (by omega)
        have m256 : (256 : Int) ^ (e - p) ≤ 72057594037927936 := by
          have key : ∀ c, c < 8 → (256 : Int) ^ c ≤ 72057594037927936 := by decide
          exact key _ (by omega)
        refine ⟨by omega, fun r6 h6 => ?_⟩
        refine w_byteAt tx e27 (fun v7 hv7 r8 h8 => ⟨by omega, fun r9 h9 s10 e10 => ?_⟩)
        have x10 := FrKt.j e10
        have e27' : (s10.1 110 27).toInt = (e : Int) := by rw [← e10, yJ_i]; exact e27
        refine ⟨by omega, fun r11 h11 s12 e12 => ?_⟩
        have x12 := FrKt.i (j := 27) (by omega) e12
        have val : (s12.2 110 31).toInt = (τ.2 110 31).toInt * 256 + by9 X e := by rw [← e12, yI_l, ← e10, yJ_at]; omega
        refine ih s12 (e + 1) (x12.tx (x10.tx tx)) ((fr.tr x10).tr x12) (by rw [← e12, yI_ne (by omega), ← e10, yJ_i]; exact e29) (by rw [← e12, yI_ne (by omega), ← e10, yJ_i]; exact e28) (by rw [← e12, yI_at]; omega) (by omega) (by omega) ia' (fun _ => ?_) ?_ (by omega)
        · rw [val, show e + 1 - p = (e - p) + 1 by omega, Int.pow_succ]
          omega
        · have : wg9 X p e (τ.2 110 31).toInt = (τ.2 110 31).toInt * 256 + by9 X e := by unfold wg9; rw [if_pos (by omega)]
          rw [this] at hv
          rw [val]
          exact hv
    refine wl_M_token_85 ?_
    refine w_byteAt tx e27 (fun v1 hv1 => ?_)
    refine w_isLetterM hv1 (fun l1 => ⟨fun z => absurd z (by decide), fun _ => go (al_t (Or.inl l1))⟩) (fun l0 => ⟨fun _ => ?_, fun z => absurd rfl z⟩)
    refine w_byteAt tx e27 (fun v4 hv4 => ?_)
    exact w_isFigureM hv4 (fun f1 => ⟨fun z => absurd z (by decide), fun _ => go (al_t (Or.inr f1))⟩) (fun f0 => ⟨fun _ => fin (al_f l0 f0), fun z => absurd rfl z⟩)
theorem wl_tokenM (hX : X.2 ≤ 1200) {e0 : Nat} (k : ∀ τ', FrKt σ τ' → TkM τ' X (sk9 X e0) → Q () τ') : ∀ (N : Nat) (τ : zS) (e : Nat), TxM τ X → FrKt σ τ → (τ.1 110 27).toInt = (e : Int) → e ≤ X.2 → sk9 X e = sk9 X e0 → 2600 - 2 * e + 50 ≤ N → (WL_M_token N).1 τ Q
  | 0, _, _, _, _, _, _, _, h => absurd h (by omega)
  | N + 1, τ, e, tx, fr, e27, heX, hsk, hN => by
    have ih := wl_tokenM hX k N
    have blank : bl9 X e = true → ∀ s1 : zS, s1 = τ → ((-2147483648 ≤ (s1.1 110 27).toInt + 1 ∧ (s1.1 110 27).toInt + 1 ≤ 2147483647) ∧ ∀ r3 : Int32, r3.toInt = (s1.1 110 27).toInt + 1 → ∀ s4 : zS, zI s1 110 27 r3 = s4 → (WL_M_token N).1 s4 Q) := fun q s1 hs => by
      subst hs
      have heX2 : e < X.2 := by
        apply Classical.byContradiction
        intro z
        have b := by9_out (X := X) (p := e) (by omega)
        rw [bl_f (by omega) (by omega)] at q
        cases q
      refine ⟨by omega, fun r3 h3 s4 e4 => ?_⟩
      have x4 := FrKt.i (j := 27) (by omega) e4
      refine ih s4 (e + 1) (x4.tx tx) (fr.tr x4) (by rw [← e4, yI_at]; omega) (by omega) ?_ (by omega)
      rw [← hsk]
      unfold sk9
      rw [← wh_t heX2 q]
    refine wl_M_token_0 ?_
    refine w_byteAt tx e27 (fun v1 hv1 => ⟨fun c => blank (bl_t (Or.inl (by omega))) τ rfl, fun c => ?_⟩)
    refine w_byteAt tx e27 (fun v5 hv5 => ⟨fun c' => blank (bl_t (Or.inr (by omega))) τ rfl, fun c' => ?_⟩)
    have ep : sk9 X e0 = e := by
      rw [← hsk]
      unfold sk9
      exact wh_f (bl_f (by omega) (by omega))
    rw [ep] at k
    intro s7 e7 s8 e8
    have x7 := FrKt.i (j := 29) (by omega) e7
    have x8 := FrKt.j e8
    have t8 := x8.tx (x7.tx tx)
    have f8 := (fr.tr x7).tr x8
    have a27 : (s8.1 110 27).toInt = (e : Int) := by rw [← e8, yJ_i, ← e7, yI_ne (by omega)]; exact e27
    have a29 : (s8.1 110 29).toInt = (e : Int) := by rw [← e8, yJ_i, ← e7, yI_at]; exact e27
    have a31 : (s8.2 110 31).toInt = 0 := by rw [← e8, yJ_at]; decide
    refine w_byteAt t8 a27 (fun v9 hv9 => ⟨fun c9 => ?_, fun c9 s18 e18 => ?_⟩)
    · have h0 : 0 ≤ by9 X e := by omega
      have hp := by9_lt h0
      refine w_isLetterM hv9 (fun l1 => ⟨fun z => absurd z (by decide), fun _ s17 e17 => ?_⟩) (fun l0 => ⟨fun _ => ?_, fun z => absurd rfl z⟩)
      · have x17 := FrKt.i (j := 28) (by omega) e17
        refine wl_wordM (σ := σ) hX hp h0 l1 k N s17 e (x17.tx t8) (f8.tr x17) (by rw [← e17, yI_ne (by omega)]; exact a29) (by rw [← e17, yI_at]; decide) (by rw [← e17, yI_ne (by omega)]; exact a27) (Nat.le_refl _) heX (fun j a b => absurd b (by omega)) (fun _ => ?_) ?_ (by omega)
        · rw [← e17, yI_l, a31, Nat.sub_self]; decide
        · rw [← e17, yI_l, a31]; rfl
      · refine w_isFigureM hv9 (fun f1 => ⟨fun z => absurd z (by decide), fun _ => ?_⟩) (fun f0 => ⟨fun _ => w_signM t8 hp l0 f0 hv9 a27 a29 (fun τ' fk tk => k τ' (f8.tr fk) tk), fun z => absurd rfl z⟩)
        unfold W_M_number
        refine wl_numM1 (σ := σ) hX hp h0 l0 f1 k fuF s8 e t8 f8 a29 a27 (Nat.le_refl _) heX (fun j a b => absurd b (by omega)) ?_ (by show 2600 - 2 * e + 5 ≤ 100000; omega)
        rw [a31, Nat.sub_self]; rfl
    · have kd := kd_end (X := X) (p := e) (by omega)
      have te : te9 X e = e := by unfold te9; rw [decide_eq_true (by omega)]; rfl
      have x18 := FrKt.i (j := 28) (by omega) e18
      refine k s18 (f8.tr x18) ⟨⟨by rw [← e18, yI_ne (by omega)]; exact a29, by rw [te, ← e18, yI_ne (by omega)]; exact a27, by rw [kd, ← e18, yI_at]; decide⟩, fun z => absurd z (by omega), fun z => absurd z (by omega), fun z => absurd z (by omega), fun z => absurd z (by omega)⟩
/-- the next token -/
theorem w_token {τ : zS} {e : Nat} (tx : TxM τ X) (e27 : (τ.1 110 27).toInt = (e : Int)) (heX : e ≤ X.2) (k : ∀ τ', FrKt τ τ' → TkM τ' X (sk9 X e) → Q () τ') : W_M_token τ Q :=
  wl_tokenM (σ := τ) tx.1.2 k fuF τ e tx FrKt.rf e27 heX rfl (by show 2600 - 2 * e + 50 ≤ 100000; omega)
end L21
/-! ===== the reference at a token: signs, words, numbers, features ===== -/
section L22
variable {τ : zS} {X : Txt} {p : Nat} {Q : Int32 → zS → Prop}
/-- the number of a word's letters -/
noncomputable def n5M (a b c d e : Int) : Int :=
  let v := a
  let v := if b = 0 then v else v * 256 + b
  let v := if c = 0 then v else v * 256 + c
  let v := if d = 0 then v else v * 256 + d
  if e = 0 then v else v * 256 + e
theorem w_isWordV {a b c d e : Int32} (ha : 0 ≤ a.toInt ∧ a.toInt ≤ 255) (hb : 0 ≤ b.toInt ∧ b.toInt ≤ 255) (hc : 0 ≤ c.toInt ∧ c.toInt ≤ 255) (hd : 0 ≤ d.toInt ∧ d.toInt ≤ 255) (he : 0 ≤ e.toInt ∧ e.toInt ≤ 255) (k1 : (τ.1 110 28).toInt = 1 → (τ.2 110 31).toInt = n5M a.toInt b.toInt c.toInt d.toInt e.toInt → Q 1 τ) (k0 : ¬ ((τ.1 110 28).toInt = 1 ∧ (τ.2 110 31).toInt = n5M a.toInt b.toInt c.toInt d.toInt e.toInt) → Q 0 τ) : W_M_isWord a b c d e τ Q := by
  have s86 : ∀ y : Int64, y.toInt = n5M a.toInt b.toInt c.toInt d.toInt e.toInt → W_M_isWord_b86 y τ Q := fun y hy => ⟨fun q => ⟨fun q2 => k1 q (by omega), fun q2 => k0 (fun z => q2 (by omega))⟩, fun q => k0 (fun z => q z.1)⟩
  have s64 : ∀ (y : Int64) (w : Int), y.toInt = w → 0 ≤ w → w ≤ 4294967295 → (if e.toInt = 0 then w else w * 256 + e.toInt) = n5M a.toInt b.toInt c.toInt d.toInt e.toInt → W_M_isWord_b64 e y τ Q := fun y w hy h0 h1 hw => by
    refine ⟨fun q => s86 y (by rw [if_pos q] at hw; omega), fun q => ⟨by omega, fun r2 h2 r3 h3 => ⟨by omega, fun r4 h4 => s86 r4 (by rw [if_neg q] at hw; omega)⟩⟩⟩
  have s42 : ∀ (y : Int64) (w : Int), y.toInt = w → 0 ≤ w → w ≤ 16777215 → (let v := if d.toInt = 0 then w else w * 256 + d.toInt; if e.toInt = 0 then v else v * 256 + e.toInt) = n5M a.toInt b.toInt c.toInt d.toInt e.toInt → W_M_isWord_b42 d e y τ Q := fun y w hy h0 h1 hw => by
    refine ⟨fun q => s64 y w hy h0 (by omega) (by simp only [if_pos q] at hw; exact hw), fun q => ⟨by omega, fun r2 h2 r3 h3 => ⟨by omega, fun r4 h4 => s64 r4 (w * 256 + d.toInt) (by omega) (by omega) (by omega) (by simp only [if_neg q] at hw; exact hw)⟩⟩⟩
  have s22 : ∀ (y : Int64) (w : Int), y.toInt = w → 0 ≤ w → w ≤ 65535 → (let v := if c.toInt = 0 then w else w * 256 + c.toInt; let v := if d.toInt = 0 then v else v * 256 + d.toInt; if e.toInt = 0 then v else v * 256 + e.toInt) = n5M a.toInt b.toInt c.toInt d.toInt e.toInt → W_M_isWord_b22 c d e y τ Q := fun y w hy h0 h1 hw => by
    refine ⟨fun q => s42 y w hy h0 (by omega) (by simp only [if_pos q] at hw; exact hw), fun q => ⟨by omega, fun r2 h2 r3 h3 => ⟨by omega, fun r4 h4 => s42 r4 (w * 256 + c.toInt) (by omega) (by omega) (by omega) (by simp only [if_neg q] at hw; exact hw)⟩⟩⟩
  intro r1 h1
  refine ⟨fun q => s22 r1 a.toInt h1 ha.1 (by omega) (by unfold n5M; simp only [if_pos q]), fun q => ⟨by omega, fun r2 h2 r3 h3 => ⟨by omega, fun r4 h4 => s22 r4 (a.toInt * 256 + b.toInt) (by omega) (by omega) (by omega) (by unfold n5M; simp only [if_neg q])⟩⟩⟩
theorem wv_rc {c : Nat} {v : Int} (hc : 22 ≤ c) (ht : (WDR.all fun e => !(Nat.beq e.2 c) || decide (e.1 = v)) = true) (hl : lkd 21 WDR v = c) : (kd9 X p = 1 ∧ wv9 X p = v) ↔ rc9 X p = c := by
  constructor
  · intro ⟨h1, h2⟩
    unfold rc9
    rw [h1, h2]
    exact hl
  · intro h
    exact rc_wv hc h ht
/-- a word, by its code -/
theorem w_isWordM {a b c d e : Int32} (cd : Nat) (tk : TkM τ X p) (k1 : rc9 X p = cd → Q 1 τ) (k0 : rc9 X p ≠ cd → Q 0 τ) (h : (decide (22 ≤ cd) && decide (0 ≤ a.toInt ∧ a.toInt ≤ 255) && decide (0 ≤ b.toInt ∧ b.toInt ≤ 255) && decide (0 ≤ c.toInt ∧ c.toInt ≤ 255) && decide (0 ≤ d.toInt ∧ d.toInt ≤ 255) && decide (0 ≤ e.toInt ∧ e.toInt ≤ 255) && (WDR.all fun q => !(Nat.beq q.2 cd) || decide (q.1 = n5M a.toInt b.toInt c.toInt d.toInt e.toInt)) && Nat.beq (lkd 21 WDR (n5M a.toInt b.toInt c.toInt d.toInt e.toInt)) cd) = true := by decide) : W_M_isWord a b c d e τ Q := by
  simp only [Bool.and_eq_true, decide_eq_true_eq] at h
  obtain ⟨⟨⟨⟨⟨⟨⟨h1, h2⟩, h3⟩, h4⟩, h5⟩, h6⟩, h7⟩, h8⟩ := h
  have w := wv_rc (X := X) (p := p) h1 h7 (Nat.eq_of_beq_eq_true h8)
  refine w_isWordV h2 h3 h4 h5 h6 (fun q1 q2 => k1 (w.mp ?_)) (fun q => k0 (fun z => q ?_))
  · have kd : kd9 X p = 1 := by have := tk.1.2.2; omega
    exact ⟨kd, by rw [← tk.2.1 kd]; exact q2⟩
  · obtain ⟨z1, z2⟩ := w.mpr z
    exact ⟨by rw [tk.1.2.2, z1]; rfl, by rw [tk.2.1 z1]; exact z2⟩
/-- the reference's signs by their codes -/
noncomputable def SGM : List (Int × Nat) := [(40, 4), (41, 5), (91, 6), (93, 7), (43, 8), (45, 9), (42, 10), (47, 11), (37, 12), (60, 13), (300, 14), (61, 15), (302, 16), (301, 17), (62, 18), (59, 19), (46, 20)]
theorem sgM_sg (h : kd9 X p = 4) (hb : by9 X p ≤ 255) : (sgM X p = sg9 X p ∧ sg9 X p ≤ 255) ∨ (256 ≤ sg9 X p ∧ sg9 X p ≤ 258 ∧ sgM X p = if sg9 X p = 256 then 300 else if sg9 X p = 257 then 301 else 302) := by
  unfold sgM sg9
  cases q : pr9 X p with
  | false => exact Or.inl ⟨rfl, hb⟩
  | true =>
    right
    rw [if_pos rfl]
    by_cases a : by9 X p = 62
    · rw [if_pos a, decide_eq_true a]; exact ⟨(by show (256 : Int) ≤ 257; decide), (by show (257 : Int) ≤ 258; decide), (by show (301 : Int) = if (257 : Int) = 256 then 300 else if (257 : Int) = 257 then 301 else 302; decide)⟩
    · rw [if_neg a, decide_eq_false a]
      by_cases b : by9 X (p + 1) = 61
      · rw [if_pos b, decide_eq_true b]; exact ⟨(by show (256 : Int) ≤ 256; decide), (by show (256 : Int) ≤ 258; decide), (by show (300 : Int) = if (256 : Int) = 256 then 300 else if (256 : Int) = 257 then 301 else 302; decide)⟩
      · rw [if_neg b, decide_eq_false b]; exact ⟨(by show (256 : Int) ≤ 258; decide), (by show (258 : Int) ≤ 258; decide), (by show (302 : Int) = if (258 : Int) = 256 then 300 else if (258 : Int) = 257 then 301 else 302; decide)⟩
/-- what is asked, in the class's numbers -/
noncomputable def sgT (v : Int) : Int := if v = 300 then 256 else if v = 301 then 257 else if v = 302 then 258 else v
theorem w_isSignM {x : Int32} (cd : Nat) (tk : TkM τ X p) (hb : by9 X p ≤ 255) (k1 : rc9 X p = cd → Q 1 τ) (k0 : rc9 X p ≠ cd → Q 0 τ) (h : (decide (4 ≤ cd) && decide (cd ≤ 20) && (SGR.all fun e => !(Nat.beq e.2 cd) || decide (e.1 = sgT x.toInt)) && Nat.beq (lkd 0 SGR (sgT x.toInt)) cd && decide (0 ≤ x.toInt ∧ x.toInt ≤ 302) && !decide (256 ≤ x.toInt ∧ x.toInt ≤ 299)) = true := by decide) : W_M_isSign x τ Q := by
  simp only [Bool.and_eq_true, decide_eq_true_eq, Bool.not_eq_true', decide_eq_false_iff_not] at h
  obtain ⟨⟨⟨⟨⟨h1, h2⟩, h3⟩, h4⟩, h5⟩, h6⟩ := h
  have s := sg_rc (X := X) (p := p) ⟨h1, h2⟩ h3 (Nat.eq_of_beq_eq_true h4)
  have key : kd9 X p = 4 → ((τ.1 110 30).toInt = x.toInt ↔ sg9 X p = sgT x.toInt) := fun q => by
    rw [tk.2.2.2.2 q]
    unfold sgT
    rcases sgM_sg q hb with ⟨a1, a2⟩ | ⟨a1, a2, a3⟩
    · rw [a1]
      constructor
      · intro z
        rw [if_neg (by omega), if_neg (by omega), if_neg (by omega)]; exact z
      · intro z
        split at z
        · omega
        · split at z
          · omega
          · split at z
            · omega
            · exact z
    · rw [a3]
      constructor
      · intro z
        split at z
        · rw [if_pos z.symm]; assumption
        · split at z
          · rw [if_neg (by omega), if_pos z.symm]; assumption
          · rw [if_neg (by omega), if_neg (by omega), if_pos z.symm]; omega
      · intro z
        split at z
        · rw [if_pos z]; omega
        · split at z
          · rw [if_neg (by omega), if_pos z]; omega
          · split at z
            · rw [if_neg (by omega), if_neg (by omega)]; omega
            · omega
  refine ⟨fun q => ?_, fun q => k0 (fun z => q (by rw [tk.1.2.2, (s.mpr z).1]; rfl))⟩
  have kd : kd9 X p = 4 := by have := tk.1.2.2; omega
  exact ⟨fun z => k1 (s.mp ⟨kd, (key kd).mp z⟩), fun z => k0 (fun u => z ((key kd).mpr (s.mpr u).2))⟩
theorem tk_255 {τ : zS} (tx : TxM τ X) : by9 X p ≤ 255 := by
  by_cases h : p < X.2
  · exact (tx.at h).2.2
  · rw [by9_out (by omega)]; decide
/-- letters -/
theorem wv_l {k : Nat} (hk : k < 8) : (kd9 X p = 1 ∧ wv9 X p = 97 + (k : Int)) ↔ rc9 X p = 40 + k := by
  obtain ⟨a, b⟩ := wdr_l k hk
  have e : nv8 [97 + (k : Int)] 0 = 97 + (k : Int) := by show 0 * 256 + (97 + (k : Int)) = _; omega
  rw [e] at a b
  exact wv_rc (by omega) a b
end L22
/-- all but the token, the fault, the feature that was read is as before -/
noncomputable def FrV (σ τ : zS) : Prop := (∀ k j, ¬ (k = 110 ∧ (j = 27 ∨ j = 28 ∨ j = 29 ∨ j = 30 ∨ j = 58 ∨ j = 59)) → τ.1 k j = σ.1 k j) ∧ ∀ k j, ¬ (k = 110 ∧ j = 31) → τ.2 k j = σ.2 k j
theorem FrV.rf {σ : zS} : FrV σ σ := ⟨fun _ _ _ => rfl, fun _ _ _ => rfl⟩
theorem FrV.tr {a b c : zS} (h : FrV a b) (h' : FrV b c) : FrV a c := ⟨fun k j q => (h'.1 k j q).trans (h.1 k j q), fun k j q => (h'.2 k j q).trans (h.2 k j q)⟩
theorem FrKt.v {σ τ : zS} (h : FrKt σ τ) : FrV σ τ := ⟨fun k j q => h.1 k j (by omega), h.2⟩
theorem FrV.i {σ τ : zS} {j : Nat} {v : Int32} (hj : j = 58 ∨ j = 59) (e : zI σ 110 j v = τ) : FrV σ τ := ⟨fun k i q => by rw [← e, yI_ne (by omega)], fun k i _ => by rw [← e, yI_l]⟩
theorem FrV.tx {σ τ : zS} {X : Txt} (h : FrV σ τ) (hx : TxM σ X) : TxM τ X := ⟨⟨by rw [h.1 110 1 (by omega)]; exact hx.1.1, hx.1.2⟩, fun p hp => by rw [h.1 111 p (by omega)]; exact hx.2 p hp⟩
theorem TkM.i {σ τ : zS} {X : Txt} {p j : Nat} {v : Int32} (h : TkM σ X p) (hj : j = 58 ∨ j = 59) (e : zI σ 110 j v = τ) : TkM τ X p := by
  unfold TkM at h ⊢
  rw [← e, yI_ne (by omega), yI_ne (by omega), yI_ne (by omega), yI_ne (by omega), yI_l]
  exact h
section L22b
variable {σ : zS} {X : Txt} {p : Nat} {Q : Int32 → zS → Prop}
/-- a feature: the token is its last one (a fault: its place is told) -/
theorem w_isFeatureM (tx : TxM σ X) (tk : TkM σ X p) (hpX : p ≤ X.2) (k1 : ∀ τ q, ftr (KT9 X) p = okR q → FrV σ τ → TkM τ X (nx9t X (nx9t X p)) → q = nx9t X (nx9t X (nx9t X p)) → 2 ≤ rc9 X p → 2 ≤ rc9 X (nx9t X p) → 2 ≤ rc9 X (nx9t X (nx9t X p)) → (τ.1 110 59).toInt = ftX X p → τ.1 110 58 = σ.1 110 58 → Q 1 τ) (k0 : ∀ τ f, ftr (KT9 X) p = bdR f → FrV σ τ → (τ.1 110 58).toInt = (f : Int) → Q 0 τ) : W_M_isFeature σ Q := by
  have f0 : ftr (KT9 X) p = if (KT9 X).c p = 8 then (if (KT9 X).c (nx9t X p) = 21 then (if (KT9 X).c (nx9t X (nx9t X p)) = 22 then okR (nx9t X (nx9t X (nx9t X p))) else bdR (nx9t X (nx9t X p))) else bdR (nx9t X p)) else bdR p := rfl
  have te_le : ∀ q, q ≤ X.2 → te9 X q ≤ X.2 := fun q hq => by
    by_cases h : 0 ≤ by9 X q
    · exact (te_lt h).2
    · have : te9 X q = q := by unfold te9; rw [decide_eq_true (by omega)]; rfl
      omega
  have sk_le : ∀ q, q ≤ X.2 → sk9 X q ≤ X.2 := fun q hq => wh_le.2 hq
  have fail : ∀ (s : zS) (q : Nat), FrV σ s → TkM s X q → ftr (KT9 X) p = bdR q → ∀ s' : zS, zI s 110 58 (s.1 110 29) = s' → Q 0 s' := fun s q fr tq h s' e => k0 s' q h (fr.tr (FrV.i (by omega) e)) (by rw [← e, yI_at]; exact tq.1.1)
  have go : ∀ y0 : Int32, (y0.toInt = 0 ∧ rc9 X p = 27) ∨ (y0.toInt = 1 ∧ rc9 X p = 28) → W_M_isFeature_b37 y0 σ Q := fun y0 hy => by
    have c8 : (KT9 X).c p = 8 := kc8.mpr (by omega)
    rw [if_pos c8] at f0
    refine ⟨fun _ => ?_, fun z => absurd z (by omega)⟩
    refine w_token tx tk.1.2.1 (te_le p hpX) (fun s2 fr2 tk2 => ?_)
    have tk2 : TkM s2 X (nx9t X p) := tk2
    have t2 := fr2.tx tx
    have l2 : nx9t X p ≤ X.2 := sk_le _ (te_le p hpX)
    refine w_isSignM 20 tk2 (tk_255 t2) (fun c1 => ⟨fun z => absurd z (by decide), fun _ => ?_⟩) (fun c1 => ⟨fun _ => fail s2 _ fr2.v tk2 (by rw [f0, if_neg (fun z => c1 (kc21.mp z))]), fun z => absurd rfl z⟩)
    rw [if_pos (kc21.mpr c1)] at f0
    refine w_token t2 tk2.1.2.1 (te_le _ l2) (fun s5 fr5 tk5 => ?_)
    have tk5 : TkM s5 X (nx9t X (nx9t X p)) := tk5
    have fr5' := fr2.v.tr fr5.v
    have no : ¬ (40 ≤ rc9 X (nx9t X (nx9t X p)) ∧ rc9 X (nx9t X (nx9t X p)) ≤ 47) → ∀ s' : zS, zI s5 110 58 (s5.1 110 29) = s' → Q 0 s' := fun q => fail s5 _ fr5' tk5 (by rw [f0, if_neg (fun z => q (kc22.mp z))])
    have e28 := tk5.1.2.2
    refine ⟨fun c2 => ?_, fun c2 => no (fun z => ?_)⟩
    · have kd : kd9 X (nx9t X (nx9t X p)) = 1 := by omega
      have e31 := tk5.2.1 kd
      have rng : ∀ k : Nat, k < 8 → (wv9 X (nx9t X (nx9t X p)) = 97 + (k : Int) ↔ rc9 X (nx9t X (nx9t X p)) = 40 + k) := fun k hk => ⟨fun z => (wv_l hk).mp ⟨kd, z⟩, fun z => ((wv_l hk).mpr z).2⟩
      refine ⟨fun c3 => no (fun z => ?_), fun c3 => ⟨fun c4 => ?_, fun c4 => no (fun z => ?_)⟩⟩
      · have := (rng (rc9 X (nx9t X (nx9t X p)) - 40) (by omega)).mpr (by omega)
        omega
      · have hr := (rng (wv9 X (nx9t X (nx9t X p)) - 97).toNat (by omega)).mp (by omega)
        refine ⟨by omega, fun r11 h11 => ⟨by omega, fun r12 h12 => ⟨by omega, fun r13 h13 => ⟨by omega, fun r14 h14 s15 e15 => ?_⟩⟩⟩⟩
        refine k1 s15 _ (by rw [f0, if_pos (kc22.mpr (by omega))]) (fr5'.tr (FrV.i (by omega) e15)) (tk5.i (by omega) e15) rfl (by omega) (by omega) (by omega) ?_ ?_
        · rw [← e15, yI_at]
          unfold ftX
          rcases hy with ⟨y1, y2⟩ | ⟨y1, y2⟩
          · rw [if_neg (by omega)]; omega
          · rw [if_pos y2]; omega
        · rw [← e15, yI_ne (by omega), fr5.1 110 58 (by omega), fr2.1 110 58 (by omega)]
      · have := (rng (rc9 X (nx9t X (nx9t X p)) - 40) (by omega)).mpr (by omega)
        omega
    · have := ((wv_l (X := X) (p := nx9t X (nx9t X p)) (k := rc9 X (nx9t X (nx9t X p)) - 40) (by omega)).mpr (by omega)).1
      omega
  unfold W_M_isFeature
  refine w_isWordM 27 tk (fun c1 => ⟨fun z => absurd z (by decide), fun _ => go 0 (Or.inl ⟨by decide, c1⟩)⟩) (fun c1 => ⟨fun _ => ?_, fun z => absurd rfl z⟩)
  refine w_isWordM 28 tk (fun c2 => ⟨fun z => absurd z (by decide), fun _ => go 1 (Or.inr ⟨by decide, c2⟩)⟩) (fun c2 => ⟨fun _ => ⟨fun z => absurd z (by decide), fun _ => fail σ p FrV.rf tk (by rw [f0, if_neg (fun z => absurd (kc8.mp z) (by omega))])⟩, fun z => absurd rfl z⟩)
end L22b
/-! ===== the reference's stack: what waits, the groups, what was emitted ===== -/
noncomputable def cU (x : ItJ) : Nat := if x.1 = 7 ∨ x.1 = 16 then 1 else 0
noncomputable def cB (x : ItJ) : Nat := if x.1 = 7 ∨ x.1 = 16 then 0 else 1
noncomputable def wt9 (x : Nat × ItJ) : Prop := (7 ≤ x.2.1 ∧ x.2.1 ≤ 18 ∧ x.2.1 ≠ 14 ∧ x.2.1 ≠ 15) ∧ ((x.2.1 = 7 ∧ x.1 = 7) ∨ (x.2.1 = 16 ∧ x.1 = 3) ∨ (x.2.1 ≠ 7 ∧ x.2.1 ≠ 16 ∧ x.1 ≠ 3 ∧ x.1 ≠ 7))
noncomputable def WtR (τ : zS) (b : Nat) : WtJ → Prop
  | [] => True
  | x :: l => ((τ.1 148 (b + l.length)).toInt = (x.2.1 : Int) ∧ (τ.1 149 (b + l.length)).toInt = (x.1 : Int) ∧ (τ.1 150 (b + l.length)).toInt = x.2.2) ∧ wt9 x ∧ WtR τ b l
noncomputable def GrR (τ : zS) (n b : Nat) (g : GfE) : Prop := ((τ.1 143 n).toInt = (g.1 : Int) ∧ (τ.1 144 n).toInt = (bif g.2.1 then 1 else 0) ∧ (τ.1 145 n).toInt = (g.2.2.1 : Int)) ∧ (τ.1 146 n).toInt = (b : Int) ∧ (g.1 = 3 → (τ.1 147 n).toInt = g.2.2.2.1 ∧ 0 ≤ g.2.2.2.1 ∧ g.2.2.2.1 ≤ 15)
noncomputable def GsR (τ : zS) : List GfE → Nat → Prop
  | [], W => W = 0
  | g :: gs, W => ∃ b : Nat, GrR τ gs.length b g ∧ W = b + g.2.2.2.2.length ∧ WtR τ b g.2.2.2.2 ∧ GsR τ gs b
noncomputable def EmL (τ : zS) (f0 : Nat) (E : List ItJ) : Prop := ∀ (i : Nat) (x : ItJ), E[i]? = some x → ((τ.1 141 (f0 + i)).toInt = (x.1 : Int) ∧ (τ.2 142 (f0 + i)).toInt = x.2) ∧ x.1 ≤ 18 ∧ (x.1 = 4 ∨ x.1 = 5 ∨ x.1 = 6 ∨ x.1 = 14 ∨ x.1 = 15 → 0 ≤ x.2 ∧ x.2 ≤ 15)
noncomputable def qrL : List ItJ → Int → Option Int
  | [], h => some h
  | x :: l, h => match qst (x.1 : Int) h with
    | some h' => qrL l h'
    | none => none
noncomputable def nbw : WtJ → Nat
  | [] => 0
  | x :: l => cB x.2 + nbw l
noncomputable def bsm : List GfE → Nat
  | [] => 0
  | g :: gs => nbw g.2.2.2.2 + bsm gs
noncomputable def dsm : List GfE → Nat
  | [] => 0
  | g :: gs => dpE g.2.2.2.2 + dsm gs
section L23
variable {τ τ' : zS} {f0 B P deep dx v : Nat} {E : List ItJ} {G gs : List GfE}
theorem dpE_c {x : Nat × ItJ} {l : WtJ} : dpE (x :: l) = cU x.2 + dpE l := rfl
theorem nbw_c {x : Nat × ItJ} {l : WtJ} : nbw (x :: l) = cB x.2 + nbw l := rfl
theorem WtR.eq {b : Nat} : ∀ {l : WtJ}, (∀ k j : Nat, 148 ≤ k → k ≤ 150 → j < b + l.length → τ'.1 k j = τ.1 k j) → WtR τ b l → WtR τ' b l
  | [], _, _ => trivial
  | x :: l, h, ⟨⟨a1, a2, a3⟩, w, r⟩ => by
    have e : (x :: l).length = l.length + 1 := rfl
    exact ⟨⟨by rw [h 148 _ (by omega) (by omega) (by omega)]; exact a1, by rw [h 149 _ (by omega) (by omega) (by omega)]; exact a2, by rw [h 150 _ (by omega) (by omega) (by omega)]; exact a3⟩, w, WtR.eq (fun k j q q2 hj => h k j q q2 (by omega)) r⟩
theorem GrR.eq {n b : Nat} {g : GfE} (h : ∀ k : Nat, 143 ≤ k → k ≤ 147 → τ'.1 k n = τ.1 k n) (r : GrR τ n b g) : GrR τ' n b g := by
  unfold GrR at r ⊢
  rw [h 143 (by omega) (by omega), h 144 (by omega) (by omega), h 145 (by omega) (by omega), h 146 (by omega) (by omega), h 147 (by omega) (by omega)]
  exact r
theorem GsR.eq : ∀ {gs : List GfE} {W : Nat}, (∀ k j : Nat, 143 ≤ k → k ≤ 147 → j < gs.length → τ'.1 k j = τ.1 k j) → (∀ k j : Nat, 148 ≤ k → k ≤ 150 → j < W → τ'.1 k j = τ.1 k j) → GsR τ gs W → GsR τ' gs W
  | [], _, _, _, h => h
  | g :: gs, W, h1, h2, ⟨b, r, hw, w, s⟩ => by
    have e : (g :: gs).length = gs.length + 1 := rfl
    exact ⟨b, r.eq (fun k a c => h1 k _ a c (by omega)), hw, w.eq (fun k j a c d => h2 k j a c (by omega)), s.eq (fun k j a c d => h1 k j a c (by omega)) (fun k j a c d => h2 k j a c (by omega))⟩
theorem get_lt {x : ItJ} {i : Nat} (h : E[i]? = some x) : i < E.length := by
  rcases Nat.lt_or_ge i E.length with a | a
  · exact a
  · rw [List.getElem?_eq_none a] at h; cases h
theorem EmL.eq (h : ∀ j : Nat, f0 ≤ j → j < f0 + E.length → τ'.1 141 j = τ.1 141 j ∧ τ'.2 142 j = τ.2 142 j) (q : EmL τ f0 E) : EmL τ' f0 E := fun i x hx => by
  have hi := get_lt hx
  obtain ⟨a, b⟩ := h (f0 + i) (by omega) (by omega)
  rw [a, b]
  exact q i x hx
theorem EmL.add {x : ItJ} (q : EmL τ f0 E) (h1 : (τ.1 141 (f0 + E.length)).toInt = (x.1 : Int)) (h2 : (τ.2 142 (f0 + E.length)).toInt = x.2) (h3 : x.1 ≤ 18) (h4 : x.1 = 4 ∨ x.1 = 5 ∨ x.1 = 6 ∨ x.1 = 14 ∨ x.1 = 15 → 0 ≤ x.2 ∧ x.2 ≤ 15) : EmL τ f0 (E ++ [x]) := fun i y hy => by
  rcases Nat.lt_or_ge i E.length with a | a
  · rw [List.getElem?_append_left a] at hy
    exact q i y hy
  · rw [List.getElem?_append_right a] at hy
    have hi := get_lt hy
    have e1 : [x].length = 1 := rfl
    have e : i = E.length := by omega
    subst e
    rw [Nat.sub_self] at hy
    have hy : some x = some y := hy
    cases Option.some.inj hy
    exact ⟨⟨h1, h2⟩, h3, h4⟩
theorem qrL_add : ∀ {l : List ItJ} {h h' h'' : Int} {x : ItJ}, qrL l h = some h' → qst (x.1 : Int) h' = some h'' → qrL (l ++ [x]) h = some h''
  | [], h, h', h'', x, e, q => by
    cases Option.some.inj e
    show (match qst (x.1 : Int) h with | some h' => qrL [] h' | none => none) = some h''
    rw [q]
    rfl
  | y :: l, h, h', h'', x, e, q => by
    have e : (match qst (y.1 : Int) h with | some h' => qrL l h' | none => none) = some h' := e
    show (match qst (y.1 : Int) h with | some h' => qrL (l ++ [x]) h' | none => none) = some h''
    cases u : qst (y.1 : Int) h with
    | none => rw [u] at e; cases e
    | some z =>
      rw [u] at e
      exact qrL_add (l := l) e q
/-- the stack's state: P bounds what was pushed and emitted, dx is what the depth is ahead, v values stand above -/
noncomputable def StM (τ : zS) (f0 B P deep dx : Nat) (G : List GfE) (E : List ItJ) (v : Nat) : Prop := ∃ W : Nat, (((τ.1 110 56).toInt = (W : Int) ∧ GsR τ G W) ∧ ((τ.1 110 52).toInt + 1 = (G.length : Int) ∧ (τ.1 110 57).toInt = (deep : Int) ∧ deep ≤ 20 ∧ deep + 1 = G.length + dsm G + dx)) ∧ ((τ.1 110 46).toInt = ((f0 + E.length : Nat) : Int) ∧ EmL τ f0 E ∧ qrL E 0 = some ((bsm G + v : Nat) : Int)) ∧ (f0 + E.length + W ≤ B + P ∧ B ≤ f0 ∧ B ≤ 9100 ∧ P ≤ 1200)
noncomputable def SmS (τ τ' : zS) : Prop := (∀ j : Nat, j = 46 ∨ j = 52 ∨ j = 56 ∨ j = 57 → τ'.1 110 j = τ.1 110 j) ∧ (∀ k j : Nat, 141 ≤ k → k ≤ 150 → τ'.1 k j = τ.1 k j) ∧ ∀ j : Nat, τ'.2 142 j = τ.2 142 j
theorem StM.eq (h : SmS τ τ') (s : StM τ f0 B P deep dx G E v) : StM τ' f0 B P deep dx G E v := by
  obtain ⟨W, ⟨⟨a1, a2⟩, a3, a4, a5, a6⟩, ⟨b1, b2, b3⟩, c⟩ := s
  exact ⟨W, ⟨⟨by rw [h.1 56 (by omega)]; exact a1, a2.eq (fun k j q q2 _ => h.2.1 k j (by omega) (by omega)) (fun k j q q2 _ => h.2.1 k j (by omega) (by omega))⟩, by rw [h.1 52 (by omega)]; exact a3, by rw [h.1 57 (by omega)]; exact a4, a5, a6⟩, ⟨by rw [h.1 46 (by omega)]; exact b1, b2.eq (fun j _ _ => ⟨h.2.1 141 j (by omega) (by omega), h.2.2 j⟩), b3⟩, c⟩
theorem StM.le {P' : Nat} (h : P ≤ P') (h' : P' ≤ 1200) (s : StM τ f0 B P deep dx G E v) : StM τ f0 B P' deep dx G E v := by
  obtain ⟨W, a, b, c1, c2, c3, c4⟩ := s
  exact ⟨W, a, b, by omega, c2, c3, h'⟩
theorem SmS.i {j : Nat} {x : Int32} (hj : ¬ (j = 46 ∨ j = 52 ∨ j = 56 ∨ j = 57)) (e : zI τ 110 j x = τ') : SmS τ τ' := ⟨fun i hi => by rw [← e, yI_ne (by omega)], fun k i a b => by rw [← e, yI_ne (by omega)], fun i => by rw [← e, yI_l]⟩
theorem FrV.ss (h : FrV τ τ') : SmS τ τ' := ⟨fun i hi => h.1 110 i (by omega), fun k i a b => h.1 k i (by omega), fun i => h.2 142 i (by omega)⟩
/-- an emission's frame; a stack step's frame; all of a condition's -/
noncomputable def FrE (f0 : Nat) (σ τ : zS) : Prop := (∀ k j : Nat, ¬ (k = 110 ∧ j = 46) → ¬ (k = 141 ∧ f0 ≤ j) → τ.1 k j = σ.1 k j) ∧ ∀ k j : Nat, ¬ (k = 142 ∧ f0 ≤ j) → τ.2 k j = σ.2 k j
noncomputable def FrX (f0 : Nat) (σ τ : zS) : Prop := (∀ k j : Nat, ¬ (k = 110 ∧ (j = 46 ∨ j = 52 ∨ j = 56 ∨ j = 57)) → ¬ (143 ≤ k ∧ k ≤ 150) → ¬ (k = 141 ∧ f0 ≤ j) → τ.1 k j = σ.1 k j) ∧ ∀ k j : Nat, ¬ (k = 142 ∧ f0 ≤ j) → τ.2 k j = σ.2 k j
noncomputable def FrM (f0 : Nat) (σ τ : zS) : Prop := (∀ k j : Nat, ¬ (k = 110 ∧ (j = 46 ∨ j = 52 ∨ j = 56 ∨ j = 57 ∨ (27 ≤ j ∧ j ≤ 30) ∨ (58 ≤ j ∧ j ≤ 61))) → ¬ (143 ≤ k ∧ k ≤ 150) → ¬ (k = 141 ∧ f0 ≤ j) → τ.1 k j = σ.1 k j) ∧ ∀ k j : Nat, ¬ (k = 142 ∧ f0 ≤ j) → ¬ (k = 110 ∧ j = 31) → τ.2 k j = σ.2 k j
theorem FrE.x {a b : zS} (h : FrE f0 a b) : FrX f0 a b := ⟨fun k j q _ q3 => h.1 k j (by omega) q3, h.2⟩
theorem FrX.m {a b : zS} (h : FrX f0 a b) : FrM f0 a b := ⟨fun k j q q2 q3 => h.1 k j (by omega) q2 q3, fun k j q _ => h.2 k j q⟩
theorem FrV.m {a b : zS} (h : FrV a b) : FrM f0 a b := ⟨fun k j q q2 q3 => h.1 k j (by omega), fun k j _ q => h.2 k j q⟩
theorem FrX.rf {a : zS} : FrX f0 a a := ⟨fun _ _ _ _ _ => rfl, fun _ _ _ => rfl⟩
theorem FrX.tr {a b c : zS} (h : FrX f0 a b) (h' : FrX f0 b c) : FrX f0 a c := ⟨fun k j q q2 q3 => (h'.1 k j q q2 q3).trans (h.1 k j q q2 q3), fun k j q => (h'.2 k j q).trans (h.2 k j q)⟩
theorem FrM.rf {a : zS} : FrM f0 a a := ⟨fun _ _ _ _ _ => rfl, fun _ _ _ _ => rfl⟩
theorem FrM.tr {a b c : zS} (h : FrM f0 a b) (h' : FrM f0 b c) : FrM f0 a c := ⟨fun k j q q2 q3 => (h'.1 k j q q2 q3).trans (h.1 k j q q2 q3), fun k j q q2 => (h'.2 k j q q2).trans (h.2 k j q q2)⟩
theorem FrX.i {a b : zS} {k j : Nat} {x : Int32} (hk : (k = 110 ∧ (j = 46 ∨ j = 52 ∨ j = 56 ∨ j = 57)) ∨ (143 ≤ k ∧ k ≤ 150)) (e : zI a k j x = b) : FrX f0 a b := ⟨fun k' j' q q2 _ => by rw [← e, yI_ne (by omega)], fun k' j' _ => by rw [← e, yI_l]⟩
theorem FrM.i {a b : zS} {j : Nat} {x : Int32} (hj : (27 ≤ j ∧ j ≤ 30) ∨ (58 ≤ j ∧ j ≤ 61)) (e : zI a 110 j x = b) : FrM f0 a b := ⟨fun k' j' q q2 _ => by rw [← e, yI_ne (by omega)], fun k' j' _ _ => by rw [← e, yI_l]⟩
theorem FrM.tx {a b : zS} {X : Txt} (h : FrM f0 a b) (hx : TxM a X) : TxM b X := ⟨⟨by rw [h.1 110 1 (by omega) (by omega) (by omega)]; exact hx.1.1, hx.1.2⟩, fun p hp => by rw [h.1 111 p (by omega) (by omega) (by omega)]; exact hx.2 p hp⟩
theorem FrX.tk {a b : zS} {X : Txt} {p : Nat} (h : FrX f0 a b) (ht : TkM a X p) : TkM b X p := by
  unfold TkM at ht ⊢
  rw [h.1 110 29 (by omega) (by omega) (by omega), h.1 110 27 (by omega) (by omega) (by omega), h.1 110 28 (by omega) (by omega) (by omega), h.1 110 30 (by omega) (by omega) (by omega), h.2 110 31 (by omega)]
  exact ht
/-- emit -/
theorem w_emitM {Q : Unit → zS → Prop} {x1 : Int32} {x2 : Int64} {x : ItJ} {v' : Nat} (s : StM τ f0 B P deep dx G E v) (hP : P + 1 ≤ 1200) (e1 : x1.toInt = (x.1 : Int)) (e2 : x2.toInt = x.2) (h3 : x.1 ≤ 18) (h4 : x.1 = 4 ∨ x.1 = 5 ∨ x.1 = 6 ∨ x.1 = 14 ∨ x.1 = 15 → 0 ≤ x.2 ∧ x.2 ≤ 15) (hq : qst (x.1 : Int) ((bsm G + v : Nat) : Int) = some ((bsm G + v' : Nat) : Int)) (k : ∀ τ', FrE f0 τ τ' → StM τ' f0 B (P + 1) deep dx G (E ++ [x]) v' → Q () τ') : W_M_emit x1 x2 τ Q := by
  obtain ⟨W, ⟨⟨a1, a2⟩, a3, a4, a5, a6⟩, ⟨b1, b2, b3⟩, c1, c2, c3, c4⟩ := s
  refine ⟨f0 + E.length, b1, by omega, fun s2 q2 => ⟨f0 + E.length, by rw [← q2, yI_ne (by omega)]; exact b1, by omega, fun s4 q4 => ?_⟩⟩
  have d46 : (s4.1 110 46).toInt = ((f0 + E.length : Nat) : Int) := by rw [← q4, yJ_i, ← q2, yI_ne (by omega)]; exact b1
  refine ⟨by omega, fun r5 h5 s6 q6 => ?_⟩
  have ci : ∀ k j : Nat, ¬ (k = 110 ∧ j = 46) → ¬ (k = 141 ∧ j = f0 + E.length) → s6.1 k j = τ.1 k j := fun k j q q' => by rw [← q6, yI_ne q, ← q4, yJ_i, ← q2, yI_ne q']
  have cl : ∀ k j : Nat, ¬ (k = 142 ∧ j = f0 + E.length) → s6.2 k j = τ.2 k j := fun k j q => by rw [← q6, yI_l, ← q4, yJ_ne q, ← q2, yI_l]
  have e46 : (s6.1 110 46).toInt = ((f0 + (E ++ [x]).length : Nat) : Int) := by
    rw [← q6, yI_at, List.length_append]
    have : [x].length = 1 := rfl
    omega
  refine k s6 ⟨fun k j q q' => ci k j q (by omega), fun k j q => cl k j (by omega)⟩ ⟨W, ⟨⟨by rw [ci 110 56 (by omega) (by omega)]; exact a1, a2.eq (fun k j q q' _ => ci k j (by omega) (by omega)) (fun k j q q' _ => ci k j (by omega) (by omega))⟩, by rw [ci 110 52 (by omega) (by omega)]; exact a3, by rw [ci 110 57 (by omega) (by omega)]; exact a4, a5, a6⟩, ⟨e46, EmL.add (b2.eq (fun j q q' => ⟨ci 141 j (by omega) (by omega), cl 142 j (by omega)⟩)) ?_ ?_ h3 h4, qrL_add b3 hq⟩, ?_, c2, c3, hP⟩
  · rw [← q6, yI_ne (by omega), ← q4, yJ_i, ← q2, yI_at]; exact e1
  · rw [← q6, yI_l, ← q4, yJ_at]; exact e2
  · rw [List.length_append]
    have : [x].length = 1 := rfl
    omega
theorem qst_u {x : ItJ} {n : Nat} (h : x.1 = 5 ∨ x.1 = 7 ∨ x.1 = 14 ∨ x.1 = 16) (hn : 1 ≤ n) : qst (x.1 : Int) (n : Int) = some (n : Int) := qst1 (by unfold qop; rw [if_neg (by omega), if_pos (by omega)]) (by omega)
theorem qst_p {x : ItJ} {n m : Nat} (h : x.1 ≤ 4 ∨ x.1 = 6 ∨ x.1 = 15) (hn : m = n + 1) : qst (x.1 : Int) (n : Int) = some (m : Int) := by
  rw [qst0 (by unfold qop; rw [if_pos (by omega)])]
  congr 1; omega
theorem qst_b {x : ItJ} {n m : Nat} (h : 7 ≤ x.1 ∧ x.1 ≠ 7 ∧ x.1 ≠ 14 ∧ x.1 ≠ 15 ∧ x.1 ≠ 16) (hn : n = m + 1) (hm : 1 ≤ m) : qst (x.1 : Int) (n : Int) = some (m : Int) := by
  rw [qst2 (by unfold qop; rw [if_neg (by omega), if_neg (by omega)]) (by omega)]
  congr 1; omega
theorem lft_dp (r : Nat) : ∀ {l : WtJ}, dpE (lft9 r l) ≤ dpE l
  | [] => Nat.le_refl _
  | x :: l => by
    by_cases h : r ≤ x.1
    · have e : lft9 r (x :: l) = lft9 r l := if_pos h
      rw [e, dpE_c]
      have := lft_dp r (l := l)
      omega
    · have e : lft9 r (x :: l) = x :: l := if_neg h
      rw [e]
      exact Nat.le_refl _
/-- one that waits goes -/
theorem popM {kd pa : Nat} {cd : Bool} {f : Int} {x : Nat × ItJ} {l : WtJ} {r : Int32} (s : StM τ f0 B (P + 1) deep dx ((kd, (cd, (pa, (f, x :: l)))) :: gs) E v) (hr : r.toInt = (τ.1 110 56).toInt - 1) (e : zI τ 110 56 r = τ') : StM τ' f0 B P deep (dx + cU x.2) ((kd, (cd, (pa, (f, l)))) :: gs) E (v + cB x.2) := by
  obtain ⟨W, ⟨⟨a1, b, g1, g2, g3, g4⟩, a3, a4, a5, a6⟩, ⟨b1, b2, b3⟩, c1, c2, c3, c4⟩ := s
  have ci : ∀ k j : Nat, ¬ (k = 110 ∧ j = 56) → τ'.1 k j = τ.1 k j := fun k j q => by rw [← e, yI_ne q]
  have el : (x :: l).length = l.length + 1 := rfl
  have g2 : W = b + (x :: l).length := g2
  have ed : dsm ((kd, (cd, (pa, (f, x :: l)))) :: gs) = cU x.2 + dpE l + dsm gs := rfl
  have ed' : dsm ((kd, (cd, (pa, (f, l)))) :: gs) = dpE l + dsm gs := rfl
  have eb : bsm ((kd, (cd, (pa, (f, x :: l)))) :: gs) = cB x.2 + nbw l + bsm gs := rfl
  have eb' : bsm ((kd, (cd, (pa, (f, l)))) :: gs) = nbw l + bsm gs := rfl
  have en : ((kd, (cd, (pa, (f, x :: l)))) :: gs : List GfE).length = gs.length + 1 := rfl
  have en' : ((kd, (cd, (pa, (f, l)))) :: gs : List GfE).length = gs.length + 1 := rfl
  refine ⟨b + l.length, ⟨⟨by rw [← e, yI_at]; omega, b, g1.eq (fun k q q' => ci k _ (by omega)), rfl, g3.2.2.eq (fun k j q q' _ => ci k j (by omega)), g4.eq (fun k j q q' _ => ci k j (by omega)) (fun k j q q' _ => ci k j (by omega))⟩, by rw [ci 110 52 (by omega)]; exact a3, by rw [ci 110 57 (by omega)]; exact a4, a5, by omega⟩, ⟨by rw [ci 110 46 (by omega)]; exact b1, b2.eq (fun j _ _ => ⟨ci 141 j (by omega), by rw [← e, yI_l]⟩), ?_⟩, by omega, c2, c3, by omega⟩
  rw [b3, eb, eb']
  congr 2; omega
theorem lessM {c : Nat} {r : Int32} (s : StM τ f0 B P deep (dx + c) G E v) (hG : 1 ≤ G.length) (hr : r.toInt = (τ.1 110 57).toInt - (c : Int)) (e : zI τ 110 57 r = τ') : StM τ' f0 B P (deep - c) dx G E v := by
  obtain ⟨W, ⟨⟨a1, a2⟩, a3, a4, a5, a6⟩, ⟨b1, b2, b3⟩, c0⟩ := s
  have ci : ∀ k j : Nat, ¬ (k = 110 ∧ j = 57) → τ'.1 k j = τ.1 k j := fun k j q => by rw [← e, yI_ne q]
  exact ⟨W, ⟨⟨by rw [ci 110 56 (by omega)]; exact a1, a2.eq (fun k j q q' _ => ci k j (by omega)) (fun k j q q' _ => ci k j (by omega))⟩, by rw [ci 110 52 (by omega)]; exact a3, by rw [← e, yI_at]; omega, by omega, by omega⟩, ⟨by rw [ci 110 46 (by omega)]; exact b1, b2.eq (fun j _ _ => ⟨ci 141 j (by omega), by rw [← e, yI_l]⟩), b3⟩, c0⟩
theorem moreM {r : Int32} (s : StM τ f0 B P deep dx G E v) (hd : deep ≠ 20) (hr : r.toInt = (τ.1 110 57).toInt + 1) (e : zI τ 110 57 r = τ') : StM τ' f0 B P (deep + 1) (dx + 1) G E v := by
  obtain ⟨W, ⟨⟨a1, a2⟩, a3, a4, a5, a6⟩, ⟨b1, b2, b3⟩, c0⟩ := s
  have ci : ∀ k j : Nat, ¬ (k = 110 ∧ j = 57) → τ'.1 k j = τ.1 k j := fun k j q => by rw [← e, yI_ne q]
  exact ⟨W, ⟨⟨by rw [ci 110 56 (by omega)]; exact a1, a2.eq (fun k j q q' _ => ci k j (by omega)) (fun k j q q' _ => ci k j (by omega))⟩, by rw [ci 110 52 (by omega)]; exact a3, by rw [← e, yI_at]; omega, by omega, by omega⟩, ⟨by rw [ci 110 46 (by omega)]; exact b1, b2.eq (fun j _ _ => ⟨ci 141 j (by omega), by rw [← e, yI_l]⟩), b3⟩, c0⟩
end L23
/-! ===== the reference's stack: reduce, hold back, open, close ===== -/
section L24
variable {τ τ' : zS} {f0 B P deep dx v : Nat} {E : List ItJ} {G gs : List GfE} {Q : Unit → zS → Prop}
theorem StM.top {g : GfE} (s : StM τ f0 B P deep dx (g :: gs) E v) : (τ.1 110 52).toInt = (gs.length : Int) ∧ gs.length < 24 ∧ ∃ b : Nat, GrR τ gs.length b g := by
  obtain ⟨W, ⟨⟨a1, b, g1, g2, g3, g4⟩, a3, a4, a5, a6⟩, _⟩ := s
  have en : (g :: gs).length = gs.length + 1 := rfl
  exact ⟨by omega, by omega, b, g1⟩
theorem wl_reduceM {r : Int32} {R kd pa : Nat} {cd : Bool} {f : Int} (hr : r.toInt = (R : Int)) : ∀ (N : Nat) (w : WtJ) (τ : zS) (deep : Nat) (E : List ItJ), StM τ f0 B P deep dx ((kd, (cd, (pa, (f, w)))) :: gs) E 1 → w.length + 1 ≤ N → (∀ τ', FrX f0 τ τ' → StM τ' f0 B P (ddE R deep w) dx ((kd, (cd, (pa, (f, lft9 R w)))) :: gs) (E ++ pop9 R w) 1 → Q () τ') → WL_M_reduce N r τ Q
  | 0, w, _, _, _, _, hN, _ => absurd hN (by omega)
  | N + 1, [], τ, deep, E, s, hN, k => by
    obtain ⟨t1, t2, _⟩ := s.top
    have k := k τ FrX.rf (by
      have e : ddE R deep [] = deep := by show deep - (0 - 0) = deep; omega
      rw [e]
      show StM τ f0 B P deep dx ((kd, (cd, (pa, (f, [])))) :: gs) (E ++ []) 1
      rw [List.append_nil]; exact s)
    obtain ⟨W, ⟨⟨a1, b, g1, g2, g3, g4⟩, _⟩, _⟩ := s
    have g2 : W = b + 0 := g2
    have g146 := g1.2.1
    refine wl_M_reduce_0 ⟨gs.length, t1, t2, fun _ => k, fun z => absurd z ?_⟩
    omega
  | N + 1, x :: l, τ, deep, E, s, hN, k => by
    obtain ⟨t1, t2, _⟩ := s.top
    have hN : l.length + 1 + 1 ≤ N + 1 := hN
    have s0 := s
    obtain ⟨W, ⟨⟨a1, b, g1, g2, g3, g4⟩, a3, a4, a5, a6⟩, ⟨b1, b2, b3⟩, c1, c2, c3, c4⟩ := s
    have g2 : W = b + (l.length + 1) := g2
    have g146 := g1.2.1
    obtain ⟨⟨w1, w2, w3⟩, w4, w5⟩ := g3
    refine wl_M_reduce_0 ⟨gs.length, t1, t2, fun z => absurd z (by omega), fun _ => ⟨by omega, fun r3 h3 => ⟨b + l.length, by omega, by omega, fun c => ?_, fun c => ⟨by omega, fun r6 h6 s7 e7 => ?_⟩⟩⟩⟩
    · have hx : ¬ R ≤ x.1 := by omega
      have e1 : lft9 R (x :: l) = x :: l := if_neg hx
      have e2 : pop9 R (x :: l) = [] := if_neg hx
      refine k τ FrX.rf ?_
      have e : ddE R deep (x :: l) = deep := by unfold ddE; rw [e1]; omega
      rw [e, e1, e2, List.append_nil]
      exact s0
    · have hx : R ≤ x.1 := by omega
      have e1 : lft9 R (x :: l) = lft9 R l := if_pos hx
      have e2 : pop9 R (x :: l) = x.2 :: pop9 R l := if_pos hx
      have hPe : P - 1 + 1 = P := by omega
      have s7' := popM (P := P - 1) (by rw [hPe]; exact s0) (by omega) e7
      have f7 : FrX f0 τ s7 := FrX.i (by omega) e7
      have i7 : ∀ k j : Nat, ¬ (k = 110 ∧ j = 56) → s7.1 k j = τ.1 k j := fun k j q => by rw [← e7, yI_ne q]
      have d56 : (s7.1 110 56).toInt = ((b + l.length : Nat) : Int) := by rw [← e7, yI_at]; omega
      refine ⟨b + l.length, d56, by omega, fun r9 h9 => ?_⟩
      have u := w4
      unfold wt9 at u
      have hbs : 1 ≤ bsm ((kd, (cd, (pa, (f, l)))) :: gs) + 1 := by omega
      refine w_emitM (x := x.2) (v' := 1) s7' (by omega) (by rw [i7 148 _ (by omega)]; exact w1) (by rw [h9, i7 150 _ (by omega)]; exact w3) (by omega) (fun z => absurd z (by omega)) ?_ (fun s10 f10 st10 => ?_)
      · by_cases hu : x.2.1 = 7 ∨ x.2.1 = 16
        · have : cB x.2 = 0 := if_pos hu
          rw [this]
          exact qst_u (by omega) (by omega)
        · have : cB x.2 = 1 := if_neg hu
          rw [this]
          exact qst_b (by omega) (by omega) (by omega)
      · rw [hPe] at st10
        have j56 : (s10.1 110 56).toInt = ((b + l.length : Nat) : Int) := by rw [f10.1 110 56 (by omega) (by omega)]; exact d56
        have j148 : (s10.1 148 (b + l.length)).toInt = (x.2.1 : Int) := by rw [f10.1 148 _ (by omega) (by omega), i7 148 _ (by omega)]; exact w1
        have j57 : (s10.1 110 57).toInt = (deep : Int) := by rw [f10.1 110 57 (by omega) (by omega), i7 110 57 (by omega)]; exact a4
        have ld := lft_dp R (l := l)
        have fin : ∀ (c : Nat) (r' : Int32) (s' : zS), c = cU x.2 → r'.toInt = (s10.1 110 57).toInt - (c : Int) → zI s10 110 57 r' = s' → WL_M_reduce N r s' Q := fun c r' s' hc hr' e' => by
          have st := lessM (c := cU x.2) st10 (by show 1 ≤ gs.length + 1; omega) (by rw [← hc]; exact hr') e'
          refine wl_reduceM hr N l s' _ _ st (by omega) (fun s'' f'' st'' => k s'' ((f7.tr f10.x).tr ((FrX.i (by omega) e').tr f'')) ?_)
          have ed : ddE R deep (x :: l) = ddE R (deep - cU x.2) l := by
            unfold ddE
            rw [e1, dpE_c]
            omega
          rw [ed, e1, e2]
          rw [List.append_assoc] at st''
          exact st''
        refine ⟨b + l.length, j56, by omega, fun q => ⟨by omega, fun r' h' s' e' => fin 1 r' s' ?_ h' e'⟩, fun q => ⟨fun q2 => ⟨by omega, fun r' h' s' e' => fin 1 r' s' ?_ h' e'⟩, fun q2 => ⟨by omega, fun r' h' s' e' => fin 0 r' s' ?_ h' e'⟩⟩⟩
        · exact (if_pos (by omega)).symm
        · exact (if_pos (by omega)).symm
        · exact (if_neg (by omega)).symm
theorem w_reduceM {r : Int32} (R : Nat) {kd pa : Nat} {cd : Bool} {f : Int} {w : WtJ} (hr : r.toInt = (R : Int)) (s : StM τ f0 B P deep dx ((kd, (cd, (pa, (f, w)))) :: gs) E 1) (k : ∀ τ', FrX f0 τ τ' → StM τ' f0 B P (ddE R deep w) dx ((kd, (cd, (pa, (f, lft9 R w)))) :: gs) (E ++ pop9 R w) 1 → Q () τ') : W_M_reduce r τ Q := by
  have hl : w.length ≤ 1300 := by
    obtain ⟨W, ⟨⟨a1, b, g1, g2, g3, g4⟩, _⟩, _, c⟩ := s
    have g2 : W = b + w.length := g2
    omega
  exact wl_reduceM hr fuF w τ deep E s (by show w.length + 1 ≤ 100000; omega) k
theorem w_holdM {a1 a2 a3 : Int32} (x : Nat × ItJ) {kd pa : Nat} {cd : Bool} {f : Int} {w : WtJ} (s : StM τ f0 B P deep (dx + cU x.2) ((kd, (cd, (pa, (f, w)))) :: gs) E (v + cB x.2)) (hP : P + 1 ≤ 1200) (e1 : a1.toInt = (x.2.1 : Int)) (e2 : a2.toInt = (x.1 : Int)) (e3 : a3.toInt = x.2.2) (hx : wt9 x) (k : ∀ τ', FrX f0 τ τ' → StM τ' f0 B (P + 1) deep dx ((kd, (cd, (pa, (f, x :: w)))) :: gs) E v → Q () τ') : W_M_holdBack a1 a2 a3 τ Q := by
  obtain ⟨W, ⟨⟨p1, b, g1, g2, g3, g4⟩, p3, p4, p5, p6⟩, ⟨b1, b2, b3⟩, c1, c2, c3, c4⟩ := s
  have g2 : W = b + w.length := g2
  refine ⟨W, p1, by omega, fun s2 q2 => ⟨W, by rw [← q2, yI_ne (by omega)]; exact p1, by omega, fun s4 q4 => ⟨W, by rw [← q4, yI_ne (by omega), ← q2, yI_ne (by omega)]; exact p1, by omega, fun s6 q6 => ?_⟩⟩⟩
  have d56 : (s6.1 110 56).toInt = (W : Int) := by rw [← q6, yI_ne (by omega), ← q4, yI_ne (by omega), ← q2, yI_ne (by omega)]; exact p1
  refine ⟨by omega, fun r7 h7 s8 q8 => ?_⟩
  have ci : ∀ k j : Nat, ¬ (k = 110 ∧ j = 56) → ¬ (148 ≤ k ∧ k ≤ 150 ∧ j = W) → s8.1 k j = τ.1 k j := fun k j q q' => by rw [← q8, yI_ne q, ← q6, yI_ne (by omega), ← q4, yI_ne (by omega), ← q2, yI_ne (by omega)]
  have cl : s8.2 = τ.2 := by rw [← q8, yI_l, ← q6, yI_l, ← q4, yI_l, ← q2, yI_l]
  have el : (x :: w).length = w.length + 1 := rfl
  have ed : dsm ((kd, (cd, (pa, (f, x :: w)))) :: gs) = cU x.2 + dpE w + dsm gs := rfl
  have ed' : dsm ((kd, (cd, (pa, (f, w)))) :: gs) = dpE w + dsm gs := rfl
  have eb : bsm ((kd, (cd, (pa, (f, x :: w)))) :: gs) = cB x.2 + nbw w + bsm gs := rfl
  have eb' : bsm ((kd, (cd, (pa, (f, w)))) :: gs) = nbw w + bsm gs := rfl
  have en : ((kd, (cd, (pa, (f, x :: w)))) :: gs : List GfE).length = gs.length + 1 := rfl
  have en' : ((kd, (cd, (pa, (f, w)))) :: gs : List GfE).length = gs.length + 1 := rfl
  refine k s8 ⟨fun k j q q' _ => ci k j (by omega) (by omega), fun k j _ => by rw [cl]⟩ ⟨W + 1, ⟨⟨by rw [← q8, yI_at]; omega, b, g1.eq (fun k q q' => ci k _ (by omega) (by omega)), by show W + 1 = b + (x :: w).length; omega, ⟨⟨?_, ?_, ?_⟩, hx, g3.eq (fun k j q q' (hj : j < b + w.length) => ci k j (by omega) (by omega))⟩, g4.eq (fun k j q q' _ => ci k j (by omega) (by omega)) (fun k j q q' _ => ci k j (by omega) (by omega))⟩, by rw [ci 110 52 (by omega) (by omega)]; omega, by rw [ci 110 57 (by omega) (by omega)]; exact p4, p5, by omega⟩, ⟨by rw [ci 110 46 (by omega) (by omega)]; exact b1, b2.eq (fun j _ _ => ⟨ci 141 j (by omega) (by omega), by rw [cl]⟩), ?_⟩, by omega, c2, c3, hP⟩
  · show (s8.1 148 (b + w.length)).toInt = _
    rw [← g2, ← q8, yI_ne (by omega), ← q6, yI_ne (by omega), ← q4, yI_ne (by omega), ← q2, yI_at]; exact e1
  · show (s8.1 149 (b + w.length)).toInt = _
    rw [← g2, ← q8, yI_ne (by omega), ← q6, yI_ne (by omega), ← q4, yI_at]; exact e2
  · show (s8.1 150 (b + w.length)).toInt = _
    rw [← g2, ← q8, yI_ne (by omega), ← q6, yI_at]; exact e3
  · rw [b3, eb, eb']
    congr 2; omega
theorem w_opensM {a1 a2 : Int32} {kn : Nat} {f : Int} (s : StM τ f0 B P deep (dx + 1) G E v) (e1 : a1.toInt = (kn : Int)) (e2 : kn = 3 → a2.toInt = f ∧ 0 ≤ f ∧ f ≤ 15) (k : ∀ τ', FrX f0 τ τ' → StM τ' f0 B P deep dx ((kn, (false, (0, (f, [])))) :: G) E v → Q () τ') : W_M_opens a1 a2 τ Q := by
  obtain ⟨W, ⟨⟨p1, p2⟩, p3, p4, p5, p6⟩, ⟨b1, b2, b3⟩, c1, c2, c3, c4⟩ := s
  refine ⟨by omega, fun r1 h1 s2 q2 => ?_⟩
  have d2 : (s2.1 110 52).toInt = (G.length : Int) := by rw [← q2, yI_at]; omega
  refine ⟨G.length, d2, by omega, fun s4 q4 => ⟨G.length, by rw [← q4, yI_ne (by omega)]; exact d2, by omega, fun s6 q6 => ⟨G.length, by rw [← q6, yI_ne (by omega), ← q4, yI_ne (by omega)]; exact d2, by omega, fun s8 q8 => ?_⟩⟩⟩
  have d8 : (s8.1 110 52).toInt = (G.length : Int) := by rw [← q8, yI_ne (by omega), ← q6, yI_ne (by omega), ← q4, yI_ne (by omega)]; exact d2
  refine ⟨G.length, d8, by omega, fun s10 q10 => ⟨G.length, by rw [← q10, yI_ne (by omega)]; exact d8, by omega, fun s12 q12 => ?_⟩⟩
  have ci : ∀ k j : Nat, ¬ (k = 110 ∧ j = 52) → ¬ (143 ≤ k ∧ k ≤ 147 ∧ j = G.length) → s12.1 k j = τ.1 k j := fun k j q q' => by rw [← q12, yI_ne (by omega), ← q10, yI_ne (by omega), ← q8, yI_ne (by omega), ← q6, yI_ne (by omega), ← q4, yI_ne (by omega), ← q2, yI_ne q]
  have cl : s12.2 = τ.2 := by rw [← q12, yI_l, ← q10, yI_l, ← q8, yI_l, ← q6, yI_l, ← q4, yI_l, ← q2, yI_l]
  have c52 : s12.1 110 52 = s8.1 110 52 := by rw [← q12, yI_ne (by omega), ← q10, yI_ne (by omega)]
  have c56 : s8.1 110 56 = τ.1 110 56 := by rw [← q8, yI_ne (by omega), ← q6, yI_ne (by omega), ← q4, yI_ne (by omega), ← q2, yI_ne (by omega)]
  have en : ((kn, (false, (0, (f, [])))) :: G : List GfE).length = G.length + 1 := rfl
  have ed : dsm ((kn, (false, (0, (f, [])))) :: G) = 0 + dsm G := rfl
  have eb : bsm ((kn, (false, (0, (f, [])))) :: G) = 0 + bsm G := rfl
  refine k s12 ⟨fun k j q q' _ => ci k j (by omega) (by omega), fun k j _ => by rw [cl]⟩ ⟨W, ⟨⟨by rw [ci 110 56 (by omega) (by omega)]; exact p1, W, ⟨⟨?_, ?_, ?_⟩, ?_, fun z => ⟨?_, (e2 z).2⟩⟩, rfl, trivial, p2.eq (fun k j q q' _ => ci k j (by omega) (by omega)) (fun k j q q' _ => ci k j (by omega) (by omega))⟩, by rw [c52]; omega, by rw [ci 110 57 (by omega) (by omega)]; exact p4, p5, by omega⟩, ⟨by rw [ci 110 46 (by omega) (by omega)]; exact b1, b2.eq (fun j _ _ => ⟨ci 141 j (by omega) (by omega), by rw [cl]⟩), ?_⟩, c1, c2, c3, c4⟩
  · rw [← q12, yI_ne (by omega), ← q10, yI_ne (by omega), ← q8, yI_ne (by omega), ← q6, yI_ne (by omega), ← q4, yI_at]; exact e1
  · rw [← q12, yI_ne (by omega), ← q10, yI_ne (by omega), ← q8, yI_ne (by omega), ← q6, yI_at]; rfl
  · rw [← q12, yI_ne (by omega), ← q10, yI_ne (by omega), ← q8, yI_at]; rfl
  · rw [← q12, yI_ne (by omega), ← q10, yI_at, c56]; exact p1
  · rw [← q12, yI_at]; exact (e2 z).1
  · rw [b3, eb]
    congr 2; omega
/-- the top group's fields -/
theorem setM {k n : Nat} {x : Int32} {kd pa pa' : Nat} {cd cd' : Bool} {f : Int} {w : WtJ} (s : StM τ f0 B P deep dx ((kd, (cd, (pa, (f, w)))) :: gs) E v) (hn : n = gs.length) (h : (k = 144 ∧ x.toInt = (bif cd' then 1 else 0) ∧ pa' = pa) ∨ (k = 145 ∧ x.toInt = (pa' : Int) ∧ cd' = cd)) (e : zI τ k n x = τ') : StM τ' f0 B P deep dx ((kd, (cd', (pa', (f, w)))) :: gs) E v := by
  subst hn
  obtain ⟨W, ⟨⟨p1, b, ⟨⟨r1, r2, r3⟩, r4, r5⟩, g2, g3, g4⟩, p3, p4, p5, p6⟩, ⟨b1, b2, b3⟩, c⟩ := s
  have ci : ∀ k' j : Nat, ¬ (k' = k ∧ j = gs.length) → τ'.1 k' j = τ.1 k' j := fun k' j q => by rw [← e, yI_ne q]
  refine ⟨W, ⟨⟨by rw [ci 110 56 (by omega)]; exact p1, b, ⟨⟨by rw [ci 143 _ (by omega)]; exact r1, ?_, ?_⟩, by rw [ci 146 _ (by omega)]; exact r4, fun z => by rw [ci 147 _ (by omega)]; exact r5 z⟩, g2, g3.eq (fun k j q q' _ => ci k j (by omega)), g4.eq (fun k j q q' _ => ci k j (by omega)) (fun k j q q' _ => ci k j (by omega))⟩, by rw [ci 110 52 (by omega)]; exact p3, by rw [ci 110 57 (by omega)]; exact p4, p5, p6⟩, ⟨by rw [ci 110 46 (by omega)]; exact b1, b2.eq (fun j _ _ => ⟨ci 141 j (by omega), by rw [← e, yI_l]⟩), b3⟩, c⟩
  · rcases h with ⟨rfl, h1, _⟩ | ⟨rfl, _, h2⟩
    · rw [← e, yI_at]; exact h1
    · rw [ci 144 _ (by omega), h2]; exact r2
  · rcases h with ⟨rfl, _, h2⟩ | ⟨rfl, h1, _⟩
    · rw [ci 145 _ (by omega), h2]; exact r3
    · rw [← e, yI_at]; exact h1
/-- the top group goes: nothing waits in it -/
theorem closeM {x : Int32} {kd pa : Nat} {cd : Bool} {f : Int} (s : StM τ f0 B P deep dx ((kd, (cd, (pa, (f, [])))) :: G) E v) (hx : x.toInt = (τ.1 110 52).toInt - 1) (e : zI τ 110 52 x = τ') : StM τ' f0 B P deep (dx + 1) G E v := by
  obtain ⟨W, ⟨⟨p1, b, g1, g2, g3, g4⟩, p3, p4, p5, p6⟩, ⟨b1, b2, b3⟩, c⟩ := s
  have g2 : W = b + 0 := g2
  have g2 : W = b := g2
  subst g2
  have ci : ∀ k' j : Nat, ¬ (k' = 110 ∧ j = 52) → τ'.1 k' j = τ.1 k' j := fun k' j q => by rw [← e, yI_ne q]
  have en : ((kd, (cd, (pa, (f, [])))) :: G : List GfE).length = G.length + 1 := rfl
  have ed : dsm ((kd, (cd, (pa, (f, [])))) :: G) = 0 + dsm G := rfl
  have eb : bsm ((kd, (cd, (pa, (f, [])))) :: G) = 0 + bsm G := rfl
  refine ⟨W, ⟨⟨by rw [ci 110 56 (by omega)]; exact p1, g4.eq (fun k j q q' _ => ci k j (by omega)) (fun k j q q' _ => ci k j (by omega))⟩, by rw [← e, yI_at]; omega, by rw [ci 110 57 (by omega)]; exact p4, p5, by omega⟩, ⟨by rw [ci 110 46 (by omega)]; exact b1, b2.eq (fun j _ _ => ⟨ci 141 j (by omega), by rw [← e, yI_l]⟩), ?_⟩, c⟩
  rw [b3, eb]
  congr 2; omega
end L24

end
