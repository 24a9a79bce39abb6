section
/-! ===== the class's text and its tokens (over FD's texts of the reader) ===== -/
section L01
variable {X : Txt} {p : Nat}
theorem fi_t (h : 48 ≤ by9 X p ∧ by9 X p ≤ 57) : fi9 X p = true := by unfold fi9; rw [decide_eq_true h.1, decide_eq_true h.2]; rfl
theorem fi_f (h : ¬ (48 ≤ by9 X p ∧ by9 X p ≤ 57)) : fi9 X p = false := by
  unfold fi9
  by_cases a : 48 ≤ by9 X p
  · rw [decide_eq_false (p := by9 X p ≤ 57) (fun b => h ⟨a, b⟩), Bool.and_false]
  · rw [decide_eq_false a, Bool.false_and]
theorem fi_by (h : fi9 X p = true) : 48 ≤ by9 X p ∧ by9 X p ≤ 57 := by
  apply Classical.byContradiction
  intro q
  rw [fi_f q] at h
  cases h
theorem ltr_t (h : 97 ≤ by9 X p ∧ by9 X p ≤ 122) : le9 X p = true := by unfold le9; rw [decide_eq_true h.1, decide_eq_true h.2]; rfl
theorem ltr_f (h : ¬ (97 ≤ by9 X p ∧ by9 X p ≤ 122)) : le9 X p = false := by
  unfold le9
  by_cases a : 97 ≤ by9 X p
  · rw [decide_eq_false (p := by9 X p ≤ 122) (fun b => h ⟨a, b⟩), Bool.and_false]
  · rw [decide_eq_false a, Bool.false_and]
theorem ltr_by (h : le9 X p = true) : 97 ≤ by9 X p ∧ by9 X p ≤ 122 := by
  apply Classical.byContradiction
  intro q
  rw [ltr_f q] at h
  cases h
theorem by9_in (h : p < X.2) : by9 X p = X.1 p := if_pos h
theorem by9_out (h : X.2 ≤ p) : by9 X p = -1 := if_neg (by omega)
end L01
/-- the class's text -/
noncomputable def TxC (σ : zS) (X : Txt) : Prop := ((σ.1 17 9).toInt = (X.2 : Int) ∧ X.2 ≤ 1200) ∧ ∀ p, p < X.2 → (σ.1 23 p).toInt = X.1 p ∧ 0 ≤ X.1 p ∧ X.1 p ≤ 255
theorem TxC.at {σ : zS} {X : Txt} (h : TxC σ X) {p : Nat} (hp : p < X.2) : (σ.1 23 p).toInt = by9 X p ∧ 0 ≤ by9 X p ∧ by9 X p ≤ 255 := by rw [by9_in hp]; exact h.2 p hp
section L01b
variable {σ : zS} {X : Txt} {Q : Int32 → zS → Prop} {a : Int32} {p : Nat}
theorem w_isFigure (hx : TxC σ X) (ha : a.toInt = (p : Int)) (k1 : fi9 X p = true → Q 1 σ) (k0 : fi9 X p = false → Q 0 σ) : W_Po_isFigure a σ Q := by
  have e := hx.1.1
  have e2 := hx.1.2
  unfold W_Po_isFigure
  refine ⟨fun c => k0 (fi_f (by rw [by9_out (X := X) (p := p) (by omega)]; omega)), fun c => ?_⟩
  have hb := hx.at (p := p) (by omega)
  exact ⟨p, ha, by omega, fun c1 => k0 (fi_f (by omega)), fun c1 => ⟨fun c2 => k0 (fi_f (by omega)), fun c2 => k1 (fi_t (by omega))⟩⟩
theorem w_isLetter (hx : TxC σ X) (ha : a.toInt = (p : Int)) (k1 : le9 X p = true → Q 1 σ) (k0 : le9 X p = false → Q 0 σ) : W_Po_isLetter a σ Q := by
  have e := hx.1.1
  have e2 := hx.1.2
  unfold W_Po_isLetter
  refine ⟨fun c => k0 (ltr_f (by rw [by9_out (X := X) (p := p) (by omega)]; omega)), fun c => ?_⟩
  have hb := hx.at (p := p) (by omega)
  exact ⟨p, ha, by omega, fun c1 => k0 (ltr_f (by omega)), fun c1 => ⟨fun c2 => k0 (ltr_f (by omega)), fun c2 => k1 (ltr_t (by omega))⟩⟩
end L01b
/-- a token was added -/
noncomputable def AdT (σ τ : zS) (n : Nat) (kd pl : Int32) (v : Int64) : Prop := ((τ.1 17 13).toInt = (n : Int) + 1 ∧ τ.1 24 n = kd ∧ τ.1 25 n = pl ∧ τ.2 26 n = v) ∧ (∀ k j, ¬ ((k = 24 ∨ k = 25) ∧ j = n) → ¬ (k = 17 ∧ j = 13) → τ.1 k j = σ.1 k j) ∧ ∀ k j, ¬ (k = 26 ∧ j = n) → τ.2 k j = σ.2 k j
theorem w_addToken {σ : zS} {Q : Unit → zS → Prop} {kd pl : Int32} {v : Int64} {n : Nat} (hn : (σ.1 17 13).toInt = (n : Int)) (hn2 : n ≤ 1200) (k : ∀ τ, AdT σ τ n kd pl v → Q () τ) : W_Po_addToken kd pl v σ Q := by
  unfold W_Po_addToken
  refine ⟨fun c => absurd c (by omega), fun c => ⟨n, hn, by omega, fun s3 e3 => ?_⟩⟩
  have a3 : s3.1 17 13 = σ.1 17 13 := by rw [← e3, yI_ne (by omega)]
  refine ⟨n, by rw [a3]; exact hn, by omega, fun s5 e5 => ?_⟩
  have a5 : s5.1 17 13 = σ.1 17 13 := by rw [← e5, yI_ne (by omega), a3]
  refine ⟨n, by rw [a5]; exact hn, by omega, fun s7 e7 => ?_⟩
  have a7 : s7.1 17 13 = σ.1 17 13 := by rw [← e7, yJ_i, a5]
  rw [a7]
  refine ⟨by omega, fun r8 h8 s9 e9 => k s9 ?_⟩
  refine ⟨⟨?_, ?_, ?_, ?_⟩, ?_, ?_⟩
  · rw [← e9, yI_at]; omega
  · rw [← e9, yI_ne (by omega), ← e7, yJ_i, ← e5, yI_ne (by omega), ← e3, yI_at]
  · rw [← e9, yI_ne (by omega), ← e7, yJ_i, ← e5, yI_at]
  · rw [← e9, yI_l, ← e7, yJ_at]
  · intro k j q1 q2
    rw [← e9, yI_ne q2, ← e7, yJ_i, ← e5, yI_ne (by omega), ← e3, yI_ne (by omega)]
  · intro k j q
    rw [← e9, yI_l, ← e7, yJ_ne q, ← e5, yI_l, ← e3, yI_l]
theorem inL_i (t : Int64) : inL t.toInt := ⟨Int64.le_toInt t, by have := Int64.toInt_lt t; omega⟩
/-! ===== what a token is, case by case ===== -/
section L02
variable {X : Txt} {p : Nat}
theorem kd_end (h : by9 X p < 0) : kd9 X p = 0 := by unfold kd9; rw [decide_eq_true h]; rfl
theorem kd_let (h0 : 0 ≤ by9 X p) (h : le9 X p = true) : kd9 X p = 1 := by unfold kd9; rw [decide_eq_false (by omega), h]; rfl
theorem kd_fig (h0 : 0 ≤ by9 X p) (h1 : le9 X p = false) (h : fi9 X p = true) : kd9 X p = if 9 < fe9 X p - p then 5 else if pt9 X (fe9 X p) = true then (if 6 < fe9 X (fe9 X p + 1) - (fe9 X p + 1) then 5 else 3) else 2 := by
  unfold kd9
  rw [decide_eq_false (p := by9 X p < 0) (by omega), h1, h]
  show (bif decide (9 < fe9 X p - p) then 5 else bif pt9 X (fe9 X p) then (bif decide (6 < fe9 X (fe9 X p + 1) - (fe9 X p + 1)) then 5 else 3) else 2) = _
  by_cases a : 9 < fe9 X p - p
  · rw [decide_eq_true a, if_pos a]; rfl
  · rw [decide_eq_false a, if_neg a]
    cases b : pt9 X (fe9 X p) with
    | false => rfl
    | true =>
      rw [if_pos rfl]
      by_cases c : 6 < fe9 X (fe9 X p + 1) - (fe9 X p + 1)
      · rw [decide_eq_true c, if_pos c]; rfl
      · rw [decide_eq_false c, if_neg c]; rfl
theorem te_let (h0 : 0 ≤ by9 X p) (h : le9 X p = true) : te9 X p = we9 X p := by unfold te9; rw [decide_eq_false (by omega), h]; rfl
theorem te_fig (h0 : 0 ≤ by9 X p) (h1 : le9 X p = false) (h : fi9 X p = true) : te9 X p = if pt9 X (fe9 X p) = true then fe9 X (fe9 X p + 1) else fe9 X p := by
  unfold te9
  rw [decide_eq_false (by omega), h1, h]
  show (bif pt9 X (fe9 X p) then fe9 X (fe9 X p + 1) else fe9 X p) = _
  cases pt9 X (fe9 X p) <;> rfl
theorem te_sgn (h0 : 0 ≤ by9 X p) (h1 : le9 X p = false) (h : fi9 X p = false) : te9 X p = if pr9 X p = true then p + 2 else p + 1 := by
  unfold te9
  rw [decide_eq_false (by omega), h1, h]
  show (bif pr9 X p then p + 2 else p + 1) = _
  cases pr9 X p <;> rfl
theorem kd_sgn (h0 : 0 ≤ by9 X p) (h1 : le9 X p = false) (h : fi9 X p = false) : kd9 X p = if pr9 X p = true then 4 else if (SG9.any fun c => decide (c = by9 X p)) = true then 4 else 5 := by
  unfold kd9
  rw [decide_eq_false (by omega), h1, h]
  show (bif pr9 X p then 4 else bif SG9.any (fun c => decide (c = by9 X p)) then 4 else 5) = _
  cases pr9 X p with
  | true => rfl
  | false => cases SG9.any (fun c => decide (c = by9 X p)) <;> rfl
theorem wh_run {f : Nat → Bool} {L : Nat} : ∀ (k p : Nat), p + k ≤ L → (∀ j, p ≤ j → j < p + k → f j = true) → f (p + k) = false ∨ p + k = L → wh9 f L p = p + k
  | 0, p, h, _, e => by
    rcases e with e | e
    · exact wh_f e
    · have := wh_le (f := f) (L := L) (p := p)
      have := this.2 (by omega)
      omega
  | k + 1, p, h, a, e => by
    rw [wh_t (by omega) (a p (Nat.le_refl _) (by omega)), wh_run k (p + 1) (by omega) (fun j h1 h2 => a j (by omega) (by omega)) (by rw [show p + 1 + k = p + (k + 1) by omega]; exact e)]
    omega
/-- k figures from p on, behind v -/
noncomputable def dgV (X : Txt) (p : Nat) : Nat → Int → Int
  | 0, v => v
  | k + 1, v => dgV X p k v * 10 + by9 X (p + k) - 48
theorem dgV_in {v : Int} {b : Nat} (hv : 0 ≤ v) (hb : v < 10 ^ b) : ∀ k, (∀ j, p ≤ j → j < p + k → fi9 X j = true) → 0 ≤ dgV X p k v ∧ dgV X p k v < 10 ^ (b + k)
  | 0, _ => ⟨hv, hb⟩
  | k + 1, h => by
    obtain ⟨h1, h2⟩ := dgV_in hv hb k (fun j a b => h j a (by omega))
    have h3 := fi_by (h (p + k) (by omega) (by omega))
    have e : (10 : Int) ^ (b + (k + 1)) = 10 ^ (b + k) * 10 := by rw [← Nat.add_assoc, Int.pow_succ]
    rw [e]
    unfold dgV
    omega
end L02
/-- a number's value by the reals: w over ten to the power c -/
noncomputable def RlV (x : Int) (c : Nat) (v : Int) : Prop := ∃ w t : Int, OwR x w ∧ OwR (10 ^ c) t ∧ inL t ∧ OvR w t v
theorem rl_one {x : Int} {c : Nat} {v w : Int} (h : RlV x c v) (h' : RlV x c w) : v = w := by
  obtain ⟨a, b, h1, h2, h3, h4⟩ := h
  obtain ⟨a', b', h1', h2', h3', h4'⟩ := h'
  rw [ow_eq h1' h1, ow_eq h2' h2] at h4'
  exact ov_eq h3 h4 h4'
/-- the value of a token -/
noncomputable def VlR (X : Txt) (p : Nat) (v : Int) : Prop := (kd9 X p = 1 → v = (te9 X p : Int)) ∧ (kd9 X p = 2 → v = dgV X p (fe9 X p - p) 0) ∧ (kd9 X p = 3 → RlV (dgV X (fe9 X p + 1) (fe9 X (fe9 X p + 1) - (fe9 X p + 1)) (dgV X p (fe9 X p - p) 0)) (fe9 X (fe9 X p + 1) - (fe9 X p + 1)) v) ∧ (kd9 X p = 4 → v = sg9 X p)
/-- what splitting a token off comes to -/
noncomputable def SpT (σ τ : zS) (X : Txt) (p n : Nat) (v : Int32) : Prop := v.toInt = (te9 X p : Int) ∧ ∃ kd : Int32, ∃ pl : Int32, ∃ w : Int64, AdT σ τ n kd pl w ∧ kd.toInt = (kd9 X p : Int) ∧ pl.toInt = (p : Int) ∧ VlR X p w.toInt
theorem i64_10 {x : Int64} {b : Int32} {v : Int} (hx : x.toInt = v) (hv : 0 ≤ v ∧ v < 10 ^ 15) (hb : 48 ≤ b.toInt ∧ b.toInt ≤ 57) {y : Int64} (hy : y.toInt = b.toInt) : ((x * 10 + y) - 48).toInt = v * 10 + b.toInt - 48 := by
  have e10 : (10 : Int64).toInt = 10 := by decide
  have e48 : (48 : Int64).toInt = 48 := by decide
  have e15 : (10 : Int) ^ 15 = 1000000000000000 := by decide
  rw [e15] at hv
  exact isl_ok (ial_ok (iml_ok hx e10 (by omega)) hy (by omega)) e48 (by omega)
theorem i64_t {x : Int64} {c : Nat} (hx : x.toInt = 10 ^ c) (hc : c < 15) : (x * 10).toInt = 10 ^ (c + 1) := by
  have e10 : (10 : Int64).toInt = 10 := by decide
  rw [Int.pow_succ]
  have h : ∀ c, c < 15 → (10 : Int) ^ c * 10 ≤ 9223372036854775807 ∧ (0 : Int) ≤ 10 ^ c * 10 := by decide
  have := h c hc
  exact iml_ok hx e10 (by omega)
section number
variable {σ : zS} {X : Txt} {Q : Int32 → zS → Prop} {a : Int32} {p n : Nat}
/-- the end of a number: e behind it, f the point (if there is one) -/
theorem w_numEnd {F : Int32 → Int64 → Int64 → Int32 → Int32 → Int32 → zS → (Int32 → zS → Prop) → Prop} {x1 x6 x7 y0 : Int32} {x2 x4 : Int64} {f e : Nat} (hx : TxC σ X) (hp : p < X.2) (hle : le9 X p = false) (hfi : fi9 X p = true) (hn : (σ.1 17 13).toInt = (n : Int)) (hn2 : n ≤ 1200) (h1 : x1.toInt = (p : Int)) (h6 : x6.toInt = (e : Int)) (hpf : p ≤ f ∧ f ≤ e ∧ e ≤ 1200) (hf : fe9 X p = f)
    (hc : (x7.toInt = -4 ∧ e = f ∧ pt9 X f = false ∧ y0 = x6 ∧ (f - p ≤ 9 → x2.toInt = dgV X p (f - p) 0)) ∨ (x7.toInt = (f : Int) ∧ f + 1 ≤ e ∧ pt9 X f = true ∧ y0 = x7 ∧ fe9 X (f + 1) = e ∧ (f - p ≤ 9 → e - (f + 1) ≤ 6 → x2.toInt = dgV X (f + 1) (e - (f + 1)) (dgV X p (f - p) 0) ∧ x4.toInt = 10 ^ (e - (f + 1)))))
    (k : ∀ v τ, SpT σ τ X p n v → Q v τ) : W_Po_splitNumber_b139 F x1 x2 x4 x6 x7 y0 σ Q := by
  have hb0 := (hx.at hp).2.1
  have kd := kd_fig hb0 hle hfi
  have te := te_fig hb0 hle hfi
  rw [hf] at kd te
  have z5 : (5 : Int32).toInt = 5 := by decide
  have z2 : (2 : Int32).toInt = 2 := by decide
  have z3 : (3 : Int32).toInt = 3 := by decide
  have bad : te9 X p = e → kd9 X p = 5 → W_Po_splitNumber_b177 F x1 x6 σ Q := fun q1 q2 => by
    unfold W_Po_splitNumber_b177
    refine w_addToken hn hn2 (fun τ ad => k _ _ ⟨by rw [q1]; exact h6, 5, x1, 0, ad, by rw [q2]; exact z5, h1, ?_⟩)
    exact ⟨fun q => absurd q (by omega), fun q => absurd q (by omega), fun q => absurd q (by omega), fun q => absurd q (by omega)⟩
  unfold W_Po_splitNumber_b139
  rcases hc with ⟨c7, ce, cp, rfl, cv⟩ | ⟨c7, ce, cp, rfl, ce2, cv⟩
  · subst ce
    rw [cp] at kd te
    rw [if_neg (by decide)] at te
    refine ⟨by omega, fun r1 q1 => ⟨fun _ => ?_, fun q => absurd c7 q⟩⟩
    unfold W_Po_splitNumber_b161
    refine ⟨fun q => bad te (by rw [kd, if_pos (by omega)]), fun q => ⟨fun _ => ⟨fun _ => ?_, fun q => absurd c7 q⟩, fun q => absurd (show (0 : Int32).toInt ≤ 6 by decide) q⟩⟩
    rw [if_neg (by omega), if_neg (by decide)] at kd
    refine w_addToken hn hn2 (fun τ ad => k _ _ ⟨by rw [te]; exact h6, 2, x1, x2, ad, by rw [kd]; exact z2, h1, ?_⟩)
    exact ⟨fun q => absurd q (by omega), fun _ => by rw [hf]; exact cv (by omega), fun q => absurd q (by omega), fun q => absurd q (by omega)⟩
  · rw [cp, ce2, if_pos rfl] at kd
    rw [cp, if_pos rfl, ce2] at te
    refine ⟨by omega, fun r1 q1 => ⟨fun q => absurd q (by omega), fun _ => ⟨by omega, fun r3 q3 => ⟨by omega, fun r4 q4 => ?_⟩⟩⟩⟩
    unfold W_Po_splitNumber_b161
    refine ⟨fun q => bad te (by rw [kd, if_pos (by omega)]), fun q => ⟨fun q6 => ⟨fun q => absurd q (by omega), fun _ => ?_⟩, fun q6 => bad te (by rw [kd, if_neg (by omega), if_pos (by omega)])⟩⟩
    obtain ⟨v2, v4⟩ := cv (by omega) (by omega)
    rw [if_neg (by omega), if_neg (by omega)] at kd
    intro w hw t ht v hv
    refine w_addToken hn hn2 (fun τ ad => k _ _ ⟨by rw [te]; exact h6, 3, x1, v, ad, by rw [kd]; exact z3, h1, ?_⟩)
    rw [v2] at hw
    rw [v4] at ht
    refine ⟨fun q => absurd q (by omega), fun q => absurd q (by omega), fun _ => ?_, fun q => absurd q (by omega)⟩
    rw [hf, ce2]
    exact ⟨_, _, hw, ht, inL_i t, hv⟩
theorem wl_splitNumber (hx : TxC σ X) (hp : p < X.2) (hle : le9 X p = false) (hfi : fi9 X p = true) (hn : (σ.1 17 13).toInt = (n : Int)) (hn2 : n ≤ 1200) (k : ∀ v τ, SpT σ τ X p n v → Q v τ) : ∀ (N : Nat) (x1 x6 x7 x8 : Int32) (x2 x4 : Int64) (e : Nat), x1.toInt = (p : Int) → x6.toInt = (e : Int) → x8.toInt = (e : Int) - p → p ≤ e → e ≤ X.2 →
    ((x7.toInt = -4 ∧ (∀ j, p ≤ j → j < e → fi9 X j = true) ∧ (e - p ≤ 9 → x2.toInt = dgV X p (e - p) 0) ∧ x4.toInt = 1) ∨ ∃ f : Nat, x7.toInt = (f : Int) ∧ p ≤ f ∧ f + 1 ≤ e ∧ fe9 X p = f ∧ pt9 X f = true ∧ (∀ j, f + 1 ≤ j → j < e → fi9 X j = true) ∧ (∀ j, p ≤ j → j < f → fi9 X j = true) ∧ (f - p ≤ 9 → e - (f + 1) ≤ 6 → x2.toInt = dgV X (f + 1) (e - (f + 1)) (dgV X p (f - p) 0) ∧ x4.toInt = 10 ^ (e - (f + 1)))) → 1200 - e + 5 ≤ N → (WL_Po_splitNumber N) x1 x2 x4 x6 x7 x8 σ Q
  | 0, _, _, _, _, _, _, _, _, _, _, _, _, _, h => absurd h (by omega)
  | N + 1, x1, x6, x7, x8, x2, x4, e, h1, h6, h8, hpe, heX, hi, hN => by
    have ih := wl_splitNumber hx hp hle hfi hn hn2 k N
    have hX := hx.1.2
    have eL := hx.1.1
    have z1 : (1 : Int64).toInt = 1 := by decide
    -- the end
    have fin : (fi9 X e = false ∨ e = X.2) → (x7.toInt = -4 → pt9 X e = false) → ((x7.toInt = -4 → W_Po_splitNumber_b139 (WL_Po_splitNumber N) x1 x2 x4 x6 x7 x6 σ Q) ∧ (¬ x7.toInt = -4 → W_Po_splitNumber_b139 (WL_Po_splitNumber N) x1 x2 x4 x6 x7 x7 σ Q)) := fun he hpt => by
      rcases hi with ⟨i7, ia, iv, it⟩ | ⟨f, i7, ipf, ife, iff, ipt, ia, ib, iv⟩
      · have ef : fe9 X p = e := by
          have := wh_run (f := fi9 X) (L := X.2) (e - p) p (by omega) (fun j a b => ia j a (by omega)) (by rw [show p + (e - p) = e by omega]; exact he)
          unfold fe9; rw [this]; omega
        exact ⟨fun _ => w_numEnd hx hp hle hfi hn hn2 h1 h6 (f := e) ⟨hpe, Nat.le_refl _, by omega⟩ ef (Or.inl ⟨i7, rfl, hpt i7, rfl, iv⟩) k, fun q => absurd i7 q⟩
      · have ef : fe9 X (f + 1) = e := by
          have := wh_run (f := fi9 X) (L := X.2) (e - (f + 1)) (f + 1) (by omega) (fun j a b => ia j a (by omega)) (by rw [show f + 1 + (e - (f + 1)) = e by omega]; exact he)
          unfold fe9; rw [this]; omega
        exact ⟨fun q => absurd q (by omega), fun _ => w_numEnd hx hp hle hfi hn hn2 h1 h6 (f := f) ⟨ipf, by omega, by omega⟩ iff (Or.inr ⟨i7, ife, ipt, rfl, ef, iv⟩) k⟩
    have pto : X.2 ≤ e → pt9 X e = false := fun h => by unfold pt9; rw [by9_out h]; rfl
    refine wl_Po_splitNumber_15 ?_
    refine ⟨fun q => fin (Or.inr (by omega)) (fun _ => pto (by omega)), fun q => ?_⟩
    refine w_isFigure hx h6 (fun f1 => ⟨fun z => absurd z (by decide), fun _ => ?_⟩) (fun f0 => ⟨fun _ => ⟨fun q7 => ⟨fun ql => fin (Or.inl f0) (fun _ => pto (by omega)), fun ql => ?_⟩, fun q7 => fin (Or.inl f0) (fun z => absurd z q7)⟩, fun z => absurd rfl z⟩)
    · -- a figure
      have hb := fi_by f1
      have heX2 : e < X.2 := by
        apply Classical.byContradiction
        intro z
        rw [by9_out (X := X) (p := e) (by omega)] at hb
        omega
      have ea := (hx.at heX2).1
      refine ⟨e, h6, by omega, fun r16 h16 => ?_⟩
      rcases hi with ⟨i7, ia, iv, it⟩ | ⟨f, i7, ipf, ife, iff, ipt, ia, ib, iv⟩
      · refine ⟨fun _ => ⟨by omega, fun r18 h18 => ⟨by omega, fun r19 h19 => ?_⟩⟩, fun z => absurd i7 z⟩
        refine ih x1 r18 x7 r19 _ 1 (e + 1) h1 (by omega) (by omega) (by omega) (by omega) (Or.inl ⟨i7, fun j a b => ?_, fun hc => ?_, z1⟩) (by omega)
        · by_cases g : j = e
          · subst g; exact f1
          · exact ia j a (by omega)
        · have iv := iv (by omega)
          have bd := dgV_in (X := X) (p := p) (v := 0) (b := 0) (by decide) (by decide) (e - p) (fun j a b => ia j a (by omega))
          have mono : (10 : Int) ^ (0 + (e - p)) ≤ 10 ^ 15 := by
            have key : ∀ c, c < 16 → (10 : Int) ^ (0 + c) ≤ 10 ^ 15 := by decide
            exact key (e - p) (by omega)
          rw [i64_10 (b := σ.1 23 e) iv ⟨bd.1, by omega⟩ (by omega) h16, show e + 1 - p = (e - p) + 1 by omega]
          show _ = dgV X p (e - p) 0 * 10 + by9 X (p + (e - p)) - 48
          rw [show p + (e - p) = e by omega, ea]
      · refine ⟨fun z => absurd z (by omega), fun _ => ⟨by omega, fun r21 h21 => ⟨by omega, fun r22 h22 => ?_⟩⟩⟩
        refine ih x1 r21 x7 r22 _ _ (e + 1) h1 (by omega) (by omega) (by omega) (by omega) (Or.inr ⟨f, i7, ipf, by omega, iff, ipt, fun j a b => ?_, ib, fun hc hd => ?_⟩) (by omega)
        · by_cases g : j = e
          · subst g; exact f1
          · exact ia j a (by omega)
        · obtain ⟨iv2, iv4⟩ := iv (by omega) (by omega)
          have bd0 := dgV_in (X := X) (p := p) (v := 0) (b := 0) (by decide) (by decide) (f - p) (fun j a b => ib j a (by omega))
          have bd := dgV_in (X := X) (p := f + 1) (v := dgV X p (f - p) 0) (b := 0 + (f - p)) bd0.1 bd0.2 (e - (f + 1)) (fun j a b => ia j a (by omega))
          have mono : (10 : Int) ^ (0 + (f - p) + (e - (f + 1))) ≤ 10 ^ 15 := by
            have key : ∀ c, c < 16 → (10 : Int) ^ c ≤ 10 ^ 15 := by decide
            exact key _ (by omega)
          refine ⟨?_, ?_⟩
          · rw [i64_10 (b := σ.1 23 e) iv2 ⟨bd.1, by omega⟩ (by omega) h16, show e + 1 - (f + 1) = (e - (f + 1)) + 1 by omega]
            show _ = dgV X (f + 1) (e - (f + 1)) (dgV X p (f - p) 0) * 10 + by9 X (f + 1 + (e - (f + 1))) - 48
            rw [show f + 1 + (e - (f + 1)) = e by omega, ea]
          · rw [i64_t iv4 (by omega), show e + 1 - (f + 1) = e - (f + 1) + 1 by omega]
    · -- no figure, no point yet
      have heX2 : e < X.2 := by omega
      have ea := (hx.at heX2).1
      refine ⟨e, h6, by omega, fun q46 => ?_, fun q46 => fin (Or.inl f0) (fun _ => by unfold pt9; rw [← ea, decide_eq_false q46]; rfl)⟩
      refine ⟨by omega, fun r11 h11 => ?_⟩
      refine w_isFigure (p := e + 1) hx (by omega) (fun g1 => ⟨fun z => absurd z (by decide), fun _ => ⟨by omega, fun r14 h14 => ⟨by omega, fun r15 h15 => ?_⟩⟩⟩) (fun g0 => ⟨fun _ => fin (Or.inl f0) (fun _ => by unfold pt9; rw [g0, Bool.and_false]), fun z => absurd rfl z⟩)
      have hpt : pt9 X e = true := by unfold pt9; rw [← ea, decide_eq_true q46, g1]; rfl
      have hb := fi_by g1
      have heX3 : e + 1 < X.2 := by
        apply Classical.byContradiction
        intro z
        rw [by9_out (X := X) (p := e + 1) (by omega)] at hb
        omega
      rcases hi with ⟨i7, ia, iv, it⟩ | ⟨f, i7, _⟩
      · have ef : fe9 X p = e := by
          have := wh_run (f := fi9 X) (L := X.2) (e - p) p (by omega) (fun j a b => ia j a (by omega)) (by rw [show p + (e - p) = e by omega]; exact Or.inl f0)
          unfold fe9; rw [this]; omega
        refine ih x1 r14 x6 r15 x2 x4 (e + 1) h1 (by omega) (by omega) (by omega) (by omega) (Or.inr ⟨e, h6, hpe, Nat.le_refl _, ef, hpt, fun j a b => absurd b (by omega), ia, fun hc _ => ?_⟩) (by omega)
        rw [Nat.sub_self]
        exact ⟨iv hc, it⟩
      · omega
theorem w_splitNumber (hx : TxC σ X) (hp : p < X.2) (hle : le9 X p = false) (hfi : fi9 X p = true) (ha : a.toInt = (p : Int)) (hn : (σ.1 17 13).toInt = (n : Int)) (hn2 : n ≤ 1200) (k : ∀ v τ, SpT σ τ X p n v → Q v τ) : W_Po_splitNumber a σ Q := by
  have hX := hx.1.2
  exact wl_splitNumber hx hp hle hfi hn hn2 k fuF a a (-4) 0 0 1 p ha ha (by rw [show (0 : Int32).toInt = 0 by decide]; omega) (Nat.le_refl _) (by omega) (Or.inl ⟨by decide, fun j a b => absurd b (by omega), fun _ => by rw [Nat.sub_self]; rfl, by decide⟩) (by show 1200 - p + 5 ≤ 100000; omega)
end number
/-! ===== words that lie there: length, charAt, indexOf ===== -/
noncomputable def wdB (i j : Nat) : Int := ((SBY.getD i []).getD j 0).toInt
noncomputable def wdL (i : Nat) : Nat := SLN.getD i 0
theorem wd_in : ∀ i, i < 21 → ∀ j, j < 14 → 0 ≤ wdB i j ∧ wdB i j ≤ 127 := by decide +kernel
theorem wd_len : ∀ i, i < 21 → 1 ≤ wdL i ∧ wdL i ≤ 14 := by decide +kernel
theorem i2b_i {x : Int32} (h : 0 ≤ x.toInt ∧ x.toInt ≤ 255) : (Int32.toInt8 x).toInt32.toInt = if x.toInt ≤ 127 then x.toInt else x.toInt - 256 := by
  rw [Int8.toInt_toInt32, Int32.toInt_toInt8]
  unfold Int.bmod
  show (if x.toInt % 256 < (256 + 1) / 2 then x.toInt % 256 else x.toInt % 256 - 256) = _
  split <;> split <;> omega
section L03
variable {σ : zS} {Q : Int32 → zS → Prop} {i : Nat}
/-- where a letter stands in a word: r, or -1 -/
noncomputable def IxW (i : Nat) (c r : Int) : Prop := (r = -1 ∧ ∀ j, j < wdL i → wdB i j ≠ c) ∨ ∃ j : Nat, r = (j : Int) ∧ j < wdL i ∧ wdB i j = c ∧ ∀ j', j' < j → wdB i j' ≠ c
theorem wl_indexOfChar {c : Int} {x3 x4 : Int32} (hi : i < 21) (hc : 0 ≤ c) (h3 : x3.toInt = (wdL i : Int)) (h4 : (c ≤ 127 → x4.toInt = c) ∧ (127 < c → x4.toInt < 0)) (k : ∀ v : Int32, IxW i c v.toInt → Q v σ) : ∀ (N : Nat) (x5 : Int32) (j : Nat), x5.toInt = (j : Int) → j ≤ wdL i → (∀ j', j' < j → wdB i j' ≠ c) → wdL i - j + 2 ≤ N → (WL_JL_indexOfChar N) i x3 x4 x5 σ Q
  | 0, _, _, _, _, _, h => absurd h (by omega)
  | N + 1, x5, j, h5, hj, hb, hN => by
    have ih := wl_indexOfChar hi hc h3 h4 k N
    have hl := wd_len i hi
    refine wl_JL_indexOfChar_7 ?_
    refine ⟨fun q => k _ (Or.inl ⟨by decide, fun j' h => hb j' (by omega)⟩), fun q => ⟨j, h5, by show j < wdL i; omega, fun e => ?_, fun e => ⟨by omega, fun r4 h4' => ih r4 (j + 1) (by omega) (by omega) (fun j' h => ?_) (by omega)⟩⟩⟩
    · have w := wd_in i hi j (by omega)
      have e : wdB i j = x4.toInt := e
      refine k _ (Or.inr ⟨j, h5, by omega, ?_, hb⟩)
      by_cases g : c ≤ 127
      · rw [e, h4.1 g]
      · have := h4.2 (by omega); omega
    · by_cases g : j' = j
      · subst g
        intro z
        have w := wd_in i hi j' (by omega)
        have e : ¬ wdB i j' = x4.toInt := e
        apply e
        rw [h4.1 (by omega), z]
      · exact hb j' (by omega)
theorem w_indexOf {x : Int32} (hi : i < 21) (hx : 0 ≤ x.toInt ∧ x.toInt ≤ 255) (k : ∀ v : Int32, IxW i x.toInt v.toInt → Q v σ) : W_JS_indexOf_0 i x σ Q := by
  have z0 : (0 : Int32).toInt = 0 := by decide
  have hl := wd_len i hi
  have hb := i2b_i hx
  unfold W_JS_indexOf_0 W_JS_indexOf_1 W_JS_length
  intro r1 h1
  have h1 : r1.toInt = (wdL i : Int) := h1
  unfold W_JL_indexOf W_JL_canEncode
  have go : (∀ r3 : Int32, r3.toInt = max (0 : Int32).toInt 0 → ∀ r4 : Int32, r4.toInt = ((SLN.getD i 0 : Nat) : Int) → ∀ r5 : Int32, r5.toInt = min r1.toInt r4.toInt → ((r3.toInt < r5.toInt → W_JL_indexOfChar i x r3 r5 σ (fun v7 σ7 => Q v7 σ7)) ∧ (¬ r3.toInt < r5.toInt → Q (-1) σ))) := by
    intro r3 h3 r4 h4 r5 h5
    have h4 : r4.toInt = (wdL i : Int) := h4
    rw [z0] at h3
    refine ⟨fun q => ?_, fun q => absurd q (by omega)⟩
    unfold W_JL_indexOfChar
    refine wl_indexOfChar hi hx.1 (by omega) ⟨fun q => by rw [hb, if_pos q], fun q => by rw [hb, if_neg (by omega)]; omega⟩ k fuF r3 0 (by omega) (by omega) (fun j' h => absurd h (by omega)) (by show wdL i - 0 + 2 ≤ 100000; omega)
  refine ⟨fun q => absurd q (by omega), fun _ => ⟨fun q => absurd q (by omega), fun _ => ⟨fun q => absurd q (by decide), fun _ => go⟩⟩⟩
end L03
theorem sg_ix : ∀ b : Fin 256, ((SG9.any fun c => decide (c = (b.1 : Int))) = true ↔ ∃ j, j < 14 ∧ wdB 0 j = (b.1 : Int)) := by decide +kernel
theorem sg_any {b : Int} (h : 0 ≤ b ∧ b ≤ 255) : (SG9.any fun c => decide (c = b)) = true ↔ ∃ j, j < wdL 0 ∧ wdB 0 j = b := by
  have := sg_ix ⟨b.toNat, by omega⟩
  rw [show (((⟨b.toNat, by omega⟩ : Fin 256).1 : Nat) : Int) = b by show ((b.toNat : Nat) : Int) = b; omega] at this
  exact this
section sign
variable {σ : zS} {X : Txt} {Q : Int32 → zS → Prop} {a : Int32} {p n : Nat}
theorem w_sgnEnd {x1 x2 x4 : Int32} (hx : TxC σ X) (hp : p < X.2) (hle : le9 X p = false) (hfi : fi9 X p = false) (hn : (σ.1 17 13).toInt = (n : Int)) (hn2 : n ≤ 1200) (h1 : x1.toInt = (p : Int)) (h2 : x2.toInt = by9 X p) (h4 : (x4.toInt = 0 ∧ pr9 X p = false) ∨ (x4.toInt = sg9 X p ∧ x4.toInt ≠ 0 ∧ pr9 X p = true)) (k : ∀ v τ, SpT σ τ X p n v → Q v τ) : W_Po_splitSign_b90 x1 x2 x4 σ Q := by
  have hb := hx.at hp
  have hX := hx.1.2
  have kd := kd_sgn hb.2.1 hle hfi
  have te := te_sgn hb.2.1 hle hfi
  have z4 : (4 : Int32).toInt = 4 := by decide
  have z5 : (5 : Int32).toInt = 5 := by decide
  have other : ∀ (K5 : Int32) (c : Nat), pr9 X p = false → K5.toInt = (c : Int) → kd9 X p = c → (c = 4 ∨ c = 5) → W_Po_splitSign_b124 x1 x2 K5 σ Q := fun K5 c q0 q1 q2 q3 => by
    rw [q0, if_neg (by decide)] at te
    intro r1 q5
    refine w_addToken hn hn2 (fun τ ad => ⟨by omega, fun r3 h3 => k _ _ ⟨by rw [te]; omega, K5, x1, r1, ad, by rw [q2]; exact q1, h1, ?_⟩⟩)
    refine ⟨fun q => absurd q (by omega), fun q => absurd q (by omega), fun q => absurd q (by omega), fun _ => ?_⟩
    unfold sg9
    rw [q0]
    show r1.toInt = by9 X p
    omega
  refine ⟨fun q => ?_, fun q => ?_⟩
  · rcases h4 with ⟨_, q0⟩ | ⟨_, q1, _⟩
    · intro r2 q2
      refine w_indexOf (i := 0) (by decide) (by omega) (fun v hv => ?_)
      have e2 : r2.toInt = by9 X p := by omega
      rw [e2] at hv
      rw [q0, if_neg (by decide)] at kd
      rcases hv with ⟨v1, v2⟩ | ⟨j, v1, v2, v3, _⟩
      · refine ⟨fun _ => other 5 5 q0 z5 ?_ (Or.inr rfl), fun z => absurd z (by omega)⟩
        rw [kd, if_neg (fun z => ?_)]
        obtain ⟨j, j1, j2⟩ := (sg_any ⟨hb.2.1, hb.2.2⟩).mp z
        exact v2 j j1 j2
      · refine ⟨fun z => absurd z (by omega), fun _ => other 4 4 q0 z4 ?_ (Or.inl rfl)⟩
        rw [kd, if_pos ((sg_any ⟨hb.2.1, hb.2.2⟩).mpr ⟨j, v2, v3⟩)]
    · exact absurd q q1
  · rcases h4 with ⟨q0, _⟩ | ⟨q0, _, q2⟩
    · exact absurd q0 q
    · intro r5 q5
      rw [q2, if_pos rfl] at te kd
      refine w_addToken hn hn2 (fun τ ad => ⟨by omega, fun r7 h7 => k _ _ ⟨by rw [te]; omega, 4, x1, r5, ad, by rw [kd]; exact z4, h1, ?_⟩⟩)
      exact ⟨fun q => absurd q (by omega), fun q => absurd q (by omega), fun q => absurd q (by omega), fun _ => by omega⟩
theorem pr_t (h : (by9 X p = 60 ∧ (by9 X (p + 1) = 61 ∨ by9 X (p + 1) = 62)) ∨ (by9 X p = 62 ∧ by9 X (p + 1) = 61)) : pr9 X p = true := by
  unfold pr9
  rcases h with ⟨a, b | b⟩ | ⟨a, b⟩
  · rw [a, b]; rfl
  · rw [a, b]; rfl
  · rw [a, b]; rfl
theorem pr_f (h : ¬ ((by9 X p = 60 ∧ (by9 X (p + 1) = 61 ∨ by9 X (p + 1) = 62)) ∨ (by9 X p = 62 ∧ by9 X (p + 1) = 61))) : pr9 X p = false := by
  unfold pr9
  by_cases a : by9 X p = 60
  · by_cases b : by9 X (p + 1) = 61
    · exact absurd (Or.inl ⟨a, Or.inl b⟩) h
    · by_cases c : by9 X (p + 1) = 62
      · exact absurd (Or.inl ⟨a, Or.inr c⟩) h
      · rw [decide_eq_false b, decide_eq_false c]; simp
  · by_cases b : by9 X p = 62
    · by_cases c : by9 X (p + 1) = 61
      · exact absurd (Or.inr ⟨b, c⟩) h
      · rw [decide_eq_false a, decide_eq_false c]; simp
    · rw [decide_eq_false a, decide_eq_false b]; rfl
theorem w_splitSign (hx : TxC σ X) (hp : p < X.2) (hle : le9 X p = false) (hfi : fi9 X p = false) (ha : a.toInt = (p : Int)) (hn : (σ.1 17 13).toInt = (n : Int)) (hn2 : n ≤ 1200) (k : ∀ v τ, SpT σ τ X p n v → Q v τ) : W_Po_splitSign a σ Q := by
  have hb := hx.at hp
  have hX := hx.1.2
  have eL := hx.1.1
  have z0 : (0 : Int32).toInt = 0 := by decide
  have z1 : (256 : Int32).toInt = 256 := by decide
  have z2 : (257 : Int32).toInt = 257 := by decide
  have z3 : (258 : Int32).toInt = 258 := by decide
  have key : ∀ y0 : Int32, (y0.toInt = by9 X (p + 1) ∨ (y0.toInt = 0 ∧ by9 X (p + 1) = -1)) → W_Po_splitSign_b29 a (σ.1 23 p) y0 σ Q := fun y0 hy => by
    have e : ∀ {x4 : Int32}, ((x4.toInt = 0 ∧ pr9 X p = false) ∨ (x4.toInt = sg9 X p ∧ x4.toInt ≠ 0 ∧ pr9 X p = true)) → W_Po_splitSign_b90 a (σ.1 23 p) x4 σ Q := fun h4 => w_sgnEnd hx hp hle hfi hn hn2 ha hb.1 h4 k
    have n0 : pr9 X p = false → W_Po_splitSign_b90 a (σ.1 23 p) 0 σ Q := fun q => e (Or.inl ⟨z0, q⟩)
    have q256 : by9 X p = 60 → by9 X (p + 1) = 61 → W_Po_splitSign_b90 a (σ.1 23 p) 256 σ Q := fun u v => by
      have h := pr_t (X := X) (p := p) (Or.inl ⟨u, Or.inl v⟩)
      exact e (Or.inr ⟨by unfold sg9; rw [h, u, v]; exact z1, by rw [z1]; decide, h⟩)
    have q257 : by9 X p = 62 → by9 X (p + 1) = 61 → W_Po_splitSign_b90 a (σ.1 23 p) 257 σ Q := fun u v => by
      have h := pr_t (X := X) (p := p) (Or.inr ⟨u, v⟩)
      exact e (Or.inr ⟨by unfold sg9; rw [h, u]; exact z2, by rw [z2]; decide, h⟩)
    have q258 : by9 X p = 60 → by9 X (p + 1) = 62 → W_Po_splitSign_b90 a (σ.1 23 p) 258 σ Q := fun u v => by
      have h := pr_t (X := X) (p := p) (Or.inl ⟨u, Or.inr v⟩)
      exact e (Or.inr ⟨by unfold sg9; rw [h, u, v]; exact z3, by rw [z3]; decide, h⟩)
    have b53 : ¬ (by9 X p = 60 ∧ by9 X (p + 1) = 61) → W_Po_splitSign_b53 a (σ.1 23 p) y0 0 σ Q := fun q => by
      refine ⟨fun c1 => ⟨fun c2 => q257 (by omega) (by omega), fun c2 => ⟨fun c3 => absurd c3 (by omega), fun c3 => n0 (pr_f (by omega))⟩⟩, fun c1 => ⟨fun c3 => ⟨fun c4 => q258 (by omega) (by omega), fun c4 => n0 (pr_f (by omega))⟩, fun c3 => n0 (pr_f (by omega))⟩⟩
    exact ⟨fun c1 => ⟨fun c2 => q256 (by omega) (by omega), fun c2 => b53 (by omega)⟩, fun c1 => b53 (by omega)⟩
  unfold W_Po_splitSign
  refine ⟨p, ha, by omega, by omega, fun r2 q2 => ⟨fun c => key 0 (Or.inr ⟨z0, by9_out (by omega)⟩), fun c => ⟨by omega, fun r4 q4 => ⟨p + 1, by omega, by omega, key _ (Or.inl (hx.at (p := p + 1) (by omega)).1)⟩⟩⟩⟩
end sign
section split
variable {σ : zS} {X : Txt}
theorem al_t {p : Nat} (h : le9 X p = true ∨ fi9 X p = true) : al9 X p = true := by
  unfold al9
  rcases h with h | h
  · rw [h]; rfl
  · rw [h, Bool.or_true]
theorem al_f {p : Nat} (h1 : le9 X p = false) (h2 : fi9 X p = false) : al9 X p = false := by unfold al9; rw [h1, h2]; rfl
theorem wl_splitOff {Q : Int32 → zS → Prop} {p n : Nat} (hx : TxC σ X) (hp : p < X.2) (hle : le9 X p = true) (hn : (σ.1 17 13).toInt = (n : Int)) (hn2 : n ≤ 1200) (k : ∀ v τ, SpT σ τ X p n v → Q v τ) : ∀ (N : Nat) (x1 x2 x3 : Int32) (e : Nat), x1.toInt = (p : Int) → x2.toInt = (e : Int) → x3.toInt = (e : Int) - p - 1 → p + 1 ≤ e → e ≤ X.2 → (∀ j, p ≤ j → j < e → al9 X j = true) → 1200 - e + 5 ≤ N → (WL_Po_splitOff N) x1 x2 x3 σ Q
  | 0, _, _, _, _, _, _, _, _, _, _, h => absurd h (by omega)
  | N + 1, x1, x2, x3, e, h1, h2, h3, hpe, heX, ha, hN => by
    have ih := wl_splitOff hx hp hle hn hn2 k N
    have hX := hx.1.2
    have hb0 := (hx.at hp).2.1
    have fin : (al9 X e = false ∨ e = X.2) → W_Po_splitOff_b66 (WL_Po_splitOff N) x1 x2 σ Q := fun q => by
      have ew : we9 X p = e := by
        have := wh_run (f := al9 X) (L := X.2) (e - p) p (by omega) (fun j a b => ha j a (by omega)) (by rw [show p + (e - p) = e by omega]; exact q)
        unfold we9; rw [this]; omega
      have te := te_let hb0 hle
      have kd := kd_let hb0 hle
      intro r1 q1
      refine w_addToken hn hn2 (fun τ ad => k _ _ ⟨by rw [te, ew]; exact h2, 1, x1, r1, ad, by rw [kd]; decide, h1, ?_⟩)
      exact ⟨fun _ => by rw [te, ew]; omega, fun q => absurd q (by omega), fun q => absurd q (by omega), fun q => absurd q (by omega)⟩
    have nx : al9 X e = true → e < X.2 → ((-2147483648 ≤ x2.toInt + 1 ∧ x2.toInt + 1 ≤ 2147483647) ∧ ∀ r4 : Int32, r4.toInt = x2.toInt + 1 → ((-2147483648 ≤ x3.toInt + 1 ∧ x3.toInt + 1 ≤ 2147483647) ∧ ∀ r5 : Int32, r5.toInt = x3.toInt + 1 → (WL_Po_splitOff N) x1 r4 r5 σ Q)) := fun q hlt => ⟨by omega, fun r4 h4 => ⟨by omega, fun r5 h5 => ih x1 r4 r5 (e + 1) h1 (by omega) (by omega) (by omega) (by omega) (fun j a b => by
      by_cases g : j = e
      · subst g; exact q
      · exact ha j a (by omega)) (by omega)⟩⟩
    have inX : ∀ {b : Bool}, al9 X e = true → e < X.2 := fun q => by
      have := al_by q
      apply Classical.byContradiction
      intro z
      rw [by9_out (X := X) (p := e) (by omega)] at this
      omega
    refine wl_Po_splitOff_34 ?_
    refine ⟨fun q => fin (Or.inr (by omega)), fun q => ?_⟩
    refine w_isLetter hx h2 (fun l1 => ⟨fun z => absurd z (by decide), fun _ => nx (al_t (Or.inl l1)) (inX (b := true) (al_t (Or.inl l1)))⟩) (fun l0 => ⟨fun _ => ?_, fun z => absurd rfl z⟩)
    refine w_isFigure hx h2 (fun f1 => ⟨fun z => absurd z (by decide), fun _ => nx (al_t (Or.inr f1)) (inX (b := true) (al_t (Or.inr f1)))⟩) (fun f0 => ⟨fun _ => fin (Or.inl (al_f l0 f0)), fun z => absurd rfl z⟩)
/-- a token is split off -/
theorem w_splitOff {Q : Int32 → zS → Prop} {a : Int32} {p n : Nat} (hx : TxC σ X) (hp : p < X.2) (ha : a.toInt = (p : Int)) (hn : (σ.1 17 13).toInt = (n : Int)) (hn2 : n ≤ 1200) (k : ∀ v τ, SpT σ τ X p n v → Q v τ) : W_Po_splitOff a σ Q := by
  have hX := hx.1.2
  have nol : fi9 X p = true → le9 X p = false := fun q => by
    have := fi_by q
    exact ltr_f (by omega)
  unfold W_Po_splitOff
  refine w_isFigure hx ha (fun f1 => ⟨fun z => absurd z (by decide), fun _ => w_splitNumber hx hp (nol f1) f1 ha hn hn2 k⟩) (fun f0 => ⟨fun _ => ?_, fun z => absurd rfl z⟩)
  refine w_isLetter hx ha (fun l1 => ⟨fun z => absurd z (by decide), fun _ => ⟨by omega, fun r5 h5 => ?_⟩⟩) (fun l0 => ⟨fun _ => w_splitSign hx hp l0 f0 ha hn hn2 k, fun z => absurd rfl z⟩)
  exact wl_splitOff hx hp l1 hn hn2 k fuF a r5 0 (p + 1) ha (by omega) (by rw [show (0 : Int32).toInt = 0 by decide]; omega) (Nat.le_refl _) (by omega) (fun j a b => by rw [show j = p by omega]; exact al_t (Or.inl l1)) (by show 1200 - (p + 1) + 5 ≤ 100000; omega)
/-- the tokens so far -/
noncomputable def TkR (τ : zS) (X : Txt) (n : Nat) : Prop := (τ.1 17 13).toInt = (n : Int) ∧ ∀ i, i < n → (τ.1 25 i).toInt = (Tp9 X i : Int) ∧ (τ.1 24 i).toInt = (kd9 X (Tp9 X i) : Int) ∧ VlR X (Tp9 X i) (τ.2 26 i).toInt
/-- all but the tokens is as before -/
noncomputable def FrT (σ τ : zS) : Prop := (∀ k j, k ≠ 24 → k ≠ 25 → ¬ (k = 17 ∧ j = 13) → τ.1 k j = σ.1 k j) ∧ ∀ k j, k ≠ 26 → τ.2 k j = σ.2 k j
theorem FrT.rf : FrT σ σ := ⟨fun _ _ _ _ _ => rfl, fun _ _ _ => rfl⟩
theorem FrT.tx {τ : zS} (h : FrT σ τ) (hx : TxC σ X) : TxC τ X := ⟨⟨by rw [h.1 17 9 (by decide) (by decide) (by decide)]; exact hx.1.1, hx.1.2⟩, fun p hp => by rw [h.1 23 p (by decide) (by decide) (by omega)]; exact hx.2 p hp⟩
theorem FrT.ad {τ τ' : zS} {n : Nat} {kd pl : Int32} {v : Int64} (h : FrT σ τ) (a : AdT τ τ' n kd pl v) : FrT σ τ' := ⟨fun k j q1 q2 q3 => by rw [a.2.1 k j (by omega) q3]; exact h.1 k j q1 q2 q3, fun k j q => by rw [a.2.2 k j (by omega)]; exact h.2 k j q⟩
theorem TkR.ad {τ τ' : zS} {n : Nat} {kd pl : Int32} {v : Int64} (h : TkR τ X n) (a : AdT τ τ' n kd pl v) (h1 : kd.toInt = (kd9 X (Tp9 X n) : Int)) (h2 : pl.toInt = (Tp9 X n : Int)) (h3 : VlR X (Tp9 X n) v.toInt) : TkR τ' X (n + 1) := by
  refine ⟨by rw [a.1.1]; omega, fun i hi => ?_⟩
  by_cases e : i = n
  · subst e
    rw [a.1.2.1, a.1.2.2.1, a.1.2.2.2]
    exact ⟨h2, h1, h3⟩
  · rw [a.2.1 25 i (by omega) (by omega), a.2.1 24 i (by omega) (by omega), a.2.2 26 i (by omega)]
    exact h.2 i (by omega)
theorem bl_t {p : Nat} (h : by9 X p = 32 ∨ by9 X p = 10) : bl9 X p = true := by
  unfold bl9
  rcases h with h | h
  · rw [decide_eq_true h]; rfl
  · rw [decide_eq_true (p := by9 X p = 10) h, Bool.or_true]
theorem bl_f {p : Nat} (h1 : ¬ by9 X p = 32) (h2 : ¬ by9 X p = 10) : bl9 X p = false := by unfold bl9; rw [decide_eq_false h1, decide_eq_false h2]; rfl
theorem kd_rc2 {p : Nat} (h : kd9 X p ≠ 5) (h0 : kd9 X p ≠ 0) : 2 ≤ rc9 X p := by
  have a := kd9_le (X := X) (p := p)
  have b := rc_kd (X := X) (p := p)
  have : kd9 X p = 1 ∨ kd9 X p = 2 ∨ kd9 X p = 3 ∨ kd9 X p = 4 := by omega
  rcases this with e | e | e | e
  · have := b.2.1 e; omega
  · have := b.2.2.1 e; omega
  · have := b.2.2.2.1 e; omega
  · have := b.2.2.2.2.1 e; omega
theorem wl_split {Q : Unit → zS → Prop} (hx : TxC σ X) (k : ∀ τ n, FrT σ τ → TkR τ X n → NT9 X n → n ≤ 1201 → Q () τ) : ∀ (N : Nat) (τ : zS) (x1 x2 : Int32) (e c n : Nat), FrT σ τ → TkR τ X n → n ≤ c → x1.toInt = (e : Int) → x2.toInt = (c : Int) → c ≤ e → e ≤ X.2 → sk9 X e = Tp9 X n → (∀ i, i < n → 2 ≤ rc9 X (Tp9 X i)) → 1200 - e + 5 ≤ N → (WL_Po_split N) x1 x2 τ Q
  | 0, _, _, _, _, _, _, _, _, _, _, _, _, _, _, _, h => absurd h (by omega)
  | N + 1, τ, x1, x2, e, c, n, fr, tk, hnc, h1, h2, hce, heX, hsk, hrc, hN => by
    have ih := wl_split hx k N
    have hxt := fr.tx hx
    have hX := hx.1.2
    have eL := hxt.1.1
    have fin : X.2 ≤ e → W_Po_split_b80 (WL_Po_split N) τ Q := fun q => by
      have ee : e = X.2 := by omega
      have b1 : by9 X e = -1 := by9_out (by omega)
      have t1 : Tp9 X n = e := by rw [← hsk]; unfold sk9; exact wh_f (bl_f (by omega) (by omega))
      unfold W_Po_split_b80
      refine w_addToken tk.1 (by omega) (fun τ' ad => k τ' (n + 1) (fr.ad ad) (tk.ad ad ?_ ?_ ?_) ⟨by omega, fun i hi => hrc i (by omega), ?_⟩ (by omega))
      · rw [t1, kd_end (by omega)]; decide
      · rw [t1, eL, ee]
      · rw [t1]
        have := kd_end (X := X) (p := e) (by omega)
        exact ⟨fun q => absurd q (by omega), fun q => absurd q (by omega), fun q => absurd q (by omega), fun q => absurd q (by omega)⟩
      · show rc9 X (Tp9 X n) ≤ 1
        rw [t1, rc_kd.1 (kd_end (by omega))]
        exact Nat.le_refl 1
    have blank : e < X.2 → bl9 X e = true → ((-2147483648 ≤ x1.toInt + 1 ∧ x1.toInt + 1 ≤ 2147483647) ∧ ∀ r5 : Int32, r5.toInt = x1.toInt + 1 → ((-2147483648 ≤ x2.toInt + 1 ∧ x2.toInt + 1 ≤ 2147483647) ∧ ∀ r6 : Int32, r6.toInt = x2.toInt + 1 → (WL_Po_split N) r5 r6 τ Q)) := fun hlt q => ⟨by omega, fun r5 h5 => ⟨by omega, fun r6 h6 => ih τ r5 r6 (e + 1) (c + 1) n fr tk (by omega) (by omega) (by omega) (by omega) (by omega) (by rw [← hsk]; unfold sk9; rw [← wh_t hlt q]) hrc (by omega)⟩⟩
    refine wl_Po_split_9 ?_
    refine ⟨fun q => fin (by omega), fun q => ⟨fun q => fin (by omega), fun q => ?_⟩⟩
    have hlt : e < X.2 := by omega
    have hb := hxt.at hlt
    refine ⟨e, h1, by omega, fun b1 => blank hlt (bl_t (Or.inl (by omega))), fun b1 => ⟨fun b2 => blank hlt (bl_t (Or.inr (by omega))), fun b2 => ?_⟩⟩
    have t1 : Tp9 X n = e := by rw [← hsk]; unfold sk9; exact wh_f (bl_f (by omega) (by omega))
    refine w_splitOff hxt hlt h1 tk.1 (by omega) (fun v τ' sp => ?_)
    obtain ⟨s1, kd, pl, w, ad, s2, s3, s4⟩ := sp
    rw [← t1] at s2 s3 s4
    have tk' := tk.ad ad s2 s3 s4
    have fr' := fr.ad ad
    have e13 := ad.1.1
    have e24 : (τ'.1 24 n).toInt = (kd9 X e : Int) := by rw [ad.1.2.1, s2, t1]
    have te := te_lt (X := X) (p := e) hb.2.1
    refine ⟨by omega, fun r9 h9 => ⟨n, by omega, by omega, fun q5 => ?_, fun q5 => ?_⟩⟩
    · refine k τ' (n + 1) fr' tk' ⟨by omega, fun i hi => hrc i (by omega), ?_⟩ (by omega)
      show rc9 X (Tp9 X n) ≤ 1
      rw [t1, rc_kd.2.2.2.2.2 (by omega)]; omega
    · have h2r : 2 ≤ rc9 X (Tp9 X n) := by
        rw [t1]
        refine kd_rc2 (by omega) (fun q0 => ?_)
        unfold kd9 at q0
        rw [decide_eq_false (p := by9 X e < 0) (by omega)] at q0
        revert q0
        show (bif le9 X e then 1 else bif fi9 X e then (bif decide (9 < fe9 X e - e) then 5 else bif pt9 X (fe9 X e) then (bif decide (6 < fe9 X (fe9 X e + 1) - (fe9 X e + 1)) then 5 else 3) else 2) else bif pr9 X e then 4 else bif SG9.any (fun c => decide (c = by9 X e)) then 4 else 5) = 0 → False
        cases le9 X e <;> cases fi9 X e <;> cases decide (9 < fe9 X e - e) <;> cases pt9 X (fe9 X e) <;> cases decide (6 < fe9 X (fe9 X e + 1) - (fe9 X e + 1)) <;> cases pr9 X e <;> cases SG9.any (fun c => decide (c = by9 X e)) <;> exact fun h => by cases h
      refine ⟨by omega, fun r12 h12 => ih τ' v r12 (te9 X e) (c + 1) (n + 1) fr' tk' (by omega) s1 (by omega) (by omega) (by omega) ?_ (fun i hi => ?_) (by omega)⟩
      · show sk9 X (te9 X e) = nx9t X (Tp9 X n)
        rw [t1]; rfl
      · by_cases g : i = n
        · subst g; exact h2r
        · exact hrc i (by omega)
theorem w_split {Q : Unit → zS → Prop} (hx : TxC σ X) (k : ∀ τ n, FrT σ τ → TkR τ X n → NT9 X n → n ≤ 1201 → Q () τ) : W_Po_split σ Q := by
  intro s1 e1
  have fr : FrT σ s1 := ⟨fun k j q1 q2 q3 => by rw [← e1, yI_ne q3], fun k j q => by rw [← e1, yI_l]⟩
  exact wl_split hx k fuF s1 0 0 0 0 0 fr ⟨by rw [← e1, yI_at]; decide, fun i hi => absurd hi (by omega)⟩ (by omega) (by decide) (by decide) (by omega) (by omega) rfl (fun i hi => absurd hi (by omega)) (by show 1200 - 0 + 5 ≤ 100000; decide)
end split
/-! ===== reading at a token: words, signs, letters, numbers ===== -/
theorem nt_lt {X : Txt} {n j : Nat} (h : NT9 X n) (hj : j < n) (hr : 2 ≤ rc9 X (Tp9 X j)) : j + 1 < n := by
  apply Classical.byContradiction
  intro q
  have : n - 1 = j := by omega
  have h3 := h.2.2
  rw [this] at h3
  omega
/-- the text, its tokens, the place (token j) -/
noncomputable def RdT (τ : zS) (X : Txt) (n j : Nat) : Prop := (TxC τ X ∧ TkR τ X n ∧ NT9 X n) ∧ n ≤ 1201 ∧ (τ.1 17 14).toInt = (j : Int) ∧ j < n
theorem RdT.kd {τ : zS} {X : Txt} {n j : Nat} (h : RdT τ X n j) : (τ.1 24 j).toInt = (kd9 X (Tp9 X j) : Int) := (h.1.2.1.2 j h.2.2.2).2.1
theorem RdT.pl {τ : zS} {X : Txt} {n j : Nat} (h : RdT τ X n j) : (τ.1 25 j).toInt = (Tp9 X j : Int) := (h.1.2.1.2 j h.2.2.2).1
theorem RdT.vl {τ : zS} {X : Txt} {n j : Nat} (h : RdT τ X n j) : VlR X (Tp9 X j) (τ.2 26 j).toInt := (h.1.2.1.2 j h.2.2.2).2.2
/-- a word by its bytes -/
noncomputable def WdP (X : Txt) (p i : Nat) : Prop := kd9 X p = 1 ∧ te9 X p - p = wdL i ∧ ∀ m, m < wdL i → by9 X (p + m) = wdB i m
theorem wd_ch : ∀ i, i < 21 → ∀ j, j < 14 → (((SBY.getD i []).getD j 0) &&& 255).toInt % 65536 = wdB i j := by decide +kernel
section L04
variable {τ : zS} {X : Txt} {n j : Nat} {Q : Int32 → zS → Prop}
theorem kd1_by {p : Nat} (h : kd9 X p = 1) : 0 ≤ by9 X p := by
  apply Classical.byContradiction
  intro q
  rw [kd_end (by omega)] at h
  omega
theorem w_charAt {i m : Nat} {x : Int32} (hi : i < 21) (hx : x.toInt = (m : Int)) (hm : m < wdL i) (k : ∀ v : Int32, v.toInt = wdB i m → Q v τ) : W_JS_charAt i x τ Q := by
  have hl := wd_len i hi
  have hw := wd_in i hi m (by omega)
  have hc := wd_ch i hi m (by omega)
  intro r1 h1
  have h1 : r1.toInt = (wdL i : Int) := h1
  refine ⟨⟨by omega, by omega⟩, m, hx, hm, fun r4 h4 => ?_⟩
  have h4 : r4.toInt = wdB i m := h4.trans hc
  exact ⟨by omega, by omega, k r4 h4⟩
theorem wl_isWord {i : Nat} (hi : i < 21) (h : RdT τ X n j) (hk : kd9 X (Tp9 X j) = 1) (ht : te9 X (Tp9 X j) - Tp9 X j = wdL i) (k1 : WdP X (Tp9 X j) i → Q 1 τ) (k0 : ¬ WdP X (Tp9 X j) i → Q 0 τ) : ∀ (N : Nat) (x2 : Int32) (m : Nat), x2.toInt = (m : Int) → m ≤ wdL i → (∀ m', m' < m → by9 X (Tp9 X j + m') = wdB i m') → wdL i - m + 2 ≤ N → (WL_Po_isWord N) i x2 τ Q
  | 0, _, _, _, _, _, h => absurd h (by omega)
  | N + 1, x2, m, h2, hm, hb, hN => by
    have ih := wl_isWord hi h hk ht k1 k0 N
    have hl := wd_len i hi
    have te := te_lt (kd1_by hk)
    have hX := h.1.1.1.2
    have pl := h.pl
    refine wl_Po_isWord_46 ?_
    intro r1 h1
    have h1 : r1.toInt = (wdL i : Int) := h1
    refine ⟨fun q => k1 ⟨hk, ht, fun m' hm' => hb m' (by omega)⟩, fun q => ⟨j, h.2.2.1, by have := h.2.2.2; have := h.2.1; omega, by omega, fun r4 h4 => ⟨Tp9 X j + m, by omega, by omega, ?_⟩⟩⟩
    have hx := (h.1.1.at (p := Tp9 X j + m) (by omega)).1
    refine w_charAt hi h2 (by omega) (fun v hv => ⟨fun e => ⟨by omega, fun r8 h8 => ih r8 (m + 1) (by omega) (by omega) (fun m' hm' => ?_) (by omega)⟩, fun e => k0 (fun w => e ?_)⟩)
    · by_cases g : m' = m
      · subst g; omega
      · exact hb m' (by omega)
    · have := w.2.2 m (by omega); omega
theorem w_isWordB {i : Nat} (hi : i < 21) (h : RdT τ X n j) (k1 : WdP X (Tp9 X j) i → Q 1 τ) (k0 : ¬ WdP X (Tp9 X j) i → Q 0 τ) : W_Po_isWord i τ Q := by
  have hj := h.2.2.2
  have hn := h.2.1
  have kd := h.kd
  have pl := h.pl
  have vl := h.vl
  have hX := h.1.1.1.2
  unfold W_Po_isWord
  refine ⟨j, h.2.2.1, by omega, fun c => ?_, fun c => k0 (fun w => c (by rw [kd, w.1]; decide))⟩
  have hk : kd9 X (Tp9 X j) = 1 := by omega
  have te := te_lt (kd1_by hk)
  have v1 := vl.1 hk
  intro r3 h3
  refine ⟨by omega, fun r4 h4 => ?_⟩
  intro r5 h5 r6 h6
  have h5 : r5.toInt = (wdL i : Int) := h5
  refine ⟨fun e => ?_, fun e => k0 (fun w => e (by have := w.2.1; omega))⟩
  exact wl_isWord hi h hk (by omega) k1 k0 fuF 0 0 (by decide) (by omega) (fun m' hm' => absurd hm' (by omega)) (by have := wd_len i hi; show wdL i - 0 + 2 ≤ 100000; omega)
end L04
/-- words by their codes -/
noncomputable def wcd (i : Nat) : Nat := [0, 37, 38, 39, 34, 35, 36, 0, 33, 22, 23, 27, 28, 0, 24, 25, 26, 29, 30, 31, 32].getD i 0
noncomputable def wdI (i : Nat) : List Int := (SBY.getD i []).map Int32.toInt
theorem wcd_a : ∀ i, i < 21 → (i = 0 ∨ i = 7 ∨ i = 13) ∨ ((WDR.all fun e => !(Nat.beq e.2 (wcd i)) || decide (e.1 = nv8 (wdI i) 0)) = true ∧ lkd 21 WDR (nv8 (wdI i) 0) = wcd i ∧ 22 ≤ wcd i) := by decide +kernel
theorem wcd_b : ∀ i, i < 21 → (i = 0 ∨ i = 7 ∨ i = 13) ∨ ((wdI i).length = wdL i ∧ (wdI i).length ≤ 8) := by decide +kernel
theorem wcd_c : ∀ i, i < 21 → ∀ m, m < 8 → wdL i ≤ m ∨ ((wdI i)[m]? = some (wdB i m) ∧ 1 ≤ wdB i m ∧ wdB i m ≤ 255) := by decide +kernel
theorem bs_l {X : Txt} {p : Nat} {l : List Int} : bs9 X p l.length = l ↔ ∀ m, (h : m < l.length) → by9 X (p + m) = l[m] := by
  constructor
  · intro h m hm
    have e := congrArg (fun q => q[m]?) h
    simp [bs9, hm] at e
    exact e
  · intro h
    apply List.ext_getElem
    · simp [bs9]
    · intro m h1 h2
      simp [bs9]
      exact h m h2
theorem wd_rc {X : Txt} {p i : Nat} (hi : i < 21) (h0 : i ≠ 0) (h7 : i ≠ 7) (h13 : i ≠ 13) : WdP X p i ↔ rc9 X p = wcd i := by
  obtain ⟨a1, a2, a3⟩ := (wcd_a i hi).resolve_left (by omega)
  obtain ⟨b1, b2⟩ := (wcd_b i hi).resolve_left (by omega)
  have c1 : ∀ m, (h : m < (wdI i).length) → (wdI i)[m] = wdB i m ∧ 1 ≤ wdB i m ∧ wdB i m ≤ 255 := fun m h => by
    have := (wcd_c i hi m (by omega)).resolve_left (by omega)
    rw [List.getElem?_eq_getElem h] at this
    exact ⟨Option.some.inj this.1, this.2⟩
  constructor
  · intro w
    obtain ⟨w1, w2, w3⟩ := w
    have te := te_word w1
    have e : bs9 X p (wdI i).length = wdI i := bs_l.mpr (fun m h => by rw [(c1 m h).1]; exact w3 m (by omega))
    have v := word_to (X := X) (p := p) b2 (by rw [← te.1, w2, b1]) e
    unfold rc9
    rw [w1, v]
    exact a2
  · intro r
    obtain ⟨r1, r2⟩ := rc_wv a3 r a1
    have by9l : Bys (wdI i) := fun b hb => by
      obtain ⟨m, hm, e⟩ := List.getElem_of_mem hb
      have := c1 m hm
      rw [e] at this
      omega
    obtain ⟨q1, q2⟩ := word_of by9l b2 r2
    have te := te_word r1
    exact ⟨r1, by rw [te.1, q1, b1], fun m hm => by rw [bs_l.mp q2 m (by omega)]; exact (c1 m (by omega)).1⟩
section L04b
variable {τ : zS} {X : Txt} {n j : Nat} {Q : Int32 → zS → Prop}
theorem w_isWord {i : Nat} (h : RdT τ X n j) (k1 : rc9 X (Tp9 X j) = wcd i → Q 1 τ) (k0 : rc9 X (Tp9 X j) ≠ wcd i → Q 0 τ) (hi : (decide (i < 21) && decide (i ≠ 0) && decide (i ≠ 7) && decide (i ≠ 13)) = true := by rfl) : W_Po_isWord i τ Q := by
  simp only [Bool.and_eq_true, decide_eq_true_eq] at hi
  obtain ⟨⟨⟨a, b⟩, c⟩, d⟩ := hi
  exact w_isWordB a h (fun w => k1 ((wd_rc a b c d).mp w)) (fun w => k0 (fun q => w ((wd_rc a b c d).mpr q)))
theorem lkd0_in : ∀ {l : List (Int × Nat)} {v : Int} {c : Nat}, lkd 0 l v = c → c ≠ 0 → (v, c) ∈ l
  | [], _, _, h, hc => absurd h.symm hc
  | e :: l, v, c, h, hc => by
    have h : (bif decide (e.1 = v) then e.2 else lkd 0 l v) = c := h
    cases hd : decide (e.1 = v) with
    | true =>
      rw [hd] at h
      have h : e.2 = c := h
      have := of_decide_eq_true hd
      rw [← h, ← this]
      exact List.mem_cons_self ..
    | false =>
      rw [hd] at h
      exact List.mem_cons_of_mem _ (lkd0_in h hc)
theorem sg_rc {p c : Nat} {v : Int} (hc : 4 ≤ c ∧ c ≤ 20) (ht : (SGR.all fun e => !(Nat.beq e.2 c) || decide (e.1 = v)) = true) (hv : lkd 0 SGR v = c) : (kd9 X p = 4 ∧ sg9 X p = v) ↔ rc9 X p = c := by
  have hk := kd9_le (X := X) (p := p)
  have q := rc_kd (X := X) (p := p)
  constructor
  · intro ⟨a, b⟩
    unfold rc9
    rw [a, b]
    exact hv
  · intro r
    have e : kd9 X p = 4 := by
      rcases (by omega : kd9 X p = 0 ∨ kd9 X p = 1 ∨ kd9 X p = 2 ∨ kd9 X p = 3 ∨ kd9 X p = 4 ∨ kd9 X p = 5) with e | e | e | e | e | e
      · have := q.1 e; omega
      · have := q.2.1 e; omega
      · have := q.2.2.1 e; omega
      · have := q.2.2.2.1 e; omega
      · exact e
      · have := q.2.2.2.2.2 e; omega
    refine ⟨e, ?_⟩
    have e2 : rc9 X p = lkd 0 SGR (sg9 X p) := by
      unfold rc9
      rw [e]
      rfl
    have := List.all_eq_true.mp ht _ (lkd0_in (e2.symm.trans r) (by omega))
    have b : Nat.beq c c = true := Nat.beq_refl c
    rw [b] at this
    exact of_decide_eq_true (by simpa using this)
/-- a sign, by its code c (v: what is asked) -/
theorem w_isSign {x : Int32} {c : Nat} (h : RdT τ X n j) (k1 : rc9 X (Tp9 X j) = c → Q 1 τ) (k0 : rc9 X (Tp9 X j) ≠ c → Q 0 τ) (hc : (decide (4 ≤ c) && decide (c ≤ 20) && (SGR.all fun e => !(Nat.beq e.2 c) || decide (e.1 = x.toInt)) && Nat.beq (lkd 0 SGR x.toInt) c) = true := by decide) : W_Po_isSign x τ Q := by
  simp only [Bool.and_eq_true, decide_eq_true_eq] at hc
  obtain ⟨⟨⟨a, b⟩, d⟩, e⟩ := hc
  have s := sg_rc (X := X) (p := Tp9 X j) ⟨a, b⟩ d (Nat.eq_of_beq_eq_true e)
  have hj := h.2.2.2
  have hn := h.2.1
  have kd := h.kd
  unfold W_Po_isSign
  refine ⟨j, h.2.2.1, by omega, fun q => ?_, fun q => k0 (fun w => q (by rw [kd, (s.mpr w).1]; decide))⟩
  have hk : kd9 X (Tp9 X j) = 4 := by omega
  have v4 := h.vl.2.2.2 hk
  intro r3 h3
  exact ⟨fun e => k1 (s.mp ⟨hk, by omega⟩), fun e => k0 (fun w => e (by have := (s.mpr w).2; omega))⟩
/-- the letter of a word of one, else a blank -/
noncomputable def olV (X : Txt) (p : Nat) : Int := if kd9 X p = 1 ∧ te9 X p - p = 1 then by9 X p else 32
theorem w_oneLetter (h : RdT τ X n j) (k : ∀ v : Int32, v.toInt = olV X (Tp9 X j) → Q v τ) : W_Po_oneLetter τ Q := by
  have hj := h.2.2.2
  have hn := h.2.1
  have kd := h.kd
  have pl := h.pl
  have hX := h.1.1.1.2
  have z32 : (32 : Int32).toInt = 32 := by decide
  have no : ¬ (kd9 X (Tp9 X j) = 1 ∧ te9 X (Tp9 X j) - Tp9 X j = 1) → W_Po_oneLetter_b43 0 τ Q := fun q => ⟨fun _ => k _ (by unfold olV; rw [if_neg q, z32]), fun z => absurd (by decide) z⟩
  unfold W_Po_oneLetter
  refine ⟨j, h.2.2.1, by omega, fun c => ?_, fun c => no (fun q => c (by rw [kd, q.1]; decide))⟩
  have hk : kd9 X (Tp9 X j) = 1 := by omega
  have te := te_lt (kd1_by hk)
  have v1 := h.vl.1 hk
  intro r3 h3
  refine ⟨by omega, fun r4 h4 => ⟨fun e => ?_, fun e => no (fun q => e (by omega))⟩⟩
  have hb := h.1.1.at (p := Tp9 X j) (by omega)
  refine ⟨fun z => absurd z (by decide), fun _ => ⟨j, h.2.2.1, by omega, Tp9 X j, pl, by omega, fun r5 h5 => ⟨by omega, k _ ?_⟩⟩⟩
  unfold olV
  rw [if_pos ⟨hk, by omega⟩]
  omega
end L04b

end
