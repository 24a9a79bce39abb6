section
/-! ===== REALS, 101: the reference's fit, its ends ===== -/
noncomputable abbrev SgV (b : Int32) (R : Nat) (v : Int64) : Prop := (b = 0 ∧ v.toInt = R) ∨ (¬ b = 0 ∧ v.toInt = (R : Int) - 9223372036854775808)
theorem ft_c {m : Int64} {d : Int32} {s : Nat} (hd : d.toInt = s) (h1 : 1 ≤ s) (h62 : s ≤ 62) :
    ((1 : Int64) <<< (Int32.toInt64 (d - 1) &&& 63) < m &&& ((1 : Int64) <<< (Int32.toInt64 d &&& 63) - 1) ↔ 2 ^ (s - 1) < uF m % 2 ^ s) ∧ (m &&& ((1 : Int64) <<< (Int32.toInt64 d &&& 63) - 1) = (1 : Int64) <<< (Int32.toInt64 (d - 1) &&& 63) ↔ uF m % 2 ^ s = 2 ^ (s - 1)) := by
  have r1 := u_rest (t := m) hd (by omega : s < 64)
  have r2 := u_half hd h1 (by omega : s < 64)
  have p2 : 2 ^ s ≤ 4611686018427387904 := by
    calc 2 ^ s ≤ 2 ^ 62 := Nat.pow_le_pow_right (by decide) h62
      _ = 4611686018427387904 := rfl
  have p0 : uF m % 2 ^ s < 2 ^ s := Nat.mod_lt _ (Nat.two_pow_pos s)
  have p1 : 2 ^ (s - 1) ≤ 2 ^ s := Nat.pow_le_pow_right (by decide) (by omega)
  refine ⟨?_, ?_⟩
  · have c1 := lt_u (x := (1 : Int64) <<< (Int32.toInt64 (d - 1) &&& 63)) (y := m &&& ((1 : Int64) <<< (Int32.toInt64 d &&& 63) - 1)) (by rw [r2]; omega) (by rw [r1]; omega)
    rw [r1, r2] at c1
    exact c1
  · constructor
    · intro q; rw [← r1, ← r2, q]
    · intro q; exact u_ext (by rw [r1, r2]; exact q)
theorem fq_sh {t e : Int32} (h0 : ¬ t - e ≤ 0) (h62 : t - e ≤ 62) (hd : (t - e).toInt = t.toInt - e.toInt) : ∃ s : Nat, (t - e).toInt = s ∧ (s : Int) = t.toInt - e.toInt ∧ 1 ≤ s ∧ s ≤ 62 := by
  have e0 : (0 : Int32).toInt = 0 := by decide
  have e62 : (62 : Int32).toInt = 62 := by decide
  rw [Int32.le_iff_toInt_le, e0] at h0
  rw [Int32.le_iff_toInt_le, e62] at h62
  exact ⟨(t - e).toInt.toNat, by omega, by omega, by omega, by omega⟩
theorem fq_keep {m : Int64} {t e : Int32} {st : Bool} (h0 : t - e ≤ 0) (hd : (t - e).toInt = t.toInt - e.toInt) : FtQ (uF m) e.toInt st t.toInt (uF m) e.toInt := by
  have e0 : (0 : Int32).toInt = 0 := by decide
  rw [Int32.le_iff_toInt_le, e0] at h0
  exact Or.inl ⟨by omega, rfl, rfl⟩
theorem fq_no {m : Int64} {t e : Int32} {s : Nat} {st : Bool} (hm : uF m < 4611686018427387904) (hd : (t - e).toInt = s) (hs : (s : Int) = t.toInt - e.toInt) (h1 : 1 ≤ s) (h62 : s ≤ 62) (hu : upF (uF m) s st = false) : FtQ (uF m) e.toInt st t.toInt (uF (m >>> (Int32.toInt64 (t - e) &&& 63))) t.toInt := by
  have h2 : uF (m >>> (Int32.toInt64 (t - e) &&& 63)) = uF m / 2 ^ s := u_shr hd (by omega) (by omega)
  refine Or.inr ⟨s, hs, h1, h62, ?_, rfl⟩
  rw [h2, hu]; simp
theorem fq_up {m : Int64} {t e : Int32} {s : Nat} {st : Bool} (hm : uF m < 4611686018427387904) (hd : (t - e).toInt = s) (hs : (s : Int) = t.toInt - e.toInt) (h1 : 1 ≤ s) (h62 : s ≤ 62) (hu : upF (uF m) s st = true) : FtQ (uF m) e.toInt st t.toInt (uF (m >>> (Int32.toInt64 (t - e) &&& 63) + 1)) t.toInt := by
  have h2 : uF (m >>> (Int32.toInt64 (t - e) &&& 63)) = uF m / 2 ^ s := u_shr hd (by omega) (by omega)
  have h3 : uF m / 2 ^ s ≤ uF m := Nat.div_le_self _ _
  refine Or.inr ⟨s, hs, h1, h62, ?_, rfl⟩
  rw [u_add, h2, hu, show uF (1 : Int64) = 1 by decide, if_pos rfl]
  omega
theorem fq_odd {m : Int64} {d : Int32} {s : Nat} (hm : uF m < 4611686018427387904) (hd : d.toInt = s) (h62 : s ≤ 62) : (m >>> (Int32.toInt64 d &&& 63)) &&& 1 = 1 ↔ uF m / 2 ^ s % 2 = 1 := by
  have h2 : uF (m >>> (Int32.toInt64 d &&& 63)) = uF m / 2 ^ s := u_shr hd (by omega) (by omega)
  rw [odd_u, h2]
theorem ft_lead {q : Int64} {v f : Int32} {n : Nat} (hv : v.toInt = n) (hn : n ≤ 64) (hf : -1074 ≤ f.toInt ∧ f.toInt ≤ 60000) : (v + f - 1 ≤ 1023 ↔ (n : Int) + f.toInt - 1 ≤ 1023) := by
  have e1 : (1023 : Int32).toInt = 1023 := by decide
  rw [Int32.le_iff_toInt_le, e1, pa_top hv hn (by omega)]
theorem ft_ht {q : Int64} {v f : Int32} (hn : LnV q v) (hf : -1074 ≤ f.toInt ∧ f.toInt ≤ 60000) (h : v + f - 1 ≤ 1023) : 0 < uF q → ∀ n : Nat, lenF (uF q) n → (n : Int) + f.toInt - 1 ≤ 1023 := by
  obtain ⟨n, hv, hn64, hl, _⟩ := hn
  intro h0 n' hl'
  rw [len_eq hl' hl h0]
  exact (ft_lead (q := q) hv hn64 hf).mp h
theorem ft_endI {m q : Int64} {v f : Int32} {L : Nat} {e t : Int} {st : Bool} (h0 : 0 < uF m) (hL : lenF (uF m) L) (ht : t = max (e + L - 53) (-1074)) (hq : FtQ (uF m) e st t (uF q) f.toInt) (hn : LnV q v) (hf : -1074 ≤ f.toInt ∧ f.toInt ≤ 60000) (h : ¬ v + f - 1 ≤ 1023) : FtM (uF m) e st infF := by
  obtain ⟨n, hv, hn64, hl, hz⟩ := hn
  rw [ft_lead (q := q) hv hn64 hf] at h
  exact ft_inf h0 hL ht hq hl hz (by omega)
theorem ft_endP {m q : Int64} {v f : Int32} {L R : Nat} {e t : Int} {st : Bool} (h0 : 0 < uF m) (hL : lenF (uF m) L) (ht : t = max (e + L - 53) (-1074)) (hq : FtQ (uF m) e st t (uF q) f.toInt) (hn : LnV q v) (hf : -1074 ≤ f.toInt ∧ f.toInt ≤ 60000) (h : v + f - 1 ≤ 1023) (hR : PaM (uF q) f.toInt R) : FtM (uF m) e st R := by
  obtain ⟨n, hv, hn64, hl, hz⟩ := hn
  rw [ft_lead (q := q) hv hn64 hf] at h
  exact ft_pack h0 hL ht hq hl h hR
theorem ftq_f {m L q : Nat} {e t f : Int} {st : Bool} (he : -50000 ≤ e ∧ e ≤ 50000) (hL64 : L ≤ 64) (hL : lenF m L) (ht : t = max (e + L - 53) (-1074)) (h : FtQ m e st t q f) : -1074 ≤ f ∧ f ≤ 60000 := by
  refine ⟨(ftq_le hL ht h).2, ?_⟩
  rcases h with ⟨_, _, hf⟩ | ⟨_, _, _, _, _, hf⟩ <;> omega
theorem ft_t {e v : Int32} {n : Nat} (he : -50000 ≤ e.toInt ∧ e.toInt ≤ 50000) (hv : v.toInt = n) (hn : n ≤ 64) : (e + v - 53).toInt = e.toInt + n - 53 := by
  have e1 : (53 : Int32).toInt = 53 := by decide
  have e2 : (e + v).toInt = e.toInt + n := by rw [i32_add (by omega), hv]
  rw [i32_sub (by rw [e2, e1]; omega), e2, e1]
theorem ft_d {t e : Int32} {L : Nat} (he : -50000 ≤ e.toInt ∧ e.toInt ≤ 50000) (hL : L ≤ 64) (ht : t.toInt = max (e.toInt + L - 53) (-1074)) : (t - e).toInt = t.toInt - e.toInt := by
  rw [i32_sub (by omega)]
theorem ft_far {m L : Nat} {t e : Int32} {st : Bool} (h0 : 0 < m) (hL : lenF m L) (ht : t.toInt = max (e.toInt + L - 53) (-1074)) (hd : (t - e).toInt = t.toInt - e.toInt) (h : ¬ t - e ≤ 62) : FtM m e.toInt st 0 := by
  have e62 : (62 : Int32).toInt = 62 := by decide
  rw [Int32.le_iff_toInt_le, e62] at h
  exact Or.inr ⟨h0, L, hL, t.toInt, ht, Or.inl ⟨by omega, rfl⟩⟩
/-! ===== REALS, 102: facts out of branches; the ends of the guards ===== -/
theorem p3_t {v : Int32} {c : Prop} (h : (v = 1 ∧ c) ∨ (v = 0 ∧ ¬ c)) (q : ¬ v = 0) : c := h.elim (fun a => a.2) (fun a => absurd a.1 q)
theorem p3_f {v : Int32} {c : Prop} (h : (v = 1 ∧ c) ∨ (v = 0 ∧ ¬ c)) (q : v = 0) : ¬ c := h.elim (fun a => absurd (a.1.symm.trans q) (by decide)) (fun a => a.2)
theorem k_eq_t {x y : Int64} (h : lg_cmp x y = 0) : x.toInt = y.toInt := by rw [(lg_cmp_eq _ _).mp h]
theorem k_eq_f {x y : Int64} (h : ¬ lg_cmp x y = 0) : x.toInt ≠ y.toInt := fun q => h ((lg_cmp_eq _ _).mpr (Int64.toInt_inj.mp q))
theorem k_ne_t {x y : Int64} (h : ¬ lg_cmp x y = 0) : x.toInt ≠ y.toInt := k_eq_f h
theorem k_ne_f {x y : Int64} (h : lg_cmp x y = 0) : x.toInt = y.toInt := k_eq_t h
theorem k_ge_t {x y : Int64} (h : 0 ≤ lg_cmp x y) : y.toInt ≤ x.toInt := Int64.le_iff_toInt_le.mp ((lg_cmp_ge _ _).mp h)
theorem k_ge_f {x y : Int64} (h : ¬ 0 ≤ lg_cmp x y) : x.toInt < y.toInt := by
  refine Classical.byContradiction fun q => h ((lg_cmp_ge _ _).mpr (Int64.le_iff_toInt_le.mpr (by omega)))
theorem k_gt_t {x y : Int64} (h : 0 < lg_cmp x y) : y.toInt < x.toInt := Int64.lt_iff_toInt_lt.mp ((lg_cmp_gt _ _).mp h)
theorem k_gt_f {x y : Int64} (h : ¬ 0 < lg_cmp x y) : x.toInt ≤ y.toInt := by
  refine Classical.byContradiction fun q => h ((lg_cmp_gt _ _).mpr (Int64.lt_iff_toInt_lt.mpr (by omega)))
theorem k_le_t {x y : Int64} (h : lg_cmp x y ≤ 0) : x.toInt ≤ y.toInt := Int64.le_iff_toInt_le.mp ((lg_cmp_le _ _).mp h)
theorem k_le_f {x y : Int64} (h : ¬ lg_cmp x y ≤ 0) : y.toInt < x.toInt := by
  refine Classical.byContradiction fun q => h ((lg_cmp_le _ _).mpr (Int64.le_iff_toInt_le.mpr (by omega)))
theorem k_lt_t {x y : Int64} (h : lg_cmp x y < 0) : x.toInt < y.toInt := Int64.lt_iff_toInt_lt.mp ((lg_cmp_lt _ _).mp h)
theorem k_lt_f {x y : Int64} (h : ¬ lg_cmp x y < 0) : y.toInt ≤ x.toInt := by
  refine Classical.byContradiction fun q => h ((lg_cmp_lt _ _).mpr (Int64.lt_iff_toInt_lt.mpr (by omega)))
theorem j_eq_t {x y : Int32} (h : x = y) : x.toInt = y.toInt := by rw [h]
theorem j_eq_f {x y : Int32} (h : ¬ x = y) : x.toInt ≠ y.toInt := fun q => h (Int32.toInt_inj.mp q)
theorem j_ne_t {x y : Int32} (h : ¬ x = y) : x.toInt ≠ y.toInt := j_eq_f h
theorem j_ne_f {x y : Int32} (h : x = y) : x.toInt = y.toInt := j_eq_t h
theorem j_ge_t {x y : Int32} (h : y ≤ x) : y.toInt ≤ x.toInt := Int32.le_iff_toInt_le.mp h
theorem j_ge_f {x y : Int32} (h : ¬ y ≤ x) : x.toInt < y.toInt := by
  refine Classical.byContradiction fun q => h (Int32.le_iff_toInt_le.mpr (by omega))
theorem j_gt_t {x y : Int32} (h : y < x) : y.toInt < x.toInt := Int32.lt_iff_toInt_lt.mp h
theorem j_gt_f {x y : Int32} (h : ¬ y < x) : x.toInt ≤ y.toInt := by
  refine Classical.byContradiction fun q => h (Int32.lt_iff_toInt_lt.mpr (by omega))
theorem j_le_t {x y : Int32} (h : x ≤ y) : x.toInt ≤ y.toInt := Int32.le_iff_toInt_le.mp h
theorem j_le_f {x y : Int32} (h : ¬ x ≤ y) : y.toInt < x.toInt := by
  refine Classical.byContradiction fun q => h (Int32.le_iff_toInt_le.mpr (by omega))
theorem j_lt_t {x y : Int32} (h : x < y) : x.toInt < y.toInt := Int32.lt_iff_toInt_lt.mp h
theorem j_lt_f {x y : Int32} (h : ¬ x < y) : y.toInt ≤ x.toInt := by
  refine Classical.byContradiction fun q => h (Int32.lt_iff_toInt_lt.mpr (by omega))
theorem ex_hi (x : Int64) : exF (mgF x.toInt) ≤ 972 := by
  have := mg_lt x
  unfold exF; split <;> omega
theorem nan_lit : (9221120237041090560 : Int64).toInt = nanF := by decide
theorem pl_nan {x y : Int} (h : isNaF x ∨ isNaF y ∨ (isInF x ∧ isInF y ∧ x ≠ y)) : PlR x y (9221120237041090560 : Int64).toInt := by unfold PlR; rw [if_pos h, nan_lit]
theorem pl_x {x y : Int} (h : ¬ (isNaF x ∨ isNaF y ∨ (isInF x ∧ isInF y ∧ x ≠ y))) (hi : isInF x) : PlR x y x := by unfold PlR; rw [if_neg h, if_pos hi]
theorem pl_y {x y : Int} (h : ¬ (isNaF x ∨ isNaF y ∨ (isInF x ∧ isInF y ∧ x ≠ y))) (hi : ¬ isInF x) (hj : isInF y) : PlR x y y := by unfold PlR; rw [if_neg h, if_neg hi, if_pos hj]
theorem w_1 {x y : Int} (h : ¬ (x < 0 ↔ y < 0)) : (1 : Int32) = 0 ↔ (x < 0 ↔ y < 0) := ⟨fun q => absurd q (by decide), fun q => absurd q h⟩
theorem w_0 {x y : Int} (h : x < 0 ↔ y < 0) : (0 : Int32) = 0 ↔ (x < 0 ↔ y < 0) := ⟨fun _ => h, fun _ => rfl⟩
theorem sgv_if {x y : Int} {w : Int32} {R : Nat} {v : Int64} (hw : w = 0 ↔ (x < 0 ↔ y < 0)) (h : SgV w R v) : v.toInt = if ¬ ((x < 0) = (y < 0)) then (R : Int) - 9223372036854775808 else (R : Int) := by
  rcases h with ⟨h, hv⟩ | ⟨h, hv⟩
  · rw [if_neg (fun q => q (propext (hw.mp h))), hv]
  · rw [if_pos (fun q => h (hw.mpr (by rw [q]))), hv]
theorem tm_nan {x y : Int} (h : isNaF x ∨ isNaF y ∨ (isInF x ∧ mgF y = 0) ∨ (mgF x = 0 ∧ isInF y)) : TmR x y (9221120237041090560 : Int64).toInt := by unfold TmR; rw [if_pos h, nan_lit]
theorem if_flip {c : Prop} [Decidable c] {a b : Int} : (if ¬ c then a else b) = if c then b else a := by
  by_cases h : c
  · rw [if_neg (fun q => q h), if_pos h]
  · rw [if_pos h, if_neg h]
theorem tm_inf {x y v : Int} (h : ¬ (isNaF x ∨ isNaF y ∨ (isInF x ∧ mgF y = 0) ∨ (mgF x = 0 ∧ isInF y))) (hi : isInF x ∨ isInF y) (hv : v = if ¬ ((x < 0) = (y < 0)) then ((infF : Nat) : Int) - 9223372036854775808 else ((infF : Nat) : Int)) : TmR x y v := by
  unfold TmR; rw [if_neg h, if_pos hi, hv, if_flip]
theorem tm_zero {x y v : Int} (hx : mgF x < infF) (hy : mgF y < infF) (h0 : mgF x = 0 ∨ mgF y = 0) (hv : v = if ¬ ((x < 0) = (y < 0)) then ((0 : Nat) : Int) - 9223372036854775808 else ((0 : Nat) : Int)) : TmR x y v := by
  unfold TmR; rw [if_neg (by omega), if_neg (by omega)]
  refine nx_put ?_ hv
  have h1 : vzF (mgF x) * vzF (mgF y) = 0 := by
    rcases h0 with h0 | h0 <;> rw [h0, vz_zero]
    · exact Nat.zero_mul _
    · exact Nat.mul_zero _
  rw [h1]; exact RN_zero (Nat.zero_le _)
theorem ov_nan {x y : Int} (h : isNaF x ∨ isNaF y ∨ (isInF x ∧ isInF y) ∨ (mgF x = 0 ∧ mgF y = 0)) : OvR x y (9221120237041090560 : Int64).toInt := by unfold OvR; rw [if_pos h, nan_lit]
theorem ov_inf {x y v : Int} (h : ¬ (isNaF x ∨ isNaF y ∨ (isInF x ∧ isInF y) ∨ (mgF x = 0 ∧ mgF y = 0))) (hi : isInF x ∨ mgF y = 0) (hv : v = if ¬ ((x < 0) = (y < 0)) then ((infF : Nat) : Int) - 9223372036854775808 else ((infF : Nat) : Int)) : OvR x y v := by
  unfold OvR; rw [if_neg h, if_pos hi, hv, if_flip]
theorem ov_zero {x y v : Int} (h : ¬ (isNaF x ∨ isNaF y ∨ (isInF x ∧ isInF y) ∨ (mgF x = 0 ∧ mgF y = 0))) (hi : ¬ (isInF x ∨ mgF y = 0)) (hz : isInF y ∨ mgF x = 0) (hv : v = if ¬ ((x < 0) = (y < 0)) then ((0 : Nat) : Int) - 9223372036854775808 else ((0 : Nat) : Int)) : OvR x y v := by
  unfold OvR; rw [if_neg h, if_neg hi, if_pos hz, hv, if_flip]; rfl
theorem rs_nan {x y : Int} (h : isNaF x ∨ isNaF y ∨ isInF x ∨ mgF y = 0) : RsR x y (9221120237041090560 : Int64).toInt := by unfold RsR; rw [if_pos h, nan_lit]
theorem rs_inf {x y : Int} (h : ¬ (isNaF x ∨ isNaF y ∨ isInF x ∨ mgF y = 0)) (hi : isInF y) : RsR x y x := by unfold RsR; rw [if_neg h, if_pos hi]
theorem sg_xor (x y : Int64) : SgU (¬ ((x.toInt < 0) = (y.toInt < 0))) ((x ^^^ y) &&& -9223372036854775808) := by
  unfold SgU
  have h1 : uF ((x ^^^ y) &&& -9223372036854775808) = (uF x ^^^ uF y) / 9223372036854775808 % 2 * 9223372036854775808 := by
    rw [u_and, u_xor, u_lit (n := 2 ^ 63) (x := -9223372036854775808) (by decide) (by decide), and_bit]
  have h2 : (uF x ^^^ uF y) / 9223372036854775808 = (uF x / 9223372036854775808) ^^^ (uF y / 9223372036854775808) := by
    rw [show (9223372036854775808 : Nat) = 2 ^ 63 from rfl, ← Nat.shiftRight_eq_div_pow, ← Nat.shiftRight_eq_div_pow, ← Nat.shiftRight_eq_div_pow, Nat.shiftRight_xor_distrib]
  have hx := u_lt x
  have hy := u_lt y
  have ax := (mg_u x).2.1
  have ay := (mg_u y).2.1
  rw [h1, h2]
  by_cases p : x.toInt < 0 <;> by_cases q : y.toInt < 0
  · rw [show uF x / 9223372036854775808 = 1 by omega, show uF y / 9223372036854775808 = 1 by omega, if_neg (by simp [p, q])]; rfl
  · rw [show uF x / 9223372036854775808 = 1 by omega, show uF y / 9223372036854775808 = 0 by omega, if_pos (by simp [p, q])]; rfl
  · rw [show uF x / 9223372036854775808 = 0 by omega, show uF y / 9223372036854775808 = 1 by omega, if_pos (by simp [p, q])]; rfl
  · rw [show uF x / 9223372036854775808 = 0 by omega, show uF y / 9223372036854775808 = 0 by omega, if_neg (by simp [p, q])]; rfl
/-! ===== REALS, 103: the class's plus ===== -/
theorem or_one9 (n : Nat) : n ||| 1 = if n % 2 = 1 then n else n + 1 := by
  have h1 : n = n / 2 * 2 ^ 1 + n % 2 := by omega
  have h2 : n % 2 < 2 ^ 1 := by omega
  have h3 : n ||| 1 = n / 2 * 2 ^ 1 + 1 := by
    calc n ||| 1 = (n / 2 * 2 ^ 1 + n % 2) ||| 1 := by rw [← h1]
      _ = (n / 2 * 2 ^ 1 ||| n % 2) ||| 1 := by rw [or_low h2]
      _ = n / 2 * 2 ^ 1 ||| (n % 2 ||| 1) := Nat.or_assoc _ _ _
      _ = n / 2 * 2 ^ 1 ||| 1 := by rcases Nat.mod_two_eq_zero_or_one n with q | q <;> rw [q] <;> rfl
      _ = n / 2 * 2 ^ 1 + 1 := or_low (by decide)
  rw [h3]; split <;> omega
theorem u9 {m : Int64} {M : Nat} (h : uF m = M) (hM : M < 9007199254740992) : uF (m <<< (Int32.toInt64 9 &&& 63)) = 512 * M := by
  have h1 : uF (m <<< (Int32.toInt64 9 &&& 63)) = uF m * 2 ^ 9 % 18446744073709551616 := u_shl (y := 9) (c := 9) (by decide) (by decide)
  rw [h1, h]; omega
theorem jam_far0 {k : Nat} {M : Nat} (h : 512 * M = 0) : JamF (512 * M) k (uF (0 : Int64)) ∧ uF (0 : Int64) ≤ 4611686018427387904 := by
  rw [h, show uF (0 : Int64) = 0 by decide]
  exact ⟨Or.inl (Nat.zero_mul _), by decide⟩
theorem jam_far1 {k : Nat} {M : Nat} (h0 : 512 * M ≠ 0) (hM : M < 9007199254740992) (hk : 63 ≤ k) : JamF (512 * M) k (uF (1 : Int64)) ∧ uF (1 : Int64) ≤ 4611686018427387904 := by
  have h1 : 2 ^ 63 ≤ 2 ^ k := Nat.pow_le_pow_right (by decide) hk
  rw [show (2 : Nat) ^ 63 = 9223372036854775808 from rfl] at h1
  rw [show uF (1 : Int64) = 1 by decide]
  exact ⟨Or.inr ⟨rfl, by omega, by omega⟩, by decide⟩
theorem jam_same {b : Int64} {M : Nat} (h : uF b = 512 * M) (hM : M < 9007199254740992) : JamF (512 * M) 0 (uF b) ∧ uF b ≤ 4611686018427387904 := by
  rw [h]
  exact ⟨Or.inl (by rw [Nat.pow_zero, Nat.mul_one]), by omega⟩
theorem jam_mid {b : Int64} {d : Int32} {k M : Nat} (h : uF b = 512 * M) (hM : M < 9007199254740992) (hd : d.toInt = k) (hk : 0 < k) (h62 : k ≤ 62) :
    ((b &&& ((1 : Int64) <<< (Int32.toInt64 d &&& 63) - 1)).toInt = 0 → JamF (512 * M) k (uF (shrU b d ||| Int32.toInt64 0)) ∧ uF (shrU b d ||| Int32.toInt64 0) ≤ 4611686018427387904) ∧ ((b &&& ((1 : Int64) <<< (Int32.toInt64 d &&& 63) - 1)).toInt ≠ 0 → JamF (512 * M) k (uF (shrU b d ||| Int32.toInt64 1)) ∧ uF (shrU b d ||| Int32.toInt64 1) ≤ 4611686018427387904) := by
  have r1 := u_rest (t := b) hd (by omega : k < 64)
  have r2 : uF (shrU b d) = uF b / 2 ^ k := u_ushr hd (by omega)
  have hj := jam_ok (uF b) k
  have hle : uF b / 2 ^ k ≤ uF b / 2 ^ 1 := Nat.div_le_div_left (Nat.pow_le_pow_right (by decide) hk) (by decide)
  have hz : (b &&& ((1 : Int64) <<< (Int32.toInt64 d &&& 63) - 1)).toInt = 0 ↔ uF b % 2 ^ k = 0 := by
    rw [← r1, u_int]
    have := u_lt (b &&& ((1 : Int64) <<< (Int32.toInt64 d &&& 63) - 1))
    split <;> omega
  constructor
  · intro q
    have q1 := hz.mp q
    rw [if_pos (Or.inl q1)] at hj
    rw [u_or, r2, show uF (Int32.toInt64 0) = 0 by decide, Nat.or_zero, ← h]
    exact ⟨hj, by omega⟩
  · intro q
    have q1 : uF b % 2 ^ k ≠ 0 := fun z => q (hz.mpr z)
    rw [u_or, r2, show uF (Int32.toInt64 1) = 1 by decide, or_one9, ← h]
    by_cases q2 : uF b / 2 ^ k % 2 = 1
    · rw [if_pos (Or.inr q2)] at hj
      rw [if_pos q2]
      exact ⟨hj, by omega⟩
    · rw [if_neg (by intro z; rcases z with z | z; exact q1 z; exact q2 z)] at hj
      rw [if_neg q2]
      exact ⟨hj, by omega⟩
theorem sg_n {x : Int} (h : x < 0) : sgF x = -1 := by unfold sgF; rw [if_pos h]
theorem sg_p {x : Int} (h : ¬ x < 0) : sgF x = 1 := by unfold sgF; rw [if_neg h]
theorem pl_tot {a b : Int64} {A B : Nat} (ha : uF a = A) (hA : A ≤ 4611686018427387392) (hb : uF b = B) (hB : B ≤ 4611686018427387904) : (a + b).toInt = (A : Int) + B ∧ (-a + b).toInt = -(A : Int) + B ∧ (a + -b).toInt = (A : Int) - B ∧ (-a + -b).toInt = -(A : Int) - B := by
  have n1 := u_neg a
  have n2 := u_neg b
  rw [ha] at n1
  rw [hb] at n2
  refine ⟨?_, ?_, ?_, ?_⟩ <;> rw [u_int, u_add] <;> first | rw [n1, n2] | rw [n1, hb] | rw [ha, n2] | rw [ha, hb]
  all_goals split <;> omega
theorem pl_sgn (x y : Int64) : ((x &&& y) &&& -9223372036854775808).toInt = if x.toInt < 0 ∧ y.toInt < 0 then -9223372036854775808 else 0 := by
  have h1 : uF ((x &&& y) &&& -9223372036854775808) = (uF x &&& uF y) / 9223372036854775808 % 2 * 9223372036854775808 := by
    rw [u_and, u_and, u_lit (n := 2 ^ 63) (x := -9223372036854775808) (by decide) (by decide), and_bit]
  have h2 : (uF x &&& uF y) / 9223372036854775808 = (uF x / 9223372036854775808) &&& (uF y / 9223372036854775808) := by
    rw [show (9223372036854775808 : Nat) = 2 ^ 63 from rfl, ← Nat.shiftRight_eq_div_pow, ← Nat.shiftRight_eq_div_pow, ← Nat.shiftRight_eq_div_pow, Nat.shiftRight_and_distrib]
  have hx := u_lt x
  have hy := u_lt y
  have ax := (mg_u x).2.1
  have ay := (mg_u y).2.1
  rw [u_int, h1, h2]
  by_cases p : x.toInt < 0 <;> by_cases q : y.toInt < 0
  · rw [show uF x / 9223372036854775808 = 1 by omega, show uF y / 9223372036854775808 = 1 by omega, if_pos (⟨p, q⟩ : x.toInt < 0 ∧ y.toInt < 0)]; rfl
  · rw [show uF x / 9223372036854775808 = 1 by omega, show uF y / 9223372036854775808 = 0 by omega, if_neg (show ¬ (x.toInt < 0 ∧ y.toInt < 0) by omega)]; rfl
  · rw [show uF x / 9223372036854775808 = 0 by omega, show uF y / 9223372036854775808 = 1 by omega, if_neg (show ¬ (x.toInt < 0 ∧ y.toInt < 0) by omega)]; rfl
  · rw [show uF x / 9223372036854775808 = 0 by omega, show uF y / 9223372036854775808 = 0 by omega, if_neg (show ¬ (x.toInt < 0 ∧ y.toInt < 0) by omega)]; rfl
/-- all that is known where the class's plus has its two numbers -/
noncomputable def PcD (x y mo le b t : Int64) : Prop := ((mo = x ∧ le = y) ∨ (mo = y ∧ le = x)) ∧ mgF x.toInt < infF ∧ mgF y.toInt < infF ∧ exF (mgF le.toInt) ≤ exF (mgF mo.toInt) ∧ JamF (512 * mzF (mgF le.toInt)) (exF (mgF mo.toInt) - exF (mgF le.toInt)).toNat (uF b) ∧ uF b ≤ 4611686018427387904 ∧ t.toInt = sgF mo.toInt * (512 * (mzF (mgF mo.toInt) : Int)) + sgF le.toInt * ((uF b : Nat) : Int)
theorem pcd_xy {x y mo le : Int64} (h : (mo = x ∧ le = y) ∨ (mo = y ∧ le = x)) : (mo.toInt = x.toInt ∧ le.toInt = y.toInt) ∨ (mo.toInt = y.toInt ∧ le.toInt = x.toInt) := by
  rcases h with ⟨h, h'⟩ | ⟨h, h'⟩ <;> subst h h'
  · exact Or.inl ⟨rfl, rfl⟩
  · exact Or.inr ⟨rfl, rfl⟩
theorem pcd_t {x y mo le b t : Int64} (h : PcD x y mo le b t) : -9223372036854775296 ≤ t.toInt ∧ t.toInt ≤ 9223372036854775296 := by
  obtain ⟨_, _, _, _, _, hb, ht⟩ := h
  have h1 := mz_lt (mgF mo.toInt)
  rcases sg_or mo.toInt with p | p <;> rcases sg_or le.toInt with q | q <;> rw [p, q] at ht <;> omega
theorem pcd_zero {x y mo le b t : Int64} (h : PcD x y mo le b t) (h0 : t.toInt = 0) : PlR x.toInt y.toInt ((x &&& y) &&& -9223372036854775808).toInt := by
  obtain ⟨hxy, hx, hy, he, hc, hb, ht⟩ := h
  exact plC (pcd_xy hxy) hx hy he hc ht (Or.inl ⟨h0, pl_sgn x y⟩)
theorem pcd_e {mo : Int64} {v : Int32} (hv : v.toInt = exF (mgF mo.toInt)) : (v - 9).toInt = exF (mgF mo.toInt) - 9 := by
  have h1 := ex_lo (mgF mo.toInt)
  have h2 := ex_hi mo
  have e9 : (9 : Int32).toInt = 9 := by decide
  rw [i32_sub (by rw [e9]; omega), e9, hv]
theorem pcd_eb {mo : Int64} {v : Int32} (hv : v.toInt = exF (mgF mo.toInt)) : -100000 ≤ (v - 9).toInt ∧ (v - 9).toInt ≤ 100000 := by
  have h1 := ex_lo (mgF mo.toInt)
  have h2 := ex_hi mo
  rw [pcd_e hv]; omega
theorem pcd_un {x y mo le b t : Int64} (h : PcD x y mo le b t) (h0 : t.toInt < 0) : uF (-t) < 9223372036854775808 ∧ uF (-t) = t.toInt.natAbs := by
  have h1 := pcd_t h
  have h2 : (-9223372036854775808 : Int64).toInt = -9223372036854775808 := by decide
  have h3 : (0 : Int64).toInt = 0 := by decide
  exact ow_neg (fun q => by rw [q] at h1; omega) (Int64.lt_iff_toInt_lt.mpr (by rw [h3]; exact h0))
theorem pcd_up {x y mo le b t : Int64} (h0 : 0 ≤ t.toInt) : uF t < 9223372036854775808 ∧ uF t = t.toInt.natAbs := by
  have h3 : (0 : Int64).toInt = 0 := by decide
  exact ow_pos (Int64.le_iff_toInt_le.mpr (by rw [h3]; exact h0))
theorem pcd_neg {x y mo le b t r : Int64} {v : Int32} (h : PcD x y mo le b t) (h0 : t.toInt < 0) (hv : v.toInt = exF (mgF mo.toInt)) (hp : PkV True (uF (-t)) (v - 9).toInt r) : PlR x.toInt y.toInt r.toInt := by
  have h1 := (pcd_un h h0).2
  obtain ⟨hxy, hx, hy, he, hc, hb, ht⟩ := h
  obtain ⟨R, hR, _, hr⟩ := hp
  rw [h1, pcd_e hv] at hR
  exact plC (pcd_xy hxy) hx hy he hc ht (Or.inr ⟨by omega, R, hR, by rw [hr, if_pos trivial, if_pos h0]⟩)
theorem pcd_pos {x y mo le b t r : Int64} {v : Int32} (h : PcD x y mo le b t) (hn : t.toInt ≠ 0) (h0 : 0 ≤ t.toInt) (hv : v.toInt = exF (mgF mo.toInt)) (hp : PkV False (uF t) (v - 9).toInt r) : PlR x.toInt y.toInt r.toInt := by
  have h1 := (pcd_up (x := x) (y := y) (mo := mo) (le := le) (b := b) h0).2
  obtain ⟨hxy, hx, hy, he, hc, hb, ht⟩ := h
  obtain ⟨R, hR, _, hr⟩ := hp
  rw [h1, pcd_e hv] at hR
  exact plC (pcd_xy hxy) hx hy he hc ht (Or.inr ⟨hn, R, hR, by rw [hr, if_neg (fun q => q), if_neg (by omega)]⟩)
/-! ===== REALS, 104: the reference's ofWhole ===== -/
theorem owm_p {x : Int64} (h : 0 ≤ x.toInt) : uF x = x.toInt.natAbs := by
  have h1 := u_int x
  have h2 := u_lt x
  split at h1 <;> omega
theorem owm_n {x : Int64} (h : x.toInt < 0) : uF (-x) = x.toInt.natAbs := by
  have h1 := u_int x
  have h2 := u_lt x
  rw [u_neg]
  split at h1 <;> omega
theorem owm_lo {m : Int64} {u : Int32} (hn : LnV m u) (h : ¬ 63 ≤ u) : uF m < 4611686018427387904 := by
  obtain ⟨n, hv, hn64, hl, _⟩ := hn
  have e : (63 : Int32).toInt = 63 := by decide
  rw [Int32.le_iff_toInt_le, e] at h
  calc uF m < 2 ^ n := hl.1
    _ ≤ 2 ^ 62 := Nat.pow_le_pow_right (by decide) (by omega)
    _ = 4611686018427387904 := rfl
theorem owm_big {m : Int64} {u : Int32} (hn : LnV m u) (h : 63 ≤ u) : 4611686018427387904 ≤ uF m := by
  obtain ⟨n, hv, hn64, hl, hz⟩ := hn
  have e : (63 : Int32).toInt = 63 := by decide
  rw [Int32.le_iff_toInt_le, e] at h
  have h0 : 0 < uF m := Nat.pos_of_ne_zero (fun q => by have := hz q; omega)
  calc 4611686018427387904 = 2 ^ 62 := rfl
    _ ≤ 2 ^ (n - 1) := Nat.pow_le_pow_right (by decide) (by omega)
    _ ≤ uF m := (len_pos hl h0).1
theorem owm_q (m : Int64) : uF (shrU m 2) = uF m / 4 := by
  have h1 : uF (shrU m 2) = uF m / 2 ^ 2 := u_ushr (y := 2) (c := 2) (by decide) (by decide)
  rw [h1]
theorem owm_hi {m : Int64} {N : Nat} (hm : uF m = N) : uF (shrU m 2) < 4611686018427387904 := by
  have := u_lt m
  rw [owm_q]; omega
theorem owm_r (m : Int64) : (m &&& 3) = 0 ↔ uF m % 4 = 0 := by
  have h1 : uF (m &&& 3) = uF m % 2 ^ 2 := by rw [u_and, u_lit (n := 2 ^ 2 - 1) (x := 3) (by decide) (by decide), and_low]
  rw [show (2 : Nat) ^ 2 = 4 from rfl] at h1
  constructor
  · intro q; rw [q] at h1; rw [← h1]; decide
  · intro q; exact u_ext (by rw [h1, q]; decide)
noncomputable abbrev WxV (w : Int32) (x : Int64) : Prop := (w = 0 ∧ 0 ≤ x.toInt) ∨ (¬ w = 0 ∧ x.toInt < 0)
theorem owm_s {w : Int32} {x v : Int64} {R : Nat} (hw : WxV w x) (h : SgV w R v) : v.toInt = if x.toInt < 0 then (R : Int) - 9223372036854775808 else (R : Int) := by
  rcases hw with ⟨h1, h2⟩ | ⟨h1, h2⟩ <;> rcases h with ⟨h3, h4⟩ | ⟨h3, h4⟩
  · rw [if_neg (by omega), h4]
  · exact absurd h1 h3
  · exact absurd h3 h1
  · rw [if_pos h2, h4]
theorem owm_endlo {x m v : Int64} {w u : Int32} (hw : WxV w x) (hm : uF m = x.toInt.natAbs) (hn : LnV m u) (h : ¬ 63 ≤ u) (hr : ∃ R : Nat, FtM (uF m) (0 : Int32).toInt (decide (¬ (0 : Int32) = 0)) R ∧ SgV w R v) : OwR x.toInt v.toInt := by
  obtain ⟨R, hR, hs⟩ := hr
  have h1 := owm_lo hn h
  rw [hm] at h1 hR
  rw [show (0 : Int32).toInt = 0 by decide, show decide (¬ (0 : Int32) = 0) = false by decide] at hR
  exact owM (mg_u x).2.2 (Or.inl ⟨h1, hR⟩) (owm_s hw hs)
theorem owm_endhi0 {x m v : Int64} {w u : Int32} (hw : WxV w x) (hm : uF m = x.toInt.natAbs) (hn : LnV m u) (h : 63 ≤ u) (h3 : m &&& 3 = 0) (hr : ∃ R : Nat, FtM (uF (shrU m 2)) (2 : Int32).toInt (decide (¬ (0 : Int32) = 0)) R ∧ SgV w R v) : OwR x.toInt v.toInt := by
  obtain ⟨R, hR, hs⟩ := hr
  have h1 := owm_big hn h
  have h2 := (owm_r m).mp h3
  rw [owm_q, hm] at hR
  rw [hm] at h1 h2
  rw [show (2 : Int32).toInt = 2 by decide, show decide (¬ (0 : Int32) = 0) = decide (x.toInt.natAbs % 4 ≠ 0) by rw [decide_eq_false (p := x.toInt.natAbs % 4 ≠ 0) (fun q => q h2)]; decide] at hR
  exact owM (mg_u x).2.2 (Or.inr ⟨h1, hR⟩) (owm_s hw hs)
theorem owm_endhi1 {x m v : Int64} {w u : Int32} (hw : WxV w x) (hm : uF m = x.toInt.natAbs) (hn : LnV m u) (h : 63 ≤ u) (h3 : ¬ m &&& 3 = 0) (hr : ∃ R : Nat, FtM (uF (shrU m 2)) (2 : Int32).toInt (decide (¬ (1 : Int32) = 0)) R ∧ SgV w R v) : OwR x.toInt v.toInt := by
  obtain ⟨R, hR, hs⟩ := hr
  have h1 := owm_big hn h
  have h2 : uF m % 4 ≠ 0 := fun q => h3 ((owm_r m).mpr q)
  rw [owm_q, hm] at hR
  rw [hm] at h1 h2
  rw [show (2 : Int32).toInt = 2 by decide, show decide (¬ (1 : Int32) = 0) = decide (x.toInt.natAbs % 4 ≠ 0) by rw [decide_eq_true (p := x.toInt.natAbs % 4 ≠ 0) h2]; decide] at hR
  exact owM (mg_u x).2.2 (Or.inr ⟨h1, hR⟩) (owm_s hw hs)
/-! ===== REALS, 105: the reference's plus ===== -/
theorem mp_sh {m : Int64} {v : Int32} {M : Nat} (hm : uF m = M) (h0 : 0 < M) (hM : M < 9007199254740992) (hn : LnV m v) : ∃ sh : Nat, (61 - v).toInt = sh ∧ sh ≤ 60 ∧ (1152921504606846976 ≤ M * 2 ^ sh ∧ M * 2 ^ sh < 2305843009213693952) ∧ uF (m <<< (Int32.toInt64 (61 - v) &&& 63)) = M * 2 ^ sh := by
  obtain ⟨n, hv, hn64, hl, _⟩ := hn
  rw [hm] at hl
  have h1 := len_pos hl h0
  have h2 : n ≤ 53 := len_le hl h0 (by exact hM)
  have e61 : (61 : Int32).toInt = 61 := by decide
  have h3 : (61 - v).toInt = ((61 - n : Nat) : Int) := by rw [i32_sub (by rw [e61]; omega), e61]; omega
  have h4 : M * 2 ^ (61 - n) < 2 ^ 61 := by
    calc M * 2 ^ (61 - n) < 2 ^ n * 2 ^ (61 - n) := Nat.mul_lt_mul_of_pos_right hl.1 (Nat.two_pow_pos _)
      _ = 2 ^ 61 := by rw [← Nat.pow_add, show n + (61 - n) = 61 by omega]
  have h5 : 2 ^ 60 ≤ M * 2 ^ (61 - n) := by
    calc 2 ^ 60 = 2 ^ (n - 1) * 2 ^ (61 - n) := by rw [← Nat.pow_add, show n - 1 + (61 - n) = 60 by omega]
      _ ≤ M * 2 ^ (61 - n) := Nat.mul_le_mul_right _ h1.1
  rw [show (2 : Nat) ^ 61 = 2305843009213693952 from rfl] at h4
  rw [show (2 : Nat) ^ 60 = 1152921504606846976 from rfl] at h5
  refine ⟨61 - n, h3, by omega, ⟨h5, h4⟩, ?_⟩
  have h6 : uF (m <<< (Int32.toInt64 (61 - v) &&& 63)) = uF m * 2 ^ (61 - n) % 18446744073709551616 := u_shl h3 (by omega)
  rw [h6, hm]; exact Nat.mod_eq_of_lt (by omega)
noncomputable def PmH (x y bg sm m : Int64) (e : Int32) : Prop := ∃ sh : Nat, sh ≤ 60 ∧ ((bg = x ∧ sm = y) ∨ (bg = y ∧ sm = x)) ∧ mgF x.toInt < infF ∧ mgF y.toInt < infF ∧ mgF sm.toInt ≤ mgF bg.toInt ∧ (1152921504606846976 ≤ mzF (mgF bg.toInt) * 2 ^ sh ∧ mzF (mgF bg.toInt) * 2 ^ sh < 2305843009213693952) ∧ uF m = mzF (mgF bg.toInt) * 2 ^ sh ∧ e.toInt = exF (mgF bg.toInt) - sh
theorem pm_h {x y bg sm m : Int64} {a v : Int32} (hxy : (bg = x ∧ sm = y) ∨ (bg = y ∧ sm = x)) (hx : mgF x.toInt < infF) (hy : mgF y.toInt < infF) (hle : mgF sm.toInt ≤ mgF bg.toInt) (h0 : mgF bg.toInt ≠ 0) (hm : uF m = mzF (mgF bg.toInt)) (ha : a.toInt = exF (mgF bg.toInt)) (hn : LnV m v) : PmH x y bg sm (m <<< (Int32.toInt64 (61 - v) &&& 63)) (a - (61 - v)) := by
  obtain ⟨sh, h1, h60, hb, hu⟩ := mp_sh hm (mz_pos h0) (mz_lt _) hn
  have h2 := ex_lo (mgF bg.toInt)
  have h3 := ex_hi bg
  exact ⟨sh, h60, hxy, hx, hy, hle, hb, hu, by rw [i32_sub (by omega), ha, h1]⟩
theorem pm_d {x y bg sm m : Int64} {e a : Int32} (h : PmH x y bg sm m e) (ha : a.toInt = exF (mgF sm.toInt)) : (e - a).toInt = e.toInt - exF (mgF sm.toInt) := by
  obtain ⟨sh, h60, _, _, _, _, _, _, he⟩ := h
  have h2 := ex_lo (mgF bg.toInt)
  have h3 := ex_hi bg
  have h4 := ex_lo (mgF sm.toInt)
  have h5 := ex_hi sm
  rw [i32_sub (by omega), ha]
theorem pm_e {x y bg sm m : Int64} {e : Int32} (h : PmH x y bg sm m e) : -50000 ≤ e.toInt ∧ e.toInt ≤ 50000 := by
  obtain ⟨sh, h60, _, _, _, _, _, _, he⟩ := h
  have h2 := ex_lo (mgF bg.toInt)
  have h3 := ex_hi bg
  omega
theorem pm_bz {n : Int64} {M : Nat} {a e : Int} (hn : uF n = M) (h0 : n.toInt = 0) : BesF M a e (uF (0 : Int64)) (decide (¬ (0 : Int32) = 0)) := by
  have h1 : M = 0 := by
    have h1 := u_int n
    have h2 := u_lt n
    rw [hn] at h1 h2
    split at h1 <;> omega
  rw [h1, show uF (0 : Int64) = 0 by decide, show decide (¬ (0 : Int32) = 0) = false by decide]
  exact bes_zero
theorem u_nz {n : Int64} (h : n.toInt ≠ 0) : uF n ≠ 0 := fun q => h (by rw [u_int, q]; decide)
theorem u_z {n : Int64} (h : n.toInt = 0) : uF n = 0 := by
  have h1 := u_int n
  have h2 := u_lt n
  split at h1 <;> omega
theorem pm_bf {n : Int64} {M : Nat} {a e d : Int} (hn : uF n = M) (hM : M < 9007199254740992) (h0 : n.toInt ≠ 0) (hd : d = e - a) (h62 : 62 < d) : BesF M a e (uF (0 : Int64)) (decide (¬ (1 : Int32) = 0)) := by
  have h1 : M ≠ 0 := by rw [← hn]; exact u_nz h0
  have h2 := bes_far (mb := M) (g := d.toNat) (eb := a) (e := e) (by omega) (by omega) hM
  rw [show uF (0 : Int64) = 0 by decide, show decide (¬ (1 : Int32) = 0) = true by decide]
  rw [decide_eq_true h1] at h2
  exact h2
theorem pm_bm {n : Int64} {M : Nat} {a e : Int} {d : Int32} (hn : uF n = M) (hM : M < 9007199254740992) (hd : d.toInt = e - a) (h0 : 0 < d.toInt) (h62 : d.toInt ≤ 62) :
    ((n &&& ((1 : Int64) <<< (Int32.toInt64 d &&& 63) - 1)).toInt = 0 → BesF M a e (uF (n >>> (Int32.toInt64 d &&& 63))) (decide (¬ (0 : Int32) = 0))) ∧ ((n &&& ((1 : Int64) <<< (Int32.toInt64 d &&& 63) - 1)).toInt ≠ 0 → BesF M a e (uF (n >>> (Int32.toInt64 d &&& 63))) (decide (¬ (1 : Int32) = 0))) := by
  obtain ⟨g, hg⟩ : ∃ g : Nat, d.toInt = g := ⟨d.toInt.toNat, by omega⟩
  have r1 := u_rest (t := n) hg (by omega : g < 64)
  have r2 : uF (n >>> (Int32.toInt64 d &&& 63)) = uF n / 2 ^ g := u_shr hg (by omega) (by omega)
  have hb := bes_near (mb := M) (g := g) (eb := a) (e := e) (by omega) (by omega)
  rw [r2, hn]
  rw [hn] at r1
  constructor
  · intro q
    have q1 := u_z q
    rw [r1] at q1
    rw [decide_eq_false (fun z => z q1)] at hb
    rw [show decide (¬ (0 : Int32) = 0) = false by decide]; exact hb
  · intro q
    have q1 := u_nz q
    rw [r1] at q1
    rw [decide_eq_true q1] at hb
    rw [show decide (¬ (1 : Int32) = 0) = true by decide]; exact hb
theorem ex_mono {R S : Nat} (h : R ≤ S) : exF R ≤ exF S := by
  have : R / 4503599627370496 ≤ S / 4503599627370496 := Nat.div_le_div_right h
  unfold exF; split <;> split <;> omega
theorem pm_bl {x y bg sm m n : Int64} {e d : Int32} (h : PmH x y bg sm m e) (hn : uF n = mzF (mgF sm.toInt)) (hd : d.toInt = e.toInt - exF (mgF sm.toInt)) (h0 : d.toInt ≤ 0) : BesF (mzF (mgF sm.toInt)) (exF (mgF sm.toInt)) e.toInt (uF (n <<< (Int32.toInt64 (-d) &&& 63))) (decide (¬ (0 : Int32) = 0)) := by
  obtain ⟨sh, h60, _, _, _, hle, hb, _, he⟩ := h
  have h1 := ex_mono hle
  have h2 := ex_lo (mgF sm.toInt)
  have hv : vzF (mgF sm.toInt) ≤ vzF (mgF bg.toInt) := vz_le hle
  rw [vz_mz, vz_mz] at hv
  obtain ⟨g, hg⟩ : ∃ g : Nat, d.toInt = -(g : Int) := ⟨(-d.toInt).toNat, by omega⟩
  have hg60 : g ≤ sh := by omega
  have hneg : (-d).toInt = (g : Int) := by
    rw [Int32.toInt_neg, Int.bmod_eq_of_le (by omega) (by omega)]; omega
  have hk : mzF (mgF sm.toInt) * 2 ^ g ≤ mzF (mgF bg.toInt) * 2 ^ sh := by
    have e1 : (exF (mgF bg.toInt) + 1074).toNat + g = (exF (mgF sm.toInt) + 1074).toNat + sh := by omega
    refine Nat.le_of_mul_le_mul_right (c := 2 ^ (exF (mgF sm.toInt) + 1074).toNat) ?_ (Nat.two_pow_pos _)
    calc mzF (mgF sm.toInt) * 2 ^ g * 2 ^ (exF (mgF sm.toInt) + 1074).toNat = mzF (mgF sm.toInt) * 2 ^ (exF (mgF sm.toInt) + 1074).toNat * 2 ^ g := Nat.mul_right_comm _ _ _
      _ ≤ mzF (mgF bg.toInt) * 2 ^ (exF (mgF bg.toInt) + 1074).toNat * 2 ^ g := Nat.mul_le_mul_right _ hv
      _ = mzF (mgF bg.toInt) * 2 ^ sh * 2 ^ (exF (mgF sm.toInt) + 1074).toNat := by rw [Nat.mul_assoc, ← Nat.pow_add, e1, Nat.add_comm, Nat.pow_add, Nat.mul_assoc]
  have h6 : uF (n <<< (Int32.toInt64 (-d) &&& 63)) = uF n * 2 ^ g % 18446744073709551616 := u_shl hneg (by omega)
  rw [h6, hn, Nat.mod_eq_of_lt (by omega), show decide (¬ (0 : Int32) = 0) = false by decide]
  exact bes_left (by omega)
noncomputable abbrev PmB (sm : Int64) (e : Int32) (n : Int64) (st : Int32) : Prop := BesF (mzF (mgF sm.toInt)) (exF (mgF sm.toInt)) e.toInt (uF n) (decide (¬ st = 0))
/-- the sum, without its sign -/
noncomputable def PmT (x y m n : Int64) (st : Int32) (T : Int64) : Prop := uF T = if (x.toInt < 0) = (y.toInt < 0) then uF m + uF n else uF m - uF n - (if decide (¬ st = 0) then 1 else 0)
theorem pm_le {x y bg sm m n : Int64} {e st : Int32} (h : PmH x y bg sm m e) (hb : PmB sm e n st) : uF n + (if decide (¬ st = 0) then 1 else 0) ≤ uF m ∧ uF m < 2305843009213693952 ∧ uF m + uF n < 4611686018427387904 := by
  obtain ⟨sh, h60, _, _, _, hle, hbd, hm, he⟩ := h
  have hv : vzF (mgF sm.toInt) ≤ vzF (mgF bg.toInt) := vz_le hle
  have ⟨⟨_, p2, _⟩, p4, _⟩ := plusM hbd (ex_lo _) (ex_lo _) he (mz_lt _) (by rw [← vz_mz, ← vz_mz]; exact hv) hb
  rw [hm]
  exact ⟨p4, hbd.2, p2⟩
theorem pm_add {x y bg sm m n : Int64} {e st : Int32} (h : PmH x y bg sm m e) (hb : PmB sm e n st) (hs : x.toInt < 0 ↔ y.toInt < 0) : PmT x y m n st (m + n) := by
  have hl := pm_le h hb
  unfold PmT
  rw [if_pos (propext hs), u_add]; omega
theorem pm_sub0 {x y bg sm m n : Int64} {e st : Int32} (h : PmH x y bg sm m e) (hb : PmB sm e n st) (hs : ¬ (x.toInt < 0 ↔ y.toInt < 0)) (h0 : st = 0) : PmT x y m n st (m - n - 0) := by
  have hl := pm_le h hb
  have h1 : decide (¬ st = 0) = false := decide_eq_false (fun q => q h0)
  unfold PmT
  rw [h1] at hl ⊢
  simp only [Bool.false_eq_true, if_false] at hl ⊢
  rw [if_neg (fun q => hs (by rw [q])), u_sub, u_sub, show uF (0 : Int64) = 0 by decide]; omega
theorem pm_sub1 {x y bg sm m n : Int64} {e st : Int32} (h : PmH x y bg sm m e) (hb : PmB sm e n st) (hs : ¬ (x.toInt < 0 ↔ y.toInt < 0)) (h0 : ¬ st = 0) : PmT x y m n st (m - n - 1) := by
  have hl := pm_le h hb
  have h1 : decide (¬ st = 0) = true := decide_eq_true h0
  unfold PmT
  rw [h1] at hl ⊢
  simp only [if_true] at hl ⊢
  rw [if_neg (fun q => hs (by rw [q])), u_sub, u_sub, show uF (1 : Int64) = 1 by decide]; omega
theorem pm_lt {x y bg sm m n T : Int64} {e st : Int32} (h : PmH x y bg sm m e) (hb : PmB sm e n st) (hT : PmT x y m n st T) : uF T < 4611686018427387904 := by
  have hl := pm_le h hb
  unfold PmT at hT
  rw [hT]
  split
  · exact hl.2.2
  · omega
theorem pm_go {x y bg sm m n T v : Int64} {e st : Int32} (h : PmH x y bg sm m e) (hb : PmB sm e n st) (hT : PmT x y m n st T) (hv : (uF T = 0 ∧ v.toInt = 0) ∨ (uF T ≠ 0 ∧ ∃ R : Nat, FtM (uF T) e.toInt (decide (¬ st = 0)) R ∧ v.toInt = if bg.toInt < 0 then (R : Int) - 9223372036854775808 else (R : Int))) : PlR x.toInt y.toInt v.toInt := by
  obtain ⟨sh, h60, hxy, hx, hy, hle, hbd, hm, he⟩ := h
  unfold PmT at hT
  rw [hm] at hT
  refine plM (T := uF T) (pcd_xy hxy) hx hy hle hbd (by rw [← he]; exact hb) hT ?_
  rw [← he]; exact hv
theorem pm_zero {x y bg sm m n T : Int64} {e st : Int32} (h : PmH x y bg sm m e) (hb : PmB sm e n st) (hT : PmT x y m n st T) (h0 : T.toInt = 0) : PlR x.toInt y.toInt (0 : Int64).toInt := pm_go h hb hT (Or.inl ⟨u_z h0, by decide⟩)
theorem pm_fin {x y bg sm m n T v : Int64} {e st w : Int32} (h : PmH x y bg sm m e) (hb : PmB sm e n st) (hT : PmT x y m n st T) (h0 : T.toInt ≠ 0) (hw : WxV w bg) (hr : ∃ R : Nat, FtM (uF T) e.toInt (decide (¬ st = 0)) R ∧ SgV w R v) : PlR x.toInt y.toInt v.toInt := by
  obtain ⟨R, hR, hs⟩ := hr
  exact pm_go h hb hT (Or.inr ⟨u_nz h0, R, hR, owm_s hw hs⟩)
/-! ===== REALS, 106: the products ===== -/
theorem u_low (a : Int64) : uF (a &&& 134217727) = uF a % 134217728 := by
  rw [u_and, u_lit (n := 2 ^ 27 - 1) (x := 134217727) (by decide) (by decide), and_low]
theorem u_up (a : Int64) : uF (shrU a 27) = uF a / 134217728 := by
  have h : uF (shrU a 27) = uF a / 2 ^ 27 := u_ushr (y := 27) (c := 27) (by decide) (by decide)
  rw [h]
theorem u_upS {a : Int64} (h : uF a < 9223372036854775808) : uF (a >>> (Int32.toInt64 27 &&& 63)) = uF a / 134217728 := by
  have h : uF (a >>> (Int32.toInt64 27 &&& 63)) = uF a / 2 ^ 27 := u_shr (y := 27) (c := 27) (by decide) (by decide) h
  rw [h]
theorem u_27 {a : Int64} (h : uF a < 134217728) : uF (a <<< (Int32.toInt64 27 &&& 63)) = uF a * 134217728 := by
  have h1 : uF (a <<< (Int32.toInt64 27 &&& 63)) = uF a * 2 ^ 27 % 18446744073709551616 := u_shl (y := 27) (c := 27) (by decide) (by decide)
  rw [h1]; omega
theorem mul_lt27 {p q : Nat} (hp : p < 134217728) (hq : q < 134217728) : p * q < 18014398509481984 := by
  have := Nat.mul_le_mul (show p ≤ 134217727 by omega) (show q ≤ 134217727 by omega)
  omega
/-- the class's product by halves -/
noncomputable abbrev tcLow (a b : Int64) : Int64 := (a &&& 134217727) * (b &&& 134217727)
noncomputable abbrev tcMid (a b : Int64) : Int64 := ((shrU a 27 * (b &&& 134217727)) + ((a &&& 134217727) * shrU b 27)) + shrU (tcLow a b) 27
noncomputable abbrev tcHi (a b : Int64) : Int64 := (shrU a 27 * shrU b 27) + shrU (tcMid a b) 27
noncomputable abbrev tcRs (a b : Int64) : Int64 := ((tcMid a b &&& 134217727) <<< (Int32.toInt64 27 &&& 63)) ||| (tcLow a b &&& 134217727)
noncomputable abbrev tcM (a b : Int64) : Int64 := (tcHi a b <<< (Int32.toInt64 9 &&& 63)) ||| shrU (tcRs a b) 45
theorem tc_cut {a b : Int64} (ha : uF a < 9007199254740992) (hb : uF b < 9007199254740992) : uF a * uF b = uF (tcHi a b) * 18014398509481984 + uF (tcRs a b) ∧ uF (tcRs a b) < 18014398509481984 ∧ uF (tcHi a b) < 4503599627370496 := by
  have la : uF a % 134217728 < 134217728 := Nat.mod_lt _ (by decide)
  have lb : uF b % 134217728 < 134217728 := Nat.mod_lt _ (by decide)
  have ua : uF a / 134217728 < 67108864 := by omega
  have ub : uF b / 134217728 < 67108864 := by omega
  have m1 := mul_lt27 la lb
  have m2 := mul_lt27 (show uF a / 134217728 < 134217728 by omega) lb
  have m3 := mul_lt27 la (show uF b / 134217728 < 134217728 by omega)
  have m4 := mul_lt27 (show uF a / 134217728 < 134217728 by omega) (show uF b / 134217728 < 134217728 by omega)
  have e1 : uF (tcLow a b) = (uF a % 134217728) * (uF b % 134217728) := by
    unfold tcLow; rw [u_mul, u_low, u_low]; exact Nat.mod_eq_of_lt (by omega)
  have e2 : uF (tcMid a b) = (uF a / 134217728) * (uF b % 134217728) + (uF a % 134217728) * (uF b / 134217728) + uF (tcLow a b) / 134217728 := by
    unfold tcMid
    rw [u_add, u_add, u_mul, u_mul, u_low, u_low, u_up, u_up, u_up]
    rw [e1]
    generalize (uF a / 134217728) * (uF b % 134217728) = p at *
    generalize (uF a % 134217728) * (uF b / 134217728) = q at *
    generalize (uF a % 134217728) * (uF b % 134217728) = r at *
    omega
  have e3 : uF (tcHi a b) = (uF a / 134217728) * (uF b / 134217728) + uF (tcMid a b) / 134217728 := by
    unfold tcHi
    rw [u_add, u_mul, u_up, u_up, u_up, e2, e1]
    generalize (uF a / 134217728) * (uF b % 134217728) = p at *
    generalize (uF a % 134217728) * (uF b / 134217728) = q at *
    generalize (uF a % 134217728) * (uF b % 134217728) = r at *
    generalize (uF a / 134217728) * (uF b / 134217728) = t at *
    omega
  have e4 : uF (tcRs a b) = uF (tcMid a b) % 134217728 * 134217728 + uF (tcLow a b) % 134217728 := by
    unfold tcRs
    rw [u_or, u_27 (by rw [u_low]; exact Nat.mod_lt _ (by decide)), u_low, u_low]
    exact or_low (n := 27) (Nat.mod_lt _ (by decide))
  have h := cutC (a := uF a) (b := uF b) e1 e2 e3 e4
  refine ⟨h.1, h.2, ?_⟩
  have h1 := Nat.mul_le_mul (show uF a ≤ 9007199254740991 by omega) (show uF b ≤ 9007199254740991 by omega)
  generalize uF a * uF b = N at *
  omega
theorem tc_m {a b : Int64} (ha : uF a < 9007199254740992) (hb : uF b < 9007199254740992) : uF (tcM a b) = uF a * uF b / 2 ^ 45 ∧ ((tcRs a b &&& 35184372088831) = 0 ↔ uF a * uF b % 2 ^ 45 = 0) ∧ uF (tcM a b) < 2305843009213693952 := by
  have ⟨h1, h2, h3⟩ := tc_cut ha hb
  have ⟨s1, s2⟩ := shC h1 h2
  have e1 : uF (tcHi a b <<< (Int32.toInt64 9 &&& 63)) = uF (tcHi a b) * 512 := by rw [u9 rfl (by omega)]; exact Nat.mul_comm _ _
  have e2 : uF (shrU (tcRs a b) 45) = uF (tcRs a b) / 35184372088832 := by
    have h : uF (shrU (tcRs a b) 45) = uF (tcRs a b) / 2 ^ 45 := u_ushr (y := 45) (c := 45) (by decide) (by decide)
    rw [h]
  have e3 : uF (tcM a b) = uF (tcHi a b) * 512 + uF (tcRs a b) / 35184372088832 := by
    unfold tcM
    rw [u_or, e1, e2]
    exact or_low (n := 9) (by rw [show (2 : Nat) ^ 9 = 512 from rfl]; omega)
  have e4 : uF (tcRs a b &&& 35184372088831) = uF (tcRs a b) % 35184372088832 := by
    rw [u_and, u_lit (n := 2 ^ 45 - 1) (x := 35184372088831) (by decide) (by decide), and_low]
  refine ⟨by rw [e3, s1], ?_, by rw [e3]; omega⟩
  rw [s2, ← e4]
  constructor
  · intro q; rw [q]; decide
  · intro q; exact u_ext (by rw [q]; decide)
theorem tc_jd {a b : Int64} (ha : uF a < 9007199254740992) (hb : uF b < 9007199254740992) : ((tcRs a b &&& 35184372088831) = 0 → JdF (uF a * uF b) (2 ^ 45) (uF (tcM a b)) ∧ uF (tcM a b) < 9223372036854775808) ∧ (¬ (tcRs a b &&& 35184372088831) = 0 → JdF (uF a * uF b) (2 ^ 45) (uF (tcM a b ||| 1)) ∧ uF (tcM a b ||| 1) < 9223372036854775808) := by
  have ⟨h1, h2, h3⟩ := tc_m ha hb
  have hj := jd_div (uF a * uF b) (2 ^ 45) (Nat.two_pow_pos _)
  constructor
  · intro q
    rw [if_pos (Or.inl (h2.mp q)), ← h1] at hj
    exact ⟨hj, by omega⟩
  · intro q
    have q1 : ¬ uF a * uF b % 2 ^ 45 = 0 := fun z => q (h2.mpr z)
    rw [u_or, show uF (1 : Int64) = 1 by decide, or_one9, h1]
    rw [h1] at h3
    by_cases q2 : uF a * uF b / 2 ^ 45 % 2 = 1
    · rw [if_pos (Or.inr q2)] at hj; rw [if_pos q2]; exact ⟨hj, by omega⟩
    · rw [if_neg (by intro z; rcases z with z | z; exact q1 z; exact q2 z)] at hj
      rw [if_neg q2]; exact ⟨hj, by omega⟩
/-- a number's mantissa, shifted until it is full -/
noncomputable def ShX (x a : Int64) (s : Int32) : Prop := ∃ n : Nat, s.toInt = n ∧ n < 53 ∧ uF a = mzF (mgF x.toInt) * 2 ^ n ∧ 4503599627370496 ≤ uF a ∧ uF a < 9007199254740992
theorem shx_ok {x m m' : Int64} {s : Int32} (hm : uF m = mzF (mgF x.toInt)) (hm' : uF m' = mzF (mgF x.toInt)) (h : ∃ n : Nat, s.toInt = n ∧ n < 53 ∧ 4503599627370496 ≤ uF m * 2 ^ n ∧ uF m * 2 ^ n < 9007199254740992) : ShX x (m' <<< (Int32.toInt64 s &&& 63)) s := by
  obtain ⟨n, h1, h2, h3, h4⟩ := h
  have h5 : uF (m' <<< (Int32.toInt64 s &&& 63)) = uF m' * 2 ^ n := sh_u h1 (by omega) (by rw [hm', ← hm]; exact h4)
  rw [hm] at h3 h4
  exact ⟨n, h1, h2, by rw [h5, hm'], by rw [h5, hm']; exact h3, by rw [h5, hm']; exact h4⟩
theorem shx_lt {x a : Int64} {s : Int32} (h : ShX x a s) : uF a < 9007199254740992 := by obtain ⟨n, h1, h2, h3, h4, h5⟩ := h; exact h5
theorem tc_e {x y a b : Int64} {s t u v : Int32} (hx : ShX x a s) (hy : ShX y b t) (hu : u.toInt = exF (mgF x.toInt)) (hv : v.toInt = exF (mgF y.toInt)) : (u - s + v - t + 45).toInt = exF (mgF x.toInt) - s.toInt + exF (mgF y.toInt) - t.toInt + 45 := by
  obtain ⟨n, h1, h2, _⟩ := hx
  obtain ⟨n', h1', h2', _⟩ := hy
  have a1 := ex_lo (mgF x.toInt)
  have a2 := ex_hi x
  have a3 := ex_lo (mgF y.toInt)
  have a4 := ex_hi y
  have e45 : (45 : Int32).toInt = 45 := by decide
  have b1 : (u - s).toInt = u.toInt - s.toInt := i32_sub (by omega)
  have b2 : (u - s + v).toInt = u.toInt - s.toInt + v.toInt := by rw [i32_add (by omega), b1]
  have b3 : (u - s + v - t).toInt = u.toInt - s.toInt + v.toInt - t.toInt := by rw [i32_sub (by omega), b2]
  rw [i32_add (by omega), b3, e45, hu, hv]
theorem tc_eb {x y a b : Int64} {s t u v : Int32} (hx : ShX x a s) (hy : ShX y b t) (hu : u.toInt = exF (mgF x.toInt)) (hv : v.toInt = exF (mgF y.toInt)) : -100000 ≤ (u - s + v - t + 45).toInt ∧ (u - s + v - t + 45).toInt ≤ 100000 := by
  rw [tc_e hx hy hu hv]
  obtain ⟨n, h1, h2, _⟩ := hx
  obtain ⟨n', h1', h2', _⟩ := hy
  have a1 := ex_lo (mgF x.toInt)
  have a2 := ex_hi x
  have a3 := ex_lo (mgF y.toInt)
  have a4 := ex_hi y
  omega
theorem tc_end {x y a b m r : Int64} {s t u v : Int32} (fx : mgF x.toInt < infF) (fy : mgF y.toInt < infF) (hx : ShX x a s) (hy : ShX y b t) (hm : JdF (uF a * uF b) (2 ^ 45) (uF m)) (hu : u.toInt = exF (mgF x.toInt)) (hv : v.toInt = exF (mgF y.toInt)) (hp : PkV (¬ ((x.toInt < 0) = (y.toInt < 0))) (uF m) (u - s + v - t + 45).toInt r) : TmR x.toInt y.toInt r.toInt := by
  rw [tc_e hx hy hu hv] at hp
  obtain ⟨n, h1, h2, h3, h4, h5⟩ := hx
  obtain ⟨n', h1', h2', h3', h4', h5'⟩ := hy
  obtain ⟨R, hR, _, hr⟩ := hp
  rw [h1, h1'] at hR
  rw [h3, h3'] at hm
  rw [h3] at h4
  rw [h3'] at h4'
  exact tmC fx fy h4 h4' hm hR hr
/-- the reference's product by halves -/
noncomputable abbrev sr27 (a : Int64) : Int64 := a >>> (Int32.toInt64 27 &&& 63)
noncomputable abbrev tmMid (a b : Int64) : Int64 := (sr27 a * (b &&& 134217727)) + ((a &&& 134217727) * sr27 b)
noncomputable abbrev tmL (a b : Int64) : Int64 := ((tmMid a b &&& 134217727) <<< (Int32.toInt64 27 &&& 63)) + ((a &&& 134217727) * (b &&& 134217727))
noncomputable abbrev tmHi (a b : Int64) : Int64 := ((sr27 a * sr27 b) + sr27 (tmMid a b)) + (tmL a b >>> (Int32.toInt64 54 &&& 63))
noncomputable abbrev tmLo (a b : Int64) : Int64 := tmL a b &&& 18014398509481983
theorem tm_cut {a b : Int64} (ha : uF a < 9007199254740992) (hb : uF b < 9007199254740992) : uF a * uF b = uF (tmHi a b) * 18014398509481984 + uF (tmLo a b) ∧ uF (tmLo a b) < 18014398509481984 ∧ uF (tmHi a b) < 4503599627370496 := by
  have la : uF a % 134217728 < 134217728 := Nat.mod_lt _ (by decide)
  have lb : uF b % 134217728 < 134217728 := Nat.mod_lt _ (by decide)
  have ua : uF a / 134217728 < 67108864 := by omega
  have ub : uF b / 134217728 < 67108864 := by omega
  have m1 := mul_lt27 la lb
  have m2 := mul_lt27 (show uF a / 134217728 < 134217728 by omega) lb
  have m3 := mul_lt27 la (show uF b / 134217728 < 134217728 by omega)
  have m4 := mul_lt27 (show uF a / 134217728 < 134217728 by omega) (show uF b / 134217728 < 134217728 by omega)
  have e1 : uF (tmMid a b) = (uF a / 134217728) * (uF b % 134217728) + (uF a % 134217728) * (uF b / 134217728) := by
    unfold tmMid sr27
    rw [u_add, u_mul, u_mul, u_low, u_low, u_upS (by omega), u_upS (by omega)]
    generalize (uF a / 134217728) * (uF b % 134217728) = p at *
    generalize (uF a % 134217728) * (uF b / 134217728) = q at *
    omega
  have e0 : uF (tmMid a b) < 36028797018963968 := by rw [e1]; omega
  have e2 : uF (tmL a b) = uF (tmMid a b) % 134217728 * 134217728 + (uF a % 134217728) * (uF b % 134217728) := by
    unfold tmL
    rw [u_add, u_27 (by rw [u_low]; exact Nat.mod_lt _ (by decide)), u_mul, u_low, u_low, u_low]
    generalize (uF a % 134217728) * (uF b % 134217728) = r at *
    omega
  have e3 : uF (tmL a b >>> (Int32.toInt64 54 &&& 63)) = uF (tmL a b) / 18014398509481984 := by
    have h : uF (tmL a b >>> (Int32.toInt64 54 &&& 63)) = uF (tmL a b) / 2 ^ 54 := u_shr (y := 54) (c := 54) (by decide) (by decide) (by rw [e2]; omega)
    rw [h]
  have e4 : uF (tmHi a b) = (uF a / 134217728) * (uF b / 134217728) + uF (tmMid a b) / 134217728 + uF (tmL a b) / 18014398509481984 := by
    unfold tmHi
    rw [u_add, e3, u_add, u_mul]
    unfold sr27
    rw [u_upS (by omega), u_upS (by omega), u_upS (by omega)]
    generalize (uF a / 134217728) * (uF b / 134217728) = t at *
    omega
  have e5 : uF (tmLo a b) = uF (tmL a b) % 18014398509481984 := by
    unfold tmLo; rw [u_and, u_lit (n := 2 ^ 54 - 1) (x := 18014398509481983) (by decide) (by decide), and_low]
  have h := cutM (a := uF a) (b := uF b) e1 e2 e4 e5
  refine ⟨h.1, h.2, ?_⟩
  have h1 := Nat.mul_le_mul (show uF a ≤ 9007199254740991 by omega) (show uF b ≤ 9007199254740991 by omega)
  generalize uF a * uF b = N at *
  omega
theorem mm_e {x y : Int64} {u v : Int32} (hu : u.toInt = exF (mgF x.toInt)) (hv : v.toInt = exF (mgF y.toInt)) : (u + v).toInt = exF (mgF x.toInt) + exF (mgF y.toInt) ∧ -50000 ≤ (u + v).toInt ∧ (u + v).toInt ≤ 50000 := by
  have a1 := ex_lo (mgF x.toInt)
  have a2 := ex_hi x
  have a3 := ex_lo (mgF y.toInt)
  have a4 := ex_hi y
  have h : (u + v).toInt = exF (mgF x.toInt) + exF (mgF y.toInt) := by rw [i32_add (by omega), hu, hv]
  exact ⟨h, by omega⟩
theorem mm_small {x y m n r : Int64} {u v w : Int32} (fx : mgF x.toInt < infF) (fy : mgF y.toInt < infF) (hw : w = 0 ↔ (x.toInt < 0 ↔ y.toInt < 0)) (hm : uF m = mzF (mgF x.toInt)) (hn : uF n = mzF (mgF y.toInt)) (hu : u.toInt = exF (mgF x.toInt)) (hv : v.toInt = exF (mgF y.toInt)) (h0 : (tmHi m n).toInt = 0) (hr : ∃ R : Nat, FtM (uF (tmLo m n)) (u + v).toInt (decide (¬ (0 : Int32) = 0)) R ∧ SgV w R r) : TmR x.toInt y.toInt r.toInt := by
  obtain ⟨R, hR, hs⟩ := hr
  have ⟨h1, h2, h3⟩ := tm_cut (a := m) (b := n) (by rw [hm]; exact mz_lt _) (by rw [hn]; exact mz_lt _)
  rw [u_z h0, Nat.zero_mul, Nat.zero_add] at h1
  rw [(mm_e hu hv).1, show decide (¬ (0 : Int32) = 0) = false by decide] at hR
  refine tmM (t := 0) (m := uF (tmLo m n)) (st := false) fx fy (Or.inl ⟨rfl, by rw [← h1, hm, hn, Nat.pow_zero, Nat.mul_one]⟩) (by omega) (by intro q; cases q) ?_ (sgv_if hw hs)
  rw [show exF (mgF x.toInt) + exF (mgF y.toInt) + ((0 : Nat) : Int) = exF (mgF x.toInt) + exF (mgF y.toInt) by omega]
  exact hR
/-- how far the front goes up -/
noncomputable def MmK (fr : Int64) (kk : Int32) : Prop := ∃ n : Nat, lenF (uF fr) n ∧ n ≤ 52 ∧ kk.toInt = ((min 54 (62 - n) : Nat) : Int)
theorem mm_k {fr : Int64} {v : Int32} (h0 : fr.toInt ≠ 0) (hlt : uF fr < 4503599627370496) (hn : LnV fr v) : ∃ n : Nat, lenF (uF fr) n ∧ n ≤ 52 ∧ (62 - v).toInt = 62 - (n : Int) := by
  obtain ⟨n, hv, hn64, hl, _⟩ := hn
  have h2 : n ≤ 52 := len_le hl (Nat.pos_of_ne_zero (u_nz h0)) (by exact hlt)
  have e62 : (62 : Int32).toInt = 62 := by decide
  exact ⟨n, hl, h2, by rw [i32_sub (by rw [e62]; omega), e62, hv]⟩
theorem mm_k1 {fr : Int64} {v : Int32} (h0 : fr.toInt ≠ 0) (hlt : uF fr < 4503599627370496) (hn : LnV fr v) (h : (62 - v).toInt ≤ 54) : MmK fr (62 - v) := by
  obtain ⟨n, h1, h2, h3⟩ := mm_k h0 hlt hn
  exact ⟨n, h1, h2, by omega⟩
theorem mm_k2 {fr : Int64} {v : Int32} (h0 : fr.toInt ≠ 0) (hlt : uF fr < 4503599627370496) (hn : LnV fr v) (h : 54 < (62 - v).toInt) : MmK fr 54 := by
  obtain ⟨n, h1, h2, h3⟩ := mm_k h0 hlt hn
  have e54 : (54 : Int32).toInt = 54 := by decide
  exact ⟨n, h1, h2, by omega⟩
/-- what fit is given -/
noncomputable abbrev mmQ (fr bk : Int64) (kk : Int32) : Int64 := (fr <<< (Int32.toInt64 kk &&& 63)) ||| (bk >>> (Int32.toInt64 (54 - kk) &&& 63))
theorem mm_q {N : Nat} {fr bk : Int64} {kk : Int32} (hk : MmK fr kk) (h0 : 0 < uF fr) (hbk : uF bk < 18014398509481984) (hN : N = uF fr * 18014398509481984 + uF bk) : ∃ s : Nat, s ≤ 54 ∧ kk.toInt = s ∧ FdF N (2 ^ (54 - s)) (uF (mmQ fr bk kk)) (decide (uF bk % 2 ^ (54 - s) ≠ 0)) ∧ uF (mmQ fr bk kk) < 4611686018427387904 ∧ (decide (uF bk % 2 ^ (54 - s) ≠ 0) = true → 9007199254740992 ≤ uF (mmQ fr bk kk)) ∧ ((bk &&& ((1 : Int64) <<< (Int32.toInt64 (54 - kk) &&& 63) - 1)).toInt = 0 ↔ uF bk % 2 ^ (54 - s) = 0) := by
  obtain ⟨n, hl, h52, hs⟩ := hk
  generalize hse : min 54 (62 - n) = s at hs
  have hs54 : s ≤ 54 := by omega
  have e54 : (54 : Int32).toInt = 54 := by decide
  have h1 : (54 - kk).toInt = ((54 - s : Nat) : Int) := by rw [i32_sub (by rw [e54]; omega), e54]; omega
  have hM := mulM hN hbk h0 hl hse.symm (by omega)
  have h2 : uF (fr <<< (Int32.toInt64 kk &&& 63)) = uF fr * 2 ^ s % 18446744073709551616 := u_shl hs (by omega)
  have h3 : uF (bk >>> (Int32.toInt64 (54 - kk) &&& 63)) = uF bk / 2 ^ (54 - s) := u_shr h1 (by omega) (by omega)
  have h4 : uF bk / 2 ^ (54 - s) < 2 ^ s := by
    apply (Nat.div_lt_iff_lt_mul (Nat.two_pow_pos _)).mpr
    rw [← Nat.pow_add, show s + (54 - s) = 54 by omega]; exact hbk
  have h5 : uF (mmQ fr bk kk) = uF fr * 2 ^ s + uF bk / 2 ^ (54 - s) := by
    unfold mmQ
    rw [u_or, h2, h3, Nat.mod_eq_of_lt (by have := hM.2.1; omega)]
    exact or_low h4
  have r1 := u_rest (t := bk) h1 (by omega : 54 - s < 64)
  rw [← h5] at hM
  refine ⟨s, hs54, hs, hM.1, hM.2.1, hM.2.2, ?_⟩
  constructor
  · intro q; rw [← r1]; exact u_z q
  · intro q; rw [u_int, r1, q]; decide
theorem mm_eb {x y : Int64} {e kk : Int32} {fr : Int64} (he : e.toInt = exF (mgF x.toInt) + exF (mgF y.toInt)) (hk : MmK fr kk) : (e + 54 - kk).toInt = exF (mgF x.toInt) + exF (mgF y.toInt) + 54 - kk.toInt ∧ -50000 ≤ (e + 54 - kk).toInt ∧ (e + 54 - kk).toInt ≤ 50000 := by
  obtain ⟨n, hl, h52, hs⟩ := hk
  have a1 := ex_lo (mgF x.toInt)
  have a2 := ex_hi x
  have a3 := ex_lo (mgF y.toInt)
  have a4 := ex_hi y
  have e54 : (54 : Int32).toInt = 54 := by decide
  have b1 : (e + 54).toInt = e.toInt + 54 := by rw [i32_add (by rw [e54]; omega), e54]
  have b2 : (e + 54 - kk).toInt = e.toInt + 54 - kk.toInt := by rw [i32_sub (by omega), b1]
  rw [b2, he]
  exact ⟨rfl, by omega⟩
theorem mm_fin {x y m n r fr bk : Int64} {e kk w st : Int32} (fx : mgF x.toInt < infF) (fy : mgF y.toInt < infF) (hw : w = 0 ↔ (x.toInt < 0 ↔ y.toInt < 0)) (he : e.toInt = exF (mgF x.toInt) + exF (mgF y.toInt)) (hk : MmK fr kk) (h0 : 0 < uF fr) (hbk : uF bk < 18014398509481984) (hN : mzF (mgF x.toInt) * mzF (mgF y.toInt) = uF fr * 18014398509481984 + uF bk) (hst : (st = 0) ↔ (bk &&& ((1 : Int64) <<< (Int32.toInt64 (54 - kk) &&& 63) - 1)).toInt = 0) (hr : ∃ R : Nat, FtM (uF (mmQ fr bk kk)) (e + 54 - kk).toInt (decide (¬ st = 0)) R ∧ SgV w R r) : TmR x.toInt y.toInt r.toInt := by
  obtain ⟨R, hR, hs⟩ := hr
  have hE := (mm_eb (x := x) (y := y) he hk).1
  obtain ⟨s, h54, hks, hF, hlt, hbig, hz⟩ := mm_q hk h0 hbk hN
  have hd : decide (¬ st = 0) = decide (uF bk % 2 ^ (54 - s) ≠ 0) := by
    by_cases q : st = 0
    · rw [decide_eq_false (fun z => z q), decide_eq_false (fun z => z (hz.mp (hst.mp q)))]
    · rw [decide_eq_true q, decide_eq_true (p := uF bk % 2 ^ (54 - s) ≠ 0) (fun z => q (hst.mpr (hz.mpr z)))]
  rw [hE, hd] at hR
  refine tmM (t := 54 - s) fx fy hF hlt hbig ?_ (sgv_if hw hs)
  rw [show exF (mgF x.toInt) + exF (mgF y.toInt) + ((54 - s : Nat) : Int) = exF (mgF x.toInt) + exF (mgF y.toInt) + 54 - kk.toInt by omega]
  exact hR
/-! ===== REALS, 107: the quotients ===== -/
theorem i_u {x : Int64} (h : uF x < 9223372036854775808) : x.toInt = (uF x : Int) := by rw [u_int, if_pos h]
theorem u_div {x y : Int64} (hx : uF x < 9223372036854775808) (hy : uF y < 9223372036854775808) : uF (x / y) = uF x / uF y := by
  have ix := i_u hx
  have iy := i_u hy
  have hq : (x / y).toInt = x.toInt / y.toInt := by
    rw [Int64.toInt_div_of_ne_left _ _ (fun e => by rw [e, show Int64.minValue.toInt = -9223372036854775808 by decide] at ix; omega), Int.tdiv_eq_ediv_of_nonneg (by omega)]
  rw [ix, iy] at hq
  have hc : ((uF x : Int) / (uF y : Int)) = ((uF x / uF y : Nat) : Int) := by norm_cast
  rw [hc] at hq
  have hl : uF x / uF y ≤ uF x := Nat.div_le_self _ _
  have h1 := u_int (x / y)
  have h2 := u_lt (x / y)
  generalize uF x / uF y = z at *
  split at h1 <;> omega
theorem u_rem {x y : Int64} (hx : uF x < 9223372036854775808) (hy : uF y < 9223372036854775808) : uF (x - x / y * y) = uF x % uF y := by
  rw [u_sub, u_mul, u_div hx hy]
  have h1 := Nat.div_add_mod (uF x) (uF y)
  have h2 : uF x / uF y * uF y = uF y * (uF x / uF y) := Nat.mul_comm _ _
  rw [h2]
  generalize uF y * (uF x / uF y) = z at *
  generalize uF x % uF y = w at *
  omega
theorem om_nz {n : Int64} {R : Nat} (h : uF n = mzF R) (h0 : R ≠ 0) : ¬ n = 0 := by
  intro q
  rw [q, show uF (0 : Int64) = 0 by decide] at h
  have := mz_pos h0
  omega
/-- the class's quotient so far -/
noncomputable def OvI (N D : Nat) (q r : Int64) (j : Nat) : Prop := QuC N D j (uF q) (uF r) ∧ uF q < 2 ^ j
theorem u_dbl {q : Int64} (h : uF q < 9223372036854775808) : uF (q <<< (Int32.toInt64 1 &&& 63)) = 2 * uF q := by
  have h1 : uF (q <<< (Int32.toInt64 1 &&& 63)) = uF q * 2 ^ 1 % 18446744073709551616 := u_shl (y := 1) (c := 1) (by decide) (by decide)
  rw [h1]; omega
theorem u_odd1 {q : Int64} {z : Nat} (h : uF q = 2 * z) : uF (q ||| 1) = 2 * z + 1 := by
  rw [u_or, h, show uF (1 : Int64) = 1 by decide, or_one9, if_neg (by omega)]
theorem pow60 {j : Nat} (hj : j ≤ 60) : 2 ^ j ≤ 1152921504606846976 := by
  calc 2 ^ j ≤ 2 ^ 60 := Nat.pow_le_pow_right (by decide) hj
    _ = 1152921504606846976 := rfl
theorem ovi_0 {a b : Int64} {x y : Int64} {s t : Int32} (ha : ShX x a s) (hb : ShX y b t) : OvI (uF a) (uF b) 0 a 0 := by
  obtain ⟨n, h1, h2, h3, h4, h5⟩ := ha
  obtain ⟨n', h1', h2', h3', h4', h5'⟩ := hb
  unfold OvI QuC
  rw [show uF (0 : Int64) = 0 by decide, Nat.pow_zero, Nat.mul_one, Nat.mul_zero, Nat.zero_mul, Nat.zero_add]
  exact ⟨⟨rfl, by omega⟩, by decide⟩
theorem ovi_hi {N j : Nat} {q r b : Int64} (h : OvI N (uF b) q r j) (hj : j ≤ 60) (hb : uF b < 9007199254740992) (hc : b.toInt ≤ r.toInt) : OvI N (uF b) ((q <<< (Int32.toInt64 1 &&& 63)) ||| 1) ((r - b) <<< (Int32.toInt64 1 &&& 63)) (j + 1) := by
  obtain ⟨h1, h2⟩ := h
  have hp := pow60 hj
  have hr : uF r < 2 * uF b := h1.2
  rw [i_u (by omega), i_u (by omega)] at hc
  have hs : uF (r - b) = uF r - uF b := by rw [u_sub]; omega
  have hst := (qu_step h1).1 (by omega)
  unfold OvI
  rw [u_odd1 (u_dbl (by omega)), u_dbl (by rw [hs]; omega), hs]
  exact ⟨hst, by rw [Nat.pow_succ]; omega⟩
theorem ovi_lo {N j : Nat} {q r b : Int64} (h : OvI N (uF b) q r j) (hj : j ≤ 60) (hb : uF b < 9007199254740992) (hc : r.toInt < b.toInt) : OvI N (uF b) (q <<< (Int32.toInt64 1 &&& 63)) (r <<< (Int32.toInt64 1 &&& 63)) (j + 1) := by
  obtain ⟨h1, h2⟩ := h
  have hp := pow60 hj
  have hr : uF r < 2 * uF b := h1.2
  rw [i_u (by omega), i_u (by omega)] at hc
  have hst := (qu_step h1).2 (by omega)
  unfold OvI
  rw [u_dbl (by omega), u_dbl (by omega)]
  exact ⟨hst, by rw [Nat.pow_succ]; omega⟩
theorem ovi_end {x y a b q r : Int64} {s t : Int32} (ha : ShX x a s) (hb : ShX y b t) (h : OvI (uF a) (uF b) q r 61) : (r.toInt = 0 → JdF (uF a * 2 ^ 60) (uF b) (uF q) ∧ 18014398509481984 ≤ uF q ∧ uF q < 9223372036854775808) ∧ (r.toInt ≠ 0 → JdF (uF a * 2 ^ 60) (uF b) (uF (q ||| 1)) ∧ 18014398509481984 ≤ uF (q ||| 1) ∧ uF (q ||| 1) < 9223372036854775808) := by
  obtain ⟨n, h1, h2, h3, h4, h5⟩ := ha
  obtain ⟨n', h1', h2', h3', h4', h5'⟩ := hb
  have ⟨e1, e2, e3⟩ := qu_end h.1 ⟨h4, h5⟩ ⟨h4', h5'⟩
  constructor
  · intro q0
    rw [if_pos (Or.inl (u_z q0))] at e1
    exact ⟨e1, by omega, by omega⟩
  · intro q0
    have q1 := u_nz q0
    rw [u_or, show uF (1 : Int64) = 1 by decide, or_one9]
    by_cases q2 : uF q % 2 = 1
    · rw [if_pos (Or.inr q2)] at e1; rw [if_pos q2]; exact ⟨e1, by omega, by omega⟩
    · rw [if_neg (by intro z; rcases z with z | z; exact q1 z; exact q2 z)] at e1
      rw [if_neg q2]; exact ⟨e1, by omega, by omega⟩
theorem oc_e {x y a b : Int64} {s t u v : Int32} (hx : ShX x a s) (hy : ShX y b t) (hu : u.toInt = exF (mgF x.toInt)) (hv : v.toInt = exF (mgF y.toInt)) : (u - s - v + t - 60).toInt = exF (mgF x.toInt) - s.toInt - exF (mgF y.toInt) + t.toInt - 60 ∧ -100000 ≤ (u - s - v + t - 60).toInt ∧ (u - s - v + t - 60).toInt ≤ 100000 := by
  obtain ⟨n, h1, h2, _⟩ := hx
  obtain ⟨n', h1', h2', _⟩ := hy
  have a1 := ex_lo (mgF x.toInt)
  have a2 := ex_hi x
  have a3 := ex_lo (mgF y.toInt)
  have a4 := ex_hi y
  have e60 : (60 : Int32).toInt = 60 := by decide
  have b1 : (u - s).toInt = u.toInt - s.toInt := i32_sub (by omega)
  have b2 : (u - s - v).toInt = u.toInt - s.toInt - v.toInt := by rw [i32_sub (by omega), b1]
  have b3 : (u - s - v + t).toInt = u.toInt - s.toInt - v.toInt + t.toInt := by rw [i32_add (by omega), b2]
  have b4 : (u - s - v + t - 60).toInt = u.toInt - s.toInt - v.toInt + t.toInt - 60 := by rw [i32_sub (by omega), b3, e60]
  rw [b4, hu, hv]
  exact ⟨rfl, by omega⟩
theorem oc_end {x y a b m r : Int64} {s t u v : Int32} (fx : mgF x.toInt < infF) (fy : mgF y.toInt < infF) (hx0 : mgF x.toInt ≠ 0) (hy0 : mgF y.toInt ≠ 0) (hx : ShX x a s) (hy : ShX y b t) (hm : JdF (uF a * 2 ^ 60) (uF b) (uF m)) (hm2 : 18014398509481984 ≤ uF m) (hu : u.toInt = exF (mgF x.toInt)) (hv : v.toInt = exF (mgF y.toInt)) (hp : PkV (¬ ((x.toInt < 0) = (y.toInt < 0))) (uF m) (u - s - v + t - 60).toInt r) : OvR x.toInt y.toInt r.toInt := by
  rw [(oc_e hx hy hu hv).1] at hp
  obtain ⟨n, h1, h2, h3, h4, h5⟩ := hx
  obtain ⟨n', h1', h2', h3', h4', h5'⟩ := hy
  obtain ⟨R, hR, _, hr⟩ := hp
  rw [h1, h1'] at hR
  rw [h3, h3'] at hm
  exact ovC fx fy hx0 hy0 hm hm2 hR hr
/-- the reference's quotient so far -/
noncomputable def OmI (x y n q r : Int64) (e : Int32) (s : Nat) : Prop := QuM (mzF (mgF x.toInt)) (mzF (mgF y.toInt)) s (uF q) (uF r) ∧ uF q < 1152921504606846976 ∧ uF n = mzF (mgF y.toInt) ∧ e.toInt = exF (mgF x.toInt) - exF (mgF y.toInt) - s
theorem omi_0 {x y n m m' : Int64} {u v : Int32} (hy0 : mgF y.toInt ≠ 0) (hn : uF n = mzF (mgF y.toInt)) (hm : uF m = mzF (mgF x.toInt)) (hm' : uF m' = mzF (mgF x.toInt)) (hu : u.toInt = exF (mgF x.toInt)) (hv : v.toInt = exF (mgF y.toInt)) : OmI x y n (m / n) (m' - m' / n * n) (u - v) 0 := by
  have l1 := mz_lt (mgF x.toInt)
  have l2 := mz_lt (mgF y.toInt)
  have p2 := mz_pos hy0
  have d1 : uF (m / n) = mzF (mgF x.toInt) / mzF (mgF y.toInt) := by rw [u_div (by omega) (by omega), hm, hn]
  have d2 : uF (m' - m' / n * n) = mzF (mgF x.toInt) % mzF (mgF y.toInt) := by rw [u_rem (by omega) (by omega), hm', hn]
  have a1 := ex_lo (mgF x.toInt)
  have a2 := ex_hi x
  have a3 := ex_lo (mgF y.toInt)
  have a4 := ex_hi y
  have dl : mzF (mgF x.toInt) / mzF (mgF y.toInt) ≤ mzF (mgF x.toInt) := Nat.div_le_self _ _
  refine ⟨⟨?_, ?_⟩, by rw [d1]; omega, hn, by rw [i32_sub (by omega), hu, hv]; omega⟩
  · rw [d1, d2, Nat.pow_zero, Nat.mul_one, Nat.mul_comm]; exact (Nat.div_add_mod _ _).symm
  · rw [d2]; exact Nat.mod_lt _ p2
theorem omi_e {e : Int32} {z : Int} (h : e.toInt = z) (h1 : -100000 ≤ z ∧ z ≤ 100000) : (e + Int32.ofInt (-1)).toInt = z - 1 := by
  have e1 : (Int32.ofInt (-1)).toInt = -1 := by decide
  rw [i32_add (by rw [e1]; omega), e1, h]; rfl
theorem omi_b {x y n q r : Int64} {e : Int32} {s : Nat} (h : OmI x y n q r e s) (hs : s ≤ 200) : -3000 ≤ e.toInt ∧ e.toInt ≤ 3000 := by
  obtain ⟨_, _, _, he⟩ := h
  have a1 := ex_lo (mgF x.toInt)
  have a2 := ex_hi x
  have a3 := ex_lo (mgF y.toInt)
  have a4 := ex_hi y
  omega
theorem omi_hi {x y n q r : Int64} {e : Int32} {s : Nat} (h : OmI x y n q r e s) (hs : s ≤ 200) (hq : uF q < 576460752303423488) (hc : n.toInt ≤ (r <<< (Int32.toInt64 1 &&& 63)).toInt) : OmI x y n ((q <<< (Int32.toInt64 1 &&& 63)) ||| 1) ((r <<< (Int32.toInt64 1 &&& 63)) - n) (e + Int32.ofInt (-1)) (s + 1) := by
  have hb := omi_b h hs
  obtain ⟨h1, h2, h3, h4⟩ := h
  have l2 := mz_lt (mgF y.toInt)
  have hr : uF r < mzF (mgF y.toInt) := h1.2
  have d1 := u_dbl (q := r) (by omega)
  rw [i_u (by omega), i_u (by rw [d1]; omega), d1, h3] at hc
  have d2 : uF ((r <<< (Int32.toInt64 1 &&& 63)) - n) = 2 * uF r - mzF (mgF y.toInt) := by rw [u_sub, d1, h3]; omega
  have d3 := u_odd1 (u_dbl (q := q) (by omega))
  refine ⟨?_, by rw [d3]; omega, h3, by rw [omi_e rfl (by omega), h4]; omega⟩
  rw [d2, d3]
  exact (qm_step h1).1 (by omega)
theorem u_or0 (q : Int64) : uF (q ||| 0) = uF q := by rw [u_or, show uF (0 : Int64) = 0 by decide, Nat.or_zero]
theorem omi_lo {x y n q r : Int64} {e : Int32} {s : Nat} (h : OmI x y n q r e s) (hs : s ≤ 200) (hq : uF q < 576460752303423488) (hc : (r <<< (Int32.toInt64 1 &&& 63)).toInt < n.toInt) : OmI x y n ((q <<< (Int32.toInt64 1 &&& 63)) ||| 0) ((r <<< (Int32.toInt64 1 &&& 63)) - 0) (e + Int32.ofInt (-1)) (s + 1) := by
  have hb := omi_b h hs
  obtain ⟨h1, h2, h3, h4⟩ := h
  have l2 := mz_lt (mgF y.toInt)
  have hr : uF r < mzF (mgF y.toInt) := h1.2
  have d1 := u_dbl (q := r) (by omega)
  rw [i_u (by rw [d1]; omega), i_u (by omega), d1, h3] at hc
  have d2 : uF ((r <<< (Int32.toInt64 1 &&& 63)) - 0) = 2 * uF r := by rw [u_sub, d1, show uF (0 : Int64) = 0 by decide]; omega
  have d3 : uF ((q <<< (Int32.toInt64 1 &&& 63)) ||| 0) = 2 * uF q := by rw [u_or0, u_dbl (by omega)]
  refine ⟨?_, by rw [d3]; omega, h3, by rw [omi_e rfl (by omega), h4]; omega⟩
  rw [d2, d3]
  exact (qm_step h1).2 (by omega)
theorem omi_q {q : Int64} {v : Int32} (hn : LnV q v) : (v.toInt < 60 → uF q < 576460752303423488) ∧ (60 ≤ v.toInt → 576460752303423488 ≤ uF q) := by
  obtain ⟨n, hv, hn64, hl, hz⟩ := hn
  constructor
  · intro h
    calc uF q < 2 ^ n := hl.1
      _ ≤ 2 ^ 59 := Nat.pow_le_pow_right (by decide) (by omega)
      _ = 576460752303423488 := rfl
  · intro h
    have h0 : 0 < uF q := Nat.pos_of_ne_zero (fun q0 => by have := hz q0; omega)
    calc 576460752303423488 = 2 ^ 59 := rfl
      _ ≤ 2 ^ (n - 1) := Nat.pow_le_pow_right (by decide) (by omega)
      _ ≤ uF q := (len_pos hl h0).1
theorem omi_stop {x y n q r : Int64} {e : Int32} (hx0 : mgF x.toInt ≠ 0) (h : OmI x y n q r e 113) : 576460752303423488 ≤ uF q := by
  obtain ⟨h1, _, _, _⟩ := h
  have p1 := mz_pos hx0
  have l2 := mz_lt (mgF y.toInt)
  have h2 := h1.1
  have h3 := h1.2
  generalize mzF (mgF x.toInt) = N at *
  generalize mzF (mgF y.toInt) = D at *
  rcases Nat.lt_or_ge (uF q) 576460752303423488 with hq | hq
  · exfalso
    have h4 : (uF q + 1) * D ≤ 576460752303423488 * 9007199254740992 := Nat.mul_le_mul (by omega) (by omega)
    have h5 : 1 * 2 ^ 113 ≤ N * 2 ^ 113 := Nat.mul_le_mul_right _ p1
    rw [Nat.add_mul, Nat.one_mul] at h4
    rw [h2] at h5
    rw [show (1 : Nat) * 2 ^ 113 = 10384593717069655257060992658440192 from rfl] at h5
    omega
  · exact hq
theorem om_end {x y n q r v : Int64} {e w st : Int32} {s : Nat} (fx : mgF x.toInt < infF) (fy : mgF y.toInt < infF) (hx0 : mgF x.toInt ≠ 0) (hy0 : mgF y.toInt ≠ 0) (hw : w = 0 ↔ (x.toInt < 0 ↔ y.toInt < 0)) (h : OmI x y n q r e s) (hq : 576460752303423488 ≤ uF q) (hst : st = 0 ↔ r.toInt = 0) (hr : ∃ R : Nat, FtM (uF q) e.toInt (decide (¬ st = 0)) R ∧ SgV w R v) : OvR x.toInt y.toInt v.toInt := by
  obtain ⟨R, hR, hs⟩ := hr
  obtain ⟨h1, h2, h3, h4⟩ := h
  have hd : decide (¬ st = 0) = decide (uF r ≠ 0) := by
    by_cases q0 : st = 0
    · rw [decide_eq_false (fun z => z q0), decide_eq_false (fun z => z (u_z (hst.mp q0)))]
    · rw [decide_eq_true q0, decide_eq_true (u_nz (fun z => q0 (hst.mpr z)))]
  rw [h4, hd] at hR
  exact ovM fx fy hx0 hy0 h1 ⟨by omega, by omega⟩ hR (sgv_if hw hs)
/-! ===== REALS, 108: the rests ===== -/
theorem sg_and (x : Int64) : SgU (x.toInt < 0) (x &&& -9223372036854775808) := by
  unfold SgU
  have h1 : uF (x &&& -9223372036854775808) = uF x / 9223372036854775808 % 2 * 9223372036854775808 := by
    rw [u_and, u_lit (n := 2 ^ 63) (x := -9223372036854775808) (by decide) (by decide), and_bit]
  have hx := u_lt x
  have ax := (mg_u x).2.1
  rw [h1]
  split <;> omega
/-- what is left so far -/
noncomputable def RsI (x y b r : Int64) (j : Nat) : Prop := RsF (mzF (mgF x.toInt)) (mzF (mgF y.toInt)) j (uF r) ∧ uF b = mzF (mgF y.toInt) ∧ 0 < uF b ∧ uF r < uF b
theorem rsi_0 {x y b m : Int64} (hy0 : mgF y.toInt ≠ 0) (hb : uF b = mzF (mgF y.toInt)) (hm : uF m = mzF (mgF x.toInt)) : RsI x y b (m - m / b * b) 0 := by
  have l1 := mz_lt (mgF x.toInt)
  have l2 := mz_lt (mgF y.toInt)
  have p2 := mz_pos hy0
  have d2 : uF (m - m / b * b) = mzF (mgF x.toInt) % mzF (mgF y.toInt) := by rw [u_rem (by omega) (by omega), hm, hb]
  refine ⟨?_, hb, by omega, by rw [d2, hb]; exact Nat.mod_lt _ p2⟩
  unfold RsF
  rw [d2, Nat.pow_zero, Nat.mul_one]
theorem rsi_hi {x y b r : Int64} {j : Nat} (h : RsI x y b r j) (hc : b.toInt ≤ (r <<< (Int32.toInt64 1 &&& 63)).toInt) : RsI x y b ((r <<< (Int32.toInt64 1 &&& 63)) - b) (j + 1) := by
  obtain ⟨h1, h2, h3, h4⟩ := h
  have l2 := mz_lt (mgF y.toInt)
  have d1 := u_dbl (q := r) (by omega)
  rw [i_u (by omega), i_u (by rw [d1]; omega), d1] at hc
  have d2 : uF ((r <<< (Int32.toInt64 1 &&& 63)) - b) = 2 * uF r - uF b := by rw [u_sub, d1]; omega
  have hs := (rs_step (by omega) h1).1 (by omega)
  rw [← h2] at hs
  refine ⟨by rw [d2, ← h2]; exact hs, h2, h3, by rw [d2]; omega⟩
theorem rsi_lo {x y b r : Int64} {j : Nat} (h : RsI x y b r j) (hc : (r <<< (Int32.toInt64 1 &&& 63)).toInt < b.toInt) : RsI x y b (r <<< (Int32.toInt64 1 &&& 63)) (j + 1) := by
  obtain ⟨h1, h2, h3, h4⟩ := h
  have l2 := mz_lt (mgF y.toInt)
  have d1 := u_dbl (q := r) (by omega)
  rw [i_u (by rw [d1]; omega), i_u (by omega), d1] at hc
  have hs := (rs_step (by omega) h1).2 (by omega)
  refine ⟨by rw [d1]; exact hs, h2, h3, by rw [d1]; omega⟩
theorem rsi_m {x y b r : Int64} {j : Nat} (h : RsI x y b r j) : RsI x y b ((r * 2) - (r * 2) / b * b) (j + 1) := by
  obtain ⟨h1, h2, h3, h4⟩ := h
  have l2 := mz_lt (mgF y.toInt)
  have d1 : uF (r * 2) = 2 * uF r := by rw [u_mul, show uF (2 : Int64) = 2 by decide]; omega
  have d2 : uF ((r * 2) - (r * 2) / b * b) = 2 * uF r % uF b := by rw [u_rem (by omega) (by omega), d1]
  have st := rs_step (D := mzF (mgF y.toInt)) (by omega) h1
  refine ⟨?_, h2, h3, by rw [d2]; exact Nat.mod_lt _ h3⟩
  rw [d2, h2]
  rcases Nat.lt_or_ge (2 * uF r) (mzF (mgF y.toInt)) with q | q
  · rw [Nat.mod_eq_of_lt q]; exact st.2 q
  · rw [Nat.mod_eq_sub_mod q, Nat.mod_eq_of_lt (by omega)]; exact st.1 q
theorem rs_less_ {x y : Int64} (fx : mgF x.toInt < infF) (fy : mgF y.toInt < infF) (hy0 : mgF y.toInt ≠ 0) (h : exF (mgF x.toInt) < exF (mgF y.toInt)) : RsR x.toInt y.toInt x.toInt := rsC (mg_u x).2.2 fx fy hy0 (Or.inl ⟨h, rfl⟩)
theorem rsc_end {x y b r v : Int64} {u : Int32} {j : Nat} (fx : mgF x.toInt < infF) (fy : mgF y.toInt < infF) (hy0 : mgF y.toInt ≠ 0) (h : RsI x y b r j) (hj : (j : Int) = exF (mgF x.toInt) - exF (mgF y.toInt)) (hu : u.toInt = exF (mgF y.toInt)) (hp : PkV (x.toInt < 0) (uF r) u.toInt v) : RsR x.toInt y.toInt v.toInt := by
  obtain ⟨R, hR, _, hr⟩ := hp
  rw [hu] at hR
  exact rsC (mg_u x).2.2 fx fy hy0 (Or.inr ⟨j, uF r, R, hj, h.1, hR, hr⟩)
theorem ex_fin {R : Nat} (h : R < infF) : exF R ≤ 971 := by
  have hi : infF = 9218868437227405312 := rfl
  unfold exF; split <;> omega
/-- what pack wants of a number below a mantissa -/
theorem pa_ht {m : Int64} {e : Int32} {z : Int} (hm : uF m < 9007199254740992) (he : e.toInt = z) (hz : z ≤ 971) : 0 < uF m → ∀ n : Nat, lenF (uF m) n → (n : Int) + e.toInt - 1 ≤ 1023 := by
  intro h0 n hn
  have := len_le hn h0 (k := 53) (by exact hm)
  omega
theorem rm_far {x y n : Int64} {d v : Int32} (fx : mgF x.toInt < infF) (fy : mgF y.toInt < infF) (hy0 : mgF y.toInt ≠ 0) (hn : uF n = mzF (mgF y.toInt)) (hl : LnV n v) (hd : d.toInt = exF (mgF x.toInt) - exF (mgF y.toInt)) (h0 : d.toInt < 0) (h62 : 62 < (v - d).toInt) : RsR x.toInt y.toInt x.toInt := by
  obtain ⟨L, hv, hL64, hl, hz⟩ := hl
  have a1 := ex_lo (mgF x.toInt)
  have a2 := ex_hi y
  rw [i32_sub (by omega), hv] at h62
  rw [hn] at hl
  have h1 := len_pos hl (mz_pos hy0)
  refine rsMj9 (mg_u x).2.2 fx fy hy0 (Or.inr (Or.inl ⟨(exF (mgF y.toInt) - exF (mgF x.toInt)).toNat, by omega, Or.inl ⟨?_, rfl⟩⟩))
  calc 4611686018427387904 = 2 ^ 62 := rfl
    _ ≤ 2 ^ (L - 1 + (exF (mgF y.toInt) - exF (mgF x.toInt)).toNat) := Nat.pow_le_pow_right (by decide) (by omega)
    _ = 2 ^ (L - 1) * 2 ^ (exF (mgF y.toInt) - exF (mgF x.toInt)).toNat := Nat.pow_add _ _ _
    _ ≤ mzF (mgF y.toInt) * 2 ^ (exF (mgF y.toInt) - exF (mgF x.toInt)).toNat := Nat.mul_le_mul_right _ h1.1
/-- y's mantissa, brought to x's exponent -/
theorem rm_sh {x y n : Int64} {d v : Int32} (hy0 : mgF y.toInt ≠ 0) (hn : uF n = mzF (mgF y.toInt)) (hl : LnV n v) (hd : d.toInt = exF (mgF x.toInt) - exF (mgF y.toInt)) (h0 : d.toInt < 0) (h62 : (v - d).toInt ≤ 62) : ∃ j : Nat, (j : Int) = exF (mgF y.toInt) - exF (mgF x.toInt) ∧ uF (n <<< (Int32.toInt64 (-d) &&& 63)) = mzF (mgF y.toInt) * 2 ^ j ∧ 0 < mzF (mgF y.toInt) * 2 ^ j ∧ mzF (mgF y.toInt) * 2 ^ j < 9223372036854775808 := by
  obtain ⟨L, hv, hL64, hl, hz⟩ := hl
  have a1 := ex_lo (mgF x.toInt)
  have a2 := ex_hi y
  rw [i32_sub (by omega), hv] at h62
  rw [hn] at hl
  have h1 := len_pos hl (mz_pos hy0)
  obtain ⟨j, hj⟩ : ∃ j : Nat, (j : Int) = exF (mgF y.toInt) - exF (mgF x.toInt) := ⟨(exF (mgF y.toInt) - exF (mgF x.toInt)).toNat, by omega⟩
  have hneg : (-d).toInt = (j : Int) := by rw [Int32.toInt_neg, Int.bmod_eq_of_le (by omega) (by omega)]; omega
  have h2 : mzF (mgF y.toInt) * 2 ^ j < 4611686018427387904 := by
    calc mzF (mgF y.toInt) * 2 ^ j < 2 ^ L * 2 ^ j := Nat.mul_lt_mul_of_pos_right hl.1 (Nat.two_pow_pos j)
      _ = 2 ^ (L + j) := (Nat.pow_add _ _ _).symm
      _ ≤ 2 ^ 62 := Nat.pow_le_pow_right (by decide) (by omega)
      _ = 4611686018427387904 := rfl
  have h3 : uF (n <<< (Int32.toInt64 (-d) &&& 63)) = uF n * 2 ^ j % 18446744073709551616 := u_shl hneg (by omega)
  exact ⟨j, hj, by rw [h3, hn]; exact Nat.mod_eq_of_lt (by omega), Nat.mul_pos (mz_pos hy0) (Nat.two_pow_pos j), by omega⟩
theorem rm_nz {x y n : Int64} {d v : Int32} (hy0 : mgF y.toInt ≠ 0) (hn : uF n = mzF (mgF y.toInt)) (hl : LnV n v) (hd : d.toInt = exF (mgF x.toInt) - exF (mgF y.toInt)) (h0 : d.toInt < 0) (h62 : (v - d).toInt ≤ 62) : ¬ (n <<< (Int32.toInt64 (-d) &&& 63)) = 0 := by
  obtain ⟨j, _, h1, h2, _⟩ := rm_sh hy0 hn hl hd h0 h62
  intro q
  rw [q, show uF (0 : Int64) = 0 by decide] at h1
  omega
noncomputable abbrev rmR (m n : Int64) (d : Int32) : Int64 := m - m / (n <<< (Int32.toInt64 (-d) &&& 63)) * (n <<< (Int32.toInt64 (-d) &&& 63))
theorem rm_r {x y m n : Int64} {d v : Int32} (hy0 : mgF y.toInt ≠ 0) (hm : uF m = mzF (mgF x.toInt)) (hn : uF n = mzF (mgF y.toInt)) (hl : LnV n v) (hd : d.toInt = exF (mgF x.toInt) - exF (mgF y.toInt)) (h0 : d.toInt < 0) (h62 : (v - d).toInt ≤ 62) : ∃ j : Nat, (j : Int) = exF (mgF y.toInt) - exF (mgF x.toInt) ∧ uF (rmR m n d) = mzF (mgF x.toInt) % (mzF (mgF y.toInt) * 2 ^ j) ∧ uF (rmR m n d) < 9007199254740992 := by
  obtain ⟨j, hj, h1, h2, h3⟩ := rm_sh hy0 hn hl hd h0 h62
  have l1 := mz_lt (mgF x.toInt)
  have h4 : uF (rmR m n d) = mzF (mgF x.toInt) % (mzF (mgF y.toInt) * 2 ^ j) := by
    unfold rmR; rw [u_rem (by omega) (by omega), hm, h1]
  have h5 : mzF (mgF x.toInt) % (mzF (mgF y.toInt) * 2 ^ j) ≤ mzF (mgF x.toInt) := Nat.mod_le _ _
  exact ⟨j, hj, h4, by omega⟩
theorem rm_lt {x y m n : Int64} {d v : Int32} (hy0 : mgF y.toInt ≠ 0) (hm : uF m = mzF (mgF x.toInt)) (hn : uF n = mzF (mgF y.toInt)) (hl : LnV n v) (hd : d.toInt = exF (mgF x.toInt) - exF (mgF y.toInt)) (h0 : d.toInt < 0) (h62 : (v - d).toInt ≤ 62) : uF (rmR m n d) < 9007199254740992 := by
  obtain ⟨j, _, _, h⟩ := rm_r hy0 hm hn hl hd h0 h62
  exact h
theorem rm_less {x y m n r : Int64} {d v u w : Int32} (fx : mgF x.toInt < infF) (fy : mgF y.toInt < infF) (hy0 : mgF y.toInt ≠ 0) (hm : uF m = mzF (mgF x.toInt)) (hn : uF n = mzF (mgF y.toInt)) (hl : LnV n v) (hd : d.toInt = exF (mgF x.toInt) - exF (mgF y.toInt)) (h0 : d.toInt < 0) (h62 : (v - d).toInt ≤ 62) (hu : u.toInt = exF (mgF x.toInt)) (hw : WxV w x) (hr : ∃ R : Nat, PaM (uF (rmR m n d)) u.toInt R ∧ SgV w R r) : RsR x.toInt y.toInt r.toInt := by
  obtain ⟨R, hR, hs⟩ := hr
  obtain ⟨j, hj, h1, _⟩ := rm_r hy0 hm hn hl hd h0 h62
  rw [h1, hu] at hR
  exact rsMj9 (mg_u x).2.2 fx fy hy0 (Or.inr (Or.inl ⟨j, hj, Or.inr ⟨R, hR, owm_s hw hs⟩⟩))
theorem rm_end {x y b r v : Int64} {u w : Int32} {j : Nat} (fx : mgF x.toInt < infF) (fy : mgF y.toInt < infF) (hy0 : mgF y.toInt ≠ 0) (h : RsI x y b r j) (hj : (j : Int) = exF (mgF x.toInt) - exF (mgF y.toInt)) (hu : u.toInt = exF (mgF y.toInt)) (hw : WxV w x) (hr : ∃ R : Nat, PaM (uF r) u.toInt R ∧ SgV w R v) : RsR x.toInt y.toInt v.toInt := by
  obtain ⟨R, hR, hs⟩ := hr
  rw [hu] at hR
  exact rsMj9 (mg_u x).2.2 fx fy hy0 (Or.inr (Or.inr ⟨j, uF r, R, hj, h.1, hR, owm_s hw hs⟩))
theorem rm_zero {x y : Int64} (fx : mgF x.toInt < infF) (fy : mgF y.toInt < infF) (hy0 : mgF y.toInt ≠ 0) (h : mgF x.toInt = 0) : RsR x.toInt y.toInt x.toInt := rsMj9 (mg_u x).2.2 fx fy hy0 (Or.inl ⟨h, rfl⟩)
/-! ===== REALS, 109: which is more; the other sign ===== -/
noncomputable def cmpF (a b : Int) : Int := if a < b then -1 else if a = b then 0 else 1
noncomputable def smF (x : Int) : Int := if x < 0 then -(mgF x : Int) else (mgF x : Int)
noncomputable def rkF (x : Int) : Int := if mgF x = 0 then 0 else if x < 0 then -1 - (mgF x : Int) else x
noncomputable def OrR (x y v : Int) : Prop := if isNaF x ∨ isNaF y then v = 2 else v = cmpF (smF x) (smF y)
noncomputable def ngF (x : Int) : Int := if isNaF x then nanF else if x < 0 then x + 9223372036854775808 else x - 9223372036854775808
theorem cmp_rk (x y : Int) : cmpF (rkF x) (rkF y) = cmpF (smF x) (smF y) := by
  have h : ∀ z : Int, (0 ≤ z → mgF z = z.toNat) := by intro z hz; unfold mgF; rw [if_neg (by omega)]
  have hx := h x
  have hy := h y
  have a1 : rkF x < rkF y ↔ smF x < smF y := by unfold rkF smF; repeat' split <;> omega
  have a2 : rkF x = rkF y ↔ smF x = smF y := by unfold rkF smF; repeat' split <;> omega
  unfold cmpF
  by_cases q : smF x < smF y
  · rw [if_pos q, if_pos (a1.mpr q)]
  · rw [if_neg q, if_neg (fun z => q (a1.mp z))]
    by_cases q2 : smF x = smF y
    · rw [if_pos q2, if_pos (a2.mpr q2)]
    · rw [if_neg q2, if_neg (fun z => q2 (a2.mp z))]
theorem cmp_lt {a b : Int} (h : a < b) : (-1 : Int32).toInt = cmpF a b := by unfold cmpF; rw [if_pos h]; decide
theorem cmp_eq {a b : Int} (h : a = b) : (0 : Int32).toInt = cmpF a b := by unfold cmpF; rw [if_neg (by omega), if_pos h]; decide
theorem cmp_gt {a b : Int} (h : b < a) : (1 : Int32).toInt = cmpF a b := by unfold cmpF; rw [if_neg (by omega), if_neg (by omega)]; decide
theorem xor_top {a : Nat} (h : a < 2 ^ 63) : a ^^^ 2 ^ 63 = 2 ^ 63 + a := by
  have h1 : a ^^^ 2 ^ 63 = 1 * 2 ^ 63 ||| a := by
    apply Nat.eq_of_testBit_eq
    intro i
    rw [Nat.testBit_xor, Nat.testBit_or, Nat.one_mul, Nat.testBit_two_pow]
    by_cases q : 63 = i
    · subst q
      rw [Nat.testBit_lt_two_pow h]; simp
    · simp [q]
  rw [h1, or_low h, Nat.one_mul]
theorem u_flip (x : Int64) : uF (x ^^^ -9223372036854775808) = (uF x + 9223372036854775808) % 18446744073709551616 := by
  have h0 := u_lt x
  rw [u_xor, u_lit (n := 2 ^ 63) (x := -9223372036854775808) (by decide) (by decide)]
  rcases Nat.lt_or_ge (uF x) (2 ^ 63) with h | h
  · rw [xor_top h, show (2 : Nat) ^ 63 = 9223372036854775808 from rfl] at *
    omega
  · obtain ⟨b, hb⟩ : ∃ b, uF x = 2 ^ 63 + b := ⟨uF x - 2 ^ 63, by omega⟩
    have hb2 : b < 2 ^ 63 := by rw [show (2 : Nat) ^ 63 = 9223372036854775808 from rfl] at *; omega
    rw [hb, ← xor_top hb2, Nat.xor_assoc, Nat.xor_self, Nat.xor_zero, xor_top hb2, show (2 : Nat) ^ 63 = 9223372036854775808 from rfl] at *
    omega
theorem ng_put {x : Int64} (h : ¬ isNaF x.toInt) : (x ^^^ -9223372036854775808).toInt = ngF x.toInt := by
  unfold ngF
  rw [if_neg h, u_int, u_flip]
  have h1 := u_int x
  have h2 := u_lt x
  split at h1 <;> split <;> split <;> omega
theorem ng_nan {x : Int64} (h : isNaF x.toInt) : (9221120237041090560 : Int64).toInt = ngF x.toInt := by unfold ngF; rw [if_pos h]; decide
theorem sm_p {x : Int64} (h : 0 ≤ x.toInt) : x.toInt = smF x.toInt := by
  unfold smF mgF; rw [if_neg (by omega), if_neg (by omega)]; omega
theorem sm_n {x : Int64} (h : x.toInt < 0) : (-9223372036854775808 - x).toInt = smF x.toInt := by
  have h1 := u_int x
  have h2 := u_lt x
  unfold smF mgF
  rw [if_pos h, if_pos h, u_int, u_sub, show uF (-9223372036854775808 : Int64) = 9223372036854775808 by decide]
  split at h1 <;> split <;> omega
theorem or_nan {x y : Int} (h : isNaF x ∨ isNaF y) : OrR x y (2 : Int32).toInt := by unfold OrR; rw [if_pos h]; decide
theorem or_cmp {x y a b v : Int} (h : ¬ (isNaF x ∨ isNaF y)) (ha : a = smF x) (hb : b = smF y) (hv : v = cmpF a b) : OrR x y v := by unfold OrR; rw [if_neg h, hv, ha, hb]
theorem rk_0 {x : Int64} (h : mgF x.toInt = 0) : (0 : Int64).toInt = rkF x.toInt := by unfold rkF; rw [if_pos h]; decide
theorem rk_p {x : Int64} (h : ¬ mgF x.toInt = 0) (h1 : 0 ≤ x.toInt) : x.toInt = rkF x.toInt := by unfold rkF; rw [if_neg h, if_neg (by omega)]
theorem rk_n {x : Int64} (h : ¬ mgF x.toInt = 0) (h1 : x.toInt < 0) : (-1 - (x &&& 9223372036854775807)).toInt = rkF x.toInt := by
  unfold rkF
  rw [if_neg h, if_pos h1, u_int, u_sub, u_abs, show uF (-1 : Int64) = 18446744073709551615 by decide]
  have := mg_lt x
  split <;> omega

end
