theorem f_lo (x : Int32) : (-2147483648 : Int) ≤ x.toInt := Int32.le_toInt x
theorem f_hi (x : Int32) : x.toInt ≤ 2147483647 := Int32.toInt_le x
theorem f_jlo (x : Int64) : (-9223372036854775808 : Int) ≤ x.toInt := Int64.le_toInt x
theorem f_jhi (x : Int64) : x.toInt ≤ 9223372036854775807 := Int64.toInt_le x
theorem f_eq {x c : Int32} {t : Int} (hc : c.toInt = t) (h : x.toInt = t) : x = c := Int32.toInt_inj.mp (h.trans hc.symm)
theorem f_jeq {x c : Int64} {t : Int} (hc : c.toInt = t) (h : x.toInt = t) : x = c := Int64.toInt_inj.mp (h.trans hc.symm)
theorem f_lt {a b : Int32} {s t : Int} (ha : a.toInt = s) (hb : b.toInt = t) (h : s < t) : a < b := Int32.lt_iff_toInt_lt.mpr (by rw [ha, hb]; exact h)
theorem f_le {a b : Int32} {s t : Int} (ha : a.toInt = s) (hb : b.toInt = t) (h : s ≤ t) : a ≤ b := Int32.le_iff_toInt_le.mpr (by rw [ha, hb]; exact h)
theorem f_nlt {a b : Int32} {s t : Int} (ha : a.toInt = s) (hb : b.toInt = t) (h : t ≤ s) : ¬ a < b := fun q => by have := Int32.lt_iff_toInt_lt.mp q; rw [ha, hb] at this; omega
theorem f_nle {a b : Int32} {s t : Int} (ha : a.toInt = s) (hb : b.toInt = t) (h : t < s) : ¬ a ≤ b := fun q => by have := Int32.le_iff_toInt_le.mp q; rw [ha, hb] at this; omega
theorem f_ne {a b : Int32} {s t : Int} (ha : a.toInt = s) (hb : b.toInt = t) (h : s ≠ t) : ¬ a = b := fun q => h (by rw [← ha, ← hb, q])
theorem f_bm {n : Int} (h1 : -2147483648 ≤ n) (h2 : n ≤ 2147483647) : n.bmod (2 ^ 32) = n := by
  rw [Int.bmod_eq_of_le_mul_two] <;> omega
theorem f_add {a b : Int32} {s t : Int} (ha : a.toInt = s) (hb : b.toInt = t) (h1 : -2147483648 ≤ s + t) (h2 : s + t ≤ 2147483647) : (a + b).toInt = s + t := by
  rw [Int32.toInt_add, ha, hb]; exact f_bm h1 h2
theorem f_sub {a b : Int32} {s t : Int} (ha : a.toInt = s) (hb : b.toInt = t) (h1 : -2147483648 ≤ s - t) (h2 : s - t ≤ 2147483647) : (a - b).toInt = s - t := by
  rw [Int32.toInt_sub, ha, hb]; exact f_bm h1 h2
theorem f_mul {a b : Int32} {s t : Int} (ha : a.toInt = s) (hb : b.toInt = t) (h1 : -2147483648 ≤ s * t) (h2 : s * t ≤ 2147483647) : (a * b).toInt = s * t := by
  rw [Int32.toInt_mul, ha, hb]; exact f_bm h1 h2
theorem f_i2l {a : Int32} {s : Int} (ha : a.toInt = s) : (Int32.toInt64 a).toInt = s := by rw [Int32.toInt_toInt64]; exact ha
theorem f_in {a : Int32} {s : Int} {z : Nat} (ha : a.toInt = s) (h1 : 0 ≤ s) (h2 : s < (z : Int)) : vp_in a z := by
  unfold vp_in
  intro q
  rcases q with q | q
  · have := Int32.lt_iff_toInt_lt.mp q
    rw [ha] at this
    have h0 : (0 : Int32).toInt = 0 := by decide
    omega
  · have : (a.toNatClampNeg : Int) = s := by
      rw [← ha]
      show ((a.toInt.toNat : Nat) : Int) = a.toInt
      omega
    omega
theorem f_clt {a b : Int64} {s t : Int} (ha : a.toInt = s) (hb : b.toInt = t) (h : s < t) : lg_cmp a b = -1 := by
  have h1 : ¬ b < a := fun q => by have := Int64.lt_iff_toInt_lt.mp q; rw [ha, hb] at this; omega
  have h2 : ¬ a = b := fun q => by rw [q, hb] at ha; omega
  simp [lg_cmp, h1, h2]
theorem f_ceq {a b : Int64} {s t : Int} (ha : a.toInt = s) (hb : b.toInt = t) (h : s = t) : lg_cmp a b = 0 := by
  have : a = b := Int64.toInt_inj.mp (by rw [ha, hb]; exact h)
  rw [this]
  exact lg_self
theorem f_cgt {a b : Int64} {s t : Int} (ha : a.toInt = s) (hb : b.toInt = t) (h : t < s) : lg_cmp a b = 1 := by
  have h1 : b < a := Int64.lt_iff_toInt_lt.mpr (by rw [ha, hb]; exact h)
  simp [lg_cmp, h1]
theorem lmz {k : Nat} (h : MA.all (fun q => q.1 != k) = true) (j : Nat) : lm MA k j = 0 := by
  have : MA.find? (fun q => q.1 == k && q.2.1 == j) = none := by
    rw [List.find?_eq_none]
    intro q hq
    have := List.all_eq_true.mp h q hq
    simp at this
    simp [this]
  simp [lm, this]
theorem z_topi {E : xV} {Y : xY} {pc : Nat} {lv : List (Nat × Value)} {st : List Value} {σ : zS} {K : zKt} {x v : Int32} (h : x = v) (k : Wz E Y pc lv (.int v :: st) σ K) : Wz E Y pc lv (.int x :: st) σ K := h ▸ k
theorem z_topj {E : xV} {Y : xY} {pc : Nat} {lv : List (Nat × Value)} {st : List Value} {σ : zS} {K : zKt} {x v : Int64} (h : x = v) (k : Wz E Y pc lv (.long v :: st) σ K) : Wz E Y pc lv (.long x :: st) σ K := h ▸ k
theorem f_shr0 (x : Int64) : j_lshr x 0 = x := by
  unfold j_lshr
  have : (Int32.toInt64 0 &&& 63 : Int64) = 0 := by decide
  rw [this]
  simp
theorem f_addu {a b : Int32} {s t : Int} (ha : a.toInt = s) (hb : b.toInt = t) (h1 : s + t < -2147483648) (h2 : -4294967296 ≤ s + t) : (a + b).toInt = s + t + 4294967296 := by
  rw [Int32.toInt_add, ha, hb, ← Int.add_bmod_right]
  exact f_bm (by omega) (by omega)
theorem f_subu {a b : Int32} {s t : Int} (ha : a.toInt = s) (hb : b.toInt = t) (h1 : s - t < -2147483648) (h2 : -4294967296 ≤ s - t) : (a - b).toInt = s - t + 4294967296 := by
  rw [Int32.toInt_sub, ha, hb, ← Int.add_bmod_right]
  exact f_bm (by omega) (by omega)
theorem f_addd {a b : Int32} {s t : Int} (ha : a.toInt = s) (hb : b.toInt = t) (h1 : 2147483647 < s + t) (h2 : s + t ≤ 4294967295) : (a + b).toInt = s + t - 4294967296 := by
  have h : (s + t - 4294967296 + ((2 ^ 32 : Nat) : Int)).bmod (2 ^ 32) = (s + t - 4294967296).bmod (2 ^ 32) := Int.add_bmod_right ..
  rw [Int32.toInt_add, ha, hb]
  have e : s + t = s + t - 4294967296 + ((2 ^ 32 : Nat) : Int) := by omega
  rw [e, h]
  have e2 : s + t - 4294967296 + ((2 ^ 32 : Nat) : Int) - 4294967296 = s + t - 4294967296 := by omega
  rw [e2]
  exact f_bm (by omega) (by omega)
theorem f_subd {a b : Int32} {s t : Int} (ha : a.toInt = s) (hb : b.toInt = t) (h1 : 2147483647 < s - t) (h2 : s - t ≤ 4294967295) : (a - b).toInt = s - t - 4294967296 := by
  have h : (s - t - 4294967296 + ((2 ^ 32 : Nat) : Int)).bmod (2 ^ 32) = (s - t - 4294967296).bmod (2 ^ 32) := Int.add_bmod_right ..
  rw [Int32.toInt_sub, ha, hb]
  have e : s - t = s - t - 4294967296 + ((2 ^ 32 : Nat) : Int) := by omega
  rw [e, h]
  have e2 : s - t - 4294967296 + ((2 ^ 32 : Nat) : Int) - 4294967296 = s - t - 4294967296 := by omega
  rw [e2]
  exact f_bm (by omega) (by omega)
theorem f_half {x : Int32} (h1 : 0 ≤ x.toInt) (h2 : x.toInt < 2147483647) : Int64.toInt32 (Int32.toInt64 x - Int32.toInt64 x / 2147483647 * 2147483647) = x := by
  have h : Int32.toInt64 x / 2147483647 = 0 := by
    apply Int64.toInt_inj.mp
    rw [Int64.toInt_div, Int32.toInt_toInt64]
    have e : (2147483647 : Int64).toInt = 2147483647 := by decide
    rw [e, Int.tdiv_eq_zero_of_lt h1 h2]
    decide
  rw [h]
  simp
theorem f_andm (x : Int32) : x &&& (-1) = x := by
  apply Int32.toBitVec_inj.mp
  simp
theorem f_and0 (x : Int32) : 0 &&& x = 0 := by
  apply Int32.toBitVec_inj.mp
  simp
theorem f_ladd0 (x : Int64) : 0 + x = x := by simp
theorem f_lor0 (x : Int64) : 0 ||| x = x := by simp
theorem f_l2i (x : Int32) : Int64.toInt32 (Int32.toInt64 x) = x := by simp
