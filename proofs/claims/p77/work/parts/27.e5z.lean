noncomputable section
/-! ===== STATES, 3c: longs: masks, halves, quotients ===== -/
def p2l : List Int := [1, 2, 4, 8, 16, 32, 64, 128, 256, 512, 1024, 2048, 4096, 8192, 16384, 32768, 65536, 131072, 262144, 524288, 1048576, 2097152, 4194304, 8388608, 16777216, 33554432, 67108864, 134217728, 268435456, 536870912, 1073741824, 2147483648, 4294967296, 8589934592, 17179869184, 34359738368, 68719476736, 137438953472, 274877906944, 549755813888, 1099511627776, 2199023255552, 4398046511104, 8796093022208, 17592186044416, 35184372088832, 70368744177664, 140737488355328, 281474976710656, 562949953421312, 1125899906842624, 2251799813685248, 4503599627370496, 9007199254740992, 18014398509481984, 36028797018963968, 72057594037927936, 144115188075855872, 288230376151711744, 576460752303423488, 1152921504606846976, 2305843009213693952, 4611686018427387904, 9223372036854775808]
def isP2 (m : Int) : Bool := p2l.any fun p => ile p m && ile m p
theorem p2l_ok : ∀ p ∈ p2l, ∃ n : Nat, n ≤ 63 ∧ p = ((2 ^ n : Nat) : Int) := by
  intro p hp
  have : ∀ q ∈ p2l, (List.range 64).any (fun n => decide (q = ((2 ^ n : Nat) : Int))) = true := by decide +kernel
  have h1 := this p hp
  obtain ⟨n, h2, h3⟩ := List.any_eq_true.mp h1
  have := List.mem_range.mp h2
  exact ⟨n, by omega, of_decide_eq_true h3⟩
theorem isP2_ok {m : Int} (h : isP2 m = true) : ∃ n : Nat, n ≤ 63 ∧ m = ((2 ^ n : Nat) : Int) := by
  obtain ⟨p, h1, h2⟩ := List.any_eq_true.mp h
  rw [Bool.and_eq_true, ile_iff, ile_iff] at h2
  obtain ⟨n, h3, h4⟩ := p2l_ok p h1
  exact ⟨n, h3, by omega⟩
theorem nat_nn {x : Int64} (h : 0 ≤ x.toInt) : ((x.toBitVec.toNat : Nat) : Int) = x.toInt := by
  have e : x.toInt = x.toBitVec.toInt := rfl
  rw [e] at h ⊢
  rw [BitVec.toInt_eq_toNat_cond] at h ⊢
  split at h
  · rename_i q
    rw [if_pos q]
  · omega
theorem nat_md (x : Int64) : x.toInt = ((x.toBitVec.toNat : Nat) : Int) ∨ x.toInt = ((x.toBitVec.toNat : Nat) : Int) - 18446744073709551616 := by
  have e : x.toInt = x.toBitVec.toInt := rfl
  rw [e, BitVec.toInt_eq_toNat_cond]
  split <;> omega
theorem nat_sm {x : Int64} (h : x.toBitVec.toNat < 9223372036854775808) : x.toInt = ((x.toBitVec.toNat : Nat) : Int) := by
  have e : x.toInt = x.toBitVec.toInt := rfl
  rw [e, BitVec.toInt_eq_toNat_cond, if_pos (by omega)]
theorem pow_le63 {k : Nat} (hk : k ≤ 63) : 1 ≤ 2 ^ k ∧ 2 ^ k ≤ 9223372036854775808 := ⟨Nat.one_le_two_pow, by
  have := Nat.pow_le_pow_right (n := 2) (by decide) hk
  exact this⟩
theorem and_mask {x y : Int64} {k : Nat} (hk : k ≤ 63) (hy : y.toInt = ((2 ^ k : Nat) : Int) - 1) : (x &&& y).toInt = x.toInt % ((2 ^ k : Nat) : Int) := by
  have hp := pow_le63 hk
  have hd : 18446744073709551616 = 2 ^ k * 2 ^ (64 - k) := by
    rw [← Nat.pow_add, show k + (64 - k) = 64 by omega]
  generalize hP : 2 ^ k = P at *
  have hyn := nat_nn (x := y) (by omega)
  have yn : y.toBitVec.toNat = P - 1 := by omega
  have hand : (x &&& y).toBitVec.toNat = x.toBitVec.toNat % P := by
    show (x.toBitVec &&& y.toBitVec).toNat = _
    rw [BitVec.toNat_and, yn, ← hP, Nat.and_two_pow_sub_one_eq_mod]
  have hlt : x.toBitVec.toNat % P < P := Nat.mod_lt _ (by omega)
  have e1 := nat_sm (x := x &&& y) (by rw [hand]; omega)
  rw [e1, hand]
  rcases nat_md x with e | e
  · rw [e]
    exact Int.natCast_emod _ _
  · have hd2 : (18446744073709551616 : Int) = (P : Int) * ((2 ^ (64 - k) : Nat) : Int) := by
      rw [← Int.natCast_mul, ← hd]
      rfl
    rw [e, hd2, Int.sub_eq_add_neg, ← Int.mul_neg, Int.add_mul_emod_self_left]
    exact Int.natCast_emod _ _
theorem or_one (a : Nat) : a ||| 1 = 2 * (a / 2) + 1 := by
  have h1 : 2 ^ 1 * (a / 2) ||| (a % 2) = a := by
    rw [← Nat.two_pow_add_eq_or_of_lt (i := 1) (by omega) (a / 2)]
    omega
  calc a ||| 1 = (2 ^ 1 * (a / 2) ||| (a % 2)) ||| 1 := by rw [h1]
    _ = 2 ^ 1 * (a / 2) ||| ((a % 2) ||| 1) := Nat.or_assoc ..
    _ = 2 ^ 1 * (a / 2) ||| 1 := by
      rcases (by omega : a % 2 = 0 ∨ a % 2 = 1) with e | e <;> rw [e] <;> rfl
    _ = 2 ^ 1 * (a / 2) + 1 := (Nat.two_pow_add_eq_or_of_lt (i := 1) (by decide) (a / 2)).symm
theorem or_pow {x y : Int64} {k : Nat} (hk : k ≤ 62) (hy : y.toInt = ((2 ^ k : Nat) : Int)) (h0 : 0 ≤ x.toInt) (h1 : x.toInt < y.toInt) : (x ||| y).toInt = x.toInt + y.toInt := by
  have hp : 2 ^ k ≤ 4611686018427387904 := Nat.pow_le_pow_right (n := 2) (by decide) hk
  have hxn := nat_nn h0
  have hyn := nat_nn (x := y) (by omega)
  have yn : y.toBitVec.toNat = 2 ^ k := by omega
  have hor : (x ||| y).toBitVec.toNat = x.toBitVec.toNat + 2 ^ k := by
    show (x.toBitVec ||| y.toBitVec).toNat = _
    rw [BitVec.toNat_or, yn, Nat.or_two_pow_eq_add_of_lt (by omega)]
  rw [nat_sm (x := x ||| y) (by rw [hor]; omega), hor]
  omega
theorem or_1 {x y : Int64} (hy : y.toInt = 1) (h0 : 0 ≤ x.toInt) (h1 : x.toInt < 9223372036854775807) : x.toInt ≤ (x ||| y).toInt ∧ (x ||| y).toInt ≤ x.toInt + 1 := by
  have hxn := nat_nn h0
  have hyn := nat_nn (x := y) (by omega)
  have yn : y.toBitVec.toNat = 1 := by omega
  have hor : (x ||| y).toBitVec.toNat = 2 * (x.toBitVec.toNat / 2) + 1 := by
    show (x.toBitVec ||| y.toBitVec).toNat = _
    rw [BitVec.toNat_or, yn, or_one]
  rw [nat_sm (x := x ||| y) (by rw [hor]; omega), hor]
  omega
theorem or_0 {x y : Int64} (hy : y.toInt = 0) : x ||| y = x := by
  have e : y = 0 := Int64.toInt_inj.mp (hy.trans (by decide))
  rw [e]
  simp
theorem sh_amt : ∀ c : Nat, c < 64 → ((Int32.ofInt (c : Int)).toInt64 &&& 63 : Int64).toBitVec.smod 64 = BitVec.ofNat 64 c ∧ ((Int32.ofInt (c : Int)).toInt64.toUInt64 &&& Int64.toUInt64 63 : UInt64).toNat = c := by
  have h : (List.range 64).all (fun c => decide (((Int32.ofInt (c : Int)).toInt64 &&& 63 : Int64).toBitVec.smod 64 = BitVec.ofNat 64 c) && decide (((Int32.ofInt (c : Int)).toInt64.toUInt64 &&& Int64.toUInt64 63 : UInt64).toNat = c)) = true := by decide +kernel
  intro c hc
  have h1 := List.all_eq_true.mp h c (List.mem_range.mpr hc)
  rw [Bool.and_eq_true] at h1
  exact ⟨of_decide_eq_true h1.1, of_decide_eq_true h1.2⟩
theorem shl_c {x : Int64} {y : Int32} {c : Nat} (hc : c < 64) (hy : y.toInt = (c : Int)) (h0 : 0 ≤ x.toInt) (h1 : x.toInt * ((2 ^ c : Nat) : Int) < 9223372036854775808) : (j_lshl x y).toInt = x.toInt * ((2 ^ c : Nat) : Int) := by
  have ey : y = Int32.ofInt (c : Int) := by rw [← hy, Int32.ofInt_toInt]
  have hxn := nat_nn h0
  have e : (j_lshl x y).toBitVec.toNat = x.toBitVec.toNat * 2 ^ c % 2 ^ 64 := by
    unfold j_lshl
    rw [Int64.toBitVec_shiftLeft, ey, (sh_amt c hc).1, BitVec.shiftLeft_eq', BitVec.toNat_shiftLeft, BitVec.toNat_ofNat, Nat.mod_eq_of_lt (show c < 2 ^ 64 by omega), Nat.shiftLeft_eq]
  rw [← hxn, ← Int.natCast_mul] at h1
  have h2 : x.toBitVec.toNat * 2 ^ c < 9223372036854775808 := by omega
  rw [Nat.mod_eq_of_lt (by omega)] at e
  rw [nat_sm (x := j_lshl x y) (by rw [e]; exact h2), e, ← hxn, Int.natCast_mul]
theorem ushr_c {x : Int64} {y : Int32} {c : Nat} (hc : c < 64) (h1 : 1 ≤ c) (hy : y.toInt = (c : Int)) : (j_lushr x y).toInt = ((x.toBitVec.toNat / 2 ^ c : Nat) : Int) := by
  have ey : y = Int32.ofInt (c : Int) := by rw [← hy, Int32.ofInt_toInt]
  have e : (j_lushr x y).toBitVec.toNat = x.toBitVec.toNat / 2 ^ c := by
    unfold j_lushr
    rw [ey]
    show (x.toUInt64 >>> _).toNat = _
    rw [UInt64.toNat_shiftRight, (sh_amt c hc).2, Nat.mod_eq_of_lt hc, Nat.shiftRight_eq_div_pow]
    rfl
  have hlt : x.toBitVec.toNat < 2 ^ 64 := x.toBitVec.isLt
  have hp : 2 ^ 1 ≤ 2 ^ c := Nat.pow_le_pow_right (n := 2) (by decide) h1
  have h2 : x.toBitVec.toNat / 2 ^ c ≤ x.toBitVec.toNat / 2 ^ 1 := Nat.div_le_div_left hp (by decide)
  rw [nat_sm (x := j_lushr x y) (by rw [e]; omega), e]
theorem div_nn {x y : Int64} (h0 : 0 ≤ x.toInt) (h1 : 1 ≤ y.toInt) : (x / y).toInt = x.toInt / y.toInt ∧ (x - x / y * y).toInt = x.toInt % y.toInt := by
  have hm : Int64.minValue.toInt = -9223372036854775808 := by decide
  have e1 : (x / y).toInt = x.toInt / y.toInt := by
    rw [Int64.toInt_div_of_ne_left _ _ (fun e => by rw [e] at h0; omega), Int.tdiv_eq_ediv_of_nonneg h0]
  refine ⟨e1, ?_⟩
  have hq0 : 0 ≤ x.toInt / y.toInt := Int.ediv_nonneg h0 (by omega)
  have hmul : x.toInt / y.toInt * y.toInt ≤ x.toInt := Int.ediv_mul_le _ (by omega)
  have hmul0 : 0 ≤ x.toInt / y.toInt * y.toInt := Int.mul_nonneg hq0 (by omega)
  have hx : x.toInt ≤ 9223372036854775807 := Int64.toInt_le x
  have e2 : (x / y * y).toInt = x.toInt / y.toInt * y.toInt := by
    rw [Int64.toInt_mul, e1]
    exact bm64 ⟨by omega, by omega⟩
  have e3 : (x - x / y * y).toInt = x.toInt - x.toInt / y.toInt * y.toInt := by
    rw [Int64.toInt_sub, e2]
    exact bm64 ⟨by omega, by omega⟩
  rw [e3, Int.emod_def, Int.mul_comm]
/-- a long and a number -/
def shL (a : AV) (o : Int) : AV := match a with
  | .inr (.inr (.inl (id, k))) => .l id (k + o)
  | .inr (.inr (.inr (.inl n))) => .k (n + o)
  | a => a
theorem shL_ev {ρ : List Int} {a : AV} {x o : Int} (hl : a.isL = true) (h : ev ρ a = some x) : (shL a o).isL = true ∧ ev ρ (shL a o) = some (x + o) := by
  rcases a with ⟨_, _⟩ | _ | ⟨id, k⟩ | n | _ | ⟨_, _⟩
  · cases hl
  · cases hl
  · refine ⟨rfl, ?_⟩
    simp only [ev] at h
    simp only [shL, ev]
    cases hq : ρ[id]? with
    | none => rw [hq] at h; cases h
    | some z =>
      rw [hq] at h
      have h := Option.some.inj h
      exact congrArg some (by omega)
  · refine ⟨rfl, ?_⟩
    have h : n = x := Option.some.inj h
    exact congrArg some (by show n + o = x + o; omega)
  · cases hl
  · cases hl
/-- what a sum has beside the multiples of m -/
def modf (m : Int) (f : Lf) : Lf := f.filter fun t => !(ile (t.2 % m) 0)
theorem modf_ok {ρ : List Int} {m : Int} (hm : 0 < m) : ∀ {f : Lf} {v : Int}, tvo ρ f = some v → ∃ r q, tvo ρ (modf m f) = some r ∧ v = m * q + r
  | [], v, hv => ⟨0, 0, rfl, by cases Option.some.inj hv; omega⟩
  | t :: f, v, hv => by
    unfold tvo at hv
    cases h1 : ρ[t.1]? with
    | none => rw [h1] at hv; cases hv
    | some x =>
      rw [h1] at hv
      cases h2 : tvo ρ f with
      | none => rw [h2] at hv; cases hv
      | some y =>
        rw [h2] at hv
        have hv : t.2 * x + y = v := Option.some.inj hv
        obtain ⟨r, q, e1, e2⟩ := modf_ok hm h2
        unfold modf at e1 ⊢
        cases hd : ile (t.2 % m) 0 with
        | true =>
          refine ⟨r, t.2 / m * x + q, ?_, ?_⟩
          · simp only [List.filter, hd, Bool.not_true, e1]
          · have h3 := ile_iff.mp hd
            have h4 := Int.emod_nonneg t.2 (show m ≠ 0 by omega)
            have h5 := Int.mul_ediv_add_emod t.2 m
            have h6 : t.2 * x = m * (t.2 / m * x) := by
              rw [← Int.mul_assoc]
              congr 1
              omega
            rw [Int.mul_add]
            omega
        | false =>
          refine ⟨t.2 * x + r, q, ?_, by omega⟩
          simp only [List.filter, hd, Bool.not_false, tvo, h1, e1]
def Sy.adddf (s : Sy) (id : Nat) (f : Lf) (k : Int) : Sy := (s.nx, (s.env, (s.me, (s.cg, ((id, (f, k)) :: s.df, (s.fa, s.hl))))))
def lxAnd (s : Sy) (a b : AV) : Option (Sy × AV) := match b with
  | .inr (.inr (.inr (.inl n))) => bif isP2 (n + 1) then
      (bif ile (dhi (dom s a)) (dlo (dom s a) / (n + 1) * (n + 1) + n) then some (s, shL a (-(dlo (dom s a) / (n + 1) * (n + 1))))
      else bif inS s (modf (n + 1) (nf s a).1) ((nf s a).2 % (n + 1)) 0 n then some (s.lin true (modf (n + 1) (nf s a).1) ((nf s a).2 % (n + 1)) [(0, n)])
      else match a with
        | .inr (.inr (.inl (id, o))) => bif ((ile o 0 && ile 0 o) && (ile n 4503599627370495 && ile 4503599627370495 n)) && !((lk s.df id).isSome) then some ((((s.new [(dlo (dom s a) / (n + 1), dhi (dom s a) / (n + 1))]).new [(0, n)]).adddf id [(s.nx, n + 1), (s.nx + 1, 1)] 0), .l (s.nx + 1) 0) else none
        | _ => none)
      else none
  | _ => none
def lxOr (s : Sy) (a b : AV) : Option (Sy × AV) := match b with
  | .inr (.inr (.inr (.inl n))) => bif ile 0 (dlo (dom s a)) then
      (bif ile n 0 && ile 0 n then some (s, a)
      else bif (isP2 n && ile n 4611686018427387904) && ile (dhi (dom s a) + 1) n then some (s, shL a n)
      else bif (ile n 1 && ile 1 n) && ile (dhi (dom s a)) 9223372036854775806 then some ((((s.new [(dlo (dom s a), dhi (dom s a) + 1)]).factd (tlin (-1) [(s.nx, 1)] (nf s a).1) (0 - (nf s a).2)).factd (tlin (-1) (nf s a).1 [(s.nx, 1)]) ((nf s a).2 - 0 + 1)), .l s.nx 0)
      else none) else none
  | _ => none
def lxDiv (s : Sy) (a b : AV) : Option (Sy × AV) := bif ile 0 (dlo (dom s a)) && leq s (tlin (-1) (nf s b).1 []) ((nf s b).2 - 1) then
    (bif leq s (tlin (-1) (nf s b).1 (nf s a).1) ((nf s b).2 - (nf s a).2 - 1) then some (s, .k 0)
    else some (s.newL [(bif leq s (tlin (-1) (nf s a).1 (nf s b).1) ((nf s a).2 - (nf s b).2) then 1 else 0, dhi (dom s a))])) else none
def lxRem (s : Sy) (a b : AV) : Option (Sy × AV) := bif ile 0 (dlo (dom s a)) && leq s (tlin (-1) (nf s b).1 []) ((nf s b).2 - 1) then
    (bif leq s (tlin (-1) (nf s b).1 (nf s a).1) ((nf s b).2 - (nf s a).2 - 1) then some (s, a)
    else some ((s.new [(0, imax (dhi (dom s b) - 1) 0)]).factd (tlin (-1) (nf s b).1 [(s.nx, 1)]) ((nf s b).2 - 0 - 1), .l s.nx 0)) else none
def lxMul (s : Sy) (a b : AV) : Option (Sy × AV) := match b with
  | .inr (.inr (.inr (.inl n))) => bif ile (-9223372036854775808) (dlo (dmm f_dmul (dom s a) [(n, n)])) && ile (dhi (dmm f_dmul (dom s a) [(n, n)])) 9223372036854775807 then some (s.lin true (tlin n (nf s a).1 []) (0 + n * (nf s a).2) (dmm f_dmul (dom s a) [(n, n)])) else none
  | _ => none
def pw2 (c : Int) : Int := ((2 ^ c.toNat : Nat) : Int)
def lxShl (s : Sy) (a b : AV) : Option (Sy × AV) := bif ((ile 0 (dlo (dom s b)) && ile (dhi (dom s b)) 62) && (ile 0 (dlo (dom s a)) && ile (dhi (dom s a) * pw2 (dhi (dom s b))) 9223372036854775807)) then
    (bif ile (dhi (dom s b)) (dlo (dom s b)) then some (s.lin true (tlin (pw2 (dlo (dom s b))) (nf s a).1 []) (0 + pw2 (dlo (dom s b)) * (nf s a).2) [(dlo (dom s a) * pw2 (dlo (dom s b)), dhi (dom s a) * pw2 (dlo (dom s b)))])
    else some (s.newL [(dlo (dom s a) * pw2 (dlo (dom s b)), dhi (dom s a) * pw2 (dhi (dom s b)))])) else none
/-- v is half of a -/
def Sy.half (s : Sy) (v a : AV) : Sy := (s.factd (tlin (-1) (nf s a).1 (tlin 2 (nf s v).1 [])) ((nf s a).2 - 2 * (nf s v).2)).factd (tlin (-2) (nf s v).1 (nf s a).1) (2 * (nf s v).2 - (nf s a).2 + 1)
def lxUshr (s : Sy) (a b : AV) : Option (Sy × AV) := match b with
  | .inr (.inl c) => bif ile 1 c && ile c 62 then
      (bif ile 0 (dlo (dom s a)) then some (bif ile c 1 then (bif ile 1 (dlo (dom s a)) then (((s.new [(dlo (dom s a) / pw2 c, dhi (dom s a) / pw2 c)]).half (.l s.nx 0) a).factd (tlin (-1) (nf s a).1 [(s.nx, 1)]) ((nf s a).2 - 0 - 1)) else ((s.new [(dlo (dom s a) / pw2 c, dhi (dom s a) / pw2 c)]).half (.l s.nx 0) a)) else s.new [(dlo (dom s a) / pw2 c, dhi (dom s a) / pw2 c)], .l s.nx 0)
      else bif ile (dhi (dom s a)) (-1) then some (s.newL [((dlo (dom s a) + 18446744073709551616) / pw2 c, (dhi (dom s a) + 18446744073709551616) / pw2 c)])
      else none) else none
  | _ => none
theorem emod_of {x m q r : Int} (e : x = m * q + r) (h0 : 0 ≤ r) (h1 : r < m) : x % m = r := by
  rw [e, Int.add_comm, Int.add_mul_emod_self_left]
  exact Int.emod_eq_of_lt h0 h1
theorem pw2_ok {c : Nat} {z : Int} (h : z = (c : Int)) : pw2 z = ((2 ^ c : Nat) : Int) := by
  unfold pw2
  rw [h, Int.toNat_natCast]
section X3
variable {J : Jt} {s : Sy} {ρ : List Int} {σ : zS}
theorem Ok.adddf (h : Ok J s ρ σ) {id : Nat} {f : Lf} {k x v : Int} (hx : ρ[id]? = some x) (hv : tvo ρ f = some v) (e : x = v + k) : Ok J (s.adddf id f k) ρ σ := by
  refine ⟨h.len, h.env, h.me, h.cg, fun e' he' => ?_, h.fa, h.inv⟩
  rcases List.mem_cons.mp he' with rfl | q
  · exact ⟨x, v, hx, hv, e⟩
  · exact h.df e' q
theorem lxAnd_ok (h : Ok J s ρ σ) {a b : AV} {x y : Int64} (ha : a.isL = true) (hx : ev ρ a = some x.toInt) (hy : ev ρ b = some y.toInt) {r : Sy × AV} (e : lxAnd s a b = some r) : ∃ ρ', Pre ρ ρ' ∧ Ok J r.1 ρ' σ ∧ r.2.isL = true ∧ ev ρ' r.2 = some (x &&& y).toInt := by
  unfold lxAnd at e
  split at e
  · rename_i n
    have hn : n = y.toInt := Option.some.inj hy
    cases hP : isP2 (n + 1) with
    | false => rw [hP] at e; cases e
    | true =>
      rw [hP] at e
      simp only [cond_true] at e
      obtain ⟨k, hk, hm⟩ := isP2_ok hP
      have hv := and_mask (x := x) hk (y := y) (by omega)
      rw [← hm] at hv
      have hm0 : 0 < n + 1 := by have := (pow_le63 hk).1; omega
      have hd := dom_l h ha hx
      have l1 := dlo_le hd
      have l2 := le_dhi hd
      have q0 := Int.ediv_mul_le (dlo (dom s a)) (show n + 1 ≠ 0 by omega)
      cases c1 : ile (dhi (dom s a)) (dlo (dom s a) / (n + 1) * (n + 1) + n) with
      | true =>
        rw [c1] at e
        cases e
        have c1 := ile_iff.mp c1
        have hr := emod_of (x := x.toInt) (m := n + 1) (q := dlo (dom s a) / (n + 1)) (r := x.toInt - dlo (dom s a) / (n + 1) * (n + 1)) (by rw [Int.mul_comm]; omega) (by omega) (by omega)
        refine ⟨ρ, Pre.rf, h, (shL_ev ha hx).1, ?_⟩
        rw [(shL_ev ha hx).2, hv, hr]
        exact congrArg some (by omega)
      | false =>
        rw [c1] at e
        simp only [cond_false] at e
        obtain ⟨v, f1, f2⟩ := nf_ok h hx
        obtain ⟨r0, q, f3, f4⟩ := modf_ok hm0 f1
        cases c2 : inS s (modf (n + 1) (nf s a).1) ((nf s a).2 % (n + 1)) 0 n with
        | true =>
          rw [c2] at e
          cases e
          have g := inS_ok h c2 f3
          have hdm := Int.mul_ediv_add_emod (nf s a).2 (n + 1)
          have hr := emod_of (x := x.toInt) (m := n + 1) (q := q + (nf s a).2 / (n + 1)) (r := r0 + (nf s a).2 % (n + 1)) (by rw [Int.mul_add]; omega) g.1 (by omega)
          obtain ⟨ρ', p1, p2, p3, p4⟩ := lin_ok (lg := true) h f3 (x := r0 + (nf s a).2 % (n + 1)) rfl (d := [(0, n)]) ⟨_, List.mem_cons_self .., g.1, g.2⟩
          exact ⟨ρ', p1, p2, p3.1, by rw [p4, hv, hr]⟩
        | false =>
          rw [c2] at e
          simp only [cond_false] at e
          split at e
          · rename_i id o
            cases c3 : ((ile o 0 && ile 0 o) && (ile n 4503599627370495 && ile 4503599627370495 n)) && !((lk s.df id).isSome) with
            | false => rw [c3] at e; cases e
            | true =>
              rw [c3] at e
              cases e
              simp only [Bool.and_eq_true, ile_iff] at c3
              have hid : ρ[id]? = some x.toInt := by
                simp only [ev] at hx
                cases hq : ρ[id]? with
                | none => rw [hq] at hx; cases hx
                | some z =>
                  rw [hq] at hx
                  have hx := Option.some.inj hx
                  exact congrArg some (by omega)
              have hdm := Int.mul_ediv_add_emod x.toInt (n + 1)
              have e0 := Int.emod_nonneg x.toInt (show n + 1 ≠ 0 by omega)
              have e1 := Int.emod_lt_of_pos x.toInt hm0
              have n1 := h.new (x := x.toInt / (n + 1)) (d := [(dlo (dom s (.l id o)) / (n + 1), dhi (dom s (.l id o)) / (n + 1))]) ⟨_, List.mem_cons_self .., Int.ediv_le_ediv hm0 l1, Int.ediv_le_ediv hm0 l2⟩
              have n2 := n1.new (x := x.toInt % (n + 1)) (d := [(0, n)]) ⟨_, List.mem_cons_self .., e0, by dsimp only; omega⟩
              have p1 : Pre ρ (ρ ++ [x.toInt / (n + 1)]) := ⟨_, rfl⟩
              have p2 : Pre (ρ ++ [x.toInt / (n + 1)]) (ρ ++ [x.toInt / (n + 1)] ++ [x.toInt % (n + 1)]) := ⟨_, rfl⟩
              have a1 : (ρ ++ [x.toInt / (n + 1)] ++ [x.toInt % (n + 1)])[s.nx]? = some (x.toInt / (n + 1)) := p2.at h.new_at
              have a2 : (ρ ++ [x.toInt / (n + 1)] ++ [x.toInt % (n + 1)])[s.nx + 1]? = some (x.toInt % (n + 1)) := n1.new_at
              refine ⟨_, p1.tr p2, n2.adddf (x := x.toInt) (v := (n + 1) * (x.toInt / (n + 1)) + x.toInt % (n + 1)) (p2.at (p1.at hid)) ?_ (by omega), rfl, ?_⟩
              · simp only [tvo, a1, a2]
                exact congrArg some (by omega)
              · rw [hv]
                simp only [ev, a2]
                exact congrArg some (by omega)
          · cases e
  · cases e
theorem lxOr_ok (h : Ok J s ρ σ) {a b : AV} {x y : Int64} (ha : a.isL = true) (hx : ev ρ a = some x.toInt) (hy : ev ρ b = some y.toInt) {r : Sy × AV} (e : lxOr s a b = some r) : ∃ ρ', Pre ρ ρ' ∧ Ok J r.1 ρ' σ ∧ r.2.isL = true ∧ ev ρ' r.2 = some (x ||| y).toInt := by
  unfold lxOr at e
  split at e
  · rename_i n
    have hn : n = y.toInt := Option.some.inj hy
    have hd := dom_l h ha hx
    have l1 := dlo_le hd
    have l2 := le_dhi hd
    cases c0 : ile 0 (dlo (dom s a)) with
    | false => rw [c0] at e; cases e
    | true =>
      rw [c0] at e
      simp only [cond_true] at e
      have c0 := ile_iff.mp c0
      cases c1 : ile n 0 && ile 0 n with
      | true =>
        rw [c1] at e
        cases e
        simp only [Bool.and_eq_true, ile_iff] at c1
        exact ⟨ρ, Pre.rf, h, ha, by rw [or_0 (by omega)]; exact hx⟩
      | false =>
        rw [c1] at e
        simp only [cond_false] at e
        cases c2 : (isP2 n && ile n 4611686018427387904) && ile (dhi (dom s a) + 1) n with
        | true =>
          rw [c2] at e
          cases e
          simp only [Bool.and_eq_true, ile_iff] at c2
          obtain ⟨k, hk, hm⟩ := isP2_ok c2.1.1
          have hk2 : k ≤ 62 := by
            by_cases q : k ≤ 62
            · exact q
            · have ek : k = 63 := by omega
              have := c2.1.2
              rw [hm, ek] at this
              omega
          refine ⟨ρ, Pre.rf, h, (shL_ev ha hx).1, ?_⟩
          rw [(shL_ev ha hx).2, or_pow hk2 (by omega) (by omega) (by omega), hn]
        | false =>
          rw [c2] at e
          simp only [cond_false] at e
          cases c3 : (ile n 1 && ile 1 n) && ile (dhi (dom s a)) 9223372036854775806 with
          | false => rw [c3] at e; cases e
          | true =>
            rw [c3] at e
            cases e
            simp only [Bool.and_eq_true, ile_iff] at c3
            have hb := or_1 (x := x) (y := y) (by omega) (by omega) (by omega)
            have n1 := h.new (x := (x ||| y).toInt) (d := [(dlo (dom s a), dhi (dom s a) + 1)]) ⟨_, List.mem_cons_self .., by dsimp only; omega, by dsimp only; omega⟩
            have p1 : Pre ρ (ρ ++ [(x ||| y).toInt]) := ⟨_, rfl⟩
            obtain ⟨v, f1, f2⟩ := nf_ok h hx
            have t1 : tvo (ρ ++ [(x ||| y).toInt]) [(s.nx, 1)] = some (x ||| y).toInt := by
              simp only [tvo, h.new_at (x := (x ||| y).toInt)]
              exact congrArg some (by omega)
            have f1' := tvo.mono p1 f1
            exact ⟨_, p1, factd_ok (factd_ok n1 (tlin_ok (w := -1) t1 f1') (by omega)) (tlin_ok (w := -1) f1' t1) (by omega), rfl, h.new_l⟩
  · cases e
theorem lxDiv_ok (h : Ok J s ρ σ) {a b : AV} {x y : Int64} (ha : a.isL = true) (hx : ev ρ a = some x.toInt) (hy : ev ρ b = some y.toInt) {r : Sy × AV} (e : lxDiv s a b = some r) : (¬ y = 0) ∧ ∃ ρ', Pre ρ ρ' ∧ Ok J r.1 ρ' σ ∧ r.2.isL = true ∧ ev ρ' r.2 = some (x / y).toInt := by
  unfold lxDiv at e
  cases c0 : ile 0 (dlo (dom s a)) && leq s (tlin (-1) (nf s b).1 []) ((nf s b).2 - 1) with
  | false => rw [c0] at e; cases e
  | true =>
    rw [c0] at e
    simp only [cond_true] at e
    rw [Bool.and_eq_true, ile_iff] at c0
    have hd := dom_l h ha hx
    have l1 := dlo_le hd
    have l2 := le_dhi hd
    obtain ⟨v, f1, f2⟩ := nf_ok h hx
    obtain ⟨w, g1, g2⟩ := nf_ok h hy
    have b1 := leq_ok h c0.2 (neg_tvo g1)
    have hD := div_nn (x := x) (y := y) (by omega) (by omega)
    have e0 : (0 : Int64).toInt = 0 := by decide
    refine ⟨fun q => by rw [q, e0] at g2; omega, ?_⟩
    cases c1 : leq s (tlin (-1) (nf s b).1 (nf s a).1) ((nf s b).2 - (nf s a).2 - 1) with
    | true =>
      rw [c1] at e
      cases e
      have b2 := leq_ok h c1 (tlin_ok (w := -1) g1 f1)
      refine ⟨ρ, Pre.rf, h, rfl, ?_⟩
      rw [hD.1, Int.ediv_eq_zero_of_lt (by omega) (by omega)]
      rfl
    | false =>
      rw [c1] at e
      cases e
      have hq0 : 0 ≤ x.toInt / y.toInt := Int.ediv_nonneg (by omega) (by omega)
      have hq1 : x.toInt / y.toInt ≤ x.toInt := Int.ediv_le_self _ (by omega)
      obtain ⟨ρ', p1, p2, p3, p4⟩ := newL_ok (y := x / y) h (d := [(bif leq s (tlin (-1) (nf s a).1 (nf s b).1) ((nf s a).2 - (nf s b).2) then 1 else 0, dhi (dom s a))]) (by
        refine ⟨_, List.mem_cons_self .., ?_, by dsimp only; rw [hD.1]; omega⟩
        rw [hD.1]
        cases c2 : leq s (tlin (-1) (nf s a).1 (nf s b).1) ((nf s a).2 - (nf s b).2) with
        | false => exact hq0
        | true =>
          have b3 := leq_ok h c2 (tlin_ok (w := -1) f1 g1)
          have : 1 ≤ x.toInt / y.toInt := (Int.le_ediv_iff_mul_le (by omega)).mpr (by omega)
          exact this)
      exact ⟨ρ', p1, p2, p3, p4⟩
theorem lxRem_ok (h : Ok J s ρ σ) {a b : AV} {x y : Int64} (ha : a.isL = true) (hb : b.isL = true) (hx : ev ρ a = some x.toInt) (hy : ev ρ b = some y.toInt) {r : Sy × AV} (e : lxRem s a b = some r) : (¬ y = 0) ∧ ∃ ρ', Pre ρ ρ' ∧ Ok J r.1 ρ' σ ∧ r.2.isL = true ∧ ev ρ' r.2 = some (x - x / y * y).toInt := by
  unfold lxRem at e
  cases c0 : ile 0 (dlo (dom s a)) && leq s (tlin (-1) (nf s b).1 []) ((nf s b).2 - 1) with
  | false => rw [c0] at e; cases e
  | true =>
    rw [c0] at e
    simp only [cond_true] at e
    rw [Bool.and_eq_true, ile_iff] at c0
    have hd := dom_l h ha hx
    have l1 := dlo_le hd
    have l3 := le_dhi (dom_l h hb hy)
    obtain ⟨v, f1, f2⟩ := nf_ok h hx
    obtain ⟨w, g1, g2⟩ := nf_ok h hy
    have b1 := leq_ok h c0.2 (neg_tvo g1)
    have hD := div_nn (x := x) (y := y) (by omega) (by omega)
    have e0 : (0 : Int64).toInt = 0 := by decide
    refine ⟨fun q => by rw [q, e0] at g2; omega, ?_⟩
    cases c1 : leq s (tlin (-1) (nf s b).1 (nf s a).1) ((nf s b).2 - (nf s a).2 - 1) with
    | true =>
      rw [c1] at e
      cases e
      have b2 := leq_ok h c1 (tlin_ok (w := -1) g1 f1)
      refine ⟨ρ, Pre.rf, h, ha, ?_⟩
      rw [hD.2, Int.emod_eq_of_lt (by omega) (by omega)]
      exact hx
    | false =>
      rw [c1] at e
      cases e
      have r0 := Int.emod_nonneg x.toInt (show y.toInt ≠ 0 by omega)
      have r1 := Int.emod_lt_of_pos x.toInt (show 0 < y.toInt by omega)
      have hmx : dhi (dom s b) - 1 ≤ imax (dhi (dom s b) - 1) 0 := by
        unfold imax
        cases q : ile (dhi (dom s b) - 1) 0 with
        | true => exact ile_iff.mp q
        | false => exact Int.le_refl _
      have n1 := h.new (x := (x - x / y * y).toInt) (d := [(0, imax (dhi (dom s b) - 1) 0)]) ⟨_, List.mem_cons_self .., by dsimp only; omega, by dsimp only; omega⟩
      have p1 : Pre ρ (ρ ++ [(x - x / y * y).toInt]) := ⟨_, rfl⟩
      have t1 : tvo (ρ ++ [(x - x / y * y).toInt]) [(s.nx, 1)] = some (x - x / y * y).toInt := by
        simp only [tvo, h.new_at (x := (x - x / y * y).toInt)]
        exact congrArg some (by omega)
      exact ⟨_, p1, factd_ok n1 (tlin_ok (w := -1) (tvo.mono p1 g1) t1) (by omega), rfl, h.new_l⟩
theorem lxMul_ok (h : Ok J s ρ σ) {a b : AV} {x y : Int64} (ha : a.isL = true) (hx : ev ρ a = some x.toInt) (hy : ev ρ b = some y.toInt) {r : Sy × AV} (e : lxMul s a b = some r) : ∃ ρ', Pre ρ ρ' ∧ Ok J r.1 ρ' σ ∧ r.2.isL = true ∧ ev ρ' r.2 = some (x * y).toInt := by
  unfold lxMul at e
  split at e
  · rename_i n
    have hn : n = y.toInt := Option.some.inj hy
    cases c0 : ile (-9223372036854775808) (dlo (dmm f_dmul (dom s a) [(n, n)])) && ile (dhi (dmm f_dmul (dom s a) [(n, n)])) 9223372036854775807 with
    | false => rw [c0] at e; cases e
    | true =>
      rw [c0] at e
      cases e
      simp only [Bool.and_eq_true, ile_iff] at c0
      have hdm : inD (x.toInt * n) (dmm f_dmul (dom s a) [(n, n)]) := dmap2_in (f := f_dmul) (fun p q a b c d => f_dmul_in a b c d) (few_in (dom_l h ha hx)) (few_in ⟨_, List.mem_cons_self .., Int.le_refl n, Int.le_refl n⟩)
      have l1 := dlo_le hdm
      have l2 := le_dhi hdm
      obtain ⟨v, f1, f2⟩ := nf_ok h hx
      have hm : (x * y).toInt = x.toInt * n := by
        rw [Int64.toInt_mul, ← hn]
        exact bm64 ⟨by omega, by omega⟩
      obtain ⟨ρ', p1, p2, p3, p4⟩ := lin_ok (lg := true) h (tlin_ok (w := n) f1 (f := []) (v := 0) rfl) (x := x.toInt * n) (k := 0 + n * (nf s a).2) (by rw [f2, Int.add_mul, Int.mul_comm v n, Int.mul_comm (nf s a).2 n]; omega) hdm
      exact ⟨ρ', p1, p2, p3.1, by rw [p4, hm]⟩
  · cases e
theorem lxShl_ok (h : Ok J s ρ σ) {a b : AV} {x : Int64} {y : Int32} (ha : a.isL = true) (hb : b.isI = true) (hx : ev ρ a = some x.toInt) (hy : ev ρ b = some y.toInt) {r : Sy × AV} (e : lxShl s a b = some r) : ∃ ρ', Pre ρ ρ' ∧ Ok J r.1 ρ' σ ∧ r.2.isL = true ∧ ev ρ' r.2 = some (j_lshl x y).toInt := by
  unfold lxShl at e
  cases c0 : ((ile 0 (dlo (dom s b)) && ile (dhi (dom s b)) 62) && (ile 0 (dlo (dom s a)) && ile (dhi (dom s a) * pw2 (dhi (dom s b))) 9223372036854775807)) with
  | false => rw [c0] at e; cases e
  | true =>
    rw [c0] at e
    simp only [cond_true] at e
    simp only [Bool.and_eq_true, ile_iff] at c0
    obtain ⟨⟨c1, c2⟩, c3, c4⟩ := c0
    have hd := dom_l h ha hx
    have l1 := dlo_le hd
    have l2 := le_dhi hd
    have m1 := dlo_le (dom_i h hb hy)
    have m2 := le_dhi (dom_i h hb hy)
    obtain ⟨c, hc⟩ : ∃ c : Nat, y.toInt = (c : Int) := ⟨y.toInt.toNat, by omega⟩
    obtain ⟨cl, hcl⟩ : ∃ c : Nat, dlo (dom s b) = (c : Int) := ⟨(dlo (dom s b)).toNat, by omega⟩
    obtain ⟨ch, hch⟩ : ∃ c : Nat, dhi (dom s b) = (c : Int) := ⟨(dhi (dom s b)).toNat, by omega⟩
    rw [pw2_ok hcl] at e
    rw [pw2_ok hch] at c4 e
    have pl : 2 ^ cl ≤ 2 ^ c := Nat.pow_le_pow_right (by decide) (by omega)
    have ph : 2 ^ c ≤ 2 ^ ch := Nat.pow_le_pow_right (by decide) (by omega)
    have pl' : ((2 ^ cl : Nat) : Int) ≤ ((2 ^ c : Nat) : Int) := Int.ofNat_le.mpr pl
    have ph' : ((2 ^ c : Nat) : Int) ≤ ((2 ^ ch : Nat) : Int) := Int.ofNat_le.mpr ph
    have hmul : x.toInt * ((2 ^ c : Nat) : Int) ≤ dhi (dom s a) * ((2 ^ ch : Nat) : Int) := Int.mul_le_mul l2 ph' (Int.natCast_nonneg _) (by omega)
    have hlo : dlo (dom s a) * ((2 ^ cl : Nat) : Int) ≤ x.toInt * ((2 ^ c : Nat) : Int) := Int.mul_le_mul l1 pl' (Int.natCast_nonneg _) (by omega)
    have hs := shl_c (x := x) (y := y) (c := c) (by omega) hc (by omega) (by omega)
    cases c5 : ile (dhi (dom s b)) (dlo (dom s b)) with
    | true =>
      rw [c5] at e
      cases e
      have c5 := ile_iff.mp c5
      have ecl : cl = c := by omega
      subst ecl
      have hh : x.toInt * ((2 ^ cl : Nat) : Int) ≤ dhi (dom s a) * ((2 ^ cl : Nat) : Int) := Int.mul_le_mul_of_nonneg_right l2 (Int.natCast_nonneg _)
      obtain ⟨v, f1, f2⟩ := nf_ok h hx
      obtain ⟨ρ', p1, p2, p3, p4⟩ := lin_ok (lg := true) h (tlin_ok (w := ((2 ^ cl : Nat) : Int)) f1 (f := []) (v := 0) rfl) (x := x.toInt * ((2 ^ cl : Nat) : Int)) (k := 0 + ((2 ^ cl : Nat) : Int) * (nf s a).2) (by rw [f2, Int.add_mul, Int.mul_comm v _, Int.mul_comm (nf s a).2 _]; omega) (d := [(dlo (dom s a) * ((2 ^ cl : Nat) : Int), dhi (dom s a) * ((2 ^ cl : Nat) : Int))]) ⟨_, List.mem_cons_self .., hlo, hh⟩
      exact ⟨ρ', p1, p2, p3.1, by rw [p4, hs]⟩
    | false =>
      rw [c5] at e
      cases e
      obtain ⟨ρ', p1, p2, p3, p4⟩ := newL_ok (y := j_lshl x y) h (d := [(dlo (dom s a) * ((2 ^ cl : Nat) : Int), dhi (dom s a) * ((2 ^ ch : Nat) : Int))]) ⟨_, List.mem_cons_self .., by rw [hs]; exact hlo, by rw [hs]; exact hmul⟩
      exact ⟨ρ', p1, p2, p3, p4⟩
theorem half_ok (h : Ok J s ρ σ) {v a : AV} {x y : Int} (hv : ev ρ v = some x) (ha : ev ρ a = some y) (h1 : 2 * x ≤ y) (h2 : y ≤ 2 * x + 1) : Ok J (s.half v a) ρ σ := by
  obtain ⟨u, a1, a2⟩ := nf_ok h hv
  obtain ⟨w, b1, b2⟩ := nf_ok h ha
  exact factd_ok (factd_ok h (tlin_ok (w := -1) b1 (tlin_ok (w := 2) a1 (f := []) (v := 0) rfl)) (by omega)) (tlin_ok (w := -2) a1 b1) (by omega)
theorem lxUshr_ok (h : Ok J s ρ σ) {a b : AV} {x : Int64} {y : Int32} (ha : a.isL = true) (hx : ev ρ a = some x.toInt) (hy : ev ρ b = some y.toInt) {r : Sy × AV} (e : lxUshr s a b = some r) : ∃ ρ', Pre ρ ρ' ∧ Ok J r.1 ρ' σ ∧ r.2.isL = true ∧ ev ρ' r.2 = some (j_lushr x y).toInt := by
  unfold lxUshr at e
  split at e
  · rename_i c
    have hc0 : c = y.toInt := Option.some.inj hy
    cases c0 : ile 1 c && ile c 62 with
    | false => rw [c0] at e; cases e
    | true =>
      rw [c0] at e
      simp only [cond_true] at e
      simp only [Bool.and_eq_true, ile_iff] at c0
      obtain ⟨k, hk⟩ : ∃ k : Nat, c = (k : Int) := ⟨c.toNat, by omega⟩
      rw [pw2_ok hk] at e
      have hu := ushr_c (x := x) (y := y) (c := k) (by omega) (by omega) (by omega)
      have hpos : (0 : Int) < ((2 ^ k : Nat) : Int) := by have := (pow_le63 (k := k) (by omega)).1; omega
      have hd := dom_l h ha hx
      have l1 := dlo_le hd
      have l2 := le_dhi hd
      cases c1 : ile 0 (dlo (dom s a)) with
      | true =>
        rw [c1] at e
        cases e
        have c1 := ile_iff.mp c1
        have hxn := nat_nn (x := x) (by omega)
        have hq : (j_lushr x y).toInt = x.toInt / ((2 ^ k : Nat) : Int) := by rw [hu, Int.natCast_ediv, hxn]
        have n1 := h.new (x := (j_lushr x y).toInt) (d := [(dlo (dom s a) / ((2 ^ k : Nat) : Int), dhi (dom s a) / ((2 ^ k : Nat) : Int))]) ⟨_, List.mem_cons_self .., by rw [hq]; exact Int.ediv_le_ediv hpos l1, by rw [hq]; exact Int.ediv_le_ediv hpos l2⟩
        have p1 : Pre ρ (ρ ++ [(j_lushr x y).toInt]) := ⟨_, rfl⟩
        refine ⟨_, p1, ?_, rfl, h.new_l⟩
        cases c2 : ile c 1 with
        | false => exact n1
        | true =>
          have c2 := ile_iff.mp c2
          have ek : k = 1 := by omega
          subst ek
          have hq2 : (j_lushr x y).toInt = x.toInt / 2 := hq
          have n2 := half_ok n1 (v := .l s.nx 0) h.new_l (ev.mono p1 hx) (by omega) (by omega)
          cases c3 : ile 1 (dlo (dom s a)) with
          | false => exact n2
          | true =>
            have c3 := ile_iff.mp c3
            obtain ⟨v, f1, f2⟩ := nf_ok h hx
            have t1 : tvo (ρ ++ [(j_lushr x y).toInt]) [(s.nx, 1)] = some (j_lushr x y).toInt := by
              simp only [tvo, h.new_at (x := (j_lushr x y).toInt)]
              exact congrArg some (by omega)
            exact factd_ok n2 (tlin_ok (w := -1) (tvo.mono p1 f1) t1) (by omega)
      | false =>
        rw [c1] at e
        simp only [cond_false] at e
        cases c2 : ile (dhi (dom s a)) (-1) with
        | false => rw [c2] at e; cases e
        | true =>
          rw [c2] at e
          cases e
          have c2 := ile_iff.mp c2
          have hxn : ((x.toBitVec.toNat : Nat) : Int) = x.toInt + 18446744073709551616 := by
            rcases nat_md x with q | q <;> omega
          have hq : (j_lushr x y).toInt = (x.toInt + 18446744073709551616) / ((2 ^ k : Nat) : Int) := by rw [hu, Int.natCast_ediv, hxn]
          obtain ⟨ρ', p1, p2, p3, p4⟩ := newL_ok (y := j_lushr x y) h (d := [((dlo (dom s a) + 18446744073709551616) / ((2 ^ k : Nat) : Int), (dhi (dom s a) + 18446744073709551616) / ((2 ^ k : Nat) : Int))]) ⟨_, List.mem_cons_self .., by rw [hq]; exact Int.ediv_le_ediv hpos (by omega), by rw [hq]; exact Int.ediv_le_ediv hpos (by omega)⟩
          exact ⟨ρ', p1, p2, p3, p4⟩
  · cases e
end X3
end
