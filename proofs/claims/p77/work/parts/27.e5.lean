noncomputable section
/-! ===== STATES, 6: operations of ints ===== -/
def dbin (f : Int × Int → Int × Int → Int × Int) (a b : Dom) : Dom :=
  bif fit32 (dmm f a b) then dmm f a b else T32
abbrev Bo : Type := Instr
def Bo.i (o : Bo) (x y : Int32) : Int32 := match o with
  | .iadd => x + y
  | .isub => x - y
  | .imul => x * y
  | .iand => x &&& y
  | .ior => x ||| y
  | .ixor => x ^^^ y
  | .ishl => x <<< (y &&& 31)
  | .ishr => x >>> (y &&& 31)
  | .iushr => j_iushr x y
  | .idiv => x / y
  | .irem => x - x / y * y
  | _ => 0
theorem dbin_in {f : Int × Int → Int × Int → Int × Int} {a b : Dom} {x y z : Int} {w : Int32} (hf : ∀ p q : Int × Int, p.1 ≤ x → x ≤ p.2 → q.1 ≤ y → y ≤ q.2 → (f p q).1 ≤ z ∧ z ≤ (f p q).2) (ha : inD x a) (hb : inD y b) (hw : -2147483648 ≤ z ∧ z ≤ 2147483647 → w.toInt = z) : inD w.toInt (dbin f a b) := by
  unfold dbin
  have h1 : inD z (dmm f a b) := dmap2_in hf (few_in ha) (few_in hb)
  cases hc : fit32 (dmm f a b) with
  | false => exact in32 w
  | true => rw [hw (fit32_in hc h1)]; exact h1
theorem and_between {x y : Int32} (h : 0 ≤ y.toInt) : 0 ≤ (x &&& y).toInt ∧ (x &&& y).toInt ≤ y.toInt := by
  have e1 : ∀ z : Int32, z.toInt = z.toBitVec.toInt := fun _ => rfl
  have e2 : (x &&& y).toBitVec = x.toBitVec &&& y.toBitVec := rfl
  rw [e1, e2]
  rw [e1] at h ⊢
  generalize x.toBitVec = u at *
  generalize y.toBitVec = v at *
  have hv : 2 * v.toNat < 2 ^ 32 := by
    rw [BitVec.toInt_eq_toNat_cond] at h
    split at h <;> omega
  have hle : (u &&& v).toNat ≤ v.toNat := by
    rw [BitVec.toNat_and]
    exact Nat.and_le_right
  rw [BitVec.toInt_eq_toNat_cond, BitVec.toInt_eq_toNat_cond, if_pos hv, if_pos (by omega)]
  omega
theorem or_between {x y : Int32} (hx : 0 ≤ x.toInt) (hy : 0 ≤ y.toInt) : x.toInt ≤ (x ||| y).toInt ∧ y.toInt ≤ (x ||| y).toInt ∧ ∀ n : Nat, n ≤ 31 → x.toInt < 2 ^ n → y.toInt < 2 ^ n → (x ||| y).toInt < 2 ^ n := by
  show x.toBitVec.toInt ≤ (x.toBitVec ||| y.toBitVec).toInt ∧ y.toBitVec.toInt ≤ (x.toBitVec ||| y.toBitVec).toInt ∧ ∀ n : Nat, n ≤ 31 → x.toBitVec.toInt < 2 ^ n → y.toBitVec.toInt < 2 ^ n → (x.toBitVec ||| y.toBitVec).toInt < 2 ^ n
  have hx : 0 ≤ x.toBitVec.toInt := hx
  have hy : 0 ≤ y.toBitVec.toInt := hy
  generalize x.toBitVec = u at *
  generalize y.toBitVec = v at *
  have hu : 2 * u.toNat < 2 ^ 32 := by
    rw [BitVec.toInt_eq_toNat_cond] at hx
    split at hx <;> omega
  have hv : 2 * v.toNat < 2 ^ 32 := by
    rw [BitVec.toInt_eq_toNat_cond] at hy
    split at hy <;> omega
  have hl : u.toNat ≤ (u ||| v).toNat := by rw [BitVec.toNat_or]; exact Nat.left_le_or
  have hr : v.toNat ≤ (u ||| v).toNat := by rw [BitVec.toNat_or]; exact Nat.right_le_or
  have hb : (u ||| v).toNat < 2 ^ 31 := by
    rw [BitVec.toNat_or]
    exact Nat.or_lt_two_pow (by omega) (by omega)
  rw [BitVec.toInt_eq_toNat_cond (u ||| v), BitVec.toInt_eq_toNat_cond u, BitVec.toInt_eq_toNat_cond v, if_pos hu, if_pos hv, if_pos (by omega)]
  refine ⟨by omega, by omega, fun n hn h1 h2 => ?_⟩
  have p : ((2 : Nat) ^ n : Nat) = ((2 : Int) ^ n) := by simp
  have g1 : u.toNat < 2 ^ n := by
    have : ((u.toNat : Nat) : Int) < ((2 ^ n : Nat) : Int) := by rw [p]; exact h1
    omega
  have g2 : v.toNat < 2 ^ n := by
    have : ((v.toNat : Nat) : Int) < ((2 ^ n : Nat) : Int) := by rw [p]; exact h2
    omega
  have g3 : (u ||| v).toNat < 2 ^ n := by rw [BitVec.toNat_or]; exact Nat.or_lt_two_pow g1 g2
  rw [← p]
  omega
theorem and_between64 {x y : Int64} (h : 0 ≤ y.toInt) : 0 ≤ (x &&& y).toInt ∧ (x &&& y).toInt ≤ y.toInt := by
  have e1 : ∀ z : Int64, z.toInt = z.toBitVec.toInt := fun _ => rfl
  have e2 : (x &&& y).toBitVec = x.toBitVec &&& y.toBitVec := rfl
  rw [e1, e2]
  rw [e1] at h ⊢
  generalize x.toBitVec = u at *
  generalize y.toBitVec = v at *
  have hv : 2 * v.toNat < 2 ^ 64 := by
    rw [BitVec.toInt_eq_toNat_cond] at h
    split at h <;> omega
  have hle : (u &&& v).toNat ≤ v.toNat := by
    rw [BitVec.toNat_and]
    exact Nat.and_le_right
  rw [BitVec.toInt_eq_toNat_cond, BitVec.toInt_eq_toNat_cond, if_pos hv, if_pos (by omega)]
  omega
theorem lshr1 (x : Int64) : (j_lshr x 1).toInt = x.toInt / 2 := by
  have e : (Int32.toInt64 1 &&& 63 : Int64) = 1 := by decide
  have e2 : (1 : Int64).toBitVec.smod 64 = 1#64 := by decide
  unfold j_lshr
  rw [e]
  show (x >>> (1 : Int64)).toBitVec.toInt = x.toBitVec.toInt / 2
  rw [Int64.toBitVec_shiftRight, e2, BitVec.sshiftRight_eq', show (1#64).toNat = 1 from rfl, BitVec.toInt_sshiftRight, Int.shiftRight_eq_div_pow]
  rfl
theorem lushr1 (x : Int64) : 0 ≤ (j_lushr x 1).toInt ∧ (0 ≤ x.toInt → (j_lushr x 1).toInt = x.toInt / 2) := by
  have e : ((1 : Int32).toInt64.toUInt64 &&& Int64.toUInt64 63 : UInt64) = 1 := by decide
  unfold j_lushr
  rw [e]
  have e3 : (x.toUInt64 >>> 1).toInt64.toInt = (x.toUInt64 >>> 1).toBitVec.toInt := rfl
  have e4 : (x.toUInt64 >>> 1).toBitVec.toNat = x.toBitVec.toNat / 2 := by
    show (x.toUInt64 >>> 1).toNat = _
    rw [UInt64.toNat_shiftRight]
    show x.toUInt64.toNat >>> (1 % 64) = _
    rw [Nat.shiftRight_eq_div_pow]
    rfl
  have hlt : x.toBitVec.toNat < 2 ^ 64 := x.toBitVec.isLt
  have e5 : (x.toUInt64 >>> 1).toBitVec.toInt = ((x.toBitVec.toNat / 2 : Nat) : Int) := by
    rw [BitVec.toInt_eq_toNat_cond, e4, if_pos (by omega)]
  rw [e3, e5]
  refine ⟨by omega, fun h => ?_⟩
  have e6 : x.toInt = x.toBitVec.toInt := rfl
  rw [e6] at h ⊢
  rw [BitVec.toInt_eq_toNat_cond] at h ⊢
  split at h
  · rename_i q
    rw [if_pos q]
    omega
  · omega
def dandb (a b : Dom) : Dom := bif ile 0 (dlo b) then [(0, dhi b)] else bif ile 0 (dlo a) then [(0, dhi a)] else T32
theorem dandb_in {a b : Dom} {x y : Int32} (ha : inD x.toInt a) (hb : inD y.toInt b) : inD (x &&& y).toInt (dandb a b) := by
  have a1 := dlo_le ha
  have a2 := le_dhi ha
  have b1 := dlo_le hb
  have b2 := le_dhi hb
  unfold dandb
  cases h1 : ile 0 (dlo b) with
  | true =>
    have h1 := ile_iff.mp h1
    have h2 := and_between (x := x) (y := y) (by omega)
    exact ⟨_, List.mem_cons_self .., h2.1, by dsimp only; omega⟩
  | false =>
    cases h1 : ile 0 (dlo a) with
    | true =>
      have h1 := ile_iff.mp h1
      have h2 := and_between (x := y) (y := x) (by omega)
      rw [Int32.and_comm] at h2
      exact ⟨_, List.mem_cons_self .., h2.1, by dsimp only; omega⟩
    | false => exact in32 _
/-- 2 to the power n, n = 0 .. 31 -/
def p2t : List Int := [1, 2, 4, 8, 16, 32, 64, 128, 256, 512, 1024, 2048, 4096, 8192, 16384, 32768, 65536, 131072, 262144, 524288, 1048576, 2097152, 4194304, 8388608, 16777216, 33554432, 67108864, 134217728, 268435456, 536870912, 1073741824, 2147483648]
theorem p2t_ok : ∀ p ∈ p2t, ∃ n : Nat, n ≤ 31 ∧ p = 2 ^ n := by
  intro p hp
  have : ∀ q ∈ p2t, (List.range 32).any (fun n => decide (q = 2 ^ n)) = true := by decide
  have h1 := this p hp
  obtain ⟨n, h2, h3⟩ := List.any_eq_true.mp h1
  have := List.mem_range.mp h2
  exact ⟨n, by omega, of_decide_eq_true h3⟩
def dorb (a b : Dom) : Dom := bif ile 0 (dlo a) && ile 0 (dlo b) then (match p2t.find? fun p => ile (dhi a + 1) p && ile (dhi b + 1) p with
  | some p => [(imax (dlo a) (dlo b), p - 1)]
  | none => T32) else T32
theorem dorb_in {a b : Dom} {x y : Int32} (ha : inD x.toInt a) (hb : inD y.toInt b) : inD (x ||| y).toInt (dorb a b) := by
  have a1 := dlo_le ha
  have a2 := le_dhi ha
  have b1 := dlo_le hb
  have b2 := le_dhi hb
  unfold dorb
  cases h1 : ile 0 (dlo a) && ile 0 (dlo b) with
  | false => exact in32 _
  | true =>
    rw [Bool.and_eq_true, ile_iff, ile_iff] at h1
    simp only [cond_true]
    split
    · rename_i p hp
      have h2 := List.find?_some hp
      rw [Bool.and_eq_true, ile_iff, ile_iff] at h2
      obtain ⟨n, h3, h4⟩ := p2t_ok p (List.mem_of_find?_eq_some hp)
      obtain ⟨g1, g2, g3⟩ := or_between (x := x) (y := y) (by omega) (by omega)
      have g4 := g3 n h3 (by rw [← h4]; omega) (by rw [← h4]; omega)
      rw [← h4] at g4
      have g5 : imax (dlo a) (dlo b) ≤ (x ||| y).toInt := by
        unfold imax
        cases ile (dlo a) (dlo b)
        · simp only [cond_false]; omega
        · simp only [cond_true]; omega
      exact ⟨_, List.mem_cons_self .., g5, by dsimp only; omega⟩
    · exact in32 _
def Sy.addc (s : Sy) (a : AV) (n : Int) : Sy × AV := match a with
  | .inr (.inl m) => bif fit32 [(m + n, m + n)] then (s, .c (m + n)) else s.newI T32
  | .inl (id, o) => bif fit32 (dsh n (dom s (.i id o))) || inR s (.i id o) (-2147483648 - n) (2147483647 - n) then (s, .i id (o + n)) else s.newI T32
  | _ => s.newI T32
section B6
variable {J : Jt} {s : Sy} {ρ : List Int} {σ : zS}
theorem addc_ok (h : Ok J s ρ σ) {a : AV} {n : Int} {x z : Int32} (ha : a.isI = true) (hx : ev ρ a = some x.toInt) (hz : -2147483648 ≤ x.toInt + n ∧ x.toInt + n ≤ 2147483647 → z.toInt = x.toInt + n) : ∃ ρ', Pre ρ ρ' ∧ Ok J (s.addc a n).1 ρ' σ ∧ (s.addc a n).2.isI = true ∧ ev ρ' (s.addc a n).2 = some z.toInt := by
  rcases a with ⟨id, o⟩ | m | ⟨id, o⟩ | n | q | ⟨b, n⟩
  · simp only [Sy.addc]
    cases hf : fit32 (dsh n (dom s (.i id o))) || inR s (.i id o) (-2147483648 - n) (2147483647 - n) with
    | false => exact newI_ok h (in32 z)
    | true =>
      have hd := dom_i h (a := .i id o) rfl hx
      have hr : -2147483648 ≤ x.toInt + n ∧ x.toInt + n ≤ 2147483647 := by
        rw [Bool.or_eq_true] at hf
        rcases hf with hf | hf
        · exact fit32_in hf (dsh_in (o := n) hd)
        · have := inR_ok h hf hx hd
          omega
      refine ⟨ρ, Pre.rf, h, rfl, ?_⟩
      rw [hz hr]
      show ev ρ (AV.i id (o + n)) = some (x.toInt + n)
      simp only [ev] at hx ⊢
      cases hr : ρ[id]? with
      | none => rw [hr] at hx; cases hx
      | some y =>
        rw [hr] at hx
        have := Option.some.inj hx
        exact congrArg some (by omega)
  · have hm := Option.some.inj hx
    simp only [Sy.addc]
    cases hf : fit32 [(m + n, m + n)] with
    | false => exact newI_ok h (in32 z)
    | true =>
      have := fit32_in hf ⟨_, List.mem_cons_self .., Int.le_refl _, Int.le_refl _⟩
      dsimp only at this
      refine ⟨ρ, Pre.rf, h, rfl, congrArg some ?_⟩
      rw [hz (by omega)]
      omega
  · cases ha
  · cases ha
  · cases ha
  · cases ha
/-- learned for sure -/
def Sy.factd (s : Sy) (f : Lf) (c : Int) : Sy := (s.fact f c).getD s
theorem factd_ok (h : Ok J s ρ σ) {f : Lf} {c v : Int} (hv : tvo ρ f = some v) (hc : v ≤ c) : Ok J (s.factd f c) ρ σ := by
  obtain ⟨s', h1, h2⟩ := fact_ok h hv hc
  unfold Sy.factd
  rw [h1]
  exact h2
/-- a is not above v -/
def Sy.below (s : Sy) (a v : AV) : Sy := s.factd (tlin (-1) (nf s v).1 (nf s a).1) ((nf s v).2 - (nf s a).2)
theorem below_ok (h : Ok J s ρ σ) {a v : AV} {x y : Int} (ha : ev ρ a = some x) (hv : ev ρ v = some y) (hxy : x ≤ y) : Ok J (s.below a v) ρ σ := by
  obtain ⟨u, a1, a2⟩ := nf_ok h ha
  obtain ⟨w, b1, b2⟩ := nf_ok h hv
  exact factd_ok h (tlin_ok (w := -1) b1 a1) (by omega)
theorem or_ge {x y : Int32} (hy : 0 ≤ y.toInt) : x.toInt ≤ (x ||| y).toInt := by
  have e1 : ∀ z : Int32, z.toInt = z.toBitVec.toInt := fun _ => rfl
  have e2 : (x ||| y).toBitVec = x.toBitVec ||| y.toBitVec := rfl
  rw [e1, e1, e2]
  rw [e1] at hy
  generalize x.toBitVec = u at *
  generalize y.toBitVec = v at *
  have hv : v.toNat < 2 ^ 31 := by
    rw [BitVec.toInt_eq_toNat_cond] at hy
    have := v.isLt
    split at hy <;> omega
  have h1 : u.toNat ≤ (u ||| v).toNat := by
    rw [BitVec.toNat_or]
    exact Nat.left_le_or
  have h2 : u.toNat < 2 ^ 31 → (u ||| v).toNat < 2 ^ 31 := fun q => by
    rw [BitVec.toNat_or]
    exact Nat.or_lt_two_pow q hv
  have h3 := u.isLt
  have h4 := (u ||| v).isLt
  rw [BitVec.toInt_eq_toNat_cond, BitVec.toInt_eq_toNat_cond]
  split <;> split <;> omega
def Sy.orI (s : Sy) (a b : AV) : Sy × AV := match s.newI (dorb (dom s a) (dom s b)) with
  | (s', v) => (bif ile 0 (dlo (dom s b)) then (bif ile 0 (dlo (dom s a)) then (s'.below a v).below b v else s'.below a v) else bif ile 0 (dlo (dom s a)) then s'.below b v else s', v)
theorem orI_ok (h : Ok J s ρ σ) {a b : AV} {x y : Int32} (ha : a.isI = true) (hb : b.isI = true) (hx : ev ρ a = some x.toInt) (hy : ev ρ b = some y.toInt) : ∃ ρ', Pre ρ ρ' ∧ Ok J (s.orI a b).1 ρ' σ ∧ (s.orI a b).2.isI = true ∧ ev ρ' (s.orI a b).2 = some (x ||| y).toInt := by
  have da := dom_i h ha hx
  have db := dom_i h hb hy
  obtain ⟨ρ', h1, h2, h3, h4⟩ := newI_ok h (dorb_in da db)
  unfold Sy.orI
  generalize s.newI (dorb (dom s a) (dom s b)) = q at h2 h3 h4
  obtain ⟨s', v⟩ := q
  dsimp only at h2 h3 h4 ⊢
  refine ⟨ρ', h1, ?_, h3, h4⟩
  have a1 := dlo_le da
  have b1 := dlo_le db
  cases hb : ile 0 (dlo (dom s b)) with
  | true =>
    have g1 : x.toInt ≤ (x ||| y).toInt := or_ge (by have := ile_iff.mp hb; omega)
    cases ha : ile 0 (dlo (dom s a)) with
    | true =>
      have g2 : y.toInt ≤ (x ||| y).toInt := by rw [Int32.or_comm]; exact or_ge (by have := ile_iff.mp ha; omega)
      exact below_ok (below_ok h2 (ev.mono h1 hx) h4 g1) (ev.mono h1 hy) h4 g2
    | false => exact below_ok h2 (ev.mono h1 hx) h4 g1
  | false =>
    cases ha : ile 0 (dlo (dom s a)) with
    | true =>
      have g2 : y.toInt ≤ (x ||| y).toInt := by rw [Int32.or_comm]; exact or_ge (by have := ile_iff.mp ha; omega)
      exact below_ok h2 (ev.mono h1 hy) h4 g2
    | false => exact h2
theorem i_add {x y : Int32} (h : -2147483648 ≤ x.toInt + y.toInt ∧ x.toInt + y.toInt ≤ 2147483647) : (x + y).toInt = x.toInt + y.toInt := by
  rw [Int32.toInt_add, bm32 h]
theorem i_sub {x y : Int32} (h : -2147483648 ≤ x.toInt - y.toInt ∧ x.toInt - y.toInt ≤ 2147483647) : (x - y).toInt = x.toInt - y.toInt := by
  rw [Int32.toInt_sub, bm32 h]
theorem i_mul {x y : Int32} (h : -2147483648 ≤ x.toInt * y.toInt ∧ x.toInt * y.toInt ≤ 2147483647) : (x * y).toInt = x.toInt * y.toInt := by
  rw [Int32.toInt_mul, bm32 h]
/-- the values of an operation over few numbers -/
def enum (d : Dom) : List Int := d.flatMap fun p => (List.range (p.2 - p.1 + 1).toNat).map fun (t : Nat) => p.1 + (t : Int)
theorem enum_in {x : Int} : ∀ {d : Dom}, inD x d → x ∈ enum d := by
  intro d ⟨p, hp, h1, h2⟩
  refine List.mem_flatMap.mpr ⟨p, hp, List.mem_map.mpr ⟨(x - p.1).toNat, List.mem_range.mpr (by omega), by omega⟩⟩
def small (d : Dom) : Bool := ile (dhi d - dlo d) 31
def dops (o : Bo) (a b : Dom) : Dom := bif small a && small b then (enum a).flatMap fun x => (enum b).map fun y => ((o.i (Int32.ofInt x) (Int32.ofInt y)).toInt, (o.i (Int32.ofInt x) (Int32.ofInt y)).toInt) else T32
theorem dops_in {o : Bo} {a b : Dom} {x y : Int32} (ha : inD x.toInt a) (hb : inD y.toInt b) : inD (o.i x y).toInt (dops o a b) := by
  unfold dops
  cases h1 : small a && small b with
  | false => exact in32 _
  | true =>
    simp only [cond_true]
    have e : ∀ z : Int32, Int32.ofInt z.toInt = z := fun z => Int32.ofInt_toInt z
    exact ⟨_, List.mem_flatMap.mpr ⟨x.toInt, enum_in ha, List.mem_map.mpr ⟨y.toInt, enum_in hb, rfl⟩⟩, by dsimp only; rw [e, e]; exact Int.le_refl _, by dsimp only; rw [e, e]; exact Int.le_refl _⟩
def hull (d : Dom) : Dom := match d with
  | [] => []
  | d => [(dlo d, dhi d)]
theorem hull_in {d : Dom} {x : Int} (h : inD x d) : inD x (hull d) := by
  unfold hull
  split
  · exact h
  · exact ⟨_, List.mem_cons_self .., dlo_le h, le_dhi h⟩
def Sy.bi0 (s : Sy) (o : Bo) (a b : AV) : Sy × AV := match o with
  | .iadd => match b with
    | .inr (.inl n) => s.addc a n
    | _ => match a with
      | .inr (.inl n) => s.addc b n
      | _ => s.sumI a b 1 (dmm f_dadd (dom s a) (dom s b))
  | .isub => match b with
    | .inr (.inl n) => s.addc a (-n)
    | _ => s.sumI a b (-1) (dmm f_dsub (dom s a) (dom s b))
  | .imul => match b with
    | .inr (.inl n) => s.sumI (.c 0) a n (dmm f_dmul (dom s a) (dom s b))
    | _ => match a with
      | .inr (.inl n) => s.sumI (.c 0) b n (dmm f_dmul (dom s a) (dom s b))
      | _ => s.newI (dbin f_dmul (dom s a) (dom s b))
  | .iand => bif AV.eq a (.c 0) then (s, .c 0) else bif AV.eq b (.c (-1)) then (s, a) else bif AV.eq a (.c (-1)) then (s, b) else s.newI (dandb (dom s a) (dom s b))
  | .ior => s.orI a b
  | .ishl => s.newI (hull (dops .ishl (dom s a) (dom s b)))
  | _ => s.newI T32
theorem bi0_ok (h : Ok J s ρ σ) {o : Bo} {a b : AV} {x y : Int32} (ha : a.isI = true) (hb : b.isI = true) (hx : ev ρ a = some x.toInt) (hy : ev ρ b = some y.toInt) : ∃ ρ', Pre ρ ρ' ∧ Ok J (s.bi0 o a b).1 ρ' σ ∧ (s.bi0 o a b).2.isI = true ∧ ev ρ' (s.bi0 o a b).2 = some (o.i x y).toInt := by
  have da := dom_i h ha hx
  have db := dom_i h hb hy
  have dd : ∀ {f : Int × Int → Int × Int → Int × Int} {z : Int}, (∀ p q : Int × Int, p.1 ≤ x.toInt → x.toInt ≤ p.2 → q.1 ≤ y.toInt → y.toInt ≤ q.2 → (f p q).1 ≤ z ∧ z ≤ (f p q).2) → inD z (dmm f (dom s a) (dom s b)) := fun hf => dmap2_in hf (few_in da) (few_in db)
  unfold Sy.bi0
  split
  all_goals try simp only [Bo.i]
  · split
    · have := Option.some.inj hy
      exact addc_ok h ha hx (fun q => by rw [i_add (by omega)]; omega)
    · split
      · have := Option.some.inj hx
        exact addc_ok h hb hy (fun q => by rw [i_add (by omega)]; omega)
      · refine sumI_ok h hx hy ?_ (fun q => by rw [i_add (by omega)]; omega)
        rw [show x.toInt + 1 * y.toInt = x.toInt + y.toInt by omega]
        exact dd (fun p q _ _ _ _ => by unfold f_dadd; dsimp only; omega)
  · split
    · have := Option.some.inj hy
      exact addc_ok h ha hx (fun q => by rw [i_sub (by omega)]; omega)
    · refine sumI_ok h hx hy ?_ (fun q => by rw [i_sub (by omega)]; omega)
      rw [show x.toInt + -1 * y.toInt = x.toInt - y.toInt by omega]
      exact dd (fun p q _ _ _ _ => by unfold f_dsub; dsimp only; omega)
  · split
    · rename_i n
      have hn : n = y.toInt := Option.some.inj hy
      subst hn
      have e : (0 : Int) + y.toInt * x.toInt = x.toInt * y.toInt := by rw [Int.mul_comm]; omega
      refine sumI_ok (x := 0) h rfl hx ?_ (fun q => by rw [e] at q ⊢; exact i_mul q)
      rw [e]
      exact dd (fun p q h1 h2 h3 h4 => f_dmul_in h1 h2 h3 h4)
    · split
      · rename_i n
        have hn : n = x.toInt := Option.some.inj hx
        subst hn
        have e : (0 : Int) + x.toInt * y.toInt = x.toInt * y.toInt := by omega
        refine sumI_ok (x := 0) h rfl hy ?_ (fun q => by rw [e] at q ⊢; exact i_mul q)
        rw [e]
        exact dd (fun p q h1 h2 h3 h4 => f_dmul_in h1 h2 h3 h4)
      · exact newI_ok h (dbin_in (z := x.toInt * y.toInt) (fun p q h1 h2 h3 h4 => f_dmul_in h1 h2 h3 h4) da db i_mul)
  · have ez : ∀ q : Int32, q.toInt = 0 → q = 0 := fun q hq => Int32.toInt_inj.mp (hq.trans (by decide))
    have em : ∀ q : Int32, q.toInt = -1 → q = -1 := fun q hq => Int32.toInt_inj.mp (hq.trans (by decide))
    cases e1 : AV.eq a (.c 0) with
    | true =>
      have e2 := AV.eq_of e1
      subst e2
      rw [ez x (Option.some.inj hx).symm]
      exact ⟨ρ, Pre.rf, h, rfl, by simp [ev]⟩
    | false =>
      cases e2 : AV.eq b (.c (-1)) with
      | true =>
        have e3 := AV.eq_of e2
        subst e3
        rw [em y (Option.some.inj hy).symm]
        exact ⟨ρ, Pre.rf, h, ha, by rw [Int32.and_neg_one]; exact hx⟩
      | false =>
        cases e3 : AV.eq a (.c (-1)) with
        | true =>
          have e4 := AV.eq_of e3
          subst e4
          rw [em x (Option.some.inj hx).symm]
          exact ⟨ρ, Pre.rf, h, hb, by rw [Int32.neg_one_and]; exact hy⟩
        | false => exact newI_ok h (dandb_in da db)
  · exact orI_ok h ha hb hx hy
  · exact newI_ok h (hull_in (dops_in (o := .ishl) da db))
  · exact newI_ok h (in32 _)
def Sy.bi (s : Sy) (o : Bo) (a b : AV) : Sy × AV := match pl s a, pl s b with
  | .inr (.inl x), .inr (.inl y) => (s, .c (o.i (Int32.ofInt x) (Int32.ofInt y)).toInt)
  | _, _ => s.bi0 o a b
theorem ofInt_toInt32 {x : Int32} : Int32.ofInt x.toInt = x := Int32.ofInt_toInt x
theorem bi_ok (h : Ok J s ρ σ) {o : Bo} {a b : AV} {x y : Int32} (ha : a.isI = true) (hb : b.isI = true) (hx : ev ρ a = some x.toInt) (hy : ev ρ b = some y.toInt) : ∃ ρ', Pre ρ ρ' ∧ Ok J (s.bi o a b).1 ρ' σ ∧ (s.bi o a b).2.isI = true ∧ ev ρ' (s.bi o a b).2 = some (o.i x y).toInt := by
  have h1 := pl_ok h ha hx
  have h2 := pl_ok h hb hy
  unfold Sy.bi
  split
  · rename_i u w e1 e2
    rw [e1] at h1
    rw [e2] at h2
    have g1 := Option.some.inj h1
    have g2 := Option.some.inj h2
    subst g1
    subst g2
    rw [ofInt_toInt32, ofInt_toInt32]
    exact ⟨ρ, Pre.rf, h, rfl, rfl⟩
  · exact bi0_ok h ha hb hx hy
end B6
end
