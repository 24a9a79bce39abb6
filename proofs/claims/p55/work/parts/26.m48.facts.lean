section
theorem f_lo (x : Int32) : (-2147483648 : Int) ≤ x.toInt := Int32.le_toInt x
theorem f_hi (x : Int32) : x.toInt ≤ 2147483647 := Int32.toInt_le x
theorem f_jlo (x : Int64) : (-9223372036854775808 : Int) ≤ x.toInt := Int64.le_toInt x
theorem f_jhi (x : Int64) : x.toInt ≤ 9223372036854775807 := Int64.toInt_le x
theorem f_eq {x c : Int32} {t : Int} (hc : c.toInt = t) (h : x.toInt = t) : x = c := Int32.toInt_inj.mp (h.trans hc.symm)
theorem f_jeq {x c : Int64} {t : Int} (hc : c.toInt = t) (h : x.toInt = t) : x = c := Int64.toInt_inj.mp (h.trans hc.symm)
theorem f_lt {a b : Int32} {s t : Int} (ha : a.toInt = s) (hb : b.toInt = t) (h : s < t) : a < b := Int32.lt_iff_toInt_lt.mpr (by rw [ha, hb]; exact h)
theorem f_le {a b : Int32} {s t : Int} (ha : a.toInt = s) (hb : b.toInt = t) (h : s ≤ t) : a ≤ b := Int32.le_iff_toInt_le.mpr (by rw [ha, hb]; exact h)
theorem f_nlt {a b : Int32} {s t : Int} (ha : a.toInt = s) (hb : b.toInt = t) (h : t ≤ s) : ¬ a < b := fun q => by have := Int32.lt_iff_toInt_lt.mp q; rw [ha, hb] at this; omega
theorem f_nle {a b : Int32} {s t : Int} (ha : a.toInt = s) (hb : b.toInt = t) (h : t < s) : ¬ a ≤ b := fun q => by have := Int32.le_iff_toInt_le.mp q; rw [ha, hb] at this; omega
theorem f_ne {a b : Int32} {s t : Int} (ha : a.toInt = s) (hb : b.toInt = t) (h : s ≠ t) : ¬ a = b := fun q => h (by rw [← ha, ← hb, q])
theorem f_bm {n : Int} (h1 : -2147483648 ≤ n) (h2 : n ≤ 2147483647) : n.bmod (2 ^ 32) = n := by
  rw [Int.bmod_eq_of_le_mul_two] <;> omega
theorem f_add {a b : Int32} {s t : Int} (ha : a.toInt = s) (hb : b.toInt = t) (h1 : -2147483648 ≤ s + t) (h2 : s + t ≤ 2147483647) : (a + b).toInt = s + t := by
  rw [Int32.toInt_add, ha, hb]; exact f_bm h1 h2
theorem f_sub {a b : Int32} {s t : Int} (ha : a.toInt = s) (hb : b.toInt = t) (h1 : -2147483648 ≤ s - t) (h2 : s - t ≤ 2147483647) : (a - b).toInt = s - t := by
  rw [Int32.toInt_sub, ha, hb]; exact f_bm h1 h2
theorem f_mul {a b : Int32} {s t : Int} (ha : a.toInt = s) (hb : b.toInt = t) (h1 : -2147483648 ≤ s * t) (h2 : s * t ≤ 2147483647) : (a * b).toInt = s * t := by
  rw [Int32.toInt_mul, ha, hb]; exact f_bm h1 h2
theorem f_i2l {a : Int32} {s : Int} (ha : a.toInt = s) : (Int32.toInt64 a).toInt = s := by rw [Int32.toInt_toInt64]; exact ha
theorem f_in {a : Int32} {s : Int} {z : Nat} (ha : a.toInt = s) (h1 : 0 ≤ s) (h2 : s < (z : Int)) : vp_in a z := by
  unfold vp_in
  intro q
  rcases q with q | q
  · have := Int32.lt_iff_toInt_lt.mp q
    rw [ha] at this
    have h0 : (0 : Int32).toInt = 0 := by decide
    omega
  · have : (a.toNatClampNeg : Int) = s := by
      rw [← ha]
      show ((a.toInt.toNat : Nat) : Int) = a.toInt
      omega
    omega
theorem f_clt {a b : Int64} {s t : Int} (ha : a.toInt = s) (hb : b.toInt = t) (h : s < t) : lg_cmp a b = -1 := by
  have h1 : ¬ b < a := fun q => by have := Int64.lt_iff_toInt_lt.mp q; rw [ha, hb] at this; omega
  have h2 : ¬ a = b := fun q => by rw [q, hb] at ha; omega
  simp [lg_cmp, h1, h2]
theorem f_ceq {a b : Int64} {s t : Int} (ha : a.toInt = s) (hb : b.toInt = t) (h : s = t) : lg_cmp a b = 0 := by
  have : a = b := Int64.toInt_inj.mp (by rw [ha, hb]; exact h)
  rw [this]
  exact lg_self
theorem f_cgt {a b : Int64} {s t : Int} (ha : a.toInt = s) (hb : b.toInt = t) (h : t < s) : lg_cmp a b = 1 := by
  have h1 : b < a := Int64.lt_iff_toInt_lt.mpr (by rw [ha, hb]; exact h)
  simp [lg_cmp, h1]
theorem lmz {k : Nat} (h : MA.all (fun q => q.1 != k) = true) (j : Nat) : lm MA k j = 0 := by
  have : MA.find? (fun q => q.1 == k && q.2.1 == j) = none := by
    rw [List.find?_eq_none]
    intro q hq
    have := List.all_eq_true.mp h q hq
    simp at this
    simp [this]
  simp [lm, this]
theorem z_topi {E : xV} {Y : xY} {pc : Nat} {lv : List (Nat × Value)} {st : List Value} {σ : zS} {K : zKt} {x v : Int32} (h : x = v) (k : Wz E Y pc lv (.int v :: st) σ K) : Wz E Y pc lv (.int x :: st) σ K := h ▸ k
theorem z_topj {E : xV} {Y : xY} {pc : Nat} {lv : List (Nat × Value)} {st : List Value} {σ : zS} {K : zKt} {x v : Int64} (h : x = v) (k : Wz E Y pc lv (.long v :: st) σ K) : Wz E Y pc lv (.long x :: st) σ K := h ▸ k
theorem f_shr0 (x : Int64) : j_lshr x 0 = x := by
  unfold j_lshr
  have : (Int32.toInt64 0 &&& 63 : Int64) = 0 := by decide
  rw [this]
  simp
theorem f_addu {a b : Int32} {s t : Int} (ha : a.toInt = s) (hb : b.toInt = t) (h1 : s + t < -2147483648) (h2 : -4294967296 ≤ s + t) : (a + b).toInt = s + t + 4294967296 := by
  rw [Int32.toInt_add, ha, hb, ← Int.add_bmod_right]
  exact f_bm (by omega) (by omega)
theorem f_subu {a b : Int32} {s t : Int} (ha : a.toInt = s) (hb : b.toInt = t) (h1 : s - t < -2147483648) (h2 : -4294967296 ≤ s - t) : (a - b).toInt = s - t + 4294967296 := by
  rw [Int32.toInt_sub, ha, hb, ← Int.add_bmod_right]
  exact f_bm (by omega) (by omega)
theorem f_addd {a b : Int32} {s t : Int} (ha : a.toInt = s) (hb : b.toInt = t) (h1 : 2147483647 < s + t) (h2 : s + t ≤ 4294967295) : (a + b).toInt = s + t - 4294967296 := by
  have h : (s + t - 4294967296 + ((2 ^ 32 : Nat) : Int)).bmod (2 ^ 32) = (s + t - 4294967296).bmod (2 ^ 32) := Int.add_bmod_right ..
  rw [Int32.toInt_add, ha, hb]
  have e : s + t = s + t - 4294967296 + ((2 ^ 32 : Nat) : Int) := by omega
  rw [e, h]
  have e2 : s + t - 4294967296 + ((2 ^ 32 : Nat) : Int) - 4294967296 = s + t - 4294967296 := by omega
  rw [e2]
  exact f_bm (by omega) (by omega)
theorem f_subd {a b : Int32} {s t : Int} (ha : a.toInt = s) (hb : b.toInt = t) (h1 : 2147483647 < s - t) (h2 : s - t ≤ 4294967295) : (a - b).toInt = s - t - 4294967296 := by
  have h : (s - t - 4294967296 + ((2 ^ 32 : Nat) : Int)).bmod (2 ^ 32) = (s - t - 4294967296).bmod (2 ^ 32) := Int.add_bmod_right ..
  rw [Int32.toInt_sub, ha, hb]
  have e : s - t = s - t - 4294967296 + ((2 ^ 32 : Nat) : Int) := by omega
  rw [e, h]
  have e2 : s - t - 4294967296 + ((2 ^ 32 : Nat) : Int) - 4294967296 = s - t - 4294967296 := by omega
  rw [e2]
  exact f_bm (by omega) (by omega)
theorem f_half {x : Int32} (h1 : 0 ≤ x.toInt) (h2 : x.toInt < 2147483647) : Int64.toInt32 (Int32.toInt64 x - Int32.toInt64 x / 2147483647 * 2147483647) = x := by
  have h : Int32.toInt64 x / 2147483647 = 0 := by
    apply Int64.toInt_inj.mp
    rw [Int64.toInt_div, Int32.toInt_toInt64]
    have e : (2147483647 : Int64).toInt = 2147483647 := by decide
    rw [e, Int.tdiv_eq_zero_of_lt h1 h2]
    decide
  rw [h]
  simp
theorem f_andm (x : Int32) : x &&& (-1) = x := by
  apply Int32.toBitVec_inj.mp
  simp
theorem f_and0 (x : Int32) : 0 &&& x = 0 := by
  apply Int32.toBitVec_inj.mp
  simp
theorem f_ladd0 (x : Int64) : 0 + x = x := by simp
theorem f_lor0 (x : Int64) : 0 ||| x = x := by simp
theorem f_l2i (x : Int32) : Int64.toInt32 (Int32.toInt64 x) = x := by simp
end
section
theorem law_exit {E : xV} {bS L : Nat} {xs : Nat → Int32} {i : Int32} {σ : zS} (h : Int32.ofNat L - 8 < i) : Wx E YL 18 [(0, .ref 1021), (1, .ref 0), (2, .ref 110), (3, .int i)] [] 215 215 100784 (zx σ) (QL E bS L xs) := by
  refine y_iload_n (q := 3) d_L_18 rfl rfl ?_
  refine y_aload_n (q := 0) d_L_19 rfl rfl ?_
  refine l_len d_L_20 ?_
  refine y_bipush (v := 8) d_L_21 (by decide) ?_
  refine y_isub d_L_23 ?_
  refine y_icmp_gt (tgt := 3482) d_L_24 (fun _ => ?_) (fun c => absurd h c)
  refine y_iconst (v := 1) d_L_3482 (by decide) ?_
  exact l_ret d_L_3483 (by decide) (by decide)
theorem law_again {E : xV} {bS L : Nat} {xs : Nat → Int32} {i : Int32} {σ : zS} (h : ¬ Int32.ofNat L - 8 < i) (k : Wx E YL 27 [(0, .ref 1021), (1, .ref 0), (2, .ref 110), (3, .int i)] [] 215 215 100784 (zx σ) (QL E bS L xs)) : Wx E YL 18 [(0, .ref 1021), (1, .ref 0), (2, .ref 110), (3, .int i)] [] 215 215 100784 (zx σ) (QL E bS L xs) := by
  refine y_iload_n (q := 3) d_L_18 rfl rfl ?_
  refine y_aload_n (q := 0) d_L_19 rfl rfl ?_
  refine l_len d_L_20 ?_
  refine y_bipush (v := 8) d_L_21 (by decide) ?_
  refine y_isub d_L_23 ?_
  exact y_icmp_gt (tgt := 3482) d_L_24 (fun c => absurd c h) (fun _ => k)
theorem law_next {E : xV} {bS L : Nat} {xs : Nat → Int32} {i i' : Int32} {σ : zS} (hi : i + 8 = i') (k : Wx E YL 18 [(0, .ref 1021), (1, .ref 0), (2, .ref 110), (3, .int i')] [] 215 215 100784 (zx σ) (QL E bS L xs)) : Wx E YL 3476 [(0, .ref 1021), (1, .ref 0), (2, .ref 110), (3, .int i)] [] 215 215 100784 (zx σ) (QL E bS L xs) := by
  refine y_iinc (q := 3) (v := i') (lv' := [(3, .int i'), (0, .ref 1021), (1, .ref 0), (2, .ref 110)]) d_L_3476 rfl ((j_inc (w := 8) rfl).trans hi) (by decide) rfl ?_
  refine y_goto (tgt := 18) d_L_3479 ?_
  exact x_sub [1, 2, 3, 0] rfl k
/-- every call, on both sides, from a state with J: it returns, answers as the law asks, and J holds behind it -/
noncomputable def LCA (E : xV) (σ : zS) (J : zS → Prop) : Prop := LC_0 E σ J ∧ LC_1 E σ J ∧ LC_2 E σ J ∧ LC_3 E σ J ∧ LC_4 E σ J ∧ LC_5 E σ J ∧ LC_6 E σ J ∧ LC_7 E σ J ∧ LC_8 E σ J ∧ LC_9 E σ J ∧ LC_10 E σ J ∧ LC_11 E σ J ∧ LC_12 E σ J ∧ LC_13 E σ J ∧ LC_14 E σ J ∧ LC_15 E σ J ∧ LC_16 E σ J ∧ LC_17 E σ J ∧ LC_18 E σ J ∧ LC_19 E σ J ∧ LC_20 E σ J ∧ LC_21 E σ J ∧ LC_22 E σ J ∧ LC_23 E σ J ∧ LC_24 E σ J ∧ LC_25 E σ J ∧ LC_26 E σ J ∧ LC_27 E σ J ∧ LC_28 E σ J ∧ LC_29 E σ J ∧ LC_30 E σ J ∧ LC_31 E σ J ∧ LC_32 E σ J ∧ LC_33 E σ J ∧ LC_34 E σ J ∧ LC_35 E σ J ∧ LC_36 E σ J ∧ LC_37 E σ J ∧ LC_38 E σ J ∧ LC_39 E σ J ∧ LC_40 E σ J ∧ LC_41 E σ J ∧ LC_42 E σ J ∧ LC_43 E σ J ∧ LC_44 E σ J ∧ LC_45 E σ J ∧ LC_46 E σ J ∧ LC_47 E σ J ∧ LC_48 E σ J ∧ LC_49 E σ J ∧ LC_50 E σ J ∧ LC_51 E σ J ∧ LC_52 E σ J ∧ LC_53 E σ J ∧ LC_54 E σ J ∧ LC_55 E σ J ∧ LC_56 E σ J ∧ LC_57 E σ J ∧ LC_58 E σ J ∧ LC_59 E σ J ∧ LC_60 E σ J ∧ LC_61 E σ J ∧ LC_62 E σ J ∧ LC_63 E σ J ∧ LC_64 E σ J ∧ LC_65 E σ J ∧ LC_66 E σ J ∧ LC_67 E σ J ∧ LC_68 E σ J ∧ LC_69 E σ J ∧ LC_70 E σ J ∧ LC_71 E σ J ∧ LC_72 E σ J ∧ LC_73 E σ J ∧ LC_74 E σ J ∧ LC_75 E σ J ∧ LC_76 E σ J ∧ LC_77 E σ J ∧ LC_78 E σ J ∧ LC_79 E σ J ∧ LC_80 E σ J ∧ LC_81 E σ J ∧ LC_82 E σ J ∧ LC_83 E σ J
theorem i_ofNat {L : Nat} (h : L ≤ 4096) : (Int32.ofNat L).toInt = (L : Int) := by
  exact Int32.toInt_ofNat_of_lt (by omega)
theorem law_loop {E : xV} {bS L : Nat} {xs : Nat → Int32} {J : zS → Prop} (hL : L ≤ 4096) (hP : ∀ σ, J σ → LCA E σ J) : ∀ (n : Nat) (i : Int32) (σ : zS), 0 ≤ i.toInt → i.toInt ≤ 4104 → (L : Int) + 9 - i.toInt ≤ (n : Int) → J σ → Wx E YL 18 [(0, .ref 1021), (1, .ref 0), (2, .ref 110), (3, .int i)] [] 215 215 100784 (zx σ) (QL E bS L xs) := by
  have e8 : (8 : Int32).toInt = 8 := by decide
  have e0 : (0 : Int32).toInt = 0 := by decide
  have e7 : (7 : Int32).toInt = 7 := by decide
  have eL := f_sub (i_ofNat hL) e8 (by omega) (by omega)
  intro n
  induction n with
  | zero =>
    intro i σ h0 h1 h2 hJ
    exact law_exit (f_lt eL rfl (by omega))
  | succ n ih =>
    intro i σ h0 h1 h2 hJ
    by_cases c : (L : Int) - 8 < i.toInt
    · exact law_exit (f_lt eL rfl c)
    · refine law_again (fun q => c ?_) ?_
      · have := Int32.lt_iff_toInt_lt.mp q
        rw [eL] at this
        exact this
      · obtain ⟨p0, p1, p2, p3, p4, p5, p6, p7, p8, p9, p10, p11, p12, p13, p14, p15, p16, p17, p18, p19, p20, p21, p22, p23, p24, p25, p26, p27, p28, p29, p30, p31, p32, p33, p34, p35, p36, p37, p38, p39, p40, p41, p42, p43, p44, p45, p46, p47, p48, p49, p50, p51, p52, p53, p54, p55, p56, p57, p58, p59, p60, p61, p62, p63, p64, p65, p66, p67, p68, p69, p70, p71, p72, p73, p74, p75, p76, p77, p78, p79, p80, p81, p82, p83⟩ := hP σ hJ
        have e9 := f_add (a := i) (b := 8) rfl e8 (by omega) (by omega)
        refine law_switch (J := J) (fun j h3 h4 => ?_) (f_in rfl h0 (by omega)) hJ p0 p1 p2 p3 p4 p5 p6 p7 p8 p9 p10 p11 p12 p13 p14 p15 p16 p17 p18 p19 p20 p21 p22 p23 p24 p25 p26 p27 p28 p29 p30 p31 p32 p33 p34 p35 p36 p37 p38 p39 p40 p41 p42 p43 p44 p45 p46 p47 p48 p49 p50 p51 p52 p53 p54 p55 p56 p57 p58 p59 p60 p61 p62 p63 p64 p65 p66 p67 p68 p69 p70 p71 p72 p73 p74 p75 p76 p77 p78 p79 p80 p81 p82 p83 (fun σ2 hJ2 => law_next rfl (ih (i + 8) σ2 (by rw [e9]; omega) (by rw [e9]; omega) (by rw [e9]; omega) hJ2))
        have a1 := Int32.le_iff_toInt_le.mp h3
        have a2 := Int32.le_iff_toInt_le.mp h4
        rw [e0] at a1
        rw [e7] at a2
        exact f_in (f_add rfl rfl (by omega) (by omega)) (by omega) (by omega)
theorem whole_from {p : Program} {e : Env} {s : State} {m : MethodId} {below : List Frame} {meth : Method} {c : Code} (l : Launch) {b L : Nat} {xs : Nat → Int32} {J : zS → Prop} (hJ0 : J σ00) (hP : ∀ (E : xV) σ, J σ → LCA E σ J) (hL : L ≤ 4096) (C0 : lw_At p s m meth c b L xs) : W p l e room_1 s m #[Value.ref b] below meth c s.heap [] 0 0 (lw_Z below #[Value.ref b] s) (entryFrame m ([Value.ref b] : List Value).toArray 4) := by
  refine law_begin l C0 (fun E => ?_)
  exact law_loop hL (hP E) (L + 9) 0 σ00 (by decide) (by decide) (by rw [show (0 : Int32).toInt = 0 by decide]; omega) hJ0
end
