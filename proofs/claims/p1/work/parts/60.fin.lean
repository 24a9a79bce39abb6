theorem law_exit {E : xV} {bS L : Nat} {xs : Nat → Int32} {i : Int32} {σ : zS} (h : Int32.ofNat L - 8 < i) : Wx E YL 18 [(0, .ref 1021), (1, .ref 0), (2, .ref 110), (3, .int i)] [] 215 215 100784 (zx σ) (QL E bS L xs) := by
  refine y_iload_n (q := 3) d_L_18 rfl rfl ?_
  refine y_aload_n (q := 0) d_L_19 rfl rfl ?_
  refine l_len d_L_20 ?_
  refine y_bipush (v := 8) d_L_21 (by decide) ?_
  refine y_isub d_L_23 ?_
  refine y_icmp_gt (tgt := 3485) d_L_24 (fun _ => ?_) (fun c => absurd h c)
  refine y_iconst (v := 1) d_L_3485 (by decide) ?_
  exact l_ret d_L_3486 (by decide) (by decide)
theorem law_again {E : xV} {bS L : Nat} {xs : Nat → Int32} {i : Int32} {σ : zS} (h : ¬ Int32.ofNat L - 8 < i) (k : Wx E YL 27 [(0, .ref 1021), (1, .ref 0), (2, .ref 110), (3, .int i)] [] 215 215 100784 (zx σ) (QL E bS L xs)) : Wx E YL 18 [(0, .ref 1021), (1, .ref 0), (2, .ref 110), (3, .int i)] [] 215 215 100784 (zx σ) (QL E bS L xs) := by
  refine y_iload_n (q := 3) d_L_18 rfl rfl ?_
  refine y_aload_n (q := 0) d_L_19 rfl rfl ?_
  refine l_len d_L_20 ?_
  refine y_bipush (v := 8) d_L_21 (by decide) ?_
  refine y_isub d_L_23 ?_
  exact y_icmp_gt (tgt := 3485) d_L_24 (fun c => absurd c h) (fun _ => k)
theorem law_next {E : xV} {bS L : Nat} {xs : Nat → Int32} {i i' : Int32} {σ : zS} (hi : i + 8 = i') (k : Wx E YL 18 [(0, .ref 1021), (1, .ref 0), (2, .ref 110), (3, .int i')] [] 215 215 100784 (zx σ) (QL E bS L xs)) : Wx E YL 3479 [(0, .ref 1021), (1, .ref 0), (2, .ref 110), (3, .int i)] [] 215 215 100784 (zx σ) (QL E bS L xs) := by
  refine y_iinc (q := 3) (v := i') (lv' := [(3, .int i'), (0, .ref 1021), (1, .ref 0), (2, .ref 110)]) d_L_3479 rfl ((j_inc (w := 8) rfl).trans hi) (by decide) rfl ?_
  refine y_goto (tgt := 18) d_L_3482 ?_
  exact x_sub [1, 2, 3, 0] rfl k
theorem whole_start {p : Program} {e : Env} {s : State} {m : MethodId} {below : List Frame} {meth : Method} {c : Code} (l : Launch) {b L : Nat} {xs : Nat → Int32} (hL : L ≤ 8) (C0 : lw_At p s m meth c b L xs) : W p l e room_1 s m #[Value.ref b] below meth c s.heap [] 0 0 (lw_Z below #[Value.ref b] s) (entryFrame m ([Value.ref b] : List Value).toArray 4) := by
  refine law_begin l C0 (fun E => ?_)
  rcases (show L = 8 ∨ L < 8 by omega) with h8 | h8
  · subst h8
    refine law_again (by decide) (law_switch (J := fun _ => True) (fun j h1 h2 => ?_) (vp_d rfl) trivial P_0 P_1 P_2 P_3 P_4 P_5 P_6 P_7 P_8 P_9 P_10 P_11 P_12 P_13 P_14 P_15 P_16 P_17 P_18 P_19 P_20 P_21 P_22 P_23 P_24 P_25 P_26 P_27 P_28 P_29 P_30 P_31 P_32 P_33 P_34 P_35 P_36 P_37 P_38 P_39 P_40 P_41 P_42 P_43 P_44 P_45 P_46 P_47 P_48 P_49 P_50 P_51 P_52 P_53 P_54 P_55 P_56 P_57 P_58 P_59 P_60 P_61 P_62 P_63 P_64 P_65 P_66 P_67 P_68 P_69 P_70 P_71 P_72 P_73 P_74 P_75 P_76 P_77 P_78 P_79 P_80 P_81 P_82 P_83 (fun σ2 _ => law_next (i' := 8) (by decide) (law_exit (by decide))))
    have e1 : (0 : Int32) + j = j := by simp
    rw [e1]
    have h3 := Int32.le_iff_toInt_le.mp h1
    have h4 := Int32.le_iff_toInt_le.mp h2
    have e2 : (0 : Int32).toInt = 0 := by decide
    have e3 : (7 : Int32).toInt = 7 := by decide
    exact f_in (s := j.toInt) rfl (by omega) (by omega)
  · refine law_exit ?_
    rcases (show L = 0 ∨ L = 1 ∨ L = 2 ∨ L = 3 ∨ L = 4 ∨ L = 5 ∨ L = 6 ∨ L = 7 by omega) with h | h | h | h | h | h | h | h <;> subst h <;> decide
