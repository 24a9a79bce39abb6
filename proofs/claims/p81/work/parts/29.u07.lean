section
theorem run_M_over {E : xV} {σ : zS} {K : zKt} {x y : Int64} (k : ∀ v : Int64, OvR x.toInt y.toInt v.toInt → K (some (.long v)) σ) : Wz E Y_M_over 0 [(0, .long x), (2, .long y)] [] σ K := by
  refine z_lload_n (f := 0) (i := 0) (q := 0) (pc' := 1) ⟨by decide +kernel, rfl⟩ rfl rfl ?_
  refine z_lconst (i := 0) (v := 0) (pc' := 2) ⟨by decide +kernel, rfl⟩ (by decide) ?_
  refine z_lcmp (pc' := 3) ⟨by decide +kernel, rfl⟩ ?_
  refine z_if_ge (off := 7) (tgt := 10) (pc' := 6) ⟨by decide +kernel, by decide, rfl⟩ (fun h1 => ?_) (fun h1 => ?_)
  · refine z_iconst (i := 0) (v := 0) (pc' := 11) ⟨by decide +kernel, rfl⟩ (by decide) ?_
    refine z_lload_n (f := 2) (i := 2) (q := 1) (pc' := 12) ⟨by decide +kernel, rfl⟩ rfl rfl ?_
    refine z_lconst (i := 0) (v := 0) (pc' := 13) ⟨by decide +kernel, rfl⟩ (by decide) ?_
    refine z_lcmp (pc' := 14) ⟨by decide +kernel, rfl⟩ ?_
    refine z_if_ge (off := 7) (tgt := 21) (pc' := 17) ⟨by decide +kernel, by decide, rfl⟩ (fun h2 => ?_) (fun h2 => ?_)
    · refine z_iconst (i := 0) (v := 0) (pc' := 22) ⟨by decide +kernel, rfl⟩ (by decide) ?_
      refine z_icmp_eq (off := 7) (tgt := 29) (pc' := 25) ⟨by decide +kernel, by decide, rfl⟩ (fun h3 => ?_) (fun h3 => ?_)
      · refine z_iconst (i := 0) (v := 0) (pc' := 30) ⟨by decide +kernel, rfl⟩ (by decide) ?_
        refine z_istore (i := 4) (pc' := 32) ⟨by decide +kernel, rfl⟩ (by decide) rfl ?_
        show Wz E Y_M_over 32 [(4, .int 0), (0, .long x), (2, .long y)] [] σ K
        have z0L : (0 : Int64).toInt = 0 := by decide
        have z0 : (0 : Int32).toInt = 0 := by decide
        have gh1 := k_ge_t h1
        have gh2 := k_ge_t h2
        have gh3 := j_eq_t h3
        exact run_M_over_a (w_0 (by omega)) k
      · refine z_iconst (i := 1) (v := 1) (pc' := 26) ⟨by decide +kernel, rfl⟩ (by decide) ?_
        refine z_goto (off := 4) (tgt := 30) (pc' := 29) ⟨by decide +kernel, by decide, rfl⟩ ?_
        refine z_istore (i := 4) (pc' := 32) ⟨by decide +kernel, rfl⟩ (by decide) rfl ?_
        show Wz E Y_M_over 32 [(4, .int 1), (0, .long x), (2, .long y)] [] σ K
        have z0L : (0 : Int64).toInt = 0 := by decide
        have z0 : (0 : Int32).toInt = 0 := by decide
        have gh1 := k_ge_t h1
        have gh2 := k_ge_t h2
        have gh3 := j_eq_f h3
        exact run_M_over_a (w_1 (by omega)) k
    · refine z_iconst (i := 1) (v := 1) (pc' := 18) ⟨by decide +kernel, rfl⟩ (by decide) ?_
      refine z_goto (off := 4) (tgt := 22) (pc' := 21) ⟨by decide +kernel, by decide, rfl⟩ ?_
      refine z_icmp_eq (off := 7) (tgt := 29) (pc' := 25) ⟨by decide +kernel, by decide, rfl⟩ (fun h4 => ?_) (fun h4 => ?_)
      · refine z_iconst (i := 0) (v := 0) (pc' := 30) ⟨by decide +kernel, rfl⟩ (by decide) ?_
        refine z_istore (i := 4) (pc' := 32) ⟨by decide +kernel, rfl⟩ (by decide) rfl ?_
        show Wz E Y_M_over 32 [(4, .int 0), (0, .long x), (2, .long y)] [] σ K
        have z0L : (0 : Int64).toInt = 0 := by decide
        have z0 : (0 : Int32).toInt = 0 := by decide
        have z1 : (1 : Int32).toInt = 1 := by decide
        have gh1 := k_ge_t h1
        have gh2 := k_ge_f h2
        have gh4 := j_eq_t h4
        exact run_M_over_a (w_0 (by omega)) k
      · refine z_iconst (i := 1) (v := 1) (pc' := 26) ⟨by decide +kernel, rfl⟩ (by decide) ?_
        refine z_goto (off := 4) (tgt := 30) (pc' := 29) ⟨by decide +kernel, by decide, rfl⟩ ?_
        refine z_istore (i := 4) (pc' := 32) ⟨by decide +kernel, rfl⟩ (by decide) rfl ?_
        show Wz E Y_M_over 32 [(4, .int 1), (0, .long x), (2, .long y)] [] σ K
        have z0L : (0 : Int64).toInt = 0 := by decide
        have z0 : (0 : Int32).toInt = 0 := by decide
        have z1 : (1 : Int32).toInt = 1 := by decide
        have gh1 := k_ge_t h1
        have gh2 := k_ge_f h2
        have gh4 := j_eq_f h4
        exact run_M_over_a (w_1 (by omega)) k
  · refine z_iconst (i := 1) (v := 1) (pc' := 7) ⟨by decide +kernel, rfl⟩ (by decide) ?_
    refine z_goto (off := 4) (tgt := 11) (pc' := 10) ⟨by decide +kernel, by decide, rfl⟩ ?_
    refine z_lload_n (f := 2) (i := 2) (q := 1) (pc' := 12) ⟨by decide +kernel, rfl⟩ rfl rfl ?_
    refine z_lconst (i := 0) (v := 0) (pc' := 13) ⟨by decide +kernel, rfl⟩ (by decide) ?_
    refine z_lcmp (pc' := 14) ⟨by decide +kernel, rfl⟩ ?_
    refine z_if_ge (off := 7) (tgt := 21) (pc' := 17) ⟨by decide +kernel, by decide, rfl⟩ (fun h5 => ?_) (fun h5 => ?_)
    · refine z_iconst (i := 0) (v := 0) (pc' := 22) ⟨by decide +kernel, rfl⟩ (by decide) ?_
      refine z_icmp_eq (off := 7) (tgt := 29) (pc' := 25) ⟨by decide +kernel, by decide, rfl⟩ (fun h6 => ?_) (fun h6 => ?_)
      · refine z_iconst (i := 0) (v := 0) (pc' := 30) ⟨by decide +kernel, rfl⟩ (by decide) ?_
        refine z_istore (i := 4) (pc' := 32) ⟨by decide +kernel, rfl⟩ (by decide) rfl ?_
        show Wz E Y_M_over 32 [(4, .int 0), (0, .long x), (2, .long y)] [] σ K
        have z0L : (0 : Int64).toInt = 0 := by decide
        have z0 : (0 : Int32).toInt = 0 := by decide
        have z1 : (1 : Int32).toInt = 1 := by decide
        have gh1 := k_ge_f h1
        have gh5 := k_ge_t h5
        have gh6 := j_eq_t h6
        exact run_M_over_a (w_0 (by omega)) k
      · refine z_iconst (i := 1) (v := 1) (pc' := 26) ⟨by decide +kernel, rfl⟩ (by decide) ?_
        refine z_goto (off := 4) (tgt := 30) (pc' := 29) ⟨by decide +kernel, by decide, rfl⟩ ?_
        refine z_istore (i := 4) (pc' := 32) ⟨by decide +kernel, rfl⟩ (by decide) rfl ?_
        show Wz E Y_M_over 32 [(4, .int 1), (0, .long x), (2, .long y)] [] σ K
        have z0L : (0 : Int64).toInt = 0 := by decide
        have z0 : (0 : Int32).toInt = 0 := by decide
        have z1 : (1 : Int32).toInt = 1 := by decide
        have gh1 := k_ge_f h1
        have gh5 := k_ge_t h5
        have gh6 := j_eq_f h6
        exact run_M_over_a (w_1 (by omega)) k
    · refine z_iconst (i := 1) (v := 1) (pc' := 18) ⟨by decide +kernel, rfl⟩ (by decide) ?_
      refine z_goto (off := 4) (tgt := 22) (pc' := 21) ⟨by decide +kernel, by decide, rfl⟩ ?_
      refine z_icmp_eq (off := 7) (tgt := 29) (pc' := 25) ⟨by decide +kernel, by decide, rfl⟩ (fun h7 => ?_) (fun h7 => ?_)
      · refine z_iconst (i := 0) (v := 0) (pc' := 30) ⟨by decide +kernel, rfl⟩ (by decide) ?_
        refine z_istore (i := 4) (pc' := 32) ⟨by decide +kernel, rfl⟩ (by decide) rfl ?_
        show Wz E Y_M_over 32 [(4, .int 0), (0, .long x), (2, .long y)] [] σ K
        have z0L : (0 : Int64).toInt = 0 := by decide
        have z1 : (1 : Int32).toInt = 1 := by decide
        have gh1 := k_ge_f h1
        have gh5 := k_ge_f h5
        have gh7 := j_eq_t h7
        exact run_M_over_a (w_0 (by omega)) k
      · refine z_iconst (i := 1) (v := 1) (pc' := 26) ⟨by decide +kernel, rfl⟩ (by decide) ?_
        refine z_goto (off := 4) (tgt := 30) (pc' := 29) ⟨by decide +kernel, by decide, rfl⟩ ?_
        refine z_istore (i := 4) (pc' := 32) ⟨by decide +kernel, rfl⟩ (by decide) rfl ?_
        show Wz E Y_M_over 32 [(4, .int 1), (0, .long x), (2, .long y)] [] σ K
        have z0L : (0 : Int64).toInt = 0 := by decide
        have z1 : (1 : Int32).toInt = 1 := by decide
        have gh1 := k_ge_f h1
        have gh5 := k_ge_f h5
        have gh7 := j_eq_f h7
        exact run_M_over_a (w_1 (by omega)) k
theorem cz_M_over {E : xV} {σ : zS} {K : zKt} {x y : Int64} (k : ∀ v : Int64, OvR x.toInt y.toInt v.toInt → K (some (.long v)) σ) : Cz E Y_M_over [.long x, .long y] σ K := z_entry (by decide) (fun a => by rw [sl_len]; exact Nat.le_of_ble_eq_true rfl) rfl (run_M_over k)
theorem run_Re_rest_x {E : xV} {σ : zS} {K : zKt} {x y b r : Int64} {i ap : Int32} {n : Nat} (hx : mgF x.toInt < infF) (hy : mgF y.toInt < infF) (hy0 : mgF y.toInt ≠ 0) (hap : ap.toInt = exF (mgF x.toInt) - exF (mgF y.toInt)) (h : RsI x y b r n) (hn : ap.toInt = n) (k : ∀ v : Int64, RsR x.toInt y.toInt v.toInt → K (some (.long v)) σ) : Wz E Y_Re_rest 120 [(9, .int i), (7, .long r), (5, .long b), (4, .int ap), (0, .long x), (2, .long y)] [] σ K := by
  refine z_lload_n (f := 0) (i := 0) (q := 4) (pc' := 121) ⟨by decide +kernel, rfl⟩ rfl rfl ?_
  refine z_ldc2 (i := 19) (v := (-9223372036854775808)) (pc' := 124) ⟨by decide +kernel, rfl⟩ k_4_115 ?_
  refine z_land (pc' := 125) ⟨by decide +kernel, rfl⟩ ?_
  refine z_lload (i := 7) (q := 1) (pc' := 127) ⟨by decide +kernel, rfl⟩ rfl ?_
  refine z_lload_n (f := 2) (i := 2) (q := 5) (pc' := 128) ⟨by decide +kernel, rfl⟩ rfl rfl ?_
  refine z_invS (Z := Y_Re_exponent) (idx := 38) (As := [.long y]) (rest := [.long r, .long (x &&& (-9223372036854775808))]) (nA := 1) (pc' := 131) ⟨k_4_140, k_1_13, k_4_142, by decide, by decide, by decide +kernel⟩ k_4_141 ⟨⟨by decide, by decide⟩, rfl, rfl⟩ ⟨by decide +kernel, rfl⟩ rfl rfl (Nat.le_of_ble_eq_true rfl) rfl rfl ?_
  refine cz_Re_exponent (fun v1 hv1 => ?_)
  show Wz E Y_Re_rest 131 [(9, .int i), (7, .long r), (5, .long b), (4, .int ap), (0, .long x), (2, .long y)] [.int v1, .long r, .long (x &&& (-9223372036854775808))] σ K
  refine z_invS (Z := Y_Re_packed) (idx := 31) (As := [.long (x &&& (-9223372036854775808)), .long r, .int v1]) (rest := []) (nA := 3) (pc' := 134) ⟨k_4_117, k_1_13, k_4_119, by decide, by decide, by decide +kernel⟩ k_4_118 ⟨⟨by decide, by decide⟩, rfl, rfl⟩ ⟨by decide +kernel, rfl⟩ rfl rfl (Nat.le_of_ble_eq_true rfl) rfl rfl ?_
  refine cz_Re_packed (sg_and x) (by have := h.2.2.2; have := h.2.1; have := mz_lt (mgF y.toInt); omega) (by have := ex_lo (mgF y.toInt); have := ex_hi y; omega) (fun v2 hv2 => ?_)
  show Wz E Y_Re_rest 134 [(9, .int i), (7, .long r), (5, .long b), (4, .int ap), (0, .long x), (2, .long y)] [.long v2] σ K
  refine z_lret rfl (by decide +kernel) ?_
  have z0L : (0 : Int64).toInt = 0 := by decide
  exact k _ (rsc_end hx hy hy0 h (by omega) hv1 hv2)
theorem run_Re_rest_l {E : xV} {σ : zS} {K : zKt} {x y b : Int64} {ap : Int32} (hx : mgF x.toInt < infF) (hy : mgF y.toInt < infF) (hy0 : mgF y.toInt ≠ 0) (hap : ap.toInt = exF (mgF x.toInt) - exF (mgF y.toInt)) (hb3 : ap.toInt ≤ 3000) (k : ∀ v : Int64, RsR x.toInt y.toInt v.toInt → K (some (.long v)) σ) : ∀ (j : Nat) {i : Int32} {r : Int64} {n : Nat}, ap.toInt = n + j → i.toInt = n → RsI x y b r n → Wz E Y_Re_rest 86 [(9, .int i), (7, .long r), (5, .long b), (4, .int ap), (0, .long x), (2, .long y)] [] σ K
  | 0, i, r, n, hj, hi, h => by
    refine z_iload (i := 9) (q := 0) (pc' := 88) ⟨by decide +kernel, rfl⟩ rfl ?_
    refine z_iload (i := 4) (q := 3) (pc' := 90) ⟨by decide +kernel, rfl⟩ rfl ?_
    refine z_icmp_ge (off := 30) (tgt := 120) (pc' := 93) ⟨by decide +kernel, by decide, rfl⟩ (fun h1 => ?_) (fun h1 => ?_)
    · have z0L : (0 : Int64).toInt = 0 := by decide
      have gh1 := j_ge_t h1
      exact run_Re_rest_x hx hy hy0 hap h (by omega) k
    · have z0L : (0 : Int64).toInt = 0 := by decide
      have gh1 := j_ge_f h1
      exfalso
      omega
  | j + 1, i, r, n, hj, hi, h => by
    have ih := @run_Re_rest_l E σ K x y b ap hx hy hy0 hap hb3 k j
    refine z_iload (i := 9) (q := 0) (pc' := 88) ⟨by decide +kernel, rfl⟩ rfl ?_
    refine z_iload (i := 4) (q := 3) (pc' := 90) ⟨by decide +kernel, rfl⟩ rfl ?_
    refine z_icmp_ge (off := 30) (tgt := 120) (pc' := 93) ⟨by decide +kernel, by decide, rfl⟩ (fun h1 => ?_) (fun h1 => ?_)
    · have z0L : (0 : Int64).toInt = 0 := by decide
      have gh1 := j_ge_t h1
      exfalso
      omega
    · refine z_lload (i := 7) (q := 1) (pc' := 95) ⟨by decide +kernel, rfl⟩ rfl ?_
      refine z_iconst (i := 1) (v := 1) (pc' := 96) ⟨by decide +kernel, rfl⟩ (by decide) ?_
      refine z_lshl (pc' := 97) ⟨by decide +kernel, rfl⟩ rfl ?_
      refine z_lstore (i := 7) (pc' := 99) ⟨by decide +kernel, rfl⟩ (by decide) rfl ?_
      show Wz E Y_Re_rest 99 [(7, .long (r <<< (Int32.toInt64 1 &&& 63))), (9, .int i), (5, .long b), (4, .int ap), (0, .long x), (2, .long y)] [] σ K
      refine z_lload (i := 7) (q := 0) (pc' := 101) ⟨by decide +kernel, rfl⟩ rfl ?_
      refine z_lload (i := 5) (q := 2) (pc' := 103) ⟨by decide +kernel, rfl⟩ rfl ?_
      refine z_lcmp (pc' := 104) ⟨by decide +kernel, rfl⟩ ?_
      refine z_if_lt (off := 10) (tgt := 114) (pc' := 107) ⟨by decide +kernel, by decide, rfl⟩ (fun h2 => ?_) (fun h2 => ?_)
      · refine z_iinc (i := 9) (z := 1) (q := 1) (pc' := 117) ⟨by decide +kernel, rfl⟩ rfl rfl (by decide) rfl ?_
        show Wz E Y_Re_rest 117 [(9, .int (i + Int32.ofInt 1)), (7, .long (r <<< (Int32.toInt64 1 &&& 63))), (5, .long b), (4, .int ap), (0, .long x), (2, .long y)] [] σ K
        refine z_goto (off := (-31)) (tgt := 86) (pc' := 120) ⟨by decide +kernel, by decide, rfl⟩ ?_
        have z0L : (0 : Int64).toInt = 0 := by decide
        have gh1 := j_ge_f h1
        have gh2 := k_lt_t h2
        have e1 : (Int32.ofInt 1).toInt = 1 := by decide
        exact ih (n := n + 1) (by omega) (by rw [i32_add (by rw [e1]; omega), e1]; omega) (rsi_lo h (by omega))
      · refine z_lload (i := 7) (q := 0) (pc' := 109) ⟨by decide +kernel, rfl⟩ rfl ?_
        refine z_lload (i := 5) (q := 2) (pc' := 111) ⟨by decide +kernel, rfl⟩ rfl ?_
        refine z_lsub (pc' := 112) ⟨by decide +kernel, rfl⟩ ?_
        refine z_lstore (i := 7) (pc' := 114) ⟨by decide +kernel, rfl⟩ (by decide) rfl ?_
        show Wz E Y_Re_rest 114 [(7, .long ((r <<< (Int32.toInt64 1 &&& 63)) - b)), (9, .int i), (5, .long b), (4, .int ap), (0, .long x), (2, .long y)] [] σ K
        refine z_iinc (i := 9) (z := 1) (q := 1) (pc' := 117) ⟨by decide +kernel, rfl⟩ rfl rfl (by decide) rfl ?_
        show Wz E Y_Re_rest 117 [(9, .int (i + Int32.ofInt 1)), (7, .long ((r <<< (Int32.toInt64 1 &&& 63)) - b)), (5, .long b), (4, .int ap), (0, .long x), (2, .long y)] [] σ K
        refine z_goto (off := (-31)) (tgt := 86) (pc' := 120) ⟨by decide +kernel, by decide, rfl⟩ ?_
        have z0L : (0 : Int64).toInt = 0 := by decide
        have gh1 := j_ge_f h1
        have gh2 := k_lt_f h2
        have e1 : (Int32.ofInt 1).toInt = 1 := by decide
        exact ih (n := n + 1) (by omega) (by rw [i32_add (by rw [e1]; omega), e1]; omega) (rsi_hi h (by omega))
theorem run_Re_rest_b {E : xV} {σ : zS} {K : zKt} {x y : Int64} {ap : Int32} (hx : mgF x.toInt < infF) (hy : mgF y.toInt < infF) (hy0 : mgF y.toInt ≠ 0) (hap : ap.toInt = exF (mgF x.toInt) - exF (mgF y.toInt)) (hb3 : ap.toInt ≤ 3000) (hb0 : 0 ≤ ap.toInt) (k : ∀ v : Int64, RsR x.toInt y.toInt v.toInt → K (some (.long v)) σ) : Wz E Y_Re_rest 57 [(4, .int ap), (0, .long x), (2, .long y)] [] σ K := by
  refine z_lload_n (f := 2) (i := 2) (q := 2) (pc' := 58) ⟨by decide +kernel, rfl⟩ rfl rfl ?_
  refine z_invS (Z := Y_Re_mantissa) (idx := 42) (As := [.long y]) (rest := []) (nA := 1) (pc' := 61) ⟨k_4_132, k_1_13, k_4_134, by decide, by decide, by decide +kernel⟩ k_4_133 ⟨⟨by decide, by decide⟩, rfl, rfl⟩ ⟨by decide +kernel, rfl⟩ rfl rfl (Nat.le_of_ble_eq_true rfl) rfl rfl ?_
  refine cz_Re_mantissa (fun v1 hv1 => ?_)
  show Wz E Y_Re_rest 61 [(4, .int ap), (0, .long x), (2, .long y)] [.long v1] σ K
  refine z_lstore (i := 5) (pc' := 63) ⟨by decide +kernel, rfl⟩ (by decide) rfl ?_
  show Wz E Y_Re_rest 63 [(5, .long v1), (4, .int ap), (0, .long x), (2, .long y)] [] σ K
  refine z_lload (i := 5) (q := 0) (pc' := 65) ⟨by decide +kernel, rfl⟩ rfl ?_
  refine z_lconst (i := 0) (v := 0) (pc' := 66) ⟨by decide +kernel, rfl⟩ (by decide) ?_
  refine z_lcmp (pc' := 67) ⟨by decide +kernel, rfl⟩ ?_
  refine z_if_ne (off := 7) (tgt := 74) (pc' := 70) ⟨by decide +kernel, by decide, rfl⟩ (fun h2 => ?_) (fun h2 => ?_)
  · refine z_lload_n (f := 0) (i := 0) (q := 2) (pc' := 75) ⟨by decide +kernel, rfl⟩ rfl rfl ?_
    refine z_invS (Z := Y_Re_mantissa) (idx := 42) (As := [.long x]) (rest := []) (nA := 1) (pc' := 78) ⟨k_4_132, k_1_13, k_4_134, by decide, by decide, by decide +kernel⟩ k_4_133 ⟨⟨by decide, by decide⟩, rfl, rfl⟩ ⟨by decide +kernel, rfl⟩ rfl rfl (Nat.le_of_ble_eq_true rfl) rfl rfl ?_
    refine cz_Re_mantissa (fun v3 hv3 => ?_)
    show Wz E Y_Re_rest 78 [(5, .long v1), (4, .int ap), (0, .long x), (2, .long y)] [.long v3] σ K
    refine z_lload (i := 5) (q := 0) (pc' := 80) ⟨by decide +kernel, rfl⟩ rfl ?_
    refine z_lrem (pc' := 81) ⟨by decide +kernel, rfl⟩ (om_nz hv1 hy0) ?_
    refine z_lstore (i := 7) (pc' := 83) ⟨by decide +kernel, rfl⟩ (by decide) rfl ?_
    show Wz E Y_Re_rest 83 [(7, .long (v3 - v3 / v1 * v1)), (5, .long v1), (4, .int ap), (0, .long x), (2, .long y)] [] σ K
    refine z_iconst (i := 0) (v := 0) (pc' := 84) ⟨by decide +kernel, rfl⟩ (by decide) ?_
    refine z_istore (i := 9) (pc' := 86) ⟨by decide +kernel, rfl⟩ (by decide) rfl ?_
    show Wz E Y_Re_rest 86 [(9, .int 0), (7, .long (v3 - v3 / v1 * v1)), (5, .long v1), (4, .int ap), (0, .long x), (2, .long y)] [] σ K
    have z0L : (0 : Int64).toInt = 0 := by decide
    have gh2 := k_ne_t h2
    exact run_Re_rest_l hx hy hy0 hap hb3 k ap.toInt.toNat (n := 0) (by omega) (by decide) (rsi_0 hy0 hv1 hv3)
  · refine z_ldc2 (i := 17) (v := 9221120237041090560) (pc' := 73) ⟨by decide +kernel, rfl⟩ k_4_131 ?_
    refine z_lret rfl (by decide +kernel) ?_
    have z0L : (0 : Int64).toInt = 0 := by decide
    have gh2 := k_ne_f h2
    exfalso
    exact om_nz hv1 hy0 ((lg_cmp_eq _ _).mp h2)
theorem run_Re_rest {E : xV} {σ : zS} {K : zKt} {x y : Int64} (k : ∀ v : Int64, RsR x.toInt y.toInt v.toInt → K (some (.long v)) σ) : Wz E Y_Re_rest 0 [(0, .long x), (2, .long y)] [] σ K := by
  refine z_lload_n (f := 0) (i := 0) (q := 0) (pc' := 1) ⟨by decide +kernel, rfl⟩ rfl rfl ?_
  refine z_invS (Z := Y_Re_isNoNumber) (idx := 13) (As := [.long x]) (rest := []) (nA := 1) (pc' := 4) ⟨k_4_124, k_1_13, k_3_235, by decide, by decide, by decide +kernel⟩ k_3_234 ⟨⟨by decide, by decide⟩, rfl, rfl⟩ ⟨by decide +kernel, rfl⟩ rfl rfl (Nat.le_of_ble_eq_true rfl) rfl rfl ?_
  refine cz_Re_isNoNumber (fun v1 hv1 => ?_)
  show Wz E Y_Re_rest 4 [(0, .long x), (2, .long y)] [.int v1] σ K
  refine z_if_ne (off := 24) (tgt := 28) (pc' := 7) ⟨by decide +kernel, by decide, rfl⟩ (fun h2 => ?_) (fun h2 => ?_)
  · refine z_ldc2 (i := 17) (v := 9221120237041090560) (pc' := 31) ⟨by decide +kernel, rfl⟩ k_4_131 ?_
    refine z_lret rfl (by decide +kernel) ?_
    have z0L : (0 : Int64).toInt = 0 := by decide
    have gh2 := p3_t hv1 h2
    exact k _ (rs_nan (by omega))
  · refine z_lload_n (f := 2) (i := 2) (q := 1) (pc' := 8) ⟨by decide +kernel, rfl⟩ rfl rfl ?_
    refine z_invS (Z := Y_Re_isNoNumber) (idx := 13) (As := [.long y]) (rest := []) (nA := 1) (pc' := 11) ⟨k_4_124, k_1_13, k_3_235, by decide, by decide, by decide +kernel⟩ k_3_234 ⟨⟨by decide, by decide⟩, rfl, rfl⟩ ⟨by decide +kernel, rfl⟩ rfl rfl (Nat.le_of_ble_eq_true rfl) rfl rfl ?_
    refine cz_Re_isNoNumber (fun v3 hv3 => ?_)
    show Wz E Y_Re_rest 11 [(0, .long x), (2, .long y)] [.int v3] σ K
    refine z_if_ne (off := 17) (tgt := 28) (pc' := 14) ⟨by decide +kernel, by decide, rfl⟩ (fun h4 => ?_) (fun h4 => ?_)
    · refine z_ldc2 (i := 17) (v := 9221120237041090560) (pc' := 31) ⟨by decide +kernel, rfl⟩ k_4_131 ?_
      refine z_lret rfl (by decide +kernel) ?_
      have z0L : (0 : Int64).toInt = 0 := by decide
      have gh2 := p3_f hv1 h2
      have gh4 := p3_t hv3 h4
      exact k _ (rs_nan (by omega))
    · refine z_lload_n (f := 0) (i := 0) (q := 0) (pc' := 15) ⟨by decide +kernel, rfl⟩ rfl rfl ?_
      refine z_invS (Z := Y_Re_isEndless) (idx := 35) (As := [.long x]) (rest := []) (nA := 1) (pc' := 18) ⟨k_4_125, k_1_13, k_4_127, by decide, by decide, by decide +kernel⟩ k_4_126 ⟨⟨by decide, by decide⟩, rfl, rfl⟩ ⟨by decide +kernel, rfl⟩ rfl rfl (Nat.le_of_ble_eq_true rfl) rfl rfl ?_
      refine cz_Re_isEndless (fun v5 hv5 => ?_)
      show Wz E Y_Re_rest 18 [(0, .long x), (2, .long y)] [.int v5] σ K
      refine z_if_ne (off := 10) (tgt := 28) (pc' := 21) ⟨by decide +kernel, by decide, rfl⟩ (fun h6 => ?_) (fun h6 => ?_)
      · refine z_ldc2 (i := 17) (v := 9221120237041090560) (pc' := 31) ⟨by decide +kernel, rfl⟩ k_4_131 ?_
        refine z_lret rfl (by decide +kernel) ?_
        have z0L : (0 : Int64).toInt = 0 := by decide
        have gh2 := p3_f hv1 h2
        have gh4 := p3_f hv3 h4
        have gh6 := p3_t hv5 h6
        exact k _ (rs_nan (by omega))
      · refine z_lload_n (f := 2) (i := 2) (q := 1) (pc' := 22) ⟨by decide +kernel, rfl⟩ rfl rfl ?_
        refine z_invS (Z := Y_Re_isZero) (idx := 46) (As := [.long y]) (rest := []) (nA := 1) (pc' := 25) ⟨k_4_128, k_1_13, k_4_130, by decide, by decide, by decide +kernel⟩ k_4_129 ⟨⟨by decide, by decide⟩, rfl, rfl⟩ ⟨by decide +kernel, rfl⟩ rfl rfl (Nat.le_of_ble_eq_true rfl) rfl rfl ?_
        refine cz_Re_isZero (fun v7 hv7 => ?_)
        show Wz E Y_Re_rest 25 [(0, .long x), (2, .long y)] [.int v7] σ K
        refine z_if_eq (off := 7) (tgt := 32) (pc' := 28) ⟨by decide +kernel, by decide, rfl⟩ (fun h8 => ?_) (fun h8 => ?_)
        · refine z_lload_n (f := 0) (i := 0) (q := 0) (pc' := 33) ⟨by decide +kernel, rfl⟩ rfl rfl ?_
          refine z_invS (Z := Y_Re_exponent) (idx := 38) (As := [.long x]) (rest := []) (nA := 1) (pc' := 36) ⟨k_4_140, k_1_13, k_4_142, by decide, by decide, by decide +kernel⟩ k_4_141 ⟨⟨by decide, by decide⟩, rfl, rfl⟩ ⟨by decide +kernel, rfl⟩ rfl rfl (Nat.le_of_ble_eq_true rfl) rfl rfl ?_
          refine cz_Re_exponent (fun v9 hv9 => ?_)
          show Wz E Y_Re_rest 36 [(0, .long x), (2, .long y)] [.int v9] σ K
          refine z_lload_n (f := 2) (i := 2) (q := 1) (pc' := 37) ⟨by decide +kernel, rfl⟩ rfl rfl ?_
          refine z_invS (Z := Y_Re_exponent) (idx := 38) (As := [.long y]) (rest := [.int v9]) (nA := 1) (pc' := 40) ⟨k_4_140, k_1_13, k_4_142, by decide, by decide, by decide +kernel⟩ k_4_141 ⟨⟨by decide, by decide⟩, rfl, rfl⟩ ⟨by decide +kernel, rfl⟩ rfl rfl (Nat.le_of_ble_eq_true rfl) rfl rfl ?_
          refine cz_Re_exponent (fun v10 hv10 => ?_)
          show Wz E Y_Re_rest 40 [(0, .long x), (2, .long y)] [.int v10, .int v9] σ K
          refine z_isub (pc' := 41) ⟨by decide +kernel, rfl⟩ ?_
          refine z_istore (i := 4) (pc' := 43) ⟨by decide +kernel, rfl⟩ (by decide) rfl ?_
          show Wz E Y_Re_rest 43 [(4, .int (v9 - v10)), (0, .long x), (2, .long y)] [] σ K
          refine z_lload_n (f := 2) (i := 2) (q := 2) (pc' := 44) ⟨by decide +kernel, rfl⟩ rfl rfl ?_
          refine z_invS (Z := Y_Re_isEndless) (idx := 35) (As := [.long y]) (rest := []) (nA := 1) (pc' := 47) ⟨k_4_125, k_1_13, k_4_127, by decide, by decide, by decide +kernel⟩ k_4_126 ⟨⟨by decide, by decide⟩, rfl, rfl⟩ ⟨by decide +kernel, rfl⟩ rfl rfl (Nat.le_of_ble_eq_true rfl) rfl rfl ?_
          refine cz_Re_isEndless (fun v11 hv11 => ?_)
          show Wz E Y_Re_rest 47 [(4, .int (v9 - v10)), (0, .long x), (2, .long y)] [.int v11] σ K
          refine z_if_ne (off := 8) (tgt := 55) (pc' := 50) ⟨by decide +kernel, by decide, rfl⟩ (fun h12 => ?_) (fun h12 => ?_)
          · refine z_lload_n (f := 0) (i := 0) (q := 1) (pc' := 56) ⟨by decide +kernel, rfl⟩ rfl rfl ?_
            refine z_lret rfl (by decide +kernel) ?_
            have z0L : (0 : Int64).toInt = 0 := by decide
            have gh2 := p3_f hv1 h2
            have gh4 := p3_f hv3 h4
            have gh6 := p3_f hv5 h6
            have gh8 := p3_f hv7 h8
            have gh12 := p3_t hv11 h12
            exact k _ (rs_inf (by omega) (by omega))
          · refine z_iload (i := 4) (q := 0) (pc' := 52) ⟨by decide +kernel, rfl⟩ rfl ?_
            refine z_if_ge (off := 5) (tgt := 57) (pc' := 55) ⟨by decide +kernel, by decide, rfl⟩ (fun h13 => ?_) (fun h13 => ?_)
            · have z0L : (0 : Int64).toInt = 0 := by decide
              have z0 : (0 : Int32).toInt = 0 := by decide
              have gh2 := p3_f hv1 h2
              have gh4 := p3_f hv3 h4
              have gh6 := p3_f hv5 h6
              have gh8 := p3_f hv7 h8
              have gh12 := p3_f hv11 h12
              have gh13 := j_ge_t (y := 0) h13
              have x1 := ex_lo (mgF x.toInt)
              have x2 := ex_hi x
              have x3 := ex_lo (mgF y.toInt)
              have x4 := ex_hi y
              have hap : (v9 - v10).toInt = exF (mgF x.toInt) - exF (mgF y.toInt) := by rw [i32_sub (by omega)]; omega
              exact run_Re_rest_b (by omega) (by omega) (by omega) hap (by omega) (by omega) k
            · refine z_lload_n (f := 0) (i := 0) (q := 1) (pc' := 56) ⟨by decide +kernel, rfl⟩ rfl rfl ?_
              refine z_lret rfl (by decide +kernel) ?_
              have z0L : (0 : Int64).toInt = 0 := by decide
              have z0 : (0 : Int32).toInt = 0 := by decide
              have gh2 := p3_f hv1 h2
              have gh4 := p3_f hv3 h4
              have gh6 := p3_f hv5 h6
              have gh8 := p3_f hv7 h8
              have gh12 := p3_f hv11 h12
              have gh13 := j_ge_f (y := 0) h13
              have x1 := ex_lo (mgF x.toInt)
              have x2 := ex_hi x
              have x3 := ex_lo (mgF y.toInt)
              have x4 := ex_hi y
              have hap : (v9 - v10).toInt = exF (mgF x.toInt) - exF (mgF y.toInt) := by rw [i32_sub (by omega)]; omega
              exact k _ (rs_less_ (by omega) (by omega) (by omega) (by omega))
        · refine z_ldc2 (i := 17) (v := 9221120237041090560) (pc' := 31) ⟨by decide +kernel, rfl⟩ k_4_131 ?_
          refine z_lret rfl (by decide +kernel) ?_
          have z0L : (0 : Int64).toInt = 0 := by decide
          have gh2 := p3_f hv1 h2
          have gh4 := p3_f hv3 h4
          have gh6 := p3_f hv5 h6
          have gh8 := p3_t hv7 h8
          exact k _ (rs_nan (by omega))
theorem cz_Re_rest {E : xV} {σ : zS} {K : zKt} {x y : Int64} (k : ∀ v : Int64, RsR x.toInt y.toInt v.toInt → K (some (.long v)) σ) : Cz E Y_Re_rest [.long x, .long y] σ K := z_entry (by decide) (fun a => by rw [sl_len]; exact Nat.le_of_ble_eq_true rfl) rfl (run_Re_rest k)
theorem run_M_left_x {E : xV} {σ : zS} {K : zKt} {x y b r m : Int64} {i d : Int32} {n : Nat} (hx : mgF x.toInt < infF) (hy : mgF y.toInt < infF) (hy0 : mgF y.toInt ≠ 0) (hd : d.toInt = exF (mgF x.toInt) - exF (mgF y.toInt)) (h : RsI x y b r n) (hn : d.toInt = n) (k : ∀ v : Int64, RsR x.toInt y.toInt v.toInt → K (some (.long v)) σ) : Wz E Y_M_left 153 [(11, .int i), (9, .long r), (8, .int d), (6, .long b), (4, .long m), (0, .long x), (2, .long y)] [] σ K := by
  refine z_lload_n (f := 0) (i := 0) (q := 5) (pc' := 154) ⟨by decide +kernel, rfl⟩ rfl rfl ?_
  refine z_lconst (i := 0) (v := 0) (pc' := 155) ⟨by decide +kernel, rfl⟩ (by decide) ?_
  refine z_lcmp (pc' := 156) ⟨by decide +kernel, rfl⟩ ?_
  refine z_if_ge (off := 7) (tgt := 163) (pc' := 159) ⟨by decide +kernel, by decide, rfl⟩ (fun h1 => ?_) (fun h1 => ?_)
  · refine z_iconst (i := 0) (v := 0) (pc' := 164) ⟨by decide +kernel, rfl⟩ (by decide) ?_
    refine z_lload (i := 9) (q := 1) (pc' := 166) ⟨by decide +kernel, rfl⟩ rfl ?_
    refine z_lload_n (f := 2) (i := 2) (q := 6) (pc' := 167) ⟨by decide +kernel, rfl⟩ rfl rfl ?_
    refine z_invS (Z := Y_M_exponent) (idx := 387) (As := [.long y]) (rest := [.long r, .int 0]) (nA := 1) (pc' := 170) ⟨k_11_154, k_1_12, k_11_156, by decide, by decide, by decide +kernel⟩ k_11_155 ⟨⟨by decide, by decide⟩, rfl, rfl⟩ ⟨by decide +kernel, rfl⟩ rfl rfl (Nat.le_of_ble_eq_true rfl) rfl rfl ?_
    refine cz_M_exponent (fun v2 hv2 => ?_)
    show Wz E Y_M_left 170 [(11, .int i), (9, .long r), (8, .int d), (6, .long b), (4, .long m), (0, .long x), (2, .long y)] [.int v2, .long r, .int 0] σ K
    refine z_invS (Z := Y_M_pack) (idx := 357) (As := [.int 0, .long r, .int v2]) (rest := []) (nA := 3) (pc' := 173) ⟨k_11_136, k_1_12, k_11_138, by decide, by decide, by decide +kernel⟩ k_11_137 ⟨⟨by decide, by decide⟩, rfl, rfl⟩ ⟨by decide +kernel, rfl⟩ rfl rfl (Nat.le_of_ble_eq_true rfl) rfl rfl ?_
    refine cz_M_pack (he := by have := ex_lo (mgF y.toInt); have := ex_hi y; omega) (hm := by have := h.2.2.2; have := h.2.1; have := mz_lt (mgF y.toInt); omega) (ht := pa_ht (by have := h.2.2.2; have := h.2.1; have := mz_lt (mgF y.toInt); omega) hv2 (ex_fin hy)) (fun v3 hv3 => ?_)
    show Wz E Y_M_left 173 [(11, .int i), (9, .long r), (8, .int d), (6, .long b), (4, .long m), (0, .long x), (2, .long y)] [.long v3] σ K
    refine z_lret rfl (by decide +kernel) ?_
    have z0L : (0 : Int64).toInt = 0 := by decide
    have gh1 := k_ge_t h1
    exact k _ (rm_end hx hy hy0 h (by omega) hv2 (Or.inl ⟨rfl, by omega⟩) hv3)
  · refine z_iconst (i := 1) (v := 1) (pc' := 160) ⟨by decide +kernel, rfl⟩ (by decide) ?_
    refine z_goto (off := 4) (tgt := 164) (pc' := 163) ⟨by decide +kernel, by decide, rfl⟩ ?_
    refine z_lload (i := 9) (q := 1) (pc' := 166) ⟨by decide +kernel, rfl⟩ rfl ?_
    refine z_lload_n (f := 2) (i := 2) (q := 6) (pc' := 167) ⟨by decide +kernel, rfl⟩ rfl rfl ?_
    refine z_invS (Z := Y_M_exponent) (idx := 387) (As := [.long y]) (rest := [.long r, .int 1]) (nA := 1) (pc' := 170) ⟨k_11_154, k_1_12, k_11_156, by decide, by decide, by decide +kernel⟩ k_11_155 ⟨⟨by decide, by decide⟩, rfl, rfl⟩ ⟨by decide +kernel, rfl⟩ rfl rfl (Nat.le_of_ble_eq_true rfl) rfl rfl ?_
    refine cz_M_exponent (fun v4 hv4 => ?_)
    show Wz E Y_M_left 170 [(11, .int i), (9, .long r), (8, .int d), (6, .long b), (4, .long m), (0, .long x), (2, .long y)] [.int v4, .long r, .int 1] σ K
    refine z_invS (Z := Y_M_pack) (idx := 357) (As := [.int 1, .long r, .int v4]) (rest := []) (nA := 3) (pc' := 173) ⟨k_11_136, k_1_12, k_11_138, by decide, by decide, by decide +kernel⟩ k_11_137 ⟨⟨by decide, by decide⟩, rfl, rfl⟩ ⟨by decide +kernel, rfl⟩ rfl rfl (Nat.le_of_ble_eq_true rfl) rfl rfl ?_
    refine cz_M_pack (he := by have := ex_lo (mgF y.toInt); have := ex_hi y; omega) (hm := by have := h.2.2.2; have := h.2.1; have := mz_lt (mgF y.toInt); omega) (ht := pa_ht (by have := h.2.2.2; have := h.2.1; have := mz_lt (mgF y.toInt); omega) hv4 (ex_fin hy)) (fun v5 hv5 => ?_)
    show Wz E Y_M_left 173 [(11, .int i), (9, .long r), (8, .int d), (6, .long b), (4, .long m), (0, .long x), (2, .long y)] [.long v5] σ K
    refine z_lret rfl (by decide +kernel) ?_
    have z0L : (0 : Int64).toInt = 0 := by decide
    have gh1 := k_ge_f h1
    exact k _ (rm_end hx hy hy0 h (by omega) hv4 (Or.inr ⟨by decide, by omega⟩) hv5)
theorem run_M_left_l {E : xV} {σ : zS} {K : zKt} {x y b m : Int64} {d : Int32} (hx : mgF x.toInt < infF) (hy : mgF y.toInt < infF) (hy0 : mgF y.toInt ≠ 0) (hd : d.toInt = exF (mgF x.toInt) - exF (mgF y.toInt)) (hb3 : d.toInt ≤ 3000) (k : ∀ v : Int64, RsR x.toInt y.toInt v.toInt → K (some (.long v)) σ) : ∀ (j : Nat) {i : Int32} {r : Int64} {n : Nat}, d.toInt = n + j → i.toInt = n → RsI x y b r n → Wz E Y_M_left 129 [(11, .int i), (9, .long r), (8, .int d), (6, .long b), (4, .long m), (0, .long x), (2, .long y)] [] σ K
  | 0, i, r, n, hj, hi, h => by
    refine z_iload (i := 11) (q := 0) (pc' := 131) ⟨by decide +kernel, rfl⟩ rfl ?_
    refine z_iload (i := 8) (q := 2) (pc' := 133) ⟨by decide +kernel, rfl⟩ rfl ?_
    refine z_icmp_ge (off := 20) (tgt := 153) (pc' := 136) ⟨by decide +kernel, by decide, rfl⟩ (fun h1 => ?_) (fun h1 => ?_)
    · have z0L : (0 : Int64).toInt = 0 := by decide
      have gh1 := j_ge_t h1
      exact run_M_left_x hx hy hy0 hd h (by omega) k
    · have z0L : (0 : Int64).toInt = 0 := by decide
      have gh1 := j_ge_f h1
      exfalso
      omega
  | j + 1, i, r, n, hj, hi, h => by
    have ih := @run_M_left_l E σ K x y b m d hx hy hy0 hd hb3 k j
    refine z_iload (i := 11) (q := 0) (pc' := 131) ⟨by decide +kernel, rfl⟩ rfl ?_
    refine z_iload (i := 8) (q := 2) (pc' := 133) ⟨by decide +kernel, rfl⟩ rfl ?_
    refine z_icmp_ge (off := 20) (tgt := 153) (pc' := 136) ⟨by decide +kernel, by decide, rfl⟩ (fun h1 => ?_) (fun h1 => ?_)
    · have z0L : (0 : Int64).toInt = 0 := by decide
      have gh1 := j_ge_t h1
      exfalso
      omega
    · refine z_lload (i := 9) (q := 1) (pc' := 138) ⟨by decide +kernel, rfl⟩ rfl ?_
      refine z_ldc2 (i := 390) (v := 2) (pc' := 141) ⟨by decide +kernel, rfl⟩ k_12_61 ?_
      refine z_lmul (pc' := 142) ⟨by decide +kernel, rfl⟩ ?_
      refine z_lload (i := 6) (q := 3) (pc' := 144) ⟨by decide +kernel, rfl⟩ rfl ?_
      refine z_lrem (pc' := 145) ⟨by decide +kernel, rfl⟩ ((fun q => by have q1 := h.2.2.1; rw [q] at q1; exact absurd q1 (by decide))) ?_
      refine z_lstore (i := 9) (pc' := 147) ⟨by decide +kernel, rfl⟩ (by decide) rfl ?_
      show Wz E Y_M_left 147 [(9, .long ((r * 2) - (r * 2) / b * b)), (11, .int i), (8, .int d), (6, .long b), (4, .long m), (0, .long x), (2, .long y)] [] σ K
      refine z_iinc (i := 11) (z := 1) (q := 1) (pc' := 150) ⟨by decide +kernel, rfl⟩ rfl rfl (by decide) rfl ?_
      show Wz E Y_M_left 150 [(11, .int (i + Int32.ofInt 1)), (9, .long ((r * 2) - (r * 2) / b * b)), (8, .int d), (6, .long b), (4, .long m), (0, .long x), (2, .long y)] [] σ K
      refine z_goto (off := (-21)) (tgt := 129) (pc' := 153) ⟨by decide +kernel, by decide, rfl⟩ ?_
      have z0L : (0 : Int64).toInt = 0 := by decide
      have gh1 := j_ge_f h1
      have e1 : (Int32.ofInt 1).toInt = 1 := by decide
      exact ih (n := n + 1) (by omega) (by rw [i32_add (by rw [e1]; omega), e1]; omega) (rsi_m h)
theorem run_M_left_b {E : xV} {σ : zS} {K : zKt} {x y n m : Int64} {d : Int32} (hx : mgF x.toInt < infF) (hy : mgF y.toInt < infF) (hy0 : mgF y.toInt ≠ 0) (hm : uF m = mzF (mgF x.toInt)) (hn : uF n = mzF (mgF y.toInt)) (hd : d.toInt = exF (mgF x.toInt) - exF (mgF y.toInt)) (hb3 : d.toInt ≤ 3000) (k : ∀ v : Int64, RsR x.toInt y.toInt v.toInt → K (some (.long v)) σ) : Wz E Y_M_left 71 [(8, .int d), (6, .long n), (4, .long m), (0, .long x), (2, .long y)] [] σ K := by
  refine z_iload (i := 8) (q := 0) (pc' := 73) ⟨by decide +kernel, rfl⟩ rfl ?_
  refine z_if_ge (off := 46) (tgt := 119) (pc' := 76) ⟨by decide +kernel, by decide, rfl⟩ (fun h1 => ?_) (fun h1 => ?_)
  · refine z_lload (i := 4) (q := 2) (pc' := 121) ⟨by decide +kernel, rfl⟩ rfl ?_
    refine z_lload (i := 6) (q := 1) (pc' := 123) ⟨by decide +kernel, rfl⟩ rfl ?_
    refine z_lrem (pc' := 124) ⟨by decide +kernel, rfl⟩ (om_nz hn hy0) ?_
    refine z_lstore (i := 9) (pc' := 126) ⟨by decide +kernel, rfl⟩ (by decide) rfl ?_
    show Wz E Y_M_left 126 [(9, .long (m - m / n * n)), (8, .int d), (6, .long n), (4, .long m), (0, .long x), (2, .long y)] [] σ K
    refine z_iconst (i := 0) (v := 0) (pc' := 127) ⟨by decide +kernel, rfl⟩ (by decide) ?_
    refine z_istore (i := 11) (pc' := 129) ⟨by decide +kernel, rfl⟩ (by decide) rfl ?_
    show Wz E Y_M_left 129 [(11, .int 0), (9, .long (m - m / n * n)), (8, .int d), (6, .long n), (4, .long m), (0, .long x), (2, .long y)] [] σ K
    have z0L : (0 : Int64).toInt = 0 := by decide
    have z0 : (0 : Int32).toInt = 0 := by decide
    have gh1 := j_ge_t (y := 0) h1
    exact run_M_left_l hx hy hy0 hd hb3 k d.toInt.toNat (n := 0) (by omega) (by decide) (rsi_0 hy0 hn hm)
  · refine z_lload (i := 6) (q := 1) (pc' := 78) ⟨by decide +kernel, rfl⟩ rfl ?_
    refine z_invS (Z := Y_M_length) (idx := 353) (As := [.long n]) (rest := []) (nA := 1) (pc' := 81) ⟨k_11_126, k_1_12, k_11_128, by decide, by decide, by decide +kernel⟩ k_11_127 ⟨⟨by decide, by decide⟩, rfl, rfl⟩ ⟨by decide +kernel, rfl⟩ rfl rfl (Nat.le_of_ble_eq_true rfl) rfl rfl ?_
    refine cz_M_length (fun v2 hv2 => ?_)
    show Wz E Y_M_left 81 [(8, .int d), (6, .long n), (4, .long m), (0, .long x), (2, .long y)] [.int v2] σ K
    refine z_iload (i := 8) (q := 0) (pc' := 83) ⟨by decide +kernel, rfl⟩ rfl ?_
    refine z_isub (pc' := 84) ⟨by decide +kernel, rfl⟩ ?_
    refine z_bipush (i := 62) (v := 62) (pc' := 86) ⟨by decide +kernel, rfl⟩ (by decide) ?_
    refine z_icmp_le (off := 5) (tgt := 91) (pc' := 89) ⟨by decide +kernel, by decide, rfl⟩ (fun h3 => ?_) (fun h3 => ?_)
    · refine z_lload_n (f := 0) (i := 0) (q := 3) (pc' := 92) ⟨by decide +kernel, rfl⟩ rfl rfl ?_
      refine z_lconst (i := 0) (v := 0) (pc' := 93) ⟨by decide +kernel, rfl⟩ (by decide) ?_
      refine z_lcmp (pc' := 94) ⟨by decide +kernel, rfl⟩ ?_
      refine z_if_ge (off := 7) (tgt := 101) (pc' := 97) ⟨by decide +kernel, by decide, rfl⟩ (fun h4 => ?_) (fun h4 => ?_)
      · refine z_iconst (i := 0) (v := 0) (pc' := 102) ⟨by decide +kernel, rfl⟩ (by decide) ?_
        refine z_lload (i := 4) (q := 2) (pc' := 104) ⟨by decide +kernel, rfl⟩ rfl ?_
        refine z_lload (i := 6) (q := 1) (pc' := 106) ⟨by decide +kernel, rfl⟩ rfl ?_
        refine z_iload (i := 8) (q := 0) (pc' := 108) ⟨by decide +kernel, rfl⟩ rfl ?_
        refine z_ineg (pc' := 109) ⟨by decide +kernel, rfl⟩ ?_
        refine z_lshl (pc' := 110) ⟨by decide +kernel, rfl⟩ rfl ?_
        refine z_lrem (pc' := 111) ⟨by decide +kernel, rfl⟩ (rm_nz hy0 hn hv2 hd (by have q := j_ge_f (y := 0) h1; have z0 : (0 : Int32).toInt = 0 := (by decide); omega) (by have q := j_le_t h3; have z62 : (62 : Int32).toInt = 62 := (by decide); omega)) ?_
        refine z_lload_n (f := 0) (i := 0) (q := 3) (pc' := 112) ⟨by decide +kernel, rfl⟩ rfl rfl ?_
        refine z_invS (Z := Y_M_exponent) (idx := 387) (As := [.long x]) (rest := [.long (m - m / (n <<< (Int32.toInt64 (-d) &&& 63)) * (n <<< (Int32.toInt64 (-d) &&& 63))), .int 0]) (nA := 1) (pc' := 115) ⟨k_11_154, k_1_12, k_11_156, by decide, by decide, by decide +kernel⟩ k_11_155 ⟨⟨by decide, by decide⟩, rfl, rfl⟩ ⟨by decide +kernel, rfl⟩ rfl rfl (Nat.le_of_ble_eq_true rfl) rfl rfl ?_
        refine cz_M_exponent (fun v5 hv5 => ?_)
        show Wz E Y_M_left 115 [(8, .int d), (6, .long n), (4, .long m), (0, .long x), (2, .long y)] [.int v5, .long (m - m / (n <<< (Int32.toInt64 (-d) &&& 63)) * (n <<< (Int32.toInt64 (-d) &&& 63))), .int 0] σ K
        refine z_invS (Z := Y_M_pack) (idx := 357) (As := [.int 0, .long (m - m / (n <<< (Int32.toInt64 (-d) &&& 63)) * (n <<< (Int32.toInt64 (-d) &&& 63))), .int v5]) (rest := []) (nA := 3) (pc' := 118) ⟨k_11_136, k_1_12, k_11_138, by decide, by decide, by decide +kernel⟩ k_11_137 ⟨⟨by decide, by decide⟩, rfl, rfl⟩ ⟨by decide +kernel, rfl⟩ rfl rfl (Nat.le_of_ble_eq_true rfl) rfl rfl ?_
        refine cz_M_pack (he := by have := ex_lo (mgF x.toInt); have := ex_hi x; omega) (hm := Nat.le_of_lt (rm_lt (x := x) hy0 hm hn hv2 hd (by have q := j_ge_f (y := 0) h1; have z0 : (0 : Int32).toInt = 0 := (by decide); omega) (by have q := j_le_t h3; have z62 : (62 : Int32).toInt = 62 := (by decide); omega))) (ht := pa_ht (rm_lt (x := x) hy0 hm hn hv2 hd (by have q := j_ge_f (y := 0) h1; have z0 : (0 : Int32).toInt = 0 := (by decide); omega) (by have q := j_le_t h3; have z62 : (62 : Int32).toInt = 62 := (by decide); omega)) hv5 (ex_fin hx)) (fun v6 hv6 => ?_)
        show Wz E Y_M_left 118 [(8, .int d), (6, .long n), (4, .long m), (0, .long x), (2, .long y)] [.long v6] σ K
        refine z_lret rfl (by decide +kernel) ?_
        have z0L : (0 : Int64).toInt = 0 := by decide
        have z0 : (0 : Int32).toInt = 0 := by decide
        have z62 : (62 : Int32).toInt = 62 := by decide
        have gh1 := j_ge_f (y := 0) h1
        have gh3 := j_le_t h3
        have gh4 := k_ge_t h4
        exact k _ (rm_less hx hy hy0 hm hn hv2 hd (by omega) (by omega) hv5 (Or.inl ⟨rfl, by omega⟩) hv6)
      · refine z_iconst (i := 1) (v := 1) (pc' := 98) ⟨by decide +kernel, rfl⟩ (by decide) ?_
        refine z_goto (off := 4) (tgt := 102) (pc' := 101) ⟨by decide +kernel, by decide, rfl⟩ ?_
        refine z_lload (i := 4) (q := 2) (pc' := 104) ⟨by decide +kernel, rfl⟩ rfl ?_
        refine z_lload (i := 6) (q := 1) (pc' := 106) ⟨by decide +kernel, rfl⟩ rfl ?_
        refine z_iload (i := 8) (q := 0) (pc' := 108) ⟨by decide +kernel, rfl⟩ rfl ?_
        refine z_ineg (pc' := 109) ⟨by decide +kernel, rfl⟩ ?_
        refine z_lshl (pc' := 110) ⟨by decide +kernel, rfl⟩ rfl ?_
        refine z_lrem (pc' := 111) ⟨by decide +kernel, rfl⟩ (rm_nz hy0 hn hv2 hd (by have q := j_ge_f (y := 0) h1; have z0 : (0 : Int32).toInt = 0 := (by decide); omega) (by have q := j_le_t h3; have z62 : (62 : Int32).toInt = 62 := (by decide); omega)) ?_
        refine z_lload_n (f := 0) (i := 0) (q := 3) (pc' := 112) ⟨by decide +kernel, rfl⟩ rfl rfl ?_
        refine z_invS (Z := Y_M_exponent) (idx := 387) (As := [.long x]) (rest := [.long (m - m / (n <<< (Int32.toInt64 (-d) &&& 63)) * (n <<< (Int32.toInt64 (-d) &&& 63))), .int 1]) (nA := 1) (pc' := 115) ⟨k_11_154, k_1_12, k_11_156, by decide, by decide, by decide +kernel⟩ k_11_155 ⟨⟨by decide, by decide⟩, rfl, rfl⟩ ⟨by decide +kernel, rfl⟩ rfl rfl (Nat.le_of_ble_eq_true rfl) rfl rfl ?_
        refine cz_M_exponent (fun v7 hv7 => ?_)
        show Wz E Y_M_left 115 [(8, .int d), (6, .long n), (4, .long m), (0, .long x), (2, .long y)] [.int v7, .long (m - m / (n <<< (Int32.toInt64 (-d) &&& 63)) * (n <<< (Int32.toInt64 (-d) &&& 63))), .int 1] σ K
        refine z_invS (Z := Y_M_pack) (idx := 357) (As := [.int 1, .long (m - m / (n <<< (Int32.toInt64 (-d) &&& 63)) * (n <<< (Int32.toInt64 (-d) &&& 63))), .int v7]) (rest := []) (nA := 3) (pc' := 118) ⟨k_11_136, k_1_12, k_11_138, by decide, by decide, by decide +kernel⟩ k_11_137 ⟨⟨by decide, by decide⟩, rfl, rfl⟩ ⟨by decide +kernel, rfl⟩ rfl rfl (Nat.le_of_ble_eq_true rfl) rfl rfl ?_
        refine cz_M_pack (he := by have := ex_lo (mgF x.toInt); have := ex_hi x; omega) (hm := Nat.le_of_lt (rm_lt (x := x) hy0 hm hn hv2 hd (by have q := j_ge_f (y := 0) h1; have z0 : (0 : Int32).toInt = 0 := (by decide); omega) (by have q := j_le_t h3; have z62 : (62 : Int32).toInt = 62 := (by decide); omega))) (ht := pa_ht (rm_lt (x := x) hy0 hm hn hv2 hd (by have q := j_ge_f (y := 0) h1; have z0 : (0 : Int32).toInt = 0 := (by decide); omega) (by have q := j_le_t h3; have z62 : (62 : Int32).toInt = 62 := (by decide); omega)) hv7 (ex_fin hx)) (fun v8 hv8 => ?_)
        show Wz E Y_M_left 118 [(8, .int d), (6, .long n), (4, .long m), (0, .long x), (2, .long y)] [.long v8] σ K
        refine z_lret rfl (by decide +kernel) ?_
        have z0L : (0 : Int64).toInt = 0 := by decide
        have z0 : (0 : Int32).toInt = 0 := by decide
        have z62 : (62 : Int32).toInt = 62 := by decide
        have gh1 := j_ge_f (y := 0) h1
        have gh3 := j_le_t h3
        have gh4 := k_ge_f h4
        exact k _ (rm_less hx hy hy0 hm hn hv2 hd (by omega) (by omega) hv7 (Or.inr ⟨by decide, by omega⟩) hv8)
    · refine z_lload_n (f := 0) (i := 0) (q := 3) (pc' := 90) ⟨by decide +kernel, rfl⟩ rfl rfl ?_
      refine z_lret rfl (by decide +kernel) ?_
      have z0L : (0 : Int64).toInt = 0 := by decide
      have z0 : (0 : Int32).toInt = 0 := by decide
      have z62 : (62 : Int32).toInt = 62 := by decide
      have gh1 := j_ge_f (y := 0) h1
      have gh3 := j_le_f h3
      exact k _ (rm_far hx hy hy0 hn hv2 hd (by omega) (by omega))
theorem run_M_left {E : xV} {σ : zS} {K : zKt} {x y : Int64} (k : ∀ v : Int64, RsR x.toInt y.toInt v.toInt → K (some (.long v)) σ) : Wz E Y_M_left 0 [(0, .long x), (2, .long y)] [] σ K := by
  refine z_lload_n (f := 0) (i := 0) (q := 0) (pc' := 1) ⟨by decide +kernel, rfl⟩ rfl rfl ?_
  refine z_invS (Z := Y_M_isNan) (idx := 367) (As := [.long x]) (rest := []) (nA := 1) (pc' := 4) ⟨k_11_23, k_1_12, k_11_25, by decide, by decide, by decide +kernel⟩ k_11_24 ⟨⟨by decide, by decide⟩, rfl, rfl⟩ ⟨by decide +kernel, rfl⟩ rfl rfl (Nat.le_of_ble_eq_true rfl) rfl rfl ?_
  refine cz_M_isNan (fun v1 hv1 => ?_)
  show Wz E Y_M_left 4 [(0, .long x), (2, .long y)] [.int v1] σ K
  refine z_if_ne (off := 24) (tgt := 28) (pc' := 7) ⟨by decide +kernel, by decide, rfl⟩ (fun h2 => ?_) (fun h2 => ?_)
  · refine z_ldc2 (i := 377) (v := 9221120237041090560) (pc' := 31) ⟨by decide +kernel, rfl⟩ k_11_28 ?_
    refine z_lret rfl (by decide +kernel) ?_
    have z0L : (0 : Int64).toInt = 0 := by decide
    have gh2 := p3_t hv1 h2
    exact k _ (rs_nan (by omega))
  · refine z_lload_n (f := 2) (i := 2) (q := 1) (pc' := 8) ⟨by decide +kernel, rfl⟩ rfl rfl ?_
    refine z_invS (Z := Y_M_isNan) (idx := 367) (As := [.long y]) (rest := []) (nA := 1) (pc' := 11) ⟨k_11_23, k_1_12, k_11_25, by decide, by decide, by decide +kernel⟩ k_11_24 ⟨⟨by decide, by decide⟩, rfl, rfl⟩ ⟨by decide +kernel, rfl⟩ rfl rfl (Nat.le_of_ble_eq_true rfl) rfl rfl ?_
    refine cz_M_isNan (fun v3 hv3 => ?_)
    show Wz E Y_M_left 11 [(0, .long x), (2, .long y)] [.int v3] σ K
    refine z_if_ne (off := 17) (tgt := 28) (pc' := 14) ⟨by decide +kernel, by decide, rfl⟩ (fun h4 => ?_) (fun h4 => ?_)
    · refine z_ldc2 (i := 377) (v := 9221120237041090560) (pc' := 31) ⟨by decide +kernel, rfl⟩ k_11_28 ?_
      refine z_lret rfl (by decide +kernel) ?_
      have z0L : (0 : Int64).toInt = 0 := by decide
      have gh2 := p3_f hv1 h2
      have gh4 := p3_t hv3 h4
      exact k _ (rs_nan (by omega))
    · refine z_lload_n (f := 0) (i := 0) (q := 0) (pc' := 15) ⟨by decide +kernel, rfl⟩ rfl rfl ?_
      refine z_invS (Z := Y_M_isInfinite) (idx := 371) (As := [.long x]) (rest := []) (nA := 1) (pc' := 18) ⟨k_11_143, k_1_12, k_11_145, by decide, by decide, by decide +kernel⟩ k_11_144 ⟨⟨by decide, by decide⟩, rfl, rfl⟩ ⟨by decide +kernel, rfl⟩ rfl rfl (Nat.le_of_ble_eq_true rfl) rfl rfl ?_
      refine cz_M_isInfinite (fun v5 hv5 => ?_)
      show Wz E Y_M_left 18 [(0, .long x), (2, .long y)] [.int v5] σ K
      refine z_if_ne (off := 10) (tgt := 28) (pc' := 21) ⟨by decide +kernel, by decide, rfl⟩ (fun h6 => ?_) (fun h6 => ?_)
      · refine z_ldc2 (i := 377) (v := 9221120237041090560) (pc' := 31) ⟨by decide +kernel, rfl⟩ k_11_28 ?_
        refine z_lret rfl (by decide +kernel) ?_
        have z0L : (0 : Int64).toInt = 0 := by decide
        have gh2 := p3_f hv1 h2
        have gh4 := p3_f hv3 h4
        have gh6 := p3_t hv5 h6
        exact k _ (rs_nan (by omega))
      · refine z_lload_n (f := 2) (i := 2) (q := 1) (pc' := 22) ⟨by decide +kernel, rfl⟩ rfl rfl ?_
        refine z_invS (Z := Y_M_isZero) (idx := 374) (As := [.long y]) (rest := []) (nA := 1) (pc' := 25) ⟨k_11_146, k_1_12, k_11_148, by decide, by decide, by decide +kernel⟩ k_11_147 ⟨⟨by decide, by decide⟩, rfl, rfl⟩ ⟨by decide +kernel, rfl⟩ rfl rfl (Nat.le_of_ble_eq_true rfl) rfl rfl ?_
        refine cz_M_isZero (fun v7 hv7 => ?_)
        show Wz E Y_M_left 25 [(0, .long x), (2, .long y)] [.int v7] σ K
        refine z_if_eq (off := 7) (tgt := 32) (pc' := 28) ⟨by decide +kernel, by decide, rfl⟩ (fun h8 => ?_) (fun h8 => ?_)
        · refine z_lload_n (f := 2) (i := 2) (q := 1) (pc' := 33) ⟨by decide +kernel, rfl⟩ rfl rfl ?_
          refine z_invS (Z := Y_M_isInfinite) (idx := 371) (As := [.long y]) (rest := []) (nA := 1) (pc' := 36) ⟨k_11_143, k_1_12, k_11_145, by decide, by decide, by decide +kernel⟩ k_11_144 ⟨⟨by decide, by decide⟩, rfl, rfl⟩ ⟨by decide +kernel, rfl⟩ rfl rfl (Nat.le_of_ble_eq_true rfl) rfl rfl ?_
          refine cz_M_isInfinite (fun v9 hv9 => ?_)
          show Wz E Y_M_left 36 [(0, .long x), (2, .long y)] [.int v9] σ K
          refine z_if_ne (off := 10) (tgt := 46) (pc' := 39) ⟨by decide +kernel, by decide, rfl⟩ (fun h10 => ?_) (fun h10 => ?_)
          · refine z_lload_n (f := 0) (i := 0) (q := 0) (pc' := 47) ⟨by decide +kernel, rfl⟩ rfl rfl ?_
            refine z_lret rfl (by decide +kernel) ?_
            have z0L : (0 : Int64).toInt = 0 := by decide
            have gh2 := p3_f hv1 h2
            have gh4 := p3_f hv3 h4
            have gh6 := p3_f hv5 h6
            have gh8 := p3_f hv7 h8
            have gh10 := p3_t hv9 h10
            exact k _ (rs_inf (by omega) (by omega))
          · refine z_lload_n (f := 0) (i := 0) (q := 0) (pc' := 40) ⟨by decide +kernel, rfl⟩ rfl rfl ?_
            refine z_invS (Z := Y_M_isZero) (idx := 374) (As := [.long x]) (rest := []) (nA := 1) (pc' := 43) ⟨k_11_146, k_1_12, k_11_148, by decide, by decide, by decide +kernel⟩ k_11_147 ⟨⟨by decide, by decide⟩, rfl, rfl⟩ ⟨by decide +kernel, rfl⟩ rfl rfl (Nat.le_of_ble_eq_true rfl) rfl rfl ?_
            refine cz_M_isZero (fun v11 hv11 => ?_)
            show Wz E Y_M_left 43 [(0, .long x), (2, .long y)] [.int v11] σ K
            refine z_if_eq (off := 5) (tgt := 48) (pc' := 46) ⟨by decide +kernel, by decide, rfl⟩ (fun h12 => ?_) (fun h12 => ?_)
            · refine z_lload_n (f := 0) (i := 0) (q := 0) (pc' := 49) ⟨by decide +kernel, rfl⟩ rfl rfl ?_
              refine z_invS (Z := Y_M_mantissa) (idx := 381) (As := [.long x]) (rest := []) (nA := 1) (pc' := 52) ⟨k_11_149, k_1_12, k_11_151, by decide, by decide, by decide +kernel⟩ k_11_150 ⟨⟨by decide, by decide⟩, rfl, rfl⟩ ⟨by decide +kernel, rfl⟩ rfl rfl (Nat.le_of_ble_eq_true rfl) rfl rfl ?_
              refine cz_M_mantissa (fun v13 hv13 => ?_)
              show Wz E Y_M_left 52 [(0, .long x), (2, .long y)] [.long v13] σ K
              refine z_lstore (i := 4) (pc' := 54) ⟨by decide +kernel, rfl⟩ (by decide) rfl ?_
              show Wz E Y_M_left 54 [(4, .long v13), (0, .long x), (2, .long y)] [] σ K
              refine z_lload_n (f := 2) (i := 2) (q := 2) (pc' := 55) ⟨by decide +kernel, rfl⟩ rfl rfl ?_
              refine z_invS (Z := Y_M_mantissa) (idx := 381) (As := [.long y]) (rest := []) (nA := 1) (pc' := 58) ⟨k_11_149, k_1_12, k_11_151, by decide, by decide, by decide +kernel⟩ k_11_150 ⟨⟨by decide, by decide⟩, rfl, rfl⟩ ⟨by decide +kernel, rfl⟩ rfl rfl (Nat.le_of_ble_eq_true rfl) rfl rfl ?_
              refine cz_M_mantissa (fun v14 hv14 => ?_)
              show Wz E Y_M_left 58 [(4, .long v13), (0, .long x), (2, .long y)] [.long v14] σ K
              refine z_lstore (i := 6) (pc' := 60) ⟨by decide +kernel, rfl⟩ (by decide) rfl ?_
              show Wz E Y_M_left 60 [(6, .long v14), (4, .long v13), (0, .long x), (2, .long y)] [] σ K
              refine z_lload_n (f := 0) (i := 0) (q := 2) (pc' := 61) ⟨by decide +kernel, rfl⟩ rfl rfl ?_
              refine z_invS (Z := Y_M_exponent) (idx := 387) (As := [.long x]) (rest := []) (nA := 1) (pc' := 64) ⟨k_11_154, k_1_12, k_11_156, by decide, by decide, by decide +kernel⟩ k_11_155 ⟨⟨by decide, by decide⟩, rfl, rfl⟩ ⟨by decide +kernel, rfl⟩ rfl rfl (Nat.le_of_ble_eq_true rfl) rfl rfl ?_
              refine cz_M_exponent (fun v15 hv15 => ?_)
              show Wz E Y_M_left 64 [(6, .long v14), (4, .long v13), (0, .long x), (2, .long y)] [.int v15] σ K
              refine z_lload_n (f := 2) (i := 2) (q := 3) (pc' := 65) ⟨by decide +kernel, rfl⟩ rfl rfl ?_
              refine z_invS (Z := Y_M_exponent) (idx := 387) (As := [.long y]) (rest := [.int v15]) (nA := 1) (pc' := 68) ⟨k_11_154, k_1_12, k_11_156, by decide, by decide, by decide +kernel⟩ k_11_155 ⟨⟨by decide, by decide⟩, rfl, rfl⟩ ⟨by decide +kernel, rfl⟩ rfl rfl (Nat.le_of_ble_eq_true rfl) rfl rfl ?_
              refine cz_M_exponent (fun v16 hv16 => ?_)
              show Wz E Y_M_left 68 [(6, .long v14), (4, .long v13), (0, .long x), (2, .long y)] [.int v16, .int v15] σ K
              refine z_isub (pc' := 69) ⟨by decide +kernel, rfl⟩ ?_
              refine z_istore (i := 8) (pc' := 71) ⟨by decide +kernel, rfl⟩ (by decide) rfl ?_
              show Wz E Y_M_left 71 [(8, .int (v15 - v16)), (6, .long v14), (4, .long v13), (0, .long x), (2, .long y)] [] σ K
              have z0L : (0 : Int64).toInt = 0 := by decide
              have gh2 := p3_f hv1 h2
              have gh4 := p3_f hv3 h4
              have gh6 := p3_f hv5 h6
              have gh8 := p3_f hv7 h8
              have gh10 := p3_f hv9 h10
              have gh12 := p3_f hv11 h12
              have x1 := ex_lo (mgF x.toInt)
              have x2 := ex_hi x
              have x3 := ex_lo (mgF y.toInt)
              have x4 := ex_hi y
              have hap : (v15 - v16).toInt = exF (mgF x.toInt) - exF (mgF y.toInt) := by rw [i32_sub (by omega)]; omega
              exact run_M_left_b (by omega) (by omega) (by omega) hv13 hv14 hap (by omega) k
            · refine z_lload_n (f := 0) (i := 0) (q := 0) (pc' := 47) ⟨by decide +kernel, rfl⟩ rfl rfl ?_
              refine z_lret rfl (by decide +kernel) ?_
              have z0L : (0 : Int64).toInt = 0 := by decide
              have gh2 := p3_f hv1 h2
              have gh4 := p3_f hv3 h4
              have gh6 := p3_f hv5 h6
              have gh8 := p3_f hv7 h8
              have gh10 := p3_f hv9 h10
              have gh12 := p3_t hv11 h12
              exact k _ (rm_zero (by omega) (by omega) (by omega) (by omega))
        · refine z_ldc2 (i := 377) (v := 9221120237041090560) (pc' := 31) ⟨by decide +kernel, rfl⟩ k_11_28 ?_
          refine z_lret rfl (by decide +kernel) ?_
          have z0L : (0 : Int64).toInt = 0 := by decide
          have gh2 := p3_f hv1 h2
          have gh4 := p3_f hv3 h4
          have gh6 := p3_f hv5 h6
          have gh8 := p3_t hv7 h8
          exact k _ (rs_nan (by omega))
theorem cz_M_left {E : xV} {σ : zS} {K : zKt} {x y : Int64} (k : ∀ v : Int64, RsR x.toInt y.toInt v.toInt → K (some (.long v)) σ) : Cz E Y_M_left [.long x, .long y] σ K := z_entry (by decide) (fun a => by rw [sl_len]; exact Nat.le_of_ble_eq_true rfl) rfl (run_M_left k)
theorem run_JG_compare {E : xV} {σ : zS} {K : zKt} {x y : Int64} (k : ∀ v : Int32, v.toInt = cmpF x.toInt y.toInt → K (some (.int v)) σ) : Wz E Y_JG_compare 0 [(0, .long x), (2, .long y)] [] σ K := by
  refine z_lload_n (f := 0) (i := 0) (q := 0) (pc' := 1) ⟨by decide +kernel, rfl⟩ rfl rfl ?_
  refine z_lload_n (f := 2) (i := 2) (q := 1) (pc' := 2) ⟨by decide +kernel, rfl⟩ rfl rfl ?_
  refine z_lcmp (pc' := 3) ⟨by decide +kernel, rfl⟩ ?_
  refine z_if_ge (off := 7) (tgt := 10) (pc' := 6) ⟨by decide +kernel, by decide, rfl⟩ (fun h1 => ?_) (fun h1 => ?_)
  · refine z_lload_n (f := 0) (i := 0) (q := 0) (pc' := 11) ⟨by decide +kernel, rfl⟩ rfl rfl ?_
    refine z_lload_n (f := 2) (i := 2) (q := 1) (pc' := 12) ⟨by decide +kernel, rfl⟩ rfl rfl ?_
    refine z_lcmp (pc' := 13) ⟨by decide +kernel, rfl⟩ ?_
    refine z_if_ne (off := 7) (tgt := 20) (pc' := 16) ⟨by decide +kernel, by decide, rfl⟩ (fun h2 => ?_) (fun h2 => ?_)
    · refine z_iconst (i := 1) (v := 1) (pc' := 21) ⟨by decide +kernel, rfl⟩ (by decide) ?_
      refine z_iret (ty := .int) rfl rfl (by decide +kernel) ?_
      have z0L : (0 : Int64).toInt = 0 := by decide
      have gh1 := k_ge_t h1
      have gh2 := k_ne_t h2
      exact k _ (cmp_gt (by omega))
    · refine z_iconst (i := 0) (v := 0) (pc' := 17) ⟨by decide +kernel, rfl⟩ (by decide) ?_
      refine z_goto (off := 4) (tgt := 21) (pc' := 20) ⟨by decide +kernel, by decide, rfl⟩ ?_
      refine z_iret (ty := .int) rfl rfl (by decide +kernel) ?_
      have z0L : (0 : Int64).toInt = 0 := by decide
      have gh1 := k_ge_t h1
      have gh2 := k_ne_f h2
      exact k _ (cmp_eq (by omega))
  · refine z_iconst (i := (-1)) (v := (-1)) (pc' := 7) ⟨by decide +kernel, rfl⟩ (by decide) ?_
    refine z_goto (off := 14) (tgt := 21) (pc' := 10) ⟨by decide +kernel, by decide, rfl⟩ ?_
    refine z_iret (ty := .int) rfl rfl (by decide +kernel) ?_
    have z0L : (0 : Int64).toInt = 0 := by decide
    have gh1 := k_ge_f h1
    exact k _ (cmp_lt (by omega))
theorem cz_JG_compare {E : xV} {σ : zS} {K : zKt} {x y : Int64} (k : ∀ v : Int32, v.toInt = cmpF x.toInt y.toInt → K (some (.int v)) σ) : Cz E Y_JG_compare [.long x, .long y] σ K := z_entry (by decide) (fun a => by rw [sl_len]; exact Nat.le_of_ble_eq_true rfl) rfl (run_JG_compare k)
theorem run_Re_order {E : xV} {σ : zS} {K : zKt} {x y : Int64} (k : ∀ v : Int32, OrR x.toInt y.toInt v.toInt → K (some (.int v)) σ) : Wz E Y_Re_order 0 [(0, .long x), (2, .long y)] [] σ K := by
  refine z_lload_n (f := 0) (i := 0) (q := 0) (pc' := 1) ⟨by decide +kernel, rfl⟩ rfl rfl ?_
  refine z_invS (Z := Y_Re_isNoNumber) (idx := 13) (As := [.long x]) (rest := []) (nA := 1) (pc' := 4) ⟨k_4_124, k_1_13, k_3_235, by decide, by decide, by decide +kernel⟩ k_3_234 ⟨⟨by decide, by decide⟩, rfl, rfl⟩ ⟨by decide +kernel, rfl⟩ rfl rfl (Nat.le_of_ble_eq_true rfl) rfl rfl ?_
  refine cz_Re_isNoNumber (fun v1 hv1 => ?_)
  show Wz E Y_Re_order 4 [(0, .long x), (2, .long y)] [.int v1] σ K
  refine z_if_ne (off := 10) (tgt := 14) (pc' := 7) ⟨by decide +kernel, by decide, rfl⟩ (fun h2 => ?_) (fun h2 => ?_)
  · refine z_iconst (i := 2) (v := 2) (pc' := 15) ⟨by decide +kernel, rfl⟩ (by decide) ?_
    refine z_iret (ty := .int) rfl rfl (by decide +kernel) ?_
    have z0L : (0 : Int64).toInt = 0 := by decide
    have gh2 := p3_t hv1 h2
    exact k _ (or_nan (by omega))
  · refine z_lload_n (f := 2) (i := 2) (q := 1) (pc' := 8) ⟨by decide +kernel, rfl⟩ rfl rfl ?_
    refine z_invS (Z := Y_Re_isNoNumber) (idx := 13) (As := [.long y]) (rest := []) (nA := 1) (pc' := 11) ⟨k_4_124, k_1_13, k_3_235, by decide, by decide, by decide +kernel⟩ k_3_234 ⟨⟨by decide, by decide⟩, rfl, rfl⟩ ⟨by decide +kernel, rfl⟩ rfl rfl (Nat.le_of_ble_eq_true rfl) rfl rfl ?_
    refine cz_Re_isNoNumber (fun v3 hv3 => ?_)
    show Wz E Y_Re_order 11 [(0, .long x), (2, .long y)] [.int v3] σ K
    refine z_if_eq (off := 5) (tgt := 16) (pc' := 14) ⟨by decide +kernel, by decide, rfl⟩ (fun h4 => ?_) (fun h4 => ?_)
    · refine z_lload_n (f := 0) (i := 0) (q := 0) (pc' := 17) ⟨by decide +kernel, rfl⟩ rfl rfl ?_
      refine z_lconst (i := 0) (v := 0) (pc' := 18) ⟨by decide +kernel, rfl⟩ (by decide) ?_
      refine z_lcmp (pc' := 19) ⟨by decide +kernel, rfl⟩ ?_
      refine z_if_ge (off := 11) (tgt := 30) (pc' := 22) ⟨by decide +kernel, by decide, rfl⟩ (fun h5 => ?_) (fun h5 => ?_)
      · refine z_lload_n (f := 0) (i := 0) (q := 0) (pc' := 31) ⟨by decide +kernel, rfl⟩ rfl rfl ?_
        refine z_lstore (i := 4) (pc' := 33) ⟨by decide +kernel, rfl⟩ (by decide) rfl ?_
        show Wz E Y_Re_order 33 [(4, .long x), (0, .long x), (2, .long y)] [] σ K
        refine z_lload_n (f := 2) (i := 2) (q := 2) (pc' := 34) ⟨by decide +kernel, rfl⟩ rfl rfl ?_
        refine z_lconst (i := 0) (v := 0) (pc' := 35) ⟨by decide +kernel, rfl⟩ (by decide) ?_
        refine z_lcmp (pc' := 36) ⟨by decide +kernel, rfl⟩ ?_
        refine z_if_ge (off := 11) (tgt := 47) (pc' := 39) ⟨by decide +kernel, by decide, rfl⟩ (fun h6 => ?_) (fun h6 => ?_)
        · refine z_lload_n (f := 2) (i := 2) (q := 2) (pc' := 48) ⟨by decide +kernel, rfl⟩ rfl rfl ?_
          refine z_lstore (i := 6) (pc' := 50) ⟨by decide +kernel, rfl⟩ (by decide) rfl ?_
          show Wz E Y_Re_order 50 [(6, .long y), (4, .long x), (0, .long x), (2, .long y)] [] σ K
          refine z_lload (i := 4) (q := 1) (pc' := 52) ⟨by decide +kernel, rfl⟩ rfl ?_
          refine z_lload (i := 6) (q := 0) (pc' := 54) ⟨by decide +kernel, rfl⟩ rfl ?_
          refine z_invS (Z := Y_JG_compare) (idx := 56) (As := [.long x, .long y]) (rest := []) (nA := 2) (pc' := 57) ⟨k_6_57, k_1_21, k_6_53, by decide, by decide, by decide +kernel⟩ k_6_52 ⟨⟨by decide, by decide⟩, rfl, rfl⟩ ⟨by decide +kernel, rfl⟩ rfl rfl (Nat.le_of_ble_eq_true rfl) rfl rfl ?_
          refine cz_JG_compare (fun v7 hv7 => ?_)
          show Wz E Y_Re_order 57 [(6, .long y), (4, .long x), (0, .long x), (2, .long y)] [.int v7] σ K
          refine z_iret (ty := .int) rfl rfl (by decide +kernel) ?_
          have z0L : (0 : Int64).toInt = 0 := by decide
          have gh2 := p3_f hv1 h2
          have gh4 := p3_f hv3 h4
          have gh5 := k_ge_t h5
          have gh6 := k_ge_t h6
          exact k _ (or_cmp (by omega) (sm_p (by omega)) (sm_p (by omega)) hv7)
        · refine z_ldc2 (i := 19) (v := (-9223372036854775808)) (pc' := 42) ⟨by decide +kernel, rfl⟩ k_4_115 ?_
          refine z_lload_n (f := 2) (i := 2) (q := 2) (pc' := 43) ⟨by decide +kernel, rfl⟩ rfl rfl ?_
          refine z_lsub (pc' := 44) ⟨by decide +kernel, rfl⟩ ?_
          refine z_goto (off := 4) (tgt := 48) (pc' := 47) ⟨by decide +kernel, by decide, rfl⟩ ?_
          refine z_lstore (i := 6) (pc' := 50) ⟨by decide +kernel, rfl⟩ (by decide) rfl ?_
          show Wz E Y_Re_order 50 [(6, .long ((-9223372036854775808) - y)), (4, .long x), (0, .long x), (2, .long y)] [] σ K
          refine z_lload (i := 4) (q := 1) (pc' := 52) ⟨by decide +kernel, rfl⟩ rfl ?_
          refine z_lload (i := 6) (q := 0) (pc' := 54) ⟨by decide +kernel, rfl⟩ rfl ?_
          refine z_invS (Z := Y_JG_compare) (idx := 56) (As := [.long x, .long ((-9223372036854775808) - y)]) (rest := []) (nA := 2) (pc' := 57) ⟨k_6_57, k_1_21, k_6_53, by decide, by decide, by decide +kernel⟩ k_6_52 ⟨⟨by decide, by decide⟩, rfl, rfl⟩ ⟨by decide +kernel, rfl⟩ rfl rfl (Nat.le_of_ble_eq_true rfl) rfl rfl ?_
          refine cz_JG_compare (fun v8 hv8 => ?_)
          show Wz E Y_Re_order 57 [(6, .long ((-9223372036854775808) - y)), (4, .long x), (0, .long x), (2, .long y)] [.int v8] σ K
          refine z_iret (ty := .int) rfl rfl (by decide +kernel) ?_
          have z0L : (0 : Int64).toInt = 0 := by decide
          have gh2 := p3_f hv1 h2
          have gh4 := p3_f hv3 h4
          have gh5 := k_ge_t h5
          have gh6 := k_ge_f h6
          exact k _ (or_cmp (by omega) (sm_p (by omega)) (sm_n (by omega)) hv8)
      · refine z_ldc2 (i := 19) (v := (-9223372036854775808)) (pc' := 25) ⟨by decide +kernel, rfl⟩ k_4_115 ?_
        refine z_lload_n (f := 0) (i := 0) (q := 0) (pc' := 26) ⟨by decide +kernel, rfl⟩ rfl rfl ?_
        refine z_lsub (pc' := 27) ⟨by decide +kernel, rfl⟩ ?_
        refine z_goto (off := 4) (tgt := 31) (pc' := 30) ⟨by decide +kernel, by decide, rfl⟩ ?_
        refine z_lstore (i := 4) (pc' := 33) ⟨by decide +kernel, rfl⟩ (by decide) rfl ?_
        show Wz E Y_Re_order 33 [(4, .long ((-9223372036854775808) - x)), (0, .long x), (2, .long y)] [] σ K
        refine z_lload_n (f := 2) (i := 2) (q := 2) (pc' := 34) ⟨by decide +kernel, rfl⟩ rfl rfl ?_
        refine z_lconst (i := 0) (v := 0) (pc' := 35) ⟨by decide +kernel, rfl⟩ (by decide) ?_
        refine z_lcmp (pc' := 36) ⟨by decide +kernel, rfl⟩ ?_
        refine z_if_ge (off := 11) (tgt := 47) (pc' := 39) ⟨by decide +kernel, by decide, rfl⟩ (fun h9 => ?_) (fun h9 => ?_)
        · refine z_lload_n (f := 2) (i := 2) (q := 2) (pc' := 48) ⟨by decide +kernel, rfl⟩ rfl rfl ?_
          refine z_lstore (i := 6) (pc' := 50) ⟨by decide +kernel, rfl⟩ (by decide) rfl ?_
          show Wz E Y_Re_order 50 [(6, .long y), (4, .long ((-9223372036854775808) - x)), (0, .long x), (2, .long y)] [] σ K
          refine z_lload (i := 4) (q := 1) (pc' := 52) ⟨by decide +kernel, rfl⟩ rfl ?_
          refine z_lload (i := 6) (q := 0) (pc' := 54) ⟨by decide +kernel, rfl⟩ rfl ?_
          refine z_invS (Z := Y_JG_compare) (idx := 56) (As := [.long ((-9223372036854775808) - x), .long y]) (rest := []) (nA := 2) (pc' := 57) ⟨k_6_57, k_1_21, k_6_53, by decide, by decide, by decide +kernel⟩ k_6_52 ⟨⟨by decide, by decide⟩, rfl, rfl⟩ ⟨by decide +kernel, rfl⟩ rfl rfl (Nat.le_of_ble_eq_true rfl) rfl rfl ?_
          refine cz_JG_compare (fun v10 hv10 => ?_)
          show Wz E Y_Re_order 57 [(6, .long y), (4, .long ((-9223372036854775808) - x)), (0, .long x), (2, .long y)] [.int v10] σ K
          refine z_iret (ty := .int) rfl rfl (by decide +kernel) ?_
          have z0L : (0 : Int64).toInt = 0 := by decide
          have gh2 := p3_f hv1 h2
          have gh4 := p3_f hv3 h4
          have gh5 := k_ge_f h5
          have gh9 := k_ge_t h9
          exact k _ (or_cmp (by omega) (sm_n (by omega)) (sm_p (by omega)) hv10)
        · refine z_ldc2 (i := 19) (v := (-9223372036854775808)) (pc' := 42) ⟨by decide +kernel, rfl⟩ k_4_115 ?_
          refine z_lload_n (f := 2) (i := 2) (q := 2) (pc' := 43) ⟨by decide +kernel, rfl⟩ rfl rfl ?_
          refine z_lsub (pc' := 44) ⟨by decide +kernel, rfl⟩ ?_
          refine z_goto (off := 4) (tgt := 48) (pc' := 47) ⟨by decide +kernel, by decide, rfl⟩ ?_
          refine z_lstore (i := 6) (pc' := 50) ⟨by decide +kernel, rfl⟩ (by decide) rfl ?_
          show Wz E Y_Re_order 50 [(6, .long ((-9223372036854775808) - y)), (4, .long ((-9223372036854775808) - x)), (0, .long x), (2, .long y)] [] σ K
          refine z_lload (i := 4) (q := 1) (pc' := 52) ⟨by decide +kernel, rfl⟩ rfl ?_
          refine z_lload (i := 6) (q := 0) (pc' := 54) ⟨by decide +kernel, rfl⟩ rfl ?_
          refine z_invS (Z := Y_JG_compare) (idx := 56) (As := [.long ((-9223372036854775808) - x), .long ((-9223372036854775808) - y)]) (rest := []) (nA := 2) (pc' := 57) ⟨k_6_57, k_1_21, k_6_53, by decide, by decide, by decide +kernel⟩ k_6_52 ⟨⟨by decide, by decide⟩, rfl, rfl⟩ ⟨by decide +kernel, rfl⟩ rfl rfl (Nat.le_of_ble_eq_true rfl) rfl rfl ?_
          refine cz_JG_compare (fun v11 hv11 => ?_)
          show Wz E Y_Re_order 57 [(6, .long ((-9223372036854775808) - y)), (4, .long ((-9223372036854775808) - x)), (0, .long x), (2, .long y)] [.int v11] σ K
          refine z_iret (ty := .int) rfl rfl (by decide +kernel) ?_
          have z0L : (0 : Int64).toInt = 0 := by decide
          have gh2 := p3_f hv1 h2
          have gh4 := p3_f hv3 h4
          have gh5 := k_ge_f h5
          have gh9 := k_ge_f h9
          exact k _ (or_cmp (by omega) (sm_n (by omega)) (sm_n (by omega)) hv11)
    · refine z_iconst (i := 2) (v := 2) (pc' := 15) ⟨by decide +kernel, rfl⟩ (by decide) ?_
      refine z_iret (ty := .int) rfl rfl (by decide +kernel) ?_
      have z0L : (0 : Int64).toInt = 0 := by decide
      have gh2 := p3_f hv1 h2
      have gh4 := p3_t hv3 h4
      exact k _ (or_nan (by omega))
theorem cz_Re_order {E : xV} {σ : zS} {K : zKt} {x y : Int64} (k : ∀ v : Int32, OrR x.toInt y.toInt v.toInt → K (some (.int v)) σ) : Cz E Y_Re_order [.long x, .long y] σ K := z_entry (by decide) (fun a => by rw [sl_len]; exact Nat.le_of_ble_eq_true rfl) rfl (run_Re_order k)
theorem run_Re_negated {E : xV} {σ : zS} {K : zKt} {x : Int64} (k : ∀ v : Int64, v.toInt = ngF x.toInt → K (some (.long v)) σ) : Wz E Y_Re_negated 0 [(0, .long x)] [] σ K := by
  refine z_lload_n (f := 0) (i := 0) (q := 0) (pc' := 1) ⟨by decide +kernel, rfl⟩ rfl rfl ?_
  refine z_invS (Z := Y_Re_isNoNumber) (idx := 13) (As := [.long x]) (rest := []) (nA := 1) (pc' := 4) ⟨k_4_124, k_1_13, k_3_235, by decide, by decide, by decide +kernel⟩ k_3_234 ⟨⟨by decide, by decide⟩, rfl, rfl⟩ ⟨by decide +kernel, rfl⟩ rfl rfl (Nat.le_of_ble_eq_true rfl) rfl rfl ?_
  refine cz_Re_isNoNumber (fun v1 hv1 => ?_)
  show Wz E Y_Re_negated 4 [(0, .long x)] [.int v1] σ K
  refine z_if_eq (off := 9) (tgt := 13) (pc' := 7) ⟨by decide +kernel, by decide, rfl⟩ (fun h2 => ?_) (fun h2 => ?_)
  · refine z_lload_n (f := 0) (i := 0) (q := 0) (pc' := 14) ⟨by decide +kernel, rfl⟩ rfl rfl ?_
    refine z_ldc2 (i := 19) (v := (-9223372036854775808)) (pc' := 17) ⟨by decide +kernel, rfl⟩ k_4_115 ?_
    refine z_lxor (pc' := 18) ⟨by decide +kernel, rfl⟩ ?_
    refine z_lret rfl (by decide +kernel) ?_
    have z0L : (0 : Int64).toInt = 0 := by decide
    have gh2 := p3_f hv1 h2
    exact k _ (ng_put (by omega))
  · refine z_ldc2 (i := 17) (v := 9221120237041090560) (pc' := 10) ⟨by decide +kernel, rfl⟩ k_4_131 ?_
    refine z_goto (off := 8) (tgt := 18) (pc' := 13) ⟨by decide +kernel, by decide, rfl⟩ ?_
    refine z_lret rfl (by decide +kernel) ?_
    have z0L : (0 : Int64).toInt = 0 := by decide
    have gh2 := p3_t hv1 h2
    exact k _ (ng_nan (by omega))
theorem cz_Re_negated {E : xV} {σ : zS} {K : zKt} {x : Int64} (k : ∀ v : Int64, v.toInt = ngF x.toInt → K (some (.long v)) σ) : Cz E Y_Re_negated [.long x] σ K := z_entry (by decide) (fun a => by rw [sl_len]; exact Nat.le_of_ble_eq_true rfl) rfl (run_Re_negated k)
theorem run_M_other {E : xV} {σ : zS} {K : zKt} {x : Int64} (k : ∀ v : Int64, v.toInt = ngF x.toInt → K (some (.long v)) σ) : Wz E Y_M_other 0 [(0, .long x)] [] σ K := by
  refine z_lload_n (f := 0) (i := 0) (q := 0) (pc' := 1) ⟨by decide +kernel, rfl⟩ rfl rfl ?_
  refine z_invS (Z := Y_M_isNan) (idx := 367) (As := [.long x]) (rest := []) (nA := 1) (pc' := 4) ⟨k_11_23, k_1_12, k_11_25, by decide, by decide, by decide +kernel⟩ k_11_24 ⟨⟨by decide, by decide⟩, rfl, rfl⟩ ⟨by decide +kernel, rfl⟩ rfl rfl (Nat.le_of_ble_eq_true rfl) rfl rfl ?_
  refine cz_M_isNan (fun v1 hv1 => ?_)
  show Wz E Y_M_other 4 [(0, .long x)] [.int v1] σ K
  refine z_if_eq (off := 9) (tgt := 13) (pc' := 7) ⟨by decide +kernel, by decide, rfl⟩ (fun h2 => ?_) (fun h2 => ?_)
  · refine z_lload_n (f := 0) (i := 0) (q := 0) (pc' := 14) ⟨by decide +kernel, rfl⟩ rfl rfl ?_
    refine z_ldc2 (i := 347) (v := (-9223372036854775808)) (pc' := 17) ⟨by decide +kernel, rfl⟩ k_11_135 ?_
    refine z_lxor (pc' := 18) ⟨by decide +kernel, rfl⟩ ?_
    refine z_lret rfl (by decide +kernel) ?_
    have z0L : (0 : Int64).toInt = 0 := by decide
    have gh2 := p3_f hv1 h2
    exact k _ (ng_put (by omega))
  · refine z_ldc2 (i := 377) (v := 9221120237041090560) (pc' := 10) ⟨by decide +kernel, rfl⟩ k_11_28 ?_
    refine z_goto (off := 8) (tgt := 18) (pc' := 13) ⟨by decide +kernel, by decide, rfl⟩ ?_
    refine z_lret rfl (by decide +kernel) ?_
    have z0L : (0 : Int64).toInt = 0 := by decide
    have gh2 := p3_t hv1 h2
    exact k _ (ng_nan (by omega))
theorem cz_M_other {E : xV} {σ : zS} {K : zKt} {x : Int64} (k : ∀ v : Int64, v.toInt = ngF x.toInt → K (some (.long v)) σ) : Cz E Y_M_other [.long x] σ K := z_entry (by decide) (fun a => by rw [sl_len]; exact Nat.le_of_ble_eq_true rfl) rfl (run_M_other k)
theorem run_M_rank {E : xV} {σ : zS} {K : zKt} {x : Int64} (k : ∀ v : Int64, v.toInt = rkF x.toInt → K (some (.long v)) σ) : Wz E Y_M_rank 0 [(0, .long x)] [] σ K := by
  refine z_lload_n (f := 0) (i := 0) (q := 0) (pc' := 1) ⟨by decide +kernel, rfl⟩ rfl rfl ?_
  refine z_invS (Z := Y_M_isZero) (idx := 374) (As := [.long x]) (rest := []) (nA := 1) (pc' := 4) ⟨k_11_146, k_1_12, k_11_148, by decide, by decide, by decide +kernel⟩ k_11_147 ⟨⟨by decide, by decide⟩, rfl, rfl⟩ ⟨by decide +kernel, rfl⟩ rfl rfl (Nat.le_of_ble_eq_true rfl) rfl rfl ?_
  refine cz_M_isZero (fun v1 hv1 => ?_)
  show Wz E Y_M_rank 4 [(0, .long x)] [.int v1] σ K
  refine z_if_eq (off := 7) (tgt := 11) (pc' := 7) ⟨by decide +kernel, by decide, rfl⟩ (fun h2 => ?_) (fun h2 => ?_)
  · refine z_lload_n (f := 0) (i := 0) (q := 0) (pc' := 12) ⟨by decide +kernel, rfl⟩ rfl rfl ?_
    refine z_lconst (i := 0) (v := 0) (pc' := 13) ⟨by decide +kernel, rfl⟩ (by decide) ?_
    refine z_lcmp (pc' := 14) ⟨by decide +kernel, rfl⟩ ?_
    refine z_if_ge (off := 15) (tgt := 29) (pc' := 17) ⟨by decide +kernel, by decide, rfl⟩ (fun h3 => ?_) (fun h3 => ?_)
    · refine z_lload_n (f := 0) (i := 0) (q := 0) (pc' := 30) ⟨by decide +kernel, rfl⟩ rfl rfl ?_
      refine z_lret rfl (by decide +kernel) ?_
      have z0L : (0 : Int64).toInt = 0 := by decide
      have gh2 := p3_f hv1 h2
      have gh3 := k_ge_t h3
      exact k _ (rk_p (by omega) (by omega))
    · refine z_ldc2 (i := 392) (v := (-1)) (pc' := 20) ⟨by decide +kernel, rfl⟩ k_11_33 ?_
      refine z_lload_n (f := 0) (i := 0) (q := 0) (pc' := 21) ⟨by decide +kernel, rfl⟩ rfl rfl ?_
      refine z_ldc2 (i := 337) (v := 9223372036854775807) (pc' := 24) ⟨by decide +kernel, rfl⟩ k_11_26 ?_
      refine z_land (pc' := 25) ⟨by decide +kernel, rfl⟩ ?_
      refine z_lsub (pc' := 26) ⟨by decide +kernel, rfl⟩ ?_
      refine z_goto (off := 4) (tgt := 30) (pc' := 29) ⟨by decide +kernel, by decide, rfl⟩ ?_
      refine z_lret rfl (by decide +kernel) ?_
      have z0L : (0 : Int64).toInt = 0 := by decide
      have gh2 := p3_f hv1 h2
      have gh3 := k_ge_f h3
      exact k _ (rk_n (by omega) (by omega))
  · refine z_lconst (i := 0) (v := 0) (pc' := 8) ⟨by decide +kernel, rfl⟩ (by decide) ?_
    refine z_goto (off := 22) (tgt := 30) (pc' := 11) ⟨by decide +kernel, by decide, rfl⟩ ?_
    refine z_lret rfl (by decide +kernel) ?_
    have z0L : (0 : Int64).toInt = 0 := by decide
    have gh2 := p3_t hv1 h2
    exact k _ (rk_0 (by omega))
theorem cz_M_rank {E : xV} {σ : zS} {K : zKt} {x : Int64} (k : ∀ v : Int64, v.toInt = rkF x.toInt → K (some (.long v)) σ) : Cz E Y_M_rank [.long x] σ K := z_entry (by decide) (fun a => by rw [sl_len]; exact Nat.le_of_ble_eq_true rfl) rfl (run_M_rank k)

end
