section
theorem run_M_times_a {E : xV} {σ : zS} {K : zKt} {x y : Int64} {w : Int32} (hw : w = 0 ↔ (x.toInt < 0 ↔ y.toInt < 0)) (k : ∀ v : Int64, TmR x.toInt y.toInt v.toInt → K (some (.long v)) σ) : Wz E Y_M_times 32 [(4, .int w), (0, .long x), (2, .long y)] [] σ K := by
  refine z_lload_n (f := 0) (i := 0) (q := 1) (pc' := 33) ⟨by decide +kernel, rfl⟩ rfl rfl ?_
  refine z_invS (Z := Y_M_isNan) (idx := 367) (As := [.long x]) (rest := []) (nA := 1) (pc' := 36) ⟨k_11_23, k_1_12, k_11_25, by decide, by decide, by decide +kernel⟩ k_11_24 ⟨⟨by decide, by decide⟩, rfl, rfl⟩ ⟨by decide +kernel, rfl⟩ rfl rfl (Nat.le_of_ble_eq_true rfl) rfl rfl ?_
  refine cz_M_isNan (fun v1 hv1 => ?_)
  show Wz E Y_M_times 36 [(4, .int w), (0, .long x), (2, .long y)] [.int v1] σ K
  refine z_if_ne (off := 38) (tgt := 74) (pc' := 39) ⟨by decide +kernel, by decide, rfl⟩ (fun h2 => ?_) (fun h2 => ?_)
  · refine z_ldc2 (i := 377) (v := 9221120237041090560) (pc' := 77) ⟨by decide +kernel, rfl⟩ k_11_28 ?_
    refine z_lret rfl (by decide +kernel) ?_
    have z0L : (0 : Int64).toInt = 0 := by decide
    have gh2 := p3_t hv1 h2
    exact k _ (tm_nan (by omega))
  · refine z_lload_n (f := 2) (i := 2) (q := 2) (pc' := 40) ⟨by decide +kernel, rfl⟩ rfl rfl ?_
    refine z_invS (Z := Y_M_isNan) (idx := 367) (As := [.long y]) (rest := []) (nA := 1) (pc' := 43) ⟨k_11_23, k_1_12, k_11_25, by decide, by decide, by decide +kernel⟩ k_11_24 ⟨⟨by decide, by decide⟩, rfl, rfl⟩ ⟨by decide +kernel, rfl⟩ rfl rfl (Nat.le_of_ble_eq_true rfl) rfl rfl ?_
    refine cz_M_isNan (fun v3 hv3 => ?_)
    show Wz E Y_M_times 43 [(4, .int w), (0, .long x), (2, .long y)] [.int v3] σ K
    refine z_if_ne (off := 31) (tgt := 74) (pc' := 46) ⟨by decide +kernel, by decide, rfl⟩ (fun h4 => ?_) (fun h4 => ?_)
    · refine z_ldc2 (i := 377) (v := 9221120237041090560) (pc' := 77) ⟨by decide +kernel, rfl⟩ k_11_28 ?_
      refine z_lret rfl (by decide +kernel) ?_
      have z0L : (0 : Int64).toInt = 0 := by decide
      have gh2 := p3_f hv1 h2
      have gh4 := p3_t hv3 h4
      exact k _ (tm_nan (by omega))
    · refine z_lload_n (f := 0) (i := 0) (q := 1) (pc' := 47) ⟨by decide +kernel, rfl⟩ rfl rfl ?_
      refine z_invS (Z := Y_M_isInfinite) (idx := 371) (As := [.long x]) (rest := []) (nA := 1) (pc' := 50) ⟨k_11_143, k_1_12, k_11_145, by decide, by decide, by decide +kernel⟩ k_11_144 ⟨⟨by decide, by decide⟩, rfl, rfl⟩ ⟨by decide +kernel, rfl⟩ rfl rfl (Nat.le_of_ble_eq_true rfl) rfl rfl ?_
      refine cz_M_isInfinite (fun v5 hv5 => ?_)
      show Wz E Y_M_times 50 [(4, .int w), (0, .long x), (2, .long y)] [.int v5] σ K
      refine z_if_eq (off := 10) (tgt := 60) (pc' := 53) ⟨by decide +kernel, by decide, rfl⟩ (fun h6 => ?_) (fun h6 => ?_)
      · refine z_lload_n (f := 0) (i := 0) (q := 1) (pc' := 61) ⟨by decide +kernel, rfl⟩ rfl rfl ?_
        refine z_invS (Z := Y_M_isZero) (idx := 374) (As := [.long x]) (rest := []) (nA := 1) (pc' := 64) ⟨k_11_146, k_1_12, k_11_148, by decide, by decide, by decide +kernel⟩ k_11_147 ⟨⟨by decide, by decide⟩, rfl, rfl⟩ ⟨by decide +kernel, rfl⟩ rfl rfl (Nat.le_of_ble_eq_true rfl) rfl rfl ?_
        refine cz_M_isZero (fun v7 hv7 => ?_)
        show Wz E Y_M_times 64 [(4, .int w), (0, .long x), (2, .long y)] [.int v7] σ K
        refine z_if_eq (off := 14) (tgt := 78) (pc' := 67) ⟨by decide +kernel, by decide, rfl⟩ (fun h8 => ?_) (fun h8 => ?_)
        · refine z_lload_n (f := 0) (i := 0) (q := 1) (pc' := 79) ⟨by decide +kernel, rfl⟩ rfl rfl ?_
          refine z_invS (Z := Y_M_isInfinite) (idx := 371) (As := [.long x]) (rest := []) (nA := 1) (pc' := 82) ⟨k_11_143, k_1_12, k_11_145, by decide, by decide, by decide +kernel⟩ k_11_144 ⟨⟨by decide, by decide⟩, rfl, rfl⟩ ⟨by decide +kernel, rfl⟩ rfl rfl (Nat.le_of_ble_eq_true rfl) rfl rfl ?_
          refine cz_M_isInfinite (fun v9 hv9 => ?_)
          show Wz E Y_M_times 82 [(4, .int w), (0, .long x), (2, .long y)] [.int v9] σ K
          refine z_if_ne (off := 10) (tgt := 92) (pc' := 85) ⟨by decide +kernel, by decide, rfl⟩ (fun h10 => ?_) (fun h10 => ?_)
          · refine z_iload (i := 4) (q := 0) (pc' := 94) ⟨by decide +kernel, rfl⟩ rfl ?_
            refine z_ldc2 (i := 339) (v := 9218868437227405312) (pc' := 97) ⟨by decide +kernel, rfl⟩ k_11_27 ?_
            refine z_invS (Z := Y_M_signed) (idx := 349) (As := [.int w, .long 9218868437227405312]) (rest := []) (nA := 2) (pc' := 100) ⟨k_11_132, k_1_12, k_11_134, by decide, by decide, by decide +kernel⟩ k_11_133 ⟨⟨by decide, by decide⟩, rfl, rfl⟩ ⟨by decide +kernel, rfl⟩ rfl rfl (Nat.le_of_ble_eq_true rfl) rfl rfl ?_
            refine cz_M_signed (R := infF) u_infF (by decide) (fun v11 hv11 => ?_)
            show Wz E Y_M_times 100 [(4, .int w), (0, .long x), (2, .long y)] [.long v11] σ K
            refine z_lret rfl (by decide +kernel) ?_
            have z0L : (0 : Int64).toInt = 0 := by decide
            have gh2 := p3_f hv1 h2
            have gh4 := p3_f hv3 h4
            have gh6 := p3_f hv5 h6
            have gh8 := p3_f hv7 h8
            have gh10 := p3_t hv9 h10
            exact k _ (tm_inf (by omega) (by omega) (sgv_if hw hv11))
          · refine z_lload_n (f := 2) (i := 2) (q := 2) (pc' := 86) ⟨by decide +kernel, rfl⟩ rfl rfl ?_
            refine z_invS (Z := Y_M_isInfinite) (idx := 371) (As := [.long y]) (rest := []) (nA := 1) (pc' := 89) ⟨k_11_143, k_1_12, k_11_145, by decide, by decide, by decide +kernel⟩ k_11_144 ⟨⟨by decide, by decide⟩, rfl, rfl⟩ ⟨by decide +kernel, rfl⟩ rfl rfl (Nat.le_of_ble_eq_true rfl) rfl rfl ?_
            refine cz_M_isInfinite (fun v12 hv12 => ?_)
            show Wz E Y_M_times 89 [(4, .int w), (0, .long x), (2, .long y)] [.int v12] σ K
            refine z_if_eq (off := 12) (tgt := 101) (pc' := 92) ⟨by decide +kernel, by decide, rfl⟩ (fun h13 => ?_) (fun h13 => ?_)
            · refine z_lload_n (f := 0) (i := 0) (q := 1) (pc' := 102) ⟨by decide +kernel, rfl⟩ rfl rfl ?_
              refine z_invS (Z := Y_M_isZero) (idx := 374) (As := [.long x]) (rest := []) (nA := 1) (pc' := 105) ⟨k_11_146, k_1_12, k_11_148, by decide, by decide, by decide +kernel⟩ k_11_147 ⟨⟨by decide, by decide⟩, rfl, rfl⟩ ⟨by decide +kernel, rfl⟩ rfl rfl (Nat.le_of_ble_eq_true rfl) rfl rfl ?_
              refine cz_M_isZero (fun v14 hv14 => ?_)
              show Wz E Y_M_times 105 [(4, .int w), (0, .long x), (2, .long y)] [.int v14] σ K
              refine z_if_ne (off := 10) (tgt := 115) (pc' := 108) ⟨by decide +kernel, by decide, rfl⟩ (fun h15 => ?_) (fun h15 => ?_)
              · refine z_iload (i := 4) (q := 0) (pc' := 117) ⟨by decide +kernel, rfl⟩ rfl ?_
                refine z_lconst (i := 0) (v := 0) (pc' := 118) ⟨by decide +kernel, rfl⟩ (by decide) ?_
                refine z_invS (Z := Y_M_signed) (idx := 349) (As := [.int w, .long 0]) (rest := []) (nA := 2) (pc' := 121) ⟨k_11_132, k_1_12, k_11_134, by decide, by decide, by decide +kernel⟩ k_11_133 ⟨⟨by decide, by decide⟩, rfl, rfl⟩ ⟨by decide +kernel, rfl⟩ rfl rfl (Nat.le_of_ble_eq_true rfl) rfl rfl ?_
                refine cz_M_signed (R := 0) (by decide) (by decide) (fun v16 hv16 => ?_)
                show Wz E Y_M_times 121 [(4, .int w), (0, .long x), (2, .long y)] [.long v16] σ K
                refine z_lret rfl (by decide +kernel) ?_
                have z0L : (0 : Int64).toInt = 0 := by decide
                have gh2 := p3_f hv1 h2
                have gh4 := p3_f hv3 h4
                have gh6 := p3_f hv5 h6
                have gh8 := p3_f hv7 h8
                have gh10 := p3_f hv9 h10
                have gh13 := p3_f hv12 h13
                have gh15 := p3_t hv14 h15
                exact k _ (tm_zero (by omega) (by omega) (by omega) (sgv_if hw hv16))
              · refine z_lload_n (f := 2) (i := 2) (q := 2) (pc' := 109) ⟨by decide +kernel, rfl⟩ rfl rfl ?_
                refine z_invS (Z := Y_M_isZero) (idx := 374) (As := [.long y]) (rest := []) (nA := 1) (pc' := 112) ⟨k_11_146, k_1_12, k_11_148, by decide, by decide, by decide +kernel⟩ k_11_147 ⟨⟨by decide, by decide⟩, rfl, rfl⟩ ⟨by decide +kernel, rfl⟩ rfl rfl (Nat.le_of_ble_eq_true rfl) rfl rfl ?_
                refine cz_M_isZero (fun v17 hv17 => ?_)
                show Wz E Y_M_times 112 [(4, .int w), (0, .long x), (2, .long y)] [.int v17] σ K
                refine z_if_eq (off := 10) (tgt := 122) (pc' := 115) ⟨by decide +kernel, by decide, rfl⟩ (fun h18 => ?_) (fun h18 => ?_)
                · have z0L : (0 : Int64).toInt = 0 := by decide
                  have gh2 := p3_f hv1 h2
                  have gh4 := p3_f hv3 h4
                  have gh6 := p3_f hv5 h6
                  have gh8 := p3_f hv7 h8
                  have gh10 := p3_f hv9 h10
                  have gh13 := p3_f hv12 h13
                  have gh15 := p3_f hv14 h15
                  have gh18 := p3_f hv17 h18
                  exact run_M_times_b (by omega) (by omega) (by omega) (by omega) hw k
                · refine z_iload (i := 4) (q := 0) (pc' := 117) ⟨by decide +kernel, rfl⟩ rfl ?_
                  refine z_lconst (i := 0) (v := 0) (pc' := 118) ⟨by decide +kernel, rfl⟩ (by decide) ?_
                  refine z_invS (Z := Y_M_signed) (idx := 349) (As := [.int w, .long 0]) (rest := []) (nA := 2) (pc' := 121) ⟨k_11_132, k_1_12, k_11_134, by decide, by decide, by decide +kernel⟩ k_11_133 ⟨⟨by decide, by decide⟩, rfl, rfl⟩ ⟨by decide +kernel, rfl⟩ rfl rfl (Nat.le_of_ble_eq_true rfl) rfl rfl ?_
                  refine cz_M_signed (R := 0) (by decide) (by decide) (fun v19 hv19 => ?_)
                  show Wz E Y_M_times 121 [(4, .int w), (0, .long x), (2, .long y)] [.long v19] σ K
                  refine z_lret rfl (by decide +kernel) ?_
                  have z0L : (0 : Int64).toInt = 0 := by decide
                  have gh2 := p3_f hv1 h2
                  have gh4 := p3_f hv3 h4
                  have gh6 := p3_f hv5 h6
                  have gh8 := p3_f hv7 h8
                  have gh10 := p3_f hv9 h10
                  have gh13 := p3_f hv12 h13
                  have gh15 := p3_f hv14 h15
                  have gh18 := p3_t hv17 h18
                  exact k _ (tm_zero (by omega) (by omega) (by omega) (sgv_if hw hv19))
            · refine z_iload (i := 4) (q := 0) (pc' := 94) ⟨by decide +kernel, rfl⟩ rfl ?_
              refine z_ldc2 (i := 339) (v := 9218868437227405312) (pc' := 97) ⟨by decide +kernel, rfl⟩ k_11_27 ?_
              refine z_invS (Z := Y_M_signed) (idx := 349) (As := [.int w, .long 9218868437227405312]) (rest := []) (nA := 2) (pc' := 100) ⟨k_11_132, k_1_12, k_11_134, by decide, by decide, by decide +kernel⟩ k_11_133 ⟨⟨by decide, by decide⟩, rfl, rfl⟩ ⟨by decide +kernel, rfl⟩ rfl rfl (Nat.le_of_ble_eq_true rfl) rfl rfl ?_
              refine cz_M_signed (R := infF) u_infF (by decide) (fun v20 hv20 => ?_)
              show Wz E Y_M_times 100 [(4, .int w), (0, .long x), (2, .long y)] [.long v20] σ K
              refine z_lret rfl (by decide +kernel) ?_
              have z0L : (0 : Int64).toInt = 0 := by decide
              have gh2 := p3_f hv1 h2
              have gh4 := p3_f hv3 h4
              have gh6 := p3_f hv5 h6
              have gh8 := p3_f hv7 h8
              have gh10 := p3_f hv9 h10
              have gh13 := p3_t hv12 h13
              exact k _ (tm_inf (by omega) (by omega) (sgv_if hw hv20))
        · refine z_lload_n (f := 2) (i := 2) (q := 2) (pc' := 68) ⟨by decide +kernel, rfl⟩ rfl rfl ?_
          refine z_invS (Z := Y_M_isInfinite) (idx := 371) (As := [.long y]) (rest := []) (nA := 1) (pc' := 71) ⟨k_11_143, k_1_12, k_11_145, by decide, by decide, by decide +kernel⟩ k_11_144 ⟨⟨by decide, by decide⟩, rfl, rfl⟩ ⟨by decide +kernel, rfl⟩ rfl rfl (Nat.le_of_ble_eq_true rfl) rfl rfl ?_
          refine cz_M_isInfinite (fun v21 hv21 => ?_)
          show Wz E Y_M_times 71 [(4, .int w), (0, .long x), (2, .long y)] [.int v21] σ K
          refine z_if_eq (off := 7) (tgt := 78) (pc' := 74) ⟨by decide +kernel, by decide, rfl⟩ (fun h22 => ?_) (fun h22 => ?_)
          · refine z_lload_n (f := 0) (i := 0) (q := 1) (pc' := 79) ⟨by decide +kernel, rfl⟩ rfl rfl ?_
            refine z_invS (Z := Y_M_isInfinite) (idx := 371) (As := [.long x]) (rest := []) (nA := 1) (pc' := 82) ⟨k_11_143, k_1_12, k_11_145, by decide, by decide, by decide +kernel⟩ k_11_144 ⟨⟨by decide, by decide⟩, rfl, rfl⟩ ⟨by decide +kernel, rfl⟩ rfl rfl (Nat.le_of_ble_eq_true rfl) rfl rfl ?_
            refine cz_M_isInfinite (fun v23 hv23 => ?_)
            show Wz E Y_M_times 82 [(4, .int w), (0, .long x), (2, .long y)] [.int v23] σ K
            refine z_if_ne (off := 10) (tgt := 92) (pc' := 85) ⟨by decide +kernel, by decide, rfl⟩ (fun h24 => ?_) (fun h24 => ?_)
            · refine z_iload (i := 4) (q := 0) (pc' := 94) ⟨by decide +kernel, rfl⟩ rfl ?_
              refine z_ldc2 (i := 339) (v := 9218868437227405312) (pc' := 97) ⟨by decide +kernel, rfl⟩ k_11_27 ?_
              refine z_invS (Z := Y_M_signed) (idx := 349) (As := [.int w, .long 9218868437227405312]) (rest := []) (nA := 2) (pc' := 100) ⟨k_11_132, k_1_12, k_11_134, by decide, by decide, by decide +kernel⟩ k_11_133 ⟨⟨by decide, by decide⟩, rfl, rfl⟩ ⟨by decide +kernel, rfl⟩ rfl rfl (Nat.le_of_ble_eq_true rfl) rfl rfl ?_
              refine cz_M_signed (R := infF) u_infF (by decide) (fun v25 hv25 => ?_)
              show Wz E Y_M_times 100 [(4, .int w), (0, .long x), (2, .long y)] [.long v25] σ K
              refine z_lret rfl (by decide +kernel) ?_
              have z0L : (0 : Int64).toInt = 0 := by decide
              have gh2 := p3_f hv1 h2
              have gh4 := p3_f hv3 h4
              have gh6 := p3_f hv5 h6
              have gh8 := p3_t hv7 h8
              have gh22 := p3_f hv21 h22
              have gh24 := p3_t hv23 h24
              exact k _ (tm_inf (by omega) (by omega) (sgv_if hw hv25))
            · refine z_lload_n (f := 2) (i := 2) (q := 2) (pc' := 86) ⟨by decide +kernel, rfl⟩ rfl rfl ?_
              refine z_invS (Z := Y_M_isInfinite) (idx := 371) (As := [.long y]) (rest := []) (nA := 1) (pc' := 89) ⟨k_11_143, k_1_12, k_11_145, by decide, by decide, by decide +kernel⟩ k_11_144 ⟨⟨by decide, by decide⟩, rfl, rfl⟩ ⟨by decide +kernel, rfl⟩ rfl rfl (Nat.le_of_ble_eq_true rfl) rfl rfl ?_
              refine cz_M_isInfinite (fun v26 hv26 => ?_)
              show Wz E Y_M_times 89 [(4, .int w), (0, .long x), (2, .long y)] [.int v26] σ K
              refine z_if_eq (off := 12) (tgt := 101) (pc' := 92) ⟨by decide +kernel, by decide, rfl⟩ (fun h27 => ?_) (fun h27 => ?_)
              · refine z_lload_n (f := 0) (i := 0) (q := 1) (pc' := 102) ⟨by decide +kernel, rfl⟩ rfl rfl ?_
                refine z_invS (Z := Y_M_isZero) (idx := 374) (As := [.long x]) (rest := []) (nA := 1) (pc' := 105) ⟨k_11_146, k_1_12, k_11_148, by decide, by decide, by decide +kernel⟩ k_11_147 ⟨⟨by decide, by decide⟩, rfl, rfl⟩ ⟨by decide +kernel, rfl⟩ rfl rfl (Nat.le_of_ble_eq_true rfl) rfl rfl ?_
                refine cz_M_isZero (fun v28 hv28 => ?_)
                show Wz E Y_M_times 105 [(4, .int w), (0, .long x), (2, .long y)] [.int v28] σ K
                refine z_if_ne (off := 10) (tgt := 115) (pc' := 108) ⟨by decide +kernel, by decide, rfl⟩ (fun h29 => ?_) (fun h29 => ?_)
                · refine z_iload (i := 4) (q := 0) (pc' := 117) ⟨by decide +kernel, rfl⟩ rfl ?_
                  refine z_lconst (i := 0) (v := 0) (pc' := 118) ⟨by decide +kernel, rfl⟩ (by decide) ?_
                  refine z_invS (Z := Y_M_signed) (idx := 349) (As := [.int w, .long 0]) (rest := []) (nA := 2) (pc' := 121) ⟨k_11_132, k_1_12, k_11_134, by decide, by decide, by decide +kernel⟩ k_11_133 ⟨⟨by decide, by decide⟩, rfl, rfl⟩ ⟨by decide +kernel, rfl⟩ rfl rfl (Nat.le_of_ble_eq_true rfl) rfl rfl ?_
                  refine cz_M_signed (R := 0) (by decide) (by decide) (fun v30 hv30 => ?_)
                  show Wz E Y_M_times 121 [(4, .int w), (0, .long x), (2, .long y)] [.long v30] σ K
                  refine z_lret rfl (by decide +kernel) ?_
                  have z0L : (0 : Int64).toInt = 0 := by decide
                  have gh2 := p3_f hv1 h2
                  have gh4 := p3_f hv3 h4
                  have gh6 := p3_f hv5 h6
                  have gh8 := p3_t hv7 h8
                  have gh22 := p3_f hv21 h22
                  have gh24 := p3_f hv23 h24
                  have gh27 := p3_f hv26 h27
                  have gh29 := p3_t hv28 h29
                  exact k _ (tm_zero (by omega) (by omega) (by omega) (sgv_if hw hv30))
                · refine z_lload_n (f := 2) (i := 2) (q := 2) (pc' := 109) ⟨by decide +kernel, rfl⟩ rfl rfl ?_
                  refine z_invS (Z := Y_M_isZero) (idx := 374) (As := [.long y]) (rest := []) (nA := 1) (pc' := 112) ⟨k_11_146, k_1_12, k_11_148, by decide, by decide, by decide +kernel⟩ k_11_147 ⟨⟨by decide, by decide⟩, rfl, rfl⟩ ⟨by decide +kernel, rfl⟩ rfl rfl (Nat.le_of_ble_eq_true rfl) rfl rfl ?_
                  refine cz_M_isZero (fun v31 hv31 => ?_)
                  show Wz E Y_M_times 112 [(4, .int w), (0, .long x), (2, .long y)] [.int v31] σ K
                  refine z_if_eq (off := 10) (tgt := 122) (pc' := 115) ⟨by decide +kernel, by decide, rfl⟩ (fun h32 => ?_) (fun h32 => ?_)
                  · have z0L : (0 : Int64).toInt = 0 := by decide
                    have gh2 := p3_f hv1 h2
                    have gh4 := p3_f hv3 h4
                    have gh6 := p3_f hv5 h6
                    have gh8 := p3_t hv7 h8
                    have gh22 := p3_f hv21 h22
                    have gh24 := p3_f hv23 h24
                    have gh27 := p3_f hv26 h27
                    have gh29 := p3_f hv28 h29
                    have gh32 := p3_f hv31 h32
                    exact run_M_times_b (by omega) (by omega) (by omega) (by omega) hw k
                  · refine z_iload (i := 4) (q := 0) (pc' := 117) ⟨by decide +kernel, rfl⟩ rfl ?_
                    refine z_lconst (i := 0) (v := 0) (pc' := 118) ⟨by decide +kernel, rfl⟩ (by decide) ?_
                    refine z_invS (Z := Y_M_signed) (idx := 349) (As := [.int w, .long 0]) (rest := []) (nA := 2) (pc' := 121) ⟨k_11_132, k_1_12, k_11_134, by decide, by decide, by decide +kernel⟩ k_11_133 ⟨⟨by decide, by decide⟩, rfl, rfl⟩ ⟨by decide +kernel, rfl⟩ rfl rfl (Nat.le_of_ble_eq_true rfl) rfl rfl ?_
                    refine cz_M_signed (R := 0) (by decide) (by decide) (fun v33 hv33 => ?_)
                    show Wz E Y_M_times 121 [(4, .int w), (0, .long x), (2, .long y)] [.long v33] σ K
                    refine z_lret rfl (by decide +kernel) ?_
                    have z0L : (0 : Int64).toInt = 0 := by decide
                    have gh2 := p3_f hv1 h2
                    have gh4 := p3_f hv3 h4
                    have gh6 := p3_f hv5 h6
                    have gh8 := p3_t hv7 h8
                    have gh22 := p3_f hv21 h22
                    have gh24 := p3_f hv23 h24
                    have gh27 := p3_f hv26 h27
                    have gh29 := p3_f hv28 h29
                    have gh32 := p3_t hv31 h32
                    exact k _ (tm_zero (by omega) (by omega) (by omega) (sgv_if hw hv33))
              · refine z_iload (i := 4) (q := 0) (pc' := 94) ⟨by decide +kernel, rfl⟩ rfl ?_
                refine z_ldc2 (i := 339) (v := 9218868437227405312) (pc' := 97) ⟨by decide +kernel, rfl⟩ k_11_27 ?_
                refine z_invS (Z := Y_M_signed) (idx := 349) (As := [.int w, .long 9218868437227405312]) (rest := []) (nA := 2) (pc' := 100) ⟨k_11_132, k_1_12, k_11_134, by decide, by decide, by decide +kernel⟩ k_11_133 ⟨⟨by decide, by decide⟩, rfl, rfl⟩ ⟨by decide +kernel, rfl⟩ rfl rfl (Nat.le_of_ble_eq_true rfl) rfl rfl ?_
                refine cz_M_signed (R := infF) u_infF (by decide) (fun v34 hv34 => ?_)
                show Wz E Y_M_times 100 [(4, .int w), (0, .long x), (2, .long y)] [.long v34] σ K
                refine z_lret rfl (by decide +kernel) ?_
                have z0L : (0 : Int64).toInt = 0 := by decide
                have gh2 := p3_f hv1 h2
                have gh4 := p3_f hv3 h4
                have gh6 := p3_f hv5 h6
                have gh8 := p3_t hv7 h8
                have gh22 := p3_f hv21 h22
                have gh24 := p3_f hv23 h24
                have gh27 := p3_t hv26 h27
                exact k _ (tm_inf (by omega) (by omega) (sgv_if hw hv34))
          · refine z_ldc2 (i := 377) (v := 9221120237041090560) (pc' := 77) ⟨by decide +kernel, rfl⟩ k_11_28 ?_
            refine z_lret rfl (by decide +kernel) ?_
            have z0L : (0 : Int64).toInt = 0 := by decide
            have gh2 := p3_f hv1 h2
            have gh4 := p3_f hv3 h4
            have gh6 := p3_f hv5 h6
            have gh8 := p3_t hv7 h8
            have gh22 := p3_t hv21 h22
            exact k _ (tm_nan (by omega))
      · refine z_lload_n (f := 2) (i := 2) (q := 2) (pc' := 54) ⟨by decide +kernel, rfl⟩ rfl rfl ?_
        refine z_invS (Z := Y_M_isZero) (idx := 374) (As := [.long y]) (rest := []) (nA := 1) (pc' := 57) ⟨k_11_146, k_1_12, k_11_148, by decide, by decide, by decide +kernel⟩ k_11_147 ⟨⟨by decide, by decide⟩, rfl, rfl⟩ ⟨by decide +kernel, rfl⟩ rfl rfl (Nat.le_of_ble_eq_true rfl) rfl rfl ?_
        refine cz_M_isZero (fun v35 hv35 => ?_)
        show Wz E Y_M_times 57 [(4, .int w), (0, .long x), (2, .long y)] [.int v35] σ K
        refine z_if_ne (off := 17) (tgt := 74) (pc' := 60) ⟨by decide +kernel, by decide, rfl⟩ (fun h36 => ?_) (fun h36 => ?_)
        · refine z_ldc2 (i := 377) (v := 9221120237041090560) (pc' := 77) ⟨by decide +kernel, rfl⟩ k_11_28 ?_
          refine z_lret rfl (by decide +kernel) ?_
          have z0L : (0 : Int64).toInt = 0 := by decide
          have gh2 := p3_f hv1 h2
          have gh4 := p3_f hv3 h4
          have gh6 := p3_t hv5 h6
          have gh36 := p3_t hv35 h36
          exact k _ (tm_nan (by omega))
        · refine z_lload_n (f := 0) (i := 0) (q := 1) (pc' := 61) ⟨by decide +kernel, rfl⟩ rfl rfl ?_
          refine z_invS (Z := Y_M_isZero) (idx := 374) (As := [.long x]) (rest := []) (nA := 1) (pc' := 64) ⟨k_11_146, k_1_12, k_11_148, by decide, by decide, by decide +kernel⟩ k_11_147 ⟨⟨by decide, by decide⟩, rfl, rfl⟩ ⟨by decide +kernel, rfl⟩ rfl rfl (Nat.le_of_ble_eq_true rfl) rfl rfl ?_
          refine cz_M_isZero (fun v37 hv37 => ?_)
          show Wz E Y_M_times 64 [(4, .int w), (0, .long x), (2, .long y)] [.int v37] σ K
          refine z_if_eq (off := 14) (tgt := 78) (pc' := 67) ⟨by decide +kernel, by decide, rfl⟩ (fun h38 => ?_) (fun h38 => ?_)
          · refine z_lload_n (f := 0) (i := 0) (q := 1) (pc' := 79) ⟨by decide +kernel, rfl⟩ rfl rfl ?_
            refine z_invS (Z := Y_M_isInfinite) (idx := 371) (As := [.long x]) (rest := []) (nA := 1) (pc' := 82) ⟨k_11_143, k_1_12, k_11_145, by decide, by decide, by decide +kernel⟩ k_11_144 ⟨⟨by decide, by decide⟩, rfl, rfl⟩ ⟨by decide +kernel, rfl⟩ rfl rfl (Nat.le_of_ble_eq_true rfl) rfl rfl ?_
            refine cz_M_isInfinite (fun v39 hv39 => ?_)
            show Wz E Y_M_times 82 [(4, .int w), (0, .long x), (2, .long y)] [.int v39] σ K
            refine z_if_ne (off := 10) (tgt := 92) (pc' := 85) ⟨by decide +kernel, by decide, rfl⟩ (fun h40 => ?_) (fun h40 => ?_)
            · refine z_iload (i := 4) (q := 0) (pc' := 94) ⟨by decide +kernel, rfl⟩ rfl ?_
              refine z_ldc2 (i := 339) (v := 9218868437227405312) (pc' := 97) ⟨by decide +kernel, rfl⟩ k_11_27 ?_
              refine z_invS (Z := Y_M_signed) (idx := 349) (As := [.int w, .long 9218868437227405312]) (rest := []) (nA := 2) (pc' := 100) ⟨k_11_132, k_1_12, k_11_134, by decide, by decide, by decide +kernel⟩ k_11_133 ⟨⟨by decide, by decide⟩, rfl, rfl⟩ ⟨by decide +kernel, rfl⟩ rfl rfl (Nat.le_of_ble_eq_true rfl) rfl rfl ?_
              refine cz_M_signed (R := infF) u_infF (by decide) (fun v41 hv41 => ?_)
              show Wz E Y_M_times 100 [(4, .int w), (0, .long x), (2, .long y)] [.long v41] σ K
              refine z_lret rfl (by decide +kernel) ?_
              have z0L : (0 : Int64).toInt = 0 := by decide
              have gh2 := p3_f hv1 h2
              have gh4 := p3_f hv3 h4
              have gh6 := p3_t hv5 h6
              have gh36 := p3_f hv35 h36
              have gh38 := p3_f hv37 h38
              have gh40 := p3_t hv39 h40
              exact k _ (tm_inf (by omega) (by omega) (sgv_if hw hv41))
            · refine z_lload_n (f := 2) (i := 2) (q := 2) (pc' := 86) ⟨by decide +kernel, rfl⟩ rfl rfl ?_
              refine z_invS (Z := Y_M_isInfinite) (idx := 371) (As := [.long y]) (rest := []) (nA := 1) (pc' := 89) ⟨k_11_143, k_1_12, k_11_145, by decide, by decide, by decide +kernel⟩ k_11_144 ⟨⟨by decide, by decide⟩, rfl, rfl⟩ ⟨by decide +kernel, rfl⟩ rfl rfl (Nat.le_of_ble_eq_true rfl) rfl rfl ?_
              refine cz_M_isInfinite (fun v42 hv42 => ?_)
              show Wz E Y_M_times 89 [(4, .int w), (0, .long x), (2, .long y)] [.int v42] σ K
              refine z_if_eq (off := 12) (tgt := 101) (pc' := 92) ⟨by decide +kernel, by decide, rfl⟩ (fun h43 => ?_) (fun h43 => ?_)
              · refine z_lload_n (f := 0) (i := 0) (q := 1) (pc' := 102) ⟨by decide +kernel, rfl⟩ rfl rfl ?_
                refine z_invS (Z := Y_M_isZero) (idx := 374) (As := [.long x]) (rest := []) (nA := 1) (pc' := 105) ⟨k_11_146, k_1_12, k_11_148, by decide, by decide, by decide +kernel⟩ k_11_147 ⟨⟨by decide, by decide⟩, rfl, rfl⟩ ⟨by decide +kernel, rfl⟩ rfl rfl (Nat.le_of_ble_eq_true rfl) rfl rfl ?_
                refine cz_M_isZero (fun v44 hv44 => ?_)
                show Wz E Y_M_times 105 [(4, .int w), (0, .long x), (2, .long y)] [.int v44] σ K
                refine z_if_ne (off := 10) (tgt := 115) (pc' := 108) ⟨by decide +kernel, by decide, rfl⟩ (fun h45 => ?_) (fun h45 => ?_)
                · refine z_iload (i := 4) (q := 0) (pc' := 117) ⟨by decide +kernel, rfl⟩ rfl ?_
                  refine z_lconst (i := 0) (v := 0) (pc' := 118) ⟨by decide +kernel, rfl⟩ (by decide) ?_
                  refine z_invS (Z := Y_M_signed) (idx := 349) (As := [.int w, .long 0]) (rest := []) (nA := 2) (pc' := 121) ⟨k_11_132, k_1_12, k_11_134, by decide, by decide, by decide +kernel⟩ k_11_133 ⟨⟨by decide, by decide⟩, rfl, rfl⟩ ⟨by decide +kernel, rfl⟩ rfl rfl (Nat.le_of_ble_eq_true rfl) rfl rfl ?_
                  refine cz_M_signed (R := 0) (by decide) (by decide) (fun v46 hv46 => ?_)
                  show Wz E Y_M_times 121 [(4, .int w), (0, .long x), (2, .long y)] [.long v46] σ K
                  refine z_lret rfl (by decide +kernel) ?_
                  have z0L : (0 : Int64).toInt = 0 := by decide
                  have gh2 := p3_f hv1 h2
                  have gh4 := p3_f hv3 h4
                  have gh6 := p3_t hv5 h6
                  have gh36 := p3_f hv35 h36
                  have gh38 := p3_f hv37 h38
                  have gh40 := p3_f hv39 h40
                  have gh43 := p3_f hv42 h43
                  have gh45 := p3_t hv44 h45
                  exact k _ (tm_zero (by omega) (by omega) (by omega) (sgv_if hw hv46))
                · refine z_lload_n (f := 2) (i := 2) (q := 2) (pc' := 109) ⟨by decide +kernel, rfl⟩ rfl rfl ?_
                  refine z_invS (Z := Y_M_isZero) (idx := 374) (As := [.long y]) (rest := []) (nA := 1) (pc' := 112) ⟨k_11_146, k_1_12, k_11_148, by decide, by decide, by decide +kernel⟩ k_11_147 ⟨⟨by decide, by decide⟩, rfl, rfl⟩ ⟨by decide +kernel, rfl⟩ rfl rfl (Nat.le_of_ble_eq_true rfl) rfl rfl ?_
                  refine cz_M_isZero (fun v47 hv47 => ?_)
                  show Wz E Y_M_times 112 [(4, .int w), (0, .long x), (2, .long y)] [.int v47] σ K
                  refine z_if_eq (off := 10) (tgt := 122) (pc' := 115) ⟨by decide +kernel, by decide, rfl⟩ (fun h48 => ?_) (fun h48 => ?_)
                  · have z0L : (0 : Int64).toInt = 0 := by decide
                    have gh2 := p3_f hv1 h2
                    have gh4 := p3_f hv3 h4
                    have gh6 := p3_t hv5 h6
                    have gh36 := p3_f hv35 h36
                    have gh38 := p3_f hv37 h38
                    have gh40 := p3_f hv39 h40
                    have gh43 := p3_f hv42 h43
                    have gh45 := p3_f hv44 h45
                    have gh48 := p3_f hv47 h48
                    exact run_M_times_b (by omega) (by omega) (by omega) (by omega) hw k
                  · refine z_iload (i := 4) (q := 0) (pc' := 117) ⟨by decide +kernel, rfl⟩ rfl ?_
                    refine z_lconst (i := 0) (v := 0) (pc' := 118) ⟨by decide +kernel, rfl⟩ (by decide) ?_
                    refine z_invS (Z := Y_M_signed) (idx := 349) (As := [.int w, .long 0]) (rest := []) (nA := 2) (pc' := 121) ⟨k_11_132, k_1_12, k_11_134, by decide, by decide, by decide +kernel⟩ k_11_133 ⟨⟨by decide, by decide⟩, rfl, rfl⟩ ⟨by decide +kernel, rfl⟩ rfl rfl (Nat.le_of_ble_eq_true rfl) rfl rfl ?_
                    refine cz_M_signed (R := 0) (by decide) (by decide) (fun v49 hv49 => ?_)
                    show Wz E Y_M_times 121 [(4, .int w), (0, .long x), (2, .long y)] [.long v49] σ K
                    refine z_lret rfl (by decide +kernel) ?_
                    have z0L : (0 : Int64).toInt = 0 := by decide
                    have gh2 := p3_f hv1 h2
                    have gh4 := p3_f hv3 h4
                    have gh6 := p3_t hv5 h6
                    have gh36 := p3_f hv35 h36
                    have gh38 := p3_f hv37 h38
                    have gh40 := p3_f hv39 h40
                    have gh43 := p3_f hv42 h43
                    have gh45 := p3_f hv44 h45
                    have gh48 := p3_t hv47 h48
                    exact k _ (tm_zero (by omega) (by omega) (by omega) (sgv_if hw hv49))
              · refine z_iload (i := 4) (q := 0) (pc' := 94) ⟨by decide +kernel, rfl⟩ rfl ?_
                refine z_ldc2 (i := 339) (v := 9218868437227405312) (pc' := 97) ⟨by decide +kernel, rfl⟩ k_11_27 ?_
                refine z_invS (Z := Y_M_signed) (idx := 349) (As := [.int w, .long 9218868437227405312]) (rest := []) (nA := 2) (pc' := 100) ⟨k_11_132, k_1_12, k_11_134, by decide, by decide, by decide +kernel⟩ k_11_133 ⟨⟨by decide, by decide⟩, rfl, rfl⟩ ⟨by decide +kernel, rfl⟩ rfl rfl (Nat.le_of_ble_eq_true rfl) rfl rfl ?_
                refine cz_M_signed (R := infF) u_infF (by decide) (fun v50 hv50 => ?_)
                show Wz E Y_M_times 100 [(4, .int w), (0, .long x), (2, .long y)] [.long v50] σ K
                refine z_lret rfl (by decide +kernel) ?_
                have z0L : (0 : Int64).toInt = 0 := by decide
                have gh2 := p3_f hv1 h2
                have gh4 := p3_f hv3 h4
                have gh6 := p3_t hv5 h6
                have gh36 := p3_f hv35 h36
                have gh38 := p3_f hv37 h38
                have gh40 := p3_f hv39 h40
                have gh43 := p3_t hv42 h43
                exact k _ (tm_inf (by omega) (by omega) (sgv_if hw hv50))
          · refine z_lload_n (f := 2) (i := 2) (q := 2) (pc' := 68) ⟨by decide +kernel, rfl⟩ rfl rfl ?_
            refine z_invS (Z := Y_M_isInfinite) (idx := 371) (As := [.long y]) (rest := []) (nA := 1) (pc' := 71) ⟨k_11_143, k_1_12, k_11_145, by decide, by decide, by decide +kernel⟩ k_11_144 ⟨⟨by decide, by decide⟩, rfl, rfl⟩ ⟨by decide +kernel, rfl⟩ rfl rfl (Nat.le_of_ble_eq_true rfl) rfl rfl ?_
            refine cz_M_isInfinite (fun v51 hv51 => ?_)
            show Wz E Y_M_times 71 [(4, .int w), (0, .long x), (2, .long y)] [.int v51] σ K
            refine z_if_eq (off := 7) (tgt := 78) (pc' := 74) ⟨by decide +kernel, by decide, rfl⟩ (fun h52 => ?_) (fun h52 => ?_)
            · refine z_lload_n (f := 0) (i := 0) (q := 1) (pc' := 79) ⟨by decide +kernel, rfl⟩ rfl rfl ?_
              refine z_invS (Z := Y_M_isInfinite) (idx := 371) (As := [.long x]) (rest := []) (nA := 1) (pc' := 82) ⟨k_11_143, k_1_12, k_11_145, by decide, by decide, by decide +kernel⟩ k_11_144 ⟨⟨by decide, by decide⟩, rfl, rfl⟩ ⟨by decide +kernel, rfl⟩ rfl rfl (Nat.le_of_ble_eq_true rfl) rfl rfl ?_
              refine cz_M_isInfinite (fun v53 hv53 => ?_)
              show Wz E Y_M_times 82 [(4, .int w), (0, .long x), (2, .long y)] [.int v53] σ K
              refine z_if_ne (off := 10) (tgt := 92) (pc' := 85) ⟨by decide +kernel, by decide, rfl⟩ (fun h54 => ?_) (fun h54 => ?_)
              · refine z_iload (i := 4) (q := 0) (pc' := 94) ⟨by decide +kernel, rfl⟩ rfl ?_
                refine z_ldc2 (i := 339) (v := 9218868437227405312) (pc' := 97) ⟨by decide +kernel, rfl⟩ k_11_27 ?_
                refine z_invS (Z := Y_M_signed) (idx := 349) (As := [.int w, .long 9218868437227405312]) (rest := []) (nA := 2) (pc' := 100) ⟨k_11_132, k_1_12, k_11_134, by decide, by decide, by decide +kernel⟩ k_11_133 ⟨⟨by decide, by decide⟩, rfl, rfl⟩ ⟨by decide +kernel, rfl⟩ rfl rfl (Nat.le_of_ble_eq_true rfl) rfl rfl ?_
                refine cz_M_signed (R := infF) u_infF (by decide) (fun v55 hv55 => ?_)
                show Wz E Y_M_times 100 [(4, .int w), (0, .long x), (2, .long y)] [.long v55] σ K
                refine z_lret rfl (by decide +kernel) ?_
                have z0L : (0 : Int64).toInt = 0 := by decide
                have gh2 := p3_f hv1 h2
                have gh4 := p3_f hv3 h4
                have gh6 := p3_t hv5 h6
                have gh36 := p3_f hv35 h36
                have gh38 := p3_t hv37 h38
                have gh52 := p3_f hv51 h52
                have gh54 := p3_t hv53 h54
                exact k _ (tm_inf (by omega) (by omega) (sgv_if hw hv55))
              · refine z_lload_n (f := 2) (i := 2) (q := 2) (pc' := 86) ⟨by decide +kernel, rfl⟩ rfl rfl ?_
                refine z_invS (Z := Y_M_isInfinite) (idx := 371) (As := [.long y]) (rest := []) (nA := 1) (pc' := 89) ⟨k_11_143, k_1_12, k_11_145, by decide, by decide, by decide +kernel⟩ k_11_144 ⟨⟨by decide, by decide⟩, rfl, rfl⟩ ⟨by decide +kernel, rfl⟩ rfl rfl (Nat.le_of_ble_eq_true rfl) rfl rfl ?_
                refine cz_M_isInfinite (fun v56 hv56 => ?_)
                show Wz E Y_M_times 89 [(4, .int w), (0, .long x), (2, .long y)] [.int v56] σ K
                refine z_if_eq (off := 12) (tgt := 101) (pc' := 92) ⟨by decide +kernel, by decide, rfl⟩ (fun h57 => ?_) (fun h57 => ?_)
                · refine z_lload_n (f := 0) (i := 0) (q := 1) (pc' := 102) ⟨by decide +kernel, rfl⟩ rfl rfl ?_
                  refine z_invS (Z := Y_M_isZero) (idx := 374) (As := [.long x]) (rest := []) (nA := 1) (pc' := 105) ⟨k_11_146, k_1_12, k_11_148, by decide, by decide, by decide +kernel⟩ k_11_147 ⟨⟨by decide, by decide⟩, rfl, rfl⟩ ⟨by decide +kernel, rfl⟩ rfl rfl (Nat.le_of_ble_eq_true rfl) rfl rfl ?_
                  refine cz_M_isZero (fun v58 hv58 => ?_)
                  show Wz E Y_M_times 105 [(4, .int w), (0, .long x), (2, .long y)] [.int v58] σ K
                  refine z_if_ne (off := 10) (tgt := 115) (pc' := 108) ⟨by decide +kernel, by decide, rfl⟩ (fun h59 => ?_) (fun h59 => ?_)
                  · refine z_iload (i := 4) (q := 0) (pc' := 117) ⟨by decide +kernel, rfl⟩ rfl ?_
                    refine z_lconst (i := 0) (v := 0) (pc' := 118) ⟨by decide +kernel, rfl⟩ (by decide) ?_
                    refine z_invS (Z := Y_M_signed) (idx := 349) (As := [.int w, .long 0]) (rest := []) (nA := 2) (pc' := 121) ⟨k_11_132, k_1_12, k_11_134, by decide, by decide, by decide +kernel⟩ k_11_133 ⟨⟨by decide, by decide⟩, rfl, rfl⟩ ⟨by decide +kernel, rfl⟩ rfl rfl (Nat.le_of_ble_eq_true rfl) rfl rfl ?_
                    refine cz_M_signed (R := 0) (by decide) (by decide) (fun v60 hv60 => ?_)
                    show Wz E Y_M_times 121 [(4, .int w), (0, .long x), (2, .long y)] [.long v60] σ K
                    refine z_lret rfl (by decide +kernel) ?_
                    have z0L : (0 : Int64).toInt = 0 := by decide
                    have gh2 := p3_f hv1 h2
                    have gh4 := p3_f hv3 h4
                    have gh6 := p3_t hv5 h6
                    have gh36 := p3_f hv35 h36
                    have gh38 := p3_t hv37 h38
                    have gh52 := p3_f hv51 h52
                    have gh54 := p3_f hv53 h54
                    have gh57 := p3_f hv56 h57
                    have gh59 := p3_t hv58 h59
                    exact k _ (tm_zero (by omega) (by omega) (by omega) (sgv_if hw hv60))
                  · refine z_lload_n (f := 2) (i := 2) (q := 2) (pc' := 109) ⟨by decide +kernel, rfl⟩ rfl rfl ?_
                    refine z_invS (Z := Y_M_isZero) (idx := 374) (As := [.long y]) (rest := []) (nA := 1) (pc' := 112) ⟨k_11_146, k_1_12, k_11_148, by decide, by decide, by decide +kernel⟩ k_11_147 ⟨⟨by decide, by decide⟩, rfl, rfl⟩ ⟨by decide +kernel, rfl⟩ rfl rfl (Nat.le_of_ble_eq_true rfl) rfl rfl ?_
                    refine cz_M_isZero (fun v61 hv61 => ?_)
                    show Wz E Y_M_times 112 [(4, .int w), (0, .long x), (2, .long y)] [.int v61] σ K
                    refine z_if_eq (off := 10) (tgt := 122) (pc' := 115) ⟨by decide +kernel, by decide, rfl⟩ (fun h62 => ?_) (fun h62 => ?_)
                    · have z0L : (0 : Int64).toInt = 0 := by decide
                      have gh2 := p3_f hv1 h2
                      have gh4 := p3_f hv3 h4
                      have gh6 := p3_t hv5 h6
                      have gh36 := p3_f hv35 h36
                      have gh38 := p3_t hv37 h38
                      have gh52 := p3_f hv51 h52
                      have gh54 := p3_f hv53 h54
                      have gh57 := p3_f hv56 h57
                      have gh59 := p3_f hv58 h59
                      have gh62 := p3_f hv61 h62
                      exact run_M_times_b (by omega) (by omega) (by omega) (by omega) hw k
                    · refine z_iload (i := 4) (q := 0) (pc' := 117) ⟨by decide +kernel, rfl⟩ rfl ?_
                      refine z_lconst (i := 0) (v := 0) (pc' := 118) ⟨by decide +kernel, rfl⟩ (by decide) ?_
                      refine z_invS (Z := Y_M_signed) (idx := 349) (As := [.int w, .long 0]) (rest := []) (nA := 2) (pc' := 121) ⟨k_11_132, k_1_12, k_11_134, by decide, by decide, by decide +kernel⟩ k_11_133 ⟨⟨by decide, by decide⟩, rfl, rfl⟩ ⟨by decide +kernel, rfl⟩ rfl rfl (Nat.le_of_ble_eq_true rfl) rfl rfl ?_
                      refine cz_M_signed (R := 0) (by decide) (by decide) (fun v63 hv63 => ?_)
                      show Wz E Y_M_times 121 [(4, .int w), (0, .long x), (2, .long y)] [.long v63] σ K
                      refine z_lret rfl (by decide +kernel) ?_
                      have z0L : (0 : Int64).toInt = 0 := by decide
                      have gh2 := p3_f hv1 h2
                      have gh4 := p3_f hv3 h4
                      have gh6 := p3_t hv5 h6
                      have gh36 := p3_f hv35 h36
                      have gh38 := p3_t hv37 h38
                      have gh52 := p3_f hv51 h52
                      have gh54 := p3_f hv53 h54
                      have gh57 := p3_f hv56 h57
                      have gh59 := p3_f hv58 h59
                      have gh62 := p3_t hv61 h62
                      exact k _ (tm_zero (by omega) (by omega) (by omega) (sgv_if hw hv63))
                · refine z_iload (i := 4) (q := 0) (pc' := 94) ⟨by decide +kernel, rfl⟩ rfl ?_
                  refine z_ldc2 (i := 339) (v := 9218868437227405312) (pc' := 97) ⟨by decide +kernel, rfl⟩ k_11_27 ?_
                  refine z_invS (Z := Y_M_signed) (idx := 349) (As := [.int w, .long 9218868437227405312]) (rest := []) (nA := 2) (pc' := 100) ⟨k_11_132, k_1_12, k_11_134, by decide, by decide, by decide +kernel⟩ k_11_133 ⟨⟨by decide, by decide⟩, rfl, rfl⟩ ⟨by decide +kernel, rfl⟩ rfl rfl (Nat.le_of_ble_eq_true rfl) rfl rfl ?_
                  refine cz_M_signed (R := infF) u_infF (by decide) (fun v64 hv64 => ?_)
                  show Wz E Y_M_times 100 [(4, .int w), (0, .long x), (2, .long y)] [.long v64] σ K
                  refine z_lret rfl (by decide +kernel) ?_
                  have z0L : (0 : Int64).toInt = 0 := by decide
                  have gh2 := p3_f hv1 h2
                  have gh4 := p3_f hv3 h4
                  have gh6 := p3_t hv5 h6
                  have gh36 := p3_f hv35 h36
                  have gh38 := p3_t hv37 h38
                  have gh52 := p3_f hv51 h52
                  have gh54 := p3_f hv53 h54
                  have gh57 := p3_t hv56 h57
                  exact k _ (tm_inf (by omega) (by omega) (sgv_if hw hv64))
            · refine z_ldc2 (i := 377) (v := 9221120237041090560) (pc' := 77) ⟨by decide +kernel, rfl⟩ k_11_28 ?_
              refine z_lret rfl (by decide +kernel) ?_
              have z0L : (0 : Int64).toInt = 0 := by decide
              have gh2 := p3_f hv1 h2
              have gh4 := p3_f hv3 h4
              have gh6 := p3_t hv5 h6
              have gh36 := p3_f hv35 h36
              have gh38 := p3_t hv37 h38
              have gh52 := p3_t hv51 h52
              exact k _ (tm_nan (by omega))
theorem run_M_times {E : xV} {σ : zS} {K : zKt} {x y : Int64} (k : ∀ v : Int64, TmR x.toInt y.toInt v.toInt → K (some (.long v)) σ) : Wz E Y_M_times 0 [(0, .long x), (2, .long y)] [] σ K := by
  refine z_lload_n (f := 0) (i := 0) (q := 0) (pc' := 1) ⟨by decide +kernel, rfl⟩ rfl rfl ?_
  refine z_lconst (i := 0) (v := 0) (pc' := 2) ⟨by decide +kernel, rfl⟩ (by decide) ?_
  refine z_lcmp (pc' := 3) ⟨by decide +kernel, rfl⟩ ?_
  refine z_if_ge (off := 7) (tgt := 10) (pc' := 6) ⟨by decide +kernel, by decide, rfl⟩ (fun h1 => ?_) (fun h1 => ?_)
  · refine z_iconst (i := 0) (v := 0) (pc' := 11) ⟨by decide +kernel, rfl⟩ (by decide) ?_
    refine z_lload_n (f := 2) (i := 2) (q := 1) (pc' := 12) ⟨by decide +kernel, rfl⟩ rfl rfl ?_
    refine z_lconst (i := 0) (v := 0) (pc' := 13) ⟨by decide +kernel, rfl⟩ (by decide) ?_
    refine z_lcmp (pc' := 14) ⟨by decide +kernel, rfl⟩ ?_
    refine z_if_ge (off := 7) (tgt := 21) (pc' := 17) ⟨by decide +kernel, by decide, rfl⟩ (fun h2 => ?_) (fun h2 => ?_)
    · refine z_iconst (i := 0) (v := 0) (pc' := 22) ⟨by decide +kernel, rfl⟩ (by decide) ?_
      refine z_icmp_eq (off := 7) (tgt := 29) (pc' := 25) ⟨by decide +kernel, by decide, rfl⟩ (fun h3 => ?_) (fun h3 => ?_)
      · refine z_iconst (i := 0) (v := 0) (pc' := 30) ⟨by decide +kernel, rfl⟩ (by decide) ?_
        refine z_istore (i := 4) (pc' := 32) ⟨by decide +kernel, rfl⟩ (by decide) rfl ?_
        show Wz E Y_M_times 32 [(4, .int 0), (0, .long x), (2, .long y)] [] σ K
        have z0L : (0 : Int64).toInt = 0 := by decide
        have z0 : (0 : Int32).toInt = 0 := by decide
        have gh1 := k_ge_t h1
        have gh2 := k_ge_t h2
        have gh3 := j_eq_t h3
        exact run_M_times_a (w_0 (by omega)) k
      · refine z_iconst (i := 1) (v := 1) (pc' := 26) ⟨by decide +kernel, rfl⟩ (by decide) ?_
        refine z_goto (off := 4) (tgt := 30) (pc' := 29) ⟨by decide +kernel, by decide, rfl⟩ ?_
        refine z_istore (i := 4) (pc' := 32) ⟨by decide +kernel, rfl⟩ (by decide) rfl ?_
        show Wz E Y_M_times 32 [(4, .int 1), (0, .long x), (2, .long y)] [] σ K
        have z0L : (0 : Int64).toInt = 0 := by decide
        have z0 : (0 : Int32).toInt = 0 := by decide
        have gh1 := k_ge_t h1
        have gh2 := k_ge_t h2
        have gh3 := j_eq_f h3
        exact run_M_times_a (w_1 (by omega)) k
    · refine z_iconst (i := 1) (v := 1) (pc' := 18) ⟨by decide +kernel, rfl⟩ (by decide) ?_
      refine z_goto (off := 4) (tgt := 22) (pc' := 21) ⟨by decide +kernel, by decide, rfl⟩ ?_
      refine z_icmp_eq (off := 7) (tgt := 29) (pc' := 25) ⟨by decide +kernel, by decide, rfl⟩ (fun h4 => ?_) (fun h4 => ?_)
      · refine z_iconst (i := 0) (v := 0) (pc' := 30) ⟨by decide +kernel, rfl⟩ (by decide) ?_
        refine z_istore (i := 4) (pc' := 32) ⟨by decide +kernel, rfl⟩ (by decide) rfl ?_
        show Wz E Y_M_times 32 [(4, .int 0), (0, .long x), (2, .long y)] [] σ K
        have z0L : (0 : Int64).toInt = 0 := by decide
        have z0 : (0 : Int32).toInt = 0 := by decide
        have z1 : (1 : Int32).toInt = 1 := by decide
        have gh1 := k_ge_t h1
        have gh2 := k_ge_f h2
        have gh4 := j_eq_t h4
        exact run_M_times_a (w_0 (by omega)) k
      · refine z_iconst (i := 1) (v := 1) (pc' := 26) ⟨by decide +kernel, rfl⟩ (by decide) ?_
        refine z_goto (off := 4) (tgt := 30) (pc' := 29) ⟨by decide +kernel, by decide, rfl⟩ ?_
        refine z_istore (i := 4) (pc' := 32) ⟨by decide +kernel, rfl⟩ (by decide) rfl ?_
        show Wz E Y_M_times 32 [(4, .int 1), (0, .long x), (2, .long y)] [] σ K
        have z0L : (0 : Int64).toInt = 0 := by decide
        have z0 : (0 : Int32).toInt = 0 := by decide
        have z1 : (1 : Int32).toInt = 1 := by decide
        have gh1 := k_ge_t h1
        have gh2 := k_ge_f h2
        have gh4 := j_eq_f h4
        exact run_M_times_a (w_1 (by omega)) k
  · refine z_iconst (i := 1) (v := 1) (pc' := 7) ⟨by decide +kernel, rfl⟩ (by decide) ?_
    refine z_goto (off := 4) (tgt := 11) (pc' := 10) ⟨by decide +kernel, by decide, rfl⟩ ?_
    refine z_lload_n (f := 2) (i := 2) (q := 1) (pc' := 12) ⟨by decide +kernel, rfl⟩ rfl rfl ?_
    refine z_lconst (i := 0) (v := 0) (pc' := 13) ⟨by decide +kernel, rfl⟩ (by decide) ?_
    refine z_lcmp (pc' := 14) ⟨by decide +kernel, rfl⟩ ?_
    refine z_if_ge (off := 7) (tgt := 21) (pc' := 17) ⟨by decide +kernel, by decide, rfl⟩ (fun h5 => ?_) (fun h5 => ?_)
    · refine z_iconst (i := 0) (v := 0) (pc' := 22) ⟨by decide +kernel, rfl⟩ (by decide) ?_
      refine z_icmp_eq (off := 7) (tgt := 29) (pc' := 25) ⟨by decide +kernel, by decide, rfl⟩ (fun h6 => ?_) (fun h6 => ?_)
      · refine z_iconst (i := 0) (v := 0) (pc' := 30) ⟨by decide +kernel, rfl⟩ (by decide) ?_
        refine z_istore (i := 4) (pc' := 32) ⟨by decide +kernel, rfl⟩ (by decide) rfl ?_
        show Wz E Y_M_times 32 [(4, .int 0), (0, .long x), (2, .long y)] [] σ K
        have z0L : (0 : Int64).toInt = 0 := by decide
        have z0 : (0 : Int32).toInt = 0 := by decide
        have z1 : (1 : Int32).toInt = 1 := by decide
        have gh1 := k_ge_f h1
        have gh5 := k_ge_t h5
        have gh6 := j_eq_t h6
        exact run_M_times_a (w_0 (by omega)) k
      · refine z_iconst (i := 1) (v := 1) (pc' := 26) ⟨by decide +kernel, rfl⟩ (by decide) ?_
        refine z_goto (off := 4) (tgt := 30) (pc' := 29) ⟨by decide +kernel, by decide, rfl⟩ ?_
        refine z_istore (i := 4) (pc' := 32) ⟨by decide +kernel, rfl⟩ (by decide) rfl ?_
        show Wz E Y_M_times 32 [(4, .int 1), (0, .long x), (2, .long y)] [] σ K
        have z0L : (0 : Int64).toInt = 0 := by decide
        have z0 : (0 : Int32).toInt = 0 := by decide
        have z1 : (1 : Int32).toInt = 1 := by decide
        have gh1 := k_ge_f h1
        have gh5 := k_ge_t h5
        have gh6 := j_eq_f h6
        exact run_M_times_a (w_1 (by omega)) k
    · refine z_iconst (i := 1) (v := 1) (pc' := 18) ⟨by decide +kernel, rfl⟩ (by decide) ?_
      refine z_goto (off := 4) (tgt := 22) (pc' := 21) ⟨by decide +kernel, by decide, rfl⟩ ?_
      refine z_icmp_eq (off := 7) (tgt := 29) (pc' := 25) ⟨by decide +kernel, by decide, rfl⟩ (fun h7 => ?_) (fun h7 => ?_)
      · refine z_iconst (i := 0) (v := 0) (pc' := 30) ⟨by decide +kernel, rfl⟩ (by decide) ?_
        refine z_istore (i := 4) (pc' := 32) ⟨by decide +kernel, rfl⟩ (by decide) rfl ?_
        show Wz E Y_M_times 32 [(4, .int 0), (0, .long x), (2, .long y)] [] σ K
        have z0L : (0 : Int64).toInt = 0 := by decide
        have z1 : (1 : Int32).toInt = 1 := by decide
        have gh1 := k_ge_f h1
        have gh5 := k_ge_f h5
        have gh7 := j_eq_t h7
        exact run_M_times_a (w_0 (by omega)) k
      · refine z_iconst (i := 1) (v := 1) (pc' := 26) ⟨by decide +kernel, rfl⟩ (by decide) ?_
        refine z_goto (off := 4) (tgt := 30) (pc' := 29) ⟨by decide +kernel, by decide, rfl⟩ ?_
        refine z_istore (i := 4) (pc' := 32) ⟨by decide +kernel, rfl⟩ (by decide) rfl ?_
        show Wz E Y_M_times 32 [(4, .int 1), (0, .long x), (2, .long y)] [] σ K
        have z0L : (0 : Int64).toInt = 0 := by decide
        have z1 : (1 : Int32).toInt = 1 := by decide
        have gh1 := k_ge_f h1
        have gh5 := k_ge_f h5
        have gh7 := j_eq_f h7
        exact run_M_times_a (w_1 (by omega)) k
theorem cz_M_times {E : xV} {σ : zS} {K : zKt} {x y : Int64} (k : ∀ v : Int64, TmR x.toInt y.toInt v.toInt → K (some (.long v)) σ) : Cz E Y_M_times [.long x, .long y] σ K := z_entry (by decide) (fun a => by rw [sl_len]; exact Nat.le_of_ble_eq_true rfl) rfl (run_M_times k)
theorem run_Re_over_e1 {E : xV} {σ : zS} {K : zKt} {x y sg a b q r : Int64} {s t i : Int32} (hx : mgF x.toInt < infF) (hy : mgF y.toInt < infF) (hx0 : mgF x.toInt ≠ 0) (hy0 : mgF y.toInt ≠ 0) (hs : SgU (¬ ((x.toInt < 0) = (y.toInt < 0))) sg) (ha : ShX x a s) (hb : ShX y b t) (hm : JdF (uF a * 2 ^ 60) (uF b) (uF q)) (hm2 : 18014398509481984 ≤ uF q) (hm3 : uF q < 9223372036854775808) (k : ∀ v : Int64, OvR x.toInt y.toInt v.toInt → K (some (.long v)) σ) : Wz E Y_Re_over 194 [(14, .int i), (8, .long r), (12, .long q), (10, .long b), (7, .int t), (6, .int s), (4, .long sg), (0, .long x), (2, .long y)] [] σ K := by
  refine z_lload (i := 4) (q := 6) (pc' := 196) ⟨by decide +kernel, rfl⟩ rfl ?_
  refine z_lload (i := 12) (q := 2) (pc' := 198) ⟨by decide +kernel, rfl⟩ rfl ?_
  refine z_lload_n (f := 0) (i := 0) (q := 7) (pc' := 199) ⟨by decide +kernel, rfl⟩ rfl rfl ?_
  refine z_invS (Z := Y_Re_exponent) (idx := 38) (As := [.long x]) (rest := [.long q, .long sg]) (nA := 1) (pc' := 202) ⟨k_4_140, k_1_13, k_4_142, by decide, by decide, by decide +kernel⟩ k_4_141 ⟨⟨by decide, by decide⟩, rfl, rfl⟩ ⟨by decide +kernel, rfl⟩ rfl rfl (Nat.le_of_ble_eq_true rfl) rfl rfl ?_
  refine cz_Re_exponent (fun v1 hv1 => ?_)
  show Wz E Y_Re_over 202 [(14, .int i), (8, .long r), (12, .long q), (10, .long b), (7, .int t), (6, .int s), (4, .long sg), (0, .long x), (2, .long y)] [.int v1, .long q, .long sg] σ K
  refine z_iload (i := 6) (q := 5) (pc' := 204) ⟨by decide +kernel, rfl⟩ rfl ?_
  refine z_isub (pc' := 205) ⟨by decide +kernel, rfl⟩ ?_
  refine z_lload_n (f := 2) (i := 2) (q := 8) (pc' := 206) ⟨by decide +kernel, rfl⟩ rfl rfl ?_
  refine z_invS (Z := Y_Re_exponent) (idx := 38) (As := [.long y]) (rest := [.int (v1 - s), .long q, .long sg]) (nA := 1) (pc' := 209) ⟨k_4_140, k_1_13, k_4_142, by decide, by decide, by decide +kernel⟩ k_4_141 ⟨⟨by decide, by decide⟩, rfl, rfl⟩ ⟨by decide +kernel, rfl⟩ rfl rfl (Nat.le_of_ble_eq_true rfl) rfl rfl ?_
  refine cz_Re_exponent (fun v2 hv2 => ?_)
  show Wz E Y_Re_over 209 [(14, .int i), (8, .long r), (12, .long q), (10, .long b), (7, .int t), (6, .int s), (4, .long sg), (0, .long x), (2, .long y)] [.int v2, .int (v1 - s), .long q, .long sg] σ K
  refine z_isub (pc' := 210) ⟨by decide +kernel, rfl⟩ ?_
  refine z_iload (i := 7) (q := 4) (pc' := 212) ⟨by decide +kernel, rfl⟩ rfl ?_
  refine z_iadd (pc' := 213) ⟨by decide +kernel, rfl⟩ ?_
  refine z_bipush (i := 60) (v := 60) (pc' := 215) ⟨by decide +kernel, rfl⟩ (by decide) ?_
  refine z_isub (pc' := 216) ⟨by decide +kernel, rfl⟩ ?_
  refine z_invS (Z := Y_Re_packed) (idx := 31) (As := [.long sg, .long q, .int ((((v1 - s) - v2) + t) - 60)]) (rest := []) (nA := 3) (pc' := 219) ⟨k_4_117, k_1_13, k_4_119, by decide, by decide, by decide +kernel⟩ k_4_118 ⟨⟨by decide, by decide⟩, rfl, rfl⟩ ⟨by decide +kernel, rfl⟩ rfl rfl (Nat.le_of_ble_eq_true rfl) rfl rfl ?_
  refine cz_Re_packed hs hm3 (oc_e ha hb hv1 hv2).2 (fun v3 hv3 => ?_)
  show Wz E Y_Re_over 219 [(14, .int i), (8, .long r), (12, .long q), (10, .long b), (7, .int t), (6, .int s), (4, .long sg), (0, .long x), (2, .long y)] [.long v3] σ K
  refine z_lret rfl (by decide +kernel) ?_
  have z0L : (0 : Int64).toInt = 0 := by decide
  exact k _ (oc_end hx hy hx0 hy0 ha hb hm hm2 hv1 hv2 hv3)
theorem run_Re_over_e2 {E : xV} {σ : zS} {K : zKt} {x y sg a b q r : Int64} {s t i : Int32} (hx : mgF x.toInt < infF) (hy : mgF y.toInt < infF) (hx0 : mgF x.toInt ≠ 0) (hy0 : mgF y.toInt ≠ 0) (hs : SgU (¬ ((x.toInt < 0) = (y.toInt < 0))) sg) (ha : ShX x a s) (hb : ShX y b t) (hm : JdF (uF a * 2 ^ 60) (uF b) (uF q)) (hm2 : 18014398509481984 ≤ uF q) (hm3 : uF q < 9223372036854775808) (k : ∀ v : Int64, OvR x.toInt y.toInt v.toInt → K (some (.long v)) σ) : Wz E Y_Re_over 194 [(12, .long q), (14, .int i), (8, .long r), (10, .long b), (7, .int t), (6, .int s), (4, .long sg), (0, .long x), (2, .long y)] [] σ K := by
  refine z_lload (i := 4) (q := 6) (pc' := 196) ⟨by decide +kernel, rfl⟩ rfl ?_
  refine z_lload (i := 12) (q := 0) (pc' := 198) ⟨by decide +kernel, rfl⟩ rfl ?_
  refine z_lload_n (f := 0) (i := 0) (q := 7) (pc' := 199) ⟨by decide +kernel, rfl⟩ rfl rfl ?_
  refine z_invS (Z := Y_Re_exponent) (idx := 38) (As := [.long x]) (rest := [.long q, .long sg]) (nA := 1) (pc' := 202) ⟨k_4_140, k_1_13, k_4_142, by decide, by decide, by decide +kernel⟩ k_4_141 ⟨⟨by decide, by decide⟩, rfl, rfl⟩ ⟨by decide +kernel, rfl⟩ rfl rfl (Nat.le_of_ble_eq_true rfl) rfl rfl ?_
  refine cz_Re_exponent (fun v1 hv1 => ?_)
  show Wz E Y_Re_over 202 [(12, .long q), (14, .int i), (8, .long r), (10, .long b), (7, .int t), (6, .int s), (4, .long sg), (0, .long x), (2, .long y)] [.int v1, .long q, .long sg] σ K
  refine z_iload (i := 6) (q := 5) (pc' := 204) ⟨by decide +kernel, rfl⟩ rfl ?_
  refine z_isub (pc' := 205) ⟨by decide +kernel, rfl⟩ ?_
  refine z_lload_n (f := 2) (i := 2) (q := 8) (pc' := 206) ⟨by decide +kernel, rfl⟩ rfl rfl ?_
  refine z_invS (Z := Y_Re_exponent) (idx := 38) (As := [.long y]) (rest := [.int (v1 - s), .long q, .long sg]) (nA := 1) (pc' := 209) ⟨k_4_140, k_1_13, k_4_142, by decide, by decide, by decide +kernel⟩ k_4_141 ⟨⟨by decide, by decide⟩, rfl, rfl⟩ ⟨by decide +kernel, rfl⟩ rfl rfl (Nat.le_of_ble_eq_true rfl) rfl rfl ?_
  refine cz_Re_exponent (fun v2 hv2 => ?_)
  show Wz E Y_Re_over 209 [(12, .long q), (14, .int i), (8, .long r), (10, .long b), (7, .int t), (6, .int s), (4, .long sg), (0, .long x), (2, .long y)] [.int v2, .int (v1 - s), .long q, .long sg] σ K
  refine z_isub (pc' := 210) ⟨by decide +kernel, rfl⟩ ?_
  refine z_iload (i := 7) (q := 4) (pc' := 212) ⟨by decide +kernel, rfl⟩ rfl ?_
  refine z_iadd (pc' := 213) ⟨by decide +kernel, rfl⟩ ?_
  refine z_bipush (i := 60) (v := 60) (pc' := 215) ⟨by decide +kernel, rfl⟩ (by decide) ?_
  refine z_isub (pc' := 216) ⟨by decide +kernel, rfl⟩ ?_
  refine z_invS (Z := Y_Re_packed) (idx := 31) (As := [.long sg, .long q, .int ((((v1 - s) - v2) + t) - 60)]) (rest := []) (nA := 3) (pc' := 219) ⟨k_4_117, k_1_13, k_4_119, by decide, by decide, by decide +kernel⟩ k_4_118 ⟨⟨by decide, by decide⟩, rfl, rfl⟩ ⟨by decide +kernel, rfl⟩ rfl rfl (Nat.le_of_ble_eq_true rfl) rfl rfl ?_
  refine cz_Re_packed hs hm3 (oc_e ha hb hv1 hv2).2 (fun v3 hv3 => ?_)
  show Wz E Y_Re_over 219 [(12, .long q), (14, .int i), (8, .long r), (10, .long b), (7, .int t), (6, .int s), (4, .long sg), (0, .long x), (2, .long y)] [.long v3] σ K
  refine z_lret rfl (by decide +kernel) ?_
  have z0L : (0 : Int64).toInt = 0 := by decide
  exact k _ (oc_end hx hy hx0 hy0 ha hb hm hm2 hv1 hv2 hv3)
theorem run_Re_over_d {E : xV} {σ : zS} {K : zKt} {x y sg a b q r : Int64} {s t i : Int32} (hx : mgF x.toInt < infF) (hy : mgF y.toInt < infF) (hx0 : mgF x.toInt ≠ 0) (hy0 : mgF y.toInt ≠ 0) (hs : SgU (¬ ((x.toInt < 0) = (y.toInt < 0))) sg) (ha : ShX x a s) (hb : ShX y b t) (h : OvI (uF a) (uF b) q r 61) (k : ∀ v : Int64, OvR x.toInt y.toInt v.toInt → K (some (.long v)) σ) : Wz E Y_Re_over 181 [(14, .int i), (8, .long r), (12, .long q), (10, .long b), (7, .int t), (6, .int s), (4, .long sg), (0, .long x), (2, .long y)] [] σ K := by
  refine z_lload (i := 8) (q := 1) (pc' := 183) ⟨by decide +kernel, rfl⟩ rfl ?_
  refine z_lconst (i := 0) (v := 0) (pc' := 184) ⟨by decide +kernel, rfl⟩ (by decide) ?_
  refine z_lcmp (pc' := 185) ⟨by decide +kernel, rfl⟩ ?_
  refine z_if_eq (off := 9) (tgt := 194) (pc' := 188) ⟨by decide +kernel, by decide, rfl⟩ (fun h1 => ?_) (fun h1 => ?_)
  · have z0L : (0 : Int64).toInt = 0 := by decide
    have gh1 := k_eq_t h1
    have j := (ovi_end ha hb h).1 (by rw [gh1, z0L])
    exact run_Re_over_e1 hx hy hx0 hy0 hs ha hb j.1 j.2.1 j.2.2 k
  · refine z_lload (i := 12) (q := 2) (pc' := 190) ⟨by decide +kernel, rfl⟩ rfl ?_
    refine z_lconst (i := 1) (v := 1) (pc' := 191) ⟨by decide +kernel, rfl⟩ (by decide) ?_
    refine z_lor (pc' := 192) ⟨by decide +kernel, rfl⟩ ?_
    refine z_lstore (i := 12) (pc' := 194) ⟨by decide +kernel, rfl⟩ (by decide) rfl ?_
    show Wz E Y_Re_over 194 [(12, .long (q ||| 1)), (14, .int i), (8, .long r), (10, .long b), (7, .int t), (6, .int s), (4, .long sg), (0, .long x), (2, .long y)] [] σ K
    have z0L : (0 : Int64).toInt = 0 := by decide
    have gh1 := k_eq_f h1
    have j := (ovi_end ha hb h).2 (by rw [← z0L]; exact gh1)
    exact run_Re_over_e2 hx hy hx0 hy0 hs ha hb j.1 j.2.1 j.2.2 k
theorem run_Re_over_l {E : xV} {σ : zS} {K : zKt} {x y sg a b : Int64} {s t : Int32} (hx : mgF x.toInt < infF) (hy : mgF y.toInt < infF) (hx0 : mgF x.toInt ≠ 0) (hy0 : mgF y.toInt ≠ 0) (hs : SgU (¬ ((x.toInt < 0) = (y.toInt < 0))) sg) (ha : ShX x a s) (hb : ShX y b t) (k : ∀ v : Int64, OvR x.toInt y.toInt v.toInt → K (some (.long v)) σ) : ∀ (j : Nat) {i : Int32} {q r : Int64} {n : Nat}, n + j = 61 → i.toInt = n → OvI (uF a) (uF b) q r n → Wz E Y_Re_over 135 [(14, .int i), (8, .long r), (12, .long q), (10, .long b), (7, .int t), (6, .int s), (4, .long sg), (0, .long x), (2, .long y)] [] σ K
  | 0, i, q, r, n, hj, hi, h => by
    refine z_iload (i := 14) (q := 0) (pc' := 137) ⟨by decide +kernel, rfl⟩ rfl ?_
    refine z_bipush (i := 60) (v := 60) (pc' := 139) ⟨by decide +kernel, rfl⟩ (by decide) ?_
    refine z_icmp_gt (off := 42) (tgt := 181) (pc' := 142) ⟨by decide +kernel, by decide, rfl⟩ (fun h1 => ?_) (fun h1 => ?_)
    · have z0L : (0 : Int64).toInt = 0 := by decide
      have z60 : (60 : Int32).toInt = 60 := by decide
      have gh1 := j_gt_t h1
      have e61 : n = 61 := by omega
      subst e61
      exact run_Re_over_d hx hy hx0 hy0 hs ha hb h k
    · have z0L : (0 : Int64).toInt = 0 := by decide
      have z60 : (60 : Int32).toInt = 60 := by decide
      have gh1 := j_gt_f h1
      exfalso
      omega
  | j + 1, i, q, r, n, hj, hi, h => by
    have ih := @run_Re_over_l E σ K x y sg a b s t hx hy hx0 hy0 hs ha hb k j
    refine z_iload (i := 14) (q := 0) (pc' := 137) ⟨by decide +kernel, rfl⟩ rfl ?_
    refine z_bipush (i := 60) (v := 60) (pc' := 139) ⟨by decide +kernel, rfl⟩ (by decide) ?_
    refine z_icmp_gt (off := 42) (tgt := 181) (pc' := 142) ⟨by decide +kernel, by decide, rfl⟩ (fun h1 => ?_) (fun h1 => ?_)
    · have z0L : (0 : Int64).toInt = 0 := by decide
      have z60 : (60 : Int32).toInt = 60 := by decide
      have gh1 := j_gt_t h1
      exfalso
      omega
    · refine z_lload (i := 12) (q := 2) (pc' := 144) ⟨by decide +kernel, rfl⟩ rfl ?_
      refine z_iconst (i := 1) (v := 1) (pc' := 145) ⟨by decide +kernel, rfl⟩ (by decide) ?_
      refine z_lshl (pc' := 146) ⟨by decide +kernel, rfl⟩ rfl ?_
      refine z_lstore (i := 12) (pc' := 148) ⟨by decide +kernel, rfl⟩ (by decide) rfl ?_
      show Wz E Y_Re_over 148 [(12, .long (q <<< (Int32.toInt64 1 &&& 63))), (14, .int i), (8, .long r), (10, .long b), (7, .int t), (6, .int s), (4, .long sg), (0, .long x), (2, .long y)] [] σ K
      refine z_lload (i := 8) (q := 2) (pc' := 150) ⟨by decide +kernel, rfl⟩ rfl ?_
      refine z_lload (i := 10) (q := 3) (pc' := 152) ⟨by decide +kernel, rfl⟩ rfl ?_
      refine z_lcmp (pc' := 153) ⟨by decide +kernel, rfl⟩ ?_
      refine z_if_lt (off := 16) (tgt := 169) (pc' := 156) ⟨by decide +kernel, by decide, rfl⟩ (fun h2 => ?_) (fun h2 => ?_)
      · refine z_lload (i := 8) (q := 2) (pc' := 171) ⟨by decide +kernel, rfl⟩ rfl ?_
        refine z_iconst (i := 1) (v := 1) (pc' := 172) ⟨by decide +kernel, rfl⟩ (by decide) ?_
        refine z_lshl (pc' := 173) ⟨by decide +kernel, rfl⟩ rfl ?_
        refine z_lstore (i := 8) (pc' := 175) ⟨by decide +kernel, rfl⟩ (by decide) rfl ?_
        show Wz E Y_Re_over 175 [(8, .long (r <<< (Int32.toInt64 1 &&& 63))), (12, .long (q <<< (Int32.toInt64 1 &&& 63))), (14, .int i), (10, .long b), (7, .int t), (6, .int s), (4, .long sg), (0, .long x), (2, .long y)] [] σ K
        refine z_iinc (i := 14) (z := 1) (q := 2) (pc' := 178) ⟨by decide +kernel, rfl⟩ rfl rfl (by decide) rfl ?_
        show Wz E Y_Re_over 178 [(14, .int (i + Int32.ofInt 1)), (8, .long (r <<< (Int32.toInt64 1 &&& 63))), (12, .long (q <<< (Int32.toInt64 1 &&& 63))), (10, .long b), (7, .int t), (6, .int s), (4, .long sg), (0, .long x), (2, .long y)] [] σ K
        refine z_goto (off := (-43)) (tgt := 135) (pc' := 181) ⟨by decide +kernel, by decide, rfl⟩ ?_
        have z0L : (0 : Int64).toInt = 0 := by decide
        have z60 : (60 : Int32).toInt = 60 := by decide
        have gh1 := j_gt_f h1
        have gh2 := k_lt_t h2
        have e1 : (Int32.ofInt 1).toInt = 1 := by decide
        exact ih (n := n + 1) (by omega) (by rw [i32_add (by rw [e1]; omega), e1]; omega) (ovi_lo h (by omega) (shx_lt hb) (by omega))
      · refine z_lload (i := 8) (q := 2) (pc' := 158) ⟨by decide +kernel, rfl⟩ rfl ?_
        refine z_lload (i := 10) (q := 3) (pc' := 160) ⟨by decide +kernel, rfl⟩ rfl ?_
        refine z_lsub (pc' := 161) ⟨by decide +kernel, rfl⟩ ?_
        refine z_lstore (i := 8) (pc' := 163) ⟨by decide +kernel, rfl⟩ (by decide) rfl ?_
        show Wz E Y_Re_over 163 [(8, .long (r - b)), (12, .long (q <<< (Int32.toInt64 1 &&& 63))), (14, .int i), (10, .long b), (7, .int t), (6, .int s), (4, .long sg), (0, .long x), (2, .long y)] [] σ K
        refine z_lload (i := 12) (q := 1) (pc' := 165) ⟨by decide +kernel, rfl⟩ rfl ?_
        refine z_lconst (i := 1) (v := 1) (pc' := 166) ⟨by decide +kernel, rfl⟩ (by decide) ?_
        refine z_lor (pc' := 167) ⟨by decide +kernel, rfl⟩ ?_
        refine z_lstore (i := 12) (pc' := 169) ⟨by decide +kernel, rfl⟩ (by decide) rfl ?_
        show Wz E Y_Re_over 169 [(12, .long ((q <<< (Int32.toInt64 1 &&& 63)) ||| 1)), (8, .long (r - b)), (14, .int i), (10, .long b), (7, .int t), (6, .int s), (4, .long sg), (0, .long x), (2, .long y)] [] σ K
        refine z_lload (i := 8) (q := 1) (pc' := 171) ⟨by decide +kernel, rfl⟩ rfl ?_
        refine z_iconst (i := 1) (v := 1) (pc' := 172) ⟨by decide +kernel, rfl⟩ (by decide) ?_
        refine z_lshl (pc' := 173) ⟨by decide +kernel, rfl⟩ rfl ?_
        refine z_lstore (i := 8) (pc' := 175) ⟨by decide +kernel, rfl⟩ (by decide) rfl ?_
        show Wz E Y_Re_over 175 [(8, .long ((r - b) <<< (Int32.toInt64 1 &&& 63))), (12, .long ((q <<< (Int32.toInt64 1 &&& 63)) ||| 1)), (14, .int i), (10, .long b), (7, .int t), (6, .int s), (4, .long sg), (0, .long x), (2, .long y)] [] σ K
        refine z_iinc (i := 14) (z := 1) (q := 2) (pc' := 178) ⟨by decide +kernel, rfl⟩ rfl rfl (by decide) rfl ?_
        show Wz E Y_Re_over 178 [(14, .int (i + Int32.ofInt 1)), (8, .long ((r - b) <<< (Int32.toInt64 1 &&& 63))), (12, .long ((q <<< (Int32.toInt64 1 &&& 63)) ||| 1)), (10, .long b), (7, .int t), (6, .int s), (4, .long sg), (0, .long x), (2, .long y)] [] σ K
        refine z_goto (off := (-43)) (tgt := 135) (pc' := 181) ⟨by decide +kernel, by decide, rfl⟩ ?_
        have z0L : (0 : Int64).toInt = 0 := by decide
        have z60 : (60 : Int32).toInt = 60 := by decide
        have gh1 := j_gt_f h1
        have gh2 := k_lt_f h2
        have e1 : (Int32.ofInt 1).toInt = 1 := by decide
        exact ih (n := n + 1) (by omega) (by rw [i32_add (by rw [e1]; omega), e1]; omega) (ovi_hi h (by omega) (shx_lt hb) (by omega))
theorem run_Re_over_c {E : xV} {σ : zS} {K : zKt} {x y sg a b : Int64} {s t : Int32} (hx : mgF x.toInt < infF) (hy : mgF y.toInt < infF) (hx0 : mgF x.toInt ≠ 0) (hy0 : mgF y.toInt ≠ 0) (hs : SgU (¬ ((x.toInt < 0) = (y.toInt < 0))) sg) (ha : ShX x a s) (hb : ShX y b t) (k : ∀ v : Int64, OvR x.toInt y.toInt v.toInt → K (some (.long v)) σ) : Wz E Y_Re_over 129 [(10, .long b), (8, .long a), (7, .int t), (6, .int s), (4, .long sg), (0, .long x), (2, .long y)] [] σ K := by
  refine z_lconst (i := 0) (v := 0) (pc' := 130) ⟨by decide +kernel, rfl⟩ (by decide) ?_
  refine z_lstore (i := 12) (pc' := 132) ⟨by decide +kernel, rfl⟩ (by decide) rfl ?_
  show Wz E Y_Re_over 132 [(12, .long 0), (10, .long b), (8, .long a), (7, .int t), (6, .int s), (4, .long sg), (0, .long x), (2, .long y)] [] σ K
  refine z_iconst (i := 0) (v := 0) (pc' := 133) ⟨by decide +kernel, rfl⟩ (by decide) ?_
  refine z_istore (i := 14) (pc' := 135) ⟨by decide +kernel, rfl⟩ (by decide) rfl ?_
  show Wz E Y_Re_over 135 [(14, .int 0), (12, .long 0), (10, .long b), (8, .long a), (7, .int t), (6, .int s), (4, .long sg), (0, .long x), (2, .long y)] [] σ K
  refine z_iload (i := 14) (q := 0) (pc' := 137) ⟨by decide +kernel, rfl⟩ rfl ?_
  refine z_bipush (i := 60) (v := 60) (pc' := 139) ⟨by decide +kernel, rfl⟩ (by decide) ?_
  refine z_icmp_gt (off := 42) (tgt := 181) (pc' := 142) ⟨by decide +kernel, by decide, rfl⟩ (fun h1 => ?_) (fun h1 => ?_)
  · have z0L : (0 : Int64).toInt = 0 := by decide
    have z0 : (0 : Int32).toInt = 0 := by decide
    have z60 : (60 : Int32).toInt = 60 := by decide
    have gh1 := j_gt_t h1
    exfalso
    omega
  · refine z_lload (i := 12) (q := 1) (pc' := 144) ⟨by decide +kernel, rfl⟩ rfl ?_
    refine z_iconst (i := 1) (v := 1) (pc' := 145) ⟨by decide +kernel, rfl⟩ (by decide) ?_
    refine z_lshl (pc' := 146) ⟨by decide +kernel, rfl⟩ rfl ?_
    refine z_lstore (i := 12) (pc' := 148) ⟨by decide +kernel, rfl⟩ (by decide) rfl ?_
    show Wz E Y_Re_over 148 [(12, .long (0 <<< (Int32.toInt64 1 &&& 63))), (14, .int 0), (10, .long b), (8, .long a), (7, .int t), (6, .int s), (4, .long sg), (0, .long x), (2, .long y)] [] σ K
    refine z_lload (i := 8) (q := 3) (pc' := 150) ⟨by decide +kernel, rfl⟩ rfl ?_
    refine z_lload (i := 10) (q := 2) (pc' := 152) ⟨by decide +kernel, rfl⟩ rfl ?_
    refine z_lcmp (pc' := 153) ⟨by decide +kernel, rfl⟩ ?_
    refine z_if_lt (off := 16) (tgt := 169) (pc' := 156) ⟨by decide +kernel, by decide, rfl⟩ (fun h2 => ?_) (fun h2 => ?_)
    · refine z_lload (i := 8) (q := 3) (pc' := 171) ⟨by decide +kernel, rfl⟩ rfl ?_
      refine z_iconst (i := 1) (v := 1) (pc' := 172) ⟨by decide +kernel, rfl⟩ (by decide) ?_
      refine z_lshl (pc' := 173) ⟨by decide +kernel, rfl⟩ rfl ?_
      refine z_lstore (i := 8) (pc' := 175) ⟨by decide +kernel, rfl⟩ (by decide) rfl ?_
      show Wz E Y_Re_over 175 [(8, .long (a <<< (Int32.toInt64 1 &&& 63))), (12, .long (0 <<< (Int32.toInt64 1 &&& 63))), (14, .int 0), (10, .long b), (7, .int t), (6, .int s), (4, .long sg), (0, .long x), (2, .long y)] [] σ K
      refine z_iinc (i := 14) (z := 1) (q := 2) (pc' := 178) ⟨by decide +kernel, rfl⟩ rfl rfl (by decide) rfl ?_
      show Wz E Y_Re_over 178 [(14, .int (0 + Int32.ofInt 1)), (8, .long (a <<< (Int32.toInt64 1 &&& 63))), (12, .long (0 <<< (Int32.toInt64 1 &&& 63))), (10, .long b), (7, .int t), (6, .int s), (4, .long sg), (0, .long x), (2, .long y)] [] σ K
      refine z_goto (off := (-43)) (tgt := 135) (pc' := 181) ⟨by decide +kernel, by decide, rfl⟩ ?_
      have z0L : (0 : Int64).toInt = 0 := by decide
      have z0 : (0 : Int32).toInt = 0 := by decide
      have z60 : (60 : Int32).toInt = 60 := by decide
      have gh1 := j_gt_f h1
      have gh2 := k_lt_t h2
      have h := ovi_0 ha hb
      exact run_Re_over_l hx hy hx0 hy0 hs ha hb k 60 (n := 1) (by omega) (by decide) (ovi_lo h (by omega) (shx_lt hb) (by omega))
    · refine z_lload (i := 8) (q := 3) (pc' := 158) ⟨by decide +kernel, rfl⟩ rfl ?_
      refine z_lload (i := 10) (q := 2) (pc' := 160) ⟨by decide +kernel, rfl⟩ rfl ?_
      refine z_lsub (pc' := 161) ⟨by decide +kernel, rfl⟩ ?_
      refine z_lstore (i := 8) (pc' := 163) ⟨by decide +kernel, rfl⟩ (by decide) rfl ?_
      show Wz E Y_Re_over 163 [(8, .long (a - b)), (12, .long (0 <<< (Int32.toInt64 1 &&& 63))), (14, .int 0), (10, .long b), (7, .int t), (6, .int s), (4, .long sg), (0, .long x), (2, .long y)] [] σ K
      refine z_lload (i := 12) (q := 1) (pc' := 165) ⟨by decide +kernel, rfl⟩ rfl ?_
      refine z_lconst (i := 1) (v := 1) (pc' := 166) ⟨by decide +kernel, rfl⟩ (by decide) ?_
      refine z_lor (pc' := 167) ⟨by decide +kernel, rfl⟩ ?_
      refine z_lstore (i := 12) (pc' := 169) ⟨by decide +kernel, rfl⟩ (by decide) rfl ?_
      show Wz E Y_Re_over 169 [(12, .long ((0 <<< (Int32.toInt64 1 &&& 63)) ||| 1)), (8, .long (a - b)), (14, .int 0), (10, .long b), (7, .int t), (6, .int s), (4, .long sg), (0, .long x), (2, .long y)] [] σ K
      refine z_lload (i := 8) (q := 1) (pc' := 171) ⟨by decide +kernel, rfl⟩ rfl ?_
      refine z_iconst (i := 1) (v := 1) (pc' := 172) ⟨by decide +kernel, rfl⟩ (by decide) ?_
      refine z_lshl (pc' := 173) ⟨by decide +kernel, rfl⟩ rfl ?_
      refine z_lstore (i := 8) (pc' := 175) ⟨by decide +kernel, rfl⟩ (by decide) rfl ?_
      show Wz E Y_Re_over 175 [(8, .long ((a - b) <<< (Int32.toInt64 1 &&& 63))), (12, .long ((0 <<< (Int32.toInt64 1 &&& 63)) ||| 1)), (14, .int 0), (10, .long b), (7, .int t), (6, .int s), (4, .long sg), (0, .long x), (2, .long y)] [] σ K
      refine z_iinc (i := 14) (z := 1) (q := 2) (pc' := 178) ⟨by decide +kernel, rfl⟩ rfl rfl (by decide) rfl ?_
      show Wz E Y_Re_over 178 [(14, .int (0 + Int32.ofInt 1)), (8, .long ((a - b) <<< (Int32.toInt64 1 &&& 63))), (12, .long ((0 <<< (Int32.toInt64 1 &&& 63)) ||| 1)), (10, .long b), (7, .int t), (6, .int s), (4, .long sg), (0, .long x), (2, .long y)] [] σ K
      refine z_goto (off := (-43)) (tgt := 135) (pc' := 181) ⟨by decide +kernel, by decide, rfl⟩ ?_
      have z0L : (0 : Int64).toInt = 0 := by decide
      have z0 : (0 : Int32).toInt = 0 := by decide
      have z60 : (60 : Int32).toInt = 60 := by decide
      have gh1 := j_gt_f h1
      have gh2 := k_lt_f h2
      have h := ovi_0 ha hb
      exact run_Re_over_l hx hy hx0 hy0 hs ha hb k 60 (n := 1) (by omega) (by decide) (ovi_hi h (by omega) (shx_lt hb) (by omega))
theorem run_Re_over_b {E : xV} {σ : zS} {K : zKt} {x y sg : Int64} (hx : mgF x.toInt < infF) (hy : mgF y.toInt < infF) (hx0 : mgF x.toInt ≠ 0) (hy0 : mgF y.toInt ≠ 0) (hs : SgU (¬ ((x.toInt < 0) = (y.toInt < 0))) sg) (k : ∀ v : Int64, OvR x.toInt y.toInt v.toInt → K (some (.long v)) σ) : Wz E Y_Re_over 93 [(4, .long sg), (0, .long x), (2, .long y)] [] σ K := by
  refine z_lload_n (f := 0) (i := 0) (q := 1) (pc' := 94) ⟨by decide +kernel, rfl⟩ rfl rfl ?_
  refine z_invS (Z := Y_Re_mantissa) (idx := 42) (As := [.long x]) (rest := []) (nA := 1) (pc' := 97) ⟨k_4_132, k_1_13, k_4_134, by decide, by decide, by decide +kernel⟩ k_4_133 ⟨⟨by decide, by decide⟩, rfl, rfl⟩ ⟨by decide +kernel, rfl⟩ rfl rfl (Nat.le_of_ble_eq_true rfl) rfl rfl ?_
  refine cz_Re_mantissa (fun v1 hv1 => ?_)
  show Wz E Y_Re_over 97 [(4, .long sg), (0, .long x), (2, .long y)] [.long v1] σ K
  refine z_invS (Z := Y_Re_shortage) (idx := 49) (As := [.long v1]) (rest := []) (nA := 1) (pc' := 100) ⟨k_4_137, k_1_13, k_4_139, by decide, by decide, by decide +kernel⟩ k_4_138 ⟨⟨by decide, by decide⟩, rfl, rfl⟩ ⟨by decide +kernel, rfl⟩ rfl rfl (Nat.le_of_ble_eq_true rfl) rfl rfl ?_
  refine cz_Re_shortage (hm := by rw [hv1]; exact mz_pos hx0) (hb := by rw [hv1]; exact mz_lt _) (fun v2 hv2 => ?_)
  show Wz E Y_Re_over 100 [(4, .long sg), (0, .long x), (2, .long y)] [.int v2] σ K
  refine z_istore (i := 6) (pc' := 102) ⟨by decide +kernel, rfl⟩ (by decide) rfl ?_
  show Wz E Y_Re_over 102 [(6, .int v2), (4, .long sg), (0, .long x), (2, .long y)] [] σ K
  refine z_lload_n (f := 2) (i := 2) (q := 3) (pc' := 103) ⟨by decide +kernel, rfl⟩ rfl rfl ?_
  refine z_invS (Z := Y_Re_mantissa) (idx := 42) (As := [.long y]) (rest := []) (nA := 1) (pc' := 106) ⟨k_4_132, k_1_13, k_4_134, by decide, by decide, by decide +kernel⟩ k_4_133 ⟨⟨by decide, by decide⟩, rfl, rfl⟩ ⟨by decide +kernel, rfl⟩ rfl rfl (Nat.le_of_ble_eq_true rfl) rfl rfl ?_
  refine cz_Re_mantissa (fun v3 hv3 => ?_)
  show Wz E Y_Re_over 106 [(6, .int v2), (4, .long sg), (0, .long x), (2, .long y)] [.long v3] σ K
  refine z_invS (Z := Y_Re_shortage) (idx := 49) (As := [.long v3]) (rest := []) (nA := 1) (pc' := 109) ⟨k_4_137, k_1_13, k_4_139, by decide, by decide, by decide +kernel⟩ k_4_138 ⟨⟨by decide, by decide⟩, rfl, rfl⟩ ⟨by decide +kernel, rfl⟩ rfl rfl (Nat.le_of_ble_eq_true rfl) rfl rfl ?_
  refine cz_Re_shortage (hm := by rw [hv3]; exact mz_pos hy0) (hb := by rw [hv3]; exact mz_lt _) (fun v4 hv4 => ?_)
  show Wz E Y_Re_over 109 [(6, .int v2), (4, .long sg), (0, .long x), (2, .long y)] [.int v4] σ K
  refine z_istore (i := 7) (pc' := 111) ⟨by decide +kernel, rfl⟩ (by decide) rfl ?_
  show Wz E Y_Re_over 111 [(7, .int v4), (6, .int v2), (4, .long sg), (0, .long x), (2, .long y)] [] σ K
  refine z_lload_n (f := 0) (i := 0) (q := 3) (pc' := 112) ⟨by decide +kernel, rfl⟩ rfl rfl ?_
  refine z_invS (Z := Y_Re_mantissa) (idx := 42) (As := [.long x]) (rest := []) (nA := 1) (pc' := 115) ⟨k_4_132, k_1_13, k_4_134, by decide, by decide, by decide +kernel⟩ k_4_133 ⟨⟨by decide, by decide⟩, rfl, rfl⟩ ⟨by decide +kernel, rfl⟩ rfl rfl (Nat.le_of_ble_eq_true rfl) rfl rfl ?_
  refine cz_Re_mantissa (fun v5 hv5 => ?_)
  show Wz E Y_Re_over 115 [(7, .int v4), (6, .int v2), (4, .long sg), (0, .long x), (2, .long y)] [.long v5] σ K
  refine z_iload (i := 6) (q := 1) (pc' := 117) ⟨by decide +kernel, rfl⟩ rfl ?_
  refine z_lshl (pc' := 118) ⟨by decide +kernel, rfl⟩ rfl ?_
  refine z_lstore (i := 8) (pc' := 120) ⟨by decide +kernel, rfl⟩ (by decide) rfl ?_
  show Wz E Y_Re_over 120 [(8, .long (v5 <<< (Int32.toInt64 v2 &&& 63))), (7, .int v4), (6, .int v2), (4, .long sg), (0, .long x), (2, .long y)] [] σ K
  refine z_lload_n (f := 2) (i := 2) (q := 5) (pc' := 121) ⟨by decide +kernel, rfl⟩ rfl rfl ?_
  refine z_invS (Z := Y_Re_mantissa) (idx := 42) (As := [.long y]) (rest := []) (nA := 1) (pc' := 124) ⟨k_4_132, k_1_13, k_4_134, by decide, by decide, by decide +kernel⟩ k_4_133 ⟨⟨by decide, by decide⟩, rfl, rfl⟩ ⟨by decide +kernel, rfl⟩ rfl rfl (Nat.le_of_ble_eq_true rfl) rfl rfl ?_
  refine cz_Re_mantissa (fun v6 hv6 => ?_)
  show Wz E Y_Re_over 124 [(8, .long (v5 <<< (Int32.toInt64 v2 &&& 63))), (7, .int v4), (6, .int v2), (4, .long sg), (0, .long x), (2, .long y)] [.long v6] σ K
  refine z_iload (i := 7) (q := 1) (pc' := 126) ⟨by decide +kernel, rfl⟩ rfl ?_
  refine z_lshl (pc' := 127) ⟨by decide +kernel, rfl⟩ rfl ?_
  refine z_lstore (i := 10) (pc' := 129) ⟨by decide +kernel, rfl⟩ (by decide) rfl ?_
  show Wz E Y_Re_over 129 [(10, .long (v6 <<< (Int32.toInt64 v4 &&& 63))), (8, .long (v5 <<< (Int32.toInt64 v2 &&& 63))), (7, .int v4), (6, .int v2), (4, .long sg), (0, .long x), (2, .long y)] [] σ K
  have z0L : (0 : Int64).toInt = 0 := by decide
  exact run_Re_over_c hx hy hx0 hy0 hs (shx_ok hv1 hv5 hv2) (shx_ok hv3 hv6 hv4) k

end
