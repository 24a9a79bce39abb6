section
theorem run_Re_times {E : xV} {σ : zS} {K : zKt} {x y : Int64} (k : ∀ v : Int64, TmR x.toInt y.toInt v.toInt → K (some (.long v)) σ) : Wz E Y_Re_times 0 [(0, .long x), (2, .long y)] [] σ K := by
  refine z_lload_n (f := 0) (i := 0) (q := 0) (pc' := 1) ⟨by decide +kernel, rfl⟩ rfl rfl ?_
  refine z_lload_n (f := 2) (i := 2) (q := 1) (pc' := 2) ⟨by decide +kernel, rfl⟩ rfl rfl ?_
  refine z_lxor (pc' := 3) ⟨by decide +kernel, rfl⟩ ?_
  refine z_ldc2 (i := 19) (v := (-9223372036854775808)) (pc' := 6) ⟨by decide +kernel, rfl⟩ k_4_115 ?_
  refine z_land (pc' := 7) ⟨by decide +kernel, rfl⟩ ?_
  refine z_lstore (i := 4) (pc' := 9) ⟨by decide +kernel, rfl⟩ (by decide) rfl ?_
  show Wz E Y_Re_times 9 [(4, .long ((x ^^^ y) &&& (-9223372036854775808))), (0, .long x), (2, .long y)] [] σ K
  refine z_lload_n (f := 0) (i := 0) (q := 1) (pc' := 10) ⟨by decide +kernel, rfl⟩ rfl rfl ?_
  refine z_invS (Z := Y_Re_isNoNumber) (idx := 13) (As := [.long x]) (rest := []) (nA := 1) (pc' := 13) ⟨k_4_124, k_1_13, k_3_235, by decide, by decide, by decide +kernel⟩ k_3_234 ⟨⟨by decide, by decide⟩, rfl, rfl⟩ ⟨by decide +kernel, rfl⟩ rfl rfl (Nat.le_of_ble_eq_true rfl) rfl rfl ?_
  refine cz_Re_isNoNumber (fun v1 hv1 => ?_)
  show Wz E Y_Re_times 13 [(4, .long ((x ^^^ y) &&& (-9223372036854775808))), (0, .long x), (2, .long y)] [.int v1] σ K
  refine z_if_ne (off := 38) (tgt := 51) (pc' := 16) ⟨by decide +kernel, by decide, rfl⟩ (fun h2 => ?_) (fun h2 => ?_)
  · refine z_ldc2 (i := 17) (v := 9221120237041090560) (pc' := 54) ⟨by decide +kernel, rfl⟩ k_4_131 ?_
    refine z_lret rfl (by decide +kernel) ?_
    have z0L : (0 : Int64).toInt = 0 := by decide
    have gh2 := p3_t hv1 h2
    exact k _ (tm_nan (by omega))
  · refine z_lload_n (f := 2) (i := 2) (q := 2) (pc' := 17) ⟨by decide +kernel, rfl⟩ rfl rfl ?_
    refine z_invS (Z := Y_Re_isNoNumber) (idx := 13) (As := [.long y]) (rest := []) (nA := 1) (pc' := 20) ⟨k_4_124, k_1_13, k_3_235, by decide, by decide, by decide +kernel⟩ k_3_234 ⟨⟨by decide, by decide⟩, rfl, rfl⟩ ⟨by decide +kernel, rfl⟩ rfl rfl (Nat.le_of_ble_eq_true rfl) rfl rfl ?_
    refine cz_Re_isNoNumber (fun v3 hv3 => ?_)
    show Wz E Y_Re_times 20 [(4, .long ((x ^^^ y) &&& (-9223372036854775808))), (0, .long x), (2, .long y)] [.int v3] σ K
    refine z_if_ne (off := 31) (tgt := 51) (pc' := 23) ⟨by decide +kernel, by decide, rfl⟩ (fun h4 => ?_) (fun h4 => ?_)
    · refine z_ldc2 (i := 17) (v := 9221120237041090560) (pc' := 54) ⟨by decide +kernel, rfl⟩ k_4_131 ?_
      refine z_lret rfl (by decide +kernel) ?_
      have z0L : (0 : Int64).toInt = 0 := by decide
      have gh2 := p3_f hv1 h2
      have gh4 := p3_t hv3 h4
      exact k _ (tm_nan (by omega))
    · refine z_lload_n (f := 0) (i := 0) (q := 1) (pc' := 24) ⟨by decide +kernel, rfl⟩ rfl rfl ?_
      refine z_invS (Z := Y_Re_isEndless) (idx := 35) (As := [.long x]) (rest := []) (nA := 1) (pc' := 27) ⟨k_4_125, k_1_13, k_4_127, by decide, by decide, by decide +kernel⟩ k_4_126 ⟨⟨by decide, by decide⟩, rfl, rfl⟩ ⟨by decide +kernel, rfl⟩ rfl rfl (Nat.le_of_ble_eq_true rfl) rfl rfl ?_
      refine cz_Re_isEndless (fun v5 hv5 => ?_)
      show Wz E Y_Re_times 27 [(4, .long ((x ^^^ y) &&& (-9223372036854775808))), (0, .long x), (2, .long y)] [.int v5] σ K
      refine z_if_eq (off := 10) (tgt := 37) (pc' := 30) ⟨by decide +kernel, by decide, rfl⟩ (fun h6 => ?_) (fun h6 => ?_)
      · refine z_lload_n (f := 0) (i := 0) (q := 1) (pc' := 38) ⟨by decide +kernel, rfl⟩ rfl rfl ?_
        refine z_invS (Z := Y_Re_isZero) (idx := 46) (As := [.long x]) (rest := []) (nA := 1) (pc' := 41) ⟨k_4_128, k_1_13, k_4_130, by decide, by decide, by decide +kernel⟩ k_4_129 ⟨⟨by decide, by decide⟩, rfl, rfl⟩ ⟨by decide +kernel, rfl⟩ rfl rfl (Nat.le_of_ble_eq_true rfl) rfl rfl ?_
        refine cz_Re_isZero (fun v7 hv7 => ?_)
        show Wz E Y_Re_times 41 [(4, .long ((x ^^^ y) &&& (-9223372036854775808))), (0, .long x), (2, .long y)] [.int v7] σ K
        refine z_if_eq (off := 14) (tgt := 55) (pc' := 44) ⟨by decide +kernel, by decide, rfl⟩ (fun h8 => ?_) (fun h8 => ?_)
        · refine z_lload_n (f := 0) (i := 0) (q := 1) (pc' := 56) ⟨by decide +kernel, rfl⟩ rfl rfl ?_
          refine z_invS (Z := Y_Re_isEndless) (idx := 35) (As := [.long x]) (rest := []) (nA := 1) (pc' := 59) ⟨k_4_125, k_1_13, k_4_127, by decide, by decide, by decide +kernel⟩ k_4_126 ⟨⟨by decide, by decide⟩, rfl, rfl⟩ ⟨by decide +kernel, rfl⟩ rfl rfl (Nat.le_of_ble_eq_true rfl) rfl rfl ?_
          refine cz_Re_isEndless (fun v9 hv9 => ?_)
          show Wz E Y_Re_times 59 [(4, .long ((x ^^^ y) &&& (-9223372036854775808))), (0, .long x), (2, .long y)] [.int v9] σ K
          refine z_if_ne (off := 10) (tgt := 69) (pc' := 62) ⟨by decide +kernel, by decide, rfl⟩ (fun h10 => ?_) (fun h10 => ?_)
          · refine z_lload (i := 4) (q := 0) (pc' := 71) ⟨by decide +kernel, rfl⟩ rfl ?_
            refine z_ldc2 (i := 11) (v := 9218868437227405312) (pc' := 74) ⟨by decide +kernel, rfl⟩ k_3_237 ?_
            refine z_lor (pc' := 75) ⟨by decide +kernel, rfl⟩ ?_
            refine z_lret rfl (by decide +kernel) ?_
            have z0L : (0 : Int64).toInt = 0 := by decide
            have gh2 := p3_f hv1 h2
            have gh4 := p3_f hv3 h4
            have gh6 := p3_f hv5 h6
            have gh8 := p3_f hv7 h8
            have gh10 := p3_t hv9 h10
            exact k _ (tm_inf (by omega) (by omega) (sg_put (sg_xor x y) u_infF (by decide)))
          · refine z_lload_n (f := 2) (i := 2) (q := 2) (pc' := 63) ⟨by decide +kernel, rfl⟩ rfl rfl ?_
            refine z_invS (Z := Y_Re_isEndless) (idx := 35) (As := [.long y]) (rest := []) (nA := 1) (pc' := 66) ⟨k_4_125, k_1_13, k_4_127, by decide, by decide, by decide +kernel⟩ k_4_126 ⟨⟨by decide, by decide⟩, rfl, rfl⟩ ⟨by decide +kernel, rfl⟩ rfl rfl (Nat.le_of_ble_eq_true rfl) rfl rfl ?_
            refine cz_Re_isEndless (fun v11 hv11 => ?_)
            show Wz E Y_Re_times 66 [(4, .long ((x ^^^ y) &&& (-9223372036854775808))), (0, .long x), (2, .long y)] [.int v11] σ K
            refine z_if_eq (off := 10) (tgt := 76) (pc' := 69) ⟨by decide +kernel, by decide, rfl⟩ (fun h12 => ?_) (fun h12 => ?_)
            · refine z_lload_n (f := 0) (i := 0) (q := 1) (pc' := 77) ⟨by decide +kernel, rfl⟩ rfl rfl ?_
              refine z_invS (Z := Y_Re_isZero) (idx := 46) (As := [.long x]) (rest := []) (nA := 1) (pc' := 80) ⟨k_4_128, k_1_13, k_4_130, by decide, by decide, by decide +kernel⟩ k_4_129 ⟨⟨by decide, by decide⟩, rfl, rfl⟩ ⟨by decide +kernel, rfl⟩ rfl rfl (Nat.le_of_ble_eq_true rfl) rfl rfl ?_
              refine cz_Re_isZero (fun v13 hv13 => ?_)
              show Wz E Y_Re_times 80 [(4, .long ((x ^^^ y) &&& (-9223372036854775808))), (0, .long x), (2, .long y)] [.int v13] σ K
              refine z_if_ne (off := 10) (tgt := 90) (pc' := 83) ⟨by decide +kernel, by decide, rfl⟩ (fun h14 => ?_) (fun h14 => ?_)
              · refine z_lload (i := 4) (q := 0) (pc' := 92) ⟨by decide +kernel, rfl⟩ rfl ?_
                refine z_lret rfl (by decide +kernel) ?_
                have z0L : (0 : Int64).toInt = 0 := by decide
                have gh2 := p3_f hv1 h2
                have gh4 := p3_f hv3 h4
                have gh6 := p3_f hv5 h6
                have gh8 := p3_f hv7 h8
                have gh10 := p3_f hv9 h10
                have gh12 := p3_f hv11 h12
                have gh14 := p3_t hv13 h14
                exact k _ (tm_zero (by omega) (by omega) (by omega) (sg_self (sg_xor x y)))
              · refine z_lload_n (f := 2) (i := 2) (q := 2) (pc' := 84) ⟨by decide +kernel, rfl⟩ rfl rfl ?_
                refine z_invS (Z := Y_Re_isZero) (idx := 46) (As := [.long y]) (rest := []) (nA := 1) (pc' := 87) ⟨k_4_128, k_1_13, k_4_130, by decide, by decide, by decide +kernel⟩ k_4_129 ⟨⟨by decide, by decide⟩, rfl, rfl⟩ ⟨by decide +kernel, rfl⟩ rfl rfl (Nat.le_of_ble_eq_true rfl) rfl rfl ?_
                refine cz_Re_isZero (fun v15 hv15 => ?_)
                show Wz E Y_Re_times 87 [(4, .long ((x ^^^ y) &&& (-9223372036854775808))), (0, .long x), (2, .long y)] [.int v15] σ K
                refine z_if_eq (off := 6) (tgt := 93) (pc' := 90) ⟨by decide +kernel, by decide, rfl⟩ (fun h16 => ?_) (fun h16 => ?_)
                · have z0L : (0 : Int64).toInt = 0 := by decide
                  have gh2 := p3_f hv1 h2
                  have gh4 := p3_f hv3 h4
                  have gh6 := p3_f hv5 h6
                  have gh8 := p3_f hv7 h8
                  have gh10 := p3_f hv9 h10
                  have gh12 := p3_f hv11 h12
                  have gh14 := p3_f hv13 h14
                  have gh16 := p3_f hv15 h16
                  exact run_Re_times_b (by omega) (by omega) (by omega) (by omega) (sg_xor x y) k
                · refine z_lload (i := 4) (q := 0) (pc' := 92) ⟨by decide +kernel, rfl⟩ rfl ?_
                  refine z_lret rfl (by decide +kernel) ?_
                  have z0L : (0 : Int64).toInt = 0 := by decide
                  have gh2 := p3_f hv1 h2
                  have gh4 := p3_f hv3 h4
                  have gh6 := p3_f hv5 h6
                  have gh8 := p3_f hv7 h8
                  have gh10 := p3_f hv9 h10
                  have gh12 := p3_f hv11 h12
                  have gh14 := p3_f hv13 h14
                  have gh16 := p3_t hv15 h16
                  exact k _ (tm_zero (by omega) (by omega) (by omega) (sg_self (sg_xor x y)))
            · refine z_lload (i := 4) (q := 0) (pc' := 71) ⟨by decide +kernel, rfl⟩ rfl ?_
              refine z_ldc2 (i := 11) (v := 9218868437227405312) (pc' := 74) ⟨by decide +kernel, rfl⟩ k_3_237 ?_
              refine z_lor (pc' := 75) ⟨by decide +kernel, rfl⟩ ?_
              refine z_lret rfl (by decide +kernel) ?_
              have z0L : (0 : Int64).toInt = 0 := by decide
              have gh2 := p3_f hv1 h2
              have gh4 := p3_f hv3 h4
              have gh6 := p3_f hv5 h6
              have gh8 := p3_f hv7 h8
              have gh10 := p3_f hv9 h10
              have gh12 := p3_t hv11 h12
              exact k _ (tm_inf (by omega) (by omega) (sg_put (sg_xor x y) u_infF (by decide)))
        · refine z_lload_n (f := 2) (i := 2) (q := 2) (pc' := 45) ⟨by decide +kernel, rfl⟩ rfl rfl ?_
          refine z_invS (Z := Y_Re_isEndless) (idx := 35) (As := [.long y]) (rest := []) (nA := 1) (pc' := 48) ⟨k_4_125, k_1_13, k_4_127, by decide, by decide, by decide +kernel⟩ k_4_126 ⟨⟨by decide, by decide⟩, rfl, rfl⟩ ⟨by decide +kernel, rfl⟩ rfl rfl (Nat.le_of_ble_eq_true rfl) rfl rfl ?_
          refine cz_Re_isEndless (fun v17 hv17 => ?_)
          show Wz E Y_Re_times 48 [(4, .long ((x ^^^ y) &&& (-9223372036854775808))), (0, .long x), (2, .long y)] [.int v17] σ K
          refine z_if_eq (off := 7) (tgt := 55) (pc' := 51) ⟨by decide +kernel, by decide, rfl⟩ (fun h18 => ?_) (fun h18 => ?_)
          · refine z_lload_n (f := 0) (i := 0) (q := 1) (pc' := 56) ⟨by decide +kernel, rfl⟩ rfl rfl ?_
            refine z_invS (Z := Y_Re_isEndless) (idx := 35) (As := [.long x]) (rest := []) (nA := 1) (pc' := 59) ⟨k_4_125, k_1_13, k_4_127, by decide, by decide, by decide +kernel⟩ k_4_126 ⟨⟨by decide, by decide⟩, rfl, rfl⟩ ⟨by decide +kernel, rfl⟩ rfl rfl (Nat.le_of_ble_eq_true rfl) rfl rfl ?_
            refine cz_Re_isEndless (fun v19 hv19 => ?_)
            show Wz E Y_Re_times 59 [(4, .long ((x ^^^ y) &&& (-9223372036854775808))), (0, .long x), (2, .long y)] [.int v19] σ K
            refine z_if_ne (off := 10) (tgt := 69) (pc' := 62) ⟨by decide +kernel, by decide, rfl⟩ (fun h20 => ?_) (fun h20 => ?_)
            · refine z_lload (i := 4) (q := 0) (pc' := 71) ⟨by decide +kernel, rfl⟩ rfl ?_
              refine z_ldc2 (i := 11) (v := 9218868437227405312) (pc' := 74) ⟨by decide +kernel, rfl⟩ k_3_237 ?_
              refine z_lor (pc' := 75) ⟨by decide +kernel, rfl⟩ ?_
              refine z_lret rfl (by decide +kernel) ?_
              have z0L : (0 : Int64).toInt = 0 := by decide
              have gh2 := p3_f hv1 h2
              have gh4 := p3_f hv3 h4
              have gh6 := p3_f hv5 h6
              have gh8 := p3_t hv7 h8
              have gh18 := p3_f hv17 h18
              have gh20 := p3_t hv19 h20
              exact k _ (tm_inf (by omega) (by omega) (sg_put (sg_xor x y) u_infF (by decide)))
            · refine z_lload_n (f := 2) (i := 2) (q := 2) (pc' := 63) ⟨by decide +kernel, rfl⟩ rfl rfl ?_
              refine z_invS (Z := Y_Re_isEndless) (idx := 35) (As := [.long y]) (rest := []) (nA := 1) (pc' := 66) ⟨k_4_125, k_1_13, k_4_127, by decide, by decide, by decide +kernel⟩ k_4_126 ⟨⟨by decide, by decide⟩, rfl, rfl⟩ ⟨by decide +kernel, rfl⟩ rfl rfl (Nat.le_of_ble_eq_true rfl) rfl rfl ?_
              refine cz_Re_isEndless (fun v21 hv21 => ?_)
              show Wz E Y_Re_times 66 [(4, .long ((x ^^^ y) &&& (-9223372036854775808))), (0, .long x), (2, .long y)] [.int v21] σ K
              refine z_if_eq (off := 10) (tgt := 76) (pc' := 69) ⟨by decide +kernel, by decide, rfl⟩ (fun h22 => ?_) (fun h22 => ?_)
              · refine z_lload_n (f := 0) (i := 0) (q := 1) (pc' := 77) ⟨by decide +kernel, rfl⟩ rfl rfl ?_
                refine z_invS (Z := Y_Re_isZero) (idx := 46) (As := [.long x]) (rest := []) (nA := 1) (pc' := 80) ⟨k_4_128, k_1_13, k_4_130, by decide, by decide, by decide +kernel⟩ k_4_129 ⟨⟨by decide, by decide⟩, rfl, rfl⟩ ⟨by decide +kernel, rfl⟩ rfl rfl (Nat.le_of_ble_eq_true rfl) rfl rfl ?_
                refine cz_Re_isZero (fun v23 hv23 => ?_)
                show Wz E Y_Re_times 80 [(4, .long ((x ^^^ y) &&& (-9223372036854775808))), (0, .long x), (2, .long y)] [.int v23] σ K
                refine z_if_ne (off := 10) (tgt := 90) (pc' := 83) ⟨by decide +kernel, by decide, rfl⟩ (fun h24 => ?_) (fun h24 => ?_)
                · refine z_lload (i := 4) (q := 0) (pc' := 92) ⟨by decide +kernel, rfl⟩ rfl ?_
                  refine z_lret rfl (by decide +kernel) ?_
                  have z0L : (0 : Int64).toInt = 0 := by decide
                  have gh2 := p3_f hv1 h2
                  have gh4 := p3_f hv3 h4
                  have gh6 := p3_f hv5 h6
                  have gh8 := p3_t hv7 h8
                  have gh18 := p3_f hv17 h18
                  have gh20 := p3_f hv19 h20
                  have gh22 := p3_f hv21 h22
                  have gh24 := p3_t hv23 h24
                  exact k _ (tm_zero (by omega) (by omega) (by omega) (sg_self (sg_xor x y)))
                · refine z_lload_n (f := 2) (i := 2) (q := 2) (pc' := 84) ⟨by decide +kernel, rfl⟩ rfl rfl ?_
                  refine z_invS (Z := Y_Re_isZero) (idx := 46) (As := [.long y]) (rest := []) (nA := 1) (pc' := 87) ⟨k_4_128, k_1_13, k_4_130, by decide, by decide, by decide +kernel⟩ k_4_129 ⟨⟨by decide, by decide⟩, rfl, rfl⟩ ⟨by decide +kernel, rfl⟩ rfl rfl (Nat.le_of_ble_eq_true rfl) rfl rfl ?_
                  refine cz_Re_isZero (fun v25 hv25 => ?_)
                  show Wz E Y_Re_times 87 [(4, .long ((x ^^^ y) &&& (-9223372036854775808))), (0, .long x), (2, .long y)] [.int v25] σ K
                  refine z_if_eq (off := 6) (tgt := 93) (pc' := 90) ⟨by decide +kernel, by decide, rfl⟩ (fun h26 => ?_) (fun h26 => ?_)
                  · have z0L : (0 : Int64).toInt = 0 := by decide
                    have gh2 := p3_f hv1 h2
                    have gh4 := p3_f hv3 h4
                    have gh6 := p3_f hv5 h6
                    have gh8 := p3_t hv7 h8
                    have gh18 := p3_f hv17 h18
                    have gh20 := p3_f hv19 h20
                    have gh22 := p3_f hv21 h22
                    have gh24 := p3_f hv23 h24
                    have gh26 := p3_f hv25 h26
                    exact run_Re_times_b (by omega) (by omega) (by omega) (by omega) (sg_xor x y) k
                  · refine z_lload (i := 4) (q := 0) (pc' := 92) ⟨by decide +kernel, rfl⟩ rfl ?_
                    refine z_lret rfl (by decide +kernel) ?_
                    have z0L : (0 : Int64).toInt = 0 := by decide
                    have gh2 := p3_f hv1 h2
                    have gh4 := p3_f hv3 h4
                    have gh6 := p3_f hv5 h6
                    have gh8 := p3_t hv7 h8
                    have gh18 := p3_f hv17 h18
                    have gh20 := p3_f hv19 h20
                    have gh22 := p3_f hv21 h22
                    have gh24 := p3_f hv23 h24
                    have gh26 := p3_t hv25 h26
                    exact k _ (tm_zero (by omega) (by omega) (by omega) (sg_self (sg_xor x y)))
              · refine z_lload (i := 4) (q := 0) (pc' := 71) ⟨by decide +kernel, rfl⟩ rfl ?_
                refine z_ldc2 (i := 11) (v := 9218868437227405312) (pc' := 74) ⟨by decide +kernel, rfl⟩ k_3_237 ?_
                refine z_lor (pc' := 75) ⟨by decide +kernel, rfl⟩ ?_
                refine z_lret rfl (by decide +kernel) ?_
                have z0L : (0 : Int64).toInt = 0 := by decide
                have gh2 := p3_f hv1 h2
                have gh4 := p3_f hv3 h4
                have gh6 := p3_f hv5 h6
                have gh8 := p3_t hv7 h8
                have gh18 := p3_f hv17 h18
                have gh20 := p3_f hv19 h20
                have gh22 := p3_t hv21 h22
                exact k _ (tm_inf (by omega) (by omega) (sg_put (sg_xor x y) u_infF (by decide)))
          · refine z_ldc2 (i := 17) (v := 9221120237041090560) (pc' := 54) ⟨by decide +kernel, rfl⟩ k_4_131 ?_
            refine z_lret rfl (by decide +kernel) ?_
            have z0L : (0 : Int64).toInt = 0 := by decide
            have gh2 := p3_f hv1 h2
            have gh4 := p3_f hv3 h4
            have gh6 := p3_f hv5 h6
            have gh8 := p3_t hv7 h8
            have gh18 := p3_t hv17 h18
            exact k _ (tm_nan (by omega))
      · refine z_lload_n (f := 2) (i := 2) (q := 2) (pc' := 31) ⟨by decide +kernel, rfl⟩ rfl rfl ?_
        refine z_invS (Z := Y_Re_isZero) (idx := 46) (As := [.long y]) (rest := []) (nA := 1) (pc' := 34) ⟨k_4_128, k_1_13, k_4_130, by decide, by decide, by decide +kernel⟩ k_4_129 ⟨⟨by decide, by decide⟩, rfl, rfl⟩ ⟨by decide +kernel, rfl⟩ rfl rfl (Nat.le_of_ble_eq_true rfl) rfl rfl ?_
        refine cz_Re_isZero (fun v27 hv27 => ?_)
        show Wz E Y_Re_times 34 [(4, .long ((x ^^^ y) &&& (-9223372036854775808))), (0, .long x), (2, .long y)] [.int v27] σ K
        refine z_if_ne (off := 17) (tgt := 51) (pc' := 37) ⟨by decide +kernel, by decide, rfl⟩ (fun h28 => ?_) (fun h28 => ?_)
        · refine z_ldc2 (i := 17) (v := 9221120237041090560) (pc' := 54) ⟨by decide +kernel, rfl⟩ k_4_131 ?_
          refine z_lret rfl (by decide +kernel) ?_
          have z0L : (0 : Int64).toInt = 0 := by decide
          have gh2 := p3_f hv1 h2
          have gh4 := p3_f hv3 h4
          have gh6 := p3_t hv5 h6
          have gh28 := p3_t hv27 h28
          exact k _ (tm_nan (by omega))
        · refine z_lload_n (f := 0) (i := 0) (q := 1) (pc' := 38) ⟨by decide +kernel, rfl⟩ rfl rfl ?_
          refine z_invS (Z := Y_Re_isZero) (idx := 46) (As := [.long x]) (rest := []) (nA := 1) (pc' := 41) ⟨k_4_128, k_1_13, k_4_130, by decide, by decide, by decide +kernel⟩ k_4_129 ⟨⟨by decide, by decide⟩, rfl, rfl⟩ ⟨by decide +kernel, rfl⟩ rfl rfl (Nat.le_of_ble_eq_true rfl) rfl rfl ?_
          refine cz_Re_isZero (fun v29 hv29 => ?_)
          show Wz E Y_Re_times 41 [(4, .long ((x ^^^ y) &&& (-9223372036854775808))), (0, .long x), (2, .long y)] [.int v29] σ K
          refine z_if_eq (off := 14) (tgt := 55) (pc' := 44) ⟨by decide +kernel, by decide, rfl⟩ (fun h30 => ?_) (fun h30 => ?_)
          · refine z_lload_n (f := 0) (i := 0) (q := 1) (pc' := 56) ⟨by decide +kernel, rfl⟩ rfl rfl ?_
            refine z_invS (Z := Y_Re_isEndless) (idx := 35) (As := [.long x]) (rest := []) (nA := 1) (pc' := 59) ⟨k_4_125, k_1_13, k_4_127, by decide, by decide, by decide +kernel⟩ k_4_126 ⟨⟨by decide, by decide⟩, rfl, rfl⟩ ⟨by decide +kernel, rfl⟩ rfl rfl (Nat.le_of_ble_eq_true rfl) rfl rfl ?_
            refine cz_Re_isEndless (fun v31 hv31 => ?_)
            show Wz E Y_Re_times 59 [(4, .long ((x ^^^ y) &&& (-9223372036854775808))), (0, .long x), (2, .long y)] [.int v31] σ K
            refine z_if_ne (off := 10) (tgt := 69) (pc' := 62) ⟨by decide +kernel, by decide, rfl⟩ (fun h32 => ?_) (fun h32 => ?_)
            · refine z_lload (i := 4) (q := 0) (pc' := 71) ⟨by decide +kernel, rfl⟩ rfl ?_
              refine z_ldc2 (i := 11) (v := 9218868437227405312) (pc' := 74) ⟨by decide +kernel, rfl⟩ k_3_237 ?_
              refine z_lor (pc' := 75) ⟨by decide +kernel, rfl⟩ ?_
              refine z_lret rfl (by decide +kernel) ?_
              have z0L : (0 : Int64).toInt = 0 := by decide
              have gh2 := p3_f hv1 h2
              have gh4 := p3_f hv3 h4
              have gh6 := p3_t hv5 h6
              have gh28 := p3_f hv27 h28
              have gh30 := p3_f hv29 h30
              have gh32 := p3_t hv31 h32
              exact k _ (tm_inf (by omega) (by omega) (sg_put (sg_xor x y) u_infF (by decide)))
            · refine z_lload_n (f := 2) (i := 2) (q := 2) (pc' := 63) ⟨by decide +kernel, rfl⟩ rfl rfl ?_
              refine z_invS (Z := Y_Re_isEndless) (idx := 35) (As := [.long y]) (rest := []) (nA := 1) (pc' := 66) ⟨k_4_125, k_1_13, k_4_127, by decide, by decide, by decide +kernel⟩ k_4_126 ⟨⟨by decide, by decide⟩, rfl, rfl⟩ ⟨by decide +kernel, rfl⟩ rfl rfl (Nat.le_of_ble_eq_true rfl) rfl rfl ?_
              refine cz_Re_isEndless (fun v33 hv33 => ?_)
              show Wz E Y_Re_times 66 [(4, .long ((x ^^^ y) &&& (-9223372036854775808))), (0, .long x), (2, .long y)] [.int v33] σ K
              refine z_if_eq (off := 10) (tgt := 76) (pc' := 69) ⟨by decide +kernel, by decide, rfl⟩ (fun h34 => ?_) (fun h34 => ?_)
              · refine z_lload_n (f := 0) (i := 0) (q := 1) (pc' := 77) ⟨by decide +kernel, rfl⟩ rfl rfl ?_
                refine z_invS (Z := Y_Re_isZero) (idx := 46) (As := [.long x]) (rest := []) (nA := 1) (pc' := 80) ⟨k_4_128, k_1_13, k_4_130, by decide, by decide, by decide +kernel⟩ k_4_129 ⟨⟨by decide, by decide⟩, rfl, rfl⟩ ⟨by decide +kernel, rfl⟩ rfl rfl (Nat.le_of_ble_eq_true rfl) rfl rfl ?_
                refine cz_Re_isZero (fun v35 hv35 => ?_)
                show Wz E Y_Re_times 80 [(4, .long ((x ^^^ y) &&& (-9223372036854775808))), (0, .long x), (2, .long y)] [.int v35] σ K
                refine z_if_ne (off := 10) (tgt := 90) (pc' := 83) ⟨by decide +kernel, by decide, rfl⟩ (fun h36 => ?_) (fun h36 => ?_)
                · refine z_lload (i := 4) (q := 0) (pc' := 92) ⟨by decide +kernel, rfl⟩ rfl ?_
                  refine z_lret rfl (by decide +kernel) ?_
                  have z0L : (0 : Int64).toInt = 0 := by decide
                  have gh2 := p3_f hv1 h2
                  have gh4 := p3_f hv3 h4
                  have gh6 := p3_t hv5 h6
                  have gh28 := p3_f hv27 h28
                  have gh30 := p3_f hv29 h30
                  have gh32 := p3_f hv31 h32
                  have gh34 := p3_f hv33 h34
                  have gh36 := p3_t hv35 h36
                  exact k _ (tm_zero (by omega) (by omega) (by omega) (sg_self (sg_xor x y)))
                · refine z_lload_n (f := 2) (i := 2) (q := 2) (pc' := 84) ⟨by decide +kernel, rfl⟩ rfl rfl ?_
                  refine z_invS (Z := Y_Re_isZero) (idx := 46) (As := [.long y]) (rest := []) (nA := 1) (pc' := 87) ⟨k_4_128, k_1_13, k_4_130, by decide, by decide, by decide +kernel⟩ k_4_129 ⟨⟨by decide, by decide⟩, rfl, rfl⟩ ⟨by decide +kernel, rfl⟩ rfl rfl (Nat.le_of_ble_eq_true rfl) rfl rfl ?_
                  refine cz_Re_isZero (fun v37 hv37 => ?_)
                  show Wz E Y_Re_times 87 [(4, .long ((x ^^^ y) &&& (-9223372036854775808))), (0, .long x), (2, .long y)] [.int v37] σ K
                  refine z_if_eq (off := 6) (tgt := 93) (pc' := 90) ⟨by decide +kernel, by decide, rfl⟩ (fun h38 => ?_) (fun h38 => ?_)
                  · have z0L : (0 : Int64).toInt = 0 := by decide
                    have gh2 := p3_f hv1 h2
                    have gh4 := p3_f hv3 h4
                    have gh6 := p3_t hv5 h6
                    have gh28 := p3_f hv27 h28
                    have gh30 := p3_f hv29 h30
                    have gh32 := p3_f hv31 h32
                    have gh34 := p3_f hv33 h34
                    have gh36 := p3_f hv35 h36
                    have gh38 := p3_f hv37 h38
                    exact run_Re_times_b (by omega) (by omega) (by omega) (by omega) (sg_xor x y) k
                  · refine z_lload (i := 4) (q := 0) (pc' := 92) ⟨by decide +kernel, rfl⟩ rfl ?_
                    refine z_lret rfl (by decide +kernel) ?_
                    have z0L : (0 : Int64).toInt = 0 := by decide
                    have gh2 := p3_f hv1 h2
                    have gh4 := p3_f hv3 h4
                    have gh6 := p3_t hv5 h6
                    have gh28 := p3_f hv27 h28
                    have gh30 := p3_f hv29 h30
                    have gh32 := p3_f hv31 h32
                    have gh34 := p3_f hv33 h34
                    have gh36 := p3_f hv35 h36
                    have gh38 := p3_t hv37 h38
                    exact k _ (tm_zero (by omega) (by omega) (by omega) (sg_self (sg_xor x y)))
              · refine z_lload (i := 4) (q := 0) (pc' := 71) ⟨by decide +kernel, rfl⟩ rfl ?_
                refine z_ldc2 (i := 11) (v := 9218868437227405312) (pc' := 74) ⟨by decide +kernel, rfl⟩ k_3_237 ?_
                refine z_lor (pc' := 75) ⟨by decide +kernel, rfl⟩ ?_
                refine z_lret rfl (by decide +kernel) ?_
                have z0L : (0 : Int64).toInt = 0 := by decide
                have gh2 := p3_f hv1 h2
                have gh4 := p3_f hv3 h4
                have gh6 := p3_t hv5 h6
                have gh28 := p3_f hv27 h28
                have gh30 := p3_f hv29 h30
                have gh32 := p3_f hv31 h32
                have gh34 := p3_t hv33 h34
                exact k _ (tm_inf (by omega) (by omega) (sg_put (sg_xor x y) u_infF (by decide)))
          · refine z_lload_n (f := 2) (i := 2) (q := 2) (pc' := 45) ⟨by decide +kernel, rfl⟩ rfl rfl ?_
            refine z_invS (Z := Y_Re_isEndless) (idx := 35) (As := [.long y]) (rest := []) (nA := 1) (pc' := 48) ⟨k_4_125, k_1_13, k_4_127, by decide, by decide, by decide +kernel⟩ k_4_126 ⟨⟨by decide, by decide⟩, rfl, rfl⟩ ⟨by decide +kernel, rfl⟩ rfl rfl (Nat.le_of_ble_eq_true rfl) rfl rfl ?_
            refine cz_Re_isEndless (fun v39 hv39 => ?_)
            show Wz E Y_Re_times 48 [(4, .long ((x ^^^ y) &&& (-9223372036854775808))), (0, .long x), (2, .long y)] [.int v39] σ K
            refine z_if_eq (off := 7) (tgt := 55) (pc' := 51) ⟨by decide +kernel, by decide, rfl⟩ (fun h40 => ?_) (fun h40 => ?_)
            · refine z_lload_n (f := 0) (i := 0) (q := 1) (pc' := 56) ⟨by decide +kernel, rfl⟩ rfl rfl ?_
              refine z_invS (Z := Y_Re_isEndless) (idx := 35) (As := [.long x]) (rest := []) (nA := 1) (pc' := 59) ⟨k_4_125, k_1_13, k_4_127, by decide, by decide, by decide +kernel⟩ k_4_126 ⟨⟨by decide, by decide⟩, rfl, rfl⟩ ⟨by decide +kernel, rfl⟩ rfl rfl (Nat.le_of_ble_eq_true rfl) rfl rfl ?_
              refine cz_Re_isEndless (fun v41 hv41 => ?_)
              show Wz E Y_Re_times 59 [(4, .long ((x ^^^ y) &&& (-9223372036854775808))), (0, .long x), (2, .long y)] [.int v41] σ K
              refine z_if_ne (off := 10) (tgt := 69) (pc' := 62) ⟨by decide +kernel, by decide, rfl⟩ (fun h42 => ?_) (fun h42 => ?_)
              · refine z_lload (i := 4) (q := 0) (pc' := 71) ⟨by decide +kernel, rfl⟩ rfl ?_
                refine z_ldc2 (i := 11) (v := 9218868437227405312) (pc' := 74) ⟨by decide +kernel, rfl⟩ k_3_237 ?_
                refine z_lor (pc' := 75) ⟨by decide +kernel, rfl⟩ ?_
                refine z_lret rfl (by decide +kernel) ?_
                have z0L : (0 : Int64).toInt = 0 := by decide
                have gh2 := p3_f hv1 h2
                have gh4 := p3_f hv3 h4
                have gh6 := p3_t hv5 h6
                have gh28 := p3_f hv27 h28
                have gh30 := p3_t hv29 h30
                have gh40 := p3_f hv39 h40
                have gh42 := p3_t hv41 h42
                exact k _ (tm_inf (by omega) (by omega) (sg_put (sg_xor x y) u_infF (by decide)))
              · refine z_lload_n (f := 2) (i := 2) (q := 2) (pc' := 63) ⟨by decide +kernel, rfl⟩ rfl rfl ?_
                refine z_invS (Z := Y_Re_isEndless) (idx := 35) (As := [.long y]) (rest := []) (nA := 1) (pc' := 66) ⟨k_4_125, k_1_13, k_4_127, by decide, by decide, by decide +kernel⟩ k_4_126 ⟨⟨by decide, by decide⟩, rfl, rfl⟩ ⟨by decide +kernel, rfl⟩ rfl rfl (Nat.le_of_ble_eq_true rfl) rfl rfl ?_
                refine cz_Re_isEndless (fun v43 hv43 => ?_)
                show Wz E Y_Re_times 66 [(4, .long ((x ^^^ y) &&& (-9223372036854775808))), (0, .long x), (2, .long y)] [.int v43] σ K
                refine z_if_eq (off := 10) (tgt := 76) (pc' := 69) ⟨by decide +kernel, by decide, rfl⟩ (fun h44 => ?_) (fun h44 => ?_)
                · refine z_lload_n (f := 0) (i := 0) (q := 1) (pc' := 77) ⟨by decide +kernel, rfl⟩ rfl rfl ?_
                  refine z_invS (Z := Y_Re_isZero) (idx := 46) (As := [.long x]) (rest := []) (nA := 1) (pc' := 80) ⟨k_4_128, k_1_13, k_4_130, by decide, by decide, by decide +kernel⟩ k_4_129 ⟨⟨by decide, by decide⟩, rfl, rfl⟩ ⟨by decide +kernel, rfl⟩ rfl rfl (Nat.le_of_ble_eq_true rfl) rfl rfl ?_
                  refine cz_Re_isZero (fun v45 hv45 => ?_)
                  show Wz E Y_Re_times 80 [(4, .long ((x ^^^ y) &&& (-9223372036854775808))), (0, .long x), (2, .long y)] [.int v45] σ K
                  refine z_if_ne (off := 10) (tgt := 90) (pc' := 83) ⟨by decide +kernel, by decide, rfl⟩ (fun h46 => ?_) (fun h46 => ?_)
                  · refine z_lload (i := 4) (q := 0) (pc' := 92) ⟨by decide +kernel, rfl⟩ rfl ?_
                    refine z_lret rfl (by decide +kernel) ?_
                    have z0L : (0 : Int64).toInt = 0 := by decide
                    have gh2 := p3_f hv1 h2
                    have gh4 := p3_f hv3 h4
                    have gh6 := p3_t hv5 h6
                    have gh28 := p3_f hv27 h28
                    have gh30 := p3_t hv29 h30
                    have gh40 := p3_f hv39 h40
                    have gh42 := p3_f hv41 h42
                    have gh44 := p3_f hv43 h44
                    have gh46 := p3_t hv45 h46
                    exact k _ (tm_zero (by omega) (by omega) (by omega) (sg_self (sg_xor x y)))
                  · refine z_lload_n (f := 2) (i := 2) (q := 2) (pc' := 84) ⟨by decide +kernel, rfl⟩ rfl rfl ?_
                    refine z_invS (Z := Y_Re_isZero) (idx := 46) (As := [.long y]) (rest := []) (nA := 1) (pc' := 87) ⟨k_4_128, k_1_13, k_4_130, by decide, by decide, by decide +kernel⟩ k_4_129 ⟨⟨by decide, by decide⟩, rfl, rfl⟩ ⟨by decide +kernel, rfl⟩ rfl rfl (Nat.le_of_ble_eq_true rfl) rfl rfl ?_
                    refine cz_Re_isZero (fun v47 hv47 => ?_)
                    show Wz E Y_Re_times 87 [(4, .long ((x ^^^ y) &&& (-9223372036854775808))), (0, .long x), (2, .long y)] [.int v47] σ K
                    refine z_if_eq (off := 6) (tgt := 93) (pc' := 90) ⟨by decide +kernel, by decide, rfl⟩ (fun h48 => ?_) (fun h48 => ?_)
                    · have z0L : (0 : Int64).toInt = 0 := by decide
                      have gh2 := p3_f hv1 h2
                      have gh4 := p3_f hv3 h4
                      have gh6 := p3_t hv5 h6
                      have gh28 := p3_f hv27 h28
                      have gh30 := p3_t hv29 h30
                      have gh40 := p3_f hv39 h40
                      have gh42 := p3_f hv41 h42
                      have gh44 := p3_f hv43 h44
                      have gh46 := p3_f hv45 h46
                      have gh48 := p3_f hv47 h48
                      exact run_Re_times_b (by omega) (by omega) (by omega) (by omega) (sg_xor x y) k
                    · refine z_lload (i := 4) (q := 0) (pc' := 92) ⟨by decide +kernel, rfl⟩ rfl ?_
                      refine z_lret rfl (by decide +kernel) ?_
                      have z0L : (0 : Int64).toInt = 0 := by decide
                      have gh2 := p3_f hv1 h2
                      have gh4 := p3_f hv3 h4
                      have gh6 := p3_t hv5 h6
                      have gh28 := p3_f hv27 h28
                      have gh30 := p3_t hv29 h30
                      have gh40 := p3_f hv39 h40
                      have gh42 := p3_f hv41 h42
                      have gh44 := p3_f hv43 h44
                      have gh46 := p3_f hv45 h46
                      have gh48 := p3_t hv47 h48
                      exact k _ (tm_zero (by omega) (by omega) (by omega) (sg_self (sg_xor x y)))
                · refine z_lload (i := 4) (q := 0) (pc' := 71) ⟨by decide +kernel, rfl⟩ rfl ?_
                  refine z_ldc2 (i := 11) (v := 9218868437227405312) (pc' := 74) ⟨by decide +kernel, rfl⟩ k_3_237 ?_
                  refine z_lor (pc' := 75) ⟨by decide +kernel, rfl⟩ ?_
                  refine z_lret rfl (by decide +kernel) ?_
                  have z0L : (0 : Int64).toInt = 0 := by decide
                  have gh2 := p3_f hv1 h2
                  have gh4 := p3_f hv3 h4
                  have gh6 := p3_t hv5 h6
                  have gh28 := p3_f hv27 h28
                  have gh30 := p3_t hv29 h30
                  have gh40 := p3_f hv39 h40
                  have gh42 := p3_f hv41 h42
                  have gh44 := p3_t hv43 h44
                  exact k _ (tm_inf (by omega) (by omega) (sg_put (sg_xor x y) u_infF (by decide)))
            · refine z_ldc2 (i := 17) (v := 9221120237041090560) (pc' := 54) ⟨by decide +kernel, rfl⟩ k_4_131 ?_
              refine z_lret rfl (by decide +kernel) ?_
              have z0L : (0 : Int64).toInt = 0 := by decide
              have gh2 := p3_f hv1 h2
              have gh4 := p3_f hv3 h4
              have gh6 := p3_t hv5 h6
              have gh28 := p3_f hv27 h28
              have gh30 := p3_t hv29 h30
              have gh40 := p3_t hv39 h40
              exact k _ (tm_nan (by omega))
theorem cz_Re_times {E : xV} {σ : zS} {K : zKt} {x y : Int64} (k : ∀ v : Int64, TmR x.toInt y.toInt v.toInt → K (some (.long v)) σ) : Cz E Y_Re_times [.long x, .long y] σ K := z_entry (by decide) (fun a => by rw [sl_len]; exact Nat.le_of_ble_eq_true rfl) rfl (run_Re_times k)
theorem run_M_times_c {E : xV} {σ : zS} {K : zKt} {x y g1 m n fr bk : Int64} {kk e w : Int32} (hx : mgF x.toInt < infF) (hy : mgF y.toInt < infF) (hw : w = 0 ↔ (x.toInt < 0 ↔ y.toInt < 0)) (he : e.toInt = exF (mgF x.toInt) + exF (mgF y.toInt)) (hk : MmK fr kk) (h0 : 0 < uF fr) (hbk : uF bk < 18014398509481984) (hN : mzF (mgF x.toInt) * mzF (mgF y.toInt) = uF fr * 18014398509481984 + uF bk) (k : ∀ v : Int64, TmR x.toInt y.toInt v.toInt → K (some (.long v)) σ) : Wz E Y_M_times 274 [(18, .int kk), (17, .int e), (13, .long bk), (15, .long fr), (11, .long g1), (9, .long n), (7, .long m), (5, .long 134217727), (4, .int w), (0, .long x), (2, .long y)] [] σ K := by
  refine z_lload (i := 13) (q := 2) (pc' := 276) ⟨by decide +kernel, rfl⟩ rfl ?_
  refine z_lconst (i := 1) (v := 1) (pc' := 277) ⟨by decide +kernel, rfl⟩ (by decide) ?_
  refine z_bipush (i := 54) (v := 54) (pc' := 279) ⟨by decide +kernel, rfl⟩ (by decide) ?_
  refine z_iload (i := 18) (q := 0) (pc' := 281) ⟨by decide +kernel, rfl⟩ rfl ?_
  refine z_isub (pc' := 282) ⟨by decide +kernel, rfl⟩ ?_
  refine z_lshl (pc' := 283) ⟨by decide +kernel, rfl⟩ rfl ?_
  refine z_lconst (i := 1) (v := 1) (pc' := 284) ⟨by decide +kernel, rfl⟩ (by decide) ?_
  refine z_lsub (pc' := 285) ⟨by decide +kernel, rfl⟩ ?_
  refine z_land (pc' := 286) ⟨by decide +kernel, rfl⟩ ?_
  refine z_lconst (i := 0) (v := 0) (pc' := 287) ⟨by decide +kernel, rfl⟩ (by decide) ?_
  refine z_lcmp (pc' := 288) ⟨by decide +kernel, rfl⟩ ?_
  refine z_if_eq (off := 7) (tgt := 295) (pc' := 291) ⟨by decide +kernel, by decide, rfl⟩ (fun h1 => ?_) (fun h1 => ?_)
  · refine z_iconst (i := 0) (v := 0) (pc' := 296) ⟨by decide +kernel, rfl⟩ (by decide) ?_
    refine z_istore (i := 19) (pc' := 298) ⟨by decide +kernel, rfl⟩ (by decide) rfl ?_
    show Wz E Y_M_times 298 [(19, .int 0), (18, .int kk), (17, .int e), (13, .long bk), (15, .long fr), (11, .long g1), (9, .long n), (7, .long m), (5, .long 134217727), (4, .int w), (0, .long x), (2, .long y)] [] σ K
    refine z_iload (i := 4) (q := 9) (pc' := 300) ⟨by decide +kernel, rfl⟩ rfl ?_
    refine z_lload (i := 15) (q := 4) (pc' := 302) ⟨by decide +kernel, rfl⟩ rfl ?_
    refine z_iload (i := 18) (q := 1) (pc' := 304) ⟨by decide +kernel, rfl⟩ rfl ?_
    refine z_lshl (pc' := 305) ⟨by decide +kernel, rfl⟩ rfl ?_
    refine z_lload (i := 13) (q := 3) (pc' := 307) ⟨by decide +kernel, rfl⟩ rfl ?_
    refine z_bipush (i := 54) (v := 54) (pc' := 309) ⟨by decide +kernel, rfl⟩ (by decide) ?_
    refine z_iload (i := 18) (q := 1) (pc' := 311) ⟨by decide +kernel, rfl⟩ rfl ?_
    refine z_isub (pc' := 312) ⟨by decide +kernel, rfl⟩ ?_
    refine z_lshr (pc' := 313) ⟨by decide +kernel, rfl⟩ rfl ?_
    refine z_lor (pc' := 314) ⟨by decide +kernel, rfl⟩ ?_
    refine z_iload (i := 17) (q := 2) (pc' := 316) ⟨by decide +kernel, rfl⟩ rfl ?_
    refine z_bipush (i := 54) (v := 54) (pc' := 318) ⟨by decide +kernel, rfl⟩ (by decide) ?_
    refine z_iadd (pc' := 319) ⟨by decide +kernel, rfl⟩ ?_
    refine z_iload (i := 18) (q := 1) (pc' := 321) ⟨by decide +kernel, rfl⟩ rfl ?_
    refine z_isub (pc' := 322) ⟨by decide +kernel, rfl⟩ ?_
    refine z_iload (i := 19) (q := 0) (pc' := 324) ⟨by decide +kernel, rfl⟩ rfl ?_
    refine z_invS (Z := Y_M_fit) (idx := 361) (As := [.int w, .long ((fr <<< (Int32.toInt64 kk &&& 63)) ||| (bk >>> (Int32.toInt64 (54 - kk) &&& 63))), .int ((e + 54) - kk), .int 0]) (rest := []) (nA := 4) (pc' := 327) ⟨k_11_129, k_1_12, k_11_131, by decide, by decide, by decide +kernel⟩ k_11_130 ⟨⟨by decide, by decide⟩, rfl, rfl⟩ ⟨by decide +kernel, rfl⟩ rfl rfl (Nat.le_of_ble_eq_true rfl) rfl rfl ?_
    refine cz_M_fit (hm := by obtain ⟨s, h54, hks, hF, hlt, hbig, hz⟩ := mm_q hk h0 hbk hN; exact hlt) (he := (mm_eb (x := x) (y := y) he hk).2) (fun v2 hv2 => ?_)
    show Wz E Y_M_times 327 [(19, .int 0), (18, .int kk), (17, .int e), (13, .long bk), (15, .long fr), (11, .long g1), (9, .long n), (7, .long m), (5, .long 134217727), (4, .int w), (0, .long x), (2, .long y)] [.long v2] σ K
    refine z_lret rfl (by decide +kernel) ?_
    have z0L : (0 : Int64).toInt = 0 := by decide
    have gh1 := k_eq_t h1
    exact k _ (mm_fin (m := x) (n := y) hx hy hw he hk h0 hbk hN ⟨fun _ => by rw [gh1, z0L], fun _ => rfl⟩ hv2)
  · refine z_iconst (i := 1) (v := 1) (pc' := 292) ⟨by decide +kernel, rfl⟩ (by decide) ?_
    refine z_goto (off := 4) (tgt := 296) (pc' := 295) ⟨by decide +kernel, by decide, rfl⟩ ?_
    refine z_istore (i := 19) (pc' := 298) ⟨by decide +kernel, rfl⟩ (by decide) rfl ?_
    show Wz E Y_M_times 298 [(19, .int 1), (18, .int kk), (17, .int e), (13, .long bk), (15, .long fr), (11, .long g1), (9, .long n), (7, .long m), (5, .long 134217727), (4, .int w), (0, .long x), (2, .long y)] [] σ K
    refine z_iload (i := 4) (q := 9) (pc' := 300) ⟨by decide +kernel, rfl⟩ rfl ?_
    refine z_lload (i := 15) (q := 4) (pc' := 302) ⟨by decide +kernel, rfl⟩ rfl ?_
    refine z_iload (i := 18) (q := 1) (pc' := 304) ⟨by decide +kernel, rfl⟩ rfl ?_
    refine z_lshl (pc' := 305) ⟨by decide +kernel, rfl⟩ rfl ?_
    refine z_lload (i := 13) (q := 3) (pc' := 307) ⟨by decide +kernel, rfl⟩ rfl ?_
    refine z_bipush (i := 54) (v := 54) (pc' := 309) ⟨by decide +kernel, rfl⟩ (by decide) ?_
    refine z_iload (i := 18) (q := 1) (pc' := 311) ⟨by decide +kernel, rfl⟩ rfl ?_
    refine z_isub (pc' := 312) ⟨by decide +kernel, rfl⟩ ?_
    refine z_lshr (pc' := 313) ⟨by decide +kernel, rfl⟩ rfl ?_
    refine z_lor (pc' := 314) ⟨by decide +kernel, rfl⟩ ?_
    refine z_iload (i := 17) (q := 2) (pc' := 316) ⟨by decide +kernel, rfl⟩ rfl ?_
    refine z_bipush (i := 54) (v := 54) (pc' := 318) ⟨by decide +kernel, rfl⟩ (by decide) ?_
    refine z_iadd (pc' := 319) ⟨by decide +kernel, rfl⟩ ?_
    refine z_iload (i := 18) (q := 1) (pc' := 321) ⟨by decide +kernel, rfl⟩ rfl ?_
    refine z_isub (pc' := 322) ⟨by decide +kernel, rfl⟩ ?_
    refine z_iload (i := 19) (q := 0) (pc' := 324) ⟨by decide +kernel, rfl⟩ rfl ?_
    refine z_invS (Z := Y_M_fit) (idx := 361) (As := [.int w, .long ((fr <<< (Int32.toInt64 kk &&& 63)) ||| (bk >>> (Int32.toInt64 (54 - kk) &&& 63))), .int ((e + 54) - kk), .int 1]) (rest := []) (nA := 4) (pc' := 327) ⟨k_11_129, k_1_12, k_11_131, by decide, by decide, by decide +kernel⟩ k_11_130 ⟨⟨by decide, by decide⟩, rfl, rfl⟩ ⟨by decide +kernel, rfl⟩ rfl rfl (Nat.le_of_ble_eq_true rfl) rfl rfl ?_
    refine cz_M_fit (hm := by obtain ⟨s, h54, hks, hF, hlt, hbig, hz⟩ := mm_q hk h0 hbk hN; exact hlt) (he := (mm_eb (x := x) (y := y) he hk).2) (fun v3 hv3 => ?_)
    show Wz E Y_M_times 327 [(19, .int 1), (18, .int kk), (17, .int e), (13, .long bk), (15, .long fr), (11, .long g1), (9, .long n), (7, .long m), (5, .long 134217727), (4, .int w), (0, .long x), (2, .long y)] [.long v3] σ K
    refine z_lret rfl (by decide +kernel) ?_
    have z0L : (0 : Int64).toInt = 0 := by decide
    have gh1 := k_eq_f h1
    exact k _ (mm_fin (m := x) (n := y) hx hy hw he hk h0 hbk hN ⟨fun q => absurd q (by decide), fun q => absurd q (by rw [← z0L]; exact gh1)⟩ hv3)
theorem run_M_times_b {E : xV} {σ : zS} {K : zKt} {x y : Int64} {w : Int32} (hx : mgF x.toInt < infF) (hy : mgF y.toInt < infF) (hx0 : mgF x.toInt ≠ 0) (hy0 : mgF y.toInt ≠ 0) (hw : w = 0 ↔ (x.toInt < 0 ↔ y.toInt < 0)) (k : ∀ v : Int64, TmR x.toInt y.toInt v.toInt → K (some (.long v)) σ) : Wz E Y_M_times 122 [(4, .int w), (0, .long x), (2, .long y)] [] σ K := by
  refine z_ldc2 (i := 379) (v := 134217727) (pc' := 125) ⟨by decide +kernel, rfl⟩ k_12_86 ?_
  refine z_lstore (i := 5) (pc' := 127) ⟨by decide +kernel, rfl⟩ (by decide) rfl ?_
  show Wz E Y_M_times 127 [(5, .long 134217727), (4, .int w), (0, .long x), (2, .long y)] [] σ K
  refine z_lload_n (f := 0) (i := 0) (q := 2) (pc' := 128) ⟨by decide +kernel, rfl⟩ rfl rfl ?_
  refine z_invS (Z := Y_M_mantissa) (idx := 381) (As := [.long x]) (rest := []) (nA := 1) (pc' := 131) ⟨k_11_149, k_1_12, k_11_151, by decide, by decide, by decide +kernel⟩ k_11_150 ⟨⟨by decide, by decide⟩, rfl, rfl⟩ ⟨by decide +kernel, rfl⟩ rfl rfl (Nat.le_of_ble_eq_true rfl) rfl rfl ?_
  refine cz_M_mantissa (fun v1 hv1 => ?_)
  show Wz E Y_M_times 131 [(5, .long 134217727), (4, .int w), (0, .long x), (2, .long y)] [.long v1] σ K
  refine z_lstore (i := 7) (pc' := 133) ⟨by decide +kernel, rfl⟩ (by decide) rfl ?_
  show Wz E Y_M_times 133 [(7, .long v1), (5, .long 134217727), (4, .int w), (0, .long x), (2, .long y)] [] σ K
  refine z_lload_n (f := 2) (i := 2) (q := 4) (pc' := 134) ⟨by decide +kernel, rfl⟩ rfl rfl ?_
  refine z_invS (Z := Y_M_mantissa) (idx := 381) (As := [.long y]) (rest := []) (nA := 1) (pc' := 137) ⟨k_11_149, k_1_12, k_11_151, by decide, by decide, by decide +kernel⟩ k_11_150 ⟨⟨by decide, by decide⟩, rfl, rfl⟩ ⟨by decide +kernel, rfl⟩ rfl rfl (Nat.le_of_ble_eq_true rfl) rfl rfl ?_
  refine cz_M_mantissa (fun v2 hv2 => ?_)
  show Wz E Y_M_times 137 [(7, .long v1), (5, .long 134217727), (4, .int w), (0, .long x), (2, .long y)] [.long v2] σ K
  refine z_lstore (i := 9) (pc' := 139) ⟨by decide +kernel, rfl⟩ (by decide) rfl ?_
  show Wz E Y_M_times 139 [(9, .long v2), (7, .long v1), (5, .long 134217727), (4, .int w), (0, .long x), (2, .long y)] [] σ K
  refine z_lload (i := 7) (q := 1) (pc' := 141) ⟨by decide +kernel, rfl⟩ rfl ?_
  refine z_bipush (i := 27) (v := 27) (pc' := 143) ⟨by decide +kernel, rfl⟩ (by decide) ?_
  refine z_lshr (pc' := 144) ⟨by decide +kernel, rfl⟩ rfl ?_
  refine z_lload (i := 9) (q := 0) (pc' := 146) ⟨by decide +kernel, rfl⟩ rfl ?_
  refine z_lload (i := 5) (q := 2) (pc' := 148) ⟨by decide +kernel, rfl⟩ rfl ?_
  refine z_land (pc' := 149) ⟨by decide +kernel, rfl⟩ ?_
  refine z_lmul (pc' := 150) ⟨by decide +kernel, rfl⟩ ?_
  refine z_lload (i := 7) (q := 1) (pc' := 152) ⟨by decide +kernel, rfl⟩ rfl ?_
  refine z_lload (i := 5) (q := 2) (pc' := 154) ⟨by decide +kernel, rfl⟩ rfl ?_
  refine z_land (pc' := 155) ⟨by decide +kernel, rfl⟩ ?_
  refine z_lload (i := 9) (q := 0) (pc' := 157) ⟨by decide +kernel, rfl⟩ rfl ?_
  refine z_bipush (i := 27) (v := 27) (pc' := 159) ⟨by decide +kernel, rfl⟩ (by decide) ?_
  refine z_lshr (pc' := 160) ⟨by decide +kernel, rfl⟩ rfl ?_
  refine z_lmul (pc' := 161) ⟨by decide +kernel, rfl⟩ ?_
  refine z_ladd (pc' := 162) ⟨by decide +kernel, rfl⟩ ?_
  refine z_lstore (i := 11) (pc' := 164) ⟨by decide +kernel, rfl⟩ (by decide) rfl ?_
  show Wz E Y_M_times 164 [(11, .long (((v1 >>> (Int32.toInt64 27 &&& 63)) * (v2 &&& 134217727)) + ((v1 &&& 134217727) * (v2 >>> (Int32.toInt64 27 &&& 63))))), (9, .long v2), (7, .long v1), (5, .long 134217727), (4, .int w), (0, .long x), (2, .long y)] [] σ K
  refine z_lload (i := 11) (q := 0) (pc' := 166) ⟨by decide +kernel, rfl⟩ rfl ?_
  refine z_lload (i := 5) (q := 3) (pc' := 168) ⟨by decide +kernel, rfl⟩ rfl ?_
  refine z_land (pc' := 169) ⟨by decide +kernel, rfl⟩ ?_
  refine z_bipush (i := 27) (v := 27) (pc' := 171) ⟨by decide +kernel, rfl⟩ (by decide) ?_
  refine z_lshl (pc' := 172) ⟨by decide +kernel, rfl⟩ rfl ?_
  refine z_lload (i := 7) (q := 2) (pc' := 174) ⟨by decide +kernel, rfl⟩ rfl ?_
  refine z_lload (i := 5) (q := 3) (pc' := 176) ⟨by decide +kernel, rfl⟩ rfl ?_
  refine z_land (pc' := 177) ⟨by decide +kernel, rfl⟩ ?_
  refine z_lload (i := 9) (q := 1) (pc' := 179) ⟨by decide +kernel, rfl⟩ rfl ?_
  refine z_lload (i := 5) (q := 3) (pc' := 181) ⟨by decide +kernel, rfl⟩ rfl ?_
  refine z_land (pc' := 182) ⟨by decide +kernel, rfl⟩ ?_
  refine z_lmul (pc' := 183) ⟨by decide +kernel, rfl⟩ ?_
  refine z_ladd (pc' := 184) ⟨by decide +kernel, rfl⟩ ?_
  refine z_lstore (i := 13) (pc' := 186) ⟨by decide +kernel, rfl⟩ (by decide) rfl ?_
  show Wz E Y_M_times 186 [(13, .long ((((((v1 >>> (Int32.toInt64 27 &&& 63)) * (v2 &&& 134217727)) + ((v1 &&& 134217727) * (v2 >>> (Int32.toInt64 27 &&& 63)))) &&& 134217727) <<< (Int32.toInt64 27 &&& 63)) + ((v1 &&& 134217727) * (v2 &&& 134217727)))), (11, .long (((v1 >>> (Int32.toInt64 27 &&& 63)) * (v2 &&& 134217727)) + ((v1 &&& 134217727) * (v2 >>> (Int32.toInt64 27 &&& 63))))), (9, .long v2), (7, .long v1), (5, .long 134217727), (4, .int w), (0, .long x), (2, .long y)] [] σ K
  refine z_lload (i := 7) (q := 3) (pc' := 188) ⟨by decide +kernel, rfl⟩ rfl ?_
  refine z_bipush (i := 27) (v := 27) (pc' := 190) ⟨by decide +kernel, rfl⟩ (by decide) ?_
  refine z_lshr (pc' := 191) ⟨by decide +kernel, rfl⟩ rfl ?_
  refine z_lload (i := 9) (q := 2) (pc' := 193) ⟨by decide +kernel, rfl⟩ rfl ?_
  refine z_bipush (i := 27) (v := 27) (pc' := 195) ⟨by decide +kernel, rfl⟩ (by decide) ?_
  refine z_lshr (pc' := 196) ⟨by decide +kernel, rfl⟩ rfl ?_
  refine z_lmul (pc' := 197) ⟨by decide +kernel, rfl⟩ ?_
  refine z_lload (i := 11) (q := 1) (pc' := 199) ⟨by decide +kernel, rfl⟩ rfl ?_
  refine z_bipush (i := 27) (v := 27) (pc' := 201) ⟨by decide +kernel, rfl⟩ (by decide) ?_
  refine z_lshr (pc' := 202) ⟨by decide +kernel, rfl⟩ rfl ?_
  refine z_ladd (pc' := 203) ⟨by decide +kernel, rfl⟩ ?_
  refine z_lload (i := 13) (q := 0) (pc' := 205) ⟨by decide +kernel, rfl⟩ rfl ?_
  refine z_bipush (i := 54) (v := 54) (pc' := 207) ⟨by decide +kernel, rfl⟩ (by decide) ?_
  refine z_lshr (pc' := 208) ⟨by decide +kernel, rfl⟩ rfl ?_
  refine z_ladd (pc' := 209) ⟨by decide +kernel, rfl⟩ ?_
  refine z_lstore (i := 15) (pc' := 211) ⟨by decide +kernel, rfl⟩ (by decide) rfl ?_
  show Wz E Y_M_times 211 [(15, .long ((((v1 >>> (Int32.toInt64 27 &&& 63)) * (v2 >>> (Int32.toInt64 27 &&& 63))) + ((((v1 >>> (Int32.toInt64 27 &&& 63)) * (v2 &&& 134217727)) + ((v1 &&& 134217727) * (v2 >>> (Int32.toInt64 27 &&& 63)))) >>> (Int32.toInt64 27 &&& 63))) + (((((((v1 >>> (Int32.toInt64 27 &&& 63)) * (v2 &&& 134217727)) + ((v1 &&& 134217727) * (v2 >>> (Int32.toInt64 27 &&& 63)))) &&& 134217727) <<< (Int32.toInt64 27 &&& 63)) + ((v1 &&& 134217727) * (v2 &&& 134217727))) >>> (Int32.toInt64 54 &&& 63)))), (13, .long ((((((v1 >>> (Int32.toInt64 27 &&& 63)) * (v2 &&& 134217727)) + ((v1 &&& 134217727) * (v2 >>> (Int32.toInt64 27 &&& 63)))) &&& 134217727) <<< (Int32.toInt64 27 &&& 63)) + ((v1 &&& 134217727) * (v2 &&& 134217727)))), (11, .long (((v1 >>> (Int32.toInt64 27 &&& 63)) * (v2 &&& 134217727)) + ((v1 &&& 134217727) * (v2 >>> (Int32.toInt64 27 &&& 63))))), (9, .long v2), (7, .long v1), (5, .long 134217727), (4, .int w), (0, .long x), (2, .long y)] [] σ K
  refine z_lload (i := 13) (q := 1) (pc' := 213) ⟨by decide +kernel, rfl⟩ rfl ?_
  refine z_ldc2 (i := 385) (v := 18014398509481983) (pc' := 216) ⟨by decide +kernel, rfl⟩ k_12_87 ?_
  refine z_land (pc' := 217) ⟨by decide +kernel, rfl⟩ ?_
  refine z_lstore (i := 13) (pc' := 219) ⟨by decide +kernel, rfl⟩ (by decide) rfl ?_
  show Wz E Y_M_times 219 [(13, .long (((((((v1 >>> (Int32.toInt64 27 &&& 63)) * (v2 &&& 134217727)) + ((v1 &&& 134217727) * (v2 >>> (Int32.toInt64 27 &&& 63)))) &&& 134217727) <<< (Int32.toInt64 27 &&& 63)) + ((v1 &&& 134217727) * (v2 &&& 134217727))) &&& 18014398509481983)), (15, .long ((((v1 >>> (Int32.toInt64 27 &&& 63)) * (v2 >>> (Int32.toInt64 27 &&& 63))) + ((((v1 >>> (Int32.toInt64 27 &&& 63)) * (v2 &&& 134217727)) + ((v1 &&& 134217727) * (v2 >>> (Int32.toInt64 27 &&& 63)))) >>> (Int32.toInt64 27 &&& 63))) + (((((((v1 >>> (Int32.toInt64 27 &&& 63)) * (v2 &&& 134217727)) + ((v1 &&& 134217727) * (v2 >>> (Int32.toInt64 27 &&& 63)))) &&& 134217727) <<< (Int32.toInt64 27 &&& 63)) + ((v1 &&& 134217727) * (v2 &&& 134217727))) >>> (Int32.toInt64 54 &&& 63)))), (11, .long (((v1 >>> (Int32.toInt64 27 &&& 63)) * (v2 &&& 134217727)) + ((v1 &&& 134217727) * (v2 >>> (Int32.toInt64 27 &&& 63))))), (9, .long v2), (7, .long v1), (5, .long 134217727), (4, .int w), (0, .long x), (2, .long y)] [] σ K
  refine z_lload_n (f := 0) (i := 0) (q := 7) (pc' := 220) ⟨by decide +kernel, rfl⟩ rfl rfl ?_
  refine z_invS (Z := Y_M_exponent) (idx := 387) (As := [.long x]) (rest := []) (nA := 1) (pc' := 223) ⟨k_11_154, k_1_12, k_11_156, by decide, by decide, by decide +kernel⟩ k_11_155 ⟨⟨by decide, by decide⟩, rfl, rfl⟩ ⟨by decide +kernel, rfl⟩ rfl rfl (Nat.le_of_ble_eq_true rfl) rfl rfl ?_
  refine cz_M_exponent (fun v3 hv3 => ?_)
  show Wz E Y_M_times 223 [(13, .long (((((((v1 >>> (Int32.toInt64 27 &&& 63)) * (v2 &&& 134217727)) + ((v1 &&& 134217727) * (v2 >>> (Int32.toInt64 27 &&& 63)))) &&& 134217727) <<< (Int32.toInt64 27 &&& 63)) + ((v1 &&& 134217727) * (v2 &&& 134217727))) &&& 18014398509481983)), (15, .long ((((v1 >>> (Int32.toInt64 27 &&& 63)) * (v2 >>> (Int32.toInt64 27 &&& 63))) + ((((v1 >>> (Int32.toInt64 27 &&& 63)) * (v2 &&& 134217727)) + ((v1 &&& 134217727) * (v2 >>> (Int32.toInt64 27 &&& 63)))) >>> (Int32.toInt64 27 &&& 63))) + (((((((v1 >>> (Int32.toInt64 27 &&& 63)) * (v2 &&& 134217727)) + ((v1 &&& 134217727) * (v2 >>> (Int32.toInt64 27 &&& 63)))) &&& 134217727) <<< (Int32.toInt64 27 &&& 63)) + ((v1 &&& 134217727) * (v2 &&& 134217727))) >>> (Int32.toInt64 54 &&& 63)))), (11, .long (((v1 >>> (Int32.toInt64 27 &&& 63)) * (v2 &&& 134217727)) + ((v1 &&& 134217727) * (v2 >>> (Int32.toInt64 27 &&& 63))))), (9, .long v2), (7, .long v1), (5, .long 134217727), (4, .int w), (0, .long x), (2, .long y)] [.int v3] σ K
  refine z_lload_n (f := 2) (i := 2) (q := 8) (pc' := 224) ⟨by decide +kernel, rfl⟩ rfl rfl ?_
  refine z_invS (Z := Y_M_exponent) (idx := 387) (As := [.long y]) (rest := [.int v3]) (nA := 1) (pc' := 227) ⟨k_11_154, k_1_12, k_11_156, by decide, by decide, by decide +kernel⟩ k_11_155 ⟨⟨by decide, by decide⟩, rfl, rfl⟩ ⟨by decide +kernel, rfl⟩ rfl rfl (Nat.le_of_ble_eq_true rfl) rfl rfl ?_
  refine cz_M_exponent (fun v4 hv4 => ?_)
  show Wz E Y_M_times 227 [(13, .long (((((((v1 >>> (Int32.toInt64 27 &&& 63)) * (v2 &&& 134217727)) + ((v1 &&& 134217727) * (v2 >>> (Int32.toInt64 27 &&& 63)))) &&& 134217727) <<< (Int32.toInt64 27 &&& 63)) + ((v1 &&& 134217727) * (v2 &&& 134217727))) &&& 18014398509481983)), (15, .long ((((v1 >>> (Int32.toInt64 27 &&& 63)) * (v2 >>> (Int32.toInt64 27 &&& 63))) + ((((v1 >>> (Int32.toInt64 27 &&& 63)) * (v2 &&& 134217727)) + ((v1 &&& 134217727) * (v2 >>> (Int32.toInt64 27 &&& 63)))) >>> (Int32.toInt64 27 &&& 63))) + (((((((v1 >>> (Int32.toInt64 27 &&& 63)) * (v2 &&& 134217727)) + ((v1 &&& 134217727) * (v2 >>> (Int32.toInt64 27 &&& 63)))) &&& 134217727) <<< (Int32.toInt64 27 &&& 63)) + ((v1 &&& 134217727) * (v2 &&& 134217727))) >>> (Int32.toInt64 54 &&& 63)))), (11, .long (((v1 >>> (Int32.toInt64 27 &&& 63)) * (v2 &&& 134217727)) + ((v1 &&& 134217727) * (v2 >>> (Int32.toInt64 27 &&& 63))))), (9, .long v2), (7, .long v1), (5, .long 134217727), (4, .int w), (0, .long x), (2, .long y)] [.int v4, .int v3] σ K
  refine z_iadd (pc' := 228) ⟨by decide +kernel, rfl⟩ ?_
  refine z_istore (i := 17) (pc' := 230) ⟨by decide +kernel, rfl⟩ (by decide) rfl ?_
  show Wz E Y_M_times 230 [(17, .int (v3 + v4)), (13, .long (((((((v1 >>> (Int32.toInt64 27 &&& 63)) * (v2 &&& 134217727)) + ((v1 &&& 134217727) * (v2 >>> (Int32.toInt64 27 &&& 63)))) &&& 134217727) <<< (Int32.toInt64 27 &&& 63)) + ((v1 &&& 134217727) * (v2 &&& 134217727))) &&& 18014398509481983)), (15, .long ((((v1 >>> (Int32.toInt64 27 &&& 63)) * (v2 >>> (Int32.toInt64 27 &&& 63))) + ((((v1 >>> (Int32.toInt64 27 &&& 63)) * (v2 &&& 134217727)) + ((v1 &&& 134217727) * (v2 >>> (Int32.toInt64 27 &&& 63)))) >>> (Int32.toInt64 27 &&& 63))) + (((((((v1 >>> (Int32.toInt64 27 &&& 63)) * (v2 &&& 134217727)) + ((v1 &&& 134217727) * (v2 >>> (Int32.toInt64 27 &&& 63)))) &&& 134217727) <<< (Int32.toInt64 27 &&& 63)) + ((v1 &&& 134217727) * (v2 &&& 134217727))) >>> (Int32.toInt64 54 &&& 63)))), (11, .long (((v1 >>> (Int32.toInt64 27 &&& 63)) * (v2 &&& 134217727)) + ((v1 &&& 134217727) * (v2 >>> (Int32.toInt64 27 &&& 63))))), (9, .long v2), (7, .long v1), (5, .long 134217727), (4, .int w), (0, .long x), (2, .long y)] [] σ K
  refine z_lload (i := 15) (q := 2) (pc' := 232) ⟨by decide +kernel, rfl⟩ rfl ?_
  refine z_lconst (i := 0) (v := 0) (pc' := 233) ⟨by decide +kernel, rfl⟩ (by decide) ?_
  refine z_lcmp (pc' := 234) ⟨by decide +kernel, rfl⟩ ?_
  refine z_if_ne (off := 14) (tgt := 248) (pc' := 237) ⟨by decide +kernel, by decide, rfl⟩ (fun h5 => ?_) (fun h5 => ?_)
  · refine z_bipush (i := 62) (v := 62) (pc' := 250) ⟨by decide +kernel, rfl⟩ (by decide) ?_
    refine z_lload (i := 15) (q := 2) (pc' := 252) ⟨by decide +kernel, rfl⟩ rfl ?_
    refine z_invS (Z := Y_M_length) (idx := 353) (As := [.long ((((v1 >>> (Int32.toInt64 27 &&& 63)) * (v2 >>> (Int32.toInt64 27 &&& 63))) + ((((v1 >>> (Int32.toInt64 27 &&& 63)) * (v2 &&& 134217727)) + ((v1 &&& 134217727) * (v2 >>> (Int32.toInt64 27 &&& 63)))) >>> (Int32.toInt64 27 &&& 63))) + (((((((v1 >>> (Int32.toInt64 27 &&& 63)) * (v2 &&& 134217727)) + ((v1 &&& 134217727) * (v2 >>> (Int32.toInt64 27 &&& 63)))) &&& 134217727) <<< (Int32.toInt64 27 &&& 63)) + ((v1 &&& 134217727) * (v2 &&& 134217727))) >>> (Int32.toInt64 54 &&& 63)))]) (rest := [.int 62]) (nA := 1) (pc' := 255) ⟨k_11_126, k_1_12, k_11_128, by decide, by decide, by decide +kernel⟩ k_11_127 ⟨⟨by decide, by decide⟩, rfl, rfl⟩ ⟨by decide +kernel, rfl⟩ rfl rfl (Nat.le_of_ble_eq_true rfl) rfl rfl ?_
    refine cz_M_length (fun v6 hv6 => ?_)
    show Wz E Y_M_times 255 [(17, .int (v3 + v4)), (13, .long (((((((v1 >>> (Int32.toInt64 27 &&& 63)) * (v2 &&& 134217727)) + ((v1 &&& 134217727) * (v2 >>> (Int32.toInt64 27 &&& 63)))) &&& 134217727) <<< (Int32.toInt64 27 &&& 63)) + ((v1 &&& 134217727) * (v2 &&& 134217727))) &&& 18014398509481983)), (15, .long ((((v1 >>> (Int32.toInt64 27 &&& 63)) * (v2 >>> (Int32.toInt64 27 &&& 63))) + ((((v1 >>> (Int32.toInt64 27 &&& 63)) * (v2 &&& 134217727)) + ((v1 &&& 134217727) * (v2 >>> (Int32.toInt64 27 &&& 63)))) >>> (Int32.toInt64 27 &&& 63))) + (((((((v1 >>> (Int32.toInt64 27 &&& 63)) * (v2 &&& 134217727)) + ((v1 &&& 134217727) * (v2 >>> (Int32.toInt64 27 &&& 63)))) &&& 134217727) <<< (Int32.toInt64 27 &&& 63)) + ((v1 &&& 134217727) * (v2 &&& 134217727))) >>> (Int32.toInt64 54 &&& 63)))), (11, .long (((v1 >>> (Int32.toInt64 27 &&& 63)) * (v2 &&& 134217727)) + ((v1 &&& 134217727) * (v2 >>> (Int32.toInt64 27 &&& 63))))), (9, .long v2), (7, .long v1), (5, .long 134217727), (4, .int w), (0, .long x), (2, .long y)] [.int v6, .int 62] σ K
    refine z_isub (pc' := 256) ⟨by decide +kernel, rfl⟩ ?_
    refine z_istore (i := 18) (pc' := 258) ⟨by decide +kernel, rfl⟩ (by decide) rfl ?_
    show Wz E Y_M_times 258 [(18, .int (62 - v6)), (17, .int (v3 + v4)), (13, .long (((((((v1 >>> (Int32.toInt64 27 &&& 63)) * (v2 &&& 134217727)) + ((v1 &&& 134217727) * (v2 >>> (Int32.toInt64 27 &&& 63)))) &&& 134217727) <<< (Int32.toInt64 27 &&& 63)) + ((v1 &&& 134217727) * (v2 &&& 134217727))) &&& 18014398509481983)), (15, .long ((((v1 >>> (Int32.toInt64 27 &&& 63)) * (v2 >>> (Int32.toInt64 27 &&& 63))) + ((((v1 >>> (Int32.toInt64 27 &&& 63)) * (v2 &&& 134217727)) + ((v1 &&& 134217727) * (v2 >>> (Int32.toInt64 27 &&& 63)))) >>> (Int32.toInt64 27 &&& 63))) + (((((((v1 >>> (Int32.toInt64 27 &&& 63)) * (v2 &&& 134217727)) + ((v1 &&& 134217727) * (v2 >>> (Int32.toInt64 27 &&& 63)))) &&& 134217727) <<< (Int32.toInt64 27 &&& 63)) + ((v1 &&& 134217727) * (v2 &&& 134217727))) >>> (Int32.toInt64 54 &&& 63)))), (11, .long (((v1 >>> (Int32.toInt64 27 &&& 63)) * (v2 &&& 134217727)) + ((v1 &&& 134217727) * (v2 >>> (Int32.toInt64 27 &&& 63))))), (9, .long v2), (7, .long v1), (5, .long 134217727), (4, .int w), (0, .long x), (2, .long y)] [] σ K
    refine z_iload (i := 18) (q := 0) (pc' := 260) ⟨by decide +kernel, rfl⟩ rfl ?_
    refine z_bipush (i := 54) (v := 54) (pc' := 262) ⟨by decide +kernel, rfl⟩ (by decide) ?_
    refine z_icmp_le (off := 8) (tgt := 270) (pc' := 265) ⟨by decide +kernel, by decide, rfl⟩ (fun h7 => ?_) (fun h7 => ?_)
    · refine z_iload (i := 18) (q := 0) (pc' := 272) ⟨by decide +kernel, rfl⟩ rfl ?_
      refine z_istore (i := 18) (pc' := 274) ⟨by decide +kernel, rfl⟩ (by decide) rfl ?_
      show Wz E Y_M_times 274 [(18, .int (62 - v6)), (17, .int (v3 + v4)), (13, .long (((((((v1 >>> (Int32.toInt64 27 &&& 63)) * (v2 &&& 134217727)) + ((v1 &&& 134217727) * (v2 >>> (Int32.toInt64 27 &&& 63)))) &&& 134217727) <<< (Int32.toInt64 27 &&& 63)) + ((v1 &&& 134217727) * (v2 &&& 134217727))) &&& 18014398509481983)), (15, .long ((((v1 >>> (Int32.toInt64 27 &&& 63)) * (v2 >>> (Int32.toInt64 27 &&& 63))) + ((((v1 >>> (Int32.toInt64 27 &&& 63)) * (v2 &&& 134217727)) + ((v1 &&& 134217727) * (v2 >>> (Int32.toInt64 27 &&& 63)))) >>> (Int32.toInt64 27 &&& 63))) + (((((((v1 >>> (Int32.toInt64 27 &&& 63)) * (v2 &&& 134217727)) + ((v1 &&& 134217727) * (v2 >>> (Int32.toInt64 27 &&& 63)))) &&& 134217727) <<< (Int32.toInt64 27 &&& 63)) + ((v1 &&& 134217727) * (v2 &&& 134217727))) >>> (Int32.toInt64 54 &&& 63)))), (11, .long (((v1 >>> (Int32.toInt64 27 &&& 63)) * (v2 &&& 134217727)) + ((v1 &&& 134217727) * (v2 >>> (Int32.toInt64 27 &&& 63))))), (9, .long v2), (7, .long v1), (5, .long 134217727), (4, .int w), (0, .long x), (2, .long y)] [] σ K
      have z0L : (0 : Int64).toInt = 0 := by decide
      have z54 : (54 : Int32).toInt = 54 := by decide
      have gh5 := k_ne_t h5
      have gh7 := j_le_t h7
      have c := tm_cut (a := v1) (b := v2) (by rw [hv1]; exact mz_lt _) (by rw [hv2]; exact mz_lt _)
      have n0 : (tmHi v1 v2).toInt ≠ 0 := by rw [← z0L]; exact gh5
      exact run_M_times_c hx hy hw (mm_e hv3 hv4).1 (mm_k1 n0 c.2.2 hv6 (by omega)) (Nat.pos_of_ne_zero (u_nz n0)) c.2.1 (by rw [← hv1, ← hv2]; exact c.1) k
    · refine z_bipush (i := 54) (v := 54) (pc' := 267) ⟨by decide +kernel, rfl⟩ (by decide) ?_
      refine z_goto (off := 5) (tgt := 272) (pc' := 270) ⟨by decide +kernel, by decide, rfl⟩ ?_
      refine z_istore (i := 18) (pc' := 274) ⟨by decide +kernel, rfl⟩ (by decide) rfl ?_
      show Wz E Y_M_times 274 [(18, .int 54), (17, .int (v3 + v4)), (13, .long (((((((v1 >>> (Int32.toInt64 27 &&& 63)) * (v2 &&& 134217727)) + ((v1 &&& 134217727) * (v2 >>> (Int32.toInt64 27 &&& 63)))) &&& 134217727) <<< (Int32.toInt64 27 &&& 63)) + ((v1 &&& 134217727) * (v2 &&& 134217727))) &&& 18014398509481983)), (15, .long ((((v1 >>> (Int32.toInt64 27 &&& 63)) * (v2 >>> (Int32.toInt64 27 &&& 63))) + ((((v1 >>> (Int32.toInt64 27 &&& 63)) * (v2 &&& 134217727)) + ((v1 &&& 134217727) * (v2 >>> (Int32.toInt64 27 &&& 63)))) >>> (Int32.toInt64 27 &&& 63))) + (((((((v1 >>> (Int32.toInt64 27 &&& 63)) * (v2 &&& 134217727)) + ((v1 &&& 134217727) * (v2 >>> (Int32.toInt64 27 &&& 63)))) &&& 134217727) <<< (Int32.toInt64 27 &&& 63)) + ((v1 &&& 134217727) * (v2 &&& 134217727))) >>> (Int32.toInt64 54 &&& 63)))), (11, .long (((v1 >>> (Int32.toInt64 27 &&& 63)) * (v2 &&& 134217727)) + ((v1 &&& 134217727) * (v2 >>> (Int32.toInt64 27 &&& 63))))), (9, .long v2), (7, .long v1), (5, .long 134217727), (4, .int w), (0, .long x), (2, .long y)] [] σ K
      have z0L : (0 : Int64).toInt = 0 := by decide
      have z54 : (54 : Int32).toInt = 54 := by decide
      have gh5 := k_ne_t h5
      have gh7 := j_le_f h7
      have c := tm_cut (a := v1) (b := v2) (by rw [hv1]; exact mz_lt _) (by rw [hv2]; exact mz_lt _)
      have n0 : (tmHi v1 v2).toInt ≠ 0 := by rw [← z0L]; exact gh5
      exact run_M_times_c hx hy hw (mm_e hv3 hv4).1 (mm_k2 n0 c.2.2 hv6 (by omega)) (Nat.pos_of_ne_zero (u_nz n0)) c.2.1 (by rw [← hv1, ← hv2]; exact c.1) k
  · refine z_iload (i := 4) (q := 7) (pc' := 239) ⟨by decide +kernel, rfl⟩ rfl ?_
    refine z_lload (i := 13) (q := 1) (pc' := 241) ⟨by decide +kernel, rfl⟩ rfl ?_
    refine z_iload (i := 17) (q := 0) (pc' := 243) ⟨by decide +kernel, rfl⟩ rfl ?_
    refine z_iconst (i := 0) (v := 0) (pc' := 244) ⟨by decide +kernel, rfl⟩ (by decide) ?_
    refine z_invS (Z := Y_M_fit) (idx := 361) (As := [.int w, .long (((((((v1 >>> (Int32.toInt64 27 &&& 63)) * (v2 &&& 134217727)) + ((v1 &&& 134217727) * (v2 >>> (Int32.toInt64 27 &&& 63)))) &&& 134217727) <<< (Int32.toInt64 27 &&& 63)) + ((v1 &&& 134217727) * (v2 &&& 134217727))) &&& 18014398509481983), .int (v3 + v4), .int 0]) (rest := []) (nA := 4) (pc' := 247) ⟨k_11_129, k_1_12, k_11_131, by decide, by decide, by decide +kernel⟩ k_11_130 ⟨⟨by decide, by decide⟩, rfl, rfl⟩ ⟨by decide +kernel, rfl⟩ rfl rfl (Nat.le_of_ble_eq_true rfl) rfl rfl ?_
    refine cz_M_fit (hm := Nat.lt_trans (tm_cut (a := v1) (b := v2) (by rw [hv1]; exact mz_lt _) (by rw [hv2]; exact mz_lt _)).2.1 (by decide)) (he := (mm_e hv3 hv4).2) (fun v8 hv8 => ?_)
    show Wz E Y_M_times 247 [(17, .int (v3 + v4)), (13, .long (((((((v1 >>> (Int32.toInt64 27 &&& 63)) * (v2 &&& 134217727)) + ((v1 &&& 134217727) * (v2 >>> (Int32.toInt64 27 &&& 63)))) &&& 134217727) <<< (Int32.toInt64 27 &&& 63)) + ((v1 &&& 134217727) * (v2 &&& 134217727))) &&& 18014398509481983)), (15, .long ((((v1 >>> (Int32.toInt64 27 &&& 63)) * (v2 >>> (Int32.toInt64 27 &&& 63))) + ((((v1 >>> (Int32.toInt64 27 &&& 63)) * (v2 &&& 134217727)) + ((v1 &&& 134217727) * (v2 >>> (Int32.toInt64 27 &&& 63)))) >>> (Int32.toInt64 27 &&& 63))) + (((((((v1 >>> (Int32.toInt64 27 &&& 63)) * (v2 &&& 134217727)) + ((v1 &&& 134217727) * (v2 >>> (Int32.toInt64 27 &&& 63)))) &&& 134217727) <<< (Int32.toInt64 27 &&& 63)) + ((v1 &&& 134217727) * (v2 &&& 134217727))) >>> (Int32.toInt64 54 &&& 63)))), (11, .long (((v1 >>> (Int32.toInt64 27 &&& 63)) * (v2 &&& 134217727)) + ((v1 &&& 134217727) * (v2 >>> (Int32.toInt64 27 &&& 63))))), (9, .long v2), (7, .long v1), (5, .long 134217727), (4, .int w), (0, .long x), (2, .long y)] [.long v8] σ K
    refine z_lret rfl (by decide +kernel) ?_
    have z0L : (0 : Int64).toInt = 0 := by decide
    have gh5 := k_ne_f h5
    exact k _ (mm_small hx hy hw hv1 hv2 hv3 hv4 (by rw [gh5, z0L]) hv8)

end
