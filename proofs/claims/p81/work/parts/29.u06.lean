section
theorem run_Re_over {E : xV} {σ : zS} {K : zKt} {x y : Int64} (k : ∀ v : Int64, OvR x.toInt y.toInt v.toInt → K (some (.long v)) σ) : Wz E Y_Re_over 0 [(0, .long x), (2, .long y)] [] σ K := by
  refine z_lload_n (f := 0) (i := 0) (q := 0) (pc' := 1) ⟨by decide +kernel, rfl⟩ rfl rfl ?_
  refine z_lload_n (f := 2) (i := 2) (q := 1) (pc' := 2) ⟨by decide +kernel, rfl⟩ rfl rfl ?_
  refine z_lxor (pc' := 3) ⟨by decide +kernel, rfl⟩ ?_
  refine z_ldc2 (i := 19) (v := (-9223372036854775808)) (pc' := 6) ⟨by decide +kernel, rfl⟩ k_4_115 ?_
  refine z_land (pc' := 7) ⟨by decide +kernel, rfl⟩ ?_
  refine z_lstore (i := 4) (pc' := 9) ⟨by decide +kernel, rfl⟩ (by decide) rfl ?_
  show Wz E Y_Re_over 9 [(4, .long ((x ^^^ y) &&& (-9223372036854775808))), (0, .long x), (2, .long y)] [] σ K
  refine z_lload_n (f := 0) (i := 0) (q := 1) (pc' := 10) ⟨by decide +kernel, rfl⟩ rfl rfl ?_
  refine z_invS (Z := Y_Re_isNoNumber) (idx := 13) (As := [.long x]) (rest := []) (nA := 1) (pc' := 13) ⟨k_4_124, k_1_13, k_3_235, by decide, by decide, by decide +kernel⟩ k_3_234 ⟨⟨by decide, by decide⟩, rfl, rfl⟩ ⟨by decide +kernel, rfl⟩ rfl rfl (Nat.le_of_ble_eq_true rfl) rfl rfl ?_
  refine cz_Re_isNoNumber (fun v1 hv1 => ?_)
  show Wz E Y_Re_over 13 [(4, .long ((x ^^^ y) &&& (-9223372036854775808))), (0, .long x), (2, .long y)] [.int v1] σ K
  refine z_if_ne (off := 38) (tgt := 51) (pc' := 16) ⟨by decide +kernel, by decide, rfl⟩ (fun h2 => ?_) (fun h2 => ?_)
  · refine z_ldc2 (i := 17) (v := 9221120237041090560) (pc' := 54) ⟨by decide +kernel, rfl⟩ k_4_131 ?_
    refine z_lret rfl (by decide +kernel) ?_
    have z0L : (0 : Int64).toInt = 0 := by decide
    have gh2 := p3_t hv1 h2
    exact k _ (ov_nan (by omega))
  · refine z_lload_n (f := 2) (i := 2) (q := 2) (pc' := 17) ⟨by decide +kernel, rfl⟩ rfl rfl ?_
    refine z_invS (Z := Y_Re_isNoNumber) (idx := 13) (As := [.long y]) (rest := []) (nA := 1) (pc' := 20) ⟨k_4_124, k_1_13, k_3_235, by decide, by decide, by decide +kernel⟩ k_3_234 ⟨⟨by decide, by decide⟩, rfl, rfl⟩ ⟨by decide +kernel, rfl⟩ rfl rfl (Nat.le_of_ble_eq_true rfl) rfl rfl ?_
    refine cz_Re_isNoNumber (fun v3 hv3 => ?_)
    show Wz E Y_Re_over 20 [(4, .long ((x ^^^ y) &&& (-9223372036854775808))), (0, .long x), (2, .long y)] [.int v3] σ K
    refine z_if_ne (off := 31) (tgt := 51) (pc' := 23) ⟨by decide +kernel, by decide, rfl⟩ (fun h4 => ?_) (fun h4 => ?_)
    · refine z_ldc2 (i := 17) (v := 9221120237041090560) (pc' := 54) ⟨by decide +kernel, rfl⟩ k_4_131 ?_
      refine z_lret rfl (by decide +kernel) ?_
      have z0L : (0 : Int64).toInt = 0 := by decide
      have gh2 := p3_f hv1 h2
      have gh4 := p3_t hv3 h4
      exact k _ (ov_nan (by omega))
    · refine z_lload_n (f := 0) (i := 0) (q := 1) (pc' := 24) ⟨by decide +kernel, rfl⟩ rfl rfl ?_
      refine z_invS (Z := Y_Re_isEndless) (idx := 35) (As := [.long x]) (rest := []) (nA := 1) (pc' := 27) ⟨k_4_125, k_1_13, k_4_127, by decide, by decide, by decide +kernel⟩ k_4_126 ⟨⟨by decide, by decide⟩, rfl, rfl⟩ ⟨by decide +kernel, rfl⟩ rfl rfl (Nat.le_of_ble_eq_true rfl) rfl rfl ?_
      refine cz_Re_isEndless (fun v5 hv5 => ?_)
      show Wz E Y_Re_over 27 [(4, .long ((x ^^^ y) &&& (-9223372036854775808))), (0, .long x), (2, .long y)] [.int v5] σ K
      refine z_if_eq (off := 10) (tgt := 37) (pc' := 30) ⟨by decide +kernel, by decide, rfl⟩ (fun h6 => ?_) (fun h6 => ?_)
      · refine z_lload_n (f := 0) (i := 0) (q := 1) (pc' := 38) ⟨by decide +kernel, rfl⟩ rfl rfl ?_
        refine z_invS (Z := Y_Re_isZero) (idx := 46) (As := [.long x]) (rest := []) (nA := 1) (pc' := 41) ⟨k_4_128, k_1_13, k_4_130, by decide, by decide, by decide +kernel⟩ k_4_129 ⟨⟨by decide, by decide⟩, rfl, rfl⟩ ⟨by decide +kernel, rfl⟩ rfl rfl (Nat.le_of_ble_eq_true rfl) rfl rfl ?_
        refine cz_Re_isZero (fun v7 hv7 => ?_)
        show Wz E Y_Re_over 41 [(4, .long ((x ^^^ y) &&& (-9223372036854775808))), (0, .long x), (2, .long y)] [.int v7] σ K
        refine z_if_eq (off := 14) (tgt := 55) (pc' := 44) ⟨by decide +kernel, by decide, rfl⟩ (fun h8 => ?_) (fun h8 => ?_)
        · refine z_lload_n (f := 0) (i := 0) (q := 1) (pc' := 56) ⟨by decide +kernel, rfl⟩ rfl rfl ?_
          refine z_invS (Z := Y_Re_isEndless) (idx := 35) (As := [.long x]) (rest := []) (nA := 1) (pc' := 59) ⟨k_4_125, k_1_13, k_4_127, by decide, by decide, by decide +kernel⟩ k_4_126 ⟨⟨by decide, by decide⟩, rfl, rfl⟩ ⟨by decide +kernel, rfl⟩ rfl rfl (Nat.le_of_ble_eq_true rfl) rfl rfl ?_
          refine cz_Re_isEndless (fun v9 hv9 => ?_)
          show Wz E Y_Re_over 59 [(4, .long ((x ^^^ y) &&& (-9223372036854775808))), (0, .long x), (2, .long y)] [.int v9] σ K
          refine z_if_ne (off := 10) (tgt := 69) (pc' := 62) ⟨by decide +kernel, by decide, rfl⟩ (fun h10 => ?_) (fun h10 => ?_)
          · refine z_lload (i := 4) (q := 0) (pc' := 71) ⟨by decide +kernel, rfl⟩ rfl ?_
            refine z_ldc2 (i := 11) (v := 9218868437227405312) (pc' := 74) ⟨by decide +kernel, rfl⟩ k_3_237 ?_
            refine z_lor (pc' := 75) ⟨by decide +kernel, rfl⟩ ?_
            refine z_lret rfl (by decide +kernel) ?_
            have z0L : (0 : Int64).toInt = 0 := by decide
            have gh2 := p3_f hv1 h2
            have gh4 := p3_f hv3 h4
            have gh6 := p3_f hv5 h6
            have gh8 := p3_f hv7 h8
            have gh10 := p3_t hv9 h10
            exact k _ (ov_inf (by omega) (by omega) (sg_put (sg_xor x y) u_infF (by decide)))
          · refine z_lload_n (f := 2) (i := 2) (q := 2) (pc' := 63) ⟨by decide +kernel, rfl⟩ rfl rfl ?_
            refine z_invS (Z := Y_Re_isZero) (idx := 46) (As := [.long y]) (rest := []) (nA := 1) (pc' := 66) ⟨k_4_128, k_1_13, k_4_130, by decide, by decide, by decide +kernel⟩ k_4_129 ⟨⟨by decide, by decide⟩, rfl, rfl⟩ ⟨by decide +kernel, rfl⟩ rfl rfl (Nat.le_of_ble_eq_true rfl) rfl rfl ?_
            refine cz_Re_isZero (fun v11 hv11 => ?_)
            show Wz E Y_Re_over 66 [(4, .long ((x ^^^ y) &&& (-9223372036854775808))), (0, .long x), (2, .long y)] [.int v11] σ K
            refine z_if_eq (off := 10) (tgt := 76) (pc' := 69) ⟨by decide +kernel, by decide, rfl⟩ (fun h12 => ?_) (fun h12 => ?_)
            · refine z_lload_n (f := 0) (i := 0) (q := 1) (pc' := 77) ⟨by decide +kernel, rfl⟩ rfl rfl ?_
              refine z_invS (Z := Y_Re_isZero) (idx := 46) (As := [.long x]) (rest := []) (nA := 1) (pc' := 80) ⟨k_4_128, k_1_13, k_4_130, by decide, by decide, by decide +kernel⟩ k_4_129 ⟨⟨by decide, by decide⟩, rfl, rfl⟩ ⟨by decide +kernel, rfl⟩ rfl rfl (Nat.le_of_ble_eq_true rfl) rfl rfl ?_
              refine cz_Re_isZero (fun v13 hv13 => ?_)
              show Wz E Y_Re_over 80 [(4, .long ((x ^^^ y) &&& (-9223372036854775808))), (0, .long x), (2, .long y)] [.int v13] σ K
              refine z_if_ne (off := 10) (tgt := 90) (pc' := 83) ⟨by decide +kernel, by decide, rfl⟩ (fun h14 => ?_) (fun h14 => ?_)
              · refine z_lload (i := 4) (q := 0) (pc' := 92) ⟨by decide +kernel, rfl⟩ rfl ?_
                refine z_lret rfl (by decide +kernel) ?_
                have z0L : (0 : Int64).toInt = 0 := by decide
                have gh2 := p3_f hv1 h2
                have gh4 := p3_f hv3 h4
                have gh6 := p3_f hv5 h6
                have gh8 := p3_f hv7 h8
                have gh10 := p3_f hv9 h10
                have gh12 := p3_f hv11 h12
                have gh14 := p3_t hv13 h14
                exact k _ (ov_zero (by omega) (by omega) (by omega) (sg_self (sg_xor x y)))
              · refine z_lload_n (f := 2) (i := 2) (q := 2) (pc' := 84) ⟨by decide +kernel, rfl⟩ rfl rfl ?_
                refine z_invS (Z := Y_Re_isEndless) (idx := 35) (As := [.long y]) (rest := []) (nA := 1) (pc' := 87) ⟨k_4_125, k_1_13, k_4_127, by decide, by decide, by decide +kernel⟩ k_4_126 ⟨⟨by decide, by decide⟩, rfl, rfl⟩ ⟨by decide +kernel, rfl⟩ rfl rfl (Nat.le_of_ble_eq_true rfl) rfl rfl ?_
                refine cz_Re_isEndless (fun v15 hv15 => ?_)
                show Wz E Y_Re_over 87 [(4, .long ((x ^^^ y) &&& (-9223372036854775808))), (0, .long x), (2, .long y)] [.int v15] σ K
                refine z_if_eq (off := 6) (tgt := 93) (pc' := 90) ⟨by decide +kernel, by decide, rfl⟩ (fun h16 => ?_) (fun h16 => ?_)
                · have z0L : (0 : Int64).toInt = 0 := by decide
                  have gh2 := p3_f hv1 h2
                  have gh4 := p3_f hv3 h4
                  have gh6 := p3_f hv5 h6
                  have gh8 := p3_f hv7 h8
                  have gh10 := p3_f hv9 h10
                  have gh12 := p3_f hv11 h12
                  have gh14 := p3_f hv13 h14
                  have gh16 := p3_f hv15 h16
                  exact run_Re_over_b (by omega) (by omega) (by omega) (by omega) (sg_xor x y) k
                · refine z_lload (i := 4) (q := 0) (pc' := 92) ⟨by decide +kernel, rfl⟩ rfl ?_
                  refine z_lret rfl (by decide +kernel) ?_
                  have z0L : (0 : Int64).toInt = 0 := by decide
                  have gh2 := p3_f hv1 h2
                  have gh4 := p3_f hv3 h4
                  have gh6 := p3_f hv5 h6
                  have gh8 := p3_f hv7 h8
                  have gh10 := p3_f hv9 h10
                  have gh12 := p3_f hv11 h12
                  have gh14 := p3_f hv13 h14
                  have gh16 := p3_t hv15 h16
                  exact k _ (ov_zero (by omega) (by omega) (by omega) (sg_self (sg_xor x y)))
            · refine z_lload (i := 4) (q := 0) (pc' := 71) ⟨by decide +kernel, rfl⟩ rfl ?_
              refine z_ldc2 (i := 11) (v := 9218868437227405312) (pc' := 74) ⟨by decide +kernel, rfl⟩ k_3_237 ?_
              refine z_lor (pc' := 75) ⟨by decide +kernel, rfl⟩ ?_
              refine z_lret rfl (by decide +kernel) ?_
              have z0L : (0 : Int64).toInt = 0 := by decide
              have gh2 := p3_f hv1 h2
              have gh4 := p3_f hv3 h4
              have gh6 := p3_f hv5 h6
              have gh8 := p3_f hv7 h8
              have gh10 := p3_f hv9 h10
              have gh12 := p3_t hv11 h12
              exact k _ (ov_inf (by omega) (by omega) (sg_put (sg_xor x y) u_infF (by decide)))
        · refine z_lload_n (f := 2) (i := 2) (q := 2) (pc' := 45) ⟨by decide +kernel, rfl⟩ rfl rfl ?_
          refine z_invS (Z := Y_Re_isZero) (idx := 46) (As := [.long y]) (rest := []) (nA := 1) (pc' := 48) ⟨k_4_128, k_1_13, k_4_130, by decide, by decide, by decide +kernel⟩ k_4_129 ⟨⟨by decide, by decide⟩, rfl, rfl⟩ ⟨by decide +kernel, rfl⟩ rfl rfl (Nat.le_of_ble_eq_true rfl) rfl rfl ?_
          refine cz_Re_isZero (fun v17 hv17 => ?_)
          show Wz E Y_Re_over 48 [(4, .long ((x ^^^ y) &&& (-9223372036854775808))), (0, .long x), (2, .long y)] [.int v17] σ K
          refine z_if_eq (off := 7) (tgt := 55) (pc' := 51) ⟨by decide +kernel, by decide, rfl⟩ (fun h18 => ?_) (fun h18 => ?_)
          · refine z_lload_n (f := 0) (i := 0) (q := 1) (pc' := 56) ⟨by decide +kernel, rfl⟩ rfl rfl ?_
            refine z_invS (Z := Y_Re_isEndless) (idx := 35) (As := [.long x]) (rest := []) (nA := 1) (pc' := 59) ⟨k_4_125, k_1_13, k_4_127, by decide, by decide, by decide +kernel⟩ k_4_126 ⟨⟨by decide, by decide⟩, rfl, rfl⟩ ⟨by decide +kernel, rfl⟩ rfl rfl (Nat.le_of_ble_eq_true rfl) rfl rfl ?_
            refine cz_Re_isEndless (fun v19 hv19 => ?_)
            show Wz E Y_Re_over 59 [(4, .long ((x ^^^ y) &&& (-9223372036854775808))), (0, .long x), (2, .long y)] [.int v19] σ K
            refine z_if_ne (off := 10) (tgt := 69) (pc' := 62) ⟨by decide +kernel, by decide, rfl⟩ (fun h20 => ?_) (fun h20 => ?_)
            · refine z_lload (i := 4) (q := 0) (pc' := 71) ⟨by decide +kernel, rfl⟩ rfl ?_
              refine z_ldc2 (i := 11) (v := 9218868437227405312) (pc' := 74) ⟨by decide +kernel, rfl⟩ k_3_237 ?_
              refine z_lor (pc' := 75) ⟨by decide +kernel, rfl⟩ ?_
              refine z_lret rfl (by decide +kernel) ?_
              have z0L : (0 : Int64).toInt = 0 := by decide
              have gh2 := p3_f hv1 h2
              have gh4 := p3_f hv3 h4
              have gh6 := p3_f hv5 h6
              have gh8 := p3_t hv7 h8
              have gh18 := p3_f hv17 h18
              have gh20 := p3_t hv19 h20
              exact k _ (ov_inf (by omega) (by omega) (sg_put (sg_xor x y) u_infF (by decide)))
            · refine z_lload_n (f := 2) (i := 2) (q := 2) (pc' := 63) ⟨by decide +kernel, rfl⟩ rfl rfl ?_
              refine z_invS (Z := Y_Re_isZero) (idx := 46) (As := [.long y]) (rest := []) (nA := 1) (pc' := 66) ⟨k_4_128, k_1_13, k_4_130, by decide, by decide, by decide +kernel⟩ k_4_129 ⟨⟨by decide, by decide⟩, rfl, rfl⟩ ⟨by decide +kernel, rfl⟩ rfl rfl (Nat.le_of_ble_eq_true rfl) rfl rfl ?_
              refine cz_Re_isZero (fun v21 hv21 => ?_)
              show Wz E Y_Re_over 66 [(4, .long ((x ^^^ y) &&& (-9223372036854775808))), (0, .long x), (2, .long y)] [.int v21] σ K
              refine z_if_eq (off := 10) (tgt := 76) (pc' := 69) ⟨by decide +kernel, by decide, rfl⟩ (fun h22 => ?_) (fun h22 => ?_)
              · refine z_lload_n (f := 0) (i := 0) (q := 1) (pc' := 77) ⟨by decide +kernel, rfl⟩ rfl rfl ?_
                refine z_invS (Z := Y_Re_isZero) (idx := 46) (As := [.long x]) (rest := []) (nA := 1) (pc' := 80) ⟨k_4_128, k_1_13, k_4_130, by decide, by decide, by decide +kernel⟩ k_4_129 ⟨⟨by decide, by decide⟩, rfl, rfl⟩ ⟨by decide +kernel, rfl⟩ rfl rfl (Nat.le_of_ble_eq_true rfl) rfl rfl ?_
                refine cz_Re_isZero (fun v23 hv23 => ?_)
                show Wz E Y_Re_over 80 [(4, .long ((x ^^^ y) &&& (-9223372036854775808))), (0, .long x), (2, .long y)] [.int v23] σ K
                refine z_if_ne (off := 10) (tgt := 90) (pc' := 83) ⟨by decide +kernel, by decide, rfl⟩ (fun h24 => ?_) (fun h24 => ?_)
                · refine z_lload (i := 4) (q := 0) (pc' := 92) ⟨by decide +kernel, rfl⟩ rfl ?_
                  refine z_lret rfl (by decide +kernel) ?_
                  have z0L : (0 : Int64).toInt = 0 := by decide
                  have gh2 := p3_f hv1 h2
                  have gh4 := p3_f hv3 h4
                  have gh6 := p3_f hv5 h6
                  have gh8 := p3_t hv7 h8
                  have gh18 := p3_f hv17 h18
                  have gh20 := p3_f hv19 h20
                  have gh22 := p3_f hv21 h22
                  have gh24 := p3_t hv23 h24
                  exact k _ (ov_zero (by omega) (by omega) (by omega) (sg_self (sg_xor x y)))
                · refine z_lload_n (f := 2) (i := 2) (q := 2) (pc' := 84) ⟨by decide +kernel, rfl⟩ rfl rfl ?_
                  refine z_invS (Z := Y_Re_isEndless) (idx := 35) (As := [.long y]) (rest := []) (nA := 1) (pc' := 87) ⟨k_4_125, k_1_13, k_4_127, by decide, by decide, by decide +kernel⟩ k_4_126 ⟨⟨by decide, by decide⟩, rfl, rfl⟩ ⟨by decide +kernel, rfl⟩ rfl rfl (Nat.le_of_ble_eq_true rfl) rfl rfl ?_
                  refine cz_Re_isEndless (fun v25 hv25 => ?_)
                  show Wz E Y_Re_over 87 [(4, .long ((x ^^^ y) &&& (-9223372036854775808))), (0, .long x), (2, .long y)] [.int v25] σ K
                  refine z_if_eq (off := 6) (tgt := 93) (pc' := 90) ⟨by decide +kernel, by decide, rfl⟩ (fun h26 => ?_) (fun h26 => ?_)
                  · have z0L : (0 : Int64).toInt = 0 := by decide
                    have gh2 := p3_f hv1 h2
                    have gh4 := p3_f hv3 h4
                    have gh6 := p3_f hv5 h6
                    have gh8 := p3_t hv7 h8
                    have gh18 := p3_f hv17 h18
                    have gh20 := p3_f hv19 h20
                    have gh22 := p3_f hv21 h22
                    have gh24 := p3_f hv23 h24
                    have gh26 := p3_f hv25 h26
                    exact run_Re_over_b (by omega) (by omega) (by omega) (by omega) (sg_xor x y) k
                  · refine z_lload (i := 4) (q := 0) (pc' := 92) ⟨by decide +kernel, rfl⟩ rfl ?_
                    refine z_lret rfl (by decide +kernel) ?_
                    have z0L : (0 : Int64).toInt = 0 := by decide
                    have gh2 := p3_f hv1 h2
                    have gh4 := p3_f hv3 h4
                    have gh6 := p3_f hv5 h6
                    have gh8 := p3_t hv7 h8
                    have gh18 := p3_f hv17 h18
                    have gh20 := p3_f hv19 h20
                    have gh22 := p3_f hv21 h22
                    have gh24 := p3_f hv23 h24
                    have gh26 := p3_t hv25 h26
                    exact k _ (ov_zero (by omega) (by omega) (by omega) (sg_self (sg_xor x y)))
              · refine z_lload (i := 4) (q := 0) (pc' := 71) ⟨by decide +kernel, rfl⟩ rfl ?_
                refine z_ldc2 (i := 11) (v := 9218868437227405312) (pc' := 74) ⟨by decide +kernel, rfl⟩ k_3_237 ?_
                refine z_lor (pc' := 75) ⟨by decide +kernel, rfl⟩ ?_
                refine z_lret rfl (by decide +kernel) ?_
                have z0L : (0 : Int64).toInt = 0 := by decide
                have gh2 := p3_f hv1 h2
                have gh4 := p3_f hv3 h4
                have gh6 := p3_f hv5 h6
                have gh8 := p3_t hv7 h8
                have gh18 := p3_f hv17 h18
                have gh20 := p3_f hv19 h20
                have gh22 := p3_t hv21 h22
                exact k _ (ov_inf (by omega) (by omega) (sg_put (sg_xor x y) u_infF (by decide)))
          · refine z_ldc2 (i := 17) (v := 9221120237041090560) (pc' := 54) ⟨by decide +kernel, rfl⟩ k_4_131 ?_
            refine z_lret rfl (by decide +kernel) ?_
            have z0L : (0 : Int64).toInt = 0 := by decide
            have gh2 := p3_f hv1 h2
            have gh4 := p3_f hv3 h4
            have gh6 := p3_f hv5 h6
            have gh8 := p3_t hv7 h8
            have gh18 := p3_t hv17 h18
            exact k _ (ov_nan (by omega))
      · refine z_lload_n (f := 2) (i := 2) (q := 2) (pc' := 31) ⟨by decide +kernel, rfl⟩ rfl rfl ?_
        refine z_invS (Z := Y_Re_isEndless) (idx := 35) (As := [.long y]) (rest := []) (nA := 1) (pc' := 34) ⟨k_4_125, k_1_13, k_4_127, by decide, by decide, by decide +kernel⟩ k_4_126 ⟨⟨by decide, by decide⟩, rfl, rfl⟩ ⟨by decide +kernel, rfl⟩ rfl rfl (Nat.le_of_ble_eq_true rfl) rfl rfl ?_
        refine cz_Re_isEndless (fun v27 hv27 => ?_)
        show Wz E Y_Re_over 34 [(4, .long ((x ^^^ y) &&& (-9223372036854775808))), (0, .long x), (2, .long y)] [.int v27] σ K
        refine z_if_ne (off := 17) (tgt := 51) (pc' := 37) ⟨by decide +kernel, by decide, rfl⟩ (fun h28 => ?_) (fun h28 => ?_)
        · refine z_ldc2 (i := 17) (v := 9221120237041090560) (pc' := 54) ⟨by decide +kernel, rfl⟩ k_4_131 ?_
          refine z_lret rfl (by decide +kernel) ?_
          have z0L : (0 : Int64).toInt = 0 := by decide
          have gh2 := p3_f hv1 h2
          have gh4 := p3_f hv3 h4
          have gh6 := p3_t hv5 h6
          have gh28 := p3_t hv27 h28
          exact k _ (ov_nan (by omega))
        · refine z_lload_n (f := 0) (i := 0) (q := 1) (pc' := 38) ⟨by decide +kernel, rfl⟩ rfl rfl ?_
          refine z_invS (Z := Y_Re_isZero) (idx := 46) (As := [.long x]) (rest := []) (nA := 1) (pc' := 41) ⟨k_4_128, k_1_13, k_4_130, by decide, by decide, by decide +kernel⟩ k_4_129 ⟨⟨by decide, by decide⟩, rfl, rfl⟩ ⟨by decide +kernel, rfl⟩ rfl rfl (Nat.le_of_ble_eq_true rfl) rfl rfl ?_
          refine cz_Re_isZero (fun v29 hv29 => ?_)
          show Wz E Y_Re_over 41 [(4, .long ((x ^^^ y) &&& (-9223372036854775808))), (0, .long x), (2, .long y)] [.int v29] σ K
          refine z_if_eq (off := 14) (tgt := 55) (pc' := 44) ⟨by decide +kernel, by decide, rfl⟩ (fun h30 => ?_) (fun h30 => ?_)
          · refine z_lload_n (f := 0) (i := 0) (q := 1) (pc' := 56) ⟨by decide +kernel, rfl⟩ rfl rfl ?_
            refine z_invS (Z := Y_Re_isEndless) (idx := 35) (As := [.long x]) (rest := []) (nA := 1) (pc' := 59) ⟨k_4_125, k_1_13, k_4_127, by decide, by decide, by decide +kernel⟩ k_4_126 ⟨⟨by decide, by decide⟩, rfl, rfl⟩ ⟨by decide +kernel, rfl⟩ rfl rfl (Nat.le_of_ble_eq_true rfl) rfl rfl ?_
            refine cz_Re_isEndless (fun v31 hv31 => ?_)
            show Wz E Y_Re_over 59 [(4, .long ((x ^^^ y) &&& (-9223372036854775808))), (0, .long x), (2, .long y)] [.int v31] σ K
            refine z_if_ne (off := 10) (tgt := 69) (pc' := 62) ⟨by decide +kernel, by decide, rfl⟩ (fun h32 => ?_) (fun h32 => ?_)
            · refine z_lload (i := 4) (q := 0) (pc' := 71) ⟨by decide +kernel, rfl⟩ rfl ?_
              refine z_ldc2 (i := 11) (v := 9218868437227405312) (pc' := 74) ⟨by decide +kernel, rfl⟩ k_3_237 ?_
              refine z_lor (pc' := 75) ⟨by decide +kernel, rfl⟩ ?_
              refine z_lret rfl (by decide +kernel) ?_
              have z0L : (0 : Int64).toInt = 0 := by decide
              have gh2 := p3_f hv1 h2
              have gh4 := p3_f hv3 h4
              have gh6 := p3_t hv5 h6
              have gh28 := p3_f hv27 h28
              have gh30 := p3_f hv29 h30
              have gh32 := p3_t hv31 h32
              exact k _ (ov_inf (by omega) (by omega) (sg_put (sg_xor x y) u_infF (by decide)))
            · refine z_lload_n (f := 2) (i := 2) (q := 2) (pc' := 63) ⟨by decide +kernel, rfl⟩ rfl rfl ?_
              refine z_invS (Z := Y_Re_isZero) (idx := 46) (As := [.long y]) (rest := []) (nA := 1) (pc' := 66) ⟨k_4_128, k_1_13, k_4_130, by decide, by decide, by decide +kernel⟩ k_4_129 ⟨⟨by decide, by decide⟩, rfl, rfl⟩ ⟨by decide +kernel, rfl⟩ rfl rfl (Nat.le_of_ble_eq_true rfl) rfl rfl ?_
              refine cz_Re_isZero (fun v33 hv33 => ?_)
              show Wz E Y_Re_over 66 [(4, .long ((x ^^^ y) &&& (-9223372036854775808))), (0, .long x), (2, .long y)] [.int v33] σ K
              refine z_if_eq (off := 10) (tgt := 76) (pc' := 69) ⟨by decide +kernel, by decide, rfl⟩ (fun h34 => ?_) (fun h34 => ?_)
              · refine z_lload_n (f := 0) (i := 0) (q := 1) (pc' := 77) ⟨by decide +kernel, rfl⟩ rfl rfl ?_
                refine z_invS (Z := Y_Re_isZero) (idx := 46) (As := [.long x]) (rest := []) (nA := 1) (pc' := 80) ⟨k_4_128, k_1_13, k_4_130, by decide, by decide, by decide +kernel⟩ k_4_129 ⟨⟨by decide, by decide⟩, rfl, rfl⟩ ⟨by decide +kernel, rfl⟩ rfl rfl (Nat.le_of_ble_eq_true rfl) rfl rfl ?_
                refine cz_Re_isZero (fun v35 hv35 => ?_)
                show Wz E Y_Re_over 80 [(4, .long ((x ^^^ y) &&& (-9223372036854775808))), (0, .long x), (2, .long y)] [.int v35] σ K
                refine z_if_ne (off := 10) (tgt := 90) (pc' := 83) ⟨by decide +kernel, by decide, rfl⟩ (fun h36 => ?_) (fun h36 => ?_)
                · refine z_lload (i := 4) (q := 0) (pc' := 92) ⟨by decide +kernel, rfl⟩ rfl ?_
                  refine z_lret rfl (by decide +kernel) ?_
                  have z0L : (0 : Int64).toInt = 0 := by decide
                  have gh2 := p3_f hv1 h2
                  have gh4 := p3_f hv3 h4
                  have gh6 := p3_t hv5 h6
                  have gh28 := p3_f hv27 h28
                  have gh30 := p3_f hv29 h30
                  have gh32 := p3_f hv31 h32
                  have gh34 := p3_f hv33 h34
                  have gh36 := p3_t hv35 h36
                  exact k _ (ov_zero (by omega) (by omega) (by omega) (sg_self (sg_xor x y)))
                · refine z_lload_n (f := 2) (i := 2) (q := 2) (pc' := 84) ⟨by decide +kernel, rfl⟩ rfl rfl ?_
                  refine z_invS (Z := Y_Re_isEndless) (idx := 35) (As := [.long y]) (rest := []) (nA := 1) (pc' := 87) ⟨k_4_125, k_1_13, k_4_127, by decide, by decide, by decide +kernel⟩ k_4_126 ⟨⟨by decide, by decide⟩, rfl, rfl⟩ ⟨by decide +kernel, rfl⟩ rfl rfl (Nat.le_of_ble_eq_true rfl) rfl rfl ?_
                  refine cz_Re_isEndless (fun v37 hv37 => ?_)
                  show Wz E Y_Re_over 87 [(4, .long ((x ^^^ y) &&& (-9223372036854775808))), (0, .long x), (2, .long y)] [.int v37] σ K
                  refine z_if_eq (off := 6) (tgt := 93) (pc' := 90) ⟨by decide +kernel, by decide, rfl⟩ (fun h38 => ?_) (fun h38 => ?_)
                  · have z0L : (0 : Int64).toInt = 0 := by decide
                    have gh2 := p3_f hv1 h2
                    have gh4 := p3_f hv3 h4
                    have gh6 := p3_t hv5 h6
                    have gh28 := p3_f hv27 h28
                    have gh30 := p3_f hv29 h30
                    have gh32 := p3_f hv31 h32
                    have gh34 := p3_f hv33 h34
                    have gh36 := p3_f hv35 h36
                    have gh38 := p3_f hv37 h38
                    exact run_Re_over_b (by omega) (by omega) (by omega) (by omega) (sg_xor x y) k
                  · refine z_lload (i := 4) (q := 0) (pc' := 92) ⟨by decide +kernel, rfl⟩ rfl ?_
                    refine z_lret rfl (by decide +kernel) ?_
                    have z0L : (0 : Int64).toInt = 0 := by decide
                    have gh2 := p3_f hv1 h2
                    have gh4 := p3_f hv3 h4
                    have gh6 := p3_t hv5 h6
                    have gh28 := p3_f hv27 h28
                    have gh30 := p3_f hv29 h30
                    have gh32 := p3_f hv31 h32
                    have gh34 := p3_f hv33 h34
                    have gh36 := p3_f hv35 h36
                    have gh38 := p3_t hv37 h38
                    exact k _ (ov_zero (by omega) (by omega) (by omega) (sg_self (sg_xor x y)))
              · refine z_lload (i := 4) (q := 0) (pc' := 71) ⟨by decide +kernel, rfl⟩ rfl ?_
                refine z_ldc2 (i := 11) (v := 9218868437227405312) (pc' := 74) ⟨by decide +kernel, rfl⟩ k_3_237 ?_
                refine z_lor (pc' := 75) ⟨by decide +kernel, rfl⟩ ?_
                refine z_lret rfl (by decide +kernel) ?_
                have z0L : (0 : Int64).toInt = 0 := by decide
                have gh2 := p3_f hv1 h2
                have gh4 := p3_f hv3 h4
                have gh6 := p3_t hv5 h6
                have gh28 := p3_f hv27 h28
                have gh30 := p3_f hv29 h30
                have gh32 := p3_f hv31 h32
                have gh34 := p3_t hv33 h34
                exact k _ (ov_inf (by omega) (by omega) (sg_put (sg_xor x y) u_infF (by decide)))
          · refine z_lload_n (f := 2) (i := 2) (q := 2) (pc' := 45) ⟨by decide +kernel, rfl⟩ rfl rfl ?_
            refine z_invS (Z := Y_Re_isZero) (idx := 46) (As := [.long y]) (rest := []) (nA := 1) (pc' := 48) ⟨k_4_128, k_1_13, k_4_130, by decide, by decide, by decide +kernel⟩ k_4_129 ⟨⟨by decide, by decide⟩, rfl, rfl⟩ ⟨by decide +kernel, rfl⟩ rfl rfl (Nat.le_of_ble_eq_true rfl) rfl rfl ?_
            refine cz_Re_isZero (fun v39 hv39 => ?_)
            show Wz E Y_Re_over 48 [(4, .long ((x ^^^ y) &&& (-9223372036854775808))), (0, .long x), (2, .long y)] [.int v39] σ K
            refine z_if_eq (off := 7) (tgt := 55) (pc' := 51) ⟨by decide +kernel, by decide, rfl⟩ (fun h40 => ?_) (fun h40 => ?_)
            · refine z_lload_n (f := 0) (i := 0) (q := 1) (pc' := 56) ⟨by decide +kernel, rfl⟩ rfl rfl ?_
              refine z_invS (Z := Y_Re_isEndless) (idx := 35) (As := [.long x]) (rest := []) (nA := 1) (pc' := 59) ⟨k_4_125, k_1_13, k_4_127, by decide, by decide, by decide +kernel⟩ k_4_126 ⟨⟨by decide, by decide⟩, rfl, rfl⟩ ⟨by decide +kernel, rfl⟩ rfl rfl (Nat.le_of_ble_eq_true rfl) rfl rfl ?_
              refine cz_Re_isEndless (fun v41 hv41 => ?_)
              show Wz E Y_Re_over 59 [(4, .long ((x ^^^ y) &&& (-9223372036854775808))), (0, .long x), (2, .long y)] [.int v41] σ K
              refine z_if_ne (off := 10) (tgt := 69) (pc' := 62) ⟨by decide +kernel, by decide, rfl⟩ (fun h42 => ?_) (fun h42 => ?_)
              · refine z_lload (i := 4) (q := 0) (pc' := 71) ⟨by decide +kernel, rfl⟩ rfl ?_
                refine z_ldc2 (i := 11) (v := 9218868437227405312) (pc' := 74) ⟨by decide +kernel, rfl⟩ k_3_237 ?_
                refine z_lor (pc' := 75) ⟨by decide +kernel, rfl⟩ ?_
                refine z_lret rfl (by decide +kernel) ?_
                have z0L : (0 : Int64).toInt = 0 := by decide
                have gh2 := p3_f hv1 h2
                have gh4 := p3_f hv3 h4
                have gh6 := p3_t hv5 h6
                have gh28 := p3_f hv27 h28
                have gh30 := p3_t hv29 h30
                have gh40 := p3_f hv39 h40
                have gh42 := p3_t hv41 h42
                exact k _ (ov_inf (by omega) (by omega) (sg_put (sg_xor x y) u_infF (by decide)))
              · refine z_lload_n (f := 2) (i := 2) (q := 2) (pc' := 63) ⟨by decide +kernel, rfl⟩ rfl rfl ?_
                refine z_invS (Z := Y_Re_isZero) (idx := 46) (As := [.long y]) (rest := []) (nA := 1) (pc' := 66) ⟨k_4_128, k_1_13, k_4_130, by decide, by decide, by decide +kernel⟩ k_4_129 ⟨⟨by decide, by decide⟩, rfl, rfl⟩ ⟨by decide +kernel, rfl⟩ rfl rfl (Nat.le_of_ble_eq_true rfl) rfl rfl ?_
                refine cz_Re_isZero (fun v43 hv43 => ?_)
                show Wz E Y_Re_over 66 [(4, .long ((x ^^^ y) &&& (-9223372036854775808))), (0, .long x), (2, .long y)] [.int v43] σ K
                refine z_if_eq (off := 10) (tgt := 76) (pc' := 69) ⟨by decide +kernel, by decide, rfl⟩ (fun h44 => ?_) (fun h44 => ?_)
                · refine z_lload_n (f := 0) (i := 0) (q := 1) (pc' := 77) ⟨by decide +kernel, rfl⟩ rfl rfl ?_
                  refine z_invS (Z := Y_Re_isZero) (idx := 46) (As := [.long x]) (rest := []) (nA := 1) (pc' := 80) ⟨k_4_128, k_1_13, k_4_130, by decide, by decide, by decide +kernel⟩ k_4_129 ⟨⟨by decide, by decide⟩, rfl, rfl⟩ ⟨by decide +kernel, rfl⟩ rfl rfl (Nat.le_of_ble_eq_true rfl) rfl rfl ?_
                  refine cz_Re_isZero (fun v45 hv45 => ?_)
                  show Wz E Y_Re_over 80 [(4, .long ((x ^^^ y) &&& (-9223372036854775808))), (0, .long x), (2, .long y)] [.int v45] σ K
                  refine z_if_ne (off := 10) (tgt := 90) (pc' := 83) ⟨by decide +kernel, by decide, rfl⟩ (fun h46 => ?_) (fun h46 => ?_)
                  · refine z_lload (i := 4) (q := 0) (pc' := 92) ⟨by decide +kernel, rfl⟩ rfl ?_
                    refine z_lret rfl (by decide +kernel) ?_
                    have z0L : (0 : Int64).toInt = 0 := by decide
                    have gh2 := p3_f hv1 h2
                    have gh4 := p3_f hv3 h4
                    have gh6 := p3_t hv5 h6
                    have gh28 := p3_f hv27 h28
                    have gh30 := p3_t hv29 h30
                    have gh40 := p3_f hv39 h40
                    have gh42 := p3_f hv41 h42
                    have gh44 := p3_f hv43 h44
                    have gh46 := p3_t hv45 h46
                    exact k _ (ov_zero (by omega) (by omega) (by omega) (sg_self (sg_xor x y)))
                  · refine z_lload_n (f := 2) (i := 2) (q := 2) (pc' := 84) ⟨by decide +kernel, rfl⟩ rfl rfl ?_
                    refine z_invS (Z := Y_Re_isEndless) (idx := 35) (As := [.long y]) (rest := []) (nA := 1) (pc' := 87) ⟨k_4_125, k_1_13, k_4_127, by decide, by decide, by decide +kernel⟩ k_4_126 ⟨⟨by decide, by decide⟩, rfl, rfl⟩ ⟨by decide +kernel, rfl⟩ rfl rfl (Nat.le_of_ble_eq_true rfl) rfl rfl ?_
                    refine cz_Re_isEndless (fun v47 hv47 => ?_)
                    show Wz E Y_Re_over 87 [(4, .long ((x ^^^ y) &&& (-9223372036854775808))), (0, .long x), (2, .long y)] [.int v47] σ K
                    refine z_if_eq (off := 6) (tgt := 93) (pc' := 90) ⟨by decide +kernel, by decide, rfl⟩ (fun h48 => ?_) (fun h48 => ?_)
                    · have z0L : (0 : Int64).toInt = 0 := by decide
                      have gh2 := p3_f hv1 h2
                      have gh4 := p3_f hv3 h4
                      have gh6 := p3_t hv5 h6
                      have gh28 := p3_f hv27 h28
                      have gh30 := p3_t hv29 h30
                      have gh40 := p3_f hv39 h40
                      have gh42 := p3_f hv41 h42
                      have gh44 := p3_f hv43 h44
                      have gh46 := p3_f hv45 h46
                      have gh48 := p3_f hv47 h48
                      exact run_Re_over_b (by omega) (by omega) (by omega) (by omega) (sg_xor x y) k
                    · refine z_lload (i := 4) (q := 0) (pc' := 92) ⟨by decide +kernel, rfl⟩ rfl ?_
                      refine z_lret rfl (by decide +kernel) ?_
                      have z0L : (0 : Int64).toInt = 0 := by decide
                      have gh2 := p3_f hv1 h2
                      have gh4 := p3_f hv3 h4
                      have gh6 := p3_t hv5 h6
                      have gh28 := p3_f hv27 h28
                      have gh30 := p3_t hv29 h30
                      have gh40 := p3_f hv39 h40
                      have gh42 := p3_f hv41 h42
                      have gh44 := p3_f hv43 h44
                      have gh46 := p3_f hv45 h46
                      have gh48 := p3_t hv47 h48
                      exact k _ (ov_zero (by omega) (by omega) (by omega) (sg_self (sg_xor x y)))
                · refine z_lload (i := 4) (q := 0) (pc' := 71) ⟨by decide +kernel, rfl⟩ rfl ?_
                  refine z_ldc2 (i := 11) (v := 9218868437227405312) (pc' := 74) ⟨by decide +kernel, rfl⟩ k_3_237 ?_
                  refine z_lor (pc' := 75) ⟨by decide +kernel, rfl⟩ ?_
                  refine z_lret rfl (by decide +kernel) ?_
                  have z0L : (0 : Int64).toInt = 0 := by decide
                  have gh2 := p3_f hv1 h2
                  have gh4 := p3_f hv3 h4
                  have gh6 := p3_t hv5 h6
                  have gh28 := p3_f hv27 h28
                  have gh30 := p3_t hv29 h30
                  have gh40 := p3_f hv39 h40
                  have gh42 := p3_f hv41 h42
                  have gh44 := p3_t hv43 h44
                  exact k _ (ov_inf (by omega) (by omega) (sg_put (sg_xor x y) u_infF (by decide)))
            · refine z_ldc2 (i := 17) (v := 9221120237041090560) (pc' := 54) ⟨by decide +kernel, rfl⟩ k_4_131 ?_
              refine z_lret rfl (by decide +kernel) ?_
              have z0L : (0 : Int64).toInt = 0 := by decide
              have gh2 := p3_f hv1 h2
              have gh4 := p3_f hv3 h4
              have gh6 := p3_t hv5 h6
              have gh28 := p3_f hv27 h28
              have gh30 := p3_t hv29 h30
              have gh40 := p3_t hv39 h40
              exact k _ (ov_nan (by omega))
theorem cz_Re_over {E : xV} {σ : zS} {K : zKt} {x y : Int64} (k : ∀ v : Int64, OvR x.toInt y.toInt v.toInt → K (some (.long v)) σ) : Cz E Y_Re_over [.long x, .long y] σ K := z_entry (by decide) (fun a => by rw [sl_len]; exact Nat.le_of_ble_eq_true rfl) rfl (run_Re_over k)
theorem run_M_over_x {E : xV} {σ : zS} {K : zKt} {x y n q r : Int64} {e w : Int32} {s : Nat} (hx : mgF x.toInt < infF) (hy : mgF y.toInt < infF) (hx0 : mgF x.toInt ≠ 0) (hy0 : mgF y.toInt ≠ 0) (hw : w = 0 ↔ (x.toInt < 0 ↔ y.toInt < 0)) (h : OmI x y n q r e s) (hs2 : s ≤ 113) (hq : 576460752303423488 ≤ uF q) (k : ∀ v : Int64, OvR x.toInt y.toInt v.toInt → K (some (.long v)) σ) : Wz E Y_M_over 218 [(11, .int e), (9, .long r), (7, .long q), (5, .long n), (4, .int w), (0, .long x), (2, .long y)] [] σ K := by
  refine z_iload (i := 4) (q := 4) (pc' := 220) ⟨by decide +kernel, rfl⟩ rfl ?_
  refine z_lload (i := 7) (q := 2) (pc' := 222) ⟨by decide +kernel, rfl⟩ rfl ?_
  refine z_iload (i := 11) (q := 0) (pc' := 224) ⟨by decide +kernel, rfl⟩ rfl ?_
  refine z_lload (i := 9) (q := 1) (pc' := 226) ⟨by decide +kernel, rfl⟩ rfl ?_
  refine z_lconst (i := 0) (v := 0) (pc' := 227) ⟨by decide +kernel, rfl⟩ (by decide) ?_
  refine z_lcmp (pc' := 228) ⟨by decide +kernel, rfl⟩ ?_
  refine z_if_eq (off := 7) (tgt := 235) (pc' := 231) ⟨by decide +kernel, by decide, rfl⟩ (fun h1 => ?_) (fun h1 => ?_)
  · refine z_iconst (i := 0) (v := 0) (pc' := 236) ⟨by decide +kernel, rfl⟩ (by decide) ?_
    refine z_invS (Z := Y_M_fit) (idx := 361) (As := [.int w, .long q, .int e, .int 0]) (rest := []) (nA := 4) (pc' := 239) ⟨k_11_129, k_1_12, k_11_131, by decide, by decide, by decide +kernel⟩ k_11_130 ⟨⟨by decide, by decide⟩, rfl, rfl⟩ ⟨by decide +kernel, rfl⟩ rfl rfl (Nat.le_of_ble_eq_true rfl) rfl rfl ?_
    refine cz_M_fit (hm := by have := h.2.1; omega) (he := by have := omi_b h (by omega); omega) (fun v2 hv2 => ?_)
    show Wz E Y_M_over 239 [(11, .int e), (9, .long r), (7, .long q), (5, .long n), (4, .int w), (0, .long x), (2, .long y)] [.long v2] σ K
    refine z_lret rfl (by decide +kernel) ?_
    have z0L : (0 : Int64).toInt = 0 := by decide
    have gh1 := k_eq_t h1
    exact k _ (om_end hx hy hx0 hy0 hw h hq ⟨fun _ => by rw [gh1, z0L], fun _ => rfl⟩ hv2)
  · refine z_iconst (i := 1) (v := 1) (pc' := 232) ⟨by decide +kernel, rfl⟩ (by decide) ?_
    refine z_goto (off := 4) (tgt := 236) (pc' := 235) ⟨by decide +kernel, by decide, rfl⟩ ?_
    refine z_invS (Z := Y_M_fit) (idx := 361) (As := [.int w, .long q, .int e, .int 1]) (rest := []) (nA := 4) (pc' := 239) ⟨k_11_129, k_1_12, k_11_131, by decide, by decide, by decide +kernel⟩ k_11_130 ⟨⟨by decide, by decide⟩, rfl, rfl⟩ ⟨by decide +kernel, rfl⟩ rfl rfl (Nat.le_of_ble_eq_true rfl) rfl rfl ?_
    refine cz_M_fit (hm := by have := h.2.1; omega) (he := by have := omi_b h (by omega); omega) (fun v3 hv3 => ?_)
    show Wz E Y_M_over 239 [(11, .int e), (9, .long r), (7, .long q), (5, .long n), (4, .int w), (0, .long x), (2, .long y)] [.long v3] σ K
    refine z_lret rfl (by decide +kernel) ?_
    have z0L : (0 : Int64).toInt = 0 := by decide
    have gh1 := k_eq_f h1
    exact k _ (om_end hx hy hx0 hy0 hw h hq ⟨fun q => absurd q (by decide), fun q => absurd q (by rw [← z0L]; exact gh1)⟩ hv3)
theorem run_M_over_l {E : xV} {σ : zS} {K : zKt} {x y n : Int64} {w : Int32} (hx : mgF x.toInt < infF) (hy : mgF y.toInt < infF) (hx0 : mgF x.toInt ≠ 0) (hy0 : mgF y.toInt ≠ 0) (hw : w = 0 ↔ (x.toInt < 0 ↔ y.toInt < 0)) (k : ∀ v : Int64, OvR x.toInt y.toInt v.toInt → K (some (.long v)) σ) : ∀ (j : Nat) {e : Int32} {q r : Int64} {s : Nat}, s + j = 113 → OmI x y n q r e s → Wz E Y_M_over 157 [(11, .int e), (9, .long r), (7, .long q), (5, .long n), (4, .int w), (0, .long x), (2, .long y)] [] σ K
  | 0, e, q, r, s, hj, h => by
    refine z_lload (i := 7) (q := 2) (pc' := 159) ⟨by decide +kernel, rfl⟩ rfl ?_
    refine z_invS (Z := Y_M_length) (idx := 353) (As := [.long q]) (rest := []) (nA := 1) (pc' := 162) ⟨k_11_126, k_1_12, k_11_128, by decide, by decide, by decide +kernel⟩ k_11_127 ⟨⟨by decide, by decide⟩, rfl, rfl⟩ ⟨by decide +kernel, rfl⟩ rfl rfl (Nat.le_of_ble_eq_true rfl) rfl rfl ?_
    refine cz_M_length (fun v1 hv1 => ?_)
    show Wz E Y_M_over 162 [(11, .int e), (9, .long r), (7, .long q), (5, .long n), (4, .int w), (0, .long x), (2, .long y)] [.int v1] σ K
    refine z_bipush (i := 60) (v := 60) (pc' := 164) ⟨by decide +kernel, rfl⟩ (by decide) ?_
    refine z_icmp_ge (off := 54) (tgt := 218) (pc' := 167) ⟨by decide +kernel, by decide, rfl⟩ (fun h2 => ?_) (fun h2 => ?_)
    · have z0L : (0 : Int64).toInt = 0 := by decide
      have z60 : (60 : Int32).toInt = 60 := by decide
      have gh2 := j_ge_t h2
      exact run_M_over_x hx hy hx0 hy0 hw h (by omega) ((omi_q hv1).2 (by omega)) k
    · have z0L : (0 : Int64).toInt = 0 := by decide
      have z60 : (60 : Int32).toInt = 60 := by decide
      have gh2 := j_ge_f h2
      exfalso
      have es : s = 113 := by omega
      subst es
      have a1 := omi_stop hx0 h
      have a2 := (omi_q hv1).1 (by omega)
      omega
  | j + 1, e, q, r, s, hj, h => by
    have ih := @run_M_over_l E σ K x y n w hx hy hx0 hy0 hw k j
    refine z_lload (i := 7) (q := 2) (pc' := 159) ⟨by decide +kernel, rfl⟩ rfl ?_
    refine z_invS (Z := Y_M_length) (idx := 353) (As := [.long q]) (rest := []) (nA := 1) (pc' := 162) ⟨k_11_126, k_1_12, k_11_128, by decide, by decide, by decide +kernel⟩ k_11_127 ⟨⟨by decide, by decide⟩, rfl, rfl⟩ ⟨by decide +kernel, rfl⟩ rfl rfl (Nat.le_of_ble_eq_true rfl) rfl rfl ?_
    refine cz_M_length (fun v1 hv1 => ?_)
    show Wz E Y_M_over 162 [(11, .int e), (9, .long r), (7, .long q), (5, .long n), (4, .int w), (0, .long x), (2, .long y)] [.int v1] σ K
    refine z_bipush (i := 60) (v := 60) (pc' := 164) ⟨by decide +kernel, rfl⟩ (by decide) ?_
    refine z_icmp_ge (off := 54) (tgt := 218) (pc' := 167) ⟨by decide +kernel, by decide, rfl⟩ (fun h2 => ?_) (fun h2 => ?_)
    · have z0L : (0 : Int64).toInt = 0 := by decide
      have z60 : (60 : Int32).toInt = 60 := by decide
      have gh2 := j_ge_t h2
      exact run_M_over_x hx hy hx0 hy0 hw h (by omega) ((omi_q hv1).2 (by omega)) k
    · refine z_lload (i := 9) (q := 1) (pc' := 169) ⟨by decide +kernel, rfl⟩ rfl ?_
      refine z_iconst (i := 1) (v := 1) (pc' := 170) ⟨by decide +kernel, rfl⟩ (by decide) ?_
      refine z_lshl (pc' := 171) ⟨by decide +kernel, rfl⟩ rfl ?_
      refine z_lstore (i := 9) (pc' := 173) ⟨by decide +kernel, rfl⟩ (by decide) rfl ?_
      show Wz E Y_M_over 173 [(9, .long (r <<< (Int32.toInt64 1 &&& 63))), (11, .int e), (7, .long q), (5, .long n), (4, .int w), (0, .long x), (2, .long y)] [] σ K
      refine z_lload (i := 7) (q := 2) (pc' := 175) ⟨by decide +kernel, rfl⟩ rfl ?_
      refine z_iconst (i := 1) (v := 1) (pc' := 176) ⟨by decide +kernel, rfl⟩ (by decide) ?_
      refine z_lshl (pc' := 177) ⟨by decide +kernel, rfl⟩ rfl ?_
      refine z_lload (i := 9) (q := 0) (pc' := 179) ⟨by decide +kernel, rfl⟩ rfl ?_
      refine z_lload (i := 5) (q := 3) (pc' := 181) ⟨by decide +kernel, rfl⟩ rfl ?_
      refine z_lcmp (pc' := 182) ⟨by decide +kernel, rfl⟩ ?_
      refine z_if_lt (off := 7) (tgt := 189) (pc' := 185) ⟨by decide +kernel, by decide, rfl⟩ (fun h3 => ?_) (fun h3 => ?_)
      · refine z_lconst (i := 0) (v := 0) (pc' := 190) ⟨by decide +kernel, rfl⟩ (by decide) ?_
        refine z_lor (pc' := 191) ⟨by decide +kernel, rfl⟩ ?_
        refine z_lstore (i := 7) (pc' := 193) ⟨by decide +kernel, rfl⟩ (by decide) rfl ?_
        show Wz E Y_M_over 193 [(7, .long ((q <<< (Int32.toInt64 1 &&& 63)) ||| 0)), (9, .long (r <<< (Int32.toInt64 1 &&& 63))), (11, .int e), (5, .long n), (4, .int w), (0, .long x), (2, .long y)] [] σ K
        refine z_lload (i := 9) (q := 1) (pc' := 195) ⟨by decide +kernel, rfl⟩ rfl ?_
        refine z_lload (i := 9) (q := 1) (pc' := 197) ⟨by decide +kernel, rfl⟩ rfl ?_
        refine z_lload (i := 5) (q := 3) (pc' := 199) ⟨by decide +kernel, rfl⟩ rfl ?_
        refine z_lcmp (pc' := 200) ⟨by decide +kernel, rfl⟩ ?_
        refine z_if_lt (off := 8) (tgt := 208) (pc' := 203) ⟨by decide +kernel, by decide, rfl⟩ (fun h4 => ?_) (fun h4 => ?_)
        · refine z_lconst (i := 0) (v := 0) (pc' := 209) ⟨by decide +kernel, rfl⟩ (by decide) ?_
          refine z_lsub (pc' := 210) ⟨by decide +kernel, rfl⟩ ?_
          refine z_lstore (i := 9) (pc' := 212) ⟨by decide +kernel, rfl⟩ (by decide) rfl ?_
          show Wz E Y_M_over 212 [(9, .long ((r <<< (Int32.toInt64 1 &&& 63)) - 0)), (7, .long ((q <<< (Int32.toInt64 1 &&& 63)) ||| 0)), (11, .int e), (5, .long n), (4, .int w), (0, .long x), (2, .long y)] [] σ K
          refine z_iinc (i := 11) (z := (-1)) (q := 2) (pc' := 215) ⟨by decide +kernel, rfl⟩ rfl rfl (by decide) rfl ?_
          show Wz E Y_M_over 215 [(11, .int (e + Int32.ofInt (-1))), (9, .long ((r <<< (Int32.toInt64 1 &&& 63)) - 0)), (7, .long ((q <<< (Int32.toInt64 1 &&& 63)) ||| 0)), (5, .long n), (4, .int w), (0, .long x), (2, .long y)] [] σ K
          refine z_goto (off := (-58)) (tgt := 157) (pc' := 218) ⟨by decide +kernel, by decide, rfl⟩ ?_
          have z0L : (0 : Int64).toInt = 0 := by decide
          have z60 : (60 : Int32).toInt = 60 := by decide
          have gh2 := j_ge_f h2
          have gh3 := k_lt_t h3
          have gh4 := k_lt_t h4
          exact ih (s := s + 1) (by omega) (omi_lo h (by omega) ((omi_q hv1).1 (by omega)) (by omega))
        · refine z_lload (i := 5) (q := 3) (pc' := 205) ⟨by decide +kernel, rfl⟩ rfl ?_
          refine z_goto (off := 4) (tgt := 209) (pc' := 208) ⟨by decide +kernel, by decide, rfl⟩ ?_
          refine z_lsub (pc' := 210) ⟨by decide +kernel, rfl⟩ ?_
          refine z_lstore (i := 9) (pc' := 212) ⟨by decide +kernel, rfl⟩ (by decide) rfl ?_
          show Wz E Y_M_over 212 [(9, .long ((r <<< (Int32.toInt64 1 &&& 63)) - n)), (7, .long ((q <<< (Int32.toInt64 1 &&& 63)) ||| 0)), (11, .int e), (5, .long n), (4, .int w), (0, .long x), (2, .long y)] [] σ K
          refine z_iinc (i := 11) (z := (-1)) (q := 2) (pc' := 215) ⟨by decide +kernel, rfl⟩ rfl rfl (by decide) rfl ?_
          show Wz E Y_M_over 215 [(11, .int (e + Int32.ofInt (-1))), (9, .long ((r <<< (Int32.toInt64 1 &&& 63)) - n)), (7, .long ((q <<< (Int32.toInt64 1 &&& 63)) ||| 0)), (5, .long n), (4, .int w), (0, .long x), (2, .long y)] [] σ K
          refine z_goto (off := (-58)) (tgt := 157) (pc' := 218) ⟨by decide +kernel, by decide, rfl⟩ ?_
          have z0L : (0 : Int64).toInt = 0 := by decide
          have z60 : (60 : Int32).toInt = 60 := by decide
          have gh2 := j_ge_f h2
          have gh3 := k_lt_t h3
          have gh4 := k_lt_f h4
          exfalso
          omega
      · refine z_lconst (i := 1) (v := 1) (pc' := 186) ⟨by decide +kernel, rfl⟩ (by decide) ?_
        refine z_goto (off := 4) (tgt := 190) (pc' := 189) ⟨by decide +kernel, by decide, rfl⟩ ?_
        refine z_lor (pc' := 191) ⟨by decide +kernel, rfl⟩ ?_
        refine z_lstore (i := 7) (pc' := 193) ⟨by decide +kernel, rfl⟩ (by decide) rfl ?_
        show Wz E Y_M_over 193 [(7, .long ((q <<< (Int32.toInt64 1 &&& 63)) ||| 1)), (9, .long (r <<< (Int32.toInt64 1 &&& 63))), (11, .int e), (5, .long n), (4, .int w), (0, .long x), (2, .long y)] [] σ K
        refine z_lload (i := 9) (q := 1) (pc' := 195) ⟨by decide +kernel, rfl⟩ rfl ?_
        refine z_lload (i := 9) (q := 1) (pc' := 197) ⟨by decide +kernel, rfl⟩ rfl ?_
        refine z_lload (i := 5) (q := 3) (pc' := 199) ⟨by decide +kernel, rfl⟩ rfl ?_
        refine z_lcmp (pc' := 200) ⟨by decide +kernel, rfl⟩ ?_
        refine z_if_lt (off := 8) (tgt := 208) (pc' := 203) ⟨by decide +kernel, by decide, rfl⟩ (fun h5 => ?_) (fun h5 => ?_)
        · refine z_lconst (i := 0) (v := 0) (pc' := 209) ⟨by decide +kernel, rfl⟩ (by decide) ?_
          refine z_lsub (pc' := 210) ⟨by decide +kernel, rfl⟩ ?_
          refine z_lstore (i := 9) (pc' := 212) ⟨by decide +kernel, rfl⟩ (by decide) rfl ?_
          show Wz E Y_M_over 212 [(9, .long ((r <<< (Int32.toInt64 1 &&& 63)) - 0)), (7, .long ((q <<< (Int32.toInt64 1 &&& 63)) ||| 1)), (11, .int e), (5, .long n), (4, .int w), (0, .long x), (2, .long y)] [] σ K
          refine z_iinc (i := 11) (z := (-1)) (q := 2) (pc' := 215) ⟨by decide +kernel, rfl⟩ rfl rfl (by decide) rfl ?_
          show Wz E Y_M_over 215 [(11, .int (e + Int32.ofInt (-1))), (9, .long ((r <<< (Int32.toInt64 1 &&& 63)) - 0)), (7, .long ((q <<< (Int32.toInt64 1 &&& 63)) ||| 1)), (5, .long n), (4, .int w), (0, .long x), (2, .long y)] [] σ K
          refine z_goto (off := (-58)) (tgt := 157) (pc' := 218) ⟨by decide +kernel, by decide, rfl⟩ ?_
          have z0L : (0 : Int64).toInt = 0 := by decide
          have z60 : (60 : Int32).toInt = 60 := by decide
          have gh2 := j_ge_f h2
          have gh3 := k_lt_f h3
          have gh5 := k_lt_t h5
          exfalso
          omega
        · refine z_lload (i := 5) (q := 3) (pc' := 205) ⟨by decide +kernel, rfl⟩ rfl ?_
          refine z_goto (off := 4) (tgt := 209) (pc' := 208) ⟨by decide +kernel, by decide, rfl⟩ ?_
          refine z_lsub (pc' := 210) ⟨by decide +kernel, rfl⟩ ?_
          refine z_lstore (i := 9) (pc' := 212) ⟨by decide +kernel, rfl⟩ (by decide) rfl ?_
          show Wz E Y_M_over 212 [(9, .long ((r <<< (Int32.toInt64 1 &&& 63)) - n)), (7, .long ((q <<< (Int32.toInt64 1 &&& 63)) ||| 1)), (11, .int e), (5, .long n), (4, .int w), (0, .long x), (2, .long y)] [] σ K
          refine z_iinc (i := 11) (z := (-1)) (q := 2) (pc' := 215) ⟨by decide +kernel, rfl⟩ rfl rfl (by decide) rfl ?_
          show Wz E Y_M_over 215 [(11, .int (e + Int32.ofInt (-1))), (9, .long ((r <<< (Int32.toInt64 1 &&& 63)) - n)), (7, .long ((q <<< (Int32.toInt64 1 &&& 63)) ||| 1)), (5, .long n), (4, .int w), (0, .long x), (2, .long y)] [] σ K
          refine z_goto (off := (-58)) (tgt := 157) (pc' := 218) ⟨by decide +kernel, by decide, rfl⟩ ?_
          have z0L : (0 : Int64).toInt = 0 := by decide
          have z60 : (60 : Int32).toInt = 60 := by decide
          have gh2 := j_ge_f h2
          have gh3 := k_lt_f h3
          have gh5 := k_lt_f h5
          exact ih (s := s + 1) (by omega) (omi_hi h (by omega) ((omi_q hv1).1 (by omega)) (by omega))
theorem run_M_over_b {E : xV} {σ : zS} {K : zKt} {x y : Int64} {w : Int32} (hx : mgF x.toInt < infF) (hy : mgF y.toInt < infF) (hx0 : mgF x.toInt ≠ 0) (hy0 : mgF y.toInt ≠ 0) (hw : w = 0 ↔ (x.toInt < 0 ↔ y.toInt < 0)) (k : ∀ v : Int64, OvR x.toInt y.toInt v.toInt → K (some (.long v)) σ) : Wz E Y_M_over 122 [(4, .int w), (0, .long x), (2, .long y)] [] σ K := by
  refine z_lload_n (f := 2) (i := 2) (q := 2) (pc' := 123) ⟨by decide +kernel, rfl⟩ rfl rfl ?_
  refine z_invS (Z := Y_M_mantissa) (idx := 381) (As := [.long y]) (rest := []) (nA := 1) (pc' := 126) ⟨k_11_149, k_1_12, k_11_151, by decide, by decide, by decide +kernel⟩ k_11_150 ⟨⟨by decide, by decide⟩, rfl, rfl⟩ ⟨by decide +kernel, rfl⟩ rfl rfl (Nat.le_of_ble_eq_true rfl) rfl rfl ?_
  refine cz_M_mantissa (fun v1 hv1 => ?_)
  show Wz E Y_M_over 126 [(4, .int w), (0, .long x), (2, .long y)] [.long v1] σ K
  refine z_lstore (i := 5) (pc' := 128) ⟨by decide +kernel, rfl⟩ (by decide) rfl ?_
  show Wz E Y_M_over 128 [(5, .long v1), (4, .int w), (0, .long x), (2, .long y)] [] σ K
  refine z_lload_n (f := 0) (i := 0) (q := 2) (pc' := 129) ⟨by decide +kernel, rfl⟩ rfl rfl ?_
  refine z_invS (Z := Y_M_mantissa) (idx := 381) (As := [.long x]) (rest := []) (nA := 1) (pc' := 132) ⟨k_11_149, k_1_12, k_11_151, by decide, by decide, by decide +kernel⟩ k_11_150 ⟨⟨by decide, by decide⟩, rfl, rfl⟩ ⟨by decide +kernel, rfl⟩ rfl rfl (Nat.le_of_ble_eq_true rfl) rfl rfl ?_
  refine cz_M_mantissa (fun v2 hv2 => ?_)
  show Wz E Y_M_over 132 [(5, .long v1), (4, .int w), (0, .long x), (2, .long y)] [.long v2] σ K
  refine z_lload (i := 5) (q := 0) (pc' := 134) ⟨by decide +kernel, rfl⟩ rfl ?_
  refine z_ldiv (pc' := 135) ⟨by decide +kernel, rfl⟩ (om_nz hv1 hy0) ?_
  refine z_lstore (i := 7) (pc' := 137) ⟨by decide +kernel, rfl⟩ (by decide) rfl ?_
  show Wz E Y_M_over 137 [(7, .long (v2 / v1)), (5, .long v1), (4, .int w), (0, .long x), (2, .long y)] [] σ K
  refine z_lload_n (f := 0) (i := 0) (q := 3) (pc' := 138) ⟨by decide +kernel, rfl⟩ rfl rfl ?_
  refine z_invS (Z := Y_M_mantissa) (idx := 381) (As := [.long x]) (rest := []) (nA := 1) (pc' := 141) ⟨k_11_149, k_1_12, k_11_151, by decide, by decide, by decide +kernel⟩ k_11_150 ⟨⟨by decide, by decide⟩, rfl, rfl⟩ ⟨by decide +kernel, rfl⟩ rfl rfl (Nat.le_of_ble_eq_true rfl) rfl rfl ?_
  refine cz_M_mantissa (fun v3 hv3 => ?_)
  show Wz E Y_M_over 141 [(7, .long (v2 / v1)), (5, .long v1), (4, .int w), (0, .long x), (2, .long y)] [.long v3] σ K
  refine z_lload (i := 5) (q := 1) (pc' := 143) ⟨by decide +kernel, rfl⟩ rfl ?_
  refine z_lrem (pc' := 144) ⟨by decide +kernel, rfl⟩ (om_nz hv1 hy0) ?_
  refine z_lstore (i := 9) (pc' := 146) ⟨by decide +kernel, rfl⟩ (by decide) rfl ?_
  show Wz E Y_M_over 146 [(9, .long (v3 - v3 / v1 * v1)), (7, .long (v2 / v1)), (5, .long v1), (4, .int w), (0, .long x), (2, .long y)] [] σ K
  refine z_lload_n (f := 0) (i := 0) (q := 4) (pc' := 147) ⟨by decide +kernel, rfl⟩ rfl rfl ?_
  refine z_invS (Z := Y_M_exponent) (idx := 387) (As := [.long x]) (rest := []) (nA := 1) (pc' := 150) ⟨k_11_154, k_1_12, k_11_156, by decide, by decide, by decide +kernel⟩ k_11_155 ⟨⟨by decide, by decide⟩, rfl, rfl⟩ ⟨by decide +kernel, rfl⟩ rfl rfl (Nat.le_of_ble_eq_true rfl) rfl rfl ?_
  refine cz_M_exponent (fun v4 hv4 => ?_)
  show Wz E Y_M_over 150 [(9, .long (v3 - v3 / v1 * v1)), (7, .long (v2 / v1)), (5, .long v1), (4, .int w), (0, .long x), (2, .long y)] [.int v4] σ K
  refine z_lload_n (f := 2) (i := 2) (q := 5) (pc' := 151) ⟨by decide +kernel, rfl⟩ rfl rfl ?_
  refine z_invS (Z := Y_M_exponent) (idx := 387) (As := [.long y]) (rest := [.int v4]) (nA := 1) (pc' := 154) ⟨k_11_154, k_1_12, k_11_156, by decide, by decide, by decide +kernel⟩ k_11_155 ⟨⟨by decide, by decide⟩, rfl, rfl⟩ ⟨by decide +kernel, rfl⟩ rfl rfl (Nat.le_of_ble_eq_true rfl) rfl rfl ?_
  refine cz_M_exponent (fun v5 hv5 => ?_)
  show Wz E Y_M_over 154 [(9, .long (v3 - v3 / v1 * v1)), (7, .long (v2 / v1)), (5, .long v1), (4, .int w), (0, .long x), (2, .long y)] [.int v5, .int v4] σ K
  refine z_isub (pc' := 155) ⟨by decide +kernel, rfl⟩ ?_
  refine z_istore (i := 11) (pc' := 157) ⟨by decide +kernel, rfl⟩ (by decide) rfl ?_
  show Wz E Y_M_over 157 [(11, .int (v4 - v5)), (9, .long (v3 - v3 / v1 * v1)), (7, .long (v2 / v1)), (5, .long v1), (4, .int w), (0, .long x), (2, .long y)] [] σ K
  have z0L : (0 : Int64).toInt = 0 := by decide
  exact run_M_over_l hx hy hx0 hy0 hw k 113 (by omega) (omi_0 hy0 hv1 hv2 hv3 hv4 hv5)
theorem run_M_over_a {E : xV} {σ : zS} {K : zKt} {x y : Int64} {w : Int32} (hw : w = 0 ↔ (x.toInt < 0 ↔ y.toInt < 0)) (k : ∀ v : Int64, OvR x.toInt y.toInt v.toInt → K (some (.long v)) σ) : Wz E Y_M_over 32 [(4, .int w), (0, .long x), (2, .long y)] [] σ K := by
  refine z_lload_n (f := 0) (i := 0) (q := 1) (pc' := 33) ⟨by decide +kernel, rfl⟩ rfl rfl ?_
  refine z_invS (Z := Y_M_isNan) (idx := 367) (As := [.long x]) (rest := []) (nA := 1) (pc' := 36) ⟨k_11_23, k_1_12, k_11_25, by decide, by decide, by decide +kernel⟩ k_11_24 ⟨⟨by decide, by decide⟩, rfl, rfl⟩ ⟨by decide +kernel, rfl⟩ rfl rfl (Nat.le_of_ble_eq_true rfl) rfl rfl ?_
  refine cz_M_isNan (fun v1 hv1 => ?_)
  show Wz E Y_M_over 36 [(4, .int w), (0, .long x), (2, .long y)] [.int v1] σ K
  refine z_if_ne (off := 38) (tgt := 74) (pc' := 39) ⟨by decide +kernel, by decide, rfl⟩ (fun h2 => ?_) (fun h2 => ?_)
  · refine z_ldc2 (i := 377) (v := 9221120237041090560) (pc' := 77) ⟨by decide +kernel, rfl⟩ k_11_28 ?_
    refine z_lret rfl (by decide +kernel) ?_
    have z0L : (0 : Int64).toInt = 0 := by decide
    have gh2 := p3_t hv1 h2
    exact k _ (ov_nan (by omega))
  · refine z_lload_n (f := 2) (i := 2) (q := 2) (pc' := 40) ⟨by decide +kernel, rfl⟩ rfl rfl ?_
    refine z_invS (Z := Y_M_isNan) (idx := 367) (As := [.long y]) (rest := []) (nA := 1) (pc' := 43) ⟨k_11_23, k_1_12, k_11_25, by decide, by decide, by decide +kernel⟩ k_11_24 ⟨⟨by decide, by decide⟩, rfl, rfl⟩ ⟨by decide +kernel, rfl⟩ rfl rfl (Nat.le_of_ble_eq_true rfl) rfl rfl ?_
    refine cz_M_isNan (fun v3 hv3 => ?_)
    show Wz E Y_M_over 43 [(4, .int w), (0, .long x), (2, .long y)] [.int v3] σ K
    refine z_if_ne (off := 31) (tgt := 74) (pc' := 46) ⟨by decide +kernel, by decide, rfl⟩ (fun h4 => ?_) (fun h4 => ?_)
    · refine z_ldc2 (i := 377) (v := 9221120237041090560) (pc' := 77) ⟨by decide +kernel, rfl⟩ k_11_28 ?_
      refine z_lret rfl (by decide +kernel) ?_
      have z0L : (0 : Int64).toInt = 0 := by decide
      have gh2 := p3_f hv1 h2
      have gh4 := p3_t hv3 h4
      exact k _ (ov_nan (by omega))
    · refine z_lload_n (f := 0) (i := 0) (q := 1) (pc' := 47) ⟨by decide +kernel, rfl⟩ rfl rfl ?_
      refine z_invS (Z := Y_M_isInfinite) (idx := 371) (As := [.long x]) (rest := []) (nA := 1) (pc' := 50) ⟨k_11_143, k_1_12, k_11_145, by decide, by decide, by decide +kernel⟩ k_11_144 ⟨⟨by decide, by decide⟩, rfl, rfl⟩ ⟨by decide +kernel, rfl⟩ rfl rfl (Nat.le_of_ble_eq_true rfl) rfl rfl ?_
      refine cz_M_isInfinite (fun v5 hv5 => ?_)
      show Wz E Y_M_over 50 [(4, .int w), (0, .long x), (2, .long y)] [.int v5] σ K
      refine z_if_eq (off := 10) (tgt := 60) (pc' := 53) ⟨by decide +kernel, by decide, rfl⟩ (fun h6 => ?_) (fun h6 => ?_)
      · refine z_lload_n (f := 0) (i := 0) (q := 1) (pc' := 61) ⟨by decide +kernel, rfl⟩ rfl rfl ?_
        refine z_invS (Z := Y_M_isZero) (idx := 374) (As := [.long x]) (rest := []) (nA := 1) (pc' := 64) ⟨k_11_146, k_1_12, k_11_148, by decide, by decide, by decide +kernel⟩ k_11_147 ⟨⟨by decide, by decide⟩, rfl, rfl⟩ ⟨by decide +kernel, rfl⟩ rfl rfl (Nat.le_of_ble_eq_true rfl) rfl rfl ?_
        refine cz_M_isZero (fun v7 hv7 => ?_)
        show Wz E Y_M_over 64 [(4, .int w), (0, .long x), (2, .long y)] [.int v7] σ K
        refine z_if_eq (off := 14) (tgt := 78) (pc' := 67) ⟨by decide +kernel, by decide, rfl⟩ (fun h8 => ?_) (fun h8 => ?_)
        · refine z_lload_n (f := 0) (i := 0) (q := 1) (pc' := 79) ⟨by decide +kernel, rfl⟩ rfl rfl ?_
          refine z_invS (Z := Y_M_isInfinite) (idx := 371) (As := [.long x]) (rest := []) (nA := 1) (pc' := 82) ⟨k_11_143, k_1_12, k_11_145, by decide, by decide, by decide +kernel⟩ k_11_144 ⟨⟨by decide, by decide⟩, rfl, rfl⟩ ⟨by decide +kernel, rfl⟩ rfl rfl (Nat.le_of_ble_eq_true rfl) rfl rfl ?_
          refine cz_M_isInfinite (fun v9 hv9 => ?_)
          show Wz E Y_M_over 82 [(4, .int w), (0, .long x), (2, .long y)] [.int v9] σ K
          refine z_if_ne (off := 10) (tgt := 92) (pc' := 85) ⟨by decide +kernel, by decide, rfl⟩ (fun h10 => ?_) (fun h10 => ?_)
          · refine z_iload (i := 4) (q := 0) (pc' := 94) ⟨by decide +kernel, rfl⟩ rfl ?_
            refine z_ldc2 (i := 339) (v := 9218868437227405312) (pc' := 97) ⟨by decide +kernel, rfl⟩ k_11_27 ?_
            refine z_invS (Z := Y_M_signed) (idx := 349) (As := [.int w, .long 9218868437227405312]) (rest := []) (nA := 2) (pc' := 100) ⟨k_11_132, k_1_12, k_11_134, by decide, by decide, by decide +kernel⟩ k_11_133 ⟨⟨by decide, by decide⟩, rfl, rfl⟩ ⟨by decide +kernel, rfl⟩ rfl rfl (Nat.le_of_ble_eq_true rfl) rfl rfl ?_
            refine cz_M_signed (R := infF) u_infF (by decide) (fun v11 hv11 => ?_)
            show Wz E Y_M_over 100 [(4, .int w), (0, .long x), (2, .long y)] [.long v11] σ K
            refine z_lret rfl (by decide +kernel) ?_
            have z0L : (0 : Int64).toInt = 0 := by decide
            have gh2 := p3_f hv1 h2
            have gh4 := p3_f hv3 h4
            have gh6 := p3_f hv5 h6
            have gh8 := p3_f hv7 h8
            have gh10 := p3_t hv9 h10
            exact k _ (ov_inf (by omega) (by omega) (sgv_if hw hv11))
          · refine z_lload_n (f := 2) (i := 2) (q := 2) (pc' := 86) ⟨by decide +kernel, rfl⟩ rfl rfl ?_
            refine z_invS (Z := Y_M_isZero) (idx := 374) (As := [.long y]) (rest := []) (nA := 1) (pc' := 89) ⟨k_11_146, k_1_12, k_11_148, by decide, by decide, by decide +kernel⟩ k_11_147 ⟨⟨by decide, by decide⟩, rfl, rfl⟩ ⟨by decide +kernel, rfl⟩ rfl rfl (Nat.le_of_ble_eq_true rfl) rfl rfl ?_
            refine cz_M_isZero (fun v12 hv12 => ?_)
            show Wz E Y_M_over 89 [(4, .int w), (0, .long x), (2, .long y)] [.int v12] σ K
            refine z_if_eq (off := 12) (tgt := 101) (pc' := 92) ⟨by decide +kernel, by decide, rfl⟩ (fun h13 => ?_) (fun h13 => ?_)
            · refine z_lload_n (f := 2) (i := 2) (q := 2) (pc' := 102) ⟨by decide +kernel, rfl⟩ rfl rfl ?_
              refine z_invS (Z := Y_M_isInfinite) (idx := 371) (As := [.long y]) (rest := []) (nA := 1) (pc' := 105) ⟨k_11_143, k_1_12, k_11_145, by decide, by decide, by decide +kernel⟩ k_11_144 ⟨⟨by decide, by decide⟩, rfl, rfl⟩ ⟨by decide +kernel, rfl⟩ rfl rfl (Nat.le_of_ble_eq_true rfl) rfl rfl ?_
              refine cz_M_isInfinite (fun v14 hv14 => ?_)
              show Wz E Y_M_over 105 [(4, .int w), (0, .long x), (2, .long y)] [.int v14] σ K
              refine z_if_ne (off := 10) (tgt := 115) (pc' := 108) ⟨by decide +kernel, by decide, rfl⟩ (fun h15 => ?_) (fun h15 => ?_)
              · refine z_iload (i := 4) (q := 0) (pc' := 117) ⟨by decide +kernel, rfl⟩ rfl ?_
                refine z_lconst (i := 0) (v := 0) (pc' := 118) ⟨by decide +kernel, rfl⟩ (by decide) ?_
                refine z_invS (Z := Y_M_signed) (idx := 349) (As := [.int w, .long 0]) (rest := []) (nA := 2) (pc' := 121) ⟨k_11_132, k_1_12, k_11_134, by decide, by decide, by decide +kernel⟩ k_11_133 ⟨⟨by decide, by decide⟩, rfl, rfl⟩ ⟨by decide +kernel, rfl⟩ rfl rfl (Nat.le_of_ble_eq_true rfl) rfl rfl ?_
                refine cz_M_signed (R := 0) (by decide) (by decide) (fun v16 hv16 => ?_)
                show Wz E Y_M_over 121 [(4, .int w), (0, .long x), (2, .long y)] [.long v16] σ K
                refine z_lret rfl (by decide +kernel) ?_
                have z0L : (0 : Int64).toInt = 0 := by decide
                have gh2 := p3_f hv1 h2
                have gh4 := p3_f hv3 h4
                have gh6 := p3_f hv5 h6
                have gh8 := p3_f hv7 h8
                have gh10 := p3_f hv9 h10
                have gh13 := p3_f hv12 h13
                have gh15 := p3_t hv14 h15
                exact k _ (ov_zero (by omega) (by omega) (by omega) (sgv_if hw hv16))
              · refine z_lload_n (f := 0) (i := 0) (q := 1) (pc' := 109) ⟨by decide +kernel, rfl⟩ rfl rfl ?_
                refine z_invS (Z := Y_M_isZero) (idx := 374) (As := [.long x]) (rest := []) (nA := 1) (pc' := 112) ⟨k_11_146, k_1_12, k_11_148, by decide, by decide, by decide +kernel⟩ k_11_147 ⟨⟨by decide, by decide⟩, rfl, rfl⟩ ⟨by decide +kernel, rfl⟩ rfl rfl (Nat.le_of_ble_eq_true rfl) rfl rfl ?_
                refine cz_M_isZero (fun v17 hv17 => ?_)
                show Wz E Y_M_over 112 [(4, .int w), (0, .long x), (2, .long y)] [.int v17] σ K
                refine z_if_eq (off := 10) (tgt := 122) (pc' := 115) ⟨by decide +kernel, by decide, rfl⟩ (fun h18 => ?_) (fun h18 => ?_)
                · have z0L : (0 : Int64).toInt = 0 := by decide
                  have gh2 := p3_f hv1 h2
                  have gh4 := p3_f hv3 h4
                  have gh6 := p3_f hv5 h6
                  have gh8 := p3_f hv7 h8
                  have gh10 := p3_f hv9 h10
                  have gh13 := p3_f hv12 h13
                  have gh15 := p3_f hv14 h15
                  have gh18 := p3_f hv17 h18
                  exact run_M_over_b (by omega) (by omega) (by omega) (by omega) hw k
                · refine z_iload (i := 4) (q := 0) (pc' := 117) ⟨by decide +kernel, rfl⟩ rfl ?_
                  refine z_lconst (i := 0) (v := 0) (pc' := 118) ⟨by decide +kernel, rfl⟩ (by decide) ?_
                  refine z_invS (Z := Y_M_signed) (idx := 349) (As := [.int w, .long 0]) (rest := []) (nA := 2) (pc' := 121) ⟨k_11_132, k_1_12, k_11_134, by decide, by decide, by decide +kernel⟩ k_11_133 ⟨⟨by decide, by decide⟩, rfl, rfl⟩ ⟨by decide +kernel, rfl⟩ rfl rfl (Nat.le_of_ble_eq_true rfl) rfl rfl ?_
                  refine cz_M_signed (R := 0) (by decide) (by decide) (fun v19 hv19 => ?_)
                  show Wz E Y_M_over 121 [(4, .int w), (0, .long x), (2, .long y)] [.long v19] σ K
                  refine z_lret rfl (by decide +kernel) ?_
                  have z0L : (0 : Int64).toInt = 0 := by decide
                  have gh2 := p3_f hv1 h2
                  have gh4 := p3_f hv3 h4
                  have gh6 := p3_f hv5 h6
                  have gh8 := p3_f hv7 h8
                  have gh10 := p3_f hv9 h10
                  have gh13 := p3_f hv12 h13
                  have gh15 := p3_f hv14 h15
                  have gh18 := p3_t hv17 h18
                  exact k _ (ov_zero (by omega) (by omega) (by omega) (sgv_if hw hv19))
            · refine z_iload (i := 4) (q := 0) (pc' := 94) ⟨by decide +kernel, rfl⟩ rfl ?_
              refine z_ldc2 (i := 339) (v := 9218868437227405312) (pc' := 97) ⟨by decide +kernel, rfl⟩ k_11_27 ?_
              refine z_invS (Z := Y_M_signed) (idx := 349) (As := [.int w, .long 9218868437227405312]) (rest := []) (nA := 2) (pc' := 100) ⟨k_11_132, k_1_12, k_11_134, by decide, by decide, by decide +kernel⟩ k_11_133 ⟨⟨by decide, by decide⟩, rfl, rfl⟩ ⟨by decide +kernel, rfl⟩ rfl rfl (Nat.le_of_ble_eq_true rfl) rfl rfl ?_
              refine cz_M_signed (R := infF) u_infF (by decide) (fun v20 hv20 => ?_)
              show Wz E Y_M_over 100 [(4, .int w), (0, .long x), (2, .long y)] [.long v20] σ K
              refine z_lret rfl (by decide +kernel) ?_
              have z0L : (0 : Int64).toInt = 0 := by decide
              have gh2 := p3_f hv1 h2
              have gh4 := p3_f hv3 h4
              have gh6 := p3_f hv5 h6
              have gh8 := p3_f hv7 h8
              have gh10 := p3_f hv9 h10
              have gh13 := p3_t hv12 h13
              exact k _ (ov_inf (by omega) (by omega) (sgv_if hw hv20))
        · refine z_lload_n (f := 2) (i := 2) (q := 2) (pc' := 68) ⟨by decide +kernel, rfl⟩ rfl rfl ?_
          refine z_invS (Z := Y_M_isZero) (idx := 374) (As := [.long y]) (rest := []) (nA := 1) (pc' := 71) ⟨k_11_146, k_1_12, k_11_148, by decide, by decide, by decide +kernel⟩ k_11_147 ⟨⟨by decide, by decide⟩, rfl, rfl⟩ ⟨by decide +kernel, rfl⟩ rfl rfl (Nat.le_of_ble_eq_true rfl) rfl rfl ?_
          refine cz_M_isZero (fun v21 hv21 => ?_)
          show Wz E Y_M_over 71 [(4, .int w), (0, .long x), (2, .long y)] [.int v21] σ K
          refine z_if_eq (off := 7) (tgt := 78) (pc' := 74) ⟨by decide +kernel, by decide, rfl⟩ (fun h22 => ?_) (fun h22 => ?_)
          · refine z_lload_n (f := 0) (i := 0) (q := 1) (pc' := 79) ⟨by decide +kernel, rfl⟩ rfl rfl ?_
            refine z_invS (Z := Y_M_isInfinite) (idx := 371) (As := [.long x]) (rest := []) (nA := 1) (pc' := 82) ⟨k_11_143, k_1_12, k_11_145, by decide, by decide, by decide +kernel⟩ k_11_144 ⟨⟨by decide, by decide⟩, rfl, rfl⟩ ⟨by decide +kernel, rfl⟩ rfl rfl (Nat.le_of_ble_eq_true rfl) rfl rfl ?_
            refine cz_M_isInfinite (fun v23 hv23 => ?_)
            show Wz E Y_M_over 82 [(4, .int w), (0, .long x), (2, .long y)] [.int v23] σ K
            refine z_if_ne (off := 10) (tgt := 92) (pc' := 85) ⟨by decide +kernel, by decide, rfl⟩ (fun h24 => ?_) (fun h24 => ?_)
            · refine z_iload (i := 4) (q := 0) (pc' := 94) ⟨by decide +kernel, rfl⟩ rfl ?_
              refine z_ldc2 (i := 339) (v := 9218868437227405312) (pc' := 97) ⟨by decide +kernel, rfl⟩ k_11_27 ?_
              refine z_invS (Z := Y_M_signed) (idx := 349) (As := [.int w, .long 9218868437227405312]) (rest := []) (nA := 2) (pc' := 100) ⟨k_11_132, k_1_12, k_11_134, by decide, by decide, by decide +kernel⟩ k_11_133 ⟨⟨by decide, by decide⟩, rfl, rfl⟩ ⟨by decide +kernel, rfl⟩ rfl rfl (Nat.le_of_ble_eq_true rfl) rfl rfl ?_
              refine cz_M_signed (R := infF) u_infF (by decide) (fun v25 hv25 => ?_)
              show Wz E Y_M_over 100 [(4, .int w), (0, .long x), (2, .long y)] [.long v25] σ K
              refine z_lret rfl (by decide +kernel) ?_
              have z0L : (0 : Int64).toInt = 0 := by decide
              have gh2 := p3_f hv1 h2
              have gh4 := p3_f hv3 h4
              have gh6 := p3_f hv5 h6
              have gh8 := p3_t hv7 h8
              have gh22 := p3_f hv21 h22
              have gh24 := p3_t hv23 h24
              exact k _ (ov_inf (by omega) (by omega) (sgv_if hw hv25))
            · refine z_lload_n (f := 2) (i := 2) (q := 2) (pc' := 86) ⟨by decide +kernel, rfl⟩ rfl rfl ?_
              refine z_invS (Z := Y_M_isZero) (idx := 374) (As := [.long y]) (rest := []) (nA := 1) (pc' := 89) ⟨k_11_146, k_1_12, k_11_148, by decide, by decide, by decide +kernel⟩ k_11_147 ⟨⟨by decide, by decide⟩, rfl, rfl⟩ ⟨by decide +kernel, rfl⟩ rfl rfl (Nat.le_of_ble_eq_true rfl) rfl rfl ?_
              refine cz_M_isZero (fun v26 hv26 => ?_)
              show Wz E Y_M_over 89 [(4, .int w), (0, .long x), (2, .long y)] [.int v26] σ K
              refine z_if_eq (off := 12) (tgt := 101) (pc' := 92) ⟨by decide +kernel, by decide, rfl⟩ (fun h27 => ?_) (fun h27 => ?_)
              · refine z_lload_n (f := 2) (i := 2) (q := 2) (pc' := 102) ⟨by decide +kernel, rfl⟩ rfl rfl ?_
                refine z_invS (Z := Y_M_isInfinite) (idx := 371) (As := [.long y]) (rest := []) (nA := 1) (pc' := 105) ⟨k_11_143, k_1_12, k_11_145, by decide, by decide, by decide +kernel⟩ k_11_144 ⟨⟨by decide, by decide⟩, rfl, rfl⟩ ⟨by decide +kernel, rfl⟩ rfl rfl (Nat.le_of_ble_eq_true rfl) rfl rfl ?_
                refine cz_M_isInfinite (fun v28 hv28 => ?_)
                show Wz E Y_M_over 105 [(4, .int w), (0, .long x), (2, .long y)] [.int v28] σ K
                refine z_if_ne (off := 10) (tgt := 115) (pc' := 108) ⟨by decide +kernel, by decide, rfl⟩ (fun h29 => ?_) (fun h29 => ?_)
                · refine z_iload (i := 4) (q := 0) (pc' := 117) ⟨by decide +kernel, rfl⟩ rfl ?_
                  refine z_lconst (i := 0) (v := 0) (pc' := 118) ⟨by decide +kernel, rfl⟩ (by decide) ?_
                  refine z_invS (Z := Y_M_signed) (idx := 349) (As := [.int w, .long 0]) (rest := []) (nA := 2) (pc' := 121) ⟨k_11_132, k_1_12, k_11_134, by decide, by decide, by decide +kernel⟩ k_11_133 ⟨⟨by decide, by decide⟩, rfl, rfl⟩ ⟨by decide +kernel, rfl⟩ rfl rfl (Nat.le_of_ble_eq_true rfl) rfl rfl ?_
                  refine cz_M_signed (R := 0) (by decide) (by decide) (fun v30 hv30 => ?_)
                  show Wz E Y_M_over 121 [(4, .int w), (0, .long x), (2, .long y)] [.long v30] σ K
                  refine z_lret rfl (by decide +kernel) ?_
                  have z0L : (0 : Int64).toInt = 0 := by decide
                  have gh2 := p3_f hv1 h2
                  have gh4 := p3_f hv3 h4
                  have gh6 := p3_f hv5 h6
                  have gh8 := p3_t hv7 h8
                  have gh22 := p3_f hv21 h22
                  have gh24 := p3_f hv23 h24
                  have gh27 := p3_f hv26 h27
                  have gh29 := p3_t hv28 h29
                  exact k _ (ov_zero (by omega) (by omega) (by omega) (sgv_if hw hv30))
                · refine z_lload_n (f := 0) (i := 0) (q := 1) (pc' := 109) ⟨by decide +kernel, rfl⟩ rfl rfl ?_
                  refine z_invS (Z := Y_M_isZero) (idx := 374) (As := [.long x]) (rest := []) (nA := 1) (pc' := 112) ⟨k_11_146, k_1_12, k_11_148, by decide, by decide, by decide +kernel⟩ k_11_147 ⟨⟨by decide, by decide⟩, rfl, rfl⟩ ⟨by decide +kernel, rfl⟩ rfl rfl (Nat.le_of_ble_eq_true rfl) rfl rfl ?_
                  refine cz_M_isZero (fun v31 hv31 => ?_)
                  show Wz E Y_M_over 112 [(4, .int w), (0, .long x), (2, .long y)] [.int v31] σ K
                  refine z_if_eq (off := 10) (tgt := 122) (pc' := 115) ⟨by decide +kernel, by decide, rfl⟩ (fun h32 => ?_) (fun h32 => ?_)
                  · have z0L : (0 : Int64).toInt = 0 := by decide
                    have gh2 := p3_f hv1 h2
                    have gh4 := p3_f hv3 h4
                    have gh6 := p3_f hv5 h6
                    have gh8 := p3_t hv7 h8
                    have gh22 := p3_f hv21 h22
                    have gh24 := p3_f hv23 h24
                    have gh27 := p3_f hv26 h27
                    have gh29 := p3_f hv28 h29
                    have gh32 := p3_f hv31 h32
                    exact run_M_over_b (by omega) (by omega) (by omega) (by omega) hw k
                  · refine z_iload (i := 4) (q := 0) (pc' := 117) ⟨by decide +kernel, rfl⟩ rfl ?_
                    refine z_lconst (i := 0) (v := 0) (pc' := 118) ⟨by decide +kernel, rfl⟩ (by decide) ?_
                    refine z_invS (Z := Y_M_signed) (idx := 349) (As := [.int w, .long 0]) (rest := []) (nA := 2) (pc' := 121) ⟨k_11_132, k_1_12, k_11_134, by decide, by decide, by decide +kernel⟩ k_11_133 ⟨⟨by decide, by decide⟩, rfl, rfl⟩ ⟨by decide +kernel, rfl⟩ rfl rfl (Nat.le_of_ble_eq_true rfl) rfl rfl ?_
                    refine cz_M_signed (R := 0) (by decide) (by decide) (fun v33 hv33 => ?_)
                    show Wz E Y_M_over 121 [(4, .int w), (0, .long x), (2, .long y)] [.long v33] σ K
                    refine z_lret rfl (by decide +kernel) ?_
                    have z0L : (0 : Int64).toInt = 0 := by decide
                    have gh2 := p3_f hv1 h2
                    have gh4 := p3_f hv3 h4
                    have gh6 := p3_f hv5 h6
                    have gh8 := p3_t hv7 h8
                    have gh22 := p3_f hv21 h22
                    have gh24 := p3_f hv23 h24
                    have gh27 := p3_f hv26 h27
                    have gh29 := p3_f hv28 h29
                    have gh32 := p3_t hv31 h32
                    exact k _ (ov_zero (by omega) (by omega) (by omega) (sgv_if hw hv33))
              · refine z_iload (i := 4) (q := 0) (pc' := 94) ⟨by decide +kernel, rfl⟩ rfl ?_
                refine z_ldc2 (i := 339) (v := 9218868437227405312) (pc' := 97) ⟨by decide +kernel, rfl⟩ k_11_27 ?_
                refine z_invS (Z := Y_M_signed) (idx := 349) (As := [.int w, .long 9218868437227405312]) (rest := []) (nA := 2) (pc' := 100) ⟨k_11_132, k_1_12, k_11_134, by decide, by decide, by decide +kernel⟩ k_11_133 ⟨⟨by decide, by decide⟩, rfl, rfl⟩ ⟨by decide +kernel, rfl⟩ rfl rfl (Nat.le_of_ble_eq_true rfl) rfl rfl ?_
                refine cz_M_signed (R := infF) u_infF (by decide) (fun v34 hv34 => ?_)
                show Wz E Y_M_over 100 [(4, .int w), (0, .long x), (2, .long y)] [.long v34] σ K
                refine z_lret rfl (by decide +kernel) ?_
                have z0L : (0 : Int64).toInt = 0 := by decide
                have gh2 := p3_f hv1 h2
                have gh4 := p3_f hv3 h4
                have gh6 := p3_f hv5 h6
                have gh8 := p3_t hv7 h8
                have gh22 := p3_f hv21 h22
                have gh24 := p3_f hv23 h24
                have gh27 := p3_t hv26 h27
                exact k _ (ov_inf (by omega) (by omega) (sgv_if hw hv34))
          · refine z_ldc2 (i := 377) (v := 9221120237041090560) (pc' := 77) ⟨by decide +kernel, rfl⟩ k_11_28 ?_
            refine z_lret rfl (by decide +kernel) ?_
            have z0L : (0 : Int64).toInt = 0 := by decide
            have gh2 := p3_f hv1 h2
            have gh4 := p3_f hv3 h4
            have gh6 := p3_f hv5 h6
            have gh8 := p3_t hv7 h8
            have gh22 := p3_t hv21 h22
            exact k _ (ov_nan (by omega))
      · refine z_lload_n (f := 2) (i := 2) (q := 2) (pc' := 54) ⟨by decide +kernel, rfl⟩ rfl rfl ?_
        refine z_invS (Z := Y_M_isInfinite) (idx := 371) (As := [.long y]) (rest := []) (nA := 1) (pc' := 57) ⟨k_11_143, k_1_12, k_11_145, by decide, by decide, by decide +kernel⟩ k_11_144 ⟨⟨by decide, by decide⟩, rfl, rfl⟩ ⟨by decide +kernel, rfl⟩ rfl rfl (Nat.le_of_ble_eq_true rfl) rfl rfl ?_
        refine cz_M_isInfinite (fun v35 hv35 => ?_)
        show Wz E Y_M_over 57 [(4, .int w), (0, .long x), (2, .long y)] [.int v35] σ K
        refine z_if_ne (off := 17) (tgt := 74) (pc' := 60) ⟨by decide +kernel, by decide, rfl⟩ (fun h36 => ?_) (fun h36 => ?_)
        · refine z_ldc2 (i := 377) (v := 9221120237041090560) (pc' := 77) ⟨by decide +kernel, rfl⟩ k_11_28 ?_
          refine z_lret rfl (by decide +kernel) ?_
          have z0L : (0 : Int64).toInt = 0 := by decide
          have gh2 := p3_f hv1 h2
          have gh4 := p3_f hv3 h4
          have gh6 := p3_t hv5 h6
          have gh36 := p3_t hv35 h36
          exact k _ (ov_nan (by omega))
        · refine z_lload_n (f := 0) (i := 0) (q := 1) (pc' := 61) ⟨by decide +kernel, rfl⟩ rfl rfl ?_
          refine z_invS (Z := Y_M_isZero) (idx := 374) (As := [.long x]) (rest := []) (nA := 1) (pc' := 64) ⟨k_11_146, k_1_12, k_11_148, by decide, by decide, by decide +kernel⟩ k_11_147 ⟨⟨by decide, by decide⟩, rfl, rfl⟩ ⟨by decide +kernel, rfl⟩ rfl rfl (Nat.le_of_ble_eq_true rfl) rfl rfl ?_
          refine cz_M_isZero (fun v37 hv37 => ?_)
          show Wz E Y_M_over 64 [(4, .int w), (0, .long x), (2, .long y)] [.int v37] σ K
          refine z_if_eq (off := 14) (tgt := 78) (pc' := 67) ⟨by decide +kernel, by decide, rfl⟩ (fun h38 => ?_) (fun h38 => ?_)
          · refine z_lload_n (f := 0) (i := 0) (q := 1) (pc' := 79) ⟨by decide +kernel, rfl⟩ rfl rfl ?_
            refine z_invS (Z := Y_M_isInfinite) (idx := 371) (As := [.long x]) (rest := []) (nA := 1) (pc' := 82) ⟨k_11_143, k_1_12, k_11_145, by decide, by decide, by decide +kernel⟩ k_11_144 ⟨⟨by decide, by decide⟩, rfl, rfl⟩ ⟨by decide +kernel, rfl⟩ rfl rfl (Nat.le_of_ble_eq_true rfl) rfl rfl ?_
            refine cz_M_isInfinite (fun v39 hv39 => ?_)
            show Wz E Y_M_over 82 [(4, .int w), (0, .long x), (2, .long y)] [.int v39] σ K
            refine z_if_ne (off := 10) (tgt := 92) (pc' := 85) ⟨by decide +kernel, by decide, rfl⟩ (fun h40 => ?_) (fun h40 => ?_)
            · refine z_iload (i := 4) (q := 0) (pc' := 94) ⟨by decide +kernel, rfl⟩ rfl ?_
              refine z_ldc2 (i := 339) (v := 9218868437227405312) (pc' := 97) ⟨by decide +kernel, rfl⟩ k_11_27 ?_
              refine z_invS (Z := Y_M_signed) (idx := 349) (As := [.int w, .long 9218868437227405312]) (rest := []) (nA := 2) (pc' := 100) ⟨k_11_132, k_1_12, k_11_134, by decide, by decide, by decide +kernel⟩ k_11_133 ⟨⟨by decide, by decide⟩, rfl, rfl⟩ ⟨by decide +kernel, rfl⟩ rfl rfl (Nat.le_of_ble_eq_true rfl) rfl rfl ?_
              refine cz_M_signed (R := infF) u_infF (by decide) (fun v41 hv41 => ?_)
              show Wz E Y_M_over 100 [(4, .int w), (0, .long x), (2, .long y)] [.long v41] σ K
              refine z_lret rfl (by decide +kernel) ?_
              have z0L : (0 : Int64).toInt = 0 := by decide
              have gh2 := p3_f hv1 h2
              have gh4 := p3_f hv3 h4
              have gh6 := p3_t hv5 h6
              have gh36 := p3_f hv35 h36
              have gh38 := p3_f hv37 h38
              have gh40 := p3_t hv39 h40
              exact k _ (ov_inf (by omega) (by omega) (sgv_if hw hv41))
            · refine z_lload_n (f := 2) (i := 2) (q := 2) (pc' := 86) ⟨by decide +kernel, rfl⟩ rfl rfl ?_
              refine z_invS (Z := Y_M_isZero) (idx := 374) (As := [.long y]) (rest := []) (nA := 1) (pc' := 89) ⟨k_11_146, k_1_12, k_11_148, by decide, by decide, by decide +kernel⟩ k_11_147 ⟨⟨by decide, by decide⟩, rfl, rfl⟩ ⟨by decide +kernel, rfl⟩ rfl rfl (Nat.le_of_ble_eq_true rfl) rfl rfl ?_
              refine cz_M_isZero (fun v42 hv42 => ?_)
              show Wz E Y_M_over 89 [(4, .int w), (0, .long x), (2, .long y)] [.int v42] σ K
              refine z_if_eq (off := 12) (tgt := 101) (pc' := 92) ⟨by decide +kernel, by decide, rfl⟩ (fun h43 => ?_) (fun h43 => ?_)
              · refine z_lload_n (f := 2) (i := 2) (q := 2) (pc' := 102) ⟨by decide +kernel, rfl⟩ rfl rfl ?_
                refine z_invS (Z := Y_M_isInfinite) (idx := 371) (As := [.long y]) (rest := []) (nA := 1) (pc' := 105) ⟨k_11_143, k_1_12, k_11_145, by decide, by decide, by decide +kernel⟩ k_11_144 ⟨⟨by decide, by decide⟩, rfl, rfl⟩ ⟨by decide +kernel, rfl⟩ rfl rfl (Nat.le_of_ble_eq_true rfl) rfl rfl ?_
                refine cz_M_isInfinite (fun v44 hv44 => ?_)
                show Wz E Y_M_over 105 [(4, .int w), (0, .long x), (2, .long y)] [.int v44] σ K
                refine z_if_ne (off := 10) (tgt := 115) (pc' := 108) ⟨by decide +kernel, by decide, rfl⟩ (fun h45 => ?_) (fun h45 => ?_)
                · refine z_iload (i := 4) (q := 0) (pc' := 117) ⟨by decide +kernel, rfl⟩ rfl ?_
                  refine z_lconst (i := 0) (v := 0) (pc' := 118) ⟨by decide +kernel, rfl⟩ (by decide) ?_
                  refine z_invS (Z := Y_M_signed) (idx := 349) (As := [.int w, .long 0]) (rest := []) (nA := 2) (pc' := 121) ⟨k_11_132, k_1_12, k_11_134, by decide, by decide, by decide +kernel⟩ k_11_133 ⟨⟨by decide, by decide⟩, rfl, rfl⟩ ⟨by decide +kernel, rfl⟩ rfl rfl (Nat.le_of_ble_eq_true rfl) rfl rfl ?_
                  refine cz_M_signed (R := 0) (by decide) (by decide) (fun v46 hv46 => ?_)
                  show Wz E Y_M_over 121 [(4, .int w), (0, .long x), (2, .long y)] [.long v46] σ K
                  refine z_lret rfl (by decide +kernel) ?_
                  have z0L : (0 : Int64).toInt = 0 := by decide
                  have gh2 := p3_f hv1 h2
                  have gh4 := p3_f hv3 h4
                  have gh6 := p3_t hv5 h6
                  have gh36 := p3_f hv35 h36
                  have gh38 := p3_f hv37 h38
                  have gh40 := p3_f hv39 h40
                  have gh43 := p3_f hv42 h43
                  have gh45 := p3_t hv44 h45
                  exact k _ (ov_zero (by omega) (by omega) (by omega) (sgv_if hw hv46))
                · refine z_lload_n (f := 0) (i := 0) (q := 1) (pc' := 109) ⟨by decide +kernel, rfl⟩ rfl rfl ?_
                  refine z_invS (Z := Y_M_isZero) (idx := 374) (As := [.long x]) (rest := []) (nA := 1) (pc' := 112) ⟨k_11_146, k_1_12, k_11_148, by decide, by decide, by decide +kernel⟩ k_11_147 ⟨⟨by decide, by decide⟩, rfl, rfl⟩ ⟨by decide +kernel, rfl⟩ rfl rfl (Nat.le_of_ble_eq_true rfl) rfl rfl ?_
                  refine cz_M_isZero (fun v47 hv47 => ?_)
                  show Wz E Y_M_over 112 [(4, .int w), (0, .long x), (2, .long y)] [.int v47] σ K
                  refine z_if_eq (off := 10) (tgt := 122) (pc' := 115) ⟨by decide +kernel, by decide, rfl⟩ (fun h48 => ?_) (fun h48 => ?_)
                  · have z0L : (0 : Int64).toInt = 0 := by decide
                    have gh2 := p3_f hv1 h2
                    have gh4 := p3_f hv3 h4
                    have gh6 := p3_t hv5 h6
                    have gh36 := p3_f hv35 h36
                    have gh38 := p3_f hv37 h38
                    have gh40 := p3_f hv39 h40
                    have gh43 := p3_f hv42 h43
                    have gh45 := p3_f hv44 h45
                    have gh48 := p3_f hv47 h48
                    exact run_M_over_b (by omega) (by omega) (by omega) (by omega) hw k
                  · refine z_iload (i := 4) (q := 0) (pc' := 117) ⟨by decide +kernel, rfl⟩ rfl ?_
                    refine z_lconst (i := 0) (v := 0) (pc' := 118) ⟨by decide +kernel, rfl⟩ (by decide) ?_
                    refine z_invS (Z := Y_M_signed) (idx := 349) (As := [.int w, .long 0]) (rest := []) (nA := 2) (pc' := 121) ⟨k_11_132, k_1_12, k_11_134, by decide, by decide, by decide +kernel⟩ k_11_133 ⟨⟨by decide, by decide⟩, rfl, rfl⟩ ⟨by decide +kernel, rfl⟩ rfl rfl (Nat.le_of_ble_eq_true rfl) rfl rfl ?_
                    refine cz_M_signed (R := 0) (by decide) (by decide) (fun v49 hv49 => ?_)
                    show Wz E Y_M_over 121 [(4, .int w), (0, .long x), (2, .long y)] [.long v49] σ K
                    refine z_lret rfl (by decide +kernel) ?_
                    have z0L : (0 : Int64).toInt = 0 := by decide
                    have gh2 := p3_f hv1 h2
                    have gh4 := p3_f hv3 h4
                    have gh6 := p3_t hv5 h6
                    have gh36 := p3_f hv35 h36
                    have gh38 := p3_f hv37 h38
                    have gh40 := p3_f hv39 h40
                    have gh43 := p3_f hv42 h43
                    have gh45 := p3_f hv44 h45
                    have gh48 := p3_t hv47 h48
                    exact k _ (ov_zero (by omega) (by omega) (by omega) (sgv_if hw hv49))
              · refine z_iload (i := 4) (q := 0) (pc' := 94) ⟨by decide +kernel, rfl⟩ rfl ?_
                refine z_ldc2 (i := 339) (v := 9218868437227405312) (pc' := 97) ⟨by decide +kernel, rfl⟩ k_11_27 ?_
                refine z_invS (Z := Y_M_signed) (idx := 349) (As := [.int w, .long 9218868437227405312]) (rest := []) (nA := 2) (pc' := 100) ⟨k_11_132, k_1_12, k_11_134, by decide, by decide, by decide +kernel⟩ k_11_133 ⟨⟨by decide, by decide⟩, rfl, rfl⟩ ⟨by decide +kernel, rfl⟩ rfl rfl (Nat.le_of_ble_eq_true rfl) rfl rfl ?_
                refine cz_M_signed (R := infF) u_infF (by decide) (fun v50 hv50 => ?_)
                show Wz E Y_M_over 100 [(4, .int w), (0, .long x), (2, .long y)] [.long v50] σ K
                refine z_lret rfl (by decide +kernel) ?_
                have z0L : (0 : Int64).toInt = 0 := by decide
                have gh2 := p3_f hv1 h2
                have gh4 := p3_f hv3 h4
                have gh6 := p3_t hv5 h6
                have gh36 := p3_f hv35 h36
                have gh38 := p3_f hv37 h38
                have gh40 := p3_f hv39 h40
                have gh43 := p3_t hv42 h43
                exact k _ (ov_inf (by omega) (by omega) (sgv_if hw hv50))
          · refine z_lload_n (f := 2) (i := 2) (q := 2) (pc' := 68) ⟨by decide +kernel, rfl⟩ rfl rfl ?_
            refine z_invS (Z := Y_M_isZero) (idx := 374) (As := [.long y]) (rest := []) (nA := 1) (pc' := 71) ⟨k_11_146, k_1_12, k_11_148, by decide, by decide, by decide +kernel⟩ k_11_147 ⟨⟨by decide, by decide⟩, rfl, rfl⟩ ⟨by decide +kernel, rfl⟩ rfl rfl (Nat.le_of_ble_eq_true rfl) rfl rfl ?_
            refine cz_M_isZero (fun v51 hv51 => ?_)
            show Wz E Y_M_over 71 [(4, .int w), (0, .long x), (2, .long y)] [.int v51] σ K
            refine z_if_eq (off := 7) (tgt := 78) (pc' := 74) ⟨by decide +kernel, by decide, rfl⟩ (fun h52 => ?_) (fun h52 => ?_)
            · refine z_lload_n (f := 0) (i := 0) (q := 1) (pc' := 79) ⟨by decide +kernel, rfl⟩ rfl rfl ?_
              refine z_invS (Z := Y_M_isInfinite) (idx := 371) (As := [.long x]) (rest := []) (nA := 1) (pc' := 82) ⟨k_11_143, k_1_12, k_11_145, by decide, by decide, by decide +kernel⟩ k_11_144 ⟨⟨by decide, by decide⟩, rfl, rfl⟩ ⟨by decide +kernel, rfl⟩ rfl rfl (Nat.le_of_ble_eq_true rfl) rfl rfl ?_
              refine cz_M_isInfinite (fun v53 hv53 => ?_)
              show Wz E Y_M_over 82 [(4, .int w), (0, .long x), (2, .long y)] [.int v53] σ K
              refine z_if_ne (off := 10) (tgt := 92) (pc' := 85) ⟨by decide +kernel, by decide, rfl⟩ (fun h54 => ?_) (fun h54 => ?_)
              · refine z_iload (i := 4) (q := 0) (pc' := 94) ⟨by decide +kernel, rfl⟩ rfl ?_
                refine z_ldc2 (i := 339) (v := 9218868437227405312) (pc' := 97) ⟨by decide +kernel, rfl⟩ k_11_27 ?_
                refine z_invS (Z := Y_M_signed) (idx := 349) (As := [.int w, .long 9218868437227405312]) (rest := []) (nA := 2) (pc' := 100) ⟨k_11_132, k_1_12, k_11_134, by decide, by decide, by decide +kernel⟩ k_11_133 ⟨⟨by decide, by decide⟩, rfl, rfl⟩ ⟨by decide +kernel, rfl⟩ rfl rfl (Nat.le_of_ble_eq_true rfl) rfl rfl ?_
                refine cz_M_signed (R := infF) u_infF (by decide) (fun v55 hv55 => ?_)
                show Wz E Y_M_over 100 [(4, .int w), (0, .long x), (2, .long y)] [.long v55] σ K
                refine z_lret rfl (by decide +kernel) ?_
                have z0L : (0 : Int64).toInt = 0 := by decide
                have gh2 := p3_f hv1 h2
                have gh4 := p3_f hv3 h4
                have gh6 := p3_t hv5 h6
                have gh36 := p3_f hv35 h36
                have gh38 := p3_t hv37 h38
                have gh52 := p3_f hv51 h52
                have gh54 := p3_t hv53 h54
                exact k _ (ov_inf (by omega) (by omega) (sgv_if hw hv55))
              · refine z_lload_n (f := 2) (i := 2) (q := 2) (pc' := 86) ⟨by decide +kernel, rfl⟩ rfl rfl ?_
                refine z_invS (Z := Y_M_isZero) (idx := 374) (As := [.long y]) (rest := []) (nA := 1) (pc' := 89) ⟨k_11_146, k_1_12, k_11_148, by decide, by decide, by decide +kernel⟩ k_11_147 ⟨⟨by decide, by decide⟩, rfl, rfl⟩ ⟨by decide +kernel, rfl⟩ rfl rfl (Nat.le_of_ble_eq_true rfl) rfl rfl ?_
                refine cz_M_isZero (fun v56 hv56 => ?_)
                show Wz E Y_M_over 89 [(4, .int w), (0, .long x), (2, .long y)] [.int v56] σ K
                refine z_if_eq (off := 12) (tgt := 101) (pc' := 92) ⟨by decide +kernel, by decide, rfl⟩ (fun h57 => ?_) (fun h57 => ?_)
                · refine z_lload_n (f := 2) (i := 2) (q := 2) (pc' := 102) ⟨by decide +kernel, rfl⟩ rfl rfl ?_
                  refine z_invS (Z := Y_M_isInfinite) (idx := 371) (As := [.long y]) (rest := []) (nA := 1) (pc' := 105) ⟨k_11_143, k_1_12, k_11_145, by decide, by decide, by decide +kernel⟩ k_11_144 ⟨⟨by decide, by decide⟩, rfl, rfl⟩ ⟨by decide +kernel, rfl⟩ rfl rfl (Nat.le_of_ble_eq_true rfl) rfl rfl ?_
                  refine cz_M_isInfinite (fun v58 hv58 => ?_)
                  show Wz E Y_M_over 105 [(4, .int w), (0, .long x), (2, .long y)] [.int v58] σ K
                  refine z_if_ne (off := 10) (tgt := 115) (pc' := 108) ⟨by decide +kernel, by decide, rfl⟩ (fun h59 => ?_) (fun h59 => ?_)
                  · refine z_iload (i := 4) (q := 0) (pc' := 117) ⟨by decide +kernel, rfl⟩ rfl ?_
                    refine z_lconst (i := 0) (v := 0) (pc' := 118) ⟨by decide +kernel, rfl⟩ (by decide) ?_
                    refine z_invS (Z := Y_M_signed) (idx := 349) (As := [.int w, .long 0]) (rest := []) (nA := 2) (pc' := 121) ⟨k_11_132, k_1_12, k_11_134, by decide, by decide, by decide +kernel⟩ k_11_133 ⟨⟨by decide, by decide⟩, rfl, rfl⟩ ⟨by decide +kernel, rfl⟩ rfl rfl (Nat.le_of_ble_eq_true rfl) rfl rfl ?_
                    refine cz_M_signed (R := 0) (by decide) (by decide) (fun v60 hv60 => ?_)
                    show Wz E Y_M_over 121 [(4, .int w), (0, .long x), (2, .long y)] [.long v60] σ K
                    refine z_lret rfl (by decide +kernel) ?_
                    have z0L : (0 : Int64).toInt = 0 := by decide
                    have gh2 := p3_f hv1 h2
                    have gh4 := p3_f hv3 h4
                    have gh6 := p3_t hv5 h6
                    have gh36 := p3_f hv35 h36
                    have gh38 := p3_t hv37 h38
                    have gh52 := p3_f hv51 h52
                    have gh54 := p3_f hv53 h54
                    have gh57 := p3_f hv56 h57
                    have gh59 := p3_t hv58 h59
                    exact k _ (ov_zero (by omega) (by omega) (by omega) (sgv_if hw hv60))
                  · refine z_lload_n (f := 0) (i := 0) (q := 1) (pc' := 109) ⟨by decide +kernel, rfl⟩ rfl rfl ?_
                    refine z_invS (Z := Y_M_isZero) (idx := 374) (As := [.long x]) (rest := []) (nA := 1) (pc' := 112) ⟨k_11_146, k_1_12, k_11_148, by decide, by decide, by decide +kernel⟩ k_11_147 ⟨⟨by decide, by decide⟩, rfl, rfl⟩ ⟨by decide +kernel, rfl⟩ rfl rfl (Nat.le_of_ble_eq_true rfl) rfl rfl ?_
                    refine cz_M_isZero (fun v61 hv61 => ?_)
                    show Wz E Y_M_over 112 [(4, .int w), (0, .long x), (2, .long y)] [.int v61] σ K
                    refine z_if_eq (off := 10) (tgt := 122) (pc' := 115) ⟨by decide +kernel, by decide, rfl⟩ (fun h62 => ?_) (fun h62 => ?_)
                    · have z0L : (0 : Int64).toInt = 0 := by decide
                      have gh2 := p3_f hv1 h2
                      have gh4 := p3_f hv3 h4
                      have gh6 := p3_t hv5 h6
                      have gh36 := p3_f hv35 h36
                      have gh38 := p3_t hv37 h38
                      have gh52 := p3_f hv51 h52
                      have gh54 := p3_f hv53 h54
                      have gh57 := p3_f hv56 h57
                      have gh59 := p3_f hv58 h59
                      have gh62 := p3_f hv61 h62
                      exact run_M_over_b (by omega) (by omega) (by omega) (by omega) hw k
                    · refine z_iload (i := 4) (q := 0) (pc' := 117) ⟨by decide +kernel, rfl⟩ rfl ?_
                      refine z_lconst (i := 0) (v := 0) (pc' := 118) ⟨by decide +kernel, rfl⟩ (by decide) ?_
                      refine z_invS (Z := Y_M_signed) (idx := 349) (As := [.int w, .long 0]) (rest := []) (nA := 2) (pc' := 121) ⟨k_11_132, k_1_12, k_11_134, by decide, by decide, by decide +kernel⟩ k_11_133 ⟨⟨by decide, by decide⟩, rfl, rfl⟩ ⟨by decide +kernel, rfl⟩ rfl rfl (Nat.le_of_ble_eq_true rfl) rfl rfl ?_
                      refine cz_M_signed (R := 0) (by decide) (by decide) (fun v63 hv63 => ?_)
                      show Wz E Y_M_over 121 [(4, .int w), (0, .long x), (2, .long y)] [.long v63] σ K
                      refine z_lret rfl (by decide +kernel) ?_
                      have z0L : (0 : Int64).toInt = 0 := by decide
                      have gh2 := p3_f hv1 h2
                      have gh4 := p3_f hv3 h4
                      have gh6 := p3_t hv5 h6
                      have gh36 := p3_f hv35 h36
                      have gh38 := p3_t hv37 h38
                      have gh52 := p3_f hv51 h52
                      have gh54 := p3_f hv53 h54
                      have gh57 := p3_f hv56 h57
                      have gh59 := p3_f hv58 h59
                      have gh62 := p3_t hv61 h62
                      exact k _ (ov_zero (by omega) (by omega) (by omega) (sgv_if hw hv63))
                · refine z_iload (i := 4) (q := 0) (pc' := 94) ⟨by decide +kernel, rfl⟩ rfl ?_
                  refine z_ldc2 (i := 339) (v := 9218868437227405312) (pc' := 97) ⟨by decide +kernel, rfl⟩ k_11_27 ?_
                  refine z_invS (Z := Y_M_signed) (idx := 349) (As := [.int w, .long 9218868437227405312]) (rest := []) (nA := 2) (pc' := 100) ⟨k_11_132, k_1_12, k_11_134, by decide, by decide, by decide +kernel⟩ k_11_133 ⟨⟨by decide, by decide⟩, rfl, rfl⟩ ⟨by decide +kernel, rfl⟩ rfl rfl (Nat.le_of_ble_eq_true rfl) rfl rfl ?_
                  refine cz_M_signed (R := infF) u_infF (by decide) (fun v64 hv64 => ?_)
                  show Wz E Y_M_over 100 [(4, .int w), (0, .long x), (2, .long y)] [.long v64] σ K
                  refine z_lret rfl (by decide +kernel) ?_
                  have z0L : (0 : Int64).toInt = 0 := by decide
                  have gh2 := p3_f hv1 h2
                  have gh4 := p3_f hv3 h4
                  have gh6 := p3_t hv5 h6
                  have gh36 := p3_f hv35 h36
                  have gh38 := p3_t hv37 h38
                  have gh52 := p3_f hv51 h52
                  have gh54 := p3_f hv53 h54
                  have gh57 := p3_t hv56 h57
                  exact k _ (ov_inf (by omega) (by omega) (sgv_if hw hv64))
            · refine z_ldc2 (i := 377) (v := 9221120237041090560) (pc' := 77) ⟨by decide +kernel, rfl⟩ k_11_28 ?_
              refine z_lret rfl (by decide +kernel) ?_
              have z0L : (0 : Int64).toInt = 0 := by decide
              have gh2 := p3_f hv1 h2
              have gh4 := p3_f hv3 h4
              have gh6 := p3_t hv5 h6
              have gh36 := p3_f hv35 h36
              have gh38 := p3_t hv37 h38
              have gh52 := p3_t hv51 h52
              exact k _ (ov_nan (by omega))

end
