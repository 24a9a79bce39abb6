section
theorem run_M_plus_d {E : xV} {σ : zS} {K : zKt} {x y bg sm m n : Int64} {e d g w : Int32} (h : PmH x y bg sm m e) (hn : uF n = mzF (mgF sm.toInt)) (hd : d.toInt = e.toInt - exF (mgF sm.toInt)) (k : ∀ v : Int64, PlR x.toInt y.toInt v.toInt → K (some (.long v)) σ) : Wz E Y_M_plus 194 [(16, .int 0), (15, .int d), (13, .long n), (11, .int e), (9, .long m), (12, .int g), (7, .long sm), (5, .long bg), (4, .int w), (0, .long x), (2, .long y)] [] σ K := by
  refine z_lload (i := 13) (q := 2) (pc' := 196) ⟨by decide +kernel, rfl⟩ rfl ?_
  refine z_lconst (i := 0) (v := 0) (pc' := 197) ⟨by decide +kernel, rfl⟩ (by decide) ?_
  refine z_lcmp (pc' := 198) ⟨by decide +kernel, rfl⟩ ?_
  refine z_if_eq (off := 10) (tgt := 208) (pc' := 201) ⟨by decide +kernel, by decide, rfl⟩ (fun h1 => ?_) (fun h1 => ?_)
  · refine z_lload (i := 13) (q := 2) (pc' := 210) ⟨by decide +kernel, rfl⟩ rfl ?_
    refine z_lconst (i := 0) (v := 0) (pc' := 211) ⟨by decide +kernel, rfl⟩ (by decide) ?_
    refine z_lcmp (pc' := 212) ⟨by decide +kernel, rfl⟩ ?_
    refine z_if_eq (off := 7) (tgt := 219) (pc' := 215) ⟨by decide +kernel, by decide, rfl⟩ (fun h2 => ?_) (fun h2 => ?_)
    · refine z_iconst (i := 0) (v := 0) (pc' := 220) ⟨by decide +kernel, rfl⟩ (by decide) ?_
      refine z_istore (i := 16) (pc' := 222) ⟨by decide +kernel, rfl⟩ (by decide) rfl ?_
      show Wz E Y_M_plus 222 [(16, .int 0), (15, .int d), (13, .long n), (11, .int e), (9, .long m), (12, .int g), (7, .long sm), (5, .long bg), (4, .int w), (0, .long x), (2, .long y)] [] σ K
      refine z_lconst (i := 0) (v := 0) (pc' := 223) ⟨by decide +kernel, rfl⟩ (by decide) ?_
      refine z_lstore (i := 13) (pc' := 225) ⟨by decide +kernel, rfl⟩ (by decide) rfl ?_
      show Wz E Y_M_plus 225 [(13, .long 0), (16, .int 0), (15, .int d), (11, .int e), (9, .long m), (12, .int g), (7, .long sm), (5, .long bg), (4, .int w), (0, .long x), (2, .long y)] [] σ K
      refine z_goto (off := 47) (tgt := 272) (pc' := 228) ⟨by decide +kernel, by decide, rfl⟩ ?_
      have z0L : (0 : Int64).toInt = 0 := by decide
      have gh1 := k_eq_t h1
      have gh2 := k_eq_t h2
      exact run_M_plus_e h (pm_bz hn (by omega)) k
    · refine z_iconst (i := 1) (v := 1) (pc' := 216) ⟨by decide +kernel, rfl⟩ (by decide) ?_
      refine z_goto (off := 4) (tgt := 220) (pc' := 219) ⟨by decide +kernel, by decide, rfl⟩ ?_
      refine z_istore (i := 16) (pc' := 222) ⟨by decide +kernel, rfl⟩ (by decide) rfl ?_
      show Wz E Y_M_plus 222 [(16, .int 1), (15, .int d), (13, .long n), (11, .int e), (9, .long m), (12, .int g), (7, .long sm), (5, .long bg), (4, .int w), (0, .long x), (2, .long y)] [] σ K
      refine z_lconst (i := 0) (v := 0) (pc' := 223) ⟨by decide +kernel, rfl⟩ (by decide) ?_
      refine z_lstore (i := 13) (pc' := 225) ⟨by decide +kernel, rfl⟩ (by decide) rfl ?_
      show Wz E Y_M_plus 225 [(13, .long 0), (16, .int 1), (15, .int d), (11, .int e), (9, .long m), (12, .int g), (7, .long sm), (5, .long bg), (4, .int w), (0, .long x), (2, .long y)] [] σ K
      refine z_goto (off := 47) (tgt := 272) (pc' := 228) ⟨by decide +kernel, by decide, rfl⟩ ?_
      have z0L : (0 : Int64).toInt = 0 := by decide
      have gh1 := k_eq_t h1
      have gh2 := k_eq_f h2
      exfalso
      omega
  · refine z_iload (i := 15) (q := 1) (pc' := 203) ⟨by decide +kernel, rfl⟩ rfl ?_
    refine z_bipush (i := 62) (v := 62) (pc' := 205) ⟨by decide +kernel, rfl⟩ (by decide) ?_
    refine z_icmp_le (off := 23) (tgt := 228) (pc' := 208) ⟨by decide +kernel, by decide, rfl⟩ (fun h3 => ?_) (fun h3 => ?_)
    · refine z_iload (i := 15) (q := 1) (pc' := 230) ⟨by decide +kernel, rfl⟩ rfl ?_
      refine z_if_le (off := 34) (tgt := 264) (pc' := 233) ⟨by decide +kernel, by decide, rfl⟩ (fun h4 => ?_) (fun h4 => ?_)
      · refine z_lload (i := 13) (q := 2) (pc' := 266) ⟨by decide +kernel, rfl⟩ rfl ?_
        refine z_iload (i := 15) (q := 1) (pc' := 268) ⟨by decide +kernel, rfl⟩ rfl ?_
        refine z_ineg (pc' := 269) ⟨by decide +kernel, rfl⟩ ?_
        refine z_lshl (pc' := 270) ⟨by decide +kernel, rfl⟩ rfl ?_
        refine z_lstore (i := 13) (pc' := 272) ⟨by decide +kernel, rfl⟩ (by decide) rfl ?_
        show Wz E Y_M_plus 272 [(13, .long (n <<< (Int32.toInt64 (-d) &&& 63))), (16, .int 0), (15, .int d), (11, .int e), (9, .long m), (12, .int g), (7, .long sm), (5, .long bg), (4, .int w), (0, .long x), (2, .long y)] [] σ K
        have z0L : (0 : Int64).toInt = 0 := by decide
        have z0 : (0 : Int32).toInt = 0 := by decide
        have z62 : (62 : Int32).toInt = 62 := by decide
        have gh1 := k_eq_f h1
        have gh3 := j_le_t h3
        have gh4 := j_le_t (y := 0) h4
        exact run_M_plus_e h (pm_bl h hn hd (by omega)) k
      · refine z_lload (i := 13) (q := 2) (pc' := 235) ⟨by decide +kernel, rfl⟩ rfl ?_
        refine z_lconst (i := 1) (v := 1) (pc' := 236) ⟨by decide +kernel, rfl⟩ (by decide) ?_
        refine z_iload (i := 15) (q := 1) (pc' := 238) ⟨by decide +kernel, rfl⟩ rfl ?_
        refine z_lshl (pc' := 239) ⟨by decide +kernel, rfl⟩ rfl ?_
        refine z_lconst (i := 1) (v := 1) (pc' := 240) ⟨by decide +kernel, rfl⟩ (by decide) ?_
        refine z_lsub (pc' := 241) ⟨by decide +kernel, rfl⟩ ?_
        refine z_land (pc' := 242) ⟨by decide +kernel, rfl⟩ ?_
        refine z_lconst (i := 0) (v := 0) (pc' := 243) ⟨by decide +kernel, rfl⟩ (by decide) ?_
        refine z_lcmp (pc' := 244) ⟨by decide +kernel, rfl⟩ ?_
        refine z_if_eq (off := 7) (tgt := 251) (pc' := 247) ⟨by decide +kernel, by decide, rfl⟩ (fun h5 => ?_) (fun h5 => ?_)
        · refine z_iconst (i := 0) (v := 0) (pc' := 252) ⟨by decide +kernel, rfl⟩ (by decide) ?_
          refine z_istore (i := 16) (pc' := 254) ⟨by decide +kernel, rfl⟩ (by decide) rfl ?_
          show Wz E Y_M_plus 254 [(16, .int 0), (15, .int d), (13, .long n), (11, .int e), (9, .long m), (12, .int g), (7, .long sm), (5, .long bg), (4, .int w), (0, .long x), (2, .long y)] [] σ K
          refine z_lload (i := 13) (q := 2) (pc' := 256) ⟨by decide +kernel, rfl⟩ rfl ?_
          refine z_iload (i := 15) (q := 1) (pc' := 258) ⟨by decide +kernel, rfl⟩ rfl ?_
          refine z_lshr (pc' := 259) ⟨by decide +kernel, rfl⟩ rfl ?_
          refine z_lstore (i := 13) (pc' := 261) ⟨by decide +kernel, rfl⟩ (by decide) rfl ?_
          show Wz E Y_M_plus 261 [(13, .long (n >>> (Int32.toInt64 d &&& 63))), (16, .int 0), (15, .int d), (11, .int e), (9, .long m), (12, .int g), (7, .long sm), (5, .long bg), (4, .int w), (0, .long x), (2, .long y)] [] σ K
          refine z_goto (off := 11) (tgt := 272) (pc' := 264) ⟨by decide +kernel, by decide, rfl⟩ ?_
          have z0L : (0 : Int64).toInt = 0 := by decide
          have z0 : (0 : Int32).toInt = 0 := by decide
          have z62 : (62 : Int32).toInt = 62 := by decide
          have gh1 := k_eq_f h1
          have gh3 := j_le_t h3
          have gh4 := j_le_f (y := 0) h4
          have gh5 := k_eq_t h5
          exact run_M_plus_e h ((pm_bm hn (mz_lt _) hd (by omega) (by omega)).1 (by rw [gh5, z0L])) k
        · refine z_iconst (i := 1) (v := 1) (pc' := 248) ⟨by decide +kernel, rfl⟩ (by decide) ?_
          refine z_goto (off := 4) (tgt := 252) (pc' := 251) ⟨by decide +kernel, by decide, rfl⟩ ?_
          refine z_istore (i := 16) (pc' := 254) ⟨by decide +kernel, rfl⟩ (by decide) rfl ?_
          show Wz E Y_M_plus 254 [(16, .int 1), (15, .int d), (13, .long n), (11, .int e), (9, .long m), (12, .int g), (7, .long sm), (5, .long bg), (4, .int w), (0, .long x), (2, .long y)] [] σ K
          refine z_lload (i := 13) (q := 2) (pc' := 256) ⟨by decide +kernel, rfl⟩ rfl ?_
          refine z_iload (i := 15) (q := 1) (pc' := 258) ⟨by decide +kernel, rfl⟩ rfl ?_
          refine z_lshr (pc' := 259) ⟨by decide +kernel, rfl⟩ rfl ?_
          refine z_lstore (i := 13) (pc' := 261) ⟨by decide +kernel, rfl⟩ (by decide) rfl ?_
          show Wz E Y_M_plus 261 [(13, .long (n >>> (Int32.toInt64 d &&& 63))), (16, .int 1), (15, .int d), (11, .int e), (9, .long m), (12, .int g), (7, .long sm), (5, .long bg), (4, .int w), (0, .long x), (2, .long y)] [] σ K
          refine z_goto (off := 11) (tgt := 272) (pc' := 264) ⟨by decide +kernel, by decide, rfl⟩ ?_
          have z0L : (0 : Int64).toInt = 0 := by decide
          have z0 : (0 : Int32).toInt = 0 := by decide
          have z62 : (62 : Int32).toInt = 62 := by decide
          have gh1 := k_eq_f h1
          have gh3 := j_le_t h3
          have gh4 := j_le_f (y := 0) h4
          have gh5 := k_eq_f h5
          exact run_M_plus_e h ((pm_bm hn (mz_lt _) hd (by omega) (by omega)).2 (by rw [← z0L]; exact gh5)) k
    · refine z_lload (i := 13) (q := 2) (pc' := 210) ⟨by decide +kernel, rfl⟩ rfl ?_
      refine z_lconst (i := 0) (v := 0) (pc' := 211) ⟨by decide +kernel, rfl⟩ (by decide) ?_
      refine z_lcmp (pc' := 212) ⟨by decide +kernel, rfl⟩ ?_
      refine z_if_eq (off := 7) (tgt := 219) (pc' := 215) ⟨by decide +kernel, by decide, rfl⟩ (fun h6 => ?_) (fun h6 => ?_)
      · refine z_iconst (i := 0) (v := 0) (pc' := 220) ⟨by decide +kernel, rfl⟩ (by decide) ?_
        refine z_istore (i := 16) (pc' := 222) ⟨by decide +kernel, rfl⟩ (by decide) rfl ?_
        show Wz E Y_M_plus 222 [(16, .int 0), (15, .int d), (13, .long n), (11, .int e), (9, .long m), (12, .int g), (7, .long sm), (5, .long bg), (4, .int w), (0, .long x), (2, .long y)] [] σ K
        refine z_lconst (i := 0) (v := 0) (pc' := 223) ⟨by decide +kernel, rfl⟩ (by decide) ?_
        refine z_lstore (i := 13) (pc' := 225) ⟨by decide +kernel, rfl⟩ (by decide) rfl ?_
        show Wz E Y_M_plus 225 [(13, .long 0), (16, .int 0), (15, .int d), (11, .int e), (9, .long m), (12, .int g), (7, .long sm), (5, .long bg), (4, .int w), (0, .long x), (2, .long y)] [] σ K
        refine z_goto (off := 47) (tgt := 272) (pc' := 228) ⟨by decide +kernel, by decide, rfl⟩ ?_
        have z0L : (0 : Int64).toInt = 0 := by decide
        have z62 : (62 : Int32).toInt = 62 := by decide
        have gh1 := k_eq_f h1
        have gh3 := j_le_f h3
        have gh6 := k_eq_t h6
        exact run_M_plus_e h (pm_bz hn (by omega)) k
      · refine z_iconst (i := 1) (v := 1) (pc' := 216) ⟨by decide +kernel, rfl⟩ (by decide) ?_
        refine z_goto (off := 4) (tgt := 220) (pc' := 219) ⟨by decide +kernel, by decide, rfl⟩ ?_
        refine z_istore (i := 16) (pc' := 222) ⟨by decide +kernel, rfl⟩ (by decide) rfl ?_
        show Wz E Y_M_plus 222 [(16, .int 1), (15, .int d), (13, .long n), (11, .int e), (9, .long m), (12, .int g), (7, .long sm), (5, .long bg), (4, .int w), (0, .long x), (2, .long y)] [] σ K
        refine z_lconst (i := 0) (v := 0) (pc' := 223) ⟨by decide +kernel, rfl⟩ (by decide) ?_
        refine z_lstore (i := 13) (pc' := 225) ⟨by decide +kernel, rfl⟩ (by decide) rfl ?_
        show Wz E Y_M_plus 225 [(13, .long 0), (16, .int 1), (15, .int d), (11, .int e), (9, .long m), (12, .int g), (7, .long sm), (5, .long bg), (4, .int w), (0, .long x), (2, .long y)] [] σ K
        refine z_goto (off := 47) (tgt := 272) (pc' := 228) ⟨by decide +kernel, by decide, rfl⟩ ?_
        have z0L : (0 : Int64).toInt = 0 := by decide
        have z62 : (62 : Int32).toInt = 62 := by decide
        have gh1 := k_eq_f h1
        have gh3 := j_le_f h3
        have gh6 := k_eq_f h6
        exact run_M_plus_e h (pm_bf hn (mz_lt _) (by omega) hd (by omega)) k
theorem run_M_plus_c {E : xV} {σ : zS} {K : zKt} {x y bg sm : Int64} {w : Int32} (hxy : (bg = x ∧ sm = y) ∨ (bg = y ∧ sm = x)) (hx : mgF x.toInt < infF) (hy : mgF y.toInt < infF) (hle : mgF sm.toInt ≤ mgF bg.toInt) (h0 : mgF bg.toInt ≠ 0) (k : ∀ v : Int64, PlR x.toInt y.toInt v.toInt → K (some (.long v)) σ) : Wz E Y_M_plus 136 [(7, .long sm), (5, .long bg), (4, .int w), (0, .long x), (2, .long y)] [] σ K := by
  refine z_lload (i := 5) (q := 1) (pc' := 138) ⟨by decide +kernel, rfl⟩ rfl ?_
  refine z_invS (Z := Y_M_mantissa) (idx := 381) (As := [.long bg]) (rest := []) (nA := 1) (pc' := 141) ⟨k_11_149, k_1_12, k_11_151, by decide, by decide, by decide +kernel⟩ k_11_150 ⟨⟨by decide, by decide⟩, rfl, rfl⟩ ⟨by decide +kernel, rfl⟩ rfl rfl (Nat.le_of_ble_eq_true rfl) rfl rfl ?_
  refine cz_M_mantissa (fun v1 hv1 => ?_)
  show Wz E Y_M_plus 141 [(7, .long sm), (5, .long bg), (4, .int w), (0, .long x), (2, .long y)] [.long v1] σ K
  refine z_lstore (i := 9) (pc' := 143) ⟨by decide +kernel, rfl⟩ (by decide) rfl ?_
  show Wz E Y_M_plus 143 [(9, .long v1), (7, .long sm), (5, .long bg), (4, .int w), (0, .long x), (2, .long y)] [] σ K
  refine z_lload (i := 5) (q := 2) (pc' := 145) ⟨by decide +kernel, rfl⟩ rfl ?_
  refine z_invS (Z := Y_M_exponent) (idx := 387) (As := [.long bg]) (rest := []) (nA := 1) (pc' := 148) ⟨k_11_154, k_1_12, k_11_156, by decide, by decide, by decide +kernel⟩ k_11_155 ⟨⟨by decide, by decide⟩, rfl, rfl⟩ ⟨by decide +kernel, rfl⟩ rfl rfl (Nat.le_of_ble_eq_true rfl) rfl rfl ?_
  refine cz_M_exponent (fun v2 hv2 => ?_)
  show Wz E Y_M_plus 148 [(9, .long v1), (7, .long sm), (5, .long bg), (4, .int w), (0, .long x), (2, .long y)] [.int v2] σ K
  refine z_istore (i := 11) (pc' := 150) ⟨by decide +kernel, rfl⟩ (by decide) rfl ?_
  show Wz E Y_M_plus 150 [(11, .int v2), (9, .long v1), (7, .long sm), (5, .long bg), (4, .int w), (0, .long x), (2, .long y)] [] σ K
  refine z_bipush (i := 61) (v := 61) (pc' := 152) ⟨by decide +kernel, rfl⟩ (by decide) ?_
  refine z_lload (i := 9) (q := 1) (pc' := 154) ⟨by decide +kernel, rfl⟩ rfl ?_
  refine z_invS (Z := Y_M_length) (idx := 353) (As := [.long v1]) (rest := [.int 61]) (nA := 1) (pc' := 157) ⟨k_11_126, k_1_12, k_11_128, by decide, by decide, by decide +kernel⟩ k_11_127 ⟨⟨by decide, by decide⟩, rfl, rfl⟩ ⟨by decide +kernel, rfl⟩ rfl rfl (Nat.le_of_ble_eq_true rfl) rfl rfl ?_
  refine cz_M_length (fun v3 hv3 => ?_)
  show Wz E Y_M_plus 157 [(11, .int v2), (9, .long v1), (7, .long sm), (5, .long bg), (4, .int w), (0, .long x), (2, .long y)] [.int v3, .int 61] σ K
  refine z_isub (pc' := 158) ⟨by decide +kernel, rfl⟩ ?_
  refine z_istore (i := 12) (pc' := 160) ⟨by decide +kernel, rfl⟩ (by decide) rfl ?_
  show Wz E Y_M_plus 160 [(12, .int (61 - v3)), (11, .int v2), (9, .long v1), (7, .long sm), (5, .long bg), (4, .int w), (0, .long x), (2, .long y)] [] σ K
  refine z_lload (i := 9) (q := 2) (pc' := 162) ⟨by decide +kernel, rfl⟩ rfl ?_
  refine z_iload (i := 12) (q := 0) (pc' := 164) ⟨by decide +kernel, rfl⟩ rfl ?_
  refine z_lshl (pc' := 165) ⟨by decide +kernel, rfl⟩ rfl ?_
  refine z_lstore (i := 9) (pc' := 167) ⟨by decide +kernel, rfl⟩ (by decide) rfl ?_
  show Wz E Y_M_plus 167 [(9, .long (v1 <<< (Int32.toInt64 (61 - v3) &&& 63))), (12, .int (61 - v3)), (11, .int v2), (7, .long sm), (5, .long bg), (4, .int w), (0, .long x), (2, .long y)] [] σ K
  refine z_iload (i := 11) (q := 2) (pc' := 169) ⟨by decide +kernel, rfl⟩ rfl ?_
  refine z_iload (i := 12) (q := 1) (pc' := 171) ⟨by decide +kernel, rfl⟩ rfl ?_
  refine z_isub (pc' := 172) ⟨by decide +kernel, rfl⟩ ?_
  refine z_istore (i := 11) (pc' := 174) ⟨by decide +kernel, rfl⟩ (by decide) rfl ?_
  show Wz E Y_M_plus 174 [(11, .int (v2 - (61 - v3))), (9, .long (v1 <<< (Int32.toInt64 (61 - v3) &&& 63))), (12, .int (61 - v3)), (7, .long sm), (5, .long bg), (4, .int w), (0, .long x), (2, .long y)] [] σ K
  refine z_lload (i := 7) (q := 3) (pc' := 176) ⟨by decide +kernel, rfl⟩ rfl ?_
  refine z_invS (Z := Y_M_mantissa) (idx := 381) (As := [.long sm]) (rest := []) (nA := 1) (pc' := 179) ⟨k_11_149, k_1_12, k_11_151, by decide, by decide, by decide +kernel⟩ k_11_150 ⟨⟨by decide, by decide⟩, rfl, rfl⟩ ⟨by decide +kernel, rfl⟩ rfl rfl (Nat.le_of_ble_eq_true rfl) rfl rfl ?_
  refine cz_M_mantissa (fun v4 hv4 => ?_)
  show Wz E Y_M_plus 179 [(11, .int (v2 - (61 - v3))), (9, .long (v1 <<< (Int32.toInt64 (61 - v3) &&& 63))), (12, .int (61 - v3)), (7, .long sm), (5, .long bg), (4, .int w), (0, .long x), (2, .long y)] [.long v4] σ K
  refine z_lstore (i := 13) (pc' := 181) ⟨by decide +kernel, rfl⟩ (by decide) rfl ?_
  show Wz E Y_M_plus 181 [(13, .long v4), (11, .int (v2 - (61 - v3))), (9, .long (v1 <<< (Int32.toInt64 (61 - v3) &&& 63))), (12, .int (61 - v3)), (7, .long sm), (5, .long bg), (4, .int w), (0, .long x), (2, .long y)] [] σ K
  refine z_iload (i := 11) (q := 1) (pc' := 183) ⟨by decide +kernel, rfl⟩ rfl ?_
  refine z_lload (i := 7) (q := 4) (pc' := 185) ⟨by decide +kernel, rfl⟩ rfl ?_
  refine z_invS (Z := Y_M_exponent) (idx := 387) (As := [.long sm]) (rest := [.int (v2 - (61 - v3))]) (nA := 1) (pc' := 188) ⟨k_11_154, k_1_12, k_11_156, by decide, by decide, by decide +kernel⟩ k_11_155 ⟨⟨by decide, by decide⟩, rfl, rfl⟩ ⟨by decide +kernel, rfl⟩ rfl rfl (Nat.le_of_ble_eq_true rfl) rfl rfl ?_
  refine cz_M_exponent (fun v5 hv5 => ?_)
  show Wz E Y_M_plus 188 [(13, .long v4), (11, .int (v2 - (61 - v3))), (9, .long (v1 <<< (Int32.toInt64 (61 - v3) &&& 63))), (12, .int (61 - v3)), (7, .long sm), (5, .long bg), (4, .int w), (0, .long x), (2, .long y)] [.int v5, .int (v2 - (61 - v3))] σ K
  refine z_isub (pc' := 189) ⟨by decide +kernel, rfl⟩ ?_
  refine z_istore (i := 15) (pc' := 191) ⟨by decide +kernel, rfl⟩ (by decide) rfl ?_
  show Wz E Y_M_plus 191 [(15, .int ((v2 - (61 - v3)) - v5)), (13, .long v4), (11, .int (v2 - (61 - v3))), (9, .long (v1 <<< (Int32.toInt64 (61 - v3) &&& 63))), (12, .int (61 - v3)), (7, .long sm), (5, .long bg), (4, .int w), (0, .long x), (2, .long y)] [] σ K
  refine z_iconst (i := 0) (v := 0) (pc' := 192) ⟨by decide +kernel, rfl⟩ (by decide) ?_
  refine z_istore (i := 16) (pc' := 194) ⟨by decide +kernel, rfl⟩ (by decide) rfl ?_
  show Wz E Y_M_plus 194 [(16, .int 0), (15, .int ((v2 - (61 - v3)) - v5)), (13, .long v4), (11, .int (v2 - (61 - v3))), (9, .long (v1 <<< (Int32.toInt64 (61 - v3) &&& 63))), (12, .int (61 - v3)), (7, .long sm), (5, .long bg), (4, .int w), (0, .long x), (2, .long y)] [] σ K
  have z0L : (0 : Int64).toInt = 0 := by decide
  have h := pm_h hxy hx hy hle h0 hv1 hv2 hv3
  exact run_M_plus_d h hv4 (pm_d h hv5) k
theorem run_M_plus_b {E : xV} {σ : zS} {K : zKt} {x y : Int64} (hx : mgF x.toInt < infF) (hy : mgF y.toInt < infF) (hz : ¬ (mgF x.toInt = 0 ∧ mgF y.toInt = 0)) (k : ∀ v : Int64, PlR x.toInt y.toInt v.toInt → K (some (.long v)) σ) : Wz E Y_M_plus 91 [(0, .long x), (2, .long y)] [] σ K := by
  refine z_lload_n (f := 0) (i := 0) (q := 0) (pc' := 92) ⟨by decide +kernel, rfl⟩ rfl rfl ?_
  refine z_ldc2 (i := 337) (v := 9223372036854775807) (pc' := 95) ⟨by decide +kernel, rfl⟩ k_11_26 ?_
  refine z_land (pc' := 96) ⟨by decide +kernel, rfl⟩ ?_
  refine z_lload_n (f := 2) (i := 2) (q := 1) (pc' := 97) ⟨by decide +kernel, rfl⟩ rfl rfl ?_
  refine z_ldc2 (i := 337) (v := 9223372036854775807) (pc' := 100) ⟨by decide +kernel, rfl⟩ k_11_26 ?_
  refine z_land (pc' := 101) ⟨by decide +kernel, rfl⟩ ?_
  refine z_lcmp (pc' := 102) ⟨by decide +kernel, rfl⟩ ?_
  refine z_if_lt (off := 7) (tgt := 109) (pc' := 105) ⟨by decide +kernel, by decide, rfl⟩ (fun h1 => ?_) (fun h1 => ?_)
  · refine z_iconst (i := 0) (v := 0) (pc' := 110) ⟨by decide +kernel, rfl⟩ (by decide) ?_
    refine z_istore (i := 4) (pc' := 112) ⟨by decide +kernel, rfl⟩ (by decide) rfl ?_
    show Wz E Y_M_plus 112 [(4, .int 0), (0, .long x), (2, .long y)] [] σ K
    refine z_iload (i := 4) (q := 0) (pc' := 114) ⟨by decide +kernel, rfl⟩ rfl ?_
    refine z_if_eq (off := 7) (tgt := 121) (pc' := 117) ⟨by decide +kernel, by decide, rfl⟩ (fun h2 => ?_) (fun h2 => ?_)
    · refine z_lload_n (f := 2) (i := 2) (q := 2) (pc' := 122) ⟨by decide +kernel, rfl⟩ rfl rfl ?_
      refine z_lstore (i := 5) (pc' := 124) ⟨by decide +kernel, rfl⟩ (by decide) rfl ?_
      show Wz E Y_M_plus 124 [(5, .long y), (4, .int 0), (0, .long x), (2, .long y)] [] σ K
      refine z_iload (i := 4) (q := 1) (pc' := 126) ⟨by decide +kernel, rfl⟩ rfl ?_
      refine z_if_eq (off := 7) (tgt := 133) (pc' := 129) ⟨by decide +kernel, by decide, rfl⟩ (fun h3 => ?_) (fun h3 => ?_)
      · refine z_lload_n (f := 0) (i := 0) (q := 2) (pc' := 134) ⟨by decide +kernel, rfl⟩ rfl rfl ?_
        refine z_lstore (i := 7) (pc' := 136) ⟨by decide +kernel, rfl⟩ (by decide) rfl ?_
        show Wz E Y_M_plus 136 [(7, .long x), (5, .long y), (4, .int 0), (0, .long x), (2, .long y)] [] σ K
        have z0L : (0 : Int64).toInt = 0 := by decide
        have z0 : (0 : Int32).toInt = 0 := by decide
        have gh1 := k_lt_t h1
        have gh2 := j_eq_t (y := 0) h2
        have gh3 := j_eq_t (y := 0) h3
        rw [u_abs_int, u_abs_int] at gh1
        exact run_M_plus_c (Or.inr ⟨rfl, rfl⟩) hx hy (by omega) (by omega) k
      · refine z_lload_n (f := 2) (i := 2) (q := 3) (pc' := 130) ⟨by decide +kernel, rfl⟩ rfl rfl ?_
        refine z_goto (off := 4) (tgt := 134) (pc' := 133) ⟨by decide +kernel, by decide, rfl⟩ ?_
        refine z_lstore (i := 7) (pc' := 136) ⟨by decide +kernel, rfl⟩ (by decide) rfl ?_
        show Wz E Y_M_plus 136 [(7, .long y), (5, .long y), (4, .int 0), (0, .long x), (2, .long y)] [] σ K
        have z0L : (0 : Int64).toInt = 0 := by decide
        have z0 : (0 : Int32).toInt = 0 := by decide
        have gh1 := k_lt_t h1
        have gh2 := j_eq_t (y := 0) h2
        have gh3 := j_eq_f (y := 0) h3
        exfalso
        omega
    · refine z_lload_n (f := 0) (i := 0) (q := 1) (pc' := 118) ⟨by decide +kernel, rfl⟩ rfl rfl ?_
      refine z_goto (off := 4) (tgt := 122) (pc' := 121) ⟨by decide +kernel, by decide, rfl⟩ ?_
      refine z_lstore (i := 5) (pc' := 124) ⟨by decide +kernel, rfl⟩ (by decide) rfl ?_
      show Wz E Y_M_plus 124 [(5, .long x), (4, .int 0), (0, .long x), (2, .long y)] [] σ K
      refine z_iload (i := 4) (q := 1) (pc' := 126) ⟨by decide +kernel, rfl⟩ rfl ?_
      refine z_if_eq (off := 7) (tgt := 133) (pc' := 129) ⟨by decide +kernel, by decide, rfl⟩ (fun h4 => ?_) (fun h4 => ?_)
      · refine z_lload_n (f := 0) (i := 0) (q := 2) (pc' := 134) ⟨by decide +kernel, rfl⟩ rfl rfl ?_
        refine z_lstore (i := 7) (pc' := 136) ⟨by decide +kernel, rfl⟩ (by decide) rfl ?_
        show Wz E Y_M_plus 136 [(7, .long x), (5, .long x), (4, .int 0), (0, .long x), (2, .long y)] [] σ K
        have z0L : (0 : Int64).toInt = 0 := by decide
        have z0 : (0 : Int32).toInt = 0 := by decide
        have gh1 := k_lt_t h1
        have gh2 := j_eq_f (y := 0) h2
        have gh4 := j_eq_t (y := 0) h4
        exfalso
        omega
      · refine z_lload_n (f := 2) (i := 2) (q := 3) (pc' := 130) ⟨by decide +kernel, rfl⟩ rfl rfl ?_
        refine z_goto (off := 4) (tgt := 134) (pc' := 133) ⟨by decide +kernel, by decide, rfl⟩ ?_
        refine z_lstore (i := 7) (pc' := 136) ⟨by decide +kernel, rfl⟩ (by decide) rfl ?_
        show Wz E Y_M_plus 136 [(7, .long y), (5, .long x), (4, .int 0), (0, .long x), (2, .long y)] [] σ K
        have z0L : (0 : Int64).toInt = 0 := by decide
        have z0 : (0 : Int32).toInt = 0 := by decide
        have gh1 := k_lt_t h1
        have gh2 := j_eq_f (y := 0) h2
        have gh4 := j_eq_f (y := 0) h4
        rw [u_abs_int, u_abs_int] at gh1
        exact run_M_plus_c (Or.inl ⟨rfl, rfl⟩) hx hy (by omega) (by omega) k
  · refine z_iconst (i := 1) (v := 1) (pc' := 106) ⟨by decide +kernel, rfl⟩ (by decide) ?_
    refine z_goto (off := 4) (tgt := 110) (pc' := 109) ⟨by decide +kernel, by decide, rfl⟩ ?_
    refine z_istore (i := 4) (pc' := 112) ⟨by decide +kernel, rfl⟩ (by decide) rfl ?_
    show Wz E Y_M_plus 112 [(4, .int 1), (0, .long x), (2, .long y)] [] σ K
    refine z_iload (i := 4) (q := 0) (pc' := 114) ⟨by decide +kernel, rfl⟩ rfl ?_
    refine z_if_eq (off := 7) (tgt := 121) (pc' := 117) ⟨by decide +kernel, by decide, rfl⟩ (fun h5 => ?_) (fun h5 => ?_)
    · refine z_lload_n (f := 2) (i := 2) (q := 2) (pc' := 122) ⟨by decide +kernel, rfl⟩ rfl rfl ?_
      refine z_lstore (i := 5) (pc' := 124) ⟨by decide +kernel, rfl⟩ (by decide) rfl ?_
      show Wz E Y_M_plus 124 [(5, .long y), (4, .int 1), (0, .long x), (2, .long y)] [] σ K
      refine z_iload (i := 4) (q := 1) (pc' := 126) ⟨by decide +kernel, rfl⟩ rfl ?_
      refine z_if_eq (off := 7) (tgt := 133) (pc' := 129) ⟨by decide +kernel, by decide, rfl⟩ (fun h6 => ?_) (fun h6 => ?_)
      · refine z_lload_n (f := 0) (i := 0) (q := 2) (pc' := 134) ⟨by decide +kernel, rfl⟩ rfl rfl ?_
        refine z_lstore (i := 7) (pc' := 136) ⟨by decide +kernel, rfl⟩ (by decide) rfl ?_
        show Wz E Y_M_plus 136 [(7, .long x), (5, .long y), (4, .int 1), (0, .long x), (2, .long y)] [] σ K
        have z0L : (0 : Int64).toInt = 0 := by decide
        have z0 : (0 : Int32).toInt = 0 := by decide
        have z1 : (1 : Int32).toInt = 1 := by decide
        have gh1 := k_lt_f h1
        have gh5 := j_eq_t (y := 0) h5
        have gh6 := j_eq_t (y := 0) h6
        rw [u_abs_int, u_abs_int] at gh1
        exact run_M_plus_c (Or.inr ⟨rfl, rfl⟩) hx hy (by omega) (by omega) k
      · refine z_lload_n (f := 2) (i := 2) (q := 3) (pc' := 130) ⟨by decide +kernel, rfl⟩ rfl rfl ?_
        refine z_goto (off := 4) (tgt := 134) (pc' := 133) ⟨by decide +kernel, by decide, rfl⟩ ?_
        refine z_lstore (i := 7) (pc' := 136) ⟨by decide +kernel, rfl⟩ (by decide) rfl ?_
        show Wz E Y_M_plus 136 [(7, .long y), (5, .long y), (4, .int 1), (0, .long x), (2, .long y)] [] σ K
        have z0L : (0 : Int64).toInt = 0 := by decide
        have z0 : (0 : Int32).toInt = 0 := by decide
        have z1 : (1 : Int32).toInt = 1 := by decide
        have gh1 := k_lt_f h1
        have gh5 := j_eq_t (y := 0) h5
        have gh6 := j_eq_f (y := 0) h6
        exfalso
        omega
    · refine z_lload_n (f := 0) (i := 0) (q := 1) (pc' := 118) ⟨by decide +kernel, rfl⟩ rfl rfl ?_
      refine z_goto (off := 4) (tgt := 122) (pc' := 121) ⟨by decide +kernel, by decide, rfl⟩ ?_
      refine z_lstore (i := 5) (pc' := 124) ⟨by decide +kernel, rfl⟩ (by decide) rfl ?_
      show Wz E Y_M_plus 124 [(5, .long x), (4, .int 1), (0, .long x), (2, .long y)] [] σ K
      refine z_iload (i := 4) (q := 1) (pc' := 126) ⟨by decide +kernel, rfl⟩ rfl ?_
      refine z_if_eq (off := 7) (tgt := 133) (pc' := 129) ⟨by decide +kernel, by decide, rfl⟩ (fun h7 => ?_) (fun h7 => ?_)
      · refine z_lload_n (f := 0) (i := 0) (q := 2) (pc' := 134) ⟨by decide +kernel, rfl⟩ rfl rfl ?_
        refine z_lstore (i := 7) (pc' := 136) ⟨by decide +kernel, rfl⟩ (by decide) rfl ?_
        show Wz E Y_M_plus 136 [(7, .long x), (5, .long x), (4, .int 1), (0, .long x), (2, .long y)] [] σ K
        have z0L : (0 : Int64).toInt = 0 := by decide
        have z0 : (0 : Int32).toInt = 0 := by decide
        have z1 : (1 : Int32).toInt = 1 := by decide
        have gh1 := k_lt_f h1
        have gh5 := j_eq_f (y := 0) h5
        have gh7 := j_eq_t (y := 0) h7
        exfalso
        omega
      · refine z_lload_n (f := 2) (i := 2) (q := 3) (pc' := 130) ⟨by decide +kernel, rfl⟩ rfl rfl ?_
        refine z_goto (off := 4) (tgt := 134) (pc' := 133) ⟨by decide +kernel, by decide, rfl⟩ ?_
        refine z_lstore (i := 7) (pc' := 136) ⟨by decide +kernel, rfl⟩ (by decide) rfl ?_
        show Wz E Y_M_plus 136 [(7, .long y), (5, .long x), (4, .int 1), (0, .long x), (2, .long y)] [] σ K
        have z0L : (0 : Int64).toInt = 0 := by decide
        have z0 : (0 : Int32).toInt = 0 := by decide
        have z1 : (1 : Int32).toInt = 1 := by decide
        have gh1 := k_lt_f h1
        have gh5 := j_eq_f (y := 0) h5
        have gh7 := j_eq_f (y := 0) h7
        rw [u_abs_int, u_abs_int] at gh1
        exact run_M_plus_c (Or.inl ⟨rfl, rfl⟩) hx hy (by omega) (by omega) k
theorem run_M_plus {E : xV} {σ : zS} {K : zKt} {x y : Int64} (k : ∀ v : Int64, PlR x.toInt y.toInt v.toInt → K (some (.long v)) σ) : Wz E Y_M_plus 0 [(0, .long x), (2, .long y)] [] σ K := by
  refine z_lload_n (f := 0) (i := 0) (q := 0) (pc' := 1) ⟨by decide +kernel, rfl⟩ rfl rfl ?_
  refine z_invS (Z := Y_M_isNan) (idx := 367) (As := [.long x]) (rest := []) (nA := 1) (pc' := 4) ⟨k_11_23, k_1_12, k_11_25, by decide, by decide, by decide +kernel⟩ k_11_24 ⟨⟨by decide, by decide⟩, rfl, rfl⟩ ⟨by decide +kernel, rfl⟩ rfl rfl (Nat.le_of_ble_eq_true rfl) rfl rfl ?_
  refine cz_M_isNan (fun v1 hv1 => ?_)
  show Wz E Y_M_plus 4 [(0, .long x), (2, .long y)] [.int v1] σ K
  refine z_if_ne (off := 30) (tgt := 34) (pc' := 7) ⟨by decide +kernel, by decide, rfl⟩ (fun h2 => ?_) (fun h2 => ?_)
  · refine z_ldc2 (i := 377) (v := 9221120237041090560) (pc' := 37) ⟨by decide +kernel, rfl⟩ k_11_28 ?_
    refine z_lret rfl (by decide +kernel) ?_
    have z0L : (0 : Int64).toInt = 0 := by decide
    have gh2 := p3_t hv1 h2
    exact k _ (pl_nan (by omega))
  · refine z_lload_n (f := 2) (i := 2) (q := 1) (pc' := 8) ⟨by decide +kernel, rfl⟩ rfl rfl ?_
    refine z_invS (Z := Y_M_isNan) (idx := 367) (As := [.long y]) (rest := []) (nA := 1) (pc' := 11) ⟨k_11_23, k_1_12, k_11_25, by decide, by decide, by decide +kernel⟩ k_11_24 ⟨⟨by decide, by decide⟩, rfl, rfl⟩ ⟨by decide +kernel, rfl⟩ rfl rfl (Nat.le_of_ble_eq_true rfl) rfl rfl ?_
    refine cz_M_isNan (fun v3 hv3 => ?_)
    show Wz E Y_M_plus 11 [(0, .long x), (2, .long y)] [.int v3] σ K
    refine z_if_ne (off := 23) (tgt := 34) (pc' := 14) ⟨by decide +kernel, by decide, rfl⟩ (fun h4 => ?_) (fun h4 => ?_)
    · refine z_ldc2 (i := 377) (v := 9221120237041090560) (pc' := 37) ⟨by decide +kernel, rfl⟩ k_11_28 ?_
      refine z_lret rfl (by decide +kernel) ?_
      have z0L : (0 : Int64).toInt = 0 := by decide
      have gh2 := p3_f hv1 h2
      have gh4 := p3_t hv3 h4
      exact k _ (pl_nan (by omega))
    · refine z_lload_n (f := 0) (i := 0) (q := 0) (pc' := 15) ⟨by decide +kernel, rfl⟩ rfl rfl ?_
      refine z_invS (Z := Y_M_isInfinite) (idx := 371) (As := [.long x]) (rest := []) (nA := 1) (pc' := 18) ⟨k_11_143, k_1_12, k_11_145, by decide, by decide, by decide +kernel⟩ k_11_144 ⟨⟨by decide, by decide⟩, rfl, rfl⟩ ⟨by decide +kernel, rfl⟩ rfl rfl (Nat.le_of_ble_eq_true rfl) rfl rfl ?_
      refine cz_M_isInfinite (fun v5 hv5 => ?_)
      show Wz E Y_M_plus 18 [(0, .long x), (2, .long y)] [.int v5] σ K
      refine z_if_eq (off := 20) (tgt := 38) (pc' := 21) ⟨by decide +kernel, by decide, rfl⟩ (fun h6 => ?_) (fun h6 => ?_)
      · refine z_lload_n (f := 0) (i := 0) (q := 0) (pc' := 39) ⟨by decide +kernel, rfl⟩ rfl rfl ?_
        refine z_invS (Z := Y_M_isInfinite) (idx := 371) (As := [.long x]) (rest := []) (nA := 1) (pc' := 42) ⟨k_11_143, k_1_12, k_11_145, by decide, by decide, by decide +kernel⟩ k_11_144 ⟨⟨by decide, by decide⟩, rfl, rfl⟩ ⟨by decide +kernel, rfl⟩ rfl rfl (Nat.le_of_ble_eq_true rfl) rfl rfl ?_
        refine cz_M_isInfinite (fun v7 hv7 => ?_)
        show Wz E Y_M_plus 42 [(0, .long x), (2, .long y)] [.int v7] σ K
        refine z_if_ne (off := 10) (tgt := 52) (pc' := 45) ⟨by decide +kernel, by decide, rfl⟩ (fun h8 => ?_) (fun h8 => ?_)
        · refine z_lload_n (f := 0) (i := 0) (q := 0) (pc' := 53) ⟨by decide +kernel, rfl⟩ rfl rfl ?_
          refine z_invS (Z := Y_M_isInfinite) (idx := 371) (As := [.long x]) (rest := []) (nA := 1) (pc' := 56) ⟨k_11_143, k_1_12, k_11_145, by decide, by decide, by decide +kernel⟩ k_11_144 ⟨⟨by decide, by decide⟩, rfl, rfl⟩ ⟨by decide +kernel, rfl⟩ rfl rfl (Nat.le_of_ble_eq_true rfl) rfl rfl ?_
          refine cz_M_isInfinite (fun v9 hv9 => ?_)
          show Wz E Y_M_plus 56 [(0, .long x), (2, .long y)] [.int v9] σ K
          refine z_if_eq (off := 7) (tgt := 63) (pc' := 59) ⟨by decide +kernel, by decide, rfl⟩ (fun h10 => ?_) (fun h10 => ?_)
          · refine z_lload_n (f := 2) (i := 2) (q := 1) (pc' := 64) ⟨by decide +kernel, rfl⟩ rfl rfl ?_
            refine z_lret rfl (by decide +kernel) ?_
            have z0L : (0 : Int64).toInt = 0 := by decide
            have gh2 := p3_f hv1 h2
            have gh4 := p3_f hv3 h4
            have gh6 := p3_f hv5 h6
            have gh8 := p3_t hv7 h8
            have gh10 := p3_f hv9 h10
            exact k _ (pl_y (by omega) (by omega) (by omega))
          · refine z_lload_n (f := 0) (i := 0) (q := 0) (pc' := 60) ⟨by decide +kernel, rfl⟩ rfl rfl ?_
            refine z_goto (off := 4) (tgt := 64) (pc' := 63) ⟨by decide +kernel, by decide, rfl⟩ ?_
            refine z_lret rfl (by decide +kernel) ?_
            have z0L : (0 : Int64).toInt = 0 := by decide
            have gh2 := p3_f hv1 h2
            have gh4 := p3_f hv3 h4
            have gh6 := p3_f hv5 h6
            have gh8 := p3_t hv7 h8
            have gh10 := p3_t hv9 h10
            exact k _ (pl_x (by omega) (by omega))
        · refine z_lload_n (f := 2) (i := 2) (q := 1) (pc' := 46) ⟨by decide +kernel, rfl⟩ rfl rfl ?_
          refine z_invS (Z := Y_M_isInfinite) (idx := 371) (As := [.long y]) (rest := []) (nA := 1) (pc' := 49) ⟨k_11_143, k_1_12, k_11_145, by decide, by decide, by decide +kernel⟩ k_11_144 ⟨⟨by decide, by decide⟩, rfl, rfl⟩ ⟨by decide +kernel, rfl⟩ rfl rfl (Nat.le_of_ble_eq_true rfl) rfl rfl ?_
          refine cz_M_isInfinite (fun v11 hv11 => ?_)
          show Wz E Y_M_plus 49 [(0, .long x), (2, .long y)] [.int v11] σ K
          refine z_if_eq (off := 16) (tgt := 65) (pc' := 52) ⟨by decide +kernel, by decide, rfl⟩ (fun h12 => ?_) (fun h12 => ?_)
          · refine z_lload_n (f := 0) (i := 0) (q := 0) (pc' := 66) ⟨by decide +kernel, rfl⟩ rfl rfl ?_
            refine z_invS (Z := Y_M_isZero) (idx := 374) (As := [.long x]) (rest := []) (nA := 1) (pc' := 69) ⟨k_11_146, k_1_12, k_11_148, by decide, by decide, by decide +kernel⟩ k_11_147 ⟨⟨by decide, by decide⟩, rfl, rfl⟩ ⟨by decide +kernel, rfl⟩ rfl rfl (Nat.le_of_ble_eq_true rfl) rfl rfl ?_
            refine cz_M_isZero (fun v13 hv13 => ?_)
            show Wz E Y_M_plus 69 [(0, .long x), (2, .long y)] [.int v13] σ K
            refine z_if_eq (off := 22) (tgt := 91) (pc' := 72) ⟨by decide +kernel, by decide, rfl⟩ (fun h14 => ?_) (fun h14 => ?_)
            · have z0L : (0 : Int64).toInt = 0 := by decide
              have gh2 := p3_f hv1 h2
              have gh4 := p3_f hv3 h4
              have gh6 := p3_f hv5 h6
              have gh8 := p3_f hv7 h8
              have gh12 := p3_f hv11 h12
              have gh14 := p3_f hv13 h14
              exact run_M_plus_b (by omega) (by omega) (by omega) k
            · refine z_lload_n (f := 2) (i := 2) (q := 1) (pc' := 73) ⟨by decide +kernel, rfl⟩ rfl rfl ?_
              refine z_invS (Z := Y_M_isZero) (idx := 374) (As := [.long y]) (rest := []) (nA := 1) (pc' := 76) ⟨k_11_146, k_1_12, k_11_148, by decide, by decide, by decide +kernel⟩ k_11_147 ⟨⟨by decide, by decide⟩, rfl, rfl⟩ ⟨by decide +kernel, rfl⟩ rfl rfl (Nat.le_of_ble_eq_true rfl) rfl rfl ?_
              refine cz_M_isZero (fun v15 hv15 => ?_)
              show Wz E Y_M_plus 76 [(0, .long x), (2, .long y)] [.int v15] σ K
              refine z_if_eq (off := 15) (tgt := 91) (pc' := 79) ⟨by decide +kernel, by decide, rfl⟩ (fun h16 => ?_) (fun h16 => ?_)
              · have z0L : (0 : Int64).toInt = 0 := by decide
                have gh2 := p3_f hv1 h2
                have gh4 := p3_f hv3 h4
                have gh6 := p3_f hv5 h6
                have gh8 := p3_f hv7 h8
                have gh12 := p3_f hv11 h12
                have gh14 := p3_t hv13 h14
                have gh16 := p3_f hv15 h16
                exact run_M_plus_b (by omega) (by omega) (by omega) k
              · refine z_lload_n (f := 0) (i := 0) (q := 0) (pc' := 80) ⟨by decide +kernel, rfl⟩ rfl rfl ?_
                refine z_lload_n (f := 2) (i := 2) (q := 1) (pc' := 81) ⟨by decide +kernel, rfl⟩ rfl rfl ?_
                refine z_lcmp (pc' := 82) ⟨by decide +kernel, rfl⟩ ?_
                refine z_if_ne (off := 7) (tgt := 89) (pc' := 85) ⟨by decide +kernel, by decide, rfl⟩ (fun h17 => ?_) (fun h17 => ?_)
                · refine z_lconst (i := 0) (v := 0) (pc' := 90) ⟨by decide +kernel, rfl⟩ (by decide) ?_
                  refine z_lret rfl (by decide +kernel) ?_
                  have z0L : (0 : Int64).toInt = 0 := by decide
                  have gh2 := p3_f hv1 h2
                  have gh4 := p3_f hv3 h4
                  have gh6 := p3_f hv5 h6
                  have gh8 := p3_f hv7 h8
                  have gh12 := p3_f hv11 h12
                  have gh14 := p3_t hv13 h14
                  have gh16 := p3_t hv15 h16
                  have gh17 := k_ne_t h17
                  exact k _ (pl_zero (by omega) (by omega) (mg_u x).2.2 (mg_u y).2.2 (by rw [if_neg (by omega), z0L]))
                · refine z_lload_n (f := 0) (i := 0) (q := 0) (pc' := 86) ⟨by decide +kernel, rfl⟩ rfl rfl ?_
                  refine z_goto (off := 4) (tgt := 90) (pc' := 89) ⟨by decide +kernel, by decide, rfl⟩ ?_
                  refine z_lret rfl (by decide +kernel) ?_
                  have z0L : (0 : Int64).toInt = 0 := by decide
                  have gh2 := p3_f hv1 h2
                  have gh4 := p3_f hv3 h4
                  have gh6 := p3_f hv5 h6
                  have gh8 := p3_f hv7 h8
                  have gh12 := p3_f hv11 h12
                  have gh14 := p3_t hv13 h14
                  have gh16 := p3_t hv15 h16
                  have gh17 := k_ne_f h17
                  exact k _ (pl_zero (by omega) (by omega) (mg_u x).2.2 (mg_u y).2.2 (by rw [if_pos (by omega)]))
          · refine z_lload_n (f := 0) (i := 0) (q := 0) (pc' := 53) ⟨by decide +kernel, rfl⟩ rfl rfl ?_
            refine z_invS (Z := Y_M_isInfinite) (idx := 371) (As := [.long x]) (rest := []) (nA := 1) (pc' := 56) ⟨k_11_143, k_1_12, k_11_145, by decide, by decide, by decide +kernel⟩ k_11_144 ⟨⟨by decide, by decide⟩, rfl, rfl⟩ ⟨by decide +kernel, rfl⟩ rfl rfl (Nat.le_of_ble_eq_true rfl) rfl rfl ?_
            refine cz_M_isInfinite (fun v18 hv18 => ?_)
            show Wz E Y_M_plus 56 [(0, .long x), (2, .long y)] [.int v18] σ K
            refine z_if_eq (off := 7) (tgt := 63) (pc' := 59) ⟨by decide +kernel, by decide, rfl⟩ (fun h19 => ?_) (fun h19 => ?_)
            · refine z_lload_n (f := 2) (i := 2) (q := 1) (pc' := 64) ⟨by decide +kernel, rfl⟩ rfl rfl ?_
              refine z_lret rfl (by decide +kernel) ?_
              have z0L : (0 : Int64).toInt = 0 := by decide
              have gh2 := p3_f hv1 h2
              have gh4 := p3_f hv3 h4
              have gh6 := p3_f hv5 h6
              have gh8 := p3_f hv7 h8
              have gh12 := p3_t hv11 h12
              have gh19 := p3_f hv18 h19
              exact k _ (pl_y (by omega) (by omega) (by omega))
            · refine z_lload_n (f := 0) (i := 0) (q := 0) (pc' := 60) ⟨by decide +kernel, rfl⟩ rfl rfl ?_
              refine z_goto (off := 4) (tgt := 64) (pc' := 63) ⟨by decide +kernel, by decide, rfl⟩ ?_
              refine z_lret rfl (by decide +kernel) ?_
              have z0L : (0 : Int64).toInt = 0 := by decide
              have gh2 := p3_f hv1 h2
              have gh4 := p3_f hv3 h4
              have gh6 := p3_f hv5 h6
              have gh8 := p3_f hv7 h8
              have gh12 := p3_t hv11 h12
              have gh19 := p3_t hv18 h19
              exact k _ (pl_x (by omega) (by omega))
      · refine z_lload_n (f := 2) (i := 2) (q := 1) (pc' := 22) ⟨by decide +kernel, rfl⟩ rfl rfl ?_
        refine z_invS (Z := Y_M_isInfinite) (idx := 371) (As := [.long y]) (rest := []) (nA := 1) (pc' := 25) ⟨k_11_143, k_1_12, k_11_145, by decide, by decide, by decide +kernel⟩ k_11_144 ⟨⟨by decide, by decide⟩, rfl, rfl⟩ ⟨by decide +kernel, rfl⟩ rfl rfl (Nat.le_of_ble_eq_true rfl) rfl rfl ?_
        refine cz_M_isInfinite (fun v20 hv20 => ?_)
        show Wz E Y_M_plus 25 [(0, .long x), (2, .long y)] [.int v20] σ K
        refine z_if_eq (off := 13) (tgt := 38) (pc' := 28) ⟨by decide +kernel, by decide, rfl⟩ (fun h21 => ?_) (fun h21 => ?_)
        · refine z_lload_n (f := 0) (i := 0) (q := 0) (pc' := 39) ⟨by decide +kernel, rfl⟩ rfl rfl ?_
          refine z_invS (Z := Y_M_isInfinite) (idx := 371) (As := [.long x]) (rest := []) (nA := 1) (pc' := 42) ⟨k_11_143, k_1_12, k_11_145, by decide, by decide, by decide +kernel⟩ k_11_144 ⟨⟨by decide, by decide⟩, rfl, rfl⟩ ⟨by decide +kernel, rfl⟩ rfl rfl (Nat.le_of_ble_eq_true rfl) rfl rfl ?_
          refine cz_M_isInfinite (fun v22 hv22 => ?_)
          show Wz E Y_M_plus 42 [(0, .long x), (2, .long y)] [.int v22] σ K
          refine z_if_ne (off := 10) (tgt := 52) (pc' := 45) ⟨by decide +kernel, by decide, rfl⟩ (fun h23 => ?_) (fun h23 => ?_)
          · refine z_lload_n (f := 0) (i := 0) (q := 0) (pc' := 53) ⟨by decide +kernel, rfl⟩ rfl rfl ?_
            refine z_invS (Z := Y_M_isInfinite) (idx := 371) (As := [.long x]) (rest := []) (nA := 1) (pc' := 56) ⟨k_11_143, k_1_12, k_11_145, by decide, by decide, by decide +kernel⟩ k_11_144 ⟨⟨by decide, by decide⟩, rfl, rfl⟩ ⟨by decide +kernel, rfl⟩ rfl rfl (Nat.le_of_ble_eq_true rfl) rfl rfl ?_
            refine cz_M_isInfinite (fun v24 hv24 => ?_)
            show Wz E Y_M_plus 56 [(0, .long x), (2, .long y)] [.int v24] σ K
            refine z_if_eq (off := 7) (tgt := 63) (pc' := 59) ⟨by decide +kernel, by decide, rfl⟩ (fun h25 => ?_) (fun h25 => ?_)
            · refine z_lload_n (f := 2) (i := 2) (q := 1) (pc' := 64) ⟨by decide +kernel, rfl⟩ rfl rfl ?_
              refine z_lret rfl (by decide +kernel) ?_
              have z0L : (0 : Int64).toInt = 0 := by decide
              have gh2 := p3_f hv1 h2
              have gh4 := p3_f hv3 h4
              have gh6 := p3_t hv5 h6
              have gh21 := p3_f hv20 h21
              have gh23 := p3_t hv22 h23
              have gh25 := p3_f hv24 h25
              exact k _ (pl_y (by omega) (by omega) (by omega))
            · refine z_lload_n (f := 0) (i := 0) (q := 0) (pc' := 60) ⟨by decide +kernel, rfl⟩ rfl rfl ?_
              refine z_goto (off := 4) (tgt := 64) (pc' := 63) ⟨by decide +kernel, by decide, rfl⟩ ?_
              refine z_lret rfl (by decide +kernel) ?_
              have z0L : (0 : Int64).toInt = 0 := by decide
              have gh2 := p3_f hv1 h2
              have gh4 := p3_f hv3 h4
              have gh6 := p3_t hv5 h6
              have gh21 := p3_f hv20 h21
              have gh23 := p3_t hv22 h23
              have gh25 := p3_t hv24 h25
              exact k _ (pl_x (by omega) (by omega))
          · refine z_lload_n (f := 2) (i := 2) (q := 1) (pc' := 46) ⟨by decide +kernel, rfl⟩ rfl rfl ?_
            refine z_invS (Z := Y_M_isInfinite) (idx := 371) (As := [.long y]) (rest := []) (nA := 1) (pc' := 49) ⟨k_11_143, k_1_12, k_11_145, by decide, by decide, by decide +kernel⟩ k_11_144 ⟨⟨by decide, by decide⟩, rfl, rfl⟩ ⟨by decide +kernel, rfl⟩ rfl rfl (Nat.le_of_ble_eq_true rfl) rfl rfl ?_
            refine cz_M_isInfinite (fun v26 hv26 => ?_)
            show Wz E Y_M_plus 49 [(0, .long x), (2, .long y)] [.int v26] σ K
            refine z_if_eq (off := 16) (tgt := 65) (pc' := 52) ⟨by decide +kernel, by decide, rfl⟩ (fun h27 => ?_) (fun h27 => ?_)
            · refine z_lload_n (f := 0) (i := 0) (q := 0) (pc' := 66) ⟨by decide +kernel, rfl⟩ rfl rfl ?_
              refine z_invS (Z := Y_M_isZero) (idx := 374) (As := [.long x]) (rest := []) (nA := 1) (pc' := 69) ⟨k_11_146, k_1_12, k_11_148, by decide, by decide, by decide +kernel⟩ k_11_147 ⟨⟨by decide, by decide⟩, rfl, rfl⟩ ⟨by decide +kernel, rfl⟩ rfl rfl (Nat.le_of_ble_eq_true rfl) rfl rfl ?_
              refine cz_M_isZero (fun v28 hv28 => ?_)
              show Wz E Y_M_plus 69 [(0, .long x), (2, .long y)] [.int v28] σ K
              refine z_if_eq (off := 22) (tgt := 91) (pc' := 72) ⟨by decide +kernel, by decide, rfl⟩ (fun h29 => ?_) (fun h29 => ?_)
              · have z0L : (0 : Int64).toInt = 0 := by decide
                have gh2 := p3_f hv1 h2
                have gh4 := p3_f hv3 h4
                have gh6 := p3_t hv5 h6
                have gh21 := p3_f hv20 h21
                have gh23 := p3_f hv22 h23
                have gh27 := p3_f hv26 h27
                have gh29 := p3_f hv28 h29
                exact run_M_plus_b (by omega) (by omega) (by omega) k
              · refine z_lload_n (f := 2) (i := 2) (q := 1) (pc' := 73) ⟨by decide +kernel, rfl⟩ rfl rfl ?_
                refine z_invS (Z := Y_M_isZero) (idx := 374) (As := [.long y]) (rest := []) (nA := 1) (pc' := 76) ⟨k_11_146, k_1_12, k_11_148, by decide, by decide, by decide +kernel⟩ k_11_147 ⟨⟨by decide, by decide⟩, rfl, rfl⟩ ⟨by decide +kernel, rfl⟩ rfl rfl (Nat.le_of_ble_eq_true rfl) rfl rfl ?_
                refine cz_M_isZero (fun v30 hv30 => ?_)
                show Wz E Y_M_plus 76 [(0, .long x), (2, .long y)] [.int v30] σ K
                refine z_if_eq (off := 15) (tgt := 91) (pc' := 79) ⟨by decide +kernel, by decide, rfl⟩ (fun h31 => ?_) (fun h31 => ?_)
                · have z0L : (0 : Int64).toInt = 0 := by decide
                  have gh2 := p3_f hv1 h2
                  have gh4 := p3_f hv3 h4
                  have gh6 := p3_t hv5 h6
                  have gh21 := p3_f hv20 h21
                  have gh23 := p3_f hv22 h23
                  have gh27 := p3_f hv26 h27
                  have gh29 := p3_t hv28 h29
                  have gh31 := p3_f hv30 h31
                  exact run_M_plus_b (by omega) (by omega) (by omega) k
                · refine z_lload_n (f := 0) (i := 0) (q := 0) (pc' := 80) ⟨by decide +kernel, rfl⟩ rfl rfl ?_
                  refine z_lload_n (f := 2) (i := 2) (q := 1) (pc' := 81) ⟨by decide +kernel, rfl⟩ rfl rfl ?_
                  refine z_lcmp (pc' := 82) ⟨by decide +kernel, rfl⟩ ?_
                  refine z_if_ne (off := 7) (tgt := 89) (pc' := 85) ⟨by decide +kernel, by decide, rfl⟩ (fun h32 => ?_) (fun h32 => ?_)
                  · refine z_lconst (i := 0) (v := 0) (pc' := 90) ⟨by decide +kernel, rfl⟩ (by decide) ?_
                    refine z_lret rfl (by decide +kernel) ?_
                    have z0L : (0 : Int64).toInt = 0 := by decide
                    have gh2 := p3_f hv1 h2
                    have gh4 := p3_f hv3 h4
                    have gh6 := p3_t hv5 h6
                    have gh21 := p3_f hv20 h21
                    have gh23 := p3_f hv22 h23
                    have gh27 := p3_f hv26 h27
                    have gh29 := p3_t hv28 h29
                    have gh31 := p3_t hv30 h31
                    have gh32 := k_ne_t h32
                    exact k _ (pl_zero (by omega) (by omega) (mg_u x).2.2 (mg_u y).2.2 (by rw [if_neg (by omega), z0L]))
                  · refine z_lload_n (f := 0) (i := 0) (q := 0) (pc' := 86) ⟨by decide +kernel, rfl⟩ rfl rfl ?_
                    refine z_goto (off := 4) (tgt := 90) (pc' := 89) ⟨by decide +kernel, by decide, rfl⟩ ?_
                    refine z_lret rfl (by decide +kernel) ?_
                    have z0L : (0 : Int64).toInt = 0 := by decide
                    have gh2 := p3_f hv1 h2
                    have gh4 := p3_f hv3 h4
                    have gh6 := p3_t hv5 h6
                    have gh21 := p3_f hv20 h21
                    have gh23 := p3_f hv22 h23
                    have gh27 := p3_f hv26 h27
                    have gh29 := p3_t hv28 h29
                    have gh31 := p3_t hv30 h31
                    have gh32 := k_ne_f h32
                    exact k _ (pl_zero (by omega) (by omega) (mg_u x).2.2 (mg_u y).2.2 (by rw [if_pos (by omega)]))
            · refine z_lload_n (f := 0) (i := 0) (q := 0) (pc' := 53) ⟨by decide +kernel, rfl⟩ rfl rfl ?_
              refine z_invS (Z := Y_M_isInfinite) (idx := 371) (As := [.long x]) (rest := []) (nA := 1) (pc' := 56) ⟨k_11_143, k_1_12, k_11_145, by decide, by decide, by decide +kernel⟩ k_11_144 ⟨⟨by decide, by decide⟩, rfl, rfl⟩ ⟨by decide +kernel, rfl⟩ rfl rfl (Nat.le_of_ble_eq_true rfl) rfl rfl ?_
              refine cz_M_isInfinite (fun v33 hv33 => ?_)
              show Wz E Y_M_plus 56 [(0, .long x), (2, .long y)] [.int v33] σ K
              refine z_if_eq (off := 7) (tgt := 63) (pc' := 59) ⟨by decide +kernel, by decide, rfl⟩ (fun h34 => ?_) (fun h34 => ?_)
              · refine z_lload_n (f := 2) (i := 2) (q := 1) (pc' := 64) ⟨by decide +kernel, rfl⟩ rfl rfl ?_
                refine z_lret rfl (by decide +kernel) ?_
                have z0L : (0 : Int64).toInt = 0 := by decide
                have gh2 := p3_f hv1 h2
                have gh4 := p3_f hv3 h4
                have gh6 := p3_t hv5 h6
                have gh21 := p3_f hv20 h21
                have gh23 := p3_f hv22 h23
                have gh27 := p3_t hv26 h27
                have gh34 := p3_f hv33 h34
                exact k _ (pl_y (by omega) (by omega) (by omega))
              · refine z_lload_n (f := 0) (i := 0) (q := 0) (pc' := 60) ⟨by decide +kernel, rfl⟩ rfl rfl ?_
                refine z_goto (off := 4) (tgt := 64) (pc' := 63) ⟨by decide +kernel, by decide, rfl⟩ ?_
                refine z_lret rfl (by decide +kernel) ?_
                have z0L : (0 : Int64).toInt = 0 := by decide
                have gh2 := p3_f hv1 h2
                have gh4 := p3_f hv3 h4
                have gh6 := p3_t hv5 h6
                have gh21 := p3_f hv20 h21
                have gh23 := p3_f hv22 h23
                have gh27 := p3_t hv26 h27
                have gh34 := p3_t hv33 h34
                exact k _ (pl_x (by omega) (by omega))
        · refine z_lload_n (f := 0) (i := 0) (q := 0) (pc' := 29) ⟨by decide +kernel, rfl⟩ rfl rfl ?_
          refine z_lload_n (f := 2) (i := 2) (q := 1) (pc' := 30) ⟨by decide +kernel, rfl⟩ rfl rfl ?_
          refine z_lcmp (pc' := 31) ⟨by decide +kernel, rfl⟩ ?_
          refine z_if_eq (off := 7) (tgt := 38) (pc' := 34) ⟨by decide +kernel, by decide, rfl⟩ (fun h35 => ?_) (fun h35 => ?_)
          · refine z_lload_n (f := 0) (i := 0) (q := 0) (pc' := 39) ⟨by decide +kernel, rfl⟩ rfl rfl ?_
            refine z_invS (Z := Y_M_isInfinite) (idx := 371) (As := [.long x]) (rest := []) (nA := 1) (pc' := 42) ⟨k_11_143, k_1_12, k_11_145, by decide, by decide, by decide +kernel⟩ k_11_144 ⟨⟨by decide, by decide⟩, rfl, rfl⟩ ⟨by decide +kernel, rfl⟩ rfl rfl (Nat.le_of_ble_eq_true rfl) rfl rfl ?_
            refine cz_M_isInfinite (fun v36 hv36 => ?_)
            show Wz E Y_M_plus 42 [(0, .long x), (2, .long y)] [.int v36] σ K
            refine z_if_ne (off := 10) (tgt := 52) (pc' := 45) ⟨by decide +kernel, by decide, rfl⟩ (fun h37 => ?_) (fun h37 => ?_)
            · refine z_lload_n (f := 0) (i := 0) (q := 0) (pc' := 53) ⟨by decide +kernel, rfl⟩ rfl rfl ?_
              refine z_invS (Z := Y_M_isInfinite) (idx := 371) (As := [.long x]) (rest := []) (nA := 1) (pc' := 56) ⟨k_11_143, k_1_12, k_11_145, by decide, by decide, by decide +kernel⟩ k_11_144 ⟨⟨by decide, by decide⟩, rfl, rfl⟩ ⟨by decide +kernel, rfl⟩ rfl rfl (Nat.le_of_ble_eq_true rfl) rfl rfl ?_
              refine cz_M_isInfinite (fun v38 hv38 => ?_)
              show Wz E Y_M_plus 56 [(0, .long x), (2, .long y)] [.int v38] σ K
              refine z_if_eq (off := 7) (tgt := 63) (pc' := 59) ⟨by decide +kernel, by decide, rfl⟩ (fun h39 => ?_) (fun h39 => ?_)
              · refine z_lload_n (f := 2) (i := 2) (q := 1) (pc' := 64) ⟨by decide +kernel, rfl⟩ rfl rfl ?_
                refine z_lret rfl (by decide +kernel) ?_
                have z0L : (0 : Int64).toInt = 0 := by decide
                have gh2 := p3_f hv1 h2
                have gh4 := p3_f hv3 h4
                have gh6 := p3_t hv5 h6
                have gh21 := p3_t hv20 h21
                have gh35 := k_eq_t h35
                have gh37 := p3_t hv36 h37
                have gh39 := p3_f hv38 h39
                exact k _ (pl_y (by omega) (by omega) (by omega))
              · refine z_lload_n (f := 0) (i := 0) (q := 0) (pc' := 60) ⟨by decide +kernel, rfl⟩ rfl rfl ?_
                refine z_goto (off := 4) (tgt := 64) (pc' := 63) ⟨by decide +kernel, by decide, rfl⟩ ?_
                refine z_lret rfl (by decide +kernel) ?_
                have z0L : (0 : Int64).toInt = 0 := by decide
                have gh2 := p3_f hv1 h2
                have gh4 := p3_f hv3 h4
                have gh6 := p3_t hv5 h6
                have gh21 := p3_t hv20 h21
                have gh35 := k_eq_t h35
                have gh37 := p3_t hv36 h37
                have gh39 := p3_t hv38 h39
                exact k _ (pl_x (by omega) (by omega))
            · refine z_lload_n (f := 2) (i := 2) (q := 1) (pc' := 46) ⟨by decide +kernel, rfl⟩ rfl rfl ?_
              refine z_invS (Z := Y_M_isInfinite) (idx := 371) (As := [.long y]) (rest := []) (nA := 1) (pc' := 49) ⟨k_11_143, k_1_12, k_11_145, by decide, by decide, by decide +kernel⟩ k_11_144 ⟨⟨by decide, by decide⟩, rfl, rfl⟩ ⟨by decide +kernel, rfl⟩ rfl rfl (Nat.le_of_ble_eq_true rfl) rfl rfl ?_
              refine cz_M_isInfinite (fun v40 hv40 => ?_)
              show Wz E Y_M_plus 49 [(0, .long x), (2, .long y)] [.int v40] σ K
              refine z_if_eq (off := 16) (tgt := 65) (pc' := 52) ⟨by decide +kernel, by decide, rfl⟩ (fun h41 => ?_) (fun h41 => ?_)
              · refine z_lload_n (f := 0) (i := 0) (q := 0) (pc' := 66) ⟨by decide +kernel, rfl⟩ rfl rfl ?_
                refine z_invS (Z := Y_M_isZero) (idx := 374) (As := [.long x]) (rest := []) (nA := 1) (pc' := 69) ⟨k_11_146, k_1_12, k_11_148, by decide, by decide, by decide +kernel⟩ k_11_147 ⟨⟨by decide, by decide⟩, rfl, rfl⟩ ⟨by decide +kernel, rfl⟩ rfl rfl (Nat.le_of_ble_eq_true rfl) rfl rfl ?_
                refine cz_M_isZero (fun v42 hv42 => ?_)
                show Wz E Y_M_plus 69 [(0, .long x), (2, .long y)] [.int v42] σ K
                refine z_if_eq (off := 22) (tgt := 91) (pc' := 72) ⟨by decide +kernel, by decide, rfl⟩ (fun h43 => ?_) (fun h43 => ?_)
                · have z0L : (0 : Int64).toInt = 0 := by decide
                  have gh2 := p3_f hv1 h2
                  have gh4 := p3_f hv3 h4
                  have gh6 := p3_t hv5 h6
                  have gh21 := p3_t hv20 h21
                  have gh35 := k_eq_t h35
                  have gh37 := p3_f hv36 h37
                  have gh41 := p3_f hv40 h41
                  have gh43 := p3_f hv42 h43
                  exact run_M_plus_b (by omega) (by omega) (by omega) k
                · refine z_lload_n (f := 2) (i := 2) (q := 1) (pc' := 73) ⟨by decide +kernel, rfl⟩ rfl rfl ?_
                  refine z_invS (Z := Y_M_isZero) (idx := 374) (As := [.long y]) (rest := []) (nA := 1) (pc' := 76) ⟨k_11_146, k_1_12, k_11_148, by decide, by decide, by decide +kernel⟩ k_11_147 ⟨⟨by decide, by decide⟩, rfl, rfl⟩ ⟨by decide +kernel, rfl⟩ rfl rfl (Nat.le_of_ble_eq_true rfl) rfl rfl ?_
                  refine cz_M_isZero (fun v44 hv44 => ?_)
                  show Wz E Y_M_plus 76 [(0, .long x), (2, .long y)] [.int v44] σ K
                  refine z_if_eq (off := 15) (tgt := 91) (pc' := 79) ⟨by decide +kernel, by decide, rfl⟩ (fun h45 => ?_) (fun h45 => ?_)
                  · have z0L : (0 : Int64).toInt = 0 := by decide
                    have gh2 := p3_f hv1 h2
                    have gh4 := p3_f hv3 h4
                    have gh6 := p3_t hv5 h6
                    have gh21 := p3_t hv20 h21
                    have gh35 := k_eq_t h35
                    have gh37 := p3_f hv36 h37
                    have gh41 := p3_f hv40 h41
                    have gh43 := p3_t hv42 h43
                    have gh45 := p3_f hv44 h45
                    exact run_M_plus_b (by omega) (by omega) (by omega) k
                  · refine z_lload_n (f := 0) (i := 0) (q := 0) (pc' := 80) ⟨by decide +kernel, rfl⟩ rfl rfl ?_
                    refine z_lload_n (f := 2) (i := 2) (q := 1) (pc' := 81) ⟨by decide +kernel, rfl⟩ rfl rfl ?_
                    refine z_lcmp (pc' := 82) ⟨by decide +kernel, rfl⟩ ?_
                    refine z_if_ne (off := 7) (tgt := 89) (pc' := 85) ⟨by decide +kernel, by decide, rfl⟩ (fun h46 => ?_) (fun h46 => ?_)
                    · refine z_lconst (i := 0) (v := 0) (pc' := 90) ⟨by decide +kernel, rfl⟩ (by decide) ?_
                      refine z_lret rfl (by decide +kernel) ?_
                      have z0L : (0 : Int64).toInt = 0 := by decide
                      have gh2 := p3_f hv1 h2
                      have gh4 := p3_f hv3 h4
                      have gh6 := p3_t hv5 h6
                      have gh21 := p3_t hv20 h21
                      have gh35 := k_eq_t h35
                      have gh37 := p3_f hv36 h37
                      have gh41 := p3_f hv40 h41
                      have gh43 := p3_t hv42 h43
                      have gh45 := p3_t hv44 h45
                      have gh46 := k_ne_t h46
                      exact k _ (pl_zero (by omega) (by omega) (mg_u x).2.2 (mg_u y).2.2 (by rw [if_neg (by omega), z0L]))
                    · refine z_lload_n (f := 0) (i := 0) (q := 0) (pc' := 86) ⟨by decide +kernel, rfl⟩ rfl rfl ?_
                      refine z_goto (off := 4) (tgt := 90) (pc' := 89) ⟨by decide +kernel, by decide, rfl⟩ ?_
                      refine z_lret rfl (by decide +kernel) ?_
                      have z0L : (0 : Int64).toInt = 0 := by decide
                      have gh2 := p3_f hv1 h2
                      have gh4 := p3_f hv3 h4
                      have gh6 := p3_t hv5 h6
                      have gh21 := p3_t hv20 h21
                      have gh35 := k_eq_t h35
                      have gh37 := p3_f hv36 h37
                      have gh41 := p3_f hv40 h41
                      have gh43 := p3_t hv42 h43
                      have gh45 := p3_t hv44 h45
                      have gh46 := k_ne_f h46
                      exact k _ (pl_zero (by omega) (by omega) (mg_u x).2.2 (mg_u y).2.2 (by rw [if_pos (by omega)]))
              · refine z_lload_n (f := 0) (i := 0) (q := 0) (pc' := 53) ⟨by decide +kernel, rfl⟩ rfl rfl ?_
                refine z_invS (Z := Y_M_isInfinite) (idx := 371) (As := [.long x]) (rest := []) (nA := 1) (pc' := 56) ⟨k_11_143, k_1_12, k_11_145, by decide, by decide, by decide +kernel⟩ k_11_144 ⟨⟨by decide, by decide⟩, rfl, rfl⟩ ⟨by decide +kernel, rfl⟩ rfl rfl (Nat.le_of_ble_eq_true rfl) rfl rfl ?_
                refine cz_M_isInfinite (fun v47 hv47 => ?_)
                show Wz E Y_M_plus 56 [(0, .long x), (2, .long y)] [.int v47] σ K
                refine z_if_eq (off := 7) (tgt := 63) (pc' := 59) ⟨by decide +kernel, by decide, rfl⟩ (fun h48 => ?_) (fun h48 => ?_)
                · refine z_lload_n (f := 2) (i := 2) (q := 1) (pc' := 64) ⟨by decide +kernel, rfl⟩ rfl rfl ?_
                  refine z_lret rfl (by decide +kernel) ?_
                  have z0L : (0 : Int64).toInt = 0 := by decide
                  have gh2 := p3_f hv1 h2
                  have gh4 := p3_f hv3 h4
                  have gh6 := p3_t hv5 h6
                  have gh21 := p3_t hv20 h21
                  have gh35 := k_eq_t h35
                  have gh37 := p3_f hv36 h37
                  have gh41 := p3_t hv40 h41
                  have gh48 := p3_f hv47 h48
                  exact k _ (pl_y (by omega) (by omega) (by omega))
                · refine z_lload_n (f := 0) (i := 0) (q := 0) (pc' := 60) ⟨by decide +kernel, rfl⟩ rfl rfl ?_
                  refine z_goto (off := 4) (tgt := 64) (pc' := 63) ⟨by decide +kernel, by decide, rfl⟩ ?_
                  refine z_lret rfl (by decide +kernel) ?_
                  have z0L : (0 : Int64).toInt = 0 := by decide
                  have gh2 := p3_f hv1 h2
                  have gh4 := p3_f hv3 h4
                  have gh6 := p3_t hv5 h6
                  have gh21 := p3_t hv20 h21
                  have gh35 := k_eq_t h35
                  have gh37 := p3_f hv36 h37
                  have gh41 := p3_t hv40 h41
                  have gh48 := p3_t hv47 h48
                  exact k _ (pl_x (by omega) (by omega))
          · refine z_ldc2 (i := 377) (v := 9221120237041090560) (pc' := 37) ⟨by decide +kernel, rfl⟩ k_11_28 ?_
            refine z_lret rfl (by decide +kernel) ?_
            have z0L : (0 : Int64).toInt = 0 := by decide
            have gh2 := p3_f hv1 h2
            have gh4 := p3_f hv3 h4
            have gh6 := p3_t hv5 h6
            have gh21 := p3_t hv20 h21
            have gh35 := k_eq_f h35
            exact k _ (pl_nan (by omega))
theorem cz_M_plus {E : xV} {σ : zS} {K : zKt} {x y : Int64} (k : ∀ v : Int64, PlR x.toInt y.toInt v.toInt → K (some (.long v)) σ) : Cz E Y_M_plus [.long x, .long y] σ K := z_entry (by decide) (fun a => by rw [sl_len]; exact Nat.le_of_ble_eq_true rfl) rfl (run_M_plus k)
theorem run_Re_times_d {E : xV} {σ : zS} {K : zKt} {x y sg a b : Int64} {s t : Int32} {m g1 g2 g3 g4 : Int64} (hx : mgF x.toInt < infF) (hy : mgF y.toInt < infF) (hx0 : mgF x.toInt ≠ 0) (hy0 : mgF y.toInt ≠ 0) (hs : SgU (¬ ((x.toInt < 0) = (y.toInt < 0))) sg) (ha : ShX x a s) (hb : ShX y b t) (hm : JdF (uF a * uF b) (2 ^ 45) (uF m)) (hm2 : uF m < 9223372036854775808) (k : ∀ v : Int64, TmR x.toInt y.toInt v.toInt → K (some (.long v)) σ) : Wz E Y_Re_times 244 [(20, .long m), (18, .long g1), (16, .long g2), (14, .long g3), (12, .long g4), (10, .long b), (8, .long a), (7, .int t), (6, .int s), (4, .long sg), (0, .long x), (2, .long y)] [] σ K := by
  refine z_lload (i := 4) (q := 9) (pc' := 246) ⟨by decide +kernel, rfl⟩ rfl ?_
  refine z_lload (i := 20) (q := 0) (pc' := 248) ⟨by decide +kernel, rfl⟩ rfl ?_
  refine z_lload_n (f := 0) (i := 0) (q := 10) (pc' := 249) ⟨by decide +kernel, rfl⟩ rfl rfl ?_
  refine z_invS (Z := Y_Re_exponent) (idx := 38) (As := [.long x]) (rest := [.long m, .long sg]) (nA := 1) (pc' := 252) ⟨k_4_140, k_1_13, k_4_142, by decide, by decide, by decide +kernel⟩ k_4_141 ⟨⟨by decide, by decide⟩, rfl, rfl⟩ ⟨by decide +kernel, rfl⟩ rfl rfl (Nat.le_of_ble_eq_true rfl) rfl rfl ?_
  refine cz_Re_exponent (fun v1 hv1 => ?_)
  show Wz E Y_Re_times 252 [(20, .long m), (18, .long g1), (16, .long g2), (14, .long g3), (12, .long g4), (10, .long b), (8, .long a), (7, .int t), (6, .int s), (4, .long sg), (0, .long x), (2, .long y)] [.int v1, .long m, .long sg] σ K
  refine z_iload (i := 6) (q := 8) (pc' := 254) ⟨by decide +kernel, rfl⟩ rfl ?_
  refine z_isub (pc' := 255) ⟨by decide +kernel, rfl⟩ ?_
  refine z_lload_n (f := 2) (i := 2) (q := 11) (pc' := 256) ⟨by decide +kernel, rfl⟩ rfl rfl ?_
  refine z_invS (Z := Y_Re_exponent) (idx := 38) (As := [.long y]) (rest := [.int (v1 - s), .long m, .long sg]) (nA := 1) (pc' := 259) ⟨k_4_140, k_1_13, k_4_142, by decide, by decide, by decide +kernel⟩ k_4_141 ⟨⟨by decide, by decide⟩, rfl, rfl⟩ ⟨by decide +kernel, rfl⟩ rfl rfl (Nat.le_of_ble_eq_true rfl) rfl rfl ?_
  refine cz_Re_exponent (fun v2 hv2 => ?_)
  show Wz E Y_Re_times 259 [(20, .long m), (18, .long g1), (16, .long g2), (14, .long g3), (12, .long g4), (10, .long b), (8, .long a), (7, .int t), (6, .int s), (4, .long sg), (0, .long x), (2, .long y)] [.int v2, .int (v1 - s), .long m, .long sg] σ K
  refine z_iadd (pc' := 260) ⟨by decide +kernel, rfl⟩ ?_
  refine z_iload (i := 7) (q := 7) (pc' := 262) ⟨by decide +kernel, rfl⟩ rfl ?_
  refine z_isub (pc' := 263) ⟨by decide +kernel, rfl⟩ ?_
  refine z_bipush (i := 45) (v := 45) (pc' := 265) ⟨by decide +kernel, rfl⟩ (by decide) ?_
  refine z_iadd (pc' := 266) ⟨by decide +kernel, rfl⟩ ?_
  refine z_invS (Z := Y_Re_packed) (idx := 31) (As := [.long sg, .long m, .int ((((v1 - s) + v2) - t) + 45)]) (rest := []) (nA := 3) (pc' := 269) ⟨k_4_117, k_1_13, k_4_119, by decide, by decide, by decide +kernel⟩ k_4_118 ⟨⟨by decide, by decide⟩, rfl, rfl⟩ ⟨by decide +kernel, rfl⟩ rfl rfl (Nat.le_of_ble_eq_true rfl) rfl rfl ?_
  refine cz_Re_packed hs hm2 (tc_eb ha hb hv1 hv2) (fun v3 hv3 => ?_)
  show Wz E Y_Re_times 269 [(20, .long m), (18, .long g1), (16, .long g2), (14, .long g3), (12, .long g4), (10, .long b), (8, .long a), (7, .int t), (6, .int s), (4, .long sg), (0, .long x), (2, .long y)] [.long v3] σ K
  refine z_lret rfl (by decide +kernel) ?_
  have z0L : (0 : Int64).toInt = 0 := by decide
  exact k _ (tc_end hx hy ha hb hm hv1 hv2 hv3)
theorem run_Re_times_c {E : xV} {σ : zS} {K : zKt} {x y sg a b : Int64} {s t : Int32} (hx : mgF x.toInt < infF) (hy : mgF y.toInt < infF) (hx0 : mgF x.toInt ≠ 0) (hy0 : mgF y.toInt ≠ 0) (hs : SgU (¬ ((x.toInt < 0) = (y.toInt < 0))) sg) (ha : ShX x a s) (hb : ShX y b t) (k : ∀ v : Int64, TmR x.toInt y.toInt v.toInt → K (some (.long v)) σ) : Wz E Y_Re_times 129 [(10, .long b), (8, .long a), (7, .int t), (6, .int s), (4, .long sg), (0, .long x), (2, .long y)] [] σ K := by
  refine z_lload (i := 8) (q := 1) (pc' := 131) ⟨by decide +kernel, rfl⟩ rfl ?_
  refine z_ldc2 (i := 52) (v := 134217727) (pc' := 134) ⟨by decide +kernel, rfl⟩ k_6_33 ?_
  refine z_land (pc' := 135) ⟨by decide +kernel, rfl⟩ ?_
  refine z_lload (i := 10) (q := 0) (pc' := 137) ⟨by decide +kernel, rfl⟩ rfl ?_
  refine z_ldc2 (i := 52) (v := 134217727) (pc' := 140) ⟨by decide +kernel, rfl⟩ k_6_33 ?_
  refine z_land (pc' := 141) ⟨by decide +kernel, rfl⟩ ?_
  refine z_lmul (pc' := 142) ⟨by decide +kernel, rfl⟩ ?_
  refine z_lstore (i := 12) (pc' := 144) ⟨by decide +kernel, rfl⟩ (by decide) rfl ?_
  show Wz E Y_Re_times 144 [(12, .long ((a &&& 134217727) * (b &&& 134217727))), (10, .long b), (8, .long a), (7, .int t), (6, .int s), (4, .long sg), (0, .long x), (2, .long y)] [] σ K
  refine z_lload (i := 8) (q := 2) (pc' := 146) ⟨by decide +kernel, rfl⟩ rfl ?_
  refine z_bipush (i := 27) (v := 27) (pc' := 148) ⟨by decide +kernel, rfl⟩ (by decide) ?_
  refine z_lushr (pc' := 149) ⟨by decide +kernel, rfl⟩ rfl ?_
  refine z_lload (i := 10) (q := 1) (pc' := 151) ⟨by decide +kernel, rfl⟩ rfl ?_
  refine z_ldc2 (i := 52) (v := 134217727) (pc' := 154) ⟨by decide +kernel, rfl⟩ k_6_33 ?_
  refine z_land (pc' := 155) ⟨by decide +kernel, rfl⟩ ?_
  refine z_lmul (pc' := 156) ⟨by decide +kernel, rfl⟩ ?_
  refine z_lload (i := 8) (q := 2) (pc' := 158) ⟨by decide +kernel, rfl⟩ rfl ?_
  refine z_ldc2 (i := 52) (v := 134217727) (pc' := 161) ⟨by decide +kernel, rfl⟩ k_6_33 ?_
  refine z_land (pc' := 162) ⟨by decide +kernel, rfl⟩ ?_
  refine z_lload (i := 10) (q := 1) (pc' := 164) ⟨by decide +kernel, rfl⟩ rfl ?_
  refine z_bipush (i := 27) (v := 27) (pc' := 166) ⟨by decide +kernel, rfl⟩ (by decide) ?_
  refine z_lushr (pc' := 167) ⟨by decide +kernel, rfl⟩ rfl ?_
  refine z_lmul (pc' := 168) ⟨by decide +kernel, rfl⟩ ?_
  refine z_ladd (pc' := 169) ⟨by decide +kernel, rfl⟩ ?_
  refine z_lload (i := 12) (q := 0) (pc' := 171) ⟨by decide +kernel, rfl⟩ rfl ?_
  refine z_bipush (i := 27) (v := 27) (pc' := 173) ⟨by decide +kernel, rfl⟩ (by decide) ?_
  refine z_lushr (pc' := 174) ⟨by decide +kernel, rfl⟩ rfl ?_
  refine z_ladd (pc' := 175) ⟨by decide +kernel, rfl⟩ ?_
  refine z_lstore (i := 14) (pc' := 177) ⟨by decide +kernel, rfl⟩ (by decide) rfl ?_
  show Wz E Y_Re_times 177 [(14, .long (((((Int64.toUInt64 a >>> ((Int32.toInt64 27).toUInt64 &&& Int64.toUInt64 63)).toInt64) * (b &&& 134217727)) + ((a &&& 134217727) * ((Int64.toUInt64 b >>> ((Int32.toInt64 27).toUInt64 &&& Int64.toUInt64 63)).toInt64))) + ((Int64.toUInt64 ((a &&& 134217727) * (b &&& 134217727)) >>> ((Int32.toInt64 27).toUInt64 &&& Int64.toUInt64 63)).toInt64))), (12, .long ((a &&& 134217727) * (b &&& 134217727))), (10, .long b), (8, .long a), (7, .int t), (6, .int s), (4, .long sg), (0, .long x), (2, .long y)] [] σ K
  refine z_lload (i := 8) (q := 3) (pc' := 179) ⟨by decide +kernel, rfl⟩ rfl ?_
  refine z_bipush (i := 27) (v := 27) (pc' := 181) ⟨by decide +kernel, rfl⟩ (by decide) ?_
  refine z_lushr (pc' := 182) ⟨by decide +kernel, rfl⟩ rfl ?_
  refine z_lload (i := 10) (q := 2) (pc' := 184) ⟨by decide +kernel, rfl⟩ rfl ?_
  refine z_bipush (i := 27) (v := 27) (pc' := 186) ⟨by decide +kernel, rfl⟩ (by decide) ?_
  refine z_lushr (pc' := 187) ⟨by decide +kernel, rfl⟩ rfl ?_
  refine z_lmul (pc' := 188) ⟨by decide +kernel, rfl⟩ ?_
  refine z_lload (i := 14) (q := 0) (pc' := 190) ⟨by decide +kernel, rfl⟩ rfl ?_
  refine z_bipush (i := 27) (v := 27) (pc' := 192) ⟨by decide +kernel, rfl⟩ (by decide) ?_
  refine z_lushr (pc' := 193) ⟨by decide +kernel, rfl⟩ rfl ?_
  refine z_ladd (pc' := 194) ⟨by decide +kernel, rfl⟩ ?_
  refine z_lstore (i := 16) (pc' := 196) ⟨by decide +kernel, rfl⟩ (by decide) rfl ?_
  show Wz E Y_Re_times 196 [(16, .long ((((Int64.toUInt64 a >>> ((Int32.toInt64 27).toUInt64 &&& Int64.toUInt64 63)).toInt64) * ((Int64.toUInt64 b >>> ((Int32.toInt64 27).toUInt64 &&& Int64.toUInt64 63)).toInt64)) + ((Int64.toUInt64 (((((Int64.toUInt64 a >>> ((Int32.toInt64 27).toUInt64 &&& Int64.toUInt64 63)).toInt64) * (b &&& 134217727)) + ((a &&& 134217727) * ((Int64.toUInt64 b >>> ((Int32.toInt64 27).toUInt64 &&& Int64.toUInt64 63)).toInt64))) + ((Int64.toUInt64 ((a &&& 134217727) * (b &&& 134217727)) >>> ((Int32.toInt64 27).toUInt64 &&& Int64.toUInt64 63)).toInt64)) >>> ((Int32.toInt64 27).toUInt64 &&& Int64.toUInt64 63)).toInt64))), (14, .long (((((Int64.toUInt64 a >>> ((Int32.toInt64 27).toUInt64 &&& Int64.toUInt64 63)).toInt64) * (b &&& 134217727)) + ((a &&& 134217727) * ((Int64.toUInt64 b >>> ((Int32.toInt64 27).toUInt64 &&& Int64.toUInt64 63)).toInt64))) + ((Int64.toUInt64 ((a &&& 134217727) * (b &&& 134217727)) >>> ((Int32.toInt64 27).toUInt64 &&& Int64.toUInt64 63)).toInt64))), (12, .long ((a &&& 134217727) * (b &&& 134217727))), (10, .long b), (8, .long a), (7, .int t), (6, .int s), (4, .long sg), (0, .long x), (2, .long y)] [] σ K
  refine z_lload (i := 14) (q := 1) (pc' := 198) ⟨by decide +kernel, rfl⟩ rfl ?_
  refine z_ldc2 (i := 52) (v := 134217727) (pc' := 201) ⟨by decide +kernel, rfl⟩ k_6_33 ?_
  refine z_land (pc' := 202) ⟨by decide +kernel, rfl⟩ ?_
  refine z_bipush (i := 27) (v := 27) (pc' := 204) ⟨by decide +kernel, rfl⟩ (by decide) ?_
  refine z_lshl (pc' := 205) ⟨by decide +kernel, rfl⟩ rfl ?_
  refine z_lload (i := 12) (q := 2) (pc' := 207) ⟨by decide +kernel, rfl⟩ rfl ?_
  refine z_ldc2 (i := 52) (v := 134217727) (pc' := 210) ⟨by decide +kernel, rfl⟩ k_6_33 ?_
  refine z_land (pc' := 211) ⟨by decide +kernel, rfl⟩ ?_
  refine z_lor (pc' := 212) ⟨by decide +kernel, rfl⟩ ?_
  refine z_lstore (i := 18) (pc' := 214) ⟨by decide +kernel, rfl⟩ (by decide) rfl ?_
  show Wz E Y_Re_times 214 [(18, .long ((((((((Int64.toUInt64 a >>> ((Int32.toInt64 27).toUInt64 &&& Int64.toUInt64 63)).toInt64) * (b &&& 134217727)) + ((a &&& 134217727) * ((Int64.toUInt64 b >>> ((Int32.toInt64 27).toUInt64 &&& Int64.toUInt64 63)).toInt64))) + ((Int64.toUInt64 ((a &&& 134217727) * (b &&& 134217727)) >>> ((Int32.toInt64 27).toUInt64 &&& Int64.toUInt64 63)).toInt64)) &&& 134217727) <<< (Int32.toInt64 27 &&& 63)) ||| (((a &&& 134217727) * (b &&& 134217727)) &&& 134217727))), (16, .long ((((Int64.toUInt64 a >>> ((Int32.toInt64 27).toUInt64 &&& Int64.toUInt64 63)).toInt64) * ((Int64.toUInt64 b >>> ((Int32.toInt64 27).toUInt64 &&& Int64.toUInt64 63)).toInt64)) + ((Int64.toUInt64 (((((Int64.toUInt64 a >>> ((Int32.toInt64 27).toUInt64 &&& Int64.toUInt64 63)).toInt64) * (b &&& 134217727)) + ((a &&& 134217727) * ((Int64.toUInt64 b >>> ((Int32.toInt64 27).toUInt64 &&& Int64.toUInt64 63)).toInt64))) + ((Int64.toUInt64 ((a &&& 134217727) * (b &&& 134217727)) >>> ((Int32.toInt64 27).toUInt64 &&& Int64.toUInt64 63)).toInt64)) >>> ((Int32.toInt64 27).toUInt64 &&& Int64.toUInt64 63)).toInt64))), (14, .long (((((Int64.toUInt64 a >>> ((Int32.toInt64 27).toUInt64 &&& Int64.toUInt64 63)).toInt64) * (b &&& 134217727)) + ((a &&& 134217727) * ((Int64.toUInt64 b >>> ((Int32.toInt64 27).toUInt64 &&& Int64.toUInt64 63)).toInt64))) + ((Int64.toUInt64 ((a &&& 134217727) * (b &&& 134217727)) >>> ((Int32.toInt64 27).toUInt64 &&& Int64.toUInt64 63)).toInt64))), (12, .long ((a &&& 134217727) * (b &&& 134217727))), (10, .long b), (8, .long a), (7, .int t), (6, .int s), (4, .long sg), (0, .long x), (2, .long y)] [] σ K
  refine z_lload (i := 16) (q := 1) (pc' := 216) ⟨by decide +kernel, rfl⟩ rfl ?_
  refine z_bipush (i := 9) (v := 9) (pc' := 218) ⟨by decide +kernel, rfl⟩ (by decide) ?_
  refine z_lshl (pc' := 219) ⟨by decide +kernel, rfl⟩ rfl ?_
  refine z_lload (i := 18) (q := 0) (pc' := 221) ⟨by decide +kernel, rfl⟩ rfl ?_
  refine z_bipush (i := 45) (v := 45) (pc' := 223) ⟨by decide +kernel, rfl⟩ (by decide) ?_
  refine z_lushr (pc' := 224) ⟨by decide +kernel, rfl⟩ rfl ?_
  refine z_lor (pc' := 225) ⟨by decide +kernel, rfl⟩ ?_
  refine z_lstore (i := 20) (pc' := 227) ⟨by decide +kernel, rfl⟩ (by decide) rfl ?_
  show Wz E Y_Re_times 227 [(20, .long ((((((Int64.toUInt64 a >>> ((Int32.toInt64 27).toUInt64 &&& Int64.toUInt64 63)).toInt64) * ((Int64.toUInt64 b >>> ((Int32.toInt64 27).toUInt64 &&& Int64.toUInt64 63)).toInt64)) + ((Int64.toUInt64 (((((Int64.toUInt64 a >>> ((Int32.toInt64 27).toUInt64 &&& Int64.toUInt64 63)).toInt64) * (b &&& 134217727)) + ((a &&& 134217727) * ((Int64.toUInt64 b >>> ((Int32.toInt64 27).toUInt64 &&& Int64.toUInt64 63)).toInt64))) + ((Int64.toUInt64 ((a &&& 134217727) * (b &&& 134217727)) >>> ((Int32.toInt64 27).toUInt64 &&& Int64.toUInt64 63)).toInt64)) >>> ((Int32.toInt64 27).toUInt64 &&& Int64.toUInt64 63)).toInt64)) <<< (Int32.toInt64 9 &&& 63)) ||| ((Int64.toUInt64 ((((((((Int64.toUInt64 a >>> ((Int32.toInt64 27).toUInt64 &&& Int64.toUInt64 63)).toInt64) * (b &&& 134217727)) + ((a &&& 134217727) * ((Int64.toUInt64 b >>> ((Int32.toInt64 27).toUInt64 &&& Int64.toUInt64 63)).toInt64))) + ((Int64.toUInt64 ((a &&& 134217727) * (b &&& 134217727)) >>> ((Int32.toInt64 27).toUInt64 &&& Int64.toUInt64 63)).toInt64)) &&& 134217727) <<< (Int32.toInt64 27 &&& 63)) ||| (((a &&& 134217727) * (b &&& 134217727)) &&& 134217727)) >>> ((Int32.toInt64 45).toUInt64 &&& Int64.toUInt64 63)).toInt64))), (18, .long ((((((((Int64.toUInt64 a >>> ((Int32.toInt64 27).toUInt64 &&& Int64.toUInt64 63)).toInt64) * (b &&& 134217727)) + ((a &&& 134217727) * ((Int64.toUInt64 b >>> ((Int32.toInt64 27).toUInt64 &&& Int64.toUInt64 63)).toInt64))) + ((Int64.toUInt64 ((a &&& 134217727) * (b &&& 134217727)) >>> ((Int32.toInt64 27).toUInt64 &&& Int64.toUInt64 63)).toInt64)) &&& 134217727) <<< (Int32.toInt64 27 &&& 63)) ||| (((a &&& 134217727) * (b &&& 134217727)) &&& 134217727))), (16, .long ((((Int64.toUInt64 a >>> ((Int32.toInt64 27).toUInt64 &&& Int64.toUInt64 63)).toInt64) * ((Int64.toUInt64 b >>> ((Int32.toInt64 27).toUInt64 &&& Int64.toUInt64 63)).toInt64)) + ((Int64.toUInt64 (((((Int64.toUInt64 a >>> ((Int32.toInt64 27).toUInt64 &&& Int64.toUInt64 63)).toInt64) * (b &&& 134217727)) + ((a &&& 134217727) * ((Int64.toUInt64 b >>> ((Int32.toInt64 27).toUInt64 &&& Int64.toUInt64 63)).toInt64))) + ((Int64.toUInt64 ((a &&& 134217727) * (b &&& 134217727)) >>> ((Int32.toInt64 27).toUInt64 &&& Int64.toUInt64 63)).toInt64)) >>> ((Int32.toInt64 27).toUInt64 &&& Int64.toUInt64 63)).toInt64))), (14, .long (((((Int64.toUInt64 a >>> ((Int32.toInt64 27).toUInt64 &&& Int64.toUInt64 63)).toInt64) * (b &&& 134217727)) + ((a &&& 134217727) * ((Int64.toUInt64 b >>> ((Int32.toInt64 27).toUInt64 &&& Int64.toUInt64 63)).toInt64))) + ((Int64.toUInt64 ((a &&& 134217727) * (b &&& 134217727)) >>> ((Int32.toInt64 27).toUInt64 &&& Int64.toUInt64 63)).toInt64))), (12, .long ((a &&& 134217727) * (b &&& 134217727))), (10, .long b), (8, .long a), (7, .int t), (6, .int s), (4, .long sg), (0, .long x), (2, .long y)] [] σ K
  refine z_lload (i := 18) (q := 1) (pc' := 229) ⟨by decide +kernel, rfl⟩ rfl ?_
  refine z_ldc2 (i := 54) (v := 35184372088831) (pc' := 232) ⟨by decide +kernel, rfl⟩ k_6_34 ?_
  refine z_land (pc' := 233) ⟨by decide +kernel, rfl⟩ ?_
  refine z_lconst (i := 0) (v := 0) (pc' := 234) ⟨by decide +kernel, rfl⟩ (by decide) ?_
  refine z_lcmp (pc' := 235) ⟨by decide +kernel, rfl⟩ ?_
  refine z_if_eq (off := 9) (tgt := 244) (pc' := 238) ⟨by decide +kernel, by decide, rfl⟩ (fun h1 => ?_) (fun h1 => ?_)
  · have z0L : (0 : Int64).toInt = 0 := by decide
    have gh1 := k_eq_t h1
    have j := (tc_jd (shx_lt ha) (shx_lt hb)).1 ((lg_cmp_eq _ _).mp h1)
    exact run_Re_times_d hx hy hx0 hy0 hs ha hb j.1 j.2 k
  · refine z_lload (i := 20) (q := 0) (pc' := 240) ⟨by decide +kernel, rfl⟩ rfl ?_
    refine z_lconst (i := 1) (v := 1) (pc' := 241) ⟨by decide +kernel, rfl⟩ (by decide) ?_
    refine z_lor (pc' := 242) ⟨by decide +kernel, rfl⟩ ?_
    refine z_lstore (i := 20) (pc' := 244) ⟨by decide +kernel, rfl⟩ (by decide) rfl ?_
    show Wz E Y_Re_times 244 [(20, .long (((((((Int64.toUInt64 a >>> ((Int32.toInt64 27).toUInt64 &&& Int64.toUInt64 63)).toInt64) * ((Int64.toUInt64 b >>> ((Int32.toInt64 27).toUInt64 &&& Int64.toUInt64 63)).toInt64)) + ((Int64.toUInt64 (((((Int64.toUInt64 a >>> ((Int32.toInt64 27).toUInt64 &&& Int64.toUInt64 63)).toInt64) * (b &&& 134217727)) + ((a &&& 134217727) * ((Int64.toUInt64 b >>> ((Int32.toInt64 27).toUInt64 &&& Int64.toUInt64 63)).toInt64))) + ((Int64.toUInt64 ((a &&& 134217727) * (b &&& 134217727)) >>> ((Int32.toInt64 27).toUInt64 &&& Int64.toUInt64 63)).toInt64)) >>> ((Int32.toInt64 27).toUInt64 &&& Int64.toUInt64 63)).toInt64)) <<< (Int32.toInt64 9 &&& 63)) ||| ((Int64.toUInt64 ((((((((Int64.toUInt64 a >>> ((Int32.toInt64 27).toUInt64 &&& Int64.toUInt64 63)).toInt64) * (b &&& 134217727)) + ((a &&& 134217727) * ((Int64.toUInt64 b >>> ((Int32.toInt64 27).toUInt64 &&& Int64.toUInt64 63)).toInt64))) + ((Int64.toUInt64 ((a &&& 134217727) * (b &&& 134217727)) >>> ((Int32.toInt64 27).toUInt64 &&& Int64.toUInt64 63)).toInt64)) &&& 134217727) <<< (Int32.toInt64 27 &&& 63)) ||| (((a &&& 134217727) * (b &&& 134217727)) &&& 134217727)) >>> ((Int32.toInt64 45).toUInt64 &&& Int64.toUInt64 63)).toInt64)) ||| 1)), (18, .long ((((((((Int64.toUInt64 a >>> ((Int32.toInt64 27).toUInt64 &&& Int64.toUInt64 63)).toInt64) * (b &&& 134217727)) + ((a &&& 134217727) * ((Int64.toUInt64 b >>> ((Int32.toInt64 27).toUInt64 &&& Int64.toUInt64 63)).toInt64))) + ((Int64.toUInt64 ((a &&& 134217727) * (b &&& 134217727)) >>> ((Int32.toInt64 27).toUInt64 &&& Int64.toUInt64 63)).toInt64)) &&& 134217727) <<< (Int32.toInt64 27 &&& 63)) ||| (((a &&& 134217727) * (b &&& 134217727)) &&& 134217727))), (16, .long ((((Int64.toUInt64 a >>> ((Int32.toInt64 27).toUInt64 &&& Int64.toUInt64 63)).toInt64) * ((Int64.toUInt64 b >>> ((Int32.toInt64 27).toUInt64 &&& Int64.toUInt64 63)).toInt64)) + ((Int64.toUInt64 (((((Int64.toUInt64 a >>> ((Int32.toInt64 27).toUInt64 &&& Int64.toUInt64 63)).toInt64) * (b &&& 134217727)) + ((a &&& 134217727) * ((Int64.toUInt64 b >>> ((Int32.toInt64 27).toUInt64 &&& Int64.toUInt64 63)).toInt64))) + ((Int64.toUInt64 ((a &&& 134217727) * (b &&& 134217727)) >>> ((Int32.toInt64 27).toUInt64 &&& Int64.toUInt64 63)).toInt64)) >>> ((Int32.toInt64 27).toUInt64 &&& Int64.toUInt64 63)).toInt64))), (14, .long (((((Int64.toUInt64 a >>> ((Int32.toInt64 27).toUInt64 &&& Int64.toUInt64 63)).toInt64) * (b &&& 134217727)) + ((a &&& 134217727) * ((Int64.toUInt64 b >>> ((Int32.toInt64 27).toUInt64 &&& Int64.toUInt64 63)).toInt64))) + ((Int64.toUInt64 ((a &&& 134217727) * (b &&& 134217727)) >>> ((Int32.toInt64 27).toUInt64 &&& Int64.toUInt64 63)).toInt64))), (12, .long ((a &&& 134217727) * (b &&& 134217727))), (10, .long b), (8, .long a), (7, .int t), (6, .int s), (4, .long sg), (0, .long x), (2, .long y)] [] σ K
    have z0L : (0 : Int64).toInt = 0 := by decide
    have gh1 := k_eq_f h1
    have j := (tc_jd (shx_lt ha) (shx_lt hb)).2 (fun q => h1 ((lg_cmp_eq _ _).mpr q))
    exact run_Re_times_d hx hy hx0 hy0 hs ha hb j.1 j.2 k
theorem run_Re_times_b {E : xV} {σ : zS} {K : zKt} {x y sg : Int64} (hx : mgF x.toInt < infF) (hy : mgF y.toInt < infF) (hx0 : mgF x.toInt ≠ 0) (hy0 : mgF y.toInt ≠ 0) (hs : SgU (¬ ((x.toInt < 0) = (y.toInt < 0))) sg) (k : ∀ v : Int64, TmR x.toInt y.toInt v.toInt → K (some (.long v)) σ) : Wz E Y_Re_times 93 [(4, .long sg), (0, .long x), (2, .long y)] [] σ K := by
  refine z_lload_n (f := 0) (i := 0) (q := 1) (pc' := 94) ⟨by decide +kernel, rfl⟩ rfl rfl ?_
  refine z_invS (Z := Y_Re_mantissa) (idx := 42) (As := [.long x]) (rest := []) (nA := 1) (pc' := 97) ⟨k_4_132, k_1_13, k_4_134, by decide, by decide, by decide +kernel⟩ k_4_133 ⟨⟨by decide, by decide⟩, rfl, rfl⟩ ⟨by decide +kernel, rfl⟩ rfl rfl (Nat.le_of_ble_eq_true rfl) rfl rfl ?_
  refine cz_Re_mantissa (fun v1 hv1 => ?_)
  show Wz E Y_Re_times 97 [(4, .long sg), (0, .long x), (2, .long y)] [.long v1] σ K
  refine z_invS (Z := Y_Re_shortage) (idx := 49) (As := [.long v1]) (rest := []) (nA := 1) (pc' := 100) ⟨k_4_137, k_1_13, k_4_139, by decide, by decide, by decide +kernel⟩ k_4_138 ⟨⟨by decide, by decide⟩, rfl, rfl⟩ ⟨by decide +kernel, rfl⟩ rfl rfl (Nat.le_of_ble_eq_true rfl) rfl rfl ?_
  refine cz_Re_shortage (hm := by rw [hv1]; exact mz_pos hx0) (hb := by rw [hv1]; exact mz_lt _) (fun v2 hv2 => ?_)
  show Wz E Y_Re_times 100 [(4, .long sg), (0, .long x), (2, .long y)] [.int v2] σ K
  refine z_istore (i := 6) (pc' := 102) ⟨by decide +kernel, rfl⟩ (by decide) rfl ?_
  show Wz E Y_Re_times 102 [(6, .int v2), (4, .long sg), (0, .long x), (2, .long y)] [] σ K
  refine z_lload_n (f := 2) (i := 2) (q := 3) (pc' := 103) ⟨by decide +kernel, rfl⟩ rfl rfl ?_
  refine z_invS (Z := Y_Re_mantissa) (idx := 42) (As := [.long y]) (rest := []) (nA := 1) (pc' := 106) ⟨k_4_132, k_1_13, k_4_134, by decide, by decide, by decide +kernel⟩ k_4_133 ⟨⟨by decide, by decide⟩, rfl, rfl⟩ ⟨by decide +kernel, rfl⟩ rfl rfl (Nat.le_of_ble_eq_true rfl) rfl rfl ?_
  refine cz_Re_mantissa (fun v3 hv3 => ?_)
  show Wz E Y_Re_times 106 [(6, .int v2), (4, .long sg), (0, .long x), (2, .long y)] [.long v3] σ K
  refine z_invS (Z := Y_Re_shortage) (idx := 49) (As := [.long v3]) (rest := []) (nA := 1) (pc' := 109) ⟨k_4_137, k_1_13, k_4_139, by decide, by decide, by decide +kernel⟩ k_4_138 ⟨⟨by decide, by decide⟩, rfl, rfl⟩ ⟨by decide +kernel, rfl⟩ rfl rfl (Nat.le_of_ble_eq_true rfl) rfl rfl ?_
  refine cz_Re_shortage (hm := by rw [hv3]; exact mz_pos hy0) (hb := by rw [hv3]; exact mz_lt _) (fun v4 hv4 => ?_)
  show Wz E Y_Re_times 109 [(6, .int v2), (4, .long sg), (0, .long x), (2, .long y)] [.int v4] σ K
  refine z_istore (i := 7) (pc' := 111) ⟨by decide +kernel, rfl⟩ (by decide) rfl ?_
  show Wz E Y_Re_times 111 [(7, .int v4), (6, .int v2), (4, .long sg), (0, .long x), (2, .long y)] [] σ K
  refine z_lload_n (f := 0) (i := 0) (q := 3) (pc' := 112) ⟨by decide +kernel, rfl⟩ rfl rfl ?_
  refine z_invS (Z := Y_Re_mantissa) (idx := 42) (As := [.long x]) (rest := []) (nA := 1) (pc' := 115) ⟨k_4_132, k_1_13, k_4_134, by decide, by decide, by decide +kernel⟩ k_4_133 ⟨⟨by decide, by decide⟩, rfl, rfl⟩ ⟨by decide +kernel, rfl⟩ rfl rfl (Nat.le_of_ble_eq_true rfl) rfl rfl ?_
  refine cz_Re_mantissa (fun v5 hv5 => ?_)
  show Wz E Y_Re_times 115 [(7, .int v4), (6, .int v2), (4, .long sg), (0, .long x), (2, .long y)] [.long v5] σ K
  refine z_iload (i := 6) (q := 1) (pc' := 117) ⟨by decide +kernel, rfl⟩ rfl ?_
  refine z_lshl (pc' := 118) ⟨by decide +kernel, rfl⟩ rfl ?_
  refine z_lstore (i := 8) (pc' := 120) ⟨by decide +kernel, rfl⟩ (by decide) rfl ?_
  show Wz E Y_Re_times 120 [(8, .long (v5 <<< (Int32.toInt64 v2 &&& 63))), (7, .int v4), (6, .int v2), (4, .long sg), (0, .long x), (2, .long y)] [] σ K
  refine z_lload_n (f := 2) (i := 2) (q := 5) (pc' := 121) ⟨by decide +kernel, rfl⟩ rfl rfl ?_
  refine z_invS (Z := Y_Re_mantissa) (idx := 42) (As := [.long y]) (rest := []) (nA := 1) (pc' := 124) ⟨k_4_132, k_1_13, k_4_134, by decide, by decide, by decide +kernel⟩ k_4_133 ⟨⟨by decide, by decide⟩, rfl, rfl⟩ ⟨by decide +kernel, rfl⟩ rfl rfl (Nat.le_of_ble_eq_true rfl) rfl rfl ?_
  refine cz_Re_mantissa (fun v6 hv6 => ?_)
  show Wz E Y_Re_times 124 [(8, .long (v5 <<< (Int32.toInt64 v2 &&& 63))), (7, .int v4), (6, .int v2), (4, .long sg), (0, .long x), (2, .long y)] [.long v6] σ K
  refine z_iload (i := 7) (q := 1) (pc' := 126) ⟨by decide +kernel, rfl⟩ rfl ?_
  refine z_lshl (pc' := 127) ⟨by decide +kernel, rfl⟩ rfl ?_
  refine z_lstore (i := 10) (pc' := 129) ⟨by decide +kernel, rfl⟩ (by decide) rfl ?_
  show Wz E Y_Re_times 129 [(10, .long (v6 <<< (Int32.toInt64 v4 &&& 63))), (8, .long (v5 <<< (Int32.toInt64 v2 &&& 63))), (7, .int v4), (6, .int v2), (4, .long sg), (0, .long x), (2, .long y)] [] σ K
  have z0L : (0 : Int64).toInt = 0 := by decide
  exact run_Re_times_c hx hy hx0 hy0 hs (shx_ok hv1 hv5 hv2) (shx_ok hv3 hv6 hv4) k

end
