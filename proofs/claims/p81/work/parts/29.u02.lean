section
theorem run_M_fit_c1 {E : xV} {σ : zS} {K : zKt} {b e w : Int32} {m : Int64} {q : Int64} {f : Int32} {L : Nat} {t : Int} {g5 g6 : Int32} (h0 : 0 < uF m) (hL64 : L ≤ 64) (hL : lenF (uF m) L) (he : -50000 ≤ e.toInt ∧ e.toInt ≤ 50000) (ht : t = max (e.toInt + L - 53) (-1074)) (hq : FtQ (uF m) e.toInt (decide (¬ w = 0)) t (uF q) f.toInt) (k : ∀ v : Int64, (∃ R : Nat, FtM (uF m) e.toInt (decide (¬ w = 0)) R ∧ SgV b R v) → K (some (.long v)) σ) : Wz E Y_M_fit 135 [(9, .int f), (7, .long q), (6, .int g6), (5, .int g5), (0, .int b), (1, .long m), (3, .int e), (4, .int w)] [] σ K := by
  have hf := ftq_f he hL64 hL ht hq
  refine z_lload (i := 7) (q := 1) (pc' := 137) ⟨by decide +kernel, rfl⟩ rfl ?_
  refine z_invS (Z := Y_M_length) (idx := 353) (As := [.long q]) (rest := []) (nA := 1) (pc' := 140) ⟨k_11_126, k_1_12, k_11_128, by decide, by decide, by decide +kernel⟩ k_11_127 ⟨⟨by decide, by decide⟩, rfl, rfl⟩ ⟨by decide +kernel, rfl⟩ rfl rfl (Nat.le_of_ble_eq_true rfl) rfl rfl ?_
  refine cz_M_length (fun v1 hv1 => ?_)
  show Wz E Y_M_fit 140 [(9, .int f), (7, .long q), (6, .int g6), (5, .int g5), (0, .int b), (1, .long m), (3, .int e), (4, .int w)] [.int v1] σ K
  refine z_iload (i := 9) (q := 0) (pc' := 142) ⟨by decide +kernel, rfl⟩ rfl ?_
  refine z_iadd (pc' := 143) ⟨by decide +kernel, rfl⟩ ?_
  refine z_iconst (i := 1) (v := 1) (pc' := 144) ⟨by decide +kernel, rfl⟩ (by decide) ?_
  refine z_isub (pc' := 145) ⟨by decide +kernel, rfl⟩ ?_
  refine z_sipush (i := 1023) (v := 1023) (pc' := 148) ⟨by decide +kernel, rfl⟩ (by decide) ?_
  refine z_icmp_le (off := 13) (tgt := 161) (pc' := 151) ⟨by decide +kernel, by decide, rfl⟩ (fun h2 => ?_) (fun h2 => ?_)
  · refine z_iload_n (f := 0) (i := 0) (q := 4) (pc' := 162) ⟨by decide +kernel, rfl⟩ rfl rfl ?_
    refine z_lload (i := 7) (q := 1) (pc' := 164) ⟨by decide +kernel, rfl⟩ rfl ?_
    refine z_iload (i := 9) (q := 0) (pc' := 166) ⟨by decide +kernel, rfl⟩ rfl ?_
    refine z_invS (Z := Y_M_pack) (idx := 357) (As := [.int b, .long q, .int f]) (rest := []) (nA := 3) (pc' := 169) ⟨k_11_136, k_1_12, k_11_138, by decide, by decide, by decide +kernel⟩ k_11_137 ⟨⟨by decide, by decide⟩, rfl, rfl⟩ ⟨by decide +kernel, rfl⟩ rfl rfl (Nat.le_of_ble_eq_true rfl) rfl rfl ?_
    refine cz_M_pack (he := ⟨hf.1, by omega⟩) (hm := (ftq_le hL ht hq).1) (ht := ft_ht hv1 hf h2) (fun v3 hv3 => ?_)
    show Wz E Y_M_fit 169 [(9, .int f), (7, .long q), (6, .int g6), (5, .int g5), (0, .int b), (1, .long m), (3, .int e), (4, .int w)] [.long v3] σ K
    refine z_lret rfl (by decide +kernel) ?_
    obtain ⟨R, hR, hs⟩ := hv3
    exact k _ ⟨R, ft_endP h0 hL ht hq hv1 hf h2 hR, hs⟩
  · refine z_iload_n (f := 0) (i := 0) (q := 4) (pc' := 152) ⟨by decide +kernel, rfl⟩ rfl rfl ?_
    refine z_ldc2 (i := 339) (v := 9218868437227405312) (pc' := 155) ⟨by decide +kernel, rfl⟩ k_11_27 ?_
    refine z_invS (Z := Y_M_signed) (idx := 349) (As := [.int b, .long 9218868437227405312]) (rest := []) (nA := 2) (pc' := 158) ⟨k_11_132, k_1_12, k_11_134, by decide, by decide, by decide +kernel⟩ k_11_133 ⟨⟨by decide, by decide⟩, rfl, rfl⟩ ⟨by decide +kernel, rfl⟩ rfl rfl (Nat.le_of_ble_eq_true rfl) rfl rfl ?_
    refine cz_M_signed (R := infF) u_infF (by decide) (fun v4 hv4 => ?_)
    show Wz E Y_M_fit 158 [(9, .int f), (7, .long q), (6, .int g6), (5, .int g5), (0, .int b), (1, .long m), (3, .int e), (4, .int w)] [.long v4] σ K
    refine z_goto (off := 11) (tgt := 169) (pc' := 161) ⟨by decide +kernel, by decide, rfl⟩ ?_
    refine z_lret rfl (by decide +kernel) ?_
    exact k _ ⟨infF, ft_endI h0 hL ht hq hv1 hf h2, hv4⟩
theorem run_M_fit_c2 {E : xV} {σ : zS} {K : zKt} {b e w : Int32} {m : Int64} {q : Int64} {f : Int32} {L : Nat} {t : Int} {g5 g6 : Int32} {ga gc : Int64} (h0 : 0 < uF m) (hL64 : L ≤ 64) (hL : lenF (uF m) L) (he : -50000 ≤ e.toInt ∧ e.toInt ≤ 50000) (ht : t = max (e.toInt + L - 53) (-1074)) (hq : FtQ (uF m) e.toInt (decide (¬ w = 0)) t (uF q) f.toInt) (k : ∀ v : Int64, (∃ R : Nat, FtM (uF m) e.toInt (decide (¬ w = 0)) R ∧ SgV b R v) → K (some (.long v)) σ) : Wz E Y_M_fit 135 [(12, .long gc), (10, .long ga), (9, .int f), (7, .long q), (6, .int g6), (5, .int g5), (0, .int b), (1, .long m), (3, .int e), (4, .int w)] [] σ K := by
  have hf := ftq_f he hL64 hL ht hq
  refine z_lload (i := 7) (q := 3) (pc' := 137) ⟨by decide +kernel, rfl⟩ rfl ?_
  refine z_invS (Z := Y_M_length) (idx := 353) (As := [.long q]) (rest := []) (nA := 1) (pc' := 140) ⟨k_11_126, k_1_12, k_11_128, by decide, by decide, by decide +kernel⟩ k_11_127 ⟨⟨by decide, by decide⟩, rfl, rfl⟩ ⟨by decide +kernel, rfl⟩ rfl rfl (Nat.le_of_ble_eq_true rfl) rfl rfl ?_
  refine cz_M_length (fun v1 hv1 => ?_)
  show Wz E Y_M_fit 140 [(12, .long gc), (10, .long ga), (9, .int f), (7, .long q), (6, .int g6), (5, .int g5), (0, .int b), (1, .long m), (3, .int e), (4, .int w)] [.int v1] σ K
  refine z_iload (i := 9) (q := 2) (pc' := 142) ⟨by decide +kernel, rfl⟩ rfl ?_
  refine z_iadd (pc' := 143) ⟨by decide +kernel, rfl⟩ ?_
  refine z_iconst (i := 1) (v := 1) (pc' := 144) ⟨by decide +kernel, rfl⟩ (by decide) ?_
  refine z_isub (pc' := 145) ⟨by decide +kernel, rfl⟩ ?_
  refine z_sipush (i := 1023) (v := 1023) (pc' := 148) ⟨by decide +kernel, rfl⟩ (by decide) ?_
  refine z_icmp_le (off := 13) (tgt := 161) (pc' := 151) ⟨by decide +kernel, by decide, rfl⟩ (fun h2 => ?_) (fun h2 => ?_)
  · refine z_iload_n (f := 0) (i := 0) (q := 6) (pc' := 162) ⟨by decide +kernel, rfl⟩ rfl rfl ?_
    refine z_lload (i := 7) (q := 3) (pc' := 164) ⟨by decide +kernel, rfl⟩ rfl ?_
    refine z_iload (i := 9) (q := 2) (pc' := 166) ⟨by decide +kernel, rfl⟩ rfl ?_
    refine z_invS (Z := Y_M_pack) (idx := 357) (As := [.int b, .long q, .int f]) (rest := []) (nA := 3) (pc' := 169) ⟨k_11_136, k_1_12, k_11_138, by decide, by decide, by decide +kernel⟩ k_11_137 ⟨⟨by decide, by decide⟩, rfl, rfl⟩ ⟨by decide +kernel, rfl⟩ rfl rfl (Nat.le_of_ble_eq_true rfl) rfl rfl ?_
    refine cz_M_pack (he := ⟨hf.1, by omega⟩) (hm := (ftq_le hL ht hq).1) (ht := ft_ht hv1 hf h2) (fun v3 hv3 => ?_)
    show Wz E Y_M_fit 169 [(12, .long gc), (10, .long ga), (9, .int f), (7, .long q), (6, .int g6), (5, .int g5), (0, .int b), (1, .long m), (3, .int e), (4, .int w)] [.long v3] σ K
    refine z_lret rfl (by decide +kernel) ?_
    obtain ⟨R, hR, hs⟩ := hv3
    exact k _ ⟨R, ft_endP h0 hL ht hq hv1 hf h2 hR, hs⟩
  · refine z_iload_n (f := 0) (i := 0) (q := 6) (pc' := 152) ⟨by decide +kernel, rfl⟩ rfl rfl ?_
    refine z_ldc2 (i := 339) (v := 9218868437227405312) (pc' := 155) ⟨by decide +kernel, rfl⟩ k_11_27 ?_
    refine z_invS (Z := Y_M_signed) (idx := 349) (As := [.int b, .long 9218868437227405312]) (rest := []) (nA := 2) (pc' := 158) ⟨k_11_132, k_1_12, k_11_134, by decide, by decide, by decide +kernel⟩ k_11_133 ⟨⟨by decide, by decide⟩, rfl, rfl⟩ ⟨by decide +kernel, rfl⟩ rfl rfl (Nat.le_of_ble_eq_true rfl) rfl rfl ?_
    refine cz_M_signed (R := infF) u_infF (by decide) (fun v4 hv4 => ?_)
    show Wz E Y_M_fit 158 [(12, .long gc), (10, .long ga), (9, .int f), (7, .long q), (6, .int g6), (5, .int g5), (0, .int b), (1, .long m), (3, .int e), (4, .int w)] [.long v4] σ K
    refine z_goto (off := 11) (tgt := 169) (pc' := 161) ⟨by decide +kernel, by decide, rfl⟩ ?_
    refine z_lret rfl (by decide +kernel) ?_
    exact k _ ⟨infF, ft_endI h0 hL ht hq hv1 hf h2, hv4⟩
theorem run_M_fit_c3 {E : xV} {σ : zS} {K : zKt} {b e w : Int32} {m : Int64} {q : Int64} {f : Int32} {L : Nat} {t : Int} {g5 g6 : Int32} {ga gc : Int64} (h0 : 0 < uF m) (hL64 : L ≤ 64) (hL : lenF (uF m) L) (he : -50000 ≤ e.toInt ∧ e.toInt ≤ 50000) (ht : t = max (e.toInt + L - 53) (-1074)) (hq : FtQ (uF m) e.toInt (decide (¬ w = 0)) t (uF q) f.toInt) (k : ∀ v : Int64, (∃ R : Nat, FtM (uF m) e.toInt (decide (¬ w = 0)) R ∧ SgV b R v) → K (some (.long v)) σ) : Wz E Y_M_fit 135 [(7, .long q), (12, .long gc), (10, .long ga), (9, .int f), (6, .int g6), (5, .int g5), (0, .int b), (1, .long m), (3, .int e), (4, .int w)] [] σ K := by
  have hf := ftq_f he hL64 hL ht hq
  refine z_lload (i := 7) (q := 0) (pc' := 137) ⟨by decide +kernel, rfl⟩ rfl ?_
  refine z_invS (Z := Y_M_length) (idx := 353) (As := [.long q]) (rest := []) (nA := 1) (pc' := 140) ⟨k_11_126, k_1_12, k_11_128, by decide, by decide, by decide +kernel⟩ k_11_127 ⟨⟨by decide, by decide⟩, rfl, rfl⟩ ⟨by decide +kernel, rfl⟩ rfl rfl (Nat.le_of_ble_eq_true rfl) rfl rfl ?_
  refine cz_M_length (fun v1 hv1 => ?_)
  show Wz E Y_M_fit 140 [(7, .long q), (12, .long gc), (10, .long ga), (9, .int f), (6, .int g6), (5, .int g5), (0, .int b), (1, .long m), (3, .int e), (4, .int w)] [.int v1] σ K
  refine z_iload (i := 9) (q := 3) (pc' := 142) ⟨by decide +kernel, rfl⟩ rfl ?_
  refine z_iadd (pc' := 143) ⟨by decide +kernel, rfl⟩ ?_
  refine z_iconst (i := 1) (v := 1) (pc' := 144) ⟨by decide +kernel, rfl⟩ (by decide) ?_
  refine z_isub (pc' := 145) ⟨by decide +kernel, rfl⟩ ?_
  refine z_sipush (i := 1023) (v := 1023) (pc' := 148) ⟨by decide +kernel, rfl⟩ (by decide) ?_
  refine z_icmp_le (off := 13) (tgt := 161) (pc' := 151) ⟨by decide +kernel, by decide, rfl⟩ (fun h2 => ?_) (fun h2 => ?_)
  · refine z_iload_n (f := 0) (i := 0) (q := 6) (pc' := 162) ⟨by decide +kernel, rfl⟩ rfl rfl ?_
    refine z_lload (i := 7) (q := 0) (pc' := 164) ⟨by decide +kernel, rfl⟩ rfl ?_
    refine z_iload (i := 9) (q := 3) (pc' := 166) ⟨by decide +kernel, rfl⟩ rfl ?_
    refine z_invS (Z := Y_M_pack) (idx := 357) (As := [.int b, .long q, .int f]) (rest := []) (nA := 3) (pc' := 169) ⟨k_11_136, k_1_12, k_11_138, by decide, by decide, by decide +kernel⟩ k_11_137 ⟨⟨by decide, by decide⟩, rfl, rfl⟩ ⟨by decide +kernel, rfl⟩ rfl rfl (Nat.le_of_ble_eq_true rfl) rfl rfl ?_
    refine cz_M_pack (he := ⟨hf.1, by omega⟩) (hm := (ftq_le hL ht hq).1) (ht := ft_ht hv1 hf h2) (fun v3 hv3 => ?_)
    show Wz E Y_M_fit 169 [(7, .long q), (12, .long gc), (10, .long ga), (9, .int f), (6, .int g6), (5, .int g5), (0, .int b), (1, .long m), (3, .int e), (4, .int w)] [.long v3] σ K
    refine z_lret rfl (by decide +kernel) ?_
    obtain ⟨R, hR, hs⟩ := hv3
    exact k _ ⟨R, ft_endP h0 hL ht hq hv1 hf h2 hR, hs⟩
  · refine z_iload_n (f := 0) (i := 0) (q := 6) (pc' := 152) ⟨by decide +kernel, rfl⟩ rfl rfl ?_
    refine z_ldc2 (i := 339) (v := 9218868437227405312) (pc' := 155) ⟨by decide +kernel, rfl⟩ k_11_27 ?_
    refine z_invS (Z := Y_M_signed) (idx := 349) (As := [.int b, .long 9218868437227405312]) (rest := []) (nA := 2) (pc' := 158) ⟨k_11_132, k_1_12, k_11_134, by decide, by decide, by decide +kernel⟩ k_11_133 ⟨⟨by decide, by decide⟩, rfl, rfl⟩ ⟨by decide +kernel, rfl⟩ rfl rfl (Nat.le_of_ble_eq_true rfl) rfl rfl ?_
    refine cz_M_signed (R := infF) u_infF (by decide) (fun v4 hv4 => ?_)
    show Wz E Y_M_fit 158 [(7, .long q), (12, .long gc), (10, .long ga), (9, .int f), (6, .int g6), (5, .int g5), (0, .int b), (1, .long m), (3, .int e), (4, .int w)] [.long v4] σ K
    refine z_goto (off := 11) (tgt := 169) (pc' := 161) ⟨by decide +kernel, by decide, rfl⟩ ?_
    refine z_lret rfl (by decide +kernel) ?_
    exact k _ ⟨infF, ft_endI h0 hL ht hq hv1 hf h2, hv4⟩
theorem run_M_fit_b {E : xV} {σ : zS} {K : zKt} {b e w : Int32} {m : Int64} {t : Int32} {L : Nat} (h0 : 0 < uF m) (hL64 : L ≤ 64) (hL : lenF (uF m) L) (he : -50000 ≤ e.toInt ∧ e.toInt ≤ 50000) (hm : uF m < 4611686018427387904) (ht : t.toInt = max (e.toInt + L - 53) (-1074)) (k : ∀ v : Int64, (∃ R : Nat, FtM (uF m) e.toInt (decide (¬ w = 0)) R ∧ SgV b R v) → K (some (.long v)) σ) : Wz E Y_M_fit 41 [(5, .int t), (0, .int b), (1, .long m), (3, .int e), (4, .int w)] [] σ K := by
  have hd := ft_d he hL64 ht
  refine z_iload (i := 5) (q := 0) (pc' := 43) ⟨by decide +kernel, rfl⟩ rfl ?_
  refine z_iload_n (f := 3) (i := 3) (q := 3) (pc' := 44) ⟨by decide +kernel, rfl⟩ rfl rfl ?_
  refine z_isub (pc' := 45) ⟨by decide +kernel, rfl⟩ ?_
  refine z_istore (i := 6) (pc' := 47) ⟨by decide +kernel, rfl⟩ (by decide) rfl ?_
  show Wz E Y_M_fit 47 [(6, .int (t - e)), (5, .int t), (0, .int b), (1, .long m), (3, .int e), (4, .int w)] [] σ K
  refine z_iload (i := 6) (q := 0) (pc' := 49) ⟨by decide +kernel, rfl⟩ rfl ?_
  refine z_bipush (i := 62) (v := 62) (pc' := 51) ⟨by decide +kernel, rfl⟩ (by decide) ?_
  refine z_icmp_le (off := 9) (tgt := 60) (pc' := 54) ⟨by decide +kernel, by decide, rfl⟩ (fun h1 => ?_) (fun h1 => ?_)
  · refine z_lload_n (f := 1) (i := 1) (q := 3) (pc' := 61) ⟨by decide +kernel, rfl⟩ rfl rfl ?_
    refine z_lstore (i := 7) (pc' := 63) ⟨by decide +kernel, rfl⟩ (by decide) rfl ?_
    show Wz E Y_M_fit 63 [(7, .long m), (6, .int (t - e)), (5, .int t), (0, .int b), (1, .long m), (3, .int e), (4, .int w)] [] σ K
    refine z_iload_n (f := 3) (i := 3) (q := 5) (pc' := 64) ⟨by decide +kernel, rfl⟩ rfl rfl ?_
    refine z_istore (i := 9) (pc' := 66) ⟨by decide +kernel, rfl⟩ (by decide) rfl ?_
    show Wz E Y_M_fit 66 [(9, .int e), (7, .long m), (6, .int (t - e)), (5, .int t), (0, .int b), (1, .long m), (3, .int e), (4, .int w)] [] σ K
    refine z_iload (i := 6) (q := 2) (pc' := 68) ⟨by decide +kernel, rfl⟩ rfl ?_
    refine z_if_le (off := 67) (tgt := 135) (pc' := 71) ⟨by decide +kernel, by decide, rfl⟩ (fun h2 => ?_) (fun h2 => ?_)
    · exact run_M_fit_c1 h0 hL64 hL he ht (fq_keep h2 hd) k
    · refine z_lload_n (f := 1) (i := 1) (q := 5) (pc' := 72) ⟨by decide +kernel, rfl⟩ rfl rfl ?_
      refine z_iload (i := 6) (q := 2) (pc' := 74) ⟨by decide +kernel, rfl⟩ rfl ?_
      refine z_lshr (pc' := 75) ⟨by decide +kernel, rfl⟩ rfl ?_
      refine z_lstore (i := 7) (pc' := 77) ⟨by decide +kernel, rfl⟩ (by decide) rfl ?_
      show Wz E Y_M_fit 77 [(7, .long (m >>> (Int32.toInt64 (t - e) &&& 63))), (9, .int e), (6, .int (t - e)), (5, .int t), (0, .int b), (1, .long m), (3, .int e), (4, .int w)] [] σ K
      refine z_iload (i := 5) (q := 3) (pc' := 79) ⟨by decide +kernel, rfl⟩ rfl ?_
      refine z_istore (i := 9) (pc' := 81) ⟨by decide +kernel, rfl⟩ (by decide) rfl ?_
      show Wz E Y_M_fit 81 [(9, .int t), (7, .long (m >>> (Int32.toInt64 (t - e) &&& 63))), (6, .int (t - e)), (5, .int t), (0, .int b), (1, .long m), (3, .int e), (4, .int w)] [] σ K
      refine z_lload_n (f := 1) (i := 1) (q := 5) (pc' := 82) ⟨by decide +kernel, rfl⟩ rfl rfl ?_
      refine z_lconst (i := 1) (v := 1) (pc' := 83) ⟨by decide +kernel, rfl⟩ (by decide) ?_
      refine z_iload (i := 6) (q := 2) (pc' := 85) ⟨by decide +kernel, rfl⟩ rfl ?_
      refine z_lshl (pc' := 86) ⟨by decide +kernel, rfl⟩ rfl ?_
      refine z_lconst (i := 1) (v := 1) (pc' := 87) ⟨by decide +kernel, rfl⟩ (by decide) ?_
      refine z_lsub (pc' := 88) ⟨by decide +kernel, rfl⟩ ?_
      refine z_land (pc' := 89) ⟨by decide +kernel, rfl⟩ ?_
      refine z_lstore (i := 10) (pc' := 91) ⟨by decide +kernel, rfl⟩ (by decide) rfl ?_
      show Wz E Y_M_fit 91 [(10, .long (m &&& ((1 <<< (Int32.toInt64 (t - e) &&& 63)) - 1))), (9, .int t), (7, .long (m >>> (Int32.toInt64 (t - e) &&& 63))), (6, .int (t - e)), (5, .int t), (0, .int b), (1, .long m), (3, .int e), (4, .int w)] [] σ K
      refine z_lconst (i := 1) (v := 1) (pc' := 92) ⟨by decide +kernel, rfl⟩ (by decide) ?_
      refine z_iload (i := 6) (q := 3) (pc' := 94) ⟨by decide +kernel, rfl⟩ rfl ?_
      refine z_iconst (i := 1) (v := 1) (pc' := 95) ⟨by decide +kernel, rfl⟩ (by decide) ?_
      refine z_isub (pc' := 96) ⟨by decide +kernel, rfl⟩ ?_
      refine z_lshl (pc' := 97) ⟨by decide +kernel, rfl⟩ rfl ?_
      refine z_lstore (i := 12) (pc' := 99) ⟨by decide +kernel, rfl⟩ (by decide) rfl ?_
      show Wz E Y_M_fit 99 [(12, .long (1 <<< (Int32.toInt64 ((t - e) - 1) &&& 63))), (10, .long (m &&& ((1 <<< (Int32.toInt64 (t - e) &&& 63)) - 1))), (9, .int t), (7, .long (m >>> (Int32.toInt64 (t - e) &&& 63))), (6, .int (t - e)), (5, .int t), (0, .int b), (1, .long m), (3, .int e), (4, .int w)] [] σ K
      refine z_lload (i := 10) (q := 1) (pc' := 101) ⟨by decide +kernel, rfl⟩ rfl ?_
      refine z_lload (i := 12) (q := 0) (pc' := 103) ⟨by decide +kernel, rfl⟩ rfl ?_
      refine z_lcmp (pc' := 104) ⟨by decide +kernel, rfl⟩ ?_
      refine z_if_gt (off := 25) (tgt := 129) (pc' := 107) ⟨by decide +kernel, by decide, rfl⟩ (fun h3 => ?_) (fun h3 => ?_)
      · refine z_lload (i := 7) (q := 3) (pc' := 131) ⟨by decide +kernel, rfl⟩ rfl ?_
        refine z_lconst (i := 1) (v := 1) (pc' := 132) ⟨by decide +kernel, rfl⟩ (by decide) ?_
        refine z_ladd (pc' := 133) ⟨by decide +kernel, rfl⟩ ?_
        refine z_lstore (i := 7) (pc' := 135) ⟨by decide +kernel, rfl⟩ (by decide) rfl ?_
        show Wz E Y_M_fit 135 [(7, .long ((m >>> (Int32.toInt64 (t - e) &&& 63)) + 1)), (12, .long (1 <<< (Int32.toInt64 ((t - e) - 1) &&& 63))), (10, .long (m &&& ((1 <<< (Int32.toInt64 (t - e) &&& 63)) - 1))), (9, .int t), (6, .int (t - e)), (5, .int t), (0, .int b), (1, .long m), (3, .int e), (4, .int w)] [] σ K
        obtain ⟨s, hs, hs2, h1, h62⟩ := fq_sh h2 h1 hd
        have hc := ft_c (m := m) hs h1 h62
        have hu : upF (uF m) s (decide (¬ w = 0)) = true := ug_gt h1 (hc.1.mp ((lg_cmp_gt _ _).mp h3))
        exact run_M_fit_c3 h0 hL64 hL he ht (fq_up hm hs hs2 h1 h62 hu) k
      · refine z_lload (i := 10) (q := 1) (pc' := 109) ⟨by decide +kernel, rfl⟩ rfl ?_
        refine z_lload (i := 12) (q := 0) (pc' := 111) ⟨by decide +kernel, rfl⟩ rfl ?_
        refine z_lcmp (pc' := 112) ⟨by decide +kernel, rfl⟩ ?_
        refine z_if_ne (off := 23) (tgt := 135) (pc' := 115) ⟨by decide +kernel, by decide, rfl⟩ (fun h4 => ?_) (fun h4 => ?_)
        · obtain ⟨s, hs, hs2, h1, h62⟩ := fq_sh h2 h1 hd
          have hc := ft_c (m := m) hs h1 h62
          have n1 : ¬ 2 ^ (s - 1) < uF m % 2 ^ s := fun q => h3 ((lg_cmp_gt _ _).mpr (hc.1.mpr q))
          have n2 : uF m % 2 ^ s ≠ 2 ^ (s - 1) := fun q => h4 ((lg_cmp_eq _ _).mpr (hc.2.mpr q))
          have hu : upF (uF m) s (decide (¬ w = 0)) = false := ug_lt h1 (by omega)
          exact run_M_fit_c2 h0 hL64 hL he ht (fq_no hm hs hs2 h1 h62 hu) k
        · refine z_iload (i := 4) (q := 9) (pc' := 117) ⟨by decide +kernel, rfl⟩ rfl ?_
          refine z_if_ne (off := 12) (tgt := 129) (pc' := 120) ⟨by decide +kernel, by decide, rfl⟩ (fun h5 => ?_) (fun h5 => ?_)
          · refine z_lload (i := 7) (q := 3) (pc' := 131) ⟨by decide +kernel, rfl⟩ rfl ?_
            refine z_lconst (i := 1) (v := 1) (pc' := 132) ⟨by decide +kernel, rfl⟩ (by decide) ?_
            refine z_ladd (pc' := 133) ⟨by decide +kernel, rfl⟩ ?_
            refine z_lstore (i := 7) (pc' := 135) ⟨by decide +kernel, rfl⟩ (by decide) rfl ?_
            show Wz E Y_M_fit 135 [(7, .long ((m >>> (Int32.toInt64 (t - e) &&& 63)) + 1)), (12, .long (1 <<< (Int32.toInt64 ((t - e) - 1) &&& 63))), (10, .long (m &&& ((1 <<< (Int32.toInt64 (t - e) &&& 63)) - 1))), (9, .int t), (6, .int (t - e)), (5, .int t), (0, .int b), (1, .long m), (3, .int e), (4, .int w)] [] σ K
            obtain ⟨s, hs, hs2, h1, h62⟩ := fq_sh h2 h1 hd
            have hc := ft_c (m := m) hs h1 h62
            have hu : upF (uF m) s (decide (¬ w = 0)) = true := by rw [ug_tie h1 (hc.2.mp ((lg_cmp_eq _ _).mp h4)), decide_eq_true (p := ¬ w = 0) h5]; rfl
            exact run_M_fit_c3 h0 hL64 hL he ht (fq_up hm hs hs2 h1 h62 hu) k
          · refine z_lload (i := 7) (q := 3) (pc' := 122) ⟨by decide +kernel, rfl⟩ rfl ?_
            refine z_lconst (i := 1) (v := 1) (pc' := 123) ⟨by decide +kernel, rfl⟩ (by decide) ?_
            refine z_land (pc' := 124) ⟨by decide +kernel, rfl⟩ ?_
            refine z_lconst (i := 1) (v := 1) (pc' := 125) ⟨by decide +kernel, rfl⟩ (by decide) ?_
            refine z_lcmp (pc' := 126) ⟨by decide +kernel, rfl⟩ ?_
            refine z_if_ne (off := 9) (tgt := 135) (pc' := 129) ⟨by decide +kernel, by decide, rfl⟩ (fun h6 => ?_) (fun h6 => ?_)
            · obtain ⟨s, hs, hs2, h1, h62⟩ := fq_sh h2 h1 hd
              have hc := ft_c (m := m) hs h1 h62
              have od := fq_odd hm hs h62
              have hu : upF (uF m) s (decide (¬ w = 0)) = false := by rw [ug_tie h1 (hc.2.mp ((lg_cmp_eq _ _).mp h4)), decide_eq_false (p := ¬ w = 0) (fun q => q h5), decide_eq_false (p := uF m / 2 ^ s % 2 = 1) (fun q => h6 ((lg_cmp_eq _ _).mpr (od.mpr q)))]; rfl
              exact run_M_fit_c2 h0 hL64 hL he ht (fq_no hm hs hs2 h1 h62 hu) k
            · refine z_lload (i := 7) (q := 3) (pc' := 131) ⟨by decide +kernel, rfl⟩ rfl ?_
              refine z_lconst (i := 1) (v := 1) (pc' := 132) ⟨by decide +kernel, rfl⟩ (by decide) ?_
              refine z_ladd (pc' := 133) ⟨by decide +kernel, rfl⟩ ?_
              refine z_lstore (i := 7) (pc' := 135) ⟨by decide +kernel, rfl⟩ (by decide) rfl ?_
              show Wz E Y_M_fit 135 [(7, .long ((m >>> (Int32.toInt64 (t - e) &&& 63)) + 1)), (12, .long (1 <<< (Int32.toInt64 ((t - e) - 1) &&& 63))), (10, .long (m &&& ((1 <<< (Int32.toInt64 (t - e) &&& 63)) - 1))), (9, .int t), (6, .int (t - e)), (5, .int t), (0, .int b), (1, .long m), (3, .int e), (4, .int w)] [] σ K
              obtain ⟨s, hs, hs2, h1, h62⟩ := fq_sh h2 h1 hd
              have hc := ft_c (m := m) hs h1 h62
              have od := fq_odd hm hs h62
              have hu : upF (uF m) s (decide (¬ w = 0)) = true := by rw [ug_tie h1 (hc.2.mp ((lg_cmp_eq _ _).mp h4)), decide_eq_false (p := ¬ w = 0) (fun q => q h5), decide_eq_true (p := uF m / 2 ^ s % 2 = 1) (od.mp ((lg_cmp_eq _ _).mp h6))]; rfl
              exact run_M_fit_c3 h0 hL64 hL he ht (fq_up hm hs hs2 h1 h62 hu) k
  · refine z_iload_n (f := 0) (i := 0) (q := 2) (pc' := 55) ⟨by decide +kernel, rfl⟩ rfl rfl ?_
    refine z_lconst (i := 0) (v := 0) (pc' := 56) ⟨by decide +kernel, rfl⟩ (by decide) ?_
    refine z_invS (Z := Y_M_signed) (idx := 349) (As := [.int b, .long 0]) (rest := []) (nA := 2) (pc' := 59) ⟨k_11_132, k_1_12, k_11_134, by decide, by decide, by decide +kernel⟩ k_11_133 ⟨⟨by decide, by decide⟩, rfl, rfl⟩ ⟨by decide +kernel, rfl⟩ rfl rfl (Nat.le_of_ble_eq_true rfl) rfl rfl ?_
    refine cz_M_signed (R := 0) (by decide) (by decide) (fun v7 hv7 => ?_)
    show Wz E Y_M_fit 59 [(6, .int (t - e)), (5, .int t), (0, .int b), (1, .long m), (3, .int e), (4, .int w)] [.long v7] σ K
    refine z_lret rfl (by decide +kernel) ?_
    exact k _ ⟨0, ft_far h0 hL ht hd h1, hv7⟩
theorem run_M_fit {E : xV} {σ : zS} {K : zKt} {b e w : Int32} {m : Int64} (hm : uF m < 4611686018427387904) (he : -50000 ≤ e.toInt ∧ e.toInt ≤ 50000) (k : ∀ v : Int64, (∃ R : Nat, FtM (uF m) e.toInt (decide (¬ w = 0)) R ∧ SgV b R v) → K (some (.long v)) σ) : Wz E Y_M_fit 0 [(0, .int b), (1, .long m), (3, .int e), (4, .int w)] [] σ K := by
  refine z_lload_n (f := 1) (i := 1) (q := 1) (pc' := 1) ⟨by decide +kernel, rfl⟩ rfl rfl ?_
  refine z_lconst (i := 0) (v := 0) (pc' := 2) ⟨by decide +kernel, rfl⟩ (by decide) ?_
  refine z_lcmp (pc' := 3) ⟨by decide +kernel, rfl⟩ ?_
  refine z_if_ne (off := 9) (tgt := 12) (pc' := 6) ⟨by decide +kernel, by decide, rfl⟩ (fun h1 => ?_) (fun h1 => ?_)
  · refine z_iload_n (f := 3) (i := 3) (q := 2) (pc' := 13) ⟨by decide +kernel, rfl⟩ rfl rfl ?_
    refine z_lload_n (f := 1) (i := 1) (q := 1) (pc' := 14) ⟨by decide +kernel, rfl⟩ rfl rfl ?_
    refine z_invS (Z := Y_M_length) (idx := 353) (As := [.long m]) (rest := [.int e]) (nA := 1) (pc' := 17) ⟨k_11_126, k_1_12, k_11_128, by decide, by decide, by decide +kernel⟩ k_11_127 ⟨⟨by decide, by decide⟩, rfl, rfl⟩ ⟨by decide +kernel, rfl⟩ rfl rfl (Nat.le_of_ble_eq_true rfl) rfl rfl ?_
    refine cz_M_length (fun v2 hv2 => ?_)
    show Wz E Y_M_fit 17 [(0, .int b), (1, .long m), (3, .int e), (4, .int w)] [.int v2, .int e] σ K
    refine z_iadd (pc' := 18) ⟨by decide +kernel, rfl⟩ ?_
    refine z_bipush (i := 53) (v := 53) (pc' := 20) ⟨by decide +kernel, rfl⟩ (by decide) ?_
    refine z_isub (pc' := 21) ⟨by decide +kernel, rfl⟩ ?_
    refine z_istore (i := 5) (pc' := 23) ⟨by decide +kernel, rfl⟩ (by decide) rfl ?_
    show Wz E Y_M_fit 23 [(5, .int ((e + v2) - 53)), (0, .int b), (1, .long m), (3, .int e), (4, .int w)] [] σ K
    refine z_iload (i := 5) (q := 0) (pc' := 25) ⟨by decide +kernel, rfl⟩ rfl ?_
    refine z_sipush (i := (-1074)) (v := (-1074)) (pc' := 28) ⟨by decide +kernel, rfl⟩ (by decide) ?_
    refine z_icmp_ge (off := 9) (tgt := 37) (pc' := 31) ⟨by decide +kernel, by decide, rfl⟩ (fun h3 => ?_) (fun h3 => ?_)
    · refine z_iload (i := 5) (q := 0) (pc' := 39) ⟨by decide +kernel, rfl⟩ rfl ?_
      refine z_istore (i := 5) (pc' := 41) ⟨by decide +kernel, rfl⟩ (by decide) rfl ?_
      show Wz E Y_M_fit 41 [(5, .int ((e + v2) - 53)), (0, .int b), (1, .long m), (3, .int e), (4, .int w)] [] σ K
      have z0L : (0 : Int64).toInt = 0 := by decide
      have z__1074_ : ((-1074) : Int32).toInt = (-1074) := by decide
      have gh1 := k_ne_t h1
      have gh3 := j_ge_t h3
      obtain ⟨L, hv, hn64, hl, hz⟩ := hv2
      have ht := ft_t he hv hn64
      exact run_M_fit_b (u_pos (fun q => h1 ((lg_cmp_eq _ _).mpr q))) hn64 hl he hm (by omega) k
    · refine z_sipush (i := (-1074)) (v := (-1074)) (pc' := 34) ⟨by decide +kernel, rfl⟩ (by decide) ?_
      refine z_goto (off := 5) (tgt := 39) (pc' := 37) ⟨by decide +kernel, by decide, rfl⟩ ?_
      refine z_istore (i := 5) (pc' := 41) ⟨by decide +kernel, rfl⟩ (by decide) rfl ?_
      show Wz E Y_M_fit 41 [(5, .int (-1074)), (0, .int b), (1, .long m), (3, .int e), (4, .int w)] [] σ K
      have z0L : (0 : Int64).toInt = 0 := by decide
      have z__1074_ : ((-1074) : Int32).toInt = (-1074) := by decide
      have gh1 := k_ne_t h1
      have gh3 := j_ge_f h3
      obtain ⟨L, hv, hn64, hl, hz⟩ := hv2
      have ht := ft_t he hv hn64
      exact run_M_fit_b (u_pos (fun q => h1 ((lg_cmp_eq _ _).mpr q))) hn64 hl he hm (by omega) k
  · refine z_iload_n (f := 0) (i := 0) (q := 0) (pc' := 7) ⟨by decide +kernel, rfl⟩ rfl rfl ?_
    refine z_lconst (i := 0) (v := 0) (pc' := 8) ⟨by decide +kernel, rfl⟩ (by decide) ?_
    refine z_invS (Z := Y_M_signed) (idx := 349) (As := [.int b, .long 0]) (rest := []) (nA := 2) (pc' := 11) ⟨k_11_132, k_1_12, k_11_134, by decide, by decide, by decide +kernel⟩ k_11_133 ⟨⟨by decide, by decide⟩, rfl, rfl⟩ ⟨by decide +kernel, rfl⟩ rfl rfl (Nat.le_of_ble_eq_true rfl) rfl rfl ?_
    refine cz_M_signed (R := 0) (by decide) (by decide) (fun v4 hv4 => ?_)
    show Wz E Y_M_fit 11 [(0, .int b), (1, .long m), (3, .int e), (4, .int w)] [.long v4] σ K
    refine z_lret rfl (by decide +kernel) ?_
    exact k _ ⟨0, Or.inl ⟨by rw [(lg_cmp_eq _ _).mp h1]; decide, rfl⟩, hv4⟩
theorem cz_M_fit {E : xV} {σ : zS} {K : zKt} {b e w : Int32} {m : Int64} (hm : uF m < 4611686018427387904) (he : -50000 ≤ e.toInt ∧ e.toInt ≤ 50000) (k : ∀ v : Int64, (∃ R : Nat, FtM (uF m) e.toInt (decide (¬ w = 0)) R ∧ SgV b R v) → K (some (.long v)) σ) : Cz E Y_M_fit [.int b, .long m, .int e, .int w] σ K := z_entry (by decide) (fun a => by rw [sl_len]; exact Nat.le_of_ble_eq_true rfl) rfl (run_M_fit hm he k)
theorem run_M_ofWhole_b {E : xV} {σ : zS} {K : zKt} {x m : Int64} {w : Int32} (hw : (w = 0 ∧ 0 ≤ x.toInt) ∨ (¬ w = 0 ∧ x.toInt < 0)) (hm : uF m = x.toInt.natAbs) (k : ∀ v : Int64, OwR x.toInt v.toInt → K (some (.long v)) σ) : Wz E Y_M_ofWhole 23 [(3, .long m), (2, .int w), (0, .long x)] [] σ K := by
  refine z_lload_n (f := 3) (i := 3) (q := 0) (pc' := 24) ⟨by decide +kernel, rfl⟩ rfl rfl ?_
  refine z_invS (Z := Y_M_length) (idx := 353) (As := [.long m]) (rest := []) (nA := 1) (pc' := 27) ⟨k_11_126, k_1_12, k_11_128, by decide, by decide, by decide +kernel⟩ k_11_127 ⟨⟨by decide, by decide⟩, rfl, rfl⟩ ⟨by decide +kernel, rfl⟩ rfl rfl (Nat.le_of_ble_eq_true rfl) rfl rfl ?_
  refine cz_M_length (fun v1 hv1 => ?_)
  show Wz E Y_M_ofWhole 27 [(3, .long m), (2, .int w), (0, .long x)] [.int v1] σ K
  refine z_bipush (i := 63) (v := 63) (pc' := 29) ⟨by decide +kernel, rfl⟩ (by decide) ?_
  refine z_icmp_ge (off := 11) (tgt := 40) (pc' := 32) ⟨by decide +kernel, by decide, rfl⟩ (fun h2 => ?_) (fun h2 => ?_)
  · refine z_iload_n (f := 2) (i := 2) (q := 1) (pc' := 41) ⟨by decide +kernel, rfl⟩ rfl rfl ?_
    refine z_lload_n (f := 3) (i := 3) (q := 0) (pc' := 42) ⟨by decide +kernel, rfl⟩ rfl rfl ?_
    refine z_iconst (i := 2) (v := 2) (pc' := 43) ⟨by decide +kernel, rfl⟩ (by decide) ?_
    refine z_lushr (pc' := 44) ⟨by decide +kernel, rfl⟩ rfl ?_
    refine z_iconst (i := 2) (v := 2) (pc' := 45) ⟨by decide +kernel, rfl⟩ (by decide) ?_
    refine z_lload_n (f := 3) (i := 3) (q := 0) (pc' := 46) ⟨by decide +kernel, rfl⟩ rfl rfl ?_
    refine z_ldc2 (i := 365) (v := 3) (pc' := 49) ⟨by decide +kernel, rfl⟩ k_11_18 ?_
    refine z_land (pc' := 50) ⟨by decide +kernel, rfl⟩ ?_
    refine z_lconst (i := 0) (v := 0) (pc' := 51) ⟨by decide +kernel, rfl⟩ (by decide) ?_
    refine z_lcmp (pc' := 52) ⟨by decide +kernel, rfl⟩ ?_
    refine z_if_eq (off := 7) (tgt := 59) (pc' := 55) ⟨by decide +kernel, by decide, rfl⟩ (fun h3 => ?_) (fun h3 => ?_)
    · refine z_iconst (i := 0) (v := 0) (pc' := 60) ⟨by decide +kernel, rfl⟩ (by decide) ?_
      refine z_invS (Z := Y_M_fit) (idx := 361) (As := [.int w, .long ((Int64.toUInt64 m >>> ((Int32.toInt64 2).toUInt64 &&& Int64.toUInt64 63)).toInt64), .int 2, .int 0]) (rest := []) (nA := 4) (pc' := 63) ⟨k_11_129, k_1_12, k_11_131, by decide, by decide, by decide +kernel⟩ k_11_130 ⟨⟨by decide, by decide⟩, rfl, rfl⟩ ⟨by decide +kernel, rfl⟩ rfl rfl (Nat.le_of_ble_eq_true rfl) rfl rfl ?_
      refine cz_M_fit (hm := owm_hi hm) (he := by decide) (fun v4 hv4 => ?_)
      show Wz E Y_M_ofWhole 63 [(3, .long m), (2, .int w), (0, .long x)] [.long v4] σ K
      refine z_lret rfl (by decide +kernel) ?_
      exact k _ (owm_endhi0 hw hm hv1 h2 ((lg_cmp_eq _ _).mp h3) hv4)
    · refine z_iconst (i := 1) (v := 1) (pc' := 56) ⟨by decide +kernel, rfl⟩ (by decide) ?_
      refine z_goto (off := 4) (tgt := 60) (pc' := 59) ⟨by decide +kernel, by decide, rfl⟩ ?_
      refine z_invS (Z := Y_M_fit) (idx := 361) (As := [.int w, .long ((Int64.toUInt64 m >>> ((Int32.toInt64 2).toUInt64 &&& Int64.toUInt64 63)).toInt64), .int 2, .int 1]) (rest := []) (nA := 4) (pc' := 63) ⟨k_11_129, k_1_12, k_11_131, by decide, by decide, by decide +kernel⟩ k_11_130 ⟨⟨by decide, by decide⟩, rfl, rfl⟩ ⟨by decide +kernel, rfl⟩ rfl rfl (Nat.le_of_ble_eq_true rfl) rfl rfl ?_
      refine cz_M_fit (hm := owm_hi hm) (he := by decide) (fun v5 hv5 => ?_)
      show Wz E Y_M_ofWhole 63 [(3, .long m), (2, .int w), (0, .long x)] [.long v5] σ K
      refine z_lret rfl (by decide +kernel) ?_
      exact k _ (owm_endhi1 hw hm hv1 h2 (fun q => h3 ((lg_cmp_eq _ _).mpr q)) hv5)
  · refine z_iload_n (f := 2) (i := 2) (q := 1) (pc' := 33) ⟨by decide +kernel, rfl⟩ rfl rfl ?_
    refine z_lload_n (f := 3) (i := 3) (q := 0) (pc' := 34) ⟨by decide +kernel, rfl⟩ rfl rfl ?_
    refine z_iconst (i := 0) (v := 0) (pc' := 35) ⟨by decide +kernel, rfl⟩ (by decide) ?_
    refine z_iconst (i := 0) (v := 0) (pc' := 36) ⟨by decide +kernel, rfl⟩ (by decide) ?_
    refine z_invS (Z := Y_M_fit) (idx := 361) (As := [.int w, .long m, .int 0, .int 0]) (rest := []) (nA := 4) (pc' := 39) ⟨k_11_129, k_1_12, k_11_131, by decide, by decide, by decide +kernel⟩ k_11_130 ⟨⟨by decide, by decide⟩, rfl, rfl⟩ ⟨by decide +kernel, rfl⟩ rfl rfl (Nat.le_of_ble_eq_true rfl) rfl rfl ?_
    refine cz_M_fit (hm := owm_lo hv1 h2) (he := by decide) (fun v6 hv6 => ?_)
    show Wz E Y_M_ofWhole 39 [(3, .long m), (2, .int w), (0, .long x)] [.long v6] σ K
    refine z_lret rfl (by decide +kernel) ?_
    exact k _ (owm_endlo hw hm hv1 h2 hv6)
theorem run_M_ofWhole {E : xV} {σ : zS} {K : zKt} {x : Int64} (k : ∀ v : Int64, OwR x.toInt v.toInt → K (some (.long v)) σ) : Wz E Y_M_ofWhole 0 [(0, .long x)] [] σ K := by
  refine z_lload_n (f := 0) (i := 0) (q := 0) (pc' := 1) ⟨by decide +kernel, rfl⟩ rfl rfl ?_
  refine z_lconst (i := 0) (v := 0) (pc' := 2) ⟨by decide +kernel, rfl⟩ (by decide) ?_
  refine z_lcmp (pc' := 3) ⟨by decide +kernel, rfl⟩ ?_
  refine z_if_ge (off := 7) (tgt := 10) (pc' := 6) ⟨by decide +kernel, by decide, rfl⟩ (fun h1 => ?_) (fun h1 => ?_)
  · refine z_iconst (i := 0) (v := 0) (pc' := 11) ⟨by decide +kernel, rfl⟩ (by decide) ?_
    refine z_istore_n (f := 2) (i := 2) (pc' := 12) ⟨by decide +kernel, rfl⟩ rfl (by decide) rfl ?_
    show Wz E Y_M_ofWhole 12 [(2, .int 0), (0, .long x)] [] σ K
    refine z_iload_n (f := 2) (i := 2) (q := 0) (pc' := 13) ⟨by decide +kernel, rfl⟩ rfl rfl ?_
    refine z_if_eq (off := 8) (tgt := 21) (pc' := 16) ⟨by decide +kernel, by decide, rfl⟩ (fun h2 => ?_) (fun h2 => ?_)
    · refine z_lload_n (f := 0) (i := 0) (q := 1) (pc' := 22) ⟨by decide +kernel, rfl⟩ rfl rfl ?_
      refine z_lstore_n (f := 3) (i := 3) (pc' := 23) ⟨by decide +kernel, rfl⟩ rfl (by decide) rfl ?_
      show Wz E Y_M_ofWhole 23 [(3, .long x), (2, .int 0), (0, .long x)] [] σ K
      have z0L : (0 : Int64).toInt = 0 := by decide
      have z0 : (0 : Int32).toInt = 0 := by decide
      have gh1 := k_ge_t h1
      have gh2 := j_eq_t (y := 0) h2
      exact run_M_ofWhole_b (Or.inl ⟨rfl, by omega⟩) (owm_p (by omega)) k
    · refine z_lload_n (f := 0) (i := 0) (q := 1) (pc' := 17) ⟨by decide +kernel, rfl⟩ rfl rfl ?_
      refine z_lneg (pc' := 18) ⟨by decide +kernel, rfl⟩ ?_
      refine z_goto (off := 4) (tgt := 22) (pc' := 21) ⟨by decide +kernel, by decide, rfl⟩ ?_
      refine z_lstore_n (f := 3) (i := 3) (pc' := 23) ⟨by decide +kernel, rfl⟩ rfl (by decide) rfl ?_
      show Wz E Y_M_ofWhole 23 [(3, .long (-x)), (2, .int 0), (0, .long x)] [] σ K
      have z0L : (0 : Int64).toInt = 0 := by decide
      have z0 : (0 : Int32).toInt = 0 := by decide
      have gh1 := k_ge_t h1
      have gh2 := j_eq_f (y := 0) h2
      exact run_M_ofWhole_b (Or.inl ⟨rfl, by omega⟩) (owm_n (by omega)) k
  · refine z_iconst (i := 1) (v := 1) (pc' := 7) ⟨by decide +kernel, rfl⟩ (by decide) ?_
    refine z_goto (off := 4) (tgt := 11) (pc' := 10) ⟨by decide +kernel, by decide, rfl⟩ ?_
    refine z_istore_n (f := 2) (i := 2) (pc' := 12) ⟨by decide +kernel, rfl⟩ rfl (by decide) rfl ?_
    show Wz E Y_M_ofWhole 12 [(2, .int 1), (0, .long x)] [] σ K
    refine z_iload_n (f := 2) (i := 2) (q := 0) (pc' := 13) ⟨by decide +kernel, rfl⟩ rfl rfl ?_
    refine z_if_eq (off := 8) (tgt := 21) (pc' := 16) ⟨by decide +kernel, by decide, rfl⟩ (fun h3 => ?_) (fun h3 => ?_)
    · refine z_lload_n (f := 0) (i := 0) (q := 1) (pc' := 22) ⟨by decide +kernel, rfl⟩ rfl rfl ?_
      refine z_lstore_n (f := 3) (i := 3) (pc' := 23) ⟨by decide +kernel, rfl⟩ rfl (by decide) rfl ?_
      show Wz E Y_M_ofWhole 23 [(3, .long x), (2, .int 1), (0, .long x)] [] σ K
      have z0L : (0 : Int64).toInt = 0 := by decide
      have z0 : (0 : Int32).toInt = 0 := by decide
      have z1 : (1 : Int32).toInt = 1 := by decide
      have gh1 := k_ge_f h1
      have gh3 := j_eq_t (y := 0) h3
      exact run_M_ofWhole_b (Or.inr ⟨by decide, by omega⟩) (owm_p (by omega)) k
    · refine z_lload_n (f := 0) (i := 0) (q := 1) (pc' := 17) ⟨by decide +kernel, rfl⟩ rfl rfl ?_
      refine z_lneg (pc' := 18) ⟨by decide +kernel, rfl⟩ ?_
      refine z_goto (off := 4) (tgt := 22) (pc' := 21) ⟨by decide +kernel, by decide, rfl⟩ ?_
      refine z_lstore_n (f := 3) (i := 3) (pc' := 23) ⟨by decide +kernel, rfl⟩ rfl (by decide) rfl ?_
      show Wz E Y_M_ofWhole 23 [(3, .long (-x)), (2, .int 1), (0, .long x)] [] σ K
      have z0L : (0 : Int64).toInt = 0 := by decide
      have z0 : (0 : Int32).toInt = 0 := by decide
      have z1 : (1 : Int32).toInt = 1 := by decide
      have gh1 := k_ge_f h1
      have gh3 := j_eq_f (y := 0) h3
      exact run_M_ofWhole_b (Or.inr ⟨by decide, by omega⟩) (owm_n (by omega)) k
theorem cz_M_ofWhole {E : xV} {σ : zS} {K : zKt} {x : Int64} (k : ∀ v : Int64, OwR x.toInt v.toInt → K (some (.long v)) σ) : Cz E Y_M_ofWhole [.long x] σ K := z_entry (by decide) (fun a => by rw [sl_len]; exact Nat.le_of_ble_eq_true rfl) rfl (run_M_ofWhole k)
theorem run_Re_plus_d {E : xV} {σ : zS} {K : zKt} {x y mo le a b t : Int64} {d : Int32} (h : PcD x y mo le b t) (k : ∀ v : Int64, PlR x.toInt y.toInt v.toInt → K (some (.long v)) σ) : Wz E Y_Re_plus 218 [(13, .long t), (11, .long b), (9, .long a), (8, .int d), (6, .long le), (4, .long mo), (0, .long x), (2, .long y)] [] σ K := by
  have z0L : (0 : Int64).toInt = 0 := by decide
  refine z_lload (i := 13) (q := 0) (pc' := 220) ⟨by decide +kernel, rfl⟩ rfl ?_
  refine z_lconst (i := 0) (v := 0) (pc' := 221) ⟨by decide +kernel, rfl⟩ (by decide) ?_
  refine z_lcmp (pc' := 222) ⟨by decide +kernel, rfl⟩ ?_
  refine z_if_ne (off := 11) (tgt := 233) (pc' := 225) ⟨by decide +kernel, by decide, rfl⟩ (fun h1 => ?_) (fun h1 => ?_)
  · refine z_lload (i := 13) (q := 0) (pc' := 235) ⟨by decide +kernel, rfl⟩ rfl ?_
    refine z_lconst (i := 0) (v := 0) (pc' := 236) ⟨by decide +kernel, rfl⟩ (by decide) ?_
    refine z_lcmp (pc' := 237) ⟨by decide +kernel, rfl⟩ ?_
    refine z_if_ge (off := 23) (tgt := 260) (pc' := 240) ⟨by decide +kernel, by decide, rfl⟩ (fun h2 => ?_) (fun h2 => ?_)
    · refine z_lconst (i := 0) (v := 0) (pc' := 261) ⟨by decide +kernel, rfl⟩ (by decide) ?_
      refine z_lload (i := 13) (q := 0) (pc' := 263) ⟨by decide +kernel, rfl⟩ rfl ?_
      refine z_lload (i := 4) (q := 5) (pc' := 265) ⟨by decide +kernel, rfl⟩ rfl ?_
      refine z_invS (Z := Y_Re_exponent) (idx := 38) (As := [.long mo]) (rest := [.long t, .long 0]) (nA := 1) (pc' := 268) ⟨k_4_140, k_1_13, k_4_142, by decide, by decide, by decide +kernel⟩ k_4_141 ⟨⟨by decide, by decide⟩, rfl, rfl⟩ ⟨by decide +kernel, rfl⟩ rfl rfl (Nat.le_of_ble_eq_true rfl) rfl rfl ?_
      refine cz_Re_exponent (fun v3 hv3 => ?_)
      show Wz E Y_Re_plus 268 [(13, .long t), (11, .long b), (9, .long a), (8, .int d), (6, .long le), (4, .long mo), (0, .long x), (2, .long y)] [.int v3, .long t, .long 0] σ K
      refine z_bipush (i := 9) (v := 9) (pc' := 270) ⟨by decide +kernel, rfl⟩ (by decide) ?_
      refine z_isub (pc' := 271) ⟨by decide +kernel, rfl⟩ ?_
      refine z_invS (Z := Y_Re_packed) (idx := 31) (As := [.long 0, .long t, .int (v3 - 9)]) (rest := []) (nA := 3) (pc' := 274) ⟨k_4_117, k_1_13, k_4_119, by decide, by decide, by decide +kernel⟩ k_4_118 ⟨⟨by decide, by decide⟩, rfl, rfl⟩ ⟨by decide +kernel, rfl⟩ rfl rfl (Nat.le_of_ble_eq_true rfl) rfl rfl ?_
      refine cz_Re_packed (neg := False) sgu_f (pcd_up (x := x) (y := y) (mo := mo) (le := le) (b := b) (by have q := k_ge_t h2; rw [z0L] at q; exact q)).1 (pcd_eb hv3) (fun v4 hv4 => ?_)
      show Wz E Y_Re_plus 274 [(13, .long t), (11, .long b), (9, .long a), (8, .int d), (6, .long le), (4, .long mo), (0, .long x), (2, .long y)] [.long v4] σ K
      refine z_lret rfl (by decide +kernel) ?_
      have z0L : (0 : Int64).toInt = 0 := by decide
      have gh1 := k_ne_t h1
      have gh2 := k_ge_t h2
      exact k _ (pcd_pos h (by omega) (by omega) hv3 hv4)
    · refine z_ldc2 (i := 19) (v := (-9223372036854775808)) (pc' := 243) ⟨by decide +kernel, rfl⟩ k_4_115 ?_
      refine z_lload (i := 13) (q := 0) (pc' := 245) ⟨by decide +kernel, rfl⟩ rfl ?_
      refine z_lneg (pc' := 246) ⟨by decide +kernel, rfl⟩ ?_
      refine z_lload (i := 4) (q := 5) (pc' := 248) ⟨by decide +kernel, rfl⟩ rfl ?_
      refine z_invS (Z := Y_Re_exponent) (idx := 38) (As := [.long mo]) (rest := [.long (-t), .long (-9223372036854775808)]) (nA := 1) (pc' := 251) ⟨k_4_140, k_1_13, k_4_142, by decide, by decide, by decide +kernel⟩ k_4_141 ⟨⟨by decide, by decide⟩, rfl, rfl⟩ ⟨by decide +kernel, rfl⟩ rfl rfl (Nat.le_of_ble_eq_true rfl) rfl rfl ?_
      refine cz_Re_exponent (fun v5 hv5 => ?_)
      show Wz E Y_Re_plus 251 [(13, .long t), (11, .long b), (9, .long a), (8, .int d), (6, .long le), (4, .long mo), (0, .long x), (2, .long y)] [.int v5, .long (-t), .long (-9223372036854775808)] σ K
      refine z_bipush (i := 9) (v := 9) (pc' := 253) ⟨by decide +kernel, rfl⟩ (by decide) ?_
      refine z_isub (pc' := 254) ⟨by decide +kernel, rfl⟩ ?_
      refine z_invS (Z := Y_Re_packed) (idx := 31) (As := [.long (-9223372036854775808), .long (-t), .int (v5 - 9)]) (rest := []) (nA := 3) (pc' := 257) ⟨k_4_117, k_1_13, k_4_119, by decide, by decide, by decide +kernel⟩ k_4_118 ⟨⟨by decide, by decide⟩, rfl, rfl⟩ ⟨by decide +kernel, rfl⟩ rfl rfl (Nat.le_of_ble_eq_true rfl) rfl rfl ?_
      refine cz_Re_packed (neg := True) sgu_t (pcd_un h (by have q := k_ge_f h2; rw [z0L] at q; exact q)).1 (pcd_eb hv5) (fun v6 hv6 => ?_)
      show Wz E Y_Re_plus 257 [(13, .long t), (11, .long b), (9, .long a), (8, .int d), (6, .long le), (4, .long mo), (0, .long x), (2, .long y)] [.long v6] σ K
      refine z_goto (off := 17) (tgt := 274) (pc' := 260) ⟨by decide +kernel, by decide, rfl⟩ ?_
      refine z_lret rfl (by decide +kernel) ?_
      have z0L : (0 : Int64).toInt = 0 := by decide
      have gh1 := k_ne_t h1
      have gh2 := k_ge_f h2
      exact k _ (pcd_neg h (by omega) hv5 hv6)
  · refine z_lload_n (f := 0) (i := 0) (q := 6) (pc' := 226) ⟨by decide +kernel, rfl⟩ rfl rfl ?_
    refine z_lload_n (f := 2) (i := 2) (q := 7) (pc' := 227) ⟨by decide +kernel, rfl⟩ rfl rfl ?_
    refine z_land (pc' := 228) ⟨by decide +kernel, rfl⟩ ?_
    refine z_ldc2 (i := 19) (v := (-9223372036854775808)) (pc' := 231) ⟨by decide +kernel, rfl⟩ k_4_115 ?_
    refine z_land (pc' := 232) ⟨by decide +kernel, rfl⟩ ?_
    refine z_lret rfl (by decide +kernel) ?_
    have z0L : (0 : Int64).toInt = 0 := by decide
    have gh1 := k_ne_f h1
    exact k _ (pcd_zero h (by omega))
theorem run_Re_plus_c1 {E : xV} {σ : zS} {K : zKt} {x y mo le a b : Int64} {d : Int32} (hxy : (mo = x ∧ le = y) ∨ (mo = y ∧ le = x)) (hx : mgF x.toInt < infF) (hy : mgF y.toInt < infF) (he : exF (mgF le.toInt) ≤ exF (mgF mo.toInt)) (ha : uF a = 512 * mzF (mgF mo.toInt)) (hc : JamF (512 * mzF (mgF le.toInt)) (exF (mgF mo.toInt) - exF (mgF le.toInt)).toNat (uF b)) (hb : uF b ≤ 4611686018427387904) (k : ∀ v : Int64, PlR x.toInt y.toInt v.toInt → K (some (.long v)) σ) : Wz E Y_Re_plus 185 [(11, .long b), (9, .long a), (8, .int d), (6, .long le), (4, .long mo), (0, .long x), (2, .long y)] [] σ K := by
  refine z_lload (i := 4) (q := 4) (pc' := 187) ⟨by decide +kernel, rfl⟩ rfl ?_
  refine z_lconst (i := 0) (v := 0) (pc' := 188) ⟨by decide +kernel, rfl⟩ (by decide) ?_
  refine z_lcmp (pc' := 189) ⟨by decide +kernel, rfl⟩ ?_
  refine z_if_ge (off := 9) (tgt := 198) (pc' := 192) ⟨by decide +kernel, by decide, rfl⟩ (fun h1 => ?_) (fun h1 => ?_)
  · refine z_lload (i := 9) (q := 1) (pc' := 200) ⟨by decide +kernel, rfl⟩ rfl ?_
    refine z_lload (i := 6) (q := 3) (pc' := 202) ⟨by decide +kernel, rfl⟩ rfl ?_
    refine z_lconst (i := 0) (v := 0) (pc' := 203) ⟨by decide +kernel, rfl⟩ (by decide) ?_
    refine z_lcmp (pc' := 204) ⟨by decide +kernel, rfl⟩ ?_
    refine z_if_ge (off := 9) (tgt := 213) (pc' := 207) ⟨by decide +kernel, by decide, rfl⟩ (fun h2 => ?_) (fun h2 => ?_)
    · refine z_lload (i := 11) (q := 0) (pc' := 215) ⟨by decide +kernel, rfl⟩ rfl ?_
      refine z_ladd (pc' := 216) ⟨by decide +kernel, rfl⟩ ?_
      refine z_lstore (i := 13) (pc' := 218) ⟨by decide +kernel, rfl⟩ (by decide) rfl ?_
      show Wz E Y_Re_plus 218 [(13, .long (a + b)), (11, .long b), (9, .long a), (8, .int d), (6, .long le), (4, .long mo), (0, .long x), (2, .long y)] [] σ K
      have z0L : (0 : Int64).toInt = 0 := by decide
      have gh1 := k_ge_t h1
      have gh2 := k_ge_t h2
      have q := pl_tot (a := a) (b := b) rfl (by have := mz_lt (mgF mo.toInt); omega) rfl hb
      exact run_Re_plus_d ⟨hxy, hx, hy, he, hc, hb, by rw [q.1, sg_p (by omega), sg_p (by omega), ha]; omega⟩ k
    · refine z_lload (i := 11) (q := 0) (pc' := 209) ⟨by decide +kernel, rfl⟩ rfl ?_
      refine z_lneg (pc' := 210) ⟨by decide +kernel, rfl⟩ ?_
      refine z_goto (off := 5) (tgt := 215) (pc' := 213) ⟨by decide +kernel, by decide, rfl⟩ ?_
      refine z_ladd (pc' := 216) ⟨by decide +kernel, rfl⟩ ?_
      refine z_lstore (i := 13) (pc' := 218) ⟨by decide +kernel, rfl⟩ (by decide) rfl ?_
      show Wz E Y_Re_plus 218 [(13, .long (a + (-b))), (11, .long b), (9, .long a), (8, .int d), (6, .long le), (4, .long mo), (0, .long x), (2, .long y)] [] σ K
      have z0L : (0 : Int64).toInt = 0 := by decide
      have gh1 := k_ge_t h1
      have gh2 := k_ge_f h2
      have q := pl_tot (a := a) (b := b) rfl (by have := mz_lt (mgF mo.toInt); omega) rfl hb
      exact run_Re_plus_d ⟨hxy, hx, hy, he, hc, hb, by rw [q.2.2.1, sg_p (by omega), sg_n (by omega), ha]; omega⟩ k
  · refine z_lload (i := 9) (q := 1) (pc' := 194) ⟨by decide +kernel, rfl⟩ rfl ?_
    refine z_lneg (pc' := 195) ⟨by decide +kernel, rfl⟩ ?_
    refine z_goto (off := 5) (tgt := 200) (pc' := 198) ⟨by decide +kernel, by decide, rfl⟩ ?_
    refine z_lload (i := 6) (q := 3) (pc' := 202) ⟨by decide +kernel, rfl⟩ rfl ?_
    refine z_lconst (i := 0) (v := 0) (pc' := 203) ⟨by decide +kernel, rfl⟩ (by decide) ?_
    refine z_lcmp (pc' := 204) ⟨by decide +kernel, rfl⟩ ?_
    refine z_if_ge (off := 9) (tgt := 213) (pc' := 207) ⟨by decide +kernel, by decide, rfl⟩ (fun h3 => ?_) (fun h3 => ?_)
    · refine z_lload (i := 11) (q := 0) (pc' := 215) ⟨by decide +kernel, rfl⟩ rfl ?_
      refine z_ladd (pc' := 216) ⟨by decide +kernel, rfl⟩ ?_
      refine z_lstore (i := 13) (pc' := 218) ⟨by decide +kernel, rfl⟩ (by decide) rfl ?_
      show Wz E Y_Re_plus 218 [(13, .long ((-a) + b)), (11, .long b), (9, .long a), (8, .int d), (6, .long le), (4, .long mo), (0, .long x), (2, .long y)] [] σ K
      have z0L : (0 : Int64).toInt = 0 := by decide
      have gh1 := k_ge_f h1
      have gh3 := k_ge_t h3
      have q := pl_tot (a := a) (b := b) rfl (by have := mz_lt (mgF mo.toInt); omega) rfl hb
      exact run_Re_plus_d ⟨hxy, hx, hy, he, hc, hb, by rw [q.2.1, sg_n (by omega), sg_p (by omega), ha]; omega⟩ k
    · refine z_lload (i := 11) (q := 0) (pc' := 209) ⟨by decide +kernel, rfl⟩ rfl ?_
      refine z_lneg (pc' := 210) ⟨by decide +kernel, rfl⟩ ?_
      refine z_goto (off := 5) (tgt := 215) (pc' := 213) ⟨by decide +kernel, by decide, rfl⟩ ?_
      refine z_ladd (pc' := 216) ⟨by decide +kernel, rfl⟩ ?_
      refine z_lstore (i := 13) (pc' := 218) ⟨by decide +kernel, rfl⟩ (by decide) rfl ?_
      show Wz E Y_Re_plus 218 [(13, .long ((-a) + (-b))), (11, .long b), (9, .long a), (8, .int d), (6, .long le), (4, .long mo), (0, .long x), (2, .long y)] [] σ K
      have z0L : (0 : Int64).toInt = 0 := by decide
      have gh1 := k_ge_f h1
      have gh3 := k_ge_f h3
      have q := pl_tot (a := a) (b := b) rfl (by have := mz_lt (mgF mo.toInt); omega) rfl hb
      exact run_Re_plus_d ⟨hxy, hx, hy, he, hc, hb, by rw [q.2.2.2, sg_n (by omega), sg_n (by omega), ha]; omega⟩ k
theorem run_Re_plus_c2 {E : xV} {σ : zS} {K : zKt} {x y mo le a b g : Int64} {d : Int32} (hxy : (mo = x ∧ le = y) ∨ (mo = y ∧ le = x)) (hx : mgF x.toInt < infF) (hy : mgF y.toInt < infF) (he : exF (mgF le.toInt) ≤ exF (mgF mo.toInt)) (ha : uF a = 512 * mzF (mgF mo.toInt)) (hc : JamF (512 * mzF (mgF le.toInt)) (exF (mgF mo.toInt) - exF (mgF le.toInt)).toNat (uF b)) (hb : uF b ≤ 4611686018427387904) (k : ∀ v : Int64, PlR x.toInt y.toInt v.toInt → K (some (.long v)) σ) : Wz E Y_Re_plus 185 [(11, .long b), (13, .long g), (9, .long a), (8, .int d), (6, .long le), (4, .long mo), (0, .long x), (2, .long y)] [] σ K := by
  refine z_lload (i := 4) (q := 5) (pc' := 187) ⟨by decide +kernel, rfl⟩ rfl ?_
  refine z_lconst (i := 0) (v := 0) (pc' := 188) ⟨by decide +kernel, rfl⟩ (by decide) ?_
  refine z_lcmp (pc' := 189) ⟨by decide +kernel, rfl⟩ ?_
  refine z_if_ge (off := 9) (tgt := 198) (pc' := 192) ⟨by decide +kernel, by decide, rfl⟩ (fun h1 => ?_) (fun h1 => ?_)
  · refine z_lload (i := 9) (q := 2) (pc' := 200) ⟨by decide +kernel, rfl⟩ rfl ?_
    refine z_lload (i := 6) (q := 4) (pc' := 202) ⟨by decide +kernel, rfl⟩ rfl ?_
    refine z_lconst (i := 0) (v := 0) (pc' := 203) ⟨by decide +kernel, rfl⟩ (by decide) ?_
    refine z_lcmp (pc' := 204) ⟨by decide +kernel, rfl⟩ ?_
    refine z_if_ge (off := 9) (tgt := 213) (pc' := 207) ⟨by decide +kernel, by decide, rfl⟩ (fun h2 => ?_) (fun h2 => ?_)
    · refine z_lload (i := 11) (q := 0) (pc' := 215) ⟨by decide +kernel, rfl⟩ rfl ?_
      refine z_ladd (pc' := 216) ⟨by decide +kernel, rfl⟩ ?_
      refine z_lstore (i := 13) (pc' := 218) ⟨by decide +kernel, rfl⟩ (by decide) rfl ?_
      show Wz E Y_Re_plus 218 [(13, .long (a + b)), (11, .long b), (9, .long a), (8, .int d), (6, .long le), (4, .long mo), (0, .long x), (2, .long y)] [] σ K
      have z0L : (0 : Int64).toInt = 0 := by decide
      have gh1 := k_ge_t h1
      have gh2 := k_ge_t h2
      have q := pl_tot (a := a) (b := b) rfl (by have := mz_lt (mgF mo.toInt); omega) rfl hb
      exact run_Re_plus_d ⟨hxy, hx, hy, he, hc, hb, by rw [q.1, sg_p (by omega), sg_p (by omega), ha]; omega⟩ k
    · refine z_lload (i := 11) (q := 0) (pc' := 209) ⟨by decide +kernel, rfl⟩ rfl ?_
      refine z_lneg (pc' := 210) ⟨by decide +kernel, rfl⟩ ?_
      refine z_goto (off := 5) (tgt := 215) (pc' := 213) ⟨by decide +kernel, by decide, rfl⟩ ?_
      refine z_ladd (pc' := 216) ⟨by decide +kernel, rfl⟩ ?_
      refine z_lstore (i := 13) (pc' := 218) ⟨by decide +kernel, rfl⟩ (by decide) rfl ?_
      show Wz E Y_Re_plus 218 [(13, .long (a + (-b))), (11, .long b), (9, .long a), (8, .int d), (6, .long le), (4, .long mo), (0, .long x), (2, .long y)] [] σ K
      have z0L : (0 : Int64).toInt = 0 := by decide
      have gh1 := k_ge_t h1
      have gh2 := k_ge_f h2
      have q := pl_tot (a := a) (b := b) rfl (by have := mz_lt (mgF mo.toInt); omega) rfl hb
      exact run_Re_plus_d ⟨hxy, hx, hy, he, hc, hb, by rw [q.2.2.1, sg_p (by omega), sg_n (by omega), ha]; omega⟩ k
  · refine z_lload (i := 9) (q := 2) (pc' := 194) ⟨by decide +kernel, rfl⟩ rfl ?_
    refine z_lneg (pc' := 195) ⟨by decide +kernel, rfl⟩ ?_
    refine z_goto (off := 5) (tgt := 200) (pc' := 198) ⟨by decide +kernel, by decide, rfl⟩ ?_
    refine z_lload (i := 6) (q := 4) (pc' := 202) ⟨by decide +kernel, rfl⟩ rfl ?_
    refine z_lconst (i := 0) (v := 0) (pc' := 203) ⟨by decide +kernel, rfl⟩ (by decide) ?_
    refine z_lcmp (pc' := 204) ⟨by decide +kernel, rfl⟩ ?_
    refine z_if_ge (off := 9) (tgt := 213) (pc' := 207) ⟨by decide +kernel, by decide, rfl⟩ (fun h3 => ?_) (fun h3 => ?_)
    · refine z_lload (i := 11) (q := 0) (pc' := 215) ⟨by decide +kernel, rfl⟩ rfl ?_
      refine z_ladd (pc' := 216) ⟨by decide +kernel, rfl⟩ ?_
      refine z_lstore (i := 13) (pc' := 218) ⟨by decide +kernel, rfl⟩ (by decide) rfl ?_
      show Wz E Y_Re_plus 218 [(13, .long ((-a) + b)), (11, .long b), (9, .long a), (8, .int d), (6, .long le), (4, .long mo), (0, .long x), (2, .long y)] [] σ K
      have z0L : (0 : Int64).toInt = 0 := by decide
      have gh1 := k_ge_f h1
      have gh3 := k_ge_t h3
      have q := pl_tot (a := a) (b := b) rfl (by have := mz_lt (mgF mo.toInt); omega) rfl hb
      exact run_Re_plus_d ⟨hxy, hx, hy, he, hc, hb, by rw [q.2.1, sg_n (by omega), sg_p (by omega), ha]; omega⟩ k
    · refine z_lload (i := 11) (q := 0) (pc' := 209) ⟨by decide +kernel, rfl⟩ rfl ?_
      refine z_lneg (pc' := 210) ⟨by decide +kernel, rfl⟩ ?_
      refine z_goto (off := 5) (tgt := 215) (pc' := 213) ⟨by decide +kernel, by decide, rfl⟩ ?_
      refine z_ladd (pc' := 216) ⟨by decide +kernel, rfl⟩ ?_
      refine z_lstore (i := 13) (pc' := 218) ⟨by decide +kernel, rfl⟩ (by decide) rfl ?_
      show Wz E Y_Re_plus 218 [(13, .long ((-a) + (-b))), (11, .long b), (9, .long a), (8, .int d), (6, .long le), (4, .long mo), (0, .long x), (2, .long y)] [] σ K
      have z0L : (0 : Int64).toInt = 0 := by decide
      have gh1 := k_ge_f h1
      have gh3 := k_ge_f h3
      have q := pl_tot (a := a) (b := b) rfl (by have := mz_lt (mgF mo.toInt); omega) rfl hb
      exact run_Re_plus_d ⟨hxy, hx, hy, he, hc, hb, by rw [q.2.2.2, sg_n (by omega), sg_n (by omega), ha]; omega⟩ k
theorem run_Re_plus_b {E : xV} {σ : zS} {K : zKt} {x y mo le : Int64} (hxy : (mo = x ∧ le = y) ∨ (mo = y ∧ le = x)) (hx : mgF x.toInt < infF) (hy : mgF y.toInt < infF) (he : exF (mgF le.toInt) ≤ exF (mgF mo.toInt)) (k : ∀ v : Int64, PlR x.toInt y.toInt v.toInt → K (some (.long v)) σ) : Wz E Y_Re_plus 91 [(6, .long le), (4, .long mo), (0, .long x), (2, .long y)] [] σ K := by
  refine z_lload (i := 4) (q := 1) (pc' := 93) ⟨by decide +kernel, rfl⟩ rfl ?_
  refine z_invS (Z := Y_Re_exponent) (idx := 38) (As := [.long mo]) (rest := []) (nA := 1) (pc' := 96) ⟨k_4_140, k_1_13, k_4_142, by decide, by decide, by decide +kernel⟩ k_4_141 ⟨⟨by decide, by decide⟩, rfl, rfl⟩ ⟨by decide +kernel, rfl⟩ rfl rfl (Nat.le_of_ble_eq_true rfl) rfl rfl ?_
  refine cz_Re_exponent (fun v1 hv1 => ?_)
  show Wz E Y_Re_plus 96 [(6, .long le), (4, .long mo), (0, .long x), (2, .long y)] [.int v1] σ K
  refine z_lload (i := 6) (q := 0) (pc' := 98) ⟨by decide +kernel, rfl⟩ rfl ?_
  refine z_invS (Z := Y_Re_exponent) (idx := 38) (As := [.long le]) (rest := [.int v1]) (nA := 1) (pc' := 101) ⟨k_4_140, k_1_13, k_4_142, by decide, by decide, by decide +kernel⟩ k_4_141 ⟨⟨by decide, by decide⟩, rfl, rfl⟩ ⟨by decide +kernel, rfl⟩ rfl rfl (Nat.le_of_ble_eq_true rfl) rfl rfl ?_
  refine cz_Re_exponent (fun v2 hv2 => ?_)
  show Wz E Y_Re_plus 101 [(6, .long le), (4, .long mo), (0, .long x), (2, .long y)] [.int v2, .int v1] σ K
  refine z_isub (pc' := 102) ⟨by decide +kernel, rfl⟩ ?_
  refine z_istore (i := 8) (pc' := 104) ⟨by decide +kernel, rfl⟩ (by decide) rfl ?_
  show Wz E Y_Re_plus 104 [(8, .int (v1 - v2)), (6, .long le), (4, .long mo), (0, .long x), (2, .long y)] [] σ K
  refine z_lload (i := 4) (q := 2) (pc' := 106) ⟨by decide +kernel, rfl⟩ rfl ?_
  refine z_invS (Z := Y_Re_mantissa) (idx := 42) (As := [.long mo]) (rest := []) (nA := 1) (pc' := 109) ⟨k_4_132, k_1_13, k_4_134, by decide, by decide, by decide +kernel⟩ k_4_133 ⟨⟨by decide, by decide⟩, rfl, rfl⟩ ⟨by decide +kernel, rfl⟩ rfl rfl (Nat.le_of_ble_eq_true rfl) rfl rfl ?_
  refine cz_Re_mantissa (fun v3 hv3 => ?_)
  show Wz E Y_Re_plus 109 [(8, .int (v1 - v2)), (6, .long le), (4, .long mo), (0, .long x), (2, .long y)] [.long v3] σ K
  refine z_bipush (i := 9) (v := 9) (pc' := 111) ⟨by decide +kernel, rfl⟩ (by decide) ?_
  refine z_lshl (pc' := 112) ⟨by decide +kernel, rfl⟩ rfl ?_
  refine z_lstore (i := 9) (pc' := 114) ⟨by decide +kernel, rfl⟩ (by decide) rfl ?_
  show Wz E Y_Re_plus 114 [(9, .long (v3 <<< (Int32.toInt64 9 &&& 63))), (8, .int (v1 - v2)), (6, .long le), (4, .long mo), (0, .long x), (2, .long y)] [] σ K
  refine z_lload (i := 6) (q := 2) (pc' := 116) ⟨by decide +kernel, rfl⟩ rfl ?_
  refine z_invS (Z := Y_Re_mantissa) (idx := 42) (As := [.long le]) (rest := []) (nA := 1) (pc' := 119) ⟨k_4_132, k_1_13, k_4_134, by decide, by decide, by decide +kernel⟩ k_4_133 ⟨⟨by decide, by decide⟩, rfl, rfl⟩ ⟨by decide +kernel, rfl⟩ rfl rfl (Nat.le_of_ble_eq_true rfl) rfl rfl ?_
  refine cz_Re_mantissa (fun v4 hv4 => ?_)
  show Wz E Y_Re_plus 119 [(9, .long (v3 <<< (Int32.toInt64 9 &&& 63))), (8, .int (v1 - v2)), (6, .long le), (4, .long mo), (0, .long x), (2, .long y)] [.long v4] σ K
  refine z_bipush (i := 9) (v := 9) (pc' := 121) ⟨by decide +kernel, rfl⟩ (by decide) ?_
  refine z_lshl (pc' := 122) ⟨by decide +kernel, rfl⟩ rfl ?_
  refine z_lstore (i := 11) (pc' := 124) ⟨by decide +kernel, rfl⟩ (by decide) rfl ?_
  show Wz E Y_Re_plus 124 [(11, .long (v4 <<< (Int32.toInt64 9 &&& 63))), (9, .long (v3 <<< (Int32.toInt64 9 &&& 63))), (8, .int (v1 - v2)), (6, .long le), (4, .long mo), (0, .long x), (2, .long y)] [] σ K
  refine z_iload (i := 8) (q := 2) (pc' := 126) ⟨by decide +kernel, rfl⟩ rfl ?_
  refine z_bipush (i := 62) (v := 62) (pc' := 128) ⟨by decide +kernel, rfl⟩ (by decide) ?_
  refine z_icmp_le (off := 20) (tgt := 148) (pc' := 131) ⟨by decide +kernel, by decide, rfl⟩ (fun h5 => ?_) (fun h5 => ?_)
  · refine z_iload (i := 8) (q := 2) (pc' := 150) ⟨by decide +kernel, rfl⟩ rfl ?_
    refine z_if_le (off := 35) (tgt := 185) (pc' := 153) ⟨by decide +kernel, by decide, rfl⟩ (fun h6 => ?_) (fun h6 => ?_)
    · have z0L : (0 : Int64).toInt = 0 := by decide
      have z0 : (0 : Int32).toInt = 0 := by decide
      have z62 : (62 : Int32).toInt = 62 := by decide
      have gh5 := j_le_t h5
      have gh6 := j_le_t (y := 0) h6
      have x1 := ex_lo (mgF mo.toInt)
      have x2 := ex_hi mo
      have x3 := ex_lo (mgF le.toInt)
      have x4 := ex_hi le
      have hm := mz_lt (mgF le.toInt)
      have hd : (v1 - v2).toInt = exF (mgF mo.toInt) - exF (mgF le.toInt) := by rw [i32_sub (by omega)]; omega
      have ub := u9 hv4 hm
      have ek : (exF (mgF mo.toInt) - exF (mgF le.toInt)).toNat = 0 := by omega
      have j := jam_same ub hm
      rw [← ek] at j
      exact run_Re_plus_c1 hxy hx hy he (u9 hv3 (mz_lt _)) j.1 j.2 k
    · refine z_lload (i := 11) (q := 0) (pc' := 155) ⟨by decide +kernel, rfl⟩ rfl ?_
      refine z_lconst (i := 1) (v := 1) (pc' := 156) ⟨by decide +kernel, rfl⟩ (by decide) ?_
      refine z_iload (i := 8) (q := 2) (pc' := 158) ⟨by decide +kernel, rfl⟩ rfl ?_
      refine z_lshl (pc' := 159) ⟨by decide +kernel, rfl⟩ rfl ?_
      refine z_lconst (i := 1) (v := 1) (pc' := 160) ⟨by decide +kernel, rfl⟩ (by decide) ?_
      refine z_lsub (pc' := 161) ⟨by decide +kernel, rfl⟩ ?_
      refine z_land (pc' := 162) ⟨by decide +kernel, rfl⟩ ?_
      refine z_lstore (i := 13) (pc' := 164) ⟨by decide +kernel, rfl⟩ (by decide) rfl ?_
      show Wz E Y_Re_plus 164 [(13, .long ((v4 <<< (Int32.toInt64 9 &&& 63)) &&& ((1 <<< (Int32.toInt64 (v1 - v2) &&& 63)) - 1))), (11, .long (v4 <<< (Int32.toInt64 9 &&& 63))), (9, .long (v3 <<< (Int32.toInt64 9 &&& 63))), (8, .int (v1 - v2)), (6, .long le), (4, .long mo), (0, .long x), (2, .long y)] [] σ K
      refine z_lload (i := 11) (q := 1) (pc' := 166) ⟨by decide +kernel, rfl⟩ rfl ?_
      refine z_iload (i := 8) (q := 3) (pc' := 168) ⟨by decide +kernel, rfl⟩ rfl ?_
      refine z_lushr (pc' := 169) ⟨by decide +kernel, rfl⟩ rfl ?_
      refine z_lload (i := 13) (q := 0) (pc' := 171) ⟨by decide +kernel, rfl⟩ rfl ?_
      refine z_lconst (i := 0) (v := 0) (pc' := 172) ⟨by decide +kernel, rfl⟩ (by decide) ?_
      refine z_lcmp (pc' := 173) ⟨by decide +kernel, rfl⟩ ?_
      refine z_if_ne (off := 7) (tgt := 180) (pc' := 176) ⟨by decide +kernel, by decide, rfl⟩ (fun h7 => ?_) (fun h7 => ?_)
      · refine z_iconst (i := 1) (v := 1) (pc' := 181) ⟨by decide +kernel, rfl⟩ (by decide) ?_
        refine z_i2l (pc' := 182) ⟨by decide +kernel, rfl⟩ rfl ?_
        refine z_lor (pc' := 183) ⟨by decide +kernel, rfl⟩ ?_
        refine z_lstore (i := 11) (pc' := 185) ⟨by decide +kernel, rfl⟩ (by decide) rfl ?_
        show Wz E Y_Re_plus 185 [(11, .long (((Int64.toUInt64 (v4 <<< (Int32.toInt64 9 &&& 63)) >>> ((Int32.toInt64 (v1 - v2)).toUInt64 &&& Int64.toUInt64 63)).toInt64) ||| (Int32.toInt64 1))), (13, .long ((v4 <<< (Int32.toInt64 9 &&& 63)) &&& ((1 <<< (Int32.toInt64 (v1 - v2) &&& 63)) - 1))), (9, .long (v3 <<< (Int32.toInt64 9 &&& 63))), (8, .int (v1 - v2)), (6, .long le), (4, .long mo), (0, .long x), (2, .long y)] [] σ K
        have z0L : (0 : Int64).toInt = 0 := by decide
        have z0 : (0 : Int32).toInt = 0 := by decide
        have z62 : (62 : Int32).toInt = 62 := by decide
        have gh5 := j_le_t h5
        have gh6 := j_le_f (y := 0) h6
        have gh7 := k_ne_t h7
        have x1 := ex_lo (mgF mo.toInt)
        have x2 := ex_hi mo
        have x3 := ex_lo (mgF le.toInt)
        have x4 := ex_hi le
        have hm := mz_lt (mgF le.toInt)
        have hd : (v1 - v2).toInt = exF (mgF mo.toInt) - exF (mgF le.toInt) := by rw [i32_sub (by omega)]; omega
        have ub := u9 hv4 hm
        have j := jam_mid ub hm (d := v1 - v2) (k := (exF (mgF mo.toInt) - exF (mgF le.toInt)).toNat) (by omega) (by omega) (by omega)
        exact run_Re_plus_c2 hxy hx hy he (u9 hv3 (mz_lt _)) (j.2 (by rw [← z0L]; exact gh7)).1 (j.2 (by rw [← z0L]; exact gh7)).2 k
      · refine z_iconst (i := 0) (v := 0) (pc' := 177) ⟨by decide +kernel, rfl⟩ (by decide) ?_
        refine z_goto (off := 4) (tgt := 181) (pc' := 180) ⟨by decide +kernel, by decide, rfl⟩ ?_
        refine z_i2l (pc' := 182) ⟨by decide +kernel, rfl⟩ rfl ?_
        refine z_lor (pc' := 183) ⟨by decide +kernel, rfl⟩ ?_
        refine z_lstore (i := 11) (pc' := 185) ⟨by decide +kernel, rfl⟩ (by decide) rfl ?_
        show Wz E Y_Re_plus 185 [(11, .long (((Int64.toUInt64 (v4 <<< (Int32.toInt64 9 &&& 63)) >>> ((Int32.toInt64 (v1 - v2)).toUInt64 &&& Int64.toUInt64 63)).toInt64) ||| (Int32.toInt64 0))), (13, .long ((v4 <<< (Int32.toInt64 9 &&& 63)) &&& ((1 <<< (Int32.toInt64 (v1 - v2) &&& 63)) - 1))), (9, .long (v3 <<< (Int32.toInt64 9 &&& 63))), (8, .int (v1 - v2)), (6, .long le), (4, .long mo), (0, .long x), (2, .long y)] [] σ K
        have z0L : (0 : Int64).toInt = 0 := by decide
        have z0 : (0 : Int32).toInt = 0 := by decide
        have z62 : (62 : Int32).toInt = 62 := by decide
        have gh5 := j_le_t h5
        have gh6 := j_le_f (y := 0) h6
        have gh7 := k_ne_f h7
        have x1 := ex_lo (mgF mo.toInt)
        have x2 := ex_hi mo
        have x3 := ex_lo (mgF le.toInt)
        have x4 := ex_hi le
        have hm := mz_lt (mgF le.toInt)
        have hd : (v1 - v2).toInt = exF (mgF mo.toInt) - exF (mgF le.toInt) := by rw [i32_sub (by omega)]; omega
        have ub := u9 hv4 hm
        have j := jam_mid ub hm (d := v1 - v2) (k := (exF (mgF mo.toInt) - exF (mgF le.toInt)).toNat) (by omega) (by omega) (by omega)
        exact run_Re_plus_c2 hxy hx hy he (u9 hv3 (mz_lt _)) (j.1 (by rw [gh7, z0L])).1 (j.1 (by rw [gh7, z0L])).2 k
  · refine z_lload (i := 11) (q := 0) (pc' := 133) ⟨by decide +kernel, rfl⟩ rfl ?_
    refine z_lconst (i := 0) (v := 0) (pc' := 134) ⟨by decide +kernel, rfl⟩ (by decide) ?_
    refine z_lcmp (pc' := 135) ⟨by decide +kernel, rfl⟩ ?_
    refine z_if_ne (off := 7) (tgt := 142) (pc' := 138) ⟨by decide +kernel, by decide, rfl⟩ (fun h8 => ?_) (fun h8 => ?_)
    · refine z_lconst (i := 1) (v := 1) (pc' := 143) ⟨by decide +kernel, rfl⟩ (by decide) ?_
      refine z_lstore (i := 11) (pc' := 145) ⟨by decide +kernel, rfl⟩ (by decide) rfl ?_
      show Wz E Y_Re_plus 145 [(11, .long 1), (9, .long (v3 <<< (Int32.toInt64 9 &&& 63))), (8, .int (v1 - v2)), (6, .long le), (4, .long mo), (0, .long x), (2, .long y)] [] σ K
      refine z_goto (off := 40) (tgt := 185) (pc' := 148) ⟨by decide +kernel, by decide, rfl⟩ ?_
      have z0L : (0 : Int64).toInt = 0 := by decide
      have z62 : (62 : Int32).toInt = 62 := by decide
      have gh5 := j_le_f h5
      have gh8 := k_ne_t h8
      have x1 := ex_lo (mgF mo.toInt)
      have x2 := ex_hi mo
      have x3 := ex_lo (mgF le.toInt)
      have x4 := ex_hi le
      have hm := mz_lt (mgF le.toInt)
      have hd : (v1 - v2).toInt = exF (mgF mo.toInt) - exF (mgF le.toInt) := by rw [i32_sub (by omega)]; omega
      have ub := u9 hv4 hm
      have ui := u_int (v4 <<< (Int32.toInt64 9 &&& 63))
      rw [ub, if_pos (by omega)] at ui
      have j := jam_far1 (k := (exF (mgF mo.toInt) - exF (mgF le.toInt)).toNat) (M := mzF (mgF le.toInt)) (by omega) hm (by omega)
      exact run_Re_plus_c1 hxy hx hy he (u9 hv3 (mz_lt _)) j.1 j.2 k
    · refine z_lconst (i := 0) (v := 0) (pc' := 139) ⟨by decide +kernel, rfl⟩ (by decide) ?_
      refine z_goto (off := 4) (tgt := 143) (pc' := 142) ⟨by decide +kernel, by decide, rfl⟩ ?_
      refine z_lstore (i := 11) (pc' := 145) ⟨by decide +kernel, rfl⟩ (by decide) rfl ?_
      show Wz E Y_Re_plus 145 [(11, .long 0), (9, .long (v3 <<< (Int32.toInt64 9 &&& 63))), (8, .int (v1 - v2)), (6, .long le), (4, .long mo), (0, .long x), (2, .long y)] [] σ K
      refine z_goto (off := 40) (tgt := 185) (pc' := 148) ⟨by decide +kernel, by decide, rfl⟩ ?_
      have z0L : (0 : Int64).toInt = 0 := by decide
      have z62 : (62 : Int32).toInt = 62 := by decide
      have gh5 := j_le_f h5
      have gh8 := k_ne_f h8
      have x1 := ex_lo (mgF mo.toInt)
      have x2 := ex_hi mo
      have x3 := ex_lo (mgF le.toInt)
      have x4 := ex_hi le
      have hm := mz_lt (mgF le.toInt)
      have hd : (v1 - v2).toInt = exF (mgF mo.toInt) - exF (mgF le.toInt) := by rw [i32_sub (by omega)]; omega
      have ub := u9 hv4 hm
      have ui := u_int (v4 <<< (Int32.toInt64 9 &&& 63))
      rw [ub, if_pos (by omega)] at ui
      have j := jam_far0 (k := (exF (mgF mo.toInt) - exF (mgF le.toInt)).toNat) (M := mzF (mgF le.toInt)) (by omega)
      exact run_Re_plus_c1 hxy hx hy he (u9 hv3 (mz_lt _)) j.1 j.2 k
theorem run_Re_plus_a {E : xV} {σ : zS} {K : zKt} {x y : Int64} (hx : mgF x.toInt < infF) (hy : mgF y.toInt < infF) (k : ∀ v : Int64, PlR x.toInt y.toInt v.toInt → K (some (.long v)) σ) : Wz E Y_Re_plus 55 [(0, .long x), (2, .long y)] [] σ K := by
  refine z_lload_n (f := 0) (i := 0) (q := 0) (pc' := 56) ⟨by decide +kernel, rfl⟩ rfl rfl ?_
  refine z_invS (Z := Y_Re_exponent) (idx := 38) (As := [.long x]) (rest := []) (nA := 1) (pc' := 59) ⟨k_4_140, k_1_13, k_4_142, by decide, by decide, by decide +kernel⟩ k_4_141 ⟨⟨by decide, by decide⟩, rfl, rfl⟩ ⟨by decide +kernel, rfl⟩ rfl rfl (Nat.le_of_ble_eq_true rfl) rfl rfl ?_
  refine cz_Re_exponent (fun v1 hv1 => ?_)
  show Wz E Y_Re_plus 59 [(0, .long x), (2, .long y)] [.int v1] σ K
  refine z_lload_n (f := 2) (i := 2) (q := 1) (pc' := 60) ⟨by decide +kernel, rfl⟩ rfl rfl ?_
  refine z_invS (Z := Y_Re_exponent) (idx := 38) (As := [.long y]) (rest := [.int v1]) (nA := 1) (pc' := 63) ⟨k_4_140, k_1_13, k_4_142, by decide, by decide, by decide +kernel⟩ k_4_141 ⟨⟨by decide, by decide⟩, rfl, rfl⟩ ⟨by decide +kernel, rfl⟩ rfl rfl (Nat.le_of_ble_eq_true rfl) rfl rfl ?_
  refine cz_Re_exponent (fun v2 hv2 => ?_)
  show Wz E Y_Re_plus 63 [(0, .long x), (2, .long y)] [.int v2, .int v1] σ K
  refine z_icmp_lt (off := 7) (tgt := 70) (pc' := 66) ⟨by decide +kernel, by decide, rfl⟩ (fun h3 => ?_) (fun h3 => ?_)
  · refine z_lload_n (f := 2) (i := 2) (q := 1) (pc' := 71) ⟨by decide +kernel, rfl⟩ rfl rfl ?_
    refine z_lstore (i := 4) (pc' := 73) ⟨by decide +kernel, rfl⟩ (by decide) rfl ?_
    show Wz E Y_Re_plus 73 [(4, .long y), (0, .long x), (2, .long y)] [] σ K
    refine z_lload_n (f := 0) (i := 0) (q := 1) (pc' := 74) ⟨by decide +kernel, rfl⟩ rfl rfl ?_
    refine z_invS (Z := Y_Re_exponent) (idx := 38) (As := [.long x]) (rest := []) (nA := 1) (pc' := 77) ⟨k_4_140, k_1_13, k_4_142, by decide, by decide, by decide +kernel⟩ k_4_141 ⟨⟨by decide, by decide⟩, rfl, rfl⟩ ⟨by decide +kernel, rfl⟩ rfl rfl (Nat.le_of_ble_eq_true rfl) rfl rfl ?_
    refine cz_Re_exponent (fun v4 hv4 => ?_)
    show Wz E Y_Re_plus 77 [(4, .long y), (0, .long x), (2, .long y)] [.int v4] σ K
    refine z_lload_n (f := 2) (i := 2) (q := 2) (pc' := 78) ⟨by decide +kernel, rfl⟩ rfl rfl ?_
    refine z_invS (Z := Y_Re_exponent) (idx := 38) (As := [.long y]) (rest := [.int v4]) (nA := 1) (pc' := 81) ⟨k_4_140, k_1_13, k_4_142, by decide, by decide, by decide +kernel⟩ k_4_141 ⟨⟨by decide, by decide⟩, rfl, rfl⟩ ⟨by decide +kernel, rfl⟩ rfl rfl (Nat.le_of_ble_eq_true rfl) rfl rfl ?_
    refine cz_Re_exponent (fun v5 hv5 => ?_)
    show Wz E Y_Re_plus 81 [(4, .long y), (0, .long x), (2, .long y)] [.int v5, .int v4] σ K
    refine z_icmp_lt (off := 7) (tgt := 88) (pc' := 84) ⟨by decide +kernel, by decide, rfl⟩ (fun h6 => ?_) (fun h6 => ?_)
    · refine z_lload_n (f := 0) (i := 0) (q := 1) (pc' := 89) ⟨by decide +kernel, rfl⟩ rfl rfl ?_
      refine z_lstore (i := 6) (pc' := 91) ⟨by decide +kernel, rfl⟩ (by decide) rfl ?_
      show Wz E Y_Re_plus 91 [(6, .long x), (4, .long y), (0, .long x), (2, .long y)] [] σ K
      have z0L : (0 : Int64).toInt = 0 := by decide
      have gh3 := j_lt_t h3
      have gh6 := j_lt_t h6
      exact run_Re_plus_b (Or.inr ⟨rfl, rfl⟩) hx hy (by omega) k
    · refine z_lload_n (f := 2) (i := 2) (q := 2) (pc' := 85) ⟨by decide +kernel, rfl⟩ rfl rfl ?_
      refine z_goto (off := 4) (tgt := 89) (pc' := 88) ⟨by decide +kernel, by decide, rfl⟩ ?_
      refine z_lstore (i := 6) (pc' := 91) ⟨by decide +kernel, rfl⟩ (by decide) rfl ?_
      show Wz E Y_Re_plus 91 [(6, .long y), (4, .long y), (0, .long x), (2, .long y)] [] σ K
      have z0L : (0 : Int64).toInt = 0 := by decide
      have gh3 := j_lt_t h3
      have gh6 := j_lt_f h6
      exfalso
      omega
  · refine z_lload_n (f := 0) (i := 0) (q := 0) (pc' := 67) ⟨by decide +kernel, rfl⟩ rfl rfl ?_
    refine z_goto (off := 4) (tgt := 71) (pc' := 70) ⟨by decide +kernel, by decide, rfl⟩ ?_
    refine z_lstore (i := 4) (pc' := 73) ⟨by decide +kernel, rfl⟩ (by decide) rfl ?_
    show Wz E Y_Re_plus 73 [(4, .long x), (0, .long x), (2, .long y)] [] σ K
    refine z_lload_n (f := 0) (i := 0) (q := 1) (pc' := 74) ⟨by decide +kernel, rfl⟩ rfl rfl ?_
    refine z_invS (Z := Y_Re_exponent) (idx := 38) (As := [.long x]) (rest := []) (nA := 1) (pc' := 77) ⟨k_4_140, k_1_13, k_4_142, by decide, by decide, by decide +kernel⟩ k_4_141 ⟨⟨by decide, by decide⟩, rfl, rfl⟩ ⟨by decide +kernel, rfl⟩ rfl rfl (Nat.le_of_ble_eq_true rfl) rfl rfl ?_
    refine cz_Re_exponent (fun v7 hv7 => ?_)
    show Wz E Y_Re_plus 77 [(4, .long x), (0, .long x), (2, .long y)] [.int v7] σ K
    refine z_lload_n (f := 2) (i := 2) (q := 2) (pc' := 78) ⟨by decide +kernel, rfl⟩ rfl rfl ?_
    refine z_invS (Z := Y_Re_exponent) (idx := 38) (As := [.long y]) (rest := [.int v7]) (nA := 1) (pc' := 81) ⟨k_4_140, k_1_13, k_4_142, by decide, by decide, by decide +kernel⟩ k_4_141 ⟨⟨by decide, by decide⟩, rfl, rfl⟩ ⟨by decide +kernel, rfl⟩ rfl rfl (Nat.le_of_ble_eq_true rfl) rfl rfl ?_
    refine cz_Re_exponent (fun v8 hv8 => ?_)
    show Wz E Y_Re_plus 81 [(4, .long x), (0, .long x), (2, .long y)] [.int v8, .int v7] σ K
    refine z_icmp_lt (off := 7) (tgt := 88) (pc' := 84) ⟨by decide +kernel, by decide, rfl⟩ (fun h9 => ?_) (fun h9 => ?_)
    · refine z_lload_n (f := 0) (i := 0) (q := 1) (pc' := 89) ⟨by decide +kernel, rfl⟩ rfl rfl ?_
      refine z_lstore (i := 6) (pc' := 91) ⟨by decide +kernel, rfl⟩ (by decide) rfl ?_
      show Wz E Y_Re_plus 91 [(6, .long x), (4, .long x), (0, .long x), (2, .long y)] [] σ K
      have z0L : (0 : Int64).toInt = 0 := by decide
      have gh3 := j_lt_f h3
      have gh9 := j_lt_t h9
      exfalso
      omega
    · refine z_lload_n (f := 2) (i := 2) (q := 2) (pc' := 85) ⟨by decide +kernel, rfl⟩ rfl rfl ?_
      refine z_goto (off := 4) (tgt := 89) (pc' := 88) ⟨by decide +kernel, by decide, rfl⟩ ?_
      refine z_lstore (i := 6) (pc' := 91) ⟨by decide +kernel, rfl⟩ (by decide) rfl ?_
      show Wz E Y_Re_plus 91 [(6, .long y), (4, .long x), (0, .long x), (2, .long y)] [] σ K
      have z0L : (0 : Int64).toInt = 0 := by decide
      have gh3 := j_lt_f h3
      have gh9 := j_lt_f h9
      exact run_Re_plus_b (Or.inl ⟨rfl, rfl⟩) hx hy (by omega) k
theorem run_Re_plus {E : xV} {σ : zS} {K : zKt} {x y : Int64} (k : ∀ v : Int64, PlR x.toInt y.toInt v.toInt → K (some (.long v)) σ) : Wz E Y_Re_plus 0 [(0, .long x), (2, .long y)] [] σ K := by
  refine z_lload_n (f := 0) (i := 0) (q := 0) (pc' := 1) ⟨by decide +kernel, rfl⟩ rfl rfl ?_
  refine z_invS (Z := Y_Re_isNoNumber) (idx := 13) (As := [.long x]) (rest := []) (nA := 1) (pc' := 4) ⟨k_4_124, k_1_13, k_3_235, by decide, by decide, by decide +kernel⟩ k_3_234 ⟨⟨by decide, by decide⟩, rfl, rfl⟩ ⟨by decide +kernel, rfl⟩ rfl rfl (Nat.le_of_ble_eq_true rfl) rfl rfl ?_
  refine cz_Re_isNoNumber (fun v1 hv1 => ?_)
  show Wz E Y_Re_plus 4 [(0, .long x), (2, .long y)] [.int v1] σ K
  refine z_if_ne (off := 10) (tgt := 14) (pc' := 7) ⟨by decide +kernel, by decide, rfl⟩ (fun h2 => ?_) (fun h2 => ?_)
  · refine z_ldc2 (i := 17) (v := 9221120237041090560) (pc' := 17) ⟨by decide +kernel, rfl⟩ k_4_131 ?_
    refine z_lret rfl (by decide +kernel) ?_
    have z0L : (0 : Int64).toInt = 0 := by decide
    have gh2 := p3_t hv1 h2
    exact k _ (pl_nan (by omega))
  · refine z_lload_n (f := 2) (i := 2) (q := 1) (pc' := 8) ⟨by decide +kernel, rfl⟩ rfl rfl ?_
    refine z_invS (Z := Y_Re_isNoNumber) (idx := 13) (As := [.long y]) (rest := []) (nA := 1) (pc' := 11) ⟨k_4_124, k_1_13, k_3_235, by decide, by decide, by decide +kernel⟩ k_3_234 ⟨⟨by decide, by decide⟩, rfl, rfl⟩ ⟨by decide +kernel, rfl⟩ rfl rfl (Nat.le_of_ble_eq_true rfl) rfl rfl ?_
    refine cz_Re_isNoNumber (fun v3 hv3 => ?_)
    show Wz E Y_Re_plus 11 [(0, .long x), (2, .long y)] [.int v3] σ K
    refine z_if_eq (off := 7) (tgt := 18) (pc' := 14) ⟨by decide +kernel, by decide, rfl⟩ (fun h4 => ?_) (fun h4 => ?_)
    · refine z_lload_n (f := 0) (i := 0) (q := 0) (pc' := 19) ⟨by decide +kernel, rfl⟩ rfl rfl ?_
      refine z_invS (Z := Y_Re_isEndless) (idx := 35) (As := [.long x]) (rest := []) (nA := 1) (pc' := 22) ⟨k_4_125, k_1_13, k_4_127, by decide, by decide, by decide +kernel⟩ k_4_126 ⟨⟨by decide, by decide⟩, rfl, rfl⟩ ⟨by decide +kernel, rfl⟩ rfl rfl (Nat.le_of_ble_eq_true rfl) rfl rfl ?_
      refine cz_Re_isEndless (fun v5 hv5 => ?_)
      show Wz E Y_Re_plus 22 [(0, .long x), (2, .long y)] [.int v5] σ K
      refine z_if_eq (off := 24) (tgt := 46) (pc' := 25) ⟨by decide +kernel, by decide, rfl⟩ (fun h6 => ?_) (fun h6 => ?_)
      · refine z_lload_n (f := 2) (i := 2) (q := 1) (pc' := 47) ⟨by decide +kernel, rfl⟩ rfl rfl ?_
        refine z_invS (Z := Y_Re_isEndless) (idx := 35) (As := [.long y]) (rest := []) (nA := 1) (pc' := 50) ⟨k_4_125, k_1_13, k_4_127, by decide, by decide, by decide +kernel⟩ k_4_126 ⟨⟨by decide, by decide⟩, rfl, rfl⟩ ⟨by decide +kernel, rfl⟩ rfl rfl (Nat.le_of_ble_eq_true rfl) rfl rfl ?_
        refine cz_Re_isEndless (fun v7 hv7 => ?_)
        show Wz E Y_Re_plus 50 [(0, .long x), (2, .long y)] [.int v7] σ K
        refine z_if_eq (off := 5) (tgt := 55) (pc' := 53) ⟨by decide +kernel, by decide, rfl⟩ (fun h8 => ?_) (fun h8 => ?_)
        · have z0L : (0 : Int64).toInt = 0 := by decide
          have gh2 := p3_f hv1 h2
          have gh4 := p3_f hv3 h4
          have gh6 := p3_f hv5 h6
          have gh8 := p3_f hv7 h8
          exact run_Re_plus_a (by omega) (by omega) k
        · refine z_lload_n (f := 2) (i := 2) (q := 1) (pc' := 54) ⟨by decide +kernel, rfl⟩ rfl rfl ?_
          refine z_lret rfl (by decide +kernel) ?_
          have z0L : (0 : Int64).toInt = 0 := by decide
          have gh2 := p3_f hv1 h2
          have gh4 := p3_f hv3 h4
          have gh6 := p3_f hv5 h6
          have gh8 := p3_t hv7 h8
          exact k _ (pl_y (by omega) (by omega) (by omega))
      · refine z_lload_n (f := 2) (i := 2) (q := 1) (pc' := 26) ⟨by decide +kernel, rfl⟩ rfl rfl ?_
        refine z_invS (Z := Y_Re_isEndless) (idx := 35) (As := [.long y]) (rest := []) (nA := 1) (pc' := 29) ⟨k_4_125, k_1_13, k_4_127, by decide, by decide, by decide +kernel⟩ k_4_126 ⟨⟨by decide, by decide⟩, rfl, rfl⟩ ⟨by decide +kernel, rfl⟩ rfl rfl (Nat.le_of_ble_eq_true rfl) rfl rfl ?_
        refine cz_Re_isEndless (fun v9 hv9 => ?_)
        show Wz E Y_Re_plus 29 [(0, .long x), (2, .long y)] [.int v9] σ K
        refine z_if_eq (off := 15) (tgt := 44) (pc' := 32) ⟨by decide +kernel, by decide, rfl⟩ (fun h10 => ?_) (fun h10 => ?_)
        · refine z_lload_n (f := 0) (i := 0) (q := 0) (pc' := 45) ⟨by decide +kernel, rfl⟩ rfl rfl ?_
          refine z_lret rfl (by decide +kernel) ?_
          have z0L : (0 : Int64).toInt = 0 := by decide
          have gh2 := p3_f hv1 h2
          have gh4 := p3_f hv3 h4
          have gh6 := p3_t hv5 h6
          have gh10 := p3_f hv9 h10
          exact k _ (pl_x (by omega) (by omega))
        · refine z_lload_n (f := 0) (i := 0) (q := 0) (pc' := 33) ⟨by decide +kernel, rfl⟩ rfl rfl ?_
          refine z_lload_n (f := 2) (i := 2) (q := 1) (pc' := 34) ⟨by decide +kernel, rfl⟩ rfl rfl ?_
          refine z_lcmp (pc' := 35) ⟨by decide +kernel, rfl⟩ ?_
          refine z_if_eq (off := 9) (tgt := 44) (pc' := 38) ⟨by decide +kernel, by decide, rfl⟩ (fun h11 => ?_) (fun h11 => ?_)
          · refine z_lload_n (f := 0) (i := 0) (q := 0) (pc' := 45) ⟨by decide +kernel, rfl⟩ rfl rfl ?_
            refine z_lret rfl (by decide +kernel) ?_
            have z0L : (0 : Int64).toInt = 0 := by decide
            have gh2 := p3_f hv1 h2
            have gh4 := p3_f hv3 h4
            have gh6 := p3_t hv5 h6
            have gh10 := p3_t hv9 h10
            have gh11 := k_eq_t h11
            exact k _ (pl_x (by omega) (by omega))
          · refine z_ldc2 (i := 17) (v := 9221120237041090560) (pc' := 41) ⟨by decide +kernel, rfl⟩ k_4_131 ?_
            refine z_goto (off := 4) (tgt := 45) (pc' := 44) ⟨by decide +kernel, by decide, rfl⟩ ?_
            refine z_lret rfl (by decide +kernel) ?_
            have z0L : (0 : Int64).toInt = 0 := by decide
            have gh2 := p3_f hv1 h2
            have gh4 := p3_f hv3 h4
            have gh6 := p3_t hv5 h6
            have gh10 := p3_t hv9 h10
            have gh11 := k_eq_f h11
            exact k _ (pl_nan (by omega))
    · refine z_ldc2 (i := 17) (v := 9221120237041090560) (pc' := 17) ⟨by decide +kernel, rfl⟩ k_4_131 ?_
      refine z_lret rfl (by decide +kernel) ?_
      have z0L : (0 : Int64).toInt = 0 := by decide
      have gh2 := p3_f hv1 h2
      have gh4 := p3_t hv3 h4
      exact k _ (pl_nan (by omega))
theorem cz_Re_plus {E : xV} {σ : zS} {K : zKt} {x y : Int64} (k : ∀ v : Int64, PlR x.toInt y.toInt v.toInt → K (some (.long v)) σ) : Cz E Y_Re_plus [.long x, .long y] σ K := z_entry (by decide) (fun a => by rw [sl_len]; exact Nat.le_of_ble_eq_true rfl) rfl (run_Re_plus k)
theorem run_M_plus_f {E : xV} {σ : zS} {K : zKt} {x y bg sm m n T : Int64} {e st d g w : Int32} (h : PmH x y bg sm m e) (hb : PmB sm e n st) (hT : PmT x y m n st T) (k : ∀ v : Int64, PlR x.toInt y.toInt v.toInt → K (some (.long v)) σ) : Wz E Y_M_plus 323 [(17, .long T), (13, .long n), (16, .int st), (15, .int d), (11, .int e), (9, .long m), (12, .int g), (7, .long sm), (5, .long bg), (4, .int w), (0, .long x), (2, .long y)] [] σ K := by
  refine z_lload (i := 17) (q := 0) (pc' := 325) ⟨by decide +kernel, rfl⟩ rfl ?_
  refine z_lconst (i := 0) (v := 0) (pc' := 326) ⟨by decide +kernel, rfl⟩ (by decide) ?_
  refine z_lcmp (pc' := 327) ⟨by decide +kernel, rfl⟩ ?_
  refine z_if_ne (off := 7) (tgt := 334) (pc' := 330) ⟨by decide +kernel, by decide, rfl⟩ (fun h1 => ?_) (fun h1 => ?_)
  · refine z_lload (i := 5) (q := 8) (pc' := 336) ⟨by decide +kernel, rfl⟩ rfl ?_
    refine z_lconst (i := 0) (v := 0) (pc' := 337) ⟨by decide +kernel, rfl⟩ (by decide) ?_
    refine z_lcmp (pc' := 338) ⟨by decide +kernel, rfl⟩ ?_
    refine z_if_ge (off := 7) (tgt := 345) (pc' := 341) ⟨by decide +kernel, by decide, rfl⟩ (fun h2 => ?_) (fun h2 => ?_)
    · refine z_iconst (i := 0) (v := 0) (pc' := 346) ⟨by decide +kernel, rfl⟩ (by decide) ?_
      refine z_lload (i := 17) (q := 0) (pc' := 348) ⟨by decide +kernel, rfl⟩ rfl ?_
      refine z_iload (i := 11) (q := 4) (pc' := 350) ⟨by decide +kernel, rfl⟩ rfl ?_
      refine z_iload (i := 16) (q := 2) (pc' := 352) ⟨by decide +kernel, rfl⟩ rfl ?_
      refine z_invS (Z := Y_M_fit) (idx := 361) (As := [.int 0, .long T, .int e, .int st]) (rest := []) (nA := 4) (pc' := 355) ⟨k_11_129, k_1_12, k_11_131, by decide, by decide, by decide +kernel⟩ k_11_130 ⟨⟨by decide, by decide⟩, rfl, rfl⟩ ⟨by decide +kernel, rfl⟩ rfl rfl (Nat.le_of_ble_eq_true rfl) rfl rfl ?_
      refine cz_M_fit (hm := pm_lt h hb hT) (he := pm_e h) (fun v3 hv3 => ?_)
      show Wz E Y_M_plus 355 [(17, .long T), (13, .long n), (16, .int st), (15, .int d), (11, .int e), (9, .long m), (12, .int g), (7, .long sm), (5, .long bg), (4, .int w), (0, .long x), (2, .long y)] [.long v3] σ K
      refine z_lret rfl (by decide +kernel) ?_
      have z0L : (0 : Int64).toInt = 0 := by decide
      have gh1 := k_ne_t h1
      have gh2 := k_ge_t h2
      exact k _ (pm_fin h hb hT (by omega) (Or.inl ⟨rfl, by omega⟩) hv3)
    · refine z_iconst (i := 1) (v := 1) (pc' := 342) ⟨by decide +kernel, rfl⟩ (by decide) ?_
      refine z_goto (off := 4) (tgt := 346) (pc' := 345) ⟨by decide +kernel, by decide, rfl⟩ ?_
      refine z_lload (i := 17) (q := 0) (pc' := 348) ⟨by decide +kernel, rfl⟩ rfl ?_
      refine z_iload (i := 11) (q := 4) (pc' := 350) ⟨by decide +kernel, rfl⟩ rfl ?_
      refine z_iload (i := 16) (q := 2) (pc' := 352) ⟨by decide +kernel, rfl⟩ rfl ?_
      refine z_invS (Z := Y_M_fit) (idx := 361) (As := [.int 1, .long T, .int e, .int st]) (rest := []) (nA := 4) (pc' := 355) ⟨k_11_129, k_1_12, k_11_131, by decide, by decide, by decide +kernel⟩ k_11_130 ⟨⟨by decide, by decide⟩, rfl, rfl⟩ ⟨by decide +kernel, rfl⟩ rfl rfl (Nat.le_of_ble_eq_true rfl) rfl rfl ?_
      refine cz_M_fit (hm := pm_lt h hb hT) (he := pm_e h) (fun v4 hv4 => ?_)
      show Wz E Y_M_plus 355 [(17, .long T), (13, .long n), (16, .int st), (15, .int d), (11, .int e), (9, .long m), (12, .int g), (7, .long sm), (5, .long bg), (4, .int w), (0, .long x), (2, .long y)] [.long v4] σ K
      refine z_lret rfl (by decide +kernel) ?_
      have z0L : (0 : Int64).toInt = 0 := by decide
      have gh1 := k_ne_t h1
      have gh2 := k_ge_f h2
      exact k _ (pm_fin h hb hT (by omega) (Or.inr ⟨by decide, by omega⟩) hv4)
  · refine z_lconst (i := 0) (v := 0) (pc' := 331) ⟨by decide +kernel, rfl⟩ (by decide) ?_
    refine z_goto (off := 24) (tgt := 355) (pc' := 334) ⟨by decide +kernel, by decide, rfl⟩ ?_
    refine z_lret rfl (by decide +kernel) ?_
    have z0L : (0 : Int64).toInt = 0 := by decide
    have gh1 := k_ne_f h1
    exact k _ (pm_zero h hb hT (by omega))
theorem run_M_plus_e {E : xV} {σ : zS} {K : zKt} {x y bg sm m n : Int64} {e st d g w : Int32} (h : PmH x y bg sm m e) (hb : PmB sm e n st) (k : ∀ v : Int64, PlR x.toInt y.toInt v.toInt → K (some (.long v)) σ) : Wz E Y_M_plus 272 [(13, .long n), (16, .int st), (15, .int d), (11, .int e), (9, .long m), (12, .int g), (7, .long sm), (5, .long bg), (4, .int w), (0, .long x), (2, .long y)] [] σ K := by
  refine z_lload_n (f := 0) (i := 0) (q := 9) (pc' := 273) ⟨by decide +kernel, rfl⟩ rfl rfl ?_
  refine z_lconst (i := 0) (v := 0) (pc' := 274) ⟨by decide +kernel, rfl⟩ (by decide) ?_
  refine z_lcmp (pc' := 275) ⟨by decide +kernel, rfl⟩ ?_
  refine z_if_ge (off := 7) (tgt := 282) (pc' := 278) ⟨by decide +kernel, by decide, rfl⟩ (fun h1 => ?_) (fun h1 => ?_)
  · refine z_iconst (i := 0) (v := 0) (pc' := 283) ⟨by decide +kernel, rfl⟩ (by decide) ?_
    refine z_lload_n (f := 2) (i := 2) (q := 10) (pc' := 284) ⟨by decide +kernel, rfl⟩ rfl rfl ?_
    refine z_lconst (i := 0) (v := 0) (pc' := 285) ⟨by decide +kernel, rfl⟩ (by decide) ?_
    refine z_lcmp (pc' := 286) ⟨by decide +kernel, rfl⟩ ?_
    refine z_if_ge (off := 7) (tgt := 293) (pc' := 289) ⟨by decide +kernel, by decide, rfl⟩ (fun h2 => ?_) (fun h2 => ?_)
    · refine z_iconst (i := 0) (v := 0) (pc' := 294) ⟨by decide +kernel, rfl⟩ (by decide) ?_
      refine z_icmp_ne (off := 11) (tgt := 305) (pc' := 297) ⟨by decide +kernel, by decide, rfl⟩ (fun h3 => ?_) (fun h3 => ?_)
      · refine z_lload (i := 9) (q := 4) (pc' := 307) ⟨by decide +kernel, rfl⟩ rfl ?_
        refine z_lload (i := 13) (q := 0) (pc' := 309) ⟨by decide +kernel, rfl⟩ rfl ?_
        refine z_lsub (pc' := 310) ⟨by decide +kernel, rfl⟩ ?_
        refine z_iload (i := 16) (q := 1) (pc' := 312) ⟨by decide +kernel, rfl⟩ rfl ?_
        refine z_if_eq (off := 7) (tgt := 319) (pc' := 315) ⟨by decide +kernel, by decide, rfl⟩ (fun h4 => ?_) (fun h4 => ?_)
        · refine z_lconst (i := 0) (v := 0) (pc' := 320) ⟨by decide +kernel, rfl⟩ (by decide) ?_
          refine z_lsub (pc' := 321) ⟨by decide +kernel, rfl⟩ ?_
          refine z_lstore (i := 17) (pc' := 323) ⟨by decide +kernel, rfl⟩ (by decide) rfl ?_
          show Wz E Y_M_plus 323 [(17, .long ((m - n) - 0)), (13, .long n), (16, .int st), (15, .int d), (11, .int e), (9, .long m), (12, .int g), (7, .long sm), (5, .long bg), (4, .int w), (0, .long x), (2, .long y)] [] σ K
          have z0L : (0 : Int64).toInt = 0 := by decide
          have z0 : (0 : Int32).toInt = 0 := by decide
          have gh1 := k_ge_t h1
          have gh2 := k_ge_t h2
          have gh3 := j_ne_t h3
          have gh4 := j_eq_t (y := 0) h4
          exact run_M_plus_f h hb (pm_sub0 h hb (by omega) h4) k
        · refine z_lconst (i := 1) (v := 1) (pc' := 316) ⟨by decide +kernel, rfl⟩ (by decide) ?_
          refine z_goto (off := 4) (tgt := 320) (pc' := 319) ⟨by decide +kernel, by decide, rfl⟩ ?_
          refine z_lsub (pc' := 321) ⟨by decide +kernel, rfl⟩ ?_
          refine z_lstore (i := 17) (pc' := 323) ⟨by decide +kernel, rfl⟩ (by decide) rfl ?_
          show Wz E Y_M_plus 323 [(17, .long ((m - n) - 1)), (13, .long n), (16, .int st), (15, .int d), (11, .int e), (9, .long m), (12, .int g), (7, .long sm), (5, .long bg), (4, .int w), (0, .long x), (2, .long y)] [] σ K
          have z0L : (0 : Int64).toInt = 0 := by decide
          have z0 : (0 : Int32).toInt = 0 := by decide
          have gh1 := k_ge_t h1
          have gh2 := k_ge_t h2
          have gh3 := j_ne_t h3
          have gh4 := j_eq_f (y := 0) h4
          exact run_M_plus_f h hb (pm_sub1 h hb (by omega) h4) k
      · refine z_lload (i := 9) (q := 4) (pc' := 299) ⟨by decide +kernel, rfl⟩ rfl ?_
        refine z_lload (i := 13) (q := 0) (pc' := 301) ⟨by decide +kernel, rfl⟩ rfl ?_
        refine z_ladd (pc' := 302) ⟨by decide +kernel, rfl⟩ ?_
        refine z_goto (off := 19) (tgt := 321) (pc' := 305) ⟨by decide +kernel, by decide, rfl⟩ ?_
        refine z_lstore (i := 17) (pc' := 323) ⟨by decide +kernel, rfl⟩ (by decide) rfl ?_
        show Wz E Y_M_plus 323 [(17, .long (m + n)), (13, .long n), (16, .int st), (15, .int d), (11, .int e), (9, .long m), (12, .int g), (7, .long sm), (5, .long bg), (4, .int w), (0, .long x), (2, .long y)] [] σ K
        have z0L : (0 : Int64).toInt = 0 := by decide
        have z0 : (0 : Int32).toInt = 0 := by decide
        have gh1 := k_ge_t h1
        have gh2 := k_ge_t h2
        have gh3 := j_ne_f h3
        exact run_M_plus_f h hb (pm_add h hb (by omega)) k
    · refine z_iconst (i := 1) (v := 1) (pc' := 290) ⟨by decide +kernel, rfl⟩ (by decide) ?_
      refine z_goto (off := 4) (tgt := 294) (pc' := 293) ⟨by decide +kernel, by decide, rfl⟩ ?_
      refine z_icmp_ne (off := 11) (tgt := 305) (pc' := 297) ⟨by decide +kernel, by decide, rfl⟩ (fun h5 => ?_) (fun h5 => ?_)
      · refine z_lload (i := 9) (q := 4) (pc' := 307) ⟨by decide +kernel, rfl⟩ rfl ?_
        refine z_lload (i := 13) (q := 0) (pc' := 309) ⟨by decide +kernel, rfl⟩ rfl ?_
        refine z_lsub (pc' := 310) ⟨by decide +kernel, rfl⟩ ?_
        refine z_iload (i := 16) (q := 1) (pc' := 312) ⟨by decide +kernel, rfl⟩ rfl ?_
        refine z_if_eq (off := 7) (tgt := 319) (pc' := 315) ⟨by decide +kernel, by decide, rfl⟩ (fun h6 => ?_) (fun h6 => ?_)
        · refine z_lconst (i := 0) (v := 0) (pc' := 320) ⟨by decide +kernel, rfl⟩ (by decide) ?_
          refine z_lsub (pc' := 321) ⟨by decide +kernel, rfl⟩ ?_
          refine z_lstore (i := 17) (pc' := 323) ⟨by decide +kernel, rfl⟩ (by decide) rfl ?_
          show Wz E Y_M_plus 323 [(17, .long ((m - n) - 0)), (13, .long n), (16, .int st), (15, .int d), (11, .int e), (9, .long m), (12, .int g), (7, .long sm), (5, .long bg), (4, .int w), (0, .long x), (2, .long y)] [] σ K
          have z0L : (0 : Int64).toInt = 0 := by decide
          have z0 : (0 : Int32).toInt = 0 := by decide
          have z1 : (1 : Int32).toInt = 1 := by decide
          have gh1 := k_ge_t h1
          have gh2 := k_ge_f h2
          have gh5 := j_ne_t h5
          have gh6 := j_eq_t (y := 0) h6
          exact run_M_plus_f h hb (pm_sub0 h hb (by omega) h6) k
        · refine z_lconst (i := 1) (v := 1) (pc' := 316) ⟨by decide +kernel, rfl⟩ (by decide) ?_
          refine z_goto (off := 4) (tgt := 320) (pc' := 319) ⟨by decide +kernel, by decide, rfl⟩ ?_
          refine z_lsub (pc' := 321) ⟨by decide +kernel, rfl⟩ ?_
          refine z_lstore (i := 17) (pc' := 323) ⟨by decide +kernel, rfl⟩ (by decide) rfl ?_
          show Wz E Y_M_plus 323 [(17, .long ((m - n) - 1)), (13, .long n), (16, .int st), (15, .int d), (11, .int e), (9, .long m), (12, .int g), (7, .long sm), (5, .long bg), (4, .int w), (0, .long x), (2, .long y)] [] σ K
          have z0L : (0 : Int64).toInt = 0 := by decide
          have z0 : (0 : Int32).toInt = 0 := by decide
          have z1 : (1 : Int32).toInt = 1 := by decide
          have gh1 := k_ge_t h1
          have gh2 := k_ge_f h2
          have gh5 := j_ne_t h5
          have gh6 := j_eq_f (y := 0) h6
          exact run_M_plus_f h hb (pm_sub1 h hb (by omega) h6) k
      · refine z_lload (i := 9) (q := 4) (pc' := 299) ⟨by decide +kernel, rfl⟩ rfl ?_
        refine z_lload (i := 13) (q := 0) (pc' := 301) ⟨by decide +kernel, rfl⟩ rfl ?_
        refine z_ladd (pc' := 302) ⟨by decide +kernel, rfl⟩ ?_
        refine z_goto (off := 19) (tgt := 321) (pc' := 305) ⟨by decide +kernel, by decide, rfl⟩ ?_
        refine z_lstore (i := 17) (pc' := 323) ⟨by decide +kernel, rfl⟩ (by decide) rfl ?_
        show Wz E Y_M_plus 323 [(17, .long (m + n)), (13, .long n), (16, .int st), (15, .int d), (11, .int e), (9, .long m), (12, .int g), (7, .long sm), (5, .long bg), (4, .int w), (0, .long x), (2, .long y)] [] σ K
        have z0L : (0 : Int64).toInt = 0 := by decide
        have z0 : (0 : Int32).toInt = 0 := by decide
        have z1 : (1 : Int32).toInt = 1 := by decide
        have gh1 := k_ge_t h1
        have gh2 := k_ge_f h2
        have gh5 := j_ne_f h5
        exact run_M_plus_f h hb (pm_add h hb (by omega)) k
  · refine z_iconst (i := 1) (v := 1) (pc' := 279) ⟨by decide +kernel, rfl⟩ (by decide) ?_
    refine z_goto (off := 4) (tgt := 283) (pc' := 282) ⟨by decide +kernel, by decide, rfl⟩ ?_
    refine z_lload_n (f := 2) (i := 2) (q := 10) (pc' := 284) ⟨by decide +kernel, rfl⟩ rfl rfl ?_
    refine z_lconst (i := 0) (v := 0) (pc' := 285) ⟨by decide +kernel, rfl⟩ (by decide) ?_
    refine z_lcmp (pc' := 286) ⟨by decide +kernel, rfl⟩ ?_
    refine z_if_ge (off := 7) (tgt := 293) (pc' := 289) ⟨by decide +kernel, by decide, rfl⟩ (fun h7 => ?_) (fun h7 => ?_)
    · refine z_iconst (i := 0) (v := 0) (pc' := 294) ⟨by decide +kernel, rfl⟩ (by decide) ?_
      refine z_icmp_ne (off := 11) (tgt := 305) (pc' := 297) ⟨by decide +kernel, by decide, rfl⟩ (fun h8 => ?_) (fun h8 => ?_)
      · refine z_lload (i := 9) (q := 4) (pc' := 307) ⟨by decide +kernel, rfl⟩ rfl ?_
        refine z_lload (i := 13) (q := 0) (pc' := 309) ⟨by decide +kernel, rfl⟩ rfl ?_
        refine z_lsub (pc' := 310) ⟨by decide +kernel, rfl⟩ ?_
        refine z_iload (i := 16) (q := 1) (pc' := 312) ⟨by decide +kernel, rfl⟩ rfl ?_
        refine z_if_eq (off := 7) (tgt := 319) (pc' := 315) ⟨by decide +kernel, by decide, rfl⟩ (fun h9 => ?_) (fun h9 => ?_)
        · refine z_lconst (i := 0) (v := 0) (pc' := 320) ⟨by decide +kernel, rfl⟩ (by decide) ?_
          refine z_lsub (pc' := 321) ⟨by decide +kernel, rfl⟩ ?_
          refine z_lstore (i := 17) (pc' := 323) ⟨by decide +kernel, rfl⟩ (by decide) rfl ?_
          show Wz E Y_M_plus 323 [(17, .long ((m - n) - 0)), (13, .long n), (16, .int st), (15, .int d), (11, .int e), (9, .long m), (12, .int g), (7, .long sm), (5, .long bg), (4, .int w), (0, .long x), (2, .long y)] [] σ K
          have z0L : (0 : Int64).toInt = 0 := by decide
          have z0 : (0 : Int32).toInt = 0 := by decide
          have z1 : (1 : Int32).toInt = 1 := by decide
          have gh1 := k_ge_f h1
          have gh7 := k_ge_t h7
          have gh8 := j_ne_t h8
          have gh9 := j_eq_t (y := 0) h9
          exact run_M_plus_f h hb (pm_sub0 h hb (by omega) h9) k
        · refine z_lconst (i := 1) (v := 1) (pc' := 316) ⟨by decide +kernel, rfl⟩ (by decide) ?_
          refine z_goto (off := 4) (tgt := 320) (pc' := 319) ⟨by decide +kernel, by decide, rfl⟩ ?_
          refine z_lsub (pc' := 321) ⟨by decide +kernel, rfl⟩ ?_
          refine z_lstore (i := 17) (pc' := 323) ⟨by decide +kernel, rfl⟩ (by decide) rfl ?_
          show Wz E Y_M_plus 323 [(17, .long ((m - n) - 1)), (13, .long n), (16, .int st), (15, .int d), (11, .int e), (9, .long m), (12, .int g), (7, .long sm), (5, .long bg), (4, .int w), (0, .long x), (2, .long y)] [] σ K
          have z0L : (0 : Int64).toInt = 0 := by decide
          have z0 : (0 : Int32).toInt = 0 := by decide
          have z1 : (1 : Int32).toInt = 1 := by decide
          have gh1 := k_ge_f h1
          have gh7 := k_ge_t h7
          have gh8 := j_ne_t h8
          have gh9 := j_eq_f (y := 0) h9
          exact run_M_plus_f h hb (pm_sub1 h hb (by omega) h9) k
      · refine z_lload (i := 9) (q := 4) (pc' := 299) ⟨by decide +kernel, rfl⟩ rfl ?_
        refine z_lload (i := 13) (q := 0) (pc' := 301) ⟨by decide +kernel, rfl⟩ rfl ?_
        refine z_ladd (pc' := 302) ⟨by decide +kernel, rfl⟩ ?_
        refine z_goto (off := 19) (tgt := 321) (pc' := 305) ⟨by decide +kernel, by decide, rfl⟩ ?_
        refine z_lstore (i := 17) (pc' := 323) ⟨by decide +kernel, rfl⟩ (by decide) rfl ?_
        show Wz E Y_M_plus 323 [(17, .long (m + n)), (13, .long n), (16, .int st), (15, .int d), (11, .int e), (9, .long m), (12, .int g), (7, .long sm), (5, .long bg), (4, .int w), (0, .long x), (2, .long y)] [] σ K
        have z0L : (0 : Int64).toInt = 0 := by decide
        have z0 : (0 : Int32).toInt = 0 := by decide
        have z1 : (1 : Int32).toInt = 1 := by decide
        have gh1 := k_ge_f h1
        have gh7 := k_ge_t h7
        have gh8 := j_ne_f h8
        exact run_M_plus_f h hb (pm_add h hb (by omega)) k
    · refine z_iconst (i := 1) (v := 1) (pc' := 290) ⟨by decide +kernel, rfl⟩ (by decide) ?_
      refine z_goto (off := 4) (tgt := 294) (pc' := 293) ⟨by decide +kernel, by decide, rfl⟩ ?_
      refine z_icmp_ne (off := 11) (tgt := 305) (pc' := 297) ⟨by decide +kernel, by decide, rfl⟩ (fun h10 => ?_) (fun h10 => ?_)
      · refine z_lload (i := 9) (q := 4) (pc' := 307) ⟨by decide +kernel, rfl⟩ rfl ?_
        refine z_lload (i := 13) (q := 0) (pc' := 309) ⟨by decide +kernel, rfl⟩ rfl ?_
        refine z_lsub (pc' := 310) ⟨by decide +kernel, rfl⟩ ?_
        refine z_iload (i := 16) (q := 1) (pc' := 312) ⟨by decide +kernel, rfl⟩ rfl ?_
        refine z_if_eq (off := 7) (tgt := 319) (pc' := 315) ⟨by decide +kernel, by decide, rfl⟩ (fun h11 => ?_) (fun h11 => ?_)
        · refine z_lconst (i := 0) (v := 0) (pc' := 320) ⟨by decide +kernel, rfl⟩ (by decide) ?_
          refine z_lsub (pc' := 321) ⟨by decide +kernel, rfl⟩ ?_
          refine z_lstore (i := 17) (pc' := 323) ⟨by decide +kernel, rfl⟩ (by decide) rfl ?_
          show Wz E Y_M_plus 323 [(17, .long ((m - n) - 0)), (13, .long n), (16, .int st), (15, .int d), (11, .int e), (9, .long m), (12, .int g), (7, .long sm), (5, .long bg), (4, .int w), (0, .long x), (2, .long y)] [] σ K
          have z0L : (0 : Int64).toInt = 0 := by decide
          have z0 : (0 : Int32).toInt = 0 := by decide
          have z1 : (1 : Int32).toInt = 1 := by decide
          have gh1 := k_ge_f h1
          have gh7 := k_ge_f h7
          have gh10 := j_ne_t h10
          have gh11 := j_eq_t (y := 0) h11
          exact run_M_plus_f h hb (pm_sub0 h hb (by omega) h11) k
        · refine z_lconst (i := 1) (v := 1) (pc' := 316) ⟨by decide +kernel, rfl⟩ (by decide) ?_
          refine z_goto (off := 4) (tgt := 320) (pc' := 319) ⟨by decide +kernel, by decide, rfl⟩ ?_
          refine z_lsub (pc' := 321) ⟨by decide +kernel, rfl⟩ ?_
          refine z_lstore (i := 17) (pc' := 323) ⟨by decide +kernel, rfl⟩ (by decide) rfl ?_
          show Wz E Y_M_plus 323 [(17, .long ((m - n) - 1)), (13, .long n), (16, .int st), (15, .int d), (11, .int e), (9, .long m), (12, .int g), (7, .long sm), (5, .long bg), (4, .int w), (0, .long x), (2, .long y)] [] σ K
          have z0L : (0 : Int64).toInt = 0 := by decide
          have z0 : (0 : Int32).toInt = 0 := by decide
          have z1 : (1 : Int32).toInt = 1 := by decide
          have gh1 := k_ge_f h1
          have gh7 := k_ge_f h7
          have gh10 := j_ne_t h10
          have gh11 := j_eq_f (y := 0) h11
          exact run_M_plus_f h hb (pm_sub1 h hb (by omega) h11) k
      · refine z_lload (i := 9) (q := 4) (pc' := 299) ⟨by decide +kernel, rfl⟩ rfl ?_
        refine z_lload (i := 13) (q := 0) (pc' := 301) ⟨by decide +kernel, rfl⟩ rfl ?_
        refine z_ladd (pc' := 302) ⟨by decide +kernel, rfl⟩ ?_
        refine z_goto (off := 19) (tgt := 321) (pc' := 305) ⟨by decide +kernel, by decide, rfl⟩ ?_
        refine z_lstore (i := 17) (pc' := 323) ⟨by decide +kernel, rfl⟩ (by decide) rfl ?_
        show Wz E Y_M_plus 323 [(17, .long (m + n)), (13, .long n), (16, .int st), (15, .int d), (11, .int e), (9, .long m), (12, .int g), (7, .long sm), (5, .long bg), (4, .int w), (0, .long x), (2, .long y)] [] σ K
        have z0L : (0 : Int64).toInt = 0 := by decide
        have z1 : (1 : Int32).toInt = 1 := by decide
        have gh1 := k_ge_f h1
        have gh7 := k_ge_f h7
        have gh10 := j_ne_f h10
        exact run_M_plus_f h hb (pm_add h hb (by omega)) k

end
