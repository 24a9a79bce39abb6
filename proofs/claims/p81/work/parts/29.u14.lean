section
theorem fxe_5_142 : FxE "RightsHouse$Judge" 142 5 5 := fx_e (m := 113) (t := 3) rfl (by decide) (by decide +kernel)
theorem kaa_22 : KaA 22 101 9600 := ka_a (by decide +kernel)
theorem kfa_17_5 : KfA 17 5 5 2 22 := kf_a (by decide) (by decide +kernel)
theorem cz_Ju_combine {E : xV} {σ τ : zS} {K : zKt} {V T : List EntJ} {op : Int32} {num : Int64} {n m en : Nat} {r : EntJ} (h : CsJ σ τ V T 0) (hop : op = σ.1 21 n) (hnum : num = σ.2 22 n) (hin : n < en) (hco : CoC σ en) (h20 : 20 ≤ (σ.1 21 n).toInt) (h23 : (σ.1 21 n).toInt ≤ 23) (hw : 0 ≤ (σ.1 27 3).toInt ∧ (σ.1 27 3).toInt ≤ 19) (hth : 0 ≤ (σ.1 27 5).toInt ∧ (σ.1 27 5).toInt ≤ 39) (hr : cr9 (ECV σ) (RC9 σ) en (m + 1) n V T = some r) (k : ∀ (τ' : zS) (T' : List EntJ), CsJ σ τ' V T' 0 → cr9 (ECV σ) (RC9 σ) en m (n + 1) V T' = some r → K none τ') : Cz E Y_Ju_combine [.ref 27, .int op, .long num] τ K := by
  refine z_entry (by decide) (fun a => by rw [sl_len]; exact Nat.le_of_ble_eq_true rfl) rfl ?_
  show Wz E Y_Ju_combine 0 [(0, .ref 27), (1, .int op), (2, .long num)] [] τ K
  subst hop hnum
  have hc := (hco.2 n hin)
  by_cases h0 : (σ.1 21 n).toInt = 20
  · obtain ⟨hl, hr2⟩ := crb_kn hr hin (by show (σ.1 21 n).toInt.toNat = 20; omega)
    exact run_Ju_combine_20 h hl h0 hw hth (hc.2.1 (by omega)) (fun t ht => k t _ ht hr2)
  · by_cases h1 : (σ.1 21 n).toInt = 21
    · have hr2 := crb_not hr hin (by show (σ.1 21 n).toInt.toNat = 21; omega)
      cases T with
      | nil => exact run_Ju_combine_210 h h1 (fun t ht => k t _ ht hr2)
      | cons x T => exact run_Ju_combine_21 h h1 (fun t ht => k t _ ht hr2)
    · obtain ⟨b, a, T', rfl, hr2⟩ := crb_jn hr hin (by show 22 ≤ (σ.1 21 n).toInt.toNat; omega) (by show (σ.1 21 n).toInt.toNat ≤ 23; omega)
      exact run_Ju_combine_22 (c := (σ.1 21 n).toInt.toNat) h (by omega) (by omega) (fun t ht => k t _ ht hr2)
theorem run_Ju_behindSkip_1 {E : xV} {σ τ : zS} {K : zKt} {V T : List EntJ} {fl : Int} {i op : Int32} {c n : Nat} {x : EntJ} (h : CsJ σ τ V (x :: T) fl) (hi : i.toInt = (n : Int)) (hn : n < 9600) (hop : op.toInt = (c : Int)) (hc : c = 24 ∨ c = 25) (hb : 0 ≤ (σ.2 22 n).toInt ∧ (σ.2 22 n).toInt ≤ 10000) (k : ∀ v : Int32, v.toInt + 1 = ((skJ σ c n (x :: T) : Nat) : Int) → K (some (.int v)) τ) : Wz E Y_Ju_behindSkip 0 [(0, .ref 27), (1, .int i), (2, .int op)] [] τ K := by
  refine z_iload_n (f := 2) (i := 2) (q := 2) (pc' := 1) ⟨by decide +kernel, rfl⟩ rfl rfl ?_
  refine z_bipush (i := 24) (v := 24) (pc' := 3) ⟨by decide +kernel, rfl⟩ (by decide) ?_
  refine z_icmp_ne (off := 7) (tgt := 10) (pc' := 6) ⟨by decide +kernel, by decide, rfl⟩ (fun h1 => ?_) (fun h1 => ?_)
  · refine z_iconst (i := 1) (v := 1) (pc' := 11) ⟨by decide +kernel, rfl⟩ (by decide) ?_
    refine z_istore_n (f := 3) (i := 3) (pc' := 12) ⟨by decide +kernel, rfl⟩ rfl (by decide) rfl ?_
    show Wz E Y_Ju_behindSkip 12 [(3, .int 1), (0, .ref 27), (1, .int i), (2, .int op)] [] τ K
    refine z_aload_n (f := 0) (i := 0) (q := 1) (pc' := 13) ⟨by decide +kernel, rfl⟩ rfl rfl ?_
    refine w_geti (k := 27) (j := 12) (idx := 133) (pc' := 16) fxe_5_133 kfa_27_12 ⟨by decide +kernel, rfl⟩ ?_
    refine z_if_le (off := 22) (tgt := 38) (pc' := 19) ⟨by decide +kernel, by decide, rfl⟩ (fun h2 => ?_) (fun h2 => ?_)
    · refine z_iconst (i := 0) (v := 0) (pc' := 39) ⟨by decide +kernel, rfl⟩ (by decide) ?_
      refine z_istore (i := 4) (pc' := 41) ⟨by decide +kernel, rfl⟩ (by decide) rfl ?_
      show Wz E Y_Ju_behindSkip 41 [(4, .int 0), (3, .int 1), (0, .ref 27), (1, .int i), (2, .int op)] [] τ K
      refine z_iload (i := 4) (q := 0) (pc' := 43) ⟨by decide +kernel, rfl⟩ rfl ?_
      refine z_if_eq (off := 22) (tgt := 65) (pc' := 46) ⟨by decide +kernel, by decide, rfl⟩ (fun h3 => ?_) (fun h3 => ?_)
      · refine z_iload_n (f := 1) (i := 1) (q := 3) (pc' := 66) ⟨by decide +kernel, rfl⟩ rfl rfl ?_
        refine z_iret (ty := .int) rfl rfl (by decide +kernel) ?_
        have z0L : (0 : Int64).toInt = 0 := by decide
        have z0 : (0 : Int32).toInt = 0 := by decide
        have z24 : (24 : Int32).toInt = 24 := by decide
        have gh1 := j_ne_t h1
        have gh2 := j_le_t (y := 0) h2
        have gh3 := j_eq_t (y := 0) h3
        exfalso
        have := h.2.2.1.1
        rw [List.length_cons] at this
        omega
      · refine z_iload_n (f := 1) (i := 1) (q := 3) (pc' := 47) ⟨by decide +kernel, rfl⟩ rfl rfl ?_
        refine z_aload_n (f := 0) (i := 0) (q := 2) (pc' := 48) ⟨by decide +kernel, rfl⟩ rfl rfl ?_
        refine w_getr (k := 27) (j := 2) (idx := 19) (pc' := 51) fxe_5_19 kfa_27_2 ⟨by decide +kernel, rfl⟩ ?_
        refine w_getr (k := 17) (j := 5) (idx := 142) (pc' := 54) fxe_5_142 kfa_17_5 ⟨by decide +kernel, rfl⟩ ?_
        refine z_iload_n (f := 1) (i := 1) (q := 3) (pc' := 55) ⟨by decide +kernel, rfl⟩ rfl rfl ?_
        refine w_lald (k := 22) (n := n) (pc' := 56) kaa_22 (hi) (hn) ⟨by decide +kernel, rfl⟩ ?_
        refine z_l2i (pc' := 57) ⟨by decide +kernel, rfl⟩ rfl ?_
        refine z_iconst (i := 1) (v := 1) (pc' := 58) ⟨by decide +kernel, rfl⟩ (by decide) ?_
        refine z_isub (pc' := 59) ⟨by decide +kernel, rfl⟩ ?_
        refine w_max (m := 118) (idx := 166) (pc' := 62) rfl (by decide) (by decide +kernel) (by decide) (by decide) (Nat.le_of_ble_eq_true rfl) ⟨by decide +kernel, rfl⟩ ?_
        refine z_goto (off := 4) (tgt := 66) (pc' := 65) ⟨by decide +kernel, by decide, rfl⟩ ?_
        refine z_iret (ty := .int) rfl rfl (by decide +kernel) ?_
        have z0L : (0 : Int64).toInt = 0 := by decide
        have z0 : (0 : Int32).toInt = 0 := by decide
        have z24 : (24 : Int32).toInt = 24 := by decide
        have gh1 := j_ne_t h1
        have gh2 := j_le_t (y := 0) h2
        have gh3 := j_eq_f (y := 0) h3
        exfalso
        have := h.2.2.1.1
        rw [List.length_cons] at this
        omega
    · refine z_aload_n (f := 0) (i := 0) (q := 1) (pc' := 20) ⟨by decide +kernel, rfl⟩ rfl rfl ?_
      refine w_getr (k := 27) (j := 11) (idx := 31) (pc' := 23) fxe_5_31 kfa_27_11 ⟨by decide +kernel, rfl⟩ ?_
      refine z_aload_n (f := 0) (i := 0) (q := 1) (pc' := 24) ⟨by decide +kernel, rfl⟩ rfl rfl ?_
      refine w_geti (k := 27) (j := 12) (idx := 133) (pc' := 27) fxe_5_133 kfa_27_12 ⟨by decide +kernel, rfl⟩ ?_
      refine z_iconst (i := 1) (v := 1) (pc' := 28) ⟨by decide +kernel, rfl⟩ (by decide) ?_
      refine z_isub (pc' := 29) ⟨by decide +kernel, rfl⟩ ?_
      refine w_iald (k := 30) (n := T.length) (pc' := 30) kaa_30 ((cs_ttop h).1) ((cs_ttop h).2.1) ⟨by decide +kernel, rfl⟩ ?_
      refine z_iload_n (f := 3) (i := 3) (q := 0) (pc' := 31) ⟨by decide +kernel, rfl⟩ rfl rfl ?_
      refine z_icmp_ne (off := 7) (tgt := 38) (pc' := 34) ⟨by decide +kernel, by decide, rfl⟩ (fun h4 => ?_) (fun h4 => ?_)
      · refine z_iconst (i := 0) (v := 0) (pc' := 39) ⟨by decide +kernel, rfl⟩ (by decide) ?_
        refine z_istore (i := 4) (pc' := 41) ⟨by decide +kernel, rfl⟩ (by decide) rfl ?_
        show Wz E Y_Ju_behindSkip 41 [(4, .int 0), (3, .int 1), (0, .ref 27), (1, .int i), (2, .int op)] [] τ K
        refine z_iload (i := 4) (q := 0) (pc' := 43) ⟨by decide +kernel, rfl⟩ rfl ?_
        refine z_if_eq (off := 22) (tgt := 65) (pc' := 46) ⟨by decide +kernel, by decide, rfl⟩ (fun h5 => ?_) (fun h5 => ?_)
        · refine z_iload_n (f := 1) (i := 1) (q := 3) (pc' := 66) ⟨by decide +kernel, rfl⟩ rfl rfl ?_
          refine z_iret (ty := .int) rfl rfl (by decide +kernel) ?_
          have z0L : (0 : Int64).toInt = 0 := by decide
          have z0 : (0 : Int32).toInt = 0 := by decide
          have z1 : (1 : Int32).toInt = 1 := by decide
          have z24 : (24 : Int32).toInt = 24 := by decide
          have gh1 := j_ne_t h1
          have gh2 := j_le_f (y := 0) h2
          have gh4 := j_ne_t h4
          have gh5 := j_eq_t (y := 0) h5
          have p := (cs_ttop h).2.2.1
          have t1 := tc_1 (x := x)
          have t0 := tc_0 (x := x)
          rw [p] at gh4
          by_cases hcc : c = 24
          · have hw : (if c = 24 then 5 else 4) = 5 := if_pos hcc
            exact k _ (sk_n hi (by rw [hw]; omega))
          · have hw : (if c = 24 then 5 else 4) = 4 := if_neg hcc
            exact k _ (sk_n hi (by rw [hw]; omega))
        · refine z_iload_n (f := 1) (i := 1) (q := 3) (pc' := 47) ⟨by decide +kernel, rfl⟩ rfl rfl ?_
          refine z_aload_n (f := 0) (i := 0) (q := 2) (pc' := 48) ⟨by decide +kernel, rfl⟩ rfl rfl ?_
          refine w_getr (k := 27) (j := 2) (idx := 19) (pc' := 51) fxe_5_19 kfa_27_2 ⟨by decide +kernel, rfl⟩ ?_
          refine w_getr (k := 17) (j := 5) (idx := 142) (pc' := 54) fxe_5_142 kfa_17_5 ⟨by decide +kernel, rfl⟩ ?_
          refine z_iload_n (f := 1) (i := 1) (q := 3) (pc' := 55) ⟨by decide +kernel, rfl⟩ rfl rfl ?_
          refine w_lald (k := 22) (n := n) (pc' := 56) kaa_22 (hi) (hn) ⟨by decide +kernel, rfl⟩ ?_
          refine z_l2i (pc' := 57) ⟨by decide +kernel, rfl⟩ rfl ?_
          refine z_iconst (i := 1) (v := 1) (pc' := 58) ⟨by decide +kernel, rfl⟩ (by decide) ?_
          refine z_isub (pc' := 59) ⟨by decide +kernel, rfl⟩ ?_
          refine w_max (m := 118) (idx := 166) (pc' := 62) rfl (by decide) (by decide +kernel) (by decide) (by decide) (Nat.le_of_ble_eq_true rfl) ⟨by decide +kernel, rfl⟩ ?_
          refine z_goto (off := 4) (tgt := 66) (pc' := 65) ⟨by decide +kernel, by decide, rfl⟩ ?_
          refine z_iret (ty := .int) rfl rfl (by decide +kernel) ?_
          have z0L : (0 : Int64).toInt = 0 := by decide
          have z0 : (0 : Int32).toInt = 0 := by decide
          have z1 : (1 : Int32).toInt = 1 := by decide
          have z24 : (24 : Int32).toInt = 24 := by decide
          have gh1 := j_ne_t h1
          have gh2 := j_le_f (y := 0) h2
          have gh4 := j_ne_t h4
          have gh5 := j_eq_f (y := 0) h5
          have p := (cs_ttop h).2.2.1
          have t1 := tc_1 (x := x)
          have t0 := tc_0 (x := x)
          rw [p] at gh4
          by_cases hcc : c = 24
          · have hw : (if c = 24 then 5 else 4) = 5 := if_pos hcc
            exact k _ (sk_y hi (cs_s h n).2.2.2.2 hn hb (by rw [hw]; omega) rfl)
          · have hw : (if c = 24 then 5 else 4) = 4 := if_neg hcc
            exact k _ (sk_y hi (cs_s h n).2.2.2.2 hn hb (by rw [hw]; omega) rfl)
      · refine z_iconst (i := 1) (v := 1) (pc' := 35) ⟨by decide +kernel, rfl⟩ (by decide) ?_
        refine z_goto (off := 4) (tgt := 39) (pc' := 38) ⟨by decide +kernel, by decide, rfl⟩ ?_
        refine z_istore (i := 4) (pc' := 41) ⟨by decide +kernel, rfl⟩ (by decide) rfl ?_
        show Wz E Y_Ju_behindSkip 41 [(4, .int 1), (3, .int 1), (0, .ref 27), (1, .int i), (2, .int op)] [] τ K
        refine z_iload (i := 4) (q := 0) (pc' := 43) ⟨by decide +kernel, rfl⟩ rfl ?_
        refine z_if_eq (off := 22) (tgt := 65) (pc' := 46) ⟨by decide +kernel, by decide, rfl⟩ (fun h6 => ?_) (fun h6 => ?_)
        · refine z_iload_n (f := 1) (i := 1) (q := 3) (pc' := 66) ⟨by decide +kernel, rfl⟩ rfl rfl ?_
          refine z_iret (ty := .int) rfl rfl (by decide +kernel) ?_
          have z0L : (0 : Int64).toInt = 0 := by decide
          have z0 : (0 : Int32).toInt = 0 := by decide
          have z1 : (1 : Int32).toInt = 1 := by decide
          have z24 : (24 : Int32).toInt = 24 := by decide
          have gh1 := j_ne_t h1
          have gh2 := j_le_f (y := 0) h2
          have gh4 := j_ne_f h4
          have gh6 := j_eq_t (y := 0) h6
          have p := (cs_ttop h).2.2.1
          have t1 := tc_1 (x := x)
          have t0 := tc_0 (x := x)
          rw [p] at gh4
          by_cases hcc : c = 24
          · have hw : (if c = 24 then 5 else 4) = 5 := if_pos hcc
            exact k _ (sk_n hi (by rw [hw]; omega))
          · have hw : (if c = 24 then 5 else 4) = 4 := if_neg hcc
            exact k _ (sk_n hi (by rw [hw]; omega))
        · refine z_iload_n (f := 1) (i := 1) (q := 3) (pc' := 47) ⟨by decide +kernel, rfl⟩ rfl rfl ?_
          refine z_aload_n (f := 0) (i := 0) (q := 2) (pc' := 48) ⟨by decide +kernel, rfl⟩ rfl rfl ?_
          refine w_getr (k := 27) (j := 2) (idx := 19) (pc' := 51) fxe_5_19 kfa_27_2 ⟨by decide +kernel, rfl⟩ ?_
          refine w_getr (k := 17) (j := 5) (idx := 142) (pc' := 54) fxe_5_142 kfa_17_5 ⟨by decide +kernel, rfl⟩ ?_
          refine z_iload_n (f := 1) (i := 1) (q := 3) (pc' := 55) ⟨by decide +kernel, rfl⟩ rfl rfl ?_
          refine w_lald (k := 22) (n := n) (pc' := 56) kaa_22 (hi) (hn) ⟨by decide +kernel, rfl⟩ ?_
          refine z_l2i (pc' := 57) ⟨by decide +kernel, rfl⟩ rfl ?_
          refine z_iconst (i := 1) (v := 1) (pc' := 58) ⟨by decide +kernel, rfl⟩ (by decide) ?_
          refine z_isub (pc' := 59) ⟨by decide +kernel, rfl⟩ ?_
          refine w_max (m := 118) (idx := 166) (pc' := 62) rfl (by decide) (by decide +kernel) (by decide) (by decide) (Nat.le_of_ble_eq_true rfl) ⟨by decide +kernel, rfl⟩ ?_
          refine z_goto (off := 4) (tgt := 66) (pc' := 65) ⟨by decide +kernel, by decide, rfl⟩ ?_
          refine z_iret (ty := .int) rfl rfl (by decide +kernel) ?_
          have z0L : (0 : Int64).toInt = 0 := by decide
          have z0 : (0 : Int32).toInt = 0 := by decide
          have z1 : (1 : Int32).toInt = 1 := by decide
          have z24 : (24 : Int32).toInt = 24 := by decide
          have gh1 := j_ne_t h1
          have gh2 := j_le_f (y := 0) h2
          have gh4 := j_ne_f h4
          have gh6 := j_eq_f (y := 0) h6
          have p := (cs_ttop h).2.2.1
          have t1 := tc_1 (x := x)
          have t0 := tc_0 (x := x)
          rw [p] at gh4
          by_cases hcc : c = 24
          · have hw : (if c = 24 then 5 else 4) = 5 := if_pos hcc
            exact k _ (sk_y hi (cs_s h n).2.2.2.2 hn hb (by rw [hw]; omega) rfl)
          · have hw : (if c = 24 then 5 else 4) = 4 := if_neg hcc
            exact k _ (sk_y hi (cs_s h n).2.2.2.2 hn hb (by rw [hw]; omega) rfl)
  · refine z_iconst (i := 0) (v := 0) (pc' := 7) ⟨by decide +kernel, rfl⟩ (by decide) ?_
    refine z_goto (off := 4) (tgt := 11) (pc' := 10) ⟨by decide +kernel, by decide, rfl⟩ ?_
    refine z_istore_n (f := 3) (i := 3) (pc' := 12) ⟨by decide +kernel, rfl⟩ rfl (by decide) rfl ?_
    show Wz E Y_Ju_behindSkip 12 [(3, .int 0), (0, .ref 27), (1, .int i), (2, .int op)] [] τ K
    refine z_aload_n (f := 0) (i := 0) (q := 1) (pc' := 13) ⟨by decide +kernel, rfl⟩ rfl rfl ?_
    refine w_geti (k := 27) (j := 12) (idx := 133) (pc' := 16) fxe_5_133 kfa_27_12 ⟨by decide +kernel, rfl⟩ ?_
    refine z_if_le (off := 22) (tgt := 38) (pc' := 19) ⟨by decide +kernel, by decide, rfl⟩ (fun h7 => ?_) (fun h7 => ?_)
    · refine z_iconst (i := 0) (v := 0) (pc' := 39) ⟨by decide +kernel, rfl⟩ (by decide) ?_
      refine z_istore (i := 4) (pc' := 41) ⟨by decide +kernel, rfl⟩ (by decide) rfl ?_
      show Wz E Y_Ju_behindSkip 41 [(4, .int 0), (3, .int 0), (0, .ref 27), (1, .int i), (2, .int op)] [] τ K
      refine z_iload (i := 4) (q := 0) (pc' := 43) ⟨by decide +kernel, rfl⟩ rfl ?_
      refine z_if_eq (off := 22) (tgt := 65) (pc' := 46) ⟨by decide +kernel, by decide, rfl⟩ (fun h8 => ?_) (fun h8 => ?_)
      · refine z_iload_n (f := 1) (i := 1) (q := 3) (pc' := 66) ⟨by decide +kernel, rfl⟩ rfl rfl ?_
        refine z_iret (ty := .int) rfl rfl (by decide +kernel) ?_
        have z0L : (0 : Int64).toInt = 0 := by decide
        have z0 : (0 : Int32).toInt = 0 := by decide
        have z24 : (24 : Int32).toInt = 24 := by decide
        have gh1 := j_ne_f h1
        have gh7 := j_le_t (y := 0) h7
        have gh8 := j_eq_t (y := 0) h8
        exfalso
        have := h.2.2.1.1
        rw [List.length_cons] at this
        omega
      · refine z_iload_n (f := 1) (i := 1) (q := 3) (pc' := 47) ⟨by decide +kernel, rfl⟩ rfl rfl ?_
        refine z_aload_n (f := 0) (i := 0) (q := 2) (pc' := 48) ⟨by decide +kernel, rfl⟩ rfl rfl ?_
        refine w_getr (k := 27) (j := 2) (idx := 19) (pc' := 51) fxe_5_19 kfa_27_2 ⟨by decide +kernel, rfl⟩ ?_
        refine w_getr (k := 17) (j := 5) (idx := 142) (pc' := 54) fxe_5_142 kfa_17_5 ⟨by decide +kernel, rfl⟩ ?_
        refine z_iload_n (f := 1) (i := 1) (q := 3) (pc' := 55) ⟨by decide +kernel, rfl⟩ rfl rfl ?_
        refine w_lald (k := 22) (n := n) (pc' := 56) kaa_22 (hi) (hn) ⟨by decide +kernel, rfl⟩ ?_
        refine z_l2i (pc' := 57) ⟨by decide +kernel, rfl⟩ rfl ?_
        refine z_iconst (i := 1) (v := 1) (pc' := 58) ⟨by decide +kernel, rfl⟩ (by decide) ?_
        refine z_isub (pc' := 59) ⟨by decide +kernel, rfl⟩ ?_
        refine w_max (m := 118) (idx := 166) (pc' := 62) rfl (by decide) (by decide +kernel) (by decide) (by decide) (Nat.le_of_ble_eq_true rfl) ⟨by decide +kernel, rfl⟩ ?_
        refine z_goto (off := 4) (tgt := 66) (pc' := 65) ⟨by decide +kernel, by decide, rfl⟩ ?_
        refine z_iret (ty := .int) rfl rfl (by decide +kernel) ?_
        have z0L : (0 : Int64).toInt = 0 := by decide
        have z0 : (0 : Int32).toInt = 0 := by decide
        have z24 : (24 : Int32).toInt = 24 := by decide
        have gh1 := j_ne_f h1
        have gh7 := j_le_t (y := 0) h7
        have gh8 := j_eq_f (y := 0) h8
        exfalso
        have := h.2.2.1.1
        rw [List.length_cons] at this
        omega
    · refine z_aload_n (f := 0) (i := 0) (q := 1) (pc' := 20) ⟨by decide +kernel, rfl⟩ rfl rfl ?_
      refine w_getr (k := 27) (j := 11) (idx := 31) (pc' := 23) fxe_5_31 kfa_27_11 ⟨by decide +kernel, rfl⟩ ?_
      refine z_aload_n (f := 0) (i := 0) (q := 1) (pc' := 24) ⟨by decide +kernel, rfl⟩ rfl rfl ?_
      refine w_geti (k := 27) (j := 12) (idx := 133) (pc' := 27) fxe_5_133 kfa_27_12 ⟨by decide +kernel, rfl⟩ ?_
      refine z_iconst (i := 1) (v := 1) (pc' := 28) ⟨by decide +kernel, rfl⟩ (by decide) ?_
      refine z_isub (pc' := 29) ⟨by decide +kernel, rfl⟩ ?_
      refine w_iald (k := 30) (n := T.length) (pc' := 30) kaa_30 ((cs_ttop h).1) ((cs_ttop h).2.1) ⟨by decide +kernel, rfl⟩ ?_
      refine z_iload_n (f := 3) (i := 3) (q := 0) (pc' := 31) ⟨by decide +kernel, rfl⟩ rfl rfl ?_
      refine z_icmp_ne (off := 7) (tgt := 38) (pc' := 34) ⟨by decide +kernel, by decide, rfl⟩ (fun h9 => ?_) (fun h9 => ?_)
      · refine z_iconst (i := 0) (v := 0) (pc' := 39) ⟨by decide +kernel, rfl⟩ (by decide) ?_
        refine z_istore (i := 4) (pc' := 41) ⟨by decide +kernel, rfl⟩ (by decide) rfl ?_
        show Wz E Y_Ju_behindSkip 41 [(4, .int 0), (3, .int 0), (0, .ref 27), (1, .int i), (2, .int op)] [] τ K
        refine z_iload (i := 4) (q := 0) (pc' := 43) ⟨by decide +kernel, rfl⟩ rfl ?_
        refine z_if_eq (off := 22) (tgt := 65) (pc' := 46) ⟨by decide +kernel, by decide, rfl⟩ (fun h10 => ?_) (fun h10 => ?_)
        · refine z_iload_n (f := 1) (i := 1) (q := 3) (pc' := 66) ⟨by decide +kernel, rfl⟩ rfl rfl ?_
          refine z_iret (ty := .int) rfl rfl (by decide +kernel) ?_
          have z0L : (0 : Int64).toInt = 0 := by decide
          have z0 : (0 : Int32).toInt = 0 := by decide
          have z24 : (24 : Int32).toInt = 24 := by decide
          have gh1 := j_ne_f h1
          have gh7 := j_le_f (y := 0) h7
          have gh9 := j_ne_t h9
          have gh10 := j_eq_t (y := 0) h10
          have p := (cs_ttop h).2.2.1
          have t1 := tc_1 (x := x)
          have t0 := tc_0 (x := x)
          rw [p] at gh9
          by_cases hcc : c = 24
          · have hw : (if c = 24 then 5 else 4) = 5 := if_pos hcc
            exact k _ (sk_n hi (by rw [hw]; omega))
          · have hw : (if c = 24 then 5 else 4) = 4 := if_neg hcc
            exact k _ (sk_n hi (by rw [hw]; omega))
        · refine z_iload_n (f := 1) (i := 1) (q := 3) (pc' := 47) ⟨by decide +kernel, rfl⟩ rfl rfl ?_
          refine z_aload_n (f := 0) (i := 0) (q := 2) (pc' := 48) ⟨by decide +kernel, rfl⟩ rfl rfl ?_
          refine w_getr (k := 27) (j := 2) (idx := 19) (pc' := 51) fxe_5_19 kfa_27_2 ⟨by decide +kernel, rfl⟩ ?_
          refine w_getr (k := 17) (j := 5) (idx := 142) (pc' := 54) fxe_5_142 kfa_17_5 ⟨by decide +kernel, rfl⟩ ?_
          refine z_iload_n (f := 1) (i := 1) (q := 3) (pc' := 55) ⟨by decide +kernel, rfl⟩ rfl rfl ?_
          refine w_lald (k := 22) (n := n) (pc' := 56) kaa_22 (hi) (hn) ⟨by decide +kernel, rfl⟩ ?_
          refine z_l2i (pc' := 57) ⟨by decide +kernel, rfl⟩ rfl ?_
          refine z_iconst (i := 1) (v := 1) (pc' := 58) ⟨by decide +kernel, rfl⟩ (by decide) ?_
          refine z_isub (pc' := 59) ⟨by decide +kernel, rfl⟩ ?_
          refine w_max (m := 118) (idx := 166) (pc' := 62) rfl (by decide) (by decide +kernel) (by decide) (by decide) (Nat.le_of_ble_eq_true rfl) ⟨by decide +kernel, rfl⟩ ?_
          refine z_goto (off := 4) (tgt := 66) (pc' := 65) ⟨by decide +kernel, by decide, rfl⟩ ?_
          refine z_iret (ty := .int) rfl rfl (by decide +kernel) ?_
          have z0L : (0 : Int64).toInt = 0 := by decide
          have z0 : (0 : Int32).toInt = 0 := by decide
          have z24 : (24 : Int32).toInt = 24 := by decide
          have gh1 := j_ne_f h1
          have gh7 := j_le_f (y := 0) h7
          have gh9 := j_ne_t h9
          have gh10 := j_eq_f (y := 0) h10
          have p := (cs_ttop h).2.2.1
          have t1 := tc_1 (x := x)
          have t0 := tc_0 (x := x)
          rw [p] at gh9
          by_cases hcc : c = 24
          · have hw : (if c = 24 then 5 else 4) = 5 := if_pos hcc
            exact k _ (sk_y hi (cs_s h n).2.2.2.2 hn hb (by rw [hw]; omega) rfl)
          · have hw : (if c = 24 then 5 else 4) = 4 := if_neg hcc
            exact k _ (sk_y hi (cs_s h n).2.2.2.2 hn hb (by rw [hw]; omega) rfl)
      · refine z_iconst (i := 1) (v := 1) (pc' := 35) ⟨by decide +kernel, rfl⟩ (by decide) ?_
        refine z_goto (off := 4) (tgt := 39) (pc' := 38) ⟨by decide +kernel, by decide, rfl⟩ ?_
        refine z_istore (i := 4) (pc' := 41) ⟨by decide +kernel, rfl⟩ (by decide) rfl ?_
        show Wz E Y_Ju_behindSkip 41 [(4, .int 1), (3, .int 0), (0, .ref 27), (1, .int i), (2, .int op)] [] τ K
        refine z_iload (i := 4) (q := 0) (pc' := 43) ⟨by decide +kernel, rfl⟩ rfl ?_
        refine z_if_eq (off := 22) (tgt := 65) (pc' := 46) ⟨by decide +kernel, by decide, rfl⟩ (fun h11 => ?_) (fun h11 => ?_)
        · refine z_iload_n (f := 1) (i := 1) (q := 3) (pc' := 66) ⟨by decide +kernel, rfl⟩ rfl rfl ?_
          refine z_iret (ty := .int) rfl rfl (by decide +kernel) ?_
          have z0L : (0 : Int64).toInt = 0 := by decide
          have z0 : (0 : Int32).toInt = 0 := by decide
          have z1 : (1 : Int32).toInt = 1 := by decide
          have z24 : (24 : Int32).toInt = 24 := by decide
          have gh1 := j_ne_f h1
          have gh7 := j_le_f (y := 0) h7
          have gh9 := j_ne_f h9
          have gh11 := j_eq_t (y := 0) h11
          have p := (cs_ttop h).2.2.1
          have t1 := tc_1 (x := x)
          have t0 := tc_0 (x := x)
          rw [p] at gh9
          by_cases hcc : c = 24
          · have hw : (if c = 24 then 5 else 4) = 5 := if_pos hcc
            exact k _ (sk_n hi (by rw [hw]; omega))
          · have hw : (if c = 24 then 5 else 4) = 4 := if_neg hcc
            exact k _ (sk_n hi (by rw [hw]; omega))
        · refine z_iload_n (f := 1) (i := 1) (q := 3) (pc' := 47) ⟨by decide +kernel, rfl⟩ rfl rfl ?_
          refine z_aload_n (f := 0) (i := 0) (q := 2) (pc' := 48) ⟨by decide +kernel, rfl⟩ rfl rfl ?_
          refine w_getr (k := 27) (j := 2) (idx := 19) (pc' := 51) fxe_5_19 kfa_27_2 ⟨by decide +kernel, rfl⟩ ?_
          refine w_getr (k := 17) (j := 5) (idx := 142) (pc' := 54) fxe_5_142 kfa_17_5 ⟨by decide +kernel, rfl⟩ ?_
          refine z_iload_n (f := 1) (i := 1) (q := 3) (pc' := 55) ⟨by decide +kernel, rfl⟩ rfl rfl ?_
          refine w_lald (k := 22) (n := n) (pc' := 56) kaa_22 (hi) (hn) ⟨by decide +kernel, rfl⟩ ?_
          refine z_l2i (pc' := 57) ⟨by decide +kernel, rfl⟩ rfl ?_
          refine z_iconst (i := 1) (v := 1) (pc' := 58) ⟨by decide +kernel, rfl⟩ (by decide) ?_
          refine z_isub (pc' := 59) ⟨by decide +kernel, rfl⟩ ?_
          refine w_max (m := 118) (idx := 166) (pc' := 62) rfl (by decide) (by decide +kernel) (by decide) (by decide) (Nat.le_of_ble_eq_true rfl) ⟨by decide +kernel, rfl⟩ ?_
          refine z_goto (off := 4) (tgt := 66) (pc' := 65) ⟨by decide +kernel, by decide, rfl⟩ ?_
          refine z_iret (ty := .int) rfl rfl (by decide +kernel) ?_
          have z0L : (0 : Int64).toInt = 0 := by decide
          have z0 : (0 : Int32).toInt = 0 := by decide
          have z1 : (1 : Int32).toInt = 1 := by decide
          have z24 : (24 : Int32).toInt = 24 := by decide
          have gh1 := j_ne_f h1
          have gh7 := j_le_f (y := 0) h7
          have gh9 := j_ne_f h9
          have gh11 := j_eq_f (y := 0) h11
          have p := (cs_ttop h).2.2.1
          have t1 := tc_1 (x := x)
          have t0 := tc_0 (x := x)
          rw [p] at gh9
          by_cases hcc : c = 24
          · have hw : (if c = 24 then 5 else 4) = 5 := if_pos hcc
            exact k _ (sk_y hi (cs_s h n).2.2.2.2 hn hb (by rw [hw]; omega) rfl)
          · have hw : (if c = 24 then 5 else 4) = 4 := if_neg hcc
            exact k _ (sk_y hi (cs_s h n).2.2.2.2 hn hb (by rw [hw]; omega) rfl)
theorem run_Ju_behindSkip_0 {E : xV} {σ τ : zS} {K : zKt} {V : List EntJ} {fl : Int} {i op : Int32} {c n : Nat} (h : CsJ σ τ V [] fl) (hi : i.toInt = (n : Int)) (hn : n < 9600) (hop : op.toInt = (c : Int)) (hc : c = 24 ∨ c = 25) (hb : 0 ≤ (σ.2 22 n).toInt ∧ (σ.2 22 n).toInt ≤ 10000) (k : ∀ v : Int32, v.toInt + 1 = ((skJ σ c n [] : Nat) : Int) → K (some (.int v)) τ) : Wz E Y_Ju_behindSkip 0 [(0, .ref 27), (1, .int i), (2, .int op)] [] τ K := by
  refine z_iload_n (f := 2) (i := 2) (q := 2) (pc' := 1) ⟨by decide +kernel, rfl⟩ rfl rfl ?_
  refine z_bipush (i := 24) (v := 24) (pc' := 3) ⟨by decide +kernel, rfl⟩ (by decide) ?_
  refine z_icmp_ne (off := 7) (tgt := 10) (pc' := 6) ⟨by decide +kernel, by decide, rfl⟩ (fun h1 => ?_) (fun h1 => ?_)
  · refine z_iconst (i := 1) (v := 1) (pc' := 11) ⟨by decide +kernel, rfl⟩ (by decide) ?_
    refine z_istore_n (f := 3) (i := 3) (pc' := 12) ⟨by decide +kernel, rfl⟩ rfl (by decide) rfl ?_
    show Wz E Y_Ju_behindSkip 12 [(3, .int 1), (0, .ref 27), (1, .int i), (2, .int op)] [] τ K
    refine z_aload_n (f := 0) (i := 0) (q := 1) (pc' := 13) ⟨by decide +kernel, rfl⟩ rfl rfl ?_
    refine w_geti (k := 27) (j := 12) (idx := 133) (pc' := 16) fxe_5_133 kfa_27_12 ⟨by decide +kernel, rfl⟩ ?_
    refine z_if_le (off := 22) (tgt := 38) (pc' := 19) ⟨by decide +kernel, by decide, rfl⟩ (fun h2 => ?_) (fun h2 => ?_)
    · refine z_iconst (i := 0) (v := 0) (pc' := 39) ⟨by decide +kernel, rfl⟩ (by decide) ?_
      refine z_istore (i := 4) (pc' := 41) ⟨by decide +kernel, rfl⟩ (by decide) rfl ?_
      show Wz E Y_Ju_behindSkip 41 [(4, .int 0), (3, .int 1), (0, .ref 27), (1, .int i), (2, .int op)] [] τ K
      refine z_iload (i := 4) (q := 0) (pc' := 43) ⟨by decide +kernel, rfl⟩ rfl ?_
      refine z_if_eq (off := 22) (tgt := 65) (pc' := 46) ⟨by decide +kernel, by decide, rfl⟩ (fun h3 => ?_) (fun h3 => ?_)
      · refine z_iload_n (f := 1) (i := 1) (q := 3) (pc' := 66) ⟨by decide +kernel, rfl⟩ rfl rfl ?_
        refine z_iret (ty := .int) rfl rfl (by decide +kernel) ?_
        have z0L : (0 : Int64).toInt = 0 := by decide
        have z0 : (0 : Int32).toInt = 0 := by decide
        have z24 : (24 : Int32).toInt = 24 := by decide
        have gh1 := j_ne_t h1
        have gh2 := j_le_t (y := 0) h2
        have gh3 := j_eq_t (y := 0) h3
        exact k _ (by show _ = ((n + 1 : Nat) : Int); omega)
      · refine z_iload_n (f := 1) (i := 1) (q := 3) (pc' := 47) ⟨by decide +kernel, rfl⟩ rfl rfl ?_
        refine z_aload_n (f := 0) (i := 0) (q := 2) (pc' := 48) ⟨by decide +kernel, rfl⟩ rfl rfl ?_
        refine w_getr (k := 27) (j := 2) (idx := 19) (pc' := 51) fxe_5_19 kfa_27_2 ⟨by decide +kernel, rfl⟩ ?_
        refine w_getr (k := 17) (j := 5) (idx := 142) (pc' := 54) fxe_5_142 kfa_17_5 ⟨by decide +kernel, rfl⟩ ?_
        refine z_iload_n (f := 1) (i := 1) (q := 3) (pc' := 55) ⟨by decide +kernel, rfl⟩ rfl rfl ?_
        refine w_lald (k := 22) (n := n) (pc' := 56) kaa_22 (hi) (hn) ⟨by decide +kernel, rfl⟩ ?_
        refine z_l2i (pc' := 57) ⟨by decide +kernel, rfl⟩ rfl ?_
        refine z_iconst (i := 1) (v := 1) (pc' := 58) ⟨by decide +kernel, rfl⟩ (by decide) ?_
        refine z_isub (pc' := 59) ⟨by decide +kernel, rfl⟩ ?_
        refine w_max (m := 118) (idx := 166) (pc' := 62) rfl (by decide) (by decide +kernel) (by decide) (by decide) (Nat.le_of_ble_eq_true rfl) ⟨by decide +kernel, rfl⟩ ?_
        refine z_goto (off := 4) (tgt := 66) (pc' := 65) ⟨by decide +kernel, by decide, rfl⟩ ?_
        refine z_iret (ty := .int) rfl rfl (by decide +kernel) ?_
        have z0L : (0 : Int64).toInt = 0 := by decide
        have z0 : (0 : Int32).toInt = 0 := by decide
        have z24 : (24 : Int32).toInt = 24 := by decide
        have gh1 := j_ne_t h1
        have gh2 := j_le_t (y := 0) h2
        have gh3 := j_eq_f (y := 0) h3
        exfalso
        have := h.2.2.1.1
        rw [List.length_nil] at this
        omega
    · have z0L : (0 : Int64).toInt = 0 := by decide
      have z0 : (0 : Int32).toInt = 0 := by decide
      have z24 : (24 : Int32).toInt = 24 := by decide
      have gh1 := j_ne_t h1
      have gh2 := j_le_f (y := 0) h2
      exfalso
      have := h.2.2.1.1
      rw [List.length_nil] at this
      omega
  · refine z_iconst (i := 0) (v := 0) (pc' := 7) ⟨by decide +kernel, rfl⟩ (by decide) ?_
    refine z_goto (off := 4) (tgt := 11) (pc' := 10) ⟨by decide +kernel, by decide, rfl⟩ ?_
    refine z_istore_n (f := 3) (i := 3) (pc' := 12) ⟨by decide +kernel, rfl⟩ rfl (by decide) rfl ?_
    show Wz E Y_Ju_behindSkip 12 [(3, .int 0), (0, .ref 27), (1, .int i), (2, .int op)] [] τ K
    refine z_aload_n (f := 0) (i := 0) (q := 1) (pc' := 13) ⟨by decide +kernel, rfl⟩ rfl rfl ?_
    refine w_geti (k := 27) (j := 12) (idx := 133) (pc' := 16) fxe_5_133 kfa_27_12 ⟨by decide +kernel, rfl⟩ ?_
    refine z_if_le (off := 22) (tgt := 38) (pc' := 19) ⟨by decide +kernel, by decide, rfl⟩ (fun h4 => ?_) (fun h4 => ?_)
    · refine z_iconst (i := 0) (v := 0) (pc' := 39) ⟨by decide +kernel, rfl⟩ (by decide) ?_
      refine z_istore (i := 4) (pc' := 41) ⟨by decide +kernel, rfl⟩ (by decide) rfl ?_
      show Wz E Y_Ju_behindSkip 41 [(4, .int 0), (3, .int 0), (0, .ref 27), (1, .int i), (2, .int op)] [] τ K
      refine z_iload (i := 4) (q := 0) (pc' := 43) ⟨by decide +kernel, rfl⟩ rfl ?_
      refine z_if_eq (off := 22) (tgt := 65) (pc' := 46) ⟨by decide +kernel, by decide, rfl⟩ (fun h5 => ?_) (fun h5 => ?_)
      · refine z_iload_n (f := 1) (i := 1) (q := 3) (pc' := 66) ⟨by decide +kernel, rfl⟩ rfl rfl ?_
        refine z_iret (ty := .int) rfl rfl (by decide +kernel) ?_
        have z0L : (0 : Int64).toInt = 0 := by decide
        have z0 : (0 : Int32).toInt = 0 := by decide
        have z24 : (24 : Int32).toInt = 24 := by decide
        have gh1 := j_ne_f h1
        have gh4 := j_le_t (y := 0) h4
        have gh5 := j_eq_t (y := 0) h5
        exact k _ (by show _ = ((n + 1 : Nat) : Int); omega)
      · refine z_iload_n (f := 1) (i := 1) (q := 3) (pc' := 47) ⟨by decide +kernel, rfl⟩ rfl rfl ?_
        refine z_aload_n (f := 0) (i := 0) (q := 2) (pc' := 48) ⟨by decide +kernel, rfl⟩ rfl rfl ?_
        refine w_getr (k := 27) (j := 2) (idx := 19) (pc' := 51) fxe_5_19 kfa_27_2 ⟨by decide +kernel, rfl⟩ ?_
        refine w_getr (k := 17) (j := 5) (idx := 142) (pc' := 54) fxe_5_142 kfa_17_5 ⟨by decide +kernel, rfl⟩ ?_
        refine z_iload_n (f := 1) (i := 1) (q := 3) (pc' := 55) ⟨by decide +kernel, rfl⟩ rfl rfl ?_
        refine w_lald (k := 22) (n := n) (pc' := 56) kaa_22 (hi) (hn) ⟨by decide +kernel, rfl⟩ ?_
        refine z_l2i (pc' := 57) ⟨by decide +kernel, rfl⟩ rfl ?_
        refine z_iconst (i := 1) (v := 1) (pc' := 58) ⟨by decide +kernel, rfl⟩ (by decide) ?_
        refine z_isub (pc' := 59) ⟨by decide +kernel, rfl⟩ ?_
        refine w_max (m := 118) (idx := 166) (pc' := 62) rfl (by decide) (by decide +kernel) (by decide) (by decide) (Nat.le_of_ble_eq_true rfl) ⟨by decide +kernel, rfl⟩ ?_
        refine z_goto (off := 4) (tgt := 66) (pc' := 65) ⟨by decide +kernel, by decide, rfl⟩ ?_
        refine z_iret (ty := .int) rfl rfl (by decide +kernel) ?_
        have z0L : (0 : Int64).toInt = 0 := by decide
        have z0 : (0 : Int32).toInt = 0 := by decide
        have z24 : (24 : Int32).toInt = 24 := by decide
        have gh1 := j_ne_f h1
        have gh4 := j_le_t (y := 0) h4
        have gh5 := j_eq_f (y := 0) h5
        exfalso
        have := h.2.2.1.1
        rw [List.length_nil] at this
        omega
    · have z0L : (0 : Int64).toInt = 0 := by decide
      have z0 : (0 : Int32).toInt = 0 := by decide
      have z24 : (24 : Int32).toInt = 24 := by decide
      have gh1 := j_ne_f h1
      have gh4 := j_le_f (y := 0) h4
      exfalso
      have := h.2.2.1.1
      rw [List.length_nil] at this
      omega
theorem cz_Ju_behindSkip {E : xV} {σ τ : zS} {K : zKt} {V T : List EntJ} {fl : Int} {i op : Int32} {c n : Nat} (h : CsJ σ τ V T fl) (hi : i.toInt = (n : Int)) (hn : n < 9600) (hop : op.toInt = (c : Int)) (hc : c = 24 ∨ c = 25) (hb : 0 ≤ (σ.2 22 n).toInt ∧ (σ.2 22 n).toInt ≤ 10000) (k : ∀ v : Int32, v.toInt + 1 = ((skJ σ c n T : Nat) : Int) → K (some (.int v)) τ) : Cz E Y_Ju_behindSkip [.ref 27, .int i, .int op] τ K := by
  refine z_entry (by decide) (fun a => by rw [sl_len]; exact Nat.le_of_ble_eq_true rfl) rfl ?_
  show Wz E Y_Ju_behindSkip 0 [(0, .ref 27), (1, .int i), (2, .int op)] [] τ K
  cases T with
  | nil => exact run_Ju_behindSkip_0 h hi hn hop hc hb k
  | cons x T => exact run_Ju_behindSkip_1 h hi hn hop hc hb k
theorem run_Ju_truthOf_e0 {E : xV} {σ τ : zS} {K : zKt} {V : List EntJ} {s e i : Int32} {r : EntJ} (h : CsJ σ τ V [] 0) (hr : r = (4, 0)) (k : ∀ (τ' : zS) (o : Int32), TrR σ τ' r o → K (some (.int o)) τ') : Wz E Y_Ju_truthOf 171 [(3, .int i), (0, .ref 27), (1, .int s), (2, .int e)] [] τ K := by
  refine z_aload_n (f := 0) (i := 0) (q := 1) (pc' := 172) ⟨by decide +kernel, rfl⟩ rfl rfl ?_
  refine w_geti (k := 27) (j := 12) (idx := 133) (pc' := 175) fxe_5_133 kfa_27_12 ⟨by decide +kernel, rfl⟩ ?_
  refine z_if_le (off := 17) (tgt := 192) (pc' := 178) ⟨by decide +kernel, by decide, rfl⟩ (fun h1 => ?_) (fun h1 => ?_)
  · refine z_iconst (i := 1) (v := 1) (pc' := 193) ⟨by decide +kernel, rfl⟩ (by decide) ?_
    refine z_iret (ty := .int) rfl rfl (by decide +kernel) ?_
    have z0L : (0 : Int64).toInt = 0 := by decide
    have z0 : (0 : Int32).toInt = 0 := by decide
    have gh1 := j_le_t (y := 0) h1
    exact k _ _ (Or.inr ⟨by rw [hr]; decide, by rw [hr]; decide, V, [], h⟩)
  · have z0L : (0 : Int64).toInt = 0 := by decide
    have z0 : (0 : Int32).toInt = 0 := by decide
    have gh1 := j_le_f (y := 0) h1
    exfalso
    have := h.2.2.1.1
    rw [List.length_nil] at this
    omega
theorem run_Ju_truthOf_e1 {E : xV} {σ τ : zS} {K : zKt} {V T : List EntJ} {x : EntJ} {s e i : Int32} {r : EntJ} (h : CsJ σ τ V (x :: T) 0) (hr : r = x) (k : ∀ (τ' : zS) (o : Int32), TrR σ τ' r o → K (some (.int o)) τ') : Wz E Y_Ju_truthOf 171 [(3, .int i), (0, .ref 27), (1, .int s), (2, .int e)] [] τ K := by
  refine z_aload_n (f := 0) (i := 0) (q := 1) (pc' := 172) ⟨by decide +kernel, rfl⟩ rfl rfl ?_
  refine w_geti (k := 27) (j := 12) (idx := 133) (pc' := 175) fxe_5_133 kfa_27_12 ⟨by decide +kernel, rfl⟩ ?_
  refine z_if_le (off := 17) (tgt := 192) (pc' := 178) ⟨by decide +kernel, by decide, rfl⟩ (fun h1 => ?_) (fun h1 => ?_)
  · have z0L : (0 : Int64).toInt = 0 := by decide
    have z0 : (0 : Int32).toInt = 0 := by decide
    have gh1 := j_le_t (y := 0) h1
    exfalso
    have := h.2.2.1.1
    rw [List.length_cons] at this
    omega
  · refine z_aload_n (f := 0) (i := 0) (q := 1) (pc' := 179) ⟨by decide +kernel, rfl⟩ rfl rfl ?_
    refine w_getr (k := 27) (j := 11) (idx := 31) (pc' := 182) fxe_5_31 kfa_27_11 ⟨by decide +kernel, rfl⟩ ?_
    refine z_aload_n (f := 0) (i := 0) (q := 1) (pc' := 183) ⟨by decide +kernel, rfl⟩ rfl rfl ?_
    refine w_geti (k := 27) (j := 12) (idx := 133) (pc' := 186) fxe_5_133 kfa_27_12 ⟨by decide +kernel, rfl⟩ ?_
    refine z_iconst (i := 1) (v := 1) (pc' := 187) ⟨by decide +kernel, rfl⟩ (by decide) ?_
    refine z_isub (pc' := 188) ⟨by decide +kernel, rfl⟩ ?_
    refine w_iald (k := 30) (n := T.length) (pc' := 189) kaa_30 ((cs_ttop h).1) ((cs_ttop h).2.1) ⟨by decide +kernel, rfl⟩ ?_
    refine z_goto (off := 4) (tgt := 193) (pc' := 192) ⟨by decide +kernel, by decide, rfl⟩ ?_
    refine z_iret (ty := .int) rfl rfl (by decide +kernel) ?_
    have z0L : (0 : Int64).toInt = 0 := by decide
    have z0 : (0 : Int32).toInt = 0 := by decide
    have gh1 := j_le_f (y := 0) h1
    have p := cs_ttop h
    exact k _ _ (Or.inr ⟨by rw [hr]; have := p.2.2.2; omega, by rw [hr]; exact p.2.2.1, V, x :: T, h⟩)
theorem skj_le {σ : zS} {c n : Nat} {T : List EntJ} (hb : 0 ≤ (σ.2 22 n).toInt ∧ (σ.2 22 n).toInt ≤ 10000) : skJ σ c n T ≤ n + 20000 := by
  unfold skJ
  cases T with
  | nil => show n + 1 ≤ _; omega
  | cons t T =>
    show (if t.1 = (if c = 24 then 5 else 4) then max n ((σ.2 22 n).toInt - 1).toNat + 1 else n + 1) ≤ _
    by_cases q : t.1 = (if c = 24 then 5 else 4)
    · rw [if_pos q]; omega
    · rw [if_neg q]; omega
theorem run_Ju_truthOf_l {E : xV} {σ : zS} {K : zKt} {s e : Int32} {en : Nat} {r : EntJ} (he : e.toInt = (en : Int)) (hco : CoC σ en) (hc : ∀ f : Nat, f < 480 → 0 ≤ (σ.1 8 f).toInt ∧ (σ.1 8 f).toInt ≤ 20) (hw : 0 ≤ (σ.1 27 3).toInt ∧ (σ.1 27 3).toInt ≤ 19) (hth : 0 ≤ (σ.1 27 5).toInt ∧ (σ.1 27 5).toInt ≤ 39) (hn : 0 ≤ (σ.1 27 7).toInt ∧ (σ.1 27 7).toInt ≤ 1000000000) (ht : 0 ≤ (σ.1 27 6).toInt ∧ (σ.1 27 6).toInt ≤ 1000000000) (k : ∀ (τ' : zS) (o : Int32), TrR σ τ' r o → K (some (.int o)) τ') : ∀ (m : Nat) {τ : zS} {i : Int32} {n : Nat} {V T : List EntJ}, CsJ σ τ V T 0 → i.toInt = (n : Int) → cr9 (ECV σ) (RC9 σ) en m n V T = some r → Wz E Y_Ju_truthOf 17 [(3, .int i), (0, .ref 27), (1, .int s), (2, .int e)] [] τ K
  | 0, τ, i, n, V, T, h, hi, hr => by cases hr
  | m + 1, τ, i, n, V, T, h, hi, hr => by
    have ih := @run_Ju_truthOf_l E σ K s e en r he hco hc hw hth hn ht k m
    refine z_iload_n (f := 3) (i := 3) (q := 0) (pc' := 18) ⟨by decide +kernel, rfl⟩ rfl rfl ?_
    refine z_iload_n (f := 2) (i := 2) (q := 3) (pc' := 19) ⟨by decide +kernel, rfl⟩ rfl rfl ?_
    refine z_icmp_ge (off := 152) (tgt := 171) (pc' := 22) ⟨by decide +kernel, by decide, rfl⟩ (fun h1 => ?_) (fun h1 => ?_)
    · have z0L : (0 : Int64).toInt = 0 := by decide
      have gh1 := j_ge_t h1
      have hend := crb_end hr (by omega)
      cases T with
      | nil => exact run_Ju_truthOf_e0 h (hend.2 rfl) k
      | cons x T => exact run_Ju_truthOf_e1 h (hend.1 x T rfl) k
    · have hin : n < en := by have q := j_ge_f h1; omega
      have hcn := hco.2 n hin
      have hop := (cs_s h n).2.2.2.1
      have hnm := (cs_s h n).2.2.2.2
      have h9 := hco.1
      refine z_aload_n (f := 0) (i := 0) (q := 1) (pc' := 23) ⟨by decide +kernel, rfl⟩ rfl rfl ?_
      refine w_getr (k := 27) (j := 2) (idx := 19) (pc' := 26) fxe_5_19 kfa_27_2 ⟨by decide +kernel, rfl⟩ ?_
      refine w_getr (k := 17) (j := 4) (idx := 136) (pc' := 29) fxe_5_136 kfa_17_4 ⟨by decide +kernel, rfl⟩ ?_
      refine z_iload_n (f := 3) (i := 3) (q := 0) (pc' := 30) ⟨by decide +kernel, rfl⟩ rfl rfl ?_
      refine w_iald (k := 21) (n := n) (pc' := 31) kaa_21 (hi) (by have := hco.1; have q := j_ge_f h1; omega) ⟨by decide +kernel, rfl⟩ ?_
      refine z_istore (i := 4) (pc' := 33) ⟨by decide +kernel, rfl⟩ (by decide) rfl ?_
      show Wz E Y_Ju_truthOf 33 [(4, .int (τ.1 21 n)), (3, .int i), (0, .ref 27), (1, .int s), (2, .int e)] [] τ K
      refine z_iload (i := 4) (q := 0) (pc' := 35) ⟨by decide +kernel, rfl⟩ rfl ?_
      refine z_bipush (i := 24) (v := 24) (pc' := 37) ⟨by decide +kernel, rfl⟩ (by decide) ?_
      refine z_icmp_lt (off := 14) (tgt := 51) (pc' := 40) ⟨by decide +kernel, by decide, rfl⟩ (fun h2 => ?_) (fun h2 => ?_)
      · refine z_iload (i := 4) (q := 0) (pc' := 53) ⟨by decide +kernel, rfl⟩ rfl ?_
        refine z_bipush (i := 20) (v := 20) (pc' := 55) ⟨by decide +kernel, rfl⟩ (by decide) ?_
        refine z_icmp_lt (off := 21) (tgt := 76) (pc' := 58) ⟨by decide +kernel, by decide, rfl⟩ (fun h3 => ?_) (fun h3 => ?_)
        · have w37 := j_lt_t h2
          have w55 := j_lt_t h3
          have z24 : (24 : Int32).toInt = 24 := by decide
          have z20 : (20 : Int32).toInt = 20 := by decide
          have z7 : (7 : Int32).toInt = 7 := by decide
          have z13 : (13 : Int32).toInt = 13 := by decide
          rw [hop] at w37 w55
          obtain ⟨x, W, hcop, hW, hT, c3, c2, ct, cv⟩ := crb_op hr hin (by show (σ.1 21 n).toInt.toNat < 20; omega)
          refine z_iload (i := 4) (q := 0) (pc' := 78) ⟨by decide +kernel, rfl⟩ rfl ?_
          refine z_bipush (i := 7) (v := 7) (pc' := 80) ⟨by decide +kernel, rfl⟩ (by decide) ?_
          refine z_icmp_ge (off := 21) (tgt := 101) (pc' := 83) ⟨by decide +kernel, by decide, rfl⟩ (fun h4 => ?_) (fun h4 => ?_)
          · have w80 := j_ge_t h4
            rw [hop] at w80
            refine z_iload (i := 4) (q := 0) (pc' := 103) ⟨by decide +kernel, rfl⟩ rfl ?_
            refine z_bipush (i := 13) (v := 13) (pc' := 105) ⟨by decide +kernel, rfl⟩ (by decide) ?_
            refine z_icmp_ge (off := 12) (tgt := 117) (pc' := 108) ⟨by decide +kernel, by decide, rfl⟩ (fun h5 => ?_) (fun h5 => ?_)
            · have w105 := j_ge_t h5
              rw [hop] at w105
              refine z_aload_n (f := 0) (i := 0) (q := 2) (pc' := 118) ⟨by decide +kernel, rfl⟩ rfl rfl ?_
              refine z_iload (i := 4) (q := 0) (pc' := 120) ⟨by decide +kernel, rfl⟩ rfl ?_
              refine z_aload_n (f := 0) (i := 0) (q := 2) (pc' := 121) ⟨by decide +kernel, rfl⟩ rfl rfl ?_
              refine w_getr (k := 27) (j := 2) (idx := 19) (pc' := 124) fxe_5_19 kfa_27_2 ⟨by decide +kernel, rfl⟩ ?_
              refine w_getr (k := 17) (j := 5) (idx := 142) (pc' := 127) fxe_5_142 kfa_17_5 ⟨by decide +kernel, rfl⟩ ?_
              refine z_iload_n (f := 3) (i := 3) (q := 1) (pc' := 128) ⟨by decide +kernel, rfl⟩ rfl rfl ?_
              refine w_lald (k := 22) (n := n) (pc' := 129) kaa_22 (hi) (by have := hco.1; have q := j_ge_f h1; omega) ⟨by decide +kernel, rfl⟩ ?_
              refine w_invV (Z := Y_Ju_weigh) (idx := 156) (kb := 27) (As := [.int (τ.1 21 n), .long (τ.2 22 n)]) (rest := []) (pc' := 132) cl_5_156 rfl ⟨rfl, rfl⟩ kfa_27_0 rfl ⟨⟨by decide, by decide⟩, rfl, rfl⟩ ⟨by decide +kernel, rfl⟩ rfl rfl (Nat.le_of_ble_eq_true rfl) rfl rfl ?_
              refine cz_Ju_weigh (c := (σ.1 21 n).toInt.toNat) h hT (by rw [hop]; omega) (by rw [hnm]; exact hcop) (by omega) (by omega) hc hw hth (fun q => by rw [hnm]; exact hcn.2.1 (by omega)) (fun σ6 v6 hv6 => ?_)
              show Wz E Y_Ju_truthOf 132 [(4, .int (τ.1 21 n)), (3, .int i), (0, .ref 27), (1, .int s), (2, .int e)] [.int v6] σ6 K
              refine z_istore (i := 5) (pc' := 134) ⟨by decide +kernel, rfl⟩ (by decide) rfl ?_
              show Wz E Y_Ju_truthOf 134 [(5, .int v6), (4, .int (τ.1 21 n)), (3, .int i), (0, .ref 27), (1, .int s), (2, .int e)] [] σ6 K
              refine z_iload (i := 5) (q := 0) (pc' := 136) ⟨by decide +kernel, rfl⟩ rfl ?_
              refine z_iconst (i := 3) (v := 3) (pc' := 137) ⟨by decide +kernel, rfl⟩ (by decide) ?_
              refine z_icmp_ne (off := 5) (tgt := 142) (pc' := 140) ⟨by decide +kernel, by decide, rfl⟩ (fun h7 => ?_) (fun h7 => ?_)
              · refine z_iload (i := 5) (q := 0) (pc' := 144) ⟨by decide +kernel, rfl⟩ rfl ?_
                refine z_iconst (i := 2) (v := 2) (pc' := 145) ⟨by decide +kernel, rfl⟩ (by decide) ?_
                refine z_icmp_ne (off := 20) (tgt := 165) (pc' := 148) ⟨by decide +kernel, by decide, rfl⟩ (fun h8 => ?_) (fun h8 => ?_)
                · refine z_iinc (i := 3) (z := 1) (q := 2) (pc' := 168) ⟨by decide +kernel, rfl⟩ rfl rfl (by decide) rfl ?_
                  show Wz E Y_Ju_truthOf 168 [(3, .int (i + Int32.ofInt 1)), (5, .int v6), (4, .int (τ.1 21 n)), (0, .ref 27), (1, .int s), (2, .int e)] [] σ6 K
                  refine z_goto (off := (-151)) (tgt := 17) (pc' := 171) ⟨by decide +kernel, by decide, rfl⟩ ?_
                  have z0L : (0 : Int64).toInt = 0 := by decide
                  have z13 : (13 : Int32).toInt = 13 := by decide
                  have z2 : (2 : Int32).toInt = 2 := by decide
                  have z20 : (20 : Int32).toInt = 20 := by decide
                  have z24 : (24 : Int32).toInt = 24 := by decide
                  have z3 : (3 : Int32).toInt = 3 := by decide
                  have z7 : (7 : Int32).toInt = 7 := by decide
                  have gh1 := j_ge_f h1
                  have gh2 := j_lt_t h2
                  have gh3 := j_lt_t h3
                  have gh4 := j_ge_t h4
                  have gh5 := j_ge_t h5
                  have gh7 := j_ne_t h7
                  have gh8 := j_ne_t h8
                  refine z_sub [0, 3, 4, 5] rfl ?_
                  have e1 : (Int32.ofInt 1).toInt = 1 := by decide
                  obtain ⟨hx4, hC4⟩ := ot_4 hv6 (by omega) (by omega)
                  exact ih hC4 (by rw [i32_add (by rw [e1]; omega), e1]; omega) (ct (by omega) (by omega) ((cm_iff hcn.1.1).mpr (by omega)))
                · have w145 := j_ne_f h8
                  have z2 : (2 : Int32).toInt = 2 := by decide
                  obtain ⟨hx2, V2, hV2⟩ := ot_2 hv6 (by omega)
                  refine z_aload_n (f := 0) (i := 0) (q := 3) (pc' := 149) ⟨by decide +kernel, rfl⟩ rfl rfl ?_
                  refine z_iconst (i := 0) (v := 0) (pc' := 150) ⟨by decide +kernel, rfl⟩ (by decide) ?_
                  refine w_puti (k := 27) (j := 10) (idx := 130) (pc' := 153) fxi_5_130 kfa_27_10 ⟨by decide +kernel, rfl⟩ ?_
                  generalize hs9 : zI σ6 27 10 0 = σ9
                  refine z_aload_n (f := 0) (i := 0) (q := 3) (pc' := 154) ⟨by decide +kernel, rfl⟩ rfl rfl ?_
                  refine z_iload_n (f := 3) (i := 3) (q := 2) (pc' := 155) ⟨by decide +kernel, rfl⟩ rfl rfl ?_
                  refine z_iload_n (f := 2) (i := 2) (q := 5) (pc' := 156) ⟨by decide +kernel, rfl⟩ rfl rfl ?_
                  refine w_invV (Z := Y_Ju_endOfComparison) (idx := 159) (kb := 27) (As := [.int i, .int e]) (rest := []) (pc' := 159) cl_5_159 rfl ⟨rfl, rfl⟩ kfa_27_0 rfl ⟨⟨by decide, by decide⟩, rfl, rfl⟩ ⟨by decide +kernel, rfl⟩ rfl rfl (Nat.le_of_ble_eq_true rfl) rfl rfl ?_
                  refine cz_Ju_endOfComparison (cs_v0 hV2 hs9) he hco hi (by omega) (fun v10 hv10 => ?_)
                  show Wz E Y_Ju_truthOf 159 [(5, .int v6), (4, .int (τ.1 21 n)), (3, .int i), (0, .ref 27), (1, .int s), (2, .int e)] [.int v10] σ9 K
                  refine z_istore_n (f := 3) (i := 3) (pc' := 160) ⟨by decide +kernel, rfl⟩ rfl (by decide) rfl ?_
                  show Wz E Y_Ju_truthOf 160 [(3, .int v10), (5, .int v6), (4, .int (τ.1 21 n)), (0, .ref 27), (1, .int s), (2, .int e)] [] σ9 K
                  refine z_aload_n (f := 0) (i := 0) (q := 3) (pc' := 161) ⟨by decide +kernel, rfl⟩ rfl rfl ?_
                  refine z_iconst (i := 2) (v := 2) (pc' := 162) ⟨by decide +kernel, rfl⟩ (by decide) ?_
                  refine w_invV (Z := Y_Ju_pushTruth) (idx := 162) (kb := 27) (As := [.int 2]) (rest := []) (pc' := 165) cl_5_162 rfl ⟨rfl, rfl⟩ kfa_27_0 rfl ⟨⟨by decide, by decide⟩, rfl, rfl⟩ ⟨by decide +kernel, rfl⟩ rfl rfl (Nat.le_of_ble_eq_true rfl) rfl rfl ?_
                  refine cz_Ju_pushTruth (x := (2, 0)) (cs_v0 hV2 hs9) hT (by decide) (by decide) (fun σ11 hv11 => ?_)
                  show Wz E Y_Ju_truthOf 165 [(3, .int v10), (5, .int v6), (4, .int (τ.1 21 n)), (0, .ref 27), (1, .int s), (2, .int e)] [] σ11 K
                  refine z_iinc (i := 3) (z := 1) (q := 0) (pc' := 168) ⟨by decide +kernel, rfl⟩ rfl rfl (by decide) rfl ?_
                  show Wz E Y_Ju_truthOf 168 [(3, .int (v10 + Int32.ofInt 1)), (5, .int v6), (4, .int (τ.1 21 n)), (0, .ref 27), (1, .int s), (2, .int e)] [] σ11 K
                  refine z_goto (off := (-151)) (tgt := 17) (pc' := 171) ⟨by decide +kernel, by decide, rfl⟩ ?_
                  have z0L : (0 : Int64).toInt = 0 := by decide
                  have z13 : (13 : Int32).toInt = 13 := by decide
                  have z2 : (2 : Int32).toInt = 2 := by decide
                  have z20 : (20 : Int32).toInt = 20 := by decide
                  have z24 : (24 : Int32).toInt = 24 := by decide
                  have z3 : (3 : Int32).toInt = 3 := by decide
                  have z7 : (7 : Int32).toInt = 7 := by decide
                  have gh1 := j_ge_f h1
                  have gh2 := j_lt_t h2
                  have gh3 := j_lt_t h3
                  have gh4 := j_ge_t h4
                  have gh5 := j_ge_t h5
                  have gh7 := j_ne_t h7
                  have gh8 := j_ne_f h8
                  refine z_sub [0, 3, 4, 5] rfl ?_
                  have e1 : (Int32.ofInt 1).toInt = 1 := by decide
                  have hle := eoc_le (R := RC9 σ) (e := en) (m := en) (i := n)
                  exact ih hv11 (by rw [i32_add (by rw [e1]; omega), e1, hv10]; rfl) (c2 hx2)
              · refine z_iconst (i := 3) (v := 3) (pc' := 141) ⟨by decide +kernel, rfl⟩ (by decide) ?_
                refine z_iret (ty := .int) rfl rfl (by decide +kernel) ?_
                have z0L : (0 : Int64).toInt = 0 := by decide
                have z13 : (13 : Int32).toInt = 13 := by decide
                have z20 : (20 : Int32).toInt = 20 := by decide
                have z24 : (24 : Int32).toInt = 24 := by decide
                have z3 : (3 : Int32).toInt = 3 := by decide
                have z7 : (7 : Int32).toInt = 7 := by decide
                have gh1 := j_ge_f h1
                have gh2 := j_lt_t h2
                have gh3 := j_lt_t h3
                have gh4 := j_ge_t h4
                have gh5 := j_ge_t h5
                have gh7 := j_ne_f h7
                obtain ⟨hx3, V3, hV3⟩ := ot_3 hv6 (by omega)
                exact k _ _ (Or.inl ⟨by rw [c3 hx3]; exact hx3, by decide, V3, T, by rw [c3 hx3]; exact hV3⟩)
            · have w105 := j_ge_f h5
              rw [hop] at w105
              refine z_aload_n (f := 0) (i := 0) (q := 2) (pc' := 109) ⟨by decide +kernel, rfl⟩ rfl rfl ?_
              refine z_iload (i := 4) (q := 0) (pc' := 111) ⟨by decide +kernel, rfl⟩ rfl ?_
              refine w_invV (Z := Y_Ju_calculate) (idx := 153) (kb := 27) (As := [.int (τ.1 21 n)]) (rest := []) (pc' := 114) cl_5_153 rfl ⟨rfl, rfl⟩ kfa_27_0 rfl ⟨⟨by decide, by decide⟩, rfl, rfl⟩ ⟨by decide +kernel, rfl⟩ rfl rfl (Nat.le_of_ble_eq_true rfl) rfl rfl ?_
              refine cz_Ju_calculate (c := (σ.1 21 n).toInt.toNat) h (by rw [hop]; omega) hcop (by omega) (by omega) (fun σ12 v12 hv12 => ?_)
              show Wz E Y_Ju_truthOf 114 [(4, .int (τ.1 21 n)), (3, .int i), (0, .ref 27), (1, .int s), (2, .int e)] [.int v12] σ12 K
              refine z_goto (off := 18) (tgt := 132) (pc' := 117) ⟨by decide +kernel, by decide, rfl⟩ ?_
              refine z_istore (i := 5) (pc' := 134) ⟨by decide +kernel, rfl⟩ (by decide) rfl ?_
              show Wz E Y_Ju_truthOf 134 [(5, .int v12), (4, .int (τ.1 21 n)), (3, .int i), (0, .ref 27), (1, .int s), (2, .int e)] [] σ12 K
              refine z_iload (i := 5) (q := 0) (pc' := 136) ⟨by decide +kernel, rfl⟩ rfl ?_
              refine z_iconst (i := 3) (v := 3) (pc' := 137) ⟨by decide +kernel, rfl⟩ (by decide) ?_
              refine z_icmp_ne (off := 5) (tgt := 142) (pc' := 140) ⟨by decide +kernel, by decide, rfl⟩ (fun h13 => ?_) (fun h13 => ?_)
              · refine z_iload (i := 5) (q := 0) (pc' := 144) ⟨by decide +kernel, rfl⟩ rfl ?_
                refine z_iconst (i := 2) (v := 2) (pc' := 145) ⟨by decide +kernel, rfl⟩ (by decide) ?_
                refine z_icmp_ne (off := 20) (tgt := 165) (pc' := 148) ⟨by decide +kernel, by decide, rfl⟩ (fun h14 => ?_) (fun h14 => ?_)
                · refine z_iinc (i := 3) (z := 1) (q := 2) (pc' := 168) ⟨by decide +kernel, rfl⟩ rfl rfl (by decide) rfl ?_
                  show Wz E Y_Ju_truthOf 168 [(3, .int (i + Int32.ofInt 1)), (5, .int v12), (4, .int (τ.1 21 n)), (0, .ref 27), (1, .int s), (2, .int e)] [] σ12 K
                  refine z_goto (off := (-151)) (tgt := 17) (pc' := 171) ⟨by decide +kernel, by decide, rfl⟩ ?_
                  have z0L : (0 : Int64).toInt = 0 := by decide
                  have z13 : (13 : Int32).toInt = 13 := by decide
                  have z2 : (2 : Int32).toInt = 2 := by decide
                  have z20 : (20 : Int32).toInt = 20 := by decide
                  have z24 : (24 : Int32).toInt = 24 := by decide
                  have z3 : (3 : Int32).toInt = 3 := by decide
                  have z7 : (7 : Int32).toInt = 7 := by decide
                  have gh1 := j_ge_f h1
                  have gh2 := j_lt_t h2
                  have gh3 := j_lt_t h3
                  have gh4 := j_ge_t h4
                  have gh5 := j_ge_f h5
                  have gh13 := j_ne_t h13
                  have gh14 := j_ne_t h14
                  refine z_sub [0, 3, 4, 5] rfl ?_
                  have e1 : (Int32.ofInt 1).toInt = 1 := by decide
                  obtain ⟨hx4, hC4⟩ := ov_4 hv12 (by omega) (by omega)
                  exact ih hC4 (by rw [i32_add (by rw [e1]; omega), e1]; omega) (cv (by omega) (by omega) (cm_no hcn.1.1 (by omega)))
                · have w145 := j_ne_f h14
                  have z2 : (2 : Int32).toInt = 2 := by decide
                  obtain ⟨hx2, V2, hV2⟩ := ov_2 hv12 (by omega)
                  refine z_aload_n (f := 0) (i := 0) (q := 3) (pc' := 149) ⟨by decide +kernel, rfl⟩ rfl rfl ?_
                  refine z_iconst (i := 0) (v := 0) (pc' := 150) ⟨by decide +kernel, rfl⟩ (by decide) ?_
                  refine w_puti (k := 27) (j := 10) (idx := 130) (pc' := 153) fxi_5_130 kfa_27_10 ⟨by decide +kernel, rfl⟩ ?_
                  generalize hs15 : zI σ12 27 10 0 = σ15
                  refine z_aload_n (f := 0) (i := 0) (q := 3) (pc' := 154) ⟨by decide +kernel, rfl⟩ rfl rfl ?_
                  refine z_iload_n (f := 3) (i := 3) (q := 2) (pc' := 155) ⟨by decide +kernel, rfl⟩ rfl rfl ?_
                  refine z_iload_n (f := 2) (i := 2) (q := 5) (pc' := 156) ⟨by decide +kernel, rfl⟩ rfl rfl ?_
                  refine w_invV (Z := Y_Ju_endOfComparison) (idx := 159) (kb := 27) (As := [.int i, .int e]) (rest := []) (pc' := 159) cl_5_159 rfl ⟨rfl, rfl⟩ kfa_27_0 rfl ⟨⟨by decide, by decide⟩, rfl, rfl⟩ ⟨by decide +kernel, rfl⟩ rfl rfl (Nat.le_of_ble_eq_true rfl) rfl rfl ?_
                  refine cz_Ju_endOfComparison (cs_v0 hV2 hs15) he hco hi (by omega) (fun v16 hv16 => ?_)
                  show Wz E Y_Ju_truthOf 159 [(5, .int v12), (4, .int (τ.1 21 n)), (3, .int i), (0, .ref 27), (1, .int s), (2, .int e)] [.int v16] σ15 K
                  refine z_istore_n (f := 3) (i := 3) (pc' := 160) ⟨by decide +kernel, rfl⟩ rfl (by decide) rfl ?_
                  show Wz E Y_Ju_truthOf 160 [(3, .int v16), (5, .int v12), (4, .int (τ.1 21 n)), (0, .ref 27), (1, .int s), (2, .int e)] [] σ15 K
                  refine z_aload_n (f := 0) (i := 0) (q := 3) (pc' := 161) ⟨by decide +kernel, rfl⟩ rfl rfl ?_
                  refine z_iconst (i := 2) (v := 2) (pc' := 162) ⟨by decide +kernel, rfl⟩ (by decide) ?_
                  refine w_invV (Z := Y_Ju_pushTruth) (idx := 162) (kb := 27) (As := [.int 2]) (rest := []) (pc' := 165) cl_5_162 rfl ⟨rfl, rfl⟩ kfa_27_0 rfl ⟨⟨by decide, by decide⟩, rfl, rfl⟩ ⟨by decide +kernel, rfl⟩ rfl rfl (Nat.le_of_ble_eq_true rfl) rfl rfl ?_
                  refine cz_Ju_pushTruth (x := (2, 0)) (cs_v0 hV2 hs15) hT (by decide) (by decide) (fun σ17 hv17 => ?_)
                  show Wz E Y_Ju_truthOf 165 [(3, .int v16), (5, .int v12), (4, .int (τ.1 21 n)), (0, .ref 27), (1, .int s), (2, .int e)] [] σ17 K
                  refine z_iinc (i := 3) (z := 1) (q := 0) (pc' := 168) ⟨by decide +kernel, rfl⟩ rfl rfl (by decide) rfl ?_
                  show Wz E Y_Ju_truthOf 168 [(3, .int (v16 + Int32.ofInt 1)), (5, .int v12), (4, .int (τ.1 21 n)), (0, .ref 27), (1, .int s), (2, .int e)] [] σ17 K
                  refine z_goto (off := (-151)) (tgt := 17) (pc' := 171) ⟨by decide +kernel, by decide, rfl⟩ ?_
                  have z0L : (0 : Int64).toInt = 0 := by decide
                  have z13 : (13 : Int32).toInt = 13 := by decide
                  have z2 : (2 : Int32).toInt = 2 := by decide
                  have z20 : (20 : Int32).toInt = 20 := by decide
                  have z24 : (24 : Int32).toInt = 24 := by decide
                  have z3 : (3 : Int32).toInt = 3 := by decide
                  have z7 : (7 : Int32).toInt = 7 := by decide
                  have gh1 := j_ge_f h1
                  have gh2 := j_lt_t h2
                  have gh3 := j_lt_t h3
                  have gh4 := j_ge_t h4
                  have gh5 := j_ge_f h5
                  have gh13 := j_ne_t h13
                  have gh14 := j_ne_f h14
                  refine z_sub [0, 3, 4, 5] rfl ?_
                  have e1 : (Int32.ofInt 1).toInt = 1 := by decide
                  have hle := eoc_le (R := RC9 σ) (e := en) (m := en) (i := n)
                  exact ih hv17 (by rw [i32_add (by rw [e1]; omega), e1, hv16]; rfl) (c2 hx2)
              · refine z_iconst (i := 3) (v := 3) (pc' := 141) ⟨by decide +kernel, rfl⟩ (by decide) ?_
                refine z_iret (ty := .int) rfl rfl (by decide +kernel) ?_
                have z0L : (0 : Int64).toInt = 0 := by decide
                have z13 : (13 : Int32).toInt = 13 := by decide
                have z20 : (20 : Int32).toInt = 20 := by decide
                have z24 : (24 : Int32).toInt = 24 := by decide
                have z3 : (3 : Int32).toInt = 3 := by decide
                have z7 : (7 : Int32).toInt = 7 := by decide
                have gh1 := j_ge_f h1
                have gh2 := j_lt_t h2
                have gh3 := j_lt_t h3
                have gh4 := j_ge_t h4
                have gh5 := j_ge_f h5
                have gh13 := j_ne_f h13
                obtain ⟨hx3, V3, hV3⟩ := ov_3 hv12 (by omega)
                exact k _ _ (Or.inl ⟨by rw [c3 hx3]; exact hx3, by decide, V3, T, by rw [c3 hx3]; exact hV3⟩)
          · have w80 := j_ge_f h4
            rw [hop] at w80
            refine z_aload_n (f := 0) (i := 0) (q := 2) (pc' := 84) ⟨by decide +kernel, rfl⟩ rfl rfl ?_
            refine z_iload (i := 4) (q := 0) (pc' := 86) ⟨by decide +kernel, rfl⟩ rfl ?_
            refine z_aload_n (f := 0) (i := 0) (q := 2) (pc' := 87) ⟨by decide +kernel, rfl⟩ rfl rfl ?_
            refine w_getr (k := 27) (j := 2) (idx := 19) (pc' := 90) fxe_5_19 kfa_27_2 ⟨by decide +kernel, rfl⟩ ?_
            refine w_getr (k := 17) (j := 5) (idx := 142) (pc' := 93) fxe_5_142 kfa_17_5 ⟨by decide +kernel, rfl⟩ ?_
            refine z_iload_n (f := 3) (i := 3) (q := 1) (pc' := 94) ⟨by decide +kernel, rfl⟩ rfl rfl ?_
            refine w_lald (k := 22) (n := n) (pc' := 95) kaa_22 (hi) (by have := hco.1; have q := j_ge_f h1; omega) ⟨by decide +kernel, rfl⟩ ?_
            refine w_invV (Z := Y_Ju_load) (idx := 149) (kb := 27) (As := [.int (τ.1 21 n), .long (τ.2 22 n)]) (rest := []) (pc' := 98) cl_5_149 rfl ⟨rfl, rfl⟩ kfa_27_0 rfl ⟨⟨by decide, by decide⟩, rfl, rfl⟩ ⟨by decide +kernel, rfl⟩ rfl rfl (Nat.le_of_ble_eq_true rfl) rfl rfl ?_
            refine cz_Ju_load (c := (σ.1 21 n).toInt.toNat) h (by rw [hop]; omega) (by rw [hnm]; exact hcop) hc hw hth hn ht (fun q => by rw [hnm]; exact hcn.2.1 (by omega)) (by omega) hW (fun σ18 v18 hv18 => ?_)
            show Wz E Y_Ju_truthOf 98 [(4, .int (τ.1 21 n)), (3, .int i), (0, .ref 27), (1, .int s), (2, .int e)] [.int v18] σ18 K
            refine z_goto (off := 34) (tgt := 132) (pc' := 101) ⟨by decide +kernel, by decide, rfl⟩ ?_
            refine z_istore (i := 5) (pc' := 134) ⟨by decide +kernel, rfl⟩ (by decide) rfl ?_
            show Wz E Y_Ju_truthOf 134 [(5, .int v18), (4, .int (τ.1 21 n)), (3, .int i), (0, .ref 27), (1, .int s), (2, .int e)] [] σ18 K
            refine z_iload (i := 5) (q := 0) (pc' := 136) ⟨by decide +kernel, rfl⟩ rfl ?_
            refine z_iconst (i := 3) (v := 3) (pc' := 137) ⟨by decide +kernel, rfl⟩ (by decide) ?_
            refine z_icmp_ne (off := 5) (tgt := 142) (pc' := 140) ⟨by decide +kernel, by decide, rfl⟩ (fun h19 => ?_) (fun h19 => ?_)
            · refine z_iload (i := 5) (q := 0) (pc' := 144) ⟨by decide +kernel, rfl⟩ rfl ?_
              refine z_iconst (i := 2) (v := 2) (pc' := 145) ⟨by decide +kernel, rfl⟩ (by decide) ?_
              refine z_icmp_ne (off := 20) (tgt := 165) (pc' := 148) ⟨by decide +kernel, by decide, rfl⟩ (fun h20 => ?_) (fun h20 => ?_)
              · refine z_iinc (i := 3) (z := 1) (q := 2) (pc' := 168) ⟨by decide +kernel, rfl⟩ rfl rfl (by decide) rfl ?_
                show Wz E Y_Ju_truthOf 168 [(3, .int (i + Int32.ofInt 1)), (5, .int v18), (4, .int (τ.1 21 n)), (0, .ref 27), (1, .int s), (2, .int e)] [] σ18 K
                refine z_goto (off := (-151)) (tgt := 17) (pc' := 171) ⟨by decide +kernel, by decide, rfl⟩ ?_
                have z0L : (0 : Int64).toInt = 0 := by decide
                have z2 : (2 : Int32).toInt = 2 := by decide
                have z20 : (20 : Int32).toInt = 20 := by decide
                have z24 : (24 : Int32).toInt = 24 := by decide
                have z3 : (3 : Int32).toInt = 3 := by decide
                have z7 : (7 : Int32).toInt = 7 := by decide
                have gh1 := j_ge_f h1
                have gh2 := j_lt_t h2
                have gh3 := j_lt_t h3
                have gh4 := j_ge_f h4
                have gh19 := j_ne_t h19
                have gh20 := j_ne_t h20
                refine z_sub [0, 3, 4, 5] rfl ?_
                have e1 : (Int32.ofInt 1).toInt = 1 := by decide
                obtain ⟨hx4, hC4⟩ := ov_4 hv18 (by omega) (by omega)
                exact ih hC4 (by rw [i32_add (by rw [e1]; omega), e1]; omega) (cv (by omega) (by omega) (cm_no hcn.1.1 (by omega)))
              · have w145 := j_ne_f h20
                have z2 : (2 : Int32).toInt = 2 := by decide
                obtain ⟨hx2, V2, hV2⟩ := ov_2 hv18 (by omega)
                refine z_aload_n (f := 0) (i := 0) (q := 3) (pc' := 149) ⟨by decide +kernel, rfl⟩ rfl rfl ?_
                refine z_iconst (i := 0) (v := 0) (pc' := 150) ⟨by decide +kernel, rfl⟩ (by decide) ?_
                refine w_puti (k := 27) (j := 10) (idx := 130) (pc' := 153) fxi_5_130 kfa_27_10 ⟨by decide +kernel, rfl⟩ ?_
                generalize hs21 : zI σ18 27 10 0 = σ21
                refine z_aload_n (f := 0) (i := 0) (q := 3) (pc' := 154) ⟨by decide +kernel, rfl⟩ rfl rfl ?_
                refine z_iload_n (f := 3) (i := 3) (q := 2) (pc' := 155) ⟨by decide +kernel, rfl⟩ rfl rfl ?_
                refine z_iload_n (f := 2) (i := 2) (q := 5) (pc' := 156) ⟨by decide +kernel, rfl⟩ rfl rfl ?_
                refine w_invV (Z := Y_Ju_endOfComparison) (idx := 159) (kb := 27) (As := [.int i, .int e]) (rest := []) (pc' := 159) cl_5_159 rfl ⟨rfl, rfl⟩ kfa_27_0 rfl ⟨⟨by decide, by decide⟩, rfl, rfl⟩ ⟨by decide +kernel, rfl⟩ rfl rfl (Nat.le_of_ble_eq_true rfl) rfl rfl ?_
                refine cz_Ju_endOfComparison (cs_v0 hV2 hs21) he hco hi (by omega) (fun v22 hv22 => ?_)
                show Wz E Y_Ju_truthOf 159 [(5, .int v18), (4, .int (τ.1 21 n)), (3, .int i), (0, .ref 27), (1, .int s), (2, .int e)] [.int v22] σ21 K
                refine z_istore_n (f := 3) (i := 3) (pc' := 160) ⟨by decide +kernel, rfl⟩ rfl (by decide) rfl ?_
                show Wz E Y_Ju_truthOf 160 [(3, .int v22), (5, .int v18), (4, .int (τ.1 21 n)), (0, .ref 27), (1, .int s), (2, .int e)] [] σ21 K
                refine z_aload_n (f := 0) (i := 0) (q := 3) (pc' := 161) ⟨by decide +kernel, rfl⟩ rfl rfl ?_
                refine z_iconst (i := 2) (v := 2) (pc' := 162) ⟨by decide +kernel, rfl⟩ (by decide) ?_
                refine w_invV (Z := Y_Ju_pushTruth) (idx := 162) (kb := 27) (As := [.int 2]) (rest := []) (pc' := 165) cl_5_162 rfl ⟨rfl, rfl⟩ kfa_27_0 rfl ⟨⟨by decide, by decide⟩, rfl, rfl⟩ ⟨by decide +kernel, rfl⟩ rfl rfl (Nat.le_of_ble_eq_true rfl) rfl rfl ?_
                refine cz_Ju_pushTruth (x := (2, 0)) (cs_v0 hV2 hs21) hT (by decide) (by decide) (fun σ23 hv23 => ?_)
                show Wz E Y_Ju_truthOf 165 [(3, .int v22), (5, .int v18), (4, .int (τ.1 21 n)), (0, .ref 27), (1, .int s), (2, .int e)] [] σ23 K
                refine z_iinc (i := 3) (z := 1) (q := 0) (pc' := 168) ⟨by decide +kernel, rfl⟩ rfl rfl (by decide) rfl ?_
                show Wz E Y_Ju_truthOf 168 [(3, .int (v22 + Int32.ofInt 1)), (5, .int v18), (4, .int (τ.1 21 n)), (0, .ref 27), (1, .int s), (2, .int e)] [] σ23 K
                refine z_goto (off := (-151)) (tgt := 17) (pc' := 171) ⟨by decide +kernel, by decide, rfl⟩ ?_
                have z0L : (0 : Int64).toInt = 0 := by decide
                have z2 : (2 : Int32).toInt = 2 := by decide
                have z20 : (20 : Int32).toInt = 20 := by decide
                have z24 : (24 : Int32).toInt = 24 := by decide
                have z3 : (3 : Int32).toInt = 3 := by decide
                have z7 : (7 : Int32).toInt = 7 := by decide
                have gh1 := j_ge_f h1
                have gh2 := j_lt_t h2
                have gh3 := j_lt_t h3
                have gh4 := j_ge_f h4
                have gh19 := j_ne_t h19
                have gh20 := j_ne_f h20
                refine z_sub [0, 3, 4, 5] rfl ?_
                have e1 : (Int32.ofInt 1).toInt = 1 := by decide
                have hle := eoc_le (R := RC9 σ) (e := en) (m := en) (i := n)
                exact ih hv23 (by rw [i32_add (by rw [e1]; omega), e1, hv22]; rfl) (c2 hx2)
            · refine z_iconst (i := 3) (v := 3) (pc' := 141) ⟨by decide +kernel, rfl⟩ (by decide) ?_
              refine z_iret (ty := .int) rfl rfl (by decide +kernel) ?_
              have z0L : (0 : Int64).toInt = 0 := by decide
              have z20 : (20 : Int32).toInt = 20 := by decide
              have z24 : (24 : Int32).toInt = 24 := by decide
              have z3 : (3 : Int32).toInt = 3 := by decide
              have z7 : (7 : Int32).toInt = 7 := by decide
              have gh1 := j_ge_f h1
              have gh2 := j_lt_t h2
              have gh3 := j_lt_t h3
              have gh4 := j_ge_f h4
              have gh19 := j_ne_f h19
              obtain ⟨hx3, V3, hV3⟩ := ov_3 hv18 (by omega)
              exact k _ _ (Or.inl ⟨by rw [c3 hx3]; exact hx3, by decide, V3, T, by rw [c3 hx3]; exact hV3⟩)
        · have w37 := j_lt_t h2
          have w55 := j_lt_f h3
          have z24 : (24 : Int32).toInt = 24 := by decide
          have z20 : (20 : Int32).toInt = 20 := by decide
          have z7 : (7 : Int32).toInt = 7 := by decide
          have z13 : (13 : Int32).toInt = 13 := by decide
          rw [hop] at w37 w55
          refine z_aload_n (f := 0) (i := 0) (q := 2) (pc' := 59) ⟨by decide +kernel, rfl⟩ rfl rfl ?_
          refine z_iload (i := 4) (q := 0) (pc' := 61) ⟨by decide +kernel, rfl⟩ rfl ?_
          refine z_aload_n (f := 0) (i := 0) (q := 2) (pc' := 62) ⟨by decide +kernel, rfl⟩ rfl rfl ?_
          refine w_getr (k := 27) (j := 2) (idx := 19) (pc' := 65) fxe_5_19 kfa_27_2 ⟨by decide +kernel, rfl⟩ ?_
          refine w_getr (k := 17) (j := 5) (idx := 142) (pc' := 68) fxe_5_142 kfa_17_5 ⟨by decide +kernel, rfl⟩ ?_
          refine z_iload_n (f := 3) (i := 3) (q := 1) (pc' := 69) ⟨by decide +kernel, rfl⟩ rfl rfl ?_
          refine w_lald (k := 22) (n := n) (pc' := 70) kaa_22 (hi) (by have := hco.1; have q := j_ge_f h1; omega) ⟨by decide +kernel, rfl⟩ ?_
          refine w_invV (Z := Y_Ju_combine) (idx := 145) (kb := 27) (As := [.int (τ.1 21 n), .long (τ.2 22 n)]) (rest := []) (pc' := 73) cl_5_145 rfl ⟨rfl, rfl⟩ kfa_27_0 rfl ⟨⟨by decide, by decide⟩, rfl, rfl⟩ ⟨by decide +kernel, rfl⟩ rfl rfl (Nat.le_of_ble_eq_true rfl) rfl rfl ?_
          refine cz_Ju_combine h hop hnm hin hco (by omega) (by omega) hw hth hr (fun σ24 T24 hv24a hv24b => ?_)
          show Wz E Y_Ju_truthOf 73 [(4, .int (τ.1 21 n)), (3, .int i), (0, .ref 27), (1, .int s), (2, .int e)] [] σ24 K
          refine z_goto (off := 92) (tgt := 165) (pc' := 76) ⟨by decide +kernel, by decide, rfl⟩ ?_
          refine z_iinc (i := 3) (z := 1) (q := 1) (pc' := 168) ⟨by decide +kernel, rfl⟩ rfl rfl (by decide) rfl ?_
          show Wz E Y_Ju_truthOf 168 [(3, .int (i + Int32.ofInt 1)), (4, .int (τ.1 21 n)), (0, .ref 27), (1, .int s), (2, .int e)] [] σ24 K
          refine z_goto (off := (-151)) (tgt := 17) (pc' := 171) ⟨by decide +kernel, by decide, rfl⟩ ?_
          have z0L : (0 : Int64).toInt = 0 := by decide
          have z20 : (20 : Int32).toInt = 20 := by decide
          have z24 : (24 : Int32).toInt = 24 := by decide
          have gh1 := j_ge_f h1
          have gh2 := j_lt_t h2
          have gh3 := j_lt_f h3
          refine z_sub [0, 2, 3, 4] rfl ?_
          have e1 : (Int32.ofInt 1).toInt = 1 := by decide
          exact ih hv24a (by rw [i32_add (by rw [e1]; omega), e1]; omega) hv24b
      · have w37 := j_lt_f h2
        have z24 : (24 : Int32).toInt = 24 := by decide
        have z20 : (20 : Int32).toInt = 20 := by decide
        have z7 : (7 : Int32).toInt = 7 := by decide
        have z13 : (13 : Int32).toInt = 13 := by decide
        rw [hop] at w37
        have hsk := crb_skip hr hin (by show 24 ≤ (σ.1 21 n).toInt.toNat; omega)
        refine z_aload_n (f := 0) (i := 0) (q := 2) (pc' := 41) ⟨by decide +kernel, rfl⟩ rfl rfl ?_
        refine z_iload_n (f := 3) (i := 3) (q := 1) (pc' := 42) ⟨by decide +kernel, rfl⟩ rfl rfl ?_
        refine z_iload (i := 4) (q := 0) (pc' := 44) ⟨by decide +kernel, rfl⟩ rfl ?_
        refine w_invV (Z := Y_Ju_behindSkip) (idx := 139) (kb := 27) (As := [.int i, .int (τ.1 21 n)]) (rest := []) (pc' := 47) cl_5_139 rfl ⟨rfl, rfl⟩ kfa_27_0 rfl ⟨⟨by decide, by decide⟩, rfl, rfl⟩ ⟨by decide +kernel, rfl⟩ rfl rfl (Nat.le_of_ble_eq_true rfl) rfl rfl ?_
        refine cz_Ju_behindSkip (c := (σ.1 21 n).toInt.toNat) h hi (by omega) (by rw [hop]; omega) (by omega) (hcn.2.2 (by omega)) (fun v25 hv25 => ?_)
        show Wz E Y_Ju_truthOf 47 [(4, .int (τ.1 21 n)), (3, .int i), (0, .ref 27), (1, .int s), (2, .int e)] [.int v25] τ K
        refine z_istore_n (f := 3) (i := 3) (pc' := 48) ⟨by decide +kernel, rfl⟩ rfl (by decide) rfl ?_
        show Wz E Y_Ju_truthOf 48 [(3, .int v25), (4, .int (τ.1 21 n)), (0, .ref 27), (1, .int s), (2, .int e)] [] τ K
        refine z_goto (off := 117) (tgt := 165) (pc' := 51) ⟨by decide +kernel, by decide, rfl⟩ ?_
        refine z_iinc (i := 3) (z := 1) (q := 0) (pc' := 168) ⟨by decide +kernel, rfl⟩ rfl rfl (by decide) rfl ?_
        show Wz E Y_Ju_truthOf 168 [(3, .int (v25 + Int32.ofInt 1)), (4, .int (τ.1 21 n)), (0, .ref 27), (1, .int s), (2, .int e)] [] τ K
        refine z_goto (off := (-151)) (tgt := 17) (pc' := 171) ⟨by decide +kernel, by decide, rfl⟩ ?_
        have z0L : (0 : Int64).toInt = 0 := by decide
        have z24 : (24 : Int32).toInt = 24 := by decide
        have gh1 := j_ge_f h1
        have gh2 := j_lt_f h2
        refine z_sub [0, 2, 3, 4] rfl ?_
        have e1 : (Int32.ofInt 1).toInt = 1 := by decide
        rw [sk_eq] at hsk
        exact ih h (by rw [i32_add (by rw [e1]; have := skj_le (σ := σ) (c := (σ.1 21 n).toInt.toNat) (n := n) (T := T) (hcn.2.2 (by omega)); omega), e1]; exact hv25) hsk
theorem run_Ju_truthOf {E : xV} {σ : zS} {K : zKt} {s e : Int32} {sn en m : Nat} {r : EntJ} (hs0 : s.toInt = (sn : Int)) (he : e.toInt = (en : Int)) (hco : CoC σ en) (hc : ∀ f : Nat, f < 480 → 0 ≤ (σ.1 8 f).toInt ∧ (σ.1 8 f).toInt ≤ 20) (hw : 0 ≤ (σ.1 27 3).toInt ∧ (σ.1 27 3).toInt ≤ 19) (hth : 0 ≤ (σ.1 27 5).toInt ∧ (σ.1 27 5).toInt ≤ 39) (hn : 0 ≤ (σ.1 27 7).toInt ∧ (σ.1 27 7).toInt ≤ 1000000000) (ht : 0 ≤ (σ.1 27 6).toInt ∧ (σ.1 27 6).toInt ≤ 1000000000) (hr : cr9 (ECV σ) (RC9 σ) en m sn [] [] = some r) (k : ∀ (τ' : zS) (o : Int32), TrR σ τ' r o → K (some (.int o)) τ') : Wz E Y_Ju_truthOf 0 [(0, .ref 27), (1, .int s), (2, .int e)] [] σ K := by
  refine z_aload_n (f := 0) (i := 0) (q := 0) (pc' := 1) ⟨by decide +kernel, rfl⟩ rfl rfl ?_
  refine z_iconst (i := 0) (v := 0) (pc' := 2) ⟨by decide +kernel, rfl⟩ (by decide) ?_
  refine w_puti (k := 27) (j := 10) (idx := 130) (pc' := 5) fxi_5_130 kfa_27_10 ⟨by decide +kernel, rfl⟩ ?_
  generalize hs1 : zI σ 27 10 0 = σ1
  refine z_aload_n (f := 0) (i := 0) (q := 0) (pc' := 6) ⟨by decide +kernel, rfl⟩ rfl rfl ?_
  refine z_iconst (i := 0) (v := 0) (pc' := 7) ⟨by decide +kernel, rfl⟩ (by decide) ?_
  refine w_puti (k := 27) (j := 12) (idx := 133) (pc' := 10) fxi_5_133 kfa_27_12 ⟨by decide +kernel, rfl⟩ ?_
  generalize hs2 : zI σ1 27 12 0 = σ2
  refine z_aload_n (f := 0) (i := 0) (q := 0) (pc' := 11) ⟨by decide +kernel, rfl⟩ rfl rfl ?_
  refine z_iconst (i := 0) (v := 0) (pc' := 12) ⟨by decide +kernel, rfl⟩ (by decide) ?_
  refine w_puti (k := 27) (j := 13) (idx := 95) (pc' := 15) fxi_5_95 kfa_27_13 ⟨by decide +kernel, rfl⟩ ?_
  generalize hs3 : zI σ2 27 13 0 = σ3
  refine z_iload_n (f := 1) (i := 1) (q := 1) (pc' := 16) ⟨by decide +kernel, rfl⟩ rfl rfl ?_
  refine z_istore_n (f := 3) (i := 3) (pc' := 17) ⟨by decide +kernel, rfl⟩ rfl (by decide) rfl ?_
  show Wz E Y_Ju_truthOf 17 [(3, .int s), (0, .ref 27), (1, .int s), (2, .int e)] [] σ3 K
  have z0L : (0 : Int64).toInt = 0 := by decide
  exact run_Ju_truthOf_l he hco hc hw hth hn ht k m (cs_3 hs1 hs2 hs3) hs0 hr
theorem cz_Ju_truthOf {E : xV} {σ : zS} {K : zKt} {s e : Int32} {sn en m : Nat} {r : EntJ} (hs0 : s.toInt = (sn : Int)) (he : e.toInt = (en : Int)) (hco : CoC σ en) (hc : ∀ f : Nat, f < 480 → 0 ≤ (σ.1 8 f).toInt ∧ (σ.1 8 f).toInt ≤ 20) (hw : 0 ≤ (σ.1 27 3).toInt ∧ (σ.1 27 3).toInt ≤ 19) (hth : 0 ≤ (σ.1 27 5).toInt ∧ (σ.1 27 5).toInt ≤ 39) (hn : 0 ≤ (σ.1 27 7).toInt ∧ (σ.1 27 7).toInt ≤ 1000000000) (ht : 0 ≤ (σ.1 27 6).toInt ∧ (σ.1 27 6).toInt ≤ 1000000000) (hr : cr9 (ECV σ) (RC9 σ) en m sn [] [] = some r) (k : ∀ (τ' : zS) (o : Int32), TrR σ τ' r o → K (some (.int o)) τ') : Cz E Y_Ju_truthOf [.ref 27, .int s, .int e] σ K := z_entry (by decide) (fun a => by rw [sl_len]; exact Nat.le_of_ble_eq_true rfl) rfl (run_Ju_truthOf hs0 he hco hc hw hth hn ht hr k)

end
