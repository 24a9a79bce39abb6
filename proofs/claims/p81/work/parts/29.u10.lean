section
theorem fxe_13_106 : FxE "RightsHouseModel" 106 11 44 := fx_e (m := 284) (t := 3) rfl (by decide) (by decide +kernel)
theorem fxe_13_109 : FxE "RightsHouseModel" 109 11 45 := fx_e (m := 284) (t := 3) rfl (by decide) (by decide +kernel)
theorem fxe_13_136 : FxE "RightsHouseModel" 136 11 62 := fx_e (m := 284) (t := 3) rfl (by decide) (by decide +kernel)
theorem fxe_13_139 : FxE "RightsHouseModel" 139 11 63 := fx_e (m := 284) (t := 3) rfl (by decide) (by decide +kernel)
theorem fxe_13_403 : FxE "RightsHouseModel" 403 11 0 := fx_e (m := 284) (t := 0) rfl (by decide) (by decide +kernel)
theorem fxe_13_41 : FxE "RightsHouseModel" 41 11 16 := fx_e (m := 284) (t := 3) rfl (by decide) (by decide +kernel)
theorem fxe_13_44 : FxE "RightsHouseModel" 44 11 17 := fx_e (m := 284) (t := 3) rfl (by decide) (by decide +kernel)
theorem fxe_13_47 : FxE "RightsHouseModel" 47 11 18 := fx_e (m := 284) (t := 3) rfl (by decide) (by decide +kernel)
theorem fxe_13_655 : FxE "RightsHouseModel" 655 11 64 := fx_e (m := 284) (t := 0) rfl (by decide) (by decide +kernel)
theorem fxi_13_655 : FxI "RightsHouseModel" 655 11 64 := fx_i (m := 284) rfl (by decide) (by decide +kernel)
theorem kaa_121 : KaA 121 100 480 := ka_a (by decide +kernel)
theorem kaa_122 : KaA 122 100 480 := ka_a (by decide +kernel)
theorem kaa_123 : KaA 123 101 9600 := ka_a (by decide +kernel)
theorem kaa_141 : KaA 141 100 10400 := ka_a (by decide +kernel)
theorem kaa_142 : KaA 142 101 10400 := ka_a (by decide +kernel)
theorem kaa_151 : KaA 151 100 1300 := ka_a (by decide +kernel)
theorem kaa_152 : KaA 152 101 1300 := ka_a (by decide +kernel)
theorem kfa_110_0 : KfA 110 0 11 0 0 := kf_a (by decide) (by decide +kernel)
theorem kfa_110_16 : KfA 110 16 11 2 121 := kf_a (by decide) (by decide +kernel)
theorem kfa_110_17 : KfA 110 17 11 2 122 := kf_a (by decide) (by decide +kernel)
theorem kfa_110_18 : KfA 110 18 11 2 123 := kf_a (by decide) (by decide +kernel)
theorem kfa_110_44 : KfA 110 44 11 2 141 := kf_a (by decide) (by decide +kernel)
theorem kfa_110_45 : KfA 110 45 11 2 142 := kf_a (by decide) (by decide +kernel)
theorem kfa_110_62 : KfA 110 62 11 2 151 := kf_a (by decide) (by decide +kernel)
theorem kfa_110_63 : KfA 110 63 11 2 152 := kf_a (by decide) (by decide +kernel)
theorem kfa_110_64 : KfA 110 64 11 0 0 := kf_a (by decide) (by decide +kernel)
theorem run_M_in {E : xV} {τ : zS} {K : zKt} {x y z : Int64} (k : ∀ v : Int32, (v = 1 ∧ (y.toInt ≤ x.toInt ∧ x.toInt ≤ z.toInt)) ∨ (v = 0 ∧ ¬ (y.toInt ≤ x.toInt ∧ x.toInt ≤ z.toInt)) → K (some (.int v)) τ) : Wz E Y_M_in 0 [(0, .long x), (2, .long y), (4, .long z)] [] τ K := by
  refine z_lload_n (f := 0) (i := 0) (q := 0) (pc' := 1) ⟨by decide +kernel, rfl⟩ rfl rfl ?_
  refine z_lload_n (f := 2) (i := 2) (q := 1) (pc' := 2) ⟨by decide +kernel, rfl⟩ rfl rfl ?_
  refine z_lcmp (pc' := 3) ⟨by decide +kernel, rfl⟩ ?_
  refine z_if_lt (off := 14) (tgt := 17) (pc' := 6) ⟨by decide +kernel, by decide, rfl⟩ (fun h1 => ?_) (fun h1 => ?_)
  · refine z_iconst (i := 0) (v := 0) (pc' := 18) ⟨by decide +kernel, rfl⟩ (by decide) ?_
    refine z_iret (ty := .boolean) rfl rfl (by decide +kernel) ?_
    have z0L : (0 : Int64).toInt = 0 := by decide
    have gh1 := k_lt_t h1
    exact k _ (Or.inr ⟨rfl, by omega⟩)
  · refine z_lload_n (f := 0) (i := 0) (q := 0) (pc' := 7) ⟨by decide +kernel, rfl⟩ rfl rfl ?_
    refine z_lload (i := 4) (q := 2) (pc' := 9) ⟨by decide +kernel, rfl⟩ rfl ?_
    refine z_lcmp (pc' := 10) ⟨by decide +kernel, rfl⟩ ?_
    refine z_if_gt (off := 7) (tgt := 17) (pc' := 13) ⟨by decide +kernel, by decide, rfl⟩ (fun h2 => ?_) (fun h2 => ?_)
    · refine z_iconst (i := 0) (v := 0) (pc' := 18) ⟨by decide +kernel, rfl⟩ (by decide) ?_
      refine z_iret (ty := .boolean) rfl rfl (by decide +kernel) ?_
      have z0L : (0 : Int64).toInt = 0 := by decide
      have gh1 := k_lt_f h1
      have gh2 := k_gt_t h2
      exact k _ (Or.inr ⟨rfl, by omega⟩)
    · refine z_iconst (i := 1) (v := 1) (pc' := 14) ⟨by decide +kernel, rfl⟩ (by decide) ?_
      refine z_goto (off := 4) (tgt := 18) (pc' := 17) ⟨by decide +kernel, by decide, rfl⟩ ?_
      refine z_iret (ty := .boolean) rfl rfl (by decide +kernel) ?_
      have z0L : (0 : Int64).toInt = 0 := by decide
      have gh1 := k_lt_f h1
      have gh2 := k_gt_f h2
      exact k _ (Or.inl ⟨rfl, by omega⟩)
theorem cz_M_in {E : xV} {τ : zS} {K : zKt} {x y z : Int64} (k : ∀ v : Int32, (v = 1 ∧ (y.toInt ≤ x.toInt ∧ x.toInt ≤ z.toInt)) ∨ (v = 0 ∧ ¬ (y.toInt ≤ x.toInt ∧ x.toInt ≤ z.toInt)) → K (some (.int v)) τ) : Cz E Y_M_in [.long x, .long y, .long z] τ K := z_entry (by decide) (fun a => by rw [sl_len]; exact Nat.le_of_ble_eq_true rfl) rfl (run_M_in k)
theorem run_M_holdsFor {E : xV} {τ : zS} {K : zKt} {c w : Int32} (k : ∀ v : Int32, (v = 1 ∧ hoJ c.toInt w.toInt) ∨ (v = 0 ∧ ¬ hoJ c.toInt w.toInt) → K (some (.int v)) τ) : Wz E Y_M_holdsFor 0 [(0, .int c), (1, .int w)] [] τ K := by
  refine z_iload_n (f := 0) (i := 0) (q := 0) (pc' := 1) ⟨by decide +kernel, rfl⟩ rfl rfl ?_
  refine z_if_ne (off := 15) (tgt := 16) (pc' := 4) ⟨by decide +kernel, by decide, rfl⟩ (fun h1 => ?_) (fun h1 => ?_)
  · refine z_iload_n (f := 0) (i := 0) (q := 0) (pc' := 17) ⟨by decide +kernel, rfl⟩ rfl rfl ?_
    refine z_iconst (i := 1) (v := 1) (pc' := 18) ⟨by decide +kernel, rfl⟩ (by decide) ?_
    refine z_icmp_ne (off := 15) (tgt := 33) (pc' := 21) ⟨by decide +kernel, by decide, rfl⟩ (fun h2 => ?_) (fun h2 => ?_)
    · refine z_iload_n (f := 0) (i := 0) (q := 0) (pc' := 34) ⟨by decide +kernel, rfl⟩ rfl rfl ?_
      refine z_iconst (i := 2) (v := 2) (pc' := 35) ⟨by decide +kernel, rfl⟩ (by decide) ?_
      refine z_icmp_ne (off := 15) (tgt := 50) (pc' := 38) ⟨by decide +kernel, by decide, rfl⟩ (fun h3 => ?_) (fun h3 => ?_)
      · refine z_iload_n (f := 0) (i := 0) (q := 0) (pc' := 51) ⟨by decide +kernel, rfl⟩ rfl rfl ?_
        refine z_iconst (i := 3) (v := 3) (pc' := 52) ⟨by decide +kernel, rfl⟩ (by decide) ?_
        refine z_icmp_ne (off := 15) (tgt := 67) (pc' := 55) ⟨by decide +kernel, by decide, rfl⟩ (fun h4 => ?_) (fun h4 => ?_)
        · refine z_iload_n (f := 0) (i := 0) (q := 0) (pc' := 68) ⟨by decide +kernel, rfl⟩ rfl rfl ?_
          refine z_iconst (i := 4) (v := 4) (pc' := 69) ⟨by decide +kernel, rfl⟩ (by decide) ?_
          refine z_icmp_ne (off := 15) (tgt := 84) (pc' := 72) ⟨by decide +kernel, by decide, rfl⟩ (fun h5 => ?_) (fun h5 => ?_)
          · refine z_iload_n (f := 1) (i := 1) (q := 1) (pc' := 85) ⟨by decide +kernel, rfl⟩ rfl rfl ?_
            refine z_if_le (off := 7) (tgt := 92) (pc' := 88) ⟨by decide +kernel, by decide, rfl⟩ (fun h6 => ?_) (fun h6 => ?_)
            · refine z_iconst (i := 0) (v := 0) (pc' := 93) ⟨by decide +kernel, rfl⟩ (by decide) ?_
              refine z_iret (ty := .boolean) rfl rfl (by decide +kernel) ?_
              have z0L : (0 : Int64).toInt = 0 := by decide
              have z0 : (0 : Int32).toInt = 0 := by decide
              have z1 : (1 : Int32).toInt = 1 := by decide
              have z2 : (2 : Int32).toInt = 2 := by decide
              have z3 : (3 : Int32).toInt = 3 := by decide
              have z4 : (4 : Int32).toInt = 4 := by decide
              have gh1 := j_ne_t (y := 0) h1
              have gh2 := j_ne_t h2
              have gh3 := j_ne_t h3
              have gh4 := j_ne_t h4
              have gh5 := j_ne_t h5
              have gh6 := j_le_t (y := 0) h6
              exact k _ (Or.inr ⟨rfl, by omega⟩)
            · refine z_iconst (i := 1) (v := 1) (pc' := 89) ⟨by decide +kernel, rfl⟩ (by decide) ?_
              refine z_goto (off := 4) (tgt := 93) (pc' := 92) ⟨by decide +kernel, by decide, rfl⟩ ?_
              refine z_iret (ty := .boolean) rfl rfl (by decide +kernel) ?_
              have z0L : (0 : Int64).toInt = 0 := by decide
              have z0 : (0 : Int32).toInt = 0 := by decide
              have z1 : (1 : Int32).toInt = 1 := by decide
              have z2 : (2 : Int32).toInt = 2 := by decide
              have z3 : (3 : Int32).toInt = 3 := by decide
              have z4 : (4 : Int32).toInt = 4 := by decide
              have gh1 := j_ne_t (y := 0) h1
              have gh2 := j_ne_t h2
              have gh3 := j_ne_t h3
              have gh4 := j_ne_t h4
              have gh5 := j_ne_t h5
              have gh6 := j_le_f (y := 0) h6
              exact k _ (Or.inl ⟨rfl, by omega⟩)
          · refine z_iload_n (f := 1) (i := 1) (q := 1) (pc' := 73) ⟨by decide +kernel, rfl⟩ rfl rfl ?_
            refine z_if_lt (off := 7) (tgt := 80) (pc' := 76) ⟨by decide +kernel, by decide, rfl⟩ (fun h7 => ?_) (fun h7 => ?_)
            · refine z_iconst (i := 0) (v := 0) (pc' := 81) ⟨by decide +kernel, rfl⟩ (by decide) ?_
              refine z_goto (off := 12) (tgt := 93) (pc' := 84) ⟨by decide +kernel, by decide, rfl⟩ ?_
              refine z_iret (ty := .boolean) rfl rfl (by decide +kernel) ?_
              have z0L : (0 : Int64).toInt = 0 := by decide
              have z0 : (0 : Int32).toInt = 0 := by decide
              have z1 : (1 : Int32).toInt = 1 := by decide
              have z2 : (2 : Int32).toInt = 2 := by decide
              have z3 : (3 : Int32).toInt = 3 := by decide
              have z4 : (4 : Int32).toInt = 4 := by decide
              have gh1 := j_ne_t (y := 0) h1
              have gh2 := j_ne_t h2
              have gh3 := j_ne_t h3
              have gh4 := j_ne_t h4
              have gh5 := j_ne_f h5
              have gh7 := j_lt_t (y := 0) h7
              exact k _ (Or.inr ⟨rfl, by omega⟩)
            · refine z_iconst (i := 1) (v := 1) (pc' := 77) ⟨by decide +kernel, rfl⟩ (by decide) ?_
              refine z_goto (off := 16) (tgt := 93) (pc' := 80) ⟨by decide +kernel, by decide, rfl⟩ ?_
              refine z_iret (ty := .boolean) rfl rfl (by decide +kernel) ?_
              have z0L : (0 : Int64).toInt = 0 := by decide
              have z0 : (0 : Int32).toInt = 0 := by decide
              have z1 : (1 : Int32).toInt = 1 := by decide
              have z2 : (2 : Int32).toInt = 2 := by decide
              have z3 : (3 : Int32).toInt = 3 := by decide
              have z4 : (4 : Int32).toInt = 4 := by decide
              have gh1 := j_ne_t (y := 0) h1
              have gh2 := j_ne_t h2
              have gh3 := j_ne_t h3
              have gh4 := j_ne_t h4
              have gh5 := j_ne_f h5
              have gh7 := j_lt_f (y := 0) h7
              exact k _ (Or.inl ⟨rfl, by omega⟩)
        · refine z_iload_n (f := 1) (i := 1) (q := 1) (pc' := 56) ⟨by decide +kernel, rfl⟩ rfl rfl ?_
          refine z_if_eq (off := 7) (tgt := 63) (pc' := 59) ⟨by decide +kernel, by decide, rfl⟩ (fun h8 => ?_) (fun h8 => ?_)
          · refine z_iconst (i := 0) (v := 0) (pc' := 64) ⟨by decide +kernel, rfl⟩ (by decide) ?_
            refine z_goto (off := 29) (tgt := 93) (pc' := 67) ⟨by decide +kernel, by decide, rfl⟩ ?_
            refine z_iret (ty := .boolean) rfl rfl (by decide +kernel) ?_
            have z0L : (0 : Int64).toInt = 0 := by decide
            have z0 : (0 : Int32).toInt = 0 := by decide
            have z1 : (1 : Int32).toInt = 1 := by decide
            have z2 : (2 : Int32).toInt = 2 := by decide
            have z3 : (3 : Int32).toInt = 3 := by decide
            have gh1 := j_ne_t (y := 0) h1
            have gh2 := j_ne_t h2
            have gh3 := j_ne_t h3
            have gh4 := j_ne_f h4
            have gh8 := j_eq_t (y := 0) h8
            exact k _ (Or.inr ⟨rfl, by omega⟩)
          · refine z_iconst (i := 1) (v := 1) (pc' := 60) ⟨by decide +kernel, rfl⟩ (by decide) ?_
            refine z_goto (off := 33) (tgt := 93) (pc' := 63) ⟨by decide +kernel, by decide, rfl⟩ ?_
            refine z_iret (ty := .boolean) rfl rfl (by decide +kernel) ?_
            have z0L : (0 : Int64).toInt = 0 := by decide
            have z0 : (0 : Int32).toInt = 0 := by decide
            have z1 : (1 : Int32).toInt = 1 := by decide
            have z2 : (2 : Int32).toInt = 2 := by decide
            have z3 : (3 : Int32).toInt = 3 := by decide
            have gh1 := j_ne_t (y := 0) h1
            have gh2 := j_ne_t h2
            have gh3 := j_ne_t h3
            have gh4 := j_ne_f h4
            have gh8 := j_eq_f (y := 0) h8
            exact k _ (Or.inl ⟨rfl, by omega⟩)
      · refine z_iload_n (f := 1) (i := 1) (q := 1) (pc' := 39) ⟨by decide +kernel, rfl⟩ rfl rfl ?_
        refine z_if_ne (off := 7) (tgt := 46) (pc' := 42) ⟨by decide +kernel, by decide, rfl⟩ (fun h9 => ?_) (fun h9 => ?_)
        · refine z_iconst (i := 0) (v := 0) (pc' := 47) ⟨by decide +kernel, rfl⟩ (by decide) ?_
          refine z_goto (off := 46) (tgt := 93) (pc' := 50) ⟨by decide +kernel, by decide, rfl⟩ ?_
          refine z_iret (ty := .boolean) rfl rfl (by decide +kernel) ?_
          have z0L : (0 : Int64).toInt = 0 := by decide
          have z0 : (0 : Int32).toInt = 0 := by decide
          have z1 : (1 : Int32).toInt = 1 := by decide
          have z2 : (2 : Int32).toInt = 2 := by decide
          have gh1 := j_ne_t (y := 0) h1
          have gh2 := j_ne_t h2
          have gh3 := j_ne_f h3
          have gh9 := j_ne_t (y := 0) h9
          exact k _ (Or.inr ⟨rfl, by omega⟩)
        · refine z_iconst (i := 1) (v := 1) (pc' := 43) ⟨by decide +kernel, rfl⟩ (by decide) ?_
          refine z_goto (off := 50) (tgt := 93) (pc' := 46) ⟨by decide +kernel, by decide, rfl⟩ ?_
          refine z_iret (ty := .boolean) rfl rfl (by decide +kernel) ?_
          have z0L : (0 : Int64).toInt = 0 := by decide
          have z0 : (0 : Int32).toInt = 0 := by decide
          have z1 : (1 : Int32).toInt = 1 := by decide
          have z2 : (2 : Int32).toInt = 2 := by decide
          have gh1 := j_ne_t (y := 0) h1
          have gh2 := j_ne_t h2
          have gh3 := j_ne_f h3
          have gh9 := j_ne_f (y := 0) h9
          exact k _ (Or.inl ⟨rfl, by omega⟩)
    · refine z_iload_n (f := 1) (i := 1) (q := 1) (pc' := 22) ⟨by decide +kernel, rfl⟩ rfl rfl ?_
      refine z_if_gt (off := 7) (tgt := 29) (pc' := 25) ⟨by decide +kernel, by decide, rfl⟩ (fun h10 => ?_) (fun h10 => ?_)
      · refine z_iconst (i := 0) (v := 0) (pc' := 30) ⟨by decide +kernel, rfl⟩ (by decide) ?_
        refine z_goto (off := 63) (tgt := 93) (pc' := 33) ⟨by decide +kernel, by decide, rfl⟩ ?_
        refine z_iret (ty := .boolean) rfl rfl (by decide +kernel) ?_
        have z0L : (0 : Int64).toInt = 0 := by decide
        have z0 : (0 : Int32).toInt = 0 := by decide
        have z1 : (1 : Int32).toInt = 1 := by decide
        have gh1 := j_ne_t (y := 0) h1
        have gh2 := j_ne_f h2
        have gh10 := j_gt_t (y := 0) h10
        exact k _ (Or.inr ⟨rfl, by omega⟩)
      · refine z_iconst (i := 1) (v := 1) (pc' := 26) ⟨by decide +kernel, rfl⟩ (by decide) ?_
        refine z_goto (off := 67) (tgt := 93) (pc' := 29) ⟨by decide +kernel, by decide, rfl⟩ ?_
        refine z_iret (ty := .boolean) rfl rfl (by decide +kernel) ?_
        have z0L : (0 : Int64).toInt = 0 := by decide
        have z0 : (0 : Int32).toInt = 0 := by decide
        have z1 : (1 : Int32).toInt = 1 := by decide
        have gh1 := j_ne_t (y := 0) h1
        have gh2 := j_ne_f h2
        have gh10 := j_gt_f (y := 0) h10
        exact k _ (Or.inl ⟨rfl, by omega⟩)
  · refine z_iload_n (f := 1) (i := 1) (q := 1) (pc' := 5) ⟨by decide +kernel, rfl⟩ rfl rfl ?_
    refine z_if_ge (off := 7) (tgt := 12) (pc' := 8) ⟨by decide +kernel, by decide, rfl⟩ (fun h11 => ?_) (fun h11 => ?_)
    · refine z_iconst (i := 0) (v := 0) (pc' := 13) ⟨by decide +kernel, rfl⟩ (by decide) ?_
      refine z_goto (off := 80) (tgt := 93) (pc' := 16) ⟨by decide +kernel, by decide, rfl⟩ ?_
      refine z_iret (ty := .boolean) rfl rfl (by decide +kernel) ?_
      have z0L : (0 : Int64).toInt = 0 := by decide
      have z0 : (0 : Int32).toInt = 0 := by decide
      have gh1 := j_ne_f (y := 0) h1
      have gh11 := j_ge_t (y := 0) h11
      exact k _ (Or.inr ⟨rfl, by omega⟩)
    · refine z_iconst (i := 1) (v := 1) (pc' := 9) ⟨by decide +kernel, rfl⟩ (by decide) ?_
      refine z_goto (off := 84) (tgt := 93) (pc' := 12) ⟨by decide +kernel, by decide, rfl⟩ ?_
      refine z_iret (ty := .boolean) rfl rfl (by decide +kernel) ?_
      have z0L : (0 : Int64).toInt = 0 := by decide
      have z0 : (0 : Int32).toInt = 0 := by decide
      have gh1 := j_ne_f (y := 0) h1
      have gh11 := j_ge_f (y := 0) h11
      exact k _ (Or.inl ⟨rfl, by omega⟩)
theorem cz_M_holdsFor {E : xV} {τ : zS} {K : zKt} {c w : Int32} (k : ∀ v : Int32, (v = 1 ∧ hoJ c.toInt w.toInt) ∨ (v = 0 ∧ ¬ hoJ c.toInt w.toInt) → K (some (.int v)) τ) : Cz E Y_M_holdsFor [.int c, .int w] τ K := z_entry (by decide) (fun a => by rw [sl_len]; exact Nat.le_of_ble_eq_true rfl) rfl (run_M_holdsFor k)
theorem run_M_push {E : xV} {σ τ : zS} {K : zKt} {S : List EntJ} {kd : Int32} {v : Int64} {c : Nat} (h : MsJ σ τ S) (hl : S.length < 1300) (hk : kd.toInt = (c : Int)) (k : ∀ τ' : zS, MsJ σ τ' ((c, v.toInt) :: S) → K none τ') : Wz E Y_M_push 0 [(0, .ref 110), (1, .int kd), (2, .long v)] [] τ K := by
  refine z_aload_n (f := 0) (i := 0) (q := 0) (pc' := 1) ⟨by decide +kernel, rfl⟩ rfl rfl ?_
  refine w_getr (k := 110) (j := 62) (idx := 136) (pc' := 4) fxe_13_136 kfa_110_62 ⟨by decide +kernel, rfl⟩ ?_
  refine z_aload_n (f := 0) (i := 0) (q := 0) (pc' := 5) ⟨by decide +kernel, rfl⟩ rfl rfl ?_
  refine w_geti (k := 110) (j := 64) (idx := 655) (pc' := 8) fxe_13_655 kfa_110_64 ⟨by decide +kernel, rfl⟩ ?_
  refine z_iload_n (f := 1) (i := 1) (q := 1) (pc' := 9) ⟨by decide +kernel, rfl⟩ rfl rfl ?_
  refine w_iast (k := 151) (n := S.length) (pc' := 10) kaa_151 (h.2.1) (hl) ⟨by decide +kernel, rfl⟩ ?_
  generalize hs1 : zI τ 151 S.length kd = σ1
  refine z_aload_n (f := 0) (i := 0) (q := 0) (pc' := 11) ⟨by decide +kernel, rfl⟩ rfl rfl ?_
  refine w_getr (k := 110) (j := 63) (idx := 139) (pc' := 14) fxe_13_139 kfa_110_63 ⟨by decide +kernel, rfl⟩ ?_
  refine z_aload_n (f := 0) (i := 0) (q := 0) (pc' := 15) ⟨by decide +kernel, rfl⟩ rfl rfl ?_
  refine w_geti (k := 110) (j := 64) (idx := 655) (pc' := 18) fxe_13_655 kfa_110_64 ⟨by decide +kernel, rfl⟩ ?_
  refine z_lload_n (f := 2) (i := 2) (q := 2) (pc' := 19) ⟨by decide +kernel, rfl⟩ rfl rfl ?_
  refine w_last (k := 152) (n := S.length) (pc' := 20) kaa_152 (ms_top1 h hs1) (hl) ⟨by decide +kernel, rfl⟩ ?_
  generalize hs2 : zJ σ1 152 S.length v = σ2
  refine z_aload_n (f := 0) (i := 0) (q := 0) (pc' := 21) ⟨by decide +kernel, rfl⟩ rfl rfl ?_
  refine z_dupr (pc' := 22) ⟨by decide +kernel, rfl⟩ ?_
  refine w_geti (k := 110) (j := 64) (idx := 655) (pc' := 25) fxe_13_655 kfa_110_64 ⟨by decide +kernel, rfl⟩ ?_
  refine z_iconst (i := 1) (v := 1) (pc' := 26) ⟨by decide +kernel, rfl⟩ (by decide) ?_
  refine z_iadd (pc' := 27) ⟨by decide +kernel, rfl⟩ ?_
  refine w_puti (k := 110) (j := 64) (idx := 655) (pc' := 30) fxi_13_655 kfa_110_64 ⟨by decide +kernel, rfl⟩ ?_
  generalize hs3 : zI σ2 110 64 ((σ2.1 110 64) + 1) = σ3
  refine z_vret rfl (by decide +kernel) ?_
  have z0L : (0 : Int64).toInt = 0 := by decide
  exact k _ (ms_push h hl hk hs1 hs2 hs3)
theorem cz_M_push {E : xV} {σ τ : zS} {K : zKt} {S : List EntJ} {kd : Int32} {v : Int64} {c : Nat} (h : MsJ σ τ S) (hl : S.length < 1300) (hk : kd.toInt = (c : Int)) (k : ∀ τ' : zS, MsJ σ τ' ((c, v.toInt) :: S) → K none τ') : Cz E Y_M_push [.ref 110, .int kd, .long v] τ K := z_entry (by decide) (fun a => by rw [sl_len]; exact Nat.le_of_ble_eq_true rfl) rfl (run_M_push h hl hk k)
theorem run_M_pushItem {E : xV} {σ τ : zS} {K : zKt} {S : List EntJ} {f i : Int32} {fn : Nat} (h : MsJ σ τ S) (hl : S.length < 1300) (hc : ∀ f : Nat, f < 480 → 0 ≤ (σ.1 122 f).toInt ∧ (σ.1 122 f).toInt ≤ 20) (hf : f.toInt = (fn : Int)) (hfn : fn < 480) (k : ∀ τ' : zS, MsJ σ τ' (itJ σ fn i.toInt :: S) → K none τ') : Wz E Y_M_pushItem 0 [(0, .ref 110), (1, .int f), (2, .int i)] [] τ K := by
  refine z_aload_n (f := 0) (i := 0) (q := 0) (pc' := 1) ⟨by decide +kernel, rfl⟩ rfl rfl ?_
  refine w_getr (k := 110) (j := 16) (idx := 41) (pc' := 4) fxe_13_41 kfa_110_16 ⟨by decide +kernel, rfl⟩ ?_
  refine z_iload_n (f := 1) (i := 1) (q := 1) (pc' := 5) ⟨by decide +kernel, rfl⟩ rfl rfl ?_
  refine w_iald (k := 121) (n := fn) (pc' := 6) kaa_121 (hf) (hfn) ⟨by decide +kernel, rfl⟩ ?_
  refine z_if_ne (off := 12) (tgt := 18) (pc' := 9) ⟨by decide +kernel, by decide, rfl⟩ (fun h1 => ?_) (fun h1 => ?_)
  · refine z_iload_n (f := 2) (i := 2) (q := 2) (pc' := 19) ⟨by decide +kernel, rfl⟩ rfl rfl ?_
    refine z_i2l (pc' := 20) ⟨by decide +kernel, rfl⟩ rfl ?_
    refine z_lconst (i := 0) (v := 0) (pc' := 21) ⟨by decide +kernel, rfl⟩ (by decide) ?_
    refine z_aload_n (f := 0) (i := 0) (q := 0) (pc' := 22) ⟨by decide +kernel, rfl⟩ rfl rfl ?_
    refine w_getr (k := 110) (j := 17) (idx := 44) (pc' := 25) fxe_13_44 kfa_110_17 ⟨by decide +kernel, rfl⟩ ?_
    refine z_iload_n (f := 1) (i := 1) (q := 1) (pc' := 26) ⟨by decide +kernel, rfl⟩ rfl rfl ?_
    refine w_iald (k := 122) (n := fn) (pc' := 27) kaa_122 (hf) (hfn) ⟨by decide +kernel, rfl⟩ ?_
    refine z_iconst (i := 1) (v := 1) (pc' := 28) ⟨by decide +kernel, rfl⟩ (by decide) ?_
    refine z_isub (pc' := 29) ⟨by decide +kernel, rfl⟩ ?_
    refine z_i2l (pc' := 30) ⟨by decide +kernel, rfl⟩ rfl ?_
    refine w_invS (Z := Y_M_in) (idx := 333) (As := [.long (Int32.toInt64 i), .long 0, .long (Int32.toInt64 ((τ.1 122 fn) - 1))]) (rest := []) (pc' := 33) cl_13_333 rfl ⟨rfl, rfl⟩ ⟨⟨by decide, by decide⟩, rfl, rfl⟩ ⟨by decide +kernel, rfl⟩ rfl rfl (Nat.le_of_ble_eq_true rfl) rfl rfl ?_
    refine cz_M_in (fun v2 hv2 => ?_)
    show Wz E Y_M_pushItem 33 [(0, .ref 110), (1, .int f), (2, .int i)] [.int v2] τ K
    refine z_if_ne (off := 14) (tgt := 47) (pc' := 36) ⟨by decide +kernel, by decide, rfl⟩ (fun h3 => ?_) (fun h3 => ?_)
    · refine z_aload_n (f := 0) (i := 0) (q := 0) (pc' := 48) ⟨by decide +kernel, rfl⟩ rfl rfl ?_
      refine z_aload_n (f := 0) (i := 0) (q := 0) (pc' := 49) ⟨by decide +kernel, rfl⟩ rfl rfl ?_
      refine w_getr (k := 110) (j := 16) (idx := 41) (pc' := 52) fxe_13_41 kfa_110_16 ⟨by decide +kernel, rfl⟩ ?_
      refine z_iload_n (f := 1) (i := 1) (q := 1) (pc' := 53) ⟨by decide +kernel, rfl⟩ rfl rfl ?_
      refine w_iald (k := 121) (n := fn) (pc' := 54) kaa_121 (hf) (hfn) ⟨by decide +kernel, rfl⟩ ?_
      refine z_iconst (i := 2) (v := 2) (pc' := 55) ⟨by decide +kernel, rfl⟩ (by decide) ?_
      refine z_icmp_ne (off := 7) (tgt := 62) (pc' := 58) ⟨by decide +kernel, by decide, rfl⟩ (fun h4 => ?_) (fun h4 => ?_)
      · refine z_iconst (i := 0) (v := 0) (pc' := 63) ⟨by decide +kernel, rfl⟩ (by decide) ?_
        refine z_aload_n (f := 0) (i := 0) (q := 0) (pc' := 64) ⟨by decide +kernel, rfl⟩ rfl rfl ?_
        refine w_getr (k := 110) (j := 18) (idx := 47) (pc' := 67) fxe_13_47 kfa_110_18 ⟨by decide +kernel, rfl⟩ ?_
        refine z_bipush (i := 20) (v := 20) (pc' := 69) ⟨by decide +kernel, rfl⟩ (by decide) ?_
        refine z_iload_n (f := 1) (i := 1) (q := 1) (pc' := 70) ⟨by decide +kernel, rfl⟩ rfl rfl ?_
        refine z_imul (pc' := 71) ⟨by decide +kernel, rfl⟩ ?_
        refine z_iload_n (f := 2) (i := 2) (q := 2) (pc' := 72) ⟨by decide +kernel, rfl⟩ rfl rfl ?_
        refine z_iadd (pc' := 73) ⟨by decide +kernel, rfl⟩ ?_
        refine w_lald (k := 123) (n := (20 * fn + i.toInt.toNat)) (pc' := 74) kaa_123 (ms_ix hf hfn (by have q := p3_t hv2 h3; have z0 : (0 : Int64).toInt = 0 := (by decide); rw [i2l_i, z0, i2l_i, (ms_s h fn).2.1, ms_c1 hc hfn] at q; have := hc fn hfn; omega)) (by have q := p3_t hv2 h3; have z0 : (0 : Int64).toInt = 0 := (by decide); rw [i2l_i, z0, i2l_i, (ms_s h fn).2.1, ms_c1 hc hfn] at q; have := hc fn hfn; omega) ⟨by decide +kernel, rfl⟩ ?_
        refine w_invV (Z := Y_M_push) (idx := 658) (kb := 110) (As := [.int 0, .long (τ.2 123 (20 * fn + i.toInt.toNat))]) (rest := []) (pc' := 77) cl_13_658 rfl ⟨rfl, rfl⟩ kfa_110_0 rfl ⟨⟨by decide, by decide⟩, rfl, rfl⟩ ⟨by decide +kernel, rfl⟩ rfl rfl (Nat.le_of_ble_eq_true rfl) rfl rfl ?_
        refine cz_M_push (c := 0) h hl (by decide) (fun σ5 hv5 => ?_)
        show Wz E Y_M_pushItem 77 [(0, .ref 110), (1, .int f), (2, .int i)] [] σ5 K
        refine z_vret rfl (by decide +kernel) ?_
        have z0L : (0 : Int64).toInt = 0 := by decide
        have z0 : (0 : Int32).toInt = 0 := by decide
        have z2 : (2 : Int32).toInt = 2 := by decide
        have gh1 := j_ne_t (y := 0) h1
        have gh3 := p3_t hv2 h3
        have gh4 := j_ne_t h4
        rw [(ms_s h fn).1] at gh1
        rw [i2l_i, z0L, i2l_i, (ms_s h fn).2.1, ms_c1 hc hfn] at gh3
        rw [(ms_s h fn).1] at gh4
        rw [(ms_s h (20 * fn + i.toInt.toNat)).2.2] at hv5
        exact k _ (by rw [it_0 (by omega) (by omega) (by omega)]; exact hv5)
      · refine z_iconst (i := 1) (v := 1) (pc' := 59) ⟨by decide +kernel, rfl⟩ (by decide) ?_
        refine z_goto (off := 4) (tgt := 63) (pc' := 62) ⟨by decide +kernel, by decide, rfl⟩ ?_
        refine z_aload_n (f := 0) (i := 0) (q := 0) (pc' := 64) ⟨by decide +kernel, rfl⟩ rfl rfl ?_
        refine w_getr (k := 110) (j := 18) (idx := 47) (pc' := 67) fxe_13_47 kfa_110_18 ⟨by decide +kernel, rfl⟩ ?_
        refine z_bipush (i := 20) (v := 20) (pc' := 69) ⟨by decide +kernel, rfl⟩ (by decide) ?_
        refine z_iload_n (f := 1) (i := 1) (q := 1) (pc' := 70) ⟨by decide +kernel, rfl⟩ rfl rfl ?_
        refine z_imul (pc' := 71) ⟨by decide +kernel, rfl⟩ ?_
        refine z_iload_n (f := 2) (i := 2) (q := 2) (pc' := 72) ⟨by decide +kernel, rfl⟩ rfl rfl ?_
        refine z_iadd (pc' := 73) ⟨by decide +kernel, rfl⟩ ?_
        refine w_lald (k := 123) (n := (20 * fn + i.toInt.toNat)) (pc' := 74) kaa_123 (ms_ix hf hfn (by have q := p3_t hv2 h3; have z0 : (0 : Int64).toInt = 0 := (by decide); rw [i2l_i, z0, i2l_i, (ms_s h fn).2.1, ms_c1 hc hfn] at q; have := hc fn hfn; omega)) (by have q := p3_t hv2 h3; have z0 : (0 : Int64).toInt = 0 := (by decide); rw [i2l_i, z0, i2l_i, (ms_s h fn).2.1, ms_c1 hc hfn] at q; have := hc fn hfn; omega) ⟨by decide +kernel, rfl⟩ ?_
        refine w_invV (Z := Y_M_push) (idx := 658) (kb := 110) (As := [.int 1, .long (τ.2 123 (20 * fn + i.toInt.toNat))]) (rest := []) (pc' := 77) cl_13_658 rfl ⟨rfl, rfl⟩ kfa_110_0 rfl ⟨⟨by decide, by decide⟩, rfl, rfl⟩ ⟨by decide +kernel, rfl⟩ rfl rfl (Nat.le_of_ble_eq_true rfl) rfl rfl ?_
        refine cz_M_push (c := 1) h hl (by decide) (fun σ6 hv6 => ?_)
        show Wz E Y_M_pushItem 77 [(0, .ref 110), (1, .int f), (2, .int i)] [] σ6 K
        refine z_vret rfl (by decide +kernel) ?_
        have z0L : (0 : Int64).toInt = 0 := by decide
        have z0 : (0 : Int32).toInt = 0 := by decide
        have z2 : (2 : Int32).toInt = 2 := by decide
        have gh1 := j_ne_t (y := 0) h1
        have gh3 := p3_t hv2 h3
        have gh4 := j_ne_f h4
        rw [(ms_s h fn).1] at gh1
        rw [i2l_i, z0L, i2l_i, (ms_s h fn).2.1, ms_c1 hc hfn] at gh3
        rw [(ms_s h fn).1] at gh4
        rw [(ms_s h (20 * fn + i.toInt.toNat)).2.2] at hv6
        exact k _ (by rw [it_1 (by omega) (by omega) (by omega)]; exact hv6)
    · refine z_aload_n (f := 0) (i := 0) (q := 0) (pc' := 37) ⟨by decide +kernel, rfl⟩ rfl rfl ?_
      refine z_iconst (i := 3) (v := 3) (pc' := 38) ⟨by decide +kernel, rfl⟩ (by decide) ?_
      refine z_ldc2 (i := 390) (v := 2) (pc' := 41) ⟨by decide +kernel, rfl⟩ k_12_61 ?_
      refine w_invV (Z := Y_M_push) (idx := 658) (kb := 110) (As := [.int 3, .long 2]) (rest := []) (pc' := 44) cl_13_658 rfl ⟨rfl, rfl⟩ kfa_110_0 rfl ⟨⟨by decide, by decide⟩, rfl, rfl⟩ ⟨by decide +kernel, rfl⟩ rfl rfl (Nat.le_of_ble_eq_true rfl) rfl rfl ?_
      refine cz_M_push (c := 3) h hl (by decide) (fun σ7 hv7 => ?_)
      show Wz E Y_M_pushItem 44 [(0, .ref 110), (1, .int f), (2, .int i)] [] σ7 K
      refine z_goto (off := 33) (tgt := 77) (pc' := 47) ⟨by decide +kernel, by decide, rfl⟩ ?_
      refine z_vret rfl (by decide +kernel) ?_
      have z0L : (0 : Int64).toInt = 0 := by decide
      have z0 : (0 : Int32).toInt = 0 := by decide
      have gh1 := j_ne_t (y := 0) h1
      have gh3 := p3_f hv2 h3
      rw [(ms_s h fn).1] at gh1
      rw [i2l_i, z0L, i2l_i, (ms_s h fn).2.1, ms_c1 hc hfn] at gh3
      exact k _ (by rw [it_f (by omega) (by omega)]; exact hv7)
  · refine z_aload_n (f := 0) (i := 0) (q := 0) (pc' := 10) ⟨by decide +kernel, rfl⟩ rfl rfl ?_
    refine z_iconst (i := 2) (v := 2) (pc' := 11) ⟨by decide +kernel, rfl⟩ (by decide) ?_
    refine z_lconst (i := 0) (v := 0) (pc' := 12) ⟨by decide +kernel, rfl⟩ (by decide) ?_
    refine w_invV (Z := Y_M_push) (idx := 658) (kb := 110) (As := [.int 2, .long 0]) (rest := []) (pc' := 15) cl_13_658 rfl ⟨rfl, rfl⟩ kfa_110_0 rfl ⟨⟨by decide, by decide⟩, rfl, rfl⟩ ⟨by decide +kernel, rfl⟩ rfl rfl (Nat.le_of_ble_eq_true rfl) rfl rfl ?_
    refine cz_M_push (c := 2) h hl (by decide) (fun σ8 hv8 => ?_)
    show Wz E Y_M_pushItem 15 [(0, .ref 110), (1, .int f), (2, .int i)] [] σ8 K
    refine z_goto (off := 62) (tgt := 77) (pc' := 18) ⟨by decide +kernel, by decide, rfl⟩ ?_
    refine z_vret rfl (by decide +kernel) ?_
    have z0L : (0 : Int64).toInt = 0 := by decide
    have z0 : (0 : Int32).toInt = 0 := by decide
    have gh1 := j_ne_f (y := 0) h1
    rw [(ms_s h fn).1] at gh1
    exact k _ (by rw [it_u (by omega)]; exact hv8)
theorem cz_M_pushItem {E : xV} {σ τ : zS} {K : zKt} {S : List EntJ} {f i : Int32} {fn : Nat} (h : MsJ σ τ S) (hl : S.length < 1300) (hc : ∀ f : Nat, f < 480 → 0 ≤ (σ.1 122 f).toInt ∧ (σ.1 122 f).toInt ≤ 20) (hf : f.toInt = (fn : Int)) (hfn : fn < 480) (k : ∀ τ' : zS, MsJ σ τ' (itJ σ fn i.toInt :: S) → K none τ') : Cz E Y_M_pushItem [.ref 110, .int f, .int i] τ K := z_entry (by decide) (fun a => by rw [sl_len]; exact Nat.le_of_ble_eq_true rfl) rfl (run_M_pushItem h hl hc hf hfn k)
theorem run_M_pushAt {E : xV} {σ τ : zS} {K : zKt} {S : List EntJ} {x : EntJ} {f : Int32} {fn : Nat} (h : MsJ σ τ (x :: S)) (hc : ∀ f : Nat, f < 480 → 0 ≤ (σ.1 122 f).toInt ∧ (σ.1 122 f).toInt ≤ 20) (hf : f.toInt = (fn : Int)) (hfn : fn < 480) (k : ∀ τ' : zS, MsJ σ τ' (onJ9 (paJ σ fn) x :: S) → K none τ') : Wz E Y_M_pushAt 0 [(0, .ref 110), (1, .int f)] [] τ K := by
  refine z_aload_n (f := 0) (i := 0) (q := 0) (pc' := 1) ⟨by decide +kernel, rfl⟩ rfl rfl ?_
  refine z_dupr (pc' := 2) ⟨by decide +kernel, rfl⟩ ?_
  refine w_geti (k := 110) (j := 64) (idx := 655) (pc' := 5) fxe_13_655 kfa_110_64 ⟨by decide +kernel, rfl⟩ ?_
  refine z_iconst (i := 1) (v := 1) (pc' := 6) ⟨by decide +kernel, rfl⟩ (by decide) ?_
  refine z_isub (pc' := 7) ⟨by decide +kernel, rfl⟩ ?_
  refine w_puti (k := 110) (j := 64) (idx := 655) (pc' := 10) fxi_13_655 kfa_110_64 ⟨by decide +kernel, rfl⟩ ?_
  generalize hs1 : zI τ 110 64 ((τ.1 110 64) - 1) = σ1
  refine z_aload_n (f := 0) (i := 0) (q := 0) (pc' := 11) ⟨by decide +kernel, rfl⟩ rfl rfl ?_
  refine w_getr (k := 110) (j := 62) (idx := 136) (pc' := 14) fxe_13_136 kfa_110_62 ⟨by decide +kernel, rfl⟩ ?_
  refine z_aload_n (f := 0) (i := 0) (q := 0) (pc' := 15) ⟨by decide +kernel, rfl⟩ rfl rfl ?_
  refine w_geti (k := 110) (j := 64) (idx := 655) (pc' := 18) fxe_13_655 kfa_110_64 ⟨by decide +kernel, rfl⟩ ?_
  refine w_iald (k := 151) (n := S.length) (pc' := 19) kaa_151 ((ms_pop h hs1).1.2.1) ((ms_pop h hs1).2.2) ⟨by decide +kernel, rfl⟩ ?_
  refine z_istore_n (f := 2) (i := 2) (pc' := 20) ⟨by decide +kernel, rfl⟩ rfl (by decide) rfl ?_
  show Wz E Y_M_pushAt 20 [(2, .int (σ1.1 151 S.length)), (0, .ref 110), (1, .int f)] [] σ1 K
  refine z_aload_n (f := 0) (i := 0) (q := 1) (pc' := 21) ⟨by decide +kernel, rfl⟩ rfl rfl ?_
  refine w_getr (k := 110) (j := 63) (idx := 139) (pc' := 24) fxe_13_139 kfa_110_63 ⟨by decide +kernel, rfl⟩ ?_
  refine z_aload_n (f := 0) (i := 0) (q := 1) (pc' := 25) ⟨by decide +kernel, rfl⟩ rfl rfl ?_
  refine w_geti (k := 110) (j := 64) (idx := 655) (pc' := 28) fxe_13_655 kfa_110_64 ⟨by decide +kernel, rfl⟩ ?_
  refine w_lald (k := 152) (n := S.length) (pc' := 29) kaa_152 ((ms_pop h hs1).1.2.1) ((ms_pop h hs1).2.2) ⟨by decide +kernel, rfl⟩ ?_
  refine z_lstore_n (f := 3) (i := 3) (pc' := 30) ⟨by decide +kernel, rfl⟩ rfl (by decide) rfl ?_
  show Wz E Y_M_pushAt 30 [(3, .long (σ1.2 152 S.length)), (2, .int (σ1.1 151 S.length)), (0, .ref 110), (1, .int f)] [] σ1 K
  refine z_iload_n (f := 2) (i := 2) (q := 1) (pc' := 31) ⟨by decide +kernel, rfl⟩ rfl rfl ?_
  refine z_iconst (i := 1) (v := 1) (pc' := 32) ⟨by decide +kernel, rfl⟩ (by decide) ?_
  refine z_icmp_le (off := 12) (tgt := 44) (pc' := 35) ⟨by decide +kernel, by decide, rfl⟩ (fun h2 => ?_) (fun h2 => ?_)
  · refine z_iload_n (f := 2) (i := 2) (q := 1) (pc' := 45) ⟨by decide +kernel, rfl⟩ rfl rfl ?_
    refine z_iconst (i := 1) (v := 1) (pc' := 46) ⟨by decide +kernel, rfl⟩ (by decide) ?_
    refine z_icmp_ne (off := 14) (tgt := 60) (pc' := 49) ⟨by decide +kernel, by decide, rfl⟩ (fun h3 => ?_) (fun h3 => ?_)
    · refine z_aload_n (f := 0) (i := 0) (q := 2) (pc' := 61) ⟨by decide +kernel, rfl⟩ rfl rfl ?_
      refine z_iload_n (f := 1) (i := 1) (q := 3) (pc' := 62) ⟨by decide +kernel, rfl⟩ rfl rfl ?_
      refine z_lload_n (f := 3) (i := 3) (q := 0) (pc' := 63) ⟨by decide +kernel, rfl⟩ rfl rfl ?_
      refine z_lconst (i := 0) (v := 0) (pc' := 64) ⟨by decide +kernel, rfl⟩ (by decide) ?_
      refine z_ldc2 (i := 661) (v := 19) (pc' := 67) ⟨by decide +kernel, rfl⟩ k_12_66 ?_
      refine w_invS (Z := Y_M_in) (idx := 333) (As := [.long (σ1.2 152 S.length), .long 0, .long 19]) (rest := [.int f, .ref 110]) (pc' := 70) cl_13_333 rfl ⟨rfl, rfl⟩ ⟨⟨by decide, by decide⟩, rfl, rfl⟩ ⟨by decide +kernel, rfl⟩ rfl rfl (Nat.le_of_ble_eq_true rfl) rfl rfl ?_
      refine cz_M_in (fun v4 hv4 => ?_)
      show Wz E Y_M_pushAt 70 [(3, .long (σ1.2 152 S.length)), (2, .int (σ1.1 151 S.length)), (0, .ref 110), (1, .int f)] [.int v4, .int f, .ref 110] σ1 K
      refine z_if_eq (off := 8) (tgt := 78) (pc' := 73) ⟨by decide +kernel, by decide, rfl⟩ (fun h5 => ?_) (fun h5 => ?_)
      · refine z_iconst (i := (-1)) (v := (-1)) (pc' := 79) ⟨by decide +kernel, rfl⟩ (by decide) ?_
        refine w_invV (Z := Y_M_pushItem) (idx := 663) (kb := 110) (As := [.int f, .int (-1)]) (rest := []) (pc' := 82) cl_13_663 rfl ⟨rfl, rfl⟩ kfa_110_0 rfl ⟨⟨by decide, by decide⟩, rfl, rfl⟩ ⟨by decide +kernel, rfl⟩ rfl rfl (Nat.le_of_ble_eq_true rfl) rfl rfl ?_
        refine cz_M_pushItem (S := S) (fn := fn) (ms_pop h hs1).1 (ms_pop h hs1).2.2 hc hf hfn (fun σ6 hv6 => ?_)
        show Wz E Y_M_pushAt 82 [(3, .long (σ1.2 152 S.length)), (2, .int (σ1.1 151 S.length)), (0, .ref 110), (1, .int f)] [] σ6 K
        refine z_vret rfl (by decide +kernel) ?_
        have z0L : (0 : Int64).toInt = 0 := by decide
        have z1 : (1 : Int32).toInt = 1 := by decide
        have gh2 := j_le_t h2
        have gh3 := j_ne_t h3
        have gh5 := p3_f hv4 h5
        have p := (ms_pop h hs1).2.1
        rw [p.1] at gh2
        rw [p.1] at gh3
        have z19 : (19 : Int64).toInt = 19 := by decide
        rw [p.2, z0L, z19] at gh5
        rw [on_wh (by omega)] at k
        exact k _ (by rw [show paJ σ fn x.2 = itJ σ fn (-1) by unfold paJ; rw [if_neg gh5]]; exact hv6)
      · refine z_lload_n (f := 3) (i := 3) (q := 0) (pc' := 74) ⟨by decide +kernel, rfl⟩ rfl rfl ?_
        refine z_l2i (pc' := 75) ⟨by decide +kernel, rfl⟩ rfl ?_
        refine z_goto (off := 4) (tgt := 79) (pc' := 78) ⟨by decide +kernel, by decide, rfl⟩ ?_
        refine w_invV (Z := Y_M_pushItem) (idx := 663) (kb := 110) (As := [.int f, .int (Int64.toInt32 (σ1.2 152 S.length))]) (rest := []) (pc' := 82) cl_13_663 rfl ⟨rfl, rfl⟩ kfa_110_0 rfl ⟨⟨by decide, by decide⟩, rfl, rfl⟩ ⟨by decide +kernel, rfl⟩ rfl rfl (Nat.le_of_ble_eq_true rfl) rfl rfl ?_
        refine cz_M_pushItem (S := S) (fn := fn) (ms_pop h hs1).1 (ms_pop h hs1).2.2 hc hf hfn (fun σ7 hv7 => ?_)
        show Wz E Y_M_pushAt 82 [(3, .long (σ1.2 152 S.length)), (2, .int (σ1.1 151 S.length)), (0, .ref 110), (1, .int f)] [] σ7 K
        refine z_vret rfl (by decide +kernel) ?_
        have z0L : (0 : Int64).toInt = 0 := by decide
        have z1 : (1 : Int32).toInt = 1 := by decide
        have gh2 := j_le_t h2
        have gh3 := j_ne_t h3
        have gh5 := p3_t hv4 h5
        have p := (ms_pop h hs1).2.1
        rw [p.1] at gh2
        rw [p.1] at gh3
        have z19 : (19 : Int64).toInt = 19 := by decide
        rw [p.2, z0L, z19] at gh5
        rw [on_wh (by omega)] at k
        exact k _ (by rw [show paJ σ fn x.2 = itJ σ fn x.2 by unfold paJ; rw [if_pos gh5]]; rw [l2i_s p.2 (by omega)] at hv7; exact hv7)
    · refine z_aload_n (f := 0) (i := 0) (q := 2) (pc' := 50) ⟨by decide +kernel, rfl⟩ rfl rfl ?_
      refine z_iconst (i := 3) (v := 3) (pc' := 51) ⟨by decide +kernel, rfl⟩ (by decide) ?_
      refine z_ldc2 (i := 482) (v := 4) (pc' := 54) ⟨by decide +kernel, rfl⟩ k_11_69 ?_
      refine w_invV (Z := Y_M_push) (idx := 658) (kb := 110) (As := [.int 3, .long 4]) (rest := []) (pc' := 57) cl_13_658 rfl ⟨rfl, rfl⟩ kfa_110_0 rfl ⟨⟨by decide, by decide⟩, rfl, rfl⟩ ⟨by decide +kernel, rfl⟩ rfl rfl (Nat.le_of_ble_eq_true rfl) rfl rfl ?_
      refine cz_M_push (c := 3) (ms_pop h hs1).1 (ms_pop h hs1).2.2 (by decide) (fun σ8 hv8 => ?_)
      show Wz E Y_M_pushAt 57 [(3, .long (σ1.2 152 S.length)), (2, .int (σ1.1 151 S.length)), (0, .ref 110), (1, .int f)] [] σ8 K
      refine z_goto (off := 25) (tgt := 82) (pc' := 60) ⟨by decide +kernel, by decide, rfl⟩ ?_
      refine z_vret rfl (by decide +kernel) ?_
      have z0L : (0 : Int64).toInt = 0 := by decide
      have z1 : (1 : Int32).toInt = 1 := by decide
      have gh2 := j_le_t h2
      have gh3 := j_ne_f h3
      have p := (ms_pop h hs1).2.1
      rw [p.1] at gh2
      rw [p.1] at gh3
      exact k _ (by rw [on_re (by omega)]; exact hv8)
  · refine z_aload_n (f := 0) (i := 0) (q := 2) (pc' := 36) ⟨by decide +kernel, rfl⟩ rfl rfl ?_
    refine z_iload_n (f := 2) (i := 2) (q := 1) (pc' := 37) ⟨by decide +kernel, rfl⟩ rfl rfl ?_
    refine z_lload_n (f := 3) (i := 3) (q := 0) (pc' := 38) ⟨by decide +kernel, rfl⟩ rfl rfl ?_
    refine w_invV (Z := Y_M_push) (idx := 658) (kb := 110) (As := [.int (σ1.1 151 S.length), .long (σ1.2 152 S.length)]) (rest := []) (pc' := 41) cl_13_658 rfl ⟨rfl, rfl⟩ kfa_110_0 rfl ⟨⟨by decide, by decide⟩, rfl, rfl⟩ ⟨by decide +kernel, rfl⟩ rfl rfl (Nat.le_of_ble_eq_true rfl) rfl rfl ?_
    refine cz_M_push (c := x.1) (ms_pop h hs1).1 (ms_pop h hs1).2.2 ((ms_pop h hs1).2.1.1) (fun σ9 hv9 => ?_)
    show Wz E Y_M_pushAt 41 [(3, .long (σ1.2 152 S.length)), (2, .int (σ1.1 151 S.length)), (0, .ref 110), (1, .int f)] [] σ9 K
    refine z_goto (off := 41) (tgt := 82) (pc' := 44) ⟨by decide +kernel, by decide, rfl⟩ ?_
    refine z_vret rfl (by decide +kernel) ?_
    have z0L : (0 : Int64).toInt = 0 := by decide
    have z1 : (1 : Int32).toInt = 1 := by decide
    have gh2 := j_le_f h2
    have p := (ms_pop h hs1).2.1
    rw [p.1] at gh2
    exact k _ (by rw [on_hi (by omega)]; rw [ent (x := x) rfl p.2] at hv9; exact hv9)
theorem cz_M_pushAt {E : xV} {σ τ : zS} {K : zKt} {S : List EntJ} {x : EntJ} {f : Int32} {fn : Nat} (h : MsJ σ τ (x :: S)) (hc : ∀ f : Nat, f < 480 → 0 ≤ (σ.1 122 f).toInt ∧ (σ.1 122 f).toInt ≤ 20) (hf : f.toInt = (fn : Int)) (hfn : fn < 480) (k : ∀ τ' : zS, MsJ σ τ' (onJ9 (paJ σ fn) x :: S) → K none τ') : Cz E Y_M_pushAt [.ref 110, .int f] τ K := z_entry (by decide) (fun a => by rw [sl_len]; exact Nat.le_of_ble_eq_true rfl) rfl (run_M_pushAt h hc hf hfn k)
theorem run_M_pushIn_l {E : xV} {σ : zS} {K : zKt} {τ : zS} {S : List EntJ} {v : Int64} {g f : Int32} {fn : Nat} (h : MsJ σ τ S) (hl : S.length < 1300) (hc : ∀ f : Nat, f < 480 → 0 ≤ (σ.1 122 f).toInt ∧ (σ.1 122 f).toInt ≤ 20) (hf : f.toInt = (fn : Int)) (hfn : fn < 480) (hs3 : (σ.1 121 fn).toInt = 3) (k : ∀ τ' : zS, MsJ σ τ' (mgJ σ fn v.toInt :: S) → K none τ')  : ∀ (j : Nat) {i b : Int32} {n : Nat}, (σ.1 122 fn).toInt = n + j → i.toInt = n → b.toInt = (if hasJ σ fn v.toInt n then 1 else 0) → Wz E Y_M_pushIn 105 [(6, .int i), (5, .int b), (3, .long v), (2, .int g), (0, .ref 110), (1, .int f)] [] τ K
  | 0, i, b, n, hj, hi, hb => by
    refine z_iload (i := 6) (q := 0) (pc' := 107) ⟨by decide +kernel, rfl⟩ rfl ?_
    refine z_aload_n (f := 0) (i := 0) (q := 4) (pc' := 108) ⟨by decide +kernel, rfl⟩ rfl rfl ?_
    refine w_getr (k := 110) (j := 17) (idx := 44) (pc' := 111) fxe_13_44 kfa_110_17 ⟨by decide +kernel, rfl⟩ ?_
    refine z_iload_n (f := 1) (i := 1) (q := 5) (pc' := 112) ⟨by decide +kernel, rfl⟩ rfl rfl ?_
    refine w_iald (k := 122) (n := fn) (pc' := 113) kaa_122 (hf) (hfn) ⟨by decide +kernel, rfl⟩ ?_
    refine z_icmp_ge (off := 38) (tgt := 151) (pc' := 116) ⟨by decide +kernel, by decide, rfl⟩ (fun h1 => ?_) (fun h1 => ?_)
    · refine z_aload_n (f := 0) (i := 0) (q := 4) (pc' := 152) ⟨by decide +kernel, rfl⟩ rfl rfl ?_
      refine z_iload (i := 5) (q := 1) (pc' := 154) ⟨by decide +kernel, rfl⟩ rfl ?_
      refine z_if_eq (off := 7) (tgt := 161) (pc' := 157) ⟨by decide +kernel, by decide, rfl⟩ (fun h2 => ?_) (fun h2 => ?_)
      · refine z_iconst (i := 5) (v := 5) (pc' := 162) ⟨by decide +kernel, rfl⟩ (by decide) ?_
        refine z_lconst (i := 0) (v := 0) (pc' := 163) ⟨by decide +kernel, rfl⟩ (by decide) ?_
        refine w_invV (Z := Y_M_push) (idx := 658) (kb := 110) (As := [.int 5, .long 0]) (rest := []) (pc' := 166) cl_13_658 rfl ⟨rfl, rfl⟩ kfa_110_0 rfl ⟨⟨by decide, by decide⟩, rfl, rfl⟩ ⟨by decide +kernel, rfl⟩ rfl rfl (Nat.le_of_ble_eq_true rfl) rfl rfl ?_
        refine cz_M_push (c := 5) h hl (by decide) (fun σ3 hv3 => ?_)
        show Wz E Y_M_pushIn 166 [(6, .int i), (5, .int b), (3, .long v), (2, .int g), (0, .ref 110), (1, .int f)] [] σ3 K
        refine z_vret rfl (by decide +kernel) ?_
        have z0L : (0 : Int64).toInt = 0 := by decide
        have z0 : (0 : Int32).toInt = 0 := by decide
        have gh1 := j_ge_t h1
        have gh2 := j_eq_t (y := 0) h2
        rw [(ms_s h fn).2.1] at gh1
        exact k _ (by rw [mg_0 hs3 (by have := hc fn hfn; omega) hb (by omega)]; exact hv3)
      · refine z_iconst (i := 4) (v := 4) (pc' := 158) ⟨by decide +kernel, rfl⟩ (by decide) ?_
        refine z_goto (off := 4) (tgt := 162) (pc' := 161) ⟨by decide +kernel, by decide, rfl⟩ ?_
        refine z_lconst (i := 0) (v := 0) (pc' := 163) ⟨by decide +kernel, rfl⟩ (by decide) ?_
        refine w_invV (Z := Y_M_push) (idx := 658) (kb := 110) (As := [.int 4, .long 0]) (rest := []) (pc' := 166) cl_13_658 rfl ⟨rfl, rfl⟩ kfa_110_0 rfl ⟨⟨by decide, by decide⟩, rfl, rfl⟩ ⟨by decide +kernel, rfl⟩ rfl rfl (Nat.le_of_ble_eq_true rfl) rfl rfl ?_
        refine cz_M_push (c := 4) h hl (by decide) (fun σ4 hv4 => ?_)
        show Wz E Y_M_pushIn 166 [(6, .int i), (5, .int b), (3, .long v), (2, .int g), (0, .ref 110), (1, .int f)] [] σ4 K
        refine z_vret rfl (by decide +kernel) ?_
        have z0L : (0 : Int64).toInt = 0 := by decide
        have z0 : (0 : Int32).toInt = 0 := by decide
        have gh1 := j_ge_t h1
        have gh2 := j_eq_f (y := 0) h2
        rw [(ms_s h fn).2.1] at gh1
        exact k _ (by rw [mg_1 hs3 (by have := hc fn hfn; omega) hb (by omega)]; exact hv4)
    · have z0L : (0 : Int64).toInt = 0 := by decide
      have gh1 := j_ge_f h1
      rw [(ms_s h fn).2.1] at gh1
      have hcn := hc fn hfn
      exfalso
      omega
  | j + 1, i, b, n, hj, hi, hb => by
    have ih := @run_M_pushIn_l E σ K τ S v g f fn h hl hc hf hfn hs3 k j
    refine z_iload (i := 6) (q := 0) (pc' := 107) ⟨by decide +kernel, rfl⟩ rfl ?_
    refine z_aload_n (f := 0) (i := 0) (q := 4) (pc' := 108) ⟨by decide +kernel, rfl⟩ rfl rfl ?_
    refine w_getr (k := 110) (j := 17) (idx := 44) (pc' := 111) fxe_13_44 kfa_110_17 ⟨by decide +kernel, rfl⟩ ?_
    refine z_iload_n (f := 1) (i := 1) (q := 5) (pc' := 112) ⟨by decide +kernel, rfl⟩ rfl rfl ?_
    refine w_iald (k := 122) (n := fn) (pc' := 113) kaa_122 (hf) (hfn) ⟨by decide +kernel, rfl⟩ ?_
    refine z_icmp_ge (off := 38) (tgt := 151) (pc' := 116) ⟨by decide +kernel, by decide, rfl⟩ (fun h1 => ?_) (fun h1 => ?_)
    · have z0L : (0 : Int64).toInt = 0 := by decide
      have gh1 := j_ge_t h1
      rw [(ms_s h fn).2.1] at gh1
      have hcn := hc fn hfn
      exfalso
      omega
    · refine z_iload (i := 5) (q := 1) (pc' := 118) ⟨by decide +kernel, rfl⟩ rfl ?_
      refine z_if_ne (off := 20) (tgt := 138) (pc' := 121) ⟨by decide +kernel, by decide, rfl⟩ (fun h2 => ?_) (fun h2 => ?_)
      · refine z_iconst (i := 1) (v := 1) (pc' := 139) ⟨by decide +kernel, rfl⟩ (by decide) ?_
        refine z_goto (off := 4) (tgt := 143) (pc' := 142) ⟨by decide +kernel, by decide, rfl⟩ ?_
        refine z_istore (i := 5) (pc' := 145) ⟨by decide +kernel, rfl⟩ (by decide) rfl ?_
        show Wz E Y_M_pushIn 145 [(5, .int 1), (6, .int i), (3, .long v), (2, .int g), (0, .ref 110), (1, .int f)] [] τ K
        refine z_iinc (i := 6) (z := 1) (q := 1) (pc' := 148) ⟨by decide +kernel, rfl⟩ rfl rfl (by decide) rfl ?_
        show Wz E Y_M_pushIn 148 [(6, .int (i + Int32.ofInt 1)), (5, .int 1), (3, .long v), (2, .int g), (0, .ref 110), (1, .int f)] [] τ K
        refine z_goto (off := (-43)) (tgt := 105) (pc' := 151) ⟨by decide +kernel, by decide, rfl⟩ ?_
        have z0L : (0 : Int64).toInt = 0 := by decide
        have z0 : (0 : Int32).toInt = 0 := by decide
        have gh1 := j_ge_f h1
        have gh2 := j_ne_t (y := 0) h2
        have e1 : (Int32.ofInt 1).toInt = 1 := by decide
        rw [(ms_s h fn).2.1] at gh1
        have hcn := hc fn hfn
        exact ih (n := n + 1) (b := 1) (by omega) (by rw [i32_add (by rw [e1]; omega), e1]; omega) (ha_on hb (by omega))
      · refine z_aload_n (f := 0) (i := 0) (q := 4) (pc' := 122) ⟨by decide +kernel, rfl⟩ rfl rfl ?_
        refine w_getr (k := 110) (j := 18) (idx := 47) (pc' := 125) fxe_13_47 kfa_110_18 ⟨by decide +kernel, rfl⟩ ?_
        refine z_bipush (i := 20) (v := 20) (pc' := 127) ⟨by decide +kernel, rfl⟩ (by decide) ?_
        refine z_iload_n (f := 1) (i := 1) (q := 5) (pc' := 128) ⟨by decide +kernel, rfl⟩ rfl rfl ?_
        refine z_imul (pc' := 129) ⟨by decide +kernel, rfl⟩ ?_
        refine z_iload (i := 6) (q := 0) (pc' := 131) ⟨by decide +kernel, rfl⟩ rfl ?_
        refine z_iadd (pc' := 132) ⟨by decide +kernel, rfl⟩ ?_
        refine w_lald (k := 123) (n := (20 * fn + n)) (pc' := 133) kaa_123 (ms_ix2 hf hfn hi (by have := hc fn hfn; have q := j_ge_f h1; rw [(ms_s h fn).2.1] at q; omega)) (by have := hc fn hfn; have q := j_ge_f h1; rw [(ms_s h fn).2.1] at q; omega) ⟨by decide +kernel, rfl⟩ ?_
        refine z_lload_n (f := 3) (i := 3) (q := 2) (pc' := 134) ⟨by decide +kernel, rfl⟩ rfl rfl ?_
        refine z_lcmp (pc' := 135) ⟨by decide +kernel, rfl⟩ ?_
        refine z_if_ne (off := 7) (tgt := 142) (pc' := 138) ⟨by decide +kernel, by decide, rfl⟩ (fun h3 => ?_) (fun h3 => ?_)
        · refine z_iconst (i := 0) (v := 0) (pc' := 143) ⟨by decide +kernel, rfl⟩ (by decide) ?_
          refine z_istore (i := 5) (pc' := 145) ⟨by decide +kernel, rfl⟩ (by decide) rfl ?_
          show Wz E Y_M_pushIn 145 [(5, .int 0), (6, .int i), (3, .long v), (2, .int g), (0, .ref 110), (1, .int f)] [] τ K
          refine z_iinc (i := 6) (z := 1) (q := 1) (pc' := 148) ⟨by decide +kernel, rfl⟩ rfl rfl (by decide) rfl ?_
          show Wz E Y_M_pushIn 148 [(6, .int (i + Int32.ofInt 1)), (5, .int 0), (3, .long v), (2, .int g), (0, .ref 110), (1, .int f)] [] τ K
          refine z_goto (off := (-43)) (tgt := 105) (pc' := 151) ⟨by decide +kernel, by decide, rfl⟩ ?_
          have z0L : (0 : Int64).toInt = 0 := by decide
          have z0 : (0 : Int32).toInt = 0 := by decide
          have gh1 := j_ge_f h1
          have gh2 := j_ne_f (y := 0) h2
          have gh3 := k_ne_t h3
          have e1 : (Int32.ofInt 1).toInt = 1 := by decide
          rw [(ms_s h fn).2.1] at gh1
          have hcn := hc fn hfn
          rw [(ms_s h (20 * fn + n)).2.2] at gh3
          exact ih (n := n + 1) (b := 0) (by omega) (by rw [i32_add (by rw [e1]; omega), e1]; omega) (ha_ne hb (by omega) gh3)
        · refine z_iconst (i := 1) (v := 1) (pc' := 139) ⟨by decide +kernel, rfl⟩ (by decide) ?_
          refine z_goto (off := 4) (tgt := 143) (pc' := 142) ⟨by decide +kernel, by decide, rfl⟩ ?_
          refine z_istore (i := 5) (pc' := 145) ⟨by decide +kernel, rfl⟩ (by decide) rfl ?_
          show Wz E Y_M_pushIn 145 [(5, .int 1), (6, .int i), (3, .long v), (2, .int g), (0, .ref 110), (1, .int f)] [] τ K
          refine z_iinc (i := 6) (z := 1) (q := 1) (pc' := 148) ⟨by decide +kernel, rfl⟩ rfl rfl (by decide) rfl ?_
          show Wz E Y_M_pushIn 148 [(6, .int (i + Int32.ofInt 1)), (5, .int 1), (3, .long v), (2, .int g), (0, .ref 110), (1, .int f)] [] τ K
          refine z_goto (off := (-43)) (tgt := 105) (pc' := 151) ⟨by decide +kernel, by decide, rfl⟩ ?_
          have z0L : (0 : Int64).toInt = 0 := by decide
          have z0 : (0 : Int32).toInt = 0 := by decide
          have gh1 := j_ge_f h1
          have gh2 := j_ne_f (y := 0) h2
          have gh3 := k_ne_f h3
          have e1 : (Int32.ofInt 1).toInt = 1 := by decide
          rw [(ms_s h fn).2.1] at gh1
          have hcn := hc fn hfn
          rw [(ms_s h (20 * fn + n)).2.2] at gh3
          exact ih (n := n + 1) (b := 1) (by omega) (by rw [i32_add (by rw [e1]; omega), e1]; omega) (ha_eq gh3)
theorem run_M_pushIn {E : xV} {σ τ : zS} {K : zKt} {S : List EntJ} {x : EntJ} {f : Int32} {fn : Nat} (h : MsJ σ τ (x :: S)) (hc : ∀ f : Nat, f < 480 → 0 ≤ (σ.1 122 f).toInt ∧ (σ.1 122 f).toInt ≤ 20) (hf : f.toInt = (fn : Int)) (hfn : fn < 480) (k : ∀ τ' : zS, MsJ σ τ' (onJ9 (mgJ σ fn) x :: S) → K none τ') : Wz E Y_M_pushIn 0 [(0, .ref 110), (1, .int f)] [] τ K := by
  refine z_aload_n (f := 0) (i := 0) (q := 0) (pc' := 1) ⟨by decide +kernel, rfl⟩ rfl rfl ?_
  refine z_dupr (pc' := 2) ⟨by decide +kernel, rfl⟩ ?_
  refine w_geti (k := 110) (j := 64) (idx := 655) (pc' := 5) fxe_13_655 kfa_110_64 ⟨by decide +kernel, rfl⟩ ?_
  refine z_iconst (i := 1) (v := 1) (pc' := 6) ⟨by decide +kernel, rfl⟩ (by decide) ?_
  refine z_isub (pc' := 7) ⟨by decide +kernel, rfl⟩ ?_
  refine w_puti (k := 110) (j := 64) (idx := 655) (pc' := 10) fxi_13_655 kfa_110_64 ⟨by decide +kernel, rfl⟩ ?_
  generalize hs1 : zI τ 110 64 ((τ.1 110 64) - 1) = σ1
  refine z_aload_n (f := 0) (i := 0) (q := 0) (pc' := 11) ⟨by decide +kernel, rfl⟩ rfl rfl ?_
  refine w_getr (k := 110) (j := 62) (idx := 136) (pc' := 14) fxe_13_136 kfa_110_62 ⟨by decide +kernel, rfl⟩ ?_
  refine z_aload_n (f := 0) (i := 0) (q := 0) (pc' := 15) ⟨by decide +kernel, rfl⟩ rfl rfl ?_
  refine w_geti (k := 110) (j := 64) (idx := 655) (pc' := 18) fxe_13_655 kfa_110_64 ⟨by decide +kernel, rfl⟩ ?_
  refine w_iald (k := 151) (n := S.length) (pc' := 19) kaa_151 ((ms_pop h hs1).1.2.1) ((ms_pop h hs1).2.2) ⟨by decide +kernel, rfl⟩ ?_
  refine z_istore_n (f := 2) (i := 2) (pc' := 20) ⟨by decide +kernel, rfl⟩ rfl (by decide) rfl ?_
  show Wz E Y_M_pushIn 20 [(2, .int (σ1.1 151 S.length)), (0, .ref 110), (1, .int f)] [] σ1 K
  refine z_aload_n (f := 0) (i := 0) (q := 1) (pc' := 21) ⟨by decide +kernel, rfl⟩ rfl rfl ?_
  refine w_getr (k := 110) (j := 63) (idx := 139) (pc' := 24) fxe_13_139 kfa_110_63 ⟨by decide +kernel, rfl⟩ ?_
  refine z_aload_n (f := 0) (i := 0) (q := 1) (pc' := 25) ⟨by decide +kernel, rfl⟩ rfl rfl ?_
  refine w_geti (k := 110) (j := 64) (idx := 655) (pc' := 28) fxe_13_655 kfa_110_64 ⟨by decide +kernel, rfl⟩ ?_
  refine w_lald (k := 152) (n := S.length) (pc' := 29) kaa_152 ((ms_pop h hs1).1.2.1) ((ms_pop h hs1).2.2) ⟨by decide +kernel, rfl⟩ ?_
  refine z_lstore_n (f := 3) (i := 3) (pc' := 30) ⟨by decide +kernel, rfl⟩ rfl (by decide) rfl ?_
  show Wz E Y_M_pushIn 30 [(3, .long (σ1.2 152 S.length)), (2, .int (σ1.1 151 S.length)), (0, .ref 110), (1, .int f)] [] σ1 K
  refine z_iload_n (f := 2) (i := 2) (q := 1) (pc' := 31) ⟨by decide +kernel, rfl⟩ rfl rfl ?_
  refine z_iconst (i := 1) (v := 1) (pc' := 32) ⟨by decide +kernel, rfl⟩ (by decide) ?_
  refine z_icmp_le (off := 12) (tgt := 44) (pc' := 35) ⟨by decide +kernel, by decide, rfl⟩ (fun h2 => ?_) (fun h2 => ?_)
  · refine z_iload_n (f := 2) (i := 2) (q := 1) (pc' := 45) ⟨by decide +kernel, rfl⟩ rfl rfl ?_
    refine z_iconst (i := 1) (v := 1) (pc' := 46) ⟨by decide +kernel, rfl⟩ (by decide) ?_
    refine z_icmp_ne (off := 14) (tgt := 60) (pc' := 49) ⟨by decide +kernel, by decide, rfl⟩ (fun h3 => ?_) (fun h3 => ?_)
    · refine z_aload_n (f := 0) (i := 0) (q := 2) (pc' := 61) ⟨by decide +kernel, rfl⟩ rfl rfl ?_
      refine w_getr (k := 110) (j := 16) (idx := 41) (pc' := 64) fxe_13_41 kfa_110_16 ⟨by decide +kernel, rfl⟩ ?_
      refine z_iload_n (f := 1) (i := 1) (q := 3) (pc' := 65) ⟨by decide +kernel, rfl⟩ rfl rfl ?_
      refine w_iald (k := 121) (n := fn) (pc' := 66) kaa_121 (hf) (hfn) ⟨by decide +kernel, rfl⟩ ?_
      refine z_if_ne (off := 12) (tgt := 78) (pc' := 69) ⟨by decide +kernel, by decide, rfl⟩ (fun h4 => ?_) (fun h4 => ?_)
      · refine z_aload_n (f := 0) (i := 0) (q := 2) (pc' := 79) ⟨by decide +kernel, rfl⟩ rfl rfl ?_
        refine w_getr (k := 110) (j := 16) (idx := 41) (pc' := 82) fxe_13_41 kfa_110_16 ⟨by decide +kernel, rfl⟩ ?_
        refine z_iload_n (f := 1) (i := 1) (q := 3) (pc' := 83) ⟨by decide +kernel, rfl⟩ rfl rfl ?_
        refine w_iald (k := 121) (n := fn) (pc' := 84) kaa_121 (hf) (hfn) ⟨by decide +kernel, rfl⟩ ?_
        refine z_iconst (i := 3) (v := 3) (pc' := 85) ⟨by decide +kernel, rfl⟩ (by decide) ?_
        refine z_icmp_eq (off := 14) (tgt := 99) (pc' := 88) ⟨by decide +kernel, by decide, rfl⟩ (fun h5 => ?_) (fun h5 => ?_)
        · refine z_iconst (i := 0) (v := 0) (pc' := 100) ⟨by decide +kernel, rfl⟩ (by decide) ?_
          refine z_istore (i := 5) (pc' := 102) ⟨by decide +kernel, rfl⟩ (by decide) rfl ?_
          show Wz E Y_M_pushIn 102 [(5, .int 0), (3, .long (σ1.2 152 S.length)), (2, .int (σ1.1 151 S.length)), (0, .ref 110), (1, .int f)] [] σ1 K
          refine z_iconst (i := 0) (v := 0) (pc' := 103) ⟨by decide +kernel, rfl⟩ (by decide) ?_
          refine z_istore (i := 6) (pc' := 105) ⟨by decide +kernel, rfl⟩ (by decide) rfl ?_
          show Wz E Y_M_pushIn 105 [(6, .int 0), (5, .int 0), (3, .long (σ1.2 152 S.length)), (2, .int (σ1.1 151 S.length)), (0, .ref 110), (1, .int f)] [] σ1 K
          have z0L : (0 : Int64).toInt = 0 := by decide
          have z0 : (0 : Int32).toInt = 0 := by decide
          have z1 : (1 : Int32).toInt = 1 := by decide
          have z3 : (3 : Int32).toInt = 3 := by decide
          have gh2 := j_le_t h2
          have gh3 := j_ne_t h3
          have gh4 := j_ne_t (y := 0) h4
          have gh5 := j_eq_t h5
          have p := (ms_pop h hs1).2.1
          rw [p.1] at gh2
          rw [p.1] at gh3
          rw [(ms_s (ms_pop h hs1).1 fn).1] at gh4
          rw [(ms_s (ms_pop h hs1).1 fn).1] at gh5
          rw [on_wh (by omega), ← p.2] at k
          have hcn := hc fn hfn
          exact run_M_pushIn_l (ms_pop h hs1).1 (ms_pop h hs1).2.2 hc hf hfn (by omega) k (σ.1 122 fn).toInt.toNat (n := 0) (by omega) (by decide) (by show (0 : Int32).toInt = (if false = true then 1 else 0); decide)
        · refine z_aload_n (f := 0) (i := 0) (q := 2) (pc' := 89) ⟨by decide +kernel, rfl⟩ rfl rfl ?_
          refine z_iconst (i := 3) (v := 3) (pc' := 90) ⟨by decide +kernel, rfl⟩ (by decide) ?_
          refine z_ldc2 (i := 482) (v := 4) (pc' := 93) ⟨by decide +kernel, rfl⟩ k_11_69 ?_
          refine w_invV (Z := Y_M_push) (idx := 658) (kb := 110) (As := [.int 3, .long 4]) (rest := []) (pc' := 96) cl_13_658 rfl ⟨rfl, rfl⟩ kfa_110_0 rfl ⟨⟨by decide, by decide⟩, rfl, rfl⟩ ⟨by decide +kernel, rfl⟩ rfl rfl (Nat.le_of_ble_eq_true rfl) rfl rfl ?_
          refine cz_M_push (c := 3) (ms_pop h hs1).1 (ms_pop h hs1).2.2 (by decide) (fun σ6 hv6 => ?_)
          show Wz E Y_M_pushIn 96 [(3, .long (σ1.2 152 S.length)), (2, .int (σ1.1 151 S.length)), (0, .ref 110), (1, .int f)] [] σ6 K
          refine z_goto (off := 70) (tgt := 166) (pc' := 99) ⟨by decide +kernel, by decide, rfl⟩ ?_
          refine z_vret rfl (by decide +kernel) ?_
          have z0L : (0 : Int64).toInt = 0 := by decide
          have z0 : (0 : Int32).toInt = 0 := by decide
          have z1 : (1 : Int32).toInt = 1 := by decide
          have z3 : (3 : Int32).toInt = 3 := by decide
          have gh2 := j_le_t h2
          have gh3 := j_ne_t h3
          have gh4 := j_ne_t (y := 0) h4
          have gh5 := j_eq_f h5
          have p := (ms_pop h hs1).2.1
          rw [p.1] at gh2
          rw [p.1] at gh3
          rw [(ms_s (ms_pop h hs1).1 fn).1] at gh4
          rw [(ms_s (ms_pop h hs1).1 fn).1] at gh5
          rw [on_wh (by omega)] at k
          exact k _ (by rw [mg_x (by omega) (by omega)]; exact hv6)
      · refine z_aload_n (f := 0) (i := 0) (q := 2) (pc' := 70) ⟨by decide +kernel, rfl⟩ rfl rfl ?_
        refine z_iconst (i := 2) (v := 2) (pc' := 71) ⟨by decide +kernel, rfl⟩ (by decide) ?_
        refine z_lconst (i := 0) (v := 0) (pc' := 72) ⟨by decide +kernel, rfl⟩ (by decide) ?_
        refine w_invV (Z := Y_M_push) (idx := 658) (kb := 110) (As := [.int 2, .long 0]) (rest := []) (pc' := 75) cl_13_658 rfl ⟨rfl, rfl⟩ kfa_110_0 rfl ⟨⟨by decide, by decide⟩, rfl, rfl⟩ ⟨by decide +kernel, rfl⟩ rfl rfl (Nat.le_of_ble_eq_true rfl) rfl rfl ?_
        refine cz_M_push (c := 2) (ms_pop h hs1).1 (ms_pop h hs1).2.2 (by decide) (fun σ7 hv7 => ?_)
        show Wz E Y_M_pushIn 75 [(3, .long (σ1.2 152 S.length)), (2, .int (σ1.1 151 S.length)), (0, .ref 110), (1, .int f)] [] σ7 K
        refine z_goto (off := 91) (tgt := 166) (pc' := 78) ⟨by decide +kernel, by decide, rfl⟩ ?_
        refine z_vret rfl (by decide +kernel) ?_
        have z0L : (0 : Int64).toInt = 0 := by decide
        have z0 : (0 : Int32).toInt = 0 := by decide
        have z1 : (1 : Int32).toInt = 1 := by decide
        have gh2 := j_le_t h2
        have gh3 := j_ne_t h3
        have gh4 := j_ne_f (y := 0) h4
        have p := (ms_pop h hs1).2.1
        rw [p.1] at gh2
        rw [p.1] at gh3
        rw [(ms_s (ms_pop h hs1).1 fn).1] at gh4
        rw [on_wh (by omega)] at k
        exact k _ (by rw [mg_u0 (by omega)]; exact hv7)
    · refine z_aload_n (f := 0) (i := 0) (q := 2) (pc' := 50) ⟨by decide +kernel, rfl⟩ rfl rfl ?_
      refine z_iconst (i := 3) (v := 3) (pc' := 51) ⟨by decide +kernel, rfl⟩ (by decide) ?_
      refine z_ldc2 (i := 482) (v := 4) (pc' := 54) ⟨by decide +kernel, rfl⟩ k_11_69 ?_
      refine w_invV (Z := Y_M_push) (idx := 658) (kb := 110) (As := [.int 3, .long 4]) (rest := []) (pc' := 57) cl_13_658 rfl ⟨rfl, rfl⟩ kfa_110_0 rfl ⟨⟨by decide, by decide⟩, rfl, rfl⟩ ⟨by decide +kernel, rfl⟩ rfl rfl (Nat.le_of_ble_eq_true rfl) rfl rfl ?_
      refine cz_M_push (c := 3) (ms_pop h hs1).1 (ms_pop h hs1).2.2 (by decide) (fun σ8 hv8 => ?_)
      show Wz E Y_M_pushIn 57 [(3, .long (σ1.2 152 S.length)), (2, .int (σ1.1 151 S.length)), (0, .ref 110), (1, .int f)] [] σ8 K
      refine z_goto (off := 109) (tgt := 166) (pc' := 60) ⟨by decide +kernel, by decide, rfl⟩ ?_
      refine z_vret rfl (by decide +kernel) ?_
      have z0L : (0 : Int64).toInt = 0 := by decide
      have z1 : (1 : Int32).toInt = 1 := by decide
      have gh2 := j_le_t h2
      have gh3 := j_ne_f h3
      have p := (ms_pop h hs1).2.1
      rw [p.1] at gh2
      rw [p.1] at gh3
      exact k _ (by rw [on_re (by omega)]; exact hv8)
  · refine z_aload_n (f := 0) (i := 0) (q := 2) (pc' := 36) ⟨by decide +kernel, rfl⟩ rfl rfl ?_
    refine z_iload_n (f := 2) (i := 2) (q := 1) (pc' := 37) ⟨by decide +kernel, rfl⟩ rfl rfl ?_
    refine z_lload_n (f := 3) (i := 3) (q := 0) (pc' := 38) ⟨by decide +kernel, rfl⟩ rfl rfl ?_
    refine w_invV (Z := Y_M_push) (idx := 658) (kb := 110) (As := [.int (σ1.1 151 S.length), .long (σ1.2 152 S.length)]) (rest := []) (pc' := 41) cl_13_658 rfl ⟨rfl, rfl⟩ kfa_110_0 rfl ⟨⟨by decide, by decide⟩, rfl, rfl⟩ ⟨by decide +kernel, rfl⟩ rfl rfl (Nat.le_of_ble_eq_true rfl) rfl rfl ?_
    refine cz_M_push (c := x.1) (ms_pop h hs1).1 (ms_pop h hs1).2.2 ((ms_pop h hs1).2.1.1) (fun σ9 hv9 => ?_)
    show Wz E Y_M_pushIn 41 [(3, .long (σ1.2 152 S.length)), (2, .int (σ1.1 151 S.length)), (0, .ref 110), (1, .int f)] [] σ9 K
    refine z_goto (off := 125) (tgt := 166) (pc' := 44) ⟨by decide +kernel, by decide, rfl⟩ ?_
    refine z_vret rfl (by decide +kernel) ?_
    have z0L : (0 : Int64).toInt = 0 := by decide
    have z1 : (1 : Int32).toInt = 1 := by decide
    have gh2 := j_le_f h2
    have p := (ms_pop h hs1).2.1
    rw [p.1] at gh2
    exact k _ (by rw [on_hi (by omega)]; rw [ent (x := x) rfl p.2] at hv9; exact hv9)
theorem cz_M_pushIn {E : xV} {σ τ : zS} {K : zKt} {S : List EntJ} {x : EntJ} {f : Int32} {fn : Nat} (h : MsJ σ τ (x :: S)) (hc : ∀ f : Nat, f < 480 → 0 ≤ (σ.1 122 f).toInt ∧ (σ.1 122 f).toInt ≤ 20) (hf : f.toInt = (fn : Int)) (hfn : fn < 480) (k : ∀ τ' : zS, MsJ σ τ' (onJ9 (mgJ σ fn) x :: S) → K none τ') : Cz E Y_M_pushIn [.ref 110, .int f] τ K := z_entry (by decide) (fun a => by rw [sl_len]; exact Nat.le_of_ble_eq_true rfl) rfl (run_M_pushIn h hc hf hfn k)
theorem run_M_pushOf_r {E : xV} {σ τ : zS} {K : zKt} {S : List EntJ} {x y : EntJ} {code cc g1 g2 : Int32} {a b : Int64} {c : Nat} (h : MsJ σ τ S) (hl : S.length < 1300) (hcd : code.toInt = (c : Int)) (hw : ¬ (x.1 = 0 ∧ y.1 = 0)) (ha : a.toInt = rlJ x) (hb : b.toInt = rlJ y) (k : ∀ τ' : zS, (c = 13 → MsJ σ τ' (cpJ cc.toInt x y :: S)) → (c ≠ 13 → MsJ σ τ' (arJ c x y :: S)) → K none τ') : Wz E Y_M_pushOf 275 [(7, .long b), (5, .long a), (4, .int g2), (3, .int g1), (0, .ref 110), (1, .int code), (2, .int cc)] [] τ K := by
  refine z_iload_n (f := 1) (i := 1) (q := 5) (pc' := 276) ⟨by decide +kernel, rfl⟩ rfl rfl ?_
  refine z_bipush (i := 13) (v := 13) (pc' := 278) ⟨by decide +kernel, rfl⟩ (by decide) ?_
  refine z_icmp_ne (off := 101) (tgt := 379) (pc' := 281) ⟨by decide +kernel, by decide, rfl⟩ (fun h1 => ?_) (fun h1 => ?_)
  · refine z_aload_n (f := 0) (i := 0) (q := 4) (pc' := 380) ⟨by decide +kernel, rfl⟩ rfl rfl ?_
    refine z_iconst (i := 1) (v := 1) (pc' := 381) ⟨by decide +kernel, rfl⟩ (by decide) ?_
    refine z_iload_n (f := 1) (i := 1) (q := 5) (pc' := 382) ⟨by decide +kernel, rfl⟩ rfl rfl ?_
    refine z_bipush (i := 8) (v := 8) (pc' := 384) ⟨by decide +kernel, rfl⟩ (by decide) ?_
    refine z_icmp_ne (off := 13) (tgt := 397) (pc' := 387) ⟨by decide +kernel, by decide, rfl⟩ (fun h2 => ?_) (fun h2 => ?_)
    · refine z_iload_n (f := 1) (i := 1) (q := 5) (pc' := 398) ⟨by decide +kernel, rfl⟩ rfl rfl ?_
      refine z_bipush (i := 9) (v := 9) (pc' := 400) ⟨by decide +kernel, rfl⟩ (by decide) ?_
      refine z_icmp_ne (off := 16) (tgt := 416) (pc' := 403) ⟨by decide +kernel, by decide, rfl⟩ (fun h3 => ?_) (fun h3 => ?_)
      · refine z_iload_n (f := 1) (i := 1) (q := 5) (pc' := 417) ⟨by decide +kernel, rfl⟩ rfl rfl ?_
        refine z_bipush (i := 10) (v := 10) (pc' := 419) ⟨by decide +kernel, rfl⟩ (by decide) ?_
        refine z_icmp_ne (off := 13) (tgt := 432) (pc' := 422) ⟨by decide +kernel, by decide, rfl⟩ (fun h4 => ?_) (fun h4 => ?_)
        · refine z_iload_n (f := 1) (i := 1) (q := 5) (pc' := 433) ⟨by decide +kernel, rfl⟩ rfl rfl ?_
          refine z_bipush (i := 11) (v := 11) (pc' := 435) ⟨by decide +kernel, rfl⟩ (by decide) ?_
          refine z_icmp_ne (off := 13) (tgt := 448) (pc' := 438) ⟨by decide +kernel, by decide, rfl⟩ (fun h5 => ?_) (fun h5 => ?_)
          · refine z_lload (i := 5) (q := 1) (pc' := 450) ⟨by decide +kernel, rfl⟩ rfl ?_
            refine z_lload (i := 7) (q := 0) (pc' := 452) ⟨by decide +kernel, rfl⟩ rfl ?_
            refine w_invS (Z := Y_M_left) (idx := 681) (As := [.long a, .long b]) (rest := [.int 1, .ref 110]) (pc' := 455) cl_13_681 rfl ⟨rfl, rfl⟩ ⟨⟨by decide, by decide⟩, rfl, rfl⟩ ⟨by decide +kernel, rfl⟩ rfl rfl (Nat.le_of_ble_eq_true rfl) rfl rfl ?_
            refine cz_M_left (fun v6 hv6 => ?_)
            show Wz E Y_M_pushOf 455 [(7, .long b), (5, .long a), (4, .int g2), (3, .int g1), (0, .ref 110), (1, .int code), (2, .int cc)] [.long v6, .int 1, .ref 110] τ K
            refine w_invV (Z := Y_M_push) (idx := 658) (kb := 110) (As := [.int 1, .long v6]) (rest := []) (pc' := 458) cl_13_658 rfl ⟨rfl, rfl⟩ kfa_110_0 rfl ⟨⟨by decide, by decide⟩, rfl, rfl⟩ ⟨by decide +kernel, rfl⟩ rfl rfl (Nat.le_of_ble_eq_true rfl) rfl rfl ?_
            refine cz_M_push (c := 1) h hl (by decide) (fun σ7 hv7 => ?_)
            show Wz E Y_M_pushOf 458 [(7, .long b), (5, .long a), (4, .int g2), (3, .int g1), (0, .ref 110), (1, .int code), (2, .int cc)] [] σ7 K
            refine z_vret rfl (by decide +kernel) ?_
            have z0L : (0 : Int64).toInt = 0 := by decide
            have z10 : (10 : Int32).toInt = 10 := by decide
            have z11 : (11 : Int32).toInt = 11 := by decide
            have z13 : (13 : Int32).toInt = 13 := by decide
            have z8 : (8 : Int32).toInt = 8 := by decide
            have z9 : (9 : Int32).toInt = 9 := by decide
            have gh1 := j_ne_t h1
            have gh2 := j_ne_t h2
            have gh3 := j_ne_t h3
            have gh4 := j_ne_t h4
            have gh5 := j_ne_t h5
            have c13 : (13 : Int32).toInt = 13 := by decide
            have hcc : c ≠ 13 := by omega
            have c8 : (8 : Int32).toInt = 8 := by decide
            have c9 : (9 : Int32).toInt = 9 := by decide
            have c10 : (10 : Int32).toInt = 10 := by decide
            have c11 : (11 : Int32).toInt = 11 := by decide
            rw [ha, hb] at hv6
            exact k _ (fun q => absurd q hcc) (fun _ => by rw [← ar_r hw (ro_12 (by omega) hv6)]; exact hv7)
          · refine z_lload (i := 5) (q := 1) (pc' := 440) ⟨by decide +kernel, rfl⟩ rfl ?_
            refine z_lload (i := 7) (q := 0) (pc' := 442) ⟨by decide +kernel, rfl⟩ rfl ?_
            refine w_invS (Z := Y_M_over) (idx := 536) (As := [.long a, .long b]) (rest := [.int 1, .ref 110]) (pc' := 445) cl_13_536 rfl ⟨rfl, rfl⟩ ⟨⟨by decide, by decide⟩, rfl, rfl⟩ ⟨by decide +kernel, rfl⟩ rfl rfl (Nat.le_of_ble_eq_true rfl) rfl rfl ?_
            refine cz_M_over (fun v8 hv8 => ?_)
            show Wz E Y_M_pushOf 445 [(7, .long b), (5, .long a), (4, .int g2), (3, .int g1), (0, .ref 110), (1, .int code), (2, .int cc)] [.long v8, .int 1, .ref 110] τ K
            refine z_goto (off := 10) (tgt := 455) (pc' := 448) ⟨by decide +kernel, by decide, rfl⟩ ?_
            refine w_invV (Z := Y_M_push) (idx := 658) (kb := 110) (As := [.int 1, .long v8]) (rest := []) (pc' := 458) cl_13_658 rfl ⟨rfl, rfl⟩ kfa_110_0 rfl ⟨⟨by decide, by decide⟩, rfl, rfl⟩ ⟨by decide +kernel, rfl⟩ rfl rfl (Nat.le_of_ble_eq_true rfl) rfl rfl ?_
            refine cz_M_push (c := 1) h hl (by decide) (fun σ9 hv9 => ?_)
            show Wz E Y_M_pushOf 458 [(7, .long b), (5, .long a), (4, .int g2), (3, .int g1), (0, .ref 110), (1, .int code), (2, .int cc)] [] σ9 K
            refine z_vret rfl (by decide +kernel) ?_
            have z0L : (0 : Int64).toInt = 0 := by decide
            have z10 : (10 : Int32).toInt = 10 := by decide
            have z11 : (11 : Int32).toInt = 11 := by decide
            have z13 : (13 : Int32).toInt = 13 := by decide
            have z8 : (8 : Int32).toInt = 8 := by decide
            have z9 : (9 : Int32).toInt = 9 := by decide
            have gh1 := j_ne_t h1
            have gh2 := j_ne_t h2
            have gh3 := j_ne_t h3
            have gh4 := j_ne_t h4
            have gh5 := j_ne_f h5
            have c13 : (13 : Int32).toInt = 13 := by decide
            have hcc : c ≠ 13 := by omega
            have c8 : (8 : Int32).toInt = 8 := by decide
            have c9 : (9 : Int32).toInt = 9 := by decide
            have c10 : (10 : Int32).toInt = 10 := by decide
            have c11 : (11 : Int32).toInt = 11 := by decide
            rw [ha, hb] at hv8
            exact k _ (fun q => absurd q hcc) (fun _ => by rw [← ar_r hw (ro_11 (by omega) (hb ▸ (mg_u b).2.2) hv8)]; exact hv9)
        · refine z_lload (i := 5) (q := 1) (pc' := 424) ⟨by decide +kernel, rfl⟩ rfl ?_
          refine z_lload (i := 7) (q := 0) (pc' := 426) ⟨by decide +kernel, rfl⟩ rfl ?_
          refine w_invS (Z := Y_M_times) (idx := 678) (As := [.long a, .long b]) (rest := [.int 1, .ref 110]) (pc' := 429) cl_13_678 rfl ⟨rfl, rfl⟩ ⟨⟨by decide, by decide⟩, rfl, rfl⟩ ⟨by decide +kernel, rfl⟩ rfl rfl (Nat.le_of_ble_eq_true rfl) rfl rfl ?_
          refine cz_M_times (fun v10 hv10 => ?_)
          show Wz E Y_M_pushOf 429 [(7, .long b), (5, .long a), (4, .int g2), (3, .int g1), (0, .ref 110), (1, .int code), (2, .int cc)] [.long v10, .int 1, .ref 110] τ K
          refine z_goto (off := 26) (tgt := 455) (pc' := 432) ⟨by decide +kernel, by decide, rfl⟩ ?_
          refine w_invV (Z := Y_M_push) (idx := 658) (kb := 110) (As := [.int 1, .long v10]) (rest := []) (pc' := 458) cl_13_658 rfl ⟨rfl, rfl⟩ kfa_110_0 rfl ⟨⟨by decide, by decide⟩, rfl, rfl⟩ ⟨by decide +kernel, rfl⟩ rfl rfl (Nat.le_of_ble_eq_true rfl) rfl rfl ?_
          refine cz_M_push (c := 1) h hl (by decide) (fun σ11 hv11 => ?_)
          show Wz E Y_M_pushOf 458 [(7, .long b), (5, .long a), (4, .int g2), (3, .int g1), (0, .ref 110), (1, .int code), (2, .int cc)] [] σ11 K
          refine z_vret rfl (by decide +kernel) ?_
          have z0L : (0 : Int64).toInt = 0 := by decide
          have z10 : (10 : Int32).toInt = 10 := by decide
          have z13 : (13 : Int32).toInt = 13 := by decide
          have z8 : (8 : Int32).toInt = 8 := by decide
          have z9 : (9 : Int32).toInt = 9 := by decide
          have gh1 := j_ne_t h1
          have gh2 := j_ne_t h2
          have gh3 := j_ne_t h3
          have gh4 := j_ne_f h4
          have c13 : (13 : Int32).toInt = 13 := by decide
          have hcc : c ≠ 13 := by omega
          have c8 : (8 : Int32).toInt = 8 := by decide
          have c9 : (9 : Int32).toInt = 9 := by decide
          have c10 : (10 : Int32).toInt = 10 := by decide
          have c11 : (11 : Int32).toInt = 11 := by decide
          rw [ha, hb] at hv10
          exact k _ (fun q => absurd q hcc) (fun _ => by rw [← ar_r hw (ro_10 (by omega) hv10)]; exact hv11)
      · refine z_lload (i := 5) (q := 1) (pc' := 405) ⟨by decide +kernel, rfl⟩ rfl ?_
        refine z_lload (i := 7) (q := 0) (pc' := 407) ⟨by decide +kernel, rfl⟩ rfl ?_
        refine w_invS (Z := Y_M_other) (idx := 675) (As := [.long b]) (rest := [.long a, .int 1, .ref 110]) (pc' := 410) cl_13_675 rfl ⟨rfl, rfl⟩ ⟨⟨by decide, by decide⟩, rfl, rfl⟩ ⟨by decide +kernel, rfl⟩ rfl rfl (Nat.le_of_ble_eq_true rfl) rfl rfl ?_
        refine cz_M_other (fun v12 hv12 => ?_)
        show Wz E Y_M_pushOf 410 [(7, .long b), (5, .long a), (4, .int g2), (3, .int g1), (0, .ref 110), (1, .int code), (2, .int cc)] [.long v12, .long a, .int 1, .ref 110] τ K
        refine w_invS (Z := Y_M_plus) (idx := 672) (As := [.long a, .long v12]) (rest := [.int 1, .ref 110]) (pc' := 413) cl_13_672 rfl ⟨rfl, rfl⟩ ⟨⟨by decide, by decide⟩, rfl, rfl⟩ ⟨by decide +kernel, rfl⟩ rfl rfl (Nat.le_of_ble_eq_true rfl) rfl rfl ?_
        refine cz_M_plus (fun v13 hv13 => ?_)
        show Wz E Y_M_pushOf 413 [(7, .long b), (5, .long a), (4, .int g2), (3, .int g1), (0, .ref 110), (1, .int code), (2, .int cc)] [.long v13, .int 1, .ref 110] τ K
        refine z_goto (off := 42) (tgt := 455) (pc' := 416) ⟨by decide +kernel, by decide, rfl⟩ ?_
        refine w_invV (Z := Y_M_push) (idx := 658) (kb := 110) (As := [.int 1, .long v13]) (rest := []) (pc' := 458) cl_13_658 rfl ⟨rfl, rfl⟩ kfa_110_0 rfl ⟨⟨by decide, by decide⟩, rfl, rfl⟩ ⟨by decide +kernel, rfl⟩ rfl rfl (Nat.le_of_ble_eq_true rfl) rfl rfl ?_
        refine cz_M_push (c := 1) h hl (by decide) (fun σ14 hv14 => ?_)
        show Wz E Y_M_pushOf 458 [(7, .long b), (5, .long a), (4, .int g2), (3, .int g1), (0, .ref 110), (1, .int code), (2, .int cc)] [] σ14 K
        refine z_vret rfl (by decide +kernel) ?_
        have z0L : (0 : Int64).toInt = 0 := by decide
        have z13 : (13 : Int32).toInt = 13 := by decide
        have z8 : (8 : Int32).toInt = 8 := by decide
        have z9 : (9 : Int32).toInt = 9 := by decide
        have gh1 := j_ne_t h1
        have gh2 := j_ne_t h2
        have gh3 := j_ne_f h3
        have c13 : (13 : Int32).toInt = 13 := by decide
        have hcc : c ≠ 13 := by omega
        have c8 : (8 : Int32).toInt = 8 := by decide
        have c9 : (9 : Int32).toInt = 9 := by decide
        have c10 : (10 : Int32).toInt = 10 := by decide
        have c11 : (11 : Int32).toInt = 11 := by decide
        rw [hb] at hv12
        rw [ha] at hv13
        exact k _ (fun q => absurd q hcc) (fun _ => by rw [← ar_r hw (ro_9 (by omega) hv12 hv13)]; exact hv14)
    · refine z_lload (i := 5) (q := 1) (pc' := 389) ⟨by decide +kernel, rfl⟩ rfl ?_
      refine z_lload (i := 7) (q := 0) (pc' := 391) ⟨by decide +kernel, rfl⟩ rfl ?_
      refine w_invS (Z := Y_M_plus) (idx := 672) (As := [.long a, .long b]) (rest := [.int 1, .ref 110]) (pc' := 394) cl_13_672 rfl ⟨rfl, rfl⟩ ⟨⟨by decide, by decide⟩, rfl, rfl⟩ ⟨by decide +kernel, rfl⟩ rfl rfl (Nat.le_of_ble_eq_true rfl) rfl rfl ?_
      refine cz_M_plus (fun v15 hv15 => ?_)
      show Wz E Y_M_pushOf 394 [(7, .long b), (5, .long a), (4, .int g2), (3, .int g1), (0, .ref 110), (1, .int code), (2, .int cc)] [.long v15, .int 1, .ref 110] τ K
      refine z_goto (off := 61) (tgt := 455) (pc' := 397) ⟨by decide +kernel, by decide, rfl⟩ ?_
      refine w_invV (Z := Y_M_push) (idx := 658) (kb := 110) (As := [.int 1, .long v15]) (rest := []) (pc' := 458) cl_13_658 rfl ⟨rfl, rfl⟩ kfa_110_0 rfl ⟨⟨by decide, by decide⟩, rfl, rfl⟩ ⟨by decide +kernel, rfl⟩ rfl rfl (Nat.le_of_ble_eq_true rfl) rfl rfl ?_
      refine cz_M_push (c := 1) h hl (by decide) (fun σ16 hv16 => ?_)
      show Wz E Y_M_pushOf 458 [(7, .long b), (5, .long a), (4, .int g2), (3, .int g1), (0, .ref 110), (1, .int code), (2, .int cc)] [] σ16 K
      refine z_vret rfl (by decide +kernel) ?_
      have z0L : (0 : Int64).toInt = 0 := by decide
      have z13 : (13 : Int32).toInt = 13 := by decide
      have z8 : (8 : Int32).toInt = 8 := by decide
      have gh1 := j_ne_t h1
      have gh2 := j_ne_f h2
      have c13 : (13 : Int32).toInt = 13 := by decide
      have hcc : c ≠ 13 := by omega
      have c8 : (8 : Int32).toInt = 8 := by decide
      have c9 : (9 : Int32).toInt = 9 := by decide
      have c10 : (10 : Int32).toInt = 10 := by decide
      have c11 : (11 : Int32).toInt = 11 := by decide
      rw [ha, hb] at hv15
      exact k _ (fun q => absurd q hcc) (fun _ => by rw [← ar_r hw (ro_8 (by omega) hv15)]; exact hv16)
  · refine z_lload (i := 5) (q := 1) (pc' := 283) ⟨by decide +kernel, rfl⟩ rfl ?_
    refine w_invS (Z := Y_M_isNan) (idx := 367) (As := [.long a]) (rest := []) (pc' := 286) cl_13_367 rfl ⟨rfl, rfl⟩ ⟨⟨by decide, by decide⟩, rfl, rfl⟩ ⟨by decide +kernel, rfl⟩ rfl rfl (Nat.le_of_ble_eq_true rfl) rfl rfl ?_
    refine cz_M_isNan (fun v17 hv17 => ?_)
    show Wz E Y_M_pushOf 286 [(7, .long b), (5, .long a), (4, .int g2), (3, .int g1), (0, .ref 110), (1, .int code), (2, .int cc)] [.int v17] τ K
    refine z_if_ne (off := 11) (tgt := 297) (pc' := 289) ⟨by decide +kernel, by decide, rfl⟩ (fun h18 => ?_) (fun h18 => ?_)
    · refine z_iconst (i := 1) (v := 1) (pc' := 298) ⟨by decide +kernel, rfl⟩ (by decide) ?_
      refine z_goto (off := 4) (tgt := 302) (pc' := 301) ⟨by decide +kernel, by decide, rfl⟩ ?_
      refine z_istore (i := 9) (pc' := 304) ⟨by decide +kernel, rfl⟩ (by decide) rfl ?_
      show Wz E Y_M_pushOf 304 [(9, .int 1), (7, .long b), (5, .long a), (4, .int g2), (3, .int g1), (0, .ref 110), (1, .int code), (2, .int cc)] [] τ K
      refine z_aload_n (f := 0) (i := 0) (q := 5) (pc' := 305) ⟨by decide +kernel, rfl⟩ rfl rfl ?_
      refine z_iload (i := 9) (q := 0) (pc' := 307) ⟨by decide +kernel, rfl⟩ rfl ?_
      refine z_if_eq (off := 16) (tgt := 323) (pc' := 310) ⟨by decide +kernel, by decide, rfl⟩ (fun h19 => ?_) (fun h19 => ?_)
      · refine z_iload_n (f := 2) (i := 2) (q := 7) (pc' := 324) ⟨by decide +kernel, rfl⟩ rfl rfl ?_
        refine z_lload (i := 5) (q := 2) (pc' := 326) ⟨by decide +kernel, rfl⟩ rfl ?_
        refine w_invS (Z := Y_M_rank) (idx := 669) (As := [.long a]) (rest := [.int cc, .ref 110]) (pc' := 329) cl_13_669 rfl ⟨rfl, rfl⟩ ⟨⟨by decide, by decide⟩, rfl, rfl⟩ ⟨by decide +kernel, rfl⟩ rfl rfl (Nat.le_of_ble_eq_true rfl) rfl rfl ?_
        refine cz_M_rank (fun v20 hv20 => ?_)
        show Wz E Y_M_pushOf 329 [(9, .int 1), (7, .long b), (5, .long a), (4, .int g2), (3, .int g1), (0, .ref 110), (1, .int code), (2, .int cc)] [.long v20, .int cc, .ref 110] τ K
        refine z_lload (i := 7) (q := 1) (pc' := 331) ⟨by decide +kernel, rfl⟩ rfl ?_
        refine w_invS (Z := Y_M_rank) (idx := 669) (As := [.long b]) (rest := [.long v20, .int cc, .ref 110]) (pc' := 334) cl_13_669 rfl ⟨rfl, rfl⟩ ⟨⟨by decide, by decide⟩, rfl, rfl⟩ ⟨by decide +kernel, rfl⟩ rfl rfl (Nat.le_of_ble_eq_true rfl) rfl rfl ?_
        refine cz_M_rank (fun v21 hv21 => ?_)
        show Wz E Y_M_pushOf 334 [(9, .int 1), (7, .long b), (5, .long a), (4, .int g2), (3, .int g1), (0, .ref 110), (1, .int code), (2, .int cc)] [.long v21, .long v20, .int cc, .ref 110] τ K
        refine z_lcmp (pc' := 335) ⟨by decide +kernel, rfl⟩ ?_
        refine z_if_ge (off := 7) (tgt := 342) (pc' := 338) ⟨by decide +kernel, by decide, rfl⟩ (fun h22 => ?_) (fun h22 => ?_)
        · refine z_lload (i := 5) (q := 2) (pc' := 344) ⟨by decide +kernel, rfl⟩ rfl ?_
          refine w_invS (Z := Y_M_rank) (idx := 669) (As := [.long a]) (rest := [.int cc, .ref 110]) (pc' := 347) cl_13_669 rfl ⟨rfl, rfl⟩ ⟨⟨by decide, by decide⟩, rfl, rfl⟩ ⟨by decide +kernel, rfl⟩ rfl rfl (Nat.le_of_ble_eq_true rfl) rfl rfl ?_
          refine cz_M_rank (fun v23 hv23 => ?_)
          show Wz E Y_M_pushOf 347 [(9, .int 1), (7, .long b), (5, .long a), (4, .int g2), (3, .int g1), (0, .ref 110), (1, .int code), (2, .int cc)] [.long v23, .int cc, .ref 110] τ K
          refine z_lload (i := 7) (q := 1) (pc' := 349) ⟨by decide +kernel, rfl⟩ rfl ?_
          refine w_invS (Z := Y_M_rank) (idx := 669) (As := [.long b]) (rest := [.long v23, .int cc, .ref 110]) (pc' := 352) cl_13_669 rfl ⟨rfl, rfl⟩ ⟨⟨by decide, by decide⟩, rfl, rfl⟩ ⟨by decide +kernel, rfl⟩ rfl rfl (Nat.le_of_ble_eq_true rfl) rfl rfl ?_
          refine cz_M_rank (fun v24 hv24 => ?_)
          show Wz E Y_M_pushOf 352 [(9, .int 1), (7, .long b), (5, .long a), (4, .int g2), (3, .int g1), (0, .ref 110), (1, .int code), (2, .int cc)] [.long v24, .long v23, .int cc, .ref 110] τ K
          refine z_lcmp (pc' := 353) ⟨by decide +kernel, rfl⟩ ?_
          refine z_if_le (off := 7) (tgt := 360) (pc' := 356) ⟨by decide +kernel, by decide, rfl⟩ (fun h25 => ?_) (fun h25 => ?_)
          · refine z_iconst (i := 0) (v := 0) (pc' := 361) ⟨by decide +kernel, rfl⟩ (by decide) ?_
            refine w_invS (Z := Y_M_holdsFor) (idx := 666) (As := [.int cc, .int 0]) (rest := [.ref 110]) (pc' := 364) cl_13_666 rfl ⟨rfl, rfl⟩ ⟨⟨by decide, by decide⟩, rfl, rfl⟩ ⟨by decide +kernel, rfl⟩ rfl rfl (Nat.le_of_ble_eq_true rfl) rfl rfl ?_
            refine cz_M_holdsFor (fun v26 hv26 => ?_)
            show Wz E Y_M_pushOf 364 [(9, .int 1), (7, .long b), (5, .long a), (4, .int g2), (3, .int g1), (0, .ref 110), (1, .int code), (2, .int cc)] [.int v26, .ref 110] τ K
            refine z_if_eq (off := 7) (tgt := 371) (pc' := 367) ⟨by decide +kernel, by decide, rfl⟩ (fun h27 => ?_) (fun h27 => ?_)
            · refine z_iconst (i := 5) (v := 5) (pc' := 372) ⟨by decide +kernel, rfl⟩ (by decide) ?_
              refine z_lconst (i := 0) (v := 0) (pc' := 373) ⟨by decide +kernel, rfl⟩ (by decide) ?_
              refine w_invV (Z := Y_M_push) (idx := 658) (kb := 110) (As := [.int 5, .long 0]) (rest := []) (pc' := 376) cl_13_658 rfl ⟨rfl, rfl⟩ kfa_110_0 rfl ⟨⟨by decide, by decide⟩, rfl, rfl⟩ ⟨by decide +kernel, rfl⟩ rfl rfl (Nat.le_of_ble_eq_true rfl) rfl rfl ?_
              refine cz_M_push (c := 5) h hl (by decide) (fun σ28 hv28 => ?_)
              show Wz E Y_M_pushOf 376 [(9, .int 1), (7, .long b), (5, .long a), (4, .int g2), (3, .int g1), (0, .ref 110), (1, .int code), (2, .int cc)] [] σ28 K
              refine z_goto (off := 82) (tgt := 458) (pc' := 379) ⟨by decide +kernel, by decide, rfl⟩ ?_
              refine z_vret rfl (by decide +kernel) ?_
              have z0L : (0 : Int64).toInt = 0 := by decide
              have z0 : (0 : Int32).toInt = 0 := by decide
              have z1 : (1 : Int32).toInt = 1 := by decide
              have z13 : (13 : Int32).toInt = 13 := by decide
              have gh1 := j_ne_f h1
              have gh18 := p3_t hv17 h18
              have gh19 := j_eq_t (y := 0) h19
              have gh22 := k_ge_t h22
              have gh25 := k_le_t h25
              have gh27 := p3_f hv26 h27
              have c13 : (13 : Int32).toInt = 13 := by decide
              have hcc : c = 13 := by omega
              rw [ha] at gh18
              rw [hv20, hv21, ha, hb] at gh22
              rw [hv23, hv24, ha, hb] at gh25
              exact k _ (fun _ => by rw [← cp_rf hw (by omega) (cmp_eq (by omega)) gh27]; exact hv28) (fun q => absurd hcc q)
            · refine z_iconst (i := 4) (v := 4) (pc' := 368) ⟨by decide +kernel, rfl⟩ (by decide) ?_
              refine z_goto (off := 4) (tgt := 372) (pc' := 371) ⟨by decide +kernel, by decide, rfl⟩ ?_
              refine z_lconst (i := 0) (v := 0) (pc' := 373) ⟨by decide +kernel, rfl⟩ (by decide) ?_
              refine w_invV (Z := Y_M_push) (idx := 658) (kb := 110) (As := [.int 4, .long 0]) (rest := []) (pc' := 376) cl_13_658 rfl ⟨rfl, rfl⟩ kfa_110_0 rfl ⟨⟨by decide, by decide⟩, rfl, rfl⟩ ⟨by decide +kernel, rfl⟩ rfl rfl (Nat.le_of_ble_eq_true rfl) rfl rfl ?_
              refine cz_M_push (c := 4) h hl (by decide) (fun σ29 hv29 => ?_)
              show Wz E Y_M_pushOf 376 [(9, .int 1), (7, .long b), (5, .long a), (4, .int g2), (3, .int g1), (0, .ref 110), (1, .int code), (2, .int cc)] [] σ29 K
              refine z_goto (off := 82) (tgt := 458) (pc' := 379) ⟨by decide +kernel, by decide, rfl⟩ ?_
              refine z_vret rfl (by decide +kernel) ?_
              have z0L : (0 : Int64).toInt = 0 := by decide
              have z0 : (0 : Int32).toInt = 0 := by decide
              have z1 : (1 : Int32).toInt = 1 := by decide
              have z13 : (13 : Int32).toInt = 13 := by decide
              have gh1 := j_ne_f h1
              have gh18 := p3_t hv17 h18
              have gh19 := j_eq_t (y := 0) h19
              have gh22 := k_ge_t h22
              have gh25 := k_le_t h25
              have gh27 := p3_t hv26 h27
              have c13 : (13 : Int32).toInt = 13 := by decide
              have hcc : c = 13 := by omega
              rw [ha] at gh18
              rw [hv20, hv21, ha, hb] at gh22
              rw [hv23, hv24, ha, hb] at gh25
              exact k _ (fun _ => by rw [← cp_rt hw (by omega) (cmp_eq (by omega)) gh27]; exact hv29) (fun q => absurd hcc q)
          · refine z_iconst (i := 1) (v := 1) (pc' := 357) ⟨by decide +kernel, rfl⟩ (by decide) ?_
            refine z_goto (off := 4) (tgt := 361) (pc' := 360) ⟨by decide +kernel, by decide, rfl⟩ ?_
            refine w_invS (Z := Y_M_holdsFor) (idx := 666) (As := [.int cc, .int 1]) (rest := [.ref 110]) (pc' := 364) cl_13_666 rfl ⟨rfl, rfl⟩ ⟨⟨by decide, by decide⟩, rfl, rfl⟩ ⟨by decide +kernel, rfl⟩ rfl rfl (Nat.le_of_ble_eq_true rfl) rfl rfl ?_
            refine cz_M_holdsFor (fun v30 hv30 => ?_)
            show Wz E Y_M_pushOf 364 [(9, .int 1), (7, .long b), (5, .long a), (4, .int g2), (3, .int g1), (0, .ref 110), (1, .int code), (2, .int cc)] [.int v30, .ref 110] τ K
            refine z_if_eq (off := 7) (tgt := 371) (pc' := 367) ⟨by decide +kernel, by decide, rfl⟩ (fun h31 => ?_) (fun h31 => ?_)
            · refine z_iconst (i := 5) (v := 5) (pc' := 372) ⟨by decide +kernel, rfl⟩ (by decide) ?_
              refine z_lconst (i := 0) (v := 0) (pc' := 373) ⟨by decide +kernel, rfl⟩ (by decide) ?_
              refine w_invV (Z := Y_M_push) (idx := 658) (kb := 110) (As := [.int 5, .long 0]) (rest := []) (pc' := 376) cl_13_658 rfl ⟨rfl, rfl⟩ kfa_110_0 rfl ⟨⟨by decide, by decide⟩, rfl, rfl⟩ ⟨by decide +kernel, rfl⟩ rfl rfl (Nat.le_of_ble_eq_true rfl) rfl rfl ?_
              refine cz_M_push (c := 5) h hl (by decide) (fun σ32 hv32 => ?_)
              show Wz E Y_M_pushOf 376 [(9, .int 1), (7, .long b), (5, .long a), (4, .int g2), (3, .int g1), (0, .ref 110), (1, .int code), (2, .int cc)] [] σ32 K
              refine z_goto (off := 82) (tgt := 458) (pc' := 379) ⟨by decide +kernel, by decide, rfl⟩ ?_
              refine z_vret rfl (by decide +kernel) ?_
              have z0L : (0 : Int64).toInt = 0 := by decide
              have z0 : (0 : Int32).toInt = 0 := by decide
              have z1 : (1 : Int32).toInt = 1 := by decide
              have z13 : (13 : Int32).toInt = 13 := by decide
              have gh1 := j_ne_f h1
              have gh18 := p3_t hv17 h18
              have gh19 := j_eq_t (y := 0) h19
              have gh22 := k_ge_t h22
              have gh25 := k_le_f h25
              have gh31 := p3_f hv30 h31
              have c13 : (13 : Int32).toInt = 13 := by decide
              have hcc : c = 13 := by omega
              rw [ha] at gh18
              rw [hv20, hv21, ha, hb] at gh22
              rw [hv23, hv24, ha, hb] at gh25
              exact k _ (fun _ => by rw [← cp_rf hw (by omega) (cmp_gt (by omega)) gh31]; exact hv32) (fun q => absurd hcc q)
            · refine z_iconst (i := 4) (v := 4) (pc' := 368) ⟨by decide +kernel, rfl⟩ (by decide) ?_
              refine z_goto (off := 4) (tgt := 372) (pc' := 371) ⟨by decide +kernel, by decide, rfl⟩ ?_
              refine z_lconst (i := 0) (v := 0) (pc' := 373) ⟨by decide +kernel, rfl⟩ (by decide) ?_
              refine w_invV (Z := Y_M_push) (idx := 658) (kb := 110) (As := [.int 4, .long 0]) (rest := []) (pc' := 376) cl_13_658 rfl ⟨rfl, rfl⟩ kfa_110_0 rfl ⟨⟨by decide, by decide⟩, rfl, rfl⟩ ⟨by decide +kernel, rfl⟩ rfl rfl (Nat.le_of_ble_eq_true rfl) rfl rfl ?_
              refine cz_M_push (c := 4) h hl (by decide) (fun σ33 hv33 => ?_)
              show Wz E Y_M_pushOf 376 [(9, .int 1), (7, .long b), (5, .long a), (4, .int g2), (3, .int g1), (0, .ref 110), (1, .int code), (2, .int cc)] [] σ33 K
              refine z_goto (off := 82) (tgt := 458) (pc' := 379) ⟨by decide +kernel, by decide, rfl⟩ ?_
              refine z_vret rfl (by decide +kernel) ?_
              have z0L : (0 : Int64).toInt = 0 := by decide
              have z0 : (0 : Int32).toInt = 0 := by decide
              have z1 : (1 : Int32).toInt = 1 := by decide
              have z13 : (13 : Int32).toInt = 13 := by decide
              have gh1 := j_ne_f h1
              have gh18 := p3_t hv17 h18
              have gh19 := j_eq_t (y := 0) h19
              have gh22 := k_ge_t h22
              have gh25 := k_le_f h25
              have gh31 := p3_t hv30 h31
              have c13 : (13 : Int32).toInt = 13 := by decide
              have hcc : c = 13 := by omega
              rw [ha] at gh18
              rw [hv20, hv21, ha, hb] at gh22
              rw [hv23, hv24, ha, hb] at gh25
              exact k _ (fun _ => by rw [← cp_rt hw (by omega) (cmp_gt (by omega)) gh31]; exact hv33) (fun q => absurd hcc q)
        · refine z_iconst (i := (-1)) (v := (-1)) (pc' := 339) ⟨by decide +kernel, rfl⟩ (by decide) ?_
          refine z_goto (off := 22) (tgt := 361) (pc' := 342) ⟨by decide +kernel, by decide, rfl⟩ ?_
          refine w_invS (Z := Y_M_holdsFor) (idx := 666) (As := [.int cc, .int (-1)]) (rest := [.ref 110]) (pc' := 364) cl_13_666 rfl ⟨rfl, rfl⟩ ⟨⟨by decide, by decide⟩, rfl, rfl⟩ ⟨by decide +kernel, rfl⟩ rfl rfl (Nat.le_of_ble_eq_true rfl) rfl rfl ?_
          refine cz_M_holdsFor (fun v34 hv34 => ?_)
          show Wz E Y_M_pushOf 364 [(9, .int 1), (7, .long b), (5, .long a), (4, .int g2), (3, .int g1), (0, .ref 110), (1, .int code), (2, .int cc)] [.int v34, .ref 110] τ K
          refine z_if_eq (off := 7) (tgt := 371) (pc' := 367) ⟨by decide +kernel, by decide, rfl⟩ (fun h35 => ?_) (fun h35 => ?_)
          · refine z_iconst (i := 5) (v := 5) (pc' := 372) ⟨by decide +kernel, rfl⟩ (by decide) ?_
            refine z_lconst (i := 0) (v := 0) (pc' := 373) ⟨by decide +kernel, rfl⟩ (by decide) ?_
            refine w_invV (Z := Y_M_push) (idx := 658) (kb := 110) (As := [.int 5, .long 0]) (rest := []) (pc' := 376) cl_13_658 rfl ⟨rfl, rfl⟩ kfa_110_0 rfl ⟨⟨by decide, by decide⟩, rfl, rfl⟩ ⟨by decide +kernel, rfl⟩ rfl rfl (Nat.le_of_ble_eq_true rfl) rfl rfl ?_
            refine cz_M_push (c := 5) h hl (by decide) (fun σ36 hv36 => ?_)
            show Wz E Y_M_pushOf 376 [(9, .int 1), (7, .long b), (5, .long a), (4, .int g2), (3, .int g1), (0, .ref 110), (1, .int code), (2, .int cc)] [] σ36 K
            refine z_goto (off := 82) (tgt := 458) (pc' := 379) ⟨by decide +kernel, by decide, rfl⟩ ?_
            refine z_vret rfl (by decide +kernel) ?_
            have z0L : (0 : Int64).toInt = 0 := by decide
            have z0 : (0 : Int32).toInt = 0 := by decide
            have z1 : (1 : Int32).toInt = 1 := by decide
            have z13 : (13 : Int32).toInt = 13 := by decide
            have gh1 := j_ne_f h1
            have gh18 := p3_t hv17 h18
            have gh19 := j_eq_t (y := 0) h19
            have gh22 := k_ge_f h22
            have gh35 := p3_f hv34 h35
            have c13 : (13 : Int32).toInt = 13 := by decide
            have hcc : c = 13 := by omega
            rw [ha] at gh18
            rw [hv20, hv21, ha, hb] at gh22
            exact k _ (fun _ => by rw [← cp_rf hw (by omega) (cmp_lt (by omega)) gh35]; exact hv36) (fun q => absurd hcc q)
          · refine z_iconst (i := 4) (v := 4) (pc' := 368) ⟨by decide +kernel, rfl⟩ (by decide) ?_
            refine z_goto (off := 4) (tgt := 372) (pc' := 371) ⟨by decide +kernel, by decide, rfl⟩ ?_
            refine z_lconst (i := 0) (v := 0) (pc' := 373) ⟨by decide +kernel, rfl⟩ (by decide) ?_
            refine w_invV (Z := Y_M_push) (idx := 658) (kb := 110) (As := [.int 4, .long 0]) (rest := []) (pc' := 376) cl_13_658 rfl ⟨rfl, rfl⟩ kfa_110_0 rfl ⟨⟨by decide, by decide⟩, rfl, rfl⟩ ⟨by decide +kernel, rfl⟩ rfl rfl (Nat.le_of_ble_eq_true rfl) rfl rfl ?_
            refine cz_M_push (c := 4) h hl (by decide) (fun σ37 hv37 => ?_)
            show Wz E Y_M_pushOf 376 [(9, .int 1), (7, .long b), (5, .long a), (4, .int g2), (3, .int g1), (0, .ref 110), (1, .int code), (2, .int cc)] [] σ37 K
            refine z_goto (off := 82) (tgt := 458) (pc' := 379) ⟨by decide +kernel, by decide, rfl⟩ ?_
            refine z_vret rfl (by decide +kernel) ?_
            have z0L : (0 : Int64).toInt = 0 := by decide
            have z0 : (0 : Int32).toInt = 0 := by decide
            have z1 : (1 : Int32).toInt = 1 := by decide
            have z13 : (13 : Int32).toInt = 13 := by decide
            have gh1 := j_ne_f h1
            have gh18 := p3_t hv17 h18
            have gh19 := j_eq_t (y := 0) h19
            have gh22 := k_ge_f h22
            have gh35 := p3_t hv34 h35
            have c13 : (13 : Int32).toInt = 13 := by decide
            have hcc : c = 13 := by omega
            rw [ha] at gh18
            rw [hv20, hv21, ha, hb] at gh22
            exact k _ (fun _ => by rw [← cp_rt hw (by omega) (cmp_lt (by omega)) gh35]; exact hv37) (fun q => absurd hcc q)
      · refine z_iload_n (f := 2) (i := 2) (q := 7) (pc' := 311) ⟨by decide +kernel, rfl⟩ rfl rfl ?_
        refine z_iconst (i := 3) (v := 3) (pc' := 312) ⟨by decide +kernel, rfl⟩ (by decide) ?_
        refine z_icmp_ne (off := 7) (tgt := 319) (pc' := 315) ⟨by decide +kernel, by decide, rfl⟩ (fun h38 => ?_) (fun h38 => ?_)
        · refine z_iconst (i := 5) (v := 5) (pc' := 320) ⟨by decide +kernel, rfl⟩ (by decide) ?_
          refine z_goto (off := 52) (tgt := 372) (pc' := 323) ⟨by decide +kernel, by decide, rfl⟩ ?_
          refine z_lconst (i := 0) (v := 0) (pc' := 373) ⟨by decide +kernel, rfl⟩ (by decide) ?_
          refine w_invV (Z := Y_M_push) (idx := 658) (kb := 110) (As := [.int 5, .long 0]) (rest := []) (pc' := 376) cl_13_658 rfl ⟨rfl, rfl⟩ kfa_110_0 rfl ⟨⟨by decide, by decide⟩, rfl, rfl⟩ ⟨by decide +kernel, rfl⟩ rfl rfl (Nat.le_of_ble_eq_true rfl) rfl rfl ?_
          refine cz_M_push (c := 5) h hl (by decide) (fun σ39 hv39 => ?_)
          show Wz E Y_M_pushOf 376 [(9, .int 1), (7, .long b), (5, .long a), (4, .int g2), (3, .int g1), (0, .ref 110), (1, .int code), (2, .int cc)] [] σ39 K
          refine z_goto (off := 82) (tgt := 458) (pc' := 379) ⟨by decide +kernel, by decide, rfl⟩ ?_
          refine z_vret rfl (by decide +kernel) ?_
          have z0L : (0 : Int64).toInt = 0 := by decide
          have z0 : (0 : Int32).toInt = 0 := by decide
          have z1 : (1 : Int32).toInt = 1 := by decide
          have z13 : (13 : Int32).toInt = 13 := by decide
          have z3 : (3 : Int32).toInt = 3 := by decide
          have gh1 := j_ne_f h1
          have gh18 := p3_t hv17 h18
          have gh19 := j_eq_f (y := 0) h19
          have gh38 := j_ne_t h38
          have c13 : (13 : Int32).toInt = 13 := by decide
          have hcc : c = 13 := by omega
          rw [ha] at gh18
          exact k _ (fun _ => by rw [← cp_nf hw (by omega) (by omega)]; exact hv39) (fun q => absurd hcc q)
        · refine z_iconst (i := 4) (v := 4) (pc' := 316) ⟨by decide +kernel, rfl⟩ (by decide) ?_
          refine z_goto (off := 56) (tgt := 372) (pc' := 319) ⟨by decide +kernel, by decide, rfl⟩ ?_
          refine z_lconst (i := 0) (v := 0) (pc' := 373) ⟨by decide +kernel, rfl⟩ (by decide) ?_
          refine w_invV (Z := Y_M_push) (idx := 658) (kb := 110) (As := [.int 4, .long 0]) (rest := []) (pc' := 376) cl_13_658 rfl ⟨rfl, rfl⟩ kfa_110_0 rfl ⟨⟨by decide, by decide⟩, rfl, rfl⟩ ⟨by decide +kernel, rfl⟩ rfl rfl (Nat.le_of_ble_eq_true rfl) rfl rfl ?_
          refine cz_M_push (c := 4) h hl (by decide) (fun σ40 hv40 => ?_)
          show Wz E Y_M_pushOf 376 [(9, .int 1), (7, .long b), (5, .long a), (4, .int g2), (3, .int g1), (0, .ref 110), (1, .int code), (2, .int cc)] [] σ40 K
          refine z_goto (off := 82) (tgt := 458) (pc' := 379) ⟨by decide +kernel, by decide, rfl⟩ ?_
          refine z_vret rfl (by decide +kernel) ?_
          have z0L : (0 : Int64).toInt = 0 := by decide
          have z0 : (0 : Int32).toInt = 0 := by decide
          have z1 : (1 : Int32).toInt = 1 := by decide
          have z13 : (13 : Int32).toInt = 13 := by decide
          have z3 : (3 : Int32).toInt = 3 := by decide
          have gh1 := j_ne_f h1
          have gh18 := p3_t hv17 h18
          have gh19 := j_eq_f (y := 0) h19
          have gh38 := j_ne_f h38
          have c13 : (13 : Int32).toInt = 13 := by decide
          have hcc : c = 13 := by omega
          rw [ha] at gh18
          exact k _ (fun _ => by rw [← cp_nt hw (by omega) (by omega)]; exact hv40) (fun q => absurd hcc q)
    · refine z_lload (i := 7) (q := 0) (pc' := 291) ⟨by decide +kernel, rfl⟩ rfl ?_
      refine w_invS (Z := Y_M_isNan) (idx := 367) (As := [.long b]) (rest := []) (pc' := 294) cl_13_367 rfl ⟨rfl, rfl⟩ ⟨⟨by decide, by decide⟩, rfl, rfl⟩ ⟨by decide +kernel, rfl⟩ rfl rfl (Nat.le_of_ble_eq_true rfl) rfl rfl ?_
      refine cz_M_isNan (fun v41 hv41 => ?_)
      show Wz E Y_M_pushOf 294 [(7, .long b), (5, .long a), (4, .int g2), (3, .int g1), (0, .ref 110), (1, .int code), (2, .int cc)] [.int v41] τ K
      refine z_if_eq (off := 7) (tgt := 301) (pc' := 297) ⟨by decide +kernel, by decide, rfl⟩ (fun h42 => ?_) (fun h42 => ?_)
      · refine z_iconst (i := 0) (v := 0) (pc' := 302) ⟨by decide +kernel, rfl⟩ (by decide) ?_
        refine z_istore (i := 9) (pc' := 304) ⟨by decide +kernel, rfl⟩ (by decide) rfl ?_
        show Wz E Y_M_pushOf 304 [(9, .int 0), (7, .long b), (5, .long a), (4, .int g2), (3, .int g1), (0, .ref 110), (1, .int code), (2, .int cc)] [] τ K
        refine z_aload_n (f := 0) (i := 0) (q := 5) (pc' := 305) ⟨by decide +kernel, rfl⟩ rfl rfl ?_
        refine z_iload (i := 9) (q := 0) (pc' := 307) ⟨by decide +kernel, rfl⟩ rfl ?_
        refine z_if_eq (off := 16) (tgt := 323) (pc' := 310) ⟨by decide +kernel, by decide, rfl⟩ (fun h43 => ?_) (fun h43 => ?_)
        · refine z_iload_n (f := 2) (i := 2) (q := 7) (pc' := 324) ⟨by decide +kernel, rfl⟩ rfl rfl ?_
          refine z_lload (i := 5) (q := 2) (pc' := 326) ⟨by decide +kernel, rfl⟩ rfl ?_
          refine w_invS (Z := Y_M_rank) (idx := 669) (As := [.long a]) (rest := [.int cc, .ref 110]) (pc' := 329) cl_13_669 rfl ⟨rfl, rfl⟩ ⟨⟨by decide, by decide⟩, rfl, rfl⟩ ⟨by decide +kernel, rfl⟩ rfl rfl (Nat.le_of_ble_eq_true rfl) rfl rfl ?_
          refine cz_M_rank (fun v44 hv44 => ?_)
          show Wz E Y_M_pushOf 329 [(9, .int 0), (7, .long b), (5, .long a), (4, .int g2), (3, .int g1), (0, .ref 110), (1, .int code), (2, .int cc)] [.long v44, .int cc, .ref 110] τ K
          refine z_lload (i := 7) (q := 1) (pc' := 331) ⟨by decide +kernel, rfl⟩ rfl ?_
          refine w_invS (Z := Y_M_rank) (idx := 669) (As := [.long b]) (rest := [.long v44, .int cc, .ref 110]) (pc' := 334) cl_13_669 rfl ⟨rfl, rfl⟩ ⟨⟨by decide, by decide⟩, rfl, rfl⟩ ⟨by decide +kernel, rfl⟩ rfl rfl (Nat.le_of_ble_eq_true rfl) rfl rfl ?_
          refine cz_M_rank (fun v45 hv45 => ?_)
          show Wz E Y_M_pushOf 334 [(9, .int 0), (7, .long b), (5, .long a), (4, .int g2), (3, .int g1), (0, .ref 110), (1, .int code), (2, .int cc)] [.long v45, .long v44, .int cc, .ref 110] τ K
          refine z_lcmp (pc' := 335) ⟨by decide +kernel, rfl⟩ ?_
          refine z_if_ge (off := 7) (tgt := 342) (pc' := 338) ⟨by decide +kernel, by decide, rfl⟩ (fun h46 => ?_) (fun h46 => ?_)
          · refine z_lload (i := 5) (q := 2) (pc' := 344) ⟨by decide +kernel, rfl⟩ rfl ?_
            refine w_invS (Z := Y_M_rank) (idx := 669) (As := [.long a]) (rest := [.int cc, .ref 110]) (pc' := 347) cl_13_669 rfl ⟨rfl, rfl⟩ ⟨⟨by decide, by decide⟩, rfl, rfl⟩ ⟨by decide +kernel, rfl⟩ rfl rfl (Nat.le_of_ble_eq_true rfl) rfl rfl ?_
            refine cz_M_rank (fun v47 hv47 => ?_)
            show Wz E Y_M_pushOf 347 [(9, .int 0), (7, .long b), (5, .long a), (4, .int g2), (3, .int g1), (0, .ref 110), (1, .int code), (2, .int cc)] [.long v47, .int cc, .ref 110] τ K
            refine z_lload (i := 7) (q := 1) (pc' := 349) ⟨by decide +kernel, rfl⟩ rfl ?_
            refine w_invS (Z := Y_M_rank) (idx := 669) (As := [.long b]) (rest := [.long v47, .int cc, .ref 110]) (pc' := 352) cl_13_669 rfl ⟨rfl, rfl⟩ ⟨⟨by decide, by decide⟩, rfl, rfl⟩ ⟨by decide +kernel, rfl⟩ rfl rfl (Nat.le_of_ble_eq_true rfl) rfl rfl ?_
            refine cz_M_rank (fun v48 hv48 => ?_)
            show Wz E Y_M_pushOf 352 [(9, .int 0), (7, .long b), (5, .long a), (4, .int g2), (3, .int g1), (0, .ref 110), (1, .int code), (2, .int cc)] [.long v48, .long v47, .int cc, .ref 110] τ K
            refine z_lcmp (pc' := 353) ⟨by decide +kernel, rfl⟩ ?_
            refine z_if_le (off := 7) (tgt := 360) (pc' := 356) ⟨by decide +kernel, by decide, rfl⟩ (fun h49 => ?_) (fun h49 => ?_)
            · refine z_iconst (i := 0) (v := 0) (pc' := 361) ⟨by decide +kernel, rfl⟩ (by decide) ?_
              refine w_invS (Z := Y_M_holdsFor) (idx := 666) (As := [.int cc, .int 0]) (rest := [.ref 110]) (pc' := 364) cl_13_666 rfl ⟨rfl, rfl⟩ ⟨⟨by decide, by decide⟩, rfl, rfl⟩ ⟨by decide +kernel, rfl⟩ rfl rfl (Nat.le_of_ble_eq_true rfl) rfl rfl ?_
              refine cz_M_holdsFor (fun v50 hv50 => ?_)
              show Wz E Y_M_pushOf 364 [(9, .int 0), (7, .long b), (5, .long a), (4, .int g2), (3, .int g1), (0, .ref 110), (1, .int code), (2, .int cc)] [.int v50, .ref 110] τ K
              refine z_if_eq (off := 7) (tgt := 371) (pc' := 367) ⟨by decide +kernel, by decide, rfl⟩ (fun h51 => ?_) (fun h51 => ?_)
              · refine z_iconst (i := 5) (v := 5) (pc' := 372) ⟨by decide +kernel, rfl⟩ (by decide) ?_
                refine z_lconst (i := 0) (v := 0) (pc' := 373) ⟨by decide +kernel, rfl⟩ (by decide) ?_
                refine w_invV (Z := Y_M_push) (idx := 658) (kb := 110) (As := [.int 5, .long 0]) (rest := []) (pc' := 376) cl_13_658 rfl ⟨rfl, rfl⟩ kfa_110_0 rfl ⟨⟨by decide, by decide⟩, rfl, rfl⟩ ⟨by decide +kernel, rfl⟩ rfl rfl (Nat.le_of_ble_eq_true rfl) rfl rfl ?_
                refine cz_M_push (c := 5) h hl (by decide) (fun σ52 hv52 => ?_)
                show Wz E Y_M_pushOf 376 [(9, .int 0), (7, .long b), (5, .long a), (4, .int g2), (3, .int g1), (0, .ref 110), (1, .int code), (2, .int cc)] [] σ52 K
                refine z_goto (off := 82) (tgt := 458) (pc' := 379) ⟨by decide +kernel, by decide, rfl⟩ ?_
                refine z_vret rfl (by decide +kernel) ?_
                have z0L : (0 : Int64).toInt = 0 := by decide
                have z0 : (0 : Int32).toInt = 0 := by decide
                have z13 : (13 : Int32).toInt = 13 := by decide
                have gh1 := j_ne_f h1
                have gh18 := p3_f hv17 h18
                have gh42 := p3_f hv41 h42
                have gh43 := j_eq_t (y := 0) h43
                have gh46 := k_ge_t h46
                have gh49 := k_le_t h49
                have gh51 := p3_f hv50 h51
                have c13 : (13 : Int32).toInt = 13 := by decide
                have hcc : c = 13 := by omega
                rw [ha] at gh18
                rw [hb] at gh42
                rw [hv44, hv45, ha, hb] at gh46
                rw [hv47, hv48, ha, hb] at gh49
                exact k _ (fun _ => by rw [← cp_rf hw (by omega) (cmp_eq (by omega)) gh51]; exact hv52) (fun q => absurd hcc q)
              · refine z_iconst (i := 4) (v := 4) (pc' := 368) ⟨by decide +kernel, rfl⟩ (by decide) ?_
                refine z_goto (off := 4) (tgt := 372) (pc' := 371) ⟨by decide +kernel, by decide, rfl⟩ ?_
                refine z_lconst (i := 0) (v := 0) (pc' := 373) ⟨by decide +kernel, rfl⟩ (by decide) ?_
                refine w_invV (Z := Y_M_push) (idx := 658) (kb := 110) (As := [.int 4, .long 0]) (rest := []) (pc' := 376) cl_13_658 rfl ⟨rfl, rfl⟩ kfa_110_0 rfl ⟨⟨by decide, by decide⟩, rfl, rfl⟩ ⟨by decide +kernel, rfl⟩ rfl rfl (Nat.le_of_ble_eq_true rfl) rfl rfl ?_
                refine cz_M_push (c := 4) h hl (by decide) (fun σ53 hv53 => ?_)
                show Wz E Y_M_pushOf 376 [(9, .int 0), (7, .long b), (5, .long a), (4, .int g2), (3, .int g1), (0, .ref 110), (1, .int code), (2, .int cc)] [] σ53 K
                refine z_goto (off := 82) (tgt := 458) (pc' := 379) ⟨by decide +kernel, by decide, rfl⟩ ?_
                refine z_vret rfl (by decide +kernel) ?_
                have z0L : (0 : Int64).toInt = 0 := by decide
                have z0 : (0 : Int32).toInt = 0 := by decide
                have z13 : (13 : Int32).toInt = 13 := by decide
                have gh1 := j_ne_f h1
                have gh18 := p3_f hv17 h18
                have gh42 := p3_f hv41 h42
                have gh43 := j_eq_t (y := 0) h43
                have gh46 := k_ge_t h46
                have gh49 := k_le_t h49
                have gh51 := p3_t hv50 h51
                have c13 : (13 : Int32).toInt = 13 := by decide
                have hcc : c = 13 := by omega
                rw [ha] at gh18
                rw [hb] at gh42
                rw [hv44, hv45, ha, hb] at gh46
                rw [hv47, hv48, ha, hb] at gh49
                exact k _ (fun _ => by rw [← cp_rt hw (by omega) (cmp_eq (by omega)) gh51]; exact hv53) (fun q => absurd hcc q)
            · refine z_iconst (i := 1) (v := 1) (pc' := 357) ⟨by decide +kernel, rfl⟩ (by decide) ?_
              refine z_goto (off := 4) (tgt := 361) (pc' := 360) ⟨by decide +kernel, by decide, rfl⟩ ?_
              refine w_invS (Z := Y_M_holdsFor) (idx := 666) (As := [.int cc, .int 1]) (rest := [.ref 110]) (pc' := 364) cl_13_666 rfl ⟨rfl, rfl⟩ ⟨⟨by decide, by decide⟩, rfl, rfl⟩ ⟨by decide +kernel, rfl⟩ rfl rfl (Nat.le_of_ble_eq_true rfl) rfl rfl ?_
              refine cz_M_holdsFor (fun v54 hv54 => ?_)
              show Wz E Y_M_pushOf 364 [(9, .int 0), (7, .long b), (5, .long a), (4, .int g2), (3, .int g1), (0, .ref 110), (1, .int code), (2, .int cc)] [.int v54, .ref 110] τ K
              refine z_if_eq (off := 7) (tgt := 371) (pc' := 367) ⟨by decide +kernel, by decide, rfl⟩ (fun h55 => ?_) (fun h55 => ?_)
              · refine z_iconst (i := 5) (v := 5) (pc' := 372) ⟨by decide +kernel, rfl⟩ (by decide) ?_
                refine z_lconst (i := 0) (v := 0) (pc' := 373) ⟨by decide +kernel, rfl⟩ (by decide) ?_
                refine w_invV (Z := Y_M_push) (idx := 658) (kb := 110) (As := [.int 5, .long 0]) (rest := []) (pc' := 376) cl_13_658 rfl ⟨rfl, rfl⟩ kfa_110_0 rfl ⟨⟨by decide, by decide⟩, rfl, rfl⟩ ⟨by decide +kernel, rfl⟩ rfl rfl (Nat.le_of_ble_eq_true rfl) rfl rfl ?_
                refine cz_M_push (c := 5) h hl (by decide) (fun σ56 hv56 => ?_)
                show Wz E Y_M_pushOf 376 [(9, .int 0), (7, .long b), (5, .long a), (4, .int g2), (3, .int g1), (0, .ref 110), (1, .int code), (2, .int cc)] [] σ56 K
                refine z_goto (off := 82) (tgt := 458) (pc' := 379) ⟨by decide +kernel, by decide, rfl⟩ ?_
                refine z_vret rfl (by decide +kernel) ?_
                have z0L : (0 : Int64).toInt = 0 := by decide
                have z0 : (0 : Int32).toInt = 0 := by decide
                have z13 : (13 : Int32).toInt = 13 := by decide
                have gh1 := j_ne_f h1
                have gh18 := p3_f hv17 h18
                have gh42 := p3_f hv41 h42
                have gh43 := j_eq_t (y := 0) h43
                have gh46 := k_ge_t h46
                have gh49 := k_le_f h49
                have gh55 := p3_f hv54 h55
                have c13 : (13 : Int32).toInt = 13 := by decide
                have hcc : c = 13 := by omega
                rw [ha] at gh18
                rw [hb] at gh42
                rw [hv44, hv45, ha, hb] at gh46
                rw [hv47, hv48, ha, hb] at gh49
                exact k _ (fun _ => by rw [← cp_rf hw (by omega) (cmp_gt (by omega)) gh55]; exact hv56) (fun q => absurd hcc q)
              · refine z_iconst (i := 4) (v := 4) (pc' := 368) ⟨by decide +kernel, rfl⟩ (by decide) ?_
                refine z_goto (off := 4) (tgt := 372) (pc' := 371) ⟨by decide +kernel, by decide, rfl⟩ ?_
                refine z_lconst (i := 0) (v := 0) (pc' := 373) ⟨by decide +kernel, rfl⟩ (by decide) ?_
                refine w_invV (Z := Y_M_push) (idx := 658) (kb := 110) (As := [.int 4, .long 0]) (rest := []) (pc' := 376) cl_13_658 rfl ⟨rfl, rfl⟩ kfa_110_0 rfl ⟨⟨by decide, by decide⟩, rfl, rfl⟩ ⟨by decide +kernel, rfl⟩ rfl rfl (Nat.le_of_ble_eq_true rfl) rfl rfl ?_
                refine cz_M_push (c := 4) h hl (by decide) (fun σ57 hv57 => ?_)
                show Wz E Y_M_pushOf 376 [(9, .int 0), (7, .long b), (5, .long a), (4, .int g2), (3, .int g1), (0, .ref 110), (1, .int code), (2, .int cc)] [] σ57 K
                refine z_goto (off := 82) (tgt := 458) (pc' := 379) ⟨by decide +kernel, by decide, rfl⟩ ?_
                refine z_vret rfl (by decide +kernel) ?_
                have z0L : (0 : Int64).toInt = 0 := by decide
                have z0 : (0 : Int32).toInt = 0 := by decide
                have z13 : (13 : Int32).toInt = 13 := by decide
                have gh1 := j_ne_f h1
                have gh18 := p3_f hv17 h18
                have gh42 := p3_f hv41 h42
                have gh43 := j_eq_t (y := 0) h43
                have gh46 := k_ge_t h46
                have gh49 := k_le_f h49
                have gh55 := p3_t hv54 h55
                have c13 : (13 : Int32).toInt = 13 := by decide
                have hcc : c = 13 := by omega
                rw [ha] at gh18
                rw [hb] at gh42
                rw [hv44, hv45, ha, hb] at gh46
                rw [hv47, hv48, ha, hb] at gh49
                exact k _ (fun _ => by rw [← cp_rt hw (by omega) (cmp_gt (by omega)) gh55]; exact hv57) (fun q => absurd hcc q)
          · refine z_iconst (i := (-1)) (v := (-1)) (pc' := 339) ⟨by decide +kernel, rfl⟩ (by decide) ?_
            refine z_goto (off := 22) (tgt := 361) (pc' := 342) ⟨by decide +kernel, by decide, rfl⟩ ?_
            refine w_invS (Z := Y_M_holdsFor) (idx := 666) (As := [.int cc, .int (-1)]) (rest := [.ref 110]) (pc' := 364) cl_13_666 rfl ⟨rfl, rfl⟩ ⟨⟨by decide, by decide⟩, rfl, rfl⟩ ⟨by decide +kernel, rfl⟩ rfl rfl (Nat.le_of_ble_eq_true rfl) rfl rfl ?_
            refine cz_M_holdsFor (fun v58 hv58 => ?_)
            show Wz E Y_M_pushOf 364 [(9, .int 0), (7, .long b), (5, .long a), (4, .int g2), (3, .int g1), (0, .ref 110), (1, .int code), (2, .int cc)] [.int v58, .ref 110] τ K
            refine z_if_eq (off := 7) (tgt := 371) (pc' := 367) ⟨by decide +kernel, by decide, rfl⟩ (fun h59 => ?_) (fun h59 => ?_)
            · refine z_iconst (i := 5) (v := 5) (pc' := 372) ⟨by decide +kernel, rfl⟩ (by decide) ?_
              refine z_lconst (i := 0) (v := 0) (pc' := 373) ⟨by decide +kernel, rfl⟩ (by decide) ?_
              refine w_invV (Z := Y_M_push) (idx := 658) (kb := 110) (As := [.int 5, .long 0]) (rest := []) (pc' := 376) cl_13_658 rfl ⟨rfl, rfl⟩ kfa_110_0 rfl ⟨⟨by decide, by decide⟩, rfl, rfl⟩ ⟨by decide +kernel, rfl⟩ rfl rfl (Nat.le_of_ble_eq_true rfl) rfl rfl ?_
              refine cz_M_push (c := 5) h hl (by decide) (fun σ60 hv60 => ?_)
              show Wz E Y_M_pushOf 376 [(9, .int 0), (7, .long b), (5, .long a), (4, .int g2), (3, .int g1), (0, .ref 110), (1, .int code), (2, .int cc)] [] σ60 K
              refine z_goto (off := 82) (tgt := 458) (pc' := 379) ⟨by decide +kernel, by decide, rfl⟩ ?_
              refine z_vret rfl (by decide +kernel) ?_
              have z0L : (0 : Int64).toInt = 0 := by decide
              have z0 : (0 : Int32).toInt = 0 := by decide
              have z13 : (13 : Int32).toInt = 13 := by decide
              have gh1 := j_ne_f h1
              have gh18 := p3_f hv17 h18
              have gh42 := p3_f hv41 h42
              have gh43 := j_eq_t (y := 0) h43
              have gh46 := k_ge_f h46
              have gh59 := p3_f hv58 h59
              have c13 : (13 : Int32).toInt = 13 := by decide
              have hcc : c = 13 := by omega
              rw [ha] at gh18
              rw [hb] at gh42
              rw [hv44, hv45, ha, hb] at gh46
              exact k _ (fun _ => by rw [← cp_rf hw (by omega) (cmp_lt (by omega)) gh59]; exact hv60) (fun q => absurd hcc q)
            · refine z_iconst (i := 4) (v := 4) (pc' := 368) ⟨by decide +kernel, rfl⟩ (by decide) ?_
              refine z_goto (off := 4) (tgt := 372) (pc' := 371) ⟨by decide +kernel, by decide, rfl⟩ ?_
              refine z_lconst (i := 0) (v := 0) (pc' := 373) ⟨by decide +kernel, rfl⟩ (by decide) ?_
              refine w_invV (Z := Y_M_push) (idx := 658) (kb := 110) (As := [.int 4, .long 0]) (rest := []) (pc' := 376) cl_13_658 rfl ⟨rfl, rfl⟩ kfa_110_0 rfl ⟨⟨by decide, by decide⟩, rfl, rfl⟩ ⟨by decide +kernel, rfl⟩ rfl rfl (Nat.le_of_ble_eq_true rfl) rfl rfl ?_
              refine cz_M_push (c := 4) h hl (by decide) (fun σ61 hv61 => ?_)
              show Wz E Y_M_pushOf 376 [(9, .int 0), (7, .long b), (5, .long a), (4, .int g2), (3, .int g1), (0, .ref 110), (1, .int code), (2, .int cc)] [] σ61 K
              refine z_goto (off := 82) (tgt := 458) (pc' := 379) ⟨by decide +kernel, by decide, rfl⟩ ?_
              refine z_vret rfl (by decide +kernel) ?_
              have z0L : (0 : Int64).toInt = 0 := by decide
              have z0 : (0 : Int32).toInt = 0 := by decide
              have z13 : (13 : Int32).toInt = 13 := by decide
              have gh1 := j_ne_f h1
              have gh18 := p3_f hv17 h18
              have gh42 := p3_f hv41 h42
              have gh43 := j_eq_t (y := 0) h43
              have gh46 := k_ge_f h46
              have gh59 := p3_t hv58 h59
              have c13 : (13 : Int32).toInt = 13 := by decide
              have hcc : c = 13 := by omega
              rw [ha] at gh18
              rw [hb] at gh42
              rw [hv44, hv45, ha, hb] at gh46
              exact k _ (fun _ => by rw [← cp_rt hw (by omega) (cmp_lt (by omega)) gh59]; exact hv61) (fun q => absurd hcc q)
        · refine z_iload_n (f := 2) (i := 2) (q := 7) (pc' := 311) ⟨by decide +kernel, rfl⟩ rfl rfl ?_
          refine z_iconst (i := 3) (v := 3) (pc' := 312) ⟨by decide +kernel, rfl⟩ (by decide) ?_
          refine z_icmp_ne (off := 7) (tgt := 319) (pc' := 315) ⟨by decide +kernel, by decide, rfl⟩ (fun h62 => ?_) (fun h62 => ?_)
          · refine z_iconst (i := 5) (v := 5) (pc' := 320) ⟨by decide +kernel, rfl⟩ (by decide) ?_
            refine z_goto (off := 52) (tgt := 372) (pc' := 323) ⟨by decide +kernel, by decide, rfl⟩ ?_
            refine z_lconst (i := 0) (v := 0) (pc' := 373) ⟨by decide +kernel, rfl⟩ (by decide) ?_
            refine w_invV (Z := Y_M_push) (idx := 658) (kb := 110) (As := [.int 5, .long 0]) (rest := []) (pc' := 376) cl_13_658 rfl ⟨rfl, rfl⟩ kfa_110_0 rfl ⟨⟨by decide, by decide⟩, rfl, rfl⟩ ⟨by decide +kernel, rfl⟩ rfl rfl (Nat.le_of_ble_eq_true rfl) rfl rfl ?_
            refine cz_M_push (c := 5) h hl (by decide) (fun σ63 hv63 => ?_)
            show Wz E Y_M_pushOf 376 [(9, .int 0), (7, .long b), (5, .long a), (4, .int g2), (3, .int g1), (0, .ref 110), (1, .int code), (2, .int cc)] [] σ63 K
            refine z_goto (off := 82) (tgt := 458) (pc' := 379) ⟨by decide +kernel, by decide, rfl⟩ ?_
            refine z_vret rfl (by decide +kernel) ?_
            have z0L : (0 : Int64).toInt = 0 := by decide
            have z0 : (0 : Int32).toInt = 0 := by decide
            have z13 : (13 : Int32).toInt = 13 := by decide
            have z3 : (3 : Int32).toInt = 3 := by decide
            have gh1 := j_ne_f h1
            have gh18 := p3_f hv17 h18
            have gh42 := p3_f hv41 h42
            have gh43 := j_eq_f (y := 0) h43
            have gh62 := j_ne_t h62
            have c13 : (13 : Int32).toInt = 13 := by decide
            have hcc : c = 13 := by omega
            rw [ha] at gh18
            rw [hb] at gh42
            exact k _ (fun _ => by rw [← cp_nf hw (by omega) (by omega)]; exact hv63) (fun q => absurd hcc q)
          · refine z_iconst (i := 4) (v := 4) (pc' := 316) ⟨by decide +kernel, rfl⟩ (by decide) ?_
            refine z_goto (off := 56) (tgt := 372) (pc' := 319) ⟨by decide +kernel, by decide, rfl⟩ ?_
            refine z_lconst (i := 0) (v := 0) (pc' := 373) ⟨by decide +kernel, rfl⟩ (by decide) ?_
            refine w_invV (Z := Y_M_push) (idx := 658) (kb := 110) (As := [.int 4, .long 0]) (rest := []) (pc' := 376) cl_13_658 rfl ⟨rfl, rfl⟩ kfa_110_0 rfl ⟨⟨by decide, by decide⟩, rfl, rfl⟩ ⟨by decide +kernel, rfl⟩ rfl rfl (Nat.le_of_ble_eq_true rfl) rfl rfl ?_
            refine cz_M_push (c := 4) h hl (by decide) (fun σ64 hv64 => ?_)
            show Wz E Y_M_pushOf 376 [(9, .int 0), (7, .long b), (5, .long a), (4, .int g2), (3, .int g1), (0, .ref 110), (1, .int code), (2, .int cc)] [] σ64 K
            refine z_goto (off := 82) (tgt := 458) (pc' := 379) ⟨by decide +kernel, by decide, rfl⟩ ?_
            refine z_vret rfl (by decide +kernel) ?_
            have z0L : (0 : Int64).toInt = 0 := by decide
            have z0 : (0 : Int32).toInt = 0 := by decide
            have z13 : (13 : Int32).toInt = 13 := by decide
            have z3 : (3 : Int32).toInt = 3 := by decide
            have gh1 := j_ne_f h1
            have gh18 := p3_f hv17 h18
            have gh42 := p3_f hv41 h42
            have gh43 := j_eq_f (y := 0) h43
            have gh62 := j_ne_f h62
            have c13 : (13 : Int32).toInt = 13 := by decide
            have hcc : c = 13 := by omega
            rw [ha] at gh18
            rw [hb] at gh42
            exact k _ (fun _ => by rw [← cp_nt hw (by omega) (by omega)]; exact hv64) (fun q => absurd hcc q)
      · refine z_iconst (i := 1) (v := 1) (pc' := 298) ⟨by decide +kernel, rfl⟩ (by decide) ?_
        refine z_goto (off := 4) (tgt := 302) (pc' := 301) ⟨by decide +kernel, by decide, rfl⟩ ?_
        refine z_istore (i := 9) (pc' := 304) ⟨by decide +kernel, rfl⟩ (by decide) rfl ?_
        show Wz E Y_M_pushOf 304 [(9, .int 1), (7, .long b), (5, .long a), (4, .int g2), (3, .int g1), (0, .ref 110), (1, .int code), (2, .int cc)] [] τ K
        refine z_aload_n (f := 0) (i := 0) (q := 5) (pc' := 305) ⟨by decide +kernel, rfl⟩ rfl rfl ?_
        refine z_iload (i := 9) (q := 0) (pc' := 307) ⟨by decide +kernel, rfl⟩ rfl ?_
        refine z_if_eq (off := 16) (tgt := 323) (pc' := 310) ⟨by decide +kernel, by decide, rfl⟩ (fun h65 => ?_) (fun h65 => ?_)
        · refine z_iload_n (f := 2) (i := 2) (q := 7) (pc' := 324) ⟨by decide +kernel, rfl⟩ rfl rfl ?_
          refine z_lload (i := 5) (q := 2) (pc' := 326) ⟨by decide +kernel, rfl⟩ rfl ?_
          refine w_invS (Z := Y_M_rank) (idx := 669) (As := [.long a]) (rest := [.int cc, .ref 110]) (pc' := 329) cl_13_669 rfl ⟨rfl, rfl⟩ ⟨⟨by decide, by decide⟩, rfl, rfl⟩ ⟨by decide +kernel, rfl⟩ rfl rfl (Nat.le_of_ble_eq_true rfl) rfl rfl ?_
          refine cz_M_rank (fun v66 hv66 => ?_)
          show Wz E Y_M_pushOf 329 [(9, .int 1), (7, .long b), (5, .long a), (4, .int g2), (3, .int g1), (0, .ref 110), (1, .int code), (2, .int cc)] [.long v66, .int cc, .ref 110] τ K
          refine z_lload (i := 7) (q := 1) (pc' := 331) ⟨by decide +kernel, rfl⟩ rfl ?_
          refine w_invS (Z := Y_M_rank) (idx := 669) (As := [.long b]) (rest := [.long v66, .int cc, .ref 110]) (pc' := 334) cl_13_669 rfl ⟨rfl, rfl⟩ ⟨⟨by decide, by decide⟩, rfl, rfl⟩ ⟨by decide +kernel, rfl⟩ rfl rfl (Nat.le_of_ble_eq_true rfl) rfl rfl ?_
          refine cz_M_rank (fun v67 hv67 => ?_)
          show Wz E Y_M_pushOf 334 [(9, .int 1), (7, .long b), (5, .long a), (4, .int g2), (3, .int g1), (0, .ref 110), (1, .int code), (2, .int cc)] [.long v67, .long v66, .int cc, .ref 110] τ K
          refine z_lcmp (pc' := 335) ⟨by decide +kernel, rfl⟩ ?_
          refine z_if_ge (off := 7) (tgt := 342) (pc' := 338) ⟨by decide +kernel, by decide, rfl⟩ (fun h68 => ?_) (fun h68 => ?_)
          · refine z_lload (i := 5) (q := 2) (pc' := 344) ⟨by decide +kernel, rfl⟩ rfl ?_
            refine w_invS (Z := Y_M_rank) (idx := 669) (As := [.long a]) (rest := [.int cc, .ref 110]) (pc' := 347) cl_13_669 rfl ⟨rfl, rfl⟩ ⟨⟨by decide, by decide⟩, rfl, rfl⟩ ⟨by decide +kernel, rfl⟩ rfl rfl (Nat.le_of_ble_eq_true rfl) rfl rfl ?_
            refine cz_M_rank (fun v69 hv69 => ?_)
            show Wz E Y_M_pushOf 347 [(9, .int 1), (7, .long b), (5, .long a), (4, .int g2), (3, .int g1), (0, .ref 110), (1, .int code), (2, .int cc)] [.long v69, .int cc, .ref 110] τ K
            refine z_lload (i := 7) (q := 1) (pc' := 349) ⟨by decide +kernel, rfl⟩ rfl ?_
            refine w_invS (Z := Y_M_rank) (idx := 669) (As := [.long b]) (rest := [.long v69, .int cc, .ref 110]) (pc' := 352) cl_13_669 rfl ⟨rfl, rfl⟩ ⟨⟨by decide, by decide⟩, rfl, rfl⟩ ⟨by decide +kernel, rfl⟩ rfl rfl (Nat.le_of_ble_eq_true rfl) rfl rfl ?_
            refine cz_M_rank (fun v70 hv70 => ?_)
            show Wz E Y_M_pushOf 352 [(9, .int 1), (7, .long b), (5, .long a), (4, .int g2), (3, .int g1), (0, .ref 110), (1, .int code), (2, .int cc)] [.long v70, .long v69, .int cc, .ref 110] τ K
            refine z_lcmp (pc' := 353) ⟨by decide +kernel, rfl⟩ ?_
            refine z_if_le (off := 7) (tgt := 360) (pc' := 356) ⟨by decide +kernel, by decide, rfl⟩ (fun h71 => ?_) (fun h71 => ?_)
            · refine z_iconst (i := 0) (v := 0) (pc' := 361) ⟨by decide +kernel, rfl⟩ (by decide) ?_
              refine w_invS (Z := Y_M_holdsFor) (idx := 666) (As := [.int cc, .int 0]) (rest := [.ref 110]) (pc' := 364) cl_13_666 rfl ⟨rfl, rfl⟩ ⟨⟨by decide, by decide⟩, rfl, rfl⟩ ⟨by decide +kernel, rfl⟩ rfl rfl (Nat.le_of_ble_eq_true rfl) rfl rfl ?_
              refine cz_M_holdsFor (fun v72 hv72 => ?_)
              show Wz E Y_M_pushOf 364 [(9, .int 1), (7, .long b), (5, .long a), (4, .int g2), (3, .int g1), (0, .ref 110), (1, .int code), (2, .int cc)] [.int v72, .ref 110] τ K
              refine z_if_eq (off := 7) (tgt := 371) (pc' := 367) ⟨by decide +kernel, by decide, rfl⟩ (fun h73 => ?_) (fun h73 => ?_)
              · refine z_iconst (i := 5) (v := 5) (pc' := 372) ⟨by decide +kernel, rfl⟩ (by decide) ?_
                refine z_lconst (i := 0) (v := 0) (pc' := 373) ⟨by decide +kernel, rfl⟩ (by decide) ?_
                refine w_invV (Z := Y_M_push) (idx := 658) (kb := 110) (As := [.int 5, .long 0]) (rest := []) (pc' := 376) cl_13_658 rfl ⟨rfl, rfl⟩ kfa_110_0 rfl ⟨⟨by decide, by decide⟩, rfl, rfl⟩ ⟨by decide +kernel, rfl⟩ rfl rfl (Nat.le_of_ble_eq_true rfl) rfl rfl ?_
                refine cz_M_push (c := 5) h hl (by decide) (fun σ74 hv74 => ?_)
                show Wz E Y_M_pushOf 376 [(9, .int 1), (7, .long b), (5, .long a), (4, .int g2), (3, .int g1), (0, .ref 110), (1, .int code), (2, .int cc)] [] σ74 K
                refine z_goto (off := 82) (tgt := 458) (pc' := 379) ⟨by decide +kernel, by decide, rfl⟩ ?_
                refine z_vret rfl (by decide +kernel) ?_
                have z0L : (0 : Int64).toInt = 0 := by decide
                have z0 : (0 : Int32).toInt = 0 := by decide
                have z1 : (1 : Int32).toInt = 1 := by decide
                have z13 : (13 : Int32).toInt = 13 := by decide
                have gh1 := j_ne_f h1
                have gh18 := p3_f hv17 h18
                have gh42 := p3_t hv41 h42
                have gh65 := j_eq_t (y := 0) h65
                have gh68 := k_ge_t h68
                have gh71 := k_le_t h71
                have gh73 := p3_f hv72 h73
                have c13 : (13 : Int32).toInt = 13 := by decide
                have hcc : c = 13 := by omega
                rw [ha] at gh18
                rw [hb] at gh42
                rw [hv66, hv67, ha, hb] at gh68
                rw [hv69, hv70, ha, hb] at gh71
                exact k _ (fun _ => by rw [← cp_rf hw (by omega) (cmp_eq (by omega)) gh73]; exact hv74) (fun q => absurd hcc q)
              · refine z_iconst (i := 4) (v := 4) (pc' := 368) ⟨by decide +kernel, rfl⟩ (by decide) ?_
                refine z_goto (off := 4) (tgt := 372) (pc' := 371) ⟨by decide +kernel, by decide, rfl⟩ ?_
                refine z_lconst (i := 0) (v := 0) (pc' := 373) ⟨by decide +kernel, rfl⟩ (by decide) ?_
                refine w_invV (Z := Y_M_push) (idx := 658) (kb := 110) (As := [.int 4, .long 0]) (rest := []) (pc' := 376) cl_13_658 rfl ⟨rfl, rfl⟩ kfa_110_0 rfl ⟨⟨by decide, by decide⟩, rfl, rfl⟩ ⟨by decide +kernel, rfl⟩ rfl rfl (Nat.le_of_ble_eq_true rfl) rfl rfl ?_
                refine cz_M_push (c := 4) h hl (by decide) (fun σ75 hv75 => ?_)
                show Wz E Y_M_pushOf 376 [(9, .int 1), (7, .long b), (5, .long a), (4, .int g2), (3, .int g1), (0, .ref 110), (1, .int code), (2, .int cc)] [] σ75 K
                refine z_goto (off := 82) (tgt := 458) (pc' := 379) ⟨by decide +kernel, by decide, rfl⟩ ?_
                refine z_vret rfl (by decide +kernel) ?_
                have z0L : (0 : Int64).toInt = 0 := by decide
                have z0 : (0 : Int32).toInt = 0 := by decide
                have z1 : (1 : Int32).toInt = 1 := by decide
                have z13 : (13 : Int32).toInt = 13 := by decide
                have gh1 := j_ne_f h1
                have gh18 := p3_f hv17 h18
                have gh42 := p3_t hv41 h42
                have gh65 := j_eq_t (y := 0) h65
                have gh68 := k_ge_t h68
                have gh71 := k_le_t h71
                have gh73 := p3_t hv72 h73
                have c13 : (13 : Int32).toInt = 13 := by decide
                have hcc : c = 13 := by omega
                rw [ha] at gh18
                rw [hb] at gh42
                rw [hv66, hv67, ha, hb] at gh68
                rw [hv69, hv70, ha, hb] at gh71
                exact k _ (fun _ => by rw [← cp_rt hw (by omega) (cmp_eq (by omega)) gh73]; exact hv75) (fun q => absurd hcc q)
            · refine z_iconst (i := 1) (v := 1) (pc' := 357) ⟨by decide +kernel, rfl⟩ (by decide) ?_
              refine z_goto (off := 4) (tgt := 361) (pc' := 360) ⟨by decide +kernel, by decide, rfl⟩ ?_
              refine w_invS (Z := Y_M_holdsFor) (idx := 666) (As := [.int cc, .int 1]) (rest := [.ref 110]) (pc' := 364) cl_13_666 rfl ⟨rfl, rfl⟩ ⟨⟨by decide, by decide⟩, rfl, rfl⟩ ⟨by decide +kernel, rfl⟩ rfl rfl (Nat.le_of_ble_eq_true rfl) rfl rfl ?_
              refine cz_M_holdsFor (fun v76 hv76 => ?_)
              show Wz E Y_M_pushOf 364 [(9, .int 1), (7, .long b), (5, .long a), (4, .int g2), (3, .int g1), (0, .ref 110), (1, .int code), (2, .int cc)] [.int v76, .ref 110] τ K
              refine z_if_eq (off := 7) (tgt := 371) (pc' := 367) ⟨by decide +kernel, by decide, rfl⟩ (fun h77 => ?_) (fun h77 => ?_)
              · refine z_iconst (i := 5) (v := 5) (pc' := 372) ⟨by decide +kernel, rfl⟩ (by decide) ?_
                refine z_lconst (i := 0) (v := 0) (pc' := 373) ⟨by decide +kernel, rfl⟩ (by decide) ?_
                refine w_invV (Z := Y_M_push) (idx := 658) (kb := 110) (As := [.int 5, .long 0]) (rest := []) (pc' := 376) cl_13_658 rfl ⟨rfl, rfl⟩ kfa_110_0 rfl ⟨⟨by decide, by decide⟩, rfl, rfl⟩ ⟨by decide +kernel, rfl⟩ rfl rfl (Nat.le_of_ble_eq_true rfl) rfl rfl ?_
                refine cz_M_push (c := 5) h hl (by decide) (fun σ78 hv78 => ?_)
                show Wz E Y_M_pushOf 376 [(9, .int 1), (7, .long b), (5, .long a), (4, .int g2), (3, .int g1), (0, .ref 110), (1, .int code), (2, .int cc)] [] σ78 K
                refine z_goto (off := 82) (tgt := 458) (pc' := 379) ⟨by decide +kernel, by decide, rfl⟩ ?_
                refine z_vret rfl (by decide +kernel) ?_
                have z0L : (0 : Int64).toInt = 0 := by decide
                have z0 : (0 : Int32).toInt = 0 := by decide
                have z1 : (1 : Int32).toInt = 1 := by decide
                have z13 : (13 : Int32).toInt = 13 := by decide
                have gh1 := j_ne_f h1
                have gh18 := p3_f hv17 h18
                have gh42 := p3_t hv41 h42
                have gh65 := j_eq_t (y := 0) h65
                have gh68 := k_ge_t h68
                have gh71 := k_le_f h71
                have gh77 := p3_f hv76 h77
                have c13 : (13 : Int32).toInt = 13 := by decide
                have hcc : c = 13 := by omega
                rw [ha] at gh18
                rw [hb] at gh42
                rw [hv66, hv67, ha, hb] at gh68
                rw [hv69, hv70, ha, hb] at gh71
                exact k _ (fun _ => by rw [← cp_rf hw (by omega) (cmp_gt (by omega)) gh77]; exact hv78) (fun q => absurd hcc q)
              · refine z_iconst (i := 4) (v := 4) (pc' := 368) ⟨by decide +kernel, rfl⟩ (by decide) ?_
                refine z_goto (off := 4) (tgt := 372) (pc' := 371) ⟨by decide +kernel, by decide, rfl⟩ ?_
                refine z_lconst (i := 0) (v := 0) (pc' := 373) ⟨by decide +kernel, rfl⟩ (by decide) ?_
                refine w_invV (Z := Y_M_push) (idx := 658) (kb := 110) (As := [.int 4, .long 0]) (rest := []) (pc' := 376) cl_13_658 rfl ⟨rfl, rfl⟩ kfa_110_0 rfl ⟨⟨by decide, by decide⟩, rfl, rfl⟩ ⟨by decide +kernel, rfl⟩ rfl rfl (Nat.le_of_ble_eq_true rfl) rfl rfl ?_
                refine cz_M_push (c := 4) h hl (by decide) (fun σ79 hv79 => ?_)
                show Wz E Y_M_pushOf 376 [(9, .int 1), (7, .long b), (5, .long a), (4, .int g2), (3, .int g1), (0, .ref 110), (1, .int code), (2, .int cc)] [] σ79 K
                refine z_goto (off := 82) (tgt := 458) (pc' := 379) ⟨by decide +kernel, by decide, rfl⟩ ?_
                refine z_vret rfl (by decide +kernel) ?_
                have z0L : (0 : Int64).toInt = 0 := by decide
                have z0 : (0 : Int32).toInt = 0 := by decide
                have z1 : (1 : Int32).toInt = 1 := by decide
                have z13 : (13 : Int32).toInt = 13 := by decide
                have gh1 := j_ne_f h1
                have gh18 := p3_f hv17 h18
                have gh42 := p3_t hv41 h42
                have gh65 := j_eq_t (y := 0) h65
                have gh68 := k_ge_t h68
                have gh71 := k_le_f h71
                have gh77 := p3_t hv76 h77
                have c13 : (13 : Int32).toInt = 13 := by decide
                have hcc : c = 13 := by omega
                rw [ha] at gh18
                rw [hb] at gh42
                rw [hv66, hv67, ha, hb] at gh68
                rw [hv69, hv70, ha, hb] at gh71
                exact k _ (fun _ => by rw [← cp_rt hw (by omega) (cmp_gt (by omega)) gh77]; exact hv79) (fun q => absurd hcc q)
          · refine z_iconst (i := (-1)) (v := (-1)) (pc' := 339) ⟨by decide +kernel, rfl⟩ (by decide) ?_
            refine z_goto (off := 22) (tgt := 361) (pc' := 342) ⟨by decide +kernel, by decide, rfl⟩ ?_
            refine w_invS (Z := Y_M_holdsFor) (idx := 666) (As := [.int cc, .int (-1)]) (rest := [.ref 110]) (pc' := 364) cl_13_666 rfl ⟨rfl, rfl⟩ ⟨⟨by decide, by decide⟩, rfl, rfl⟩ ⟨by decide +kernel, rfl⟩ rfl rfl (Nat.le_of_ble_eq_true rfl) rfl rfl ?_
            refine cz_M_holdsFor (fun v80 hv80 => ?_)
            show Wz E Y_M_pushOf 364 [(9, .int 1), (7, .long b), (5, .long a), (4, .int g2), (3, .int g1), (0, .ref 110), (1, .int code), (2, .int cc)] [.int v80, .ref 110] τ K
            refine z_if_eq (off := 7) (tgt := 371) (pc' := 367) ⟨by decide +kernel, by decide, rfl⟩ (fun h81 => ?_) (fun h81 => ?_)
            · refine z_iconst (i := 5) (v := 5) (pc' := 372) ⟨by decide +kernel, rfl⟩ (by decide) ?_
              refine z_lconst (i := 0) (v := 0) (pc' := 373) ⟨by decide +kernel, rfl⟩ (by decide) ?_
              refine w_invV (Z := Y_M_push) (idx := 658) (kb := 110) (As := [.int 5, .long 0]) (rest := []) (pc' := 376) cl_13_658 rfl ⟨rfl, rfl⟩ kfa_110_0 rfl ⟨⟨by decide, by decide⟩, rfl, rfl⟩ ⟨by decide +kernel, rfl⟩ rfl rfl (Nat.le_of_ble_eq_true rfl) rfl rfl ?_
              refine cz_M_push (c := 5) h hl (by decide) (fun σ82 hv82 => ?_)
              show Wz E Y_M_pushOf 376 [(9, .int 1), (7, .long b), (5, .long a), (4, .int g2), (3, .int g1), (0, .ref 110), (1, .int code), (2, .int cc)] [] σ82 K
              refine z_goto (off := 82) (tgt := 458) (pc' := 379) ⟨by decide +kernel, by decide, rfl⟩ ?_
              refine z_vret rfl (by decide +kernel) ?_
              have z0L : (0 : Int64).toInt = 0 := by decide
              have z0 : (0 : Int32).toInt = 0 := by decide
              have z1 : (1 : Int32).toInt = 1 := by decide
              have z13 : (13 : Int32).toInt = 13 := by decide
              have gh1 := j_ne_f h1
              have gh18 := p3_f hv17 h18
              have gh42 := p3_t hv41 h42
              have gh65 := j_eq_t (y := 0) h65
              have gh68 := k_ge_f h68
              have gh81 := p3_f hv80 h81
              have c13 : (13 : Int32).toInt = 13 := by decide
              have hcc : c = 13 := by omega
              rw [ha] at gh18
              rw [hb] at gh42
              rw [hv66, hv67, ha, hb] at gh68
              exact k _ (fun _ => by rw [← cp_rf hw (by omega) (cmp_lt (by omega)) gh81]; exact hv82) (fun q => absurd hcc q)
            · refine z_iconst (i := 4) (v := 4) (pc' := 368) ⟨by decide +kernel, rfl⟩ (by decide) ?_
              refine z_goto (off := 4) (tgt := 372) (pc' := 371) ⟨by decide +kernel, by decide, rfl⟩ ?_
              refine z_lconst (i := 0) (v := 0) (pc' := 373) ⟨by decide +kernel, rfl⟩ (by decide) ?_
              refine w_invV (Z := Y_M_push) (idx := 658) (kb := 110) (As := [.int 4, .long 0]) (rest := []) (pc' := 376) cl_13_658 rfl ⟨rfl, rfl⟩ kfa_110_0 rfl ⟨⟨by decide, by decide⟩, rfl, rfl⟩ ⟨by decide +kernel, rfl⟩ rfl rfl (Nat.le_of_ble_eq_true rfl) rfl rfl ?_
              refine cz_M_push (c := 4) h hl (by decide) (fun σ83 hv83 => ?_)
              show Wz E Y_M_pushOf 376 [(9, .int 1), (7, .long b), (5, .long a), (4, .int g2), (3, .int g1), (0, .ref 110), (1, .int code), (2, .int cc)] [] σ83 K
              refine z_goto (off := 82) (tgt := 458) (pc' := 379) ⟨by decide +kernel, by decide, rfl⟩ ?_
              refine z_vret rfl (by decide +kernel) ?_
              have z0L : (0 : Int64).toInt = 0 := by decide
              have z0 : (0 : Int32).toInt = 0 := by decide
              have z1 : (1 : Int32).toInt = 1 := by decide
              have z13 : (13 : Int32).toInt = 13 := by decide
              have gh1 := j_ne_f h1
              have gh18 := p3_f hv17 h18
              have gh42 := p3_t hv41 h42
              have gh65 := j_eq_t (y := 0) h65
              have gh68 := k_ge_f h68
              have gh81 := p3_t hv80 h81
              have c13 : (13 : Int32).toInt = 13 := by decide
              have hcc : c = 13 := by omega
              rw [ha] at gh18
              rw [hb] at gh42
              rw [hv66, hv67, ha, hb] at gh68
              exact k _ (fun _ => by rw [← cp_rt hw (by omega) (cmp_lt (by omega)) gh81]; exact hv83) (fun q => absurd hcc q)
        · refine z_iload_n (f := 2) (i := 2) (q := 7) (pc' := 311) ⟨by decide +kernel, rfl⟩ rfl rfl ?_
          refine z_iconst (i := 3) (v := 3) (pc' := 312) ⟨by decide +kernel, rfl⟩ (by decide) ?_
          refine z_icmp_ne (off := 7) (tgt := 319) (pc' := 315) ⟨by decide +kernel, by decide, rfl⟩ (fun h84 => ?_) (fun h84 => ?_)
          · refine z_iconst (i := 5) (v := 5) (pc' := 320) ⟨by decide +kernel, rfl⟩ (by decide) ?_
            refine z_goto (off := 52) (tgt := 372) (pc' := 323) ⟨by decide +kernel, by decide, rfl⟩ ?_
            refine z_lconst (i := 0) (v := 0) (pc' := 373) ⟨by decide +kernel, rfl⟩ (by decide) ?_
            refine w_invV (Z := Y_M_push) (idx := 658) (kb := 110) (As := [.int 5, .long 0]) (rest := []) (pc' := 376) cl_13_658 rfl ⟨rfl, rfl⟩ kfa_110_0 rfl ⟨⟨by decide, by decide⟩, rfl, rfl⟩ ⟨by decide +kernel, rfl⟩ rfl rfl (Nat.le_of_ble_eq_true rfl) rfl rfl ?_
            refine cz_M_push (c := 5) h hl (by decide) (fun σ85 hv85 => ?_)
            show Wz E Y_M_pushOf 376 [(9, .int 1), (7, .long b), (5, .long a), (4, .int g2), (3, .int g1), (0, .ref 110), (1, .int code), (2, .int cc)] [] σ85 K
            refine z_goto (off := 82) (tgt := 458) (pc' := 379) ⟨by decide +kernel, by decide, rfl⟩ ?_
            refine z_vret rfl (by decide +kernel) ?_
            have z0L : (0 : Int64).toInt = 0 := by decide
            have z0 : (0 : Int32).toInt = 0 := by decide
            have z1 : (1 : Int32).toInt = 1 := by decide
            have z13 : (13 : Int32).toInt = 13 := by decide
            have z3 : (3 : Int32).toInt = 3 := by decide
            have gh1 := j_ne_f h1
            have gh18 := p3_f hv17 h18
            have gh42 := p3_t hv41 h42
            have gh65 := j_eq_f (y := 0) h65
            have gh84 := j_ne_t h84
            have c13 : (13 : Int32).toInt = 13 := by decide
            have hcc : c = 13 := by omega
            rw [ha] at gh18
            rw [hb] at gh42
            exact k _ (fun _ => by rw [← cp_nf hw (by omega) (by omega)]; exact hv85) (fun q => absurd hcc q)
          · refine z_iconst (i := 4) (v := 4) (pc' := 316) ⟨by decide +kernel, rfl⟩ (by decide) ?_
            refine z_goto (off := 56) (tgt := 372) (pc' := 319) ⟨by decide +kernel, by decide, rfl⟩ ?_
            refine z_lconst (i := 0) (v := 0) (pc' := 373) ⟨by decide +kernel, rfl⟩ (by decide) ?_
            refine w_invV (Z := Y_M_push) (idx := 658) (kb := 110) (As := [.int 4, .long 0]) (rest := []) (pc' := 376) cl_13_658 rfl ⟨rfl, rfl⟩ kfa_110_0 rfl ⟨⟨by decide, by decide⟩, rfl, rfl⟩ ⟨by decide +kernel, rfl⟩ rfl rfl (Nat.le_of_ble_eq_true rfl) rfl rfl ?_
            refine cz_M_push (c := 4) h hl (by decide) (fun σ86 hv86 => ?_)
            show Wz E Y_M_pushOf 376 [(9, .int 1), (7, .long b), (5, .long a), (4, .int g2), (3, .int g1), (0, .ref 110), (1, .int code), (2, .int cc)] [] σ86 K
            refine z_goto (off := 82) (tgt := 458) (pc' := 379) ⟨by decide +kernel, by decide, rfl⟩ ?_
            refine z_vret rfl (by decide +kernel) ?_
            have z0L : (0 : Int64).toInt = 0 := by decide
            have z0 : (0 : Int32).toInt = 0 := by decide
            have z1 : (1 : Int32).toInt = 1 := by decide
            have z13 : (13 : Int32).toInt = 13 := by decide
            have z3 : (3 : Int32).toInt = 3 := by decide
            have gh1 := j_ne_f h1
            have gh18 := p3_f hv17 h18
            have gh42 := p3_t hv41 h42
            have gh65 := j_eq_f (y := 0) h65
            have gh84 := j_ne_f h84
            have c13 : (13 : Int32).toInt = 13 := by decide
            have hcc : c = 13 := by omega
            rw [ha] at gh18
            rw [hb] at gh42
            exact k _ (fun _ => by rw [← cp_nt hw (by omega) (by omega)]; exact hv86) (fun q => absurd hcc q)
theorem run_M_pushOf {E : xV} {σ τ : zS} {K : zKt} {S : List EntJ} {x y : EntJ} {code cc : Int32} {c : Nat} (h : MsJ σ τ (y :: x :: S)) (hcd : code.toInt = (c : Int)) (hc8 : 8 ≤ c) (hc13 : c ≤ 13) (k : ∀ τ' : zS, MsJ σ τ' (ofJ c cc.toInt x y :: S) → K none τ') : Wz E Y_M_pushOf 0 [(0, .ref 110), (1, .int code), (2, .int cc)] [] τ K := by
  refine z_aload_n (f := 0) (i := 0) (q := 0) (pc' := 1) ⟨by decide +kernel, rfl⟩ rfl rfl ?_
  refine z_dupr (pc' := 2) ⟨by decide +kernel, rfl⟩ ?_
  refine w_geti (k := 110) (j := 64) (idx := 655) (pc' := 5) fxe_13_655 kfa_110_64 ⟨by decide +kernel, rfl⟩ ?_
  refine z_iconst (i := 2) (v := 2) (pc' := 6) ⟨by decide +kernel, rfl⟩ (by decide) ?_
  refine z_isub (pc' := 7) ⟨by decide +kernel, rfl⟩ ?_
  refine w_puti (k := 110) (j := 64) (idx := 655) (pc' := 10) fxi_13_655 kfa_110_64 ⟨by decide +kernel, rfl⟩ ?_
  generalize hs1 : zI τ 110 64 ((τ.1 110 64) - 2) = σ1
  refine z_aload_n (f := 0) (i := 0) (q := 0) (pc' := 11) ⟨by decide +kernel, rfl⟩ rfl rfl ?_
  refine w_getr (k := 110) (j := 62) (idx := 136) (pc' := 14) fxe_13_136 kfa_110_62 ⟨by decide +kernel, rfl⟩ ?_
  refine z_aload_n (f := 0) (i := 0) (q := 0) (pc' := 15) ⟨by decide +kernel, rfl⟩ rfl rfl ?_
  refine w_geti (k := 110) (j := 64) (idx := 655) (pc' := 18) fxe_13_655 kfa_110_64 ⟨by decide +kernel, rfl⟩ ?_
  refine w_iald (k := 151) (n := S.length) (pc' := 19) kaa_151 ((ms_pop2 h hs1).1.2.1) (by have := (ms_pop2 h hs1).2.2; omega) ⟨by decide +kernel, rfl⟩ ?_
  refine z_istore_n (f := 3) (i := 3) (pc' := 20) ⟨by decide +kernel, rfl⟩ rfl (by decide) rfl ?_
  show Wz E Y_M_pushOf 20 [(3, .int (σ1.1 151 S.length)), (0, .ref 110), (1, .int code), (2, .int cc)] [] σ1 K
  refine z_aload_n (f := 0) (i := 0) (q := 1) (pc' := 21) ⟨by decide +kernel, rfl⟩ rfl rfl ?_
  refine w_getr (k := 110) (j := 62) (idx := 136) (pc' := 24) fxe_13_136 kfa_110_62 ⟨by decide +kernel, rfl⟩ ?_
  refine z_aload_n (f := 0) (i := 0) (q := 1) (pc' := 25) ⟨by decide +kernel, rfl⟩ rfl rfl ?_
  refine w_geti (k := 110) (j := 64) (idx := 655) (pc' := 28) fxe_13_655 kfa_110_64 ⟨by decide +kernel, rfl⟩ ?_
  refine z_iconst (i := 1) (v := 1) (pc' := 29) ⟨by decide +kernel, rfl⟩ (by decide) ?_
  refine z_iadd (pc' := 30) ⟨by decide +kernel, rfl⟩ ?_
  refine w_iald (k := 151) (n := (S.length + 1)) (pc' := 31) kaa_151 ((ms_pop2 h hs1).t1) ((ms_pop2 h hs1).2.2) ⟨by decide +kernel, rfl⟩ ?_
  refine z_istore (i := 4) (pc' := 33) ⟨by decide +kernel, rfl⟩ (by decide) rfl ?_
  show Wz E Y_M_pushOf 33 [(4, .int (σ1.1 151 (S.length + 1))), (3, .int (σ1.1 151 S.length)), (0, .ref 110), (1, .int code), (2, .int cc)] [] σ1 K
  refine z_aload_n (f := 0) (i := 0) (q := 2) (pc' := 34) ⟨by decide +kernel, rfl⟩ rfl rfl ?_
  refine w_getr (k := 110) (j := 63) (idx := 139) (pc' := 37) fxe_13_139 kfa_110_63 ⟨by decide +kernel, rfl⟩ ?_
  refine z_aload_n (f := 0) (i := 0) (q := 2) (pc' := 38) ⟨by decide +kernel, rfl⟩ rfl rfl ?_
  refine w_geti (k := 110) (j := 64) (idx := 655) (pc' := 41) fxe_13_655 kfa_110_64 ⟨by decide +kernel, rfl⟩ ?_
  refine w_lald (k := 152) (n := S.length) (pc' := 42) kaa_152 ((ms_pop2 h hs1).1.2.1) (by have := (ms_pop2 h hs1).2.2; omega) ⟨by decide +kernel, rfl⟩ ?_
  refine z_lstore (i := 5) (pc' := 44) ⟨by decide +kernel, rfl⟩ (by decide) rfl ?_
  show Wz E Y_M_pushOf 44 [(5, .long (σ1.2 152 S.length)), (4, .int (σ1.1 151 (S.length + 1))), (3, .int (σ1.1 151 S.length)), (0, .ref 110), (1, .int code), (2, .int cc)] [] σ1 K
  refine z_aload_n (f := 0) (i := 0) (q := 3) (pc' := 45) ⟨by decide +kernel, rfl⟩ rfl rfl ?_
  refine w_getr (k := 110) (j := 63) (idx := 139) (pc' := 48) fxe_13_139 kfa_110_63 ⟨by decide +kernel, rfl⟩ ?_
  refine z_aload_n (f := 0) (i := 0) (q := 3) (pc' := 49) ⟨by decide +kernel, rfl⟩ rfl rfl ?_
  refine w_geti (k := 110) (j := 64) (idx := 655) (pc' := 52) fxe_13_655 kfa_110_64 ⟨by decide +kernel, rfl⟩ ?_
  refine z_iconst (i := 1) (v := 1) (pc' := 53) ⟨by decide +kernel, rfl⟩ (by decide) ?_
  refine z_iadd (pc' := 54) ⟨by decide +kernel, rfl⟩ ?_
  refine w_lald (k := 152) (n := (S.length + 1)) (pc' := 55) kaa_152 ((ms_pop2 h hs1).t1) ((ms_pop2 h hs1).2.2) ⟨by decide +kernel, rfl⟩ ?_
  refine z_lstore (i := 7) (pc' := 57) ⟨by decide +kernel, rfl⟩ (by decide) rfl ?_
  show Wz E Y_M_pushOf 57 [(7, .long (σ1.2 152 (S.length + 1))), (5, .long (σ1.2 152 S.length)), (4, .int (σ1.1 151 (S.length + 1))), (3, .int (σ1.1 151 S.length)), (0, .ref 110), (1, .int code), (2, .int cc)] [] σ1 K
  refine z_iload_n (f := 3) (i := 3) (q := 3) (pc' := 58) ⟨by decide +kernel, rfl⟩ rfl rfl ?_
  refine z_iconst (i := 1) (v := 1) (pc' := 59) ⟨by decide +kernel, rfl⟩ (by decide) ?_
  refine z_icmp_le (off := 13) (tgt := 72) (pc' := 62) ⟨by decide +kernel, by decide, rfl⟩ (fun h2 => ?_) (fun h2 => ?_)
  · refine z_iload (i := 4) (q := 2) (pc' := 74) ⟨by decide +kernel, rfl⟩ rfl ?_
    refine z_iconst (i := 1) (v := 1) (pc' := 75) ⟨by decide +kernel, rfl⟩ (by decide) ?_
    refine z_icmp_le (off := 14) (tgt := 89) (pc' := 78) ⟨by decide +kernel, by decide, rfl⟩ (fun h3 => ?_) (fun h3 => ?_)
    · refine z_iload_n (f := 3) (i := 3) (q := 3) (pc' := 90) ⟨by decide +kernel, rfl⟩ rfl rfl ?_
      refine z_if_ne (off := 152) (tgt := 242) (pc' := 93) ⟨by decide +kernel, by decide, rfl⟩ (fun h4 => ?_) (fun h4 => ?_)
      · refine z_iload_n (f := 3) (i := 3) (q := 3) (pc' := 243) ⟨by decide +kernel, rfl⟩ rfl rfl ?_
        refine z_if_ne (off := 11) (tgt := 254) (pc' := 246) ⟨by decide +kernel, by decide, rfl⟩ (fun h5 => ?_) (fun h5 => ?_)
        · refine z_lload (i := 5) (q := 1) (pc' := 256) ⟨by decide +kernel, rfl⟩ rfl ?_
          refine z_lstore (i := 5) (pc' := 258) ⟨by decide +kernel, rfl⟩ (by decide) rfl ?_
          show Wz E Y_M_pushOf 258 [(5, .long (σ1.2 152 S.length)), (7, .long (σ1.2 152 (S.length + 1))), (4, .int (σ1.1 151 (S.length + 1))), (3, .int (σ1.1 151 S.length)), (0, .ref 110), (1, .int code), (2, .int cc)] [] σ1 K
          refine z_iload (i := 4) (q := 2) (pc' := 260) ⟨by decide +kernel, rfl⟩ rfl ?_
          refine z_if_ne (off := 11) (tgt := 271) (pc' := 263) ⟨by decide +kernel, by decide, rfl⟩ (fun h6 => ?_) (fun h6 => ?_)
          · refine z_lload (i := 7) (q := 1) (pc' := 273) ⟨by decide +kernel, rfl⟩ rfl ?_
            refine z_lstore (i := 7) (pc' := 275) ⟨by decide +kernel, rfl⟩ (by decide) rfl ?_
            show Wz E Y_M_pushOf 275 [(7, .long (σ1.2 152 (S.length + 1))), (5, .long (σ1.2 152 S.length)), (4, .int (σ1.1 151 (S.length + 1))), (3, .int (σ1.1 151 S.length)), (0, .ref 110), (1, .int code), (2, .int cc)] [] σ1 K
            have z0L : (0 : Int64).toInt = 0 := by decide
            have z0 : (0 : Int32).toInt = 0 := by decide
            have z1 : (1 : Int32).toInt = 1 := by decide
            have gh2 := j_le_t h2
            have gh3 := j_le_t h3
            have gh4 := j_ne_t (y := 0) h4
            have gh5 := j_ne_t (y := 0) h5
            have gh6 := j_ne_t (y := 0) h6
            have p := (ms_pop2 h hs1).2.1
            rw [p.1.1] at gh2
            rw [p.2.1] at gh3
            rw [p.1.1] at gh4
            rw [p.1.1] at gh5
            rw [p.2.1] at gh6
            exact run_M_pushOf_r (ms_pop2 h hs1).1 (by have := (ms_pop2 h hs1).2.2; omega) hcd (by omega) (rl_1 (by omega) p.1.2) (rl_1 (by omega) p.2.2) (fun t h1 h2 => k t (by
    by_cases hq : c = 13
    · rw [of_c hq (by omega) (by omega)]; exact h1 hq
    · rw [of_r hq (by omega) (by omega)]; exact h2 hq))
          · refine z_lload (i := 7) (q := 1) (pc' := 265) ⟨by decide +kernel, rfl⟩ rfl ?_
            refine w_invS (Z := Y_M_ofWhole) (idx := 533) (As := [.long (σ1.2 152 (S.length + 1))]) (rest := []) (pc' := 268) cl_13_533 rfl ⟨rfl, rfl⟩ ⟨⟨by decide, by decide⟩, rfl, rfl⟩ ⟨by decide +kernel, rfl⟩ rfl rfl (Nat.le_of_ble_eq_true rfl) rfl rfl ?_
            refine cz_M_ofWhole (fun v7 hv7 => ?_)
            show Wz E Y_M_pushOf 268 [(5, .long (σ1.2 152 S.length)), (7, .long (σ1.2 152 (S.length + 1))), (4, .int (σ1.1 151 (S.length + 1))), (3, .int (σ1.1 151 S.length)), (0, .ref 110), (1, .int code), (2, .int cc)] [.long v7] σ1 K
            refine z_goto (off := 5) (tgt := 273) (pc' := 271) ⟨by decide +kernel, by decide, rfl⟩ ?_
            refine z_lstore (i := 7) (pc' := 275) ⟨by decide +kernel, rfl⟩ (by decide) rfl ?_
            show Wz E Y_M_pushOf 275 [(7, .long v7), (5, .long (σ1.2 152 S.length)), (4, .int (σ1.1 151 (S.length + 1))), (3, .int (σ1.1 151 S.length)), (0, .ref 110), (1, .int code), (2, .int cc)] [] σ1 K
            have z0L : (0 : Int64).toInt = 0 := by decide
            have z0 : (0 : Int32).toInt = 0 := by decide
            have z1 : (1 : Int32).toInt = 1 := by decide
            have gh2 := j_le_t h2
            have gh3 := j_le_t h3
            have gh4 := j_ne_t (y := 0) h4
            have gh5 := j_ne_t (y := 0) h5
            have gh6 := j_ne_f (y := 0) h6
            have p := (ms_pop2 h hs1).2.1
            rw [p.1.1] at gh2
            rw [p.2.1] at gh3
            rw [p.1.1] at gh4
            rw [p.1.1] at gh5
            rw [p.2.1] at gh6
            exact run_M_pushOf_r (ms_pop2 h hs1).1 (by have := (ms_pop2 h hs1).2.2; omega) hcd (by omega) (rl_1 (by omega) p.1.2) (rl_0 (by omega) (p.2.2 ▸ hv7)) (fun t h1 h2 => k t (by
    by_cases hq : c = 13
    · rw [of_c hq (by omega) (by omega)]; exact h1 hq
    · rw [of_r hq (by omega) (by omega)]; exact h2 hq))
        · refine z_lload (i := 5) (q := 1) (pc' := 248) ⟨by decide +kernel, rfl⟩ rfl ?_
          refine w_invS (Z := Y_M_ofWhole) (idx := 533) (As := [.long (σ1.2 152 S.length)]) (rest := []) (pc' := 251) cl_13_533 rfl ⟨rfl, rfl⟩ ⟨⟨by decide, by decide⟩, rfl, rfl⟩ ⟨by decide +kernel, rfl⟩ rfl rfl (Nat.le_of_ble_eq_true rfl) rfl rfl ?_
          refine cz_M_ofWhole (fun v8 hv8 => ?_)
          show Wz E Y_M_pushOf 251 [(7, .long (σ1.2 152 (S.length + 1))), (5, .long (σ1.2 152 S.length)), (4, .int (σ1.1 151 (S.length + 1))), (3, .int (σ1.1 151 S.length)), (0, .ref 110), (1, .int code), (2, .int cc)] [.long v8] σ1 K
          refine z_goto (off := 5) (tgt := 256) (pc' := 254) ⟨by decide +kernel, by decide, rfl⟩ ?_
          refine z_lstore (i := 5) (pc' := 258) ⟨by decide +kernel, rfl⟩ (by decide) rfl ?_
          show Wz E Y_M_pushOf 258 [(5, .long v8), (7, .long (σ1.2 152 (S.length + 1))), (4, .int (σ1.1 151 (S.length + 1))), (3, .int (σ1.1 151 S.length)), (0, .ref 110), (1, .int code), (2, .int cc)] [] σ1 K
          refine z_iload (i := 4) (q := 2) (pc' := 260) ⟨by decide +kernel, rfl⟩ rfl ?_
          refine z_if_ne (off := 11) (tgt := 271) (pc' := 263) ⟨by decide +kernel, by decide, rfl⟩ (fun h9 => ?_) (fun h9 => ?_)
          · refine z_lload (i := 7) (q := 1) (pc' := 273) ⟨by decide +kernel, rfl⟩ rfl ?_
            refine z_lstore (i := 7) (pc' := 275) ⟨by decide +kernel, rfl⟩ (by decide) rfl ?_
            show Wz E Y_M_pushOf 275 [(7, .long (σ1.2 152 (S.length + 1))), (5, .long v8), (4, .int (σ1.1 151 (S.length + 1))), (3, .int (σ1.1 151 S.length)), (0, .ref 110), (1, .int code), (2, .int cc)] [] σ1 K
            have z0L : (0 : Int64).toInt = 0 := by decide
            have z0 : (0 : Int32).toInt = 0 := by decide
            have z1 : (1 : Int32).toInt = 1 := by decide
            have gh2 := j_le_t h2
            have gh3 := j_le_t h3
            have gh4 := j_ne_t (y := 0) h4
            have gh5 := j_ne_f (y := 0) h5
            have gh9 := j_ne_t (y := 0) h9
            have p := (ms_pop2 h hs1).2.1
            rw [p.1.1] at gh2
            rw [p.2.1] at gh3
            rw [p.1.1] at gh4
            rw [p.1.1] at gh5
            rw [p.2.1] at gh9
            exact run_M_pushOf_r (ms_pop2 h hs1).1 (by have := (ms_pop2 h hs1).2.2; omega) hcd (by omega) (rl_0 (by omega) (p.1.2 ▸ hv8)) (rl_1 (by omega) p.2.2) (fun t h1 h2 => k t (by
    by_cases hq : c = 13
    · rw [of_c hq (by omega) (by omega)]; exact h1 hq
    · rw [of_r hq (by omega) (by omega)]; exact h2 hq))
          · refine z_lload (i := 7) (q := 1) (pc' := 265) ⟨by decide +kernel, rfl⟩ rfl ?_
            refine w_invS (Z := Y_M_ofWhole) (idx := 533) (As := [.long (σ1.2 152 (S.length + 1))]) (rest := []) (pc' := 268) cl_13_533 rfl ⟨rfl, rfl⟩ ⟨⟨by decide, by decide⟩, rfl, rfl⟩ ⟨by decide +kernel, rfl⟩ rfl rfl (Nat.le_of_ble_eq_true rfl) rfl rfl ?_
            refine cz_M_ofWhole (fun v10 hv10 => ?_)
            show Wz E Y_M_pushOf 268 [(5, .long v8), (7, .long (σ1.2 152 (S.length + 1))), (4, .int (σ1.1 151 (S.length + 1))), (3, .int (σ1.1 151 S.length)), (0, .ref 110), (1, .int code), (2, .int cc)] [.long v10] σ1 K
            refine z_goto (off := 5) (tgt := 273) (pc' := 271) ⟨by decide +kernel, by decide, rfl⟩ ?_
            refine z_lstore (i := 7) (pc' := 275) ⟨by decide +kernel, rfl⟩ (by decide) rfl ?_
            show Wz E Y_M_pushOf 275 [(7, .long v10), (5, .long v8), (4, .int (σ1.1 151 (S.length + 1))), (3, .int (σ1.1 151 S.length)), (0, .ref 110), (1, .int code), (2, .int cc)] [] σ1 K
            have z0L : (0 : Int64).toInt = 0 := by decide
            have z0 : (0 : Int32).toInt = 0 := by decide
            have z1 : (1 : Int32).toInt = 1 := by decide
            have gh2 := j_le_t h2
            have gh3 := j_le_t h3
            have gh4 := j_ne_t (y := 0) h4
            have gh5 := j_ne_f (y := 0) h5
            have gh9 := j_ne_f (y := 0) h9
            have p := (ms_pop2 h hs1).2.1
            rw [p.1.1] at gh2
            rw [p.2.1] at gh3
            rw [p.1.1] at gh4
            rw [p.1.1] at gh5
            rw [p.2.1] at gh9
            exact run_M_pushOf_r (ms_pop2 h hs1).1 (by have := (ms_pop2 h hs1).2.2; omega) hcd (by omega) (rl_0 (by omega) (p.1.2 ▸ hv8)) (rl_0 (by omega) (p.2.2 ▸ hv10)) (fun t h1 h2 => k t (by
    by_cases hq : c = 13
    · rw [of_c hq (by omega) (by omega)]; exact h1 hq
    · rw [of_r hq (by omega) (by omega)]; exact h2 hq))
      · refine z_iload (i := 4) (q := 2) (pc' := 95) ⟨by decide +kernel, rfl⟩ rfl ?_
        refine z_if_ne (off := 147) (tgt := 242) (pc' := 98) ⟨by decide +kernel, by decide, rfl⟩ (fun h11 => ?_) (fun h11 => ?_)
        · refine z_iload_n (f := 3) (i := 3) (q := 3) (pc' := 243) ⟨by decide +kernel, rfl⟩ rfl rfl ?_
          refine z_if_ne (off := 11) (tgt := 254) (pc' := 246) ⟨by decide +kernel, by decide, rfl⟩ (fun h12 => ?_) (fun h12 => ?_)
          · refine z_lload (i := 5) (q := 1) (pc' := 256) ⟨by decide +kernel, rfl⟩ rfl ?_
            refine z_lstore (i := 5) (pc' := 258) ⟨by decide +kernel, rfl⟩ (by decide) rfl ?_
            show Wz E Y_M_pushOf 258 [(5, .long (σ1.2 152 S.length)), (7, .long (σ1.2 152 (S.length + 1))), (4, .int (σ1.1 151 (S.length + 1))), (3, .int (σ1.1 151 S.length)), (0, .ref 110), (1, .int code), (2, .int cc)] [] σ1 K
            refine z_iload (i := 4) (q := 2) (pc' := 260) ⟨by decide +kernel, rfl⟩ rfl ?_
            refine z_if_ne (off := 11) (tgt := 271) (pc' := 263) ⟨by decide +kernel, by decide, rfl⟩ (fun h13 => ?_) (fun h13 => ?_)
            · refine z_lload (i := 7) (q := 1) (pc' := 273) ⟨by decide +kernel, rfl⟩ rfl ?_
              refine z_lstore (i := 7) (pc' := 275) ⟨by decide +kernel, rfl⟩ (by decide) rfl ?_
              show Wz E Y_M_pushOf 275 [(7, .long (σ1.2 152 (S.length + 1))), (5, .long (σ1.2 152 S.length)), (4, .int (σ1.1 151 (S.length + 1))), (3, .int (σ1.1 151 S.length)), (0, .ref 110), (1, .int code), (2, .int cc)] [] σ1 K
              have z0L : (0 : Int64).toInt = 0 := by decide
              have z0 : (0 : Int32).toInt = 0 := by decide
              have z1 : (1 : Int32).toInt = 1 := by decide
              have gh2 := j_le_t h2
              have gh3 := j_le_t h3
              have gh4 := j_ne_f (y := 0) h4
              have gh11 := j_ne_t (y := 0) h11
              have gh12 := j_ne_t (y := 0) h12
              have gh13 := j_ne_t (y := 0) h13
              have p := (ms_pop2 h hs1).2.1
              rw [p.1.1] at gh2
              rw [p.2.1] at gh3
              rw [p.1.1] at gh4
              rw [p.2.1] at gh11
              rw [p.1.1] at gh12
              rw [p.2.1] at gh13
              exact run_M_pushOf_r (ms_pop2 h hs1).1 (by have := (ms_pop2 h hs1).2.2; omega) hcd (by omega) (rl_1 (by omega) p.1.2) (rl_1 (by omega) p.2.2) (fun t h1 h2 => k t (by
    by_cases hq : c = 13
    · rw [of_c hq (by omega) (by omega)]; exact h1 hq
    · rw [of_r hq (by omega) (by omega)]; exact h2 hq))
            · refine z_lload (i := 7) (q := 1) (pc' := 265) ⟨by decide +kernel, rfl⟩ rfl ?_
              refine w_invS (Z := Y_M_ofWhole) (idx := 533) (As := [.long (σ1.2 152 (S.length + 1))]) (rest := []) (pc' := 268) cl_13_533 rfl ⟨rfl, rfl⟩ ⟨⟨by decide, by decide⟩, rfl, rfl⟩ ⟨by decide +kernel, rfl⟩ rfl rfl (Nat.le_of_ble_eq_true rfl) rfl rfl ?_
              refine cz_M_ofWhole (fun v14 hv14 => ?_)
              show Wz E Y_M_pushOf 268 [(5, .long (σ1.2 152 S.length)), (7, .long (σ1.2 152 (S.length + 1))), (4, .int (σ1.1 151 (S.length + 1))), (3, .int (σ1.1 151 S.length)), (0, .ref 110), (1, .int code), (2, .int cc)] [.long v14] σ1 K
              refine z_goto (off := 5) (tgt := 273) (pc' := 271) ⟨by decide +kernel, by decide, rfl⟩ ?_
              refine z_lstore (i := 7) (pc' := 275) ⟨by decide +kernel, rfl⟩ (by decide) rfl ?_
              show Wz E Y_M_pushOf 275 [(7, .long v14), (5, .long (σ1.2 152 S.length)), (4, .int (σ1.1 151 (S.length + 1))), (3, .int (σ1.1 151 S.length)), (0, .ref 110), (1, .int code), (2, .int cc)] [] σ1 K
              have z0L : (0 : Int64).toInt = 0 := by decide
              have z0 : (0 : Int32).toInt = 0 := by decide
              have z1 : (1 : Int32).toInt = 1 := by decide
              have gh2 := j_le_t h2
              have gh3 := j_le_t h3
              have gh4 := j_ne_f (y := 0) h4
              have gh11 := j_ne_t (y := 0) h11
              have gh12 := j_ne_t (y := 0) h12
              have gh13 := j_ne_f (y := 0) h13
              have p := (ms_pop2 h hs1).2.1
              rw [p.1.1] at gh2
              rw [p.2.1] at gh3
              rw [p.1.1] at gh4
              rw [p.2.1] at gh11
              rw [p.1.1] at gh12
              rw [p.2.1] at gh13
              exact run_M_pushOf_r (ms_pop2 h hs1).1 (by have := (ms_pop2 h hs1).2.2; omega) hcd (by omega) (rl_1 (by omega) p.1.2) (rl_0 (by omega) (p.2.2 ▸ hv14)) (fun t h1 h2 => k t (by
    by_cases hq : c = 13
    · rw [of_c hq (by omega) (by omega)]; exact h1 hq
    · rw [of_r hq (by omega) (by omega)]; exact h2 hq))
          · refine z_lload (i := 5) (q := 1) (pc' := 248) ⟨by decide +kernel, rfl⟩ rfl ?_
            refine w_invS (Z := Y_M_ofWhole) (idx := 533) (As := [.long (σ1.2 152 S.length)]) (rest := []) (pc' := 251) cl_13_533 rfl ⟨rfl, rfl⟩ ⟨⟨by decide, by decide⟩, rfl, rfl⟩ ⟨by decide +kernel, rfl⟩ rfl rfl (Nat.le_of_ble_eq_true rfl) rfl rfl ?_
            refine cz_M_ofWhole (fun v15 hv15 => ?_)
            show Wz E Y_M_pushOf 251 [(7, .long (σ1.2 152 (S.length + 1))), (5, .long (σ1.2 152 S.length)), (4, .int (σ1.1 151 (S.length + 1))), (3, .int (σ1.1 151 S.length)), (0, .ref 110), (1, .int code), (2, .int cc)] [.long v15] σ1 K
            refine z_goto (off := 5) (tgt := 256) (pc' := 254) ⟨by decide +kernel, by decide, rfl⟩ ?_
            refine z_lstore (i := 5) (pc' := 258) ⟨by decide +kernel, rfl⟩ (by decide) rfl ?_
            show Wz E Y_M_pushOf 258 [(5, .long v15), (7, .long (σ1.2 152 (S.length + 1))), (4, .int (σ1.1 151 (S.length + 1))), (3, .int (σ1.1 151 S.length)), (0, .ref 110), (1, .int code), (2, .int cc)] [] σ1 K
            refine z_iload (i := 4) (q := 2) (pc' := 260) ⟨by decide +kernel, rfl⟩ rfl ?_
            refine z_if_ne (off := 11) (tgt := 271) (pc' := 263) ⟨by decide +kernel, by decide, rfl⟩ (fun h16 => ?_) (fun h16 => ?_)
            · refine z_lload (i := 7) (q := 1) (pc' := 273) ⟨by decide +kernel, rfl⟩ rfl ?_
              refine z_lstore (i := 7) (pc' := 275) ⟨by decide +kernel, rfl⟩ (by decide) rfl ?_
              show Wz E Y_M_pushOf 275 [(7, .long (σ1.2 152 (S.length + 1))), (5, .long v15), (4, .int (σ1.1 151 (S.length + 1))), (3, .int (σ1.1 151 S.length)), (0, .ref 110), (1, .int code), (2, .int cc)] [] σ1 K
              have z0L : (0 : Int64).toInt = 0 := by decide
              have z0 : (0 : Int32).toInt = 0 := by decide
              have z1 : (1 : Int32).toInt = 1 := by decide
              have gh2 := j_le_t h2
              have gh3 := j_le_t h3
              have gh4 := j_ne_f (y := 0) h4
              have gh11 := j_ne_t (y := 0) h11
              have gh12 := j_ne_f (y := 0) h12
              have gh16 := j_ne_t (y := 0) h16
              have p := (ms_pop2 h hs1).2.1
              rw [p.1.1] at gh2
              rw [p.2.1] at gh3
              rw [p.1.1] at gh4
              rw [p.2.1] at gh11
              rw [p.1.1] at gh12
              rw [p.2.1] at gh16
              exact run_M_pushOf_r (ms_pop2 h hs1).1 (by have := (ms_pop2 h hs1).2.2; omega) hcd (by omega) (rl_0 (by omega) (p.1.2 ▸ hv15)) (rl_1 (by omega) p.2.2) (fun t h1 h2 => k t (by
    by_cases hq : c = 13
    · rw [of_c hq (by omega) (by omega)]; exact h1 hq
    · rw [of_r hq (by omega) (by omega)]; exact h2 hq))
            · refine z_lload (i := 7) (q := 1) (pc' := 265) ⟨by decide +kernel, rfl⟩ rfl ?_
              refine w_invS (Z := Y_M_ofWhole) (idx := 533) (As := [.long (σ1.2 152 (S.length + 1))]) (rest := []) (pc' := 268) cl_13_533 rfl ⟨rfl, rfl⟩ ⟨⟨by decide, by decide⟩, rfl, rfl⟩ ⟨by decide +kernel, rfl⟩ rfl rfl (Nat.le_of_ble_eq_true rfl) rfl rfl ?_
              refine cz_M_ofWhole (fun v17 hv17 => ?_)
              show Wz E Y_M_pushOf 268 [(5, .long v15), (7, .long (σ1.2 152 (S.length + 1))), (4, .int (σ1.1 151 (S.length + 1))), (3, .int (σ1.1 151 S.length)), (0, .ref 110), (1, .int code), (2, .int cc)] [.long v17] σ1 K
              refine z_goto (off := 5) (tgt := 273) (pc' := 271) ⟨by decide +kernel, by decide, rfl⟩ ?_
              refine z_lstore (i := 7) (pc' := 275) ⟨by decide +kernel, rfl⟩ (by decide) rfl ?_
              show Wz E Y_M_pushOf 275 [(7, .long v17), (5, .long v15), (4, .int (σ1.1 151 (S.length + 1))), (3, .int (σ1.1 151 S.length)), (0, .ref 110), (1, .int code), (2, .int cc)] [] σ1 K
              have z0L : (0 : Int64).toInt = 0 := by decide
              have z0 : (0 : Int32).toInt = 0 := by decide
              have z1 : (1 : Int32).toInt = 1 := by decide
              have gh2 := j_le_t h2
              have gh3 := j_le_t h3
              have gh4 := j_ne_f (y := 0) h4
              have gh11 := j_ne_t (y := 0) h11
              have gh12 := j_ne_f (y := 0) h12
              have gh16 := j_ne_f (y := 0) h16
              have p := (ms_pop2 h hs1).2.1
              rw [p.1.1] at gh2
              rw [p.2.1] at gh3
              rw [p.1.1] at gh4
              rw [p.2.1] at gh11
              rw [p.1.1] at gh12
              rw [p.2.1] at gh16
              exact run_M_pushOf_r (ms_pop2 h hs1).1 (by have := (ms_pop2 h hs1).2.2; omega) hcd (by omega) (rl_0 (by omega) (p.1.2 ▸ hv15)) (rl_0 (by omega) (p.2.2 ▸ hv17)) (fun t h1 h2 => k t (by
    by_cases hq : c = 13
    · rw [of_c hq (by omega) (by omega)]; exact h1 hq
    · rw [of_r hq (by omega) (by omega)]; exact h2 hq))
        · refine z_iload_n (f := 1) (i := 1) (q := 5) (pc' := 99) ⟨by decide +kernel, rfl⟩ rfl rfl ?_
          refine z_bipush (i := 13) (v := 13) (pc' := 101) ⟨by decide +kernel, rfl⟩ (by decide) ?_
          refine z_icmp_ne (off := 48) (tgt := 149) (pc' := 104) ⟨by decide +kernel, by decide, rfl⟩ (fun h18 => ?_) (fun h18 => ?_)
          · refine z_iload_n (f := 1) (i := 1) (q := 5) (pc' := 150) ⟨by decide +kernel, rfl⟩ rfl rfl ?_
            refine z_bipush (i := 10) (v := 10) (pc' := 152) ⟨by decide +kernel, rfl⟩ (by decide) ?_
            refine z_icmp_le (off := 21) (tgt := 173) (pc' := 155) ⟨by decide +kernel, by decide, rfl⟩ (fun h19 => ?_) (fun h19 => ?_)
            · refine z_aload_n (f := 0) (i := 0) (q := 4) (pc' := 174) ⟨by decide +kernel, rfl⟩ rfl rfl ?_
              refine z_iconst (i := 0) (v := 0) (pc' := 175) ⟨by decide +kernel, rfl⟩ (by decide) ?_
              refine z_iload_n (f := 1) (i := 1) (q := 5) (pc' := 176) ⟨by decide +kernel, rfl⟩ rfl rfl ?_
              refine z_bipush (i := 8) (v := 8) (pc' := 178) ⟨by decide +kernel, rfl⟩ (by decide) ?_
              refine z_icmp_ne (off := 11) (tgt := 189) (pc' := 181) ⟨by decide +kernel, by decide, rfl⟩ (fun h20 => ?_) (fun h20 => ?_)
              · refine z_iload_n (f := 1) (i := 1) (q := 5) (pc' := 190) ⟨by decide +kernel, rfl⟩ rfl rfl ?_
                refine z_bipush (i := 9) (v := 9) (pc' := 192) ⟨by decide +kernel, rfl⟩ (by decide) ?_
                refine z_icmp_ne (off := 11) (tgt := 203) (pc' := 195) ⟨by decide +kernel, by decide, rfl⟩ (fun h21 => ?_) (fun h21 => ?_)
                · refine z_iload_n (f := 1) (i := 1) (q := 5) (pc' := 204) ⟨by decide +kernel, rfl⟩ rfl rfl ?_
                  refine z_bipush (i := 10) (v := 10) (pc' := 206) ⟨by decide +kernel, rfl⟩ (by decide) ?_
                  refine z_icmp_ne (off := 11) (tgt := 217) (pc' := 209) ⟨by decide +kernel, by decide, rfl⟩ (fun h22 => ?_) (fun h22 => ?_)
                  · refine z_iload_n (f := 1) (i := 1) (q := 5) (pc' := 218) ⟨by decide +kernel, rfl⟩ rfl rfl ?_
                    refine z_bipush (i := 11) (v := 11) (pc' := 220) ⟨by decide +kernel, rfl⟩ (by decide) ?_
                    refine z_icmp_ne (off := 11) (tgt := 231) (pc' := 223) ⟨by decide +kernel, by decide, rfl⟩ (fun h23 => ?_) (fun h23 => ?_)
                    · refine z_lload (i := 5) (q := 1) (pc' := 233) ⟨by decide +kernel, rfl⟩ rfl ?_
                      refine z_lload (i := 7) (q := 0) (pc' := 235) ⟨by decide +kernel, rfl⟩ rfl ?_
                      refine z_lrem (pc' := 236) ⟨by decide +kernel, rfl⟩ (by exfalso; have q1 := j_le_t h19; have q2 := j_ne_t h20; have q3 := j_ne_t h21; have q4 := j_ne_t h22; have z8 : (8 : Int32).toInt = 8 := (by decide); have z9 : (9 : Int32).toInt = 9 := (by decide); have z10 : (10 : Int32).toInt = 10 := (by decide); omega) ?_
                      refine w_invV (Z := Y_M_push) (idx := 658) (kb := 110) (As := [.int 0, .long ((σ1.2 152 S.length) - (σ1.2 152 S.length) / (σ1.2 152 (S.length + 1)) * (σ1.2 152 (S.length + 1)))]) (rest := []) (pc' := 239) cl_13_658 rfl ⟨rfl, rfl⟩ kfa_110_0 rfl ⟨⟨by decide, by decide⟩, rfl, rfl⟩ ⟨by decide +kernel, rfl⟩ rfl rfl (Nat.le_of_ble_eq_true rfl) rfl rfl ?_
                      refine cz_M_push (c := 0) (ms_pop2 h hs1).1 (by have := (ms_pop2 h hs1).2.2; omega) (by decide) (fun σ24 hv24 => ?_)
                      show Wz E Y_M_pushOf 239 [(7, .long (σ1.2 152 (S.length + 1))), (5, .long (σ1.2 152 S.length)), (4, .int (σ1.1 151 (S.length + 1))), (3, .int (σ1.1 151 S.length)), (0, .ref 110), (1, .int code), (2, .int cc)] [] σ24 K
                      refine z_goto (off := 219) (tgt := 458) (pc' := 242) ⟨by decide +kernel, by decide, rfl⟩ ?_
                      refine z_vret rfl (by decide +kernel) ?_
                      have z0L : (0 : Int64).toInt = 0 := by decide
                      have z0 : (0 : Int32).toInt = 0 := by decide
                      have z1 : (1 : Int32).toInt = 1 := by decide
                      have z10 : (10 : Int32).toInt = 10 := by decide
                      have z11 : (11 : Int32).toInt = 11 := by decide
                      have z13 : (13 : Int32).toInt = 13 := by decide
                      have z8 : (8 : Int32).toInt = 8 := by decide
                      have z9 : (9 : Int32).toInt = 9 := by decide
                      have gh2 := j_le_t h2
                      have gh3 := j_le_t h3
                      have gh4 := j_ne_f (y := 0) h4
                      have gh11 := j_ne_f (y := 0) h11
                      have gh18 := j_ne_t h18
                      have gh19 := j_le_t h19
                      have gh20 := j_ne_t h20
                      have gh21 := j_ne_t h21
                      have gh22 := j_ne_t h22
                      have gh23 := j_ne_t h23
                      have p := (ms_pop2 h hs1).2.1
                      rw [p.1.1] at gh2
                      rw [p.2.1] at gh3
                      rw [p.1.1] at gh4
                      rw [p.2.1] at gh11
                      have hw : x.1 = 0 ∧ y.1 = 0 := by omega
                      exact k _ (by rw [of_r (by omega) (by omega) (by omega), ← ar_w hw (by omega) p.1.2 p.2.2 (wo_12 (by omega))]; exact hv24)
                    · refine z_lload (i := 5) (q := 1) (pc' := 225) ⟨by decide +kernel, rfl⟩ rfl ?_
                      refine z_lload (i := 7) (q := 0) (pc' := 227) ⟨by decide +kernel, rfl⟩ rfl ?_
                      refine z_ldiv (pc' := 228) ⟨by decide +kernel, rfl⟩ (by exfalso; have q1 := j_le_t h19; have q2 := j_ne_t h20; have q3 := j_ne_t h21; have q4 := j_ne_t h22; have z8 : (8 : Int32).toInt = 8 := (by decide); have z9 : (9 : Int32).toInt = 9 := (by decide); have z10 : (10 : Int32).toInt = 10 := (by decide); omega) ?_
                      refine z_goto (off := 8) (tgt := 236) (pc' := 231) ⟨by decide +kernel, by decide, rfl⟩ ?_
                      refine w_invV (Z := Y_M_push) (idx := 658) (kb := 110) (As := [.int 0, .long ((σ1.2 152 S.length) / (σ1.2 152 (S.length + 1)))]) (rest := []) (pc' := 239) cl_13_658 rfl ⟨rfl, rfl⟩ kfa_110_0 rfl ⟨⟨by decide, by decide⟩, rfl, rfl⟩ ⟨by decide +kernel, rfl⟩ rfl rfl (Nat.le_of_ble_eq_true rfl) rfl rfl ?_
                      refine cz_M_push (c := 0) (ms_pop2 h hs1).1 (by have := (ms_pop2 h hs1).2.2; omega) (by decide) (fun σ25 hv25 => ?_)
                      show Wz E Y_M_pushOf 239 [(7, .long (σ1.2 152 (S.length + 1))), (5, .long (σ1.2 152 S.length)), (4, .int (σ1.1 151 (S.length + 1))), (3, .int (σ1.1 151 S.length)), (0, .ref 110), (1, .int code), (2, .int cc)] [] σ25 K
                      refine z_goto (off := 219) (tgt := 458) (pc' := 242) ⟨by decide +kernel, by decide, rfl⟩ ?_
                      refine z_vret rfl (by decide +kernel) ?_
                      have z0L : (0 : Int64).toInt = 0 := by decide
                      have z0 : (0 : Int32).toInt = 0 := by decide
                      have z1 : (1 : Int32).toInt = 1 := by decide
                      have z10 : (10 : Int32).toInt = 10 := by decide
                      have z11 : (11 : Int32).toInt = 11 := by decide
                      have z13 : (13 : Int32).toInt = 13 := by decide
                      have z8 : (8 : Int32).toInt = 8 := by decide
                      have z9 : (9 : Int32).toInt = 9 := by decide
                      have gh2 := j_le_t h2
                      have gh3 := j_le_t h3
                      have gh4 := j_ne_f (y := 0) h4
                      have gh11 := j_ne_f (y := 0) h11
                      have gh18 := j_ne_t h18
                      have gh19 := j_le_t h19
                      have gh20 := j_ne_t h20
                      have gh21 := j_ne_t h21
                      have gh22 := j_ne_t h22
                      have gh23 := j_ne_f h23
                      have p := (ms_pop2 h hs1).2.1
                      rw [p.1.1] at gh2
                      rw [p.2.1] at gh3
                      rw [p.1.1] at gh4
                      rw [p.2.1] at gh11
                      have hw : x.1 = 0 ∧ y.1 = 0 := by omega
                      exact k _ (by rw [of_r (by omega) (by omega) (by omega), ← ar_w hw (by omega) p.1.2 p.2.2 (wo_11 (by omega))]; exact hv25)
                  · refine z_lload (i := 5) (q := 1) (pc' := 211) ⟨by decide +kernel, rfl⟩ rfl ?_
                    refine z_lload (i := 7) (q := 0) (pc' := 213) ⟨by decide +kernel, rfl⟩ rfl ?_
                    refine z_lmul (pc' := 214) ⟨by decide +kernel, rfl⟩ ?_
                    refine z_goto (off := 22) (tgt := 236) (pc' := 217) ⟨by decide +kernel, by decide, rfl⟩ ?_
                    refine w_invV (Z := Y_M_push) (idx := 658) (kb := 110) (As := [.int 0, .long ((σ1.2 152 S.length) * (σ1.2 152 (S.length + 1)))]) (rest := []) (pc' := 239) cl_13_658 rfl ⟨rfl, rfl⟩ kfa_110_0 rfl ⟨⟨by decide, by decide⟩, rfl, rfl⟩ ⟨by decide +kernel, rfl⟩ rfl rfl (Nat.le_of_ble_eq_true rfl) rfl rfl ?_
                    refine cz_M_push (c := 0) (ms_pop2 h hs1).1 (by have := (ms_pop2 h hs1).2.2; omega) (by decide) (fun σ26 hv26 => ?_)
                    show Wz E Y_M_pushOf 239 [(7, .long (σ1.2 152 (S.length + 1))), (5, .long (σ1.2 152 S.length)), (4, .int (σ1.1 151 (S.length + 1))), (3, .int (σ1.1 151 S.length)), (0, .ref 110), (1, .int code), (2, .int cc)] [] σ26 K
                    refine z_goto (off := 219) (tgt := 458) (pc' := 242) ⟨by decide +kernel, by decide, rfl⟩ ?_
                    refine z_vret rfl (by decide +kernel) ?_
                    have z0L : (0 : Int64).toInt = 0 := by decide
                    have z0 : (0 : Int32).toInt = 0 := by decide
                    have z1 : (1 : Int32).toInt = 1 := by decide
                    have z10 : (10 : Int32).toInt = 10 := by decide
                    have z13 : (13 : Int32).toInt = 13 := by decide
                    have z8 : (8 : Int32).toInt = 8 := by decide
                    have z9 : (9 : Int32).toInt = 9 := by decide
                    have gh2 := j_le_t h2
                    have gh3 := j_le_t h3
                    have gh4 := j_ne_f (y := 0) h4
                    have gh11 := j_ne_f (y := 0) h11
                    have gh18 := j_ne_t h18
                    have gh19 := j_le_t h19
                    have gh20 := j_ne_t h20
                    have gh21 := j_ne_t h21
                    have gh22 := j_ne_f h22
                    have p := (ms_pop2 h hs1).2.1
                    rw [p.1.1] at gh2
                    rw [p.2.1] at gh3
                    rw [p.1.1] at gh4
                    rw [p.2.1] at gh11
                    have hw : x.1 = 0 ∧ y.1 = 0 := by omega
                    exact k _ (by rw [of_r (by omega) (by omega) (by omega), ← ar_w hw (by omega) p.1.2 p.2.2 (wo_10 (by omega))]; exact hv26)
                · refine z_lload (i := 5) (q := 1) (pc' := 197) ⟨by decide +kernel, rfl⟩ rfl ?_
                  refine z_lload (i := 7) (q := 0) (pc' := 199) ⟨by decide +kernel, rfl⟩ rfl ?_
                  refine z_lsub (pc' := 200) ⟨by decide +kernel, rfl⟩ ?_
                  refine z_goto (off := 36) (tgt := 236) (pc' := 203) ⟨by decide +kernel, by decide, rfl⟩ ?_
                  refine w_invV (Z := Y_M_push) (idx := 658) (kb := 110) (As := [.int 0, .long ((σ1.2 152 S.length) - (σ1.2 152 (S.length + 1)))]) (rest := []) (pc' := 239) cl_13_658 rfl ⟨rfl, rfl⟩ kfa_110_0 rfl ⟨⟨by decide, by decide⟩, rfl, rfl⟩ ⟨by decide +kernel, rfl⟩ rfl rfl (Nat.le_of_ble_eq_true rfl) rfl rfl ?_
                  refine cz_M_push (c := 0) (ms_pop2 h hs1).1 (by have := (ms_pop2 h hs1).2.2; omega) (by decide) (fun σ27 hv27 => ?_)
                  show Wz E Y_M_pushOf 239 [(7, .long (σ1.2 152 (S.length + 1))), (5, .long (σ1.2 152 S.length)), (4, .int (σ1.1 151 (S.length + 1))), (3, .int (σ1.1 151 S.length)), (0, .ref 110), (1, .int code), (2, .int cc)] [] σ27 K
                  refine z_goto (off := 219) (tgt := 458) (pc' := 242) ⟨by decide +kernel, by decide, rfl⟩ ?_
                  refine z_vret rfl (by decide +kernel) ?_
                  have z0L : (0 : Int64).toInt = 0 := by decide
                  have z0 : (0 : Int32).toInt = 0 := by decide
                  have z1 : (1 : Int32).toInt = 1 := by decide
                  have z10 : (10 : Int32).toInt = 10 := by decide
                  have z13 : (13 : Int32).toInt = 13 := by decide
                  have z8 : (8 : Int32).toInt = 8 := by decide
                  have z9 : (9 : Int32).toInt = 9 := by decide
                  have gh2 := j_le_t h2
                  have gh3 := j_le_t h3
                  have gh4 := j_ne_f (y := 0) h4
                  have gh11 := j_ne_f (y := 0) h11
                  have gh18 := j_ne_t h18
                  have gh19 := j_le_t h19
                  have gh20 := j_ne_t h20
                  have gh21 := j_ne_f h21
                  have p := (ms_pop2 h hs1).2.1
                  rw [p.1.1] at gh2
                  rw [p.2.1] at gh3
                  rw [p.1.1] at gh4
                  rw [p.2.1] at gh11
                  have hw : x.1 = 0 ∧ y.1 = 0 := by omega
                  exact k _ (by rw [of_r (by omega) (by omega) (by omega), ← ar_w hw (by omega) p.1.2 p.2.2 (wo_9 (by omega))]; exact hv27)
              · refine z_lload (i := 5) (q := 1) (pc' := 183) ⟨by decide +kernel, rfl⟩ rfl ?_
                refine z_lload (i := 7) (q := 0) (pc' := 185) ⟨by decide +kernel, rfl⟩ rfl ?_
                refine z_ladd (pc' := 186) ⟨by decide +kernel, rfl⟩ ?_
                refine z_goto (off := 50) (tgt := 236) (pc' := 189) ⟨by decide +kernel, by decide, rfl⟩ ?_
                refine w_invV (Z := Y_M_push) (idx := 658) (kb := 110) (As := [.int 0, .long ((σ1.2 152 S.length) + (σ1.2 152 (S.length + 1)))]) (rest := []) (pc' := 239) cl_13_658 rfl ⟨rfl, rfl⟩ kfa_110_0 rfl ⟨⟨by decide, by decide⟩, rfl, rfl⟩ ⟨by decide +kernel, rfl⟩ rfl rfl (Nat.le_of_ble_eq_true rfl) rfl rfl ?_
                refine cz_M_push (c := 0) (ms_pop2 h hs1).1 (by have := (ms_pop2 h hs1).2.2; omega) (by decide) (fun σ28 hv28 => ?_)
                show Wz E Y_M_pushOf 239 [(7, .long (σ1.2 152 (S.length + 1))), (5, .long (σ1.2 152 S.length)), (4, .int (σ1.1 151 (S.length + 1))), (3, .int (σ1.1 151 S.length)), (0, .ref 110), (1, .int code), (2, .int cc)] [] σ28 K
                refine z_goto (off := 219) (tgt := 458) (pc' := 242) ⟨by decide +kernel, by decide, rfl⟩ ?_
                refine z_vret rfl (by decide +kernel) ?_
                have z0L : (0 : Int64).toInt = 0 := by decide
                have z0 : (0 : Int32).toInt = 0 := by decide
                have z1 : (1 : Int32).toInt = 1 := by decide
                have z10 : (10 : Int32).toInt = 10 := by decide
                have z13 : (13 : Int32).toInt = 13 := by decide
                have z8 : (8 : Int32).toInt = 8 := by decide
                have gh2 := j_le_t h2
                have gh3 := j_le_t h3
                have gh4 := j_ne_f (y := 0) h4
                have gh11 := j_ne_f (y := 0) h11
                have gh18 := j_ne_t h18
                have gh19 := j_le_t h19
                have gh20 := j_ne_f h20
                have p := (ms_pop2 h hs1).2.1
                rw [p.1.1] at gh2
                rw [p.2.1] at gh3
                rw [p.1.1] at gh4
                rw [p.2.1] at gh11
                have hw : x.1 = 0 ∧ y.1 = 0 := by omega
                exact k _ (by rw [of_r (by omega) (by omega) (by omega), ← ar_w hw (by omega) p.1.2 p.2.2 (wo_8 (by omega))]; exact hv28)
            · refine z_lload (i := 7) (q := 0) (pc' := 157) ⟨by decide +kernel, rfl⟩ rfl ?_
              refine z_lconst (i := 0) (v := 0) (pc' := 158) ⟨by decide +kernel, rfl⟩ (by decide) ?_
              refine z_lcmp (pc' := 159) ⟨by decide +kernel, rfl⟩ ?_
              refine z_if_ne (off := 14) (tgt := 173) (pc' := 162) ⟨by decide +kernel, by decide, rfl⟩ (fun h29 => ?_) (fun h29 => ?_)
              · refine z_aload_n (f := 0) (i := 0) (q := 4) (pc' := 174) ⟨by decide +kernel, rfl⟩ rfl rfl ?_
                refine z_iconst (i := 0) (v := 0) (pc' := 175) ⟨by decide +kernel, rfl⟩ (by decide) ?_
                refine z_iload_n (f := 1) (i := 1) (q := 5) (pc' := 176) ⟨by decide +kernel, rfl⟩ rfl rfl ?_
                refine z_bipush (i := 8) (v := 8) (pc' := 178) ⟨by decide +kernel, rfl⟩ (by decide) ?_
                refine z_icmp_ne (off := 11) (tgt := 189) (pc' := 181) ⟨by decide +kernel, by decide, rfl⟩ (fun h30 => ?_) (fun h30 => ?_)
                · refine z_iload_n (f := 1) (i := 1) (q := 5) (pc' := 190) ⟨by decide +kernel, rfl⟩ rfl rfl ?_
                  refine z_bipush (i := 9) (v := 9) (pc' := 192) ⟨by decide +kernel, rfl⟩ (by decide) ?_
                  refine z_icmp_ne (off := 11) (tgt := 203) (pc' := 195) ⟨by decide +kernel, by decide, rfl⟩ (fun h31 => ?_) (fun h31 => ?_)
                  · refine z_iload_n (f := 1) (i := 1) (q := 5) (pc' := 204) ⟨by decide +kernel, rfl⟩ rfl rfl ?_
                    refine z_bipush (i := 10) (v := 10) (pc' := 206) ⟨by decide +kernel, rfl⟩ (by decide) ?_
                    refine z_icmp_ne (off := 11) (tgt := 217) (pc' := 209) ⟨by decide +kernel, by decide, rfl⟩ (fun h32 => ?_) (fun h32 => ?_)
                    · refine z_iload_n (f := 1) (i := 1) (q := 5) (pc' := 218) ⟨by decide +kernel, rfl⟩ rfl rfl ?_
                      refine z_bipush (i := 11) (v := 11) (pc' := 220) ⟨by decide +kernel, rfl⟩ (by decide) ?_
                      refine z_icmp_ne (off := 11) (tgt := 231) (pc' := 223) ⟨by decide +kernel, by decide, rfl⟩ (fun h33 => ?_) (fun h33 => ?_)
                      · refine z_lload (i := 5) (q := 1) (pc' := 233) ⟨by decide +kernel, rfl⟩ rfl ?_
                        refine z_lload (i := 7) (q := 0) (pc' := 235) ⟨by decide +kernel, rfl⟩ rfl ?_
                        refine z_lrem (pc' := 236) ⟨by decide +kernel, rfl⟩ (fun q => k_ne_t h29 (by rw [q])) ?_
                        refine w_invV (Z := Y_M_push) (idx := 658) (kb := 110) (As := [.int 0, .long ((σ1.2 152 S.length) - (σ1.2 152 S.length) / (σ1.2 152 (S.length + 1)) * (σ1.2 152 (S.length + 1)))]) (rest := []) (pc' := 239) cl_13_658 rfl ⟨rfl, rfl⟩ kfa_110_0 rfl ⟨⟨by decide, by decide⟩, rfl, rfl⟩ ⟨by decide +kernel, rfl⟩ rfl rfl (Nat.le_of_ble_eq_true rfl) rfl rfl ?_
                        refine cz_M_push (c := 0) (ms_pop2 h hs1).1 (by have := (ms_pop2 h hs1).2.2; omega) (by decide) (fun σ34 hv34 => ?_)
                        show Wz E Y_M_pushOf 239 [(7, .long (σ1.2 152 (S.length + 1))), (5, .long (σ1.2 152 S.length)), (4, .int (σ1.1 151 (S.length + 1))), (3, .int (σ1.1 151 S.length)), (0, .ref 110), (1, .int code), (2, .int cc)] [] σ34 K
                        refine z_goto (off := 219) (tgt := 458) (pc' := 242) ⟨by decide +kernel, by decide, rfl⟩ ?_
                        refine z_vret rfl (by decide +kernel) ?_
                        have z0L : (0 : Int64).toInt = 0 := by decide
                        have z0 : (0 : Int32).toInt = 0 := by decide
                        have z1 : (1 : Int32).toInt = 1 := by decide
                        have z10 : (10 : Int32).toInt = 10 := by decide
                        have z11 : (11 : Int32).toInt = 11 := by decide
                        have z13 : (13 : Int32).toInt = 13 := by decide
                        have z8 : (8 : Int32).toInt = 8 := by decide
                        have z9 : (9 : Int32).toInt = 9 := by decide
                        have gh2 := j_le_t h2
                        have gh3 := j_le_t h3
                        have gh4 := j_ne_f (y := 0) h4
                        have gh11 := j_ne_f (y := 0) h11
                        have gh18 := j_ne_t h18
                        have gh19 := j_le_f h19
                        have gh29 := k_ne_t h29
                        have gh30 := j_ne_t h30
                        have gh31 := j_ne_t h31
                        have gh32 := j_ne_t h32
                        have gh33 := j_ne_t h33
                        have p := (ms_pop2 h hs1).2.1
                        rw [p.1.1] at gh2
                        rw [p.2.1] at gh3
                        rw [p.1.1] at gh4
                        rw [p.2.1] at gh11
                        have hw : x.1 = 0 ∧ y.1 = 0 := by omega
                        rw [p.2.2, z0L] at gh29
                        exact k _ (by rw [of_r (by omega) (by omega) (by omega), ← ar_w hw (by omega) p.1.2 p.2.2 (wo_12 (by omega))]; exact hv34)
                      · refine z_lload (i := 5) (q := 1) (pc' := 225) ⟨by decide +kernel, rfl⟩ rfl ?_
                        refine z_lload (i := 7) (q := 0) (pc' := 227) ⟨by decide +kernel, rfl⟩ rfl ?_
                        refine z_ldiv (pc' := 228) ⟨by decide +kernel, rfl⟩ (fun q => k_ne_t h29 (by rw [q])) ?_
                        refine z_goto (off := 8) (tgt := 236) (pc' := 231) ⟨by decide +kernel, by decide, rfl⟩ ?_
                        refine w_invV (Z := Y_M_push) (idx := 658) (kb := 110) (As := [.int 0, .long ((σ1.2 152 S.length) / (σ1.2 152 (S.length + 1)))]) (rest := []) (pc' := 239) cl_13_658 rfl ⟨rfl, rfl⟩ kfa_110_0 rfl ⟨⟨by decide, by decide⟩, rfl, rfl⟩ ⟨by decide +kernel, rfl⟩ rfl rfl (Nat.le_of_ble_eq_true rfl) rfl rfl ?_
                        refine cz_M_push (c := 0) (ms_pop2 h hs1).1 (by have := (ms_pop2 h hs1).2.2; omega) (by decide) (fun σ35 hv35 => ?_)
                        show Wz E Y_M_pushOf 239 [(7, .long (σ1.2 152 (S.length + 1))), (5, .long (σ1.2 152 S.length)), (4, .int (σ1.1 151 (S.length + 1))), (3, .int (σ1.1 151 S.length)), (0, .ref 110), (1, .int code), (2, .int cc)] [] σ35 K
                        refine z_goto (off := 219) (tgt := 458) (pc' := 242) ⟨by decide +kernel, by decide, rfl⟩ ?_
                        refine z_vret rfl (by decide +kernel) ?_
                        have z0L : (0 : Int64).toInt = 0 := by decide
                        have z0 : (0 : Int32).toInt = 0 := by decide
                        have z1 : (1 : Int32).toInt = 1 := by decide
                        have z10 : (10 : Int32).toInt = 10 := by decide
                        have z11 : (11 : Int32).toInt = 11 := by decide
                        have z13 : (13 : Int32).toInt = 13 := by decide
                        have z8 : (8 : Int32).toInt = 8 := by decide
                        have z9 : (9 : Int32).toInt = 9 := by decide
                        have gh2 := j_le_t h2
                        have gh3 := j_le_t h3
                        have gh4 := j_ne_f (y := 0) h4
                        have gh11 := j_ne_f (y := 0) h11
                        have gh18 := j_ne_t h18
                        have gh19 := j_le_f h19
                        have gh29 := k_ne_t h29
                        have gh30 := j_ne_t h30
                        have gh31 := j_ne_t h31
                        have gh32 := j_ne_t h32
                        have gh33 := j_ne_f h33
                        have p := (ms_pop2 h hs1).2.1
                        rw [p.1.1] at gh2
                        rw [p.2.1] at gh3
                        rw [p.1.1] at gh4
                        rw [p.2.1] at gh11
                        have hw : x.1 = 0 ∧ y.1 = 0 := by omega
                        rw [p.2.2, z0L] at gh29
                        exact k _ (by rw [of_r (by omega) (by omega) (by omega), ← ar_w hw (by omega) p.1.2 p.2.2 (wo_11 (by omega))]; exact hv35)
                    · refine z_lload (i := 5) (q := 1) (pc' := 211) ⟨by decide +kernel, rfl⟩ rfl ?_
                      refine z_lload (i := 7) (q := 0) (pc' := 213) ⟨by decide +kernel, rfl⟩ rfl ?_
                      refine z_lmul (pc' := 214) ⟨by decide +kernel, rfl⟩ ?_
                      refine z_goto (off := 22) (tgt := 236) (pc' := 217) ⟨by decide +kernel, by decide, rfl⟩ ?_
                      refine w_invV (Z := Y_M_push) (idx := 658) (kb := 110) (As := [.int 0, .long ((σ1.2 152 S.length) * (σ1.2 152 (S.length + 1)))]) (rest := []) (pc' := 239) cl_13_658 rfl ⟨rfl, rfl⟩ kfa_110_0 rfl ⟨⟨by decide, by decide⟩, rfl, rfl⟩ ⟨by decide +kernel, rfl⟩ rfl rfl (Nat.le_of_ble_eq_true rfl) rfl rfl ?_
                      refine cz_M_push (c := 0) (ms_pop2 h hs1).1 (by have := (ms_pop2 h hs1).2.2; omega) (by decide) (fun σ36 hv36 => ?_)
                      show Wz E Y_M_pushOf 239 [(7, .long (σ1.2 152 (S.length + 1))), (5, .long (σ1.2 152 S.length)), (4, .int (σ1.1 151 (S.length + 1))), (3, .int (σ1.1 151 S.length)), (0, .ref 110), (1, .int code), (2, .int cc)] [] σ36 K
                      refine z_goto (off := 219) (tgt := 458) (pc' := 242) ⟨by decide +kernel, by decide, rfl⟩ ?_
                      refine z_vret rfl (by decide +kernel) ?_
                      have z0L : (0 : Int64).toInt = 0 := by decide
                      have z0 : (0 : Int32).toInt = 0 := by decide
                      have z1 : (1 : Int32).toInt = 1 := by decide
                      have z10 : (10 : Int32).toInt = 10 := by decide
                      have z13 : (13 : Int32).toInt = 13 := by decide
                      have z8 : (8 : Int32).toInt = 8 := by decide
                      have z9 : (9 : Int32).toInt = 9 := by decide
                      have gh2 := j_le_t h2
                      have gh3 := j_le_t h3
                      have gh4 := j_ne_f (y := 0) h4
                      have gh11 := j_ne_f (y := 0) h11
                      have gh18 := j_ne_t h18
                      have gh19 := j_le_f h19
                      have gh29 := k_ne_t h29
                      have gh30 := j_ne_t h30
                      have gh31 := j_ne_t h31
                      have gh32 := j_ne_f h32
                      have p := (ms_pop2 h hs1).2.1
                      rw [p.1.1] at gh2
                      rw [p.2.1] at gh3
                      rw [p.1.1] at gh4
                      rw [p.2.1] at gh11
                      have hw : x.1 = 0 ∧ y.1 = 0 := by omega
                      rw [p.2.2, z0L] at gh29
                      exact k _ (by rw [of_r (by omega) (by omega) (by omega), ← ar_w hw (by omega) p.1.2 p.2.2 (wo_10 (by omega))]; exact hv36)
                  · refine z_lload (i := 5) (q := 1) (pc' := 197) ⟨by decide +kernel, rfl⟩ rfl ?_
                    refine z_lload (i := 7) (q := 0) (pc' := 199) ⟨by decide +kernel, rfl⟩ rfl ?_
                    refine z_lsub (pc' := 200) ⟨by decide +kernel, rfl⟩ ?_
                    refine z_goto (off := 36) (tgt := 236) (pc' := 203) ⟨by decide +kernel, by decide, rfl⟩ ?_
                    refine w_invV (Z := Y_M_push) (idx := 658) (kb := 110) (As := [.int 0, .long ((σ1.2 152 S.length) - (σ1.2 152 (S.length + 1)))]) (rest := []) (pc' := 239) cl_13_658 rfl ⟨rfl, rfl⟩ kfa_110_0 rfl ⟨⟨by decide, by decide⟩, rfl, rfl⟩ ⟨by decide +kernel, rfl⟩ rfl rfl (Nat.le_of_ble_eq_true rfl) rfl rfl ?_
                    refine cz_M_push (c := 0) (ms_pop2 h hs1).1 (by have := (ms_pop2 h hs1).2.2; omega) (by decide) (fun σ37 hv37 => ?_)
                    show Wz E Y_M_pushOf 239 [(7, .long (σ1.2 152 (S.length + 1))), (5, .long (σ1.2 152 S.length)), (4, .int (σ1.1 151 (S.length + 1))), (3, .int (σ1.1 151 S.length)), (0, .ref 110), (1, .int code), (2, .int cc)] [] σ37 K
                    refine z_goto (off := 219) (tgt := 458) (pc' := 242) ⟨by decide +kernel, by decide, rfl⟩ ?_
                    refine z_vret rfl (by decide +kernel) ?_
                    have z0L : (0 : Int64).toInt = 0 := by decide
                    have z0 : (0 : Int32).toInt = 0 := by decide
                    have z1 : (1 : Int32).toInt = 1 := by decide
                    have z10 : (10 : Int32).toInt = 10 := by decide
                    have z13 : (13 : Int32).toInt = 13 := by decide
                    have z8 : (8 : Int32).toInt = 8 := by decide
                    have z9 : (9 : Int32).toInt = 9 := by decide
                    have gh2 := j_le_t h2
                    have gh3 := j_le_t h3
                    have gh4 := j_ne_f (y := 0) h4
                    have gh11 := j_ne_f (y := 0) h11
                    have gh18 := j_ne_t h18
                    have gh19 := j_le_f h19
                    have gh29 := k_ne_t h29
                    have gh30 := j_ne_t h30
                    have gh31 := j_ne_f h31
                    have p := (ms_pop2 h hs1).2.1
                    rw [p.1.1] at gh2
                    rw [p.2.1] at gh3
                    rw [p.1.1] at gh4
                    rw [p.2.1] at gh11
                    have hw : x.1 = 0 ∧ y.1 = 0 := by omega
                    rw [p.2.2, z0L] at gh29
                    exact k _ (by rw [of_r (by omega) (by omega) (by omega), ← ar_w hw (by omega) p.1.2 p.2.2 (wo_9 (by omega))]; exact hv37)
                · refine z_lload (i := 5) (q := 1) (pc' := 183) ⟨by decide +kernel, rfl⟩ rfl ?_
                  refine z_lload (i := 7) (q := 0) (pc' := 185) ⟨by decide +kernel, rfl⟩ rfl ?_
                  refine z_ladd (pc' := 186) ⟨by decide +kernel, rfl⟩ ?_
                  refine z_goto (off := 50) (tgt := 236) (pc' := 189) ⟨by decide +kernel, by decide, rfl⟩ ?_
                  refine w_invV (Z := Y_M_push) (idx := 658) (kb := 110) (As := [.int 0, .long ((σ1.2 152 S.length) + (σ1.2 152 (S.length + 1)))]) (rest := []) (pc' := 239) cl_13_658 rfl ⟨rfl, rfl⟩ kfa_110_0 rfl ⟨⟨by decide, by decide⟩, rfl, rfl⟩ ⟨by decide +kernel, rfl⟩ rfl rfl (Nat.le_of_ble_eq_true rfl) rfl rfl ?_
                  refine cz_M_push (c := 0) (ms_pop2 h hs1).1 (by have := (ms_pop2 h hs1).2.2; omega) (by decide) (fun σ38 hv38 => ?_)
                  show Wz E Y_M_pushOf 239 [(7, .long (σ1.2 152 (S.length + 1))), (5, .long (σ1.2 152 S.length)), (4, .int (σ1.1 151 (S.length + 1))), (3, .int (σ1.1 151 S.length)), (0, .ref 110), (1, .int code), (2, .int cc)] [] σ38 K
                  refine z_goto (off := 219) (tgt := 458) (pc' := 242) ⟨by decide +kernel, by decide, rfl⟩ ?_
                  refine z_vret rfl (by decide +kernel) ?_
                  have z0L : (0 : Int64).toInt = 0 := by decide
                  have z0 : (0 : Int32).toInt = 0 := by decide
                  have z1 : (1 : Int32).toInt = 1 := by decide
                  have z10 : (10 : Int32).toInt = 10 := by decide
                  have z13 : (13 : Int32).toInt = 13 := by decide
                  have z8 : (8 : Int32).toInt = 8 := by decide
                  have gh2 := j_le_t h2
                  have gh3 := j_le_t h3
                  have gh4 := j_ne_f (y := 0) h4
                  have gh11 := j_ne_f (y := 0) h11
                  have gh18 := j_ne_t h18
                  have gh19 := j_le_f h19
                  have gh29 := k_ne_t h29
                  have gh30 := j_ne_f h30
                  have p := (ms_pop2 h hs1).2.1
                  rw [p.1.1] at gh2
                  rw [p.2.1] at gh3
                  rw [p.1.1] at gh4
                  rw [p.2.1] at gh11
                  have hw : x.1 = 0 ∧ y.1 = 0 := by omega
                  rw [p.2.2, z0L] at gh29
                  exact k _ (by rw [of_r (by omega) (by omega) (by omega), ← ar_w hw (by omega) p.1.2 p.2.2 (wo_8 (by omega))]; exact hv38)
              · refine z_aload_n (f := 0) (i := 0) (q := 4) (pc' := 163) ⟨by decide +kernel, rfl⟩ rfl rfl ?_
                refine z_iconst (i := 3) (v := 3) (pc' := 164) ⟨by decide +kernel, rfl⟩ (by decide) ?_
                refine z_ldc2 (i := 421) (v := 5) (pc' := 167) ⟨by decide +kernel, rfl⟩ k_10_175 ?_
                refine w_invV (Z := Y_M_push) (idx := 658) (kb := 110) (As := [.int 3, .long 5]) (rest := []) (pc' := 170) cl_13_658 rfl ⟨rfl, rfl⟩ kfa_110_0 rfl ⟨⟨by decide, by decide⟩, rfl, rfl⟩ ⟨by decide +kernel, rfl⟩ rfl rfl (Nat.le_of_ble_eq_true rfl) rfl rfl ?_
                refine cz_M_push (c := 3) (ms_pop2 h hs1).1 (by have := (ms_pop2 h hs1).2.2; omega) (by decide) (fun σ39 hv39 => ?_)
                show Wz E Y_M_pushOf 170 [(7, .long (σ1.2 152 (S.length + 1))), (5, .long (σ1.2 152 S.length)), (4, .int (σ1.1 151 (S.length + 1))), (3, .int (σ1.1 151 S.length)), (0, .ref 110), (1, .int code), (2, .int cc)] [] σ39 K
                refine z_goto (off := 288) (tgt := 458) (pc' := 173) ⟨by decide +kernel, by decide, rfl⟩ ?_
                refine z_vret rfl (by decide +kernel) ?_
                have z0L : (0 : Int64).toInt = 0 := by decide
                have z0 : (0 : Int32).toInt = 0 := by decide
                have z1 : (1 : Int32).toInt = 1 := by decide
                have z10 : (10 : Int32).toInt = 10 := by decide
                have z13 : (13 : Int32).toInt = 13 := by decide
                have gh2 := j_le_t h2
                have gh3 := j_le_t h3
                have gh4 := j_ne_f (y := 0) h4
                have gh11 := j_ne_f (y := 0) h11
                have gh18 := j_ne_t h18
                have gh19 := j_le_f h19
                have gh29 := k_ne_f h29
                have p := (ms_pop2 h hs1).2.1
                rw [p.1.1] at gh2
                rw [p.2.1] at gh3
                rw [p.1.1] at gh4
                rw [p.2.1] at gh11
                have hw : x.1 = 0 ∧ y.1 = 0 := by omega
                rw [p.2.2, z0L] at gh29
                exact k _ (by rw [of_r (by omega) (by omega) (by omega), ar_z hw (by omega) (by omega)]; exact hv39)
          · refine z_aload_n (f := 0) (i := 0) (q := 4) (pc' := 105) ⟨by decide +kernel, rfl⟩ rfl rfl ?_
            refine z_iload_n (f := 2) (i := 2) (q := 6) (pc' := 106) ⟨by decide +kernel, rfl⟩ rfl rfl ?_
            refine z_lload (i := 5) (q := 1) (pc' := 108) ⟨by decide +kernel, rfl⟩ rfl ?_
            refine z_lload (i := 7) (q := 0) (pc' := 110) ⟨by decide +kernel, rfl⟩ rfl ?_
            refine z_lcmp (pc' := 111) ⟨by decide +kernel, rfl⟩ ?_
            refine z_if_ge (off := 7) (tgt := 118) (pc' := 114) ⟨by decide +kernel, by decide, rfl⟩ (fun h40 => ?_) (fun h40 => ?_)
            · refine z_lload (i := 5) (q := 1) (pc' := 120) ⟨by decide +kernel, rfl⟩ rfl ?_
              refine z_lload (i := 7) (q := 0) (pc' := 122) ⟨by decide +kernel, rfl⟩ rfl ?_
              refine z_lcmp (pc' := 123) ⟨by decide +kernel, rfl⟩ ?_
              refine z_if_le (off := 7) (tgt := 130) (pc' := 126) ⟨by decide +kernel, by decide, rfl⟩ (fun h41 => ?_) (fun h41 => ?_)
              · refine z_iconst (i := 0) (v := 0) (pc' := 131) ⟨by decide +kernel, rfl⟩ (by decide) ?_
                refine w_invS (Z := Y_M_holdsFor) (idx := 666) (As := [.int cc, .int 0]) (rest := [.ref 110]) (pc' := 134) cl_13_666 rfl ⟨rfl, rfl⟩ ⟨⟨by decide, by decide⟩, rfl, rfl⟩ ⟨by decide +kernel, rfl⟩ rfl rfl (Nat.le_of_ble_eq_true rfl) rfl rfl ?_
                refine cz_M_holdsFor (fun v42 hv42 => ?_)
                show Wz E Y_M_pushOf 134 [(7, .long (σ1.2 152 (S.length + 1))), (5, .long (σ1.2 152 S.length)), (4, .int (σ1.1 151 (S.length + 1))), (3, .int (σ1.1 151 S.length)), (0, .ref 110), (1, .int code), (2, .int cc)] [.int v42, .ref 110] σ1 K
                refine z_if_eq (off := 7) (tgt := 141) (pc' := 137) ⟨by decide +kernel, by decide, rfl⟩ (fun h43 => ?_) (fun h43 => ?_)
                · refine z_iconst (i := 5) (v := 5) (pc' := 142) ⟨by decide +kernel, rfl⟩ (by decide) ?_
                  refine z_lconst (i := 0) (v := 0) (pc' := 143) ⟨by decide +kernel, rfl⟩ (by decide) ?_
                  refine w_invV (Z := Y_M_push) (idx := 658) (kb := 110) (As := [.int 5, .long 0]) (rest := []) (pc' := 146) cl_13_658 rfl ⟨rfl, rfl⟩ kfa_110_0 rfl ⟨⟨by decide, by decide⟩, rfl, rfl⟩ ⟨by decide +kernel, rfl⟩ rfl rfl (Nat.le_of_ble_eq_true rfl) rfl rfl ?_
                  refine cz_M_push (c := 5) (ms_pop2 h hs1).1 (by have := (ms_pop2 h hs1).2.2; omega) (by decide) (fun σ44 hv44 => ?_)
                  show Wz E Y_M_pushOf 146 [(7, .long (σ1.2 152 (S.length + 1))), (5, .long (σ1.2 152 S.length)), (4, .int (σ1.1 151 (S.length + 1))), (3, .int (σ1.1 151 S.length)), (0, .ref 110), (1, .int code), (2, .int cc)] [] σ44 K
                  refine z_goto (off := 312) (tgt := 458) (pc' := 149) ⟨by decide +kernel, by decide, rfl⟩ ?_
                  refine z_vret rfl (by decide +kernel) ?_
                  have z0L : (0 : Int64).toInt = 0 := by decide
                  have z0 : (0 : Int32).toInt = 0 := by decide
                  have z1 : (1 : Int32).toInt = 1 := by decide
                  have z13 : (13 : Int32).toInt = 13 := by decide
                  have gh2 := j_le_t h2
                  have gh3 := j_le_t h3
                  have gh4 := j_ne_f (y := 0) h4
                  have gh11 := j_ne_f (y := 0) h11
                  have gh18 := j_ne_f h18
                  have gh40 := k_ge_t h40
                  have gh41 := k_le_t h41
                  have gh43 := p3_f hv42 h43
                  have p := (ms_pop2 h hs1).2.1
                  rw [p.1.1] at gh2
                  rw [p.2.1] at gh3
                  rw [p.1.1] at gh4
                  rw [p.2.1] at gh11
                  have hw : x.1 = 0 ∧ y.1 = 0 := by omega
                  rw [p.1.2, p.2.2] at gh40
                  rw [p.1.2, p.2.2] at gh41
                  exact k _ (by rw [of_c (by omega) (by omega) (by omega), ← cp_wf hw (cmp_eq (by omega)) gh43]; exact hv44)
                · refine z_iconst (i := 4) (v := 4) (pc' := 138) ⟨by decide +kernel, rfl⟩ (by decide) ?_
                  refine z_goto (off := 4) (tgt := 142) (pc' := 141) ⟨by decide +kernel, by decide, rfl⟩ ?_
                  refine z_lconst (i := 0) (v := 0) (pc' := 143) ⟨by decide +kernel, rfl⟩ (by decide) ?_
                  refine w_invV (Z := Y_M_push) (idx := 658) (kb := 110) (As := [.int 4, .long 0]) (rest := []) (pc' := 146) cl_13_658 rfl ⟨rfl, rfl⟩ kfa_110_0 rfl ⟨⟨by decide, by decide⟩, rfl, rfl⟩ ⟨by decide +kernel, rfl⟩ rfl rfl (Nat.le_of_ble_eq_true rfl) rfl rfl ?_
                  refine cz_M_push (c := 4) (ms_pop2 h hs1).1 (by have := (ms_pop2 h hs1).2.2; omega) (by decide) (fun σ45 hv45 => ?_)
                  show Wz E Y_M_pushOf 146 [(7, .long (σ1.2 152 (S.length + 1))), (5, .long (σ1.2 152 S.length)), (4, .int (σ1.1 151 (S.length + 1))), (3, .int (σ1.1 151 S.length)), (0, .ref 110), (1, .int code), (2, .int cc)] [] σ45 K
                  refine z_goto (off := 312) (tgt := 458) (pc' := 149) ⟨by decide +kernel, by decide, rfl⟩ ?_
                  refine z_vret rfl (by decide +kernel) ?_
                  have z0L : (0 : Int64).toInt = 0 := by decide
                  have z0 : (0 : Int32).toInt = 0 := by decide
                  have z1 : (1 : Int32).toInt = 1 := by decide
                  have z13 : (13 : Int32).toInt = 13 := by decide
                  have gh2 := j_le_t h2
                  have gh3 := j_le_t h3
                  have gh4 := j_ne_f (y := 0) h4
                  have gh11 := j_ne_f (y := 0) h11
                  have gh18 := j_ne_f h18
                  have gh40 := k_ge_t h40
                  have gh41 := k_le_t h41
                  have gh43 := p3_t hv42 h43
                  have p := (ms_pop2 h hs1).2.1
                  rw [p.1.1] at gh2
                  rw [p.2.1] at gh3
                  rw [p.1.1] at gh4
                  rw [p.2.1] at gh11
                  have hw : x.1 = 0 ∧ y.1 = 0 := by omega
                  rw [p.1.2, p.2.2] at gh40
                  rw [p.1.2, p.2.2] at gh41
                  exact k _ (by rw [of_c (by omega) (by omega) (by omega), ← cp_wt hw (cmp_eq (by omega)) gh43]; exact hv45)
              · refine z_iconst (i := 1) (v := 1) (pc' := 127) ⟨by decide +kernel, rfl⟩ (by decide) ?_
                refine z_goto (off := 4) (tgt := 131) (pc' := 130) ⟨by decide +kernel, by decide, rfl⟩ ?_
                refine w_invS (Z := Y_M_holdsFor) (idx := 666) (As := [.int cc, .int 1]) (rest := [.ref 110]) (pc' := 134) cl_13_666 rfl ⟨rfl, rfl⟩ ⟨⟨by decide, by decide⟩, rfl, rfl⟩ ⟨by decide +kernel, rfl⟩ rfl rfl (Nat.le_of_ble_eq_true rfl) rfl rfl ?_
                refine cz_M_holdsFor (fun v46 hv46 => ?_)
                show Wz E Y_M_pushOf 134 [(7, .long (σ1.2 152 (S.length + 1))), (5, .long (σ1.2 152 S.length)), (4, .int (σ1.1 151 (S.length + 1))), (3, .int (σ1.1 151 S.length)), (0, .ref 110), (1, .int code), (2, .int cc)] [.int v46, .ref 110] σ1 K
                refine z_if_eq (off := 7) (tgt := 141) (pc' := 137) ⟨by decide +kernel, by decide, rfl⟩ (fun h47 => ?_) (fun h47 => ?_)
                · refine z_iconst (i := 5) (v := 5) (pc' := 142) ⟨by decide +kernel, rfl⟩ (by decide) ?_
                  refine z_lconst (i := 0) (v := 0) (pc' := 143) ⟨by decide +kernel, rfl⟩ (by decide) ?_
                  refine w_invV (Z := Y_M_push) (idx := 658) (kb := 110) (As := [.int 5, .long 0]) (rest := []) (pc' := 146) cl_13_658 rfl ⟨rfl, rfl⟩ kfa_110_0 rfl ⟨⟨by decide, by decide⟩, rfl, rfl⟩ ⟨by decide +kernel, rfl⟩ rfl rfl (Nat.le_of_ble_eq_true rfl) rfl rfl ?_
                  refine cz_M_push (c := 5) (ms_pop2 h hs1).1 (by have := (ms_pop2 h hs1).2.2; omega) (by decide) (fun σ48 hv48 => ?_)
                  show Wz E Y_M_pushOf 146 [(7, .long (σ1.2 152 (S.length + 1))), (5, .long (σ1.2 152 S.length)), (4, .int (σ1.1 151 (S.length + 1))), (3, .int (σ1.1 151 S.length)), (0, .ref 110), (1, .int code), (2, .int cc)] [] σ48 K
                  refine z_goto (off := 312) (tgt := 458) (pc' := 149) ⟨by decide +kernel, by decide, rfl⟩ ?_
                  refine z_vret rfl (by decide +kernel) ?_
                  have z0L : (0 : Int64).toInt = 0 := by decide
                  have z0 : (0 : Int32).toInt = 0 := by decide
                  have z1 : (1 : Int32).toInt = 1 := by decide
                  have z13 : (13 : Int32).toInt = 13 := by decide
                  have gh2 := j_le_t h2
                  have gh3 := j_le_t h3
                  have gh4 := j_ne_f (y := 0) h4
                  have gh11 := j_ne_f (y := 0) h11
                  have gh18 := j_ne_f h18
                  have gh40 := k_ge_t h40
                  have gh41 := k_le_f h41
                  have gh47 := p3_f hv46 h47
                  have p := (ms_pop2 h hs1).2.1
                  rw [p.1.1] at gh2
                  rw [p.2.1] at gh3
                  rw [p.1.1] at gh4
                  rw [p.2.1] at gh11
                  have hw : x.1 = 0 ∧ y.1 = 0 := by omega
                  rw [p.1.2, p.2.2] at gh40
                  rw [p.1.2, p.2.2] at gh41
                  exact k _ (by rw [of_c (by omega) (by omega) (by omega), ← cp_wf hw (cmp_gt (by omega)) gh47]; exact hv48)
                · refine z_iconst (i := 4) (v := 4) (pc' := 138) ⟨by decide +kernel, rfl⟩ (by decide) ?_
                  refine z_goto (off := 4) (tgt := 142) (pc' := 141) ⟨by decide +kernel, by decide, rfl⟩ ?_
                  refine z_lconst (i := 0) (v := 0) (pc' := 143) ⟨by decide +kernel, rfl⟩ (by decide) ?_
                  refine w_invV (Z := Y_M_push) (idx := 658) (kb := 110) (As := [.int 4, .long 0]) (rest := []) (pc' := 146) cl_13_658 rfl ⟨rfl, rfl⟩ kfa_110_0 rfl ⟨⟨by decide, by decide⟩, rfl, rfl⟩ ⟨by decide +kernel, rfl⟩ rfl rfl (Nat.le_of_ble_eq_true rfl) rfl rfl ?_
                  refine cz_M_push (c := 4) (ms_pop2 h hs1).1 (by have := (ms_pop2 h hs1).2.2; omega) (by decide) (fun σ49 hv49 => ?_)
                  show Wz E Y_M_pushOf 146 [(7, .long (σ1.2 152 (S.length + 1))), (5, .long (σ1.2 152 S.length)), (4, .int (σ1.1 151 (S.length + 1))), (3, .int (σ1.1 151 S.length)), (0, .ref 110), (1, .int code), (2, .int cc)] [] σ49 K
                  refine z_goto (off := 312) (tgt := 458) (pc' := 149) ⟨by decide +kernel, by decide, rfl⟩ ?_
                  refine z_vret rfl (by decide +kernel) ?_
                  have z0L : (0 : Int64).toInt = 0 := by decide
                  have z0 : (0 : Int32).toInt = 0 := by decide
                  have z1 : (1 : Int32).toInt = 1 := by decide
                  have z13 : (13 : Int32).toInt = 13 := by decide
                  have gh2 := j_le_t h2
                  have gh3 := j_le_t h3
                  have gh4 := j_ne_f (y := 0) h4
                  have gh11 := j_ne_f (y := 0) h11
                  have gh18 := j_ne_f h18
                  have gh40 := k_ge_t h40
                  have gh41 := k_le_f h41
                  have gh47 := p3_t hv46 h47
                  have p := (ms_pop2 h hs1).2.1
                  rw [p.1.1] at gh2
                  rw [p.2.1] at gh3
                  rw [p.1.1] at gh4
                  rw [p.2.1] at gh11
                  have hw : x.1 = 0 ∧ y.1 = 0 := by omega
                  rw [p.1.2, p.2.2] at gh40
                  rw [p.1.2, p.2.2] at gh41
                  exact k _ (by rw [of_c (by omega) (by omega) (by omega), ← cp_wt hw (cmp_gt (by omega)) gh47]; exact hv49)
            · refine z_iconst (i := (-1)) (v := (-1)) (pc' := 115) ⟨by decide +kernel, rfl⟩ (by decide) ?_
              refine z_goto (off := 16) (tgt := 131) (pc' := 118) ⟨by decide +kernel, by decide, rfl⟩ ?_
              refine w_invS (Z := Y_M_holdsFor) (idx := 666) (As := [.int cc, .int (-1)]) (rest := [.ref 110]) (pc' := 134) cl_13_666 rfl ⟨rfl, rfl⟩ ⟨⟨by decide, by decide⟩, rfl, rfl⟩ ⟨by decide +kernel, rfl⟩ rfl rfl (Nat.le_of_ble_eq_true rfl) rfl rfl ?_
              refine cz_M_holdsFor (fun v50 hv50 => ?_)
              show Wz E Y_M_pushOf 134 [(7, .long (σ1.2 152 (S.length + 1))), (5, .long (σ1.2 152 S.length)), (4, .int (σ1.1 151 (S.length + 1))), (3, .int (σ1.1 151 S.length)), (0, .ref 110), (1, .int code), (2, .int cc)] [.int v50, .ref 110] σ1 K
              refine z_if_eq (off := 7) (tgt := 141) (pc' := 137) ⟨by decide +kernel, by decide, rfl⟩ (fun h51 => ?_) (fun h51 => ?_)
              · refine z_iconst (i := 5) (v := 5) (pc' := 142) ⟨by decide +kernel, rfl⟩ (by decide) ?_
                refine z_lconst (i := 0) (v := 0) (pc' := 143) ⟨by decide +kernel, rfl⟩ (by decide) ?_
                refine w_invV (Z := Y_M_push) (idx := 658) (kb := 110) (As := [.int 5, .long 0]) (rest := []) (pc' := 146) cl_13_658 rfl ⟨rfl, rfl⟩ kfa_110_0 rfl ⟨⟨by decide, by decide⟩, rfl, rfl⟩ ⟨by decide +kernel, rfl⟩ rfl rfl (Nat.le_of_ble_eq_true rfl) rfl rfl ?_
                refine cz_M_push (c := 5) (ms_pop2 h hs1).1 (by have := (ms_pop2 h hs1).2.2; omega) (by decide) (fun σ52 hv52 => ?_)
                show Wz E Y_M_pushOf 146 [(7, .long (σ1.2 152 (S.length + 1))), (5, .long (σ1.2 152 S.length)), (4, .int (σ1.1 151 (S.length + 1))), (3, .int (σ1.1 151 S.length)), (0, .ref 110), (1, .int code), (2, .int cc)] [] σ52 K
                refine z_goto (off := 312) (tgt := 458) (pc' := 149) ⟨by decide +kernel, by decide, rfl⟩ ?_
                refine z_vret rfl (by decide +kernel) ?_
                have z0L : (0 : Int64).toInt = 0 := by decide
                have z0 : (0 : Int32).toInt = 0 := by decide
                have z1 : (1 : Int32).toInt = 1 := by decide
                have z13 : (13 : Int32).toInt = 13 := by decide
                have gh2 := j_le_t h2
                have gh3 := j_le_t h3
                have gh4 := j_ne_f (y := 0) h4
                have gh11 := j_ne_f (y := 0) h11
                have gh18 := j_ne_f h18
                have gh40 := k_ge_f h40
                have gh51 := p3_f hv50 h51
                have p := (ms_pop2 h hs1).2.1
                rw [p.1.1] at gh2
                rw [p.2.1] at gh3
                rw [p.1.1] at gh4
                rw [p.2.1] at gh11
                have hw : x.1 = 0 ∧ y.1 = 0 := by omega
                rw [p.1.2, p.2.2] at gh40
                exact k _ (by rw [of_c (by omega) (by omega) (by omega), ← cp_wf hw (cmp_lt (by omega)) gh51]; exact hv52)
              · refine z_iconst (i := 4) (v := 4) (pc' := 138) ⟨by decide +kernel, rfl⟩ (by decide) ?_
                refine z_goto (off := 4) (tgt := 142) (pc' := 141) ⟨by decide +kernel, by decide, rfl⟩ ?_
                refine z_lconst (i := 0) (v := 0) (pc' := 143) ⟨by decide +kernel, rfl⟩ (by decide) ?_
                refine w_invV (Z := Y_M_push) (idx := 658) (kb := 110) (As := [.int 4, .long 0]) (rest := []) (pc' := 146) cl_13_658 rfl ⟨rfl, rfl⟩ kfa_110_0 rfl ⟨⟨by decide, by decide⟩, rfl, rfl⟩ ⟨by decide +kernel, rfl⟩ rfl rfl (Nat.le_of_ble_eq_true rfl) rfl rfl ?_
                refine cz_M_push (c := 4) (ms_pop2 h hs1).1 (by have := (ms_pop2 h hs1).2.2; omega) (by decide) (fun σ53 hv53 => ?_)
                show Wz E Y_M_pushOf 146 [(7, .long (σ1.2 152 (S.length + 1))), (5, .long (σ1.2 152 S.length)), (4, .int (σ1.1 151 (S.length + 1))), (3, .int (σ1.1 151 S.length)), (0, .ref 110), (1, .int code), (2, .int cc)] [] σ53 K
                refine z_goto (off := 312) (tgt := 458) (pc' := 149) ⟨by decide +kernel, by decide, rfl⟩ ?_
                refine z_vret rfl (by decide +kernel) ?_
                have z0L : (0 : Int64).toInt = 0 := by decide
                have z0 : (0 : Int32).toInt = 0 := by decide
                have z1 : (1 : Int32).toInt = 1 := by decide
                have z13 : (13 : Int32).toInt = 13 := by decide
                have gh2 := j_le_t h2
                have gh3 := j_le_t h3
                have gh4 := j_ne_f (y := 0) h4
                have gh11 := j_ne_f (y := 0) h11
                have gh18 := j_ne_f h18
                have gh40 := k_ge_f h40
                have gh51 := p3_t hv50 h51
                have p := (ms_pop2 h hs1).2.1
                rw [p.1.1] at gh2
                rw [p.2.1] at gh3
                rw [p.1.1] at gh4
                rw [p.2.1] at gh11
                have hw : x.1 = 0 ∧ y.1 = 0 := by omega
                rw [p.1.2, p.2.2] at gh40
                exact k _ (by rw [of_c (by omega) (by omega) (by omega), ← cp_wt hw (cmp_lt (by omega)) gh51]; exact hv53)
    · refine z_aload_n (f := 0) (i := 0) (q := 4) (pc' := 79) ⟨by decide +kernel, rfl⟩ rfl rfl ?_
      refine z_iload (i := 4) (q := 2) (pc' := 81) ⟨by decide +kernel, rfl⟩ rfl ?_
      refine z_lload (i := 7) (q := 0) (pc' := 83) ⟨by decide +kernel, rfl⟩ rfl ?_
      refine w_invV (Z := Y_M_push) (idx := 658) (kb := 110) (As := [.int (σ1.1 151 (S.length + 1)), .long (σ1.2 152 (S.length + 1))]) (rest := []) (pc' := 86) cl_13_658 rfl ⟨rfl, rfl⟩ kfa_110_0 rfl ⟨⟨by decide, by decide⟩, rfl, rfl⟩ ⟨by decide +kernel, rfl⟩ rfl rfl (Nat.le_of_ble_eq_true rfl) rfl rfl ?_
      refine cz_M_push (c := y.1) (ms_pop2 h hs1).1 (by have := (ms_pop2 h hs1).2.2; omega) ((ms_pop2 h hs1).2.1.2.1) (fun σ54 hv54 => ?_)
      show Wz E Y_M_pushOf 86 [(7, .long (σ1.2 152 (S.length + 1))), (5, .long (σ1.2 152 S.length)), (4, .int (σ1.1 151 (S.length + 1))), (3, .int (σ1.1 151 S.length)), (0, .ref 110), (1, .int code), (2, .int cc)] [] σ54 K
      refine z_goto (off := 372) (tgt := 458) (pc' := 89) ⟨by decide +kernel, by decide, rfl⟩ ?_
      refine z_vret rfl (by decide +kernel) ?_
      have z0L : (0 : Int64).toInt = 0 := by decide
      have z1 : (1 : Int32).toInt = 1 := by decide
      have gh2 := j_le_t h2
      have gh3 := j_le_f h3
      have p := (ms_pop2 h hs1).2.1
      rw [p.1.1] at gh2
      rw [p.2.1] at gh3
      exact k _ (by rw [of_b (by omega) (by omega)]; rw [ent (x := y) rfl p.2.2] at hv54; exact hv54)
  · refine z_aload_n (f := 0) (i := 0) (q := 4) (pc' := 63) ⟨by decide +kernel, rfl⟩ rfl rfl ?_
    refine z_iload_n (f := 3) (i := 3) (q := 3) (pc' := 64) ⟨by decide +kernel, rfl⟩ rfl rfl ?_
    refine z_lload (i := 5) (q := 1) (pc' := 66) ⟨by decide +kernel, rfl⟩ rfl ?_
    refine w_invV (Z := Y_M_push) (idx := 658) (kb := 110) (As := [.int (σ1.1 151 S.length), .long (σ1.2 152 S.length)]) (rest := []) (pc' := 69) cl_13_658 rfl ⟨rfl, rfl⟩ kfa_110_0 rfl ⟨⟨by decide, by decide⟩, rfl, rfl⟩ ⟨by decide +kernel, rfl⟩ rfl rfl (Nat.le_of_ble_eq_true rfl) rfl rfl ?_
    refine cz_M_push (c := x.1) (ms_pop2 h hs1).1 (by have := (ms_pop2 h hs1).2.2; omega) ((ms_pop2 h hs1).2.1.1.1) (fun σ55 hv55 => ?_)
    show Wz E Y_M_pushOf 69 [(7, .long (σ1.2 152 (S.length + 1))), (5, .long (σ1.2 152 S.length)), (4, .int (σ1.1 151 (S.length + 1))), (3, .int (σ1.1 151 S.length)), (0, .ref 110), (1, .int code), (2, .int cc)] [] σ55 K
    refine z_goto (off := 389) (tgt := 458) (pc' := 72) ⟨by decide +kernel, by decide, rfl⟩ ?_
    refine z_vret rfl (by decide +kernel) ?_
    have z0L : (0 : Int64).toInt = 0 := by decide
    have z1 : (1 : Int32).toInt = 1 := by decide
    have gh2 := j_le_f h2
    have p := (ms_pop2 h hs1).2.1
    rw [p.1.1] at gh2
    exact k _ (by rw [of_a (by omega)]; rw [ent (x := x) rfl p.1.2] at hv55; exact hv55)
theorem cz_M_pushOf {E : xV} {σ τ : zS} {K : zKt} {S : List EntJ} {x y : EntJ} {code cc : Int32} {c : Nat} (h : MsJ σ τ (y :: x :: S)) (hcd : code.toInt = (c : Int)) (hc8 : 8 ≤ c) (hc13 : c ≤ 13) (k : ∀ τ' : zS, MsJ σ τ' (ofJ c cc.toInt x y :: S) → K none τ') : Cz E Y_M_pushOf [.ref 110, .int code, .int cc] τ K := z_entry (by decide) (fun a => by rw [sl_len]; exact Nat.le_of_ble_eq_true rfl) rfl (run_M_pushOf h hcd hc8 hc13 k)
theorem run_M_pushJoined {E : xV} {σ τ : zS} {K : zKt} {S : List EntJ} {x y : EntJ} {b : Int32} (h : MsJ σ τ (y :: x :: S)) (k : ∀ τ' : zS, MsJ σ τ' ((if b = 0 then jn9 5 4 x y else jn9 4 5 x y) :: S) → K none τ') : Wz E Y_M_pushJoined 0 [(0, .ref 110), (1, .int b)] [] τ K := by
  refine z_aload_n (f := 0) (i := 0) (q := 0) (pc' := 1) ⟨by decide +kernel, rfl⟩ rfl rfl ?_
  refine z_dupr (pc' := 2) ⟨by decide +kernel, rfl⟩ ?_
  refine w_geti (k := 110) (j := 64) (idx := 655) (pc' := 5) fxe_13_655 kfa_110_64 ⟨by decide +kernel, rfl⟩ ?_
  refine z_iconst (i := 2) (v := 2) (pc' := 6) ⟨by decide +kernel, rfl⟩ (by decide) ?_
  refine z_isub (pc' := 7) ⟨by decide +kernel, rfl⟩ ?_
  refine w_puti (k := 110) (j := 64) (idx := 655) (pc' := 10) fxi_13_655 kfa_110_64 ⟨by decide +kernel, rfl⟩ ?_
  generalize hs1 : zI τ 110 64 ((τ.1 110 64) - 2) = σ1
  refine z_aload_n (f := 0) (i := 0) (q := 0) (pc' := 11) ⟨by decide +kernel, rfl⟩ rfl rfl ?_
  refine w_getr (k := 110) (j := 62) (idx := 136) (pc' := 14) fxe_13_136 kfa_110_62 ⟨by decide +kernel, rfl⟩ ?_
  refine z_aload_n (f := 0) (i := 0) (q := 0) (pc' := 15) ⟨by decide +kernel, rfl⟩ rfl rfl ?_
  refine w_geti (k := 110) (j := 64) (idx := 655) (pc' := 18) fxe_13_655 kfa_110_64 ⟨by decide +kernel, rfl⟩ ?_
  refine w_iald (k := 151) (n := S.length) (pc' := 19) kaa_151 ((ms_pop2 h hs1).1.2.1) (by have := (ms_pop2 h hs1).2.2; omega) ⟨by decide +kernel, rfl⟩ ?_
  refine z_istore_n (f := 2) (i := 2) (pc' := 20) ⟨by decide +kernel, rfl⟩ rfl (by decide) rfl ?_
  show Wz E Y_M_pushJoined 20 [(2, .int (σ1.1 151 S.length)), (0, .ref 110), (1, .int b)] [] σ1 K
  refine z_aload_n (f := 0) (i := 0) (q := 1) (pc' := 21) ⟨by decide +kernel, rfl⟩ rfl rfl ?_
  refine w_getr (k := 110) (j := 62) (idx := 136) (pc' := 24) fxe_13_136 kfa_110_62 ⟨by decide +kernel, rfl⟩ ?_
  refine z_aload_n (f := 0) (i := 0) (q := 1) (pc' := 25) ⟨by decide +kernel, rfl⟩ rfl rfl ?_
  refine w_geti (k := 110) (j := 64) (idx := 655) (pc' := 28) fxe_13_655 kfa_110_64 ⟨by decide +kernel, rfl⟩ ?_
  refine z_iconst (i := 1) (v := 1) (pc' := 29) ⟨by decide +kernel, rfl⟩ (by decide) ?_
  refine z_iadd (pc' := 30) ⟨by decide +kernel, rfl⟩ ?_
  refine w_iald (k := 151) (n := (S.length + 1)) (pc' := 31) kaa_151 ((ms_pop2 h hs1).t1) ((ms_pop2 h hs1).2.2) ⟨by decide +kernel, rfl⟩ ?_
  refine z_istore_n (f := 3) (i := 3) (pc' := 32) ⟨by decide +kernel, rfl⟩ rfl (by decide) rfl ?_
  show Wz E Y_M_pushJoined 32 [(3, .int (σ1.1 151 (S.length + 1))), (2, .int (σ1.1 151 S.length)), (0, .ref 110), (1, .int b)] [] σ1 K
  refine z_iload_n (f := 2) (i := 2) (q := 1) (pc' := 33) ⟨by decide +kernel, rfl⟩ rfl rfl ?_
  refine z_iconst (i := 3) (v := 3) (pc' := 34) ⟨by decide +kernel, rfl⟩ (by decide) ?_
  refine z_icmp_eq (off := 16) (tgt := 50) (pc' := 37) ⟨by decide +kernel, by decide, rfl⟩ (fun h2 => ?_) (fun h2 => ?_)
  · refine z_aload_n (f := 0) (i := 0) (q := 2) (pc' := 51) ⟨by decide +kernel, rfl⟩ rfl rfl ?_
    refine z_iload_n (f := 2) (i := 2) (q := 1) (pc' := 52) ⟨by decide +kernel, rfl⟩ rfl rfl ?_
    refine z_aload_n (f := 0) (i := 0) (q := 2) (pc' := 53) ⟨by decide +kernel, rfl⟩ rfl rfl ?_
    refine w_getr (k := 110) (j := 63) (idx := 139) (pc' := 56) fxe_13_139 kfa_110_63 ⟨by decide +kernel, rfl⟩ ?_
    refine z_aload_n (f := 0) (i := 0) (q := 2) (pc' := 57) ⟨by decide +kernel, rfl⟩ rfl rfl ?_
    refine w_geti (k := 110) (j := 64) (idx := 655) (pc' := 60) fxe_13_655 kfa_110_64 ⟨by decide +kernel, rfl⟩ ?_
    refine w_lald (k := 152) (n := S.length) (pc' := 61) kaa_152 ((ms_pop2 h hs1).1.2.1) (by have := (ms_pop2 h hs1).2.2; omega) ⟨by decide +kernel, rfl⟩ ?_
    refine w_invV (Z := Y_M_push) (idx := 658) (kb := 110) (As := [.int (σ1.1 151 S.length), .long (σ1.2 152 S.length)]) (rest := []) (pc' := 64) cl_13_658 rfl ⟨rfl, rfl⟩ kfa_110_0 rfl ⟨⟨by decide, by decide⟩, rfl, rfl⟩ ⟨by decide +kernel, rfl⟩ rfl rfl (Nat.le_of_ble_eq_true rfl) rfl rfl ?_
    refine cz_M_push (c := x.1) (ms_pop2 h hs1).1 (by have := (ms_pop2 h hs1).2.2; omega) ((ms_pop2 h hs1).2.1.1.1) (fun σ3 hv3 => ?_)
    show Wz E Y_M_pushJoined 64 [(3, .int (σ1.1 151 (S.length + 1))), (2, .int (σ1.1 151 S.length)), (0, .ref 110), (1, .int b)] [] σ3 K
    refine z_goto (off := 46) (tgt := 110) (pc' := 67) ⟨by decide +kernel, by decide, rfl⟩ ?_
    refine z_vret rfl (by decide +kernel) ?_
    have z0L : (0 : Int64).toInt = 0 := by decide
    have z3 : (3 : Int32).toInt = 3 := by decide
    have gh2 := j_eq_t h2
    have p := (ms_pop2 h hs1).2.1
    rw [p.1.1] at gh2
    by_cases hb : b = 0
    · have hb1 : b.toInt = 0 := by rw [hb]; decide
      rw [ent (x := x) rfl p.1.2] at hv3; exact k _ (by rw [if_pos hb, jn_a (by omega)]; exact hv3)
    · have hb1 : b.toInt ≠ 0 := fun q => hb (Int32.toInt_inj.mp (by rw [q]; decide))
      rw [ent (x := x) rfl p.1.2] at hv3; exact k _ (by rw [if_neg hb, jn_a (by omega)]; exact hv3)
  · refine z_iload_n (f := 2) (i := 2) (q := 1) (pc' := 38) ⟨by decide +kernel, rfl⟩ rfl rfl ?_
    refine z_iload_n (f := 1) (i := 1) (q := 3) (pc' := 39) ⟨by decide +kernel, rfl⟩ rfl rfl ?_
    refine z_if_eq (off := 7) (tgt := 46) (pc' := 42) ⟨by decide +kernel, by decide, rfl⟩ (fun h4 => ?_) (fun h4 => ?_)
    · refine z_iconst (i := 4) (v := 4) (pc' := 47) ⟨by decide +kernel, rfl⟩ (by decide) ?_
      refine z_icmp_ne (off := 20) (tgt := 67) (pc' := 50) ⟨by decide +kernel, by decide, rfl⟩ (fun h5 => ?_) (fun h5 => ?_)
      · refine z_iload_n (f := 2) (i := 2) (q := 1) (pc' := 68) ⟨by decide +kernel, rfl⟩ rfl rfl ?_
        refine z_iconst (i := 2) (v := 2) (pc' := 69) ⟨by decide +kernel, rfl⟩ (by decide) ?_
        refine z_icmp_ne (off := 25) (tgt := 94) (pc' := 72) ⟨by decide +kernel, by decide, rfl⟩ (fun h6 => ?_) (fun h6 => ?_)
        · refine z_aload_n (f := 0) (i := 0) (q := 2) (pc' := 95) ⟨by decide +kernel, rfl⟩ rfl rfl ?_
          refine z_iload_n (f := 3) (i := 3) (q := 0) (pc' := 96) ⟨by decide +kernel, rfl⟩ rfl rfl ?_
          refine z_aload_n (f := 0) (i := 0) (q := 2) (pc' := 97) ⟨by decide +kernel, rfl⟩ rfl rfl ?_
          refine w_getr (k := 110) (j := 63) (idx := 139) (pc' := 100) fxe_13_139 kfa_110_63 ⟨by decide +kernel, rfl⟩ ?_
          refine z_aload_n (f := 0) (i := 0) (q := 2) (pc' := 101) ⟨by decide +kernel, rfl⟩ rfl rfl ?_
          refine w_geti (k := 110) (j := 64) (idx := 655) (pc' := 104) fxe_13_655 kfa_110_64 ⟨by decide +kernel, rfl⟩ ?_
          refine z_iconst (i := 1) (v := 1) (pc' := 105) ⟨by decide +kernel, rfl⟩ (by decide) ?_
          refine z_iadd (pc' := 106) ⟨by decide +kernel, rfl⟩ ?_
          refine w_lald (k := 152) (n := (S.length + 1)) (pc' := 107) kaa_152 ((ms_pop2 h hs1).t1) ((ms_pop2 h hs1).2.2) ⟨by decide +kernel, rfl⟩ ?_
          refine w_invV (Z := Y_M_push) (idx := 658) (kb := 110) (As := [.int (σ1.1 151 (S.length + 1)), .long (σ1.2 152 (S.length + 1))]) (rest := []) (pc' := 110) cl_13_658 rfl ⟨rfl, rfl⟩ kfa_110_0 rfl ⟨⟨by decide, by decide⟩, rfl, rfl⟩ ⟨by decide +kernel, rfl⟩ rfl rfl (Nat.le_of_ble_eq_true rfl) rfl rfl ?_
          refine cz_M_push (c := y.1) (ms_pop2 h hs1).1 (by have := (ms_pop2 h hs1).2.2; omega) ((ms_pop2 h hs1).2.1.2.1) (fun σ7 hv7 => ?_)
          show Wz E Y_M_pushJoined 110 [(3, .int (σ1.1 151 (S.length + 1))), (2, .int (σ1.1 151 S.length)), (0, .ref 110), (1, .int b)] [] σ7 K
          refine z_vret rfl (by decide +kernel) ?_
          have z0L : (0 : Int64).toInt = 0 := by decide
          have z0 : (0 : Int32).toInt = 0 := by decide
          have z2 : (2 : Int32).toInt = 2 := by decide
          have z3 : (3 : Int32).toInt = 3 := by decide
          have z4 : (4 : Int32).toInt = 4 := by decide
          have gh2 := j_eq_f h2
          have gh4 := j_eq_t (y := 0) h4
          have gh5 := j_ne_t h5
          have gh6 := j_ne_t h6
          have p := (ms_pop2 h hs1).2.1
          rw [p.1.1] at gh2
          rw [p.1.1] at gh5
          rw [p.1.1] at gh6
          by_cases hb : b = 0
          · have hb1 : b.toInt = 0 := by rw [hb]; decide
            rw [ent (x := y) rfl p.2.2] at hv7; exact k _ (by rw [if_pos hb, jn_b (by omega) (by omega)]; exact hv7)
          · have hb1 : b.toInt ≠ 0 := fun q => hb (Int32.toInt_inj.mp (by rw [q]; decide))
            rw [ent (x := y) rfl p.2.2] at hv7; exact k _ (by rw [if_neg hb, jn_b (by omega) (by omega)]; exact hv7)
        · refine z_iload_n (f := 3) (i := 3) (q := 0) (pc' := 73) ⟨by decide +kernel, rfl⟩ rfl rfl ?_
          refine z_iload_n (f := 1) (i := 1) (q := 3) (pc' := 74) ⟨by decide +kernel, rfl⟩ rfl rfl ?_
          refine z_if_eq (off := 7) (tgt := 81) (pc' := 77) ⟨by decide +kernel, by decide, rfl⟩ (fun h8 => ?_) (fun h8 => ?_)
          · refine z_iconst (i := 5) (v := 5) (pc' := 82) ⟨by decide +kernel, rfl⟩ (by decide) ?_
            refine z_icmp_ne (off := 12) (tgt := 94) (pc' := 85) ⟨by decide +kernel, by decide, rfl⟩ (fun h9 => ?_) (fun h9 => ?_)
            · refine z_aload_n (f := 0) (i := 0) (q := 2) (pc' := 95) ⟨by decide +kernel, rfl⟩ rfl rfl ?_
              refine z_iload_n (f := 3) (i := 3) (q := 0) (pc' := 96) ⟨by decide +kernel, rfl⟩ rfl rfl ?_
              refine z_aload_n (f := 0) (i := 0) (q := 2) (pc' := 97) ⟨by decide +kernel, rfl⟩ rfl rfl ?_
              refine w_getr (k := 110) (j := 63) (idx := 139) (pc' := 100) fxe_13_139 kfa_110_63 ⟨by decide +kernel, rfl⟩ ?_
              refine z_aload_n (f := 0) (i := 0) (q := 2) (pc' := 101) ⟨by decide +kernel, rfl⟩ rfl rfl ?_
              refine w_geti (k := 110) (j := 64) (idx := 655) (pc' := 104) fxe_13_655 kfa_110_64 ⟨by decide +kernel, rfl⟩ ?_
              refine z_iconst (i := 1) (v := 1) (pc' := 105) ⟨by decide +kernel, rfl⟩ (by decide) ?_
              refine z_iadd (pc' := 106) ⟨by decide +kernel, rfl⟩ ?_
              refine w_lald (k := 152) (n := (S.length + 1)) (pc' := 107) kaa_152 ((ms_pop2 h hs1).t1) ((ms_pop2 h hs1).2.2) ⟨by decide +kernel, rfl⟩ ?_
              refine w_invV (Z := Y_M_push) (idx := 658) (kb := 110) (As := [.int (σ1.1 151 (S.length + 1)), .long (σ1.2 152 (S.length + 1))]) (rest := []) (pc' := 110) cl_13_658 rfl ⟨rfl, rfl⟩ kfa_110_0 rfl ⟨⟨by decide, by decide⟩, rfl, rfl⟩ ⟨by decide +kernel, rfl⟩ rfl rfl (Nat.le_of_ble_eq_true rfl) rfl rfl ?_
              refine cz_M_push (c := y.1) (ms_pop2 h hs1).1 (by have := (ms_pop2 h hs1).2.2; omega) ((ms_pop2 h hs1).2.1.2.1) (fun σ10 hv10 => ?_)
              show Wz E Y_M_pushJoined 110 [(3, .int (σ1.1 151 (S.length + 1))), (2, .int (σ1.1 151 S.length)), (0, .ref 110), (1, .int b)] [] σ10 K
              refine z_vret rfl (by decide +kernel) ?_
              have z0L : (0 : Int64).toInt = 0 := by decide
              have z0 : (0 : Int32).toInt = 0 := by decide
              have z2 : (2 : Int32).toInt = 2 := by decide
              have z3 : (3 : Int32).toInt = 3 := by decide
              have z4 : (4 : Int32).toInt = 4 := by decide
              have z5 : (5 : Int32).toInt = 5 := by decide
              have gh2 := j_eq_f h2
              have gh4 := j_eq_t (y := 0) h4
              have gh5 := j_ne_t h5
              have gh6 := j_ne_f h6
              have gh8 := j_eq_t (y := 0) h8
              have gh9 := j_ne_t h9
              have p := (ms_pop2 h hs1).2.1
              rw [p.1.1] at gh2
              rw [p.1.1] at gh5
              rw [p.1.1] at gh6
              rw [p.2.1] at gh9
              by_cases hb : b = 0
              · have hb1 : b.toInt = 0 := by rw [hb]; decide
                rw [ent (x := y) rfl p.2.2] at hv10; exact k _ (by rw [if_pos hb, jn_b (by omega) (by omega)]; exact hv10)
              · have hb1 : b.toInt ≠ 0 := fun q => hb (Int32.toInt_inj.mp (by rw [q]; decide))
                rw [ent (x := y) rfl p.2.2] at hv10; exact k _ (by rw [if_neg hb, jn_b (by omega) (by omega)]; exact hv10)
            · refine z_aload_n (f := 0) (i := 0) (q := 2) (pc' := 86) ⟨by decide +kernel, rfl⟩ rfl rfl ?_
              refine z_iconst (i := 2) (v := 2) (pc' := 87) ⟨by decide +kernel, rfl⟩ (by decide) ?_
              refine z_lconst (i := 0) (v := 0) (pc' := 88) ⟨by decide +kernel, rfl⟩ (by decide) ?_
              refine w_invV (Z := Y_M_push) (idx := 658) (kb := 110) (As := [.int 2, .long 0]) (rest := []) (pc' := 91) cl_13_658 rfl ⟨rfl, rfl⟩ kfa_110_0 rfl ⟨⟨by decide, by decide⟩, rfl, rfl⟩ ⟨by decide +kernel, rfl⟩ rfl rfl (Nat.le_of_ble_eq_true rfl) rfl rfl ?_
              refine cz_M_push (c := 2) (ms_pop2 h hs1).1 (by have := (ms_pop2 h hs1).2.2; omega) (by decide) (fun σ11 hv11 => ?_)
              show Wz E Y_M_pushJoined 91 [(3, .int (σ1.1 151 (S.length + 1))), (2, .int (σ1.1 151 S.length)), (0, .ref 110), (1, .int b)] [] σ11 K
              refine z_goto (off := 19) (tgt := 110) (pc' := 94) ⟨by decide +kernel, by decide, rfl⟩ ?_
              refine z_vret rfl (by decide +kernel) ?_
              have z0L : (0 : Int64).toInt = 0 := by decide
              have z0 : (0 : Int32).toInt = 0 := by decide
              have z2 : (2 : Int32).toInt = 2 := by decide
              have z3 : (3 : Int32).toInt = 3 := by decide
              have z4 : (4 : Int32).toInt = 4 := by decide
              have z5 : (5 : Int32).toInt = 5 := by decide
              have gh2 := j_eq_f h2
              have gh4 := j_eq_t (y := 0) h4
              have gh5 := j_ne_t h5
              have gh6 := j_ne_f h6
              have gh8 := j_eq_t (y := 0) h8
              have gh9 := j_ne_f h9
              have p := (ms_pop2 h hs1).2.1
              rw [p.1.1] at gh2
              rw [p.1.1] at gh5
              rw [p.1.1] at gh6
              rw [p.2.1] at gh9
              by_cases hb : b = 0
              · have hb1 : b.toInt = 0 := by rw [hb]; decide
                exact k _ (by rw [if_pos hb, jn_u (by omega) (by omega)]; exact hv11)
              · have hb1 : b.toInt ≠ 0 := fun q => hb (Int32.toInt_inj.mp (by rw [q]; decide))
                exact k _ (by rw [if_neg hb, jn_u (by omega) (by omega)]; exact hv11)
          · refine z_iconst (i := 4) (v := 4) (pc' := 78) ⟨by decide +kernel, rfl⟩ (by decide) ?_
            refine z_goto (off := 4) (tgt := 82) (pc' := 81) ⟨by decide +kernel, by decide, rfl⟩ ?_
            refine z_icmp_ne (off := 12) (tgt := 94) (pc' := 85) ⟨by decide +kernel, by decide, rfl⟩ (fun h12 => ?_) (fun h12 => ?_)
            · refine z_aload_n (f := 0) (i := 0) (q := 2) (pc' := 95) ⟨by decide +kernel, rfl⟩ rfl rfl ?_
              refine z_iload_n (f := 3) (i := 3) (q := 0) (pc' := 96) ⟨by decide +kernel, rfl⟩ rfl rfl ?_
              refine z_aload_n (f := 0) (i := 0) (q := 2) (pc' := 97) ⟨by decide +kernel, rfl⟩ rfl rfl ?_
              refine w_getr (k := 110) (j := 63) (idx := 139) (pc' := 100) fxe_13_139 kfa_110_63 ⟨by decide +kernel, rfl⟩ ?_
              refine z_aload_n (f := 0) (i := 0) (q := 2) (pc' := 101) ⟨by decide +kernel, rfl⟩ rfl rfl ?_
              refine w_geti (k := 110) (j := 64) (idx := 655) (pc' := 104) fxe_13_655 kfa_110_64 ⟨by decide +kernel, rfl⟩ ?_
              refine z_iconst (i := 1) (v := 1) (pc' := 105) ⟨by decide +kernel, rfl⟩ (by decide) ?_
              refine z_iadd (pc' := 106) ⟨by decide +kernel, rfl⟩ ?_
              refine w_lald (k := 152) (n := (S.length + 1)) (pc' := 107) kaa_152 ((ms_pop2 h hs1).t1) ((ms_pop2 h hs1).2.2) ⟨by decide +kernel, rfl⟩ ?_
              refine w_invV (Z := Y_M_push) (idx := 658) (kb := 110) (As := [.int (σ1.1 151 (S.length + 1)), .long (σ1.2 152 (S.length + 1))]) (rest := []) (pc' := 110) cl_13_658 rfl ⟨rfl, rfl⟩ kfa_110_0 rfl ⟨⟨by decide, by decide⟩, rfl, rfl⟩ ⟨by decide +kernel, rfl⟩ rfl rfl (Nat.le_of_ble_eq_true rfl) rfl rfl ?_
              refine cz_M_push (c := y.1) (ms_pop2 h hs1).1 (by have := (ms_pop2 h hs1).2.2; omega) ((ms_pop2 h hs1).2.1.2.1) (fun σ13 hv13 => ?_)
              show Wz E Y_M_pushJoined 110 [(3, .int (σ1.1 151 (S.length + 1))), (2, .int (σ1.1 151 S.length)), (0, .ref 110), (1, .int b)] [] σ13 K
              refine z_vret rfl (by decide +kernel) ?_
              have z0L : (0 : Int64).toInt = 0 := by decide
              have z0 : (0 : Int32).toInt = 0 := by decide
              have z2 : (2 : Int32).toInt = 2 := by decide
              have z3 : (3 : Int32).toInt = 3 := by decide
              have z4 : (4 : Int32).toInt = 4 := by decide
              have gh2 := j_eq_f h2
              have gh4 := j_eq_t (y := 0) h4
              have gh5 := j_ne_t h5
              have gh6 := j_ne_f h6
              have gh8 := j_eq_f (y := 0) h8
              have gh12 := j_ne_t h12
              have p := (ms_pop2 h hs1).2.1
              rw [p.1.1] at gh2
              rw [p.1.1] at gh5
              rw [p.1.1] at gh6
              rw [p.2.1] at gh12
              by_cases hb : b = 0
              · have hb1 : b.toInt = 0 := by rw [hb]; decide
                rw [ent (x := y) rfl p.2.2] at hv13; exact k _ (by rw [if_pos hb, jn_b (by omega) (by omega)]; exact hv13)
              · have hb1 : b.toInt ≠ 0 := fun q => hb (Int32.toInt_inj.mp (by rw [q]; decide))
                rw [ent (x := y) rfl p.2.2] at hv13; exact k _ (by rw [if_neg hb, jn_b (by omega) (by omega)]; exact hv13)
            · refine z_aload_n (f := 0) (i := 0) (q := 2) (pc' := 86) ⟨by decide +kernel, rfl⟩ rfl rfl ?_
              refine z_iconst (i := 2) (v := 2) (pc' := 87) ⟨by decide +kernel, rfl⟩ (by decide) ?_
              refine z_lconst (i := 0) (v := 0) (pc' := 88) ⟨by decide +kernel, rfl⟩ (by decide) ?_
              refine w_invV (Z := Y_M_push) (idx := 658) (kb := 110) (As := [.int 2, .long 0]) (rest := []) (pc' := 91) cl_13_658 rfl ⟨rfl, rfl⟩ kfa_110_0 rfl ⟨⟨by decide, by decide⟩, rfl, rfl⟩ ⟨by decide +kernel, rfl⟩ rfl rfl (Nat.le_of_ble_eq_true rfl) rfl rfl ?_
              refine cz_M_push (c := 2) (ms_pop2 h hs1).1 (by have := (ms_pop2 h hs1).2.2; omega) (by decide) (fun σ14 hv14 => ?_)
              show Wz E Y_M_pushJoined 91 [(3, .int (σ1.1 151 (S.length + 1))), (2, .int (σ1.1 151 S.length)), (0, .ref 110), (1, .int b)] [] σ14 K
              refine z_goto (off := 19) (tgt := 110) (pc' := 94) ⟨by decide +kernel, by decide, rfl⟩ ?_
              refine z_vret rfl (by decide +kernel) ?_
              have z0L : (0 : Int64).toInt = 0 := by decide
              have z0 : (0 : Int32).toInt = 0 := by decide
              have z2 : (2 : Int32).toInt = 2 := by decide
              have z3 : (3 : Int32).toInt = 3 := by decide
              have z4 : (4 : Int32).toInt = 4 := by decide
              have gh2 := j_eq_f h2
              have gh4 := j_eq_t (y := 0) h4
              have gh5 := j_ne_t h5
              have gh6 := j_ne_f h6
              have gh8 := j_eq_f (y := 0) h8
              have gh12 := j_ne_f h12
              have p := (ms_pop2 h hs1).2.1
              rw [p.1.1] at gh2
              rw [p.1.1] at gh5
              rw [p.1.1] at gh6
              rw [p.2.1] at gh12
              by_cases hb : b = 0
              · have hb1 : b.toInt = 0 := by rw [hb]; decide
                exact k _ (by rw [if_pos hb, jn_u (by omega) (by omega)]; exact hv14)
              · have hb1 : b.toInt ≠ 0 := fun q => hb (Int32.toInt_inj.mp (by rw [q]; decide))
                exact k _ (by rw [if_neg hb, jn_u (by omega) (by omega)]; exact hv14)
      · refine z_aload_n (f := 0) (i := 0) (q := 2) (pc' := 51) ⟨by decide +kernel, rfl⟩ rfl rfl ?_
        refine z_iload_n (f := 2) (i := 2) (q := 1) (pc' := 52) ⟨by decide +kernel, rfl⟩ rfl rfl ?_
        refine z_aload_n (f := 0) (i := 0) (q := 2) (pc' := 53) ⟨by decide +kernel, rfl⟩ rfl rfl ?_
        refine w_getr (k := 110) (j := 63) (idx := 139) (pc' := 56) fxe_13_139 kfa_110_63 ⟨by decide +kernel, rfl⟩ ?_
        refine z_aload_n (f := 0) (i := 0) (q := 2) (pc' := 57) ⟨by decide +kernel, rfl⟩ rfl rfl ?_
        refine w_geti (k := 110) (j := 64) (idx := 655) (pc' := 60) fxe_13_655 kfa_110_64 ⟨by decide +kernel, rfl⟩ ?_
        refine w_lald (k := 152) (n := S.length) (pc' := 61) kaa_152 ((ms_pop2 h hs1).1.2.1) (by have := (ms_pop2 h hs1).2.2; omega) ⟨by decide +kernel, rfl⟩ ?_
        refine w_invV (Z := Y_M_push) (idx := 658) (kb := 110) (As := [.int (σ1.1 151 S.length), .long (σ1.2 152 S.length)]) (rest := []) (pc' := 64) cl_13_658 rfl ⟨rfl, rfl⟩ kfa_110_0 rfl ⟨⟨by decide, by decide⟩, rfl, rfl⟩ ⟨by decide +kernel, rfl⟩ rfl rfl (Nat.le_of_ble_eq_true rfl) rfl rfl ?_
        refine cz_M_push (c := x.1) (ms_pop2 h hs1).1 (by have := (ms_pop2 h hs1).2.2; omega) ((ms_pop2 h hs1).2.1.1.1) (fun σ15 hv15 => ?_)
        show Wz E Y_M_pushJoined 64 [(3, .int (σ1.1 151 (S.length + 1))), (2, .int (σ1.1 151 S.length)), (0, .ref 110), (1, .int b)] [] σ15 K
        refine z_goto (off := 46) (tgt := 110) (pc' := 67) ⟨by decide +kernel, by decide, rfl⟩ ?_
        refine z_vret rfl (by decide +kernel) ?_
        have z0L : (0 : Int64).toInt = 0 := by decide
        have z0 : (0 : Int32).toInt = 0 := by decide
        have z3 : (3 : Int32).toInt = 3 := by decide
        have z4 : (4 : Int32).toInt = 4 := by decide
        have gh2 := j_eq_f h2
        have gh4 := j_eq_t (y := 0) h4
        have gh5 := j_ne_f h5
        have p := (ms_pop2 h hs1).2.1
        rw [p.1.1] at gh2
        rw [p.1.1] at gh5
        by_cases hb : b = 0
        · have hb1 : b.toInt = 0 := by rw [hb]; decide
          rw [ent (x := x) rfl p.1.2] at hv15; exact k _ (by rw [if_pos hb, jn_a (by omega)]; exact hv15)
        · have hb1 : b.toInt ≠ 0 := fun q => hb (Int32.toInt_inj.mp (by rw [q]; decide))
          rw [ent (x := x) rfl p.1.2] at hv15; exact k _ (by rw [if_neg hb, jn_a (by omega)]; exact hv15)
    · refine z_iconst (i := 5) (v := 5) (pc' := 43) ⟨by decide +kernel, rfl⟩ (by decide) ?_
      refine z_goto (off := 4) (tgt := 47) (pc' := 46) ⟨by decide +kernel, by decide, rfl⟩ ?_
      refine z_icmp_ne (off := 20) (tgt := 67) (pc' := 50) ⟨by decide +kernel, by decide, rfl⟩ (fun h16 => ?_) (fun h16 => ?_)
      · refine z_iload_n (f := 2) (i := 2) (q := 1) (pc' := 68) ⟨by decide +kernel, rfl⟩ rfl rfl ?_
        refine z_iconst (i := 2) (v := 2) (pc' := 69) ⟨by decide +kernel, rfl⟩ (by decide) ?_
        refine z_icmp_ne (off := 25) (tgt := 94) (pc' := 72) ⟨by decide +kernel, by decide, rfl⟩ (fun h17 => ?_) (fun h17 => ?_)
        · refine z_aload_n (f := 0) (i := 0) (q := 2) (pc' := 95) ⟨by decide +kernel, rfl⟩ rfl rfl ?_
          refine z_iload_n (f := 3) (i := 3) (q := 0) (pc' := 96) ⟨by decide +kernel, rfl⟩ rfl rfl ?_
          refine z_aload_n (f := 0) (i := 0) (q := 2) (pc' := 97) ⟨by decide +kernel, rfl⟩ rfl rfl ?_
          refine w_getr (k := 110) (j := 63) (idx := 139) (pc' := 100) fxe_13_139 kfa_110_63 ⟨by decide +kernel, rfl⟩ ?_
          refine z_aload_n (f := 0) (i := 0) (q := 2) (pc' := 101) ⟨by decide +kernel, rfl⟩ rfl rfl ?_
          refine w_geti (k := 110) (j := 64) (idx := 655) (pc' := 104) fxe_13_655 kfa_110_64 ⟨by decide +kernel, rfl⟩ ?_
          refine z_iconst (i := 1) (v := 1) (pc' := 105) ⟨by decide +kernel, rfl⟩ (by decide) ?_
          refine z_iadd (pc' := 106) ⟨by decide +kernel, rfl⟩ ?_
          refine w_lald (k := 152) (n := (S.length + 1)) (pc' := 107) kaa_152 ((ms_pop2 h hs1).t1) ((ms_pop2 h hs1).2.2) ⟨by decide +kernel, rfl⟩ ?_
          refine w_invV (Z := Y_M_push) (idx := 658) (kb := 110) (As := [.int (σ1.1 151 (S.length + 1)), .long (σ1.2 152 (S.length + 1))]) (rest := []) (pc' := 110) cl_13_658 rfl ⟨rfl, rfl⟩ kfa_110_0 rfl ⟨⟨by decide, by decide⟩, rfl, rfl⟩ ⟨by decide +kernel, rfl⟩ rfl rfl (Nat.le_of_ble_eq_true rfl) rfl rfl ?_
          refine cz_M_push (c := y.1) (ms_pop2 h hs1).1 (by have := (ms_pop2 h hs1).2.2; omega) ((ms_pop2 h hs1).2.1.2.1) (fun σ18 hv18 => ?_)
          show Wz E Y_M_pushJoined 110 [(3, .int (σ1.1 151 (S.length + 1))), (2, .int (σ1.1 151 S.length)), (0, .ref 110), (1, .int b)] [] σ18 K
          refine z_vret rfl (by decide +kernel) ?_
          have z0L : (0 : Int64).toInt = 0 := by decide
          have z0 : (0 : Int32).toInt = 0 := by decide
          have z2 : (2 : Int32).toInt = 2 := by decide
          have z3 : (3 : Int32).toInt = 3 := by decide
          have z5 : (5 : Int32).toInt = 5 := by decide
          have gh2 := j_eq_f h2
          have gh4 := j_eq_f (y := 0) h4
          have gh16 := j_ne_t h16
          have gh17 := j_ne_t h17
          have p := (ms_pop2 h hs1).2.1
          rw [p.1.1] at gh2
          rw [p.1.1] at gh16
          rw [p.1.1] at gh17
          by_cases hb : b = 0
          · have hb1 : b.toInt = 0 := by rw [hb]; decide
            rw [ent (x := y) rfl p.2.2] at hv18; exact k _ (by rw [if_pos hb, jn_b (by omega) (by omega)]; exact hv18)
          · have hb1 : b.toInt ≠ 0 := fun q => hb (Int32.toInt_inj.mp (by rw [q]; decide))
            rw [ent (x := y) rfl p.2.2] at hv18; exact k _ (by rw [if_neg hb, jn_b (by omega) (by omega)]; exact hv18)
        · refine z_iload_n (f := 3) (i := 3) (q := 0) (pc' := 73) ⟨by decide +kernel, rfl⟩ rfl rfl ?_
          refine z_iload_n (f := 1) (i := 1) (q := 3) (pc' := 74) ⟨by decide +kernel, rfl⟩ rfl rfl ?_
          refine z_if_eq (off := 7) (tgt := 81) (pc' := 77) ⟨by decide +kernel, by decide, rfl⟩ (fun h19 => ?_) (fun h19 => ?_)
          · refine z_iconst (i := 5) (v := 5) (pc' := 82) ⟨by decide +kernel, rfl⟩ (by decide) ?_
            refine z_icmp_ne (off := 12) (tgt := 94) (pc' := 85) ⟨by decide +kernel, by decide, rfl⟩ (fun h20 => ?_) (fun h20 => ?_)
            · refine z_aload_n (f := 0) (i := 0) (q := 2) (pc' := 95) ⟨by decide +kernel, rfl⟩ rfl rfl ?_
              refine z_iload_n (f := 3) (i := 3) (q := 0) (pc' := 96) ⟨by decide +kernel, rfl⟩ rfl rfl ?_
              refine z_aload_n (f := 0) (i := 0) (q := 2) (pc' := 97) ⟨by decide +kernel, rfl⟩ rfl rfl ?_
              refine w_getr (k := 110) (j := 63) (idx := 139) (pc' := 100) fxe_13_139 kfa_110_63 ⟨by decide +kernel, rfl⟩ ?_
              refine z_aload_n (f := 0) (i := 0) (q := 2) (pc' := 101) ⟨by decide +kernel, rfl⟩ rfl rfl ?_
              refine w_geti (k := 110) (j := 64) (idx := 655) (pc' := 104) fxe_13_655 kfa_110_64 ⟨by decide +kernel, rfl⟩ ?_
              refine z_iconst (i := 1) (v := 1) (pc' := 105) ⟨by decide +kernel, rfl⟩ (by decide) ?_
              refine z_iadd (pc' := 106) ⟨by decide +kernel, rfl⟩ ?_
              refine w_lald (k := 152) (n := (S.length + 1)) (pc' := 107) kaa_152 ((ms_pop2 h hs1).t1) ((ms_pop2 h hs1).2.2) ⟨by decide +kernel, rfl⟩ ?_
              refine w_invV (Z := Y_M_push) (idx := 658) (kb := 110) (As := [.int (σ1.1 151 (S.length + 1)), .long (σ1.2 152 (S.length + 1))]) (rest := []) (pc' := 110) cl_13_658 rfl ⟨rfl, rfl⟩ kfa_110_0 rfl ⟨⟨by decide, by decide⟩, rfl, rfl⟩ ⟨by decide +kernel, rfl⟩ rfl rfl (Nat.le_of_ble_eq_true rfl) rfl rfl ?_
              refine cz_M_push (c := y.1) (ms_pop2 h hs1).1 (by have := (ms_pop2 h hs1).2.2; omega) ((ms_pop2 h hs1).2.1.2.1) (fun σ21 hv21 => ?_)
              show Wz E Y_M_pushJoined 110 [(3, .int (σ1.1 151 (S.length + 1))), (2, .int (σ1.1 151 S.length)), (0, .ref 110), (1, .int b)] [] σ21 K
              refine z_vret rfl (by decide +kernel) ?_
              have z0L : (0 : Int64).toInt = 0 := by decide
              have z0 : (0 : Int32).toInt = 0 := by decide
              have z2 : (2 : Int32).toInt = 2 := by decide
              have z3 : (3 : Int32).toInt = 3 := by decide
              have z5 : (5 : Int32).toInt = 5 := by decide
              have gh2 := j_eq_f h2
              have gh4 := j_eq_f (y := 0) h4
              have gh16 := j_ne_t h16
              have gh17 := j_ne_f h17
              have gh19 := j_eq_t (y := 0) h19
              have gh20 := j_ne_t h20
              have p := (ms_pop2 h hs1).2.1
              rw [p.1.1] at gh2
              rw [p.1.1] at gh16
              rw [p.1.1] at gh17
              rw [p.2.1] at gh20
              by_cases hb : b = 0
              · have hb1 : b.toInt = 0 := by rw [hb]; decide
                rw [ent (x := y) rfl p.2.2] at hv21; exact k _ (by rw [if_pos hb, jn_b (by omega) (by omega)]; exact hv21)
              · have hb1 : b.toInt ≠ 0 := fun q => hb (Int32.toInt_inj.mp (by rw [q]; decide))
                rw [ent (x := y) rfl p.2.2] at hv21; exact k _ (by rw [if_neg hb, jn_b (by omega) (by omega)]; exact hv21)
            · refine z_aload_n (f := 0) (i := 0) (q := 2) (pc' := 86) ⟨by decide +kernel, rfl⟩ rfl rfl ?_
              refine z_iconst (i := 2) (v := 2) (pc' := 87) ⟨by decide +kernel, rfl⟩ (by decide) ?_
              refine z_lconst (i := 0) (v := 0) (pc' := 88) ⟨by decide +kernel, rfl⟩ (by decide) ?_
              refine w_invV (Z := Y_M_push) (idx := 658) (kb := 110) (As := [.int 2, .long 0]) (rest := []) (pc' := 91) cl_13_658 rfl ⟨rfl, rfl⟩ kfa_110_0 rfl ⟨⟨by decide, by decide⟩, rfl, rfl⟩ ⟨by decide +kernel, rfl⟩ rfl rfl (Nat.le_of_ble_eq_true rfl) rfl rfl ?_
              refine cz_M_push (c := 2) (ms_pop2 h hs1).1 (by have := (ms_pop2 h hs1).2.2; omega) (by decide) (fun σ22 hv22 => ?_)
              show Wz E Y_M_pushJoined 91 [(3, .int (σ1.1 151 (S.length + 1))), (2, .int (σ1.1 151 S.length)), (0, .ref 110), (1, .int b)] [] σ22 K
              refine z_goto (off := 19) (tgt := 110) (pc' := 94) ⟨by decide +kernel, by decide, rfl⟩ ?_
              refine z_vret rfl (by decide +kernel) ?_
              have z0L : (0 : Int64).toInt = 0 := by decide
              have z0 : (0 : Int32).toInt = 0 := by decide
              have z2 : (2 : Int32).toInt = 2 := by decide
              have z3 : (3 : Int32).toInt = 3 := by decide
              have z5 : (5 : Int32).toInt = 5 := by decide
              have gh2 := j_eq_f h2
              have gh4 := j_eq_f (y := 0) h4
              have gh16 := j_ne_t h16
              have gh17 := j_ne_f h17
              have gh19 := j_eq_t (y := 0) h19
              have gh20 := j_ne_f h20
              have p := (ms_pop2 h hs1).2.1
              rw [p.1.1] at gh2
              rw [p.1.1] at gh16
              rw [p.1.1] at gh17
              rw [p.2.1] at gh20
              by_cases hb : b = 0
              · have hb1 : b.toInt = 0 := by rw [hb]; decide
                exact k _ (by rw [if_pos hb, jn_u (by omega) (by omega)]; exact hv22)
              · have hb1 : b.toInt ≠ 0 := fun q => hb (Int32.toInt_inj.mp (by rw [q]; decide))
                exact k _ (by rw [if_neg hb, jn_u (by omega) (by omega)]; exact hv22)
          · refine z_iconst (i := 4) (v := 4) (pc' := 78) ⟨by decide +kernel, rfl⟩ (by decide) ?_
            refine z_goto (off := 4) (tgt := 82) (pc' := 81) ⟨by decide +kernel, by decide, rfl⟩ ?_
            refine z_icmp_ne (off := 12) (tgt := 94) (pc' := 85) ⟨by decide +kernel, by decide, rfl⟩ (fun h23 => ?_) (fun h23 => ?_)
            · refine z_aload_n (f := 0) (i := 0) (q := 2) (pc' := 95) ⟨by decide +kernel, rfl⟩ rfl rfl ?_
              refine z_iload_n (f := 3) (i := 3) (q := 0) (pc' := 96) ⟨by decide +kernel, rfl⟩ rfl rfl ?_
              refine z_aload_n (f := 0) (i := 0) (q := 2) (pc' := 97) ⟨by decide +kernel, rfl⟩ rfl rfl ?_
              refine w_getr (k := 110) (j := 63) (idx := 139) (pc' := 100) fxe_13_139 kfa_110_63 ⟨by decide +kernel, rfl⟩ ?_
              refine z_aload_n (f := 0) (i := 0) (q := 2) (pc' := 101) ⟨by decide +kernel, rfl⟩ rfl rfl ?_
              refine w_geti (k := 110) (j := 64) (idx := 655) (pc' := 104) fxe_13_655 kfa_110_64 ⟨by decide +kernel, rfl⟩ ?_
              refine z_iconst (i := 1) (v := 1) (pc' := 105) ⟨by decide +kernel, rfl⟩ (by decide) ?_
              refine z_iadd (pc' := 106) ⟨by decide +kernel, rfl⟩ ?_
              refine w_lald (k := 152) (n := (S.length + 1)) (pc' := 107) kaa_152 ((ms_pop2 h hs1).t1) ((ms_pop2 h hs1).2.2) ⟨by decide +kernel, rfl⟩ ?_
              refine w_invV (Z := Y_M_push) (idx := 658) (kb := 110) (As := [.int (σ1.1 151 (S.length + 1)), .long (σ1.2 152 (S.length + 1))]) (rest := []) (pc' := 110) cl_13_658 rfl ⟨rfl, rfl⟩ kfa_110_0 rfl ⟨⟨by decide, by decide⟩, rfl, rfl⟩ ⟨by decide +kernel, rfl⟩ rfl rfl (Nat.le_of_ble_eq_true rfl) rfl rfl ?_
              refine cz_M_push (c := y.1) (ms_pop2 h hs1).1 (by have := (ms_pop2 h hs1).2.2; omega) ((ms_pop2 h hs1).2.1.2.1) (fun σ24 hv24 => ?_)
              show Wz E Y_M_pushJoined 110 [(3, .int (σ1.1 151 (S.length + 1))), (2, .int (σ1.1 151 S.length)), (0, .ref 110), (1, .int b)] [] σ24 K
              refine z_vret rfl (by decide +kernel) ?_
              have z0L : (0 : Int64).toInt = 0 := by decide
              have z0 : (0 : Int32).toInt = 0 := by decide
              have z2 : (2 : Int32).toInt = 2 := by decide
              have z3 : (3 : Int32).toInt = 3 := by decide
              have z4 : (4 : Int32).toInt = 4 := by decide
              have z5 : (5 : Int32).toInt = 5 := by decide
              have gh2 := j_eq_f h2
              have gh4 := j_eq_f (y := 0) h4
              have gh16 := j_ne_t h16
              have gh17 := j_ne_f h17
              have gh19 := j_eq_f (y := 0) h19
              have gh23 := j_ne_t h23
              have p := (ms_pop2 h hs1).2.1
              rw [p.1.1] at gh2
              rw [p.1.1] at gh16
              rw [p.1.1] at gh17
              rw [p.2.1] at gh23
              by_cases hb : b = 0
              · have hb1 : b.toInt = 0 := by rw [hb]; decide
                rw [ent (x := y) rfl p.2.2] at hv24; exact k _ (by rw [if_pos hb, jn_b (by omega) (by omega)]; exact hv24)
              · have hb1 : b.toInt ≠ 0 := fun q => hb (Int32.toInt_inj.mp (by rw [q]; decide))
                rw [ent (x := y) rfl p.2.2] at hv24; exact k _ (by rw [if_neg hb, jn_b (by omega) (by omega)]; exact hv24)
            · refine z_aload_n (f := 0) (i := 0) (q := 2) (pc' := 86) ⟨by decide +kernel, rfl⟩ rfl rfl ?_
              refine z_iconst (i := 2) (v := 2) (pc' := 87) ⟨by decide +kernel, rfl⟩ (by decide) ?_
              refine z_lconst (i := 0) (v := 0) (pc' := 88) ⟨by decide +kernel, rfl⟩ (by decide) ?_
              refine w_invV (Z := Y_M_push) (idx := 658) (kb := 110) (As := [.int 2, .long 0]) (rest := []) (pc' := 91) cl_13_658 rfl ⟨rfl, rfl⟩ kfa_110_0 rfl ⟨⟨by decide, by decide⟩, rfl, rfl⟩ ⟨by decide +kernel, rfl⟩ rfl rfl (Nat.le_of_ble_eq_true rfl) rfl rfl ?_
              refine cz_M_push (c := 2) (ms_pop2 h hs1).1 (by have := (ms_pop2 h hs1).2.2; omega) (by decide) (fun σ25 hv25 => ?_)
              show Wz E Y_M_pushJoined 91 [(3, .int (σ1.1 151 (S.length + 1))), (2, .int (σ1.1 151 S.length)), (0, .ref 110), (1, .int b)] [] σ25 K
              refine z_goto (off := 19) (tgt := 110) (pc' := 94) ⟨by decide +kernel, by decide, rfl⟩ ?_
              refine z_vret rfl (by decide +kernel) ?_
              have z0L : (0 : Int64).toInt = 0 := by decide
              have z0 : (0 : Int32).toInt = 0 := by decide
              have z2 : (2 : Int32).toInt = 2 := by decide
              have z3 : (3 : Int32).toInt = 3 := by decide
              have z4 : (4 : Int32).toInt = 4 := by decide
              have z5 : (5 : Int32).toInt = 5 := by decide
              have gh2 := j_eq_f h2
              have gh4 := j_eq_f (y := 0) h4
              have gh16 := j_ne_t h16
              have gh17 := j_ne_f h17
              have gh19 := j_eq_f (y := 0) h19
              have gh23 := j_ne_f h23
              have p := (ms_pop2 h hs1).2.1
              rw [p.1.1] at gh2
              rw [p.1.1] at gh16
              rw [p.1.1] at gh17
              rw [p.2.1] at gh23
              by_cases hb : b = 0
              · have hb1 : b.toInt = 0 := by rw [hb]; decide
                exact k _ (by rw [if_pos hb, jn_u (by omega) (by omega)]; exact hv25)
              · have hb1 : b.toInt ≠ 0 := fun q => hb (Int32.toInt_inj.mp (by rw [q]; decide))
                exact k _ (by rw [if_neg hb, jn_u (by omega) (by omega)]; exact hv25)
      · refine z_aload_n (f := 0) (i := 0) (q := 2) (pc' := 51) ⟨by decide +kernel, rfl⟩ rfl rfl ?_
        refine z_iload_n (f := 2) (i := 2) (q := 1) (pc' := 52) ⟨by decide +kernel, rfl⟩ rfl rfl ?_
        refine z_aload_n (f := 0) (i := 0) (q := 2) (pc' := 53) ⟨by decide +kernel, rfl⟩ rfl rfl ?_
        refine w_getr (k := 110) (j := 63) (idx := 139) (pc' := 56) fxe_13_139 kfa_110_63 ⟨by decide +kernel, rfl⟩ ?_
        refine z_aload_n (f := 0) (i := 0) (q := 2) (pc' := 57) ⟨by decide +kernel, rfl⟩ rfl rfl ?_
        refine w_geti (k := 110) (j := 64) (idx := 655) (pc' := 60) fxe_13_655 kfa_110_64 ⟨by decide +kernel, rfl⟩ ?_
        refine w_lald (k := 152) (n := S.length) (pc' := 61) kaa_152 ((ms_pop2 h hs1).1.2.1) (by have := (ms_pop2 h hs1).2.2; omega) ⟨by decide +kernel, rfl⟩ ?_
        refine w_invV (Z := Y_M_push) (idx := 658) (kb := 110) (As := [.int (σ1.1 151 S.length), .long (σ1.2 152 S.length)]) (rest := []) (pc' := 64) cl_13_658 rfl ⟨rfl, rfl⟩ kfa_110_0 rfl ⟨⟨by decide, by decide⟩, rfl, rfl⟩ ⟨by decide +kernel, rfl⟩ rfl rfl (Nat.le_of_ble_eq_true rfl) rfl rfl ?_
        refine cz_M_push (c := x.1) (ms_pop2 h hs1).1 (by have := (ms_pop2 h hs1).2.2; omega) ((ms_pop2 h hs1).2.1.1.1) (fun σ26 hv26 => ?_)
        show Wz E Y_M_pushJoined 64 [(3, .int (σ1.1 151 (S.length + 1))), (2, .int (σ1.1 151 S.length)), (0, .ref 110), (1, .int b)] [] σ26 K
        refine z_goto (off := 46) (tgt := 110) (pc' := 67) ⟨by decide +kernel, by decide, rfl⟩ ?_
        refine z_vret rfl (by decide +kernel) ?_
        have z0L : (0 : Int64).toInt = 0 := by decide
        have z0 : (0 : Int32).toInt = 0 := by decide
        have z3 : (3 : Int32).toInt = 3 := by decide
        have z5 : (5 : Int32).toInt = 5 := by decide
        have gh2 := j_eq_f h2
        have gh4 := j_eq_f (y := 0) h4
        have gh16 := j_ne_f h16
        have p := (ms_pop2 h hs1).2.1
        rw [p.1.1] at gh2
        rw [p.1.1] at gh16
        by_cases hb : b = 0
        · have hb1 : b.toInt = 0 := by rw [hb]; decide
          rw [ent (x := x) rfl p.1.2] at hv26; exact k _ (by rw [if_pos hb, jn_a (by omega)]; exact hv26)
        · have hb1 : b.toInt ≠ 0 := fun q => hb (Int32.toInt_inj.mp (by rw [q]; decide))
          rw [ent (x := x) rfl p.1.2] at hv26; exact k _ (by rw [if_neg hb, jn_a (by omega)]; exact hv26)
theorem cz_M_pushJoined {E : xV} {σ τ : zS} {K : zKt} {S : List EntJ} {x y : EntJ} {b : Int32} (h : MsJ σ τ (y :: x :: S)) (k : ∀ τ' : zS, MsJ σ τ' ((if b = 0 then jn9 5 4 x y else jn9 4 5 x y) :: S) → K none τ') : Cz E Y_M_pushJoined [.ref 110, .int b] τ K := z_entry (by decide) (fun a => by rw [sl_len]; exact Nat.le_of_ble_eq_true rfl) rfl (run_M_pushJoined h k)
theorem run_M_evaluate_b {E : xV} {σ τ : zS} {K : zKt} {S : List EntJ} {f v code i f0 to who thing t : Int32} {n j fn : Nat} (h : MsJ σ τ S) (hl : S.length < 1300) (hc : ∀ f : Nat, f < 480 → 0 ≤ (σ.1 122 f).toInt ∧ (σ.1 122 f).toInt ≤ 20) (hi : i.toInt = (n : Int)) (hco : CoK σ n (j + 1) S.length) (hcode : code = σ.1 141 n) (hv : v.toInt = c32 (σ.2 142 n).toInt) (hf : (σ.1 141 n).toInt = 4 ∨ (σ.1 141 n).toInt = 5 ∨ (σ.1 141 n).toInt = 6 ∨ (σ.1 141 n).toInt = 14 ∨ (σ.1 141 n).toInt = 15 → f.toInt = (fn : Int) ∧ fn < 480) (hfn : fn = fsJ who.toInt thing.toInt (c32 (σ.2 142 n).toInt)) (hwho : 0 ≤ who.toInt ∧ who.toInt ≤ 19) (hthing : 0 ≤ thing.toInt ∧ thing.toInt ≤ 39) (hnow : 0 ≤ (σ.1 110 0).toInt ∧ (σ.1 110 0).toInt ≤ 1000000000) (ht : 0 ≤ t.toInt ∧ t.toInt ≤ 1000000000) (k : ∀ (τ' : zS) (i' v' code' f' : Int32), i'.toInt = ((n + 1 : Nat) : Int) → MsJ σ τ' (mst9 (EvM σ who.toInt thing.toInt t.toInt) ((σ.1 141 n).toInt.toNat, (σ.2 142 n).toInt) S) → CoK σ (n + 1) j (mst9 (EvM σ who.toInt thing.toInt t.toInt) ((σ.1 141 n).toInt.toNat, (σ.2 142 n).toInt) S).length → Wz E Y_M_evaluate 8 [(6, .int i'), (9, .int f'), (8, .int v'), (7, .int code'), (0, .ref 110), (1, .int f0), (2, .int to), (3, .int who), (4, .int thing), (5, .int t)] [] τ' K) : Wz E Y_M_evaluate 66 [(9, .int f), (8, .int v), (7, .int code), (6, .int i), (0, .ref 110), (1, .int f0), (2, .int to), (3, .int who), (4, .int thing), (5, .int t)] [] τ K := by
  refine z_iload (i := 7) (q := 2) (pc' := 68) ⟨by decide +kernel, rfl⟩ rfl ?_
  refine z_iconst (i := 2) (v := 2) (pc' := 69) ⟨by decide +kernel, rfl⟩ (by decide) ?_
  refine z_icmp_ge (off := 19) (tgt := 88) (pc' := 72) ⟨by decide +kernel, by decide, rfl⟩ (fun h1 => ?_) (fun h1 => ?_)
  · refine z_iload (i := 7) (q := 2) (pc' := 90) ⟨by decide +kernel, rfl⟩ rfl ?_
    refine z_iconst (i := 4) (v := 4) (pc' := 91) ⟨by decide +kernel, rfl⟩ (by decide) ?_
    refine z_icmp_ge (off := 32) (tgt := 123) (pc' := 94) ⟨by decide +kernel, by decide, rfl⟩ (fun h2 => ?_) (fun h2 => ?_)
    · refine z_iload (i := 7) (q := 2) (pc' := 125) ⟨by decide +kernel, rfl⟩ rfl ?_
      refine z_iconst (i := 4) (v := 4) (pc' := 126) ⟨by decide +kernel, rfl⟩ (by decide) ?_
      refine z_icmp_ne (off := 13) (tgt := 139) (pc' := 129) ⟨by decide +kernel, by decide, rfl⟩ (fun h3 => ?_) (fun h3 => ?_)
      · refine z_iload (i := 7) (q := 2) (pc' := 141) ⟨by decide +kernel, rfl⟩ rfl ?_
        refine z_iconst (i := 5) (v := 5) (pc' := 142) ⟨by decide +kernel, rfl⟩ (by decide) ?_
        refine z_icmp_ne (off := 12) (tgt := 154) (pc' := 145) ⟨by decide +kernel, by decide, rfl⟩ (fun h4 => ?_) (fun h4 => ?_)
        · refine z_iload (i := 7) (q := 2) (pc' := 156) ⟨by decide +kernel, rfl⟩ rfl ?_
          refine z_bipush (i := 6) (v := 6) (pc' := 158) ⟨by decide +kernel, rfl⟩ (by decide) ?_
          refine z_icmp_ne (off := 33) (tgt := 191) (pc' := 161) ⟨by decide +kernel, by decide, rfl⟩ (fun h5 => ?_) (fun h5 => ?_)
          · refine z_iload (i := 7) (q := 2) (pc' := 193) ⟨by decide +kernel, rfl⟩ rfl ?_
            refine z_bipush (i := 7) (v := 7) (pc' := 195) ⟨by decide +kernel, rfl⟩ (by decide) ?_
            refine z_icmp_ne (off := 89) (tgt := 284) (pc' := 198) ⟨by decide +kernel, by decide, rfl⟩ (fun h6 => ?_) (fun h6 => ?_)
            · refine z_iload (i := 7) (q := 2) (pc' := 286) ⟨by decide +kernel, rfl⟩ rfl ?_
              refine z_bipush (i := 14) (v := 14) (pc' := 288) ⟨by decide +kernel, rfl⟩ (by decide) ?_
              refine z_icmp_ge (off := 14) (tgt := 302) (pc' := 291) ⟨by decide +kernel, by decide, rfl⟩ (fun h7 => ?_) (fun h7 => ?_)
              · refine z_iload (i := 7) (q := 2) (pc' := 304) ⟨by decide +kernel, rfl⟩ rfl ?_
                refine z_bipush (i := 14) (v := 14) (pc' := 306) ⟨by decide +kernel, rfl⟩ (by decide) ?_
                refine z_icmp_ne (off := 12) (tgt := 318) (pc' := 309) ⟨by decide +kernel, by decide, rfl⟩ (fun h8 => ?_) (fun h8 => ?_)
                · refine z_iload (i := 7) (q := 2) (pc' := 320) ⟨by decide +kernel, rfl⟩ rfl ?_
                  refine z_bipush (i := 15) (v := 15) (pc' := 322) ⟨by decide +kernel, rfl⟩ (by decide) ?_
                  refine z_icmp_ne (off := 26) (tgt := 348) (pc' := 325) ⟨by decide +kernel, by decide, rfl⟩ (fun h9 => ?_) (fun h9 => ?_)
                  · refine z_iload (i := 7) (q := 2) (pc' := 350) ⟨by decide +kernel, rfl⟩ rfl ?_
                    refine z_bipush (i := 16) (v := 16) (pc' := 352) ⟨by decide +kernel, rfl⟩ (by decide) ?_
                    refine z_icmp_ne (off := 66) (tgt := 418) (pc' := 355) ⟨by decide +kernel, by decide, rfl⟩ (fun h10 => ?_) (fun h10 => ?_)
                    · refine z_aload_n (f := 0) (i := 0) (q := 4) (pc' := 419) ⟨by decide +kernel, rfl⟩ rfl rfl ?_
                      refine z_iload (i := 7) (q := 2) (pc' := 421) ⟨by decide +kernel, rfl⟩ rfl ?_
                      refine z_bipush (i := 17) (v := 17) (pc' := 423) ⟨by decide +kernel, rfl⟩ (by decide) ?_
                      refine z_icmp_ne (off := 7) (tgt := 430) (pc' := 426) ⟨by decide +kernel, by decide, rfl⟩ (fun h11 => ?_) (fun h11 => ?_)
                      · refine z_iconst (i := 0) (v := 0) (pc' := 431) ⟨by decide +kernel, rfl⟩ (by decide) ?_
                        refine w_invV (Z := Y_M_pushJoined) (idx := 693) (kb := 110) (As := [.int 0]) (rest := []) (pc' := 434) cl_13_693 rfl ⟨rfl, rfl⟩ kfa_110_0 rfl ⟨⟨by decide, by decide⟩, rfl, rfl⟩ ⟨by decide +kernel, rfl⟩ rfl rfl (Nat.le_of_ble_eq_true rfl) rfl rfl ?_
                        refine cz_M_pushJoined (ms_2 h (by have q := (hco.l2 (qo2 (by have hcd : code.toInt = (σ.1 141 n).toInt := (by rw [hcode]); have qh1 := j_ge_t h1; have qh2 := j_ge_t h2; have qh3 := j_ne_t h3; have qh4 := j_ne_t h4; have qh5 := j_ne_t h5; have qh6 := j_ne_t h6; have qh7 := j_ge_t h7; have qh8 := j_ne_t h8; have qh9 := j_ne_t h9; have qh10 := j_ne_t h10; have qh11 := j_ne_t h11; have z2 : (2 : Int32).toInt = 2 := (by decide); have z4 : (4 : Int32).toInt = 4 := (by decide); have z5 : (5 : Int32).toInt = 5 := (by decide); have z6 : (6 : Int32).toInt = 6 := (by decide); have z7 : (7 : Int32).toInt = 7 := (by decide); have z14 : (14 : Int32).toInt = 14 := (by decide); have z15 : (15 : Int32).toInt = 15 := (by decide); have z16 : (16 : Int32).toInt = 16 := (by decide); have z17 : (17 : Int32).toInt = 17 := (by decide); have hat := hco.at; omega))).1; omega)) (fun σ12 hv12 => ?_)
                        show Wz E Y_M_evaluate 434 [(9, .int f), (8, .int v), (7, .int code), (6, .int i), (0, .ref 110), (1, .int f0), (2, .int to), (3, .int who), (4, .int thing), (5, .int t)] [] σ12 K
                        refine z_iinc (i := 6) (z := 1) (q := 3) (pc' := 437) ⟨by decide +kernel, rfl⟩ rfl rfl (by decide) rfl ?_
                        show Wz E Y_M_evaluate 437 [(6, .int (i + Int32.ofInt 1)), (9, .int f), (8, .int v), (7, .int code), (0, .ref 110), (1, .int f0), (2, .int to), (3, .int who), (4, .int thing), (5, .int t)] [] σ12 K
                        refine z_goto (off := (-429)) (tgt := 8) (pc' := 440) ⟨by decide +kernel, by decide, rfl⟩ ?_
                        have z0L : (0 : Int64).toInt = 0 := by decide
                        have z14 : (14 : Int32).toInt = 14 := by decide
                        have z15 : (15 : Int32).toInt = 15 := by decide
                        have z16 : (16 : Int32).toInt = 16 := by decide
                        have z17 : (17 : Int32).toInt = 17 := by decide
                        have z2 : (2 : Int32).toInt = 2 := by decide
                        have z4 : (4 : Int32).toInt = 4 := by decide
                        have z5 : (5 : Int32).toInt = 5 := by decide
                        have z6 : (6 : Int32).toInt = 6 := by decide
                        have z7 : (7 : Int32).toInt = 7 := by decide
                        have gh1 := j_ge_t h1
                        have gh2 := j_ge_t h2
                        have gh3 := j_ne_t h3
                        have gh4 := j_ne_t h4
                        have gh5 := j_ne_t h5
                        have gh6 := j_ne_t h6
                        have gh7 := j_ge_t h7
                        have gh8 := j_ne_t h8
                        have gh9 := j_ne_t h9
                        have gh10 := j_ne_t h10
                        have gh11 := j_ne_t h11
                        have hcd : code.toInt = (σ.1 141 n).toInt := by rw [hcode]
                        have hat := hco.at
                        have e1 : (Int32.ofInt 1).toInt = 1 := by decide
                        have hi2 : (i + Int32.ofInt 1).toInt = ((n + 1 : Nat) : Int) := by rw [i32_add (by rw [e1]; omega), e1]; omega
                        exact k _ _ _ _ _ hi2 (by rw [mst_18 (by show 18 ≤ (σ.1 141 n).toInt.toNat; omega) (by have q := (hco.l2 (qo2 (by omega))).1; omega)]; rw [if_pos rfl] at hv12; exact hv12) (by have q := (hco.l2 (qo2 (by omega))); rw [mst_18 (by show 18 ≤ (σ.1 141 n).toInt.toNat; omega) (by have q := (hco.l2 (qo2 (by omega))).1; omega), List.length_cons, List.length_tail, List.length_tail]; have e : ((S.length - 1 - 1 + 1 : Nat) : Int) = (S.length : Int) - 1 := (by omega); rw [e]; exact q.2)
                      · refine z_iconst (i := 1) (v := 1) (pc' := 427) ⟨by decide +kernel, rfl⟩ (by decide) ?_
                        refine z_goto (off := 4) (tgt := 431) (pc' := 430) ⟨by decide +kernel, by decide, rfl⟩ ?_
                        refine w_invV (Z := Y_M_pushJoined) (idx := 693) (kb := 110) (As := [.int 1]) (rest := []) (pc' := 434) cl_13_693 rfl ⟨rfl, rfl⟩ kfa_110_0 rfl ⟨⟨by decide, by decide⟩, rfl, rfl⟩ ⟨by decide +kernel, rfl⟩ rfl rfl (Nat.le_of_ble_eq_true rfl) rfl rfl ?_
                        refine cz_M_pushJoined (ms_2 h (by have q := (hco.l2 (qo2 (by have hcd : code.toInt = (σ.1 141 n).toInt := (by rw [hcode]); have qh1 := j_ge_t h1; have qh2 := j_ge_t h2; have qh3 := j_ne_t h3; have qh4 := j_ne_t h4; have qh5 := j_ne_t h5; have qh6 := j_ne_t h6; have qh7 := j_ge_t h7; have qh8 := j_ne_t h8; have qh9 := j_ne_t h9; have qh10 := j_ne_t h10; have qh11 := j_ne_f h11; have z2 : (2 : Int32).toInt = 2 := (by decide); have z4 : (4 : Int32).toInt = 4 := (by decide); have z5 : (5 : Int32).toInt = 5 := (by decide); have z6 : (6 : Int32).toInt = 6 := (by decide); have z7 : (7 : Int32).toInt = 7 := (by decide); have z14 : (14 : Int32).toInt = 14 := (by decide); have z15 : (15 : Int32).toInt = 15 := (by decide); have z16 : (16 : Int32).toInt = 16 := (by decide); have z17 : (17 : Int32).toInt = 17 := (by decide); have hat := hco.at; omega))).1; omega)) (fun σ13 hv13 => ?_)
                        show Wz E Y_M_evaluate 434 [(9, .int f), (8, .int v), (7, .int code), (6, .int i), (0, .ref 110), (1, .int f0), (2, .int to), (3, .int who), (4, .int thing), (5, .int t)] [] σ13 K
                        refine z_iinc (i := 6) (z := 1) (q := 3) (pc' := 437) ⟨by decide +kernel, rfl⟩ rfl rfl (by decide) rfl ?_
                        show Wz E Y_M_evaluate 437 [(6, .int (i + Int32.ofInt 1)), (9, .int f), (8, .int v), (7, .int code), (0, .ref 110), (1, .int f0), (2, .int to), (3, .int who), (4, .int thing), (5, .int t)] [] σ13 K
                        refine z_goto (off := (-429)) (tgt := 8) (pc' := 440) ⟨by decide +kernel, by decide, rfl⟩ ?_
                        have z0L : (0 : Int64).toInt = 0 := by decide
                        have z14 : (14 : Int32).toInt = 14 := by decide
                        have z15 : (15 : Int32).toInt = 15 := by decide
                        have z16 : (16 : Int32).toInt = 16 := by decide
                        have z17 : (17 : Int32).toInt = 17 := by decide
                        have z2 : (2 : Int32).toInt = 2 := by decide
                        have z4 : (4 : Int32).toInt = 4 := by decide
                        have z5 : (5 : Int32).toInt = 5 := by decide
                        have z6 : (6 : Int32).toInt = 6 := by decide
                        have z7 : (7 : Int32).toInt = 7 := by decide
                        have gh1 := j_ge_t h1
                        have gh2 := j_ge_t h2
                        have gh3 := j_ne_t h3
                        have gh4 := j_ne_t h4
                        have gh5 := j_ne_t h5
                        have gh6 := j_ne_t h6
                        have gh7 := j_ge_t h7
                        have gh8 := j_ne_t h8
                        have gh9 := j_ne_t h9
                        have gh10 := j_ne_t h10
                        have gh11 := j_ne_f h11
                        have hcd : code.toInt = (σ.1 141 n).toInt := by rw [hcode]
                        have hat := hco.at
                        have e1 : (Int32.ofInt 1).toInt = 1 := by decide
                        have hi2 : (i + Int32.ofInt 1).toInt = ((n + 1 : Nat) : Int) := by rw [i32_add (by rw [e1]; omega), e1]; omega
                        exact k _ _ _ _ _ hi2 (by rw [mst_17 (by show (σ.1 141 n).toInt.toNat = 17; omega) (by have q := (hco.l2 (qo2 (by omega))).1; omega)]; rw [if_neg (by decide)] at hv13; exact hv13) (by have q := (hco.l2 (qo2 (by omega))); rw [mst_17 (by show (σ.1 141 n).toInt.toNat = 17; omega) (by have q := (hco.l2 (qo2 (by omega))).1; omega), List.length_cons, List.length_tail, List.length_tail]; have e : ((S.length - 1 - 1 + 1 : Nat) : Int) = (S.length : Int) - 1 := (by omega); rw [e]; exact q.2)
                    · refine z_aload_n (f := 0) (i := 0) (q := 4) (pc' := 356) ⟨by decide +kernel, rfl⟩ rfl rfl ?_
                      refine w_getr (k := 110) (j := 62) (idx := 136) (pc' := 359) fxe_13_136 kfa_110_62 ⟨by decide +kernel, rfl⟩ ?_
                      refine z_aload_n (f := 0) (i := 0) (q := 4) (pc' := 360) ⟨by decide +kernel, rfl⟩ rfl rfl ?_
                      refine w_geti (k := 110) (j := 64) (idx := 655) (pc' := 363) fxe_13_655 kfa_110_64 ⟨by decide +kernel, rfl⟩ ?_
                      refine z_iconst (i := 1) (v := 1) (pc' := 364) ⟨by decide +kernel, rfl⟩ (by decide) ?_
                      refine z_isub (pc' := 365) ⟨by decide +kernel, rfl⟩ ?_
                      refine z_aload_n (f := 0) (i := 0) (q := 4) (pc' := 366) ⟨by decide +kernel, rfl⟩ rfl rfl ?_
                      refine w_getr (k := 110) (j := 62) (idx := 136) (pc' := 369) fxe_13_136 kfa_110_62 ⟨by decide +kernel, rfl⟩ ?_
                      refine z_aload_n (f := 0) (i := 0) (q := 4) (pc' := 370) ⟨by decide +kernel, rfl⟩ rfl rfl ?_
                      refine w_geti (k := 110) (j := 64) (idx := 655) (pc' := 373) fxe_13_655 kfa_110_64 ⟨by decide +kernel, rfl⟩ ?_
                      refine z_iconst (i := 1) (v := 1) (pc' := 374) ⟨by decide +kernel, rfl⟩ (by decide) ?_
                      refine z_isub (pc' := 375) ⟨by decide +kernel, rfl⟩ ?_
                      refine w_iald (k := 151) (n := S.tail.length) (pc' := 376) kaa_151 ((ms_t h (by have q := (hco.l1 (qo1 (by have hcd : code.toInt = (σ.1 141 n).toInt := (by rw [hcode]); have qh1 := j_ge_t h1; have qh2 := j_ge_t h2; have qh3 := j_ne_t h3; have qh4 := j_ne_t h4; have qh5 := j_ne_t h5; have qh6 := j_ne_t h6; have qh7 := j_ge_t h7; have qh8 := j_ne_t h8; have qh9 := j_ne_t h9; have qh10 := j_ne_f h10; have z2 : (2 : Int32).toInt = 2 := (by decide); have z4 : (4 : Int32).toInt = 4 := (by decide); have z5 : (5 : Int32).toInt = 5 := (by decide); have z6 : (6 : Int32).toInt = 6 := (by decide); have z7 : (7 : Int32).toInt = 7 := (by decide); have z14 : (14 : Int32).toInt = 14 := (by decide); have z15 : (15 : Int32).toInt = 15 := (by decide); have z16 : (16 : Int32).toInt = 16 := (by decide); have z17 : (17 : Int32).toInt = 17 := (by decide); have hat := hco.at; omega))).1; omega)).1) ((ms_t h (by have q := (hco.l1 (qo1 (by have hcd : code.toInt = (σ.1 141 n).toInt := (by rw [hcode]); have qh1 := j_ge_t h1; have qh2 := j_ge_t h2; have qh3 := j_ne_t h3; have qh4 := j_ne_t h4; have qh5 := j_ne_t h5; have qh6 := j_ne_t h6; have qh7 := j_ge_t h7; have qh8 := j_ne_t h8; have qh9 := j_ne_t h9; have qh10 := j_ne_f h10; have z2 : (2 : Int32).toInt = 2 := (by decide); have z4 : (4 : Int32).toInt = 4 := (by decide); have z5 : (5 : Int32).toInt = 5 := (by decide); have z6 : (6 : Int32).toInt = 6 := (by decide); have z7 : (7 : Int32).toInt = 7 := (by decide); have z14 : (14 : Int32).toInt = 14 := (by decide); have z15 : (15 : Int32).toInt = 15 := (by decide); have z16 : (16 : Int32).toInt = 16 := (by decide); have z17 : (17 : Int32).toInt = 17 := (by decide); have hat := hco.at; omega))).1; omega)).2.1) ⟨by decide +kernel, rfl⟩ ?_
                      refine z_iconst (i := 4) (v := 4) (pc' := 377) ⟨by decide +kernel, rfl⟩ (by decide) ?_
                      refine z_icmp_ne (off := 7) (tgt := 384) (pc' := 380) ⟨by decide +kernel, by decide, rfl⟩ (fun h14 => ?_) (fun h14 => ?_)
                      · refine z_aload_n (f := 0) (i := 0) (q := 4) (pc' := 385) ⟨by decide +kernel, rfl⟩ rfl rfl ?_
                        refine w_getr (k := 110) (j := 62) (idx := 136) (pc' := 388) fxe_13_136 kfa_110_62 ⟨by decide +kernel, rfl⟩ ?_
                        refine z_aload_n (f := 0) (i := 0) (q := 4) (pc' := 389) ⟨by decide +kernel, rfl⟩ rfl rfl ?_
                        refine w_geti (k := 110) (j := 64) (idx := 655) (pc' := 392) fxe_13_655 kfa_110_64 ⟨by decide +kernel, rfl⟩ ?_
                        refine z_iconst (i := 1) (v := 1) (pc' := 393) ⟨by decide +kernel, rfl⟩ (by decide) ?_
                        refine z_isub (pc' := 394) ⟨by decide +kernel, rfl⟩ ?_
                        refine w_iald (k := 151) (n := S.tail.length) (pc' := 395) kaa_151 ((ms_t h (by have q := (hco.l1 (qo1 (by have hcd : code.toInt = (σ.1 141 n).toInt := (by rw [hcode]); have qh1 := j_ge_t h1; have qh2 := j_ge_t h2; have qh3 := j_ne_t h3; have qh4 := j_ne_t h4; have qh5 := j_ne_t h5; have qh6 := j_ne_t h6; have qh7 := j_ge_t h7; have qh8 := j_ne_t h8; have qh9 := j_ne_t h9; have qh10 := j_ne_f h10; have z2 : (2 : Int32).toInt = 2 := (by decide); have z4 : (4 : Int32).toInt = 4 := (by decide); have z5 : (5 : Int32).toInt = 5 := (by decide); have z6 : (6 : Int32).toInt = 6 := (by decide); have z7 : (7 : Int32).toInt = 7 := (by decide); have z14 : (14 : Int32).toInt = 14 := (by decide); have z15 : (15 : Int32).toInt = 15 := (by decide); have z16 : (16 : Int32).toInt = 16 := (by decide); have z17 : (17 : Int32).toInt = 17 := (by decide); have hat := hco.at; omega))).1; omega)).1) ((ms_t h (by have q := (hco.l1 (qo1 (by have hcd : code.toInt = (σ.1 141 n).toInt := (by rw [hcode]); have qh1 := j_ge_t h1; have qh2 := j_ge_t h2; have qh3 := j_ne_t h3; have qh4 := j_ne_t h4; have qh5 := j_ne_t h5; have qh6 := j_ne_t h6; have qh7 := j_ge_t h7; have qh8 := j_ne_t h8; have qh9 := j_ne_t h9; have qh10 := j_ne_f h10; have z2 : (2 : Int32).toInt = 2 := (by decide); have z4 : (4 : Int32).toInt = 4 := (by decide); have z5 : (5 : Int32).toInt = 5 := (by decide); have z6 : (6 : Int32).toInt = 6 := (by decide); have z7 : (7 : Int32).toInt = 7 := (by decide); have z14 : (14 : Int32).toInt = 14 := (by decide); have z15 : (15 : Int32).toInt = 15 := (by decide); have z16 : (16 : Int32).toInt = 16 := (by decide); have z17 : (17 : Int32).toInt = 17 := (by decide); have hat := hco.at; omega))).1; omega)).2.1) ⟨by decide +kernel, rfl⟩ ?_
                        refine z_iconst (i := 5) (v := 5) (pc' := 396) ⟨by decide +kernel, rfl⟩ (by decide) ?_
                        refine z_icmp_ne (off := 7) (tgt := 403) (pc' := 399) ⟨by decide +kernel, by decide, rfl⟩ (fun h15 => ?_) (fun h15 => ?_)
                        · refine z_aload_n (f := 0) (i := 0) (q := 4) (pc' := 404) ⟨by decide +kernel, rfl⟩ rfl rfl ?_
                          refine w_getr (k := 110) (j := 62) (idx := 136) (pc' := 407) fxe_13_136 kfa_110_62 ⟨by decide +kernel, rfl⟩ ?_
                          refine z_aload_n (f := 0) (i := 0) (q := 4) (pc' := 408) ⟨by decide +kernel, rfl⟩ rfl rfl ?_
                          refine w_geti (k := 110) (j := 64) (idx := 655) (pc' := 411) fxe_13_655 kfa_110_64 ⟨by decide +kernel, rfl⟩ ?_
                          refine z_iconst (i := 1) (v := 1) (pc' := 412) ⟨by decide +kernel, rfl⟩ (by decide) ?_
                          refine z_isub (pc' := 413) ⟨by decide +kernel, rfl⟩ ?_
                          refine w_iald (k := 151) (n := S.tail.length) (pc' := 414) kaa_151 ((ms_t h (by have q := (hco.l1 (qo1 (by have hcd : code.toInt = (σ.1 141 n).toInt := (by rw [hcode]); have qh1 := j_ge_t h1; have qh2 := j_ge_t h2; have qh3 := j_ne_t h3; have qh4 := j_ne_t h4; have qh5 := j_ne_t h5; have qh6 := j_ne_t h6; have qh7 := j_ge_t h7; have qh8 := j_ne_t h8; have qh9 := j_ne_t h9; have qh10 := j_ne_f h10; have z2 : (2 : Int32).toInt = 2 := (by decide); have z4 : (4 : Int32).toInt = 4 := (by decide); have z5 : (5 : Int32).toInt = 5 := (by decide); have z6 : (6 : Int32).toInt = 6 := (by decide); have z7 : (7 : Int32).toInt = 7 := (by decide); have z14 : (14 : Int32).toInt = 14 := (by decide); have z15 : (15 : Int32).toInt = 15 := (by decide); have z16 : (16 : Int32).toInt = 16 := (by decide); have z17 : (17 : Int32).toInt = 17 := (by decide); have hat := hco.at; omega))).1; omega)).1) ((ms_t h (by have q := (hco.l1 (qo1 (by have hcd : code.toInt = (σ.1 141 n).toInt := (by rw [hcode]); have qh1 := j_ge_t h1; have qh2 := j_ge_t h2; have qh3 := j_ne_t h3; have qh4 := j_ne_t h4; have qh5 := j_ne_t h5; have qh6 := j_ne_t h6; have qh7 := j_ge_t h7; have qh8 := j_ne_t h8; have qh9 := j_ne_t h9; have qh10 := j_ne_f h10; have z2 : (2 : Int32).toInt = 2 := (by decide); have z4 : (4 : Int32).toInt = 4 := (by decide); have z5 : (5 : Int32).toInt = 5 := (by decide); have z6 : (6 : Int32).toInt = 6 := (by decide); have z7 : (7 : Int32).toInt = 7 := (by decide); have z14 : (14 : Int32).toInt = 14 := (by decide); have z15 : (15 : Int32).toInt = 15 := (by decide); have z16 : (16 : Int32).toInt = 16 := (by decide); have z17 : (17 : Int32).toInt = 17 := (by decide); have hat := hco.at; omega))).1; omega)).2.1) ⟨by decide +kernel, rfl⟩ ?_
                          refine w_iast (k := 151) (n := S.tail.length) (pc' := 415) kaa_151 ((ms_t h (by have q := (hco.l1 (qo1 (by have hcd : code.toInt = (σ.1 141 n).toInt := (by rw [hcode]); have qh1 := j_ge_t h1; have qh2 := j_ge_t h2; have qh3 := j_ne_t h3; have qh4 := j_ne_t h4; have qh5 := j_ne_t h5; have qh6 := j_ne_t h6; have qh7 := j_ge_t h7; have qh8 := j_ne_t h8; have qh9 := j_ne_t h9; have qh10 := j_ne_f h10; have z2 : (2 : Int32).toInt = 2 := (by decide); have z4 : (4 : Int32).toInt = 4 := (by decide); have z5 : (5 : Int32).toInt = 5 := (by decide); have z6 : (6 : Int32).toInt = 6 := (by decide); have z7 : (7 : Int32).toInt = 7 := (by decide); have z14 : (14 : Int32).toInt = 14 := (by decide); have z15 : (15 : Int32).toInt = 15 := (by decide); have z16 : (16 : Int32).toInt = 16 := (by decide); have z17 : (17 : Int32).toInt = 17 := (by decide); have hat := hco.at; omega))).1; omega)).1) ((ms_t h (by have q := (hco.l1 (qo1 (by have hcd : code.toInt = (σ.1 141 n).toInt := (by rw [hcode]); have qh1 := j_ge_t h1; have qh2 := j_ge_t h2; have qh3 := j_ne_t h3; have qh4 := j_ne_t h4; have qh5 := j_ne_t h5; have qh6 := j_ne_t h6; have qh7 := j_ge_t h7; have qh8 := j_ne_t h8; have qh9 := j_ne_t h9; have qh10 := j_ne_f h10; have z2 : (2 : Int32).toInt = 2 := (by decide); have z4 : (4 : Int32).toInt = 4 := (by decide); have z5 : (5 : Int32).toInt = 5 := (by decide); have z6 : (6 : Int32).toInt = 6 := (by decide); have z7 : (7 : Int32).toInt = 7 := (by decide); have z14 : (14 : Int32).toInt = 14 := (by decide); have z15 : (15 : Int32).toInt = 15 := (by decide); have z16 : (16 : Int32).toInt = 16 := (by decide); have z17 : (17 : Int32).toInt = 17 := (by decide); have hat := hco.at; omega))).1; omega)).2.1) ⟨by decide +kernel, rfl⟩ ?_
                          generalize hs16 : zI τ 151 S.tail.length (τ.1 151 S.tail.length) = σ16
                          refine z_goto (off := 19) (tgt := 434) (pc' := 418) ⟨by decide +kernel, by decide, rfl⟩ ?_
                          refine z_iinc (i := 6) (z := 1) (q := 3) (pc' := 437) ⟨by decide +kernel, rfl⟩ rfl rfl (by decide) rfl ?_
                          show Wz E Y_M_evaluate 437 [(6, .int (i + Int32.ofInt 1)), (9, .int f), (8, .int v), (7, .int code), (0, .ref 110), (1, .int f0), (2, .int to), (3, .int who), (4, .int thing), (5, .int t)] [] σ16 K
                          refine z_goto (off := (-429)) (tgt := 8) (pc' := 440) ⟨by decide +kernel, by decide, rfl⟩ ?_
                          have z0L : (0 : Int64).toInt = 0 := by decide
                          have z14 : (14 : Int32).toInt = 14 := by decide
                          have z15 : (15 : Int32).toInt = 15 := by decide
                          have z16 : (16 : Int32).toInt = 16 := by decide
                          have z2 : (2 : Int32).toInt = 2 := by decide
                          have z4 : (4 : Int32).toInt = 4 := by decide
                          have z5 : (5 : Int32).toInt = 5 := by decide
                          have z6 : (6 : Int32).toInt = 6 := by decide
                          have z7 : (7 : Int32).toInt = 7 := by decide
                          have gh1 := j_ge_t h1
                          have gh2 := j_ge_t h2
                          have gh3 := j_ne_t h3
                          have gh4 := j_ne_t h4
                          have gh5 := j_ne_t h5
                          have gh6 := j_ne_t h6
                          have gh7 := j_ge_t h7
                          have gh8 := j_ne_t h8
                          have gh9 := j_ne_t h9
                          have gh10 := j_ne_f h10
                          have gh14 := j_ne_t h14
                          have gh15 := j_ne_t h15
                          have hcd : code.toInt = (σ.1 141 n).toInt := by rw [hcode]
                          have hat := hco.at
                          have e1 : (Int32.ofInt 1).toInt = 1 := by decide
                          have hi2 : (i + Int32.ofInt 1).toInt = ((n + 1 : Nat) : Int) := by rw [i32_add (by rw [e1]; omega), e1]; omega
                          have hl1 : 1 ≤ S.length := (by have q := (hco.l1 (qo1 (by omega))).1; omega)
                          have tt := ms_t h hl1
                          rw [tt.2.2.1] at gh14
                          rw [tt.2.2.1] at gh15
                          have mv := ms_setk (c := (hd1 S).1) h hl1 (tt.2.2.1) hs16
                          exact k _ _ _ _ _ hi2 (by rw [mst_16 (by show (σ.1 141 n).toInt.toNat = 16; omega) hl1]; rw [nt_o (by omega) (by omega)]; exact mv) (by have q := (hco.l1 (qo1 (by omega))); rw [mst_16 (by show (σ.1 141 n).toInt.toNat = 16; omega) hl1, List.length_cons, List.length_tail]; have e : ((S.length - 1 + 1 : Nat) : Int) = (S.length : Int) := (by omega); rw [e]; exact q.2)
                        · refine z_iconst (i := 4) (v := 4) (pc' := 400) ⟨by decide +kernel, rfl⟩ (by decide) ?_
                          refine z_goto (off := 14) (tgt := 414) (pc' := 403) ⟨by decide +kernel, by decide, rfl⟩ ?_
                          refine w_iast (k := 151) (n := S.tail.length) (pc' := 415) kaa_151 ((ms_t h (by have q := (hco.l1 (qo1 (by have hcd : code.toInt = (σ.1 141 n).toInt := (by rw [hcode]); have qh1 := j_ge_t h1; have qh2 := j_ge_t h2; have qh3 := j_ne_t h3; have qh4 := j_ne_t h4; have qh5 := j_ne_t h5; have qh6 := j_ne_t h6; have qh7 := j_ge_t h7; have qh8 := j_ne_t h8; have qh9 := j_ne_t h9; have qh10 := j_ne_f h10; have z2 : (2 : Int32).toInt = 2 := (by decide); have z4 : (4 : Int32).toInt = 4 := (by decide); have z5 : (5 : Int32).toInt = 5 := (by decide); have z6 : (6 : Int32).toInt = 6 := (by decide); have z7 : (7 : Int32).toInt = 7 := (by decide); have z14 : (14 : Int32).toInt = 14 := (by decide); have z15 : (15 : Int32).toInt = 15 := (by decide); have z16 : (16 : Int32).toInt = 16 := (by decide); have z17 : (17 : Int32).toInt = 17 := (by decide); have hat := hco.at; omega))).1; omega)).1) ((ms_t h (by have q := (hco.l1 (qo1 (by have hcd : code.toInt = (σ.1 141 n).toInt := (by rw [hcode]); have qh1 := j_ge_t h1; have qh2 := j_ge_t h2; have qh3 := j_ne_t h3; have qh4 := j_ne_t h4; have qh5 := j_ne_t h5; have qh6 := j_ne_t h6; have qh7 := j_ge_t h7; have qh8 := j_ne_t h8; have qh9 := j_ne_t h9; have qh10 := j_ne_f h10; have z2 : (2 : Int32).toInt = 2 := (by decide); have z4 : (4 : Int32).toInt = 4 := (by decide); have z5 : (5 : Int32).toInt = 5 := (by decide); have z6 : (6 : Int32).toInt = 6 := (by decide); have z7 : (7 : Int32).toInt = 7 := (by decide); have z14 : (14 : Int32).toInt = 14 := (by decide); have z15 : (15 : Int32).toInt = 15 := (by decide); have z16 : (16 : Int32).toInt = 16 := (by decide); have z17 : (17 : Int32).toInt = 17 := (by decide); have hat := hco.at; omega))).1; omega)).2.1) ⟨by decide +kernel, rfl⟩ ?_
                          generalize hs17 : zI τ 151 S.tail.length 4 = σ17
                          refine z_goto (off := 19) (tgt := 434) (pc' := 418) ⟨by decide +kernel, by decide, rfl⟩ ?_
                          refine z_iinc (i := 6) (z := 1) (q := 3) (pc' := 437) ⟨by decide +kernel, rfl⟩ rfl rfl (by decide) rfl ?_
                          show Wz E Y_M_evaluate 437 [(6, .int (i + Int32.ofInt 1)), (9, .int f), (8, .int v), (7, .int code), (0, .ref 110), (1, .int f0), (2, .int to), (3, .int who), (4, .int thing), (5, .int t)] [] σ17 K
                          refine z_goto (off := (-429)) (tgt := 8) (pc' := 440) ⟨by decide +kernel, by decide, rfl⟩ ?_
                          have z0L : (0 : Int64).toInt = 0 := by decide
                          have z14 : (14 : Int32).toInt = 14 := by decide
                          have z15 : (15 : Int32).toInt = 15 := by decide
                          have z16 : (16 : Int32).toInt = 16 := by decide
                          have z2 : (2 : Int32).toInt = 2 := by decide
                          have z4 : (4 : Int32).toInt = 4 := by decide
                          have z5 : (5 : Int32).toInt = 5 := by decide
                          have z6 : (6 : Int32).toInt = 6 := by decide
                          have z7 : (7 : Int32).toInt = 7 := by decide
                          have gh1 := j_ge_t h1
                          have gh2 := j_ge_t h2
                          have gh3 := j_ne_t h3
                          have gh4 := j_ne_t h4
                          have gh5 := j_ne_t h5
                          have gh6 := j_ne_t h6
                          have gh7 := j_ge_t h7
                          have gh8 := j_ne_t h8
                          have gh9 := j_ne_t h9
                          have gh10 := j_ne_f h10
                          have gh14 := j_ne_t h14
                          have gh15 := j_ne_f h15
                          have hcd : code.toInt = (σ.1 141 n).toInt := by rw [hcode]
                          have hat := hco.at
                          have e1 : (Int32.ofInt 1).toInt = 1 := by decide
                          have hi2 : (i + Int32.ofInt 1).toInt = ((n + 1 : Nat) : Int) := by rw [i32_add (by rw [e1]; omega), e1]; omega
                          have hl1 : 1 ≤ S.length := (by have q := (hco.l1 (qo1 (by omega))).1; omega)
                          have tt := ms_t h hl1
                          rw [tt.2.2.1] at gh14
                          rw [tt.2.2.1] at gh15
                          have mv := ms_setk (c := 4) h hl1 (by decide) hs17
                          exact k _ _ _ _ _ hi2 (by rw [mst_16 (by show (σ.1 141 n).toInt.toNat = 16; omega) hl1]; rw [nt_5 (by omega)]; exact mv) (by have q := (hco.l1 (qo1 (by omega))); rw [mst_16 (by show (σ.1 141 n).toInt.toNat = 16; omega) hl1, List.length_cons, List.length_tail]; have e : ((S.length - 1 + 1 : Nat) : Int) = (S.length : Int) := (by omega); rw [e]; exact q.2)
                      · refine z_iconst (i := 5) (v := 5) (pc' := 381) ⟨by decide +kernel, rfl⟩ (by decide) ?_
                        refine z_goto (off := 33) (tgt := 414) (pc' := 384) ⟨by decide +kernel, by decide, rfl⟩ ?_
                        refine w_iast (k := 151) (n := S.tail.length) (pc' := 415) kaa_151 ((ms_t h (by have q := (hco.l1 (qo1 (by have hcd : code.toInt = (σ.1 141 n).toInt := (by rw [hcode]); have qh1 := j_ge_t h1; have qh2 := j_ge_t h2; have qh3 := j_ne_t h3; have qh4 := j_ne_t h4; have qh5 := j_ne_t h5; have qh6 := j_ne_t h6; have qh7 := j_ge_t h7; have qh8 := j_ne_t h8; have qh9 := j_ne_t h9; have qh10 := j_ne_f h10; have z2 : (2 : Int32).toInt = 2 := (by decide); have z4 : (4 : Int32).toInt = 4 := (by decide); have z5 : (5 : Int32).toInt = 5 := (by decide); have z6 : (6 : Int32).toInt = 6 := (by decide); have z7 : (7 : Int32).toInt = 7 := (by decide); have z14 : (14 : Int32).toInt = 14 := (by decide); have z15 : (15 : Int32).toInt = 15 := (by decide); have z16 : (16 : Int32).toInt = 16 := (by decide); have z17 : (17 : Int32).toInt = 17 := (by decide); have hat := hco.at; omega))).1; omega)).1) ((ms_t h (by have q := (hco.l1 (qo1 (by have hcd : code.toInt = (σ.1 141 n).toInt := (by rw [hcode]); have qh1 := j_ge_t h1; have qh2 := j_ge_t h2; have qh3 := j_ne_t h3; have qh4 := j_ne_t h4; have qh5 := j_ne_t h5; have qh6 := j_ne_t h6; have qh7 := j_ge_t h7; have qh8 := j_ne_t h8; have qh9 := j_ne_t h9; have qh10 := j_ne_f h10; have z2 : (2 : Int32).toInt = 2 := (by decide); have z4 : (4 : Int32).toInt = 4 := (by decide); have z5 : (5 : Int32).toInt = 5 := (by decide); have z6 : (6 : Int32).toInt = 6 := (by decide); have z7 : (7 : Int32).toInt = 7 := (by decide); have z14 : (14 : Int32).toInt = 14 := (by decide); have z15 : (15 : Int32).toInt = 15 := (by decide); have z16 : (16 : Int32).toInt = 16 := (by decide); have z17 : (17 : Int32).toInt = 17 := (by decide); have hat := hco.at; omega))).1; omega)).2.1) ⟨by decide +kernel, rfl⟩ ?_
                        generalize hs18 : zI τ 151 S.tail.length 5 = σ18
                        refine z_goto (off := 19) (tgt := 434) (pc' := 418) ⟨by decide +kernel, by decide, rfl⟩ ?_
                        refine z_iinc (i := 6) (z := 1) (q := 3) (pc' := 437) ⟨by decide +kernel, rfl⟩ rfl rfl (by decide) rfl ?_
                        show Wz E Y_M_evaluate 437 [(6, .int (i + Int32.ofInt 1)), (9, .int f), (8, .int v), (7, .int code), (0, .ref 110), (1, .int f0), (2, .int to), (3, .int who), (4, .int thing), (5, .int t)] [] σ18 K
                        refine z_goto (off := (-429)) (tgt := 8) (pc' := 440) ⟨by decide +kernel, by decide, rfl⟩ ?_
                        have z0L : (0 : Int64).toInt = 0 := by decide
                        have z14 : (14 : Int32).toInt = 14 := by decide
                        have z15 : (15 : Int32).toInt = 15 := by decide
                        have z16 : (16 : Int32).toInt = 16 := by decide
                        have z2 : (2 : Int32).toInt = 2 := by decide
                        have z4 : (4 : Int32).toInt = 4 := by decide
                        have z5 : (5 : Int32).toInt = 5 := by decide
                        have z6 : (6 : Int32).toInt = 6 := by decide
                        have z7 : (7 : Int32).toInt = 7 := by decide
                        have gh1 := j_ge_t h1
                        have gh2 := j_ge_t h2
                        have gh3 := j_ne_t h3
                        have gh4 := j_ne_t h4
                        have gh5 := j_ne_t h5
                        have gh6 := j_ne_t h6
                        have gh7 := j_ge_t h7
                        have gh8 := j_ne_t h8
                        have gh9 := j_ne_t h9
                        have gh10 := j_ne_f h10
                        have gh14 := j_ne_f h14
                        have hcd : code.toInt = (σ.1 141 n).toInt := by rw [hcode]
                        have hat := hco.at
                        have e1 : (Int32.ofInt 1).toInt = 1 := by decide
                        have hi2 : (i + Int32.ofInt 1).toInt = ((n + 1 : Nat) : Int) := by rw [i32_add (by rw [e1]; omega), e1]; omega
                        have hl1 : 1 ≤ S.length := (by have q := (hco.l1 (qo1 (by omega))).1; omega)
                        have tt := ms_t h hl1
                        rw [tt.2.2.1] at gh14
                        have mv := ms_setk (c := 5) h hl1 (by decide) hs18
                        exact k _ _ _ _ _ hi2 (by rw [mst_16 (by show (σ.1 141 n).toInt.toNat = 16; omega) hl1]; rw [nt_4 (by omega)]; exact mv) (by have q := (hco.l1 (qo1 (by omega))); rw [mst_16 (by show (σ.1 141 n).toInt.toNat = 16; omega) hl1, List.length_cons, List.length_tail]; have e : ((S.length - 1 + 1 : Nat) : Int) = (S.length : Int) := (by omega); rw [e]; exact q.2)
                  · refine z_aload_n (f := 0) (i := 0) (q := 4) (pc' := 326) ⟨by decide +kernel, rfl⟩ rfl rfl ?_
                    refine z_aload_n (f := 0) (i := 0) (q := 4) (pc' := 327) ⟨by decide +kernel, rfl⟩ rfl rfl ?_
                    refine w_getr (k := 110) (j := 16) (idx := 41) (pc' := 330) fxe_13_41 kfa_110_16 ⟨by decide +kernel, rfl⟩ ?_
                    refine z_iload (i := 9) (q := 0) (pc' := 332) ⟨by decide +kernel, rfl⟩ rfl ?_
                    refine w_iald (k := 121) (n := fn) (pc' := 333) kaa_121 ((hf (by have hcd : code.toInt = (σ.1 141 n).toInt := (by rw [hcode]); have qh1 := j_ge_t h1; have qh2 := j_ge_t h2; have qh3 := j_ne_t h3; have qh4 := j_ne_t h4; have qh5 := j_ne_t h5; have qh6 := j_ne_t h6; have qh7 := j_ge_t h7; have qh8 := j_ne_t h8; have qh9 := j_ne_f h9; have z2 : (2 : Int32).toInt = 2 := (by decide); have z4 : (4 : Int32).toInt = 4 := (by decide); have z5 : (5 : Int32).toInt = 5 := (by decide); have z6 : (6 : Int32).toInt = 6 := (by decide); have z7 : (7 : Int32).toInt = 7 := (by decide); have z14 : (14 : Int32).toInt = 14 := (by decide); have z15 : (15 : Int32).toInt = 15 := (by decide); have z16 : (16 : Int32).toInt = 16 := (by decide); have z17 : (17 : Int32).toInt = 17 := (by decide); have hat := hco.at; omega)).1) ((hf (by have hcd : code.toInt = (σ.1 141 n).toInt := (by rw [hcode]); have qh1 := j_ge_t h1; have qh2 := j_ge_t h2; have qh3 := j_ne_t h3; have qh4 := j_ne_t h4; have qh5 := j_ne_t h5; have qh6 := j_ne_t h6; have qh7 := j_ge_t h7; have qh8 := j_ne_t h8; have qh9 := j_ne_f h9; have z2 : (2 : Int32).toInt = 2 := (by decide); have z4 : (4 : Int32).toInt = 4 := (by decide); have z5 : (5 : Int32).toInt = 5 := (by decide); have z6 : (6 : Int32).toInt = 6 := (by decide); have z7 : (7 : Int32).toInt = 7 := (by decide); have z14 : (14 : Int32).toInt = 14 := (by decide); have z15 : (15 : Int32).toInt = 15 := (by decide); have z16 : (16 : Int32).toInt = 16 := (by decide); have z17 : (17 : Int32).toInt = 17 := (by decide); have hat := hco.at; omega)).2) ⟨by decide +kernel, rfl⟩ ?_
                    refine z_if_ne (off := 7) (tgt := 340) (pc' := 336) ⟨by decide +kernel, by decide, rfl⟩ (fun h19 => ?_) (fun h19 => ?_)
                    · refine z_iconst (i := 4) (v := 4) (pc' := 341) ⟨by decide +kernel, rfl⟩ (by decide) ?_
                      refine z_lconst (i := 0) (v := 0) (pc' := 342) ⟨by decide +kernel, rfl⟩ (by decide) ?_
                      refine w_invV (Z := Y_M_push) (idx := 658) (kb := 110) (As := [.int 4, .long 0]) (rest := []) (pc' := 345) cl_13_658 rfl ⟨rfl, rfl⟩ kfa_110_0 rfl ⟨⟨by decide, by decide⟩, rfl, rfl⟩ ⟨by decide +kernel, rfl⟩ rfl rfl (Nat.le_of_ble_eq_true rfl) rfl rfl ?_
                      refine cz_M_push (c := 4) h hl (by decide) (fun σ20 hv20 => ?_)
                      show Wz E Y_M_evaluate 345 [(9, .int f), (8, .int v), (7, .int code), (6, .int i), (0, .ref 110), (1, .int f0), (2, .int to), (3, .int who), (4, .int thing), (5, .int t)] [] σ20 K
                      refine z_goto (off := 89) (tgt := 434) (pc' := 348) ⟨by decide +kernel, by decide, rfl⟩ ?_
                      refine z_iinc (i := 6) (z := 1) (q := 3) (pc' := 437) ⟨by decide +kernel, rfl⟩ rfl rfl (by decide) rfl ?_
                      show Wz E Y_M_evaluate 437 [(6, .int (i + Int32.ofInt 1)), (9, .int f), (8, .int v), (7, .int code), (0, .ref 110), (1, .int f0), (2, .int to), (3, .int who), (4, .int thing), (5, .int t)] [] σ20 K
                      refine z_goto (off := (-429)) (tgt := 8) (pc' := 440) ⟨by decide +kernel, by decide, rfl⟩ ?_
                      have z0L : (0 : Int64).toInt = 0 := by decide
                      have z0 : (0 : Int32).toInt = 0 := by decide
                      have z14 : (14 : Int32).toInt = 14 := by decide
                      have z15 : (15 : Int32).toInt = 15 := by decide
                      have z2 : (2 : Int32).toInt = 2 := by decide
                      have z4 : (4 : Int32).toInt = 4 := by decide
                      have z5 : (5 : Int32).toInt = 5 := by decide
                      have z6 : (6 : Int32).toInt = 6 := by decide
                      have z7 : (7 : Int32).toInt = 7 := by decide
                      have gh1 := j_ge_t h1
                      have gh2 := j_ge_t h2
                      have gh3 := j_ne_t h3
                      have gh4 := j_ne_t h4
                      have gh5 := j_ne_t h5
                      have gh6 := j_ne_t h6
                      have gh7 := j_ge_t h7
                      have gh8 := j_ne_t h8
                      have gh9 := j_ne_f h9
                      have gh19 := j_ne_t (y := 0) h19
                      have hcd : code.toInt = (σ.1 141 n).toInt := by rw [hcode]
                      have hat := hco.at
                      have e1 : (Int32.ofInt 1).toInt = 1 := by decide
                      have hi2 : (i + Int32.ofInt 1).toInt = ((n + 1 : Nat) : Int) := by rw [i32_add (by rw [e1]; omega), e1]; omega
                      rw [(ms_s h fn).1] at gh19
                      exact k _ _ _ _ _ hi2 (by rw [mst_15 (by show (σ.1 141 n).toInt.toNat = 15; omega)]; rw [ev_kn (by show fsJ who.toInt thing.toInt (c32 (σ.2 142 n).toInt) < 480; rw [← hfn]; exact (hf (by omega)).2), ← hfn, if_neg (by omega)]; exact hv20) (by have q := hco.l0 (qo0 (by omega)); rw [mst_15 (by show (σ.1 141 n).toInt.toNat = 15; omega), List.length_cons]; exact q)
                    · refine z_iconst (i := 5) (v := 5) (pc' := 337) ⟨by decide +kernel, rfl⟩ (by decide) ?_
                      refine z_goto (off := 4) (tgt := 341) (pc' := 340) ⟨by decide +kernel, by decide, rfl⟩ ?_
                      refine z_lconst (i := 0) (v := 0) (pc' := 342) ⟨by decide +kernel, rfl⟩ (by decide) ?_
                      refine w_invV (Z := Y_M_push) (idx := 658) (kb := 110) (As := [.int 5, .long 0]) (rest := []) (pc' := 345) cl_13_658 rfl ⟨rfl, rfl⟩ kfa_110_0 rfl ⟨⟨by decide, by decide⟩, rfl, rfl⟩ ⟨by decide +kernel, rfl⟩ rfl rfl (Nat.le_of_ble_eq_true rfl) rfl rfl ?_
                      refine cz_M_push (c := 5) h hl (by decide) (fun σ21 hv21 => ?_)
                      show Wz E Y_M_evaluate 345 [(9, .int f), (8, .int v), (7, .int code), (6, .int i), (0, .ref 110), (1, .int f0), (2, .int to), (3, .int who), (4, .int thing), (5, .int t)] [] σ21 K
                      refine z_goto (off := 89) (tgt := 434) (pc' := 348) ⟨by decide +kernel, by decide, rfl⟩ ?_
                      refine z_iinc (i := 6) (z := 1) (q := 3) (pc' := 437) ⟨by decide +kernel, rfl⟩ rfl rfl (by decide) rfl ?_
                      show Wz E Y_M_evaluate 437 [(6, .int (i + Int32.ofInt 1)), (9, .int f), (8, .int v), (7, .int code), (0, .ref 110), (1, .int f0), (2, .int to), (3, .int who), (4, .int thing), (5, .int t)] [] σ21 K
                      refine z_goto (off := (-429)) (tgt := 8) (pc' := 440) ⟨by decide +kernel, by decide, rfl⟩ ?_
                      have z0L : (0 : Int64).toInt = 0 := by decide
                      have z0 : (0 : Int32).toInt = 0 := by decide
                      have z14 : (14 : Int32).toInt = 14 := by decide
                      have z15 : (15 : Int32).toInt = 15 := by decide
                      have z2 : (2 : Int32).toInt = 2 := by decide
                      have z4 : (4 : Int32).toInt = 4 := by decide
                      have z5 : (5 : Int32).toInt = 5 := by decide
                      have z6 : (6 : Int32).toInt = 6 := by decide
                      have z7 : (7 : Int32).toInt = 7 := by decide
                      have gh1 := j_ge_t h1
                      have gh2 := j_ge_t h2
                      have gh3 := j_ne_t h3
                      have gh4 := j_ne_t h4
                      have gh5 := j_ne_t h5
                      have gh6 := j_ne_t h6
                      have gh7 := j_ge_t h7
                      have gh8 := j_ne_t h8
                      have gh9 := j_ne_f h9
                      have gh19 := j_ne_f (y := 0) h19
                      have hcd : code.toInt = (σ.1 141 n).toInt := by rw [hcode]
                      have hat := hco.at
                      have e1 : (Int32.ofInt 1).toInt = 1 := by decide
                      have hi2 : (i + Int32.ofInt 1).toInt = ((n + 1 : Nat) : Int) := by rw [i32_add (by rw [e1]; omega), e1]; omega
                      rw [(ms_s h fn).1] at gh19
                      exact k _ _ _ _ _ hi2 (by rw [mst_15 (by show (σ.1 141 n).toInt.toNat = 15; omega)]; rw [ev_kn (by show fsJ who.toInt thing.toInt (c32 (σ.2 142 n).toInt) < 480; rw [← hfn]; exact (hf (by omega)).2), ← hfn, if_pos (by omega)]; exact hv21) (by have q := hco.l0 (qo0 (by omega)); rw [mst_15 (by show (σ.1 141 n).toInt.toNat = 15; omega), List.length_cons]; exact q)
                · refine z_aload_n (f := 0) (i := 0) (q := 4) (pc' := 310) ⟨by decide +kernel, rfl⟩ rfl rfl ?_
                  refine z_iload (i := 9) (q := 0) (pc' := 312) ⟨by decide +kernel, rfl⟩ rfl ?_
                  refine w_invV (Z := Y_M_pushIn) (idx := 690) (kb := 110) (As := [.int f]) (rest := []) (pc' := 315) cl_13_690 rfl ⟨rfl, rfl⟩ kfa_110_0 rfl ⟨⟨by decide, by decide⟩, rfl, rfl⟩ ⟨by decide +kernel, rfl⟩ rfl rfl (Nat.le_of_ble_eq_true rfl) rfl rfl ?_
                  refine cz_M_pushIn (ms_1 h (by have q := (hco.l1 (qo1 (by have hcd : code.toInt = (σ.1 141 n).toInt := (by rw [hcode]); have qh1 := j_ge_t h1; have qh2 := j_ge_t h2; have qh3 := j_ne_t h3; have qh4 := j_ne_t h4; have qh5 := j_ne_t h5; have qh6 := j_ne_t h6; have qh7 := j_ge_t h7; have qh8 := j_ne_f h8; have z2 : (2 : Int32).toInt = 2 := (by decide); have z4 : (4 : Int32).toInt = 4 := (by decide); have z5 : (5 : Int32).toInt = 5 := (by decide); have z6 : (6 : Int32).toInt = 6 := (by decide); have z7 : (7 : Int32).toInt = 7 := (by decide); have z14 : (14 : Int32).toInt = 14 := (by decide); have z15 : (15 : Int32).toInt = 15 := (by decide); have z16 : (16 : Int32).toInt = 16 := (by decide); have z17 : (17 : Int32).toInt = 17 := (by decide); have hat := hco.at; omega))).1; omega)) hc (hf (by have hcd : code.toInt = (σ.1 141 n).toInt := (by rw [hcode]); have qh1 := j_ge_t h1; have qh2 := j_ge_t h2; have qh3 := j_ne_t h3; have qh4 := j_ne_t h4; have qh5 := j_ne_t h5; have qh6 := j_ne_t h6; have qh7 := j_ge_t h7; have qh8 := j_ne_f h8; have z2 : (2 : Int32).toInt = 2 := (by decide); have z4 : (4 : Int32).toInt = 4 := (by decide); have z5 : (5 : Int32).toInt = 5 := (by decide); have z6 : (6 : Int32).toInt = 6 := (by decide); have z7 : (7 : Int32).toInt = 7 := (by decide); have z14 : (14 : Int32).toInt = 14 := (by decide); have z15 : (15 : Int32).toInt = 15 := (by decide); have z16 : (16 : Int32).toInt = 16 := (by decide); have z17 : (17 : Int32).toInt = 17 := (by decide); have hat := hco.at; omega)).1 (hf (by have hcd : code.toInt = (σ.1 141 n).toInt := (by rw [hcode]); have qh1 := j_ge_t h1; have qh2 := j_ge_t h2; have qh3 := j_ne_t h3; have qh4 := j_ne_t h4; have qh5 := j_ne_t h5; have qh6 := j_ne_t h6; have qh7 := j_ge_t h7; have qh8 := j_ne_f h8; have z2 : (2 : Int32).toInt = 2 := (by decide); have z4 : (4 : Int32).toInt = 4 := (by decide); have z5 : (5 : Int32).toInt = 5 := (by decide); have z6 : (6 : Int32).toInt = 6 := (by decide); have z7 : (7 : Int32).toInt = 7 := (by decide); have z14 : (14 : Int32).toInt = 14 := (by decide); have z15 : (15 : Int32).toInt = 15 := (by decide); have z16 : (16 : Int32).toInt = 16 := (by decide); have z17 : (17 : Int32).toInt = 17 := (by decide); have hat := hco.at; omega)).2 (fun σ22 hv22 => ?_)
                  show Wz E Y_M_evaluate 315 [(9, .int f), (8, .int v), (7, .int code), (6, .int i), (0, .ref 110), (1, .int f0), (2, .int to), (3, .int who), (4, .int thing), (5, .int t)] [] σ22 K
                  refine z_goto (off := 119) (tgt := 434) (pc' := 318) ⟨by decide +kernel, by decide, rfl⟩ ?_
                  refine z_iinc (i := 6) (z := 1) (q := 3) (pc' := 437) ⟨by decide +kernel, rfl⟩ rfl rfl (by decide) rfl ?_
                  show Wz E Y_M_evaluate 437 [(6, .int (i + Int32.ofInt 1)), (9, .int f), (8, .int v), (7, .int code), (0, .ref 110), (1, .int f0), (2, .int to), (3, .int who), (4, .int thing), (5, .int t)] [] σ22 K
                  refine z_goto (off := (-429)) (tgt := 8) (pc' := 440) ⟨by decide +kernel, by decide, rfl⟩ ?_
                  have z0L : (0 : Int64).toInt = 0 := by decide
                  have z14 : (14 : Int32).toInt = 14 := by decide
                  have z2 : (2 : Int32).toInt = 2 := by decide
                  have z4 : (4 : Int32).toInt = 4 := by decide
                  have z5 : (5 : Int32).toInt = 5 := by decide
                  have z6 : (6 : Int32).toInt = 6 := by decide
                  have z7 : (7 : Int32).toInt = 7 := by decide
                  have gh1 := j_ge_t h1
                  have gh2 := j_ge_t h2
                  have gh3 := j_ne_t h3
                  have gh4 := j_ne_t h4
                  have gh5 := j_ne_t h5
                  have gh6 := j_ne_t h6
                  have gh7 := j_ge_t h7
                  have gh8 := j_ne_f h8
                  have hcd : code.toInt = (σ.1 141 n).toInt := by rw [hcode]
                  have hat := hco.at
                  have e1 : (Int32.ofInt 1).toInt = 1 := by decide
                  have hi2 : (i + Int32.ofInt 1).toInt = ((n + 1 : Nat) : Int) := by rw [i32_add (by rw [e1]; omega), e1]; omega
                  exact k _ _ _ _ _ hi2 (by rw [mst_14 (by show (σ.1 141 n).toInt.toNat = 14; omega) (by have q := (hco.l1 (qo1 (by omega))).1; omega)]; rw [ev_mg (by show fsJ who.toInt thing.toInt (c32 (σ.2 142 n).toInt) < 480; rw [← hfn]; exact (hf (by omega)).2), ← hfn]; exact hv22) (by have q := (hco.l1 (qo1 (by omega))); rw [mst_14 (by show (σ.1 141 n).toInt.toNat = 14; omega) (by have q := (hco.l1 (qo1 (by omega))).1; omega), List.length_cons, List.length_tail]; have e : ((S.length - 1 + 1 : Nat) : Int) = (S.length : Int) := (by omega); rw [e]; exact q.2)
              · refine z_aload_n (f := 0) (i := 0) (q := 4) (pc' := 292) ⟨by decide +kernel, rfl⟩ rfl rfl ?_
                refine z_iload (i := 7) (q := 2) (pc' := 294) ⟨by decide +kernel, rfl⟩ rfl ?_
                refine z_iload (i := 8) (q := 1) (pc' := 296) ⟨by decide +kernel, rfl⟩ rfl ?_
                refine w_invV (Z := Y_M_pushOf) (idx := 687) (kb := 110) (As := [.int code, .int v]) (rest := []) (pc' := 299) cl_13_687 rfl ⟨rfl, rfl⟩ kfa_110_0 rfl ⟨⟨by decide, by decide⟩, rfl, rfl⟩ ⟨by decide +kernel, rfl⟩ rfl rfl (Nat.le_of_ble_eq_true rfl) rfl rfl ?_
                refine cz_M_pushOf (c := (σ.1 141 n).toInt.toNat) (ms_2 h (by have q := (hco.l2 (qo2 (by have hcd : code.toInt = (σ.1 141 n).toInt := (by rw [hcode]); have qh1 := j_ge_t h1; have qh2 := j_ge_t h2; have qh3 := j_ne_t h3; have qh4 := j_ne_t h4; have qh5 := j_ne_t h5; have qh6 := j_ne_t h6; have qh7 := j_ge_f h7; have z2 : (2 : Int32).toInt = 2 := (by decide); have z4 : (4 : Int32).toInt = 4 := (by decide); have z5 : (5 : Int32).toInt = 5 := (by decide); have z6 : (6 : Int32).toInt = 6 := (by decide); have z7 : (7 : Int32).toInt = 7 := (by decide); have z14 : (14 : Int32).toInt = 14 := (by decide); have z15 : (15 : Int32).toInt = 15 := (by decide); have z16 : (16 : Int32).toInt = 16 := (by decide); have z17 : (17 : Int32).toInt = 17 := (by decide); have hat := hco.at; omega))).1; omega)) (by have hcd : code.toInt = (σ.1 141 n).toInt := (by rw [hcode]); have qh1 := j_ge_t h1; have qh2 := j_ge_t h2; have qh3 := j_ne_t h3; have qh4 := j_ne_t h4; have qh5 := j_ne_t h5; have qh6 := j_ne_t h6; have qh7 := j_ge_f h7; have z2 : (2 : Int32).toInt = 2 := (by decide); have z4 : (4 : Int32).toInt = 4 := (by decide); have z5 : (5 : Int32).toInt = 5 := (by decide); have z6 : (6 : Int32).toInt = 6 := (by decide); have z7 : (7 : Int32).toInt = 7 := (by decide); have z14 : (14 : Int32).toInt = 14 := (by decide); have z15 : (15 : Int32).toInt = 15 := (by decide); have z16 : (16 : Int32).toInt = 16 := (by decide); have z17 : (17 : Int32).toInt = 17 := (by decide); have hat := hco.at; omega) (by have hcd : code.toInt = (σ.1 141 n).toInt := (by rw [hcode]); have qh1 := j_ge_t h1; have qh2 := j_ge_t h2; have qh3 := j_ne_t h3; have qh4 := j_ne_t h4; have qh5 := j_ne_t h5; have qh6 := j_ne_t h6; have qh7 := j_ge_f h7; have z2 : (2 : Int32).toInt = 2 := (by decide); have z4 : (4 : Int32).toInt = 4 := (by decide); have z5 : (5 : Int32).toInt = 5 := (by decide); have z6 : (6 : Int32).toInt = 6 := (by decide); have z7 : (7 : Int32).toInt = 7 := (by decide); have z14 : (14 : Int32).toInt = 14 := (by decide); have z15 : (15 : Int32).toInt = 15 := (by decide); have z16 : (16 : Int32).toInt = 16 := (by decide); have z17 : (17 : Int32).toInt = 17 := (by decide); have hat := hco.at; omega) (by have hcd : code.toInt = (σ.1 141 n).toInt := (by rw [hcode]); have qh1 := j_ge_t h1; have qh2 := j_ge_t h2; have qh3 := j_ne_t h3; have qh4 := j_ne_t h4; have qh5 := j_ne_t h5; have qh6 := j_ne_t h6; have qh7 := j_ge_f h7; have z2 : (2 : Int32).toInt = 2 := (by decide); have z4 : (4 : Int32).toInt = 4 := (by decide); have z5 : (5 : Int32).toInt = 5 := (by decide); have z6 : (6 : Int32).toInt = 6 := (by decide); have z7 : (7 : Int32).toInt = 7 := (by decide); have z14 : (14 : Int32).toInt = 14 := (by decide); have z15 : (15 : Int32).toInt = 15 := (by decide); have z16 : (16 : Int32).toInt = 16 := (by decide); have z17 : (17 : Int32).toInt = 17 := (by decide); have hat := hco.at; omega) (fun σ23 hv23 => ?_)
                show Wz E Y_M_evaluate 299 [(9, .int f), (8, .int v), (7, .int code), (6, .int i), (0, .ref 110), (1, .int f0), (2, .int to), (3, .int who), (4, .int thing), (5, .int t)] [] σ23 K
                refine z_goto (off := 135) (tgt := 434) (pc' := 302) ⟨by decide +kernel, by decide, rfl⟩ ?_
                refine z_iinc (i := 6) (z := 1) (q := 3) (pc' := 437) ⟨by decide +kernel, rfl⟩ rfl rfl (by decide) rfl ?_
                show Wz E Y_M_evaluate 437 [(6, .int (i + Int32.ofInt 1)), (9, .int f), (8, .int v), (7, .int code), (0, .ref 110), (1, .int f0), (2, .int to), (3, .int who), (4, .int thing), (5, .int t)] [] σ23 K
                refine z_goto (off := (-429)) (tgt := 8) (pc' := 440) ⟨by decide +kernel, by decide, rfl⟩ ?_
                have z0L : (0 : Int64).toInt = 0 := by decide
                have z14 : (14 : Int32).toInt = 14 := by decide
                have z2 : (2 : Int32).toInt = 2 := by decide
                have z4 : (4 : Int32).toInt = 4 := by decide
                have z5 : (5 : Int32).toInt = 5 := by decide
                have z6 : (6 : Int32).toInt = 6 := by decide
                have z7 : (7 : Int32).toInt = 7 := by decide
                have gh1 := j_ge_t h1
                have gh2 := j_ge_t h2
                have gh3 := j_ne_t h3
                have gh4 := j_ne_t h4
                have gh5 := j_ne_t h5
                have gh6 := j_ne_t h6
                have gh7 := j_ge_f h7
                have hcd : code.toInt = (σ.1 141 n).toInt := by rw [hcode]
                have hat := hco.at
                have e1 : (Int32.ofInt 1).toInt = 1 := by decide
                have hi2 : (i + Int32.ofInt 1).toInt = ((n + 1 : Nat) : Int) := by rw [i32_add (by rw [e1]; omega), e1]; omega
                exact k _ _ _ _ _ hi2 (by rw [mst_of (by show 8 ≤ (σ.1 141 n).toInt.toNat; omega) (by show (σ.1 141 n).toInt.toNat ≤ 13; omega) (by have q := (hco.l2 (qo2 (by omega))).1; omega)]; have hh := hv23; rw [hv] at hh; exact hh) (by have q := (hco.l2 (qo2 (by omega))); rw [mst_of (by show 8 ≤ (σ.1 141 n).toInt.toNat; omega) (by show (σ.1 141 n).toInt.toNat ≤ 13; omega) (by have q := (hco.l2 (qo2 (by omega))).1; omega), List.length_cons, List.length_tail, List.length_tail]; have e : ((S.length - 1 - 1 + 1 : Nat) : Int) = (S.length : Int) - 1 := (by omega); rw [e]; exact q.2)
            · refine z_aload_n (f := 0) (i := 0) (q := 4) (pc' := 199) ⟨by decide +kernel, rfl⟩ rfl rfl ?_
              refine w_getr (k := 110) (j := 63) (idx := 139) (pc' := 202) fxe_13_139 kfa_110_63 ⟨by decide +kernel, rfl⟩ ?_
              refine z_aload_n (f := 0) (i := 0) (q := 4) (pc' := 203) ⟨by decide +kernel, rfl⟩ rfl rfl ?_
              refine w_geti (k := 110) (j := 64) (idx := 655) (pc' := 206) fxe_13_655 kfa_110_64 ⟨by decide +kernel, rfl⟩ ?_
              refine z_iconst (i := 1) (v := 1) (pc' := 207) ⟨by decide +kernel, rfl⟩ (by decide) ?_
              refine z_isub (pc' := 208) ⟨by decide +kernel, rfl⟩ ?_
              refine z_aload_n (f := 0) (i := 0) (q := 4) (pc' := 209) ⟨by decide +kernel, rfl⟩ rfl rfl ?_
              refine w_getr (k := 110) (j := 62) (idx := 136) (pc' := 212) fxe_13_136 kfa_110_62 ⟨by decide +kernel, rfl⟩ ?_
              refine z_aload_n (f := 0) (i := 0) (q := 4) (pc' := 213) ⟨by decide +kernel, rfl⟩ rfl rfl ?_
              refine w_geti (k := 110) (j := 64) (idx := 655) (pc' := 216) fxe_13_655 kfa_110_64 ⟨by decide +kernel, rfl⟩ ?_
              refine z_iconst (i := 1) (v := 1) (pc' := 217) ⟨by decide +kernel, rfl⟩ (by decide) ?_
              refine z_isub (pc' := 218) ⟨by decide +kernel, rfl⟩ ?_
              refine w_iald (k := 151) (n := S.tail.length) (pc' := 219) kaa_151 ((ms_t h (by have q := (hco.l1 (qo1 (by have hcd : code.toInt = (σ.1 141 n).toInt := (by rw [hcode]); have qh1 := j_ge_t h1; have qh2 := j_ge_t h2; have qh3 := j_ne_t h3; have qh4 := j_ne_t h4; have qh5 := j_ne_t h5; have qh6 := j_ne_f h6; have z2 : (2 : Int32).toInt = 2 := (by decide); have z4 : (4 : Int32).toInt = 4 := (by decide); have z5 : (5 : Int32).toInt = 5 := (by decide); have z6 : (6 : Int32).toInt = 6 := (by decide); have z7 : (7 : Int32).toInt = 7 := (by decide); have z14 : (14 : Int32).toInt = 14 := (by decide); have z15 : (15 : Int32).toInt = 15 := (by decide); have z16 : (16 : Int32).toInt = 16 := (by decide); have z17 : (17 : Int32).toInt = 17 := (by decide); have hat := hco.at; omega))).1; omega)).1) ((ms_t h (by have q := (hco.l1 (qo1 (by have hcd : code.toInt = (σ.1 141 n).toInt := (by rw [hcode]); have qh1 := j_ge_t h1; have qh2 := j_ge_t h2; have qh3 := j_ne_t h3; have qh4 := j_ne_t h4; have qh5 := j_ne_t h5; have qh6 := j_ne_f h6; have z2 : (2 : Int32).toInt = 2 := (by decide); have z4 : (4 : Int32).toInt = 4 := (by decide); have z5 : (5 : Int32).toInt = 5 := (by decide); have z6 : (6 : Int32).toInt = 6 := (by decide); have z7 : (7 : Int32).toInt = 7 := (by decide); have z14 : (14 : Int32).toInt = 14 := (by decide); have z15 : (15 : Int32).toInt = 15 := (by decide); have z16 : (16 : Int32).toInt = 16 := (by decide); have z17 : (17 : Int32).toInt = 17 := (by decide); have hat := hco.at; omega))).1; omega)).2.1) ⟨by decide +kernel, rfl⟩ ?_
              refine z_if_ne (off := 18) (tgt := 237) (pc' := 222) ⟨by decide +kernel, by decide, rfl⟩ (fun h24 => ?_) (fun h24 => ?_)
              · refine z_aload_n (f := 0) (i := 0) (q := 4) (pc' := 238) ⟨by decide +kernel, rfl⟩ rfl rfl ?_
                refine w_getr (k := 110) (j := 62) (idx := 136) (pc' := 241) fxe_13_136 kfa_110_62 ⟨by decide +kernel, rfl⟩ ?_
                refine z_aload_n (f := 0) (i := 0) (q := 4) (pc' := 242) ⟨by decide +kernel, rfl⟩ rfl rfl ?_
                refine w_geti (k := 110) (j := 64) (idx := 655) (pc' := 245) fxe_13_655 kfa_110_64 ⟨by decide +kernel, rfl⟩ ?_
                refine z_iconst (i := 1) (v := 1) (pc' := 246) ⟨by decide +kernel, rfl⟩ (by decide) ?_
                refine z_isub (pc' := 247) ⟨by decide +kernel, rfl⟩ ?_
                refine w_iald (k := 151) (n := S.tail.length) (pc' := 248) kaa_151 ((ms_t h (by have q := (hco.l1 (qo1 (by have hcd : code.toInt = (σ.1 141 n).toInt := (by rw [hcode]); have qh1 := j_ge_t h1; have qh2 := j_ge_t h2; have qh3 := j_ne_t h3; have qh4 := j_ne_t h4; have qh5 := j_ne_t h5; have qh6 := j_ne_f h6; have z2 : (2 : Int32).toInt = 2 := (by decide); have z4 : (4 : Int32).toInt = 4 := (by decide); have z5 : (5 : Int32).toInt = 5 := (by decide); have z6 : (6 : Int32).toInt = 6 := (by decide); have z7 : (7 : Int32).toInt = 7 := (by decide); have z14 : (14 : Int32).toInt = 14 := (by decide); have z15 : (15 : Int32).toInt = 15 := (by decide); have z16 : (16 : Int32).toInt = 16 := (by decide); have z17 : (17 : Int32).toInt = 17 := (by decide); have hat := hco.at; omega))).1; omega)).1) ((ms_t h (by have q := (hco.l1 (qo1 (by have hcd : code.toInt = (σ.1 141 n).toInt := (by rw [hcode]); have qh1 := j_ge_t h1; have qh2 := j_ge_t h2; have qh3 := j_ne_t h3; have qh4 := j_ne_t h4; have qh5 := j_ne_t h5; have qh6 := j_ne_f h6; have z2 : (2 : Int32).toInt = 2 := (by decide); have z4 : (4 : Int32).toInt = 4 := (by decide); have z5 : (5 : Int32).toInt = 5 := (by decide); have z6 : (6 : Int32).toInt = 6 := (by decide); have z7 : (7 : Int32).toInt = 7 := (by decide); have z14 : (14 : Int32).toInt = 14 := (by decide); have z15 : (15 : Int32).toInt = 15 := (by decide); have z16 : (16 : Int32).toInt = 16 := (by decide); have z17 : (17 : Int32).toInt = 17 := (by decide); have hat := hco.at; omega))).1; omega)).2.1) ⟨by decide +kernel, rfl⟩ ?_
                refine z_iconst (i := 1) (v := 1) (pc' := 249) ⟨by decide +kernel, rfl⟩ (by decide) ?_
                refine z_icmp_ne (off := 20) (tgt := 269) (pc' := 252) ⟨by decide +kernel, by decide, rfl⟩ (fun h25 => ?_) (fun h25 => ?_)
                · refine z_aload_n (f := 0) (i := 0) (q := 4) (pc' := 270) ⟨by decide +kernel, rfl⟩ rfl rfl ?_
                  refine w_getr (k := 110) (j := 63) (idx := 139) (pc' := 273) fxe_13_139 kfa_110_63 ⟨by decide +kernel, rfl⟩ ?_
                  refine z_aload_n (f := 0) (i := 0) (q := 4) (pc' := 274) ⟨by decide +kernel, rfl⟩ rfl rfl ?_
                  refine w_geti (k := 110) (j := 64) (idx := 655) (pc' := 277) fxe_13_655 kfa_110_64 ⟨by decide +kernel, rfl⟩ ?_
                  refine z_iconst (i := 1) (v := 1) (pc' := 278) ⟨by decide +kernel, rfl⟩ (by decide) ?_
                  refine z_isub (pc' := 279) ⟨by decide +kernel, rfl⟩ ?_
                  refine w_lald (k := 152) (n := S.tail.length) (pc' := 280) kaa_152 ((ms_t h (by have q := (hco.l1 (qo1 (by have hcd : code.toInt = (σ.1 141 n).toInt := (by rw [hcode]); have qh1 := j_ge_t h1; have qh2 := j_ge_t h2; have qh3 := j_ne_t h3; have qh4 := j_ne_t h4; have qh5 := j_ne_t h5; have qh6 := j_ne_f h6; have z2 : (2 : Int32).toInt = 2 := (by decide); have z4 : (4 : Int32).toInt = 4 := (by decide); have z5 : (5 : Int32).toInt = 5 := (by decide); have z6 : (6 : Int32).toInt = 6 := (by decide); have z7 : (7 : Int32).toInt = 7 := (by decide); have z14 : (14 : Int32).toInt = 14 := (by decide); have z15 : (15 : Int32).toInt = 15 := (by decide); have z16 : (16 : Int32).toInt = 16 := (by decide); have z17 : (17 : Int32).toInt = 17 := (by decide); have hat := hco.at; omega))).1; omega)).1) ((ms_t h (by have q := (hco.l1 (qo1 (by have hcd : code.toInt = (σ.1 141 n).toInt := (by rw [hcode]); have qh1 := j_ge_t h1; have qh2 := j_ge_t h2; have qh3 := j_ne_t h3; have qh4 := j_ne_t h4; have qh5 := j_ne_t h5; have qh6 := j_ne_f h6; have z2 : (2 : Int32).toInt = 2 := (by decide); have z4 : (4 : Int32).toInt = 4 := (by decide); have z5 : (5 : Int32).toInt = 5 := (by decide); have z6 : (6 : Int32).toInt = 6 := (by decide); have z7 : (7 : Int32).toInt = 7 := (by decide); have z14 : (14 : Int32).toInt = 14 := (by decide); have z15 : (15 : Int32).toInt = 15 := (by decide); have z16 : (16 : Int32).toInt = 16 := (by decide); have z17 : (17 : Int32).toInt = 17 := (by decide); have hat := hco.at; omega))).1; omega)).2.1) ⟨by decide +kernel, rfl⟩ ?_
                  refine w_last (k := 152) (n := S.tail.length) (pc' := 281) kaa_152 ((ms_t h (by have q := (hco.l1 (qo1 (by have hcd : code.toInt = (σ.1 141 n).toInt := (by rw [hcode]); have qh1 := j_ge_t h1; have qh2 := j_ge_t h2; have qh3 := j_ne_t h3; have qh4 := j_ne_t h4; have qh5 := j_ne_t h5; have qh6 := j_ne_f h6; have z2 : (2 : Int32).toInt = 2 := (by decide); have z4 : (4 : Int32).toInt = 4 := (by decide); have z5 : (5 : Int32).toInt = 5 := (by decide); have z6 : (6 : Int32).toInt = 6 := (by decide); have z7 : (7 : Int32).toInt = 7 := (by decide); have z14 : (14 : Int32).toInt = 14 := (by decide); have z15 : (15 : Int32).toInt = 15 := (by decide); have z16 : (16 : Int32).toInt = 16 := (by decide); have z17 : (17 : Int32).toInt = 17 := (by decide); have hat := hco.at; omega))).1; omega)).1) ((ms_t h (by have q := (hco.l1 (qo1 (by have hcd : code.toInt = (σ.1 141 n).toInt := (by rw [hcode]); have qh1 := j_ge_t h1; have qh2 := j_ge_t h2; have qh3 := j_ne_t h3; have qh4 := j_ne_t h4; have qh5 := j_ne_t h5; have qh6 := j_ne_f h6; have z2 : (2 : Int32).toInt = 2 := (by decide); have z4 : (4 : Int32).toInt = 4 := (by decide); have z5 : (5 : Int32).toInt = 5 := (by decide); have z6 : (6 : Int32).toInt = 6 := (by decide); have z7 : (7 : Int32).toInt = 7 := (by decide); have z14 : (14 : Int32).toInt = 14 := (by decide); have z15 : (15 : Int32).toInt = 15 := (by decide); have z16 : (16 : Int32).toInt = 16 := (by decide); have z17 : (17 : Int32).toInt = 17 := (by decide); have hat := hco.at; omega))).1; omega)).2.1) ⟨by decide +kernel, rfl⟩ ?_
                  generalize hs26 : zJ τ 152 S.tail.length (τ.2 152 S.tail.length) = σ26
                  refine z_goto (off := 153) (tgt := 434) (pc' := 284) ⟨by decide +kernel, by decide, rfl⟩ ?_
                  refine z_iinc (i := 6) (z := 1) (q := 3) (pc' := 437) ⟨by decide +kernel, rfl⟩ rfl rfl (by decide) rfl ?_
                  show Wz E Y_M_evaluate 437 [(6, .int (i + Int32.ofInt 1)), (9, .int f), (8, .int v), (7, .int code), (0, .ref 110), (1, .int f0), (2, .int to), (3, .int who), (4, .int thing), (5, .int t)] [] σ26 K
                  refine z_goto (off := (-429)) (tgt := 8) (pc' := 440) ⟨by decide +kernel, by decide, rfl⟩ ?_
                  have z0L : (0 : Int64).toInt = 0 := by decide
                  have z0 : (0 : Int32).toInt = 0 := by decide
                  have z1 : (1 : Int32).toInt = 1 := by decide
                  have z2 : (2 : Int32).toInt = 2 := by decide
                  have z4 : (4 : Int32).toInt = 4 := by decide
                  have z5 : (5 : Int32).toInt = 5 := by decide
                  have z6 : (6 : Int32).toInt = 6 := by decide
                  have z7 : (7 : Int32).toInt = 7 := by decide
                  have gh1 := j_ge_t h1
                  have gh2 := j_ge_t h2
                  have gh3 := j_ne_t h3
                  have gh4 := j_ne_t h4
                  have gh5 := j_ne_t h5
                  have gh6 := j_ne_f h6
                  have gh24 := j_ne_t (y := 0) h24
                  have gh25 := j_ne_t h25
                  have hcd : code.toInt = (σ.1 141 n).toInt := by rw [hcode]
                  have hat := hco.at
                  have e1 : (Int32.ofInt 1).toInt = 1 := by decide
                  have hi2 : (i + Int32.ofInt 1).toInt = ((n + 1 : Nat) : Int) := by rw [i32_add (by rw [e1]; omega), e1]; omega
                  have hl1 : 1 ≤ S.length := (by have q := (hco.l1 (qo1 (by omega))).1; omega)
                  have tt := ms_t h hl1
                  rw [tt.2.2.1] at gh24
                  rw [tt.2.2.1] at gh25
                  have mv := ms_setv h hl1 hs26
                  exact k _ _ _ _ _ hi2 (by rw [mst_7 (by show (σ.1 141 n).toInt.toNat = 7; omega) hl1]; rw [if_pos (by omega)]; rw [ent (x := hd1 S) rfl tt.2.2.2] at mv; exact mv) (by have q := (hco.l1 (qo1 (by omega))); rw [mst_7 (by show (σ.1 141 n).toInt.toNat = 7; omega) hl1, List.length_cons, List.length_tail]; have e : ((S.length - 1 + 1 : Nat) : Int) = (S.length : Int) := (by omega); rw [e]; exact q.2)
                · refine z_aload_n (f := 0) (i := 0) (q := 4) (pc' := 253) ⟨by decide +kernel, rfl⟩ rfl rfl ?_
                  refine w_getr (k := 110) (j := 63) (idx := 139) (pc' := 256) fxe_13_139 kfa_110_63 ⟨by decide +kernel, rfl⟩ ?_
                  refine z_aload_n (f := 0) (i := 0) (q := 4) (pc' := 257) ⟨by decide +kernel, rfl⟩ rfl rfl ?_
                  refine w_geti (k := 110) (j := 64) (idx := 655) (pc' := 260) fxe_13_655 kfa_110_64 ⟨by decide +kernel, rfl⟩ ?_
                  refine z_iconst (i := 1) (v := 1) (pc' := 261) ⟨by decide +kernel, rfl⟩ (by decide) ?_
                  refine z_isub (pc' := 262) ⟨by decide +kernel, rfl⟩ ?_
                  refine w_lald (k := 152) (n := S.tail.length) (pc' := 263) kaa_152 ((ms_t h (by have q := (hco.l1 (qo1 (by have hcd : code.toInt = (σ.1 141 n).toInt := (by rw [hcode]); have qh1 := j_ge_t h1; have qh2 := j_ge_t h2; have qh3 := j_ne_t h3; have qh4 := j_ne_t h4; have qh5 := j_ne_t h5; have qh6 := j_ne_f h6; have z2 : (2 : Int32).toInt = 2 := (by decide); have z4 : (4 : Int32).toInt = 4 := (by decide); have z5 : (5 : Int32).toInt = 5 := (by decide); have z6 : (6 : Int32).toInt = 6 := (by decide); have z7 : (7 : Int32).toInt = 7 := (by decide); have z14 : (14 : Int32).toInt = 14 := (by decide); have z15 : (15 : Int32).toInt = 15 := (by decide); have z16 : (16 : Int32).toInt = 16 := (by decide); have z17 : (17 : Int32).toInt = 17 := (by decide); have hat := hco.at; omega))).1; omega)).1) ((ms_t h (by have q := (hco.l1 (qo1 (by have hcd : code.toInt = (σ.1 141 n).toInt := (by rw [hcode]); have qh1 := j_ge_t h1; have qh2 := j_ge_t h2; have qh3 := j_ne_t h3; have qh4 := j_ne_t h4; have qh5 := j_ne_t h5; have qh6 := j_ne_f h6; have z2 : (2 : Int32).toInt = 2 := (by decide); have z4 : (4 : Int32).toInt = 4 := (by decide); have z5 : (5 : Int32).toInt = 5 := (by decide); have z6 : (6 : Int32).toInt = 6 := (by decide); have z7 : (7 : Int32).toInt = 7 := (by decide); have z14 : (14 : Int32).toInt = 14 := (by decide); have z15 : (15 : Int32).toInt = 15 := (by decide); have z16 : (16 : Int32).toInt = 16 := (by decide); have z17 : (17 : Int32).toInt = 17 := (by decide); have hat := hco.at; omega))).1; omega)).2.1) ⟨by decide +kernel, rfl⟩ ?_
                  refine w_invS (Z := Y_M_other) (idx := 675) (As := [.long (τ.2 152 S.tail.length)]) (rest := [.int ((τ.1 110 64) - 1), .ref 152]) (pc' := 266) cl_13_675 rfl ⟨rfl, rfl⟩ ⟨⟨by decide, by decide⟩, rfl, rfl⟩ ⟨by decide +kernel, rfl⟩ rfl rfl (Nat.le_of_ble_eq_true rfl) rfl rfl ?_
                  refine cz_M_other (fun v27 hv27 => ?_)
                  show Wz E Y_M_evaluate 266 [(9, .int f), (8, .int v), (7, .int code), (6, .int i), (0, .ref 110), (1, .int f0), (2, .int to), (3, .int who), (4, .int thing), (5, .int t)] [.long v27, .int ((τ.1 110 64) - 1), .ref 152] τ K
                  refine z_goto (off := 14) (tgt := 280) (pc' := 269) ⟨by decide +kernel, by decide, rfl⟩ ?_
                  refine w_last (k := 152) (n := S.tail.length) (pc' := 281) kaa_152 ((ms_t h (by have q := (hco.l1 (qo1 (by have hcd : code.toInt = (σ.1 141 n).toInt := (by rw [hcode]); have qh1 := j_ge_t h1; have qh2 := j_ge_t h2; have qh3 := j_ne_t h3; have qh4 := j_ne_t h4; have qh5 := j_ne_t h5; have qh6 := j_ne_f h6; have z2 : (2 : Int32).toInt = 2 := (by decide); have z4 : (4 : Int32).toInt = 4 := (by decide); have z5 : (5 : Int32).toInt = 5 := (by decide); have z6 : (6 : Int32).toInt = 6 := (by decide); have z7 : (7 : Int32).toInt = 7 := (by decide); have z14 : (14 : Int32).toInt = 14 := (by decide); have z15 : (15 : Int32).toInt = 15 := (by decide); have z16 : (16 : Int32).toInt = 16 := (by decide); have z17 : (17 : Int32).toInt = 17 := (by decide); have hat := hco.at; omega))).1; omega)).1) ((ms_t h (by have q := (hco.l1 (qo1 (by have hcd : code.toInt = (σ.1 141 n).toInt := (by rw [hcode]); have qh1 := j_ge_t h1; have qh2 := j_ge_t h2; have qh3 := j_ne_t h3; have qh4 := j_ne_t h4; have qh5 := j_ne_t h5; have qh6 := j_ne_f h6; have z2 : (2 : Int32).toInt = 2 := (by decide); have z4 : (4 : Int32).toInt = 4 := (by decide); have z5 : (5 : Int32).toInt = 5 := (by decide); have z6 : (6 : Int32).toInt = 6 := (by decide); have z7 : (7 : Int32).toInt = 7 := (by decide); have z14 : (14 : Int32).toInt = 14 := (by decide); have z15 : (15 : Int32).toInt = 15 := (by decide); have z16 : (16 : Int32).toInt = 16 := (by decide); have z17 : (17 : Int32).toInt = 17 := (by decide); have hat := hco.at; omega))).1; omega)).2.1) ⟨by decide +kernel, rfl⟩ ?_
                  generalize hs28 : zJ τ 152 S.tail.length v27 = σ28
                  refine z_goto (off := 153) (tgt := 434) (pc' := 284) ⟨by decide +kernel, by decide, rfl⟩ ?_
                  refine z_iinc (i := 6) (z := 1) (q := 3) (pc' := 437) ⟨by decide +kernel, rfl⟩ rfl rfl (by decide) rfl ?_
                  show Wz E Y_M_evaluate 437 [(6, .int (i + Int32.ofInt 1)), (9, .int f), (8, .int v), (7, .int code), (0, .ref 110), (1, .int f0), (2, .int to), (3, .int who), (4, .int thing), (5, .int t)] [] σ28 K
                  refine z_goto (off := (-429)) (tgt := 8) (pc' := 440) ⟨by decide +kernel, by decide, rfl⟩ ?_
                  have z0L : (0 : Int64).toInt = 0 := by decide
                  have z0 : (0 : Int32).toInt = 0 := by decide
                  have z1 : (1 : Int32).toInt = 1 := by decide
                  have z2 : (2 : Int32).toInt = 2 := by decide
                  have z4 : (4 : Int32).toInt = 4 := by decide
                  have z5 : (5 : Int32).toInt = 5 := by decide
                  have z6 : (6 : Int32).toInt = 6 := by decide
                  have z7 : (7 : Int32).toInt = 7 := by decide
                  have gh1 := j_ge_t h1
                  have gh2 := j_ge_t h2
                  have gh3 := j_ne_t h3
                  have gh4 := j_ne_t h4
                  have gh5 := j_ne_t h5
                  have gh6 := j_ne_f h6
                  have gh24 := j_ne_t (y := 0) h24
                  have gh25 := j_ne_f h25
                  have hcd : code.toInt = (σ.1 141 n).toInt := by rw [hcode]
                  have hat := hco.at
                  have e1 : (Int32.ofInt 1).toInt = 1 := by decide
                  have hi2 : (i + Int32.ofInt 1).toInt = ((n + 1 : Nat) : Int) := by rw [i32_add (by rw [e1]; omega), e1]; omega
                  have hl1 : 1 ≤ S.length := (by have q := (hco.l1 (qo1 (by omega))).1; omega)
                  have tt := ms_t h hl1
                  rw [tt.2.2.1] at gh24
                  rw [tt.2.2.1] at gh25
                  have mv := ms_setv h hl1 hs28
                  exact k _ _ _ _ _ hi2 (by rw [mst_7 (by show (σ.1 141 n).toInt.toNat = 7; omega) hl1]; rw [if_neg (by omega), ev_ng1 (by omega) (tt.2.2.2 ▸ hv27)]; rw [show (hd1 S).1 = 1 by omega] at mv; exact mv) (by have q := (hco.l1 (qo1 (by omega))); rw [mst_7 (by show (σ.1 141 n).toInt.toNat = 7; omega) hl1, List.length_cons, List.length_tail]; have e : ((S.length - 1 + 1 : Nat) : Int) = (S.length : Int) := (by omega); rw [e]; exact q.2)
              · refine z_aload_n (f := 0) (i := 0) (q := 4) (pc' := 223) ⟨by decide +kernel, rfl⟩ rfl rfl ?_
                refine w_getr (k := 110) (j := 63) (idx := 139) (pc' := 226) fxe_13_139 kfa_110_63 ⟨by decide +kernel, rfl⟩ ?_
                refine z_aload_n (f := 0) (i := 0) (q := 4) (pc' := 227) ⟨by decide +kernel, rfl⟩ rfl rfl ?_
                refine w_geti (k := 110) (j := 64) (idx := 655) (pc' := 230) fxe_13_655 kfa_110_64 ⟨by decide +kernel, rfl⟩ ?_
                refine z_iconst (i := 1) (v := 1) (pc' := 231) ⟨by decide +kernel, rfl⟩ (by decide) ?_
                refine z_isub (pc' := 232) ⟨by decide +kernel, rfl⟩ ?_
                refine w_lald (k := 152) (n := S.tail.length) (pc' := 233) kaa_152 ((ms_t h (by have q := (hco.l1 (qo1 (by have hcd : code.toInt = (σ.1 141 n).toInt := (by rw [hcode]); have qh1 := j_ge_t h1; have qh2 := j_ge_t h2; have qh3 := j_ne_t h3; have qh4 := j_ne_t h4; have qh5 := j_ne_t h5; have qh6 := j_ne_f h6; have z2 : (2 : Int32).toInt = 2 := (by decide); have z4 : (4 : Int32).toInt = 4 := (by decide); have z5 : (5 : Int32).toInt = 5 := (by decide); have z6 : (6 : Int32).toInt = 6 := (by decide); have z7 : (7 : Int32).toInt = 7 := (by decide); have z14 : (14 : Int32).toInt = 14 := (by decide); have z15 : (15 : Int32).toInt = 15 := (by decide); have z16 : (16 : Int32).toInt = 16 := (by decide); have z17 : (17 : Int32).toInt = 17 := (by decide); have hat := hco.at; omega))).1; omega)).1) ((ms_t h (by have q := (hco.l1 (qo1 (by have hcd : code.toInt = (σ.1 141 n).toInt := (by rw [hcode]); have qh1 := j_ge_t h1; have qh2 := j_ge_t h2; have qh3 := j_ne_t h3; have qh4 := j_ne_t h4; have qh5 := j_ne_t h5; have qh6 := j_ne_f h6; have z2 : (2 : Int32).toInt = 2 := (by decide); have z4 : (4 : Int32).toInt = 4 := (by decide); have z5 : (5 : Int32).toInt = 5 := (by decide); have z6 : (6 : Int32).toInt = 6 := (by decide); have z7 : (7 : Int32).toInt = 7 := (by decide); have z14 : (14 : Int32).toInt = 14 := (by decide); have z15 : (15 : Int32).toInt = 15 := (by decide); have z16 : (16 : Int32).toInt = 16 := (by decide); have z17 : (17 : Int32).toInt = 17 := (by decide); have hat := hco.at; omega))).1; omega)).2.1) ⟨by decide +kernel, rfl⟩ ?_
                refine z_lneg (pc' := 234) ⟨by decide +kernel, rfl⟩ ?_
                refine z_goto (off := 46) (tgt := 280) (pc' := 237) ⟨by decide +kernel, by decide, rfl⟩ ?_
                refine w_last (k := 152) (n := S.tail.length) (pc' := 281) kaa_152 ((ms_t h (by have q := (hco.l1 (qo1 (by have hcd : code.toInt = (σ.1 141 n).toInt := (by rw [hcode]); have qh1 := j_ge_t h1; have qh2 := j_ge_t h2; have qh3 := j_ne_t h3; have qh4 := j_ne_t h4; have qh5 := j_ne_t h5; have qh6 := j_ne_f h6; have z2 : (2 : Int32).toInt = 2 := (by decide); have z4 : (4 : Int32).toInt = 4 := (by decide); have z5 : (5 : Int32).toInt = 5 := (by decide); have z6 : (6 : Int32).toInt = 6 := (by decide); have z7 : (7 : Int32).toInt = 7 := (by decide); have z14 : (14 : Int32).toInt = 14 := (by decide); have z15 : (15 : Int32).toInt = 15 := (by decide); have z16 : (16 : Int32).toInt = 16 := (by decide); have z17 : (17 : Int32).toInt = 17 := (by decide); have hat := hco.at; omega))).1; omega)).1) ((ms_t h (by have q := (hco.l1 (qo1 (by have hcd : code.toInt = (σ.1 141 n).toInt := (by rw [hcode]); have qh1 := j_ge_t h1; have qh2 := j_ge_t h2; have qh3 := j_ne_t h3; have qh4 := j_ne_t h4; have qh5 := j_ne_t h5; have qh6 := j_ne_f h6; have z2 : (2 : Int32).toInt = 2 := (by decide); have z4 : (4 : Int32).toInt = 4 := (by decide); have z5 : (5 : Int32).toInt = 5 := (by decide); have z6 : (6 : Int32).toInt = 6 := (by decide); have z7 : (7 : Int32).toInt = 7 := (by decide); have z14 : (14 : Int32).toInt = 14 := (by decide); have z15 : (15 : Int32).toInt = 15 := (by decide); have z16 : (16 : Int32).toInt = 16 := (by decide); have z17 : (17 : Int32).toInt = 17 := (by decide); have hat := hco.at; omega))).1; omega)).2.1) ⟨by decide +kernel, rfl⟩ ?_
                generalize hs29 : zJ τ 152 S.tail.length (-(τ.2 152 S.tail.length)) = σ29
                refine z_goto (off := 153) (tgt := 434) (pc' := 284) ⟨by decide +kernel, by decide, rfl⟩ ?_
                refine z_iinc (i := 6) (z := 1) (q := 3) (pc' := 437) ⟨by decide +kernel, rfl⟩ rfl rfl (by decide) rfl ?_
                show Wz E Y_M_evaluate 437 [(6, .int (i + Int32.ofInt 1)), (9, .int f), (8, .int v), (7, .int code), (0, .ref 110), (1, .int f0), (2, .int to), (3, .int who), (4, .int thing), (5, .int t)] [] σ29 K
                refine z_goto (off := (-429)) (tgt := 8) (pc' := 440) ⟨by decide +kernel, by decide, rfl⟩ ?_
                have z0L : (0 : Int64).toInt = 0 := by decide
                have z0 : (0 : Int32).toInt = 0 := by decide
                have z2 : (2 : Int32).toInt = 2 := by decide
                have z4 : (4 : Int32).toInt = 4 := by decide
                have z5 : (5 : Int32).toInt = 5 := by decide
                have z6 : (6 : Int32).toInt = 6 := by decide
                have z7 : (7 : Int32).toInt = 7 := by decide
                have gh1 := j_ge_t h1
                have gh2 := j_ge_t h2
                have gh3 := j_ne_t h3
                have gh4 := j_ne_t h4
                have gh5 := j_ne_t h5
                have gh6 := j_ne_f h6
                have gh24 := j_ne_f (y := 0) h24
                have hcd : code.toInt = (σ.1 141 n).toInt := by rw [hcode]
                have hat := hco.at
                have e1 : (Int32.ofInt 1).toInt = 1 := by decide
                have hi2 : (i + Int32.ofInt 1).toInt = ((n + 1 : Nat) : Int) := by rw [i32_add (by rw [e1]; omega), e1]; omega
                have hl1 : 1 ≤ S.length := (by have q := (hco.l1 (qo1 (by omega))).1; omega)
                have tt := ms_t h hl1
                rw [tt.2.2.1] at gh24
                have mv := ms_setv h hl1 hs29
                exact k _ _ _ _ _ hi2 (by rw [mst_7 (by show (σ.1 141 n).toInt.toNat = 7; omega) hl1]; rw [if_neg (by omega), ev_ng0 (by omega) tt.2.2.2]; rw [show (hd1 S).1 = 0 by omega] at mv; exact mv) (by have q := (hco.l1 (qo1 (by omega))); rw [mst_7 (by show (σ.1 141 n).toInt.toNat = 7; omega) hl1, List.length_cons, List.length_tail]; have e : ((S.length - 1 + 1 : Nat) : Int) = (S.length : Int) := (by omega); rw [e]; exact q.2)
          · refine z_aload_n (f := 0) (i := 0) (q := 4) (pc' := 162) ⟨by decide +kernel, rfl⟩ rfl rfl ?_
            refine z_aload_n (f := 0) (i := 0) (q := 4) (pc' := 163) ⟨by decide +kernel, rfl⟩ rfl rfl ?_
            refine w_getr (k := 110) (j := 16) (idx := 41) (pc' := 166) fxe_13_41 kfa_110_16 ⟨by decide +kernel, rfl⟩ ?_
            refine z_iload (i := 9) (q := 0) (pc' := 168) ⟨by decide +kernel, rfl⟩ rfl ?_
            refine w_iald (k := 121) (n := fn) (pc' := 169) kaa_121 ((hf (by have hcd : code.toInt = (σ.1 141 n).toInt := (by rw [hcode]); have qh1 := j_ge_t h1; have qh2 := j_ge_t h2; have qh3 := j_ne_t h3; have qh4 := j_ne_t h4; have qh5 := j_ne_f h5; have z2 : (2 : Int32).toInt = 2 := (by decide); have z4 : (4 : Int32).toInt = 4 := (by decide); have z5 : (5 : Int32).toInt = 5 := (by decide); have z6 : (6 : Int32).toInt = 6 := (by decide); have z7 : (7 : Int32).toInt = 7 := (by decide); have z14 : (14 : Int32).toInt = 14 := (by decide); have z15 : (15 : Int32).toInt = 15 := (by decide); have z16 : (16 : Int32).toInt = 16 := (by decide); have z17 : (17 : Int32).toInt = 17 := (by decide); have hat := hco.at; omega)).1) ((hf (by have hcd : code.toInt = (σ.1 141 n).toInt := (by rw [hcode]); have qh1 := j_ge_t h1; have qh2 := j_ge_t h2; have qh3 := j_ne_t h3; have qh4 := j_ne_t h4; have qh5 := j_ne_f h5; have z2 : (2 : Int32).toInt = 2 := (by decide); have z4 : (4 : Int32).toInt = 4 := (by decide); have z5 : (5 : Int32).toInt = 5 := (by decide); have z6 : (6 : Int32).toInt = 6 := (by decide); have z7 : (7 : Int32).toInt = 7 := (by decide); have z14 : (14 : Int32).toInt = 14 := (by decide); have z15 : (15 : Int32).toInt = 15 := (by decide); have z16 : (16 : Int32).toInt = 16 := (by decide); have z17 : (17 : Int32).toInt = 17 := (by decide); have hat := hco.at; omega)).2) ⟨by decide +kernel, rfl⟩ ?_
            refine z_if_ne (off := 7) (tgt := 176) (pc' := 172) ⟨by decide +kernel, by decide, rfl⟩ (fun h30 => ?_) (fun h30 => ?_)
            · refine z_iconst (i := 0) (v := 0) (pc' := 177) ⟨by decide +kernel, rfl⟩ (by decide) ?_
              refine z_aload_n (f := 0) (i := 0) (q := 4) (pc' := 178) ⟨by decide +kernel, rfl⟩ rfl rfl ?_
              refine w_getr (k := 110) (j := 17) (idx := 44) (pc' := 181) fxe_13_44 kfa_110_17 ⟨by decide +kernel, rfl⟩ ?_
              refine z_iload (i := 9) (q := 0) (pc' := 183) ⟨by decide +kernel, rfl⟩ rfl ?_
              refine w_iald (k := 122) (n := fn) (pc' := 184) kaa_122 ((hf (by have hcd : code.toInt = (σ.1 141 n).toInt := (by rw [hcode]); have qh1 := j_ge_t h1; have qh2 := j_ge_t h2; have qh3 := j_ne_t h3; have qh4 := j_ne_t h4; have qh5 := j_ne_f h5; have z2 : (2 : Int32).toInt = 2 := (by decide); have z4 : (4 : Int32).toInt = 4 := (by decide); have z5 : (5 : Int32).toInt = 5 := (by decide); have z6 : (6 : Int32).toInt = 6 := (by decide); have z7 : (7 : Int32).toInt = 7 := (by decide); have z14 : (14 : Int32).toInt = 14 := (by decide); have z15 : (15 : Int32).toInt = 15 := (by decide); have z16 : (16 : Int32).toInt = 16 := (by decide); have z17 : (17 : Int32).toInt = 17 := (by decide); have hat := hco.at; omega)).1) ((hf (by have hcd : code.toInt = (σ.1 141 n).toInt := (by rw [hcode]); have qh1 := j_ge_t h1; have qh2 := j_ge_t h2; have qh3 := j_ne_t h3; have qh4 := j_ne_t h4; have qh5 := j_ne_f h5; have z2 : (2 : Int32).toInt = 2 := (by decide); have z4 : (4 : Int32).toInt = 4 := (by decide); have z5 : (5 : Int32).toInt = 5 := (by decide); have z6 : (6 : Int32).toInt = 6 := (by decide); have z7 : (7 : Int32).toInt = 7 := (by decide); have z14 : (14 : Int32).toInt = 14 := (by decide); have z15 : (15 : Int32).toInt = 15 := (by decide); have z16 : (16 : Int32).toInt = 16 := (by decide); have z17 : (17 : Int32).toInt = 17 := (by decide); have hat := hco.at; omega)).2) ⟨by decide +kernel, rfl⟩ ?_
              refine z_i2l (pc' := 185) ⟨by decide +kernel, rfl⟩ rfl ?_
              refine w_invV (Z := Y_M_push) (idx := 658) (kb := 110) (As := [.int 0, .long (Int32.toInt64 (τ.1 122 fn))]) (rest := []) (pc' := 188) cl_13_658 rfl ⟨rfl, rfl⟩ kfa_110_0 rfl ⟨⟨by decide, by decide⟩, rfl, rfl⟩ ⟨by decide +kernel, rfl⟩ rfl rfl (Nat.le_of_ble_eq_true rfl) rfl rfl ?_
              refine cz_M_push (c := 0) h hl (by decide) (fun σ31 hv31 => ?_)
              show Wz E Y_M_evaluate 188 [(9, .int f), (8, .int v), (7, .int code), (6, .int i), (0, .ref 110), (1, .int f0), (2, .int to), (3, .int who), (4, .int thing), (5, .int t)] [] σ31 K
              refine z_goto (off := 246) (tgt := 434) (pc' := 191) ⟨by decide +kernel, by decide, rfl⟩ ?_
              refine z_iinc (i := 6) (z := 1) (q := 3) (pc' := 437) ⟨by decide +kernel, rfl⟩ rfl rfl (by decide) rfl ?_
              show Wz E Y_M_evaluate 437 [(6, .int (i + Int32.ofInt 1)), (9, .int f), (8, .int v), (7, .int code), (0, .ref 110), (1, .int f0), (2, .int to), (3, .int who), (4, .int thing), (5, .int t)] [] σ31 K
              refine z_goto (off := (-429)) (tgt := 8) (pc' := 440) ⟨by decide +kernel, by decide, rfl⟩ ?_
              have z0L : (0 : Int64).toInt = 0 := by decide
              have z0 : (0 : Int32).toInt = 0 := by decide
              have z2 : (2 : Int32).toInt = 2 := by decide
              have z4 : (4 : Int32).toInt = 4 := by decide
              have z5 : (5 : Int32).toInt = 5 := by decide
              have z6 : (6 : Int32).toInt = 6 := by decide
              have gh1 := j_ge_t h1
              have gh2 := j_ge_t h2
              have gh3 := j_ne_t h3
              have gh4 := j_ne_t h4
              have gh5 := j_ne_f h5
              have gh30 := j_ne_t (y := 0) h30
              have hcd : code.toInt = (σ.1 141 n).toInt := by rw [hcode]
              have hat := hco.at
              have e1 : (Int32.ofInt 1).toInt = 1 := by decide
              have hi2 : (i + Int32.ofInt 1).toInt = ((n + 1 : Nat) : Int) := by rw [i32_add (by rw [e1]; omega), e1]; omega
              rw [(ms_s h fn).1] at gh30
              rw [i2l_i, (ms_s h fn).2.1] at hv31
              exact k _ _ _ _ _ hi2 (by rw [mst_l (by show (σ.1 141 n).toInt.toNat < 7; omega) (by show (σ.1 141 n).toInt.toNat ≠ 5; omega)]; rw [ev_6 (by show (σ.1 141 n).toInt.toNat = 6; omega) (by show fsJ who.toInt thing.toInt (c32 (σ.2 142 n).toInt) < 480; rw [← hfn]; exact (hf (by omega)).2), ← hfn, if_neg (by omega)]; exact hv31) (by have q := hco.l0 (qo0 (by omega)); rw [mst_l (by show (σ.1 141 n).toInt.toNat < 7; omega) (by show (σ.1 141 n).toInt.toNat ≠ 5; omega), List.length_cons]; exact q)
            · refine z_iconst (i := 2) (v := 2) (pc' := 173) ⟨by decide +kernel, rfl⟩ (by decide) ?_
              refine z_goto (off := 4) (tgt := 177) (pc' := 176) ⟨by decide +kernel, by decide, rfl⟩ ?_
              refine z_aload_n (f := 0) (i := 0) (q := 4) (pc' := 178) ⟨by decide +kernel, rfl⟩ rfl rfl ?_
              refine w_getr (k := 110) (j := 17) (idx := 44) (pc' := 181) fxe_13_44 kfa_110_17 ⟨by decide +kernel, rfl⟩ ?_
              refine z_iload (i := 9) (q := 0) (pc' := 183) ⟨by decide +kernel, rfl⟩ rfl ?_
              refine w_iald (k := 122) (n := fn) (pc' := 184) kaa_122 ((hf (by have hcd : code.toInt = (σ.1 141 n).toInt := (by rw [hcode]); have qh1 := j_ge_t h1; have qh2 := j_ge_t h2; have qh3 := j_ne_t h3; have qh4 := j_ne_t h4; have qh5 := j_ne_f h5; have z2 : (2 : Int32).toInt = 2 := (by decide); have z4 : (4 : Int32).toInt = 4 := (by decide); have z5 : (5 : Int32).toInt = 5 := (by decide); have z6 : (6 : Int32).toInt = 6 := (by decide); have z7 : (7 : Int32).toInt = 7 := (by decide); have z14 : (14 : Int32).toInt = 14 := (by decide); have z15 : (15 : Int32).toInt = 15 := (by decide); have z16 : (16 : Int32).toInt = 16 := (by decide); have z17 : (17 : Int32).toInt = 17 := (by decide); have hat := hco.at; omega)).1) ((hf (by have hcd : code.toInt = (σ.1 141 n).toInt := (by rw [hcode]); have qh1 := j_ge_t h1; have qh2 := j_ge_t h2; have qh3 := j_ne_t h3; have qh4 := j_ne_t h4; have qh5 := j_ne_f h5; have z2 : (2 : Int32).toInt = 2 := (by decide); have z4 : (4 : Int32).toInt = 4 := (by decide); have z5 : (5 : Int32).toInt = 5 := (by decide); have z6 : (6 : Int32).toInt = 6 := (by decide); have z7 : (7 : Int32).toInt = 7 := (by decide); have z14 : (14 : Int32).toInt = 14 := (by decide); have z15 : (15 : Int32).toInt = 15 := (by decide); have z16 : (16 : Int32).toInt = 16 := (by decide); have z17 : (17 : Int32).toInt = 17 := (by decide); have hat := hco.at; omega)).2) ⟨by decide +kernel, rfl⟩ ?_
              refine z_i2l (pc' := 185) ⟨by decide +kernel, rfl⟩ rfl ?_
              refine w_invV (Z := Y_M_push) (idx := 658) (kb := 110) (As := [.int 2, .long (Int32.toInt64 (τ.1 122 fn))]) (rest := []) (pc' := 188) cl_13_658 rfl ⟨rfl, rfl⟩ kfa_110_0 rfl ⟨⟨by decide, by decide⟩, rfl, rfl⟩ ⟨by decide +kernel, rfl⟩ rfl rfl (Nat.le_of_ble_eq_true rfl) rfl rfl ?_
              refine cz_M_push (c := 2) h hl (by decide) (fun σ32 hv32 => ?_)
              show Wz E Y_M_evaluate 188 [(9, .int f), (8, .int v), (7, .int code), (6, .int i), (0, .ref 110), (1, .int f0), (2, .int to), (3, .int who), (4, .int thing), (5, .int t)] [] σ32 K
              refine z_goto (off := 246) (tgt := 434) (pc' := 191) ⟨by decide +kernel, by decide, rfl⟩ ?_
              refine z_iinc (i := 6) (z := 1) (q := 3) (pc' := 437) ⟨by decide +kernel, rfl⟩ rfl rfl (by decide) rfl ?_
              show Wz E Y_M_evaluate 437 [(6, .int (i + Int32.ofInt 1)), (9, .int f), (8, .int v), (7, .int code), (0, .ref 110), (1, .int f0), (2, .int to), (3, .int who), (4, .int thing), (5, .int t)] [] σ32 K
              refine z_goto (off := (-429)) (tgt := 8) (pc' := 440) ⟨by decide +kernel, by decide, rfl⟩ ?_
              have z0L : (0 : Int64).toInt = 0 := by decide
              have z0 : (0 : Int32).toInt = 0 := by decide
              have z2 : (2 : Int32).toInt = 2 := by decide
              have z4 : (4 : Int32).toInt = 4 := by decide
              have z5 : (5 : Int32).toInt = 5 := by decide
              have z6 : (6 : Int32).toInt = 6 := by decide
              have gh1 := j_ge_t h1
              have gh2 := j_ge_t h2
              have gh3 := j_ne_t h3
              have gh4 := j_ne_t h4
              have gh5 := j_ne_f h5
              have gh30 := j_ne_f (y := 0) h30
              have hcd : code.toInt = (σ.1 141 n).toInt := by rw [hcode]
              have hat := hco.at
              have e1 : (Int32.ofInt 1).toInt = 1 := by decide
              have hi2 : (i + Int32.ofInt 1).toInt = ((n + 1 : Nat) : Int) := by rw [i32_add (by rw [e1]; omega), e1]; omega
              rw [(ms_s h fn).1] at gh30
              rw [i2l_i, (ms_s h fn).2.1] at hv32
              exact k _ _ _ _ _ hi2 (by rw [mst_l (by show (σ.1 141 n).toInt.toNat < 7; omega) (by show (σ.1 141 n).toInt.toNat ≠ 5; omega)]; rw [ev_6 (by show (σ.1 141 n).toInt.toNat = 6; omega) (by show fsJ who.toInt thing.toInt (c32 (σ.2 142 n).toInt) < 480; rw [← hfn]; exact (hf (by omega)).2), ← hfn, if_pos (by omega)]; exact hv32) (by have q := hco.l0 (qo0 (by omega)); rw [mst_l (by show (σ.1 141 n).toInt.toNat < 7; omega) (by show (σ.1 141 n).toInt.toNat ≠ 5; omega), List.length_cons]; exact q)
        · refine z_aload_n (f := 0) (i := 0) (q := 4) (pc' := 146) ⟨by decide +kernel, rfl⟩ rfl rfl ?_
          refine z_iload (i := 9) (q := 0) (pc' := 148) ⟨by decide +kernel, rfl⟩ rfl ?_
          refine w_invV (Z := Y_M_pushAt) (idx := 684) (kb := 110) (As := [.int f]) (rest := []) (pc' := 151) cl_13_684 rfl ⟨rfl, rfl⟩ kfa_110_0 rfl ⟨⟨by decide, by decide⟩, rfl, rfl⟩ ⟨by decide +kernel, rfl⟩ rfl rfl (Nat.le_of_ble_eq_true rfl) rfl rfl ?_
          refine cz_M_pushAt (ms_1 h (by have q := (hco.l1 (qo1 (by have hcd : code.toInt = (σ.1 141 n).toInt := (by rw [hcode]); have qh1 := j_ge_t h1; have qh2 := j_ge_t h2; have qh3 := j_ne_t h3; have qh4 := j_ne_f h4; have z2 : (2 : Int32).toInt = 2 := (by decide); have z4 : (4 : Int32).toInt = 4 := (by decide); have z5 : (5 : Int32).toInt = 5 := (by decide); have z6 : (6 : Int32).toInt = 6 := (by decide); have z7 : (7 : Int32).toInt = 7 := (by decide); have z14 : (14 : Int32).toInt = 14 := (by decide); have z15 : (15 : Int32).toInt = 15 := (by decide); have z16 : (16 : Int32).toInt = 16 := (by decide); have z17 : (17 : Int32).toInt = 17 := (by decide); have hat := hco.at; omega))).1; omega)) hc (hf (by have hcd : code.toInt = (σ.1 141 n).toInt := (by rw [hcode]); have qh1 := j_ge_t h1; have qh2 := j_ge_t h2; have qh3 := j_ne_t h3; have qh4 := j_ne_f h4; have z2 : (2 : Int32).toInt = 2 := (by decide); have z4 : (4 : Int32).toInt = 4 := (by decide); have z5 : (5 : Int32).toInt = 5 := (by decide); have z6 : (6 : Int32).toInt = 6 := (by decide); have z7 : (7 : Int32).toInt = 7 := (by decide); have z14 : (14 : Int32).toInt = 14 := (by decide); have z15 : (15 : Int32).toInt = 15 := (by decide); have z16 : (16 : Int32).toInt = 16 := (by decide); have z17 : (17 : Int32).toInt = 17 := (by decide); have hat := hco.at; omega)).1 (hf (by have hcd : code.toInt = (σ.1 141 n).toInt := (by rw [hcode]); have qh1 := j_ge_t h1; have qh2 := j_ge_t h2; have qh3 := j_ne_t h3; have qh4 := j_ne_f h4; have z2 : (2 : Int32).toInt = 2 := (by decide); have z4 : (4 : Int32).toInt = 4 := (by decide); have z5 : (5 : Int32).toInt = 5 := (by decide); have z6 : (6 : Int32).toInt = 6 := (by decide); have z7 : (7 : Int32).toInt = 7 := (by decide); have z14 : (14 : Int32).toInt = 14 := (by decide); have z15 : (15 : Int32).toInt = 15 := (by decide); have z16 : (16 : Int32).toInt = 16 := (by decide); have z17 : (17 : Int32).toInt = 17 := (by decide); have hat := hco.at; omega)).2 (fun σ33 hv33 => ?_)
          show Wz E Y_M_evaluate 151 [(9, .int f), (8, .int v), (7, .int code), (6, .int i), (0, .ref 110), (1, .int f0), (2, .int to), (3, .int who), (4, .int thing), (5, .int t)] [] σ33 K
          refine z_goto (off := 283) (tgt := 434) (pc' := 154) ⟨by decide +kernel, by decide, rfl⟩ ?_
          refine z_iinc (i := 6) (z := 1) (q := 3) (pc' := 437) ⟨by decide +kernel, rfl⟩ rfl rfl (by decide) rfl ?_
          show Wz E Y_M_evaluate 437 [(6, .int (i + Int32.ofInt 1)), (9, .int f), (8, .int v), (7, .int code), (0, .ref 110), (1, .int f0), (2, .int to), (3, .int who), (4, .int thing), (5, .int t)] [] σ33 K
          refine z_goto (off := (-429)) (tgt := 8) (pc' := 440) ⟨by decide +kernel, by decide, rfl⟩ ?_
          have z0L : (0 : Int64).toInt = 0 := by decide
          have z2 : (2 : Int32).toInt = 2 := by decide
          have z4 : (4 : Int32).toInt = 4 := by decide
          have z5 : (5 : Int32).toInt = 5 := by decide
          have gh1 := j_ge_t h1
          have gh2 := j_ge_t h2
          have gh3 := j_ne_t h3
          have gh4 := j_ne_f h4
          have hcd : code.toInt = (σ.1 141 n).toInt := by rw [hcode]
          have hat := hco.at
          have e1 : (Int32.ofInt 1).toInt = 1 := by decide
          have hi2 : (i + Int32.ofInt 1).toInt = ((n + 1 : Nat) : Int) := by rw [i32_add (by rw [e1]; omega), e1]; omega
          exact k _ _ _ _ _ hi2 (by rw [mst_5 (by show (σ.1 141 n).toInt.toNat = 5; omega) (by have q := (hco.l1 (qo1 (by omega))).1; omega)]; rw [ev_pa (by show fsJ who.toInt thing.toInt (c32 (σ.2 142 n).toInt) < 480; rw [← hfn]; exact (hf (by omega)).2), ← hfn]; exact hv33) (by have q := (hco.l1 (qo1 (by omega))); rw [mst_5 (by show (σ.1 141 n).toInt.toNat = 5; omega) (by have q := (hco.l1 (qo1 (by omega))).1; omega), List.length_cons, List.length_tail]; have e : ((S.length - 1 + 1 : Nat) : Int) = (S.length : Int) := (by omega); rw [e]; exact q.2)
      · refine z_aload_n (f := 0) (i := 0) (q := 4) (pc' := 130) ⟨by decide +kernel, rfl⟩ rfl rfl ?_
        refine z_iload (i := 9) (q := 0) (pc' := 132) ⟨by decide +kernel, rfl⟩ rfl ?_
        refine z_iconst (i := 0) (v := 0) (pc' := 133) ⟨by decide +kernel, rfl⟩ (by decide) ?_
        refine w_invV (Z := Y_M_pushItem) (idx := 663) (kb := 110) (As := [.int f, .int 0]) (rest := []) (pc' := 136) cl_13_663 rfl ⟨rfl, rfl⟩ kfa_110_0 rfl ⟨⟨by decide, by decide⟩, rfl, rfl⟩ ⟨by decide +kernel, rfl⟩ rfl rfl (Nat.le_of_ble_eq_true rfl) rfl rfl ?_
        refine cz_M_pushItem h hl hc (hf (by have hcd : code.toInt = (σ.1 141 n).toInt := (by rw [hcode]); have qh1 := j_ge_t h1; have qh2 := j_ge_t h2; have qh3 := j_ne_f h3; have z2 : (2 : Int32).toInt = 2 := (by decide); have z4 : (4 : Int32).toInt = 4 := (by decide); have z5 : (5 : Int32).toInt = 5 := (by decide); have z6 : (6 : Int32).toInt = 6 := (by decide); have z7 : (7 : Int32).toInt = 7 := (by decide); have z14 : (14 : Int32).toInt = 14 := (by decide); have z15 : (15 : Int32).toInt = 15 := (by decide); have z16 : (16 : Int32).toInt = 16 := (by decide); have z17 : (17 : Int32).toInt = 17 := (by decide); have hat := hco.at; omega)).1 (hf (by have hcd : code.toInt = (σ.1 141 n).toInt := (by rw [hcode]); have qh1 := j_ge_t h1; have qh2 := j_ge_t h2; have qh3 := j_ne_f h3; have z2 : (2 : Int32).toInt = 2 := (by decide); have z4 : (4 : Int32).toInt = 4 := (by decide); have z5 : (5 : Int32).toInt = 5 := (by decide); have z6 : (6 : Int32).toInt = 6 := (by decide); have z7 : (7 : Int32).toInt = 7 := (by decide); have z14 : (14 : Int32).toInt = 14 := (by decide); have z15 : (15 : Int32).toInt = 15 := (by decide); have z16 : (16 : Int32).toInt = 16 := (by decide); have z17 : (17 : Int32).toInt = 17 := (by decide); have hat := hco.at; omega)).2 (fun σ34 hv34 => ?_)
        show Wz E Y_M_evaluate 136 [(9, .int f), (8, .int v), (7, .int code), (6, .int i), (0, .ref 110), (1, .int f0), (2, .int to), (3, .int who), (4, .int thing), (5, .int t)] [] σ34 K
        refine z_goto (off := 298) (tgt := 434) (pc' := 139) ⟨by decide +kernel, by decide, rfl⟩ ?_
        refine z_iinc (i := 6) (z := 1) (q := 3) (pc' := 437) ⟨by decide +kernel, rfl⟩ rfl rfl (by decide) rfl ?_
        show Wz E Y_M_evaluate 437 [(6, .int (i + Int32.ofInt 1)), (9, .int f), (8, .int v), (7, .int code), (0, .ref 110), (1, .int f0), (2, .int to), (3, .int who), (4, .int thing), (5, .int t)] [] σ34 K
        refine z_goto (off := (-429)) (tgt := 8) (pc' := 440) ⟨by decide +kernel, by decide, rfl⟩ ?_
        have z0L : (0 : Int64).toInt = 0 := by decide
        have z2 : (2 : Int32).toInt = 2 := by decide
        have z4 : (4 : Int32).toInt = 4 := by decide
        have gh1 := j_ge_t h1
        have gh2 := j_ge_t h2
        have gh3 := j_ne_f h3
        have hcd : code.toInt = (σ.1 141 n).toInt := by rw [hcode]
        have hat := hco.at
        have e1 : (Int32.ofInt 1).toInt = 1 := by decide
        have hi2 : (i + Int32.ofInt 1).toInt = ((n + 1 : Nat) : Int) := by rw [i32_add (by rw [e1]; omega), e1]; omega
        have z0 : (0 : Int32).toInt = 0 := by decide
        rw [z0] at hv34
        exact k _ _ _ _ _ hi2 (by rw [mst_l (by show (σ.1 141 n).toInt.toNat < 7; omega) (by show (σ.1 141 n).toInt.toNat ≠ 5; omega)]; rw [ev_4 (by show (σ.1 141 n).toInt.toNat = 4; omega) (by show fsJ who.toInt thing.toInt (c32 (σ.2 142 n).toInt) < 480; rw [← hfn]; exact (hf (by omega)).2), ← hfn]; exact hv34) (by have q := hco.l0 (qo0 (by omega)); rw [mst_l (by show (σ.1 141 n).toInt.toNat < 7; omega) (by show (σ.1 141 n).toInt.toNat ≠ 5; omega), List.length_cons]; exact q)
    · refine z_aload_n (f := 0) (i := 0) (q := 4) (pc' := 95) ⟨by decide +kernel, rfl⟩ rfl rfl ?_
      refine z_iconst (i := 0) (v := 0) (pc' := 96) ⟨by decide +kernel, rfl⟩ (by decide) ?_
      refine z_iload (i := 7) (q := 2) (pc' := 98) ⟨by decide +kernel, rfl⟩ rfl ?_
      refine z_iconst (i := 2) (v := 2) (pc' := 99) ⟨by decide +kernel, rfl⟩ (by decide) ?_
      refine z_icmp_ne (off := 9) (tgt := 108) (pc' := 102) ⟨by decide +kernel, by decide, rfl⟩ (fun h35 => ?_) (fun h35 => ?_)
      · refine z_aload_n (f := 0) (i := 0) (q := 4) (pc' := 109) ⟨by decide +kernel, rfl⟩ rfl rfl ?_
        refine w_geti (k := 110) (j := 0) (idx := 403) (pc' := 112) fxe_13_403 kfa_110_0 ⟨by decide +kernel, rfl⟩ ?_
        refine z_i2l (pc' := 113) ⟨by decide +kernel, rfl⟩ rfl ?_
        refine z_iload (i := 5) (q := 9) (pc' := 115) ⟨by decide +kernel, rfl⟩ rfl ?_
        refine z_i2l (pc' := 116) ⟨by decide +kernel, rfl⟩ rfl ?_
        refine z_lsub (pc' := 117) ⟨by decide +kernel, rfl⟩ ?_
        refine w_invV (Z := Y_M_push) (idx := 658) (kb := 110) (As := [.int 0, .long ((Int32.toInt64 (τ.1 110 0)) - (Int32.toInt64 t))]) (rest := []) (pc' := 120) cl_13_658 rfl ⟨rfl, rfl⟩ kfa_110_0 rfl ⟨⟨by decide, by decide⟩, rfl, rfl⟩ ⟨by decide +kernel, rfl⟩ rfl rfl (Nat.le_of_ble_eq_true rfl) rfl rfl ?_
        refine cz_M_push (c := 0) h hl (by decide) (fun σ36 hv36 => ?_)
        show Wz E Y_M_evaluate 120 [(9, .int f), (8, .int v), (7, .int code), (6, .int i), (0, .ref 110), (1, .int f0), (2, .int to), (3, .int who), (4, .int thing), (5, .int t)] [] σ36 K
        refine z_goto (off := 314) (tgt := 434) (pc' := 123) ⟨by decide +kernel, by decide, rfl⟩ ?_
        refine z_iinc (i := 6) (z := 1) (q := 3) (pc' := 437) ⟨by decide +kernel, rfl⟩ rfl rfl (by decide) rfl ?_
        show Wz E Y_M_evaluate 437 [(6, .int (i + Int32.ofInt 1)), (9, .int f), (8, .int v), (7, .int code), (0, .ref 110), (1, .int f0), (2, .int to), (3, .int who), (4, .int thing), (5, .int t)] [] σ36 K
        refine z_goto (off := (-429)) (tgt := 8) (pc' := 440) ⟨by decide +kernel, by decide, rfl⟩ ?_
        have z0L : (0 : Int64).toInt = 0 := by decide
        have z2 : (2 : Int32).toInt = 2 := by decide
        have z4 : (4 : Int32).toInt = 4 := by decide
        have gh1 := j_ge_t h1
        have gh2 := j_ge_f h2
        have gh35 := j_ne_t h35
        have hcd : code.toInt = (σ.1 141 n).toInt := by rw [hcode]
        have hat := hco.at
        have e1 : (Int32.ofInt 1).toInt = 1 := by decide
        have hi2 : (i + Int32.ofInt 1).toInt = ((n + 1 : Nat) : Int) := by rw [i32_add (by rw [e1]; omega), e1]; omega
        rw [(ms_cd h n).2.2, ev_age hnow ht] at hv36
        exact k _ _ _ _ _ hi2 (by rw [mst_l (by show (σ.1 141 n).toInt.toNat < 7; omega) (by show (σ.1 141 n).toInt.toNat ≠ 5; omega)]; rw [ev_3 (by show (σ.1 141 n).toInt.toNat = 3; omega)]; exact hv36) (by have q := hco.l0 (qo0 (by omega)); rw [mst_l (by show (σ.1 141 n).toInt.toNat < 7; omega) (by show (σ.1 141 n).toInt.toNat ≠ 5; omega), List.length_cons]; exact q)
      · refine z_iload (i := 5) (q := 9) (pc' := 104) ⟨by decide +kernel, rfl⟩ rfl ?_
        refine z_i2l (pc' := 105) ⟨by decide +kernel, rfl⟩ rfl ?_
        refine z_goto (off := 12) (tgt := 117) (pc' := 108) ⟨by decide +kernel, by decide, rfl⟩ ?_
        refine w_invV (Z := Y_M_push) (idx := 658) (kb := 110) (As := [.int 0, .long (Int32.toInt64 t)]) (rest := []) (pc' := 120) cl_13_658 rfl ⟨rfl, rfl⟩ kfa_110_0 rfl ⟨⟨by decide, by decide⟩, rfl, rfl⟩ ⟨by decide +kernel, rfl⟩ rfl rfl (Nat.le_of_ble_eq_true rfl) rfl rfl ?_
        refine cz_M_push (c := 0) h hl (by decide) (fun σ37 hv37 => ?_)
        show Wz E Y_M_evaluate 120 [(9, .int f), (8, .int v), (7, .int code), (6, .int i), (0, .ref 110), (1, .int f0), (2, .int to), (3, .int who), (4, .int thing), (5, .int t)] [] σ37 K
        refine z_goto (off := 314) (tgt := 434) (pc' := 123) ⟨by decide +kernel, by decide, rfl⟩ ?_
        refine z_iinc (i := 6) (z := 1) (q := 3) (pc' := 437) ⟨by decide +kernel, rfl⟩ rfl rfl (by decide) rfl ?_
        show Wz E Y_M_evaluate 437 [(6, .int (i + Int32.ofInt 1)), (9, .int f), (8, .int v), (7, .int code), (0, .ref 110), (1, .int f0), (2, .int to), (3, .int who), (4, .int thing), (5, .int t)] [] σ37 K
        refine z_goto (off := (-429)) (tgt := 8) (pc' := 440) ⟨by decide +kernel, by decide, rfl⟩ ?_
        have z0L : (0 : Int64).toInt = 0 := by decide
        have z2 : (2 : Int32).toInt = 2 := by decide
        have z4 : (4 : Int32).toInt = 4 := by decide
        have gh1 := j_ge_t h1
        have gh2 := j_ge_f h2
        have gh35 := j_ne_f h35
        have hcd : code.toInt = (σ.1 141 n).toInt := by rw [hcode]
        have hat := hco.at
        have e1 : (Int32.ofInt 1).toInt = 1 := by decide
        have hi2 : (i + Int32.ofInt 1).toInt = ((n + 1 : Nat) : Int) := by rw [i32_add (by rw [e1]; omega), e1]; omega
        rw [i2l_i] at hv37
        exact k _ _ _ _ _ hi2 (by rw [mst_l (by show (σ.1 141 n).toInt.toNat < 7; omega) (by show (σ.1 141 n).toInt.toNat ≠ 5; omega)]; rw [ev_2 (by show (σ.1 141 n).toInt.toNat = 2; omega)]; exact hv37) (by have q := hco.l0 (qo0 (by omega)); rw [mst_l (by show (σ.1 141 n).toInt.toNat < 7; omega) (by show (σ.1 141 n).toInt.toNat ≠ 5; omega), List.length_cons]; exact q)
  · refine z_aload_n (f := 0) (i := 0) (q := 4) (pc' := 73) ⟨by decide +kernel, rfl⟩ rfl rfl ?_
    refine z_iload (i := 7) (q := 2) (pc' := 75) ⟨by decide +kernel, rfl⟩ rfl ?_
    refine z_aload_n (f := 0) (i := 0) (q := 4) (pc' := 76) ⟨by decide +kernel, rfl⟩ rfl rfl ?_
    refine w_getr (k := 110) (j := 45) (idx := 109) (pc' := 79) fxe_13_109 kfa_110_45 ⟨by decide +kernel, rfl⟩ ?_
    refine z_iload (i := 6) (q := 3) (pc' := 81) ⟨by decide +kernel, rfl⟩ rfl ?_
    refine w_lald (k := 142) (n := n) (pc' := 82) kaa_142 (hi) (hco.at.1) ⟨by decide +kernel, rfl⟩ ?_
    refine w_invV (Z := Y_M_push) (idx := 658) (kb := 110) (As := [.int code, .long (τ.2 142 n)]) (rest := []) (pc' := 85) cl_13_658 rfl ⟨rfl, rfl⟩ kfa_110_0 rfl ⟨⟨by decide, by decide⟩, rfl, rfl⟩ ⟨by decide +kernel, rfl⟩ rfl rfl (Nat.le_of_ble_eq_true rfl) rfl rfl ?_
    refine cz_M_push (c := (σ.1 141 n).toInt.toNat) h hl (by have hcd : code.toInt = (σ.1 141 n).toInt := (by rw [hcode]); have qh1 := j_ge_f h1; have z2 : (2 : Int32).toInt = 2 := (by decide); have z4 : (4 : Int32).toInt = 4 := (by decide); have z5 : (5 : Int32).toInt = 5 := (by decide); have z6 : (6 : Int32).toInt = 6 := (by decide); have z7 : (7 : Int32).toInt = 7 := (by decide); have z14 : (14 : Int32).toInt = 14 := (by decide); have z15 : (15 : Int32).toInt = 15 := (by decide); have z16 : (16 : Int32).toInt = 16 := (by decide); have z17 : (17 : Int32).toInt = 17 := (by decide); have hat := hco.at; omega) (fun σ38 hv38 => ?_)
    show Wz E Y_M_evaluate 85 [(9, .int f), (8, .int v), (7, .int code), (6, .int i), (0, .ref 110), (1, .int f0), (2, .int to), (3, .int who), (4, .int thing), (5, .int t)] [] σ38 K
    refine z_goto (off := 349) (tgt := 434) (pc' := 88) ⟨by decide +kernel, by decide, rfl⟩ ?_
    refine z_iinc (i := 6) (z := 1) (q := 3) (pc' := 437) ⟨by decide +kernel, rfl⟩ rfl rfl (by decide) rfl ?_
    show Wz E Y_M_evaluate 437 [(6, .int (i + Int32.ofInt 1)), (9, .int f), (8, .int v), (7, .int code), (0, .ref 110), (1, .int f0), (2, .int to), (3, .int who), (4, .int thing), (5, .int t)] [] σ38 K
    refine z_goto (off := (-429)) (tgt := 8) (pc' := 440) ⟨by decide +kernel, by decide, rfl⟩ ?_
    have z0L : (0 : Int64).toInt = 0 := by decide
    have z2 : (2 : Int32).toInt = 2 := by decide
    have gh1 := j_ge_f h1
    have hcd : code.toInt = (σ.1 141 n).toInt := by rw [hcode]
    have hat := hco.at
    have e1 : (Int32.ofInt 1).toInt = 1 := by decide
    have hi2 : (i + Int32.ofInt 1).toInt = ((n + 1 : Nat) : Int) := by rw [i32_add (by rw [e1]; omega), e1]; omega
    rw [(ms_cd h n).2.1] at hv38
    exact k _ _ _ _ _ hi2 (by rw [mst_l (by show (σ.1 141 n).toInt.toNat < 7; omega) (by show (σ.1 141 n).toInt.toNat ≠ 5; omega)]; rw [ev_01 (by show (σ.1 141 n).toInt.toNat < 2; omega)]; exact hv38) (by have q := hco.l0 (qo0 (by omega)); rw [mst_l (by show (σ.1 141 n).toInt.toNat < 7; omega) (by show (σ.1 141 n).toInt.toNat ≠ 5; omega), List.length_cons]; exact q)
theorem run_M_evaluate_l {E : xV} {σ : zS} {K : zKt} {f0 to who thing t : Int32} {f0n : Nat} (hc : ∀ f : Nat, f < 480 → 0 ≤ (σ.1 122 f).toInt ∧ (σ.1 122 f).toInt ≤ 20) (hwho : 0 ≤ who.toInt ∧ who.toInt ≤ 19) (hthing : 0 ≤ thing.toInt ∧ thing.toInt ≤ 39) (hnow : 0 ≤ (σ.1 110 0).toInt ∧ (σ.1 110 0).toInt ≤ 1000000000) (ht : 0 ≤ t.toInt ∧ t.toInt ≤ 1000000000)  : ∀ (j : Nat) {τ : zS} {i f v code : Int32} {n : Nat} {S : List EntJ}, i.toInt = (n : Int) → to.toInt = ((n + j : Nat) : Int) → (f0n ≤ n ∧ n + j ≤ f0n + 1300 ∧ S.length + f0n ≤ n) → MsJ σ τ S → CoK σ n j S.length → (∀ τ' : zS, MsJ σ τ' (mrun9 (EvM σ who.toInt thing.toInt t.toInt) (cdL σ n j) S) → K none τ') → Wz E Y_M_evaluate 8 [(6, .int i), (9, .int f), (8, .int v), (7, .int code), (0, .ref 110), (1, .int f0), (2, .int to), (3, .int who), (4, .int thing), (5, .int t)] [] τ K
  | 0, τ, i, f, v, code, n, S, hi, hto, hb, h, hco, k => by
    refine z_iload (i := 6) (q := 0) (pc' := 10) ⟨by decide +kernel, rfl⟩ rfl ?_
    refine z_iload_n (f := 2) (i := 2) (q := 6) (pc' := 11) ⟨by decide +kernel, rfl⟩ rfl rfl ?_
    refine z_icmp_ge (off := 429) (tgt := 440) (pc' := 14) ⟨by decide +kernel, by decide, rfl⟩ (fun h1 => ?_) (fun h1 => ?_)
    · refine z_vret rfl (by decide +kernel) ?_
      have z0L : (0 : Int64).toInt = 0 := by decide
      have gh1 := j_ge_t h1
      exact k _ h
    · have z0L : (0 : Int64).toInt = 0 := by decide
      have gh1 := j_ge_f h1
      exfalso
      omega
  | j + 1, τ, i, f, v, code, n, S, hi, hto, hb, h, hco, k => by
    have ih := @run_M_evaluate_l E σ K f0 to who thing t f0n hc hwho hthing hnow ht j
    refine z_iload (i := 6) (q := 0) (pc' := 10) ⟨by decide +kernel, rfl⟩ rfl ?_
    refine z_iload_n (f := 2) (i := 2) (q := 6) (pc' := 11) ⟨by decide +kernel, rfl⟩ rfl rfl ?_
    refine z_icmp_ge (off := 429) (tgt := 440) (pc' := 14) ⟨by decide +kernel, by decide, rfl⟩ (fun h1 => ?_) (fun h1 => ?_)
    · have z0L : (0 : Int64).toInt = 0 := by decide
      have gh1 := j_ge_t h1
      exfalso
      omega
    · refine z_aload_n (f := 0) (i := 0) (q := 4) (pc' := 15) ⟨by decide +kernel, rfl⟩ rfl rfl ?_
      refine w_getr (k := 110) (j := 44) (idx := 106) (pc' := 18) fxe_13_106 kfa_110_44 ⟨by decide +kernel, rfl⟩ ?_
      refine z_iload (i := 6) (q := 0) (pc' := 20) ⟨by decide +kernel, rfl⟩ rfl ?_
      refine w_iald (k := 141) (n := n) (pc' := 21) kaa_141 (hi) (hco.at.1) ⟨by decide +kernel, rfl⟩ ?_
      refine z_istore (i := 7) (pc' := 23) ⟨by decide +kernel, rfl⟩ (by decide) rfl ?_
      show Wz E Y_M_evaluate 23 [(7, .int (τ.1 141 n)), (6, .int i), (9, .int f), (8, .int v), (0, .ref 110), (1, .int f0), (2, .int to), (3, .int who), (4, .int thing), (5, .int t)] [] τ K
      refine z_aload_n (f := 0) (i := 0) (q := 4) (pc' := 24) ⟨by decide +kernel, rfl⟩ rfl rfl ?_
      refine w_getr (k := 110) (j := 45) (idx := 109) (pc' := 27) fxe_13_109 kfa_110_45 ⟨by decide +kernel, rfl⟩ ?_
      refine z_iload (i := 6) (q := 1) (pc' := 29) ⟨by decide +kernel, rfl⟩ rfl ?_
      refine w_lald (k := 142) (n := n) (pc' := 30) kaa_142 (hi) (hco.at.1) ⟨by decide +kernel, rfl⟩ ?_
      refine z_l2i (pc' := 31) ⟨by decide +kernel, rfl⟩ rfl ?_
      refine z_istore (i := 8) (pc' := 33) ⟨by decide +kernel, rfl⟩ (by decide) rfl ?_
      show Wz E Y_M_evaluate 33 [(8, .int (Int64.toInt32 (τ.2 142 n))), (7, .int (τ.1 141 n)), (6, .int i), (9, .int f), (0, .ref 110), (1, .int f0), (2, .int to), (3, .int who), (4, .int thing), (5, .int t)] [] τ K
      refine z_iload (i := 8) (q := 0) (pc' := 35) ⟨by decide +kernel, rfl⟩ rfl ?_
      refine z_bipush (i := 8) (v := 8) (pc' := 37) ⟨by decide +kernel, rfl⟩ (by decide) ?_
      refine z_icmp_ge (off := 13) (tgt := 50) (pc' := 40) ⟨by decide +kernel, by decide, rfl⟩ (fun h2 => ?_) (fun h2 => ?_)
      · refine z_bipush (i := 8) (v := 8) (pc' := 52) ⟨by decide +kernel, rfl⟩ (by decide) ?_
        refine z_bipush (i := 20) (v := 20) (pc' := 54) ⟨by decide +kernel, rfl⟩ (by decide) ?_
        refine z_iload (i := 4) (q := 8) (pc' := 56) ⟨by decide +kernel, rfl⟩ rfl ?_
        refine z_iadd (pc' := 57) ⟨by decide +kernel, rfl⟩ ?_
        refine z_imul (pc' := 58) ⟨by decide +kernel, rfl⟩ ?_
        refine z_iload (i := 8) (q := 0) (pc' := 60) ⟨by decide +kernel, rfl⟩ rfl ?_
        refine z_iadd (pc' := 61) ⟨by decide +kernel, rfl⟩ ?_
        refine z_bipush (i := 8) (v := 8) (pc' := 63) ⟨by decide +kernel, rfl⟩ (by decide) ?_
        refine z_isub (pc' := 64) ⟨by decide +kernel, rfl⟩ ?_
        refine z_istore (i := 9) (pc' := 66) ⟨by decide +kernel, rfl⟩ (by decide) rfl ?_
        show Wz E Y_M_evaluate 66 [(9, .int (((8 * (20 + thing)) + (Int64.toInt32 (τ.2 142 n))) - 8)), (8, .int (Int64.toInt32 (τ.2 142 n))), (7, .int (τ.1 141 n)), (6, .int i), (0, .ref 110), (1, .int f0), (2, .int to), (3, .int who), (4, .int thing), (5, .int t)] [] τ K
        have z0L : (0 : Int64).toInt = 0 := by decide
        have z8 : (8 : Int32).toInt = 8 := by decide
        have gh1 := j_ge_f h1
        have gh2 := j_ge_t h2
        have hl : S.length < 1300 := by omega
        exact run_M_evaluate_b h hl hc hi hco (by rw [(ms_cd h n).1]) (by rw [(ms_cd h n).2.1, c32_v]) (fn := fsJ who.toInt thing.toInt (c32 (σ.2 142 n).toInt)) (fun hq => by have hr := hco.at.2.2 hq; have hs := c32_s hr; have hvv : (Int64.toInt32 (τ.2 142 n)).toInt = (σ.2 142 n).toInt := (by rw [(ms_cd h n).2.1, c32_v, hs]); rw [hs]; exact ⟨fs_b hthing hvv hr (by rw [hvv] at gh2; omega), fs_lt hwho hthing hr⟩) rfl hwho hthing hnow ht (fun τ1 i1 v1 code1 f1 a1 a2 a3 => ih a1 (by omega) ⟨by omega, by omega, by have := mst_len (EvM σ who.toInt thing.toInt t.toInt) ((σ.1 141 n).toInt.toNat, (σ.2 142 n).toInt) S; omega⟩ a2 a3 k)
      · refine z_bipush (i := 8) (v := 8) (pc' := 42) ⟨by decide +kernel, rfl⟩ (by decide) ?_
        refine z_iload_n (f := 3) (i := 3) (q := 7) (pc' := 43) ⟨by decide +kernel, rfl⟩ rfl rfl ?_
        refine z_imul (pc' := 44) ⟨by decide +kernel, rfl⟩ ?_
        refine z_iload (i := 8) (q := 0) (pc' := 46) ⟨by decide +kernel, rfl⟩ rfl ?_
        refine z_iadd (pc' := 47) ⟨by decide +kernel, rfl⟩ ?_
        refine z_goto (off := 17) (tgt := 64) (pc' := 50) ⟨by decide +kernel, by decide, rfl⟩ ?_
        refine z_istore (i := 9) (pc' := 66) ⟨by decide +kernel, rfl⟩ (by decide) rfl ?_
        show Wz E Y_M_evaluate 66 [(9, .int ((8 * who) + (Int64.toInt32 (τ.2 142 n)))), (8, .int (Int64.toInt32 (τ.2 142 n))), (7, .int (τ.1 141 n)), (6, .int i), (0, .ref 110), (1, .int f0), (2, .int to), (3, .int who), (4, .int thing), (5, .int t)] [] τ K
        have z0L : (0 : Int64).toInt = 0 := by decide
        have z8 : (8 : Int32).toInt = 8 := by decide
        have gh1 := j_ge_f h1
        have gh2 := j_ge_f h2
        have hl : S.length < 1300 := by omega
        exact run_M_evaluate_b h hl hc hi hco (by rw [(ms_cd h n).1]) (by rw [(ms_cd h n).2.1, c32_v]) (fn := fsJ who.toInt thing.toInt (c32 (σ.2 142 n).toInt)) (fun hq => by have hr := hco.at.2.2 hq; have hs := c32_s hr; have hvv : (Int64.toInt32 (τ.2 142 n)).toInt = (σ.2 142 n).toInt := (by rw [(ms_cd h n).2.1, c32_v, hs]); rw [hs]; exact ⟨fs_a hwho hvv hr (by rw [hvv] at gh2; omega), fs_lt hwho hthing hr⟩) rfl hwho hthing hnow ht (fun τ1 i1 v1 code1 f1 a1 a2 a3 => ih a1 (by omega) ⟨by omega, by omega, by have := mst_len (EvM σ who.toInt thing.toInt t.toInt) ((σ.1 141 n).toInt.toNat, (σ.2 142 n).toInt) S; omega⟩ a2 a3 k)
theorem run_M_evaluate {E : xV} {σ : zS} {K : zKt} {f0 to who thing t : Int32} {f0n j : Nat} (hf0 : f0.toInt = (f0n : Int)) (hto : to.toInt = ((f0n + j : Nat) : Int)) (hj : j ≤ 1300) (hco : CoK σ f0n j 0) (hc : ∀ f : Nat, f < 480 → 0 ≤ (σ.1 122 f).toInt ∧ (σ.1 122 f).toInt ≤ 20) (hwho : 0 ≤ who.toInt ∧ who.toInt ≤ 19) (hthing : 0 ≤ thing.toInt ∧ thing.toInt ≤ 39) (hnow : 0 ≤ (σ.1 110 0).toInt ∧ (σ.1 110 0).toInt ≤ 1000000000) (ht : 0 ≤ t.toInt ∧ t.toInt ≤ 1000000000) (k : ∀ τ' : zS, MsJ σ τ' (mrun9 (EvM σ who.toInt thing.toInt t.toInt) (cdL σ f0n j) []) → K none τ') : Wz E Y_M_evaluate 0 [(0, .ref 110), (1, .int f0), (2, .int to), (3, .int who), (4, .int thing), (5, .int t)] [] σ K := by
  refine z_aload_n (f := 0) (i := 0) (q := 0) (pc' := 1) ⟨by decide +kernel, rfl⟩ rfl rfl ?_
  refine z_iconst (i := 0) (v := 0) (pc' := 2) ⟨by decide +kernel, rfl⟩ (by decide) ?_
  refine w_puti (k := 110) (j := 64) (idx := 655) (pc' := 5) fxi_13_655 kfa_110_64 ⟨by decide +kernel, rfl⟩ ?_
  generalize hs1 : zI σ 110 64 0 = σ1
  refine z_iload_n (f := 1) (i := 1) (q := 1) (pc' := 6) ⟨by decide +kernel, rfl⟩ rfl rfl ?_
  refine z_istore (i := 6) (pc' := 8) ⟨by decide +kernel, rfl⟩ (by decide) rfl ?_
  show Wz E Y_M_evaluate 8 [(6, .int f0), (0, .ref 110), (1, .int f0), (2, .int to), (3, .int who), (4, .int thing), (5, .int t)] [] σ1 K
  refine z_iload (i := 6) (q := 0) (pc' := 10) ⟨by decide +kernel, rfl⟩ rfl ?_
  refine z_iload_n (f := 2) (i := 2) (q := 3) (pc' := 11) ⟨by decide +kernel, rfl⟩ rfl rfl ?_
  refine z_icmp_ge (off := 429) (tgt := 440) (pc' := 14) ⟨by decide +kernel, by decide, rfl⟩ (fun h2 => ?_) (fun h2 => ?_)
  · refine z_vret rfl (by decide +kernel) ?_
    have z0L : (0 : Int64).toInt = 0 := by decide
    have gh2 := j_ge_t h2
    have hj : j = 0 := by omega
    subst hj
    exact k _ (ms_0 hs1)
  · refine z_aload_n (f := 0) (i := 0) (q := 1) (pc' := 15) ⟨by decide +kernel, rfl⟩ rfl rfl ?_
    refine w_getr (k := 110) (j := 44) (idx := 106) (pc' := 18) fxe_13_106 kfa_110_44 ⟨by decide +kernel, rfl⟩ ?_
    refine z_iload (i := 6) (q := 0) (pc' := 20) ⟨by decide +kernel, rfl⟩ rfl ?_
    refine w_iald (k := 141) (n := f0n) (pc' := 21) kaa_141 (hf0) ((CoK.one hco (by have q := j_ge_f h2; omega))) ⟨by decide +kernel, rfl⟩ ?_
    refine z_istore (i := 7) (pc' := 23) ⟨by decide +kernel, rfl⟩ (by decide) rfl ?_
    show Wz E Y_M_evaluate 23 [(7, .int (σ1.1 141 f0n)), (6, .int f0), (0, .ref 110), (1, .int f0), (2, .int to), (3, .int who), (4, .int thing), (5, .int t)] [] σ1 K
    refine z_aload_n (f := 0) (i := 0) (q := 2) (pc' := 24) ⟨by decide +kernel, rfl⟩ rfl rfl ?_
    refine w_getr (k := 110) (j := 45) (idx := 109) (pc' := 27) fxe_13_109 kfa_110_45 ⟨by decide +kernel, rfl⟩ ?_
    refine z_iload (i := 6) (q := 1) (pc' := 29) ⟨by decide +kernel, rfl⟩ rfl ?_
    refine w_lald (k := 142) (n := f0n) (pc' := 30) kaa_142 (hf0) ((CoK.one hco (by have q := j_ge_f h2; omega))) ⟨by decide +kernel, rfl⟩ ?_
    refine z_l2i (pc' := 31) ⟨by decide +kernel, rfl⟩ rfl ?_
    refine z_istore (i := 8) (pc' := 33) ⟨by decide +kernel, rfl⟩ (by decide) rfl ?_
    show Wz E Y_M_evaluate 33 [(8, .int (Int64.toInt32 (σ1.2 142 f0n))), (7, .int (σ1.1 141 f0n)), (6, .int f0), (0, .ref 110), (1, .int f0), (2, .int to), (3, .int who), (4, .int thing), (5, .int t)] [] σ1 K
    refine z_iload (i := 8) (q := 0) (pc' := 35) ⟨by decide +kernel, rfl⟩ rfl ?_
    refine z_bipush (i := 8) (v := 8) (pc' := 37) ⟨by decide +kernel, rfl⟩ (by decide) ?_
    refine z_icmp_ge (off := 13) (tgt := 50) (pc' := 40) ⟨by decide +kernel, by decide, rfl⟩ (fun h3 => ?_) (fun h3 => ?_)
    · refine z_bipush (i := 8) (v := 8) (pc' := 52) ⟨by decide +kernel, rfl⟩ (by decide) ?_
      refine z_bipush (i := 20) (v := 20) (pc' := 54) ⟨by decide +kernel, rfl⟩ (by decide) ?_
      refine z_iload (i := 4) (q := 7) (pc' := 56) ⟨by decide +kernel, rfl⟩ rfl ?_
      refine z_iadd (pc' := 57) ⟨by decide +kernel, rfl⟩ ?_
      refine z_imul (pc' := 58) ⟨by decide +kernel, rfl⟩ ?_
      refine z_iload (i := 8) (q := 0) (pc' := 60) ⟨by decide +kernel, rfl⟩ rfl ?_
      refine z_iadd (pc' := 61) ⟨by decide +kernel, rfl⟩ ?_
      refine z_bipush (i := 8) (v := 8) (pc' := 63) ⟨by decide +kernel, rfl⟩ (by decide) ?_
      refine z_isub (pc' := 64) ⟨by decide +kernel, rfl⟩ ?_
      refine z_istore (i := 9) (pc' := 66) ⟨by decide +kernel, rfl⟩ (by decide) rfl ?_
      show Wz E Y_M_evaluate 66 [(9, .int (((8 * (20 + thing)) + (Int64.toInt32 (σ1.2 142 f0n))) - 8)), (8, .int (Int64.toInt32 (σ1.2 142 f0n))), (7, .int (σ1.1 141 f0n)), (6, .int f0), (0, .ref 110), (1, .int f0), (2, .int to), (3, .int who), (4, .int thing), (5, .int t)] [] σ1 K
      have z0L : (0 : Int64).toInt = 0 := by decide
      have z8 : (8 : Int32).toInt = 8 := by decide
      have gh2 := j_ge_f h2
      have gh3 := j_ge_t h3
      obtain ⟨j, rfl⟩ : ∃ j2, j = j2 + 1 := ⟨j - 1, by omega⟩
      have h := ms_0 hs1
      exact run_M_evaluate_b (S := []) (n := f0n) h (by decide) hc hf0 hco (by rw [(ms_cd h f0n).1]) (by rw [(ms_cd h f0n).2.1, c32_v]) (fn := fsJ who.toInt thing.toInt (c32 (σ.2 142 f0n).toInt)) (fun hq => by have hr := hco.at.2.2 hq; have hs := c32_s hr; have hvv : (Int64.toInt32 (σ1.2 142 f0n)).toInt = (σ.2 142 f0n).toInt := (by rw [(ms_cd h f0n).2.1, c32_v, hs]); rw [hs]; exact ⟨fs_b hthing hvv hr (by rw [hvv] at gh3; omega), fs_lt hwho hthing hr⟩) rfl hwho hthing hnow ht (fun τ1 i1 v1 code1 f1 a1 a2 a3 => run_M_evaluate_l (f0n := f0n) hc hwho hthing hnow ht j a1 (by omega) ⟨by omega, by omega, by have q := mst_len (EvM σ who.toInt thing.toInt t.toInt) ((σ.1 141 f0n).toInt.toNat, (σ.2 142 f0n).toInt) []; rw [List.length_nil] at q; omega⟩ a2 a3 k)
    · refine z_bipush (i := 8) (v := 8) (pc' := 42) ⟨by decide +kernel, rfl⟩ (by decide) ?_
      refine z_iload_n (f := 3) (i := 3) (q := 6) (pc' := 43) ⟨by decide +kernel, rfl⟩ rfl rfl ?_
      refine z_imul (pc' := 44) ⟨by decide +kernel, rfl⟩ ?_
      refine z_iload (i := 8) (q := 0) (pc' := 46) ⟨by decide +kernel, rfl⟩ rfl ?_
      refine z_iadd (pc' := 47) ⟨by decide +kernel, rfl⟩ ?_
      refine z_goto (off := 17) (tgt := 64) (pc' := 50) ⟨by decide +kernel, by decide, rfl⟩ ?_
      refine z_istore (i := 9) (pc' := 66) ⟨by decide +kernel, rfl⟩ (by decide) rfl ?_
      show Wz E Y_M_evaluate 66 [(9, .int ((8 * who) + (Int64.toInt32 (σ1.2 142 f0n)))), (8, .int (Int64.toInt32 (σ1.2 142 f0n))), (7, .int (σ1.1 141 f0n)), (6, .int f0), (0, .ref 110), (1, .int f0), (2, .int to), (3, .int who), (4, .int thing), (5, .int t)] [] σ1 K
      have z0L : (0 : Int64).toInt = 0 := by decide
      have z8 : (8 : Int32).toInt = 8 := by decide
      have gh2 := j_ge_f h2
      have gh3 := j_ge_f h3
      obtain ⟨j, rfl⟩ : ∃ j2, j = j2 + 1 := ⟨j - 1, by omega⟩
      have h := ms_0 hs1
      exact run_M_evaluate_b (S := []) (n := f0n) h (by decide) hc hf0 hco (by rw [(ms_cd h f0n).1]) (by rw [(ms_cd h f0n).2.1, c32_v]) (fn := fsJ who.toInt thing.toInt (c32 (σ.2 142 f0n).toInt)) (fun hq => by have hr := hco.at.2.2 hq; have hs := c32_s hr; have hvv : (Int64.toInt32 (σ1.2 142 f0n)).toInt = (σ.2 142 f0n).toInt := (by rw [(ms_cd h f0n).2.1, c32_v, hs]); rw [hs]; exact ⟨fs_a hwho hvv hr (by rw [hvv] at gh3; omega), fs_lt hwho hthing hr⟩) rfl hwho hthing hnow ht (fun τ1 i1 v1 code1 f1 a1 a2 a3 => run_M_evaluate_l (f0n := f0n) hc hwho hthing hnow ht j a1 (by omega) ⟨by omega, by omega, by have q := mst_len (EvM σ who.toInt thing.toInt t.toInt) ((σ.1 141 f0n).toInt.toNat, (σ.2 142 f0n).toInt) []; rw [List.length_nil] at q; omega⟩ a2 a3 k)
theorem cz_M_evaluate {E : xV} {σ : zS} {K : zKt} {f0 to who thing t : Int32} {f0n j : Nat} (hf0 : f0.toInt = (f0n : Int)) (hto : to.toInt = ((f0n + j : Nat) : Int)) (hj : j ≤ 1300) (hco : CoK σ f0n j 0) (hc : ∀ f : Nat, f < 480 → 0 ≤ (σ.1 122 f).toInt ∧ (σ.1 122 f).toInt ≤ 20) (hwho : 0 ≤ who.toInt ∧ who.toInt ≤ 19) (hthing : 0 ≤ thing.toInt ∧ thing.toInt ≤ 39) (hnow : 0 ≤ (σ.1 110 0).toInt ∧ (σ.1 110 0).toInt ≤ 1000000000) (ht : 0 ≤ t.toInt ∧ t.toInt ≤ 1000000000) (k : ∀ τ' : zS, MsJ σ τ' (mrun9 (EvM σ who.toInt thing.toInt t.toInt) (cdL σ f0n j) []) → K none τ') : Cz E Y_M_evaluate [.ref 110, .int f0, .int to, .int who, .int thing, .int t] σ K := z_entry (by decide) (fun a => by rw [sl_len]; exact Nat.le_of_ble_eq_true rfl) rfl (run_M_evaluate hf0 hto hj hco hc hwho hthing hnow ht k)

end
