section
theorem fxe_11_20 : FxE "RightsHouse$Who" 20 8 5 := fx_e (m := 9) (t := 3) rfl (by decide) (by decide +kernel)
theorem fxe_11_23 : FxE "RightsHouse$Who" 23 8 6 := fx_e (m := 9) (t := 3) rfl (by decide) (by decide +kernel)
theorem fxe_5_130 : FxE "RightsHouse$Judge" 130 3 10 := fx_e (m := 113) (t := 0) rfl (by decide) (by decide +kernel)
theorem fxe_5_133 : FxE "RightsHouse$Judge" 133 3 12 := fx_e (m := 113) (t := 0) rfl (by decide) (by decide +kernel)
theorem fxe_5_136 : FxE "RightsHouse$Judge" 136 5 4 := fx_e (m := 113) (t := 3) rfl (by decide) (by decide +kernel)
theorem fxe_5_187 : FxE "RightsHouse$Judge" 187 8 4 := fx_e (m := 113) (t := 3) rfl (by decide) (by decide +kernel)
theorem fxe_5_19 : FxE "RightsHouse$Judge" 19 3 2 := fx_e (m := 113) (t := 3) rfl (by decide) (by decide +kernel)
theorem fxe_5_190 : FxE "RightsHouse$Judge" 190 8 5 := fx_e (m := 113) (t := 3) rfl (by decide) (by decide +kernel)
theorem fxe_5_199 : FxE "RightsHouse$Judge" 199 8 6 := fx_e (m := 113) (t := 3) rfl (by decide) (by decide +kernel)
theorem fxe_5_23 : FxE "RightsHouse$Judge" 23 3 8 := fx_e (m := 113) (t := 3) rfl (by decide) (by decide +kernel)
theorem fxe_5_27 : FxE "RightsHouse$Judge" 27 3 9 := fx_e (m := 113) (t := 3) rfl (by decide) (by decide +kernel)
theorem fxe_5_31 : FxE "RightsHouse$Judge" 31 3 11 := fx_e (m := 113) (t := 3) rfl (by decide) (by decide +kernel)
theorem fxe_5_44 : FxE "RightsHouse$Judge" 44 3 6 := fx_e (m := 113) (t := 0) rfl (by decide) (by decide +kernel)
theorem fxe_5_48 : FxE "RightsHouse$Judge" 48 3 7 := fx_e (m := 113) (t := 0) rfl (by decide) (by decide +kernel)
theorem fxe_5_51 : FxE "RightsHouse$Judge" 51 3 3 := fx_e (m := 113) (t := 0) rfl (by decide) (by decide +kernel)
theorem fxe_5_71 : FxE "RightsHouse$Judge" 71 3 5 := fx_e (m := 113) (t := 0) rfl (by decide) (by decide +kernel)
theorem fxe_5_9 : FxE "RightsHouse$Judge" 9 3 0 := fx_e (m := 113) (t := 3) rfl (by decide) (by decide +kernel)
theorem fxi_5_130 : FxI "RightsHouse$Judge" 130 3 10 := fx_i (m := 113) rfl (by decide) (by decide +kernel)
theorem fxi_5_133 : FxI "RightsHouse$Judge" 133 3 12 := fx_i (m := 113) rfl (by decide) (by decide +kernel)
theorem fxi_5_95 : FxI "RightsHouse$Judge" 95 3 13 := fx_i (m := 113) rfl (by decide) (by decide +kernel)
theorem kaa_21 : KaA 21 100 9600 := ka_a (by decide +kernel)
theorem kaa_28 : KaA 28 101 64 := ka_a (by decide +kernel)
theorem kaa_29 : KaA 29 102 64 := ka_a (by decide +kernel)
theorem kaa_30 : KaA 30 100 64 := ka_a (by decide +kernel)
theorem kaa_7 : KaA 7 100 480 := ka_a (by decide +kernel)
theorem kaa_8 : KaA 8 100 480 := ka_a (by decide +kernel)
theorem kaa_9 : KaA 9 101 9600 := ka_a (by decide +kernel)
theorem kfa_17_4 : KfA 17 4 5 2 21 := kf_a (by decide) (by decide +kernel)
theorem kfa_27_0 : KfA 27 0 3 2 5 := kf_a (by decide) (by decide +kernel)
theorem kfa_27_10 : KfA 27 10 3 0 0 := kf_a (by decide) (by decide +kernel)
theorem kfa_27_11 : KfA 27 11 3 2 30 := kf_a (by decide) (by decide +kernel)
theorem kfa_27_12 : KfA 27 12 3 0 0 := kf_a (by decide) (by decide +kernel)
theorem kfa_27_13 : KfA 27 13 3 0 0 := kf_a (by decide) (by decide +kernel)
theorem kfa_27_2 : KfA 27 2 3 2 17 := kf_a (by decide) (by decide +kernel)
theorem kfa_27_3 : KfA 27 3 3 0 0 := kf_a (by decide) (by decide +kernel)
theorem kfa_27_5 : KfA 27 5 3 0 0 := kf_a (by decide) (by decide +kernel)
theorem kfa_27_6 : KfA 27 6 3 0 0 := kf_a (by decide) (by decide +kernel)
theorem kfa_27_7 : KfA 27 7 3 0 0 := kf_a (by decide) (by decide +kernel)
theorem kfa_27_8 : KfA 27 8 3 2 28 := kf_a (by decide) (by decide +kernel)
theorem kfa_27_9 : KfA 27 9 3 2 29 := kf_a (by decide) (by decide +kernel)
theorem kfa_5_0 : KfA 5 0 8 0 0 := kf_a (by decide) (by decide +kernel)
theorem kfa_5_4 : KfA 5 4 8 2 7 := kf_a (by decide) (by decide +kernel)
theorem kfa_5_5 : KfA 5 5 8 2 8 := kf_a (by decide) (by decide +kernel)
theorem kfa_5_6 : KfA 5 6 8 2 9 := kf_a (by decide) (by decide +kernel)
theorem run_Ju_pushTruth {E : xV} {σ τ : zS} {K : zKt} {V T : List EntJ} {fl : Int} {t : Int32} {x : EntJ} (h : CsJ σ τ V T fl) (hl : T.length < 64) (ht : t.toInt = tcJ x) (hk : x.1 = 2 ∨ x.1 = 4 ∨ x.1 = 5) (k : ∀ τ' : zS, CsJ σ τ' V (x :: T) fl → K none τ') : Wz E Y_Ju_pushTruth 0 [(0, .ref 27), (1, .int t)] [] τ K := by
  refine z_aload_n (f := 0) (i := 0) (q := 0) (pc' := 1) ⟨by decide +kernel, rfl⟩ rfl rfl ?_
  refine w_geti (k := 27) (j := 12) (idx := 133) (pc' := 4) fxe_5_133 kfa_27_12 ⟨by decide +kernel, rfl⟩ ?_
  refine z_bipush (i := 64) (v := 64) (pc' := 6) ⟨by decide +kernel, rfl⟩ (by decide) ?_
  refine z_icmp_ge (off := 23) (tgt := 29) (pc' := 9) ⟨by decide +kernel, by decide, rfl⟩ (fun h1 => ?_) (fun h1 => ?_)
  · refine z_vret rfl (by decide +kernel) ?_
    have z0L : (0 : Int64).toInt = 0 := by decide
    have z64 : (64 : Int32).toInt = 64 := by decide
    have gh1 := j_ge_t h1
    exfalso
    have := h.2.2.1.1
    omega
  · refine z_aload_n (f := 0) (i := 0) (q := 0) (pc' := 10) ⟨by decide +kernel, rfl⟩ rfl rfl ?_
    refine w_getr (k := 27) (j := 11) (idx := 31) (pc' := 13) fxe_5_31 kfa_27_11 ⟨by decide +kernel, rfl⟩ ?_
    refine z_aload_n (f := 0) (i := 0) (q := 0) (pc' := 14) ⟨by decide +kernel, rfl⟩ rfl rfl ?_
    refine w_geti (k := 27) (j := 12) (idx := 133) (pc' := 17) fxe_5_133 kfa_27_12 ⟨by decide +kernel, rfl⟩ ?_
    refine z_iload_n (f := 1) (i := 1) (q := 1) (pc' := 18) ⟨by decide +kernel, rfl⟩ rfl rfl ?_
    refine w_iast (k := 30) (n := T.length) (pc' := 19) kaa_30 (h.2.2.1.1) (hl) ⟨by decide +kernel, rfl⟩ ?_
    generalize hs2 : zI τ 30 T.length t = σ2
    refine z_aload_n (f := 0) (i := 0) (q := 0) (pc' := 20) ⟨by decide +kernel, rfl⟩ rfl rfl ?_
    refine z_dupr (pc' := 21) ⟨by decide +kernel, rfl⟩ ?_
    refine w_geti (k := 27) (j := 12) (idx := 133) (pc' := 24) fxe_5_133 kfa_27_12 ⟨by decide +kernel, rfl⟩ ?_
    refine z_iconst (i := 1) (v := 1) (pc' := 25) ⟨by decide +kernel, rfl⟩ (by decide) ?_
    refine z_iadd (pc' := 26) ⟨by decide +kernel, rfl⟩ ?_
    refine w_puti (k := 27) (j := 12) (idx := 133) (pc' := 29) fxi_5_133 kfa_27_12 ⟨by decide +kernel, rfl⟩ ?_
    generalize hs3 : zI σ2 27 12 ((σ2.1 27 12) + 1) = σ3
    refine z_vret rfl (by decide +kernel) ?_
    have z0L : (0 : Int64).toInt = 0 := by decide
    have z64 : (64 : Int32).toInt = 64 := by decide
    have gh1 := j_ge_f h1
    exact k _ (cs_truth h hl ht hk hs2 hs3)
theorem cz_Ju_pushTruth {E : xV} {σ τ : zS} {K : zKt} {V T : List EntJ} {fl : Int} {t : Int32} {x : EntJ} (h : CsJ σ τ V T fl) (hl : T.length < 64) (ht : t.toInt = tcJ x) (hk : x.1 = 2 ∨ x.1 = 4 ∨ x.1 = 5) (k : ∀ τ' : zS, CsJ σ τ' V (x :: T) fl → K none τ') : Cz E Y_Ju_pushTruth [.ref 27, .int t] τ K := z_entry (by decide) (fun a => by rw [sl_len]; exact Nat.le_of_ble_eq_true rfl) rfl (run_Ju_pushTruth h hl ht hk k)
theorem run_Ju_pushValue {E : xV} {σ τ : zS} {K : zKt} {V T : List EntJ} {fl : Int} {r : Int32} {v : Int64} {c : Nat} (h : CsJ σ τ V T fl) (hl : V.length < 64) (hr : r = 0 ∧ c = 0 ∨ r = 1 ∧ c = 1) (k : ∀ (τ' : zS) (o : Int32), o.toInt = 4 → CsJ σ τ' ((c, v.toInt) :: V) T fl → K (some (.int o)) τ') : Wz E Y_Ju_pushValue 0 [(0, .ref 27), (1, .int r), (2, .long v)] [] τ K := by
  refine z_aload_n (f := 0) (i := 0) (q := 0) (pc' := 1) ⟨by decide +kernel, rfl⟩ rfl rfl ?_
  refine w_geti (k := 27) (j := 10) (idx := 130) (pc' := 4) fxe_5_130 kfa_27_10 ⟨by decide +kernel, rfl⟩ ?_
  refine z_bipush (i := 64) (v := 64) (pc' := 6) ⟨by decide +kernel, rfl⟩ (by decide) ?_
  refine z_icmp_ge (off := 33) (tgt := 39) (pc' := 9) ⟨by decide +kernel, by decide, rfl⟩ (fun h1 => ?_) (fun h1 => ?_)
  · refine z_iconst (i := 4) (v := 4) (pc' := 40) ⟨by decide +kernel, rfl⟩ (by decide) ?_
    refine z_iret (ty := .int) rfl rfl (by decide +kernel) ?_
    have z0L : (0 : Int64).toInt = 0 := by decide
    have z64 : (64 : Int32).toInt = 64 := by decide
    have gh1 := j_ge_t h1
    exfalso
    have := h.2.1.1
    omega
  · refine z_aload_n (f := 0) (i := 0) (q := 0) (pc' := 10) ⟨by decide +kernel, rfl⟩ rfl rfl ?_
    refine w_getr (k := 27) (j := 9) (idx := 27) (pc' := 13) fxe_5_27 kfa_27_9 ⟨by decide +kernel, rfl⟩ ?_
    refine z_aload_n (f := 0) (i := 0) (q := 0) (pc' := 14) ⟨by decide +kernel, rfl⟩ rfl rfl ?_
    refine w_geti (k := 27) (j := 10) (idx := 130) (pc' := 17) fxe_5_130 kfa_27_10 ⟨by decide +kernel, rfl⟩ ?_
    refine z_iload_n (f := 1) (i := 1) (q := 1) (pc' := 18) ⟨by decide +kernel, rfl⟩ rfl rfl ?_
    refine w_zast (k := 29) (n := V.length) (pc' := 19) kaa_29 (h.2.1.1) (hl) (by rcases hr with ⟨rfl, _⟩ | ⟨rfl, _⟩; exact Or.inl rfl; exact Or.inr rfl) ⟨by decide +kernel, rfl⟩ ?_
    generalize hs2 : zI τ 29 V.length r = σ2
    refine z_aload_n (f := 0) (i := 0) (q := 0) (pc' := 20) ⟨by decide +kernel, rfl⟩ rfl rfl ?_
    refine w_getr (k := 27) (j := 8) (idx := 23) (pc' := 23) fxe_5_23 kfa_27_8 ⟨by decide +kernel, rfl⟩ ?_
    refine z_aload_n (f := 0) (i := 0) (q := 0) (pc' := 24) ⟨by decide +kernel, rfl⟩ rfl rfl ?_
    refine w_geti (k := 27) (j := 10) (idx := 130) (pc' := 27) fxe_5_130 kfa_27_10 ⟨by decide +kernel, rfl⟩ ?_
    refine z_lload_n (f := 2) (i := 2) (q := 2) (pc' := 28) ⟨by decide +kernel, rfl⟩ rfl rfl ?_
    refine w_last (k := 28) (n := V.length) (pc' := 29) kaa_28 (cs_v1 h hs2) (hl) ⟨by decide +kernel, rfl⟩ ?_
    generalize hs3 : zJ σ2 28 V.length v = σ3
    refine z_aload_n (f := 0) (i := 0) (q := 0) (pc' := 30) ⟨by decide +kernel, rfl⟩ rfl rfl ?_
    refine z_dupr (pc' := 31) ⟨by decide +kernel, rfl⟩ ?_
    refine w_geti (k := 27) (j := 10) (idx := 130) (pc' := 34) fxe_5_130 kfa_27_10 ⟨by decide +kernel, rfl⟩ ?_
    refine z_iconst (i := 1) (v := 1) (pc' := 35) ⟨by decide +kernel, rfl⟩ (by decide) ?_
    refine z_iadd (pc' := 36) ⟨by decide +kernel, rfl⟩ ?_
    refine w_puti (k := 27) (j := 10) (idx := 130) (pc' := 39) fxi_5_130 kfa_27_10 ⟨by decide +kernel, rfl⟩ ?_
    generalize hs4 : zI σ3 27 10 ((σ3.1 27 10) + 1) = σ4
    refine z_iconst (i := 4) (v := 4) (pc' := 40) ⟨by decide +kernel, rfl⟩ (by decide) ?_
    refine z_iret (ty := .int) rfl rfl (by decide +kernel) ?_
    have z0L : (0 : Int64).toInt = 0 := by decide
    have z64 : (64 : Int32).toInt = 64 := by decide
    have gh1 := j_ge_f h1
    exact k _ _ (by decide) (cs_value h hl (by rcases hr with ⟨rfl, rfl⟩ | ⟨rfl, rfl⟩ <;> decide) (by omega) hs2 hs3 hs4)
theorem cz_Ju_pushValue {E : xV} {σ τ : zS} {K : zKt} {V T : List EntJ} {fl : Int} {r : Int32} {v : Int64} {c : Nat} (h : CsJ σ τ V T fl) (hl : V.length < 64) (hr : r = 0 ∧ c = 0 ∨ r = 1 ∧ c = 1) (k : ∀ (τ' : zS) (o : Int32), o.toInt = 4 → CsJ σ τ' ((c, v.toInt) :: V) T fl → K (some (.int o)) τ') : Cz E Y_Ju_pushValue [.ref 27, .int r, .long v] τ K := z_entry (by decide) (fun a => by rw [sl_len]; exact Nat.le_of_ble_eq_true rfl) rfl (run_Ju_pushValue h hl hr k)
theorem run_Ju_failBy {E : xV} {σ τ : zS} {K : zKt} {V T : List EntJ} {fl : Int} {n : Int32} (h : CsJ σ τ V T fl) (k : ∀ (τ' : zS) (o : Int32), o.toInt = 3 → CsJ σ τ' V T n.toInt → K (some (.int o)) τ') : Wz E Y_Ju_failBy 0 [(0, .ref 27), (1, .int n)] [] τ K := by
  refine z_aload_n (f := 0) (i := 0) (q := 0) (pc' := 1) ⟨by decide +kernel, rfl⟩ rfl rfl ?_
  refine z_iload_n (f := 1) (i := 1) (q := 1) (pc' := 2) ⟨by decide +kernel, rfl⟩ rfl rfl ?_
  refine w_puti (k := 27) (j := 13) (idx := 95) (pc' := 5) fxi_5_95 kfa_27_13 ⟨by decide +kernel, rfl⟩ ?_
  generalize hs1 : zI τ 27 13 n = σ1
  refine z_iconst (i := 3) (v := 3) (pc' := 6) ⟨by decide +kernel, rfl⟩ (by decide) ?_
  refine z_iret (ty := .int) rfl rfl (by decide +kernel) ?_
  have z0L : (0 : Int64).toInt = 0 := by decide
  exact k _ _ (by decide) (cs_fail h hs1)
theorem cz_Ju_failBy {E : xV} {σ τ : zS} {K : zKt} {V T : List EntJ} {fl : Int} {n : Int32} (h : CsJ σ τ V T fl) (k : ∀ (τ' : zS) (o : Int32), o.toInt = 3 → CsJ σ τ' V T n.toInt → K (some (.int o)) τ') : Cz E Y_Ju_failBy [.ref 27, .int n] τ K := z_entry (by decide) (fun a => by rw [sl_len]; exact Nat.le_of_ble_eq_true rfl) rfl (run_Ju_failBy h k)
theorem run_Wh_slotOfPerson {E : xV} {τ : zS} {K : zKt} {p f : Int32} (hp : 0 ≤ p.toInt ∧ p.toInt ≤ 100) (hf : 0 ≤ f.toInt ∧ f.toInt ≤ 100) (k : ∀ v : Int32, v.toInt = p.toInt * 8 + f.toInt → K (some (.int v)) τ) : Wz E Y_Wh_slotOfPerson 0 [(0, .int p), (1, .int f)] [] τ K := by
  refine z_iload_n (f := 0) (i := 0) (q := 0) (pc' := 1) ⟨by decide +kernel, rfl⟩ rfl rfl ?_
  refine z_bipush (i := 8) (v := 8) (pc' := 3) ⟨by decide +kernel, rfl⟩ (by decide) ?_
  refine z_imul (pc' := 4) ⟨by decide +kernel, rfl⟩ ?_
  refine z_iload_n (f := 1) (i := 1) (q := 1) (pc' := 5) ⟨by decide +kernel, rfl⟩ rfl rfl ?_
  refine z_iadd (pc' := 6) ⟨by decide +kernel, rfl⟩ ?_
  refine z_iret (ty := .int) rfl rfl (by decide +kernel) ?_
  have z0L : (0 : Int64).toInt = 0 := by decide
  have z8 : (8 : Int32).toInt = 8 := by decide
  have e1 : (p * 8).toInt = p.toInt * 8 := by rw [Int32.toInt_mul, z8, Int.bmod_eq_of_le (by omega) (by omega)]
  exact k _ (by rw [i32_add (by omega), e1])
theorem cz_Wh_slotOfPerson {E : xV} {τ : zS} {K : zKt} {p f : Int32} (hp : 0 ≤ p.toInt ∧ p.toInt ≤ 100) (hf : 0 ≤ f.toInt ∧ f.toInt ≤ 100) (k : ∀ v : Int32, v.toInt = p.toInt * 8 + f.toInt → K (some (.int v)) τ) : Cz E Y_Wh_slotOfPerson [.int p, .int f] τ K := z_entry (by decide) (fun a => by rw [sl_len]; exact Nat.le_of_ble_eq_true rfl) rfl (run_Wh_slotOfPerson hp hf k)
theorem run_Wh_slotOfThing {E : xV} {τ : zS} {K : zKt} {p f : Int32} (hp : 0 ≤ p.toInt ∧ p.toInt ≤ 100) (hf : 0 ≤ f.toInt ∧ f.toInt ≤ 100) (k : ∀ v : Int32, v.toInt = (20 + p.toInt) * 8 + f.toInt → K (some (.int v)) τ) : Wz E Y_Wh_slotOfThing 0 [(0, .int p), (1, .int f)] [] τ K := by
  refine z_bipush (i := 20) (v := 20) (pc' := 2) ⟨by decide +kernel, rfl⟩ (by decide) ?_
  refine z_iload_n (f := 0) (i := 0) (q := 0) (pc' := 3) ⟨by decide +kernel, rfl⟩ rfl rfl ?_
  refine z_iadd (pc' := 4) ⟨by decide +kernel, rfl⟩ ?_
  refine z_bipush (i := 8) (v := 8) (pc' := 6) ⟨by decide +kernel, rfl⟩ (by decide) ?_
  refine z_imul (pc' := 7) ⟨by decide +kernel, rfl⟩ ?_
  refine z_iload_n (f := 1) (i := 1) (q := 1) (pc' := 8) ⟨by decide +kernel, rfl⟩ rfl rfl ?_
  refine z_iadd (pc' := 9) ⟨by decide +kernel, rfl⟩ ?_
  refine z_iret (ty := .int) rfl rfl (by decide +kernel) ?_
  have z0L : (0 : Int64).toInt = 0 := by decide
  have z8 : (8 : Int32).toInt = 8 := by decide
  have z20 : (20 : Int32).toInt = 20 := by decide
  have e0 : (20 + p).toInt = 20 + p.toInt := by rw [i32_add (by omega), z20]
  have e1 : ((20 + p) * 8).toInt = (20 + p.toInt) * 8 := by rw [Int32.toInt_mul, z8, e0, Int.bmod_eq_of_le (by omega) (by omega)]
  exact k _ (by rw [i32_add (by omega), e1])
theorem cz_Wh_slotOfThing {E : xV} {τ : zS} {K : zKt} {p f : Int32} (hp : 0 ≤ p.toInt ∧ p.toInt ≤ 100) (hf : 0 ≤ f.toInt ∧ f.toInt ≤ 100) (k : ∀ v : Int32, v.toInt = (20 + p.toInt) * 8 + f.toInt → K (some (.int v)) τ) : Cz E Y_Wh_slotOfThing [.int p, .int f] τ K := z_entry (by decide) (fun a => by rw [sl_len]; exact Nat.le_of_ble_eq_true rfl) rfl (run_Wh_slotOfThing hp hf k)
theorem run_Ju_slotOf {E : xV} {σ τ : zS} {K : zKt} {V T : List EntJ} {fl : Int} {x : Int64} (h : CsJ σ τ V T fl) (hw : 0 ≤ (σ.1 27 3).toInt ∧ (σ.1 27 3).toInt ≤ 19) (hth : 0 ≤ (σ.1 27 5).toInt ∧ (σ.1 27 5).toInt ≤ 39) (hx : 0 ≤ x.toInt ∧ x.toInt ≤ 15) (k : ∀ v : Int32, v.toInt = ((fsJ (σ.1 27 3).toInt (σ.1 27 5).toInt (c32 x.toInt) : Nat) : Int) → K (some (.int v)) τ) : Wz E Y_Ju_slotOf 0 [(0, .ref 27), (1, .long x)] [] τ K := by
  refine z_lload_n (f := 1) (i := 1) (q := 1) (pc' := 1) ⟨by decide +kernel, rfl⟩ rfl rfl ?_
  refine z_l2i (pc' := 2) ⟨by decide +kernel, rfl⟩ rfl ?_
  refine z_istore_n (f := 3) (i := 3) (pc' := 3) ⟨by decide +kernel, rfl⟩ rfl (by decide) rfl ?_
  show Wz E Y_Ju_slotOf 3 [(3, .int (Int64.toInt32 x)), (0, .ref 27), (1, .long x)] [] τ K
  refine z_iload_n (f := 3) (i := 3) (q := 0) (pc' := 4) ⟨by decide +kernel, rfl⟩ rfl rfl ?_
  refine z_bipush (i := 8) (v := 8) (pc' := 6) ⟨by decide +kernel, rfl⟩ (by decide) ?_
  refine z_icmp_ge (off := 14) (tgt := 20) (pc' := 9) ⟨by decide +kernel, by decide, rfl⟩ (fun h1 => ?_) (fun h1 => ?_)
  · refine z_aload_n (f := 0) (i := 0) (q := 1) (pc' := 21) ⟨by decide +kernel, rfl⟩ rfl rfl ?_
    refine w_geti (k := 27) (j := 5) (idx := 71) (pc' := 24) fxe_5_71 kfa_27_5 ⟨by decide +kernel, rfl⟩ ?_
    refine z_iload_n (f := 3) (i := 3) (q := 0) (pc' := 25) ⟨by decide +kernel, rfl⟩ rfl rfl ?_
    refine z_bipush (i := 8) (v := 8) (pc' := 27) ⟨by decide +kernel, rfl⟩ (by decide) ?_
    refine z_isub (pc' := 28) ⟨by decide +kernel, rfl⟩ ?_
    refine w_invS (Z := Y_Wh_slotOfThing) (idx := 176) (As := [.int (τ.1 27 5), .int ((Int64.toInt32 x) - 8)]) (rest := []) (pc' := 31) cl_5_176 rfl ⟨rfl, rfl⟩ ⟨⟨by decide, by decide⟩, rfl, rfl⟩ ⟨by decide +kernel, rfl⟩ rfl rfl (Nat.le_of_ble_eq_true rfl) rfl rfl ?_
    refine cz_Wh_slotOfThing (by rw [(cs_j h).2.1]; omega) (by have cv : (Int64.toInt32 x).toInt = x.toInt := (by rw [c32_v, c32_s hx]); have q := j_ge_t h1; have z8 : (8 : Int32).toInt = 8 := (by decide); rw [i32_sub (by omega), z8, cv]; omega) (fun v2 hv2 => ?_)
    show Wz E Y_Ju_slotOf 31 [(3, .int (Int64.toInt32 x)), (0, .ref 27), (1, .long x)] [.int v2] τ K
    refine z_iret (ty := .int) rfl rfl (by decide +kernel) ?_
    have z0L : (0 : Int64).toInt = 0 := by decide
    have z8 : (8 : Int32).toInt = 8 := by decide
    have gh1 := j_ge_t h1
    have cv : (Int64.toInt32 x).toInt = x.toInt := (by rw [c32_v, c32_s hx])
    rw [(cs_j h).2.1] at hv2
    exact k _ (by rw [c32_s hx]; exact sl_t hv2 (by rw [i32_sub (by omega), z8, cv]) (by omega) (by omega))
  · refine z_aload_n (f := 0) (i := 0) (q := 1) (pc' := 10) ⟨by decide +kernel, rfl⟩ rfl rfl ?_
    refine w_geti (k := 27) (j := 3) (idx := 51) (pc' := 13) fxe_5_51 kfa_27_3 ⟨by decide +kernel, rfl⟩ ?_
    refine z_iload_n (f := 3) (i := 3) (q := 0) (pc' := 14) ⟨by decide +kernel, rfl⟩ rfl rfl ?_
    refine w_invS (Z := Y_Wh_slotOfPerson) (idx := 173) (As := [.int (τ.1 27 3), .int (Int64.toInt32 x)]) (rest := []) (pc' := 17) cl_5_173 rfl ⟨rfl, rfl⟩ ⟨⟨by decide, by decide⟩, rfl, rfl⟩ ⟨by decide +kernel, rfl⟩ rfl rfl (Nat.le_of_ble_eq_true rfl) rfl rfl ?_
    refine cz_Wh_slotOfPerson (by rw [(cs_j h).1]; omega) (by have cv : (Int64.toInt32 x).toInt = x.toInt := (by rw [c32_v, c32_s hx]); have q := j_ge_f h1; have z8 : (8 : Int32).toInt = 8 := (by decide); omega) (fun v3 hv3 => ?_)
    show Wz E Y_Ju_slotOf 17 [(3, .int (Int64.toInt32 x)), (0, .ref 27), (1, .long x)] [.int v3] τ K
    refine z_goto (off := 14) (tgt := 31) (pc' := 20) ⟨by decide +kernel, by decide, rfl⟩ ?_
    refine z_iret (ty := .int) rfl rfl (by decide +kernel) ?_
    have z0L : (0 : Int64).toInt = 0 := by decide
    have z8 : (8 : Int32).toInt = 8 := by decide
    have gh1 := j_ge_f h1
    have cv : (Int64.toInt32 x).toInt = x.toInt := (by rw [c32_v, c32_s hx])
    rw [(cs_j h).1] at hv3
    exact k _ (by rw [c32_s hx]; exact sl_p hv3 cv (by omega) (by omega) (by omega))
theorem cz_Ju_slotOf {E : xV} {σ τ : zS} {K : zKt} {V T : List EntJ} {fl : Int} {x : Int64} (h : CsJ σ τ V T fl) (hw : 0 ≤ (σ.1 27 3).toInt ∧ (σ.1 27 3).toInt ≤ 19) (hth : 0 ≤ (σ.1 27 5).toInt ∧ (σ.1 27 5).toInt ≤ 39) (hx : 0 ≤ x.toInt ∧ x.toInt ≤ 15) (k : ∀ v : Int32, v.toInt = ((fsJ (σ.1 27 3).toInt (σ.1 27 5).toInt (c32 x.toInt) : Nat) : Int) → K (some (.int v)) τ) : Cz E Y_Ju_slotOf [.ref 27, .long x] τ K := z_entry (by decide) (fun a => by rw [sl_len]; exact Nat.le_of_ble_eq_true rfl) rfl (run_Ju_slotOf h hw hth hx k)
theorem run_Ju_loadItem {E : xV} {σ τ : zS} {K : zKt} {V T : List EntJ} {f : Int32} {v : Int64} {fn : Nat} (h : CsJ σ τ V T 0) (hl : V.length < 64) (hc : ∀ f : Nat, f < 480 → 0 ≤ (σ.1 8 f).toInt ∧ (σ.1 8 f).toInt ≤ 20) (hf : f.toInt = (fn : Int)) (hfn : fn < 480) (k : ∀ (τ' : zS) (o : Int32), OutV σ τ' (itC σ fn v.toInt) V T o → K (some (.int o)) τ') : Wz E Y_Ju_loadItem 0 [(0, .ref 27), (1, .int f), (2, .long v)] [] τ K := by
  refine z_aload_n (f := 0) (i := 0) (q := 0) (pc' := 1) ⟨by decide +kernel, rfl⟩ rfl rfl ?_
  refine w_getr (k := 27) (j := 0) (idx := 9) (pc' := 4) fxe_5_9 kfa_27_0 ⟨by decide +kernel, rfl⟩ ?_
  refine w_getr (k := 5) (j := 4) (idx := 187) (pc' := 7) fxe_5_187 kfa_5_4 ⟨by decide +kernel, rfl⟩ ?_
  refine z_iload_n (f := 1) (i := 1) (q := 1) (pc' := 8) ⟨by decide +kernel, rfl⟩ rfl rfl ?_
  refine w_iald (k := 7) (n := fn) (pc' := 9) kaa_7 (hf) (hfn) ⟨by decide +kernel, rfl⟩ ?_
  refine z_if_ne (off := 5) (tgt := 14) (pc' := 12) ⟨by decide +kernel, by decide, rfl⟩ (fun h1 => ?_) (fun h1 => ?_)
  · refine z_lload_n (f := 2) (i := 2) (q := 2) (pc' := 15) ⟨by decide +kernel, rfl⟩ rfl rfl ?_
    refine z_lconst (i := 0) (v := 0) (pc' := 16) ⟨by decide +kernel, rfl⟩ (by decide) ?_
    refine z_lcmp (pc' := 17) ⟨by decide +kernel, rfl⟩ ?_
    refine z_if_lt (off := 18) (tgt := 35) (pc' := 20) ⟨by decide +kernel, by decide, rfl⟩ (fun h2 => ?_) (fun h2 => ?_)
    · refine z_aload_n (f := 0) (i := 0) (q := 0) (pc' := 36) ⟨by decide +kernel, rfl⟩ rfl rfl ?_
      refine z_iconst (i := 2) (v := 2) (pc' := 37) ⟨by decide +kernel, rfl⟩ (by decide) ?_
      refine w_invV (Z := Y_Ju_failBy) (idx := 196) (kb := 27) (As := [.int 2]) (rest := []) (pc' := 40) cl_5_196 rfl ⟨rfl, rfl⟩ kfa_27_0 rfl ⟨⟨by decide, by decide⟩, rfl, rfl⟩ ⟨by decide +kernel, rfl⟩ rfl rfl (Nat.le_of_ble_eq_true rfl) rfl rfl ?_
      refine cz_Ju_failBy h (fun σ3 v3 hv3a hv3b => ?_)
      show Wz E Y_Ju_loadItem 40 [(0, .ref 27), (1, .int f), (2, .long v)] [.int v3] σ3 K
      refine z_iret (ty := .int) rfl rfl (by decide +kernel) ?_
      have z0L : (0 : Int64).toInt = 0 := by decide
      have z0 : (0 : Int32).toInt = 0 := by decide
      have gh1 := j_ne_t (y := 0) h1
      have gh2 := k_lt_t h2
      rw [(cs_s h fn).1] at gh1
      exact k _ _ (out_3 (itc_f (by omega) (by omega)) hv3a (by have e : (2 : Int32).toInt = 2 := (by decide); rw [e] at hv3b; exact hv3b))
    · refine z_lload_n (f := 2) (i := 2) (q := 2) (pc' := 21) ⟨by decide +kernel, rfl⟩ rfl rfl ?_
      refine z_aload_n (f := 0) (i := 0) (q := 0) (pc' := 22) ⟨by decide +kernel, rfl⟩ rfl rfl ?_
      refine w_getr (k := 27) (j := 0) (idx := 9) (pc' := 25) fxe_5_9 kfa_27_0 ⟨by decide +kernel, rfl⟩ ?_
      refine w_getr (k := 5) (j := 5) (idx := 190) (pc' := 28) fxe_5_190 kfa_5_5 ⟨by decide +kernel, rfl⟩ ?_
      refine z_iload_n (f := 1) (i := 1) (q := 1) (pc' := 29) ⟨by decide +kernel, rfl⟩ rfl rfl ?_
      refine w_iald (k := 8) (n := fn) (pc' := 30) kaa_8 (hf) (hfn) ⟨by decide +kernel, rfl⟩ ?_
      refine z_i2l (pc' := 31) ⟨by decide +kernel, rfl⟩ rfl ?_
      refine z_lcmp (pc' := 32) ⟨by decide +kernel, rfl⟩ ?_
      refine z_if_lt (off := 9) (tgt := 41) (pc' := 35) ⟨by decide +kernel, by decide, rfl⟩ (fun h4 => ?_) (fun h4 => ?_)
      · refine z_aload_n (f := 0) (i := 0) (q := 0) (pc' := 42) ⟨by decide +kernel, rfl⟩ rfl rfl ?_
        refine z_aload_n (f := 0) (i := 0) (q := 0) (pc' := 43) ⟨by decide +kernel, rfl⟩ rfl rfl ?_
        refine w_getr (k := 27) (j := 0) (idx := 9) (pc' := 46) fxe_5_9 kfa_27_0 ⟨by decide +kernel, rfl⟩ ?_
        refine w_getr (k := 5) (j := 4) (idx := 187) (pc' := 49) fxe_5_187 kfa_5_4 ⟨by decide +kernel, rfl⟩ ?_
        refine z_iload_n (f := 1) (i := 1) (q := 1) (pc' := 50) ⟨by decide +kernel, rfl⟩ rfl rfl ?_
        refine w_iald (k := 7) (n := fn) (pc' := 51) kaa_7 (hf) (hfn) ⟨by decide +kernel, rfl⟩ ?_
        refine z_iconst (i := 2) (v := 2) (pc' := 52) ⟨by decide +kernel, rfl⟩ (by decide) ?_
        refine z_icmp_ne (off := 7) (tgt := 59) (pc' := 55) ⟨by decide +kernel, by decide, rfl⟩ (fun h5 => ?_) (fun h5 => ?_)
        · refine z_iconst (i := 0) (v := 0) (pc' := 60) ⟨by decide +kernel, rfl⟩ (by decide) ?_
          refine z_aload_n (f := 0) (i := 0) (q := 0) (pc' := 61) ⟨by decide +kernel, rfl⟩ rfl rfl ?_
          refine w_getr (k := 27) (j := 0) (idx := 9) (pc' := 64) fxe_5_9 kfa_27_0 ⟨by decide +kernel, rfl⟩ ?_
          refine w_getr (k := 5) (j := 6) (idx := 199) (pc' := 67) fxe_5_199 kfa_5_6 ⟨by decide +kernel, rfl⟩ ?_
          refine z_iload_n (f := 1) (i := 1) (q := 1) (pc' := 68) ⟨by decide +kernel, rfl⟩ rfl rfl ?_
          refine z_bipush (i := 20) (v := 20) (pc' := 70) ⟨by decide +kernel, rfl⟩ (by decide) ?_
          refine z_imul (pc' := 71) ⟨by decide +kernel, rfl⟩ ?_
          refine z_lload_n (f := 2) (i := 2) (q := 2) (pc' := 72) ⟨by decide +kernel, rfl⟩ rfl rfl ?_
          refine z_l2i (pc' := 73) ⟨by decide +kernel, rfl⟩ rfl ?_
          refine z_iadd (pc' := 74) ⟨by decide +kernel, rfl⟩ ?_
          refine w_lald (k := 9) (n := (20 * fn + v.toInt.toNat)) (pc' := 75) kaa_9 (lx_a hf hfn (by have q1 := k_lt_f h2; have q2 := k_lt_t h4; have z0 : (0 : Int64).toInt = 0 := (by decide); rw [i2l_i, (cs_s h fn).2.1] at q2; have := hc fn hfn; omega)) (by have q1 := k_lt_f h2; have q2 := k_lt_t h4; have z0 : (0 : Int64).toInt = 0 := (by decide); rw [i2l_i, (cs_s h fn).2.1] at q2; have := hc fn hfn; omega) ⟨by decide +kernel, rfl⟩ ?_
          refine w_invV (Z := Y_Ju_pushValue) (idx := 179) (kb := 27) (As := [.int 0, .long (τ.2 9 (20 * fn + v.toInt.toNat))]) (rest := []) (pc' := 78) cl_5_179 rfl ⟨rfl, rfl⟩ kfa_27_0 rfl ⟨⟨by decide, by decide⟩, rfl, rfl⟩ ⟨by decide +kernel, rfl⟩ rfl rfl (Nat.le_of_ble_eq_true rfl) rfl rfl ?_
          refine cz_Ju_pushValue (c := 0) h hl (by decide) (fun σ6 v6 hv6a hv6b => ?_)
          show Wz E Y_Ju_loadItem 78 [(0, .ref 27), (1, .int f), (2, .long v)] [.int v6] σ6 K
          refine z_iret (ty := .int) rfl rfl (by decide +kernel) ?_
          have z0L : (0 : Int64).toInt = 0 := by decide
          have z0 : (0 : Int32).toInt = 0 := by decide
          have z2 : (2 : Int32).toInt = 2 := by decide
          have gh1 := j_ne_t (y := 0) h1
          have gh2 := k_lt_f h2
          have gh4 := k_lt_t h4
          have gh5 := j_ne_t h5
          rw [(cs_s h fn).1] at gh1
          rw [i2l_i, (cs_s h fn).2.1] at gh4
          rw [(cs_s h fn).1] at gh5
          rw [(cs_s h (20 * fn + v.toInt.toNat)).2.2.1] at hv6b
          exact k _ _ (out_4 (itc_0 (by omega) (by omega) (by omega)) (by first | exact Nat.zero_le 1 | exact Nat.le_refl 1) hv6a hv6b)
        · refine z_iconst (i := 1) (v := 1) (pc' := 56) ⟨by decide +kernel, rfl⟩ (by decide) ?_
          refine z_goto (off := 4) (tgt := 60) (pc' := 59) ⟨by decide +kernel, by decide, rfl⟩ ?_
          refine z_aload_n (f := 0) (i := 0) (q := 0) (pc' := 61) ⟨by decide +kernel, rfl⟩ rfl rfl ?_
          refine w_getr (k := 27) (j := 0) (idx := 9) (pc' := 64) fxe_5_9 kfa_27_0 ⟨by decide +kernel, rfl⟩ ?_
          refine w_getr (k := 5) (j := 6) (idx := 199) (pc' := 67) fxe_5_199 kfa_5_6 ⟨by decide +kernel, rfl⟩ ?_
          refine z_iload_n (f := 1) (i := 1) (q := 1) (pc' := 68) ⟨by decide +kernel, rfl⟩ rfl rfl ?_
          refine z_bipush (i := 20) (v := 20) (pc' := 70) ⟨by decide +kernel, rfl⟩ (by decide) ?_
          refine z_imul (pc' := 71) ⟨by decide +kernel, rfl⟩ ?_
          refine z_lload_n (f := 2) (i := 2) (q := 2) (pc' := 72) ⟨by decide +kernel, rfl⟩ rfl rfl ?_
          refine z_l2i (pc' := 73) ⟨by decide +kernel, rfl⟩ rfl ?_
          refine z_iadd (pc' := 74) ⟨by decide +kernel, rfl⟩ ?_
          refine w_lald (k := 9) (n := (20 * fn + v.toInt.toNat)) (pc' := 75) kaa_9 (lx_a hf hfn (by have q1 := k_lt_f h2; have q2 := k_lt_t h4; have z0 : (0 : Int64).toInt = 0 := (by decide); rw [i2l_i, (cs_s h fn).2.1] at q2; have := hc fn hfn; omega)) (by have q1 := k_lt_f h2; have q2 := k_lt_t h4; have z0 : (0 : Int64).toInt = 0 := (by decide); rw [i2l_i, (cs_s h fn).2.1] at q2; have := hc fn hfn; omega) ⟨by decide +kernel, rfl⟩ ?_
          refine w_invV (Z := Y_Ju_pushValue) (idx := 179) (kb := 27) (As := [.int 1, .long (τ.2 9 (20 * fn + v.toInt.toNat))]) (rest := []) (pc' := 78) cl_5_179 rfl ⟨rfl, rfl⟩ kfa_27_0 rfl ⟨⟨by decide, by decide⟩, rfl, rfl⟩ ⟨by decide +kernel, rfl⟩ rfl rfl (Nat.le_of_ble_eq_true rfl) rfl rfl ?_
          refine cz_Ju_pushValue (c := 1) h hl (by decide) (fun σ7 v7 hv7a hv7b => ?_)
          show Wz E Y_Ju_loadItem 78 [(0, .ref 27), (1, .int f), (2, .long v)] [.int v7] σ7 K
          refine z_iret (ty := .int) rfl rfl (by decide +kernel) ?_
          have z0L : (0 : Int64).toInt = 0 := by decide
          have z0 : (0 : Int32).toInt = 0 := by decide
          have z2 : (2 : Int32).toInt = 2 := by decide
          have gh1 := j_ne_t (y := 0) h1
          have gh2 := k_lt_f h2
          have gh4 := k_lt_t h4
          have gh5 := j_ne_f h5
          rw [(cs_s h fn).1] at gh1
          rw [i2l_i, (cs_s h fn).2.1] at gh4
          rw [(cs_s h fn).1] at gh5
          rw [(cs_s h (20 * fn + v.toInt.toNat)).2.2.1] at hv7b
          exact k _ _ (out_4 (itc_1 (by omega) (by omega) (by omega)) (by first | exact Nat.zero_le 1 | exact Nat.le_refl 1) hv7a hv7b)
      · refine z_aload_n (f := 0) (i := 0) (q := 0) (pc' := 36) ⟨by decide +kernel, rfl⟩ rfl rfl ?_
        refine z_iconst (i := 2) (v := 2) (pc' := 37) ⟨by decide +kernel, rfl⟩ (by decide) ?_
        refine w_invV (Z := Y_Ju_failBy) (idx := 196) (kb := 27) (As := [.int 2]) (rest := []) (pc' := 40) cl_5_196 rfl ⟨rfl, rfl⟩ kfa_27_0 rfl ⟨⟨by decide, by decide⟩, rfl, rfl⟩ ⟨by decide +kernel, rfl⟩ rfl rfl (Nat.le_of_ble_eq_true rfl) rfl rfl ?_
        refine cz_Ju_failBy h (fun σ8 v8 hv8a hv8b => ?_)
        show Wz E Y_Ju_loadItem 40 [(0, .ref 27), (1, .int f), (2, .long v)] [.int v8] σ8 K
        refine z_iret (ty := .int) rfl rfl (by decide +kernel) ?_
        have z0L : (0 : Int64).toInt = 0 := by decide
        have z0 : (0 : Int32).toInt = 0 := by decide
        have gh1 := j_ne_t (y := 0) h1
        have gh2 := k_lt_f h2
        have gh4 := k_lt_f h4
        rw [(cs_s h fn).1] at gh1
        rw [i2l_i, (cs_s h fn).2.1] at gh4
        exact k _ _ (out_3 (itc_f (by omega) (by omega)) hv8a (by have e : (2 : Int32).toInt = 2 := (by decide); rw [e] at hv8b; exact hv8b))
  · refine z_iconst (i := 2) (v := 2) (pc' := 13) ⟨by decide +kernel, rfl⟩ (by decide) ?_
    refine z_iret (ty := .int) rfl rfl (by decide +kernel) ?_
    have z0L : (0 : Int64).toInt = 0 := by decide
    have z0 : (0 : Int32).toInt = 0 := by decide
    have gh1 := j_ne_f (y := 0) h1
    rw [(cs_s h fn).1] at gh1
    exact k _ _ (out_2 (by rw [itc_u (by omega)]) (by decide) h)
theorem cz_Ju_loadItem {E : xV} {σ τ : zS} {K : zKt} {V T : List EntJ} {f : Int32} {v : Int64} {fn : Nat} (h : CsJ σ τ V T 0) (hl : V.length < 64) (hc : ∀ f : Nat, f < 480 → 0 ≤ (σ.1 8 f).toInt ∧ (σ.1 8 f).toInt ≤ 20) (hf : f.toInt = (fn : Int)) (hfn : fn < 480) (k : ∀ (τ' : zS) (o : Int32), OutV σ τ' (itC σ fn v.toInt) V T o → K (some (.int o)) τ') : Cz E Y_Ju_loadItem [.ref 27, .int f, .long v] τ K := z_entry (by decide) (fun a => by rw [sl_len]; exact Nat.le_of_ble_eq_true rfl) rfl (run_Ju_loadItem h hl hc hf hfn k)
theorem run_Ju_load_6 {E : xV} {σ τ : zS} {K : zKt} {W T : List EntJ} {op : Int32} {num : Int64} {c : Nat} {x : EntJ} {a : EntJ} (h : CsJ σ τ (a :: W) T 0) (hc6 : c = 6) (hX : x = onJ9 ((ECV σ).pa num.toInt) a) (hc : ∀ f : Nat, f < 480 → 0 ≤ (σ.1 8 f).toInt ∧ (σ.1 8 f).toInt ≤ 20) (hw : 0 ≤ (σ.1 27 3).toInt ∧ (σ.1 27 3).toInt ≤ 19) (hth : 0 ≤ (σ.1 27 5).toInt ∧ (σ.1 27 5).toInt ≤ 39) (hx : 4 ≤ c → 0 ≤ num.toInt ∧ num.toInt ≤ 15) (k : ∀ (τ' : zS) (o : Int32), OutV σ τ' (x) W T o → K (some (.int o)) τ') : Wz E Y_Ju_load 133 [(0, .ref 27), (1, .int op), (2, .long num)] [] τ K := by
  refine z_aload_n (f := 0) (i := 0) (q := 0) (pc' := 134) ⟨by decide +kernel, rfl⟩ rfl rfl ?_
  refine w_geti (k := 27) (j := 10) (idx := 130) (pc' := 137) fxe_5_130 kfa_27_10 ⟨by decide +kernel, rfl⟩ ?_
  refine z_iconst (i := 1) (v := 1) (pc' := 138) ⟨by decide +kernel, rfl⟩ (by decide) ?_
  refine z_icmp_ge (off := 5) (tgt := 143) (pc' := 141) ⟨by decide +kernel, by decide, rfl⟩ (fun h1 => ?_) (fun h1 => ?_)
  · refine z_aload_n (f := 0) (i := 0) (q := 0) (pc' := 144) ⟨by decide +kernel, rfl⟩ rfl rfl ?_
    refine z_dupr (pc' := 145) ⟨by decide +kernel, rfl⟩ ?_
    refine w_geti (k := 27) (j := 10) (idx := 130) (pc' := 148) fxe_5_130 kfa_27_10 ⟨by decide +kernel, rfl⟩ ?_
    refine z_iconst (i := 1) (v := 1) (pc' := 149) ⟨by decide +kernel, rfl⟩ (by decide) ?_
    refine z_isub (pc' := 150) ⟨by decide +kernel, rfl⟩ ?_
    refine w_puti (k := 27) (j := 10) (idx := 130) (pc' := 153) fxi_5_130 kfa_27_10 ⟨by decide +kernel, rfl⟩ ?_
    generalize hs2 : zI τ 27 10 ((τ.1 27 10) - 1) = σ2
    refine z_aload_n (f := 0) (i := 0) (q := 0) (pc' := 154) ⟨by decide +kernel, rfl⟩ rfl rfl ?_
    refine w_getr (k := 27) (j := 9) (idx := 27) (pc' := 157) fxe_5_27 kfa_27_9 ⟨by decide +kernel, rfl⟩ ?_
    refine z_aload_n (f := 0) (i := 0) (q := 0) (pc' := 158) ⟨by decide +kernel, rfl⟩ rfl rfl ?_
    refine w_geti (k := 27) (j := 10) (idx := 130) (pc' := 161) fxe_5_130 kfa_27_10 ⟨by decide +kernel, rfl⟩ ?_
    refine w_zald (k := 29) (n := W.length) (pc' := 162) kaa_29 ((cs_pop h hs2).1.2.1.1) ((cs_pop h hs2).2.2) ⟨by decide +kernel, rfl⟩ ?_
    refine z_if_eq (off := 11) (tgt := 173) (pc' := 165) ⟨by decide +kernel, by decide, rfl⟩ (fun h3 => ?_) (fun h3 => ?_)
    · refine z_aload_n (f := 0) (i := 0) (q := 0) (pc' := 174) ⟨by decide +kernel, rfl⟩ rfl rfl ?_
      refine z_aload_n (f := 0) (i := 0) (q := 0) (pc' := 175) ⟨by decide +kernel, rfl⟩ rfl rfl ?_
      refine z_lload_n (f := 2) (i := 2) (q := 2) (pc' := 176) ⟨by decide +kernel, rfl⟩ rfl rfl ?_
      refine w_invV (Z := Y_Ju_slotOf) (idx := 183) (kb := 27) (As := [.long num]) (rest := [.ref 27]) (pc' := 179) cl_5_183 rfl ⟨rfl, rfl⟩ kfa_27_0 rfl ⟨⟨by decide, by decide⟩, rfl, rfl⟩ ⟨by decide +kernel, rfl⟩ rfl rfl (Nat.le_of_ble_eq_true rfl) rfl rfl ?_
      refine cz_Ju_slotOf (cs_pop h hs2).1 hw hth (hx (by omega)) (fun v4 hv4 => ?_)
      show Wz E Y_Ju_load 179 [(0, .ref 27), (1, .int op), (2, .long num)] [.int v4, .ref 27] σ2 K
      refine z_aload_n (f := 0) (i := 0) (q := 0) (pc' := 180) ⟨by decide +kernel, rfl⟩ rfl rfl ?_
      refine w_getr (k := 27) (j := 8) (idx := 23) (pc' := 183) fxe_5_23 kfa_27_8 ⟨by decide +kernel, rfl⟩ ?_
      refine z_aload_n (f := 0) (i := 0) (q := 0) (pc' := 184) ⟨by decide +kernel, rfl⟩ rfl rfl ?_
      refine w_geti (k := 27) (j := 10) (idx := 130) (pc' := 187) fxe_5_130 kfa_27_10 ⟨by decide +kernel, rfl⟩ ?_
      refine w_lald (k := 28) (n := W.length) (pc' := 188) kaa_28 ((cs_pop h hs2).1.2.1.1) ((cs_pop h hs2).2.2) ⟨by decide +kernel, rfl⟩ ?_
      refine w_invV (Z := Y_Ju_loadItem) (idx := 193) (kb := 27) (As := [.int v4, .long (σ2.2 28 W.length)]) (rest := []) (pc' := 191) cl_5_193 rfl ⟨rfl, rfl⟩ kfa_27_0 rfl ⟨⟨by decide, by decide⟩, rfl, rfl⟩ ⟨by decide +kernel, rfl⟩ rfl rfl (Nat.le_of_ble_eq_true rfl) rfl rfl ?_
      refine cz_Ju_loadItem (cs_pop h hs2).1 (by have := (cs_pop h hs2).2.2; omega) hc hv4 (fs_lt hw hth (by rw [c32_s (hx (by omega))]; exact hx (by omega))) (fun σ5 v5 hv5 => ?_)
      show Wz E Y_Ju_load 191 [(0, .ref 27), (1, .int op), (2, .long num)] [.int v5] σ5 K
      refine z_iret (ty := .int) rfl rfl (by decide +kernel) ?_
      have z0L : (0 : Int64).toInt = 0 := by decide
      have z0 : (0 : Int32).toInt = 0 := by decide
      have z1 : (1 : Int32).toInt = 1 := by decide
      have gh1 := j_ge_t h1
      have gh3 := j_eq_t (y := 0) h3
      have p := (cs_pop h hs2).2.1
      rw [p.1.1] at gh3
      rw [p.1.2] at hv5
      exact k _ _ (by rw [hX, on_wh (by omega), ec_pa (fs_lt hw hth (by rw [c32_s (hx (by omega))]; exact hx (by omega))), pac_it (hc _ (fs_lt hw hth (by rw [c32_s (hx (by omega))]; exact hx (by omega)))).2]; exact hv5)
    · refine z_aload_n (f := 0) (i := 0) (q := 0) (pc' := 166) ⟨by decide +kernel, rfl⟩ rfl rfl ?_
      refine z_iconst (i := 4) (v := 4) (pc' := 167) ⟨by decide +kernel, rfl⟩ (by decide) ?_
      refine w_invV (Z := Y_Ju_failBy) (idx := 196) (kb := 27) (As := [.int 4]) (rest := []) (pc' := 170) cl_5_196 rfl ⟨rfl, rfl⟩ kfa_27_0 rfl ⟨⟨by decide, by decide⟩, rfl, rfl⟩ ⟨by decide +kernel, rfl⟩ rfl rfl (Nat.le_of_ble_eq_true rfl) rfl rfl ?_
      refine cz_Ju_failBy (cs_pop h hs2).1 (fun σ6 v6 hv6a hv6b => ?_)
      show Wz E Y_Ju_load 170 [(0, .ref 27), (1, .int op), (2, .long num)] [.int v6] σ6 K
      refine z_goto (off := 21) (tgt := 191) (pc' := 173) ⟨by decide +kernel, by decide, rfl⟩ ?_
      refine z_iret (ty := .int) rfl rfl (by decide +kernel) ?_
      have z0L : (0 : Int64).toInt = 0 := by decide
      have z0 : (0 : Int32).toInt = 0 := by decide
      have z1 : (1 : Int32).toInt = 1 := by decide
      have gh1 := j_ge_t h1
      have gh3 := j_eq_f (y := 0) h3
      have p := (cs_pop h hs2).2.1
      rw [p.1.1] at gh3
      exact k _ _ (out_3 (by rw [hX, on_re (by omega)]) hv6a (by have e : (4 : Int32).toInt = 4 := (by decide); rw [e] at hv6b; exact hv6b))
  · refine z_iconst (i := 3) (v := 3) (pc' := 142) ⟨by decide +kernel, rfl⟩ (by decide) ?_
    refine z_iret (ty := .int) rfl rfl (by decide +kernel) ?_
    have z0L : (0 : Int64).toInt = 0 := by decide
    have z1 : (1 : Int32).toInt = 1 := by decide
    have gh1 := j_ge_f h1
    exfalso
    have := h.2.1.1
    rw [List.length_cons] at this
    omega
theorem run_Ju_load {E : xV} {σ τ : zS} {K : zKt} {V W T : List EntJ} {op : Int32} {num : Int64} {c : Nat} {x : EntJ} (h : CsJ σ τ V T 0) (hop : op.toInt = (c : Int)) (hcop : cop9 (ECV σ) c num.toInt V = some (x, W)) (hc : ∀ f : Nat, f < 480 → 0 ≤ (σ.1 8 f).toInt ∧ (σ.1 8 f).toInt ≤ 20) (hw : 0 ≤ (σ.1 27 3).toInt ∧ (σ.1 27 3).toInt ≤ 19) (hth : 0 ≤ (σ.1 27 5).toInt ∧ (σ.1 27 5).toInt ≤ 39) (hn : 0 ≤ (σ.1 27 7).toInt ∧ (σ.1 27 7).toInt ≤ 1000000000) (ht : 0 ≤ (σ.1 27 6).toInt ∧ (σ.1 27 6).toInt ≤ 1000000000) (hx : 4 ≤ c → 0 ≤ num.toInt ∧ num.toInt ≤ 15) (hc7 : c < 7) (hl : W.length < 64) (k : ∀ (τ' : zS) (o : Int32), OutV σ τ' (x) W T o → K (some (.int o)) τ') : Wz E Y_Ju_load 0 [(0, .ref 27), (1, .int op), (2, .long num)] [] τ K := by
  refine z_iload_n (f := 1) (i := 1) (q := 1) (pc' := 1) ⟨by decide +kernel, rfl⟩ rfl rfl ?_
  by_cases h1 : Int32.toInt op = 0
  · refine z_tableIn (dflt := 132) (lo := 0) (hi := 5) (offs := #[39, 46, 53, 64, 80, 121]) (len := 39) (off := 39) (tgt := 40) (by decide +kernel) (by omega) (by omega) (by rw [h1]; rfl) (by decide) ?_
    refine z_aload_n (f := 0) (i := 0) (q := 0) (pc' := 41) ⟨by decide +kernel, rfl⟩ rfl rfl ?_
    refine z_iconst (i := 0) (v := 0) (pc' := 42) ⟨by decide +kernel, rfl⟩ (by decide) ?_
    refine z_lload_n (f := 2) (i := 2) (q := 2) (pc' := 43) ⟨by decide +kernel, rfl⟩ rfl rfl ?_
    refine w_invV (Z := Y_Ju_pushValue) (idx := 179) (kb := 27) (As := [.int 0, .long num]) (rest := []) (pc' := 46) cl_5_179 rfl ⟨rfl, rfl⟩ kfa_27_0 rfl ⟨⟨by decide, by decide⟩, rfl, rfl⟩ ⟨by decide +kernel, rfl⟩ rfl rfl (Nat.le_of_ble_eq_true rfl) rfl rfl ?_
    refine cz_Ju_pushValue (c := 0) h (by rw [← (cop_l hcop (by omega)).2]; exact hl) (by decide) (fun σ2 v2 hv2a hv2b => ?_)
    show Wz E Y_Ju_load 46 [(0, .ref 27), (1, .int op), (2, .long num)] [.int v2] σ2 K
    refine z_iret (ty := .int) rfl rfl (by decide +kernel) ?_
    have z0L : (0 : Int64).toInt = 0 := by decide
    obtain ⟨hx1, hW⟩ := cop_l hcop (by omega)
    subst hW
    exact k _ _ (out_4 (hx1.trans (by rw [ec_01 (by omega), show c = 0 by omega])) (by first | exact Nat.zero_le 1 | exact Nat.le_refl 1) hv2a hv2b)
  by_cases h3 : Int32.toInt op = 1
  · refine z_tableIn (dflt := 132) (lo := 0) (hi := 5) (offs := #[39, 46, 53, 64, 80, 121]) (len := 39) (off := 46) (tgt := 47) (by decide +kernel) (by omega) (by omega) (by rw [h3]; rfl) (by decide) ?_
    refine z_aload_n (f := 0) (i := 0) (q := 0) (pc' := 48) ⟨by decide +kernel, rfl⟩ rfl rfl ?_
    refine z_iconst (i := 1) (v := 1) (pc' := 49) ⟨by decide +kernel, rfl⟩ (by decide) ?_
    refine z_lload_n (f := 2) (i := 2) (q := 2) (pc' := 50) ⟨by decide +kernel, rfl⟩ rfl rfl ?_
    refine w_invV (Z := Y_Ju_pushValue) (idx := 179) (kb := 27) (As := [.int 1, .long num]) (rest := []) (pc' := 53) cl_5_179 rfl ⟨rfl, rfl⟩ kfa_27_0 rfl ⟨⟨by decide, by decide⟩, rfl, rfl⟩ ⟨by decide +kernel, rfl⟩ rfl rfl (Nat.le_of_ble_eq_true rfl) rfl rfl ?_
    refine cz_Ju_pushValue (c := 1) h (by rw [← (cop_l hcop (by omega)).2]; exact hl) (by decide) (fun σ4 v4 hv4a hv4b => ?_)
    show Wz E Y_Ju_load 53 [(0, .ref 27), (1, .int op), (2, .long num)] [.int v4] σ4 K
    refine z_iret (ty := .int) rfl rfl (by decide +kernel) ?_
    have z0L : (0 : Int64).toInt = 0 := by decide
    obtain ⟨hx1, hW⟩ := cop_l hcop (by omega)
    subst hW
    exact k _ _ (out_4 (hx1.trans (by rw [ec_01 (by omega), show c = 1 by omega])) (by first | exact Nat.zero_le 1 | exact Nat.le_refl 1) hv4a hv4b)
  by_cases h5 : Int32.toInt op = 2
  · refine z_tableIn (dflt := 132) (lo := 0) (hi := 5) (offs := #[39, 46, 53, 64, 80, 121]) (len := 39) (off := 53) (tgt := 54) (by decide +kernel) (by omega) (by omega) (by rw [h5]; rfl) (by decide) ?_
    refine z_aload_n (f := 0) (i := 0) (q := 0) (pc' := 55) ⟨by decide +kernel, rfl⟩ rfl rfl ?_
    refine z_iconst (i := 0) (v := 0) (pc' := 56) ⟨by decide +kernel, rfl⟩ (by decide) ?_
    refine z_aload_n (f := 0) (i := 0) (q := 0) (pc' := 57) ⟨by decide +kernel, rfl⟩ rfl rfl ?_
    refine w_geti (k := 27) (j := 6) (idx := 44) (pc' := 60) fxe_5_44 kfa_27_6 ⟨by decide +kernel, rfl⟩ ?_
    refine z_i2l (pc' := 61) ⟨by decide +kernel, rfl⟩ rfl ?_
    refine w_invV (Z := Y_Ju_pushValue) (idx := 179) (kb := 27) (As := [.int 0, .long (Int32.toInt64 (τ.1 27 6))]) (rest := []) (pc' := 64) cl_5_179 rfl ⟨rfl, rfl⟩ kfa_27_0 rfl ⟨⟨by decide, by decide⟩, rfl, rfl⟩ ⟨by decide +kernel, rfl⟩ rfl rfl (Nat.le_of_ble_eq_true rfl) rfl rfl ?_
    refine cz_Ju_pushValue (c := 0) h (by rw [← (cop_l hcop (by omega)).2]; exact hl) (by decide) (fun σ6 v6 hv6a hv6b => ?_)
    show Wz E Y_Ju_load 64 [(0, .ref 27), (1, .int op), (2, .long num)] [.int v6] σ6 K
    refine z_iret (ty := .int) rfl rfl (by decide +kernel) ?_
    have z0L : (0 : Int64).toInt = 0 := by decide
    obtain ⟨hx1, hW⟩ := cop_l hcop (by omega)
    subst hW
    rw [i2l_i, (cs_j h).2.2.1] at hv6b
    exact k _ _ (out_4 (hx1.trans (ec_2 (by omega))) (by first | exact Nat.zero_le 1 | exact Nat.le_refl 1) hv6a hv6b)
  by_cases h7 : Int32.toInt op = 3
  · refine z_tableIn (dflt := 132) (lo := 0) (hi := 5) (offs := #[39, 46, 53, 64, 80, 121]) (len := 39) (off := 64) (tgt := 65) (by decide +kernel) (by omega) (by omega) (by rw [h7]; rfl) (by decide) ?_
    refine z_aload_n (f := 0) (i := 0) (q := 0) (pc' := 66) ⟨by decide +kernel, rfl⟩ rfl rfl ?_
    refine z_iconst (i := 0) (v := 0) (pc' := 67) ⟨by decide +kernel, rfl⟩ (by decide) ?_
    refine z_aload_n (f := 0) (i := 0) (q := 0) (pc' := 68) ⟨by decide +kernel, rfl⟩ rfl rfl ?_
    refine w_geti (k := 27) (j := 7) (idx := 48) (pc' := 71) fxe_5_48 kfa_27_7 ⟨by decide +kernel, rfl⟩ ?_
    refine z_aload_n (f := 0) (i := 0) (q := 0) (pc' := 72) ⟨by decide +kernel, rfl⟩ rfl rfl ?_
    refine w_geti (k := 27) (j := 6) (idx := 44) (pc' := 75) fxe_5_44 kfa_27_6 ⟨by decide +kernel, rfl⟩ ?_
    refine z_isub (pc' := 76) ⟨by decide +kernel, rfl⟩ ?_
    refine z_i2l (pc' := 77) ⟨by decide +kernel, rfl⟩ rfl ?_
    refine w_invV (Z := Y_Ju_pushValue) (idx := 179) (kb := 27) (As := [.int 0, .long (Int32.toInt64 ((τ.1 27 7) - (τ.1 27 6)))]) (rest := []) (pc' := 80) cl_5_179 rfl ⟨rfl, rfl⟩ kfa_27_0 rfl ⟨⟨by decide, by decide⟩, rfl, rfl⟩ ⟨by decide +kernel, rfl⟩ rfl rfl (Nat.le_of_ble_eq_true rfl) rfl rfl ?_
    refine cz_Ju_pushValue (c := 0) h (by rw [← (cop_l hcop (by omega)).2]; exact hl) (by decide) (fun σ8 v8 hv8a hv8b => ?_)
    show Wz E Y_Ju_load 80 [(0, .ref 27), (1, .int op), (2, .long num)] [.int v8] σ8 K
    refine z_iret (ty := .int) rfl rfl (by decide +kernel) ?_
    have z0L : (0 : Int64).toInt = 0 := by decide
    obtain ⟨hx1, hW⟩ := cop_l hcop (by omega)
    subst hW
    rw [(cs_j h).2.2.1, (cs_j h).2.2.2, age_c hn ht] at hv8b
    exact k _ _ (out_4 (hx1.trans (ec_3 (by omega))) (by first | exact Nat.zero_le 1 | exact Nat.le_refl 1) hv8a hv8b)
  by_cases h9 : Int32.toInt op = 4
  · refine z_tableIn (dflt := 132) (lo := 0) (hi := 5) (offs := #[39, 46, 53, 64, 80, 121]) (len := 39) (off := 80) (tgt := 81) (by decide +kernel) (by omega) (by omega) (by rw [h9]; rfl) (by decide) ?_
    refine z_aload_n (f := 0) (i := 0) (q := 0) (pc' := 82) ⟨by decide +kernel, rfl⟩ rfl rfl ?_
    refine z_lload_n (f := 2) (i := 2) (q := 2) (pc' := 83) ⟨by decide +kernel, rfl⟩ rfl rfl ?_
    refine w_invV (Z := Y_Ju_slotOf) (idx := 183) (kb := 27) (As := [.long num]) (rest := []) (pc' := 86) cl_5_183 rfl ⟨rfl, rfl⟩ kfa_27_0 rfl ⟨⟨by decide, by decide⟩, rfl, rfl⟩ ⟨by decide +kernel, rfl⟩ rfl rfl (Nat.le_of_ble_eq_true rfl) rfl rfl ?_
    refine cz_Ju_slotOf h hw hth (hx (by omega)) (fun v10 hv10 => ?_)
    show Wz E Y_Ju_load 86 [(0, .ref 27), (1, .int op), (2, .long num)] [.int v10] τ K
    refine z_istore (i := 4) (pc' := 88) ⟨by decide +kernel, rfl⟩ (by decide) rfl ?_
    show Wz E Y_Ju_load 88 [(4, .int v10), (0, .ref 27), (1, .int op), (2, .long num)] [] τ K
    refine z_aload_n (f := 0) (i := 0) (q := 1) (pc' := 89) ⟨by decide +kernel, rfl⟩ rfl rfl ?_
    refine w_getr (k := 27) (j := 0) (idx := 9) (pc' := 92) fxe_5_9 kfa_27_0 ⟨by decide +kernel, rfl⟩ ?_
    refine w_getr (k := 5) (j := 4) (idx := 187) (pc' := 95) fxe_5_187 kfa_5_4 ⟨by decide +kernel, rfl⟩ ?_
    refine z_iload (i := 4) (q := 0) (pc' := 97) ⟨by decide +kernel, rfl⟩ rfl ?_
    refine w_iald (k := 7) (n := (fsJ (σ.1 27 3).toInt (σ.1 27 5).toInt (c32 num.toInt))) (pc' := 98) kaa_7 (hv10) (fs_lt hw hth (by rw [c32_s (hx (by omega))]; exact hx (by omega))) ⟨by decide +kernel, rfl⟩ ?_
    refine z_if_ne (off := 7) (tgt := 105) (pc' := 101) ⟨by decide +kernel, by decide, rfl⟩ (fun h11 => ?_) (fun h11 => ?_)
    · refine z_aload_n (f := 0) (i := 0) (q := 1) (pc' := 106) ⟨by decide +kernel, rfl⟩ rfl rfl ?_
      refine z_iconst (i := 0) (v := 0) (pc' := 107) ⟨by decide +kernel, rfl⟩ (by decide) ?_
      refine z_aload_n (f := 0) (i := 0) (q := 1) (pc' := 108) ⟨by decide +kernel, rfl⟩ rfl rfl ?_
      refine w_getr (k := 27) (j := 0) (idx := 9) (pc' := 111) fxe_5_9 kfa_27_0 ⟨by decide +kernel, rfl⟩ ?_
      refine w_getr (k := 5) (j := 5) (idx := 190) (pc' := 114) fxe_5_190 kfa_5_5 ⟨by decide +kernel, rfl⟩ ?_
      refine z_iload (i := 4) (q := 0) (pc' := 116) ⟨by decide +kernel, rfl⟩ rfl ?_
      refine w_iald (k := 8) (n := (fsJ (σ.1 27 3).toInt (σ.1 27 5).toInt (c32 num.toInt))) (pc' := 117) kaa_8 (hv10) (fs_lt hw hth (by rw [c32_s (hx (by omega))]; exact hx (by omega))) ⟨by decide +kernel, rfl⟩ ?_
      refine z_i2l (pc' := 118) ⟨by decide +kernel, rfl⟩ rfl ?_
      refine w_invV (Z := Y_Ju_pushValue) (idx := 179) (kb := 27) (As := [.int 0, .long (Int32.toInt64 (τ.1 8 (fsJ (σ.1 27 3).toInt (σ.1 27 5).toInt (c32 num.toInt))))]) (rest := []) (pc' := 121) cl_5_179 rfl ⟨rfl, rfl⟩ kfa_27_0 rfl ⟨⟨by decide, by decide⟩, rfl, rfl⟩ ⟨by decide +kernel, rfl⟩ rfl rfl (Nat.le_of_ble_eq_true rfl) rfl rfl ?_
      refine cz_Ju_pushValue (c := 0) h (by rw [← (cop_l hcop (by omega)).2]; exact hl) (by decide) (fun σ12 v12 hv12a hv12b => ?_)
      show Wz E Y_Ju_load 121 [(4, .int v10), (0, .ref 27), (1, .int op), (2, .long num)] [.int v12] σ12 K
      refine z_iret (ty := .int) rfl rfl (by decide +kernel) ?_
      have z0L : (0 : Int64).toInt = 0 := by decide
      have z0 : (0 : Int32).toInt = 0 := by decide
      have gh11 := j_ne_t (y := 0) h11
      obtain ⟨hx1, hW⟩ := cop_l hcop (by omega)
      subst hW
      rw [(cs_s h (fsJ (σ.1 27 3).toInt (σ.1 27 5).toInt (c32 num.toInt))).1] at gh11
      rw [i2l_i, (cs_s h (fsJ (σ.1 27 3).toInt (σ.1 27 5).toInt (c32 num.toInt))).2.1] at hv12b
      exact k _ _ (out_4 (hx1.trans (by rw [ec_4 (by omega) (fs_lt hw hth (by rw [c32_s (hx (by omega))]; exact hx (by omega))), if_neg (by omega)])) (by first | exact Nat.zero_le 1 | exact Nat.le_refl 1) hv12a hv12b)
    · refine z_iconst (i := 2) (v := 2) (pc' := 102) ⟨by decide +kernel, rfl⟩ (by decide) ?_
      refine z_goto (off := 19) (tgt := 121) (pc' := 105) ⟨by decide +kernel, by decide, rfl⟩ ?_
      refine z_iret (ty := .int) rfl rfl (by decide +kernel) ?_
      have z0L : (0 : Int64).toInt = 0 := by decide
      have z0 : (0 : Int32).toInt = 0 := by decide
      have gh11 := j_ne_f (y := 0) h11
      obtain ⟨hx1, hW⟩ := cop_l hcop (by omega)
      subst hW
      rw [(cs_s h (fsJ (σ.1 27 3).toInt (σ.1 27 5).toInt (c32 num.toInt))).1] at gh11
      exact k _ _ (out_2 (by rw [hx1, ec_4 (by omega) (fs_lt hw hth (by rw [c32_s (hx (by omega))]; exact hx (by omega))), if_pos (by omega)]) (by decide) h)
  by_cases h13 : Int32.toInt op = 5
  · refine z_tableIn (dflt := 132) (lo := 0) (hi := 5) (offs := #[39, 46, 53, 64, 80, 121]) (len := 39) (off := 121) (tgt := 122) (by decide +kernel) (by omega) (by omega) (by rw [h13]; rfl) (by decide) ?_
    refine z_aload_n (f := 0) (i := 0) (q := 0) (pc' := 123) ⟨by decide +kernel, rfl⟩ rfl rfl ?_
    refine z_aload_n (f := 0) (i := 0) (q := 0) (pc' := 124) ⟨by decide +kernel, rfl⟩ rfl rfl ?_
    refine z_lload_n (f := 2) (i := 2) (q := 2) (pc' := 125) ⟨by decide +kernel, rfl⟩ rfl rfl ?_
    refine w_invV (Z := Y_Ju_slotOf) (idx := 183) (kb := 27) (As := [.long num]) (rest := [.ref 27]) (pc' := 128) cl_5_183 rfl ⟨rfl, rfl⟩ kfa_27_0 rfl ⟨⟨by decide, by decide⟩, rfl, rfl⟩ ⟨by decide +kernel, rfl⟩ rfl rfl (Nat.le_of_ble_eq_true rfl) rfl rfl ?_
    refine cz_Ju_slotOf h hw hth (hx (by omega)) (fun v14 hv14 => ?_)
    show Wz E Y_Ju_load 128 [(0, .ref 27), (1, .int op), (2, .long num)] [.int v14, .ref 27] τ K
    refine z_lconst (i := 0) (v := 0) (pc' := 129) ⟨by decide +kernel, rfl⟩ (by decide) ?_
    refine w_invV (Z := Y_Ju_loadItem) (idx := 193) (kb := 27) (As := [.int v14, .long 0]) (rest := []) (pc' := 132) cl_5_193 rfl ⟨rfl, rfl⟩ kfa_27_0 rfl ⟨⟨by decide, by decide⟩, rfl, rfl⟩ ⟨by decide +kernel, rfl⟩ rfl rfl (Nat.le_of_ble_eq_true rfl) rfl rfl ?_
    refine cz_Ju_loadItem h (by rw [← (cop_l hcop (by omega)).2]; exact hl) hc hv14 (fs_lt hw hth (by rw [c32_s (hx (by omega))]; exact hx (by omega))) (fun σ15 v15 hv15 => ?_)
    show Wz E Y_Ju_load 132 [(0, .ref 27), (1, .int op), (2, .long num)] [.int v15] σ15 K
    refine z_iret (ty := .int) rfl rfl (by decide +kernel) ?_
    have z0L : (0 : Int64).toInt = 0 := by decide
    obtain ⟨hx1, hW⟩ := cop_l hcop (by omega)
    subst hW
    have z0 : (0 : Int64).toInt = 0 := by decide
    rw [z0] at hv15
    exact k _ _ (by rw [hx1, ec_5 (by omega) (fs_lt hw hth (by rw [c32_s (hx (by omega))]; exact hx (by omega)))]; exact hv15)
  refine z_tableOut (dflt := 132) (lo := 0) (hi := 5) (offs := #[39, 46, 53, 64, 80, 121]) (len := 39) (tgt := 133) (by decide +kernel) (by omega) (by decide) ?_
  have z0L : (0 : Int64).toInt = 0 := by decide
  obtain ⟨a, rfl, hX⟩ := cop_6 hcop (by omega)
  exact run_Ju_load_6 h (by omega) hX hc hw hth hx k
theorem cz_Ju_load {E : xV} {σ τ : zS} {K : zKt} {V W T : List EntJ} {op : Int32} {num : Int64} {c : Nat} {x : EntJ} (h : CsJ σ τ V T 0) (hop : op.toInt = (c : Int)) (hcop : cop9 (ECV σ) c num.toInt V = some (x, W)) (hc : ∀ f : Nat, f < 480 → 0 ≤ (σ.1 8 f).toInt ∧ (σ.1 8 f).toInt ≤ 20) (hw : 0 ≤ (σ.1 27 3).toInt ∧ (σ.1 27 3).toInt ≤ 19) (hth : 0 ≤ (σ.1 27 5).toInt ∧ (σ.1 27 5).toInt ≤ 39) (hn : 0 ≤ (σ.1 27 7).toInt ∧ (σ.1 27 7).toInt ≤ 1000000000) (ht : 0 ≤ (σ.1 27 6).toInt ∧ (σ.1 27 6).toInt ≤ 1000000000) (hx : 4 ≤ c → 0 ≤ num.toInt ∧ num.toInt ≤ 15) (hc7 : c < 7) (hl : W.length < 64) (k : ∀ (τ' : zS) (o : Int32), OutV σ τ' (x) W T o → K (some (.int o)) τ') : Cz E Y_Ju_load [.ref 27, .int op, .long num] τ K := z_entry (by decide) (fun a => by rw [sl_len]; exact Nat.le_of_ble_eq_true rfl) rfl (run_Ju_load h hop hcop hc hw hth hn ht hx hc7 hl k)
theorem run_Ju_calculateWholes {E : xV} {σ τ : zS} {K : zKt} {W T : List EntJ} {op : Int32} {a b : Int64} {c : Nat} {x y : EntJ} (h : CsJ σ τ W T 0) (hl : W.length < 64) (hop : op.toInt = (c : Int)) (p8 : 8 ≤ c) (p12 : c ≤ 12) (hz : x.1 = 0 ∧ y.1 = 0) (ha : a.toInt = x.2) (hb : b.toInt = y.2) (k : ∀ (τ' : zS) (o : Int32), OutV σ τ' (arJ c x y) W T o → K (some (.int o)) τ') : Wz E Y_Ju_calculateWholes 0 [(0, .ref 27), (1, .int op), (2, .long a), (4, .long b)] [] τ K := by
  refine z_iload_n (f := 1) (i := 1) (q := 1) (pc' := 1) ⟨by decide +kernel, rfl⟩ rfl rfl ?_
  by_cases h1 : Int32.toInt op = 8
  · refine z_tableIn (dflt := 57) (lo := 8) (hi := 10) (offs := #[27, 37, 47]) (len := 27) (off := 27) (tgt := 28) (by decide +kernel) (by omega) (by omega) (by rw [h1]; rfl) (by decide) ?_
    refine z_aload_n (f := 0) (i := 0) (q := 0) (pc' := 29) ⟨by decide +kernel, rfl⟩ rfl rfl ?_
    refine z_iconst (i := 0) (v := 0) (pc' := 30) ⟨by decide +kernel, rfl⟩ (by decide) ?_
    refine z_lload_n (f := 2) (i := 2) (q := 2) (pc' := 31) ⟨by decide +kernel, rfl⟩ rfl rfl ?_
    refine z_lload (i := 4) (q := 3) (pc' := 33) ⟨by decide +kernel, rfl⟩ rfl ?_
    refine z_ladd (pc' := 34) ⟨by decide +kernel, rfl⟩ ?_
    refine w_invV (Z := Y_Ju_pushValue) (idx := 179) (kb := 27) (As := [.int 0, .long (a + b)]) (rest := []) (pc' := 37) cl_5_179 rfl ⟨rfl, rfl⟩ kfa_27_0 rfl ⟨⟨by decide, by decide⟩, rfl, rfl⟩ ⟨by decide +kernel, rfl⟩ rfl rfl (Nat.le_of_ble_eq_true rfl) rfl rfl ?_
    refine cz_Ju_pushValue (c := 0) h hl (by decide) (fun σ2 v2 hv2a hv2b => ?_)
    show Wz E Y_Ju_calculateWholes 37 [(0, .ref 27), (1, .int op), (2, .long a), (4, .long b)] [.int v2] σ2 K
    refine z_iret (ty := .int) rfl rfl (by decide +kernel) ?_
    have z0L : (0 : Int64).toInt = 0 := by decide
    exact k _ _ (out_4 (ar_w hz (by omega) ha hb (wo_8 (by omega))).symm (by first | exact Nat.zero_le 1 | exact Nat.le_refl 1) hv2a hv2b)
  by_cases h3 : Int32.toInt op = 9
  · refine z_tableIn (dflt := 57) (lo := 8) (hi := 10) (offs := #[27, 37, 47]) (len := 27) (off := 37) (tgt := 38) (by decide +kernel) (by omega) (by omega) (by rw [h3]; rfl) (by decide) ?_
    refine z_aload_n (f := 0) (i := 0) (q := 0) (pc' := 39) ⟨by decide +kernel, rfl⟩ rfl rfl ?_
    refine z_iconst (i := 0) (v := 0) (pc' := 40) ⟨by decide +kernel, rfl⟩ (by decide) ?_
    refine z_lload_n (f := 2) (i := 2) (q := 2) (pc' := 41) ⟨by decide +kernel, rfl⟩ rfl rfl ?_
    refine z_lload (i := 4) (q := 3) (pc' := 43) ⟨by decide +kernel, rfl⟩ rfl ?_
    refine z_lsub (pc' := 44) ⟨by decide +kernel, rfl⟩ ?_
    refine w_invV (Z := Y_Ju_pushValue) (idx := 179) (kb := 27) (As := [.int 0, .long (a - b)]) (rest := []) (pc' := 47) cl_5_179 rfl ⟨rfl, rfl⟩ kfa_27_0 rfl ⟨⟨by decide, by decide⟩, rfl, rfl⟩ ⟨by decide +kernel, rfl⟩ rfl rfl (Nat.le_of_ble_eq_true rfl) rfl rfl ?_
    refine cz_Ju_pushValue (c := 0) h hl (by decide) (fun σ4 v4 hv4a hv4b => ?_)
    show Wz E Y_Ju_calculateWholes 47 [(0, .ref 27), (1, .int op), (2, .long a), (4, .long b)] [.int v4] σ4 K
    refine z_iret (ty := .int) rfl rfl (by decide +kernel) ?_
    have z0L : (0 : Int64).toInt = 0 := by decide
    exact k _ _ (out_4 (ar_w hz (by omega) ha hb (wo_9 (by omega))).symm (by first | exact Nat.zero_le 1 | exact Nat.le_refl 1) hv4a hv4b)
  by_cases h5 : Int32.toInt op = 10
  · refine z_tableIn (dflt := 57) (lo := 8) (hi := 10) (offs := #[27, 37, 47]) (len := 27) (off := 47) (tgt := 48) (by decide +kernel) (by omega) (by omega) (by rw [h5]; rfl) (by decide) ?_
    refine z_aload_n (f := 0) (i := 0) (q := 0) (pc' := 49) ⟨by decide +kernel, rfl⟩ rfl rfl ?_
    refine z_iconst (i := 0) (v := 0) (pc' := 50) ⟨by decide +kernel, rfl⟩ (by decide) ?_
    refine z_lload_n (f := 2) (i := 2) (q := 2) (pc' := 51) ⟨by decide +kernel, rfl⟩ rfl rfl ?_
    refine z_lload (i := 4) (q := 3) (pc' := 53) ⟨by decide +kernel, rfl⟩ rfl ?_
    refine z_lmul (pc' := 54) ⟨by decide +kernel, rfl⟩ ?_
    refine w_invV (Z := Y_Ju_pushValue) (idx := 179) (kb := 27) (As := [.int 0, .long (a * b)]) (rest := []) (pc' := 57) cl_5_179 rfl ⟨rfl, rfl⟩ kfa_27_0 rfl ⟨⟨by decide, by decide⟩, rfl, rfl⟩ ⟨by decide +kernel, rfl⟩ rfl rfl (Nat.le_of_ble_eq_true rfl) rfl rfl ?_
    refine cz_Ju_pushValue (c := 0) h hl (by decide) (fun σ6 v6 hv6a hv6b => ?_)
    show Wz E Y_Ju_calculateWholes 57 [(0, .ref 27), (1, .int op), (2, .long a), (4, .long b)] [.int v6] σ6 K
    refine z_iret (ty := .int) rfl rfl (by decide +kernel) ?_
    have z0L : (0 : Int64).toInt = 0 := by decide
    exact k _ _ (out_4 (ar_w hz (by omega) ha hb (wo_10 (by omega))).symm (by first | exact Nat.zero_le 1 | exact Nat.le_refl 1) hv6a hv6b)
  refine z_tableOut (dflt := 57) (lo := 8) (hi := 10) (offs := #[27, 37, 47]) (len := 27) (tgt := 58) (by decide +kernel) (by omega) (by decide) ?_
  refine z_lload (i := 4) (q := 3) (pc' := 60) ⟨by decide +kernel, rfl⟩ rfl ?_
  refine z_lconst (i := 0) (v := 0) (pc' := 61) ⟨by decide +kernel, rfl⟩ (by decide) ?_
  refine z_lcmp (pc' := 62) ⟨by decide +kernel, rfl⟩ ?_
  refine z_if_ne (off := 9) (tgt := 71) (pc' := 65) ⟨by decide +kernel, by decide, rfl⟩ (fun h7 => ?_) (fun h7 => ?_)
  · refine z_aload_n (f := 0) (i := 0) (q := 0) (pc' := 72) ⟨by decide +kernel, rfl⟩ rfl rfl ?_
    refine z_iconst (i := 0) (v := 0) (pc' := 73) ⟨by decide +kernel, rfl⟩ (by decide) ?_
    refine z_iload_n (f := 1) (i := 1) (q := 1) (pc' := 74) ⟨by decide +kernel, rfl⟩ rfl rfl ?_
    refine z_bipush (i := 11) (v := 11) (pc' := 76) ⟨by decide +kernel, rfl⟩ (by decide) ?_
    refine z_icmp_ne (off := 10) (tgt := 86) (pc' := 79) ⟨by decide +kernel, by decide, rfl⟩ (fun h8 => ?_) (fun h8 => ?_)
    · refine z_lload_n (f := 2) (i := 2) (q := 2) (pc' := 87) ⟨by decide +kernel, rfl⟩ rfl rfl ?_
      refine z_lload (i := 4) (q := 3) (pc' := 89) ⟨by decide +kernel, rfl⟩ rfl ?_
      refine z_lrem (pc' := 90) ⟨by decide +kernel, rfl⟩ (fun q => k_ne_t h7 (by rw [q])) ?_
      refine w_invV (Z := Y_Ju_pushValue) (idx := 179) (kb := 27) (As := [.int 0, .long (a - a / b * b)]) (rest := []) (pc' := 93) cl_5_179 rfl ⟨rfl, rfl⟩ kfa_27_0 rfl ⟨⟨by decide, by decide⟩, rfl, rfl⟩ ⟨by decide +kernel, rfl⟩ rfl rfl (Nat.le_of_ble_eq_true rfl) rfl rfl ?_
      refine cz_Ju_pushValue (c := 0) h hl (by decide) (fun σ9 v9 hv9a hv9b => ?_)
      show Wz E Y_Ju_calculateWholes 93 [(0, .ref 27), (1, .int op), (2, .long a), (4, .long b)] [.int v9] σ9 K
      refine z_iret (ty := .int) rfl rfl (by decide +kernel) ?_
      have z0L : (0 : Int64).toInt = 0 := by decide
      have z11 : (11 : Int32).toInt = 11 := by decide
      have gh7 := k_ne_t h7
      have gh8 := j_ne_t h8
      rw [hb, z0L] at gh7
      exact k _ _ (out_4 (ar_w hz (by omega) ha hb (wo_12 (by omega))).symm (by first | exact Nat.zero_le 1 | exact Nat.le_refl 1) hv9a hv9b)
    · refine z_lload_n (f := 2) (i := 2) (q := 2) (pc' := 80) ⟨by decide +kernel, rfl⟩ rfl rfl ?_
      refine z_lload (i := 4) (q := 3) (pc' := 82) ⟨by decide +kernel, rfl⟩ rfl ?_
      refine z_ldiv (pc' := 83) ⟨by decide +kernel, rfl⟩ (fun q => k_ne_t h7 (by rw [q])) ?_
      refine z_goto (off := 7) (tgt := 90) (pc' := 86) ⟨by decide +kernel, by decide, rfl⟩ ?_
      refine w_invV (Z := Y_Ju_pushValue) (idx := 179) (kb := 27) (As := [.int 0, .long (a / b)]) (rest := []) (pc' := 93) cl_5_179 rfl ⟨rfl, rfl⟩ kfa_27_0 rfl ⟨⟨by decide, by decide⟩, rfl, rfl⟩ ⟨by decide +kernel, rfl⟩ rfl rfl (Nat.le_of_ble_eq_true rfl) rfl rfl ?_
      refine cz_Ju_pushValue (c := 0) h hl (by decide) (fun σ10 v10 hv10a hv10b => ?_)
      show Wz E Y_Ju_calculateWholes 93 [(0, .ref 27), (1, .int op), (2, .long a), (4, .long b)] [.int v10] σ10 K
      refine z_iret (ty := .int) rfl rfl (by decide +kernel) ?_
      have z0L : (0 : Int64).toInt = 0 := by decide
      have z11 : (11 : Int32).toInt = 11 := by decide
      have gh7 := k_ne_t h7
      have gh8 := j_ne_f h8
      rw [hb, z0L] at gh7
      exact k _ _ (out_4 (ar_w hz (by omega) ha hb (wo_11 (by omega))).symm (by first | exact Nat.zero_le 1 | exact Nat.le_refl 1) hv10a hv10b)
  · refine z_aload_n (f := 0) (i := 0) (q := 0) (pc' := 66) ⟨by decide +kernel, rfl⟩ rfl rfl ?_
    refine z_iconst (i := 5) (v := 5) (pc' := 67) ⟨by decide +kernel, rfl⟩ (by decide) ?_
    refine w_invV (Z := Y_Ju_failBy) (idx := 196) (kb := 27) (As := [.int 5]) (rest := []) (pc' := 70) cl_5_196 rfl ⟨rfl, rfl⟩ kfa_27_0 rfl ⟨⟨by decide, by decide⟩, rfl, rfl⟩ ⟨by decide +kernel, rfl⟩ rfl rfl (Nat.le_of_ble_eq_true rfl) rfl rfl ?_
    refine cz_Ju_failBy h (fun σ11 v11 hv11a hv11b => ?_)
    show Wz E Y_Ju_calculateWholes 70 [(0, .ref 27), (1, .int op), (2, .long a), (4, .long b)] [.int v11] σ11 K
    refine z_iret (ty := .int) rfl rfl (by decide +kernel) ?_
    have z0L : (0 : Int64).toInt = 0 := by decide
    have gh7 := k_ne_f h7
    rw [hb, z0L] at gh7
    exact k _ _ (out_3 (ar_z hz (by omega) (by omega)) hv11a (by have e : (5 : Int32).toInt = 5 := (by decide); rw [e] at hv11b; exact hv11b))
theorem cz_Ju_calculateWholes {E : xV} {σ τ : zS} {K : zKt} {W T : List EntJ} {op : Int32} {a b : Int64} {c : Nat} {x y : EntJ} (h : CsJ σ τ W T 0) (hl : W.length < 64) (hop : op.toInt = (c : Int)) (p8 : 8 ≤ c) (p12 : c ≤ 12) (hz : x.1 = 0 ∧ y.1 = 0) (ha : a.toInt = x.2) (hb : b.toInt = y.2) (k : ∀ (τ' : zS) (o : Int32), OutV σ τ' (arJ c x y) W T o → K (some (.int o)) τ') : Cz E Y_Ju_calculateWholes [.ref 27, .int op, .long a, .long b] τ K := z_entry (by decide) (fun a => by rw [sl_len]; exact Nat.le_of_ble_eq_true rfl) rfl (run_Ju_calculateWholes h hl hop p8 p12 hz ha hb k)
theorem run_Ju_calculate_r {E : xV} {σ τ : zS} {K : zKt} {W T : List EntJ} {op : Int32} {a b : Int64} {c : Nat} {x y : EntJ} (h : CsJ σ τ W T 0) (hl : W.length < 64) (hop : op.toInt = (c : Int)) (p8 : 8 ≤ c) (p12 : c ≤ 12) (hz : ¬ (x.1 = 0 ∧ y.1 = 0)) (ha : a.toInt = rlJ x) (hb : b.toInt = rlJ y) (k : ∀ (τ' : zS) (o : Int32), OutV σ τ' (arJ c x y) W T o → K (some (.int o)) τ') : Wz E Y_Ju_calculate 182 [(4, .long b), (2, .long a), (0, .ref 27), (1, .int op)] [] τ K := by
  refine z_iload_n (f := 1) (i := 1) (q := 3) (pc' := 183) ⟨by decide +kernel, rfl⟩ rfl rfl ?_
  by_cases h1 : Int32.toInt op = 8
  · refine z_tableIn (dflt := 80) (lo := 8) (hi := 11) (offs := #[29, 41, 56, 68]) (len := 29) (off := 29) (tgt := 212) (by decide +kernel) (by omega) (by omega) (by rw [h1]; rfl) (by decide) ?_
    refine z_aload_n (f := 0) (i := 0) (q := 2) (pc' := 213) ⟨by decide +kernel, rfl⟩ rfl rfl ?_
    refine z_iconst (i := 1) (v := 1) (pc' := 214) ⟨by decide +kernel, rfl⟩ (by decide) ?_
    refine z_lload_n (f := 2) (i := 2) (q := 1) (pc' := 215) ⟨by decide +kernel, rfl⟩ rfl rfl ?_
    refine z_lload (i := 4) (q := 0) (pc' := 217) ⟨by decide +kernel, rfl⟩ rfl ?_
    refine w_invS (Z := Y_Re_plus) (idx := 215) (As := [.long a, .long b]) (rest := [.int 1, .ref 27]) (pc' := 220) cl_5_215 rfl ⟨rfl, rfl⟩ ⟨⟨by decide, by decide⟩, rfl, rfl⟩ ⟨by decide +kernel, rfl⟩ rfl rfl (Nat.le_of_ble_eq_true rfl) rfl rfl ?_
    refine cz_Re_plus (fun v2 hv2 => ?_)
    show Wz E Y_Ju_calculate 220 [(4, .long b), (2, .long a), (0, .ref 27), (1, .int op)] [.long v2, .int 1, .ref 27] τ K
    refine w_invV (Z := Y_Ju_pushValue) (idx := 179) (kb := 27) (As := [.int 1, .long v2]) (rest := []) (pc' := 223) cl_5_179 rfl ⟨rfl, rfl⟩ kfa_27_0 rfl ⟨⟨by decide, by decide⟩, rfl, rfl⟩ ⟨by decide +kernel, rfl⟩ rfl rfl (Nat.le_of_ble_eq_true rfl) rfl rfl ?_
    refine cz_Ju_pushValue (c := 1) h hl (by decide) (fun σ3 v3 hv3a hv3b => ?_)
    show Wz E Y_Ju_calculate 223 [(4, .long b), (2, .long a), (0, .ref 27), (1, .int op)] [.int v3] σ3 K
    refine z_iret (ty := .int) rfl rfl (by decide +kernel) ?_
    have z0L : (0 : Int64).toInt = 0 := by decide
    rw [ha, hb] at hv2
    exact k _ _ (out_4 (ar_r hz (ro_8 (by omega) hv2)).symm (by first | exact Nat.zero_le 1 | exact Nat.le_refl 1) hv3a hv3b)
  by_cases h4 : Int32.toInt op = 9
  · refine z_tableIn (dflt := 80) (lo := 8) (hi := 11) (offs := #[29, 41, 56, 68]) (len := 29) (off := 41) (tgt := 224) (by decide +kernel) (by omega) (by omega) (by rw [h4]; rfl) (by decide) ?_
    refine z_aload_n (f := 0) (i := 0) (q := 2) (pc' := 225) ⟨by decide +kernel, rfl⟩ rfl rfl ?_
    refine z_iconst (i := 1) (v := 1) (pc' := 226) ⟨by decide +kernel, rfl⟩ (by decide) ?_
    refine z_lload_n (f := 2) (i := 2) (q := 1) (pc' := 227) ⟨by decide +kernel, rfl⟩ rfl rfl ?_
    refine z_lload (i := 4) (q := 0) (pc' := 229) ⟨by decide +kernel, rfl⟩ rfl ?_
    refine w_invS (Z := Y_Re_negated) (idx := 202) (As := [.long b]) (rest := [.long a, .int 1, .ref 27]) (pc' := 232) cl_5_202 rfl ⟨rfl, rfl⟩ ⟨⟨by decide, by decide⟩, rfl, rfl⟩ ⟨by decide +kernel, rfl⟩ rfl rfl (Nat.le_of_ble_eq_true rfl) rfl rfl ?_
    refine cz_Re_negated (fun v5 hv5 => ?_)
    show Wz E Y_Ju_calculate 232 [(4, .long b), (2, .long a), (0, .ref 27), (1, .int op)] [.long v5, .long a, .int 1, .ref 27] τ K
    refine w_invS (Z := Y_Re_plus) (idx := 215) (As := [.long a, .long v5]) (rest := [.int 1, .ref 27]) (pc' := 235) cl_5_215 rfl ⟨rfl, rfl⟩ ⟨⟨by decide, by decide⟩, rfl, rfl⟩ ⟨by decide +kernel, rfl⟩ rfl rfl (Nat.le_of_ble_eq_true rfl) rfl rfl ?_
    refine cz_Re_plus (fun v6 hv6 => ?_)
    show Wz E Y_Ju_calculate 235 [(4, .long b), (2, .long a), (0, .ref 27), (1, .int op)] [.long v6, .int 1, .ref 27] τ K
    refine w_invV (Z := Y_Ju_pushValue) (idx := 179) (kb := 27) (As := [.int 1, .long v6]) (rest := []) (pc' := 238) cl_5_179 rfl ⟨rfl, rfl⟩ kfa_27_0 rfl ⟨⟨by decide, by decide⟩, rfl, rfl⟩ ⟨by decide +kernel, rfl⟩ rfl rfl (Nat.le_of_ble_eq_true rfl) rfl rfl ?_
    refine cz_Ju_pushValue (c := 1) h hl (by decide) (fun σ7 v7 hv7a hv7b => ?_)
    show Wz E Y_Ju_calculate 238 [(4, .long b), (2, .long a), (0, .ref 27), (1, .int op)] [.int v7] σ7 K
    refine z_iret (ty := .int) rfl rfl (by decide +kernel) ?_
    have z0L : (0 : Int64).toInt = 0 := by decide
    rw [hb] at hv5
    rw [ha] at hv6
    exact k _ _ (out_4 (ar_r hz (ro_9 (by omega) hv5 hv6)).symm (by first | exact Nat.zero_le 1 | exact Nat.le_refl 1) hv7a hv7b)
  by_cases h8 : Int32.toInt op = 10
  · refine z_tableIn (dflt := 80) (lo := 8) (hi := 11) (offs := #[29, 41, 56, 68]) (len := 29) (off := 56) (tgt := 239) (by decide +kernel) (by omega) (by omega) (by rw [h8]; rfl) (by decide) ?_
    refine z_aload_n (f := 0) (i := 0) (q := 2) (pc' := 240) ⟨by decide +kernel, rfl⟩ rfl rfl ?_
    refine z_iconst (i := 1) (v := 1) (pc' := 241) ⟨by decide +kernel, rfl⟩ (by decide) ?_
    refine z_lload_n (f := 2) (i := 2) (q := 1) (pc' := 242) ⟨by decide +kernel, rfl⟩ rfl rfl ?_
    refine z_lload (i := 4) (q := 0) (pc' := 244) ⟨by decide +kernel, rfl⟩ rfl ?_
    refine w_invS (Z := Y_Re_times) (idx := 219) (As := [.long a, .long b]) (rest := [.int 1, .ref 27]) (pc' := 247) cl_5_219 rfl ⟨rfl, rfl⟩ ⟨⟨by decide, by decide⟩, rfl, rfl⟩ ⟨by decide +kernel, rfl⟩ rfl rfl (Nat.le_of_ble_eq_true rfl) rfl rfl ?_
    refine cz_Re_times (fun v9 hv9 => ?_)
    show Wz E Y_Ju_calculate 247 [(4, .long b), (2, .long a), (0, .ref 27), (1, .int op)] [.long v9, .int 1, .ref 27] τ K
    refine w_invV (Z := Y_Ju_pushValue) (idx := 179) (kb := 27) (As := [.int 1, .long v9]) (rest := []) (pc' := 250) cl_5_179 rfl ⟨rfl, rfl⟩ kfa_27_0 rfl ⟨⟨by decide, by decide⟩, rfl, rfl⟩ ⟨by decide +kernel, rfl⟩ rfl rfl (Nat.le_of_ble_eq_true rfl) rfl rfl ?_
    refine cz_Ju_pushValue (c := 1) h hl (by decide) (fun σ10 v10 hv10a hv10b => ?_)
    show Wz E Y_Ju_calculate 250 [(4, .long b), (2, .long a), (0, .ref 27), (1, .int op)] [.int v10] σ10 K
    refine z_iret (ty := .int) rfl rfl (by decide +kernel) ?_
    have z0L : (0 : Int64).toInt = 0 := by decide
    rw [ha, hb] at hv9
    exact k _ _ (out_4 (ar_r hz (ro_10 (by omega) hv9)).symm (by first | exact Nat.zero_le 1 | exact Nat.le_refl 1) hv10a hv10b)
  by_cases h11 : Int32.toInt op = 11
  · refine z_tableIn (dflt := 80) (lo := 8) (hi := 11) (offs := #[29, 41, 56, 68]) (len := 29) (off := 68) (tgt := 251) (by decide +kernel) (by omega) (by omega) (by rw [h11]; rfl) (by decide) ?_
    refine z_aload_n (f := 0) (i := 0) (q := 2) (pc' := 252) ⟨by decide +kernel, rfl⟩ rfl rfl ?_
    refine z_iconst (i := 1) (v := 1) (pc' := 253) ⟨by decide +kernel, rfl⟩ (by decide) ?_
    refine z_lload_n (f := 2) (i := 2) (q := 1) (pc' := 254) ⟨by decide +kernel, rfl⟩ rfl rfl ?_
    refine z_lload (i := 4) (q := 0) (pc' := 256) ⟨by decide +kernel, rfl⟩ rfl ?_
    refine w_invS (Z := Y_Re_over) (idx := 222) (As := [.long a, .long b]) (rest := [.int 1, .ref 27]) (pc' := 259) cl_5_222 rfl ⟨rfl, rfl⟩ ⟨⟨by decide, by decide⟩, rfl, rfl⟩ ⟨by decide +kernel, rfl⟩ rfl rfl (Nat.le_of_ble_eq_true rfl) rfl rfl ?_
    refine cz_Re_over (fun v12 hv12 => ?_)
    show Wz E Y_Ju_calculate 259 [(4, .long b), (2, .long a), (0, .ref 27), (1, .int op)] [.long v12, .int 1, .ref 27] τ K
    refine w_invV (Z := Y_Ju_pushValue) (idx := 179) (kb := 27) (As := [.int 1, .long v12]) (rest := []) (pc' := 262) cl_5_179 rfl ⟨rfl, rfl⟩ kfa_27_0 rfl ⟨⟨by decide, by decide⟩, rfl, rfl⟩ ⟨by decide +kernel, rfl⟩ rfl rfl (Nat.le_of_ble_eq_true rfl) rfl rfl ?_
    refine cz_Ju_pushValue (c := 1) h hl (by decide) (fun σ13 v13 hv13a hv13b => ?_)
    show Wz E Y_Ju_calculate 262 [(4, .long b), (2, .long a), (0, .ref 27), (1, .int op)] [.int v13] σ13 K
    refine z_iret (ty := .int) rfl rfl (by decide +kernel) ?_
    have z0L : (0 : Int64).toInt = 0 := by decide
    rw [ha, hb] at hv12
    exact k _ _ (out_4 (ar_r hz (ro_11 (by omega) (hb ▸ (mg_u b).2.2) hv12)).symm (by first | exact Nat.zero_le 1 | exact Nat.le_refl 1) hv13a hv13b)
  refine z_tableOut (dflt := 80) (lo := 8) (hi := 11) (offs := #[29, 41, 56, 68]) (len := 29) (tgt := 263) (by decide +kernel) (by omega) (by decide) ?_
  refine z_aload_n (f := 0) (i := 0) (q := 2) (pc' := 264) ⟨by decide +kernel, rfl⟩ rfl rfl ?_
  refine z_iconst (i := 1) (v := 1) (pc' := 265) ⟨by decide +kernel, rfl⟩ (by decide) ?_
  refine z_lload_n (f := 2) (i := 2) (q := 1) (pc' := 266) ⟨by decide +kernel, rfl⟩ rfl rfl ?_
  refine z_lload (i := 4) (q := 0) (pc' := 268) ⟨by decide +kernel, rfl⟩ rfl ?_
  refine w_invS (Z := Y_Re_rest) (idx := 225) (As := [.long a, .long b]) (rest := [.int 1, .ref 27]) (pc' := 271) cl_5_225 rfl ⟨rfl, rfl⟩ ⟨⟨by decide, by decide⟩, rfl, rfl⟩ ⟨by decide +kernel, rfl⟩ rfl rfl (Nat.le_of_ble_eq_true rfl) rfl rfl ?_
  refine cz_Re_rest (fun v14 hv14 => ?_)
  show Wz E Y_Ju_calculate 271 [(4, .long b), (2, .long a), (0, .ref 27), (1, .int op)] [.long v14, .int 1, .ref 27] τ K
  refine w_invV (Z := Y_Ju_pushValue) (idx := 179) (kb := 27) (As := [.int 1, .long v14]) (rest := []) (pc' := 274) cl_5_179 rfl ⟨rfl, rfl⟩ kfa_27_0 rfl ⟨⟨by decide, by decide⟩, rfl, rfl⟩ ⟨by decide +kernel, rfl⟩ rfl rfl (Nat.le_of_ble_eq_true rfl) rfl rfl ?_
  refine cz_Ju_pushValue (c := 1) h hl (by decide) (fun σ15 v15 hv15a hv15b => ?_)
  show Wz E Y_Ju_calculate 274 [(4, .long b), (2, .long a), (0, .ref 27), (1, .int op)] [.int v15] σ15 K
  refine z_iret (ty := .int) rfl rfl (by decide +kernel) ?_
  have z0L : (0 : Int64).toInt = 0 := by decide
  rw [ha, hb] at hv14
  exact k _ _ (out_4 (ar_r hz (ro_12 (by omega) hv14)).symm (by first | exact Nat.zero_le 1 | exact Nat.le_refl 1) hv15a hv15b)
theorem run_Ju_calculate_2 {E : xV} {σ τ : zS} {K : zKt} {W T : List EntJ} {op : Int32} {c : Nat} {x y : EntJ} (h : CsJ σ τ (y :: x :: W) T 0) (hop : op.toInt = (c : Int)) (p8 : 8 ≤ c) (p12 : c ≤ 12) (k : ∀ (τ' : zS) (o : Int32), OutV σ τ' (arJ c x y) W T o → K (some (.int o)) τ') : Wz E Y_Ju_calculate 57 [(0, .ref 27), (1, .int op)] [] τ K := by
  refine z_aload_n (f := 0) (i := 0) (q := 0) (pc' := 58) ⟨by decide +kernel, rfl⟩ rfl rfl ?_
  refine w_geti (k := 27) (j := 10) (idx := 130) (pc' := 61) fxe_5_130 kfa_27_10 ⟨by decide +kernel, rfl⟩ ?_
  refine z_iconst (i := 2) (v := 2) (pc' := 62) ⟨by decide +kernel, rfl⟩ (by decide) ?_
  refine z_icmp_ge (off := 5) (tgt := 67) (pc' := 65) ⟨by decide +kernel, by decide, rfl⟩ (fun h1 => ?_) (fun h1 => ?_)
  · refine z_aload_n (f := 0) (i := 0) (q := 0) (pc' := 68) ⟨by decide +kernel, rfl⟩ rfl rfl ?_
    refine z_dupr (pc' := 69) ⟨by decide +kernel, rfl⟩ ?_
    refine w_geti (k := 27) (j := 10) (idx := 130) (pc' := 72) fxe_5_130 kfa_27_10 ⟨by decide +kernel, rfl⟩ ?_
    refine z_iconst (i := 2) (v := 2) (pc' := 73) ⟨by decide +kernel, rfl⟩ (by decide) ?_
    refine z_isub (pc' := 74) ⟨by decide +kernel, rfl⟩ ?_
    refine w_puti (k := 27) (j := 10) (idx := 130) (pc' := 77) fxi_5_130 kfa_27_10 ⟨by decide +kernel, rfl⟩ ?_
    generalize hs2 : zI τ 27 10 ((τ.1 27 10) - 2) = σ2
    refine z_aload_n (f := 0) (i := 0) (q := 0) (pc' := 78) ⟨by decide +kernel, rfl⟩ rfl rfl ?_
    refine w_getr (k := 27) (j := 8) (idx := 23) (pc' := 81) fxe_5_23 kfa_27_8 ⟨by decide +kernel, rfl⟩ ?_
    refine z_aload_n (f := 0) (i := 0) (q := 0) (pc' := 82) ⟨by decide +kernel, rfl⟩ rfl rfl ?_
    refine w_geti (k := 27) (j := 10) (idx := 130) (pc' := 85) fxe_5_130 kfa_27_10 ⟨by decide +kernel, rfl⟩ ?_
    refine w_lald (k := 28) (n := W.length) (pc' := 86) kaa_28 ((cs_pop2 h hs2).1.2.1.1) (by have := (cs_pop2 h hs2).2.2; omega) ⟨by decide +kernel, rfl⟩ ?_
    refine z_lstore_n (f := 2) (i := 2) (pc' := 87) ⟨by decide +kernel, rfl⟩ rfl (by decide) rfl ?_
    show Wz E Y_Ju_calculate 87 [(2, .long (σ2.2 28 W.length)), (0, .ref 27), (1, .int op)] [] σ2 K
    refine z_aload_n (f := 0) (i := 0) (q := 1) (pc' := 88) ⟨by decide +kernel, rfl⟩ rfl rfl ?_
    refine w_getr (k := 27) (j := 8) (idx := 23) (pc' := 91) fxe_5_23 kfa_27_8 ⟨by decide +kernel, rfl⟩ ?_
    refine z_aload_n (f := 0) (i := 0) (q := 1) (pc' := 92) ⟨by decide +kernel, rfl⟩ rfl rfl ?_
    refine w_geti (k := 27) (j := 10) (idx := 130) (pc' := 95) fxe_5_130 kfa_27_10 ⟨by decide +kernel, rfl⟩ ?_
    refine z_iconst (i := 1) (v := 1) (pc' := 96) ⟨by decide +kernel, rfl⟩ (by decide) ?_
    refine z_iadd (pc' := 97) ⟨by decide +kernel, rfl⟩ ?_
    refine w_lald (k := 28) (n := (W.length + 1)) (pc' := 98) kaa_28 ((cs_pop2 h hs2).t1) ((cs_pop2 h hs2).2.2) ⟨by decide +kernel, rfl⟩ ?_
    refine z_lstore (i := 4) (pc' := 100) ⟨by decide +kernel, rfl⟩ (by decide) rfl ?_
    show Wz E Y_Ju_calculate 100 [(4, .long (σ2.2 28 (W.length + 1))), (2, .long (σ2.2 28 W.length)), (0, .ref 27), (1, .int op)] [] σ2 K
    refine z_aload_n (f := 0) (i := 0) (q := 2) (pc' := 101) ⟨by decide +kernel, rfl⟩ rfl rfl ?_
    refine w_getr (k := 27) (j := 9) (idx := 27) (pc' := 104) fxe_5_27 kfa_27_9 ⟨by decide +kernel, rfl⟩ ?_
    refine z_aload_n (f := 0) (i := 0) (q := 2) (pc' := 105) ⟨by decide +kernel, rfl⟩ rfl rfl ?_
    refine w_geti (k := 27) (j := 10) (idx := 130) (pc' := 108) fxe_5_130 kfa_27_10 ⟨by decide +kernel, rfl⟩ ?_
    refine w_zald (k := 29) (n := W.length) (pc' := 109) kaa_29 ((cs_pop2 h hs2).1.2.1.1) (by have := (cs_pop2 h hs2).2.2; omega) ⟨by decide +kernel, rfl⟩ ?_
    refine z_if_ne (off := 26) (tgt := 135) (pc' := 112) ⟨by decide +kernel, by decide, rfl⟩ (fun h3 => ?_) (fun h3 => ?_)
    · refine z_aload_n (f := 0) (i := 0) (q := 2) (pc' := 136) ⟨by decide +kernel, rfl⟩ rfl rfl ?_
      refine w_getr (k := 27) (j := 9) (idx := 27) (pc' := 139) fxe_5_27 kfa_27_9 ⟨by decide +kernel, rfl⟩ ?_
      refine z_aload_n (f := 0) (i := 0) (q := 2) (pc' := 140) ⟨by decide +kernel, rfl⟩ rfl rfl ?_
      refine w_geti (k := 27) (j := 10) (idx := 130) (pc' := 143) fxe_5_130 kfa_27_10 ⟨by decide +kernel, rfl⟩ ?_
      refine w_zald (k := 29) (n := W.length) (pc' := 144) kaa_29 ((cs_pop2 h hs2).1.2.1.1) (by have := (cs_pop2 h hs2).2.2; omega) ⟨by decide +kernel, rfl⟩ ?_
      refine z_if_eq (off := 7) (tgt := 151) (pc' := 147) ⟨by decide +kernel, by decide, rfl⟩ (fun h4 => ?_) (fun h4 => ?_)
      · refine z_lload_n (f := 2) (i := 2) (q := 1) (pc' := 152) ⟨by decide +kernel, rfl⟩ rfl rfl ?_
        refine w_invS (Z := Y_Re_ofWhole) (idx := 212) (As := [.long (σ2.2 28 W.length)]) (rest := []) (pc' := 155) cl_5_212 rfl ⟨rfl, rfl⟩ ⟨⟨by decide, by decide⟩, rfl, rfl⟩ ⟨by decide +kernel, rfl⟩ rfl rfl (Nat.le_of_ble_eq_true rfl) rfl rfl ?_
        refine cz_Re_ofWhole (fun v5 hv5 => ?_)
        show Wz E Y_Ju_calculate 155 [(4, .long (σ2.2 28 (W.length + 1))), (2, .long (σ2.2 28 W.length)), (0, .ref 27), (1, .int op)] [.long v5] σ2 K
        refine z_lstore_n (f := 2) (i := 2) (pc' := 156) ⟨by decide +kernel, rfl⟩ rfl (by decide) rfl ?_
        show Wz E Y_Ju_calculate 156 [(2, .long v5), (4, .long (σ2.2 28 (W.length + 1))), (0, .ref 27), (1, .int op)] [] σ2 K
        refine z_aload_n (f := 0) (i := 0) (q := 2) (pc' := 157) ⟨by decide +kernel, rfl⟩ rfl rfl ?_
        refine w_getr (k := 27) (j := 9) (idx := 27) (pc' := 160) fxe_5_27 kfa_27_9 ⟨by decide +kernel, rfl⟩ ?_
        refine z_aload_n (f := 0) (i := 0) (q := 2) (pc' := 161) ⟨by decide +kernel, rfl⟩ rfl rfl ?_
        refine w_geti (k := 27) (j := 10) (idx := 130) (pc' := 164) fxe_5_130 kfa_27_10 ⟨by decide +kernel, rfl⟩ ?_
        refine z_iconst (i := 1) (v := 1) (pc' := 165) ⟨by decide +kernel, rfl⟩ (by decide) ?_
        refine z_iadd (pc' := 166) ⟨by decide +kernel, rfl⟩ ?_
        refine w_zald (k := 29) (n := (W.length + 1)) (pc' := 167) kaa_29 ((cs_pop2 h hs2).t1) ((cs_pop2 h hs2).2.2) ⟨by decide +kernel, rfl⟩ ?_
        refine z_if_eq (off := 8) (tgt := 175) (pc' := 170) ⟨by decide +kernel, by decide, rfl⟩ (fun h6 => ?_) (fun h6 => ?_)
        · refine z_lload (i := 4) (q := 1) (pc' := 177) ⟨by decide +kernel, rfl⟩ rfl ?_
          refine w_invS (Z := Y_Re_ofWhole) (idx := 212) (As := [.long (σ2.2 28 (W.length + 1))]) (rest := []) (pc' := 180) cl_5_212 rfl ⟨rfl, rfl⟩ ⟨⟨by decide, by decide⟩, rfl, rfl⟩ ⟨by decide +kernel, rfl⟩ rfl rfl (Nat.le_of_ble_eq_true rfl) rfl rfl ?_
          refine cz_Re_ofWhole (fun v7 hv7 => ?_)
          show Wz E Y_Ju_calculate 180 [(2, .long v5), (4, .long (σ2.2 28 (W.length + 1))), (0, .ref 27), (1, .int op)] [.long v7] σ2 K
          refine z_lstore (i := 4) (pc' := 182) ⟨by decide +kernel, rfl⟩ (by decide) rfl ?_
          show Wz E Y_Ju_calculate 182 [(4, .long v7), (2, .long v5), (0, .ref 27), (1, .int op)] [] σ2 K
          have z0L : (0 : Int64).toInt = 0 := by decide
          have z0 : (0 : Int32).toInt = 0 := by decide
          have z2 : (2 : Int32).toInt = 2 := by decide
          have gh1 := j_ge_t h1
          have gh3 := j_ne_t (y := 0) h3
          have gh4 := j_eq_t (y := 0) h4
          have gh6 := j_eq_t (y := 0) h6
          have p := (cs_pop2 h hs2).2.1
          rw [p.1.1] at gh3
          rw [p.1.1] at gh4
          rw [p.2.1.1] at gh6
          exact run_Ju_calculate_r (cs_pop2 h hs2).1 (by have := (cs_pop2 h hs2).2.2; omega) hop p8 p12 (by omega) (rl_0 (by omega) (p.1.2 ▸ hv5)) (rl_0 (by omega) (p.2.1.2 ▸ hv7)) k
        · refine z_lload (i := 4) (q := 1) (pc' := 172) ⟨by decide +kernel, rfl⟩ rfl ?_
          refine z_goto (off := 8) (tgt := 180) (pc' := 175) ⟨by decide +kernel, by decide, rfl⟩ ?_
          refine z_lstore (i := 4) (pc' := 182) ⟨by decide +kernel, rfl⟩ (by decide) rfl ?_
          show Wz E Y_Ju_calculate 182 [(4, .long (σ2.2 28 (W.length + 1))), (2, .long v5), (0, .ref 27), (1, .int op)] [] σ2 K
          have z0L : (0 : Int64).toInt = 0 := by decide
          have z0 : (0 : Int32).toInt = 0 := by decide
          have z2 : (2 : Int32).toInt = 2 := by decide
          have gh1 := j_ge_t h1
          have gh3 := j_ne_t (y := 0) h3
          have gh4 := j_eq_t (y := 0) h4
          have gh6 := j_eq_f (y := 0) h6
          have p := (cs_pop2 h hs2).2.1
          rw [p.1.1] at gh3
          rw [p.1.1] at gh4
          rw [p.2.1.1] at gh6
          exact run_Ju_calculate_r (cs_pop2 h hs2).1 (by have := (cs_pop2 h hs2).2.2; omega) hop p8 p12 (by omega) (rl_0 (by omega) (p.1.2 ▸ hv5)) (rl_1 (by omega) p.2.1.2) k
      · refine z_lload_n (f := 2) (i := 2) (q := 1) (pc' := 148) ⟨by decide +kernel, rfl⟩ rfl rfl ?_
        refine z_goto (off := 7) (tgt := 155) (pc' := 151) ⟨by decide +kernel, by decide, rfl⟩ ?_
        refine z_lstore_n (f := 2) (i := 2) (pc' := 156) ⟨by decide +kernel, rfl⟩ rfl (by decide) rfl ?_
        show Wz E Y_Ju_calculate 156 [(2, .long (σ2.2 28 W.length)), (4, .long (σ2.2 28 (W.length + 1))), (0, .ref 27), (1, .int op)] [] σ2 K
        refine z_aload_n (f := 0) (i := 0) (q := 2) (pc' := 157) ⟨by decide +kernel, rfl⟩ rfl rfl ?_
        refine w_getr (k := 27) (j := 9) (idx := 27) (pc' := 160) fxe_5_27 kfa_27_9 ⟨by decide +kernel, rfl⟩ ?_
        refine z_aload_n (f := 0) (i := 0) (q := 2) (pc' := 161) ⟨by decide +kernel, rfl⟩ rfl rfl ?_
        refine w_geti (k := 27) (j := 10) (idx := 130) (pc' := 164) fxe_5_130 kfa_27_10 ⟨by decide +kernel, rfl⟩ ?_
        refine z_iconst (i := 1) (v := 1) (pc' := 165) ⟨by decide +kernel, rfl⟩ (by decide) ?_
        refine z_iadd (pc' := 166) ⟨by decide +kernel, rfl⟩ ?_
        refine w_zald (k := 29) (n := (W.length + 1)) (pc' := 167) kaa_29 ((cs_pop2 h hs2).t1) ((cs_pop2 h hs2).2.2) ⟨by decide +kernel, rfl⟩ ?_
        refine z_if_eq (off := 8) (tgt := 175) (pc' := 170) ⟨by decide +kernel, by decide, rfl⟩ (fun h8 => ?_) (fun h8 => ?_)
        · refine z_lload (i := 4) (q := 1) (pc' := 177) ⟨by decide +kernel, rfl⟩ rfl ?_
          refine w_invS (Z := Y_Re_ofWhole) (idx := 212) (As := [.long (σ2.2 28 (W.length + 1))]) (rest := []) (pc' := 180) cl_5_212 rfl ⟨rfl, rfl⟩ ⟨⟨by decide, by decide⟩, rfl, rfl⟩ ⟨by decide +kernel, rfl⟩ rfl rfl (Nat.le_of_ble_eq_true rfl) rfl rfl ?_
          refine cz_Re_ofWhole (fun v9 hv9 => ?_)
          show Wz E Y_Ju_calculate 180 [(2, .long (σ2.2 28 W.length)), (4, .long (σ2.2 28 (W.length + 1))), (0, .ref 27), (1, .int op)] [.long v9] σ2 K
          refine z_lstore (i := 4) (pc' := 182) ⟨by decide +kernel, rfl⟩ (by decide) rfl ?_
          show Wz E Y_Ju_calculate 182 [(4, .long v9), (2, .long (σ2.2 28 W.length)), (0, .ref 27), (1, .int op)] [] σ2 K
          have z0L : (0 : Int64).toInt = 0 := by decide
          have z0 : (0 : Int32).toInt = 0 := by decide
          have z2 : (2 : Int32).toInt = 2 := by decide
          have gh1 := j_ge_t h1
          have gh3 := j_ne_t (y := 0) h3
          have gh4 := j_eq_f (y := 0) h4
          have gh8 := j_eq_t (y := 0) h8
          have p := (cs_pop2 h hs2).2.1
          rw [p.1.1] at gh3
          rw [p.1.1] at gh4
          rw [p.2.1.1] at gh8
          exact run_Ju_calculate_r (cs_pop2 h hs2).1 (by have := (cs_pop2 h hs2).2.2; omega) hop p8 p12 (by omega) (rl_1 (by omega) p.1.2) (rl_0 (by omega) (p.2.1.2 ▸ hv9)) k
        · refine z_lload (i := 4) (q := 1) (pc' := 172) ⟨by decide +kernel, rfl⟩ rfl ?_
          refine z_goto (off := 8) (tgt := 180) (pc' := 175) ⟨by decide +kernel, by decide, rfl⟩ ?_
          refine z_lstore (i := 4) (pc' := 182) ⟨by decide +kernel, rfl⟩ (by decide) rfl ?_
          show Wz E Y_Ju_calculate 182 [(4, .long (σ2.2 28 (W.length + 1))), (2, .long (σ2.2 28 W.length)), (0, .ref 27), (1, .int op)] [] σ2 K
          have z0L : (0 : Int64).toInt = 0 := by decide
          have z0 : (0 : Int32).toInt = 0 := by decide
          have z2 : (2 : Int32).toInt = 2 := by decide
          have gh1 := j_ge_t h1
          have gh3 := j_ne_t (y := 0) h3
          have gh4 := j_eq_f (y := 0) h4
          have gh8 := j_eq_f (y := 0) h8
          have p := (cs_pop2 h hs2).2.1
          rw [p.1.1] at gh3
          rw [p.1.1] at gh4
          rw [p.2.1.1] at gh8
          exact run_Ju_calculate_r (cs_pop2 h hs2).1 (by have := (cs_pop2 h hs2).2.2; omega) hop p8 p12 (by omega) (rl_1 (by omega) p.1.2) (rl_1 (by omega) p.2.1.2) k
    · refine z_aload_n (f := 0) (i := 0) (q := 2) (pc' := 113) ⟨by decide +kernel, rfl⟩ rfl rfl ?_
      refine w_getr (k := 27) (j := 9) (idx := 27) (pc' := 116) fxe_5_27 kfa_27_9 ⟨by decide +kernel, rfl⟩ ?_
      refine z_aload_n (f := 0) (i := 0) (q := 2) (pc' := 117) ⟨by decide +kernel, rfl⟩ rfl rfl ?_
      refine w_geti (k := 27) (j := 10) (idx := 130) (pc' := 120) fxe_5_130 kfa_27_10 ⟨by decide +kernel, rfl⟩ ?_
      refine z_iconst (i := 1) (v := 1) (pc' := 121) ⟨by decide +kernel, rfl⟩ (by decide) ?_
      refine z_iadd (pc' := 122) ⟨by decide +kernel, rfl⟩ ?_
      refine w_zald (k := 29) (n := (W.length + 1)) (pc' := 123) kaa_29 ((cs_pop2 h hs2).t1) ((cs_pop2 h hs2).2.2) ⟨by decide +kernel, rfl⟩ ?_
      refine z_if_ne (off := 12) (tgt := 135) (pc' := 126) ⟨by decide +kernel, by decide, rfl⟩ (fun h10 => ?_) (fun h10 => ?_)
      · refine z_aload_n (f := 0) (i := 0) (q := 2) (pc' := 136) ⟨by decide +kernel, rfl⟩ rfl rfl ?_
        refine w_getr (k := 27) (j := 9) (idx := 27) (pc' := 139) fxe_5_27 kfa_27_9 ⟨by decide +kernel, rfl⟩ ?_
        refine z_aload_n (f := 0) (i := 0) (q := 2) (pc' := 140) ⟨by decide +kernel, rfl⟩ rfl rfl ?_
        refine w_geti (k := 27) (j := 10) (idx := 130) (pc' := 143) fxe_5_130 kfa_27_10 ⟨by decide +kernel, rfl⟩ ?_
        refine w_zald (k := 29) (n := W.length) (pc' := 144) kaa_29 ((cs_pop2 h hs2).1.2.1.1) (by have := (cs_pop2 h hs2).2.2; omega) ⟨by decide +kernel, rfl⟩ ?_
        refine z_if_eq (off := 7) (tgt := 151) (pc' := 147) ⟨by decide +kernel, by decide, rfl⟩ (fun h11 => ?_) (fun h11 => ?_)
        · refine z_lload_n (f := 2) (i := 2) (q := 1) (pc' := 152) ⟨by decide +kernel, rfl⟩ rfl rfl ?_
          refine w_invS (Z := Y_Re_ofWhole) (idx := 212) (As := [.long (σ2.2 28 W.length)]) (rest := []) (pc' := 155) cl_5_212 rfl ⟨rfl, rfl⟩ ⟨⟨by decide, by decide⟩, rfl, rfl⟩ ⟨by decide +kernel, rfl⟩ rfl rfl (Nat.le_of_ble_eq_true rfl) rfl rfl ?_
          refine cz_Re_ofWhole (fun v12 hv12 => ?_)
          show Wz E Y_Ju_calculate 155 [(4, .long (σ2.2 28 (W.length + 1))), (2, .long (σ2.2 28 W.length)), (0, .ref 27), (1, .int op)] [.long v12] σ2 K
          refine z_lstore_n (f := 2) (i := 2) (pc' := 156) ⟨by decide +kernel, rfl⟩ rfl (by decide) rfl ?_
          show Wz E Y_Ju_calculate 156 [(2, .long v12), (4, .long (σ2.2 28 (W.length + 1))), (0, .ref 27), (1, .int op)] [] σ2 K
          refine z_aload_n (f := 0) (i := 0) (q := 2) (pc' := 157) ⟨by decide +kernel, rfl⟩ rfl rfl ?_
          refine w_getr (k := 27) (j := 9) (idx := 27) (pc' := 160) fxe_5_27 kfa_27_9 ⟨by decide +kernel, rfl⟩ ?_
          refine z_aload_n (f := 0) (i := 0) (q := 2) (pc' := 161) ⟨by decide +kernel, rfl⟩ rfl rfl ?_
          refine w_geti (k := 27) (j := 10) (idx := 130) (pc' := 164) fxe_5_130 kfa_27_10 ⟨by decide +kernel, rfl⟩ ?_
          refine z_iconst (i := 1) (v := 1) (pc' := 165) ⟨by decide +kernel, rfl⟩ (by decide) ?_
          refine z_iadd (pc' := 166) ⟨by decide +kernel, rfl⟩ ?_
          refine w_zald (k := 29) (n := (W.length + 1)) (pc' := 167) kaa_29 ((cs_pop2 h hs2).t1) ((cs_pop2 h hs2).2.2) ⟨by decide +kernel, rfl⟩ ?_
          refine z_if_eq (off := 8) (tgt := 175) (pc' := 170) ⟨by decide +kernel, by decide, rfl⟩ (fun h13 => ?_) (fun h13 => ?_)
          · refine z_lload (i := 4) (q := 1) (pc' := 177) ⟨by decide +kernel, rfl⟩ rfl ?_
            refine w_invS (Z := Y_Re_ofWhole) (idx := 212) (As := [.long (σ2.2 28 (W.length + 1))]) (rest := []) (pc' := 180) cl_5_212 rfl ⟨rfl, rfl⟩ ⟨⟨by decide, by decide⟩, rfl, rfl⟩ ⟨by decide +kernel, rfl⟩ rfl rfl (Nat.le_of_ble_eq_true rfl) rfl rfl ?_
            refine cz_Re_ofWhole (fun v14 hv14 => ?_)
            show Wz E Y_Ju_calculate 180 [(2, .long v12), (4, .long (σ2.2 28 (W.length + 1))), (0, .ref 27), (1, .int op)] [.long v14] σ2 K
            refine z_lstore (i := 4) (pc' := 182) ⟨by decide +kernel, rfl⟩ (by decide) rfl ?_
            show Wz E Y_Ju_calculate 182 [(4, .long v14), (2, .long v12), (0, .ref 27), (1, .int op)] [] σ2 K
            have z0L : (0 : Int64).toInt = 0 := by decide
            have z0 : (0 : Int32).toInt = 0 := by decide
            have z2 : (2 : Int32).toInt = 2 := by decide
            have gh1 := j_ge_t h1
            have gh3 := j_ne_f (y := 0) h3
            have gh10 := j_ne_t (y := 0) h10
            have gh11 := j_eq_t (y := 0) h11
            have gh13 := j_eq_t (y := 0) h13
            have p := (cs_pop2 h hs2).2.1
            rw [p.1.1] at gh3
            rw [p.1.1] at gh11
            rw [p.2.1.1] at gh10
            rw [p.2.1.1] at gh13
            exact run_Ju_calculate_r (cs_pop2 h hs2).1 (by have := (cs_pop2 h hs2).2.2; omega) hop p8 p12 (by omega) (rl_0 (by omega) (p.1.2 ▸ hv12)) (rl_0 (by omega) (p.2.1.2 ▸ hv14)) k
          · refine z_lload (i := 4) (q := 1) (pc' := 172) ⟨by decide +kernel, rfl⟩ rfl ?_
            refine z_goto (off := 8) (tgt := 180) (pc' := 175) ⟨by decide +kernel, by decide, rfl⟩ ?_
            refine z_lstore (i := 4) (pc' := 182) ⟨by decide +kernel, rfl⟩ (by decide) rfl ?_
            show Wz E Y_Ju_calculate 182 [(4, .long (σ2.2 28 (W.length + 1))), (2, .long v12), (0, .ref 27), (1, .int op)] [] σ2 K
            have z0L : (0 : Int64).toInt = 0 := by decide
            have z0 : (0 : Int32).toInt = 0 := by decide
            have z2 : (2 : Int32).toInt = 2 := by decide
            have gh1 := j_ge_t h1
            have gh3 := j_ne_f (y := 0) h3
            have gh10 := j_ne_t (y := 0) h10
            have gh11 := j_eq_t (y := 0) h11
            have gh13 := j_eq_f (y := 0) h13
            have p := (cs_pop2 h hs2).2.1
            rw [p.1.1] at gh3
            rw [p.1.1] at gh11
            rw [p.2.1.1] at gh10
            rw [p.2.1.1] at gh13
            exact run_Ju_calculate_r (cs_pop2 h hs2).1 (by have := (cs_pop2 h hs2).2.2; omega) hop p8 p12 (by omega) (rl_0 (by omega) (p.1.2 ▸ hv12)) (rl_1 (by omega) p.2.1.2) k
        · refine z_lload_n (f := 2) (i := 2) (q := 1) (pc' := 148) ⟨by decide +kernel, rfl⟩ rfl rfl ?_
          refine z_goto (off := 7) (tgt := 155) (pc' := 151) ⟨by decide +kernel, by decide, rfl⟩ ?_
          refine z_lstore_n (f := 2) (i := 2) (pc' := 156) ⟨by decide +kernel, rfl⟩ rfl (by decide) rfl ?_
          show Wz E Y_Ju_calculate 156 [(2, .long (σ2.2 28 W.length)), (4, .long (σ2.2 28 (W.length + 1))), (0, .ref 27), (1, .int op)] [] σ2 K
          refine z_aload_n (f := 0) (i := 0) (q := 2) (pc' := 157) ⟨by decide +kernel, rfl⟩ rfl rfl ?_
          refine w_getr (k := 27) (j := 9) (idx := 27) (pc' := 160) fxe_5_27 kfa_27_9 ⟨by decide +kernel, rfl⟩ ?_
          refine z_aload_n (f := 0) (i := 0) (q := 2) (pc' := 161) ⟨by decide +kernel, rfl⟩ rfl rfl ?_
          refine w_geti (k := 27) (j := 10) (idx := 130) (pc' := 164) fxe_5_130 kfa_27_10 ⟨by decide +kernel, rfl⟩ ?_
          refine z_iconst (i := 1) (v := 1) (pc' := 165) ⟨by decide +kernel, rfl⟩ (by decide) ?_
          refine z_iadd (pc' := 166) ⟨by decide +kernel, rfl⟩ ?_
          refine w_zald (k := 29) (n := (W.length + 1)) (pc' := 167) kaa_29 ((cs_pop2 h hs2).t1) ((cs_pop2 h hs2).2.2) ⟨by decide +kernel, rfl⟩ ?_
          refine z_if_eq (off := 8) (tgt := 175) (pc' := 170) ⟨by decide +kernel, by decide, rfl⟩ (fun h15 => ?_) (fun h15 => ?_)
          · refine z_lload (i := 4) (q := 1) (pc' := 177) ⟨by decide +kernel, rfl⟩ rfl ?_
            refine w_invS (Z := Y_Re_ofWhole) (idx := 212) (As := [.long (σ2.2 28 (W.length + 1))]) (rest := []) (pc' := 180) cl_5_212 rfl ⟨rfl, rfl⟩ ⟨⟨by decide, by decide⟩, rfl, rfl⟩ ⟨by decide +kernel, rfl⟩ rfl rfl (Nat.le_of_ble_eq_true rfl) rfl rfl ?_
            refine cz_Re_ofWhole (fun v16 hv16 => ?_)
            show Wz E Y_Ju_calculate 180 [(2, .long (σ2.2 28 W.length)), (4, .long (σ2.2 28 (W.length + 1))), (0, .ref 27), (1, .int op)] [.long v16] σ2 K
            refine z_lstore (i := 4) (pc' := 182) ⟨by decide +kernel, rfl⟩ (by decide) rfl ?_
            show Wz E Y_Ju_calculate 182 [(4, .long v16), (2, .long (σ2.2 28 W.length)), (0, .ref 27), (1, .int op)] [] σ2 K
            have z0L : (0 : Int64).toInt = 0 := by decide
            have z0 : (0 : Int32).toInt = 0 := by decide
            have z2 : (2 : Int32).toInt = 2 := by decide
            have gh1 := j_ge_t h1
            have gh3 := j_ne_f (y := 0) h3
            have gh10 := j_ne_t (y := 0) h10
            have gh11 := j_eq_f (y := 0) h11
            have gh15 := j_eq_t (y := 0) h15
            have p := (cs_pop2 h hs2).2.1
            rw [p.1.1] at gh3
            rw [p.1.1] at gh11
            rw [p.2.1.1] at gh10
            rw [p.2.1.1] at gh15
            exact run_Ju_calculate_r (cs_pop2 h hs2).1 (by have := (cs_pop2 h hs2).2.2; omega) hop p8 p12 (by omega) (rl_1 (by omega) p.1.2) (rl_0 (by omega) (p.2.1.2 ▸ hv16)) k
          · refine z_lload (i := 4) (q := 1) (pc' := 172) ⟨by decide +kernel, rfl⟩ rfl ?_
            refine z_goto (off := 8) (tgt := 180) (pc' := 175) ⟨by decide +kernel, by decide, rfl⟩ ?_
            refine z_lstore (i := 4) (pc' := 182) ⟨by decide +kernel, rfl⟩ (by decide) rfl ?_
            show Wz E Y_Ju_calculate 182 [(4, .long (σ2.2 28 (W.length + 1))), (2, .long (σ2.2 28 W.length)), (0, .ref 27), (1, .int op)] [] σ2 K
            have z0L : (0 : Int64).toInt = 0 := by decide
            have z0 : (0 : Int32).toInt = 0 := by decide
            have z2 : (2 : Int32).toInt = 2 := by decide
            have gh1 := j_ge_t h1
            have gh3 := j_ne_f (y := 0) h3
            have gh10 := j_ne_t (y := 0) h10
            have gh11 := j_eq_f (y := 0) h11
            have gh15 := j_eq_f (y := 0) h15
            have p := (cs_pop2 h hs2).2.1
            rw [p.1.1] at gh3
            rw [p.1.1] at gh11
            rw [p.2.1.1] at gh10
            rw [p.2.1.1] at gh15
            exact run_Ju_calculate_r (cs_pop2 h hs2).1 (by have := (cs_pop2 h hs2).2.2; omega) hop p8 p12 (by omega) (rl_1 (by omega) p.1.2) (rl_1 (by omega) p.2.1.2) k
      · refine z_aload_n (f := 0) (i := 0) (q := 2) (pc' := 127) ⟨by decide +kernel, rfl⟩ rfl rfl ?_
        refine z_iload_n (f := 1) (i := 1) (q := 3) (pc' := 128) ⟨by decide +kernel, rfl⟩ rfl rfl ?_
        refine z_lload_n (f := 2) (i := 2) (q := 1) (pc' := 129) ⟨by decide +kernel, rfl⟩ rfl rfl ?_
        refine z_lload (i := 4) (q := 0) (pc' := 131) ⟨by decide +kernel, rfl⟩ rfl ?_
        refine w_invV (Z := Y_Ju_calculateWholes) (idx := 208) (kb := 27) (As := [.int op, .long (σ2.2 28 W.length), .long (σ2.2 28 (W.length + 1))]) (rest := []) (pc' := 134) cl_5_208 rfl ⟨rfl, rfl⟩ kfa_27_0 rfl ⟨⟨by decide, by decide⟩, rfl, rfl⟩ ⟨by decide +kernel, rfl⟩ rfl rfl (Nat.le_of_ble_eq_true rfl) rfl rfl ?_
        refine cz_Ju_calculateWholes (cs_pop2 h hs2).1 (by have := (cs_pop2 h hs2).2.2; omega) hop p8 p12 (by have q := (cs_pop2 h hs2).2.1; have q1 := j_ne_f (y := 0) h3; have q2 := j_ne_f (y := 0) h10; have z0 : (0 : Int32).toInt = 0 := (by decide); rw [q.1.1] at q1; rw [q.2.1.1] at q2; omega) (cs_pop2 h hs2).2.1.1.2 (cs_pop2 h hs2).2.1.2.1.2 (fun σ17 v17 hv17 => ?_)
        show Wz E Y_Ju_calculate 134 [(4, .long (σ2.2 28 (W.length + 1))), (2, .long (σ2.2 28 W.length)), (0, .ref 27), (1, .int op)] [.int v17] σ17 K
        refine z_iret (ty := .int) rfl rfl (by decide +kernel) ?_
        have z0L : (0 : Int64).toInt = 0 := by decide
        have z0 : (0 : Int32).toInt = 0 := by decide
        have z2 : (2 : Int32).toInt = 2 := by decide
        have gh1 := j_ge_t h1
        have gh3 := j_ne_f (y := 0) h3
        have gh10 := j_ne_f (y := 0) h10
        exact k _ _ hv17
  · refine z_iconst (i := 3) (v := 3) (pc' := 66) ⟨by decide +kernel, rfl⟩ (by decide) ?_
    refine z_iret (ty := .int) rfl rfl (by decide +kernel) ?_
    have z0L : (0 : Int64).toInt = 0 := by decide
    have z2 : (2 : Int32).toInt = 2 := by decide
    have gh1 := j_ge_f h1
    exfalso
    have := h.2.1.1
    rw [List.length_cons, List.length_cons] at this
    omega
theorem run_Ju_calculate_1 {E : xV} {σ τ : zS} {K : zKt} {W T : List EntJ} {op : Int32} {x : EntJ} (h : CsJ σ τ (x :: W) T 0) (hop : op.toInt = 7) (k : ∀ (τ' : zS) (o : Int32), OutV σ τ' (ngJ x) W T o → K (some (.int o)) τ') : Wz E Y_Ju_calculate 0 [(0, .ref 27), (1, .int op)] [] τ K := by
  refine z_iload_n (f := 1) (i := 1) (q := 1) (pc' := 1) ⟨by decide +kernel, rfl⟩ rfl rfl ?_
  refine z_bipush (i := 7) (v := 7) (pc' := 3) ⟨by decide +kernel, rfl⟩ (by decide) ?_
  refine z_icmp_ne (off := 54) (tgt := 57) (pc' := 6) ⟨by decide +kernel, by decide, rfl⟩ (fun h1 => ?_) (fun h1 => ?_)
  · have z0L : (0 : Int64).toInt = 0 := by decide
    have z7 : (7 : Int32).toInt = 7 := by decide
    have gh1 := j_ne_t h1
    exfalso
    have := h.2.1.1
    rw [List.length_cons] at this
    omega
  · refine z_aload_n (f := 0) (i := 0) (q := 0) (pc' := 7) ⟨by decide +kernel, rfl⟩ rfl rfl ?_
    refine w_geti (k := 27) (j := 10) (idx := 130) (pc' := 10) fxe_5_130 kfa_27_10 ⟨by decide +kernel, rfl⟩ ?_
    refine z_iconst (i := 1) (v := 1) (pc' := 11) ⟨by decide +kernel, rfl⟩ (by decide) ?_
    refine z_icmp_lt (off := 46) (tgt := 57) (pc' := 14) ⟨by decide +kernel, by decide, rfl⟩ (fun h2 => ?_) (fun h2 => ?_)
    · have z0L : (0 : Int64).toInt = 0 := by decide
      have z1 : (1 : Int32).toInt = 1 := by decide
      have z7 : (7 : Int32).toInt = 7 := by decide
      have gh1 := j_ne_f h1
      have gh2 := j_lt_t h2
      exfalso
      have := h.2.1.1
      rw [List.length_cons] at this
      omega
    · refine z_aload_n (f := 0) (i := 0) (q := 0) (pc' := 15) ⟨by decide +kernel, rfl⟩ rfl rfl ?_
      refine w_geti (k := 27) (j := 10) (idx := 130) (pc' := 18) fxe_5_130 kfa_27_10 ⟨by decide +kernel, rfl⟩ ?_
      refine z_iconst (i := 1) (v := 1) (pc' := 19) ⟨by decide +kernel, rfl⟩ (by decide) ?_
      refine z_isub (pc' := 20) ⟨by decide +kernel, rfl⟩ ?_
      refine z_istore_n (f := 2) (i := 2) (pc' := 21) ⟨by decide +kernel, rfl⟩ rfl (by decide) rfl ?_
      show Wz E Y_Ju_calculate 21 [(2, .int ((τ.1 27 10) - 1)), (0, .ref 27), (1, .int op)] [] τ K
      refine z_aload_n (f := 0) (i := 0) (q := 1) (pc' := 22) ⟨by decide +kernel, rfl⟩ rfl rfl ?_
      refine w_getr (k := 27) (j := 8) (idx := 23) (pc' := 25) fxe_5_23 kfa_27_8 ⟨by decide +kernel, rfl⟩ ?_
      refine z_iload_n (f := 2) (i := 2) (q := 0) (pc' := 26) ⟨by decide +kernel, rfl⟩ rfl rfl ?_
      refine z_aload_n (f := 0) (i := 0) (q := 1) (pc' := 27) ⟨by decide +kernel, rfl⟩ rfl rfl ?_
      refine w_getr (k := 27) (j := 9) (idx := 27) (pc' := 30) fxe_5_27 kfa_27_9 ⟨by decide +kernel, rfl⟩ ?_
      refine z_iload_n (f := 2) (i := 2) (q := 0) (pc' := 31) ⟨by decide +kernel, rfl⟩ rfl rfl ?_
      refine w_zald (k := 29) (n := W.length) (pc' := 32) kaa_29 ((cs_top h).1) ((cs_top h).2.1) ⟨by decide +kernel, rfl⟩ ?_
      refine z_if_eq (off := 15) (tgt := 47) (pc' := 35) ⟨by decide +kernel, by decide, rfl⟩ (fun h3 => ?_) (fun h3 => ?_)
      · refine z_aload_n (f := 0) (i := 0) (q := 1) (pc' := 48) ⟨by decide +kernel, rfl⟩ rfl rfl ?_
        refine w_getr (k := 27) (j := 8) (idx := 23) (pc' := 51) fxe_5_23 kfa_27_8 ⟨by decide +kernel, rfl⟩ ?_
        refine z_iload_n (f := 2) (i := 2) (q := 0) (pc' := 52) ⟨by decide +kernel, rfl⟩ rfl rfl ?_
        refine w_lald (k := 28) (n := W.length) (pc' := 53) kaa_28 ((cs_top h).1) ((cs_top h).2.1) ⟨by decide +kernel, rfl⟩ ?_
        refine z_lneg (pc' := 54) ⟨by decide +kernel, rfl⟩ ?_
        refine w_last (k := 28) (n := W.length) (pc' := 55) kaa_28 ((cs_top h).1) ((cs_top h).2.1) ⟨by decide +kernel, rfl⟩ ?_
        generalize hs4 : zJ τ 28 W.length (-(τ.2 28 W.length)) = σ4
        refine z_iconst (i := 4) (v := 4) (pc' := 56) ⟨by decide +kernel, rfl⟩ (by decide) ?_
        refine z_iret (ty := .int) rfl rfl (by decide +kernel) ?_
        have z0L : (0 : Int64).toInt = 0 := by decide
        have z0 : (0 : Int32).toInt = 0 := by decide
        have z1 : (1 : Int32).toInt = 1 := by decide
        have z7 : (7 : Int32).toInt = 7 := by decide
        have gh1 := j_ne_f h1
        have gh2 := j_lt_f h2
        have gh3 := j_eq_t (y := 0) h3
        have p := cs_top h
        rw [p.2.2.1] at gh3
        exact k _ _ (out_4 (ng_0 (by omega) p.2.2.2.1) p.2.2.2.2 (by decide) (cs_setv h hs4))
      · refine z_aload_n (f := 0) (i := 0) (q := 1) (pc' := 36) ⟨by decide +kernel, rfl⟩ rfl rfl ?_
        refine w_getr (k := 27) (j := 8) (idx := 23) (pc' := 39) fxe_5_23 kfa_27_8 ⟨by decide +kernel, rfl⟩ ?_
        refine z_iload_n (f := 2) (i := 2) (q := 0) (pc' := 40) ⟨by decide +kernel, rfl⟩ rfl rfl ?_
        refine w_lald (k := 28) (n := W.length) (pc' := 41) kaa_28 ((cs_top h).1) ((cs_top h).2.1) ⟨by decide +kernel, rfl⟩ ?_
        refine w_invS (Z := Y_Re_negated) (idx := 202) (As := [.long (τ.2 28 W.length)]) (rest := [.int ((τ.1 27 10) - 1), .ref 28]) (pc' := 44) cl_5_202 rfl ⟨rfl, rfl⟩ ⟨⟨by decide, by decide⟩, rfl, rfl⟩ ⟨by decide +kernel, rfl⟩ rfl rfl (Nat.le_of_ble_eq_true rfl) rfl rfl ?_
        refine cz_Re_negated (fun v5 hv5 => ?_)
        show Wz E Y_Ju_calculate 44 [(2, .int ((τ.1 27 10) - 1)), (0, .ref 27), (1, .int op)] [.long v5, .int ((τ.1 27 10) - 1), .ref 28] τ K
        refine z_goto (off := 10) (tgt := 54) (pc' := 47) ⟨by decide +kernel, by decide, rfl⟩ ?_
        refine w_last (k := 28) (n := W.length) (pc' := 55) kaa_28 ((cs_top h).1) ((cs_top h).2.1) ⟨by decide +kernel, rfl⟩ ?_
        generalize hs6 : zJ τ 28 W.length v5 = σ6
        refine z_iconst (i := 4) (v := 4) (pc' := 56) ⟨by decide +kernel, rfl⟩ (by decide) ?_
        refine z_iret (ty := .int) rfl rfl (by decide +kernel) ?_
        have z0L : (0 : Int64).toInt = 0 := by decide
        have z0 : (0 : Int32).toInt = 0 := by decide
        have z1 : (1 : Int32).toInt = 1 := by decide
        have z7 : (7 : Int32).toInt = 7 := by decide
        have gh1 := j_ne_f h1
        have gh2 := j_lt_f h2
        have gh3 := j_eq_f (y := 0) h3
        have p := cs_top h
        rw [p.2.2.1] at gh3
        exact k _ _ (out_4 (ng_1 (by omega) (p.2.2.2.1 ▸ hv5)) p.2.2.2.2 (by decide) (cs_setv h hs6))
theorem cz_Ju_calculate {E : xV} {σ τ : zS} {K : zKt} {V W T : List EntJ} {op : Int32} {num : Int} {c : Nat} {x : EntJ} (h : CsJ σ τ V T 0) (hop : op.toInt = (c : Int)) (hcop : cop9 (ECV σ) c num V = some (x, W)) (h7 : 7 ≤ c) (h13 : c < 13) (k : ∀ (τ' : zS) (o : Int32), OutV σ τ' (x) W T o → K (some (.int o)) τ') : Cz E Y_Ju_calculate [.ref 27, .int op] τ K := by
  refine z_entry (by decide) (fun a => by rw [sl_len]; exact Nat.le_of_ble_eq_true rfl) rfl ?_
  show Wz E Y_Ju_calculate 0 [(0, .ref 27), (1, .int op)] [] τ K
  by_cases hc : c = 7
  · obtain ⟨a, rfl, rfl⟩ := cop_7 hcop hc
    exact run_Ju_calculate_1 h (by omega) k
  · obtain ⟨a, b, rfl, rfl⟩ := cop_8 hcop (by omega) h13
    refine z_iload_n (f := 1) (i := 1) (q := 1) (pc' := 1) ⟨by decide +kernel, rfl⟩ rfl rfl ?_
    refine z_bipush (i := 7) (v := 7) (pc' := 3) ⟨by decide +kernel, rfl⟩ (by decide) ?_
    have z7 : (7 : Int32).toInt = 7 := by decide
    refine z_icmp_ne (off := 54) (tgt := 57) (pc' := 6) ⟨by decide +kernel, by decide, rfl⟩ (fun _ => run_Ju_calculate_2 h hop (by omega) (by omega) k) (fun q => ?_)
    exact absurd (j_eq_t q) (by omega)
theorem run_Ju_isSo {E : xV} {τ : zS} {K : zKt} {op w : Int32} (hop : 13 ≤ op.toInt ∧ op.toInt ≤ 18) (k : ∀ v : Int32, (v = 1 ∧ soC op.toInt w.toInt) ∨ (v = 0 ∧ ¬ soC op.toInt w.toInt) → K (some (.int v)) τ) : Wz E Y_Ju_isSo 0 [(0, .int op), (1, .int w)] [] τ K := by
  refine z_iload_n (f := 1) (i := 1) (q := 1) (pc' := 1) ⟨by decide +kernel, rfl⟩ rfl rfl ?_
  refine z_iconst (i := 2) (v := 2) (pc' := 2) ⟨by decide +kernel, rfl⟩ (by decide) ?_
  refine z_icmp_ne (off := 15) (tgt := 17) (pc' := 5) ⟨by decide +kernel, by decide, rfl⟩ (fun h1 => ?_) (fun h1 => ?_)
  · refine z_iload_n (f := 0) (i := 0) (q := 0) (pc' := 18) ⟨by decide +kernel, rfl⟩ rfl rfl ?_
    by_cases h2 : Int32.toInt op = 13
    · refine z_tableIn (dflt := 84) (lo := 13) (hi := 17) (offs := #[34, 44, 54, 64, 74]) (len := 34) (off := 34) (tgt := 52) (by decide +kernel) (by omega) (by omega) (by rw [h2]; rfl) (by decide) ?_
      refine z_iload_n (f := 1) (i := 1) (q := 1) (pc' := 53) ⟨by decide +kernel, rfl⟩ rfl rfl ?_
      refine z_if_ge (off := 7) (tgt := 60) (pc' := 56) ⟨by decide +kernel, by decide, rfl⟩ (fun h3 => ?_) (fun h3 => ?_)
      · refine z_iconst (i := 0) (v := 0) (pc' := 61) ⟨by decide +kernel, rfl⟩ (by decide) ?_
        refine z_iret (ty := .boolean) rfl rfl (by decide +kernel) ?_
        have z0L : (0 : Int64).toInt = 0 := by decide
        have z0 : (0 : Int32).toInt = 0 := by decide
        have z2 : (2 : Int32).toInt = 2 := by decide
        have gh1 := j_ne_t h1
        have gh3 := j_ge_t (y := 0) h3
        exact k _ (Or.inr ⟨rfl, by omega⟩)
      · refine z_iconst (i := 1) (v := 1) (pc' := 57) ⟨by decide +kernel, rfl⟩ (by decide) ?_
        refine z_goto (off := 4) (tgt := 61) (pc' := 60) ⟨by decide +kernel, by decide, rfl⟩ ?_
        refine z_iret (ty := .boolean) rfl rfl (by decide +kernel) ?_
        have z0L : (0 : Int64).toInt = 0 := by decide
        have z0 : (0 : Int32).toInt = 0 := by decide
        have z2 : (2 : Int32).toInt = 2 := by decide
        have gh1 := j_ne_t h1
        have gh3 := j_ge_f (y := 0) h3
        exact k _ (Or.inl ⟨rfl, by omega⟩)
    by_cases h4 : Int32.toInt op = 14
    · refine z_tableIn (dflt := 84) (lo := 13) (hi := 17) (offs := #[34, 44, 54, 64, 74]) (len := 34) (off := 44) (tgt := 62) (by decide +kernel) (by omega) (by omega) (by rw [h4]; rfl) (by decide) ?_
      refine z_iload_n (f := 1) (i := 1) (q := 1) (pc' := 63) ⟨by decide +kernel, rfl⟩ rfl rfl ?_
      refine z_if_gt (off := 7) (tgt := 70) (pc' := 66) ⟨by decide +kernel, by decide, rfl⟩ (fun h5 => ?_) (fun h5 => ?_)
      · refine z_iconst (i := 0) (v := 0) (pc' := 71) ⟨by decide +kernel, rfl⟩ (by decide) ?_
        refine z_iret (ty := .boolean) rfl rfl (by decide +kernel) ?_
        have z0L : (0 : Int64).toInt = 0 := by decide
        have z0 : (0 : Int32).toInt = 0 := by decide
        have z2 : (2 : Int32).toInt = 2 := by decide
        have gh1 := j_ne_t h1
        have gh5 := j_gt_t (y := 0) h5
        exact k _ (Or.inr ⟨rfl, by omega⟩)
      · refine z_iconst (i := 1) (v := 1) (pc' := 67) ⟨by decide +kernel, rfl⟩ (by decide) ?_
        refine z_goto (off := 4) (tgt := 71) (pc' := 70) ⟨by decide +kernel, by decide, rfl⟩ ?_
        refine z_iret (ty := .boolean) rfl rfl (by decide +kernel) ?_
        have z0L : (0 : Int64).toInt = 0 := by decide
        have z0 : (0 : Int32).toInt = 0 := by decide
        have z2 : (2 : Int32).toInt = 2 := by decide
        have gh1 := j_ne_t h1
        have gh5 := j_gt_f (y := 0) h5
        exact k _ (Or.inl ⟨rfl, by omega⟩)
    by_cases h6 : Int32.toInt op = 15
    · refine z_tableIn (dflt := 84) (lo := 13) (hi := 17) (offs := #[34, 44, 54, 64, 74]) (len := 34) (off := 54) (tgt := 72) (by decide +kernel) (by omega) (by omega) (by rw [h6]; rfl) (by decide) ?_
      refine z_iload_n (f := 1) (i := 1) (q := 1) (pc' := 73) ⟨by decide +kernel, rfl⟩ rfl rfl ?_
      refine z_if_ne (off := 7) (tgt := 80) (pc' := 76) ⟨by decide +kernel, by decide, rfl⟩ (fun h7 => ?_) (fun h7 => ?_)
      · refine z_iconst (i := 0) (v := 0) (pc' := 81) ⟨by decide +kernel, rfl⟩ (by decide) ?_
        refine z_iret (ty := .boolean) rfl rfl (by decide +kernel) ?_
        have z0L : (0 : Int64).toInt = 0 := by decide
        have z0 : (0 : Int32).toInt = 0 := by decide
        have z2 : (2 : Int32).toInt = 2 := by decide
        have gh1 := j_ne_t h1
        have gh7 := j_ne_t (y := 0) h7
        exact k _ (Or.inr ⟨rfl, by omega⟩)
      · refine z_iconst (i := 1) (v := 1) (pc' := 77) ⟨by decide +kernel, rfl⟩ (by decide) ?_
        refine z_goto (off := 4) (tgt := 81) (pc' := 80) ⟨by decide +kernel, by decide, rfl⟩ ?_
        refine z_iret (ty := .boolean) rfl rfl (by decide +kernel) ?_
        have z0L : (0 : Int64).toInt = 0 := by decide
        have z0 : (0 : Int32).toInt = 0 := by decide
        have z2 : (2 : Int32).toInt = 2 := by decide
        have gh1 := j_ne_t h1
        have gh7 := j_ne_f (y := 0) h7
        exact k _ (Or.inl ⟨rfl, by omega⟩)
    by_cases h8 : Int32.toInt op = 16
    · refine z_tableIn (dflt := 84) (lo := 13) (hi := 17) (offs := #[34, 44, 54, 64, 74]) (len := 34) (off := 64) (tgt := 82) (by decide +kernel) (by omega) (by omega) (by rw [h8]; rfl) (by decide) ?_
      refine z_iload_n (f := 1) (i := 1) (q := 1) (pc' := 83) ⟨by decide +kernel, rfl⟩ rfl rfl ?_
      refine z_if_eq (off := 7) (tgt := 90) (pc' := 86) ⟨by decide +kernel, by decide, rfl⟩ (fun h9 => ?_) (fun h9 => ?_)
      · refine z_iconst (i := 0) (v := 0) (pc' := 91) ⟨by decide +kernel, rfl⟩ (by decide) ?_
        refine z_iret (ty := .boolean) rfl rfl (by decide +kernel) ?_
        have z0L : (0 : Int64).toInt = 0 := by decide
        have z0 : (0 : Int32).toInt = 0 := by decide
        have z2 : (2 : Int32).toInt = 2 := by decide
        have gh1 := j_ne_t h1
        have gh9 := j_eq_t (y := 0) h9
        exact k _ (Or.inr ⟨rfl, by omega⟩)
      · refine z_iconst (i := 1) (v := 1) (pc' := 87) ⟨by decide +kernel, rfl⟩ (by decide) ?_
        refine z_goto (off := 4) (tgt := 91) (pc' := 90) ⟨by decide +kernel, by decide, rfl⟩ ?_
        refine z_iret (ty := .boolean) rfl rfl (by decide +kernel) ?_
        have z0L : (0 : Int64).toInt = 0 := by decide
        have z0 : (0 : Int32).toInt = 0 := by decide
        have z2 : (2 : Int32).toInt = 2 := by decide
        have gh1 := j_ne_t h1
        have gh9 := j_eq_f (y := 0) h9
        exact k _ (Or.inl ⟨rfl, by omega⟩)
    by_cases h10 : Int32.toInt op = 17
    · refine z_tableIn (dflt := 84) (lo := 13) (hi := 17) (offs := #[34, 44, 54, 64, 74]) (len := 34) (off := 74) (tgt := 92) (by decide +kernel) (by omega) (by omega) (by rw [h10]; rfl) (by decide) ?_
      refine z_iload_n (f := 1) (i := 1) (q := 1) (pc' := 93) ⟨by decide +kernel, rfl⟩ rfl rfl ?_
      refine z_if_lt (off := 7) (tgt := 100) (pc' := 96) ⟨by decide +kernel, by decide, rfl⟩ (fun h11 => ?_) (fun h11 => ?_)
      · refine z_iconst (i := 0) (v := 0) (pc' := 101) ⟨by decide +kernel, rfl⟩ (by decide) ?_
        refine z_iret (ty := .boolean) rfl rfl (by decide +kernel) ?_
        have z0L : (0 : Int64).toInt = 0 := by decide
        have z0 : (0 : Int32).toInt = 0 := by decide
        have z2 : (2 : Int32).toInt = 2 := by decide
        have gh1 := j_ne_t h1
        have gh11 := j_lt_t (y := 0) h11
        exact k _ (Or.inr ⟨rfl, by omega⟩)
      · refine z_iconst (i := 1) (v := 1) (pc' := 97) ⟨by decide +kernel, rfl⟩ (by decide) ?_
        refine z_goto (off := 4) (tgt := 101) (pc' := 100) ⟨by decide +kernel, by decide, rfl⟩ ?_
        refine z_iret (ty := .boolean) rfl rfl (by decide +kernel) ?_
        have z0L : (0 : Int64).toInt = 0 := by decide
        have z0 : (0 : Int32).toInt = 0 := by decide
        have z2 : (2 : Int32).toInt = 2 := by decide
        have gh1 := j_ne_t h1
        have gh11 := j_lt_f (y := 0) h11
        exact k _ (Or.inl ⟨rfl, by omega⟩)
    refine z_tableOut (dflt := 84) (lo := 13) (hi := 17) (offs := #[34, 44, 54, 64, 74]) (len := 34) (tgt := 102) (by decide +kernel) (by omega) (by decide) ?_
    refine z_iload_n (f := 1) (i := 1) (q := 1) (pc' := 103) ⟨by decide +kernel, rfl⟩ rfl rfl ?_
    refine z_if_le (off := 7) (tgt := 110) (pc' := 106) ⟨by decide +kernel, by decide, rfl⟩ (fun h12 => ?_) (fun h12 => ?_)
    · refine z_iconst (i := 0) (v := 0) (pc' := 111) ⟨by decide +kernel, rfl⟩ (by decide) ?_
      refine z_iret (ty := .boolean) rfl rfl (by decide +kernel) ?_
      have z0L : (0 : Int64).toInt = 0 := by decide
      have z0 : (0 : Int32).toInt = 0 := by decide
      have z2 : (2 : Int32).toInt = 2 := by decide
      have gh1 := j_ne_t h1
      have gh12 := j_le_t (y := 0) h12
      exact k _ (Or.inr ⟨rfl, by omega⟩)
    · refine z_iconst (i := 1) (v := 1) (pc' := 107) ⟨by decide +kernel, rfl⟩ (by decide) ?_
      refine z_goto (off := 4) (tgt := 111) (pc' := 110) ⟨by decide +kernel, by decide, rfl⟩ ?_
      refine z_iret (ty := .boolean) rfl rfl (by decide +kernel) ?_
      have z0L : (0 : Int64).toInt = 0 := by decide
      have z0 : (0 : Int32).toInt = 0 := by decide
      have z2 : (2 : Int32).toInt = 2 := by decide
      have gh1 := j_ne_t h1
      have gh12 := j_le_f (y := 0) h12
      exact k _ (Or.inl ⟨rfl, by omega⟩)
  · refine z_iload_n (f := 0) (i := 0) (q := 0) (pc' := 6) ⟨by decide +kernel, rfl⟩ rfl rfl ?_
    refine z_bipush (i := 16) (v := 16) (pc' := 8) ⟨by decide +kernel, rfl⟩ (by decide) ?_
    refine z_icmp_ne (off := 7) (tgt := 15) (pc' := 11) ⟨by decide +kernel, by decide, rfl⟩ (fun h13 => ?_) (fun h13 => ?_)
    · refine z_iconst (i := 0) (v := 0) (pc' := 16) ⟨by decide +kernel, rfl⟩ (by decide) ?_
      refine z_iret (ty := .boolean) rfl rfl (by decide +kernel) ?_
      have z0L : (0 : Int64).toInt = 0 := by decide
      have z16 : (16 : Int32).toInt = 16 := by decide
      have z2 : (2 : Int32).toInt = 2 := by decide
      have gh1 := j_ne_f h1
      have gh13 := j_ne_t h13
      exact k _ (Or.inr ⟨rfl, by omega⟩)
    · refine z_iconst (i := 1) (v := 1) (pc' := 12) ⟨by decide +kernel, rfl⟩ (by decide) ?_
      refine z_goto (off := 4) (tgt := 16) (pc' := 15) ⟨by decide +kernel, by decide, rfl⟩ ?_
      refine z_iret (ty := .boolean) rfl rfl (by decide +kernel) ?_
      have z0L : (0 : Int64).toInt = 0 := by decide
      have z16 : (16 : Int32).toInt = 16 := by decide
      have z2 : (2 : Int32).toInt = 2 := by decide
      have gh1 := j_ne_f h1
      have gh13 := j_ne_f h13
      exact k _ (Or.inl ⟨rfl, by omega⟩)
theorem cz_Ju_isSo {E : xV} {τ : zS} {K : zKt} {op w : Int32} (hop : 13 ≤ op.toInt ∧ op.toInt ≤ 18) (k : ∀ v : Int32, (v = 1 ∧ soC op.toInt w.toInt) ∨ (v = 0 ∧ ¬ soC op.toInt w.toInt) → K (some (.int v)) τ) : Cz E Y_Ju_isSo [.int op, .int w] τ K := z_entry (by decide) (fun a => by rw [sl_len]; exact Nat.le_of_ble_eq_true rfl) rfl (run_Ju_isSo hop k)
theorem run_Ju_weigh_t {E : xV} {σ τ : zS} {K : zKt} {W T : List EntJ} {op r : Int32} {a b num : Int64} {c : Nat} {x : EntJ} (h : CsJ σ τ W T 0) (hl : T.length < 64) (hop : op.toInt = (c : Int)) (hc : 13 ≤ c ∧ c ≤ 18) (h1 : soC (c : Int) r.toInt → x = (4, 0)) (h0 : ¬ soC (c : Int) r.toInt → x = (5, 0)) (k : ∀ (τ' : zS) (o : Int32), OutT σ τ' (x) W T o → K (some (.int o)) τ') : Wz E Y_Ju_weigh 154 [(8, .int r), (6, .long b), (4, .long a), (0, .ref 27), (1, .int op), (2, .long num)] [] τ K := by
  refine z_aload_n (f := 0) (i := 0) (q := 3) (pc' := 155) ⟨by decide +kernel, rfl⟩ rfl rfl ?_
  refine z_iload_n (f := 1) (i := 1) (q := 4) (pc' := 156) ⟨by decide +kernel, rfl⟩ rfl rfl ?_
  refine z_iload (i := 8) (q := 0) (pc' := 158) ⟨by decide +kernel, rfl⟩ rfl ?_
  refine w_invS (Z := Y_Ju_isSo) (idx := 240) (As := [.int op, .int r]) (rest := [.ref 27]) (pc' := 161) cl_5_240 rfl ⟨rfl, rfl⟩ ⟨⟨by decide, by decide⟩, rfl, rfl⟩ ⟨by decide +kernel, rfl⟩ rfl rfl (Nat.le_of_ble_eq_true rfl) rfl rfl ?_
  refine cz_Ju_isSo (by omega) (fun v1 hv1 => ?_)
  show Wz E Y_Ju_weigh 161 [(8, .int r), (6, .long b), (4, .long a), (0, .ref 27), (1, .int op), (2, .long num)] [.int v1, .ref 27] τ K
  refine z_if_eq (off := 7) (tgt := 168) (pc' := 164) ⟨by decide +kernel, by decide, rfl⟩ (fun h2 => ?_) (fun h2 => ?_)
  · refine z_iconst (i := 0) (v := 0) (pc' := 169) ⟨by decide +kernel, rfl⟩ (by decide) ?_
    refine w_invV (Z := Y_Ju_pushTruth) (idx := 162) (kb := 27) (As := [.int 0]) (rest := []) (pc' := 172) cl_5_162 rfl ⟨rfl, rfl⟩ kfa_27_0 rfl ⟨⟨by decide, by decide⟩, rfl, rfl⟩ ⟨by decide +kernel, rfl⟩ rfl rfl (Nat.le_of_ble_eq_true rfl) rfl rfl ?_
    refine cz_Ju_pushTruth (x := (5, 0)) h hl (by decide) (by decide) (fun σ3 hv3 => ?_)
    show Wz E Y_Ju_weigh 172 [(8, .int r), (6, .long b), (4, .long a), (0, .ref 27), (1, .int op), (2, .long num)] [] σ3 K
    refine z_iconst (i := 4) (v := 4) (pc' := 173) ⟨by decide +kernel, rfl⟩ (by decide) ?_
    refine z_iret (ty := .int) rfl rfl (by decide +kernel) ?_
    have z0L : (0 : Int64).toInt = 0 := by decide
    have gh2 := p3_f hv1 h2
    rw [hop] at gh2
    exact k _ _ (outt_4 (h0 gh2) (by decide) (by decide) hv3)
  · refine z_iconst (i := 1) (v := 1) (pc' := 165) ⟨by decide +kernel, rfl⟩ (by decide) ?_
    refine z_goto (off := 4) (tgt := 169) (pc' := 168) ⟨by decide +kernel, by decide, rfl⟩ ?_
    refine w_invV (Z := Y_Ju_pushTruth) (idx := 162) (kb := 27) (As := [.int 1]) (rest := []) (pc' := 172) cl_5_162 rfl ⟨rfl, rfl⟩ kfa_27_0 rfl ⟨⟨by decide, by decide⟩, rfl, rfl⟩ ⟨by decide +kernel, rfl⟩ rfl rfl (Nat.le_of_ble_eq_true rfl) rfl rfl ?_
    refine cz_Ju_pushTruth (x := (4, 0)) h hl (by decide) (by decide) (fun σ4 hv4 => ?_)
    show Wz E Y_Ju_weigh 172 [(8, .int r), (6, .long b), (4, .long a), (0, .ref 27), (1, .int op), (2, .long num)] [] σ4 K
    refine z_iconst (i := 4) (v := 4) (pc' := 173) ⟨by decide +kernel, rfl⟩ (by decide) ?_
    refine z_iret (ty := .int) rfl rfl (by decide +kernel) ?_
    have z0L : (0 : Int64).toInt = 0 := by decide
    have gh2 := p3_t hv1 h2
    rw [hop] at gh2
    exact k _ _ (outt_4 (h1 gh2) (by decide) (by decide) hv4)
theorem run_Ju_weigh_2 {E : xV} {σ τ : zS} {K : zKt} {W T : List EntJ} {op : Int32} {num : Int64} {c : Nat} {y z : EntJ} (h : CsJ σ τ (z :: y :: W) T 0) (hl : T.length < 64) (hop : op.toInt = (c : Int)) (hc : 13 ≤ c ∧ c ≤ 18) (k : ∀ (τ' : zS) (o : Int32), OutT σ τ' (cpJ (c32 ((c : Int) - 13)) y z) W T o → K (some (.int o)) τ') : Wz E Y_Ju_weigh 16 [(0, .ref 27), (1, .int op), (2, .long num)] [] τ K := by
  refine z_aload_n (f := 0) (i := 0) (q := 0) (pc' := 17) ⟨by decide +kernel, rfl⟩ rfl rfl ?_
  refine w_geti (k := 27) (j := 10) (idx := 130) (pc' := 20) fxe_5_130 kfa_27_10 ⟨by decide +kernel, rfl⟩ ?_
  refine z_iconst (i := 2) (v := 2) (pc' := 21) ⟨by decide +kernel, rfl⟩ (by decide) ?_
  refine z_icmp_ge (off := 5) (tgt := 26) (pc' := 24) ⟨by decide +kernel, by decide, rfl⟩ (fun h1 => ?_) (fun h1 => ?_)
  · refine z_aload_n (f := 0) (i := 0) (q := 0) (pc' := 27) ⟨by decide +kernel, rfl⟩ rfl rfl ?_
    refine z_dupr (pc' := 28) ⟨by decide +kernel, rfl⟩ ?_
    refine w_geti (k := 27) (j := 10) (idx := 130) (pc' := 31) fxe_5_130 kfa_27_10 ⟨by decide +kernel, rfl⟩ ?_
    refine z_iconst (i := 2) (v := 2) (pc' := 32) ⟨by decide +kernel, rfl⟩ (by decide) ?_
    refine z_isub (pc' := 33) ⟨by decide +kernel, rfl⟩ ?_
    refine w_puti (k := 27) (j := 10) (idx := 130) (pc' := 36) fxi_5_130 kfa_27_10 ⟨by decide +kernel, rfl⟩ ?_
    generalize hs2 : zI τ 27 10 ((τ.1 27 10) - 2) = σ2
    refine z_aload_n (f := 0) (i := 0) (q := 0) (pc' := 37) ⟨by decide +kernel, rfl⟩ rfl rfl ?_
    refine w_getr (k := 27) (j := 8) (idx := 23) (pc' := 40) fxe_5_23 kfa_27_8 ⟨by decide +kernel, rfl⟩ ?_
    refine z_aload_n (f := 0) (i := 0) (q := 0) (pc' := 41) ⟨by decide +kernel, rfl⟩ rfl rfl ?_
    refine w_geti (k := 27) (j := 10) (idx := 130) (pc' := 44) fxe_5_130 kfa_27_10 ⟨by decide +kernel, rfl⟩ ?_
    refine w_lald (k := 28) (n := W.length) (pc' := 45) kaa_28 ((cs_pop2 h hs2).1.2.1.1) (by have := (cs_pop2 h hs2).2.2; omega) ⟨by decide +kernel, rfl⟩ ?_
    refine z_lstore (i := 4) (pc' := 47) ⟨by decide +kernel, rfl⟩ (by decide) rfl ?_
    show Wz E Y_Ju_weigh 47 [(4, .long (σ2.2 28 W.length)), (0, .ref 27), (1, .int op), (2, .long num)] [] σ2 K
    refine z_aload_n (f := 0) (i := 0) (q := 1) (pc' := 48) ⟨by decide +kernel, rfl⟩ rfl rfl ?_
    refine w_getr (k := 27) (j := 8) (idx := 23) (pc' := 51) fxe_5_23 kfa_27_8 ⟨by decide +kernel, rfl⟩ ?_
    refine z_aload_n (f := 0) (i := 0) (q := 1) (pc' := 52) ⟨by decide +kernel, rfl⟩ rfl rfl ?_
    refine w_geti (k := 27) (j := 10) (idx := 130) (pc' := 55) fxe_5_130 kfa_27_10 ⟨by decide +kernel, rfl⟩ ?_
    refine z_iconst (i := 1) (v := 1) (pc' := 56) ⟨by decide +kernel, rfl⟩ (by decide) ?_
    refine z_iadd (pc' := 57) ⟨by decide +kernel, rfl⟩ ?_
    refine w_lald (k := 28) (n := (W.length + 1)) (pc' := 58) kaa_28 ((cs_pop2 h hs2).t1) ((cs_pop2 h hs2).2.2) ⟨by decide +kernel, rfl⟩ ?_
    refine z_lstore (i := 6) (pc' := 60) ⟨by decide +kernel, rfl⟩ (by decide) rfl ?_
    show Wz E Y_Ju_weigh 60 [(6, .long (σ2.2 28 (W.length + 1))), (4, .long (σ2.2 28 W.length)), (0, .ref 27), (1, .int op), (2, .long num)] [] σ2 K
    refine z_lload (i := 4) (q := 1) (pc' := 62) ⟨by decide +kernel, rfl⟩ rfl ?_
    refine z_lload (i := 6) (q := 0) (pc' := 64) ⟨by decide +kernel, rfl⟩ rfl ?_
    refine w_invS (Z := Y_JG_compare) (idx := 231) (As := [.long (σ2.2 28 W.length), .long (σ2.2 28 (W.length + 1))]) (rest := []) (pc' := 67) cl_5_231 rfl ⟨rfl, rfl⟩ ⟨⟨by decide, by decide⟩, rfl, rfl⟩ ⟨by decide +kernel, rfl⟩ rfl rfl (Nat.le_of_ble_eq_true rfl) rfl rfl ?_
    refine cz_JG_compare (fun v3 hv3 => ?_)
    show Wz E Y_Ju_weigh 67 [(6, .long (σ2.2 28 (W.length + 1))), (4, .long (σ2.2 28 W.length)), (0, .ref 27), (1, .int op), (2, .long num)] [.int v3] σ2 K
    refine z_istore (i := 8) (pc' := 69) ⟨by decide +kernel, rfl⟩ (by decide) rfl ?_
    show Wz E Y_Ju_weigh 69 [(8, .int v3), (6, .long (σ2.2 28 (W.length + 1))), (4, .long (σ2.2 28 W.length)), (0, .ref 27), (1, .int op), (2, .long num)] [] σ2 K
    refine z_aload_n (f := 0) (i := 0) (q := 3) (pc' := 70) ⟨by decide +kernel, rfl⟩ rfl rfl ?_
    refine w_getr (k := 27) (j := 9) (idx := 27) (pc' := 73) fxe_5_27 kfa_27_9 ⟨by decide +kernel, rfl⟩ ?_
    refine z_aload_n (f := 0) (i := 0) (q := 3) (pc' := 74) ⟨by decide +kernel, rfl⟩ rfl rfl ?_
    refine w_geti (k := 27) (j := 10) (idx := 130) (pc' := 77) fxe_5_130 kfa_27_10 ⟨by decide +kernel, rfl⟩ ?_
    refine w_zald (k := 29) (n := W.length) (pc' := 78) kaa_29 ((cs_pop2 h hs2).1.2.1.1) (by have := (cs_pop2 h hs2).2.2; omega) ⟨by decide +kernel, rfl⟩ ?_
    refine z_if_ne (off := 17) (tgt := 95) (pc' := 81) ⟨by decide +kernel, by decide, rfl⟩ (fun h4 => ?_) (fun h4 => ?_)
    · refine z_aload_n (f := 0) (i := 0) (q := 3) (pc' := 96) ⟨by decide +kernel, rfl⟩ rfl rfl ?_
      refine w_getr (k := 27) (j := 9) (idx := 27) (pc' := 99) fxe_5_27 kfa_27_9 ⟨by decide +kernel, rfl⟩ ?_
      refine z_aload_n (f := 0) (i := 0) (q := 3) (pc' := 100) ⟨by decide +kernel, rfl⟩ rfl rfl ?_
      refine w_geti (k := 27) (j := 10) (idx := 130) (pc' := 103) fxe_5_130 kfa_27_10 ⟨by decide +kernel, rfl⟩ ?_
      refine w_zald (k := 29) (n := W.length) (pc' := 104) kaa_29 ((cs_pop2 h hs2).1.2.1.1) (by have := (cs_pop2 h hs2).2.2; omega) ⟨by decide +kernel, rfl⟩ ?_
      refine z_if_eq (off := 8) (tgt := 112) (pc' := 107) ⟨by decide +kernel, by decide, rfl⟩ (fun h5 => ?_) (fun h5 => ?_)
      · refine z_lload (i := 4) (q := 2) (pc' := 114) ⟨by decide +kernel, rfl⟩ rfl ?_
        refine w_invS (Z := Y_Re_ofWhole) (idx := 212) (As := [.long (σ2.2 28 W.length)]) (rest := []) (pc' := 117) cl_5_212 rfl ⟨rfl, rfl⟩ ⟨⟨by decide, by decide⟩, rfl, rfl⟩ ⟨by decide +kernel, rfl⟩ rfl rfl (Nat.le_of_ble_eq_true rfl) rfl rfl ?_
        refine cz_Re_ofWhole (fun v6 hv6 => ?_)
        show Wz E Y_Ju_weigh 117 [(8, .int v3), (6, .long (σ2.2 28 (W.length + 1))), (4, .long (σ2.2 28 W.length)), (0, .ref 27), (1, .int op), (2, .long num)] [.long v6] σ2 K
        refine z_lstore (i := 4) (pc' := 119) ⟨by decide +kernel, rfl⟩ (by decide) rfl ?_
        show Wz E Y_Ju_weigh 119 [(4, .long v6), (8, .int v3), (6, .long (σ2.2 28 (W.length + 1))), (0, .ref 27), (1, .int op), (2, .long num)] [] σ2 K
        refine z_aload_n (f := 0) (i := 0) (q := 3) (pc' := 120) ⟨by decide +kernel, rfl⟩ rfl rfl ?_
        refine w_getr (k := 27) (j := 9) (idx := 27) (pc' := 123) fxe_5_27 kfa_27_9 ⟨by decide +kernel, rfl⟩ ?_
        refine z_aload_n (f := 0) (i := 0) (q := 3) (pc' := 124) ⟨by decide +kernel, rfl⟩ rfl rfl ?_
        refine w_geti (k := 27) (j := 10) (idx := 130) (pc' := 127) fxe_5_130 kfa_27_10 ⟨by decide +kernel, rfl⟩ ?_
        refine z_iconst (i := 1) (v := 1) (pc' := 128) ⟨by decide +kernel, rfl⟩ (by decide) ?_
        refine z_iadd (pc' := 129) ⟨by decide +kernel, rfl⟩ ?_
        refine w_zald (k := 29) (n := (W.length + 1)) (pc' := 130) kaa_29 ((cs_pop2 h hs2).t1) ((cs_pop2 h hs2).2.2) ⟨by decide +kernel, rfl⟩ ?_
        refine z_if_eq (off := 8) (tgt := 138) (pc' := 133) ⟨by decide +kernel, by decide, rfl⟩ (fun h7 => ?_) (fun h7 => ?_)
        · refine z_lload (i := 6) (q := 2) (pc' := 140) ⟨by decide +kernel, rfl⟩ rfl ?_
          refine w_invS (Z := Y_Re_ofWhole) (idx := 212) (As := [.long (σ2.2 28 (W.length + 1))]) (rest := []) (pc' := 143) cl_5_212 rfl ⟨rfl, rfl⟩ ⟨⟨by decide, by decide⟩, rfl, rfl⟩ ⟨by decide +kernel, rfl⟩ rfl rfl (Nat.le_of_ble_eq_true rfl) rfl rfl ?_
          refine cz_Re_ofWhole (fun v8 hv8 => ?_)
          show Wz E Y_Ju_weigh 143 [(4, .long v6), (8, .int v3), (6, .long (σ2.2 28 (W.length + 1))), (0, .ref 27), (1, .int op), (2, .long num)] [.long v8] σ2 K
          refine z_lstore (i := 6) (pc' := 145) ⟨by decide +kernel, rfl⟩ (by decide) rfl ?_
          show Wz E Y_Ju_weigh 145 [(6, .long v8), (4, .long v6), (8, .int v3), (0, .ref 27), (1, .int op), (2, .long num)] [] σ2 K
          refine z_lload (i := 4) (q := 1) (pc' := 147) ⟨by decide +kernel, rfl⟩ rfl ?_
          refine z_lload (i := 6) (q := 0) (pc' := 149) ⟨by decide +kernel, rfl⟩ rfl ?_
          refine w_invS (Z := Y_Re_order) (idx := 237) (As := [.long v6, .long v8]) (rest := []) (pc' := 152) cl_5_237 rfl ⟨rfl, rfl⟩ ⟨⟨by decide, by decide⟩, rfl, rfl⟩ ⟨by decide +kernel, rfl⟩ rfl rfl (Nat.le_of_ble_eq_true rfl) rfl rfl ?_
          refine cz_Re_order (fun v9 hv9 => ?_)
          show Wz E Y_Ju_weigh 152 [(6, .long v8), (4, .long v6), (8, .int v3), (0, .ref 27), (1, .int op), (2, .long num)] [.int v9] σ2 K
          refine z_istore (i := 8) (pc' := 154) ⟨by decide +kernel, rfl⟩ (by decide) rfl ?_
          show Wz E Y_Ju_weigh 154 [(8, .int v9), (6, .long v8), (4, .long v6), (0, .ref 27), (1, .int op), (2, .long num)] [] σ2 K
          have z0L : (0 : Int64).toInt = 0 := by decide
          have z0 : (0 : Int32).toInt = 0 := by decide
          have z2 : (2 : Int32).toInt = 2 := by decide
          have gh1 := j_ge_t h1
          have gh4 := j_ne_t (y := 0) h4
          have gh5 := j_eq_t (y := 0) h5
          have gh7 := j_eq_t (y := 0) h7
          have p := (cs_pop2 h hs2).2.1
          rw [p.1.1] at gh4
          rw [p.1.1] at gh5
          rw [p.2.1.1] at gh7
          rw [rl_0 (by omega) (p.1.2 ▸ hv6), rl_0 (by omega) (p.2.1.2 ▸ hv8)] at hv9
          exact run_Ju_weigh_t (cs_pop2 h hs2).1 hl hop hc (fun q => cpc_rt hc (by omega) hv9 q) (fun q => cpc_rf hc (by omega) hv9 q) k
        · refine z_lload (i := 6) (q := 2) (pc' := 135) ⟨by decide +kernel, rfl⟩ rfl ?_
          refine z_goto (off := 8) (tgt := 143) (pc' := 138) ⟨by decide +kernel, by decide, rfl⟩ ?_
          refine z_lstore (i := 6) (pc' := 145) ⟨by decide +kernel, rfl⟩ (by decide) rfl ?_
          show Wz E Y_Ju_weigh 145 [(6, .long (σ2.2 28 (W.length + 1))), (4, .long v6), (8, .int v3), (0, .ref 27), (1, .int op), (2, .long num)] [] σ2 K
          refine z_lload (i := 4) (q := 1) (pc' := 147) ⟨by decide +kernel, rfl⟩ rfl ?_
          refine z_lload (i := 6) (q := 0) (pc' := 149) ⟨by decide +kernel, rfl⟩ rfl ?_
          refine w_invS (Z := Y_Re_order) (idx := 237) (As := [.long v6, .long (σ2.2 28 (W.length + 1))]) (rest := []) (pc' := 152) cl_5_237 rfl ⟨rfl, rfl⟩ ⟨⟨by decide, by decide⟩, rfl, rfl⟩ ⟨by decide +kernel, rfl⟩ rfl rfl (Nat.le_of_ble_eq_true rfl) rfl rfl ?_
          refine cz_Re_order (fun v10 hv10 => ?_)
          show Wz E Y_Ju_weigh 152 [(6, .long (σ2.2 28 (W.length + 1))), (4, .long v6), (8, .int v3), (0, .ref 27), (1, .int op), (2, .long num)] [.int v10] σ2 K
          refine z_istore (i := 8) (pc' := 154) ⟨by decide +kernel, rfl⟩ (by decide) rfl ?_
          show Wz E Y_Ju_weigh 154 [(8, .int v10), (6, .long (σ2.2 28 (W.length + 1))), (4, .long v6), (0, .ref 27), (1, .int op), (2, .long num)] [] σ2 K
          have z0L : (0 : Int64).toInt = 0 := by decide
          have z0 : (0 : Int32).toInt = 0 := by decide
          have z2 : (2 : Int32).toInt = 2 := by decide
          have gh1 := j_ge_t h1
          have gh4 := j_ne_t (y := 0) h4
          have gh5 := j_eq_t (y := 0) h5
          have gh7 := j_eq_f (y := 0) h7
          have p := (cs_pop2 h hs2).2.1
          rw [p.1.1] at gh4
          rw [p.1.1] at gh5
          rw [p.2.1.1] at gh7
          rw [rl_0 (by omega) (p.1.2 ▸ hv6), rl_1 (by omega) p.2.1.2] at hv10
          exact run_Ju_weigh_t (cs_pop2 h hs2).1 hl hop hc (fun q => cpc_rt hc (by omega) hv10 q) (fun q => cpc_rf hc (by omega) hv10 q) k
      · refine z_lload (i := 4) (q := 2) (pc' := 109) ⟨by decide +kernel, rfl⟩ rfl ?_
        refine z_goto (off := 8) (tgt := 117) (pc' := 112) ⟨by decide +kernel, by decide, rfl⟩ ?_
        refine z_lstore (i := 4) (pc' := 119) ⟨by decide +kernel, rfl⟩ (by decide) rfl ?_
        show Wz E Y_Ju_weigh 119 [(4, .long (σ2.2 28 W.length)), (8, .int v3), (6, .long (σ2.2 28 (W.length + 1))), (0, .ref 27), (1, .int op), (2, .long num)] [] σ2 K
        refine z_aload_n (f := 0) (i := 0) (q := 3) (pc' := 120) ⟨by decide +kernel, rfl⟩ rfl rfl ?_
        refine w_getr (k := 27) (j := 9) (idx := 27) (pc' := 123) fxe_5_27 kfa_27_9 ⟨by decide +kernel, rfl⟩ ?_
        refine z_aload_n (f := 0) (i := 0) (q := 3) (pc' := 124) ⟨by decide +kernel, rfl⟩ rfl rfl ?_
        refine w_geti (k := 27) (j := 10) (idx := 130) (pc' := 127) fxe_5_130 kfa_27_10 ⟨by decide +kernel, rfl⟩ ?_
        refine z_iconst (i := 1) (v := 1) (pc' := 128) ⟨by decide +kernel, rfl⟩ (by decide) ?_
        refine z_iadd (pc' := 129) ⟨by decide +kernel, rfl⟩ ?_
        refine w_zald (k := 29) (n := (W.length + 1)) (pc' := 130) kaa_29 ((cs_pop2 h hs2).t1) ((cs_pop2 h hs2).2.2) ⟨by decide +kernel, rfl⟩ ?_
        refine z_if_eq (off := 8) (tgt := 138) (pc' := 133) ⟨by decide +kernel, by decide, rfl⟩ (fun h11 => ?_) (fun h11 => ?_)
        · refine z_lload (i := 6) (q := 2) (pc' := 140) ⟨by decide +kernel, rfl⟩ rfl ?_
          refine w_invS (Z := Y_Re_ofWhole) (idx := 212) (As := [.long (σ2.2 28 (W.length + 1))]) (rest := []) (pc' := 143) cl_5_212 rfl ⟨rfl, rfl⟩ ⟨⟨by decide, by decide⟩, rfl, rfl⟩ ⟨by decide +kernel, rfl⟩ rfl rfl (Nat.le_of_ble_eq_true rfl) rfl rfl ?_
          refine cz_Re_ofWhole (fun v12 hv12 => ?_)
          show Wz E Y_Ju_weigh 143 [(4, .long (σ2.2 28 W.length)), (8, .int v3), (6, .long (σ2.2 28 (W.length + 1))), (0, .ref 27), (1, .int op), (2, .long num)] [.long v12] σ2 K
          refine z_lstore (i := 6) (pc' := 145) ⟨by decide +kernel, rfl⟩ (by decide) rfl ?_
          show Wz E Y_Ju_weigh 145 [(6, .long v12), (4, .long (σ2.2 28 W.length)), (8, .int v3), (0, .ref 27), (1, .int op), (2, .long num)] [] σ2 K
          refine z_lload (i := 4) (q := 1) (pc' := 147) ⟨by decide +kernel, rfl⟩ rfl ?_
          refine z_lload (i := 6) (q := 0) (pc' := 149) ⟨by decide +kernel, rfl⟩ rfl ?_
          refine w_invS (Z := Y_Re_order) (idx := 237) (As := [.long (σ2.2 28 W.length), .long v12]) (rest := []) (pc' := 152) cl_5_237 rfl ⟨rfl, rfl⟩ ⟨⟨by decide, by decide⟩, rfl, rfl⟩ ⟨by decide +kernel, rfl⟩ rfl rfl (Nat.le_of_ble_eq_true rfl) rfl rfl ?_
          refine cz_Re_order (fun v13 hv13 => ?_)
          show Wz E Y_Ju_weigh 152 [(6, .long v12), (4, .long (σ2.2 28 W.length)), (8, .int v3), (0, .ref 27), (1, .int op), (2, .long num)] [.int v13] σ2 K
          refine z_istore (i := 8) (pc' := 154) ⟨by decide +kernel, rfl⟩ (by decide) rfl ?_
          show Wz E Y_Ju_weigh 154 [(8, .int v13), (6, .long v12), (4, .long (σ2.2 28 W.length)), (0, .ref 27), (1, .int op), (2, .long num)] [] σ2 K
          have z0L : (0 : Int64).toInt = 0 := by decide
          have z0 : (0 : Int32).toInt = 0 := by decide
          have z2 : (2 : Int32).toInt = 2 := by decide
          have gh1 := j_ge_t h1
          have gh4 := j_ne_t (y := 0) h4
          have gh5 := j_eq_f (y := 0) h5
          have gh11 := j_eq_t (y := 0) h11
          have p := (cs_pop2 h hs2).2.1
          rw [p.1.1] at gh4
          rw [p.1.1] at gh5
          rw [p.2.1.1] at gh11
          rw [rl_1 (by omega) p.1.2, rl_0 (by omega) (p.2.1.2 ▸ hv12)] at hv13
          exact run_Ju_weigh_t (cs_pop2 h hs2).1 hl hop hc (fun q => cpc_rt hc (by omega) hv13 q) (fun q => cpc_rf hc (by omega) hv13 q) k
        · refine z_lload (i := 6) (q := 2) (pc' := 135) ⟨by decide +kernel, rfl⟩ rfl ?_
          refine z_goto (off := 8) (tgt := 143) (pc' := 138) ⟨by decide +kernel, by decide, rfl⟩ ?_
          refine z_lstore (i := 6) (pc' := 145) ⟨by decide +kernel, rfl⟩ (by decide) rfl ?_
          show Wz E Y_Ju_weigh 145 [(6, .long (σ2.2 28 (W.length + 1))), (4, .long (σ2.2 28 W.length)), (8, .int v3), (0, .ref 27), (1, .int op), (2, .long num)] [] σ2 K
          refine z_lload (i := 4) (q := 1) (pc' := 147) ⟨by decide +kernel, rfl⟩ rfl ?_
          refine z_lload (i := 6) (q := 0) (pc' := 149) ⟨by decide +kernel, rfl⟩ rfl ?_
          refine w_invS (Z := Y_Re_order) (idx := 237) (As := [.long (σ2.2 28 W.length), .long (σ2.2 28 (W.length + 1))]) (rest := []) (pc' := 152) cl_5_237 rfl ⟨rfl, rfl⟩ ⟨⟨by decide, by decide⟩, rfl, rfl⟩ ⟨by decide +kernel, rfl⟩ rfl rfl (Nat.le_of_ble_eq_true rfl) rfl rfl ?_
          refine cz_Re_order (fun v14 hv14 => ?_)
          show Wz E Y_Ju_weigh 152 [(6, .long (σ2.2 28 (W.length + 1))), (4, .long (σ2.2 28 W.length)), (8, .int v3), (0, .ref 27), (1, .int op), (2, .long num)] [.int v14] σ2 K
          refine z_istore (i := 8) (pc' := 154) ⟨by decide +kernel, rfl⟩ (by decide) rfl ?_
          show Wz E Y_Ju_weigh 154 [(8, .int v14), (6, .long (σ2.2 28 (W.length + 1))), (4, .long (σ2.2 28 W.length)), (0, .ref 27), (1, .int op), (2, .long num)] [] σ2 K
          have z0L : (0 : Int64).toInt = 0 := by decide
          have z0 : (0 : Int32).toInt = 0 := by decide
          have z2 : (2 : Int32).toInt = 2 := by decide
          have gh1 := j_ge_t h1
          have gh4 := j_ne_t (y := 0) h4
          have gh5 := j_eq_f (y := 0) h5
          have gh11 := j_eq_f (y := 0) h11
          have p := (cs_pop2 h hs2).2.1
          rw [p.1.1] at gh4
          rw [p.1.1] at gh5
          rw [p.2.1.1] at gh11
          rw [rl_1 (by omega) p.1.2, rl_1 (by omega) p.2.1.2] at hv14
          exact run_Ju_weigh_t (cs_pop2 h hs2).1 hl hop hc (fun q => cpc_rt hc (by omega) hv14 q) (fun q => cpc_rf hc (by omega) hv14 q) k
    · refine z_aload_n (f := 0) (i := 0) (q := 3) (pc' := 82) ⟨by decide +kernel, rfl⟩ rfl rfl ?_
      refine w_getr (k := 27) (j := 9) (idx := 27) (pc' := 85) fxe_5_27 kfa_27_9 ⟨by decide +kernel, rfl⟩ ?_
      refine z_aload_n (f := 0) (i := 0) (q := 3) (pc' := 86) ⟨by decide +kernel, rfl⟩ rfl rfl ?_
      refine w_geti (k := 27) (j := 10) (idx := 130) (pc' := 89) fxe_5_130 kfa_27_10 ⟨by decide +kernel, rfl⟩ ?_
      refine z_iconst (i := 1) (v := 1) (pc' := 90) ⟨by decide +kernel, rfl⟩ (by decide) ?_
      refine z_iadd (pc' := 91) ⟨by decide +kernel, rfl⟩ ?_
      refine w_zald (k := 29) (n := (W.length + 1)) (pc' := 92) kaa_29 ((cs_pop2 h hs2).t1) ((cs_pop2 h hs2).2.2) ⟨by decide +kernel, rfl⟩ ?_
      refine z_if_eq (off := 62) (tgt := 154) (pc' := 95) ⟨by decide +kernel, by decide, rfl⟩ (fun h15 => ?_) (fun h15 => ?_)
      · have z0L : (0 : Int64).toInt = 0 := by decide
        have z0 : (0 : Int32).toInt = 0 := by decide
        have z2 : (2 : Int32).toInt = 2 := by decide
        have gh1 := j_ge_t h1
        have gh4 := j_ne_f (y := 0) h4
        have gh15 := j_eq_t (y := 0) h15
        have p := (cs_pop2 h hs2).2.1
        rw [p.1.1] at gh4
        rw [p.2.1.1] at gh15
        rw [p.1.2, p.2.1.2] at hv3
        exact run_Ju_weigh_t (cs_pop2 h hs2).1 hl hop hc (fun q => cpc_wt hc (by omega) hv3 q) (fun q => cpc_wf hc (by omega) hv3 q) k
      · refine z_aload_n (f := 0) (i := 0) (q := 3) (pc' := 96) ⟨by decide +kernel, rfl⟩ rfl rfl ?_
        refine w_getr (k := 27) (j := 9) (idx := 27) (pc' := 99) fxe_5_27 kfa_27_9 ⟨by decide +kernel, rfl⟩ ?_
        refine z_aload_n (f := 0) (i := 0) (q := 3) (pc' := 100) ⟨by decide +kernel, rfl⟩ rfl rfl ?_
        refine w_geti (k := 27) (j := 10) (idx := 130) (pc' := 103) fxe_5_130 kfa_27_10 ⟨by decide +kernel, rfl⟩ ?_
        refine w_zald (k := 29) (n := W.length) (pc' := 104) kaa_29 ((cs_pop2 h hs2).1.2.1.1) (by have := (cs_pop2 h hs2).2.2; omega) ⟨by decide +kernel, rfl⟩ ?_
        refine z_if_eq (off := 8) (tgt := 112) (pc' := 107) ⟨by decide +kernel, by decide, rfl⟩ (fun h16 => ?_) (fun h16 => ?_)
        · refine z_lload (i := 4) (q := 2) (pc' := 114) ⟨by decide +kernel, rfl⟩ rfl ?_
          refine w_invS (Z := Y_Re_ofWhole) (idx := 212) (As := [.long (σ2.2 28 W.length)]) (rest := []) (pc' := 117) cl_5_212 rfl ⟨rfl, rfl⟩ ⟨⟨by decide, by decide⟩, rfl, rfl⟩ ⟨by decide +kernel, rfl⟩ rfl rfl (Nat.le_of_ble_eq_true rfl) rfl rfl ?_
          refine cz_Re_ofWhole (fun v17 hv17 => ?_)
          show Wz E Y_Ju_weigh 117 [(8, .int v3), (6, .long (σ2.2 28 (W.length + 1))), (4, .long (σ2.2 28 W.length)), (0, .ref 27), (1, .int op), (2, .long num)] [.long v17] σ2 K
          refine z_lstore (i := 4) (pc' := 119) ⟨by decide +kernel, rfl⟩ (by decide) rfl ?_
          show Wz E Y_Ju_weigh 119 [(4, .long v17), (8, .int v3), (6, .long (σ2.2 28 (W.length + 1))), (0, .ref 27), (1, .int op), (2, .long num)] [] σ2 K
          refine z_aload_n (f := 0) (i := 0) (q := 3) (pc' := 120) ⟨by decide +kernel, rfl⟩ rfl rfl ?_
          refine w_getr (k := 27) (j := 9) (idx := 27) (pc' := 123) fxe_5_27 kfa_27_9 ⟨by decide +kernel, rfl⟩ ?_
          refine z_aload_n (f := 0) (i := 0) (q := 3) (pc' := 124) ⟨by decide +kernel, rfl⟩ rfl rfl ?_
          refine w_geti (k := 27) (j := 10) (idx := 130) (pc' := 127) fxe_5_130 kfa_27_10 ⟨by decide +kernel, rfl⟩ ?_
          refine z_iconst (i := 1) (v := 1) (pc' := 128) ⟨by decide +kernel, rfl⟩ (by decide) ?_
          refine z_iadd (pc' := 129) ⟨by decide +kernel, rfl⟩ ?_
          refine w_zald (k := 29) (n := (W.length + 1)) (pc' := 130) kaa_29 ((cs_pop2 h hs2).t1) ((cs_pop2 h hs2).2.2) ⟨by decide +kernel, rfl⟩ ?_
          refine z_if_eq (off := 8) (tgt := 138) (pc' := 133) ⟨by decide +kernel, by decide, rfl⟩ (fun h18 => ?_) (fun h18 => ?_)
          · refine z_lload (i := 6) (q := 2) (pc' := 140) ⟨by decide +kernel, rfl⟩ rfl ?_
            refine w_invS (Z := Y_Re_ofWhole) (idx := 212) (As := [.long (σ2.2 28 (W.length + 1))]) (rest := []) (pc' := 143) cl_5_212 rfl ⟨rfl, rfl⟩ ⟨⟨by decide, by decide⟩, rfl, rfl⟩ ⟨by decide +kernel, rfl⟩ rfl rfl (Nat.le_of_ble_eq_true rfl) rfl rfl ?_
            refine cz_Re_ofWhole (fun v19 hv19 => ?_)
            show Wz E Y_Ju_weigh 143 [(4, .long v17), (8, .int v3), (6, .long (σ2.2 28 (W.length + 1))), (0, .ref 27), (1, .int op), (2, .long num)] [.long v19] σ2 K
            refine z_lstore (i := 6) (pc' := 145) ⟨by decide +kernel, rfl⟩ (by decide) rfl ?_
            show Wz E Y_Ju_weigh 145 [(6, .long v19), (4, .long v17), (8, .int v3), (0, .ref 27), (1, .int op), (2, .long num)] [] σ2 K
            refine z_lload (i := 4) (q := 1) (pc' := 147) ⟨by decide +kernel, rfl⟩ rfl ?_
            refine z_lload (i := 6) (q := 0) (pc' := 149) ⟨by decide +kernel, rfl⟩ rfl ?_
            refine w_invS (Z := Y_Re_order) (idx := 237) (As := [.long v17, .long v19]) (rest := []) (pc' := 152) cl_5_237 rfl ⟨rfl, rfl⟩ ⟨⟨by decide, by decide⟩, rfl, rfl⟩ ⟨by decide +kernel, rfl⟩ rfl rfl (Nat.le_of_ble_eq_true rfl) rfl rfl ?_
            refine cz_Re_order (fun v20 hv20 => ?_)
            show Wz E Y_Ju_weigh 152 [(6, .long v19), (4, .long v17), (8, .int v3), (0, .ref 27), (1, .int op), (2, .long num)] [.int v20] σ2 K
            refine z_istore (i := 8) (pc' := 154) ⟨by decide +kernel, rfl⟩ (by decide) rfl ?_
            show Wz E Y_Ju_weigh 154 [(8, .int v20), (6, .long v19), (4, .long v17), (0, .ref 27), (1, .int op), (2, .long num)] [] σ2 K
            have z0L : (0 : Int64).toInt = 0 := by decide
            have z0 : (0 : Int32).toInt = 0 := by decide
            have z2 : (2 : Int32).toInt = 2 := by decide
            have gh1 := j_ge_t h1
            have gh4 := j_ne_f (y := 0) h4
            have gh15 := j_eq_f (y := 0) h15
            have gh16 := j_eq_t (y := 0) h16
            have gh18 := j_eq_t (y := 0) h18
            have p := (cs_pop2 h hs2).2.1
            rw [p.1.1] at gh4
            rw [p.1.1] at gh16
            rw [p.2.1.1] at gh15
            rw [p.2.1.1] at gh18
            rw [rl_0 (by omega) (p.1.2 ▸ hv17), rl_0 (by omega) (p.2.1.2 ▸ hv19)] at hv20
            exact run_Ju_weigh_t (cs_pop2 h hs2).1 hl hop hc (fun q => cpc_rt hc (by omega) hv20 q) (fun q => cpc_rf hc (by omega) hv20 q) k
          · refine z_lload (i := 6) (q := 2) (pc' := 135) ⟨by decide +kernel, rfl⟩ rfl ?_
            refine z_goto (off := 8) (tgt := 143) (pc' := 138) ⟨by decide +kernel, by decide, rfl⟩ ?_
            refine z_lstore (i := 6) (pc' := 145) ⟨by decide +kernel, rfl⟩ (by decide) rfl ?_
            show Wz E Y_Ju_weigh 145 [(6, .long (σ2.2 28 (W.length + 1))), (4, .long v17), (8, .int v3), (0, .ref 27), (1, .int op), (2, .long num)] [] σ2 K
            refine z_lload (i := 4) (q := 1) (pc' := 147) ⟨by decide +kernel, rfl⟩ rfl ?_
            refine z_lload (i := 6) (q := 0) (pc' := 149) ⟨by decide +kernel, rfl⟩ rfl ?_
            refine w_invS (Z := Y_Re_order) (idx := 237) (As := [.long v17, .long (σ2.2 28 (W.length + 1))]) (rest := []) (pc' := 152) cl_5_237 rfl ⟨rfl, rfl⟩ ⟨⟨by decide, by decide⟩, rfl, rfl⟩ ⟨by decide +kernel, rfl⟩ rfl rfl (Nat.le_of_ble_eq_true rfl) rfl rfl ?_
            refine cz_Re_order (fun v21 hv21 => ?_)
            show Wz E Y_Ju_weigh 152 [(6, .long (σ2.2 28 (W.length + 1))), (4, .long v17), (8, .int v3), (0, .ref 27), (1, .int op), (2, .long num)] [.int v21] σ2 K
            refine z_istore (i := 8) (pc' := 154) ⟨by decide +kernel, rfl⟩ (by decide) rfl ?_
            show Wz E Y_Ju_weigh 154 [(8, .int v21), (6, .long (σ2.2 28 (W.length + 1))), (4, .long v17), (0, .ref 27), (1, .int op), (2, .long num)] [] σ2 K
            have z0L : (0 : Int64).toInt = 0 := by decide
            have z0 : (0 : Int32).toInt = 0 := by decide
            have z2 : (2 : Int32).toInt = 2 := by decide
            have gh1 := j_ge_t h1
            have gh4 := j_ne_f (y := 0) h4
            have gh15 := j_eq_f (y := 0) h15
            have gh16 := j_eq_t (y := 0) h16
            have gh18 := j_eq_f (y := 0) h18
            have p := (cs_pop2 h hs2).2.1
            rw [p.1.1] at gh4
            rw [p.1.1] at gh16
            rw [p.2.1.1] at gh15
            rw [p.2.1.1] at gh18
            rw [rl_0 (by omega) (p.1.2 ▸ hv17), rl_1 (by omega) p.2.1.2] at hv21
            exact run_Ju_weigh_t (cs_pop2 h hs2).1 hl hop hc (fun q => cpc_rt hc (by omega) hv21 q) (fun q => cpc_rf hc (by omega) hv21 q) k
        · refine z_lload (i := 4) (q := 2) (pc' := 109) ⟨by decide +kernel, rfl⟩ rfl ?_
          refine z_goto (off := 8) (tgt := 117) (pc' := 112) ⟨by decide +kernel, by decide, rfl⟩ ?_
          refine z_lstore (i := 4) (pc' := 119) ⟨by decide +kernel, rfl⟩ (by decide) rfl ?_
          show Wz E Y_Ju_weigh 119 [(4, .long (σ2.2 28 W.length)), (8, .int v3), (6, .long (σ2.2 28 (W.length + 1))), (0, .ref 27), (1, .int op), (2, .long num)] [] σ2 K
          refine z_aload_n (f := 0) (i := 0) (q := 3) (pc' := 120) ⟨by decide +kernel, rfl⟩ rfl rfl ?_
          refine w_getr (k := 27) (j := 9) (idx := 27) (pc' := 123) fxe_5_27 kfa_27_9 ⟨by decide +kernel, rfl⟩ ?_
          refine z_aload_n (f := 0) (i := 0) (q := 3) (pc' := 124) ⟨by decide +kernel, rfl⟩ rfl rfl ?_
          refine w_geti (k := 27) (j := 10) (idx := 130) (pc' := 127) fxe_5_130 kfa_27_10 ⟨by decide +kernel, rfl⟩ ?_
          refine z_iconst (i := 1) (v := 1) (pc' := 128) ⟨by decide +kernel, rfl⟩ (by decide) ?_
          refine z_iadd (pc' := 129) ⟨by decide +kernel, rfl⟩ ?_
          refine w_zald (k := 29) (n := (W.length + 1)) (pc' := 130) kaa_29 ((cs_pop2 h hs2).t1) ((cs_pop2 h hs2).2.2) ⟨by decide +kernel, rfl⟩ ?_
          refine z_if_eq (off := 8) (tgt := 138) (pc' := 133) ⟨by decide +kernel, by decide, rfl⟩ (fun h22 => ?_) (fun h22 => ?_)
          · refine z_lload (i := 6) (q := 2) (pc' := 140) ⟨by decide +kernel, rfl⟩ rfl ?_
            refine w_invS (Z := Y_Re_ofWhole) (idx := 212) (As := [.long (σ2.2 28 (W.length + 1))]) (rest := []) (pc' := 143) cl_5_212 rfl ⟨rfl, rfl⟩ ⟨⟨by decide, by decide⟩, rfl, rfl⟩ ⟨by decide +kernel, rfl⟩ rfl rfl (Nat.le_of_ble_eq_true rfl) rfl rfl ?_
            refine cz_Re_ofWhole (fun v23 hv23 => ?_)
            show Wz E Y_Ju_weigh 143 [(4, .long (σ2.2 28 W.length)), (8, .int v3), (6, .long (σ2.2 28 (W.length + 1))), (0, .ref 27), (1, .int op), (2, .long num)] [.long v23] σ2 K
            refine z_lstore (i := 6) (pc' := 145) ⟨by decide +kernel, rfl⟩ (by decide) rfl ?_
            show Wz E Y_Ju_weigh 145 [(6, .long v23), (4, .long (σ2.2 28 W.length)), (8, .int v3), (0, .ref 27), (1, .int op), (2, .long num)] [] σ2 K
            refine z_lload (i := 4) (q := 1) (pc' := 147) ⟨by decide +kernel, rfl⟩ rfl ?_
            refine z_lload (i := 6) (q := 0) (pc' := 149) ⟨by decide +kernel, rfl⟩ rfl ?_
            refine w_invS (Z := Y_Re_order) (idx := 237) (As := [.long (σ2.2 28 W.length), .long v23]) (rest := []) (pc' := 152) cl_5_237 rfl ⟨rfl, rfl⟩ ⟨⟨by decide, by decide⟩, rfl, rfl⟩ ⟨by decide +kernel, rfl⟩ rfl rfl (Nat.le_of_ble_eq_true rfl) rfl rfl ?_
            refine cz_Re_order (fun v24 hv24 => ?_)
            show Wz E Y_Ju_weigh 152 [(6, .long v23), (4, .long (σ2.2 28 W.length)), (8, .int v3), (0, .ref 27), (1, .int op), (2, .long num)] [.int v24] σ2 K
            refine z_istore (i := 8) (pc' := 154) ⟨by decide +kernel, rfl⟩ (by decide) rfl ?_
            show Wz E Y_Ju_weigh 154 [(8, .int v24), (6, .long v23), (4, .long (σ2.2 28 W.length)), (0, .ref 27), (1, .int op), (2, .long num)] [] σ2 K
            have z0L : (0 : Int64).toInt = 0 := by decide
            have z0 : (0 : Int32).toInt = 0 := by decide
            have z2 : (2 : Int32).toInt = 2 := by decide
            have gh1 := j_ge_t h1
            have gh4 := j_ne_f (y := 0) h4
            have gh15 := j_eq_f (y := 0) h15
            have gh16 := j_eq_f (y := 0) h16
            have gh22 := j_eq_t (y := 0) h22
            have p := (cs_pop2 h hs2).2.1
            rw [p.1.1] at gh4
            rw [p.1.1] at gh16
            rw [p.2.1.1] at gh15
            rw [p.2.1.1] at gh22
            rw [rl_1 (by omega) p.1.2, rl_0 (by omega) (p.2.1.2 ▸ hv23)] at hv24
            exact run_Ju_weigh_t (cs_pop2 h hs2).1 hl hop hc (fun q => cpc_rt hc (by omega) hv24 q) (fun q => cpc_rf hc (by omega) hv24 q) k
          · refine z_lload (i := 6) (q := 2) (pc' := 135) ⟨by decide +kernel, rfl⟩ rfl ?_
            refine z_goto (off := 8) (tgt := 143) (pc' := 138) ⟨by decide +kernel, by decide, rfl⟩ ?_
            refine z_lstore (i := 6) (pc' := 145) ⟨by decide +kernel, rfl⟩ (by decide) rfl ?_
            show Wz E Y_Ju_weigh 145 [(6, .long (σ2.2 28 (W.length + 1))), (4, .long (σ2.2 28 W.length)), (8, .int v3), (0, .ref 27), (1, .int op), (2, .long num)] [] σ2 K
            refine z_lload (i := 4) (q := 1) (pc' := 147) ⟨by decide +kernel, rfl⟩ rfl ?_
            refine z_lload (i := 6) (q := 0) (pc' := 149) ⟨by decide +kernel, rfl⟩ rfl ?_
            refine w_invS (Z := Y_Re_order) (idx := 237) (As := [.long (σ2.2 28 W.length), .long (σ2.2 28 (W.length + 1))]) (rest := []) (pc' := 152) cl_5_237 rfl ⟨rfl, rfl⟩ ⟨⟨by decide, by decide⟩, rfl, rfl⟩ ⟨by decide +kernel, rfl⟩ rfl rfl (Nat.le_of_ble_eq_true rfl) rfl rfl ?_
            refine cz_Re_order (fun v25 hv25 => ?_)
            show Wz E Y_Ju_weigh 152 [(6, .long (σ2.2 28 (W.length + 1))), (4, .long (σ2.2 28 W.length)), (8, .int v3), (0, .ref 27), (1, .int op), (2, .long num)] [.int v25] σ2 K
            refine z_istore (i := 8) (pc' := 154) ⟨by decide +kernel, rfl⟩ (by decide) rfl ?_
            show Wz E Y_Ju_weigh 154 [(8, .int v25), (6, .long (σ2.2 28 (W.length + 1))), (4, .long (σ2.2 28 W.length)), (0, .ref 27), (1, .int op), (2, .long num)] [] σ2 K
            have z0L : (0 : Int64).toInt = 0 := by decide
            have z0 : (0 : Int32).toInt = 0 := by decide
            have z2 : (2 : Int32).toInt = 2 := by decide
            have gh1 := j_ge_t h1
            have gh4 := j_ne_f (y := 0) h4
            have gh15 := j_eq_f (y := 0) h15
            have gh16 := j_eq_f (y := 0) h16
            have gh22 := j_eq_f (y := 0) h22
            have p := (cs_pop2 h hs2).2.1
            rw [p.1.1] at gh4
            rw [p.1.1] at gh16
            rw [p.2.1.1] at gh15
            rw [p.2.1.1] at gh22
            rw [rl_1 (by omega) p.1.2, rl_1 (by omega) p.2.1.2] at hv25
            exact run_Ju_weigh_t (cs_pop2 h hs2).1 hl hop hc (fun q => cpc_rt hc (by omega) hv25 q) (fun q => cpc_rf hc (by omega) hv25 q) k
  · refine z_iconst (i := 3) (v := 3) (pc' := 25) ⟨by decide +kernel, rfl⟩ (by decide) ?_
    refine z_iret (ty := .int) rfl rfl (by decide +kernel) ?_
    have z0L : (0 : Int64).toInt = 0 := by decide
    have z2 : (2 : Int32).toInt = 2 := by decide
    have gh1 := j_ge_f h1
    exfalso
    have := h.2.1.1
    rw [List.length_cons, List.length_cons] at this
    omega
theorem run_Wh_hasMark_l {E : xV} {σ : zS} {K : zKt} {τ : zS} {V T : List EntJ} {fl : Int} {f : Int32} {v : Int64} {fn : Nat} (h : CsJ σ τ V T fl) (hc : ∀ f : Nat, f < 480 → 0 ≤ (σ.1 8 f).toInt ∧ (σ.1 8 f).toInt ≤ 20) (hf : f.toInt = (fn : Int)) (hfn : fn < 480) (k : ∀ r : Int32, (r = 1 ∧ hasC σ fn v.toInt (σ.1 8 fn).toInt.toNat = true) ∨ (r = 0 ∧ ¬ hasC σ fn v.toInt (σ.1 8 fn).toInt.toNat = true) → K (some (.int r)) τ) : ∀ (j : Nat) {i : Int32} {n : Nat}, (σ.1 8 fn).toInt = n + j → i.toInt = n → ¬ hasC σ fn v.toInt n = true → Wz E Y_Wh_hasMark 3 [(4, .int i), (0, .ref 5), (1, .int f), (2, .long v)] [] τ K
  | 0, i, n, hj, hi, hn => by
    refine z_iload (i := 4) (q := 0) (pc' := 5) ⟨by decide +kernel, rfl⟩ rfl ?_
    refine z_aload_n (f := 0) (i := 0) (q := 1) (pc' := 6) ⟨by decide +kernel, rfl⟩ rfl rfl ?_
    refine w_getr (k := 5) (j := 5) (idx := 20) (pc' := 9) fxe_11_20 kfa_5_5 ⟨by decide +kernel, rfl⟩ ?_
    refine z_iload_n (f := 1) (i := 1) (q := 2) (pc' := 10) ⟨by decide +kernel, rfl⟩ rfl rfl ?_
    refine w_iald (k := 8) (n := fn) (pc' := 11) kaa_8 (hf) (hfn) ⟨by decide +kernel, rfl⟩ ?_
    refine z_icmp_ge (off := 28) (tgt := 39) (pc' := 14) ⟨by decide +kernel, by decide, rfl⟩ (fun h1 => ?_) (fun h1 => ?_)
    · refine z_iconst (i := 0) (v := 0) (pc' := 40) ⟨by decide +kernel, rfl⟩ (by decide) ?_
      refine z_iret (ty := .boolean) rfl rfl (by decide +kernel) ?_
      have z0L : (0 : Int64).toInt = 0 := by decide
      have gh1 := j_ge_t h1
      rw [(cs_s h fn).2.1] at gh1
      have hcn := hc fn hfn
      exact k _ (Or.inr ⟨rfl, by rw [show (σ.1 8 fn).toInt.toNat = n by omega]; exact hn⟩)
    · have z0L : (0 : Int64).toInt = 0 := by decide
      have gh1 := j_ge_f h1
      rw [(cs_s h fn).2.1] at gh1
      have hcn := hc fn hfn
      exfalso
      omega
  | j + 1, i, n, hj, hi, hn => by
    have ih := @run_Wh_hasMark_l E σ K τ V T fl f v fn h hc hf hfn k j
    refine z_iload (i := 4) (q := 0) (pc' := 5) ⟨by decide +kernel, rfl⟩ rfl ?_
    refine z_aload_n (f := 0) (i := 0) (q := 1) (pc' := 6) ⟨by decide +kernel, rfl⟩ rfl rfl ?_
    refine w_getr (k := 5) (j := 5) (idx := 20) (pc' := 9) fxe_11_20 kfa_5_5 ⟨by decide +kernel, rfl⟩ ?_
    refine z_iload_n (f := 1) (i := 1) (q := 2) (pc' := 10) ⟨by decide +kernel, rfl⟩ rfl rfl ?_
    refine w_iald (k := 8) (n := fn) (pc' := 11) kaa_8 (hf) (hfn) ⟨by decide +kernel, rfl⟩ ?_
    refine z_icmp_ge (off := 28) (tgt := 39) (pc' := 14) ⟨by decide +kernel, by decide, rfl⟩ (fun h1 => ?_) (fun h1 => ?_)
    · have z0L : (0 : Int64).toInt = 0 := by decide
      have gh1 := j_ge_t h1
      rw [(cs_s h fn).2.1] at gh1
      have hcn := hc fn hfn
      exfalso
      omega
    · refine z_aload_n (f := 0) (i := 0) (q := 1) (pc' := 15) ⟨by decide +kernel, rfl⟩ rfl rfl ?_
      refine w_getr (k := 5) (j := 6) (idx := 23) (pc' := 18) fxe_11_23 kfa_5_6 ⟨by decide +kernel, rfl⟩ ?_
      refine z_iload_n (f := 1) (i := 1) (q := 2) (pc' := 19) ⟨by decide +kernel, rfl⟩ rfl rfl ?_
      refine z_bipush (i := 20) (v := 20) (pc' := 21) ⟨by decide +kernel, rfl⟩ (by decide) ?_
      refine z_imul (pc' := 22) ⟨by decide +kernel, rfl⟩ ?_
      refine z_iload (i := 4) (q := 0) (pc' := 24) ⟨by decide +kernel, rfl⟩ rfl ?_
      refine z_iadd (pc' := 25) ⟨by decide +kernel, rfl⟩ ?_
      refine w_lald (k := 9) (n := (20 * fn + n)) (pc' := 26) kaa_9 (lx_b hf hfn hi (by have q := j_ge_f h1; rw [(cs_s h fn).2.1] at q; have := hc fn hfn; omega)) (by have q := j_ge_f h1; rw [(cs_s h fn).2.1] at q; have := hc fn hfn; omega) ⟨by decide +kernel, rfl⟩ ?_
      refine z_lload_n (f := 2) (i := 2) (q := 3) (pc' := 27) ⟨by decide +kernel, rfl⟩ rfl rfl ?_
      refine z_lcmp (pc' := 28) ⟨by decide +kernel, rfl⟩ ?_
      refine z_if_ne (off := 5) (tgt := 33) (pc' := 31) ⟨by decide +kernel, by decide, rfl⟩ (fun h2 => ?_) (fun h2 => ?_)
      · refine z_iinc (i := 4) (z := 1) (q := 0) (pc' := 36) ⟨by decide +kernel, rfl⟩ rfl rfl (by decide) rfl ?_
        show Wz E Y_Wh_hasMark 36 [(4, .int (i + Int32.ofInt 1)), (0, .ref 5), (1, .int f), (2, .long v)] [] τ K
        refine z_goto (off := (-33)) (tgt := 3) (pc' := 39) ⟨by decide +kernel, by decide, rfl⟩ ?_
        have z0L : (0 : Int64).toInt = 0 := by decide
        have gh1 := j_ge_f h1
        have gh2 := k_ne_t h2
        rw [(cs_s h fn).2.1] at gh1
        rw [(cs_s h (20 * fn + n)).2.2.1] at gh2
        have hcn := hc fn hfn
        have e1 : (Int32.ofInt 1).toInt = 1 := by decide
        exact ih (n := n + 1) (by omega) (by rw [i32_add (by rw [e1]; omega), e1]; omega) (hac_ne hn gh2)
      · refine z_iconst (i := 1) (v := 1) (pc' := 32) ⟨by decide +kernel, rfl⟩ (by decide) ?_
        refine z_iret (ty := .boolean) rfl rfl (by decide +kernel) ?_
        have z0L : (0 : Int64).toInt = 0 := by decide
        have gh1 := j_ge_f h1
        have gh2 := k_ne_f h2
        rw [(cs_s h fn).2.1] at gh1
        have hcn := hc fn hfn
        rw [(cs_s h (20 * fn + n)).2.2.1] at gh2
        exact k _ (Or.inl ⟨rfl, hac_eq gh2 (by omega)⟩)
theorem run_Wh_hasMark {E : xV} {σ τ : zS} {K : zKt} {V T : List EntJ} {fl : Int} {f : Int32} {v : Int64} {fn : Nat} (h : CsJ σ τ V T fl) (hc : ∀ f : Nat, f < 480 → 0 ≤ (σ.1 8 f).toInt ∧ (σ.1 8 f).toInt ≤ 20) (hf : f.toInt = (fn : Int)) (hfn : fn < 480) (k : ∀ r : Int32, (r = 1 ∧ hasC σ fn v.toInt (σ.1 8 fn).toInt.toNat = true) ∨ (r = 0 ∧ ¬ hasC σ fn v.toInt (σ.1 8 fn).toInt.toNat = true) → K (some (.int r)) τ) : Wz E Y_Wh_hasMark 0 [(0, .ref 5), (1, .int f), (2, .long v)] [] τ K := by
  refine z_iconst (i := 0) (v := 0) (pc' := 1) ⟨by decide +kernel, rfl⟩ (by decide) ?_
  refine z_istore (i := 4) (pc' := 3) ⟨by decide +kernel, rfl⟩ (by decide) rfl ?_
  show Wz E Y_Wh_hasMark 3 [(4, .int 0), (0, .ref 5), (1, .int f), (2, .long v)] [] τ K
  have z0L : (0 : Int64).toInt = 0 := by decide
  have hcn := hc fn hfn
  exact run_Wh_hasMark_l h hc hf hfn k (σ.1 8 fn).toInt.toNat (n := 0) (by omega) (by decide) (by show ¬ false = true; decide)
theorem cz_Wh_hasMark {E : xV} {σ τ : zS} {K : zKt} {V T : List EntJ} {fl : Int} {f : Int32} {v : Int64} {fn : Nat} (h : CsJ σ τ V T fl) (hc : ∀ f : Nat, f < 480 → 0 ≤ (σ.1 8 f).toInt ∧ (σ.1 8 f).toInt ≤ 20) (hf : f.toInt = (fn : Int)) (hfn : fn < 480) (k : ∀ r : Int32, (r = 1 ∧ hasC σ fn v.toInt (σ.1 8 fn).toInt.toNat = true) ∨ (r = 0 ∧ ¬ hasC σ fn v.toInt (σ.1 8 fn).toInt.toNat = true) → K (some (.int r)) τ) : Cz E Y_Wh_hasMark [.ref 5, .int f, .long v] τ K := z_entry (by decide) (fun a => by rw [sl_len]; exact Nat.le_of_ble_eq_true rfl) rfl (run_Wh_hasMark h hc hf hfn k)
theorem run_Ju_weighAmong {E : xV} {σ τ : zS} {K : zKt} {W T : List EntJ} {x : EntJ} {f : Int32} {fn : Nat} (h : CsJ σ τ (x :: W) T 0) (hl : T.length < 64) (hc : ∀ f : Nat, f < 480 → 0 ≤ (σ.1 8 f).toInt ∧ (σ.1 8 f).toInt ≤ 20) (hf : f.toInt = (fn : Int)) (hfn : fn < 480) (k : ∀ (τ' : zS) (o : Int32), OutT σ τ' (onJ9 (mgC σ fn) x) W T o → K (some (.int o)) τ') : Wz E Y_Ju_weighAmong 0 [(0, .ref 27), (1, .int f)] [] τ K := by
  refine z_aload_n (f := 0) (i := 0) (q := 0) (pc' := 1) ⟨by decide +kernel, rfl⟩ rfl rfl ?_
  refine w_geti (k := 27) (j := 10) (idx := 130) (pc' := 4) fxe_5_130 kfa_27_10 ⟨by decide +kernel, rfl⟩ ?_
  refine z_iconst (i := 1) (v := 1) (pc' := 5) ⟨by decide +kernel, rfl⟩ (by decide) ?_
  refine z_icmp_ge (off := 5) (tgt := 10) (pc' := 8) ⟨by decide +kernel, by decide, rfl⟩ (fun h1 => ?_) (fun h1 => ?_)
  · refine z_aload_n (f := 0) (i := 0) (q := 0) (pc' := 11) ⟨by decide +kernel, rfl⟩ rfl rfl ?_
    refine z_dupr (pc' := 12) ⟨by decide +kernel, rfl⟩ ?_
    refine w_geti (k := 27) (j := 10) (idx := 130) (pc' := 15) fxe_5_130 kfa_27_10 ⟨by decide +kernel, rfl⟩ ?_
    refine z_iconst (i := 1) (v := 1) (pc' := 16) ⟨by decide +kernel, rfl⟩ (by decide) ?_
    refine z_isub (pc' := 17) ⟨by decide +kernel, rfl⟩ ?_
    refine w_puti (k := 27) (j := 10) (idx := 130) (pc' := 20) fxi_5_130 kfa_27_10 ⟨by decide +kernel, rfl⟩ ?_
    generalize hs2 : zI τ 27 10 ((τ.1 27 10) - 1) = σ2
    refine z_aload_n (f := 0) (i := 0) (q := 0) (pc' := 21) ⟨by decide +kernel, rfl⟩ rfl rfl ?_
    refine w_getr (k := 27) (j := 9) (idx := 27) (pc' := 24) fxe_5_27 kfa_27_9 ⟨by decide +kernel, rfl⟩ ?_
    refine z_aload_n (f := 0) (i := 0) (q := 0) (pc' := 25) ⟨by decide +kernel, rfl⟩ rfl rfl ?_
    refine w_geti (k := 27) (j := 10) (idx := 130) (pc' := 28) fxe_5_130 kfa_27_10 ⟨by decide +kernel, rfl⟩ ?_
    refine w_zald (k := 29) (n := W.length) (pc' := 29) kaa_29 ((cs_pop h hs2).1.2.1.1) ((cs_pop h hs2).2.2) ⟨by decide +kernel, rfl⟩ ?_
    refine z_if_eq (off := 9) (tgt := 38) (pc' := 32) ⟨by decide +kernel, by decide, rfl⟩ (fun h3 => ?_) (fun h3 => ?_)
    · refine z_aload_n (f := 0) (i := 0) (q := 0) (pc' := 39) ⟨by decide +kernel, rfl⟩ rfl rfl ?_
      refine w_getr (k := 27) (j := 0) (idx := 9) (pc' := 42) fxe_5_9 kfa_27_0 ⟨by decide +kernel, rfl⟩ ?_
      refine w_getr (k := 5) (j := 4) (idx := 187) (pc' := 45) fxe_5_187 kfa_5_4 ⟨by decide +kernel, rfl⟩ ?_
      refine z_iload_n (f := 1) (i := 1) (q := 1) (pc' := 46) ⟨by decide +kernel, rfl⟩ rfl rfl ?_
      refine w_iald (k := 7) (n := fn) (pc' := 47) kaa_7 (hf) (hfn) ⟨by decide +kernel, rfl⟩ ?_
      refine z_if_ne (off := 5) (tgt := 52) (pc' := 50) ⟨by decide +kernel, by decide, rfl⟩ (fun h4 => ?_) (fun h4 => ?_)
      · refine z_aload_n (f := 0) (i := 0) (q := 0) (pc' := 53) ⟨by decide +kernel, rfl⟩ rfl rfl ?_
        refine w_getr (k := 27) (j := 0) (idx := 9) (pc' := 56) fxe_5_9 kfa_27_0 ⟨by decide +kernel, rfl⟩ ?_
        refine w_getr (k := 5) (j := 4) (idx := 187) (pc' := 59) fxe_5_187 kfa_5_4 ⟨by decide +kernel, rfl⟩ ?_
        refine z_iload_n (f := 1) (i := 1) (q := 1) (pc' := 60) ⟨by decide +kernel, rfl⟩ rfl rfl ?_
        refine w_iald (k := 7) (n := fn) (pc' := 61) kaa_7 (hf) (hfn) ⟨by decide +kernel, rfl⟩ ?_
        refine z_iconst (i := 3) (v := 3) (pc' := 62) ⟨by decide +kernel, rfl⟩ (by decide) ?_
        refine z_icmp_eq (off := 9) (tgt := 71) (pc' := 65) ⟨by decide +kernel, by decide, rfl⟩ (fun h5 => ?_) (fun h5 => ?_)
        · refine z_aload_n (f := 0) (i := 0) (q := 0) (pc' := 72) ⟨by decide +kernel, rfl⟩ rfl rfl ?_
          refine z_aload_n (f := 0) (i := 0) (q := 0) (pc' := 73) ⟨by decide +kernel, rfl⟩ rfl rfl ?_
          refine w_getr (k := 27) (j := 0) (idx := 9) (pc' := 76) fxe_5_9 kfa_27_0 ⟨by decide +kernel, rfl⟩ ?_
          refine z_iload_n (f := 1) (i := 1) (q := 1) (pc' := 77) ⟨by decide +kernel, rfl⟩ rfl rfl ?_
          refine z_aload_n (f := 0) (i := 0) (q := 0) (pc' := 78) ⟨by decide +kernel, rfl⟩ rfl rfl ?_
          refine w_getr (k := 27) (j := 8) (idx := 23) (pc' := 81) fxe_5_23 kfa_27_8 ⟨by decide +kernel, rfl⟩ ?_
          refine z_aload_n (f := 0) (i := 0) (q := 0) (pc' := 82) ⟨by decide +kernel, rfl⟩ rfl rfl ?_
          refine w_geti (k := 27) (j := 10) (idx := 130) (pc' := 85) fxe_5_130 kfa_27_10 ⟨by decide +kernel, rfl⟩ ?_
          refine w_lald (k := 28) (n := W.length) (pc' := 86) kaa_28 ((cs_pop h hs2).1.2.1.1) ((cs_pop h hs2).2.2) ⟨by decide +kernel, rfl⟩ ?_
          refine w_invV (Z := Y_Wh_hasMark) (idx := 243) (kb := 5) (As := [.int f, .long (σ2.2 28 W.length)]) (rest := [.ref 27]) (pc' := 89) cl_5_243 rfl ⟨rfl, rfl⟩ kfa_5_0 rfl ⟨⟨by decide, by decide⟩, rfl, rfl⟩ ⟨by decide +kernel, rfl⟩ rfl rfl (Nat.le_of_ble_eq_true rfl) rfl rfl ?_
          refine cz_Wh_hasMark (cs_pop h hs2).1 hc hf hfn (fun v6 hv6 => ?_)
          show Wz E Y_Ju_weighAmong 89 [(0, .ref 27), (1, .int f)] [.int v6, .ref 27] σ2 K
          refine z_if_eq (off := 7) (tgt := 96) (pc' := 92) ⟨by decide +kernel, by decide, rfl⟩ (fun h7 => ?_) (fun h7 => ?_)
          · refine z_iconst (i := 0) (v := 0) (pc' := 97) ⟨by decide +kernel, rfl⟩ (by decide) ?_
            refine w_invV (Z := Y_Ju_pushTruth) (idx := 162) (kb := 27) (As := [.int 0]) (rest := []) (pc' := 100) cl_5_162 rfl ⟨rfl, rfl⟩ kfa_27_0 rfl ⟨⟨by decide, by decide⟩, rfl, rfl⟩ ⟨by decide +kernel, rfl⟩ rfl rfl (Nat.le_of_ble_eq_true rfl) rfl rfl ?_
            refine cz_Ju_pushTruth (x := (5, 0)) (cs_pop h hs2).1 hl (by decide) (by decide) (fun σ8 hv8 => ?_)
            show Wz E Y_Ju_weighAmong 100 [(0, .ref 27), (1, .int f)] [] σ8 K
            refine z_iconst (i := 4) (v := 4) (pc' := 101) ⟨by decide +kernel, rfl⟩ (by decide) ?_
            refine z_iret (ty := .int) rfl rfl (by decide +kernel) ?_
            have z0L : (0 : Int64).toInt = 0 := by decide
            have z0 : (0 : Int32).toInt = 0 := by decide
            have z1 : (1 : Int32).toInt = 1 := by decide
            have z3 : (3 : Int32).toInt = 3 := by decide
            have gh1 := j_ge_t h1
            have gh3 := j_eq_t (y := 0) h3
            have gh4 := j_ne_t (y := 0) h4
            have gh5 := j_eq_t h5
            have gh7 := p3_f hv6 h7
            have p := (cs_pop h hs2).2.1
            have p0 := (cs_pop h hs2).1
            rw [p.1.1] at gh3
            rw [(cs_s p0 fn).1] at gh4
            rw [(cs_s p0 fn).1] at gh5
            rw [p.1.2] at gh7
            exact k _ _ (outt_4 (by rw [on_wh (by omega), mgc_0 (by omega) gh7]) (by decide) (by decide) hv8)
          · refine z_iconst (i := 1) (v := 1) (pc' := 93) ⟨by decide +kernel, rfl⟩ (by decide) ?_
            refine z_goto (off := 4) (tgt := 97) (pc' := 96) ⟨by decide +kernel, by decide, rfl⟩ ?_
            refine w_invV (Z := Y_Ju_pushTruth) (idx := 162) (kb := 27) (As := [.int 1]) (rest := []) (pc' := 100) cl_5_162 rfl ⟨rfl, rfl⟩ kfa_27_0 rfl ⟨⟨by decide, by decide⟩, rfl, rfl⟩ ⟨by decide +kernel, rfl⟩ rfl rfl (Nat.le_of_ble_eq_true rfl) rfl rfl ?_
            refine cz_Ju_pushTruth (x := (4, 0)) (cs_pop h hs2).1 hl (by decide) (by decide) (fun σ9 hv9 => ?_)
            show Wz E Y_Ju_weighAmong 100 [(0, .ref 27), (1, .int f)] [] σ9 K
            refine z_iconst (i := 4) (v := 4) (pc' := 101) ⟨by decide +kernel, rfl⟩ (by decide) ?_
            refine z_iret (ty := .int) rfl rfl (by decide +kernel) ?_
            have z0L : (0 : Int64).toInt = 0 := by decide
            have z0 : (0 : Int32).toInt = 0 := by decide
            have z1 : (1 : Int32).toInt = 1 := by decide
            have z3 : (3 : Int32).toInt = 3 := by decide
            have gh1 := j_ge_t h1
            have gh3 := j_eq_t (y := 0) h3
            have gh4 := j_ne_t (y := 0) h4
            have gh5 := j_eq_t h5
            have gh7 := p3_t hv6 h7
            have p := (cs_pop h hs2).2.1
            have p0 := (cs_pop h hs2).1
            rw [p.1.1] at gh3
            rw [(cs_s p0 fn).1] at gh4
            rw [(cs_s p0 fn).1] at gh5
            rw [p.1.2] at gh7
            exact k _ _ (outt_4 (by rw [on_wh (by omega), mgc_1 (by omega) gh7]) (by decide) (by decide) hv9)
        · refine z_aload_n (f := 0) (i := 0) (q := 0) (pc' := 66) ⟨by decide +kernel, rfl⟩ rfl rfl ?_
          refine z_iconst (i := 4) (v := 4) (pc' := 67) ⟨by decide +kernel, rfl⟩ (by decide) ?_
          refine w_invV (Z := Y_Ju_failBy) (idx := 196) (kb := 27) (As := [.int 4]) (rest := []) (pc' := 70) cl_5_196 rfl ⟨rfl, rfl⟩ kfa_27_0 rfl ⟨⟨by decide, by decide⟩, rfl, rfl⟩ ⟨by decide +kernel, rfl⟩ rfl rfl (Nat.le_of_ble_eq_true rfl) rfl rfl ?_
          refine cz_Ju_failBy (cs_pop h hs2).1 (fun σ10 v10 hv10a hv10b => ?_)
          show Wz E Y_Ju_weighAmong 70 [(0, .ref 27), (1, .int f)] [.int v10] σ10 K
          refine z_iret (ty := .int) rfl rfl (by decide +kernel) ?_
          have z0L : (0 : Int64).toInt = 0 := by decide
          have z0 : (0 : Int32).toInt = 0 := by decide
          have z1 : (1 : Int32).toInt = 1 := by decide
          have z3 : (3 : Int32).toInt = 3 := by decide
          have gh1 := j_ge_t h1
          have gh3 := j_eq_t (y := 0) h3
          have gh4 := j_ne_t (y := 0) h4
          have gh5 := j_eq_f h5
          have p := (cs_pop h hs2).2.1
          have p0 := (cs_pop h hs2).1
          rw [p.1.1] at gh3
          rw [(cs_s p0 fn).1] at gh4
          rw [(cs_s p0 fn).1] at gh5
          exact k _ _ (outt_3 (by rw [on_wh (by omega), mgc_x (by omega) (by omega)]) hv10a (by have e : (4 : Int32).toInt = 4 := (by decide); rw [e] at hv10b; exact hv10b))
      · refine z_iconst (i := 2) (v := 2) (pc' := 51) ⟨by decide +kernel, rfl⟩ (by decide) ?_
        refine z_iret (ty := .int) rfl rfl (by decide +kernel) ?_
        have z0L : (0 : Int64).toInt = 0 := by decide
        have z0 : (0 : Int32).toInt = 0 := by decide
        have z1 : (1 : Int32).toInt = 1 := by decide
        have gh1 := j_ge_t h1
        have gh3 := j_eq_t (y := 0) h3
        have gh4 := j_ne_f (y := 0) h4
        have p := (cs_pop h hs2).2.1
        have p0 := (cs_pop h hs2).1
        rw [p.1.1] at gh3
        rw [(cs_s p0 fn).1] at gh4
        exact k _ _ (outt_2 (by rw [on_wh (by omega), mgc_u0 (by omega)]) (by decide) p0)
    · refine z_aload_n (f := 0) (i := 0) (q := 0) (pc' := 33) ⟨by decide +kernel, rfl⟩ rfl rfl ?_
      refine z_iconst (i := 4) (v := 4) (pc' := 34) ⟨by decide +kernel, rfl⟩ (by decide) ?_
      refine w_invV (Z := Y_Ju_failBy) (idx := 196) (kb := 27) (As := [.int 4]) (rest := []) (pc' := 37) cl_5_196 rfl ⟨rfl, rfl⟩ kfa_27_0 rfl ⟨⟨by decide, by decide⟩, rfl, rfl⟩ ⟨by decide +kernel, rfl⟩ rfl rfl (Nat.le_of_ble_eq_true rfl) rfl rfl ?_
      refine cz_Ju_failBy (cs_pop h hs2).1 (fun σ11 v11 hv11a hv11b => ?_)
      show Wz E Y_Ju_weighAmong 37 [(0, .ref 27), (1, .int f)] [.int v11] σ11 K
      refine z_iret (ty := .int) rfl rfl (by decide +kernel) ?_
      have z0L : (0 : Int64).toInt = 0 := by decide
      have z0 : (0 : Int32).toInt = 0 := by decide
      have z1 : (1 : Int32).toInt = 1 := by decide
      have gh1 := j_ge_t h1
      have gh3 := j_eq_f (y := 0) h3
      have p := (cs_pop h hs2).2.1
      have p0 := (cs_pop h hs2).1
      rw [p.1.1] at gh3
      exact k _ _ (outt_3 (on_re (by omega)) hv11a (by have e : (4 : Int32).toInt = 4 := (by decide); rw [e] at hv11b; exact hv11b))
  · refine z_iconst (i := 3) (v := 3) (pc' := 9) ⟨by decide +kernel, rfl⟩ (by decide) ?_
    refine z_iret (ty := .int) rfl rfl (by decide +kernel) ?_
    have z0L : (0 : Int64).toInt = 0 := by decide
    have z1 : (1 : Int32).toInt = 1 := by decide
    have gh1 := j_ge_f h1
    exfalso
    have := h.2.1.1
    rw [List.length_cons] at this
    omega
theorem cz_Ju_weighAmong {E : xV} {σ τ : zS} {K : zKt} {W T : List EntJ} {x : EntJ} {f : Int32} {fn : Nat} (h : CsJ σ τ (x :: W) T 0) (hl : T.length < 64) (hc : ∀ f : Nat, f < 480 → 0 ≤ (σ.1 8 f).toInt ∧ (σ.1 8 f).toInt ≤ 20) (hf : f.toInt = (fn : Int)) (hfn : fn < 480) (k : ∀ (τ' : zS) (o : Int32), OutT σ τ' (onJ9 (mgC σ fn) x) W T o → K (some (.int o)) τ') : Cz E Y_Ju_weighAmong [.ref 27, .int f] τ K := z_entry (by decide) (fun a => by rw [sl_len]; exact Nat.le_of_ble_eq_true rfl) rfl (run_Ju_weighAmong h hl hc hf hfn k)
theorem cz_Ju_weigh {E : xV} {σ τ : zS} {K : zKt} {V W T : List EntJ} {op : Int32} {num : Int64} {c : Nat} {x : EntJ} (h : CsJ σ τ V T 0) (hl : T.length < 64) (hop : op.toInt = (c : Int)) (hcop : cop9 (ECV σ) c num.toInt V = some (x, W)) (h13 : 13 ≤ c) (h19 : c ≤ 19) (hc : ∀ f : Nat, f < 480 → 0 ≤ (σ.1 8 f).toInt ∧ (σ.1 8 f).toInt ≤ 20) (hw : 0 ≤ (σ.1 27 3).toInt ∧ (σ.1 27 3).toInt ≤ 19) (hth : 0 ≤ (σ.1 27 5).toInt ∧ (σ.1 27 5).toInt ≤ 39) (hx : c = 19 → 0 ≤ num.toInt ∧ num.toInt ≤ 15) (k : ∀ (τ' : zS) (o : Int32), OutT σ τ' (x) W T o → K (some (.int o)) τ') : Cz E Y_Ju_weigh [.ref 27, .int op, .long num] τ K := by
  refine z_entry (by decide) (fun a => by rw [sl_len]; exact Nat.le_of_ble_eq_true rfl) rfl ?_
  show Wz E Y_Ju_weigh 0 [(0, .ref 27), (1, .int op), (2, .long num)] [] τ K
  have z19 : (19 : Int32).toInt = 19 := by decide
  by_cases hc19 : c = 19
  · have hx := hx hc19
    obtain ⟨a, rfl, rfl⟩ := cop_19 hcop (by omega)
    have hfn := fs_lt (v := c32 num.toInt) hw hth (by rw [c32_s hx]; exact hx)
    refine z_iload_n (f := 1) (i := 1) (q := 1) (pc' := 1) ⟨by decide +kernel, rfl⟩ rfl rfl ?_
    refine z_bipush (i := 19) (v := 19) (pc' := 3) ⟨by decide +kernel, rfl⟩ (by decide) ?_
    refine z_icmp_ne (off := 13) (tgt := 16) (pc' := 6) ⟨by decide +kernel, by decide, rfl⟩ (fun h1 => ?_) (fun h1 => ?_)
    · have z0L : (0 : Int64).toInt = 0 := by decide
      have z19 : (19 : Int32).toInt = 19 := by decide
      have gh1 := j_ne_t h1
      exfalso
      omega
    · refine z_aload_n (f := 0) (i := 0) (q := 0) (pc' := 7) ⟨by decide +kernel, rfl⟩ rfl rfl ?_
      refine z_aload_n (f := 0) (i := 0) (q := 0) (pc' := 8) ⟨by decide +kernel, rfl⟩ rfl rfl ?_
      refine z_lload_n (f := 2) (i := 2) (q := 2) (pc' := 9) ⟨by decide +kernel, rfl⟩ rfl rfl ?_
      refine w_invV (Z := Y_Ju_slotOf) (idx := 183) (kb := 27) (As := [.long num]) (rest := [.ref 27]) (pc' := 12) cl_5_183 rfl ⟨rfl, rfl⟩ kfa_27_0 rfl ⟨⟨by decide, by decide⟩, rfl, rfl⟩ ⟨by decide +kernel, rfl⟩ rfl rfl (Nat.le_of_ble_eq_true rfl) rfl rfl ?_
      refine cz_Ju_slotOf h hw hth hx (fun v2 hv2 => ?_)
      show Wz E Y_Ju_weigh 12 [(0, .ref 27), (1, .int op), (2, .long num)] [.int v2, .ref 27] τ K
      refine w_invV (Z := Y_Ju_weighAmong) (idx := 228) (kb := 27) (As := [.int v2]) (rest := []) (pc' := 15) cl_5_228 rfl ⟨rfl, rfl⟩ kfa_27_0 rfl ⟨⟨by decide, by decide⟩, rfl, rfl⟩ ⟨by decide +kernel, rfl⟩ rfl rfl (Nat.le_of_ble_eq_true rfl) rfl rfl ?_
      refine cz_Ju_weighAmong h hl hc hv2 hfn (fun σ3 v3 hv3 => ?_)
      show Wz E Y_Ju_weigh 15 [(0, .ref 27), (1, .int op), (2, .long num)] [.int v3] σ3 K
      refine z_iret (ty := .int) rfl rfl (by decide +kernel) ?_
      have z0L : (0 : Int64).toInt = 0 := by decide
      have z19 : (19 : Int32).toInt = 19 := by decide
      have gh1 := j_ne_f h1
      exact k _ _ (by rw [show onJ9 ((ECV σ).mg num.toInt) a = onJ9 (mgC σ (fsJ (σ.1 27 3).toInt (σ.1 27 5).toInt (c32 num.toInt))) a by unfold onJ9; rw [ec_mg hfn]]; exact hv3)
  · obtain ⟨a, b, rfl, rfl⟩ := cop_13 hcop h13 (by omega)
    refine z_iload_n (f := 1) (i := 1) (q := 1) (pc' := 1) ⟨by decide +kernel, rfl⟩ rfl rfl ?_
    refine z_bipush (i := 19) (v := 19) (pc' := 3) ⟨by decide +kernel, rfl⟩ (by decide) ?_
    refine z_icmp_ne (off := 13) (tgt := 16) (pc' := 6) ⟨by decide +kernel, by decide, rfl⟩ (fun _ => run_Ju_weigh_2 h hl hop ⟨h13, by omega⟩ k) (fun q => ?_)
    exact absurd (j_eq_t q) (by omega)
theorem run_Ju_combine_20 {E : xV} {σ τ : zS} {K : zKt} {V T : List EntJ} {fl : Int} {op : Int32} {num : Int64} (h : CsJ σ τ V T fl) (hl : T.length < 64) (hop : op.toInt = 20) (hw : 0 ≤ (σ.1 27 3).toInt ∧ (σ.1 27 3).toInt ≤ 19) (hth : 0 ≤ (σ.1 27 5).toInt ∧ (σ.1 27 5).toInt ≤ 39) (hx : 0 ≤ num.toInt ∧ num.toInt ≤ 15) (k : ∀ τ' : zS, CsJ σ τ' V ((ECV σ).kn num.toInt :: T) fl → K none τ') : Wz E Y_Ju_combine 0 [(0, .ref 27), (1, .int op), (2, .long num)] [] τ K := by
  have hfn := fs_lt (v := c32 num.toInt) hw hth (by rw [c32_s hx]; exact hx)
  refine z_iload_n (f := 1) (i := 1) (q := 1) (pc' := 1) ⟨by decide +kernel, rfl⟩ rfl rfl ?_
  refine z_bipush (i := 20) (v := 20) (pc' := 3) ⟨by decide +kernel, rfl⟩ (by decide) ?_
  refine z_icmp_ne (off := 29) (tgt := 32) (pc' := 6) ⟨by decide +kernel, by decide, rfl⟩ (fun h1 => ?_) (fun h1 => ?_)
  · have z0L : (0 : Int64).toInt = 0 := by decide
    have z20 : (20 : Int32).toInt = 20 := by decide
    have gh1 := j_ne_t h1
    exfalso
    omega
  · refine z_aload_n (f := 0) (i := 0) (q := 0) (pc' := 7) ⟨by decide +kernel, rfl⟩ rfl rfl ?_
    refine z_aload_n (f := 0) (i := 0) (q := 0) (pc' := 8) ⟨by decide +kernel, rfl⟩ rfl rfl ?_
    refine w_getr (k := 27) (j := 0) (idx := 9) (pc' := 11) fxe_5_9 kfa_27_0 ⟨by decide +kernel, rfl⟩ ?_
    refine w_getr (k := 5) (j := 4) (idx := 187) (pc' := 14) fxe_5_187 kfa_5_4 ⟨by decide +kernel, rfl⟩ ?_
    refine z_aload_n (f := 0) (i := 0) (q := 0) (pc' := 15) ⟨by decide +kernel, rfl⟩ rfl rfl ?_
    refine z_lload_n (f := 2) (i := 2) (q := 2) (pc' := 16) ⟨by decide +kernel, rfl⟩ rfl rfl ?_
    refine w_invV (Z := Y_Ju_slotOf) (idx := 183) (kb := 27) (As := [.long num]) (rest := [.ref 7, .ref 27]) (pc' := 19) cl_5_183 rfl ⟨rfl, rfl⟩ kfa_27_0 rfl ⟨⟨by decide, by decide⟩, rfl, rfl⟩ ⟨by decide +kernel, rfl⟩ rfl rfl (Nat.le_of_ble_eq_true rfl) rfl rfl ?_
    refine cz_Ju_slotOf h hw hth hx (fun v2 hv2 => ?_)
    show Wz E Y_Ju_combine 19 [(0, .ref 27), (1, .int op), (2, .long num)] [.int v2, .ref 7, .ref 27] τ K
    refine w_iald (k := 7) (n := (fsJ (σ.1 27 3).toInt (σ.1 27 5).toInt (c32 num.toInt))) (pc' := 20) kaa_7 (hv2) (hfn) ⟨by decide +kernel, rfl⟩ ?_
    refine z_if_eq (off := 7) (tgt := 27) (pc' := 23) ⟨by decide +kernel, by decide, rfl⟩ (fun h3 => ?_) (fun h3 => ?_)
    · refine z_iconst (i := 0) (v := 0) (pc' := 28) ⟨by decide +kernel, rfl⟩ (by decide) ?_
      refine w_invV (Z := Y_Ju_pushTruth) (idx := 162) (kb := 27) (As := [.int 0]) (rest := []) (pc' := 31) cl_5_162 rfl ⟨rfl, rfl⟩ kfa_27_0 rfl ⟨⟨by decide, by decide⟩, rfl, rfl⟩ ⟨by decide +kernel, rfl⟩ rfl rfl (Nat.le_of_ble_eq_true rfl) rfl rfl ?_
      refine cz_Ju_pushTruth (x := (5, 0)) h hl (by decide) (by decide) (fun σ4 hv4 => ?_)
      show Wz E Y_Ju_combine 31 [(0, .ref 27), (1, .int op), (2, .long num)] [] σ4 K
      refine z_vret rfl (by decide +kernel) ?_
      have z0L : (0 : Int64).toInt = 0 := by decide
      have z0 : (0 : Int32).toInt = 0 := by decide
      have z20 : (20 : Int32).toInt = 20 := by decide
      have gh1 := j_ne_f h1
      have gh3 := j_eq_t (y := 0) h3
      rw [(cs_s h (fsJ (σ.1 27 3).toInt (σ.1 27 5).toInt (c32 num.toInt))).1] at gh3
      exact k _ (by rw [ec_kn0 (by omega)]; exact hv4)
    · refine z_iconst (i := 1) (v := 1) (pc' := 24) ⟨by decide +kernel, rfl⟩ (by decide) ?_
      refine z_goto (off := 4) (tgt := 28) (pc' := 27) ⟨by decide +kernel, by decide, rfl⟩ ?_
      refine w_invV (Z := Y_Ju_pushTruth) (idx := 162) (kb := 27) (As := [.int 1]) (rest := []) (pc' := 31) cl_5_162 rfl ⟨rfl, rfl⟩ kfa_27_0 rfl ⟨⟨by decide, by decide⟩, rfl, rfl⟩ ⟨by decide +kernel, rfl⟩ rfl rfl (Nat.le_of_ble_eq_true rfl) rfl rfl ?_
      refine cz_Ju_pushTruth (x := (4, 0)) h hl (by decide) (by decide) (fun σ5 hv5 => ?_)
      show Wz E Y_Ju_combine 31 [(0, .ref 27), (1, .int op), (2, .long num)] [] σ5 K
      refine z_vret rfl (by decide +kernel) ?_
      have z0L : (0 : Int64).toInt = 0 := by decide
      have z0 : (0 : Int32).toInt = 0 := by decide
      have z20 : (20 : Int32).toInt = 20 := by decide
      have gh1 := j_ne_f h1
      have gh3 := j_eq_f (y := 0) h3
      rw [(cs_s h (fsJ (σ.1 27 3).toInt (σ.1 27 5).toInt (c32 num.toInt))).1] at gh3
      exact k _ (by rw [ec_kn1 hfn (by omega)]; exact hv5)
theorem run_Ju_combine_21 {E : xV} {σ τ : zS} {K : zKt} {V T : List EntJ} {fl : Int} {op : Int32} {num : Int64} {x : EntJ} (h : CsJ σ τ V (x :: T) fl) (hop : op.toInt = 21) (k : ∀ τ' : zS, CsJ σ τ' V (nt9 x :: T) fl → K none τ') : Wz E Y_Ju_combine 0 [(0, .ref 27), (1, .int op), (2, .long num)] [] τ K := by
  refine z_iload_n (f := 1) (i := 1) (q := 1) (pc' := 1) ⟨by decide +kernel, rfl⟩ rfl rfl ?_
  refine z_bipush (i := 20) (v := 20) (pc' := 3) ⟨by decide +kernel, rfl⟩ (by decide) ?_
  refine z_icmp_ne (off := 29) (tgt := 32) (pc' := 6) ⟨by decide +kernel, by decide, rfl⟩ (fun h1 => ?_) (fun h1 => ?_)
  · refine z_iload_n (f := 1) (i := 1) (q := 1) (pc' := 33) ⟨by decide +kernel, rfl⟩ rfl rfl ?_
    refine z_bipush (i := 21) (v := 21) (pc' := 35) ⟨by decide +kernel, rfl⟩ (by decide) ?_
    refine z_icmp_ne (off := 51) (tgt := 86) (pc' := 38) ⟨by decide +kernel, by decide, rfl⟩ (fun h2 => ?_) (fun h2 => ?_)
    · have z0L : (0 : Int64).toInt = 0 := by decide
      have z20 : (20 : Int32).toInt = 20 := by decide
      have z21 : (21 : Int32).toInt = 21 := by decide
      have gh1 := j_ne_t h1
      have gh2 := j_ne_t h2
      exfalso
      omega
    · refine z_aload_n (f := 0) (i := 0) (q := 0) (pc' := 39) ⟨by decide +kernel, rfl⟩ rfl rfl ?_
      refine w_geti (k := 27) (j := 12) (idx := 133) (pc' := 42) fxe_5_133 kfa_27_12 ⟨by decide +kernel, rfl⟩ ?_
      refine z_iconst (i := 1) (v := 1) (pc' := 43) ⟨by decide +kernel, rfl⟩ (by decide) ?_
      refine z_icmp_lt (off := 42) (tgt := 85) (pc' := 46) ⟨by decide +kernel, by decide, rfl⟩ (fun h3 => ?_) (fun h3 => ?_)
      · refine z_vret rfl (by decide +kernel) ?_
        have z0L : (0 : Int64).toInt = 0 := by decide
        have z1 : (1 : Int32).toInt = 1 := by decide
        have z20 : (20 : Int32).toInt = 20 := by decide
        have z21 : (21 : Int32).toInt = 21 := by decide
        have gh1 := j_ne_t h1
        have gh2 := j_ne_f h2
        have gh3 := j_lt_t h3
        exfalso
        have := h.2.2.1.1
        rw [List.length_cons] at this
        omega
      · refine z_aload_n (f := 0) (i := 0) (q := 0) (pc' := 47) ⟨by decide +kernel, rfl⟩ rfl rfl ?_
        refine w_getr (k := 27) (j := 11) (idx := 31) (pc' := 50) fxe_5_31 kfa_27_11 ⟨by decide +kernel, rfl⟩ ?_
        refine z_aload_n (f := 0) (i := 0) (q := 0) (pc' := 51) ⟨by decide +kernel, rfl⟩ rfl rfl ?_
        refine w_geti (k := 27) (j := 12) (idx := 133) (pc' := 54) fxe_5_133 kfa_27_12 ⟨by decide +kernel, rfl⟩ ?_
        refine z_iconst (i := 1) (v := 1) (pc' := 55) ⟨by decide +kernel, rfl⟩ (by decide) ?_
        refine z_isub (pc' := 56) ⟨by decide +kernel, rfl⟩ ?_
        refine w_iald (k := 30) (n := T.length) (pc' := 57) kaa_30 ((cs_ttop h).1) ((cs_ttop h).2.1) ⟨by decide +kernel, rfl⟩ ?_
        refine z_iconst (i := 2) (v := 2) (pc' := 58) ⟨by decide +kernel, rfl⟩ (by decide) ?_
        refine z_icmp_eq (off := 27) (tgt := 85) (pc' := 61) ⟨by decide +kernel, by decide, rfl⟩ (fun h4 => ?_) (fun h4 => ?_)
        · refine z_vret rfl (by decide +kernel) ?_
          have z0L : (0 : Int64).toInt = 0 := by decide
          have z1 : (1 : Int32).toInt = 1 := by decide
          have z2 : (2 : Int32).toInt = 2 := by decide
          have z20 : (20 : Int32).toInt = 20 := by decide
          have z21 : (21 : Int32).toInt = 21 := by decide
          have gh1 := j_ne_t h1
          have gh2 := j_ne_f h2
          have gh3 := j_lt_f h3
          have gh4 := j_eq_t h4
          have p := cs_ttop h
          rw [p.2.2.1] at gh4
          exact k _ (by rw [tc_u (by omega)]; exact h)
        · refine z_aload_n (f := 0) (i := 0) (q := 0) (pc' := 62) ⟨by decide +kernel, rfl⟩ rfl rfl ?_
          refine w_getr (k := 27) (j := 11) (idx := 31) (pc' := 65) fxe_5_31 kfa_27_11 ⟨by decide +kernel, rfl⟩ ?_
          refine z_aload_n (f := 0) (i := 0) (q := 0) (pc' := 66) ⟨by decide +kernel, rfl⟩ rfl rfl ?_
          refine w_geti (k := 27) (j := 12) (idx := 133) (pc' := 69) fxe_5_133 kfa_27_12 ⟨by decide +kernel, rfl⟩ ?_
          refine z_iconst (i := 1) (v := 1) (pc' := 70) ⟨by decide +kernel, rfl⟩ (by decide) ?_
          refine z_isub (pc' := 71) ⟨by decide +kernel, rfl⟩ ?_
          refine z_iconst (i := 1) (v := 1) (pc' := 72) ⟨by decide +kernel, rfl⟩ (by decide) ?_
          refine z_aload_n (f := 0) (i := 0) (q := 0) (pc' := 73) ⟨by decide +kernel, rfl⟩ rfl rfl ?_
          refine w_getr (k := 27) (j := 11) (idx := 31) (pc' := 76) fxe_5_31 kfa_27_11 ⟨by decide +kernel, rfl⟩ ?_
          refine z_aload_n (f := 0) (i := 0) (q := 0) (pc' := 77) ⟨by decide +kernel, rfl⟩ rfl rfl ?_
          refine w_geti (k := 27) (j := 12) (idx := 133) (pc' := 80) fxe_5_133 kfa_27_12 ⟨by decide +kernel, rfl⟩ ?_
          refine z_iconst (i := 1) (v := 1) (pc' := 81) ⟨by decide +kernel, rfl⟩ (by decide) ?_
          refine z_isub (pc' := 82) ⟨by decide +kernel, rfl⟩ ?_
          refine w_iald (k := 30) (n := T.length) (pc' := 83) kaa_30 ((cs_ttop h).1) ((cs_ttop h).2.1) ⟨by decide +kernel, rfl⟩ ?_
          refine z_isub (pc' := 84) ⟨by decide +kernel, rfl⟩ ?_
          refine w_iast (k := 30) (n := T.length) (pc' := 85) kaa_30 ((cs_ttop h).1) ((cs_ttop h).2.1) ⟨by decide +kernel, rfl⟩ ?_
          generalize hs5 : zI τ 30 T.length (1 - (τ.1 30 T.length)) = σ5
          refine z_vret rfl (by decide +kernel) ?_
          have z0L : (0 : Int64).toInt = 0 := by decide
          have z1 : (1 : Int32).toInt = 1 := by decide
          have z2 : (2 : Int32).toInt = 2 := by decide
          have z20 : (20 : Int32).toInt = 20 := by decide
          have z21 : (21 : Int32).toInt = 21 := by decide
          have gh1 := j_ne_t h1
          have gh2 := j_ne_f h2
          have gh3 := j_lt_f h3
          have gh4 := j_eq_f h4
          have p := cs_ttop h
          rw [p.2.2.1] at gh4
          exact k _ (cs_sett h (tc_n p.2.2.1 (by omega)) (nt_k p.2.2.2) hs5)
  · have z0L : (0 : Int64).toInt = 0 := by decide
    have z20 : (20 : Int32).toInt = 20 := by decide
    have gh1 := j_ne_f h1
    exfalso
    omega
theorem run_Ju_combine_210 {E : xV} {σ τ : zS} {K : zKt} {V : List EntJ} {fl : Int} {op : Int32} {num : Int64} (h : CsJ σ τ V [] fl) (hop : op.toInt = 21) (k : ∀ τ' : zS, CsJ σ τ' V [] fl → K none τ') : Wz E Y_Ju_combine 0 [(0, .ref 27), (1, .int op), (2, .long num)] [] τ K := by
  refine z_iload_n (f := 1) (i := 1) (q := 1) (pc' := 1) ⟨by decide +kernel, rfl⟩ rfl rfl ?_
  refine z_bipush (i := 20) (v := 20) (pc' := 3) ⟨by decide +kernel, rfl⟩ (by decide) ?_
  refine z_icmp_ne (off := 29) (tgt := 32) (pc' := 6) ⟨by decide +kernel, by decide, rfl⟩ (fun h1 => ?_) (fun h1 => ?_)
  · refine z_iload_n (f := 1) (i := 1) (q := 1) (pc' := 33) ⟨by decide +kernel, rfl⟩ rfl rfl ?_
    refine z_bipush (i := 21) (v := 21) (pc' := 35) ⟨by decide +kernel, rfl⟩ (by decide) ?_
    refine z_icmp_ne (off := 51) (tgt := 86) (pc' := 38) ⟨by decide +kernel, by decide, rfl⟩ (fun h2 => ?_) (fun h2 => ?_)
    · have z0L : (0 : Int64).toInt = 0 := by decide
      have z20 : (20 : Int32).toInt = 20 := by decide
      have z21 : (21 : Int32).toInt = 21 := by decide
      have gh1 := j_ne_t h1
      have gh2 := j_ne_t h2
      exfalso
      omega
    · refine z_aload_n (f := 0) (i := 0) (q := 0) (pc' := 39) ⟨by decide +kernel, rfl⟩ rfl rfl ?_
      refine w_geti (k := 27) (j := 12) (idx := 133) (pc' := 42) fxe_5_133 kfa_27_12 ⟨by decide +kernel, rfl⟩ ?_
      refine z_iconst (i := 1) (v := 1) (pc' := 43) ⟨by decide +kernel, rfl⟩ (by decide) ?_
      refine z_icmp_lt (off := 42) (tgt := 85) (pc' := 46) ⟨by decide +kernel, by decide, rfl⟩ (fun h3 => ?_) (fun h3 => ?_)
      · refine z_vret rfl (by decide +kernel) ?_
        have z0L : (0 : Int64).toInt = 0 := by decide
        have z1 : (1 : Int32).toInt = 1 := by decide
        have z20 : (20 : Int32).toInt = 20 := by decide
        have z21 : (21 : Int32).toInt = 21 := by decide
        have gh1 := j_ne_t h1
        have gh2 := j_ne_f h2
        have gh3 := j_lt_t h3
        exact k _ h
      · have z0L : (0 : Int64).toInt = 0 := by decide
        have z1 : (1 : Int32).toInt = 1 := by decide
        have z20 : (20 : Int32).toInt = 20 := by decide
        have z21 : (21 : Int32).toInt = 21 := by decide
        have gh1 := j_ne_t h1
        have gh2 := j_ne_f h2
        have gh3 := j_lt_f h3
        exfalso
        have := h.2.2.1.1
        rw [List.length_nil] at this
        omega
  · have z0L : (0 : Int64).toInt = 0 := by decide
    have z20 : (20 : Int32).toInt = 20 := by decide
    have gh1 := j_ne_f h1
    exfalso
    omega
theorem run_Ju_combine_22 {E : xV} {σ τ : zS} {K : zKt} {V T : List EntJ} {fl : Int} {op : Int32} {num : Int64} {a b : EntJ} {c : Nat} (h : CsJ σ τ V (b :: a :: T) fl) (hop : op.toInt = (c : Int)) (hc2 : c = 22 ∨ c = 23) (k : ∀ τ' : zS, CsJ σ τ' V ((if a.1 = 2 ∧ b.1 = (if c = 22 then 4 else 5) then (2, 0) else b) :: T) fl → K none τ') : Wz E Y_Ju_combine 0 [(0, .ref 27), (1, .int op), (2, .long num)] [] τ K := by
  refine z_iload_n (f := 1) (i := 1) (q := 1) (pc' := 1) ⟨by decide +kernel, rfl⟩ rfl rfl ?_
  refine z_bipush (i := 20) (v := 20) (pc' := 3) ⟨by decide +kernel, rfl⟩ (by decide) ?_
  refine z_icmp_ne (off := 29) (tgt := 32) (pc' := 6) ⟨by decide +kernel, by decide, rfl⟩ (fun h1 => ?_) (fun h1 => ?_)
  · refine z_iload_n (f := 1) (i := 1) (q := 1) (pc' := 33) ⟨by decide +kernel, rfl⟩ rfl rfl ?_
    refine z_bipush (i := 21) (v := 21) (pc' := 35) ⟨by decide +kernel, rfl⟩ (by decide) ?_
    refine z_icmp_ne (off := 51) (tgt := 86) (pc' := 38) ⟨by decide +kernel, by decide, rfl⟩ (fun h2 => ?_) (fun h2 => ?_)
    · refine z_aload_n (f := 0) (i := 0) (q := 0) (pc' := 87) ⟨by decide +kernel, rfl⟩ rfl rfl ?_
      refine w_geti (k := 27) (j := 12) (idx := 133) (pc' := 90) fxe_5_133 kfa_27_12 ⟨by decide +kernel, rfl⟩ ?_
      refine z_iconst (i := 2) (v := 2) (pc' := 91) ⟨by decide +kernel, rfl⟩ (by decide) ?_
      refine z_icmp_ge (off := 4) (tgt := 95) (pc' := 94) ⟨by decide +kernel, by decide, rfl⟩ (fun h3 => ?_) (fun h3 => ?_)
      · refine z_aload_n (f := 0) (i := 0) (q := 0) (pc' := 96) ⟨by decide +kernel, rfl⟩ rfl rfl ?_
        refine z_dupr (pc' := 97) ⟨by decide +kernel, rfl⟩ ?_
        refine w_geti (k := 27) (j := 12) (idx := 133) (pc' := 100) fxe_5_133 kfa_27_12 ⟨by decide +kernel, rfl⟩ ?_
        refine z_iconst (i := 2) (v := 2) (pc' := 101) ⟨by decide +kernel, rfl⟩ (by decide) ?_
        refine z_isub (pc' := 102) ⟨by decide +kernel, rfl⟩ ?_
        refine w_puti (k := 27) (j := 12) (idx := 133) (pc' := 105) fxi_5_133 kfa_27_12 ⟨by decide +kernel, rfl⟩ ?_
        generalize hs4 : zI τ 27 12 ((τ.1 27 12) - 2) = σ4
        refine z_aload_n (f := 0) (i := 0) (q := 0) (pc' := 106) ⟨by decide +kernel, rfl⟩ rfl rfl ?_
        refine w_getr (k := 27) (j := 11) (idx := 31) (pc' := 109) fxe_5_31 kfa_27_11 ⟨by decide +kernel, rfl⟩ ?_
        refine z_aload_n (f := 0) (i := 0) (q := 0) (pc' := 110) ⟨by decide +kernel, rfl⟩ rfl rfl ?_
        refine w_geti (k := 27) (j := 12) (idx := 133) (pc' := 113) fxe_5_133 kfa_27_12 ⟨by decide +kernel, rfl⟩ ?_
        refine w_iald (k := 30) (n := T.length) (pc' := 114) kaa_30 ((cs_tpop2 h hs4).1.2.2.1.1) (by have := (cs_tpop2 h hs4).2.2; omega) ⟨by decide +kernel, rfl⟩ ?_
        refine z_istore (i := 4) (pc' := 116) ⟨by decide +kernel, rfl⟩ (by decide) rfl ?_
        show Wz E Y_Ju_combine 116 [(4, .int (σ4.1 30 T.length)), (0, .ref 27), (1, .int op), (2, .long num)] [] σ4 K
        refine z_aload_n (f := 0) (i := 0) (q := 1) (pc' := 117) ⟨by decide +kernel, rfl⟩ rfl rfl ?_
        refine w_getr (k := 27) (j := 11) (idx := 31) (pc' := 120) fxe_5_31 kfa_27_11 ⟨by decide +kernel, rfl⟩ ?_
        refine z_aload_n (f := 0) (i := 0) (q := 1) (pc' := 121) ⟨by decide +kernel, rfl⟩ rfl rfl ?_
        refine w_geti (k := 27) (j := 12) (idx := 133) (pc' := 124) fxe_5_133 kfa_27_12 ⟨by decide +kernel, rfl⟩ ?_
        refine z_iconst (i := 1) (v := 1) (pc' := 125) ⟨by decide +kernel, rfl⟩ (by decide) ?_
        refine z_iadd (pc' := 126) ⟨by decide +kernel, rfl⟩ ?_
        refine w_iald (k := 30) (n := (T.length + 1)) (pc' := 127) kaa_30 ((cs_tpop2 h hs4).t1) ((cs_tpop2 h hs4).2.2) ⟨by decide +kernel, rfl⟩ ?_
        refine z_istore (i := 5) (pc' := 129) ⟨by decide +kernel, rfl⟩ (by decide) rfl ?_
        show Wz E Y_Ju_combine 129 [(5, .int (σ4.1 30 (T.length + 1))), (4, .int (σ4.1 30 T.length)), (0, .ref 27), (1, .int op), (2, .long num)] [] σ4 K
        refine z_iload_n (f := 1) (i := 1) (q := 3) (pc' := 130) ⟨by decide +kernel, rfl⟩ rfl rfl ?_
        refine z_bipush (i := 22) (v := 22) (pc' := 132) ⟨by decide +kernel, rfl⟩ (by decide) ?_
        refine z_icmp_ne (off := 7) (tgt := 139) (pc' := 135) ⟨by decide +kernel, by decide, rfl⟩ (fun h5 => ?_) (fun h5 => ?_)
        · refine z_iconst (i := 0) (v := 0) (pc' := 140) ⟨by decide +kernel, rfl⟩ (by decide) ?_
          refine z_istore (i := 6) (pc' := 142) ⟨by decide +kernel, rfl⟩ (by decide) rfl ?_
          show Wz E Y_Ju_combine 142 [(6, .int 0), (5, .int (σ4.1 30 (T.length + 1))), (4, .int (σ4.1 30 T.length)), (0, .ref 27), (1, .int op), (2, .long num)] [] σ4 K
          refine z_aload_n (f := 0) (i := 0) (q := 3) (pc' := 143) ⟨by decide +kernel, rfl⟩ rfl rfl ?_
          refine z_iload (i := 4) (q := 2) (pc' := 145) ⟨by decide +kernel, rfl⟩ rfl ?_
          refine z_iconst (i := 2) (v := 2) (pc' := 146) ⟨by decide +kernel, rfl⟩ (by decide) ?_
          refine z_icmp_ne (off := 14) (tgt := 160) (pc' := 149) ⟨by decide +kernel, by decide, rfl⟩ (fun h6 => ?_) (fun h6 => ?_)
          · refine z_iload (i := 5) (q := 1) (pc' := 162) ⟨by decide +kernel, rfl⟩ rfl ?_
            refine w_invV (Z := Y_Ju_pushTruth) (idx := 162) (kb := 27) (As := [.int (σ4.1 30 (T.length + 1))]) (rest := []) (pc' := 165) cl_5_162 rfl ⟨rfl, rfl⟩ kfa_27_0 rfl ⟨⟨by decide, by decide⟩, rfl, rfl⟩ ⟨by decide +kernel, rfl⟩ rfl rfl (Nat.le_of_ble_eq_true rfl) rfl rfl ?_
            refine cz_Ju_pushTruth (x := b) (cs_tpop2 h hs4).1 (by have := (cs_tpop2 h hs4).2.2; omega) (cs_tpop2 h hs4).2.1.1.2 (cs_tpop2 h hs4).2.1.2.2 (fun σ7 hv7 => ?_)
            show Wz E Y_Ju_combine 165 [(6, .int 0), (5, .int (σ4.1 30 (T.length + 1))), (4, .int (σ4.1 30 T.length)), (0, .ref 27), (1, .int op), (2, .long num)] [] σ7 K
            refine z_vret rfl (by decide +kernel) ?_
            have z0L : (0 : Int64).toInt = 0 := by decide
            have z2 : (2 : Int32).toInt = 2 := by decide
            have z20 : (20 : Int32).toInt = 20 := by decide
            have z21 : (21 : Int32).toInt = 21 := by decide
            have z22 : (22 : Int32).toInt = 22 := by decide
            have gh1 := j_ne_t h1
            have gh2 := j_ne_t h2
            have gh3 := j_ge_t h3
            have gh5 := j_ne_t h5
            have gh6 := j_ne_t h6
            have p := (cs_tpop2 h hs4).2.1
            have t2 := tc_2 p.2.1
            have b1 := tc_1 (x := b)
            have b0 := tc_0 (x := b)
            rw [p.1.1] at gh6
            have hcc : c ≠ 22 := by omega
            exact k _ (by rw [if_neg hcc, if_neg (by omega)]; exact hv7)
          · refine z_iload (i := 5) (q := 1) (pc' := 151) ⟨by decide +kernel, rfl⟩ rfl ?_
            refine z_iload (i := 6) (q := 0) (pc' := 153) ⟨by decide +kernel, rfl⟩ rfl ?_
            refine z_icmp_ne (off := 7) (tgt := 160) (pc' := 156) ⟨by decide +kernel, by decide, rfl⟩ (fun h8 => ?_) (fun h8 => ?_)
            · refine z_iload (i := 5) (q := 1) (pc' := 162) ⟨by decide +kernel, rfl⟩ rfl ?_
              refine w_invV (Z := Y_Ju_pushTruth) (idx := 162) (kb := 27) (As := [.int (σ4.1 30 (T.length + 1))]) (rest := []) (pc' := 165) cl_5_162 rfl ⟨rfl, rfl⟩ kfa_27_0 rfl ⟨⟨by decide, by decide⟩, rfl, rfl⟩ ⟨by decide +kernel, rfl⟩ rfl rfl (Nat.le_of_ble_eq_true rfl) rfl rfl ?_
              refine cz_Ju_pushTruth (x := b) (cs_tpop2 h hs4).1 (by have := (cs_tpop2 h hs4).2.2; omega) (cs_tpop2 h hs4).2.1.1.2 (cs_tpop2 h hs4).2.1.2.2 (fun σ9 hv9 => ?_)
              show Wz E Y_Ju_combine 165 [(6, .int 0), (5, .int (σ4.1 30 (T.length + 1))), (4, .int (σ4.1 30 T.length)), (0, .ref 27), (1, .int op), (2, .long num)] [] σ9 K
              refine z_vret rfl (by decide +kernel) ?_
              have z0L : (0 : Int64).toInt = 0 := by decide
              have z0 : (0 : Int32).toInt = 0 := by decide
              have z2 : (2 : Int32).toInt = 2 := by decide
              have z20 : (20 : Int32).toInt = 20 := by decide
              have z21 : (21 : Int32).toInt = 21 := by decide
              have z22 : (22 : Int32).toInt = 22 := by decide
              have gh1 := j_ne_t h1
              have gh2 := j_ne_t h2
              have gh3 := j_ge_t h3
              have gh5 := j_ne_t h5
              have gh6 := j_ne_f h6
              have gh8 := j_ne_t h8
              have p := (cs_tpop2 h hs4).2.1
              have t2 := tc_2 p.2.1
              have b1 := tc_1 (x := b)
              have b0 := tc_0 (x := b)
              rw [p.1.1] at gh6
              rw [p.1.2] at gh8
              have hcc : c ≠ 22 := by omega
              exact k _ (by rw [if_neg hcc, if_neg (by omega)]; exact hv9)
            · refine z_iconst (i := 2) (v := 2) (pc' := 157) ⟨by decide +kernel, rfl⟩ (by decide) ?_
              refine z_goto (off := 5) (tgt := 162) (pc' := 160) ⟨by decide +kernel, by decide, rfl⟩ ?_
              refine w_invV (Z := Y_Ju_pushTruth) (idx := 162) (kb := 27) (As := [.int 2]) (rest := []) (pc' := 165) cl_5_162 rfl ⟨rfl, rfl⟩ kfa_27_0 rfl ⟨⟨by decide, by decide⟩, rfl, rfl⟩ ⟨by decide +kernel, rfl⟩ rfl rfl (Nat.le_of_ble_eq_true rfl) rfl rfl ?_
              refine cz_Ju_pushTruth (x := (2, 0)) (cs_tpop2 h hs4).1 (by have := (cs_tpop2 h hs4).2.2; omega) (by decide) (by decide) (fun σ10 hv10 => ?_)
              show Wz E Y_Ju_combine 165 [(6, .int 0), (5, .int (σ4.1 30 (T.length + 1))), (4, .int (σ4.1 30 T.length)), (0, .ref 27), (1, .int op), (2, .long num)] [] σ10 K
              refine z_vret rfl (by decide +kernel) ?_
              have z0L : (0 : Int64).toInt = 0 := by decide
              have z0 : (0 : Int32).toInt = 0 := by decide
              have z2 : (2 : Int32).toInt = 2 := by decide
              have z20 : (20 : Int32).toInt = 20 := by decide
              have z21 : (21 : Int32).toInt = 21 := by decide
              have z22 : (22 : Int32).toInt = 22 := by decide
              have gh1 := j_ne_t h1
              have gh2 := j_ne_t h2
              have gh3 := j_ge_t h3
              have gh5 := j_ne_t h5
              have gh6 := j_ne_f h6
              have gh8 := j_ne_f h8
              have p := (cs_tpop2 h hs4).2.1
              have t2 := tc_2 p.2.1
              have b1 := tc_1 (x := b)
              have b0 := tc_0 (x := b)
              rw [p.1.1] at gh6
              rw [p.1.2] at gh8
              have hcc : c ≠ 22 := by omega
              exact k _ (by rw [if_neg hcc, if_pos (by omega)]; exact hv10)
        · refine z_iconst (i := 1) (v := 1) (pc' := 136) ⟨by decide +kernel, rfl⟩ (by decide) ?_
          refine z_goto (off := 4) (tgt := 140) (pc' := 139) ⟨by decide +kernel, by decide, rfl⟩ ?_
          refine z_istore (i := 6) (pc' := 142) ⟨by decide +kernel, rfl⟩ (by decide) rfl ?_
          show Wz E Y_Ju_combine 142 [(6, .int 1), (5, .int (σ4.1 30 (T.length + 1))), (4, .int (σ4.1 30 T.length)), (0, .ref 27), (1, .int op), (2, .long num)] [] σ4 K
          refine z_aload_n (f := 0) (i := 0) (q := 3) (pc' := 143) ⟨by decide +kernel, rfl⟩ rfl rfl ?_
          refine z_iload (i := 4) (q := 2) (pc' := 145) ⟨by decide +kernel, rfl⟩ rfl ?_
          refine z_iconst (i := 2) (v := 2) (pc' := 146) ⟨by decide +kernel, rfl⟩ (by decide) ?_
          refine z_icmp_ne (off := 14) (tgt := 160) (pc' := 149) ⟨by decide +kernel, by decide, rfl⟩ (fun h11 => ?_) (fun h11 => ?_)
          · refine z_iload (i := 5) (q := 1) (pc' := 162) ⟨by decide +kernel, rfl⟩ rfl ?_
            refine w_invV (Z := Y_Ju_pushTruth) (idx := 162) (kb := 27) (As := [.int (σ4.1 30 (T.length + 1))]) (rest := []) (pc' := 165) cl_5_162 rfl ⟨rfl, rfl⟩ kfa_27_0 rfl ⟨⟨by decide, by decide⟩, rfl, rfl⟩ ⟨by decide +kernel, rfl⟩ rfl rfl (Nat.le_of_ble_eq_true rfl) rfl rfl ?_
            refine cz_Ju_pushTruth (x := b) (cs_tpop2 h hs4).1 (by have := (cs_tpop2 h hs4).2.2; omega) (cs_tpop2 h hs4).2.1.1.2 (cs_tpop2 h hs4).2.1.2.2 (fun σ12 hv12 => ?_)
            show Wz E Y_Ju_combine 165 [(6, .int 1), (5, .int (σ4.1 30 (T.length + 1))), (4, .int (σ4.1 30 T.length)), (0, .ref 27), (1, .int op), (2, .long num)] [] σ12 K
            refine z_vret rfl (by decide +kernel) ?_
            have z0L : (0 : Int64).toInt = 0 := by decide
            have z2 : (2 : Int32).toInt = 2 := by decide
            have z20 : (20 : Int32).toInt = 20 := by decide
            have z21 : (21 : Int32).toInt = 21 := by decide
            have z22 : (22 : Int32).toInt = 22 := by decide
            have gh1 := j_ne_t h1
            have gh2 := j_ne_t h2
            have gh3 := j_ge_t h3
            have gh5 := j_ne_f h5
            have gh11 := j_ne_t h11
            have p := (cs_tpop2 h hs4).2.1
            have t2 := tc_2 p.2.1
            have b1 := tc_1 (x := b)
            have b0 := tc_0 (x := b)
            rw [p.1.1] at gh11
            have hcc : c = 22 := by omega
            exact k _ (by rw [if_pos hcc, if_neg (by omega)]; exact hv12)
          · refine z_iload (i := 5) (q := 1) (pc' := 151) ⟨by decide +kernel, rfl⟩ rfl ?_
            refine z_iload (i := 6) (q := 0) (pc' := 153) ⟨by decide +kernel, rfl⟩ rfl ?_
            refine z_icmp_ne (off := 7) (tgt := 160) (pc' := 156) ⟨by decide +kernel, by decide, rfl⟩ (fun h13 => ?_) (fun h13 => ?_)
            · refine z_iload (i := 5) (q := 1) (pc' := 162) ⟨by decide +kernel, rfl⟩ rfl ?_
              refine w_invV (Z := Y_Ju_pushTruth) (idx := 162) (kb := 27) (As := [.int (σ4.1 30 (T.length + 1))]) (rest := []) (pc' := 165) cl_5_162 rfl ⟨rfl, rfl⟩ kfa_27_0 rfl ⟨⟨by decide, by decide⟩, rfl, rfl⟩ ⟨by decide +kernel, rfl⟩ rfl rfl (Nat.le_of_ble_eq_true rfl) rfl rfl ?_
              refine cz_Ju_pushTruth (x := b) (cs_tpop2 h hs4).1 (by have := (cs_tpop2 h hs4).2.2; omega) (cs_tpop2 h hs4).2.1.1.2 (cs_tpop2 h hs4).2.1.2.2 (fun σ14 hv14 => ?_)
              show Wz E Y_Ju_combine 165 [(6, .int 1), (5, .int (σ4.1 30 (T.length + 1))), (4, .int (σ4.1 30 T.length)), (0, .ref 27), (1, .int op), (2, .long num)] [] σ14 K
              refine z_vret rfl (by decide +kernel) ?_
              have z0L : (0 : Int64).toInt = 0 := by decide
              have z1 : (1 : Int32).toInt = 1 := by decide
              have z2 : (2 : Int32).toInt = 2 := by decide
              have z20 : (20 : Int32).toInt = 20 := by decide
              have z21 : (21 : Int32).toInt = 21 := by decide
              have z22 : (22 : Int32).toInt = 22 := by decide
              have gh1 := j_ne_t h1
              have gh2 := j_ne_t h2
              have gh3 := j_ge_t h3
              have gh5 := j_ne_f h5
              have gh11 := j_ne_f h11
              have gh13 := j_ne_t h13
              have p := (cs_tpop2 h hs4).2.1
              have t2 := tc_2 p.2.1
              have b1 := tc_1 (x := b)
              have b0 := tc_0 (x := b)
              rw [p.1.1] at gh11
              rw [p.1.2] at gh13
              have hcc : c = 22 := by omega
              exact k _ (by rw [if_pos hcc, if_neg (by omega)]; exact hv14)
            · refine z_iconst (i := 2) (v := 2) (pc' := 157) ⟨by decide +kernel, rfl⟩ (by decide) ?_
              refine z_goto (off := 5) (tgt := 162) (pc' := 160) ⟨by decide +kernel, by decide, rfl⟩ ?_
              refine w_invV (Z := Y_Ju_pushTruth) (idx := 162) (kb := 27) (As := [.int 2]) (rest := []) (pc' := 165) cl_5_162 rfl ⟨rfl, rfl⟩ kfa_27_0 rfl ⟨⟨by decide, by decide⟩, rfl, rfl⟩ ⟨by decide +kernel, rfl⟩ rfl rfl (Nat.le_of_ble_eq_true rfl) rfl rfl ?_
              refine cz_Ju_pushTruth (x := (2, 0)) (cs_tpop2 h hs4).1 (by have := (cs_tpop2 h hs4).2.2; omega) (by decide) (by decide) (fun σ15 hv15 => ?_)
              show Wz E Y_Ju_combine 165 [(6, .int 1), (5, .int (σ4.1 30 (T.length + 1))), (4, .int (σ4.1 30 T.length)), (0, .ref 27), (1, .int op), (2, .long num)] [] σ15 K
              refine z_vret rfl (by decide +kernel) ?_
              have z0L : (0 : Int64).toInt = 0 := by decide
              have z1 : (1 : Int32).toInt = 1 := by decide
              have z2 : (2 : Int32).toInt = 2 := by decide
              have z20 : (20 : Int32).toInt = 20 := by decide
              have z21 : (21 : Int32).toInt = 21 := by decide
              have z22 : (22 : Int32).toInt = 22 := by decide
              have gh1 := j_ne_t h1
              have gh2 := j_ne_t h2
              have gh3 := j_ge_t h3
              have gh5 := j_ne_f h5
              have gh11 := j_ne_f h11
              have gh13 := j_ne_f h13
              have p := (cs_tpop2 h hs4).2.1
              have t2 := tc_2 p.2.1
              have b1 := tc_1 (x := b)
              have b0 := tc_0 (x := b)
              rw [p.1.1] at gh11
              rw [p.1.2] at gh13
              have hcc : c = 22 := by omega
              exact k _ (by rw [if_pos hcc, if_pos (by omega)]; exact hv15)
      · refine z_vret rfl (by decide +kernel) ?_
        have z0L : (0 : Int64).toInt = 0 := by decide
        have z2 : (2 : Int32).toInt = 2 := by decide
        have z20 : (20 : Int32).toInt = 20 := by decide
        have z21 : (21 : Int32).toInt = 21 := by decide
        have gh1 := j_ne_t h1
        have gh2 := j_ne_t h2
        have gh3 := j_ge_f h3
        exfalso
        have := h.2.2.1.1
        rw [List.length_cons, List.length_cons] at this
        omega
    · have z0L : (0 : Int64).toInt = 0 := by decide
      have z20 : (20 : Int32).toInt = 20 := by decide
      have z21 : (21 : Int32).toInt = 21 := by decide
      have gh1 := j_ne_t h1
      have gh2 := j_ne_f h2
      exfalso
      omega
  · have z0L : (0 : Int64).toInt = 0 := by decide
    have z20 : (20 : Int32).toInt = 20 := by decide
    have gh1 := j_ne_f h1
    exfalso
    omega
theorem run_Ju_eoc_l {E : xV} {σ : zS} {K : zKt} {τ : zS} {V T : List EntJ} {fl : Int} {i0 e : Int32} {en : Nat} (h : CsJ σ τ V T fl) (he : e.toInt = (en : Int)) (hco : CoC σ en) : ∀ (j : Nat) {i : Int32} {n : Nat}, en = n + j → i.toInt = n → (∀ v : Int32, v.toInt = ((eoc9 (RC9 σ) en j n : Nat) : Int) → K (some (.int v)) τ) → Wz E Y_Ju_endOfComparison 2 [(3, .int i), (0, .ref 27), (1, .int i0), (2, .int e)] [] τ K
  | 0, i, n, hj, hi, k => by
    refine z_iload_n (f := 3) (i := 3) (q := 0) (pc' := 3) ⟨by decide +kernel, rfl⟩ rfl rfl ?_
    refine z_iload_n (f := 2) (i := 2) (q := 3) (pc' := 4) ⟨by decide +kernel, rfl⟩ rfl rfl ?_
    refine z_icmp_ge (off := 39) (tgt := 43) (pc' := 7) ⟨by decide +kernel, by decide, rfl⟩ (fun h1 => ?_) (fun h1 => ?_)
    · refine z_iload_n (f := 2) (i := 2) (q := 3) (pc' := 44) ⟨by decide +kernel, rfl⟩ rfl rfl ?_
      refine z_iret (ty := .int) rfl rfl (by decide +kernel) ?_
      have z0L : (0 : Int64).toInt = 0 := by decide
      have gh1 := j_ge_t h1
      exact k _ (by rw [he, eoc_e (by omega)])
    · have z0L : (0 : Int64).toInt = 0 := by decide
      have gh1 := j_ge_f h1
      exfalso
      omega
  | j + 1, i, n, hj, hi, k => by
    have ih := @run_Ju_eoc_l E σ K τ V T fl i0 e en h he hco j
    refine z_iload_n (f := 3) (i := 3) (q := 0) (pc' := 3) ⟨by decide +kernel, rfl⟩ rfl rfl ?_
    refine z_iload_n (f := 2) (i := 2) (q := 3) (pc' := 4) ⟨by decide +kernel, rfl⟩ rfl rfl ?_
    refine z_icmp_ge (off := 39) (tgt := 43) (pc' := 7) ⟨by decide +kernel, by decide, rfl⟩ (fun h1 => ?_) (fun h1 => ?_)
    · have z0L : (0 : Int64).toInt = 0 := by decide
      have gh1 := j_ge_t h1
      exfalso
      omega
    · refine z_aload_n (f := 0) (i := 0) (q := 1) (pc' := 8) ⟨by decide +kernel, rfl⟩ rfl rfl ?_
      refine w_getr (k := 27) (j := 2) (idx := 19) (pc' := 11) fxe_5_19 kfa_27_2 ⟨by decide +kernel, rfl⟩ ?_
      refine w_getr (k := 17) (j := 4) (idx := 136) (pc' := 14) fxe_5_136 kfa_17_4 ⟨by decide +kernel, rfl⟩ ?_
      refine z_iload_n (f := 3) (i := 3) (q := 0) (pc' := 15) ⟨by decide +kernel, rfl⟩ rfl rfl ?_
      refine w_iald (k := 21) (n := n) (pc' := 16) kaa_21 (hi) (by have q := j_ge_f h1; have := hco.1; omega) ⟨by decide +kernel, rfl⟩ ?_
      refine z_bipush (i := 13) (v := 13) (pc' := 18) ⟨by decide +kernel, rfl⟩ (by decide) ?_
      refine z_icmp_lt (off := 19) (tgt := 37) (pc' := 21) ⟨by decide +kernel, by decide, rfl⟩ (fun h2 => ?_) (fun h2 => ?_)
      · refine z_iinc (i := 3) (z := 1) (q := 0) (pc' := 40) ⟨by decide +kernel, rfl⟩ rfl rfl (by decide) rfl ?_
        show Wz E Y_Ju_endOfComparison 40 [(3, .int (i + Int32.ofInt 1)), (0, .ref 27), (1, .int i0), (2, .int e)] [] τ K
        refine z_goto (off := (-38)) (tgt := 2) (pc' := 43) ⟨by decide +kernel, by decide, rfl⟩ ?_
        have z0L : (0 : Int64).toInt = 0 := by decide
        have z13 : (13 : Int32).toInt = 13 := by decide
        have gh1 := j_ge_f h1
        have gh2 := j_lt_t h2
        rw [(cs_s h n).2.2.2.1] at gh2
        have e1 : (Int32.ofInt 1).toInt = 1 := by decide
        have hh := hco.1
        exact ih (n := n + 1) (by omega) (by rw [i32_add (by rw [e1]; omega), e1]; omega) (fun v hv => k v (by rw [hv, eoc_s (by omega), if_neg (fun q => by have := (cm_iff (hco.2 n (by omega)).1.1).mp q; omega)]))
      · refine z_aload_n (f := 0) (i := 0) (q := 1) (pc' := 22) ⟨by decide +kernel, rfl⟩ rfl rfl ?_
        refine w_getr (k := 27) (j := 2) (idx := 19) (pc' := 25) fxe_5_19 kfa_27_2 ⟨by decide +kernel, rfl⟩ ?_
        refine w_getr (k := 17) (j := 4) (idx := 136) (pc' := 28) fxe_5_136 kfa_17_4 ⟨by decide +kernel, rfl⟩ ?_
        refine z_iload_n (f := 3) (i := 3) (q := 0) (pc' := 29) ⟨by decide +kernel, rfl⟩ rfl rfl ?_
        refine w_iald (k := 21) (n := n) (pc' := 30) kaa_21 (hi) (by have q := j_ge_f h1; have := hco.1; omega) ⟨by decide +kernel, rfl⟩ ?_
        refine z_bipush (i := 19) (v := 19) (pc' := 32) ⟨by decide +kernel, rfl⟩ (by decide) ?_
        refine z_icmp_gt (off := 5) (tgt := 37) (pc' := 35) ⟨by decide +kernel, by decide, rfl⟩ (fun h3 => ?_) (fun h3 => ?_)
        · refine z_iinc (i := 3) (z := 1) (q := 0) (pc' := 40) ⟨by decide +kernel, rfl⟩ rfl rfl (by decide) rfl ?_
          show Wz E Y_Ju_endOfComparison 40 [(3, .int (i + Int32.ofInt 1)), (0, .ref 27), (1, .int i0), (2, .int e)] [] τ K
          refine z_goto (off := (-38)) (tgt := 2) (pc' := 43) ⟨by decide +kernel, by decide, rfl⟩ ?_
          have z0L : (0 : Int64).toInt = 0 := by decide
          have z13 : (13 : Int32).toInt = 13 := by decide
          have z19 : (19 : Int32).toInt = 19 := by decide
          have gh1 := j_ge_f h1
          have gh2 := j_lt_f h2
          have gh3 := j_gt_t h3
          rw [(cs_s h n).2.2.2.1] at gh2
          rw [(cs_s h n).2.2.2.1] at gh3
          have e1 : (Int32.ofInt 1).toInt = 1 := by decide
          have hh := hco.1
          exact ih (n := n + 1) (by omega) (by rw [i32_add (by rw [e1]; omega), e1]; omega) (fun v hv => k v (by rw [hv, eoc_s (by omega), if_neg (fun q => by have := (cm_iff (hco.2 n (by omega)).1.1).mp q; omega)]))
        · refine z_iload_n (f := 3) (i := 3) (q := 0) (pc' := 36) ⟨by decide +kernel, rfl⟩ rfl rfl ?_
          refine z_iret (ty := .int) rfl rfl (by decide +kernel) ?_
          have z0L : (0 : Int64).toInt = 0 := by decide
          have z13 : (13 : Int32).toInt = 13 := by decide
          have z19 : (19 : Int32).toInt = 19 := by decide
          have gh1 := j_ge_f h1
          have gh2 := j_lt_f h2
          have gh3 := j_gt_f h3
          rw [(cs_s h n).2.2.2.1] at gh2
          rw [(cs_s h n).2.2.2.1] at gh3
          exact k _ (by rw [hi, eoc_s (by omega), if_pos ((cm_iff (by omega)).mpr (by omega))])
theorem run_Ju_endOfComparison {E : xV} {σ τ : zS} {K : zKt} {V T : List EntJ} {fl : Int} {i e : Int32} {n en : Nat} (h : CsJ σ τ V T fl) (he : e.toInt = (en : Int)) (hco : CoC σ en) (hi : i.toInt = (n : Int)) (hn : n ≤ en) (k : ∀ v : Int32, v.toInt = ((eoc9 (RC9 σ) en en n : Nat) : Int) → K (some (.int v)) τ) : Wz E Y_Ju_endOfComparison 0 [(0, .ref 27), (1, .int i), (2, .int e)] [] τ K := by
  refine z_iload_n (f := 1) (i := 1) (q := 1) (pc' := 1) ⟨by decide +kernel, rfl⟩ rfl rfl ?_
  refine z_istore_n (f := 3) (i := 3) (pc' := 2) ⟨by decide +kernel, rfl⟩ rfl (by decide) rfl ?_
  show Wz E Y_Ju_endOfComparison 2 [(3, .int i), (0, .ref 27), (1, .int i), (2, .int e)] [] τ K
  have z0L : (0 : Int64).toInt = 0 := by decide
  obtain ⟨j, hj⟩ : ∃ j, en = n + j := ⟨en - n, by omega⟩
  exact run_Ju_eoc_l h he hco j hj hi (fun v hv => k v (by rw [hv, eoc_f (m := j) (m' := en) (by omega) (by omega)]))
theorem cz_Ju_endOfComparison {E : xV} {σ τ : zS} {K : zKt} {V T : List EntJ} {fl : Int} {i e : Int32} {n en : Nat} (h : CsJ σ τ V T fl) (he : e.toInt = (en : Int)) (hco : CoC σ en) (hi : i.toInt = (n : Int)) (hn : n ≤ en) (k : ∀ v : Int32, v.toInt = ((eoc9 (RC9 σ) en en n : Nat) : Int) → K (some (.int v)) τ) : Cz E Y_Ju_endOfComparison [.ref 27, .int i, .int e] τ K := z_entry (by decide) (fun a => by rw [sl_len]; exact Nat.le_of_ble_eq_true rfl) rfl (run_Ju_endOfComparison h he hco hi hn k)

end
