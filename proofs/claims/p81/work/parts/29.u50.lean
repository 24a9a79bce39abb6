section
theorem yfxe_10_11 : FxE "RightsHouse$Things" 11 7 1 := fx_e (m := 25) (t := 3) rfl (by decide) (by decide +kernel)
theorem yfxe_10_15 : FxE "RightsHouse$Things" 15 7 2 := fx_e (m := 25) (t := 3) rfl (by decide) (by decide +kernel)
theorem yfxe_10_25 : FxE "RightsHouse$Things" 25 7 5 := fx_e (m := 25) (t := 3) rfl (by decide) (by decide +kernel)
theorem yfxe_10_28 : FxE "RightsHouse$Things" 28 7 6 := fx_e (m := 25) (t := 3) rfl (by decide) (by decide +kernel)
theorem yfxe_11_17 : FxE "RightsHouse$Who" 17 8 4 := fx_e (m := 9) (t := 3) rfl (by decide) (by decide +kernel)
theorem yfxe_11_20 : FxE "RightsHouse$Who" 20 8 5 := fx_e (m := 9) (t := 3) rfl (by decide) (by decide +kernel)
theorem yfxe_11_23 : FxE "RightsHouse$Who" 23 8 6 := fx_e (m := 9) (t := 3) rfl (by decide) (by decide +kernel)
theorem yfxe_13_13 : FxE "RightsHouseModel" 13 11 4 := fx_e (m := 284) (t := 3) rfl (by decide) (by decide +kernel)
theorem yfxe_13_145 : FxE "RightsHouseModel" 145 11 72 := fx_e (m := 284) (t := 3) rfl (by decide) (by decide +kernel)
theorem yfxe_13_148 : FxE "RightsHouseModel" 148 11 73 := fx_e (m := 284) (t := 3) rfl (by decide) (by decide +kernel)
theorem yfxe_13_151 : FxE "RightsHouseModel" 151 11 76 := fx_e (m := 284) (t := 3) rfl (by decide) (by decide +kernel)
theorem yfxe_13_16 : FxE "RightsHouseModel" 16 11 5 := fx_e (m := 284) (t := 3) rfl (by decide) (by decide +kernel)
theorem yfxe_13_403 : FxE "RightsHouseModel" 403 11 0 := fx_e (m := 284) (t := 0) rfl (by decide) (by decide +kernel)
theorem yfxe_13_41 : FxE "RightsHouseModel" 41 11 16 := fx_e (m := 284) (t := 3) rfl (by decide) (by decide +kernel)
theorem yfxe_13_413 : FxE "RightsHouseModel" 413 11 3 := fx_e (m := 284) (t := 0) rfl (by decide) (by decide +kernel)
theorem yfxe_13_44 : FxE "RightsHouseModel" 44 11 17 := fx_e (m := 284) (t := 3) rfl (by decide) (by decide +kernel)
theorem yfxe_13_47 : FxE "RightsHouseModel" 47 11 18 := fx_e (m := 284) (t := 3) rfl (by decide) (by decide +kernel)
theorem yfxe_13_51 : FxE "RightsHouseModel" 51 11 19 := fx_e (m := 284) (t := 3) rfl (by decide) (by decide +kernel)
theorem yfxe_13_64 : FxE "RightsHouseModel" 64 11 23 := fx_e (m := 284) (t := 3) rfl (by decide) (by decide +kernel)
theorem yfxe_13_701 : FxE "RightsHouseModel" 701 11 65 := fx_e (m := 284) (t := 0) rfl (by decide) (by decide +kernel)
theorem yfxe_13_724 : FxE "RightsHouseModel" 724 11 71 := fx_e (m := 284) (t := 0) rfl (by decide) (by decide +kernel)
theorem yfxe_13_742 : FxE "RightsHouseModel" 742 11 75 := fx_e (m := 284) (t := 0) rfl (by decide) (by decide +kernel)
theorem yfxe_13_745 : FxE "RightsHouseModel" 745 11 74 := fx_e (m := 284) (t := 1) rfl (by decide) (by decide +kernel)
theorem yfxe_1_105 : FxE "RightsHouse" 105 10 2 := fx_e (m := 1) (t := 0) rfl (by decide) (by decide +kernel)
theorem yfxe_1_109 : FxE "RightsHouse" 109 8 0 := fx_e (m := 1) (t := 0) rfl (by decide) (by decide +kernel)
theorem yfxe_1_13 : FxE "RightsHouse" 13 10 3 := fx_e (m := 1) (t := 3) rfl (by decide) (by decide +kernel)
theorem yfxe_1_16 : FxE "RightsHouse" 16 10 4 := fx_e (m := 1) (t := 3) rfl (by decide) (by decide +kernel)
theorem yfxe_1_173 : FxE "RightsHouse" 173 8 4 := fx_e (m := 1) (t := 3) rfl (by decide) (by decide +kernel)
theorem yfxe_1_176 : FxE "RightsHouse" 176 8 5 := fx_e (m := 1) (t := 3) rfl (by decide) (by decide +kernel)
theorem yfxe_1_19 : FxE "RightsHouse" 19 10 6 := fx_e (m := 1) (t := 3) rfl (by decide) (by decide +kernel)
theorem yfxe_1_191 : FxE "RightsHouse" 191 8 6 := fx_e (m := 1) (t := 3) rfl (by decide) (by decide +kernel)
theorem yfxe_1_205 : FxE "RightsHouse" 205 7 0 := fx_e (m := 1) (t := 0) rfl (by decide) (by decide +kernel)
theorem yfxe_1_213 : FxE "RightsHouse" 213 7 1 := fx_e (m := 1) (t := 3) rfl (by decide) (by decide +kernel)
theorem yfxe_1_216 : FxE "RightsHouse" 216 7 3 := fx_e (m := 1) (t := 3) rfl (by decide) (by decide +kernel)
theorem yfxe_1_223 : FxE "RightsHouse" 223 7 4 := fx_e (m := 1) (t := 3) rfl (by decide) (by decide +kernel)
theorem yfxe_1_25 : FxE "RightsHouse" 25 10 8 := fx_e (m := 1) (t := 3) rfl (by decide) (by decide +kernel)
theorem yfxe_1_252 : FxE "RightsHouse" 252 5 2 := fx_e (m := 1) (t := 3) rfl (by decide) (by decide +kernel)
theorem yfxe_1_255 : FxE "RightsHouse" 255 10 5 := fx_e (m := 1) (t := 0) rfl (by decide) (by decide +kernel)
theorem yfxe_1_291 : FxE "RightsHouse" 291 3 19 := fx_e (m := 1) (t := 0) rfl (by decide) (by decide +kernel)
theorem yfxe_1_297 : FxE "RightsHouse" 297 3 18 := fx_e (m := 1) (t := 1) rfl (by decide) (by decide +kernel)
theorem yfxe_1_300 : FxE "RightsHouse" 300 3 17 := fx_e (m := 1) (t := 3) rfl (by decide) (by decide +kernel)
theorem yfxe_1_32 : FxE "RightsHouse" 32 10 9 := fx_e (m := 1) (t := 3) rfl (by decide) (by decide +kernel)
theorem yfxe_1_50 : FxE "RightsHouse" 50 10 11 := fx_e (m := 1) (t := 3) rfl (by decide) (by decide +kernel)
theorem yfxe_1_556 : FxE "RightsHouse" 556 10 7 := fx_e (m := 1) (t := 0) rfl (by decide) (by decide +kernel)
theorem yfxe_5_15 : FxE "RightsHouse$Judge" 15 3 1 := fx_e (m := 113) (t := 3) rfl (by decide) (by decide +kernel)
theorem yfxe_5_247 : FxE "RightsHouse$Judge" 247 7 0 := fx_e (m := 113) (t := 0) rfl (by decide) (by decide +kernel)
theorem yfxe_5_252 : FxE "RightsHouse$Judge" 252 8 0 := fx_e (m := 113) (t := 0) rfl (by decide) (by decide +kernel)
theorem yfxe_5_262 : FxE "RightsHouse$Judge" 262 3 19 := fx_e (m := 113) (t := 0) rfl (by decide) (by decide +kernel)
theorem yfxe_5_35 : FxE "RightsHouse$Judge" 35 3 14 := fx_e (m := 113) (t := 3) rfl (by decide) (by decide +kernel)
theorem yfxe_5_38 : FxE "RightsHouse$Judge" 38 3 15 := fx_e (m := 113) (t := 3) rfl (by decide) (by decide +kernel)
theorem yfxe_5_41 : FxE "RightsHouse$Judge" 41 3 17 := fx_e (m := 113) (t := 3) rfl (by decide) (by decide +kernel)
theorem yfxe_5_44 : FxE "RightsHouse$Judge" 44 3 6 := fx_e (m := 113) (t := 0) rfl (by decide) (by decide +kernel)
theorem yfxe_5_48 : FxE "RightsHouse$Judge" 48 3 7 := fx_e (m := 113) (t := 0) rfl (by decide) (by decide +kernel)
theorem yfxe_5_51 : FxE "RightsHouse$Judge" 51 3 3 := fx_e (m := 113) (t := 0) rfl (by decide) (by decide +kernel)
theorem yfxe_5_9 : FxE "RightsHouse$Judge" 9 3 0 := fx_e (m := 113) (t := 3) rfl (by decide) (by decide +kernel)
theorem yfxi_10_31 : FxI "RightsHouse$Things" 31 7 0 := fx_i (m := 25) rfl (by decide) (by decide +kernel)
theorem yfxi_13_403 : FxI "RightsHouseModel" 403 11 0 := fx_i (m := 284) rfl (by decide) (by decide +kernel)
theorem yfxi_13_413 : FxI "RightsHouseModel" 413 11 3 := fx_i (m := 284) rfl (by decide) (by decide +kernel)
theorem yfxi_13_423 : FxI "RightsHouseModel" 423 11 6 := fx_i (m := 284) rfl (by decide) (by decide +kernel)
theorem yfxi_13_54 : FxI "RightsHouseModel" 54 11 20 := fx_i (m := 284) rfl (by decide) (by decide +kernel)
theorem yfxi_13_724 : FxI "RightsHouseModel" 724 11 71 := fx_i (m := 284) rfl (by decide) (by decide +kernel)
theorem yfxi_13_742 : FxI "RightsHouseModel" 742 11 75 := fx_i (m := 284) rfl (by decide) (by decide +kernel)
theorem yfxi_1_105 : FxI "RightsHouse" 105 10 2 := fx_i (m := 1) rfl (by decide) (by decide +kernel)
theorem yfxi_1_109 : FxI "RightsHouse" 109 8 0 := fx_i (m := 1) rfl (by decide) (by decide +kernel)
theorem yfxi_1_255 : FxI "RightsHouse" 255 10 5 := fx_i (m := 1) rfl (by decide) (by decide +kernel)
theorem yfxi_1_556 : FxI "RightsHouse" 556 10 7 := fx_i (m := 1) rfl (by decide) (by decide +kernel)
theorem yfxi_5_262 : FxI "RightsHouse$Judge" 262 3 19 := fx_i (m := 113) rfl (by decide) (by decide +kernel)
theorem yfxi_5_44 : FxI "RightsHouse$Judge" 44 3 6 := fx_i (m := 113) rfl (by decide) (by decide +kernel)
theorem yfxi_5_48 : FxI "RightsHouse$Judge" 48 3 7 := fx_i (m := 113) rfl (by decide) (by decide +kernel)
theorem yfxi_5_51 : FxI "RightsHouse$Judge" 51 3 3 := fx_i (m := 113) rfl (by decide) (by decide +kernel)
theorem yfxi_5_54 : FxI "RightsHouse$Judge" 54 3 4 := fx_i (m := 113) rfl (by decide) (by decide +kernel)
theorem yfxz_13_745 : FxZ "RightsHouseModel" 745 11 74 := fx_z (m := 284) rfl (by decide) (by decide +kernel)
theorem yfxz_5_265 : FxZ "RightsHouse$Judge" 265 3 18 := fx_z (m := 113) rfl (by decide) (by decide +kernel)
theorem yfxz_5_67 : FxZ "RightsHouse$Judge" 67 3 16 := fx_z (m := 113) rfl (by decide) (by decide +kernel)
theorem ykaa_11 : KaA 11 100 40 := ka_a (by decide +kernel)
theorem ykaa_112 : KaA 112 100 1800 := ka_a (by decide +kernel)
theorem ykaa_113 : KaA 113 100 300 := ka_a (by decide +kernel)
theorem ykaa_12 : KaA 12 100 40 := ka_a (by decide +kernel)
theorem ykaa_121 : KaA 121 100 480 := ka_a (by decide +kernel)
theorem ykaa_122 : KaA 122 100 480 := ka_a (by decide +kernel)
theorem ykaa_123 : KaA 123 101 9600 := ka_a (by decide +kernel)
theorem ykaa_124 : KaA 124 101 20 := ka_a (by decide +kernel)
theorem ykaa_127 : KaA 127 102 40 := ka_a (by decide +kernel)
theorem ykaa_13 : KaA 13 102 40 := ka_a (by decide +kernel)
theorem ykaa_15 : KaA 15 100 6 := ka_a (by decide +kernel)
theorem ykaa_154 : KaA 154 100 40 := ka_a (by decide +kernel)
theorem ykaa_155 : KaA 155 100 40 := ka_a (by decide +kernel)
theorem ykaa_156 : KaA 156 100 6 := ka_a (by decide +kernel)
theorem ykaa_16 : KaA 16 100 6 := ka_a (by decide +kernel)
theorem ykaa_2 : KaA 2 100 40 := ka_a (by decide +kernel)
theorem ykaa_3 : KaA 3 100 40 := ka_a (by decide +kernel)
theorem ykaa_31 : KaA 31 100 4 := ka_a (by decide +kernel)
theorem ykaa_32 : KaA 32 100 4 := ka_a (by decide +kernel)
theorem ykaa_33 : KaA 33 100 6 := ka_a (by decide +kernel)
theorem ykaa_4 : KaA 4 100 2100 := ka_a (by decide +kernel)
theorem ykaa_7 : KaA 7 100 480 := ka_a (by decide +kernel)
theorem ykaa_8 : KaA 8 100 480 := ka_a (by decide +kernel)
theorem ykaa_9 : KaA 9 101 9600 := ka_a (by decide +kernel)
theorem ykfa_0_11 : KfA 0 11 10 2 27 := kf_a (by decide) (by decide +kernel)
theorem ykfa_0_2 : KfA 0 2 10 0 0 := kf_a (by decide) (by decide +kernel)
theorem ykfa_0_3 : KfA 0 3 10 2 2 := kf_a (by decide) (by decide +kernel)
theorem ykfa_0_4 : KfA 0 4 10 2 3 := kf_a (by decide) (by decide +kernel)
theorem ykfa_0_5 : KfA 0 5 10 0 0 := kf_a (by decide) (by decide +kernel)
theorem ykfa_0_6 : KfA 0 6 10 2 4 := kf_a (by decide) (by decide +kernel)
theorem ykfa_0_7 : KfA 0 7 10 0 0 := kf_a (by decide) (by decide +kernel)
theorem ykfa_0_8 : KfA 0 8 10 2 5 := kf_a (by decide) (by decide +kernel)
theorem ykfa_0_9 : KfA 0 9 10 2 10 := kf_a (by decide) (by decide +kernel)
theorem ykfa_10_1 : KfA 10 1 7 2 11 := kf_a (by decide) (by decide +kernel)
theorem ykfa_10_2 : KfA 10 2 7 2 12 := kf_a (by decide) (by decide +kernel)
theorem ykfa_10_3 : KfA 10 3 7 2 13 := kf_a (by decide) (by decide +kernel)
theorem ykfa_10_5 : KfA 10 5 7 2 15 := kf_a (by decide) (by decide +kernel)
theorem ykfa_10_6 : KfA 10 6 7 2 16 := kf_a (by decide) (by decide +kernel)
theorem ykfa_110_16 : KfA 110 16 11 2 121 := kf_a (by decide) (by decide +kernel)
theorem ykfa_110_17 : KfA 110 17 11 2 122 := kf_a (by decide) (by decide +kernel)
theorem ykfa_110_18 : KfA 110 18 11 2 123 := kf_a (by decide) (by decide +kernel)
theorem ykfa_110_19 : KfA 110 19 11 2 124 := kf_a (by decide) (by decide +kernel)
theorem ykfa_110_23 : KfA 110 23 11 2 127 := kf_a (by decide) (by decide +kernel)
theorem ykfa_110_3 : KfA 110 3 11 0 0 := kf_a (by decide) (by decide +kernel)
theorem ykfa_110_4 : KfA 110 4 11 2 112 := kf_a (by decide) (by decide +kernel)
theorem ykfa_110_5 : KfA 110 5 11 2 113 := kf_a (by decide) (by decide +kernel)
theorem ykfa_110_71 : KfA 110 71 11 0 0 := kf_a (by decide) (by decide +kernel)
theorem ykfa_110_72 : KfA 110 72 11 2 154 := kf_a (by decide) (by decide +kernel)
theorem ykfa_110_73 : KfA 110 73 11 2 155 := kf_a (by decide) (by decide +kernel)
theorem ykfa_110_74 : KfA 110 74 11 0 0 := kf_a (by decide) (by decide +kernel)
theorem ykfa_110_75 : KfA 110 75 11 0 0 := kf_a (by decide) (by decide +kernel)
theorem ykfa_110_76 : KfA 110 76 11 2 156 := kf_a (by decide) (by decide +kernel)
theorem ykfa_27_0 : KfA 27 0 3 2 5 := kf_a (by decide) (by decide +kernel)
theorem ykfa_27_1 : KfA 27 1 3 2 10 := kf_a (by decide) (by decide +kernel)
theorem ykfa_27_14 : KfA 27 14 3 2 31 := kf_a (by decide) (by decide +kernel)
theorem ykfa_27_15 : KfA 27 15 3 2 32 := kf_a (by decide) (by decide +kernel)
theorem ykfa_27_16 : KfA 27 16 3 0 0 := kf_a (by decide) (by decide +kernel)
theorem ykfa_27_17 : KfA 27 17 3 2 33 := kf_a (by decide) (by decide +kernel)
theorem ykfa_27_18 : KfA 27 18 3 0 0 := kf_a (by decide) (by decide +kernel)
theorem ykfa_27_19 : KfA 27 19 3 0 0 := kf_a (by decide) (by decide +kernel)
theorem ykfa_27_3 : KfA 27 3 3 0 0 := kf_a (by decide) (by decide +kernel)
theorem ykfa_27_4 : KfA 27 4 3 0 0 := kf_a (by decide) (by decide +kernel)
theorem ykfa_27_6 : KfA 27 6 3 0 0 := kf_a (by decide) (by decide +kernel)
theorem ykfa_27_7 : KfA 27 7 3 0 0 := kf_a (by decide) (by decide +kernel)
theorem ykfa_5_4 : KfA 5 4 8 2 7 := kf_a (by decide) (by decide +kernel)
theorem ykfa_5_5 : KfA 5 5 8 2 8 := kf_a (by decide) (by decide +kernel)
theorem ykfa_5_6 : KfA 5 6 8 2 9 := kf_a (by decide) (by decide +kernel)
noncomputable def W_H_isAct (a0 : Int32) (σ : zS) (Q : Int32 → zS → Prop) : Prop := ((Int32.toInt a0) < 0 → (Q 0 σ)) ∧ (¬ (Int32.toInt a0) < 0 → ((6 ≤ (Int32.toInt a0) → (Q 0 σ)) ∧ (¬ 6 ≤ (Int32.toInt a0) → (Q 1 σ))))
theorem sF_H_isAct {E : xV} {σ : zS} {K : zKt} {a0 : Int32} {Q : Int32 → zS → Prop} (h : W_H_isAct a0 σ Q) (k : ∀ v s, Q v s → K (some (.int v)) s) : Cz E Y_H_isAct [.int a0] σ K := by
  refine z_entry (by decide) (fun a => by rw [sl_len]; exact Nat.le_of_ble_eq_true rfl) rfl ?_
  unfold W_H_isAct at h
  refine z_iload_n (f := 0) (i := 0) (q := 0) (pc' := 1) ⟨by decide +kernel, rfl⟩ rfl rfl ?_
  refine z_if_lt (off := 13) (tgt := 14) (pc' := 4) ⟨by decide +kernel, by decide, rfl⟩ (fun h1 => ?_) (fun h1 => ?_)
  · have h := h.1 (qi_lt_t rfl (by decide) h1)
    refine z_iconst (i := 0) (v := 0) (pc' := 15) ⟨by decide +kernel, rfl⟩ (by decide) ?_
    exact z_iret (ty := .boolean) rfl (by rfl) (by decide +kernel) (k _ _ h)
  · have h := h.2 (qi_lt_f rfl (by decide) h1)
    refine z_iload_n (f := 0) (i := 0) (q := 0) (pc' := 5) ⟨by decide +kernel, rfl⟩ rfl rfl ?_
    refine z_bipush (i := 6) (v := 6) (pc' := 7) ⟨by decide +kernel, rfl⟩ (by decide) ?_
    refine z_icmp_ge (off := 7) (tgt := 14) (pc' := 10) ⟨by decide +kernel, by decide, rfl⟩ (fun h2 => ?_) (fun h2 => ?_)
    · have h := h.1 (qi_ge_t rfl (by decide) h2)
      refine z_iconst (i := 0) (v := 0) (pc' := 15) ⟨by decide +kernel, rfl⟩ (by decide) ?_
      exact z_iret (ty := .boolean) rfl (by rfl) (by decide +kernel) (k _ _ h)
    · have h := h.2 (qi_ge_f rfl (by decide) h2)
      refine z_iconst (i := 1) (v := 1) (pc' := 11) ⟨by decide +kernel, rfl⟩ (by decide) ?_
      refine z_goto (off := 4) (tgt := 15) (pc' := 14) ⟨by decide +kernel, by decide, rfl⟩ ?_
      exact z_iret (ty := .boolean) rfl (by rfl) (by decide +kernel) (k _ _ h)
noncomputable def W_H_isAmong (a0 : Int32) (a1 : Int32) (σ : zS) (Q : Int32 → zS → Prop) : Prop := ((Int32.toInt a0) < 0 → (Q 0 σ)) ∧ (¬ (Int32.toInt a0) < 0 → (((Int32.toInt a1) ≤ (Int32.toInt a0) → (Q 0 σ)) ∧ (¬ (Int32.toInt a1) ≤ (Int32.toInt a0) → (Q 1 σ))))
theorem sF_H_isAmong {E : xV} {σ : zS} {K : zKt} {a0 : Int32} {a1 : Int32} {Q : Int32 → zS → Prop} (h : W_H_isAmong a0 a1 σ Q) (k : ∀ v s, Q v s → K (some (.int v)) s) : Cz E Y_H_isAmong [.int a0, .int a1] σ K := by
  refine z_entry (by decide) (fun a => by rw [sl_len]; exact Nat.le_of_ble_eq_true rfl) rfl ?_
  unfold W_H_isAmong at h
  refine z_iload_n (f := 0) (i := 0) (q := 0) (pc' := 1) ⟨by decide +kernel, rfl⟩ rfl rfl ?_
  refine z_if_lt (off := 12) (tgt := 13) (pc' := 4) ⟨by decide +kernel, by decide, rfl⟩ (fun h1 => ?_) (fun h1 => ?_)
  · have h := h.1 (qi_lt_t rfl (by decide) h1)
    refine z_iconst (i := 0) (v := 0) (pc' := 14) ⟨by decide +kernel, rfl⟩ (by decide) ?_
    exact z_iret (ty := .boolean) rfl (by rfl) (by decide +kernel) (k _ _ h)
  · have h := h.2 (qi_lt_f rfl (by decide) h1)
    refine z_iload_n (f := 0) (i := 0) (q := 0) (pc' := 5) ⟨by decide +kernel, rfl⟩ rfl rfl ?_
    refine z_iload_n (f := 1) (i := 1) (q := 1) (pc' := 6) ⟨by decide +kernel, rfl⟩ rfl rfl ?_
    refine z_icmp_ge (off := 7) (tgt := 13) (pc' := 9) ⟨by decide +kernel, by decide, rfl⟩ (fun h2 => ?_) (fun h2 => ?_)
    · have h := h.1 (qi_ge_t rfl rfl h2)
      refine z_iconst (i := 0) (v := 0) (pc' := 14) ⟨by decide +kernel, rfl⟩ (by decide) ?_
      exact z_iret (ty := .boolean) rfl (by rfl) (by decide +kernel) (k _ _ h)
    · have h := h.2 (qi_ge_f rfl rfl h2)
      refine z_iconst (i := 1) (v := 1) (pc' := 10) ⟨by decide +kernel, rfl⟩ (by decide) ?_
      refine z_goto (off := 4) (tgt := 14) (pc' := 13) ⟨by decide +kernel, by decide, rfl⟩ ?_
      exact z_iret (ty := .boolean) rfl (by rfl) (by decide +kernel) (k _ _ h)
noncomputable def W_H_isMoment (a0 : Int32) (σ : zS) (Q : Int32 → zS → Prop) : Prop := ((Int32.toInt a0) < 0 → (Q 0 σ)) ∧ (¬ (Int32.toInt a0) < 0 → ((1000000000 < (Int32.toInt a0) → (Q 0 σ)) ∧ (¬ 1000000000 < (Int32.toInt a0) → (Q 1 σ))))
noncomputable def W_H_isRequest (a1 : Int32) (a2 : Int32) (a3 : Int32) (σ : zS) (Q : Int32 → zS → Prop) : Prop := W_Wh_isPerson a1 σ (fun v1 σ1 => ((Int32.toInt v1) = 0 → (Q 0 σ1)) ∧ (¬ (Int32.toInt v1) = 0 → (W_H_isAct a2 σ1 (fun v3 σ3 => ((Int32.toInt v3) = 0 → (Q 0 σ3)) ∧ (¬ (Int32.toInt v3) = 0 → (W_Th_isThere a3 σ3 (fun v5 σ5 => ((Int32.toInt v5) = 0 → (Q 0 σ5)) ∧ (¬ (Int32.toInt v5) = 0 → (Q 1 σ5)))))))))
theorem sF_H_isRequest {E : xV} {σ : zS} {K : zKt} {a1 : Int32} {a2 : Int32} {a3 : Int32} {Q : Int32 → zS → Prop} (h : W_H_isRequest a1 a2 a3 σ Q) (k : ∀ v s, Q v s → K (some (.int v)) s) : Cz E Y_H_isRequest [.ref 0, .int a1, .int a2, .int a3] σ K := by
  refine z_entry (by decide) (fun a => by rw [sl_len]; exact Nat.le_of_ble_eq_true rfl) rfl ?_
  unfold W_H_isRequest at h
  refine z_aload_n (f := 0) (i := 0) (q := 0) (pc' := 1) ⟨by decide +kernel, rfl⟩ rfl rfl ?_
  refine w_getr (k := 0) (j := 8) (idx := 25) (pc' := 4) yfxe_1_25 ykfa_0_8 ⟨by decide +kernel, rfl⟩ ?_
  refine z_iload_n (f := 1) (i := 1) (q := 1) (pc' := 5) ⟨by decide +kernel, rfl⟩ rfl rfl ?_
  refine w_invV (Z := Y_Wh_isPerson) (idx := 146) (kb := 5) (As := [.int a1]) (rest := []) (pc' := 8) cl_1_146 rfl ⟨rfl, rfl⟩ ykfa_5_0 rfl ⟨⟨by decide, by decide⟩, rfl, rfl⟩ ⟨by decide +kernel, rfl⟩ rfl rfl (Nat.le_of_ble_eq_true rfl) rfl rfl ?_
  refine sF_Wh_isPerson h (fun v1 σ1 h => ?_)
  show Wz E Y_H_isRequest 8 [(0, .ref 0), (1, .int a1), (2, .int a2), (3, .int a3)] [.int v1] σ1 K
  refine z_if_eq (off := 25) (tgt := 33) (pc' := 11) ⟨by decide +kernel, by decide, rfl⟩ (fun h2 => ?_) (fun h2 => ?_)
  · have h := h.1 (qi_eq_t rfl (by decide) h2)
    refine z_iconst (i := 0) (v := 0) (pc' := 34) ⟨by decide +kernel, rfl⟩ (by decide) ?_
    exact z_iret (ty := .boolean) rfl (by rfl) (by decide +kernel) (k _ _ h)
  · have h := h.2 (qi_eq_f rfl (by decide) h2)
    refine z_iload_n (f := 2) (i := 2) (q := 2) (pc' := 12) ⟨by decide +kernel, rfl⟩ rfl rfl ?_
    refine w_invS (Z := Y_H_isAct) (idx := 236) (As := [.int a2]) (rest := []) (pc' := 15) cl_1_236 rfl ⟨rfl, rfl⟩ ⟨⟨by decide, by decide⟩, rfl, rfl⟩ ⟨by decide +kernel, rfl⟩ rfl rfl (Nat.le_of_ble_eq_true rfl) rfl rfl ?_
    refine sF_H_isAct h (fun v3 σ3 h => ?_)
    show Wz E Y_H_isRequest 15 [(0, .ref 0), (1, .int a1), (2, .int a2), (3, .int a3)] [.int v3] σ3 K
    refine z_if_eq (off := 18) (tgt := 33) (pc' := 18) ⟨by decide +kernel, by decide, rfl⟩ (fun h4 => ?_) (fun h4 => ?_)
    · have h := h.1 (qi_eq_t rfl (by decide) h4)
      refine z_iconst (i := 0) (v := 0) (pc' := 34) ⟨by decide +kernel, rfl⟩ (by decide) ?_
      exact z_iret (ty := .boolean) rfl (by rfl) (by decide +kernel) (k _ _ h)
    · have h := h.2 (qi_eq_f rfl (by decide) h4)
      refine z_aload_n (f := 0) (i := 0) (q := 0) (pc' := 19) ⟨by decide +kernel, rfl⟩ rfl rfl ?_
      refine w_getr (k := 0) (j := 9) (idx := 32) (pc' := 22) yfxe_1_32 ykfa_0_9 ⟨by decide +kernel, rfl⟩ ?_
      refine z_iload_n (f := 3) (i := 3) (q := 3) (pc' := 23) ⟨by decide +kernel, rfl⟩ rfl rfl ?_
      refine w_invV (Z := Y_Th_isThere) (idx := 160) (kb := 10) (As := [.int a3]) (rest := []) (pc' := 26) cl_1_160 rfl ⟨rfl, rfl⟩ ykfa_10_0 rfl ⟨⟨by decide, by decide⟩, rfl, rfl⟩ ⟨by decide +kernel, rfl⟩ rfl rfl (Nat.le_of_ble_eq_true rfl) rfl rfl ?_
      refine sF_Th_isThere h (fun v5 σ5 h => ?_)
      show Wz E Y_H_isRequest 26 [(0, .ref 0), (1, .int a1), (2, .int a2), (3, .int a3)] [.int v5] σ5 K
      refine z_if_eq (off := 7) (tgt := 33) (pc' := 29) ⟨by decide +kernel, by decide, rfl⟩ (fun h6 => ?_) (fun h6 => ?_)
      · have h := h.1 (qi_eq_t rfl (by decide) h6)
        refine z_iconst (i := 0) (v := 0) (pc' := 34) ⟨by decide +kernel, rfl⟩ (by decide) ?_
        exact z_iret (ty := .boolean) rfl (by rfl) (by decide +kernel) (k _ _ h)
      · have h := h.2 (qi_eq_f rfl (by decide) h6)
        refine z_iconst (i := 1) (v := 1) (pc' := 30) ⟨by decide +kernel, rfl⟩ (by decide) ?_
        refine z_goto (off := 4) (tgt := 34) (pc' := 33) ⟨by decide +kernel, by decide, rfl⟩ ?_
        exact z_iret (ty := .boolean) rfl (by rfl) (by decide +kernel) (k _ _ h)
noncomputable def WB_H_policyInForce_7 (F7 : Int32 → Int32 → zS → (Int32 → zS → Prop) → Prop) (x1 : Int32) (x2 : Int32) (σ : zS) (Q : Int32 → zS → Prop) : Prop := ((Int32.toInt x2) < 0 → (Q (-4) σ)) ∧ (¬ (Int32.toInt x2) < 0 → (∃ n2 : Nat, Int32.toInt x2 = (n2 : Int) ∧ n2 < 40 ∧ (((Int32.toInt x1) < (Int32.toInt (σ.1 2 n2)) → ((-2147483648 ≤ (Int32.toInt x2) + (-1) ∧ (Int32.toInt x2) + (-1) ≤ 2147483647) ∧ ∀ r4 : Int32, r4.toInt = (Int32.toInt x2) + (-1) → (F7 x1 r4 σ Q))) ∧ (¬ (Int32.toInt x1) < (Int32.toInt (σ.1 2 n2)) → (Q (σ.1 3 n2) σ)))))
theorem sh_H_policyInForce_7 {E : xV} {σ : zS} {K : zKt} {F7 : Int32 → Int32 → zS → (Int32 → zS → Prop) → Prop} {x1 : Int32} {x2 : Int32} {Q : Int32 → zS → Prop} (f7 : ∀ (x1 : Int32) (x2 : Int32) (σ : zS), F7 x1 x2 σ Q → Wz E Y_H_policyInForce 7 [(0, .ref 0), (1, .int x1), (2, .int x2)] [] σ K) (k : ∀ v s, Q v s → K (some (.int v)) s) (h : WB_H_policyInForce_7 F7 x1 x2 σ Q) : Wz E Y_H_policyInForce 7 [(0, .ref 0), (1, .int x1), (2, .int x2)] [] σ K := by
  unfold WB_H_policyInForce_7 at h
  refine z_iload_n (f := 2) (i := 2) (q := 2) (pc' := 8) ⟨by decide +kernel, rfl⟩ rfl rfl ?_
  refine z_if_lt (off := 26) (tgt := 34) (pc' := 11) ⟨by decide +kernel, by decide, rfl⟩ (fun h1 => ?_) (fun h1 => ?_)
  · have h := h.1 (qi_lt_t rfl (by decide) h1)
    refine z_bipush (i := (-4)) (v := (-4)) (pc' := 36) ⟨by decide +kernel, rfl⟩ (by decide) ?_
    exact z_iret (ty := .int) rfl (by rfl) (by decide +kernel) (k _ _ h)
  · have h := h.2 (qi_lt_f rfl (by decide) h1)
    refine z_aload_n (f := 0) (i := 0) (q := 0) (pc' := 12) ⟨by decide +kernel, rfl⟩ rfl rfl ?_
    refine w_getr (k := 0) (j := 3) (idx := 13) (pc' := 15) yfxe_1_13 ykfa_0_3 ⟨by decide +kernel, rfl⟩ ?_
    refine z_iload_n (f := 2) (i := 2) (q := 2) (pc' := 16) ⟨by decide +kernel, rfl⟩ rfl rfl ?_
    obtain ⟨n2, hi2, hz2, h⟩ := h
    refine w_iald (k := 2) (n := n2) (pc' := 17) ykaa_2 (hi2) (hz2) ⟨by decide +kernel, rfl⟩ ?_
    refine z_iload_n (f := 1) (i := 1) (q := 1) (pc' := 18) ⟨by decide +kernel, rfl⟩ rfl rfl ?_
    refine z_icmp_gt (off := 10) (tgt := 28) (pc' := 21) ⟨by decide +kernel, by decide, rfl⟩ (fun h3 => ?_) (fun h3 => ?_)
    · have h := h.1 (qi_gt_t rfl rfl h3)
      refine z_iinc (i := 2) (z := (-1)) (q := 2) (pc' := 31) ⟨by decide +kernel, rfl⟩ rfl rfl (by decide) rfl ?_
      show Wz E Y_H_policyInForce 31 [(2, .int (x2 + Int32.ofInt (-1))), (0, .ref 0), (1, .int x1)] [] σ K
      obtain ⟨hb4, h⟩ := h
      have h := h (x2 + Int32.ofInt (-1)) (ia_ok rfl (by decide) hb4)
      generalize (x2 + Int32.ofInt (-1)) = r4 at h ⊢
      refine z_goto (off := (-24)) (tgt := 7) (pc' := 34) ⟨by decide +kernel, by decide, rfl⟩ ?_
      refine z_sub [1, 2, 0] rfl ?_
      exact f7 _ _ _ h
    · have h := h.2 (qi_gt_f rfl rfl h3)
      refine z_aload_n (f := 0) (i := 0) (q := 0) (pc' := 22) ⟨by decide +kernel, rfl⟩ rfl rfl ?_
      refine w_getr (k := 0) (j := 4) (idx := 16) (pc' := 25) yfxe_1_16 ykfa_0_4 ⟨by decide +kernel, rfl⟩ ?_
      refine z_iload_n (f := 2) (i := 2) (q := 2) (pc' := 26) ⟨by decide +kernel, rfl⟩ rfl rfl ?_
      refine w_iald (k := 3) (n := n2) (pc' := 27) ykaa_3 (hi2) (hz2) ⟨by decide +kernel, rfl⟩ ?_
      exact z_iret (ty := .int) rfl (by rfl) (by decide +kernel) (k _ _ h)
noncomputable def WL_H_policyInForce : Nat → (Int32 → Int32 → zS → (Int32 → zS → Prop) → Prop)
  | 0 => fun _ _ _ _ => False
  | n + 1 => WB_H_policyInForce_7 (WL_H_policyInForce n)
theorem wl_H_policyInForce_7 {n : Nat} {x1 : Int32} {x2 : Int32} {σ : zS} {Q : Int32 → zS → Prop} (h : WB_H_policyInForce_7 (WL_H_policyInForce n) x1 x2 σ Q) : (WL_H_policyInForce (n + 1)) x1 x2 σ Q := h
theorem sl_H_policyInForce {E : xV} {K : zKt} {Q : Int32 → zS → Prop} (k : ∀ v s, Q v s → K (some (.int v)) s) : ∀ n, (∀ (x1 : Int32) (x2 : Int32) (σ : zS), (WL_H_policyInForce n) x1 x2 σ Q → Wz E Y_H_policyInForce 7 [(0, .ref 0), (1, .int x1), (2, .int x2)] [] σ K)
  | 0 => fun _ _ _ h => h.elim
  | n + 1 => by
    have i := sl_H_policyInForce (E := E)  k n
    exact fun _ _ _ h => sh_H_policyInForce_7 i k h
noncomputable def W_H_policyInForce (a1 : Int32) (σ : zS) (Q : Int32 → zS → Prop) : Prop := (-2147483648 ≤ (Int32.toInt (σ.1 0 5)) - 1 ∧ (Int32.toInt (σ.1 0 5)) - 1 ≤ 2147483647) ∧ ∀ r1 : Int32, r1.toInt = (Int32.toInt (σ.1 0 5)) - 1 → ((WL_H_policyInForce fuF) a1 r1 σ Q)
theorem sF_H_policyInForce {E : xV} {σ : zS} {K : zKt} {a1 : Int32} {Q : Int32 → zS → Prop} (h : W_H_policyInForce a1 σ Q) (k : ∀ v s, Q v s → K (some (.int v)) s) : Cz E Y_H_policyInForce [.ref 0, .int a1] σ K := by
  refine z_entry (by decide) (fun a => by rw [sl_len]; exact Nat.le_of_ble_eq_true rfl) rfl ?_
  unfold W_H_policyInForce at h
  refine z_aload_n (f := 0) (i := 0) (q := 0) (pc' := 1) ⟨by decide +kernel, rfl⟩ rfl rfl ?_
  refine w_geti (k := 0) (j := 5) (idx := 255) (pc' := 4) yfxe_1_255 ykfa_0_5 ⟨by decide +kernel, rfl⟩ ?_
  refine z_iconst (i := 1) (v := 1) (pc' := 5) ⟨by decide +kernel, rfl⟩ (by decide) ?_
  refine z_isub (pc' := 6) ⟨by decide +kernel, rfl⟩ ?_
  obtain ⟨hb1, h⟩ := h
  have h := h ((σ.1 0 5) - 1) (is_ok rfl (by decide) hb1)
  generalize ((σ.1 0 5) - 1) = r1 at h ⊢
  refine z_istore_n (f := 2) (i := 2) (pc' := 7) ⟨by decide +kernel, rfl⟩ rfl (by decide) rfl ?_
  show Wz E Y_H_policyInForce 7 [(2, .int r1), (0, .ref 0), (1, .int a1)] [] σ K
  refine z_sub [1, 2, 0] rfl ?_
  exact (sl_H_policyInForce k fuF) _ _ _ h
noncomputable def W_Ju_setMoment (a1 : Int32) (a2 : Int32) (σ : zS) (Q : Unit → zS → Prop) : Prop := ∀ σ1 : zS, zI σ 27 6 a1 = σ1 → (∀ σ2 : zS, zI σ1 27 7 a2 = σ2 → (Q () σ2))
theorem sF_Ju_setMoment {E : xV} {σ : zS} {K : zKt} {a1 : Int32} {a2 : Int32} {Q : Unit → zS → Prop} (h : W_Ju_setMoment a1 a2 σ Q) (k : ∀ v s, Q v s → K none s) : Cz E Y_Ju_setMoment [.ref 27, .int a1, .int a2] σ K := by
  refine z_entry (by decide) (fun a => by rw [sl_len]; exact Nat.le_of_ble_eq_true rfl) rfl ?_
  unfold W_Ju_setMoment at h
  refine z_aload_n (f := 0) (i := 0) (q := 0) (pc' := 1) ⟨by decide +kernel, rfl⟩ rfl rfl ?_
  refine z_iload_n (f := 1) (i := 1) (q := 1) (pc' := 2) ⟨by decide +kernel, rfl⟩ rfl rfl ?_
  refine w_puti (k := 27) (j := 6) (idx := 44) (pc' := 5) yfxi_5_44 ykfa_27_6 ⟨by decide +kernel, rfl⟩ ?_
  generalize hs1 : zI σ 27 6 a1 = σ1
  have h := h σ1 hs1
  refine z_aload_n (f := 0) (i := 0) (q := 0) (pc' := 6) ⟨by decide +kernel, rfl⟩ rfl rfl ?_
  refine z_iload_n (f := 2) (i := 2) (q := 2) (pc' := 7) ⟨by decide +kernel, rfl⟩ rfl rfl ?_
  refine w_puti (k := 27) (j := 7) (idx := 48) (pc' := 10) yfxi_5_48 ykfa_27_7 ⟨by decide +kernel, rfl⟩ ?_
  generalize hs2 : zI σ1 27 7 a2 = σ2
  have h := h σ2 hs2
  exact z_vret rfl (by decide +kernel) (k _ _ h)
noncomputable def W_Ju_setPerson (a1 : Int32) (a2 : Int32) (σ : zS) (Q : Unit → zS → Prop) : Prop := ∀ σ1 : zS, zI σ 27 3 a1 = σ1 → (∀ σ2 : zS, zI σ1 27 4 a2 = σ2 → (Q () σ2))
theorem sF_Ju_setPerson {E : xV} {σ : zS} {K : zKt} {a1 : Int32} {a2 : Int32} {Q : Unit → zS → Prop} (h : W_Ju_setPerson a1 a2 σ Q) (k : ∀ v s, Q v s → K none s) : Cz E Y_Ju_setPerson [.ref 27, .int a1, .int a2] σ K := by
  refine z_entry (by decide) (fun a => by rw [sl_len]; exact Nat.le_of_ble_eq_true rfl) rfl ?_
  unfold W_Ju_setPerson at h
  refine z_aload_n (f := 0) (i := 0) (q := 0) (pc' := 1) ⟨by decide +kernel, rfl⟩ rfl rfl ?_
  refine z_iload_n (f := 1) (i := 1) (q := 1) (pc' := 2) ⟨by decide +kernel, rfl⟩ rfl rfl ?_
  refine w_puti (k := 27) (j := 3) (idx := 51) (pc' := 5) yfxi_5_51 ykfa_27_3 ⟨by decide +kernel, rfl⟩ ?_
  generalize hs1 : zI σ 27 3 a1 = σ1
  have h := h σ1 hs1
  refine z_aload_n (f := 0) (i := 0) (q := 0) (pc' := 6) ⟨by decide +kernel, rfl⟩ rfl rfl ?_
  refine z_iload_n (f := 2) (i := 2) (q := 2) (pc' := 7) ⟨by decide +kernel, rfl⟩ rfl rfl ?_
  refine w_puti (k := 27) (j := 4) (idx := 54) (pc' := 10) yfxi_5_54 ykfa_27_4 ⟨by decide +kernel, rfl⟩ ?_
  generalize hs2 : zI σ1 27 4 a2 = σ2
  have h := h σ2 hs2
  exact z_vret rfl (by decide +kernel) (k _ _ h)
noncomputable def W_H_sumAhead (a1 : Int32) (σ : zS) (Q : Int32 → zS → Prop) : Prop := ((Int32.toInt a1) = 0 → (Q 1 σ)) ∧ (¬ (Int32.toInt a1) = 0 → ((-2147483648 ≤ (Int32.toInt a1) - 1 ∧ (Int32.toInt a1) - 1 ≤ 2147483647) ∧ ∀ r2 : Int32, r2.toInt = (Int32.toInt a1) - 1 → ((-2147483648 ≤ (Int32.toInt r2) * 7 ∧ (Int32.toInt r2) * 7 ≤ 2147483647) ∧ ∀ r3 : Int32, r3.toInt = (Int32.toInt r2) * 7 → ((-2147483648 ≤ (Int32.toInt r3) + 6 ∧ (Int32.toInt r3) + 6 ≤ 2147483647) ∧ ∀ r4 : Int32, r4.toInt = (Int32.toInt r3) + 6 → (∃ n5 : Nat, Int32.toInt r4 = (n5 : Int) ∧ n5 < 2100 ∧ (Q (σ.1 4 n5) σ))))))
theorem sF_H_sumAhead {E : xV} {σ : zS} {K : zKt} {a1 : Int32} {Q : Int32 → zS → Prop} (h : W_H_sumAhead a1 σ Q) (k : ∀ v s, Q v s → K (some (.int v)) s) : Cz E Y_H_sumAhead [.ref 0, .int a1] σ K := by
  refine z_entry (by decide) (fun a => by rw [sl_len]; exact Nat.le_of_ble_eq_true rfl) rfl ?_
  unfold W_H_sumAhead at h
  refine z_iload_n (f := 1) (i := 1) (q := 1) (pc' := 1) ⟨by decide +kernel, rfl⟩ rfl rfl ?_
  refine z_if_ne (off := 7) (tgt := 8) (pc' := 4) ⟨by decide +kernel, by decide, rfl⟩ (fun h1 => ?_) (fun h1 => ?_)
  · have h := h.2 (qi_ne_t rfl (by decide) h1)
    refine z_aload_n (f := 0) (i := 0) (q := 0) (pc' := 9) ⟨by decide +kernel, rfl⟩ rfl rfl ?_
    refine w_getr (k := 0) (j := 6) (idx := 19) (pc' := 12) yfxe_1_19 ykfa_0_6 ⟨by decide +kernel, rfl⟩ ?_
    refine z_iload_n (f := 1) (i := 1) (q := 1) (pc' := 13) ⟨by decide +kernel, rfl⟩ rfl rfl ?_
    refine z_iconst (i := 1) (v := 1) (pc' := 14) ⟨by decide +kernel, rfl⟩ (by decide) ?_
    refine z_isub (pc' := 15) ⟨by decide +kernel, rfl⟩ ?_
    obtain ⟨hb2, h⟩ := h
    have h := h (a1 - 1) (is_ok rfl (by decide) hb2)
    generalize (a1 - 1) = r2 at h ⊢
    refine z_bipush (i := 7) (v := 7) (pc' := 17) ⟨by decide +kernel, rfl⟩ (by decide) ?_
    refine z_imul (pc' := 18) ⟨by decide +kernel, rfl⟩ ?_
    obtain ⟨hb3, h⟩ := h
    have h := h (r2 * 7) (im_ok rfl (by decide) hb3)
    generalize (r2 * 7) = r3 at h ⊢
    refine z_bipush (i := 6) (v := 6) (pc' := 20) ⟨by decide +kernel, rfl⟩ (by decide) ?_
    refine z_iadd (pc' := 21) ⟨by decide +kernel, rfl⟩ ?_
    obtain ⟨hb4, h⟩ := h
    have h := h (r3 + 6) (ia_ok rfl (by decide) hb4)
    generalize (r3 + 6) = r4 at h ⊢
    obtain ⟨n5, hi5, hz5, h⟩ := h
    refine w_iald (k := 4) (n := n5) (pc' := 22) ykaa_4 (hi5) (hz5) ⟨by decide +kernel, rfl⟩ ?_
    exact z_iret (ty := .int) rfl (by rfl) (by decide +kernel) (k _ _ h)
  · have h := h.1 (qi_ne_f rfl (by decide) h1)
    refine z_iconst (i := 1) (v := 1) (pc' := 5) ⟨by decide +kernel, rfl⟩ (by decide) ?_
    refine z_goto (off := 17) (tgt := 22) (pc' := 8) ⟨by decide +kernel, by decide, rfl⟩ ?_
    exact z_iret (ty := .int) rfl (by rfl) (by decide +kernel) (k _ _ h)
noncomputable def WB_H_sumBehind_5 (F5 : Int32 → Int32 → Int32 → zS → (Int32 → zS → Prop) → Prop) (x2 : Int32) (x3 : Int32) (x4 : Int32) (σ : zS) (Q : Int32 → zS → Prop) : Prop := (6 ≤ (Int32.toInt x4) → (Q x3 σ)) ∧ (¬ 6 ≤ (Int32.toInt x4) → (∃ n2 : Nat, Int32.toInt ((x2 * 7) + x4) = (n2 : Int) ∧ n2 < 2100 ∧ (F5 x2 ((((x3 ^^^ (σ.1 4 n2)) * 1664525) + 1013904223) ^^^ ((Int32.toUInt32 (((x3 ^^^ (σ.1 4 n2)) * 1664525) + 1013904223) >>> (Int32.toUInt32 15 &&& Int32.toUInt32 31)).toInt32)) (x4 + Int32.ofInt 1) σ Q)))
theorem sh_H_sumBehind_5 {E : xV} {σ : zS} {K : zKt} {F5 : Int32 → Int32 → Int32 → zS → (Int32 → zS → Prop) → Prop} {x2 : Int32} {x3 : Int32} {x4 : Int32} {Q : Int32 → zS → Prop} (f5 : ∀ (x2 : Int32) (x3 : Int32) (x4 : Int32) (σ : zS), F5 x2 x3 x4 σ Q → Wz E Y_H_sumBehind 5 [(0, .ref 0), (2, .int x2), (3, .int x3), (4, .int x4)] [] σ K) (k : ∀ v s, Q v s → K (some (.int v)) s) (h : WB_H_sumBehind_5 F5 x2 x3 x4 σ Q) : Wz E Y_H_sumBehind 5 [(0, .ref 0), (2, .int x2), (3, .int x3), (4, .int x4)] [] σ K := by
  unfold WB_H_sumBehind_5 at h
  refine z_iload (i := 4) (q := 3) (pc' := 7) ⟨by decide +kernel, rfl⟩ rfl ?_
  refine z_bipush (i := 6) (v := 6) (pc' := 9) ⟨by decide +kernel, rfl⟩ (by decide) ?_
  refine z_icmp_ge (off := 39) (tgt := 48) (pc' := 12) ⟨by decide +kernel, by decide, rfl⟩ (fun h1 => ?_) (fun h1 => ?_)
  · have h := h.1 (qi_ge_t rfl (by decide) h1)
    refine z_iload_n (f := 3) (i := 3) (q := 2) (pc' := 49) ⟨by decide +kernel, rfl⟩ rfl rfl ?_
    exact z_iret (ty := .int) rfl (by rfl) (by decide +kernel) (k _ _ h)
  · have h := h.2 (qi_ge_f rfl (by decide) h1)
    refine z_iload_n (f := 3) (i := 3) (q := 2) (pc' := 13) ⟨by decide +kernel, rfl⟩ rfl rfl ?_
    refine z_aload_n (f := 0) (i := 0) (q := 0) (pc' := 14) ⟨by decide +kernel, rfl⟩ rfl rfl ?_
    refine w_getr (k := 0) (j := 6) (idx := 19) (pc' := 17) yfxe_1_19 ykfa_0_6 ⟨by decide +kernel, rfl⟩ ?_
    refine z_iload_n (f := 2) (i := 2) (q := 1) (pc' := 18) ⟨by decide +kernel, rfl⟩ rfl rfl ?_
    refine z_bipush (i := 7) (v := 7) (pc' := 20) ⟨by decide +kernel, rfl⟩ (by decide) ?_
    refine z_imul (pc' := 21) ⟨by decide +kernel, rfl⟩ ?_
    refine z_iload (i := 4) (q := 3) (pc' := 23) ⟨by decide +kernel, rfl⟩ rfl ?_
    refine z_iadd (pc' := 24) ⟨by decide +kernel, rfl⟩ ?_
    obtain ⟨n2, hi2, hz2, h⟩ := h
    refine w_iald (k := 4) (n := n2) (pc' := 25) ykaa_4 (hi2) (hz2) ⟨by decide +kernel, rfl⟩ ?_
    refine z_ixor (pc' := 26) ⟨by decide +kernel, rfl⟩ ?_
    refine z_ldcw (i := 565) (v := 1664525) (pc' := 29) ⟨by decide +kernel, rfl⟩ k_5_167 ?_
    refine z_imul (pc' := 30) ⟨by decide +kernel, rfl⟩ ?_
    refine z_ldcw (i := 566) (v := 1013904223) (pc' := 33) ⟨by decide +kernel, rfl⟩ k_5_168 ?_
    refine z_iadd (pc' := 34) ⟨by decide +kernel, rfl⟩ ?_
    refine z_istore_n (f := 3) (i := 3) (pc' := 35) ⟨by decide +kernel, rfl⟩ rfl (by decide) rfl ?_
    show Wz E Y_H_sumBehind 35 [(3, .int (((x3 ^^^ (σ.1 4 n2)) * 1664525) + 1013904223)), (0, .ref 0), (2, .int x2), (4, .int x4)] [] σ K
    refine z_iload_n (f := 3) (i := 3) (q := 0) (pc' := 36) ⟨by decide +kernel, rfl⟩ rfl rfl ?_
    refine z_iload_n (f := 3) (i := 3) (q := 0) (pc' := 37) ⟨by decide +kernel, rfl⟩ rfl rfl ?_
    refine z_bipush (i := 15) (v := 15) (pc' := 39) ⟨by decide +kernel, rfl⟩ (by decide) ?_
    refine z_iushr (v := ((Int32.toUInt32 (((x3 ^^^ (σ.1 4 n2)) * 1664525) + 1013904223) >>> (Int32.toUInt32 15 &&& Int32.toUInt32 31)).toInt32)) (pc' := 40) ⟨by decide +kernel, rfl⟩ rfl ?_
    refine z_ixor (pc' := 41) ⟨by decide +kernel, rfl⟩ ?_
    refine z_istore_n (f := 3) (i := 3) (pc' := 42) ⟨by decide +kernel, rfl⟩ rfl (by decide) rfl ?_
    show Wz E Y_H_sumBehind 42 [(3, .int ((((x3 ^^^ (σ.1 4 n2)) * 1664525) + 1013904223) ^^^ ((Int32.toUInt32 (((x3 ^^^ (σ.1 4 n2)) * 1664525) + 1013904223) >>> (Int32.toUInt32 15 &&& Int32.toUInt32 31)).toInt32))), (0, .ref 0), (2, .int x2), (4, .int x4)] [] σ K
    refine z_iinc (i := 4) (z := 1) (q := 3) (pc' := 45) ⟨by decide +kernel, rfl⟩ rfl rfl (by decide) rfl ?_
    show Wz E Y_H_sumBehind 45 [(4, .int (x4 + Int32.ofInt 1)), (3, .int ((((x3 ^^^ (σ.1 4 n2)) * 1664525) + 1013904223) ^^^ ((Int32.toUInt32 (((x3 ^^^ (σ.1 4 n2)) * 1664525) + 1013904223) >>> (Int32.toUInt32 15 &&& Int32.toUInt32 31)).toInt32))), (0, .ref 0), (2, .int x2)] [] σ K
    refine z_goto (off := (-40)) (tgt := 5) (pc' := 48) ⟨by decide +kernel, by decide, rfl⟩ ?_
    refine z_sub [2, 3, 1, 0] rfl ?_
    exact f5 _ _ _ _ h
noncomputable def WL_H_sumBehind : Nat → (Int32 → Int32 → Int32 → zS → (Int32 → zS → Prop) → Prop)
  | 0 => fun _ _ _ _ _ => False
  | n + 1 => WB_H_sumBehind_5 (WL_H_sumBehind n)
theorem wl_H_sumBehind_5 {n : Nat} {x2 : Int32} {x3 : Int32} {x4 : Int32} {σ : zS} {Q : Int32 → zS → Prop} (h : WB_H_sumBehind_5 (WL_H_sumBehind n) x2 x3 x4 σ Q) : (WL_H_sumBehind (n + 1)) x2 x3 x4 σ Q := h
theorem sl_H_sumBehind {E : xV} {K : zKt} {Q : Int32 → zS → Prop} (k : ∀ v s, Q v s → K (some (.int v)) s) : ∀ n, (∀ (x2 : Int32) (x3 : Int32) (x4 : Int32) (σ : zS), (WL_H_sumBehind n) x2 x3 x4 σ Q → Wz E Y_H_sumBehind 5 [(0, .ref 0), (2, .int x2), (3, .int x3), (4, .int x4)] [] σ K)
  | 0 => fun _ _ _ _ h => h.elim
  | n + 1 => by
    have i := sl_H_sumBehind (E := E)  k n
    exact fun _ _ _ _ h => sh_H_sumBehind_5 i k h
noncomputable def W_H_sumBehind (a1 : Int32) (a2 : Int32) (σ : zS) (Q : Int32 → zS → Prop) : Prop := (WL_H_sumBehind fuF) a2 a1 0 σ Q
theorem sF_H_sumBehind {E : xV} {σ : zS} {K : zKt} {a1 : Int32} {a2 : Int32} {Q : Int32 → zS → Prop} (h : W_H_sumBehind a1 a2 σ Q) (k : ∀ v s, Q v s → K (some (.int v)) s) : Cz E Y_H_sumBehind [.ref 0, .int a1, .int a2] σ K := by
  refine z_entry (by decide) (fun a => by rw [sl_len]; exact Nat.le_of_ble_eq_true rfl) rfl ?_
  unfold W_H_sumBehind at h
  refine z_iload_n (f := 1) (i := 1) (q := 1) (pc' := 1) ⟨by decide +kernel, rfl⟩ rfl rfl ?_
  refine z_istore_n (f := 3) (i := 3) (pc' := 2) ⟨by decide +kernel, rfl⟩ rfl (by decide) rfl ?_
  show Wz E Y_H_sumBehind 2 [(3, .int a1), (0, .ref 0), (1, .int a1), (2, .int a2)] [] σ K
  refine z_iconst (i := 0) (v := 0) (pc' := 3) ⟨by decide +kernel, rfl⟩ (by decide) ?_
  refine z_istore (i := 4) (pc' := 5) ⟨by decide +kernel, rfl⟩ (by decide) rfl ?_
  show Wz E Y_H_sumBehind 5 [(4, .int 0), (3, .int a1), (0, .ref 0), (1, .int a1), (2, .int a2)] [] σ K
  refine z_sub [2, 4, 1, 0] rfl ?_
  exact (sl_H_sumBehind k fuF) _ _ _ _ h
noncomputable def W_H_writeLog (a1 : Int32) (a2 : Int32) (a3 : Int32) (a4 : Int32) (a5 : Int32) (σ : zS) (Q : Unit → zS → Prop) : Prop := ((Int32.toInt (σ.1 0 7)) < 300 → ((-2147483648 ≤ (Int32.toInt (σ.1 0 7)) * 7 ∧ (Int32.toInt (σ.1 0 7)) * 7 ≤ 2147483647) ∧ ∀ r2 : Int32, r2.toInt = (Int32.toInt (σ.1 0 7)) * 7 → (∃ n3 : Nat, Int32.toInt r2 = (n3 : Int) ∧ n3 < 2100 ∧ (∀ σ4 : zS, zI σ 4 n3 a1 = σ4 → ((-2147483648 ≤ (Int32.toInt r2) + 1 ∧ (Int32.toInt r2) + 1 ≤ 2147483647) ∧ ∀ r5 : Int32, r5.toInt = (Int32.toInt r2) + 1 → (∃ n6 : Nat, Int32.toInt r5 = (n6 : Int) ∧ n6 < 2100 ∧ (∀ σ7 : zS, zI σ4 4 n6 (σ4.1 0 2) = σ7 → ((-2147483648 ≤ (Int32.toInt r2) + 2 ∧ (Int32.toInt r2) + 2 ≤ 2147483647) ∧ ∀ r8 : Int32, r8.toInt = (Int32.toInt r2) + 2 → (∃ n9 : Nat, Int32.toInt r8 = (n9 : Int) ∧ n9 < 2100 ∧ (∀ σ10 : zS, zI σ7 4 n9 a2 = σ10 → ((-2147483648 ≤ (Int32.toInt r2) + 3 ∧ (Int32.toInt r2) + 3 ≤ 2147483647) ∧ ∀ r11 : Int32, r11.toInt = (Int32.toInt r2) + 3 → (∃ n12 : Nat, Int32.toInt r11 = (n12 : Int) ∧ n12 < 2100 ∧ (∀ σ13 : zS, zI σ10 4 n12 a3 = σ13 → ((-2147483648 ≤ (Int32.toInt r2) + 4 ∧ (Int32.toInt r2) + 4 ≤ 2147483647) ∧ ∀ r14 : Int32, r14.toInt = (Int32.toInt r2) + 4 → (∃ n15 : Nat, Int32.toInt r14 = (n15 : Int) ∧ n15 < 2100 ∧ (∀ σ16 : zS, zI σ13 4 n15 a4 = σ16 → ((-2147483648 ≤ (Int32.toInt r2) + 5 ∧ (Int32.toInt r2) + 5 ≤ 2147483647) ∧ ∀ r17 : Int32, r17.toInt = (Int32.toInt r2) + 5 → (∃ n18 : Nat, Int32.toInt r17 = (n18 : Int) ∧ n18 < 2100 ∧ (∀ σ19 : zS, zI σ16 4 n18 a5 = σ19 → ((-2147483648 ≤ (Int32.toInt r2) + 6 ∧ (Int32.toInt r2) + 6 ≤ 2147483647) ∧ ∀ r20 : Int32, r20.toInt = (Int32.toInt r2) + 6 → (W_H_sumAhead (σ19.1 0 7) σ19 (fun v21 σ21 => W_H_sumBehind v21 (σ21.1 0 7) σ21 (fun v22 σ22 => ∃ n23 : Nat, Int32.toInt r20 = (n23 : Int) ∧ n23 < 2100 ∧ (∀ σ24 : zS, zI σ22 4 n23 v22 = σ24 → ((-2147483648 ≤ (Int32.toInt (σ24.1 0 7)) + 1 ∧ (Int32.toInt (σ24.1 0 7)) + 1 ≤ 2147483647) ∧ ∀ r25 : Int32, r25.toInt = (Int32.toInt (σ24.1 0 7)) + 1 → (∀ σ26 : zS, zI σ24 0 7 r25 = σ26 → (Q () σ26))))))))))))))))))))))))))) ∧ (¬ (Int32.toInt (σ.1 0 7)) < 300 → (Q () σ))
theorem sF_H_writeLog {E : xV} {σ : zS} {K : zKt} {a1 : Int32} {a2 : Int32} {a3 : Int32} {a4 : Int32} {a5 : Int32} {Q : Unit → zS → Prop} (h : W_H_writeLog a1 a2 a3 a4 a5 σ Q) (k : ∀ v s, Q v s → K none s) : Cz E Y_H_writeLog [.ref 0, .int a1, .int a2, .int a3, .int a4, .int a5] σ K := by
  refine z_entry (by decide) (fun a => by rw [sl_len]; exact Nat.le_of_ble_eq_true rfl) rfl ?_
  unfold W_H_writeLog at h
  refine z_aload_n (f := 0) (i := 0) (q := 0) (pc' := 1) ⟨by decide +kernel, rfl⟩ rfl rfl ?_
  refine w_geti (k := 0) (j := 7) (idx := 556) (pc' := 4) yfxe_1_556 ykfa_0_7 ⟨by decide +kernel, rfl⟩ ?_
  refine z_sipush (i := 300) (v := 300) (pc' := 7) ⟨by decide +kernel, rfl⟩ (by decide) ?_
  refine z_icmp_lt (off := 4) (tgt := 11) (pc' := 10) ⟨by decide +kernel, by decide, rfl⟩ (fun h1 => ?_) (fun h1 => ?_)
  · have h := h.1 (qi_lt_t rfl (by decide) h1)
    refine z_aload_n (f := 0) (i := 0) (q := 0) (pc' := 12) ⟨by decide +kernel, rfl⟩ rfl rfl ?_
    refine w_geti (k := 0) (j := 7) (idx := 556) (pc' := 15) yfxe_1_556 ykfa_0_7 ⟨by decide +kernel, rfl⟩ ?_
    refine z_bipush (i := 7) (v := 7) (pc' := 17) ⟨by decide +kernel, rfl⟩ (by decide) ?_
    refine z_imul (pc' := 18) ⟨by decide +kernel, rfl⟩ ?_
    obtain ⟨hb2, h⟩ := h
    have h := h ((σ.1 0 7) * 7) (im_ok rfl (by decide) hb2)
    generalize ((σ.1 0 7) * 7) = r2 at h ⊢
    refine z_istore (i := 6) (pc' := 20) ⟨by decide +kernel, rfl⟩ (by decide) rfl ?_
    show Wz E Y_H_writeLog 20 [(6, .int r2), (0, .ref 0), (1, .int a1), (2, .int a2), (3, .int a3), (4, .int a4), (5, .int a5)] [] σ K
    refine z_aload_n (f := 0) (i := 0) (q := 1) (pc' := 21) ⟨by decide +kernel, rfl⟩ rfl rfl ?_
    refine w_getr (k := 0) (j := 6) (idx := 19) (pc' := 24) yfxe_1_19 ykfa_0_6 ⟨by decide +kernel, rfl⟩ ?_
    refine z_iload (i := 6) (q := 0) (pc' := 26) ⟨by decide +kernel, rfl⟩ rfl ?_
    refine z_iload_n (f := 1) (i := 1) (q := 2) (pc' := 27) ⟨by decide +kernel, rfl⟩ rfl rfl ?_
    obtain ⟨n3, hi3, hz3, h⟩ := h
    refine w_iast (k := 4) (n := n3) (pc' := 28) ykaa_4 (hi3) (hz3) ⟨by decide +kernel, rfl⟩ ?_
    generalize hs4 : zI σ 4 n3 a1 = σ4
    have h := h σ4 hs4
    refine z_aload_n (f := 0) (i := 0) (q := 1) (pc' := 29) ⟨by decide +kernel, rfl⟩ rfl rfl ?_
    refine w_getr (k := 0) (j := 6) (idx := 19) (pc' := 32) yfxe_1_19 ykfa_0_6 ⟨by decide +kernel, rfl⟩ ?_
    refine z_iload (i := 6) (q := 0) (pc' := 34) ⟨by decide +kernel, rfl⟩ rfl ?_
    refine z_iconst (i := 1) (v := 1) (pc' := 35) ⟨by decide +kernel, rfl⟩ (by decide) ?_
    refine z_iadd (pc' := 36) ⟨by decide +kernel, rfl⟩ ?_
    obtain ⟨hb5, h⟩ := h
    have h := h (r2 + 1) (ia_ok rfl (by decide) hb5)
    generalize (r2 + 1) = r5 at h ⊢
    refine z_aload_n (f := 0) (i := 0) (q := 1) (pc' := 37) ⟨by decide +kernel, rfl⟩ rfl rfl ?_
    refine w_geti (k := 0) (j := 2) (idx := 105) (pc' := 40) yfxe_1_105 ykfa_0_2 ⟨by decide +kernel, rfl⟩ ?_
    obtain ⟨n6, hi6, hz6, h⟩ := h
    refine w_iast (k := 4) (n := n6) (pc' := 41) ykaa_4 (hi6) (hz6) ⟨by decide +kernel, rfl⟩ ?_
    generalize hs7 : zI σ4 4 n6 (σ4.1 0 2) = σ7
    have h := h σ7 hs7
    refine z_aload_n (f := 0) (i := 0) (q := 1) (pc' := 42) ⟨by decide +kernel, rfl⟩ rfl rfl ?_
    refine w_getr (k := 0) (j := 6) (idx := 19) (pc' := 45) yfxe_1_19 ykfa_0_6 ⟨by decide +kernel, rfl⟩ ?_
    refine z_iload (i := 6) (q := 0) (pc' := 47) ⟨by decide +kernel, rfl⟩ rfl ?_
    refine z_iconst (i := 2) (v := 2) (pc' := 48) ⟨by decide +kernel, rfl⟩ (by decide) ?_
    refine z_iadd (pc' := 49) ⟨by decide +kernel, rfl⟩ ?_
    obtain ⟨hb8, h⟩ := h
    have h := h (r2 + 2) (ia_ok rfl (by decide) hb8)
    generalize (r2 + 2) = r8 at h ⊢
    refine z_iload_n (f := 2) (i := 2) (q := 3) (pc' := 50) ⟨by decide +kernel, rfl⟩ rfl rfl ?_
    obtain ⟨n9, hi9, hz9, h⟩ := h
    refine w_iast (k := 4) (n := n9) (pc' := 51) ykaa_4 (hi9) (hz9) ⟨by decide +kernel, rfl⟩ ?_
    generalize hs10 : zI σ7 4 n9 a2 = σ10
    have h := h σ10 hs10
    refine z_aload_n (f := 0) (i := 0) (q := 1) (pc' := 52) ⟨by decide +kernel, rfl⟩ rfl rfl ?_
    refine w_getr (k := 0) (j := 6) (idx := 19) (pc' := 55) yfxe_1_19 ykfa_0_6 ⟨by decide +kernel, rfl⟩ ?_
    refine z_iload (i := 6) (q := 0) (pc' := 57) ⟨by decide +kernel, rfl⟩ rfl ?_
    refine z_iconst (i := 3) (v := 3) (pc' := 58) ⟨by decide +kernel, rfl⟩ (by decide) ?_
    refine z_iadd (pc' := 59) ⟨by decide +kernel, rfl⟩ ?_
    obtain ⟨hb11, h⟩ := h
    have h := h (r2 + 3) (ia_ok rfl (by decide) hb11)
    generalize (r2 + 3) = r11 at h ⊢
    refine z_iload_n (f := 3) (i := 3) (q := 4) (pc' := 60) ⟨by decide +kernel, rfl⟩ rfl rfl ?_
    obtain ⟨n12, hi12, hz12, h⟩ := h
    refine w_iast (k := 4) (n := n12) (pc' := 61) ykaa_4 (hi12) (hz12) ⟨by decide +kernel, rfl⟩ ?_
    generalize hs13 : zI σ10 4 n12 a3 = σ13
    have h := h σ13 hs13
    refine z_aload_n (f := 0) (i := 0) (q := 1) (pc' := 62) ⟨by decide +kernel, rfl⟩ rfl rfl ?_
    refine w_getr (k := 0) (j := 6) (idx := 19) (pc' := 65) yfxe_1_19 ykfa_0_6 ⟨by decide +kernel, rfl⟩ ?_
    refine z_iload (i := 6) (q := 0) (pc' := 67) ⟨by decide +kernel, rfl⟩ rfl ?_
    refine z_iconst (i := 4) (v := 4) (pc' := 68) ⟨by decide +kernel, rfl⟩ (by decide) ?_
    refine z_iadd (pc' := 69) ⟨by decide +kernel, rfl⟩ ?_
    obtain ⟨hb14, h⟩ := h
    have h := h (r2 + 4) (ia_ok rfl (by decide) hb14)
    generalize (r2 + 4) = r14 at h ⊢
    refine z_iload (i := 4) (q := 5) (pc' := 71) ⟨by decide +kernel, rfl⟩ rfl ?_
    obtain ⟨n15, hi15, hz15, h⟩ := h
    refine w_iast (k := 4) (n := n15) (pc' := 72) ykaa_4 (hi15) (hz15) ⟨by decide +kernel, rfl⟩ ?_
    generalize hs16 : zI σ13 4 n15 a4 = σ16
    have h := h σ16 hs16
    refine z_aload_n (f := 0) (i := 0) (q := 1) (pc' := 73) ⟨by decide +kernel, rfl⟩ rfl rfl ?_
    refine w_getr (k := 0) (j := 6) (idx := 19) (pc' := 76) yfxe_1_19 ykfa_0_6 ⟨by decide +kernel, rfl⟩ ?_
    refine z_iload (i := 6) (q := 0) (pc' := 78) ⟨by decide +kernel, rfl⟩ rfl ?_
    refine z_iconst (i := 5) (v := 5) (pc' := 79) ⟨by decide +kernel, rfl⟩ (by decide) ?_
    refine z_iadd (pc' := 80) ⟨by decide +kernel, rfl⟩ ?_
    obtain ⟨hb17, h⟩ := h
    have h := h (r2 + 5) (ia_ok rfl (by decide) hb17)
    generalize (r2 + 5) = r17 at h ⊢
    refine z_iload (i := 5) (q := 6) (pc' := 82) ⟨by decide +kernel, rfl⟩ rfl ?_
    obtain ⟨n18, hi18, hz18, h⟩ := h
    refine w_iast (k := 4) (n := n18) (pc' := 83) ykaa_4 (hi18) (hz18) ⟨by decide +kernel, rfl⟩ ?_
    generalize hs19 : zI σ16 4 n18 a5 = σ19
    have h := h σ19 hs19
    refine z_aload_n (f := 0) (i := 0) (q := 1) (pc' := 84) ⟨by decide +kernel, rfl⟩ rfl rfl ?_
    refine w_getr (k := 0) (j := 6) (idx := 19) (pc' := 87) yfxe_1_19 ykfa_0_6 ⟨by decide +kernel, rfl⟩ ?_
    refine z_iload (i := 6) (q := 0) (pc' := 89) ⟨by decide +kernel, rfl⟩ rfl ?_
    refine z_bipush (i := 6) (v := 6) (pc' := 91) ⟨by decide +kernel, rfl⟩ (by decide) ?_
    refine z_iadd (pc' := 92) ⟨by decide +kernel, rfl⟩ ?_
    obtain ⟨hb20, h⟩ := h
    have h := h (r2 + 6) (ia_ok rfl (by decide) hb20)
    generalize (r2 + 6) = r20 at h ⊢
    refine z_aload_n (f := 0) (i := 0) (q := 1) (pc' := 93) ⟨by decide +kernel, rfl⟩ rfl rfl ?_
    refine z_aload_n (f := 0) (i := 0) (q := 1) (pc' := 94) ⟨by decide +kernel, rfl⟩ rfl rfl ?_
    refine z_aload_n (f := 0) (i := 0) (q := 1) (pc' := 95) ⟨by decide +kernel, rfl⟩ rfl rfl ?_
    refine w_geti (k := 0) (j := 7) (idx := 556) (pc' := 98) yfxe_1_556 ykfa_0_7 ⟨by decide +kernel, rfl⟩ ?_
    refine w_invV (Z := Y_H_sumAhead) (idx := 559) (kb := 0) (As := [.int (σ19.1 0 7)]) (rest := [.ref 0, .int r20, .ref 4]) (pc' := 101) cl_1_559 rfl ⟨rfl, rfl⟩ ykfa_0_0 rfl ⟨⟨by decide, by decide⟩, rfl, rfl⟩ ⟨by decide +kernel, rfl⟩ rfl rfl (Nat.le_of_ble_eq_true rfl) rfl rfl ?_
    refine sF_H_sumAhead h (fun v21 σ21 h => ?_)
    show Wz E Y_H_writeLog 101 [(6, .int r2), (0, .ref 0), (1, .int a1), (2, .int a2), (3, .int a3), (4, .int a4), (5, .int a5)] [.int v21, .ref 0, .int r20, .ref 4] σ21 K
    refine z_aload_n (f := 0) (i := 0) (q := 1) (pc' := 102) ⟨by decide +kernel, rfl⟩ rfl rfl ?_
    refine w_geti (k := 0) (j := 7) (idx := 556) (pc' := 105) yfxe_1_556 ykfa_0_7 ⟨by decide +kernel, rfl⟩ ?_
    refine w_invV (Z := Y_H_sumBehind) (idx := 562) (kb := 0) (As := [.int v21, .int (σ21.1 0 7)]) (rest := [.int r20, .ref 4]) (pc' := 108) cl_1_562 rfl ⟨rfl, rfl⟩ ykfa_0_0 rfl ⟨⟨by decide, by decide⟩, rfl, rfl⟩ ⟨by decide +kernel, rfl⟩ rfl rfl (Nat.le_of_ble_eq_true rfl) rfl rfl ?_
    refine sF_H_sumBehind h (fun v22 σ22 h => ?_)
    show Wz E Y_H_writeLog 108 [(6, .int r2), (0, .ref 0), (1, .int a1), (2, .int a2), (3, .int a3), (4, .int a4), (5, .int a5)] [.int v22, .int r20, .ref 4] σ22 K
    obtain ⟨n23, hi23, hz23, h⟩ := h
    refine w_iast (k := 4) (n := n23) (pc' := 109) ykaa_4 (hi23) (hz23) ⟨by decide +kernel, rfl⟩ ?_
    generalize hs24 : zI σ22 4 n23 v22 = σ24
    have h := h σ24 hs24
    refine z_aload_n (f := 0) (i := 0) (q := 1) (pc' := 110) ⟨by decide +kernel, rfl⟩ rfl rfl ?_
    refine z_dupr (pc' := 111) ⟨by decide +kernel, rfl⟩ ?_
    refine w_geti (k := 0) (j := 7) (idx := 556) (pc' := 114) yfxe_1_556 ykfa_0_7 ⟨by decide +kernel, rfl⟩ ?_
    refine z_iconst (i := 1) (v := 1) (pc' := 115) ⟨by decide +kernel, rfl⟩ (by decide) ?_
    refine z_iadd (pc' := 116) ⟨by decide +kernel, rfl⟩ ?_
    obtain ⟨hb25, h⟩ := h
    have h := h ((σ24.1 0 7) + 1) (ia_ok rfl (by decide) hb25)
    generalize ((σ24.1 0 7) + 1) = r25 at h ⊢
    refine w_puti (k := 0) (j := 7) (idx := 556) (pc' := 119) yfxi_1_556 ykfa_0_7 ⟨by decide +kernel, rfl⟩ ?_
    generalize hs26 : zI σ24 0 7 r25 = σ26
    have h := h σ26 hs26
    exact z_vret rfl (by decide +kernel) (k _ _ h)
  · have h := h.2 (qi_lt_f rfl (by decide) h1)
    exact z_vret rfl (by decide +kernel) (k _ _ h)
noncomputable def W_Ju_answerKept (a1 : Int32) (a2 : Int32) (a3 : Int32) (σ : zS) (Q : Int32 → zS → Prop) : Prop := W_Ju_answer a1 a2 a3 σ (fun v1 σ1 => (0 + 4 ≤ 4 ∧ 0 + 4 ≤ 4) ∧ (∀ σ4 : zS, zIr σ1 32 (va_cpy (σ1.1 31) (σ1.1 32) 0 0 4) = σ4 → (∀ σ5 : zS, zI σ4 27 16 1 = σ5 → (Q v1 σ5))))
theorem sF_Ju_answerKept {E : xV} {σ : zS} {K : zKt} {a1 : Int32} {a2 : Int32} {a3 : Int32} {Q : Int32 → zS → Prop} (h : W_Ju_answerKept a1 a2 a3 σ Q) (k : ∀ v s, Q v s → K (some (.int v)) s) : Cz E Y_Ju_answerKept [.ref 27, .int a1, .int a2, .int a3] σ K := by
  refine z_entry (by decide) (fun a => by rw [sl_len]; exact Nat.le_of_ble_eq_true rfl) rfl ?_
  unfold W_Ju_answerKept at h
  refine z_aload_n (f := 0) (i := 0) (q := 0) (pc' := 1) ⟨by decide +kernel, rfl⟩ rfl rfl ?_
  refine z_iload_n (f := 1) (i := 1) (q := 1) (pc' := 2) ⟨by decide +kernel, rfl⟩ rfl rfl ?_
  refine z_iload_n (f := 2) (i := 2) (q := 2) (pc' := 3) ⟨by decide +kernel, rfl⟩ rfl rfl ?_
  refine z_iload_n (f := 3) (i := 3) (q := 3) (pc' := 4) ⟨by decide +kernel, rfl⟩ rfl rfl ?_
  refine w_invV (Z := Y_Ju_answer) (idx := 57) (kb := 27) (As := [.int a1, .int a2, .int a3]) (rest := []) (pc' := 7) cl_5_57 rfl ⟨rfl, rfl⟩ ykfa_27_0 rfl ⟨⟨by decide, by decide⟩, rfl, rfl⟩ ⟨by decide +kernel, rfl⟩ rfl rfl (Nat.le_of_ble_eq_true rfl) rfl rfl ?_
  refine sF_Ju_answer h (fun v1 σ1 h => ?_)
  show Wz E Y_Ju_answerKept 7 [(0, .ref 27), (1, .int a1), (2, .int a2), (3, .int a3)] [.int v1] σ1 K
  refine z_istore (i := 4) (pc' := 9) ⟨by decide +kernel, rfl⟩ (by decide) rfl ?_
  show Wz E Y_Ju_answerKept 9 [(4, .int v1), (0, .ref 27), (1, .int a1), (2, .int a2), (3, .int a3)] [] σ1 K
  refine z_aload_n (f := 0) (i := 0) (q := 1) (pc' := 10) ⟨by decide +kernel, rfl⟩ rfl rfl ?_
  refine w_getr (k := 27) (j := 14) (idx := 35) (pc' := 13) yfxe_5_35 ykfa_27_14 ⟨by decide +kernel, rfl⟩ ?_
  refine z_iconst (i := 0) (v := 0) (pc' := 14) ⟨by decide +kernel, rfl⟩ (by decide) ?_
  refine z_aload_n (f := 0) (i := 0) (q := 1) (pc' := 15) ⟨by decide +kernel, rfl⟩ rfl rfl ?_
  refine w_getr (k := 27) (j := 15) (idx := 38) (pc' := 18) yfxe_5_38 ykfa_27_15 ⟨by decide +kernel, rfl⟩ ?_
  refine z_iconst (i := 0) (v := 0) (pc' := 19) ⟨by decide +kernel, rfl⟩ (by decide) ?_
  refine z_iconst (i := 4) (v := 4) (pc' := 20) ⟨by decide +kernel, rfl⟩ (by decide) ?_
  obtain ⟨hg3, h⟩ := h
  refine w_copyi (m := 143) (idx := 61) (k0 := 31) (k1 := 32) (a := 0) (b := 0) (c := 4) (pc' := 23) rfl (by decide) (by decide +kernel) ykaa_31 ykaa_32 (by decide) (by decide) (by decide) hg3 (by decide) (by decide) (Nat.le_of_ble_eq_true rfl) ⟨by decide +kernel, rfl⟩ ?_
  generalize hs4 : zIr σ1 32 (va_cpy (σ1.1 31) (σ1.1 32) 0 0 4) = σ4
  have h := h σ4 hs4
  refine z_aload_n (f := 0) (i := 0) (q := 1) (pc' := 24) ⟨by decide +kernel, rfl⟩ rfl rfl ?_
  refine z_iconst (i := 1) (v := 1) (pc' := 25) ⟨by decide +kernel, rfl⟩ (by decide) ?_
  refine w_putz (k := 27) (j := 16) (idx := 67) (pc' := 28) yfxz_5_67 ykfa_27_16 (by decide) ⟨by decide +kernel, rfl⟩ ?_
  generalize hs5 : zI σ4 27 16 1 = σ5
  have h := h σ5 hs5
  refine z_iload (i := 4) (q := 0) (pc' := 30) ⟨by decide +kernel, rfl⟩ rfl ?_
  exact z_iret (ty := .int) rfl (by rfl) (by decide +kernel) (k _ _ h)
noncomputable def W_H_ask (a1 : Int32) (a2 : Int32) (a3 : Int32) (σ : zS) (Q : Int32 → zS → Prop) : Prop := W_H_isRequest a1 a2 a3 σ (fun v1 σ1 => ((Int32.toInt v1) = 0 → (Q (-1) σ1)) ∧ (¬ (Int32.toInt v1) = 0 → (W_Ju_setMoment (σ1.1 0 2) (σ1.1 0 2) σ1 (fun _ σ3 => W_Wh_groupsOf a1 (σ3.1 0 2) (σ3.1 0 2) σ3 (fun v4 σ4 => W_Ju_setPerson a1 v4 σ4 (fun _ σ5 => W_H_policyInForce (σ5.1 0 2) σ5 (fun v6 σ6 => W_Ju_answerKept v6 a2 a3 σ6 (fun v7 σ7 => W_H_writeLog 0 a1 a2 a3 v7 σ7 (fun _ σ8 => Q v7 σ8)))))))))
theorem sF_H_ask {E : xV} {σ : zS} {K : zKt} {a1 : Int32} {a2 : Int32} {a3 : Int32} {Q : Int32 → zS → Prop} (h : W_H_ask a1 a2 a3 σ Q) (k : ∀ v s, Q v s → K (some (.int v)) s) : Cz E Y_H_ask [.ref 0, .int a1, .int a2, .int a3] σ K := by
  refine z_entry (by decide) (fun a => by rw [sl_len]; exact Nat.le_of_ble_eq_true rfl) rfl ?_
  unfold W_H_ask at h
  refine z_aload_n (f := 0) (i := 0) (q := 0) (pc' := 1) ⟨by decide +kernel, rfl⟩ rfl rfl ?_
  refine z_iload_n (f := 1) (i := 1) (q := 1) (pc' := 2) ⟨by decide +kernel, rfl⟩ rfl rfl ?_
  refine z_iload_n (f := 2) (i := 2) (q := 2) (pc' := 3) ⟨by decide +kernel, rfl⟩ rfl rfl ?_
  refine z_iload_n (f := 3) (i := 3) (q := 3) (pc' := 4) ⟨by decide +kernel, rfl⟩ rfl rfl ?_
  refine w_invV (Z := Y_H_isRequest) (idx := 262) (kb := 0) (As := [.int a1, .int a2, .int a3]) (rest := []) (pc' := 7) cl_1_262 rfl ⟨rfl, rfl⟩ ykfa_0_0 rfl ⟨⟨by decide, by decide⟩, rfl, rfl⟩ ⟨by decide +kernel, rfl⟩ rfl rfl (Nat.le_of_ble_eq_true rfl) rfl rfl ?_
  refine sF_H_isRequest h (fun v1 σ1 h => ?_)
  show Wz E Y_H_ask 7 [(0, .ref 0), (1, .int a1), (2, .int a2), (3, .int a3)] [.int v1] σ1 K
  refine z_if_ne (off := 5) (tgt := 12) (pc' := 10) ⟨by decide +kernel, by decide, rfl⟩ (fun h2 => ?_) (fun h2 => ?_)
  · have h := h.2 (qi_ne_t rfl (by decide) h2)
    refine z_aload_n (f := 0) (i := 0) (q := 0) (pc' := 13) ⟨by decide +kernel, rfl⟩ rfl rfl ?_
    refine w_getr (k := 0) (j := 11) (idx := 50) (pc' := 16) yfxe_1_50 ykfa_0_11 ⟨by decide +kernel, rfl⟩ ?_
    refine z_aload_n (f := 0) (i := 0) (q := 0) (pc' := 17) ⟨by decide +kernel, rfl⟩ rfl rfl ?_
    refine w_geti (k := 0) (j := 2) (idx := 105) (pc' := 20) yfxe_1_105 ykfa_0_2 ⟨by decide +kernel, rfl⟩ ?_
    refine z_aload_n (f := 0) (i := 0) (q := 0) (pc' := 21) ⟨by decide +kernel, rfl⟩ rfl rfl ?_
    refine w_geti (k := 0) (j := 2) (idx := 105) (pc' := 24) yfxe_1_105 ykfa_0_2 ⟨by decide +kernel, rfl⟩ ?_
    refine w_invV (Z := Y_Ju_setMoment) (idx := 265) (kb := 27) (As := [.int (σ1.1 0 2), .int (σ1.1 0 2)]) (rest := []) (pc' := 27) cl_1_265 rfl ⟨rfl, rfl⟩ ykfa_27_0 rfl ⟨⟨by decide, by decide⟩, rfl, rfl⟩ ⟨by decide +kernel, rfl⟩ rfl rfl (Nat.le_of_ble_eq_true rfl) rfl rfl ?_
    refine sF_Ju_setMoment h (fun _ σ3 h => ?_)
    show Wz E Y_H_ask 27 [(0, .ref 0), (1, .int a1), (2, .int a2), (3, .int a3)] [] σ3 K
    refine z_aload_n (f := 0) (i := 0) (q := 0) (pc' := 28) ⟨by decide +kernel, rfl⟩ rfl rfl ?_
    refine w_getr (k := 0) (j := 11) (idx := 50) (pc' := 31) yfxe_1_50 ykfa_0_11 ⟨by decide +kernel, rfl⟩ ?_
    refine z_iload_n (f := 1) (i := 1) (q := 1) (pc' := 32) ⟨by decide +kernel, rfl⟩ rfl rfl ?_
    refine z_aload_n (f := 0) (i := 0) (q := 0) (pc' := 33) ⟨by decide +kernel, rfl⟩ rfl rfl ?_
    refine w_getr (k := 0) (j := 8) (idx := 25) (pc' := 36) yfxe_1_25 ykfa_0_8 ⟨by decide +kernel, rfl⟩ ?_
    refine z_iload_n (f := 1) (i := 1) (q := 1) (pc' := 37) ⟨by decide +kernel, rfl⟩ rfl rfl ?_
    refine z_aload_n (f := 0) (i := 0) (q := 0) (pc' := 38) ⟨by decide +kernel, rfl⟩ rfl rfl ?_
    refine w_geti (k := 0) (j := 2) (idx := 105) (pc' := 41) yfxe_1_105 ykfa_0_2 ⟨by decide +kernel, rfl⟩ ?_
    refine z_aload_n (f := 0) (i := 0) (q := 0) (pc' := 42) ⟨by decide +kernel, rfl⟩ rfl rfl ?_
    refine w_geti (k := 0) (j := 2) (idx := 105) (pc' := 45) yfxe_1_105 ykfa_0_2 ⟨by decide +kernel, rfl⟩ ?_
    refine w_invV (Z := Y_Wh_groupsOf) (idx := 149) (kb := 5) (As := [.int a1, .int (σ3.1 0 2), .int (σ3.1 0 2)]) (rest := [.int a1, .ref 27]) (pc' := 48) cl_1_149 rfl ⟨rfl, rfl⟩ ykfa_5_0 rfl ⟨⟨by decide, by decide⟩, rfl, rfl⟩ ⟨by decide +kernel, rfl⟩ rfl rfl (Nat.le_of_ble_eq_true rfl) rfl rfl ?_
    refine sF_Wh_groupsOf h (fun v4 σ4 h => ?_)
    show Wz E Y_H_ask 48 [(0, .ref 0), (1, .int a1), (2, .int a2), (3, .int a3)] [.int v4, .int a1, .ref 27] σ4 K
    refine w_invV (Z := Y_Ju_setPerson) (idx := 268) (kb := 27) (As := [.int a1, .int v4]) (rest := []) (pc' := 51) cl_1_268 rfl ⟨rfl, rfl⟩ ykfa_27_0 rfl ⟨⟨by decide, by decide⟩, rfl, rfl⟩ ⟨by decide +kernel, rfl⟩ rfl rfl (Nat.le_of_ble_eq_true rfl) rfl rfl ?_
    refine sF_Ju_setPerson h (fun _ σ5 h => ?_)
    show Wz E Y_H_ask 51 [(0, .ref 0), (1, .int a1), (2, .int a2), (3, .int a3)] [] σ5 K
    refine z_aload_n (f := 0) (i := 0) (q := 0) (pc' := 52) ⟨by decide +kernel, rfl⟩ rfl rfl ?_
    refine w_getr (k := 0) (j := 11) (idx := 50) (pc' := 55) yfxe_1_50 ykfa_0_11 ⟨by decide +kernel, rfl⟩ ?_
    refine z_aload_n (f := 0) (i := 0) (q := 0) (pc' := 56) ⟨by decide +kernel, rfl⟩ rfl rfl ?_
    refine z_aload_n (f := 0) (i := 0) (q := 0) (pc' := 57) ⟨by decide +kernel, rfl⟩ rfl rfl ?_
    refine w_geti (k := 0) (j := 2) (idx := 105) (pc' := 60) yfxe_1_105 ykfa_0_2 ⟨by decide +kernel, rfl⟩ ?_
    refine w_invV (Z := Y_H_policyInForce) (idx := 271) (kb := 0) (As := [.int (σ5.1 0 2)]) (rest := [.ref 27]) (pc' := 63) cl_1_271 rfl ⟨rfl, rfl⟩ ykfa_0_0 rfl ⟨⟨by decide, by decide⟩, rfl, rfl⟩ ⟨by decide +kernel, rfl⟩ rfl rfl (Nat.le_of_ble_eq_true rfl) rfl rfl ?_
    refine sF_H_policyInForce h (fun v6 σ6 h => ?_)
    show Wz E Y_H_ask 63 [(0, .ref 0), (1, .int a1), (2, .int a2), (3, .int a3)] [.int v6, .ref 27] σ6 K
    refine z_iload_n (f := 2) (i := 2) (q := 2) (pc' := 64) ⟨by decide +kernel, rfl⟩ rfl rfl ?_
    refine z_iload_n (f := 3) (i := 3) (q := 3) (pc' := 65) ⟨by decide +kernel, rfl⟩ rfl rfl ?_
    refine w_invV (Z := Y_Ju_answerKept) (idx := 274) (kb := 27) (As := [.int v6, .int a2, .int a3]) (rest := []) (pc' := 68) cl_1_274 rfl ⟨rfl, rfl⟩ ykfa_27_0 rfl ⟨⟨by decide, by decide⟩, rfl, rfl⟩ ⟨by decide +kernel, rfl⟩ rfl rfl (Nat.le_of_ble_eq_true rfl) rfl rfl ?_
    refine sF_Ju_answerKept h (fun v7 σ7 h => ?_)
    show Wz E Y_H_ask 68 [(0, .ref 0), (1, .int a1), (2, .int a2), (3, .int a3)] [.int v7] σ7 K
    refine z_istore (i := 4) (pc' := 70) ⟨by decide +kernel, rfl⟩ (by decide) rfl ?_
    show Wz E Y_H_ask 70 [(4, .int v7), (0, .ref 0), (1, .int a1), (2, .int a2), (3, .int a3)] [] σ7 K
    refine z_aload_n (f := 0) (i := 0) (q := 1) (pc' := 71) ⟨by decide +kernel, rfl⟩ rfl rfl ?_
    refine z_iconst (i := 0) (v := 0) (pc' := 72) ⟨by decide +kernel, rfl⟩ (by decide) ?_
    refine z_iload_n (f := 1) (i := 1) (q := 2) (pc' := 73) ⟨by decide +kernel, rfl⟩ rfl rfl ?_
    refine z_iload_n (f := 2) (i := 2) (q := 3) (pc' := 74) ⟨by decide +kernel, rfl⟩ rfl rfl ?_
    refine z_iload_n (f := 3) (i := 3) (q := 4) (pc' := 75) ⟨by decide +kernel, rfl⟩ rfl rfl ?_
    refine z_iload (i := 4) (q := 0) (pc' := 77) ⟨by decide +kernel, rfl⟩ rfl ?_
    refine w_invV (Z := Y_H_writeLog) (idx := 258) (kb := 0) (As := [.int 0, .int a1, .int a2, .int a3, .int v7]) (rest := []) (pc' := 80) cl_1_258 rfl ⟨rfl, rfl⟩ ykfa_0_0 rfl ⟨⟨by decide, by decide⟩, rfl, rfl⟩ ⟨by decide +kernel, rfl⟩ rfl rfl (Nat.le_of_ble_eq_true rfl) rfl rfl ?_
    refine sF_H_writeLog h (fun _ σ8 h => ?_)
    show Wz E Y_H_ask 80 [(4, .int v7), (0, .ref 0), (1, .int a1), (2, .int a2), (3, .int a3)] [] σ8 K
    refine z_iload (i := 4) (q := 0) (pc' := 82) ⟨by decide +kernel, rfl⟩ rfl ?_
    exact z_iret (ty := .int) rfl (by rfl) (by decide +kernel) (k _ _ h)
  · have h := h.1 (qi_ne_f rfl (by decide) h2)
    refine z_iconst (i := (-1)) (v := (-1)) (pc' := 11) ⟨by decide +kernel, rfl⟩ (by decide) ?_
    exact z_iret (ty := .int) rfl (by rfl) (by decide +kernel) (k _ _ h)
noncomputable def W_H_asked (a1 : Int32) (a2 : Int32) (a3 : Int32) (a4 : Int32) (a5 : Int32) (σ : zS) (Q : Int32 → zS → Prop) : Prop := W_H_isAmong a1 (σ.1 17 0) σ (fun v1 σ1 => ((Int32.toInt v1) = 0 → (Q (-1) σ1)) ∧ (¬ (Int32.toInt v1) = 0 → (W_H_isRequest a2 a3 a4 σ1 (fun v3 σ3 => ((Int32.toInt v3) = 0 → (Q (-1) σ3)) ∧ (¬ (Int32.toInt v3) = 0 → (W_H_isMoment a5 σ3 (fun v5 σ5 => ((Int32.toInt v5) = 0 → (Q (-1) σ5)) ∧ (¬ (Int32.toInt v5) = 0 → (W_Ju_setMoment a5 (σ5.1 0 2) σ5 (fun _ σ7 => W_Wh_groupsOf a2 a5 (σ7.1 0 2) σ7 (fun v8 σ8 => W_Ju_setPerson a2 v8 σ8 (fun _ σ9 => W_Ju_answerKept a1 a3 a4 σ9 (fun v10 σ10 => Q v10 σ10)))))))))))))
noncomputable def WB_Ju_thingAllowed_6 (F6 : Int32 → Int32 → Int32 → Int32 → zS → (Int32 → zS → Prop) → Prop) (x1 : Int32) (x2 : Int32) (x4 : Int32) (x5 : Int32) (σ : zS) (Q : Int32 → zS → Prop) : Prop := ((Int32.toInt (σ.1 10 0)) ≤ (Int32.toInt x5) → (Q (-4) σ)) ∧ (¬ (Int32.toInt (σ.1 10 0)) ≤ (Int32.toInt x5) → (W_Th_isThere x5 σ (fun v2 σ2 => ((Int32.toInt v2) = 0 → ((-2147483648 ≤ (Int32.toInt x5) + 1 ∧ (Int32.toInt x5) + 1 ≤ 2147483647) ∧ ∀ r4 : Int32, r4.toInt = (Int32.toInt x5) + 1 → (F6 x1 x2 x4 r4 σ2 Q))) ∧ (¬ (Int32.toInt v2) = 0 → (W_Ju_answer x1 x2 x5 σ2 (fun v5 σ5 => ((Int32.toInt v5) = 1 → (((Int32.toInt x4) = 0 → (Q x5 σ5)) ∧ (¬ (Int32.toInt x4) = 0 → ((-2147483648 ≤ (Int32.toInt x4) + (-1) ∧ (Int32.toInt x4) + (-1) ≤ 2147483647) ∧ ∀ r9 : Int32, r9.toInt = (Int32.toInt x4) + (-1) → ((-2147483648 ≤ (Int32.toInt x5) + 1 ∧ (Int32.toInt x5) + 1 ≤ 2147483647) ∧ ∀ r10 : Int32, r10.toInt = (Int32.toInt x5) + 1 → (F6 x1 x2 r9 r10 σ5 Q)))))) ∧ (¬ (Int32.toInt v5) = 1 → ((-2147483648 ≤ (Int32.toInt x5) + 1 ∧ (Int32.toInt x5) + 1 ≤ 2147483647) ∧ ∀ r7 : Int32, r7.toInt = (Int32.toInt x5) + 1 → (F6 x1 x2 x4 r7 σ5 Q)))))))))
noncomputable def WL_Ju_thingAllowed : Nat → (Int32 → Int32 → Int32 → Int32 → zS → (Int32 → zS → Prop) → Prop)
  | 0 => fun _ _ _ _ _ _ => False
  | n + 1 => WB_Ju_thingAllowed_6 (WL_Ju_thingAllowed n)
theorem wl_Ju_thingAllowed_6 {n : Nat} {x1 : Int32} {x2 : Int32} {x4 : Int32} {x5 : Int32} {σ : zS} {Q : Int32 → zS → Prop} (h : WB_Ju_thingAllowed_6 (WL_Ju_thingAllowed n) x1 x2 x4 x5 σ Q) : (WL_Ju_thingAllowed (n + 1)) x1 x2 x4 x5 σ Q := h
noncomputable def W_Ju_thingAllowed (a1 : Int32) (a2 : Int32) (a3 : Int32) (σ : zS) (Q : Int32 → zS → Prop) : Prop := (WL_Ju_thingAllowed fuF) a1 a2 a3 0 σ Q
noncomputable def W_H_may (a1 : Int32) (a2 : Int32) (a3 : Int32) (a4 : Int32) (σ : zS) (Q : Int32 → zS → Prop) : Prop := W_H_isAmong a1 (σ.1 17 0) σ (fun v1 σ1 => ((Int32.toInt v1) = 0 → (Q (-1) σ1)) ∧ (¬ (Int32.toInt v1) = 0 → (W_Wh_isPerson a2 σ1 (fun v3 σ3 => ((Int32.toInt v3) = 0 → (Q (-1) σ3)) ∧ (¬ (Int32.toInt v3) = 0 → (W_H_isAct a3 σ3 (fun v5 σ5 => ((Int32.toInt v5) = 0 → (Q (-1) σ5)) ∧ (¬ (Int32.toInt v5) = 0 → ((0 ≤ (Int32.toInt a4) → (W_Ju_setMoment (σ5.1 0 2) (σ5.1 0 2) σ5 (fun _ σ8 => W_Wh_groupsOf a2 (σ8.1 0 2) (σ8.1 0 2) σ8 (fun v9 σ9 => W_Ju_setPerson a2 v9 σ9 (fun _ σ10 => W_Ju_thingAllowed a1 a3 a4 σ10 (fun v11 σ11 => Q v11 σ11)))))) ∧ (¬ 0 ≤ (Int32.toInt a4) → (Q (-1) σ5)))))))))))
noncomputable def WB_Ju_personAllowed_7 (F7 : Int32 → Int32 → Int32 → Int32 → Int32 → zS → (Int32 → zS → Prop) → Prop) (x1 : Int32) (x2 : Int32) (x3 : Int32) (x5 : Int32) (x6 : Int32) (σ : zS) (Q : Int32 → zS → Prop) : Prop := ((Int32.toInt (σ.1 5 0)) ≤ (Int32.toInt x6) → (Q (-4) σ)) ∧ (¬ (Int32.toInt (σ.1 5 0)) ≤ (Int32.toInt x6) → (W_Wh_groupsOf x6 (σ.1 27 6) (σ.1 27 7) σ (fun v2 σ2 => W_Ju_setPerson x6 v2 σ2 (fun _ σ3 => W_Ju_answer x1 x2 x3 σ3 (fun v4 σ4 => ((Int32.toInt v4) = 1 → (((Int32.toInt x5) = 0 → (Q x6 σ4)) ∧ (¬ (Int32.toInt x5) = 0 → ((-2147483648 ≤ (Int32.toInt x5) + (-1) ∧ (Int32.toInt x5) + (-1) ≤ 2147483647) ∧ ∀ r8 : Int32, r8.toInt = (Int32.toInt x5) + (-1) → ((-2147483648 ≤ (Int32.toInt x6) + 1 ∧ (Int32.toInt x6) + 1 ≤ 2147483647) ∧ ∀ r9 : Int32, r9.toInt = (Int32.toInt x6) + 1 → (F7 x1 x2 x3 r8 r9 σ4 Q)))))) ∧ (¬ (Int32.toInt v4) = 1 → ((-2147483648 ≤ (Int32.toInt x6) + 1 ∧ (Int32.toInt x6) + 1 ≤ 2147483647) ∧ ∀ r6 : Int32, r6.toInt = (Int32.toInt x6) + 1 → (F7 x1 x2 x3 x5 r6 σ4 Q))))))))
noncomputable def WL_Ju_personAllowed : Nat → (Int32 → Int32 → Int32 → Int32 → Int32 → zS → (Int32 → zS → Prop) → Prop)
  | 0 => fun _ _ _ _ _ _ _ => False
  | n + 1 => WB_Ju_personAllowed_7 (WL_Ju_personAllowed n)
theorem wl_Ju_personAllowed_7 {n : Nat} {x1 : Int32} {x2 : Int32} {x3 : Int32} {x5 : Int32} {x6 : Int32} {σ : zS} {Q : Int32 → zS → Prop} (h : WB_Ju_personAllowed_7 (WL_Ju_personAllowed n) x1 x2 x3 x5 x6 σ Q) : (WL_Ju_personAllowed (n + 1)) x1 x2 x3 x5 x6 σ Q := h
noncomputable def W_Ju_personAllowed (a1 : Int32) (a2 : Int32) (a3 : Int32) (a4 : Int32) (σ : zS) (Q : Int32 → zS → Prop) : Prop := (WL_Ju_personAllowed fuF) a1 a2 a3 a4 0 σ Q
noncomputable def W_H_who (a1 : Int32) (a2 : Int32) (a3 : Int32) (a4 : Int32) (σ : zS) (Q : Int32 → zS → Prop) : Prop := W_H_isAmong a1 (σ.1 17 0) σ (fun v1 σ1 => ((Int32.toInt v1) = 0 → (Q (-1) σ1)) ∧ (¬ (Int32.toInt v1) = 0 → (W_H_isAct a2 σ1 (fun v3 σ3 => ((Int32.toInt v3) = 0 → (Q (-1) σ3)) ∧ (¬ (Int32.toInt v3) = 0 → (W_Th_isThere a3 σ3 (fun v5 σ5 => ((Int32.toInt v5) = 0 → (Q (-1) σ5)) ∧ (¬ (Int32.toInt v5) = 0 → ((0 ≤ (Int32.toInt a4) → (W_Ju_setMoment (σ5.1 0 2) (σ5.1 0 2) σ5 (fun _ σ8 => W_Ju_personAllowed a1 a2 a3 a4 σ8 (fun v9 σ9 => Q v9 σ9)))) ∧ (¬ 0 ≤ (Int32.toInt a4) → (Q (-1) σ5)))))))))))
noncomputable def W_H_could (a1 : Int32) (a2 : Int32) (a3 : Int32) (a4 : Int32) (σ : zS) (Q : Int32 → zS → Prop) : Prop := W_H_isAct a1 σ (fun v1 σ1 => ((Int32.toInt v1) = 0 → (Q (-1) σ1)) ∧ (¬ (Int32.toInt v1) = 0 → (W_Th_isThere a2 σ1 (fun v3 σ3 => ((Int32.toInt v3) = 0 → (Q (-1) σ3)) ∧ (¬ (Int32.toInt v3) = 0 → (((Int32.toInt a3) < 0 → (Q (-1) σ3)) ∧ (¬ (Int32.toInt a3) < 0 → (((Int32.toInt (σ3.1 0 2)) < (Int32.toInt a3) → (Q (-1) σ3)) ∧ (¬ (Int32.toInt (σ3.1 0 2)) < (Int32.toInt a3) → ((0 ≤ (Int32.toInt a4) → (W_Ju_setMoment a3 (σ3.1 0 2) σ3 (fun _ σ8 => W_H_policyInForce a3 σ8 (fun v9 σ9 => W_Ju_personAllowed v9 a1 a2 a4 σ9 (fun v10 σ10 => Q v10 σ10))))) ∧ (¬ 0 ≤ (Int32.toInt a4) → (Q (-1) σ3))))))))))))
noncomputable def W_Ju_noteDifference_b33 (x3 : Int32) (x4 : Int32) (σ : zS) (Q : Unit → zS → Prop) : Prop := ((Int32.toInt (σ.1 33 2)) = (-4) → (∀ σ2 : zS, zI σ 33 2 (σ.1 27 3) = σ2 → (∀ σ3 : zS, zI σ2 33 3 x3 = σ3 → (∀ σ4 : zS, zI σ3 33 4 x4 = σ4 → (Q () σ4))))) ∧ (¬ (Int32.toInt (σ.1 33 2)) = (-4) → (Q () σ))
noncomputable def W_Ju_noteDifference (a1 : Int32) (a2 : Int32) (a3 : Int32) (a4 : Int32) (σ : zS) (Q : Unit → zS → Prop) : Prop := ((Int32.toInt a2) = 1 → ((-2147483648 ≤ (Int32.toInt (σ.1 33 0)) + 1 ∧ (Int32.toInt (σ.1 33 0)) + 1 ≤ 2147483647) ∧ ∀ r5 : Int32, r5.toInt = (Int32.toInt (σ.1 33 0)) + 1 → (∀ σ6 : zS, zI σ 33 0 r5 = σ6 → (W_Ju_noteDifference_b33  a3 a4 σ6 Q)))) ∧ (¬ (Int32.toInt a2) = 1 → (((Int32.toInt a1) = 1 → ((-2147483648 ≤ (Int32.toInt (σ.1 33 1)) + 1 ∧ (Int32.toInt (σ.1 33 1)) + 1 ≤ 2147483647) ∧ ∀ r3 : Int32, r3.toInt = (Int32.toInt (σ.1 33 1)) + 1 → (∀ σ4 : zS, zI σ 33 1 r3 = σ4 → (W_Ju_noteDifference_b33  a3 a4 σ4 Q)))) ∧ (¬ (Int32.toInt a1) = 1 → (W_Ju_noteDifference_b33  a3 a4 σ Q))))
noncomputable def WB_Ju_differences_65 (F65 : Int32 → Int32 → Int32 → Int32 → zS → (Int32 → zS → Prop) → Prop) (F103 : Int32 → Int32 → Int32 → Int32 → Int32 → zS → (Int32 → zS → Prop) → Prop) (F113 : Int32 → Int32 → Int32 → Int32 → Int32 → Int32 → zS → (Int32 → zS → Prop) → Prop) (x1 : Int32) (x2 : Int32) (x3 : Int32) (x4 : Int32) (σ : zS) (Q : Int32 → zS → Prop) : Prop := ((Int32.toInt (σ.1 5 0)) ≤ (Int32.toInt x4) → (Q x3 σ)) ∧ (¬ (Int32.toInt (σ.1 5 0)) ≤ (Int32.toInt x4) → (W_Wh_groupsOf x4 (σ.1 27 6) (σ.1 27 7) σ (fun v2 σ2 => W_Ju_setPerson x4 v2 σ2 (fun _ σ3 => F103 x1 x2 x3 x4 0 σ3 Q))))
noncomputable def WB_Ju_differences_103 (F65 : Int32 → Int32 → Int32 → Int32 → zS → (Int32 → zS → Prop) → Prop) (F103 : Int32 → Int32 → Int32 → Int32 → Int32 → zS → (Int32 → zS → Prop) → Prop) (F113 : Int32 → Int32 → Int32 → Int32 → Int32 → Int32 → zS → (Int32 → zS → Prop) → Prop) (x1 : Int32) (x2 : Int32) (x3 : Int32) (x4 : Int32) (x5 : Int32) (σ : zS) (Q : Int32 → zS → Prop) : Prop := (6 ≤ (Int32.toInt x5) → ((-2147483648 ≤ (Int32.toInt x4) + 1 ∧ (Int32.toInt x4) + 1 ≤ 2147483647) ∧ ∀ r2 : Int32, r2.toInt = (Int32.toInt x4) + 1 → (F65 x1 x2 x3 r2 σ Q))) ∧ (¬ 6 ≤ (Int32.toInt x5) → (F113 x1 x2 x3 x4 x5 0 σ Q))
noncomputable def WB_Ju_differences_113 (F65 : Int32 → Int32 → Int32 → Int32 → zS → (Int32 → zS → Prop) → Prop) (F103 : Int32 → Int32 → Int32 → Int32 → Int32 → zS → (Int32 → zS → Prop) → Prop) (F113 : Int32 → Int32 → Int32 → Int32 → Int32 → Int32 → zS → (Int32 → zS → Prop) → Prop) (x1 : Int32) (x2 : Int32) (x3 : Int32) (x4 : Int32) (x5 : Int32) (x6 : Int32) (σ : zS) (Q : Int32 → zS → Prop) : Prop := ((Int32.toInt (σ.1 10 0)) ≤ (Int32.toInt x6) → ((-2147483648 ≤ (Int32.toInt x5) + 1 ∧ (Int32.toInt x5) + 1 ≤ 2147483647) ∧ ∀ r2 : Int32, r2.toInt = (Int32.toInt x5) + 1 → (F103 x1 x2 x3 x4 r2 σ Q))) ∧ (¬ (Int32.toInt (σ.1 10 0)) ≤ (Int32.toInt x6) → (W_Th_isThere x6 σ (fun v3 σ3 => ((Int32.toInt v3) = 0 → ((-2147483648 ≤ (Int32.toInt x6) + 1 ∧ (Int32.toInt x6) + 1 ≤ 2147483647) ∧ ∀ r14 : Int32, r14.toInt = (Int32.toInt x6) + 1 → (F113 x1 x2 x3 x4 x5 r14 σ3 Q))) ∧ (¬ (Int32.toInt v3) = 0 → ((-2147483648 ≤ (Int32.toInt (σ3.1 33 5)) + 1 ∧ (Int32.toInt (σ3.1 33 5)) + 1 ≤ 2147483647) ∧ ∀ r5 : Int32, r5.toInt = (Int32.toInt (σ3.1 33 5)) + 1 → (∀ σ6 : zS, zI σ3 33 5 r5 = σ6 → (W_Ju_answer x1 x5 x6 σ6 (fun v7 σ7 => W_Ju_answer x2 x5 x6 σ7 (fun v8 σ8 => ((Int32.toInt v7) = (Int32.toInt v8) → ((-2147483648 ≤ (Int32.toInt x6) + 1 ∧ (Int32.toInt x6) + 1 ≤ 2147483647) ∧ ∀ r10 : Int32, r10.toInt = (Int32.toInt x6) + 1 → (F113 x1 x2 x3 x4 x5 r10 σ8 Q))) ∧ (¬ (Int32.toInt v7) = (Int32.toInt v8) → ((-2147483648 ≤ (Int32.toInt x3) + 1 ∧ (Int32.toInt x3) + 1 ≤ 2147483647) ∧ ∀ r11 : Int32, r11.toInt = (Int32.toInt x3) + 1 → (W_Ju_noteDifference v7 v8 x5 x6 σ8 (fun _ σ12 => (-2147483648 ≤ (Int32.toInt x6) + 1 ∧ (Int32.toInt x6) + 1 ≤ 2147483647) ∧ ∀ r13 : Int32, r13.toInt = (Int32.toInt x6) + 1 → (F113 x1 x2 r11 x4 x5 r13 σ12 Q))))))))))))))
noncomputable def WL_Ju_differences : Nat → (Int32 → Int32 → Int32 → Int32 → zS → (Int32 → zS → Prop) → Prop) × (Int32 → Int32 → Int32 → Int32 → Int32 → zS → (Int32 → zS → Prop) → Prop) × (Int32 → Int32 → Int32 → Int32 → Int32 → Int32 → zS → (Int32 → zS → Prop) → Prop)
  | 0 => (fun _ _ _ _ _ _ => False, (fun _ _ _ _ _ _ _ => False, fun _ _ _ _ _ _ _ _ => False))
  | n + 1 => (WB_Ju_differences_65 (WL_Ju_differences n).1 (WL_Ju_differences n).2.1 (WL_Ju_differences n).2.2, (WB_Ju_differences_103 (WL_Ju_differences n).1 (WL_Ju_differences n).2.1 (WL_Ju_differences n).2.2, WB_Ju_differences_113 (WL_Ju_differences n).1 (WL_Ju_differences n).2.1 (WL_Ju_differences n).2.2))
theorem wl_Ju_differences_65 {n : Nat} {x1 : Int32} {x2 : Int32} {x3 : Int32} {x4 : Int32} {σ : zS} {Q : Int32 → zS → Prop} (h : WB_Ju_differences_65 (WL_Ju_differences n).1 (WL_Ju_differences n).2.1 (WL_Ju_differences n).2.2 x1 x2 x3 x4 σ Q) : (WL_Ju_differences (n + 1)).1 x1 x2 x3 x4 σ Q := h
theorem wl_Ju_differences_103 {n : Nat} {x1 : Int32} {x2 : Int32} {x3 : Int32} {x4 : Int32} {x5 : Int32} {σ : zS} {Q : Int32 → zS → Prop} (h : WB_Ju_differences_103 (WL_Ju_differences n).1 (WL_Ju_differences n).2.1 (WL_Ju_differences n).2.2 x1 x2 x3 x4 x5 σ Q) : (WL_Ju_differences (n + 1)).2.1 x1 x2 x3 x4 x5 σ Q := h
theorem wl_Ju_differences_113 {n : Nat} {x1 : Int32} {x2 : Int32} {x3 : Int32} {x4 : Int32} {x5 : Int32} {x6 : Int32} {σ : zS} {Q : Int32 → zS → Prop} (h : WB_Ju_differences_113 (WL_Ju_differences n).1 (WL_Ju_differences n).2.1 (WL_Ju_differences n).2.2 x1 x2 x3 x4 x5 x6 σ Q) : (WL_Ju_differences (n + 1)).2.2 x1 x2 x3 x4 x5 x6 σ Q := h
noncomputable def W_Ju_differences (a1 : Int32) (a2 : Int32) (σ : zS) (Q : Int32 → zS → Prop) : Prop := (-2147483648 ≤ (Int32.toInt (σ.1 27 19)) + 1 ∧ (Int32.toInt (σ.1 27 19)) + 1 ≤ 2147483647) ∧ ∀ r1 : Int32, r1.toInt = (Int32.toInt (σ.1 27 19)) + 1 → (∀ σ2 : zS, zI σ 27 19 r1 = σ2 → (∀ σ3 : zS, zI σ2 27 18 1 = σ3 → (∀ σ4 : zS, zI σ3 33 0 0 = σ4 → (∀ σ5 : zS, zI σ4 33 1 0 = σ5 → (∀ σ6 : zS, zI σ5 33 2 (-4) = σ6 → (∀ σ7 : zS, zI σ6 33 3 (-4) = σ7 → (∀ σ8 : zS, zI σ7 33 4 (-4) = σ8 → (∀ σ9 : zS, zI σ8 33 5 0 = σ9 → ((WL_Ju_differences fuF).1 a1 a2 0 0 σ9 Q)))))))))
noncomputable def W_H_compare (a1 : Int32) (a2 : Int32) (σ : zS) (Q : Int32 → zS → Prop) : Prop := W_H_isAmong a1 (σ.1 17 0) σ (fun v1 σ1 => ((Int32.toInt v1) = 0 → (Q (-1) σ1)) ∧ (¬ (Int32.toInt v1) = 0 → (W_H_isAmong a2 (σ1.1 17 0) σ1 (fun v3 σ3 => ((Int32.toInt v3) = 0 → (Q (-1) σ3)) ∧ (¬ (Int32.toInt v3) = 0 → (((Int32.toInt (σ3.1 27 19)) < 20 → (W_Ju_setMoment (σ3.1 0 2) (σ3.1 0 2) σ3 (fun _ σ6 => W_Ju_differences a1 a2 σ6 (fun v7 σ7 => Q v7 σ7)))) ∧ (¬ (Int32.toInt (σ3.1 27 19)) < 20 → (Q (-3) σ3))))))))
noncomputable def W_H_compared (a1 : Int32) (σ : zS) (Q : Int32 → zS → Prop) : Prop := W_H_isAmong a1 6 σ (fun v1 σ1 => ((Int32.toInt v1) = 0 → (Q (-1) σ1)) ∧ (¬ (Int32.toInt v1) = 0 → (((Int32.toInt (σ1.1 27 18)) = 0 → (Q (-2) σ1)) ∧ (¬ (Int32.toInt (σ1.1 27 18)) = 0 → (∃ n4 : Nat, Int32.toInt a1 = (n4 : Int) ∧ n4 < 6 ∧ (Q (σ1.1 33 n4) σ1))))))
noncomputable def WB_Ju_decidedBy_15 (F15 : Int32 → Int32 → Int32 → Int32 → zS → (Int32 → zS → Prop) → Prop) (F53 : Int32 → Int32 → Int32 → Int32 → Int32 → zS → (Int32 → zS → Prop) → Prop) (F63 : Int32 → Int32 → Int32 → Int32 → Int32 → Int32 → zS → (Int32 → zS → Prop) → Prop) (x1 : Int32) (x2 : Int32) (x3 : Int32) (x4 : Int32) (σ : zS) (Q : Int32 → zS → Prop) : Prop := ((Int32.toInt (σ.1 5 0)) ≤ (Int32.toInt x4) → (Q x3 σ)) ∧ (¬ (Int32.toInt (σ.1 5 0)) ≤ (Int32.toInt x4) → (W_Wh_groupsOf x4 (σ.1 27 6) (σ.1 27 7) σ (fun v2 σ2 => W_Ju_setPerson x4 v2 σ2 (fun _ σ3 => F53 x1 x2 x3 x4 0 σ3 Q))))
noncomputable def WB_Ju_decidedBy_53 (F15 : Int32 → Int32 → Int32 → Int32 → zS → (Int32 → zS → Prop) → Prop) (F53 : Int32 → Int32 → Int32 → Int32 → Int32 → zS → (Int32 → zS → Prop) → Prop) (F63 : Int32 → Int32 → Int32 → Int32 → Int32 → Int32 → zS → (Int32 → zS → Prop) → Prop) (x1 : Int32) (x2 : Int32) (x3 : Int32) (x4 : Int32) (x5 : Int32) (σ : zS) (Q : Int32 → zS → Prop) : Prop := (6 ≤ (Int32.toInt x5) → ((-2147483648 ≤ (Int32.toInt x4) + 1 ∧ (Int32.toInt x4) + 1 ≤ 2147483647) ∧ ∀ r2 : Int32, r2.toInt = (Int32.toInt x4) + 1 → (F15 x1 x2 x3 r2 σ Q))) ∧ (¬ 6 ≤ (Int32.toInt x5) → (F63 x1 x2 x3 x4 x5 0 σ Q))
noncomputable def WB_Ju_decidedBy_63 (F15 : Int32 → Int32 → Int32 → Int32 → zS → (Int32 → zS → Prop) → Prop) (F53 : Int32 → Int32 → Int32 → Int32 → Int32 → zS → (Int32 → zS → Prop) → Prop) (F63 : Int32 → Int32 → Int32 → Int32 → Int32 → Int32 → zS → (Int32 → zS → Prop) → Prop) (x1 : Int32) (x2 : Int32) (x3 : Int32) (x4 : Int32) (x5 : Int32) (x6 : Int32) (σ : zS) (Q : Int32 → zS → Prop) : Prop := ((Int32.toInt (σ.1 10 0)) ≤ (Int32.toInt x6) → ((-2147483648 ≤ (Int32.toInt x5) + 1 ∧ (Int32.toInt x5) + 1 ≤ 2147483647) ∧ ∀ r2 : Int32, r2.toInt = (Int32.toInt x5) + 1 → (F53 x1 x2 x3 x4 r2 σ Q))) ∧ (¬ (Int32.toInt (σ.1 10 0)) ≤ (Int32.toInt x6) → (W_Th_isThere x6 σ (fun v3 σ3 => ((Int32.toInt v3) = 0 → ((-2147483648 ≤ (Int32.toInt x6) + 1 ∧ (Int32.toInt x6) + 1 ≤ 2147483647) ∧ ∀ r5 : Int32, r5.toInt = (Int32.toInt x6) + 1 → (F63 x1 x2 x3 x4 x5 r5 σ3 Q))) ∧ (¬ (Int32.toInt v3) = 0 → (W_Ju_answer x1 x5 x6 σ3 (fun v6 σ6 => ((Int32.toInt (σ6.1 31 0)) = (Int32.toInt x2) → ((-2147483648 ≤ (Int32.toInt x3) + 1 ∧ (Int32.toInt x3) + 1 ≤ 2147483647) ∧ ∀ r10 : Int32, r10.toInt = (Int32.toInt x3) + 1 → ((-2147483648 ≤ (Int32.toInt x6) + 1 ∧ (Int32.toInt x6) + 1 ≤ 2147483647) ∧ ∀ r11 : Int32, r11.toInt = (Int32.toInt x6) + 1 → (F63 x1 x2 r10 x4 x5 r11 σ6 Q)))) ∧ (¬ (Int32.toInt (σ6.1 31 0)) = (Int32.toInt x2) → ((-2147483648 ≤ (Int32.toInt x3) + 0 ∧ (Int32.toInt x3) + 0 ≤ 2147483647) ∧ ∀ r8 : Int32, r8.toInt = (Int32.toInt x3) + 0 → ((-2147483648 ≤ (Int32.toInt x6) + 1 ∧ (Int32.toInt x6) + 1 ≤ 2147483647) ∧ ∀ r9 : Int32, r9.toInt = (Int32.toInt x6) + 1 → (F63 x1 x2 r8 x4 x5 r9 σ6 Q))))))))))
noncomputable def WL_Ju_decidedBy : Nat → (Int32 → Int32 → Int32 → Int32 → zS → (Int32 → zS → Prop) → Prop) × (Int32 → Int32 → Int32 → Int32 → Int32 → zS → (Int32 → zS → Prop) → Prop) × (Int32 → Int32 → Int32 → Int32 → Int32 → Int32 → zS → (Int32 → zS → Prop) → Prop)
  | 0 => (fun _ _ _ _ _ _ => False, (fun _ _ _ _ _ _ _ => False, fun _ _ _ _ _ _ _ _ => False))
  | n + 1 => (WB_Ju_decidedBy_15 (WL_Ju_decidedBy n).1 (WL_Ju_decidedBy n).2.1 (WL_Ju_decidedBy n).2.2, (WB_Ju_decidedBy_53 (WL_Ju_decidedBy n).1 (WL_Ju_decidedBy n).2.1 (WL_Ju_decidedBy n).2.2, WB_Ju_decidedBy_63 (WL_Ju_decidedBy n).1 (WL_Ju_decidedBy n).2.1 (WL_Ju_decidedBy n).2.2))
theorem wl_Ju_decidedBy_15 {n : Nat} {x1 : Int32} {x2 : Int32} {x3 : Int32} {x4 : Int32} {σ : zS} {Q : Int32 → zS → Prop} (h : WB_Ju_decidedBy_15 (WL_Ju_decidedBy n).1 (WL_Ju_decidedBy n).2.1 (WL_Ju_decidedBy n).2.2 x1 x2 x3 x4 σ Q) : (WL_Ju_decidedBy (n + 1)).1 x1 x2 x3 x4 σ Q := h
theorem wl_Ju_decidedBy_53 {n : Nat} {x1 : Int32} {x2 : Int32} {x3 : Int32} {x4 : Int32} {x5 : Int32} {σ : zS} {Q : Int32 → zS → Prop} (h : WB_Ju_decidedBy_53 (WL_Ju_decidedBy n).1 (WL_Ju_decidedBy n).2.1 (WL_Ju_decidedBy n).2.2 x1 x2 x3 x4 x5 σ Q) : (WL_Ju_decidedBy (n + 1)).2.1 x1 x2 x3 x4 x5 σ Q := h
theorem wl_Ju_decidedBy_63 {n : Nat} {x1 : Int32} {x2 : Int32} {x3 : Int32} {x4 : Int32} {x5 : Int32} {x6 : Int32} {σ : zS} {Q : Int32 → zS → Prop} (h : WB_Ju_decidedBy_63 (WL_Ju_decidedBy n).1 (WL_Ju_decidedBy n).2.1 (WL_Ju_decidedBy n).2.2 x1 x2 x3 x4 x5 x6 σ Q) : (WL_Ju_decidedBy (n + 1)).2.2 x1 x2 x3 x4 x5 x6 σ Q := h
noncomputable def W_Ju_decidedBy (a1 : Int32) (a2 : Int32) (σ : zS) (Q : Int32 → zS → Prop) : Prop := (-2147483648 ≤ (Int32.toInt (σ.1 27 19)) + 1 ∧ (Int32.toInt (σ.1 27 19)) + 1 ≤ 2147483647) ∧ ∀ r1 : Int32, r1.toInt = (Int32.toInt (σ.1 27 19)) + 1 → (∀ σ2 : zS, zI σ 27 19 r1 = σ2 → ((WL_Ju_decidedBy fuF).1 a1 a2 0 0 σ2 Q))
noncomputable def W_H_decides (a1 : Int32) (a2 : Int32) (σ : zS) (Q : Int32 → zS → Prop) : Prop := W_H_isAmong a1 (σ.1 17 0) σ (fun v1 σ1 => ((Int32.toInt v1) = 0 → (Q (-1) σ1)) ∧ (¬ (Int32.toInt v1) = 0 → (∃ n3 : Nat, Int32.toInt a1 = (n3 : Int) ∧ n3 < 8 ∧ (W_H_isAmong a2 (σ1.1 19 n3) σ1 (fun v4 σ4 => ((Int32.toInt v4) = 0 → (Q (-1) σ4)) ∧ (¬ (Int32.toInt v4) = 0 → (((Int32.toInt (σ4.1 27 19)) < 20 → (W_Ju_setMoment (σ4.1 0 2) (σ4.1 0 2) σ4 (fun _ σ7 => W_Ju_decidedBy a1 a2 σ7 (fun v8 σ8 => Q v8 σ8)))) ∧ (¬ (Int32.toInt (σ4.1 27 19)) < 20 → (Q (-3) σ4)))))))))
noncomputable def W_H_inForce (a1 : Int32) (σ : zS) (Q : Int32 → zS → Prop) : Prop := W_H_isAmong a1 (σ.1 17 0) σ (fun v1 σ1 => ((Int32.toInt v1) = 0 → (Q (-1) σ1)) ∧ (¬ (Int32.toInt v1) = 0 → (((Int32.toInt (σ1.1 0 5)) < 40 → (∃ n4 : Nat, Int32.toInt (σ1.1 0 5) = (n4 : Int) ∧ n4 < 40 ∧ (∀ σ5 : zS, zI σ1 2 n4 (σ1.1 0 2) = σ5 → (∃ n6 : Nat, Int32.toInt (σ5.1 0 5) = (n6 : Int) ∧ n6 < 40 ∧ (∀ σ7 : zS, zI σ5 3 n6 a1 = σ7 → ((-2147483648 ≤ (Int32.toInt (σ7.1 0 5)) + 1 ∧ (Int32.toInt (σ7.1 0 5)) + 1 ≤ 2147483647) ∧ ∀ r8 : Int32, r8.toInt = (Int32.toInt (σ7.1 0 5)) + 1 → (∀ σ9 : zS, zI σ7 0 5 r8 = σ9 → (W_H_writeLog 1 a1 0 0 1 σ9 (fun _ σ10 => Q 1 σ10))))))))) ∧ (¬ (Int32.toInt (σ1.1 0 5)) < 40 → (Q (-3) σ1)))))
theorem sF_H_inForce {E : xV} {σ : zS} {K : zKt} {a1 : Int32} {Q : Int32 → zS → Prop} (h : W_H_inForce a1 σ Q) (k : ∀ v s, Q v s → K (some (.int v)) s) : Cz E Y_H_inForce [.ref 0, .int a1] σ K := by
  refine z_entry (by decide) (fun a => by rw [sl_len]; exact Nat.le_of_ble_eq_true rfl) rfl ?_
  unfold W_H_inForce at h
  refine z_iload_n (f := 1) (i := 1) (q := 1) (pc' := 1) ⟨by decide +kernel, rfl⟩ rfl rfl ?_
  refine z_aload_n (f := 0) (i := 0) (q := 0) (pc' := 2) ⟨by decide +kernel, rfl⟩ rfl rfl ?_
  refine w_getr (k := 0) (j := 10) (idx := 41) (pc' := 5) yfxe_1_41 ykfa_0_10 ⟨by decide +kernel, rfl⟩ ?_
  refine w_geti (k := 17) (j := 0) (idx := 246) (pc' := 8) yfxe_1_246 ykfa_17_0 ⟨by decide +kernel, rfl⟩ ?_
  refine w_invS (Z := Y_H_isAmong) (idx := 136) (As := [.int a1, .int (σ.1 17 0)]) (rest := []) (pc' := 11) cl_1_136 rfl ⟨rfl, rfl⟩ ⟨⟨by decide, by decide⟩, rfl, rfl⟩ ⟨by decide +kernel, rfl⟩ rfl rfl (Nat.le_of_ble_eq_true rfl) rfl rfl ?_
  refine sF_H_isAmong h (fun v1 σ1 h => ?_)
  show Wz E Y_H_inForce 11 [(0, .ref 0), (1, .int a1)] [.int v1] σ1 K
  refine z_if_ne (off := 5) (tgt := 16) (pc' := 14) ⟨by decide +kernel, by decide, rfl⟩ (fun h2 => ?_) (fun h2 => ?_)
  · have h := h.2 (qi_ne_t rfl (by decide) h2)
    refine z_aload_n (f := 0) (i := 0) (q := 0) (pc' := 17) ⟨by decide +kernel, rfl⟩ rfl rfl ?_
    refine w_geti (k := 0) (j := 5) (idx := 255) (pc' := 20) yfxe_1_255 ykfa_0_5 ⟨by decide +kernel, rfl⟩ ?_
    refine z_bipush (i := 40) (v := 40) (pc' := 22) ⟨by decide +kernel, rfl⟩ (by decide) ?_
    refine z_icmp_lt (off := 6) (tgt := 28) (pc' := 25) ⟨by decide +kernel, by decide, rfl⟩ (fun h3 => ?_) (fun h3 => ?_)
    · have h := h.1 (qi_lt_t rfl (by decide) h3)
      refine z_aload_n (f := 0) (i := 0) (q := 0) (pc' := 29) ⟨by decide +kernel, rfl⟩ rfl rfl ?_
      refine w_getr (k := 0) (j := 3) (idx := 13) (pc' := 32) yfxe_1_13 ykfa_0_3 ⟨by decide +kernel, rfl⟩ ?_
      refine z_aload_n (f := 0) (i := 0) (q := 0) (pc' := 33) ⟨by decide +kernel, rfl⟩ rfl rfl ?_
      refine w_geti (k := 0) (j := 5) (idx := 255) (pc' := 36) yfxe_1_255 ykfa_0_5 ⟨by decide +kernel, rfl⟩ ?_
      refine z_aload_n (f := 0) (i := 0) (q := 0) (pc' := 37) ⟨by decide +kernel, rfl⟩ rfl rfl ?_
      refine w_geti (k := 0) (j := 2) (idx := 105) (pc' := 40) yfxe_1_105 ykfa_0_2 ⟨by decide +kernel, rfl⟩ ?_
      obtain ⟨n4, hi4, hz4, h⟩ := h
      refine w_iast (k := 2) (n := n4) (pc' := 41) ykaa_2 (hi4) (hz4) ⟨by decide +kernel, rfl⟩ ?_
      generalize hs5 : zI σ1 2 n4 (σ1.1 0 2) = σ5
      have h := h σ5 hs5
      refine z_aload_n (f := 0) (i := 0) (q := 0) (pc' := 42) ⟨by decide +kernel, rfl⟩ rfl rfl ?_
      refine w_getr (k := 0) (j := 4) (idx := 16) (pc' := 45) yfxe_1_16 ykfa_0_4 ⟨by decide +kernel, rfl⟩ ?_
      refine z_aload_n (f := 0) (i := 0) (q := 0) (pc' := 46) ⟨by decide +kernel, rfl⟩ rfl rfl ?_
      refine w_geti (k := 0) (j := 5) (idx := 255) (pc' := 49) yfxe_1_255 ykfa_0_5 ⟨by decide +kernel, rfl⟩ ?_
      refine z_iload_n (f := 1) (i := 1) (q := 1) (pc' := 50) ⟨by decide +kernel, rfl⟩ rfl rfl ?_
      obtain ⟨n6, hi6, hz6, h⟩ := h
      refine w_iast (k := 3) (n := n6) (pc' := 51) ykaa_3 (hi6) (hz6) ⟨by decide +kernel, rfl⟩ ?_
      generalize hs7 : zI σ5 3 n6 a1 = σ7
      have h := h σ7 hs7
      refine z_aload_n (f := 0) (i := 0) (q := 0) (pc' := 52) ⟨by decide +kernel, rfl⟩ rfl rfl ?_
      refine z_dupr (pc' := 53) ⟨by decide +kernel, rfl⟩ ?_
      refine w_geti (k := 0) (j := 5) (idx := 255) (pc' := 56) yfxe_1_255 ykfa_0_5 ⟨by decide +kernel, rfl⟩ ?_
      refine z_iconst (i := 1) (v := 1) (pc' := 57) ⟨by decide +kernel, rfl⟩ (by decide) ?_
      refine z_iadd (pc' := 58) ⟨by decide +kernel, rfl⟩ ?_
      obtain ⟨hb8, h⟩ := h
      have h := h ((σ7.1 0 5) + 1) (ia_ok rfl (by decide) hb8)
      generalize ((σ7.1 0 5) + 1) = r8 at h ⊢
      refine w_puti (k := 0) (j := 5) (idx := 255) (pc' := 61) yfxi_1_255 ykfa_0_5 ⟨by decide +kernel, rfl⟩ ?_
      generalize hs9 : zI σ7 0 5 r8 = σ9
      have h := h σ9 hs9
      refine z_aload_n (f := 0) (i := 0) (q := 0) (pc' := 62) ⟨by decide +kernel, rfl⟩ rfl rfl ?_
      refine z_iconst (i := 1) (v := 1) (pc' := 63) ⟨by decide +kernel, rfl⟩ (by decide) ?_
      refine z_iload_n (f := 1) (i := 1) (q := 1) (pc' := 64) ⟨by decide +kernel, rfl⟩ rfl rfl ?_
      refine z_iconst (i := 0) (v := 0) (pc' := 65) ⟨by decide +kernel, rfl⟩ (by decide) ?_
      refine z_iconst (i := 0) (v := 0) (pc' := 66) ⟨by decide +kernel, rfl⟩ (by decide) ?_
      refine z_iconst (i := 1) (v := 1) (pc' := 67) ⟨by decide +kernel, rfl⟩ (by decide) ?_
      refine w_invV (Z := Y_H_writeLog) (idx := 258) (kb := 0) (As := [.int 1, .int a1, .int 0, .int 0, .int 1]) (rest := []) (pc' := 70) cl_1_258 rfl ⟨rfl, rfl⟩ ykfa_0_0 rfl ⟨⟨by decide, by decide⟩, rfl, rfl⟩ ⟨by decide +kernel, rfl⟩ rfl rfl (Nat.le_of_ble_eq_true rfl) rfl rfl ?_
      refine sF_H_writeLog h (fun _ σ10 h => ?_)
      show Wz E Y_H_inForce 70 [(0, .ref 0), (1, .int a1)] [] σ10 K
      refine z_iconst (i := 1) (v := 1) (pc' := 71) ⟨by decide +kernel, rfl⟩ (by decide) ?_
      exact z_iret (ty := .int) rfl (by rfl) (by decide +kernel) (k _ _ h)
    · have h := h.2 (qi_lt_f rfl (by decide) h3)
      refine z_bipush (i := (-3)) (v := (-3)) (pc' := 27) ⟨by decide +kernel, rfl⟩ (by decide) ?_
      exact z_iret (ty := .int) rfl (by rfl) (by decide +kernel) (k _ _ h)
  · have h := h.1 (qi_ne_f rfl (by decide) h2)
    refine z_iconst (i := (-1)) (v := (-1)) (pc' := 15) ⟨by decide +kernel, rfl⟩ (by decide) ?_
    exact z_iret (ty := .int) rfl (by rfl) (by decide +kernel) (k _ _ h)
noncomputable def W_M_isMoment (a0 : Int32) (σ : zS) (Q : Int32 → zS → Prop) : Prop := ∀ r1 : Int64, r1.toInt = (Int32.toInt a0) → (W_M_in r1 0 1000000000 σ (fun v2 σ2 => (v2 = 0 ∨ v2 = 1) ∧ (Q v2 σ2)))
noncomputable def W_M_isPolicy (a1 : Int32) (σ : zS) (Q : Int32 → zS → Prop) : Prop := ∀ r1 : Int64, r1.toInt = (Int32.toInt a1) → ((-2147483648 ≤ (Int32.toInt (σ.1 110 32)) - 1 ∧ (Int32.toInt (σ.1 110 32)) - 1 ≤ 2147483647) ∧ ∀ r2 : Int32, r2.toInt = (Int32.toInt (σ.1 110 32)) - 1 → (∀ r3 : Int64, r3.toInt = (Int32.toInt r2) → (W_M_in r1 0 r3 σ (fun v4 σ4 => (v4 = 0 ∨ v4 = 1) ∧ (Q v4 σ4)))))
theorem sF_M_isPolicy {E : xV} {σ : zS} {K : zKt} {a1 : Int32} {Q : Int32 → zS → Prop} (h : W_M_isPolicy a1 σ Q) (k : ∀ v s, Q v s → K (some (.int v)) s) : Cz E Y_M_isPolicy [.ref 110, .int a1] σ K := by
  refine z_entry (by decide) (fun a => by rw [sl_len]; exact Nat.le_of_ble_eq_true rfl) rfl ?_
  unfold W_M_isPolicy at h
  refine z_iload_n (f := 1) (i := 1) (q := 1) (pc' := 1) ⟨by decide +kernel, rfl⟩ rfl rfl ?_
  refine z_i2l (v := (Int32.toInt64 a1)) (pc' := 2) ⟨by decide +kernel, rfl⟩ rfl ?_
  have h := h (Int32.toInt64 a1) (Int32.toInt_toInt64 _)
  generalize (Int32.toInt64 a1) = r1 at h ⊢
  refine z_lconst (i := 0) (v := 0) (pc' := 3) ⟨by decide +kernel, rfl⟩ (by decide) ?_
  refine z_aload_n (f := 0) (i := 0) (q := 0) (pc' := 4) ⟨by decide +kernel, rfl⟩ rfl rfl ?_
  refine w_geti (k := 110) (j := 32) (idx := 646) (pc' := 7) yfxe_13_646 ykfa_110_32 ⟨by decide +kernel, rfl⟩ ?_
  refine z_iconst (i := 1) (v := 1) (pc' := 8) ⟨by decide +kernel, rfl⟩ (by decide) ?_
  refine z_isub (pc' := 9) ⟨by decide +kernel, rfl⟩ ?_
  obtain ⟨hb2, h⟩ := h
  have h := h ((σ.1 110 32) - 1) (is_ok rfl (by decide) hb2)
  generalize ((σ.1 110 32) - 1) = r2 at h ⊢
  refine z_i2l (v := (Int32.toInt64 r2)) (pc' := 10) ⟨by decide +kernel, rfl⟩ rfl ?_
  have h := h (Int32.toInt64 r2) (Int32.toInt_toInt64 _)
  generalize (Int32.toInt64 r2) = r3 at h ⊢
  refine w_invS (Z := Y_M_in) (idx := 333) (As := [.long r1, .long 0, .long r3]) (rest := []) (pc' := 13) cl_13_333 rfl ⟨rfl, rfl⟩ ⟨⟨by decide, by decide⟩, rfl, rfl⟩ ⟨by decide +kernel, rfl⟩ rfl rfl (Nat.le_of_ble_eq_true rfl) rfl rfl ?_
  refine sF_M_in h (fun v4 σ4 h => ?_)
  show Wz E Y_M_isPolicy 13 [(0, .ref 110), (1, .int a1)] [.int v4] σ4 K
  obtain ⟨hg5, h⟩ := h
  exact z_iret (ty := .boolean) rfl (j_bool hg5).1 (by decide +kernel) (k _ _ h)
noncomputable def WB_M_forceAt_5 (F5 : Int32 → Int32 → Int32 → zS → (Int32 → zS → Prop) → Prop) (x1 : Int32) (x2 : Int32) (x3 : Int32) (σ : zS) (Q : Int32 → zS → Prop) : Prop := ((Int32.toInt (σ.1 110 71)) ≤ (Int32.toInt x3) → (Q x2 σ)) ∧ (¬ (Int32.toInt (σ.1 110 71)) ≤ (Int32.toInt x3) → (∃ n2 : Nat, Int32.toInt x3 = (n2 : Int) ∧ n2 < 40 ∧ (((Int32.toInt x1) < (Int32.toInt (σ.1 154 n2)) → ((-2147483648 ≤ (Int32.toInt x3) + 1 ∧ (Int32.toInt x3) + 1 ≤ 2147483647) ∧ ∀ r4 : Int32, r4.toInt = (Int32.toInt x3) + 1 → (F5 x1 x2 r4 σ Q))) ∧ (¬ (Int32.toInt x1) < (Int32.toInt (σ.1 154 n2)) → ((-2147483648 ≤ (Int32.toInt x3) + 1 ∧ (Int32.toInt x3) + 1 ≤ 2147483647) ∧ ∀ r5 : Int32, r5.toInt = (Int32.toInt x3) + 1 → (F5 x1 (σ.1 155 n2) r5 σ Q))))))
theorem sh_M_forceAt_5 {E : xV} {σ : zS} {K : zKt} {F5 : Int32 → Int32 → Int32 → zS → (Int32 → zS → Prop) → Prop} {x1 : Int32} {x2 : Int32} {x3 : Int32} {Q : Int32 → zS → Prop} (f5 : ∀ (x1 : Int32) (x2 : Int32) (x3 : Int32) (σ : zS), F5 x1 x2 x3 σ Q → Wz E Y_M_forceAt 5 [(0, .ref 110), (1, .int x1), (2, .int x2), (3, .int x3)] [] σ K) (k : ∀ v s, Q v s → K (some (.int v)) s) (h : WB_M_forceAt_5 F5 x1 x2 x3 σ Q) : Wz E Y_M_forceAt 5 [(0, .ref 110), (1, .int x1), (2, .int x2), (3, .int x3)] [] σ K := by
  unfold WB_M_forceAt_5 at h
  refine z_iload_n (f := 3) (i := 3) (q := 3) (pc' := 6) ⟨by decide +kernel, rfl⟩ rfl rfl ?_
  refine z_aload_n (f := 0) (i := 0) (q := 0) (pc' := 7) ⟨by decide +kernel, rfl⟩ rfl rfl ?_
  refine w_geti (k := 110) (j := 71) (idx := 724) (pc' := 10) yfxe_13_724 ykfa_110_71 ⟨by decide +kernel, rfl⟩ ?_
  refine z_icmp_ge (off := 30) (tgt := 40) (pc' := 13) ⟨by decide +kernel, by decide, rfl⟩ (fun h1 => ?_) (fun h1 => ?_)
  · have h := h.1 (qi_ge_t rfl rfl h1)
    refine z_iload_n (f := 2) (i := 2) (q := 2) (pc' := 41) ⟨by decide +kernel, rfl⟩ rfl rfl ?_
    exact z_iret (ty := .int) rfl (by rfl) (by decide +kernel) (k _ _ h)
  · have h := h.2 (qi_ge_f rfl rfl h1)
    refine z_aload_n (f := 0) (i := 0) (q := 0) (pc' := 14) ⟨by decide +kernel, rfl⟩ rfl rfl ?_
    refine w_getr (k := 110) (j := 72) (idx := 145) (pc' := 17) yfxe_13_145 ykfa_110_72 ⟨by decide +kernel, rfl⟩ ?_
    refine z_iload_n (f := 3) (i := 3) (q := 3) (pc' := 18) ⟨by decide +kernel, rfl⟩ rfl rfl ?_
    obtain ⟨n2, hi2, hz2, h⟩ := h
    refine w_iald (k := 154) (n := n2) (pc' := 19) ykaa_154 (hi2) (hz2) ⟨by decide +kernel, rfl⟩ ?_
    refine z_iload_n (f := 1) (i := 1) (q := 1) (pc' := 20) ⟨by decide +kernel, rfl⟩ rfl rfl ?_
    refine z_icmp_gt (off := 12) (tgt := 32) (pc' := 23) ⟨by decide +kernel, by decide, rfl⟩ (fun h3 => ?_) (fun h3 => ?_)
    · have h := h.1 (qi_gt_t rfl rfl h3)
      refine z_iload_n (f := 2) (i := 2) (q := 2) (pc' := 33) ⟨by decide +kernel, rfl⟩ rfl rfl ?_
      refine z_istore_n (f := 2) (i := 2) (pc' := 34) ⟨by decide +kernel, rfl⟩ rfl (by decide) rfl ?_
      show Wz E Y_M_forceAt 34 [(2, .int x2), (0, .ref 110), (1, .int x1), (3, .int x3)] [] σ K
      refine z_iinc (i := 3) (z := 1) (q := 3) (pc' := 37) ⟨by decide +kernel, rfl⟩ rfl rfl (by decide) rfl ?_
      show Wz E Y_M_forceAt 37 [(3, .int (x3 + Int32.ofInt 1)), (2, .int x2), (0, .ref 110), (1, .int x1)] [] σ K
      obtain ⟨hb4, h⟩ := h
      have h := h (x3 + Int32.ofInt 1) (ia_ok rfl (by decide) hb4)
      generalize (x3 + Int32.ofInt 1) = r4 at h ⊢
      refine z_goto (off := (-32)) (tgt := 5) (pc' := 40) ⟨by decide +kernel, by decide, rfl⟩ ?_
      refine z_sub [2, 3, 1, 0] rfl ?_
      exact f5 _ _ _ _ h
    · have h := h.2 (qi_gt_f rfl rfl h3)
      refine z_aload_n (f := 0) (i := 0) (q := 0) (pc' := 24) ⟨by decide +kernel, rfl⟩ rfl rfl ?_
      refine w_getr (k := 110) (j := 73) (idx := 148) (pc' := 27) yfxe_13_148 ykfa_110_73 ⟨by decide +kernel, rfl⟩ ?_
      refine z_iload_n (f := 3) (i := 3) (q := 3) (pc' := 28) ⟨by decide +kernel, rfl⟩ rfl rfl ?_
      refine w_iald (k := 155) (n := n2) (pc' := 29) ykaa_155 (hi2) (hz2) ⟨by decide +kernel, rfl⟩ ?_
      refine z_goto (off := 4) (tgt := 33) (pc' := 32) ⟨by decide +kernel, by decide, rfl⟩ ?_
      refine z_istore_n (f := 2) (i := 2) (pc' := 34) ⟨by decide +kernel, rfl⟩ rfl (by decide) rfl ?_
      show Wz E Y_M_forceAt 34 [(2, .int (σ.1 155 n2)), (0, .ref 110), (1, .int x1), (3, .int x3)] [] σ K
      refine z_iinc (i := 3) (z := 1) (q := 3) (pc' := 37) ⟨by decide +kernel, rfl⟩ rfl rfl (by decide) rfl ?_
      show Wz E Y_M_forceAt 37 [(3, .int (x3 + Int32.ofInt 1)), (2, .int (σ.1 155 n2)), (0, .ref 110), (1, .int x1)] [] σ K
      obtain ⟨hb5, h⟩ := h
      have h := h (x3 + Int32.ofInt 1) (ia_ok rfl (by decide) hb5)
      generalize (x3 + Int32.ofInt 1) = r5 at h ⊢
      refine z_goto (off := (-32)) (tgt := 5) (pc' := 40) ⟨by decide +kernel, by decide, rfl⟩ ?_
      refine z_sub [2, 3, 1, 0] rfl ?_
      exact f5 _ _ _ _ h

end
