section
theorem yfxe_13_100 : FxE "RightsHouseModel" 100 11 42 := fx_e (m := 284) (t := 3) rfl (by decide) (by decide +kernel)
theorem yfxe_13_103 : FxE "RightsHouseModel" 103 11 43 := fx_e (m := 284) (t := 3) rfl (by decide) (by decide +kernel)
theorem yfxe_13_106 : FxE "RightsHouseModel" 106 11 44 := fx_e (m := 284) (t := 3) rfl (by decide) (by decide +kernel)
theorem yfxe_13_109 : FxE "RightsHouseModel" 109 11 45 := fx_e (m := 284) (t := 3) rfl (by decide) (by decide +kernel)
theorem yfxe_13_112 : FxE "RightsHouseModel" 112 11 47 := fx_e (m := 284) (t := 3) rfl (by decide) (by decide +kernel)
theorem yfxe_13_115 : FxE "RightsHouseModel" 115 11 48 := fx_e (m := 284) (t := 3) rfl (by decide) (by decide +kernel)
theorem yfxe_13_118 : FxE "RightsHouseModel" 118 11 49 := fx_e (m := 284) (t := 3) rfl (by decide) (by decide +kernel)
theorem yfxe_13_121 : FxE "RightsHouseModel" 121 11 50 := fx_e (m := 284) (t := 3) rfl (by decide) (by decide +kernel)
theorem yfxe_13_124 : FxE "RightsHouseModel" 124 11 51 := fx_e (m := 284) (t := 3) rfl (by decide) (by decide +kernel)
theorem yfxe_13_127 : FxE "RightsHouseModel" 127 11 53 := fx_e (m := 284) (t := 3) rfl (by decide) (by decide +kernel)
theorem yfxe_13_130 : FxE "RightsHouseModel" 130 11 54 := fx_e (m := 284) (t := 3) rfl (by decide) (by decide +kernel)
theorem yfxe_13_133 : FxE "RightsHouseModel" 133 11 55 := fx_e (m := 284) (t := 3) rfl (by decide) (by decide +kernel)
theorem yfxe_13_396 : FxE "RightsHouseModel" 396 11 1 := fx_e (m := 284) (t := 0) rfl (by decide) (by decide +kernel)
theorem yfxe_13_423 : FxE "RightsHouseModel" 423 11 6 := fx_e (m := 284) (t := 0) rfl (by decide) (by decide +kernel)
theorem yfxe_13_426 : FxE "RightsHouseModel" 426 11 7 := fx_e (m := 284) (t := 0) rfl (by decide) (by decide +kernel)
theorem yfxe_13_472 : FxE "RightsHouseModel" 472 11 26 := fx_e (m := 284) (t := 1) rfl (by decide) (by decide +kernel)
theorem yfxe_13_498 : FxE "RightsHouseModel" 498 11 27 := fx_e (m := 284) (t := 0) rfl (by decide) (by decide +kernel)
theorem yfxe_13_504 : FxE "RightsHouseModel" 504 11 29 := fx_e (m := 284) (t := 0) rfl (by decide) (by decide +kernel)
theorem yfxe_13_507 : FxE "RightsHouseModel" 507 11 31 := fx_e (m := 284) (t := 2) rfl (by decide) (by decide +kernel)
theorem yfxe_13_511 : FxE "RightsHouseModel" 511 11 28 := fx_e (m := 284) (t := 0) rfl (by decide) (by decide +kernel)
theorem yfxe_13_54 : FxE "RightsHouseModel" 54 11 20 := fx_e (m := 284) (t := 0) rfl (by decide) (by decide +kernel)
theorem yfxe_13_540 : FxE "RightsHouseModel" 540 11 30 := fx_e (m := 284) (t := 0) rfl (by decide) (by decide +kernel)
theorem yfxe_13_543 : FxE "RightsHouseModel" 543 11 46 := fx_e (m := 284) (t := 0) rfl (by decide) (by decide +kernel)
theorem yfxe_13_546 : FxE "RightsHouseModel" 546 11 56 := fx_e (m := 284) (t := 0) rfl (by decide) (by decide +kernel)
theorem yfxe_13_549 : FxE "RightsHouseModel" 549 11 52 := fx_e (m := 284) (t := 0) rfl (by decide) (by decide +kernel)
theorem yfxe_13_556 : FxE "RightsHouseModel" 556 11 57 := fx_e (m := 284) (t := 0) rfl (by decide) (by decide +kernel)
theorem yfxe_13_559 : FxE "RightsHouseModel" 559 11 58 := fx_e (m := 284) (t := 0) rfl (by decide) (by decide +kernel)
theorem yfxe_13_576 : FxE "RightsHouseModel" 576 11 59 := fx_e (m := 284) (t := 0) rfl (by decide) (by decide +kernel)
theorem yfxe_13_58 : FxE "RightsHouseModel" 58 11 21 := fx_e (m := 284) (t := 3) rfl (by decide) (by decide +kernel)
theorem yfxe_13_582 : FxE "RightsHouseModel" 582 11 61 := fx_e (m := 284) (t := 1) rfl (by decide) (by decide +kernel)
theorem yfxe_13_585 : FxE "RightsHouseModel" 585 11 60 := fx_e (m := 284) (t := 1) rfl (by decide) (by decide +kernel)
theorem yfxe_13_61 : FxE "RightsHouseModel" 61 11 22 := fx_e (m := 284) (t := 3) rfl (by decide) (by decide +kernel)
theorem yfxe_13_646 : FxE "RightsHouseModel" 646 11 32 := fx_e (m := 284) (t := 0) rfl (by decide) (by decide +kernel)
theorem yfxe_13_67 : FxE "RightsHouseModel" 67 11 24 := fx_e (m := 284) (t := 3) rfl (by decide) (by decide +kernel)
theorem yfxe_13_7 : FxE "RightsHouseModel" 7 11 2 := fx_e (m := 284) (t := 3) rfl (by decide) (by decide +kernel)
theorem yfxe_13_70 : FxE "RightsHouseModel" 70 11 25 := fx_e (m := 284) (t := 3) rfl (by decide) (by decide +kernel)
theorem yfxe_13_73 : FxE "RightsHouseModel" 73 11 33 := fx_e (m := 284) (t := 3) rfl (by decide) (by decide +kernel)
theorem yfxe_13_76 : FxE "RightsHouseModel" 76 11 34 := fx_e (m := 284) (t := 3) rfl (by decide) (by decide +kernel)
theorem yfxe_13_79 : FxE "RightsHouseModel" 79 11 35 := fx_e (m := 284) (t := 3) rfl (by decide) (by decide +kernel)
theorem yfxe_13_82 : FxE "RightsHouseModel" 82 11 36 := fx_e (m := 284) (t := 3) rfl (by decide) (by decide +kernel)
theorem yfxe_13_85 : FxE "RightsHouseModel" 85 11 37 := fx_e (m := 284) (t := 3) rfl (by decide) (by decide +kernel)
theorem yfxe_13_88 : FxE "RightsHouseModel" 88 11 38 := fx_e (m := 284) (t := 3) rfl (by decide) (by decide +kernel)
theorem yfxe_13_91 : FxE "RightsHouseModel" 91 11 39 := fx_e (m := 284) (t := 3) rfl (by decide) (by decide +kernel)
theorem yfxe_13_94 : FxE "RightsHouseModel" 94 11 40 := fx_e (m := 284) (t := 3) rfl (by decide) (by decide +kernel)
theorem yfxe_13_97 : FxE "RightsHouseModel" 97 11 41 := fx_e (m := 284) (t := 3) rfl (by decide) (by decide +kernel)
theorem yfxi_13_396 : FxI "RightsHouseModel" 396 11 1 := fx_i (m := 284) rfl (by decide) (by decide +kernel)
theorem yfxi_13_498 : FxI "RightsHouseModel" 498 11 27 := fx_i (m := 284) rfl (by decide) (by decide +kernel)
theorem yfxi_13_504 : FxI "RightsHouseModel" 504 11 29 := fx_i (m := 284) rfl (by decide) (by decide +kernel)
theorem yfxi_13_511 : FxI "RightsHouseModel" 511 11 28 := fx_i (m := 284) rfl (by decide) (by decide +kernel)
theorem yfxi_13_540 : FxI "RightsHouseModel" 540 11 30 := fx_i (m := 284) rfl (by decide) (by decide +kernel)
theorem yfxi_13_543 : FxI "RightsHouseModel" 543 11 46 := fx_i (m := 284) rfl (by decide) (by decide +kernel)
theorem yfxi_13_546 : FxI "RightsHouseModel" 546 11 56 := fx_i (m := 284) rfl (by decide) (by decide +kernel)
theorem yfxi_13_549 : FxI "RightsHouseModel" 549 11 52 := fx_i (m := 284) rfl (by decide) (by decide +kernel)
theorem yfxi_13_556 : FxI "RightsHouseModel" 556 11 57 := fx_i (m := 284) rfl (by decide) (by decide +kernel)
theorem yfxi_13_559 : FxI "RightsHouseModel" 559 11 58 := fx_i (m := 284) rfl (by decide) (by decide +kernel)
theorem yfxi_13_576 : FxI "RightsHouseModel" 576 11 59 := fx_i (m := 284) rfl (by decide) (by decide +kernel)
theorem yfxi_13_646 : FxI "RightsHouseModel" 646 11 32 := fx_i (m := 284) rfl (by decide) (by decide +kernel)
theorem yfxj_13_507 : FxJ "RightsHouseModel" 507 11 31 := fx_j (m := 284) rfl (by decide) (by decide +kernel)
theorem yfxz_13_472 : FxZ "RightsHouseModel" 472 11 26 := fx_z (m := 284) rfl (by decide) (by decide +kernel)
theorem yfxz_13_582 : FxZ "RightsHouseModel" 582 11 61 := fx_z (m := 284) rfl (by decide) (by decide +kernel)
theorem yfxz_13_585 : FxZ "RightsHouseModel" 585 11 60 := fx_z (m := 284) rfl (by decide) (by decide +kernel)
theorem ykaa_111 : KaA 111 100 1200 := ka_a (by decide +kernel)
theorem ykaa_125 : KaA 125 100 40 := ka_a (by decide +kernel)
theorem ykaa_126 : KaA 126 100 40 := ka_a (by decide +kernel)
theorem ykaa_128 : KaA 128 102 40 := ka_a (by decide +kernel)
theorem ykaa_129 : KaA 129 102 36 := ka_a (by decide +kernel)
theorem ykaa_130 : KaA 130 100 8 := ka_a (by decide +kernel)
theorem ykaa_131 : KaA 131 100 8 := ka_a (by decide +kernel)
theorem ykaa_132 : KaA 132 100 240 := ka_a (by decide +kernel)
theorem ykaa_133 : KaA 133 100 240 := ka_a (by decide +kernel)
theorem ykaa_134 : KaA 134 100 240 := ka_a (by decide +kernel)
theorem ykaa_135 : KaA 135 100 240 := ka_a (by decide +kernel)
theorem ykaa_136 : KaA 136 100 240 := ka_a (by decide +kernel)
theorem ykaa_137 : KaA 137 100 240 := ka_a (by decide +kernel)
theorem ykaa_138 : KaA 138 100 240 := ka_a (by decide +kernel)
theorem ykaa_139 : KaA 139 100 240 := ka_a (by decide +kernel)
theorem ykaa_140 : KaA 140 100 240 := ka_a (by decide +kernel)
theorem ykaa_141 : KaA 141 100 10400 := ka_a (by decide +kernel)
theorem ykaa_142 : KaA 142 101 10400 := ka_a (by decide +kernel)
theorem ykaa_143 : KaA 143 100 24 := ka_a (by decide +kernel)
theorem ykaa_144 : KaA 144 102 24 := ka_a (by decide +kernel)
theorem ykaa_145 : KaA 145 100 24 := ka_a (by decide +kernel)
theorem ykaa_146 : KaA 146 100 24 := ka_a (by decide +kernel)
theorem ykaa_147 : KaA 147 100 24 := ka_a (by decide +kernel)
theorem ykaa_148 : KaA 148 100 1300 := ka_a (by decide +kernel)
theorem ykaa_149 : KaA 149 100 1300 := ka_a (by decide +kernel)
theorem ykaa_150 : KaA 150 100 1300 := ka_a (by decide +kernel)
theorem ykfa_110_1 : KfA 110 1 11 0 0 := kf_a (by decide) (by decide +kernel)
theorem ykfa_110_2 : KfA 110 2 11 2 111 := kf_a (by decide) (by decide +kernel)
theorem ykfa_110_20 : KfA 110 20 11 0 0 := kf_a (by decide) (by decide +kernel)
theorem ykfa_110_21 : KfA 110 21 11 2 125 := kf_a (by decide) (by decide +kernel)
theorem ykfa_110_22 : KfA 110 22 11 2 126 := kf_a (by decide) (by decide +kernel)
theorem ykfa_110_24 : KfA 110 24 11 2 128 := kf_a (by decide) (by decide +kernel)
theorem ykfa_110_25 : KfA 110 25 11 2 129 := kf_a (by decide) (by decide +kernel)
theorem ykfa_110_26 : KfA 110 26 11 0 0 := kf_a (by decide) (by decide +kernel)
theorem ykfa_110_27 : KfA 110 27 11 0 0 := kf_a (by decide) (by decide +kernel)
theorem ykfa_110_28 : KfA 110 28 11 0 0 := kf_a (by decide) (by decide +kernel)
theorem ykfa_110_29 : KfA 110 29 11 0 0 := kf_a (by decide) (by decide +kernel)
theorem ykfa_110_30 : KfA 110 30 11 0 0 := kf_a (by decide) (by decide +kernel)
theorem ykfa_110_31 : KfA 110 31 11 1 0 := kf_a (by decide) (by decide +kernel)
theorem ykfa_110_32 : KfA 110 32 11 0 0 := kf_a (by decide) (by decide +kernel)
theorem ykfa_110_33 : KfA 110 33 11 2 130 := kf_a (by decide) (by decide +kernel)
theorem ykfa_110_34 : KfA 110 34 11 2 131 := kf_a (by decide) (by decide +kernel)
theorem ykfa_110_35 : KfA 110 35 11 2 132 := kf_a (by decide) (by decide +kernel)
theorem ykfa_110_36 : KfA 110 36 11 2 133 := kf_a (by decide) (by decide +kernel)
theorem ykfa_110_37 : KfA 110 37 11 2 134 := kf_a (by decide) (by decide +kernel)
theorem ykfa_110_38 : KfA 110 38 11 2 135 := kf_a (by decide) (by decide +kernel)
theorem ykfa_110_39 : KfA 110 39 11 2 136 := kf_a (by decide) (by decide +kernel)
theorem ykfa_110_40 : KfA 110 40 11 2 137 := kf_a (by decide) (by decide +kernel)
theorem ykfa_110_41 : KfA 110 41 11 2 138 := kf_a (by decide) (by decide +kernel)
theorem ykfa_110_42 : KfA 110 42 11 2 139 := kf_a (by decide) (by decide +kernel)
theorem ykfa_110_43 : KfA 110 43 11 2 140 := kf_a (by decide) (by decide +kernel)
theorem ykfa_110_44 : KfA 110 44 11 2 141 := kf_a (by decide) (by decide +kernel)
theorem ykfa_110_45 : KfA 110 45 11 2 142 := kf_a (by decide) (by decide +kernel)
theorem ykfa_110_46 : KfA 110 46 11 0 0 := kf_a (by decide) (by decide +kernel)
theorem ykfa_110_47 : KfA 110 47 11 2 143 := kf_a (by decide) (by decide +kernel)
theorem ykfa_110_48 : KfA 110 48 11 2 144 := kf_a (by decide) (by decide +kernel)
theorem ykfa_110_49 : KfA 110 49 11 2 145 := kf_a (by decide) (by decide +kernel)
theorem ykfa_110_50 : KfA 110 50 11 2 146 := kf_a (by decide) (by decide +kernel)
theorem ykfa_110_51 : KfA 110 51 11 2 147 := kf_a (by decide) (by decide +kernel)
theorem ykfa_110_52 : KfA 110 52 11 0 0 := kf_a (by decide) (by decide +kernel)
theorem ykfa_110_53 : KfA 110 53 11 2 148 := kf_a (by decide) (by decide +kernel)
theorem ykfa_110_54 : KfA 110 54 11 2 149 := kf_a (by decide) (by decide +kernel)
theorem ykfa_110_55 : KfA 110 55 11 2 150 := kf_a (by decide) (by decide +kernel)
theorem ykfa_110_56 : KfA 110 56 11 0 0 := kf_a (by decide) (by decide +kernel)
theorem ykfa_110_57 : KfA 110 57 11 0 0 := kf_a (by decide) (by decide +kernel)
theorem ykfa_110_58 : KfA 110 58 11 0 0 := kf_a (by decide) (by decide +kernel)
theorem ykfa_110_59 : KfA 110 59 11 0 0 := kf_a (by decide) (by decide +kernel)
theorem ykfa_110_6 : KfA 110 6 11 0 0 := kf_a (by decide) (by decide +kernel)
theorem ykfa_110_60 : KfA 110 60 11 0 0 := kf_a (by decide) (by decide +kernel)
theorem ykfa_110_61 : KfA 110 61 11 0 0 := kf_a (by decide) (by decide +kernel)
theorem ykfa_110_7 : KfA 110 7 11 0 0 := kf_a (by decide) (by decide +kernel)
noncomputable def W_M_ofWhole (a0 : Int64) (σ : zS) (Q : Int64 → zS → Prop) : Prop := ∀ v : Int64, OwR a0.toInt v.toInt → Q v σ
theorem sF_M_ofWhole {E : xV} {σ : zS} {K : zKt} {a0 : Int64} {Q : Int64 → zS → Prop} (h : W_M_ofWhole a0 σ Q) (k : ∀ v s, Q v s → K (some (.long v)) s) : Cz E Y_M_ofWhole [.long a0] σ K := cz_M_ofWhole (fun v q => k _ _ (h v q))
noncomputable def W_M_over (a0 a2 : Int64) (σ : zS) (Q : Int64 → zS → Prop) : Prop := ∀ v : Int64, OvR a0.toInt a2.toInt v.toInt → Q v σ
theorem sF_M_over {E : xV} {σ : zS} {K : zKt} {a0 a2 : Int64} {Q : Int64 → zS → Prop} (h : W_M_over a0 a2 σ Q) (k : ∀ v s, Q v s → K (some (.long v)) s) : Cz E Y_M_over [.long a0, .long a2] σ K := cz_M_over (fun v q => k _ _ (h v q))
noncomputable def W_M_in (a0 : Int64) (a2 : Int64) (a4 : Int64) (σ : zS) (Q : Int32 → zS → Prop) : Prop := ((Int64.toInt a0) < (Int64.toInt a2) → (Q 0 σ)) ∧ (¬ (Int64.toInt a0) < (Int64.toInt a2) → (((Int64.toInt a4) < (Int64.toInt a0) → (Q 0 σ)) ∧ (¬ (Int64.toInt a4) < (Int64.toInt a0) → (Q 1 σ))))
theorem sF_M_in {E : xV} {σ : zS} {K : zKt} {a0 : Int64} {a2 : Int64} {a4 : Int64} {Q : Int32 → zS → Prop} (h : W_M_in a0 a2 a4 σ Q) (k : ∀ v s, Q v s → K (some (.int v)) s) : Cz E Y_M_in [.long a0, .long a2, .long a4] σ K := by
  refine z_entry (by decide) (fun a => by rw [sl_len]; exact Nat.le_of_ble_eq_true rfl) rfl ?_
  unfold W_M_in at h
  refine z_lload_n (f := 0) (i := 0) (q := 0) (pc' := 1) ⟨by decide +kernel, rfl⟩ rfl rfl ?_
  refine z_lload_n (f := 2) (i := 2) (q := 1) (pc' := 2) ⟨by decide +kernel, rfl⟩ rfl rfl ?_
  refine z_lcmp (pc' := 3) ⟨by decide +kernel, rfl⟩ ?_
  refine z_if_lt (off := 14) (tgt := 17) (pc' := 6) ⟨by decide +kernel, by decide, rfl⟩ (fun h1 => ?_) (fun h1 => ?_)
  · have h := h.1 (qk_lt_t rfl rfl h1)
    refine z_iconst (i := 0) (v := 0) (pc' := 18) ⟨by decide +kernel, rfl⟩ (by decide) ?_
    exact z_iret (ty := .boolean) rfl (by rfl) (by decide +kernel) (k _ _ h)
  · have h := h.2 (qk_lt_f rfl rfl h1)
    refine z_lload_n (f := 0) (i := 0) (q := 0) (pc' := 7) ⟨by decide +kernel, rfl⟩ rfl rfl ?_
    refine z_lload (i := 4) (q := 2) (pc' := 9) ⟨by decide +kernel, rfl⟩ rfl ?_
    refine z_lcmp (pc' := 10) ⟨by decide +kernel, rfl⟩ ?_
    refine z_if_gt (off := 7) (tgt := 17) (pc' := 13) ⟨by decide +kernel, by decide, rfl⟩ (fun h2 => ?_) (fun h2 => ?_)
    · have h := h.1 (qk_gt_t rfl rfl h2)
      refine z_iconst (i := 0) (v := 0) (pc' := 18) ⟨by decide +kernel, rfl⟩ (by decide) ?_
      exact z_iret (ty := .boolean) rfl (by rfl) (by decide +kernel) (k _ _ h)
    · have h := h.2 (qk_gt_f rfl rfl h2)
      refine z_iconst (i := 1) (v := 1) (pc' := 14) ⟨by decide +kernel, rfl⟩ (by decide) ?_
      refine z_goto (off := 4) (tgt := 18) (pc' := 17) ⟨by decide +kernel, by decide, rfl⟩ ?_
      exact z_iret (ty := .boolean) rfl (by rfl) (by decide +kernel) (k _ _ h)
noncomputable def W_M_byteAt (a1 : Int32) (σ : zS) (Q : Int32 → zS → Prop) : Prop := ((Int32.toInt (σ.1 110 1)) ≤ (Int32.toInt a1) → (Q (-1) σ)) ∧ (¬ (Int32.toInt (σ.1 110 1)) ≤ (Int32.toInt a1) → (∃ n2 : Nat, Int32.toInt a1 = (n2 : Int) ∧ n2 < 1200 ∧ (Q (σ.1 111 n2) σ)))
theorem sF_M_byteAt {E : xV} {σ : zS} {K : zKt} {a1 : Int32} {Q : Int32 → zS → Prop} (h : W_M_byteAt a1 σ Q) (k : ∀ v s, Q v s → K (some (.int v)) s) : Cz E Y_M_byteAt [.ref 110, .int a1] σ K := by
  refine z_entry (by decide) (fun a => by rw [sl_len]; exact Nat.le_of_ble_eq_true rfl) rfl ?_
  unfold W_M_byteAt at h
  refine z_iload_n (f := 1) (i := 1) (q := 1) (pc' := 1) ⟨by decide +kernel, rfl⟩ rfl rfl ?_
  refine z_aload_n (f := 0) (i := 0) (q := 0) (pc' := 2) ⟨by decide +kernel, rfl⟩ rfl rfl ?_
  refine w_geti (k := 110) (j := 1) (idx := 396) (pc' := 5) yfxe_13_396 ykfa_110_1 ⟨by decide +kernel, rfl⟩ ?_
  refine z_icmp_ge (off := 12) (tgt := 17) (pc' := 8) ⟨by decide +kernel, by decide, rfl⟩ (fun h1 => ?_) (fun h1 => ?_)
  · have h := h.1 (qi_ge_t rfl rfl h1)
    refine z_iconst (i := (-1)) (v := (-1)) (pc' := 18) ⟨by decide +kernel, rfl⟩ (by decide) ?_
    exact z_iret (ty := .int) rfl (by rfl) (by decide +kernel) (k _ _ h)
  · have h := h.2 (qi_ge_f rfl rfl h1)
    refine z_aload_n (f := 0) (i := 0) (q := 0) (pc' := 9) ⟨by decide +kernel, rfl⟩ rfl rfl ?_
    refine w_getr (k := 110) (j := 2) (idx := 7) (pc' := 12) yfxe_13_7 ykfa_110_2 ⟨by decide +kernel, rfl⟩ ?_
    refine z_iload_n (f := 1) (i := 1) (q := 1) (pc' := 13) ⟨by decide +kernel, rfl⟩ rfl rfl ?_
    obtain ⟨n2, hi2, hz2, h⟩ := h
    refine w_iald (k := 111) (n := n2) (pc' := 14) ykaa_111 (hi2) (hz2) ⟨by decide +kernel, rfl⟩ ?_
    refine z_goto (off := 4) (tgt := 18) (pc' := 17) ⟨by decide +kernel, by decide, rfl⟩ ?_
    exact z_iret (ty := .int) rfl (by rfl) (by decide +kernel) (k _ _ h)
noncomputable def W_M_isFigure (a0 : Int32) (σ : zS) (Q : Int32 → zS → Prop) : Prop := ((Int32.toInt a0) < 48 → (Q 0 σ)) ∧ (¬ (Int32.toInt a0) < 48 → ((57 < (Int32.toInt a0) → (Q 0 σ)) ∧ (¬ 57 < (Int32.toInt a0) → (Q 1 σ))))
theorem sF_M_isFigure {E : xV} {σ : zS} {K : zKt} {a0 : Int32} {Q : Int32 → zS → Prop} (h : W_M_isFigure a0 σ Q) (k : ∀ v s, Q v s → K (some (.int v)) s) : Cz E Y_M_isFigure [.int a0] σ K := by
  refine z_entry (by decide) (fun a => by rw [sl_len]; exact Nat.le_of_ble_eq_true rfl) rfl ?_
  unfold W_M_isFigure at h
  refine z_iload_n (f := 0) (i := 0) (q := 0) (pc' := 1) ⟨by decide +kernel, rfl⟩ rfl rfl ?_
  refine z_bipush (i := 48) (v := 48) (pc' := 3) ⟨by decide +kernel, rfl⟩ (by decide) ?_
  refine z_icmp_lt (off := 13) (tgt := 16) (pc' := 6) ⟨by decide +kernel, by decide, rfl⟩ (fun h1 => ?_) (fun h1 => ?_)
  · have h := h.1 (qi_lt_t rfl (by decide) h1)
    refine z_iconst (i := 0) (v := 0) (pc' := 17) ⟨by decide +kernel, rfl⟩ (by decide) ?_
    exact z_iret (ty := .boolean) rfl (by rfl) (by decide +kernel) (k _ _ h)
  · have h := h.2 (qi_lt_f rfl (by decide) h1)
    refine z_iload_n (f := 0) (i := 0) (q := 0) (pc' := 7) ⟨by decide +kernel, rfl⟩ rfl rfl ?_
    refine z_bipush (i := 57) (v := 57) (pc' := 9) ⟨by decide +kernel, rfl⟩ (by decide) ?_
    refine z_icmp_gt (off := 7) (tgt := 16) (pc' := 12) ⟨by decide +kernel, by decide, rfl⟩ (fun h2 => ?_) (fun h2 => ?_)
    · have h := h.1 (qi_gt_t rfl (by decide) h2)
      refine z_iconst (i := 0) (v := 0) (pc' := 17) ⟨by decide +kernel, rfl⟩ (by decide) ?_
      exact z_iret (ty := .boolean) rfl (by rfl) (by decide +kernel) (k _ _ h)
    · have h := h.2 (qi_gt_f rfl (by decide) h2)
      refine z_iconst (i := 1) (v := 1) (pc' := 13) ⟨by decide +kernel, rfl⟩ (by decide) ?_
      refine z_goto (off := 4) (tgt := 17) (pc' := 16) ⟨by decide +kernel, by decide, rfl⟩ ?_
      exact z_iret (ty := .boolean) rfl (by rfl) (by decide +kernel) (k _ _ h)
noncomputable def W_M_isLetter (a0 : Int32) (σ : zS) (Q : Int32 → zS → Prop) : Prop := ((Int32.toInt a0) < 97 → (Q 0 σ)) ∧ (¬ (Int32.toInt a0) < 97 → ((122 < (Int32.toInt a0) → (Q 0 σ)) ∧ (¬ 122 < (Int32.toInt a0) → (Q 1 σ))))
theorem sF_M_isLetter {E : xV} {σ : zS} {K : zKt} {a0 : Int32} {Q : Int32 → zS → Prop} (h : W_M_isLetter a0 σ Q) (k : ∀ v s, Q v s → K (some (.int v)) s) : Cz E Y_M_isLetter [.int a0] σ K := by
  refine z_entry (by decide) (fun a => by rw [sl_len]; exact Nat.le_of_ble_eq_true rfl) rfl ?_
  unfold W_M_isLetter at h
  refine z_iload_n (f := 0) (i := 0) (q := 0) (pc' := 1) ⟨by decide +kernel, rfl⟩ rfl rfl ?_
  refine z_bipush (i := 97) (v := 97) (pc' := 3) ⟨by decide +kernel, rfl⟩ (by decide) ?_
  refine z_icmp_lt (off := 13) (tgt := 16) (pc' := 6) ⟨by decide +kernel, by decide, rfl⟩ (fun h1 => ?_) (fun h1 => ?_)
  · have h := h.1 (qi_lt_t rfl (by decide) h1)
    refine z_iconst (i := 0) (v := 0) (pc' := 17) ⟨by decide +kernel, rfl⟩ (by decide) ?_
    exact z_iret (ty := .boolean) rfl (by rfl) (by decide +kernel) (k _ _ h)
  · have h := h.2 (qi_lt_f rfl (by decide) h1)
    refine z_iload_n (f := 0) (i := 0) (q := 0) (pc' := 7) ⟨by decide +kernel, rfl⟩ rfl rfl ?_
    refine z_bipush (i := 122) (v := 122) (pc' := 9) ⟨by decide +kernel, rfl⟩ (by decide) ?_
    refine z_icmp_gt (off := 7) (tgt := 16) (pc' := 12) ⟨by decide +kernel, by decide, rfl⟩ (fun h2 => ?_) (fun h2 => ?_)
    · have h := h.1 (qi_gt_t rfl (by decide) h2)
      refine z_iconst (i := 0) (v := 0) (pc' := 17) ⟨by decide +kernel, rfl⟩ (by decide) ?_
      exact z_iret (ty := .boolean) rfl (by rfl) (by decide +kernel) (k _ _ h)
    · have h := h.2 (qi_gt_f rfl (by decide) h2)
      refine z_iconst (i := 1) (v := 1) (pc' := 13) ⟨by decide +kernel, rfl⟩ (by decide) ?_
      refine z_goto (off := 4) (tgt := 17) (pc' := 16) ⟨by decide +kernel, by decide, rfl⟩ ?_
      exact z_iret (ty := .boolean) rfl (by rfl) (by decide +kernel) (k _ _ h)
noncomputable def W_M_number_b94 (F0 : zS → (Unit → zS → Prop) → Prop) (F143 : Int32 → Int64 → zS → (Unit → zS → Prop) → Prop) (y0 : Int32) (σ : zS) (Q : Unit → zS → Prop) : Prop := ∀ σ1 : zS, zI σ 110 28 y0 = σ1 → (W_M_byteAt (σ1.1 110 27) σ1 (fun v2 σ2 => ((Int32.toInt v2) = 46 → ((-2147483648 ≤ (Int32.toInt (σ2.1 110 27)) + 1 ∧ (Int32.toInt (σ2.1 110 27)) + 1 ≤ 2147483647) ∧ ∀ r4 : Int32, r4.toInt = (Int32.toInt (σ2.1 110 27)) + 1 → (W_M_byteAt r4 σ2 (fun v5 σ5 => W_M_isFigure v5 σ5 (fun v6 σ6 => ((Int32.toInt v6) = 0 → (Q () σ6)) ∧ (¬ (Int32.toInt v6) = 0 → ((-2147483648 ≤ (Int32.toInt (σ6.1 110 27)) + 1 ∧ (Int32.toInt (σ6.1 110 27)) + 1 ≤ 2147483647) ∧ ∀ r8 : Int32, r8.toInt = (Int32.toInt (σ6.1 110 27)) + 1 → (∀ σ9 : zS, zI σ6 110 27 r8 = σ9 → (F143 (σ9.1 110 27) 1 σ9 Q))))))))) ∧ (¬ (Int32.toInt v2) = 46 → (Q () σ2))))
theorem sb_M_number_94 {E : xV} {σ : zS} {K : zKt} {F0 : zS → (Unit → zS → Prop) → Prop} {F143 : Int32 → Int64 → zS → (Unit → zS → Prop) → Prop} {y0 : Int32} {Q : Unit → zS → Prop} (f0 : ∀  (σ : zS), F0  σ Q → Wz E Y_M_number 0 [(0, .ref 110)] [] σ K) (f143 : ∀ (x1 : Int32) (x2 : Int64) (σ : zS), F143 x1 x2 σ Q → Wz E Y_M_number 143 [(0, .ref 110), (1, .int x1), (2, .long x2)] [] σ K) (k : ∀ v s, Q v s → K none s) (h : W_M_number_b94 F0 F143 y0 σ Q) : Wz E Y_M_number 94 [(0, .ref 110)] [.int y0, .ref 110] σ K := by
  unfold W_M_number_b94 at h
  refine w_puti (k := 110) (j := 28) (idx := 511) (pc' := 97) yfxi_13_511 ykfa_110_28 ⟨by decide +kernel, rfl⟩ ?_
  generalize hs1 : zI σ 110 28 y0 = σ1
  have h := h σ1 hs1
  refine z_aload_n (f := 0) (i := 0) (q := 0) (pc' := 98) ⟨by decide +kernel, rfl⟩ rfl rfl ?_
  refine z_aload_n (f := 0) (i := 0) (q := 0) (pc' := 99) ⟨by decide +kernel, rfl⟩ rfl rfl ?_
  refine w_geti (k := 110) (j := 27) (idx := 498) (pc' := 102) yfxe_13_498 ykfa_110_27 ⟨by decide +kernel, rfl⟩ ?_
  refine w_invV (Z := Y_M_byteAt) (idx := 501) (kb := 110) (As := [.int (σ1.1 110 27)]) (rest := []) (pc' := 105) cl_13_501 rfl ⟨rfl, rfl⟩ ykfa_110_0 rfl ⟨⟨by decide, by decide⟩, rfl, rfl⟩ ⟨by decide +kernel, rfl⟩ rfl rfl (Nat.le_of_ble_eq_true rfl) rfl rfl ?_
  refine sF_M_byteAt h (fun v2 σ2 h => ?_)
  show Wz E Y_M_number 105 [(0, .ref 110)] [.int v2] σ2 K
  refine z_bipush (i := 46) (v := 46) (pc' := 107) ⟨by decide +kernel, rfl⟩ (by decide) ?_
  refine z_icmp_ne (off := 152) (tgt := 259) (pc' := 110) ⟨by decide +kernel, by decide, rfl⟩ (fun h3 => ?_) (fun h3 => ?_)
  · have h := h.2 (qi_ne_t rfl (by decide) h3)
    exact z_vret rfl (by decide +kernel) (k _ _ h)
  · have h := h.1 (qi_ne_f rfl (by decide) h3)
    refine z_aload_n (f := 0) (i := 0) (q := 0) (pc' := 111) ⟨by decide +kernel, rfl⟩ rfl rfl ?_
    refine z_aload_n (f := 0) (i := 0) (q := 0) (pc' := 112) ⟨by decide +kernel, rfl⟩ rfl rfl ?_
    refine w_geti (k := 110) (j := 27) (idx := 498) (pc' := 115) yfxe_13_498 ykfa_110_27 ⟨by decide +kernel, rfl⟩ ?_
    refine z_iconst (i := 1) (v := 1) (pc' := 116) ⟨by decide +kernel, rfl⟩ (by decide) ?_
    refine z_iadd (pc' := 117) ⟨by decide +kernel, rfl⟩ ?_
    obtain ⟨hb4, h⟩ := h
    have h := h ((σ2.1 110 27) + 1) (ia_ok rfl (by decide) hb4)
    generalize ((σ2.1 110 27) + 1) = r4 at h ⊢
    refine w_invV (Z := Y_M_byteAt) (idx := 501) (kb := 110) (As := [.int r4]) (rest := []) (pc' := 120) cl_13_501 rfl ⟨rfl, rfl⟩ ykfa_110_0 rfl ⟨⟨by decide, by decide⟩, rfl, rfl⟩ ⟨by decide +kernel, rfl⟩ rfl rfl (Nat.le_of_ble_eq_true rfl) rfl rfl ?_
    refine sF_M_byteAt h (fun v5 σ5 h => ?_)
    show Wz E Y_M_number 120 [(0, .ref 110)] [.int v5] σ5 K
    refine w_invS (Z := Y_M_isFigure) (idx := 517) (As := [.int v5]) (rest := []) (pc' := 123) cl_13_517 rfl ⟨rfl, rfl⟩ ⟨⟨by decide, by decide⟩, rfl, rfl⟩ ⟨by decide +kernel, rfl⟩ rfl rfl (Nat.le_of_ble_eq_true rfl) rfl rfl ?_
    refine sF_M_isFigure h (fun v6 σ6 h => ?_)
    show Wz E Y_M_number 123 [(0, .ref 110)] [.int v6] σ6 K
    refine z_if_eq (off := 136) (tgt := 259) (pc' := 126) ⟨by decide +kernel, by decide, rfl⟩ (fun h7 => ?_) (fun h7 => ?_)
    · have h := h.1 (qi_eq_t rfl (by decide) h7)
      exact z_vret rfl (by decide +kernel) (k _ _ h)
    · have h := h.2 (qi_eq_f rfl (by decide) h7)
      refine z_aload_n (f := 0) (i := 0) (q := 0) (pc' := 127) ⟨by decide +kernel, rfl⟩ rfl rfl ?_
      refine z_dupr (pc' := 128) ⟨by decide +kernel, rfl⟩ ?_
      refine w_geti (k := 110) (j := 27) (idx := 498) (pc' := 131) yfxe_13_498 ykfa_110_27 ⟨by decide +kernel, rfl⟩ ?_
      refine z_iconst (i := 1) (v := 1) (pc' := 132) ⟨by decide +kernel, rfl⟩ (by decide) ?_
      refine z_iadd (pc' := 133) ⟨by decide +kernel, rfl⟩ ?_
      obtain ⟨hb8, h⟩ := h
      have h := h ((σ6.1 110 27) + 1) (ia_ok rfl (by decide) hb8)
      generalize ((σ6.1 110 27) + 1) = r8 at h ⊢
      refine w_puti (k := 110) (j := 27) (idx := 498) (pc' := 136) yfxi_13_498 ykfa_110_27 ⟨by decide +kernel, rfl⟩ ?_
      generalize hs9 : zI σ6 110 27 r8 = σ9
      have h := h σ9 hs9
      refine z_aload_n (f := 0) (i := 0) (q := 0) (pc' := 137) ⟨by decide +kernel, rfl⟩ rfl rfl ?_
      refine w_geti (k := 110) (j := 27) (idx := 498) (pc' := 140) yfxe_13_498 ykfa_110_27 ⟨by decide +kernel, rfl⟩ ?_
      refine z_istore_n (f := 1) (i := 1) (pc' := 141) ⟨by decide +kernel, rfl⟩ rfl (by decide) rfl ?_
      show Wz E Y_M_number 141 [(1, .int (σ9.1 110 27)), (0, .ref 110)] [] σ9 K
      refine z_lconst (i := 1) (v := 1) (pc' := 142) ⟨by decide +kernel, rfl⟩ (by decide) ?_
      refine z_lstore_n (f := 2) (i := 2) (pc' := 143) ⟨by decide +kernel, rfl⟩ rfl (by decide) rfl ?_
      show Wz E Y_M_number 143 [(2, .long 1), (1, .int (σ9.1 110 27)), (0, .ref 110)] [] σ9 K
      refine z_sub [2, 1, 0] rfl ?_
      exact f143 _ _ _ h
noncomputable def W_M_number_b238 (F0 : zS → (Unit → zS → Prop) → Prop) (F143 : Int32 → Int64 → zS → (Unit → zS → Prop) → Prop) (x2 : Int64) (y0 : Int32) (σ : zS) (Q : Unit → zS → Prop) : Prop := ∀ σ1 : zS, zI σ 110 28 y0 = σ1 → (W_M_ofWhole (σ1.2 110 31) σ1 (fun v2 σ2 => W_M_ofWhole x2 σ2 (fun v3 σ3 => W_M_over v2 v3 σ3 (fun v4 σ4 => ∀ σ5 : zS, zJ σ4 110 31 v4 = σ5 → (Q () σ5)))))
theorem sb_M_number_238 {E : xV} {σ : zS} {K : zKt} {F0 : zS → (Unit → zS → Prop) → Prop} {F143 : Int32 → Int64 → zS → (Unit → zS → Prop) → Prop} {x2 : Int64} {y0 : Int32} {Q : Unit → zS → Prop} (f0 : ∀  (σ : zS), F0  σ Q → Wz E Y_M_number 0 [(0, .ref 110)] [] σ K) (f143 : ∀ (x1 : Int32) (x2 : Int64) (σ : zS), F143 x1 x2 σ Q → Wz E Y_M_number 143 [(0, .ref 110), (1, .int x1), (2, .long x2)] [] σ K) (k : ∀ v s, Q v s → K none s) (h : W_M_number_b238 F0 F143 x2 y0 σ Q) : Wz E Y_M_number 238 [(0, .ref 110), (2, .long x2)] [.int y0, .ref 110] σ K := by
  unfold W_M_number_b238 at h
  refine w_puti (k := 110) (j := 28) (idx := 511) (pc' := 241) yfxi_13_511 ykfa_110_28 ⟨by decide +kernel, rfl⟩ ?_
  generalize hs1 : zI σ 110 28 y0 = σ1
  have h := h σ1 hs1
  refine z_aload_n (f := 0) (i := 0) (q := 0) (pc' := 242) ⟨by decide +kernel, rfl⟩ rfl rfl ?_
  refine z_aload_n (f := 0) (i := 0) (q := 0) (pc' := 243) ⟨by decide +kernel, rfl⟩ rfl rfl ?_
  refine w_getj (k := 110) (j := 31) (idx := 507) (pc' := 246) yfxe_13_507 ykfa_110_31 ⟨by decide +kernel, rfl⟩ ?_
  refine w_invS (Z := Y_M_ofWhole) (idx := 533) (As := [.long (σ1.2 110 31)]) (rest := [.ref 110]) (pc' := 249) cl_13_533 rfl ⟨rfl, rfl⟩ ⟨⟨by decide, by decide⟩, rfl, rfl⟩ ⟨by decide +kernel, rfl⟩ rfl rfl (Nat.le_of_ble_eq_true rfl) rfl rfl ?_
  refine sF_M_ofWhole h (fun v2 σ2 h => ?_)
  show Wz E Y_M_number 249 [(0, .ref 110), (2, .long x2)] [.long v2, .ref 110] σ2 K
  refine z_lload_n (f := 2) (i := 2) (q := 1) (pc' := 250) ⟨by decide +kernel, rfl⟩ rfl rfl ?_
  refine w_invS (Z := Y_M_ofWhole) (idx := 533) (As := [.long x2]) (rest := [.long v2, .ref 110]) (pc' := 253) cl_13_533 rfl ⟨rfl, rfl⟩ ⟨⟨by decide, by decide⟩, rfl, rfl⟩ ⟨by decide +kernel, rfl⟩ rfl rfl (Nat.le_of_ble_eq_true rfl) rfl rfl ?_
  refine sF_M_ofWhole h (fun v3 σ3 h => ?_)
  show Wz E Y_M_number 253 [(0, .ref 110), (2, .long x2)] [.long v3, .long v2, .ref 110] σ3 K
  refine w_invS (Z := Y_M_over) (idx := 536) (As := [.long v2, .long v3]) (rest := [.ref 110]) (pc' := 256) cl_13_536 rfl ⟨rfl, rfl⟩ ⟨⟨by decide, by decide⟩, rfl, rfl⟩ ⟨by decide +kernel, rfl⟩ rfl rfl (Nat.le_of_ble_eq_true rfl) rfl rfl ?_
  refine sF_M_over h (fun v4 σ4 h => ?_)
  show Wz E Y_M_number 256 [(0, .ref 110), (2, .long x2)] [.long v4, .ref 110] σ4 K
  refine w_putj (k := 110) (j := 31) (idx := 507) (pc' := 259) yfxj_13_507 ykfa_110_31 ⟨by decide +kernel, rfl⟩ ?_
  generalize hs5 : zJ σ4 110 31 v4 = σ5
  have h := h σ5 hs5
  exact z_vret rfl (by decide +kernel) (k _ _ h)
noncomputable def WB_M_number_0 (F0 : zS → (Unit → zS → Prop) → Prop) (F143 : Int32 → Int64 → zS → (Unit → zS → Prop) → Prop)  (σ : zS) (Q : Unit → zS → Prop) : Prop := W_M_byteAt (σ.1 110 27) σ (fun v1 σ1 => W_M_isFigure v1 σ1 (fun v2 σ2 => ((Int32.toInt v2) = 0 → ((-2147483648 ≤ (Int32.toInt (σ2.1 110 27)) - (Int32.toInt (σ2.1 110 29)) ∧ (Int32.toInt (σ2.1 110 27)) - (Int32.toInt (σ2.1 110 29)) ≤ 2147483647) ∧ ∀ r4 : Int32, r4.toInt = (Int32.toInt (σ2.1 110 27)) - (Int32.toInt (σ2.1 110 29)) → (((Int32.toInt r4) ≤ 9 → (W_M_number_b94 F0 F143 2 σ2 Q)) ∧ (¬ (Int32.toInt r4) ≤ 9 → (W_M_number_b94 F0 F143 5 σ2 Q))))) ∧ (¬ (Int32.toInt v2) = 0 → ((-2147483648 ≤ (Int32.toInt (σ2.1 110 27)) - (Int32.toInt (σ2.1 110 29)) ∧ (Int32.toInt (σ2.1 110 27)) - (Int32.toInt (σ2.1 110 29)) ≤ 2147483647) ∧ ∀ r6 : Int32, r6.toInt = (Int32.toInt (σ2.1 110 27)) - (Int32.toInt (σ2.1 110 29)) → ((9 ≤ (Int32.toInt r6) → (∀ σ8 : zS, zJ σ2 110 31 (σ2.2 110 31) = σ8 → ((-2147483648 ≤ (Int32.toInt (σ8.1 110 27)) + 1 ∧ (Int32.toInt (σ8.1 110 27)) + 1 ≤ 2147483647) ∧ ∀ r9 : Int32, r9.toInt = (Int32.toInt (σ8.1 110 27)) + 1 → (∀ σ10 : zS, zI σ8 110 27 r9 = σ10 → (F0  σ10 Q))))) ∧ (¬ 9 ≤ (Int32.toInt r6) → ((-9223372036854775808 ≤ (Int64.toInt (σ2.2 110 31)) * 10 ∧ (Int64.toInt (σ2.2 110 31)) * 10 ≤ 9223372036854775807) ∧ ∀ r11 : Int64, r11.toInt = (Int64.toInt (σ2.2 110 31)) * 10 → (W_M_byteAt (σ2.1 110 27) σ2 (fun v12 σ12 => ∀ r13 : Int64, r13.toInt = (Int32.toInt v12) → ((-9223372036854775808 ≤ (Int64.toInt r11) + (Int64.toInt r13) ∧ (Int64.toInt r11) + (Int64.toInt r13) ≤ 9223372036854775807) ∧ ∀ r14 : Int64, r14.toInt = (Int64.toInt r11) + (Int64.toInt r13) → ((-9223372036854775808 ≤ (Int64.toInt r14) - 48 ∧ (Int64.toInt r14) - 48 ≤ 9223372036854775807) ∧ ∀ r15 : Int64, r15.toInt = (Int64.toInt r14) - 48 → (∀ σ16 : zS, zJ σ12 110 31 r15 = σ16 → ((-2147483648 ≤ (Int32.toInt (σ16.1 110 27)) + 1 ∧ (Int32.toInt (σ16.1 110 27)) + 1 ≤ 2147483647) ∧ ∀ r17 : Int32, r17.toInt = (Int32.toInt (σ16.1 110 27)) + 1 → (∀ σ18 : zS, zI σ16 110 27 r17 = σ18 → (F0  σ18 Q)))))))))))))))
theorem sh_M_number_0 {E : xV} {σ : zS} {K : zKt} {F0 : zS → (Unit → zS → Prop) → Prop} {F143 : Int32 → Int64 → zS → (Unit → zS → Prop) → Prop}  {Q : Unit → zS → Prop} (f0 : ∀  (σ : zS), F0  σ Q → Wz E Y_M_number 0 [(0, .ref 110)] [] σ K) (f143 : ∀ (x1 : Int32) (x2 : Int64) (σ : zS), F143 x1 x2 σ Q → Wz E Y_M_number 143 [(0, .ref 110), (1, .int x1), (2, .long x2)] [] σ K) (k : ∀ v s, Q v s → K none s) (h : WB_M_number_0 F0 F143  σ Q) : Wz E Y_M_number 0 [(0, .ref 110)] [] σ K := by
  unfold WB_M_number_0 at h
  refine z_aload_n (f := 0) (i := 0) (q := 0) (pc' := 1) ⟨by decide +kernel, rfl⟩ rfl rfl ?_
  refine z_aload_n (f := 0) (i := 0) (q := 0) (pc' := 2) ⟨by decide +kernel, rfl⟩ rfl rfl ?_
  refine w_geti (k := 110) (j := 27) (idx := 498) (pc' := 5) yfxe_13_498 ykfa_110_27 ⟨by decide +kernel, rfl⟩ ?_
  refine w_invV (Z := Y_M_byteAt) (idx := 501) (kb := 110) (As := [.int (σ.1 110 27)]) (rest := []) (pc' := 8) cl_13_501 rfl ⟨rfl, rfl⟩ ykfa_110_0 rfl ⟨⟨by decide, by decide⟩, rfl, rfl⟩ ⟨by decide +kernel, rfl⟩ rfl rfl (Nat.le_of_ble_eq_true rfl) rfl rfl ?_
  refine sF_M_byteAt h (fun v1 σ1 h => ?_)
  show Wz E Y_M_number 8 [(0, .ref 110)] [.int v1] σ1 K
  refine w_invS (Z := Y_M_isFigure) (idx := 517) (As := [.int v1]) (rest := []) (pc' := 11) cl_13_517 rfl ⟨rfl, rfl⟩ ⟨⟨by decide, by decide⟩, rfl, rfl⟩ ⟨by decide +kernel, rfl⟩ rfl rfl (Nat.le_of_ble_eq_true rfl) rfl rfl ?_
  refine sF_M_isFigure h (fun v2 σ2 h => ?_)
  show Wz E Y_M_number 11 [(0, .ref 110)] [.int v2] σ2 K
  refine z_if_eq (off := 63) (tgt := 74) (pc' := 14) ⟨by decide +kernel, by decide, rfl⟩ (fun h3 => ?_) (fun h3 => ?_)
  · have h := h.1 (qi_eq_t rfl (by decide) h3)
    refine z_aload_n (f := 0) (i := 0) (q := 0) (pc' := 75) ⟨by decide +kernel, rfl⟩ rfl rfl ?_
    refine z_aload_n (f := 0) (i := 0) (q := 0) (pc' := 76) ⟨by decide +kernel, rfl⟩ rfl rfl ?_
    refine w_geti (k := 110) (j := 27) (idx := 498) (pc' := 79) yfxe_13_498 ykfa_110_27 ⟨by decide +kernel, rfl⟩ ?_
    refine z_aload_n (f := 0) (i := 0) (q := 0) (pc' := 80) ⟨by decide +kernel, rfl⟩ rfl rfl ?_
    refine w_geti (k := 110) (j := 29) (idx := 504) (pc' := 83) yfxe_13_504 ykfa_110_29 ⟨by decide +kernel, rfl⟩ ?_
    refine z_isub (pc' := 84) ⟨by decide +kernel, rfl⟩ ?_
    obtain ⟨hb4, h⟩ := h
    have h := h ((σ2.1 110 27) - (σ2.1 110 29)) (is_ok rfl rfl hb4)
    generalize ((σ2.1 110 27) - (σ2.1 110 29)) = r4 at h ⊢
    refine z_bipush (i := 9) (v := 9) (pc' := 86) ⟨by decide +kernel, rfl⟩ (by decide) ?_
    refine z_icmp_le (off := 7) (tgt := 93) (pc' := 89) ⟨by decide +kernel, by decide, rfl⟩ (fun h5 => ?_) (fun h5 => ?_)
    · have h := h.1 (qi_le_t rfl (by decide) h5)
      refine z_iconst (i := 2) (v := 2) (pc' := 94) ⟨by decide +kernel, rfl⟩ (by decide) ?_
      refine z_sub [0] rfl ?_
      exact sb_M_number_94 f0 f143 k h
    · have h := h.2 (qi_le_f rfl (by decide) h5)
      refine z_iconst (i := 5) (v := 5) (pc' := 90) ⟨by decide +kernel, rfl⟩ (by decide) ?_
      refine z_goto (off := 4) (tgt := 94) (pc' := 93) ⟨by decide +kernel, by decide, rfl⟩ ?_
      refine z_sub [0] rfl ?_
      exact sb_M_number_94 f0 f143 k h
  · have h := h.2 (qi_eq_f rfl (by decide) h3)
    refine z_aload_n (f := 0) (i := 0) (q := 0) (pc' := 15) ⟨by decide +kernel, rfl⟩ rfl rfl ?_
    refine z_aload_n (f := 0) (i := 0) (q := 0) (pc' := 16) ⟨by decide +kernel, rfl⟩ rfl rfl ?_
    refine w_geti (k := 110) (j := 27) (idx := 498) (pc' := 19) yfxe_13_498 ykfa_110_27 ⟨by decide +kernel, rfl⟩ ?_
    refine z_aload_n (f := 0) (i := 0) (q := 0) (pc' := 20) ⟨by decide +kernel, rfl⟩ rfl rfl ?_
    refine w_geti (k := 110) (j := 29) (idx := 504) (pc' := 23) yfxe_13_504 ykfa_110_29 ⟨by decide +kernel, rfl⟩ ?_
    refine z_isub (pc' := 24) ⟨by decide +kernel, rfl⟩ ?_
    obtain ⟨hb6, h⟩ := h
    have h := h ((σ2.1 110 27) - (σ2.1 110 29)) (is_ok rfl rfl hb6)
    generalize ((σ2.1 110 27) - (σ2.1 110 29)) = r6 at h ⊢
    refine z_bipush (i := 9) (v := 9) (pc' := 26) ⟨by decide +kernel, rfl⟩ (by decide) ?_
    refine z_icmp_ge (off := 28) (tgt := 54) (pc' := 29) ⟨by decide +kernel, by decide, rfl⟩ (fun h7 => ?_) (fun h7 => ?_)
    · have h := h.1 (qi_ge_t rfl (by decide) h7)
      refine z_aload_n (f := 0) (i := 0) (q := 0) (pc' := 55) ⟨by decide +kernel, rfl⟩ rfl rfl ?_
      refine w_getj (k := 110) (j := 31) (idx := 507) (pc' := 58) yfxe_13_507 ykfa_110_31 ⟨by decide +kernel, rfl⟩ ?_
      refine w_putj (k := 110) (j := 31) (idx := 507) (pc' := 61) yfxj_13_507 ykfa_110_31 ⟨by decide +kernel, rfl⟩ ?_
      generalize hs8 : zJ σ2 110 31 (σ2.2 110 31) = σ8
      have h := h σ8 hs8
      refine z_aload_n (f := 0) (i := 0) (q := 0) (pc' := 62) ⟨by decide +kernel, rfl⟩ rfl rfl ?_
      refine z_dupr (pc' := 63) ⟨by decide +kernel, rfl⟩ ?_
      refine w_geti (k := 110) (j := 27) (idx := 498) (pc' := 66) yfxe_13_498 ykfa_110_27 ⟨by decide +kernel, rfl⟩ ?_
      refine z_iconst (i := 1) (v := 1) (pc' := 67) ⟨by decide +kernel, rfl⟩ (by decide) ?_
      refine z_iadd (pc' := 68) ⟨by decide +kernel, rfl⟩ ?_
      obtain ⟨hb9, h⟩ := h
      have h := h ((σ8.1 110 27) + 1) (ia_ok rfl (by decide) hb9)
      generalize ((σ8.1 110 27) + 1) = r9 at h ⊢
      refine w_puti (k := 110) (j := 27) (idx := 498) (pc' := 71) yfxi_13_498 ykfa_110_27 ⟨by decide +kernel, rfl⟩ ?_
      generalize hs10 : zI σ8 110 27 r9 = σ10
      have h := h σ10 hs10
      refine z_goto (off := (-71)) (tgt := 0) (pc' := 74) ⟨by decide +kernel, by decide, rfl⟩ ?_
      refine z_sub [0] rfl ?_
      exact f0  _ h
    · have h := h.2 (qi_ge_f rfl (by decide) h7)
      refine z_aload_n (f := 0) (i := 0) (q := 0) (pc' := 30) ⟨by decide +kernel, rfl⟩ rfl rfl ?_
      refine w_getj (k := 110) (j := 31) (idx := 507) (pc' := 33) yfxe_13_507 ykfa_110_31 ⟨by decide +kernel, rfl⟩ ?_
      refine z_ldc2 (i := 529) (v := 10) (pc' := 36) ⟨by decide +kernel, rfl⟩ k_11_121 ?_
      refine z_lmul (pc' := 37) ⟨by decide +kernel, rfl⟩ ?_
      obtain ⟨hb11, h⟩ := h
      have h := h ((σ2.2 110 31) * 10) (iml_ok rfl (by decide) hb11)
      generalize ((σ2.2 110 31) * 10) = r11 at h ⊢
      refine z_aload_n (f := 0) (i := 0) (q := 0) (pc' := 38) ⟨by decide +kernel, rfl⟩ rfl rfl ?_
      refine z_aload_n (f := 0) (i := 0) (q := 0) (pc' := 39) ⟨by decide +kernel, rfl⟩ rfl rfl ?_
      refine w_geti (k := 110) (j := 27) (idx := 498) (pc' := 42) yfxe_13_498 ykfa_110_27 ⟨by decide +kernel, rfl⟩ ?_
      refine w_invV (Z := Y_M_byteAt) (idx := 501) (kb := 110) (As := [.int (σ2.1 110 27)]) (rest := [.long r11, .ref 110]) (pc' := 45) cl_13_501 rfl ⟨rfl, rfl⟩ ykfa_110_0 rfl ⟨⟨by decide, by decide⟩, rfl, rfl⟩ ⟨by decide +kernel, rfl⟩ rfl rfl (Nat.le_of_ble_eq_true rfl) rfl rfl ?_
      refine sF_M_byteAt h (fun v12 σ12 h => ?_)
      show Wz E Y_M_number 45 [(0, .ref 110)] [.int v12, .long r11, .ref 110] σ12 K
      refine z_i2l (v := (Int32.toInt64 v12)) (pc' := 46) ⟨by decide +kernel, rfl⟩ rfl ?_
      have h := h (Int32.toInt64 v12) (Int32.toInt_toInt64 _)
      generalize (Int32.toInt64 v12) = r13 at h ⊢
      refine z_ladd (pc' := 47) ⟨by decide +kernel, rfl⟩ ?_
      obtain ⟨hb14, h⟩ := h
      have h := h (r11 + r13) (ial_ok rfl rfl hb14)
      generalize (r11 + r13) = r14 at h ⊢
      refine z_ldc2 (i := 531) (v := 48) (pc' := 50) ⟨by decide +kernel, rfl⟩ k_11_122 ?_
      refine z_lsub (pc' := 51) ⟨by decide +kernel, rfl⟩ ?_
      obtain ⟨hb15, h⟩ := h
      have h := h (r14 - 48) (isl_ok rfl (by decide) hb15)
      generalize (r14 - 48) = r15 at h ⊢
      refine z_goto (off := 7) (tgt := 58) (pc' := 54) ⟨by decide +kernel, by decide, rfl⟩ ?_
      refine w_putj (k := 110) (j := 31) (idx := 507) (pc' := 61) yfxj_13_507 ykfa_110_31 ⟨by decide +kernel, rfl⟩ ?_
      generalize hs16 : zJ σ12 110 31 r15 = σ16
      have h := h σ16 hs16
      refine z_aload_n (f := 0) (i := 0) (q := 0) (pc' := 62) ⟨by decide +kernel, rfl⟩ rfl rfl ?_
      refine z_dupr (pc' := 63) ⟨by decide +kernel, rfl⟩ ?_
      refine w_geti (k := 110) (j := 27) (idx := 498) (pc' := 66) yfxe_13_498 ykfa_110_27 ⟨by decide +kernel, rfl⟩ ?_
      refine z_iconst (i := 1) (v := 1) (pc' := 67) ⟨by decide +kernel, rfl⟩ (by decide) ?_
      refine z_iadd (pc' := 68) ⟨by decide +kernel, rfl⟩ ?_
      obtain ⟨hb17, h⟩ := h
      have h := h ((σ16.1 110 27) + 1) (ia_ok rfl (by decide) hb17)
      generalize ((σ16.1 110 27) + 1) = r17 at h ⊢
      refine w_puti (k := 110) (j := 27) (idx := 498) (pc' := 71) yfxi_13_498 ykfa_110_27 ⟨by decide +kernel, rfl⟩ ?_
      generalize hs18 : zI σ16 110 27 r17 = σ18
      have h := h σ18 hs18
      refine z_goto (off := (-71)) (tgt := 0) (pc' := 74) ⟨by decide +kernel, by decide, rfl⟩ ?_
      refine z_sub [0] rfl ?_
      exact f0  _ h
noncomputable def WB_M_number_143 (F0 : zS → (Unit → zS → Prop) → Prop) (F143 : Int32 → Int64 → zS → (Unit → zS → Prop) → Prop) (x1 : Int32) (x2 : Int64) (σ : zS) (Q : Unit → zS → Prop) : Prop := W_M_byteAt (σ.1 110 27) σ (fun v1 σ1 => W_M_isFigure v1 σ1 (fun v2 σ2 => ((Int32.toInt v2) = 0 → (((Int32.toInt (σ2.1 110 28)) = 5 → (W_M_number_b238 F0 F143 x2 5 σ2 Q)) ∧ (¬ (Int32.toInt (σ2.1 110 28)) = 5 → ((-2147483648 ≤ (Int32.toInt (σ2.1 110 27)) - (Int32.toInt x1) ∧ (Int32.toInt (σ2.1 110 27)) - (Int32.toInt x1) ≤ 2147483647) ∧ ∀ r5 : Int32, r5.toInt = (Int32.toInt (σ2.1 110 27)) - (Int32.toInt x1) → (((Int32.toInt r5) ≤ 6 → (W_M_number_b238 F0 F143 x2 3 σ2 Q)) ∧ (¬ (Int32.toInt r5) ≤ 6 → (W_M_number_b238 F0 F143 x2 5 σ2 Q))))))) ∧ (¬ (Int32.toInt v2) = 0 → ((-2147483648 ≤ (Int32.toInt (σ2.1 110 27)) - (Int32.toInt x1) ∧ (Int32.toInt (σ2.1 110 27)) - (Int32.toInt x1) ≤ 2147483647) ∧ ∀ r7 : Int32, r7.toInt = (Int32.toInt (σ2.1 110 27)) - (Int32.toInt x1) → ((6 ≤ (Int32.toInt r7) → ((-2147483648 ≤ (Int32.toInt (σ2.1 110 27)) + 1 ∧ (Int32.toInt (σ2.1 110 27)) + 1 ≤ 2147483647) ∧ ∀ r9 : Int32, r9.toInt = (Int32.toInt (σ2.1 110 27)) + 1 → (∀ σ10 : zS, zI σ2 110 27 r9 = σ10 → (F143 x1 x2 σ10 Q)))) ∧ (¬ 6 ≤ (Int32.toInt r7) → ((-9223372036854775808 ≤ (Int64.toInt (σ2.2 110 31)) * 10 ∧ (Int64.toInt (σ2.2 110 31)) * 10 ≤ 9223372036854775807) ∧ ∀ r11 : Int64, r11.toInt = (Int64.toInt (σ2.2 110 31)) * 10 → (W_M_byteAt (σ2.1 110 27) σ2 (fun v12 σ12 => ∀ r13 : Int64, r13.toInt = (Int32.toInt v12) → ((-9223372036854775808 ≤ (Int64.toInt r11) + (Int64.toInt r13) ∧ (Int64.toInt r11) + (Int64.toInt r13) ≤ 9223372036854775807) ∧ ∀ r14 : Int64, r14.toInt = (Int64.toInt r11) + (Int64.toInt r13) → ((-9223372036854775808 ≤ (Int64.toInt r14) - 48 ∧ (Int64.toInt r14) - 48 ≤ 9223372036854775807) ∧ ∀ r15 : Int64, r15.toInt = (Int64.toInt r14) - 48 → (∀ σ16 : zS, zJ σ12 110 31 r15 = σ16 → ((-9223372036854775808 ≤ (Int64.toInt x2) * 10 ∧ (Int64.toInt x2) * 10 ≤ 9223372036854775807) ∧ ∀ r17 : Int64, r17.toInt = (Int64.toInt x2) * 10 → ((-2147483648 ≤ (Int32.toInt (σ16.1 110 27)) + 1 ∧ (Int32.toInt (σ16.1 110 27)) + 1 ≤ 2147483647) ∧ ∀ r18 : Int32, r18.toInt = (Int32.toInt (σ16.1 110 27)) + 1 → (∀ σ19 : zS, zI σ16 110 27 r18 = σ19 → (F143 x1 r17 σ19 Q))))))))))))))))
theorem sh_M_number_143 {E : xV} {σ : zS} {K : zKt} {F0 : zS → (Unit → zS → Prop) → Prop} {F143 : Int32 → Int64 → zS → (Unit → zS → Prop) → Prop} {x1 : Int32} {x2 : Int64} {Q : Unit → zS → Prop} (f0 : ∀  (σ : zS), F0  σ Q → Wz E Y_M_number 0 [(0, .ref 110)] [] σ K) (f143 : ∀ (x1 : Int32) (x2 : Int64) (σ : zS), F143 x1 x2 σ Q → Wz E Y_M_number 143 [(0, .ref 110), (1, .int x1), (2, .long x2)] [] σ K) (k : ∀ v s, Q v s → K none s) (h : WB_M_number_143 F0 F143 x1 x2 σ Q) : Wz E Y_M_number 143 [(0, .ref 110), (1, .int x1), (2, .long x2)] [] σ K := by
  unfold WB_M_number_143 at h
  refine z_aload_n (f := 0) (i := 0) (q := 0) (pc' := 144) ⟨by decide +kernel, rfl⟩ rfl rfl ?_
  refine z_aload_n (f := 0) (i := 0) (q := 0) (pc' := 145) ⟨by decide +kernel, rfl⟩ rfl rfl ?_
  refine w_geti (k := 110) (j := 27) (idx := 498) (pc' := 148) yfxe_13_498 ykfa_110_27 ⟨by decide +kernel, rfl⟩ ?_
  refine w_invV (Z := Y_M_byteAt) (idx := 501) (kb := 110) (As := [.int (σ.1 110 27)]) (rest := []) (pc' := 151) cl_13_501 rfl ⟨rfl, rfl⟩ ykfa_110_0 rfl ⟨⟨by decide, by decide⟩, rfl, rfl⟩ ⟨by decide +kernel, rfl⟩ rfl rfl (Nat.le_of_ble_eq_true rfl) rfl rfl ?_
  refine sF_M_byteAt h (fun v1 σ1 h => ?_)
  show Wz E Y_M_number 151 [(0, .ref 110), (1, .int x1), (2, .long x2)] [.int v1] σ1 K
  refine w_invS (Z := Y_M_isFigure) (idx := 517) (As := [.int v1]) (rest := []) (pc' := 154) cl_13_517 rfl ⟨rfl, rfl⟩ ⟨⟨by decide, by decide⟩, rfl, rfl⟩ ⟨by decide +kernel, rfl⟩ rfl rfl (Nat.le_of_ble_eq_true rfl) rfl rfl ?_
  refine sF_M_isFigure h (fun v2 σ2 h => ?_)
  show Wz E Y_M_number 154 [(0, .ref 110), (1, .int x1), (2, .long x2)] [.int v2] σ2 K
  refine z_if_eq (off := 59) (tgt := 213) (pc' := 157) ⟨by decide +kernel, by decide, rfl⟩ (fun h3 => ?_) (fun h3 => ?_)
  · have h := h.1 (qi_eq_t rfl (by decide) h3)
    refine z_aload_n (f := 0) (i := 0) (q := 0) (pc' := 214) ⟨by decide +kernel, rfl⟩ rfl rfl ?_
    refine z_aload_n (f := 0) (i := 0) (q := 0) (pc' := 215) ⟨by decide +kernel, rfl⟩ rfl rfl ?_
    refine w_geti (k := 110) (j := 28) (idx := 511) (pc' := 218) yfxe_13_511 ykfa_110_28 ⟨by decide +kernel, rfl⟩ ?_
    refine z_iconst (i := 5) (v := 5) (pc' := 219) ⟨by decide +kernel, rfl⟩ (by decide) ?_
    refine z_icmp_eq (off := 14) (tgt := 233) (pc' := 222) ⟨by decide +kernel, by decide, rfl⟩ (fun h4 => ?_) (fun h4 => ?_)
    · have h := h.1 (qi_eq_t rfl (by decide) h4)
      refine z_iconst (i := 5) (v := 5) (pc' := 234) ⟨by decide +kernel, rfl⟩ (by decide) ?_
      refine z_goto (off := 4) (tgt := 238) (pc' := 237) ⟨by decide +kernel, by decide, rfl⟩ ?_
      refine z_sub [0, 2] rfl ?_
      exact sb_M_number_238 f0 f143 k h
    · have h := h.2 (qi_eq_f rfl (by decide) h4)
      refine z_aload_n (f := 0) (i := 0) (q := 0) (pc' := 223) ⟨by decide +kernel, rfl⟩ rfl rfl ?_
      refine w_geti (k := 110) (j := 27) (idx := 498) (pc' := 226) yfxe_13_498 ykfa_110_27 ⟨by decide +kernel, rfl⟩ ?_
      refine z_iload_n (f := 1) (i := 1) (q := 1) (pc' := 227) ⟨by decide +kernel, rfl⟩ rfl rfl ?_
      refine z_isub (pc' := 228) ⟨by decide +kernel, rfl⟩ ?_
      obtain ⟨hb5, h⟩ := h
      have h := h ((σ2.1 110 27) - x1) (is_ok rfl rfl hb5)
      generalize ((σ2.1 110 27) - x1) = r5 at h ⊢
      refine z_bipush (i := 6) (v := 6) (pc' := 230) ⟨by decide +kernel, rfl⟩ (by decide) ?_
      refine z_icmp_le (off := 7) (tgt := 237) (pc' := 233) ⟨by decide +kernel, by decide, rfl⟩ (fun h6 => ?_) (fun h6 => ?_)
      · have h := h.1 (qi_le_t rfl (by decide) h6)
        refine z_iconst (i := 3) (v := 3) (pc' := 238) ⟨by decide +kernel, rfl⟩ (by decide) ?_
        refine z_sub [0, 2] rfl ?_
        exact sb_M_number_238 f0 f143 k h
      · have h := h.2 (qi_le_f rfl (by decide) h6)
        refine z_iconst (i := 5) (v := 5) (pc' := 234) ⟨by decide +kernel, rfl⟩ (by decide) ?_
        refine z_goto (off := 4) (tgt := 238) (pc' := 237) ⟨by decide +kernel, by decide, rfl⟩ ?_
        refine z_sub [0, 2] rfl ?_
        exact sb_M_number_238 f0 f143 k h
  · have h := h.2 (qi_eq_f rfl (by decide) h3)
    refine z_aload_n (f := 0) (i := 0) (q := 0) (pc' := 158) ⟨by decide +kernel, rfl⟩ rfl rfl ?_
    refine w_geti (k := 110) (j := 27) (idx := 498) (pc' := 161) yfxe_13_498 ykfa_110_27 ⟨by decide +kernel, rfl⟩ ?_
    refine z_iload_n (f := 1) (i := 1) (q := 1) (pc' := 162) ⟨by decide +kernel, rfl⟩ rfl rfl ?_
    refine z_isub (pc' := 163) ⟨by decide +kernel, rfl⟩ ?_
    obtain ⟨hb7, h⟩ := h
    have h := h ((σ2.1 110 27) - x1) (is_ok rfl rfl hb7)
    generalize ((σ2.1 110 27) - x1) = r7 at h ⊢
    refine z_bipush (i := 6) (v := 6) (pc' := 165) ⟨by decide +kernel, rfl⟩ (by decide) ?_
    refine z_icmp_ge (off := 35) (tgt := 200) (pc' := 168) ⟨by decide +kernel, by decide, rfl⟩ (fun h8 => ?_) (fun h8 => ?_)
    · have h := h.1 (qi_ge_t rfl (by decide) h8)
      refine z_aload_n (f := 0) (i := 0) (q := 0) (pc' := 201) ⟨by decide +kernel, rfl⟩ rfl rfl ?_
      refine z_dupr (pc' := 202) ⟨by decide +kernel, rfl⟩ ?_
      refine w_geti (k := 110) (j := 27) (idx := 498) (pc' := 205) yfxe_13_498 ykfa_110_27 ⟨by decide +kernel, rfl⟩ ?_
      refine z_iconst (i := 1) (v := 1) (pc' := 206) ⟨by decide +kernel, rfl⟩ (by decide) ?_
      refine z_iadd (pc' := 207) ⟨by decide +kernel, rfl⟩ ?_
      obtain ⟨hb9, h⟩ := h
      have h := h ((σ2.1 110 27) + 1) (ia_ok rfl (by decide) hb9)
      generalize ((σ2.1 110 27) + 1) = r9 at h ⊢
      refine w_puti (k := 110) (j := 27) (idx := 498) (pc' := 210) yfxi_13_498 ykfa_110_27 ⟨by decide +kernel, rfl⟩ ?_
      generalize hs10 : zI σ2 110 27 r9 = σ10
      have h := h σ10 hs10
      refine z_goto (off := (-67)) (tgt := 143) (pc' := 213) ⟨by decide +kernel, by decide, rfl⟩ ?_
      refine z_sub [0, 1, 2] rfl ?_
      exact f143 _ _ _ h
    · have h := h.2 (qi_ge_f rfl (by decide) h8)
      refine z_aload_n (f := 0) (i := 0) (q := 0) (pc' := 169) ⟨by decide +kernel, rfl⟩ rfl rfl ?_
      refine z_aload_n (f := 0) (i := 0) (q := 0) (pc' := 170) ⟨by decide +kernel, rfl⟩ rfl rfl ?_
      refine w_getj (k := 110) (j := 31) (idx := 507) (pc' := 173) yfxe_13_507 ykfa_110_31 ⟨by decide +kernel, rfl⟩ ?_
      refine z_ldc2 (i := 529) (v := 10) (pc' := 176) ⟨by decide +kernel, rfl⟩ k_11_121 ?_
      refine z_lmul (pc' := 177) ⟨by decide +kernel, rfl⟩ ?_
      obtain ⟨hb11, h⟩ := h
      have h := h ((σ2.2 110 31) * 10) (iml_ok rfl (by decide) hb11)
      generalize ((σ2.2 110 31) * 10) = r11 at h ⊢
      refine z_aload_n (f := 0) (i := 0) (q := 0) (pc' := 178) ⟨by decide +kernel, rfl⟩ rfl rfl ?_
      refine z_aload_n (f := 0) (i := 0) (q := 0) (pc' := 179) ⟨by decide +kernel, rfl⟩ rfl rfl ?_
      refine w_geti (k := 110) (j := 27) (idx := 498) (pc' := 182) yfxe_13_498 ykfa_110_27 ⟨by decide +kernel, rfl⟩ ?_
      refine w_invV (Z := Y_M_byteAt) (idx := 501) (kb := 110) (As := [.int (σ2.1 110 27)]) (rest := [.long r11, .ref 110]) (pc' := 185) cl_13_501 rfl ⟨rfl, rfl⟩ ykfa_110_0 rfl ⟨⟨by decide, by decide⟩, rfl, rfl⟩ ⟨by decide +kernel, rfl⟩ rfl rfl (Nat.le_of_ble_eq_true rfl) rfl rfl ?_
      refine sF_M_byteAt h (fun v12 σ12 h => ?_)
      show Wz E Y_M_number 185 [(0, .ref 110), (1, .int x1), (2, .long x2)] [.int v12, .long r11, .ref 110] σ12 K
      refine z_i2l (v := (Int32.toInt64 v12)) (pc' := 186) ⟨by decide +kernel, rfl⟩ rfl ?_
      have h := h (Int32.toInt64 v12) (Int32.toInt_toInt64 _)
      generalize (Int32.toInt64 v12) = r13 at h ⊢
      refine z_ladd (pc' := 187) ⟨by decide +kernel, rfl⟩ ?_
      obtain ⟨hb14, h⟩ := h
      have h := h (r11 + r13) (ial_ok rfl rfl hb14)
      generalize (r11 + r13) = r14 at h ⊢
      refine z_ldc2 (i := 531) (v := 48) (pc' := 190) ⟨by decide +kernel, rfl⟩ k_11_122 ?_
      refine z_lsub (pc' := 191) ⟨by decide +kernel, rfl⟩ ?_
      obtain ⟨hb15, h⟩ := h
      have h := h (r14 - 48) (isl_ok rfl (by decide) hb15)
      generalize (r14 - 48) = r15 at h ⊢
      refine w_putj (k := 110) (j := 31) (idx := 507) (pc' := 194) yfxj_13_507 ykfa_110_31 ⟨by decide +kernel, rfl⟩ ?_
      generalize hs16 : zJ σ12 110 31 r15 = σ16
      have h := h σ16 hs16
      refine z_lload_n (f := 2) (i := 2) (q := 2) (pc' := 195) ⟨by decide +kernel, rfl⟩ rfl rfl ?_
      refine z_ldc2 (i := 529) (v := 10) (pc' := 198) ⟨by decide +kernel, rfl⟩ k_11_121 ?_
      refine z_lmul (pc' := 199) ⟨by decide +kernel, rfl⟩ ?_
      obtain ⟨hb17, h⟩ := h
      have h := h (x2 * 10) (iml_ok rfl (by decide) hb17)
      generalize (x2 * 10) = r17 at h ⊢
      refine z_lstore_n (f := 2) (i := 2) (pc' := 200) ⟨by decide +kernel, rfl⟩ rfl (by decide) rfl ?_
      show Wz E Y_M_number 200 [(2, .long r17), (0, .ref 110), (1, .int x1)] [] σ16 K
      refine z_aload_n (f := 0) (i := 0) (q := 1) (pc' := 201) ⟨by decide +kernel, rfl⟩ rfl rfl ?_
      refine z_dupr (pc' := 202) ⟨by decide +kernel, rfl⟩ ?_
      refine w_geti (k := 110) (j := 27) (idx := 498) (pc' := 205) yfxe_13_498 ykfa_110_27 ⟨by decide +kernel, rfl⟩ ?_
      refine z_iconst (i := 1) (v := 1) (pc' := 206) ⟨by decide +kernel, rfl⟩ (by decide) ?_
      refine z_iadd (pc' := 207) ⟨by decide +kernel, rfl⟩ ?_
      obtain ⟨hb18, h⟩ := h
      have h := h ((σ16.1 110 27) + 1) (ia_ok rfl (by decide) hb18)
      generalize ((σ16.1 110 27) + 1) = r18 at h ⊢
      refine w_puti (k := 110) (j := 27) (idx := 498) (pc' := 210) yfxi_13_498 ykfa_110_27 ⟨by decide +kernel, rfl⟩ ?_
      generalize hs19 : zI σ16 110 27 r18 = σ19
      have h := h σ19 hs19
      refine z_goto (off := (-67)) (tgt := 143) (pc' := 213) ⟨by decide +kernel, by decide, rfl⟩ ?_
      refine z_sub [1, 2, 0] rfl ?_
      exact f143 _ _ _ h
noncomputable def WL_M_number : Nat → (zS → (Unit → zS → Prop) → Prop) × (Int32 → Int64 → zS → (Unit → zS → Prop) → Prop)
  | 0 => (fun _ _ => False, fun _ _ _ _ => False)
  | n + 1 => (WB_M_number_0 (WL_M_number n).1 (WL_M_number n).2, WB_M_number_143 (WL_M_number n).1 (WL_M_number n).2)
theorem wl_M_number_0 {n : Nat}  {σ : zS} {Q : Unit → zS → Prop} (h : WB_M_number_0 (WL_M_number n).1 (WL_M_number n).2  σ Q) : (WL_M_number (n + 1)).1  σ Q := h
theorem wl_M_number_143 {n : Nat} {x1 : Int32} {x2 : Int64} {σ : zS} {Q : Unit → zS → Prop} (h : WB_M_number_143 (WL_M_number n).1 (WL_M_number n).2 x1 x2 σ Q) : (WL_M_number (n + 1)).2 x1 x2 σ Q := h
theorem sl_M_number {E : xV} {K : zKt} {Q : Unit → zS → Prop} (k : ∀ v s, Q v s → K none s) : ∀ n, (∀  (σ : zS), (WL_M_number n).1  σ Q → Wz E Y_M_number 0 [(0, .ref 110)] [] σ K) ∧ (∀ (x1 : Int32) (x2 : Int64) (σ : zS), (WL_M_number n).2 x1 x2 σ Q → Wz E Y_M_number 143 [(0, .ref 110), (1, .int x1), (2, .long x2)] [] σ K)
  | 0 => ⟨fun _ h => h.elim, fun _ _ _ h => h.elim⟩
  | n + 1 => by
    have i := sl_M_number (E := E)  k n
    exact ⟨fun _ h => sh_M_number_0 i.1 i.2 k h, fun _ _ _ h => sh_M_number_143 i.1 i.2 k h⟩
noncomputable def W_M_number  (σ : zS) (Q : Unit → zS → Prop) : Prop := (WL_M_number fuF).1  σ Q
theorem sF_M_number {E : xV} {σ : zS} {K : zKt}  {Q : Unit → zS → Prop} (h : W_M_number  σ Q) (k : ∀ v s, Q v s → K none s) : Cz E Y_M_number [.ref 110] σ K := by
  refine z_entry (by decide) (fun a => by rw [sl_len]; exact Nat.le_of_ble_eq_true rfl) rfl ?_
  unfold W_M_number at h
  refine z_sub [0] rfl ?_
  exact (sl_M_number k fuF).1  _ h
noncomputable def W_M_sign_b52 (x1 : Int32) (x2 : Int32) (σ : zS) (Q : Unit → zS → Prop) : Prop := ((Int32.toInt x1) = 62 → (∀ σ9 : zS, zI σ 110 30 301 = σ9 → ((-2147483648 ≤ (Int32.toInt (σ9.1 110 27)) + 2 ∧ (Int32.toInt (σ9.1 110 27)) + 2 ≤ 2147483647) ∧ ∀ r10 : Int32, r10.toInt = (Int32.toInt (σ9.1 110 27)) + 2 → (∀ σ11 : zS, zI σ9 110 27 r10 = σ11 → (Q () σ11))))) ∧ (¬ (Int32.toInt x1) = 62 → (((Int32.toInt x2) = 61 → (∀ σ6 : zS, zI σ 110 30 300 = σ6 → ((-2147483648 ≤ (Int32.toInt (σ6.1 110 27)) + 2 ∧ (Int32.toInt (σ6.1 110 27)) + 2 ≤ 2147483647) ∧ ∀ r7 : Int32, r7.toInt = (Int32.toInt (σ6.1 110 27)) + 2 → (∀ σ8 : zS, zI σ6 110 27 r7 = σ8 → (Q () σ8))))) ∧ (¬ (Int32.toInt x2) = 61 → (∀ σ3 : zS, zI σ 110 30 302 = σ3 → ((-2147483648 ≤ (Int32.toInt (σ3.1 110 27)) + 2 ∧ (Int32.toInt (σ3.1 110 27)) + 2 ≤ 2147483647) ∧ ∀ r4 : Int32, r4.toInt = (Int32.toInt (σ3.1 110 27)) + 2 → (∀ σ5 : zS, zI σ3 110 27 r4 = σ5 → (Q () σ5)))))))
theorem sb_M_sign_52 {E : xV} {σ : zS} {K : zKt} {x1 : Int32} {x2 : Int32} {Q : Unit → zS → Prop} (k : ∀ v s, Q v s → K none s) (h : W_M_sign_b52 x1 x2 σ Q) : Wz E Y_M_sign 52 [(0, .ref 110), (1, .int x1), (2, .int x2)] [] σ K := by
  unfold W_M_sign_b52 at h
  refine z_aload_n (f := 0) (i := 0) (q := 0) (pc' := 53) ⟨by decide +kernel, rfl⟩ rfl rfl ?_
  refine z_iload_n (f := 1) (i := 1) (q := 1) (pc' := 54) ⟨by decide +kernel, rfl⟩ rfl rfl ?_
  refine z_bipush (i := 62) (v := 62) (pc' := 56) ⟨by decide +kernel, rfl⟩ (by decide) ?_
  refine z_icmp_ne (off := 9) (tgt := 65) (pc' := 59) ⟨by decide +kernel, by decide, rfl⟩ (fun h1 => ?_) (fun h1 => ?_)
  · have h := h.2 (qi_ne_t rfl (by decide) h1)
    refine z_iload_n (f := 2) (i := 2) (q := 2) (pc' := 66) ⟨by decide +kernel, rfl⟩ rfl rfl ?_
    refine z_bipush (i := 61) (v := 61) (pc' := 68) ⟨by decide +kernel, rfl⟩ (by decide) ?_
    refine z_icmp_ne (off := 9) (tgt := 77) (pc' := 71) ⟨by decide +kernel, by decide, rfl⟩ (fun h2 => ?_) (fun h2 => ?_)
    · have h := h.2 (qi_ne_t rfl (by decide) h2)
      refine z_sipush (i := 302) (v := 302) (pc' := 80) ⟨by decide +kernel, rfl⟩ (by decide) ?_
      refine w_puti (k := 110) (j := 30) (idx := 540) (pc' := 83) yfxi_13_540 ykfa_110_30 ⟨by decide +kernel, rfl⟩ ?_
      generalize hs3 : zI σ 110 30 302 = σ3
      have h := h σ3 hs3
      refine z_aload_n (f := 0) (i := 0) (q := 0) (pc' := 84) ⟨by decide +kernel, rfl⟩ rfl rfl ?_
      refine z_dupr (pc' := 85) ⟨by decide +kernel, rfl⟩ ?_
      refine w_geti (k := 110) (j := 27) (idx := 498) (pc' := 88) yfxe_13_498 ykfa_110_27 ⟨by decide +kernel, rfl⟩ ?_
      refine z_iconst (i := 2) (v := 2) (pc' := 89) ⟨by decide +kernel, rfl⟩ (by decide) ?_
      refine z_iadd (pc' := 90) ⟨by decide +kernel, rfl⟩ ?_
      obtain ⟨hb4, h⟩ := h
      have h := h ((σ3.1 110 27) + 2) (ia_ok rfl (by decide) hb4)
      generalize ((σ3.1 110 27) + 2) = r4 at h ⊢
      refine w_puti (k := 110) (j := 27) (idx := 498) (pc' := 93) yfxi_13_498 ykfa_110_27 ⟨by decide +kernel, rfl⟩ ?_
      generalize hs5 : zI σ3 110 27 r4 = σ5
      have h := h σ5 hs5
      exact z_vret rfl (by decide +kernel) (k _ _ h)
    · have h := h.1 (qi_ne_f rfl (by decide) h2)
      refine z_sipush (i := 300) (v := 300) (pc' := 74) ⟨by decide +kernel, rfl⟩ (by decide) ?_
      refine z_goto (off := 6) (tgt := 80) (pc' := 77) ⟨by decide +kernel, by decide, rfl⟩ ?_
      refine w_puti (k := 110) (j := 30) (idx := 540) (pc' := 83) yfxi_13_540 ykfa_110_30 ⟨by decide +kernel, rfl⟩ ?_
      generalize hs6 : zI σ 110 30 300 = σ6
      have h := h σ6 hs6
      refine z_aload_n (f := 0) (i := 0) (q := 0) (pc' := 84) ⟨by decide +kernel, rfl⟩ rfl rfl ?_
      refine z_dupr (pc' := 85) ⟨by decide +kernel, rfl⟩ ?_
      refine w_geti (k := 110) (j := 27) (idx := 498) (pc' := 88) yfxe_13_498 ykfa_110_27 ⟨by decide +kernel, rfl⟩ ?_
      refine z_iconst (i := 2) (v := 2) (pc' := 89) ⟨by decide +kernel, rfl⟩ (by decide) ?_
      refine z_iadd (pc' := 90) ⟨by decide +kernel, rfl⟩ ?_
      obtain ⟨hb7, h⟩ := h
      have h := h ((σ6.1 110 27) + 2) (ia_ok rfl (by decide) hb7)
      generalize ((σ6.1 110 27) + 2) = r7 at h ⊢
      refine w_puti (k := 110) (j := 27) (idx := 498) (pc' := 93) yfxi_13_498 ykfa_110_27 ⟨by decide +kernel, rfl⟩ ?_
      generalize hs8 : zI σ6 110 27 r7 = σ8
      have h := h σ8 hs8
      exact z_vret rfl (by decide +kernel) (k _ _ h)
  · have h := h.1 (qi_ne_f rfl (by decide) h1)
    refine z_sipush (i := 301) (v := 301) (pc' := 62) ⟨by decide +kernel, rfl⟩ (by decide) ?_
    refine z_goto (off := 18) (tgt := 80) (pc' := 65) ⟨by decide +kernel, by decide, rfl⟩ ?_
    refine w_puti (k := 110) (j := 30) (idx := 540) (pc' := 83) yfxi_13_540 ykfa_110_30 ⟨by decide +kernel, rfl⟩ ?_
    generalize hs9 : zI σ 110 30 301 = σ9
    have h := h σ9 hs9
    refine z_aload_n (f := 0) (i := 0) (q := 0) (pc' := 84) ⟨by decide +kernel, rfl⟩ rfl rfl ?_
    refine z_dupr (pc' := 85) ⟨by decide +kernel, rfl⟩ ?_
    refine w_geti (k := 110) (j := 27) (idx := 498) (pc' := 88) yfxe_13_498 ykfa_110_27 ⟨by decide +kernel, rfl⟩ ?_
    refine z_iconst (i := 2) (v := 2) (pc' := 89) ⟨by decide +kernel, rfl⟩ (by decide) ?_
    refine z_iadd (pc' := 90) ⟨by decide +kernel, rfl⟩ ?_
    obtain ⟨hb10, h⟩ := h
    have h := h ((σ9.1 110 27) + 2) (ia_ok rfl (by decide) hb10)
    generalize ((σ9.1 110 27) + 2) = r10 at h ⊢
    refine w_puti (k := 110) (j := 27) (idx := 498) (pc' := 93) yfxi_13_498 ykfa_110_27 ⟨by decide +kernel, rfl⟩ ?_
    generalize hs11 : zI σ9 110 27 r10 = σ11
    have h := h σ11 hs11
    exact z_vret rfl (by decide +kernel) (k _ _ h)
noncomputable def W_M_sign_b194 (x1 : Int32) (y0 : Int32) (σ : zS) (Q : Unit → zS → Prop) : Prop := ∀ σ1 : zS, zI σ 110 28 y0 = σ1 → (∀ σ2 : zS, zI σ1 110 30 x1 = σ2 → ((-2147483648 ≤ (Int32.toInt (σ2.1 110 27)) + 1 ∧ (Int32.toInt (σ2.1 110 27)) + 1 ≤ 2147483647) ∧ ∀ r3 : Int32, r3.toInt = (Int32.toInt (σ2.1 110 27)) + 1 → (∀ σ4 : zS, zI σ2 110 27 r3 = σ4 → (Q () σ4))))
theorem sb_M_sign_194 {E : xV} {σ : zS} {K : zKt} {x1 : Int32} {y0 : Int32} {Q : Unit → zS → Prop} (k : ∀ v s, Q v s → K none s) (h : W_M_sign_b194 x1 y0 σ Q) : Wz E Y_M_sign 194 [(0, .ref 110), (1, .int x1)] [.int y0, .ref 110] σ K := by
  unfold W_M_sign_b194 at h
  refine w_puti (k := 110) (j := 28) (idx := 511) (pc' := 197) yfxi_13_511 ykfa_110_28 ⟨by decide +kernel, rfl⟩ ?_
  generalize hs1 : zI σ 110 28 y0 = σ1
  have h := h σ1 hs1
  refine z_aload_n (f := 0) (i := 0) (q := 0) (pc' := 198) ⟨by decide +kernel, rfl⟩ rfl rfl ?_
  refine z_iload_n (f := 1) (i := 1) (q := 1) (pc' := 199) ⟨by decide +kernel, rfl⟩ rfl rfl ?_
  refine w_puti (k := 110) (j := 30) (idx := 540) (pc' := 202) yfxi_13_540 ykfa_110_30 ⟨by decide +kernel, rfl⟩ ?_
  generalize hs2 : zI σ1 110 30 x1 = σ2
  have h := h σ2 hs2
  refine z_aload_n (f := 0) (i := 0) (q := 0) (pc' := 203) ⟨by decide +kernel, rfl⟩ rfl rfl ?_
  refine z_dupr (pc' := 204) ⟨by decide +kernel, rfl⟩ ?_
  refine w_geti (k := 110) (j := 27) (idx := 498) (pc' := 207) yfxe_13_498 ykfa_110_27 ⟨by decide +kernel, rfl⟩ ?_
  refine z_iconst (i := 1) (v := 1) (pc' := 208) ⟨by decide +kernel, rfl⟩ (by decide) ?_
  refine z_iadd (pc' := 209) ⟨by decide +kernel, rfl⟩ ?_
  obtain ⟨hb3, h⟩ := h
  have h := h ((σ2.1 110 27) + 1) (ia_ok rfl (by decide) hb3)
  generalize ((σ2.1 110 27) + 1) = r3 at h ⊢
  refine w_puti (k := 110) (j := 27) (idx := 498) (pc' := 212) yfxi_13_498 ykfa_110_27 ⟨by decide +kernel, rfl⟩ ?_
  generalize hs4 : zI σ2 110 27 r3 = σ4
  have h := h σ4 hs4
  exact z_vret rfl (by decide +kernel) (k _ _ h)
noncomputable def W_M_sign_b178 (x1 : Int32) (σ : zS) (Q : Unit → zS → Prop) : Prop := W_M_sign_b194  x1 4 σ Q
theorem sb_M_sign_178 {E : xV} {σ : zS} {K : zKt} {x1 : Int32} {Q : Unit → zS → Prop} (k : ∀ v s, Q v s → K none s) (h : W_M_sign_b178 x1 σ Q) : Wz E Y_M_sign 178 [(0, .ref 110), (1, .int x1)] [] σ K := by
  unfold W_M_sign_b178 at h
  refine z_iconst (i := 1) (v := 1) (pc' := 179) ⟨by decide +kernel, rfl⟩ (by decide) ?_
  refine z_goto (off := 4) (tgt := 183) (pc' := 182) ⟨by decide +kernel, by decide, rfl⟩ ?_
  refine z_istore_n (f := 3) (i := 3) (pc' := 184) ⟨by decide +kernel, rfl⟩ rfl (by decide) rfl ?_
  show Wz E Y_M_sign 184 [(3, .int 1), (0, .ref 110), (1, .int x1)] [] σ K
  refine z_aload_n (f := 0) (i := 0) (q := 1) (pc' := 185) ⟨by decide +kernel, rfl⟩ rfl rfl ?_
  refine z_iload_n (f := 3) (i := 3) (q := 0) (pc' := 186) ⟨by decide +kernel, rfl⟩ rfl rfl ?_
  refine z_if_eq (off := 7) (tgt := 193) (pc' := 189) ⟨by decide +kernel, by decide, rfl⟩ (fun h1 => absurd h1 (by decide)) (fun h1 => ?_)
  refine z_iconst (i := 4) (v := 4) (pc' := 190) ⟨by decide +kernel, rfl⟩ (by decide) ?_
  refine z_goto (off := 4) (tgt := 194) (pc' := 193) ⟨by decide +kernel, by decide, rfl⟩ ?_
  refine z_sub [1, 2] rfl ?_
  exact sb_M_sign_194  k h
noncomputable def W_M_sign_b94 (x1 : Int32) (σ : zS) (Q : Unit → zS → Prop) : Prop := ((Int32.toInt x1) = 40 → (W_M_sign_b178  x1 σ Q)) ∧ (¬ (Int32.toInt x1) = 40 → (((Int32.toInt x1) = 41 → (W_M_sign_b178  x1 σ Q)) ∧ (¬ (Int32.toInt x1) = 41 → (((Int32.toInt x1) = 91 → (W_M_sign_b178  x1 σ Q)) ∧ (¬ (Int32.toInt x1) = 91 → (((Int32.toInt x1) = 93 → (W_M_sign_b178  x1 σ Q)) ∧ (¬ (Int32.toInt x1) = 93 → (((Int32.toInt x1) = 43 → (W_M_sign_b178  x1 σ Q)) ∧ (¬ (Int32.toInt x1) = 43 → (((Int32.toInt x1) = 45 → (W_M_sign_b178  x1 σ Q)) ∧ (¬ (Int32.toInt x1) = 45 → (((Int32.toInt x1) = 42 → (W_M_sign_b178  x1 σ Q)) ∧ (¬ (Int32.toInt x1) = 42 → (((Int32.toInt x1) = 47 → (W_M_sign_b178  x1 σ Q)) ∧ (¬ (Int32.toInt x1) = 47 → (((Int32.toInt x1) = 37 → (W_M_sign_b178  x1 σ Q)) ∧ (¬ (Int32.toInt x1) = 37 → (((Int32.toInt x1) = 60 → (W_M_sign_b178  x1 σ Q)) ∧ (¬ (Int32.toInt x1) = 60 → (((Int32.toInt x1) = 62 → (W_M_sign_b178  x1 σ Q)) ∧ (¬ (Int32.toInt x1) = 62 → (((Int32.toInt x1) = 61 → (W_M_sign_b178  x1 σ Q)) ∧ (¬ (Int32.toInt x1) = 61 → (((Int32.toInt x1) = 59 → (W_M_sign_b178  x1 σ Q)) ∧ (¬ (Int32.toInt x1) = 59 → (((Int32.toInt x1) = 46 → (W_M_sign_b178  x1 σ Q)) ∧ (¬ (Int32.toInt x1) = 46 → (W_M_sign_b194  x1 5 σ Q))))))))))))))))))))))))))))
theorem sb_M_sign_94 {E : xV} {σ : zS} {K : zKt} {x1 : Int32} {Q : Unit → zS → Prop} (k : ∀ v s, Q v s → K none s) (h : W_M_sign_b94 x1 σ Q) : Wz E Y_M_sign 94 [(0, .ref 110), (1, .int x1)] [] σ K := by
  unfold W_M_sign_b94 at h
  refine z_iload_n (f := 1) (i := 1) (q := 1) (pc' := 95) ⟨by decide +kernel, rfl⟩ rfl rfl ?_
  refine z_bipush (i := 40) (v := 40) (pc' := 97) ⟨by decide +kernel, rfl⟩ (by decide) ?_
  refine z_icmp_eq (off := 81) (tgt := 178) (pc' := 100) ⟨by decide +kernel, by decide, rfl⟩ (fun h1 => ?_) (fun h1 => ?_)
  · have h := h.1 (qi_eq_t rfl (by decide) h1)
    refine z_sub [0, 1] rfl ?_
    exact sb_M_sign_178  k h
  · have h := h.2 (qi_eq_f rfl (by decide) h1)
    refine z_iload_n (f := 1) (i := 1) (q := 1) (pc' := 101) ⟨by decide +kernel, rfl⟩ rfl rfl ?_
    refine z_bipush (i := 41) (v := 41) (pc' := 103) ⟨by decide +kernel, rfl⟩ (by decide) ?_
    refine z_icmp_eq (off := 75) (tgt := 178) (pc' := 106) ⟨by decide +kernel, by decide, rfl⟩ (fun h2 => ?_) (fun h2 => ?_)
    · have h := h.1 (qi_eq_t rfl (by decide) h2)
      refine z_sub [0, 1] rfl ?_
      exact sb_M_sign_178  k h
    · have h := h.2 (qi_eq_f rfl (by decide) h2)
      refine z_iload_n (f := 1) (i := 1) (q := 1) (pc' := 107) ⟨by decide +kernel, rfl⟩ rfl rfl ?_
      refine z_bipush (i := 91) (v := 91) (pc' := 109) ⟨by decide +kernel, rfl⟩ (by decide) ?_
      refine z_icmp_eq (off := 69) (tgt := 178) (pc' := 112) ⟨by decide +kernel, by decide, rfl⟩ (fun h3 => ?_) (fun h3 => ?_)
      · have h := h.1 (qi_eq_t rfl (by decide) h3)
        refine z_sub [0, 1] rfl ?_
        exact sb_M_sign_178  k h
      · have h := h.2 (qi_eq_f rfl (by decide) h3)
        refine z_iload_n (f := 1) (i := 1) (q := 1) (pc' := 113) ⟨by decide +kernel, rfl⟩ rfl rfl ?_
        refine z_bipush (i := 93) (v := 93) (pc' := 115) ⟨by decide +kernel, rfl⟩ (by decide) ?_
        refine z_icmp_eq (off := 63) (tgt := 178) (pc' := 118) ⟨by decide +kernel, by decide, rfl⟩ (fun h4 => ?_) (fun h4 => ?_)
        · have h := h.1 (qi_eq_t rfl (by decide) h4)
          refine z_sub [0, 1] rfl ?_
          exact sb_M_sign_178  k h
        · have h := h.2 (qi_eq_f rfl (by decide) h4)
          refine z_iload_n (f := 1) (i := 1) (q := 1) (pc' := 119) ⟨by decide +kernel, rfl⟩ rfl rfl ?_
          refine z_bipush (i := 43) (v := 43) (pc' := 121) ⟨by decide +kernel, rfl⟩ (by decide) ?_
          refine z_icmp_eq (off := 57) (tgt := 178) (pc' := 124) ⟨by decide +kernel, by decide, rfl⟩ (fun h5 => ?_) (fun h5 => ?_)
          · have h := h.1 (qi_eq_t rfl (by decide) h5)
            refine z_sub [0, 1] rfl ?_
            exact sb_M_sign_178  k h
          · have h := h.2 (qi_eq_f rfl (by decide) h5)
            refine z_iload_n (f := 1) (i := 1) (q := 1) (pc' := 125) ⟨by decide +kernel, rfl⟩ rfl rfl ?_
            refine z_bipush (i := 45) (v := 45) (pc' := 127) ⟨by decide +kernel, rfl⟩ (by decide) ?_
            refine z_icmp_eq (off := 51) (tgt := 178) (pc' := 130) ⟨by decide +kernel, by decide, rfl⟩ (fun h6 => ?_) (fun h6 => ?_)
            · have h := h.1 (qi_eq_t rfl (by decide) h6)
              refine z_sub [0, 1] rfl ?_
              exact sb_M_sign_178  k h
            · have h := h.2 (qi_eq_f rfl (by decide) h6)
              refine z_iload_n (f := 1) (i := 1) (q := 1) (pc' := 131) ⟨by decide +kernel, rfl⟩ rfl rfl ?_
              refine z_bipush (i := 42) (v := 42) (pc' := 133) ⟨by decide +kernel, rfl⟩ (by decide) ?_
              refine z_icmp_eq (off := 45) (tgt := 178) (pc' := 136) ⟨by decide +kernel, by decide, rfl⟩ (fun h7 => ?_) (fun h7 => ?_)
              · have h := h.1 (qi_eq_t rfl (by decide) h7)
                refine z_sub [0, 1] rfl ?_
                exact sb_M_sign_178  k h
              · have h := h.2 (qi_eq_f rfl (by decide) h7)
                refine z_iload_n (f := 1) (i := 1) (q := 1) (pc' := 137) ⟨by decide +kernel, rfl⟩ rfl rfl ?_
                refine z_bipush (i := 47) (v := 47) (pc' := 139) ⟨by decide +kernel, rfl⟩ (by decide) ?_
                refine z_icmp_eq (off := 39) (tgt := 178) (pc' := 142) ⟨by decide +kernel, by decide, rfl⟩ (fun h8 => ?_) (fun h8 => ?_)
                · have h := h.1 (qi_eq_t rfl (by decide) h8)
                  refine z_sub [0, 1] rfl ?_
                  exact sb_M_sign_178  k h
                · have h := h.2 (qi_eq_f rfl (by decide) h8)
                  refine z_iload_n (f := 1) (i := 1) (q := 1) (pc' := 143) ⟨by decide +kernel, rfl⟩ rfl rfl ?_
                  refine z_bipush (i := 37) (v := 37) (pc' := 145) ⟨by decide +kernel, rfl⟩ (by decide) ?_
                  refine z_icmp_eq (off := 33) (tgt := 178) (pc' := 148) ⟨by decide +kernel, by decide, rfl⟩ (fun h9 => ?_) (fun h9 => ?_)
                  · have h := h.1 (qi_eq_t rfl (by decide) h9)
                    refine z_sub [0, 1] rfl ?_
                    exact sb_M_sign_178  k h
                  · have h := h.2 (qi_eq_f rfl (by decide) h9)
                    refine z_iload_n (f := 1) (i := 1) (q := 1) (pc' := 149) ⟨by decide +kernel, rfl⟩ rfl rfl ?_
                    refine z_bipush (i := 60) (v := 60) (pc' := 151) ⟨by decide +kernel, rfl⟩ (by decide) ?_
                    refine z_icmp_eq (off := 27) (tgt := 178) (pc' := 154) ⟨by decide +kernel, by decide, rfl⟩ (fun h10 => ?_) (fun h10 => ?_)
                    · have h := h.1 (qi_eq_t rfl (by decide) h10)
                      refine z_sub [0, 1] rfl ?_
                      exact sb_M_sign_178  k h
                    · have h := h.2 (qi_eq_f rfl (by decide) h10)
                      refine z_iload_n (f := 1) (i := 1) (q := 1) (pc' := 155) ⟨by decide +kernel, rfl⟩ rfl rfl ?_
                      refine z_bipush (i := 62) (v := 62) (pc' := 157) ⟨by decide +kernel, rfl⟩ (by decide) ?_
                      refine z_icmp_eq (off := 21) (tgt := 178) (pc' := 160) ⟨by decide +kernel, by decide, rfl⟩ (fun h11 => ?_) (fun h11 => ?_)
                      · have h := h.1 (qi_eq_t rfl (by decide) h11)
                        refine z_sub [0, 1] rfl ?_
                        exact sb_M_sign_178  k h
                      · have h := h.2 (qi_eq_f rfl (by decide) h11)
                        refine z_iload_n (f := 1) (i := 1) (q := 1) (pc' := 161) ⟨by decide +kernel, rfl⟩ rfl rfl ?_
                        refine z_bipush (i := 61) (v := 61) (pc' := 163) ⟨by decide +kernel, rfl⟩ (by decide) ?_
                        refine z_icmp_eq (off := 15) (tgt := 178) (pc' := 166) ⟨by decide +kernel, by decide, rfl⟩ (fun h12 => ?_) (fun h12 => ?_)
                        · have h := h.1 (qi_eq_t rfl (by decide) h12)
                          refine z_sub [0, 1] rfl ?_
                          exact sb_M_sign_178  k h
                        · have h := h.2 (qi_eq_f rfl (by decide) h12)
                          refine z_iload_n (f := 1) (i := 1) (q := 1) (pc' := 167) ⟨by decide +kernel, rfl⟩ rfl rfl ?_
                          refine z_bipush (i := 59) (v := 59) (pc' := 169) ⟨by decide +kernel, rfl⟩ (by decide) ?_
                          refine z_icmp_eq (off := 9) (tgt := 178) (pc' := 172) ⟨by decide +kernel, by decide, rfl⟩ (fun h13 => ?_) (fun h13 => ?_)
                          · have h := h.1 (qi_eq_t rfl (by decide) h13)
                            refine z_sub [0, 1] rfl ?_
                            exact sb_M_sign_178  k h
                          · have h := h.2 (qi_eq_f rfl (by decide) h13)
                            refine z_iload_n (f := 1) (i := 1) (q := 1) (pc' := 173) ⟨by decide +kernel, rfl⟩ rfl rfl ?_
                            refine z_bipush (i := 46) (v := 46) (pc' := 175) ⟨by decide +kernel, rfl⟩ (by decide) ?_
                            refine z_icmp_ne (off := 7) (tgt := 182) (pc' := 178) ⟨by decide +kernel, by decide, rfl⟩ (fun h14 => ?_) (fun h14 => ?_)
                            · have h := h.2 (qi_ne_t rfl (by decide) h14)
                              refine z_iconst (i := 0) (v := 0) (pc' := 183) ⟨by decide +kernel, rfl⟩ (by decide) ?_
                              refine z_istore_n (f := 3) (i := 3) (pc' := 184) ⟨by decide +kernel, rfl⟩ rfl (by decide) rfl ?_
                              show Wz E Y_M_sign 184 [(3, .int 0), (0, .ref 110), (1, .int x1)] [] σ K
                              refine z_aload_n (f := 0) (i := 0) (q := 1) (pc' := 185) ⟨by decide +kernel, rfl⟩ rfl rfl ?_
                              refine z_iload_n (f := 3) (i := 3) (q := 0) (pc' := 186) ⟨by decide +kernel, rfl⟩ rfl rfl ?_
                              refine z_if_eq (off := 7) (tgt := 193) (pc' := 189) ⟨by decide +kernel, by decide, rfl⟩ (fun h15 => ?_) (fun h15 => absurd h15 (by decide))
                              refine z_iconst (i := 5) (v := 5) (pc' := 194) ⟨by decide +kernel, rfl⟩ (by decide) ?_
                              refine z_sub [1, 2] rfl ?_
                              exact sb_M_sign_194  k h
                            · have h := h.1 (qi_ne_f rfl (by decide) h14)
                              refine z_sub [0, 1] rfl ?_
                              exact sb_M_sign_178  k h
noncomputable def W_M_sign_b28 (x1 : Int32) (x2 : Int32) (σ : zS) (Q : Unit → zS → Prop) : Prop := ((Int32.toInt x1) = 62 → (((Int32.toInt x2) = 61 → (W_M_sign_b52  x1 x2 σ Q)) ∧ (¬ (Int32.toInt x2) = 61 → (((Int32.toInt x1) = 60 → (((Int32.toInt x2) = 62 → (W_M_sign_b52  x1 x2 σ Q)) ∧ (¬ (Int32.toInt x2) = 62 → (W_M_sign_b94  x1 σ Q)))) ∧ (¬ (Int32.toInt x1) = 60 → (W_M_sign_b94  x1 σ Q)))))) ∧ (¬ (Int32.toInt x1) = 62 → (((Int32.toInt x1) = 60 → (((Int32.toInt x2) = 62 → (W_M_sign_b52  x1 x2 σ Q)) ∧ (¬ (Int32.toInt x2) = 62 → (W_M_sign_b94  x1 σ Q)))) ∧ (¬ (Int32.toInt x1) = 60 → (W_M_sign_b94  x1 σ Q))))
theorem sb_M_sign_28 {E : xV} {σ : zS} {K : zKt} {x1 : Int32} {x2 : Int32} {Q : Unit → zS → Prop} (k : ∀ v s, Q v s → K none s) (h : W_M_sign_b28 x1 x2 σ Q) : Wz E Y_M_sign 28 [(0, .ref 110), (1, .int x1), (2, .int x2)] [] σ K := by
  unfold W_M_sign_b28 at h
  refine z_iload_n (f := 1) (i := 1) (q := 1) (pc' := 29) ⟨by decide +kernel, rfl⟩ rfl rfl ?_
  refine z_bipush (i := 62) (v := 62) (pc' := 31) ⟨by decide +kernel, rfl⟩ (by decide) ?_
  refine z_icmp_ne (off := 9) (tgt := 40) (pc' := 34) ⟨by decide +kernel, by decide, rfl⟩ (fun h1 => ?_) (fun h1 => ?_)
  · have h := h.2 (qi_ne_t rfl (by decide) h1)
    refine z_iload_n (f := 1) (i := 1) (q := 1) (pc' := 41) ⟨by decide +kernel, rfl⟩ rfl rfl ?_
    refine z_bipush (i := 60) (v := 60) (pc' := 43) ⟨by decide +kernel, rfl⟩ (by decide) ?_
    refine z_icmp_ne (off := 51) (tgt := 94) (pc' := 46) ⟨by decide +kernel, by decide, rfl⟩ (fun h2 => ?_) (fun h2 => ?_)
    · have h := h.2 (qi_ne_t rfl (by decide) h2)
      refine z_sub [0, 1] rfl ?_
      exact sb_M_sign_94  k h
    · have h := h.1 (qi_ne_f rfl (by decide) h2)
      refine z_iload_n (f := 2) (i := 2) (q := 2) (pc' := 47) ⟨by decide +kernel, rfl⟩ rfl rfl ?_
      refine z_bipush (i := 62) (v := 62) (pc' := 49) ⟨by decide +kernel, rfl⟩ (by decide) ?_
      refine z_icmp_ne (off := 45) (tgt := 94) (pc' := 52) ⟨by decide +kernel, by decide, rfl⟩ (fun h3 => ?_) (fun h3 => ?_)
      · have h := h.2 (qi_ne_t rfl (by decide) h3)
        refine z_sub [0, 1] rfl ?_
        exact sb_M_sign_94  k h
      · have h := h.1 (qi_ne_f rfl (by decide) h3)
        refine z_sub [0, 1, 2] rfl ?_
        exact sb_M_sign_52  k h
  · have h := h.1 (qi_ne_f rfl (by decide) h1)
    refine z_iload_n (f := 2) (i := 2) (q := 2) (pc' := 35) ⟨by decide +kernel, rfl⟩ rfl rfl ?_
    refine z_bipush (i := 61) (v := 61) (pc' := 37) ⟨by decide +kernel, rfl⟩ (by decide) ?_
    refine z_icmp_eq (off := 15) (tgt := 52) (pc' := 40) ⟨by decide +kernel, by decide, rfl⟩ (fun h4 => ?_) (fun h4 => ?_)
    · have h := h.1 (qi_eq_t rfl (by decide) h4)
      refine z_sub [0, 1, 2] rfl ?_
      exact sb_M_sign_52  k h
    · have h := h.2 (qi_eq_f rfl (by decide) h4)
      refine z_iload_n (f := 1) (i := 1) (q := 1) (pc' := 41) ⟨by decide +kernel, rfl⟩ rfl rfl ?_
      refine z_bipush (i := 60) (v := 60) (pc' := 43) ⟨by decide +kernel, rfl⟩ (by decide) ?_
      refine z_icmp_ne (off := 51) (tgt := 94) (pc' := 46) ⟨by decide +kernel, by decide, rfl⟩ (fun h5 => ?_) (fun h5 => ?_)
      · have h := h.2 (qi_ne_t rfl (by decide) h5)
        refine z_sub [0, 1] rfl ?_
        exact sb_M_sign_94  k h
      · have h := h.1 (qi_ne_f rfl (by decide) h5)
        refine z_iload_n (f := 2) (i := 2) (q := 2) (pc' := 47) ⟨by decide +kernel, rfl⟩ rfl rfl ?_
        refine z_bipush (i := 62) (v := 62) (pc' := 49) ⟨by decide +kernel, rfl⟩ (by decide) ?_
        refine z_icmp_ne (off := 45) (tgt := 94) (pc' := 52) ⟨by decide +kernel, by decide, rfl⟩ (fun h6 => ?_) (fun h6 => ?_)
        · have h := h.2 (qi_ne_t rfl (by decide) h6)
          refine z_sub [0, 1] rfl ?_
          exact sb_M_sign_94  k h
        · have h := h.1 (qi_ne_f rfl (by decide) h6)
          refine z_sub [0, 1, 2] rfl ?_
          exact sb_M_sign_52  k h
noncomputable def W_M_sign (a1 : Int32) (σ : zS) (Q : Unit → zS → Prop) : Prop := (-2147483648 ≤ (Int32.toInt (σ.1 110 27)) + 1 ∧ (Int32.toInt (σ.1 110 27)) + 1 ≤ 2147483647) ∧ ∀ r1 : Int32, r1.toInt = (Int32.toInt (σ.1 110 27)) + 1 → (W_M_byteAt r1 σ (fun v2 σ2 => ∀ σ3 : zS, zI σ2 110 28 4 = σ3 → (((Int32.toInt a1) = 60 → (((Int32.toInt v2) = 61 → (W_M_sign_b52  a1 v2 σ3 Q)) ∧ (¬ (Int32.toInt v2) = 61 → (W_M_sign_b28  a1 v2 σ3 Q)))) ∧ (¬ (Int32.toInt a1) = 60 → (W_M_sign_b28  a1 v2 σ3 Q)))))
theorem sF_M_sign {E : xV} {σ : zS} {K : zKt} {a1 : Int32} {Q : Unit → zS → Prop} (h : W_M_sign a1 σ Q) (k : ∀ v s, Q v s → K none s) : Cz E Y_M_sign [.ref 110, .int a1] σ K := by
  refine z_entry (by decide) (fun a => by rw [sl_len]; exact Nat.le_of_ble_eq_true rfl) rfl ?_
  unfold W_M_sign at h
  refine z_aload_n (f := 0) (i := 0) (q := 0) (pc' := 1) ⟨by decide +kernel, rfl⟩ rfl rfl ?_
  refine z_aload_n (f := 0) (i := 0) (q := 0) (pc' := 2) ⟨by decide +kernel, rfl⟩ rfl rfl ?_
  refine w_geti (k := 110) (j := 27) (idx := 498) (pc' := 5) yfxe_13_498 ykfa_110_27 ⟨by decide +kernel, rfl⟩ ?_
  refine z_iconst (i := 1) (v := 1) (pc' := 6) ⟨by decide +kernel, rfl⟩ (by decide) ?_
  refine z_iadd (pc' := 7) ⟨by decide +kernel, rfl⟩ ?_
  obtain ⟨hb1, h⟩ := h
  have h := h ((σ.1 110 27) + 1) (ia_ok rfl (by decide) hb1)
  generalize ((σ.1 110 27) + 1) = r1 at h ⊢
  refine w_invV (Z := Y_M_byteAt) (idx := 501) (kb := 110) (As := [.int r1]) (rest := []) (pc' := 10) cl_13_501 rfl ⟨rfl, rfl⟩ ykfa_110_0 rfl ⟨⟨by decide, by decide⟩, rfl, rfl⟩ ⟨by decide +kernel, rfl⟩ rfl rfl (Nat.le_of_ble_eq_true rfl) rfl rfl ?_
  refine sF_M_byteAt h (fun v2 σ2 h => ?_)
  show Wz E Y_M_sign 10 [(0, .ref 110), (1, .int a1)] [.int v2] σ2 K
  refine z_istore_n (f := 2) (i := 2) (pc' := 11) ⟨by decide +kernel, rfl⟩ rfl (by decide) rfl ?_
  show Wz E Y_M_sign 11 [(2, .int v2), (0, .ref 110), (1, .int a1)] [] σ2 K
  refine z_aload_n (f := 0) (i := 0) (q := 1) (pc' := 12) ⟨by decide +kernel, rfl⟩ rfl rfl ?_
  refine z_iconst (i := 4) (v := 4) (pc' := 13) ⟨by decide +kernel, rfl⟩ (by decide) ?_
  refine w_puti (k := 110) (j := 28) (idx := 511) (pc' := 16) yfxi_13_511 ykfa_110_28 ⟨by decide +kernel, rfl⟩ ?_
  generalize hs3 : zI σ2 110 28 4 = σ3
  have h := h σ3 hs3
  refine z_iload_n (f := 1) (i := 1) (q := 2) (pc' := 17) ⟨by decide +kernel, rfl⟩ rfl rfl ?_
  refine z_bipush (i := 60) (v := 60) (pc' := 19) ⟨by decide +kernel, rfl⟩ (by decide) ?_
  refine z_icmp_ne (off := 9) (tgt := 28) (pc' := 22) ⟨by decide +kernel, by decide, rfl⟩ (fun h4 => ?_) (fun h4 => ?_)
  · have h := h.2 (qi_ne_t rfl (by decide) h4)
    refine z_sub [1, 2, 0] rfl ?_
    exact sb_M_sign_28  k h
  · have h := h.1 (qi_ne_f rfl (by decide) h4)
    refine z_iload_n (f := 2) (i := 2) (q := 0) (pc' := 23) ⟨by decide +kernel, rfl⟩ rfl rfl ?_
    refine z_bipush (i := 61) (v := 61) (pc' := 25) ⟨by decide +kernel, rfl⟩ (by decide) ?_
    refine z_icmp_eq (off := 27) (tgt := 52) (pc' := 28) ⟨by decide +kernel, by decide, rfl⟩ (fun h5 => ?_) (fun h5 => ?_)
    · have h := h.1 (qi_eq_t rfl (by decide) h5)
      refine z_sub [1, 2, 0] rfl ?_
      exact sb_M_sign_52  k h
    · have h := h.2 (qi_eq_f rfl (by decide) h5)
      refine z_sub [1, 2, 0] rfl ?_
      exact sb_M_sign_28  k h
noncomputable def W_M_token_b113 (F0 : zS → (Unit → zS → Prop) → Prop) (F85 : zS → (Unit → zS → Prop) → Prop)  (σ : zS) (Q : Unit → zS → Prop) : Prop := (-2147483648 ≤ (Int32.toInt (σ.1 110 27)) - (Int32.toInt (σ.1 110 29)) ∧ (Int32.toInt (σ.1 110 27)) - (Int32.toInt (σ.1 110 29)) ≤ 2147483647) ∧ ∀ r1 : Int32, r1.toInt = (Int32.toInt (σ.1 110 27)) - (Int32.toInt (σ.1 110 29)) → ((8 ≤ (Int32.toInt r1) → (∀ σ3 : zS, zJ σ 110 31 (-1) = σ3 → ((-2147483648 ≤ (Int32.toInt (σ3.1 110 27)) + 1 ∧ (Int32.toInt (σ3.1 110 27)) + 1 ≤ 2147483647) ∧ ∀ r4 : Int32, r4.toInt = (Int32.toInt (σ3.1 110 27)) + 1 → (∀ σ5 : zS, zI σ3 110 27 r4 = σ5 → (F85  σ5 Q))))) ∧ (¬ 8 ≤ (Int32.toInt r1) → ((-9223372036854775808 ≤ (Int64.toInt (σ.2 110 31)) * 256 ∧ (Int64.toInt (σ.2 110 31)) * 256 ≤ 9223372036854775807) ∧ ∀ r6 : Int64, r6.toInt = (Int64.toInt (σ.2 110 31)) * 256 → (W_M_byteAt (σ.1 110 27) σ (fun v7 σ7 => ∀ r8 : Int64, r8.toInt = (Int32.toInt v7) → ((-9223372036854775808 ≤ (Int64.toInt r6) + (Int64.toInt r8) ∧ (Int64.toInt r6) + (Int64.toInt r8) ≤ 9223372036854775807) ∧ ∀ r9 : Int64, r9.toInt = (Int64.toInt r6) + (Int64.toInt r8) → (∀ σ10 : zS, zJ σ7 110 31 r9 = σ10 → ((-2147483648 ≤ (Int32.toInt (σ10.1 110 27)) + 1 ∧ (Int32.toInt (σ10.1 110 27)) + 1 ≤ 2147483647) ∧ ∀ r11 : Int32, r11.toInt = (Int32.toInt (σ10.1 110 27)) + 1 → (∀ σ12 : zS, zI σ10 110 27 r11 = σ12 → (F85  σ12 Q))))))))))
theorem sb_M_token_113 {E : xV} {σ : zS} {K : zKt} {F0 : zS → (Unit → zS → Prop) → Prop} {F85 : zS → (Unit → zS → Prop) → Prop}  {Q : Unit → zS → Prop} (f0 : ∀  (σ : zS), F0  σ Q → Wz E Y_M_token 0 [(0, .ref 110)] [] σ K) (f85 : ∀  (σ : zS), F85  σ Q → Wz E Y_M_token 85 [(0, .ref 110)] [] σ K) (k : ∀ v s, Q v s → K none s) (h : W_M_token_b113 F0 F85  σ Q) : Wz E Y_M_token 113 [(0, .ref 110)] [] σ K := by
  unfold W_M_token_b113 at h
  refine z_aload_n (f := 0) (i := 0) (q := 0) (pc' := 114) ⟨by decide +kernel, rfl⟩ rfl rfl ?_
  refine z_aload_n (f := 0) (i := 0) (q := 0) (pc' := 115) ⟨by decide +kernel, rfl⟩ rfl rfl ?_
  refine w_geti (k := 110) (j := 27) (idx := 498) (pc' := 118) yfxe_13_498 ykfa_110_27 ⟨by decide +kernel, rfl⟩ ?_
  refine z_aload_n (f := 0) (i := 0) (q := 0) (pc' := 119) ⟨by decide +kernel, rfl⟩ rfl rfl ?_
  refine w_geti (k := 110) (j := 29) (idx := 504) (pc' := 122) yfxe_13_504 ykfa_110_29 ⟨by decide +kernel, rfl⟩ ?_
  refine z_isub (pc' := 123) ⟨by decide +kernel, rfl⟩ ?_
  obtain ⟨hb1, h⟩ := h
  have h := h ((σ.1 110 27) - (σ.1 110 29)) (is_ok rfl rfl hb1)
  generalize ((σ.1 110 27) - (σ.1 110 29)) = r1 at h ⊢
  refine z_bipush (i := 8) (v := 8) (pc' := 125) ⟨by decide +kernel, rfl⟩ (by decide) ?_
  refine z_icmp_ge (off := 24) (tgt := 149) (pc' := 128) ⟨by decide +kernel, by decide, rfl⟩ (fun h2 => ?_) (fun h2 => ?_)
  · have h := h.1 (qi_ge_t rfl (by decide) h2)
    refine z_ldc2 (i := 392) (v := (-1)) (pc' := 152) ⟨by decide +kernel, rfl⟩ k_11_33 ?_
    refine w_putj (k := 110) (j := 31) (idx := 507) (pc' := 155) yfxj_13_507 ykfa_110_31 ⟨by decide +kernel, rfl⟩ ?_
    generalize hs3 : zJ σ 110 31 (-1) = σ3
    have h := h σ3 hs3
    refine z_aload_n (f := 0) (i := 0) (q := 0) (pc' := 156) ⟨by decide +kernel, rfl⟩ rfl rfl ?_
    refine z_dupr (pc' := 157) ⟨by decide +kernel, rfl⟩ ?_
    refine w_geti (k := 110) (j := 27) (idx := 498) (pc' := 160) yfxe_13_498 ykfa_110_27 ⟨by decide +kernel, rfl⟩ ?_
    refine z_iconst (i := 1) (v := 1) (pc' := 161) ⟨by decide +kernel, rfl⟩ (by decide) ?_
    refine z_iadd (pc' := 162) ⟨by decide +kernel, rfl⟩ ?_
    obtain ⟨hb4, h⟩ := h
    have h := h ((σ3.1 110 27) + 1) (ia_ok rfl (by decide) hb4)
    generalize ((σ3.1 110 27) + 1) = r4 at h ⊢
    refine w_puti (k := 110) (j := 27) (idx := 498) (pc' := 165) yfxi_13_498 ykfa_110_27 ⟨by decide +kernel, rfl⟩ ?_
    generalize hs5 : zI σ3 110 27 r4 = σ5
    have h := h σ5 hs5
    refine z_goto (off := (-80)) (tgt := 85) (pc' := 168) ⟨by decide +kernel, by decide, rfl⟩ ?_
    refine z_sub [0] rfl ?_
    exact f85  _ h
  · have h := h.2 (qi_ge_f rfl (by decide) h2)
    refine z_aload_n (f := 0) (i := 0) (q := 0) (pc' := 129) ⟨by decide +kernel, rfl⟩ rfl rfl ?_
    refine w_getj (k := 110) (j := 31) (idx := 507) (pc' := 132) yfxe_13_507 ykfa_110_31 ⟨by decide +kernel, rfl⟩ ?_
    refine z_ldc2 (i := 520) (v := 256) (pc' := 135) ⟨by decide +kernel, rfl⟩ k_11_116 ?_
    refine z_lmul (pc' := 136) ⟨by decide +kernel, rfl⟩ ?_
    obtain ⟨hb6, h⟩ := h
    have h := h ((σ.2 110 31) * 256) (iml_ok rfl (by decide) hb6)
    generalize ((σ.2 110 31) * 256) = r6 at h ⊢
    refine z_aload_n (f := 0) (i := 0) (q := 0) (pc' := 137) ⟨by decide +kernel, rfl⟩ rfl rfl ?_
    refine z_aload_n (f := 0) (i := 0) (q := 0) (pc' := 138) ⟨by decide +kernel, rfl⟩ rfl rfl ?_
    refine w_geti (k := 110) (j := 27) (idx := 498) (pc' := 141) yfxe_13_498 ykfa_110_27 ⟨by decide +kernel, rfl⟩ ?_
    refine w_invV (Z := Y_M_byteAt) (idx := 501) (kb := 110) (As := [.int (σ.1 110 27)]) (rest := [.long r6, .ref 110]) (pc' := 144) cl_13_501 rfl ⟨rfl, rfl⟩ ykfa_110_0 rfl ⟨⟨by decide, by decide⟩, rfl, rfl⟩ ⟨by decide +kernel, rfl⟩ rfl rfl (Nat.le_of_ble_eq_true rfl) rfl rfl ?_
    refine sF_M_byteAt h (fun v7 σ7 h => ?_)
    show Wz E Y_M_token 144 [(0, .ref 110)] [.int v7, .long r6, .ref 110] σ7 K
    refine z_i2l (v := (Int32.toInt64 v7)) (pc' := 145) ⟨by decide +kernel, rfl⟩ rfl ?_
    have h := h (Int32.toInt64 v7) (Int32.toInt_toInt64 _)
    generalize (Int32.toInt64 v7) = r8 at h ⊢
    refine z_ladd (pc' := 146) ⟨by decide +kernel, rfl⟩ ?_
    obtain ⟨hb9, h⟩ := h
    have h := h (r6 + r8) (ial_ok rfl rfl hb9)
    generalize (r6 + r8) = r9 at h ⊢
    refine z_goto (off := 6) (tgt := 152) (pc' := 149) ⟨by decide +kernel, by decide, rfl⟩ ?_
    refine w_putj (k := 110) (j := 31) (idx := 507) (pc' := 155) yfxj_13_507 ykfa_110_31 ⟨by decide +kernel, rfl⟩ ?_
    generalize hs10 : zJ σ7 110 31 r9 = σ10
    have h := h σ10 hs10
    refine z_aload_n (f := 0) (i := 0) (q := 0) (pc' := 156) ⟨by decide +kernel, rfl⟩ rfl rfl ?_
    refine z_dupr (pc' := 157) ⟨by decide +kernel, rfl⟩ ?_
    refine w_geti (k := 110) (j := 27) (idx := 498) (pc' := 160) yfxe_13_498 ykfa_110_27 ⟨by decide +kernel, rfl⟩ ?_
    refine z_iconst (i := 1) (v := 1) (pc' := 161) ⟨by decide +kernel, rfl⟩ (by decide) ?_
    refine z_iadd (pc' := 162) ⟨by decide +kernel, rfl⟩ ?_
    obtain ⟨hb11, h⟩ := h
    have h := h ((σ10.1 110 27) + 1) (ia_ok rfl (by decide) hb11)
    generalize ((σ10.1 110 27) + 1) = r11 at h ⊢
    refine w_puti (k := 110) (j := 27) (idx := 498) (pc' := 165) yfxi_13_498 ykfa_110_27 ⟨by decide +kernel, rfl⟩ ?_
    generalize hs12 : zI σ10 110 27 r11 = σ12
    have h := h σ12 hs12
    refine z_goto (off := (-80)) (tgt := 85) (pc' := 168) ⟨by decide +kernel, by decide, rfl⟩ ?_
    refine z_sub [0] rfl ?_
    exact f85  _ h
noncomputable def WB_M_token_0 (F0 : zS → (Unit → zS → Prop) → Prop) (F85 : zS → (Unit → zS → Prop) → Prop)  (σ : zS) (Q : Unit → zS → Prop) : Prop := W_M_byteAt (σ.1 110 27) σ (fun v1 σ1 => ((Int32.toInt v1) = 32 → ((-2147483648 ≤ (Int32.toInt (σ1.1 110 27)) + 1 ∧ (Int32.toInt (σ1.1 110 27)) + 1 ≤ 2147483647) ∧ ∀ r3 : Int32, r3.toInt = (Int32.toInt (σ1.1 110 27)) + 1 → (∀ σ4 : zS, zI σ1 110 27 r3 = σ4 → (F0  σ4 Q)))) ∧ (¬ (Int32.toInt v1) = 32 → (W_M_byteAt (σ1.1 110 27) σ1 (fun v5 σ5 => ((Int32.toInt v5) = 10 → ((-2147483648 ≤ (Int32.toInt (σ5.1 110 27)) + 1 ∧ (Int32.toInt (σ5.1 110 27)) + 1 ≤ 2147483647) ∧ ∀ r19 : Int32, r19.toInt = (Int32.toInt (σ5.1 110 27)) + 1 → (∀ σ20 : zS, zI σ5 110 27 r19 = σ20 → (F0  σ20 Q)))) ∧ (¬ (Int32.toInt v5) = 10 → (∀ σ7 : zS, zI σ5 110 29 (σ5.1 110 27) = σ7 → (∀ σ8 : zS, zJ σ7 110 31 0 = σ8 → (W_M_byteAt (σ8.1 110 27) σ8 (fun v9 σ9 => (0 ≤ (Int32.toInt v9) → (W_M_isLetter v9 σ9 (fun v11 σ11 => ((Int32.toInt v11) = 0 → (W_M_isFigure v9 σ11 (fun v13 σ13 => ((Int32.toInt v13) = 0 → (W_M_sign v9 σ13 (fun _ σ15 => Q () σ15))) ∧ (¬ (Int32.toInt v13) = 0 → (W_M_number  σ13 (fun _ σ16 => Q () σ16)))))) ∧ (¬ (Int32.toInt v11) = 0 → (∀ σ17 : zS, zI σ11 110 28 1 = σ17 → (F85  σ17 Q)))))) ∧ (¬ 0 ≤ (Int32.toInt v9) → (∀ σ18 : zS, zI σ9 110 28 0 = σ18 → (Q () σ18))))))))))))
theorem sh_M_token_0 {E : xV} {σ : zS} {K : zKt} {F0 : zS → (Unit → zS → Prop) → Prop} {F85 : zS → (Unit → zS → Prop) → Prop}  {Q : Unit → zS → Prop} (f0 : ∀  (σ : zS), F0  σ Q → Wz E Y_M_token 0 [(0, .ref 110)] [] σ K) (f85 : ∀  (σ : zS), F85  σ Q → Wz E Y_M_token 85 [(0, .ref 110)] [] σ K) (k : ∀ v s, Q v s → K none s) (h : WB_M_token_0 F0 F85  σ Q) : Wz E Y_M_token 0 [(0, .ref 110)] [] σ K := by
  unfold WB_M_token_0 at h
  refine z_aload_n (f := 0) (i := 0) (q := 0) (pc' := 1) ⟨by decide +kernel, rfl⟩ rfl rfl ?_
  refine z_aload_n (f := 0) (i := 0) (q := 0) (pc' := 2) ⟨by decide +kernel, rfl⟩ rfl rfl ?_
  refine w_geti (k := 110) (j := 27) (idx := 498) (pc' := 5) yfxe_13_498 ykfa_110_27 ⟨by decide +kernel, rfl⟩ ?_
  refine w_invV (Z := Y_M_byteAt) (idx := 501) (kb := 110) (As := [.int (σ.1 110 27)]) (rest := []) (pc' := 8) cl_13_501 rfl ⟨rfl, rfl⟩ ykfa_110_0 rfl ⟨⟨by decide, by decide⟩, rfl, rfl⟩ ⟨by decide +kernel, rfl⟩ rfl rfl (Nat.le_of_ble_eq_true rfl) rfl rfl ?_
  refine sF_M_byteAt h (fun v1 σ1 h => ?_)
  show Wz E Y_M_token 8 [(0, .ref 110)] [.int v1] σ1 K
  refine z_bipush (i := 32) (v := 32) (pc' := 10) ⟨by decide +kernel, rfl⟩ (by decide) ?_
  refine z_icmp_eq (off := 16) (tgt := 26) (pc' := 13) ⟨by decide +kernel, by decide, rfl⟩ (fun h2 => ?_) (fun h2 => ?_)
  · have h := h.1 (qi_eq_t rfl (by decide) h2)
    refine z_aload_n (f := 0) (i := 0) (q := 0) (pc' := 27) ⟨by decide +kernel, rfl⟩ rfl rfl ?_
    refine z_dupr (pc' := 28) ⟨by decide +kernel, rfl⟩ ?_
    refine w_geti (k := 110) (j := 27) (idx := 498) (pc' := 31) yfxe_13_498 ykfa_110_27 ⟨by decide +kernel, rfl⟩ ?_
    refine z_iconst (i := 1) (v := 1) (pc' := 32) ⟨by decide +kernel, rfl⟩ (by decide) ?_
    refine z_iadd (pc' := 33) ⟨by decide +kernel, rfl⟩ ?_
    obtain ⟨hb3, h⟩ := h
    have h := h ((σ1.1 110 27) + 1) (ia_ok rfl (by decide) hb3)
    generalize ((σ1.1 110 27) + 1) = r3 at h ⊢
    refine w_puti (k := 110) (j := 27) (idx := 498) (pc' := 36) yfxi_13_498 ykfa_110_27 ⟨by decide +kernel, rfl⟩ ?_
    generalize hs4 : zI σ1 110 27 r3 = σ4
    have h := h σ4 hs4
    refine z_goto (off := (-36)) (tgt := 0) (pc' := 39) ⟨by decide +kernel, by decide, rfl⟩ ?_
    refine z_sub [0] rfl ?_
    exact f0  _ h
  · have h := h.2 (qi_eq_f rfl (by decide) h2)
    refine z_aload_n (f := 0) (i := 0) (q := 0) (pc' := 14) ⟨by decide +kernel, rfl⟩ rfl rfl ?_
    refine z_aload_n (f := 0) (i := 0) (q := 0) (pc' := 15) ⟨by decide +kernel, rfl⟩ rfl rfl ?_
    refine w_geti (k := 110) (j := 27) (idx := 498) (pc' := 18) yfxe_13_498 ykfa_110_27 ⟨by decide +kernel, rfl⟩ ?_
    refine w_invV (Z := Y_M_byteAt) (idx := 501) (kb := 110) (As := [.int (σ1.1 110 27)]) (rest := []) (pc' := 21) cl_13_501 rfl ⟨rfl, rfl⟩ ykfa_110_0 rfl ⟨⟨by decide, by decide⟩, rfl, rfl⟩ ⟨by decide +kernel, rfl⟩ rfl rfl (Nat.le_of_ble_eq_true rfl) rfl rfl ?_
    refine sF_M_byteAt h (fun v5 σ5 h => ?_)
    show Wz E Y_M_token 21 [(0, .ref 110)] [.int v5] σ5 K
    refine z_bipush (i := 10) (v := 10) (pc' := 23) ⟨by decide +kernel, rfl⟩ (by decide) ?_
    refine z_icmp_ne (off := 16) (tgt := 39) (pc' := 26) ⟨by decide +kernel, by decide, rfl⟩ (fun h6 => ?_) (fun h6 => ?_)
    · have h := h.2 (qi_ne_t rfl (by decide) h6)
      refine z_aload_n (f := 0) (i := 0) (q := 0) (pc' := 40) ⟨by decide +kernel, rfl⟩ rfl rfl ?_
      refine z_aload_n (f := 0) (i := 0) (q := 0) (pc' := 41) ⟨by decide +kernel, rfl⟩ rfl rfl ?_
      refine w_geti (k := 110) (j := 27) (idx := 498) (pc' := 44) yfxe_13_498 ykfa_110_27 ⟨by decide +kernel, rfl⟩ ?_
      refine w_puti (k := 110) (j := 29) (idx := 504) (pc' := 47) yfxi_13_504 ykfa_110_29 ⟨by decide +kernel, rfl⟩ ?_
      generalize hs7 : zI σ5 110 29 (σ5.1 110 27) = σ7
      have h := h σ7 hs7
      refine z_aload_n (f := 0) (i := 0) (q := 0) (pc' := 48) ⟨by decide +kernel, rfl⟩ rfl rfl ?_
      refine z_lconst (i := 0) (v := 0) (pc' := 49) ⟨by decide +kernel, rfl⟩ (by decide) ?_
      refine w_putj (k := 110) (j := 31) (idx := 507) (pc' := 52) yfxj_13_507 ykfa_110_31 ⟨by decide +kernel, rfl⟩ ?_
      generalize hs8 : zJ σ7 110 31 0 = σ8
      have h := h σ8 hs8
      refine z_aload_n (f := 0) (i := 0) (q := 0) (pc' := 53) ⟨by decide +kernel, rfl⟩ rfl rfl ?_
      refine z_aload_n (f := 0) (i := 0) (q := 0) (pc' := 54) ⟨by decide +kernel, rfl⟩ rfl rfl ?_
      refine w_geti (k := 110) (j := 27) (idx := 498) (pc' := 57) yfxe_13_498 ykfa_110_27 ⟨by decide +kernel, rfl⟩ ?_
      refine w_invV (Z := Y_M_byteAt) (idx := 501) (kb := 110) (As := [.int (σ8.1 110 27)]) (rest := []) (pc' := 60) cl_13_501 rfl ⟨rfl, rfl⟩ ykfa_110_0 rfl ⟨⟨by decide, by decide⟩, rfl, rfl⟩ ⟨by decide +kernel, rfl⟩ rfl rfl (Nat.le_of_ble_eq_true rfl) rfl rfl ?_
      refine sF_M_byteAt h (fun v9 σ9 h => ?_)
      show Wz E Y_M_token 60 [(0, .ref 110)] [.int v9] σ9 K
      refine z_istore_n (f := 1) (i := 1) (pc' := 61) ⟨by decide +kernel, rfl⟩ rfl (by decide) rfl ?_
      show Wz E Y_M_token 61 [(1, .int v9), (0, .ref 110)] [] σ9 K
      refine z_iload_n (f := 1) (i := 1) (q := 0) (pc' := 62) ⟨by decide +kernel, rfl⟩ rfl rfl ?_
      refine z_if_ge (off := 11) (tgt := 73) (pc' := 65) ⟨by decide +kernel, by decide, rfl⟩ (fun h10 => ?_) (fun h10 => ?_)
      · have h := h.1 (qi_ge_t rfl (by decide) h10)
        refine z_iload_n (f := 1) (i := 1) (q := 0) (pc' := 74) ⟨by decide +kernel, rfl⟩ rfl rfl ?_
        refine w_invS (Z := Y_M_isLetter) (idx := 514) (As := [.int v9]) (rest := []) (pc' := 77) cl_13_514 rfl ⟨rfl, rfl⟩ ⟨⟨by decide, by decide⟩, rfl, rfl⟩ ⟨by decide +kernel, rfl⟩ rfl rfl (Nat.le_of_ble_eq_true rfl) rfl rfl ?_
        refine sF_M_isLetter h (fun v11 σ11 h => ?_)
        show Wz E Y_M_token 77 [(1, .int v9), (0, .ref 110)] [.int v11] σ11 K
        refine z_if_eq (off := 91) (tgt := 168) (pc' := 80) ⟨by decide +kernel, by decide, rfl⟩ (fun h12 => ?_) (fun h12 => ?_)
        · have h := h.1 (qi_eq_t rfl (by decide) h12)
          refine z_iload_n (f := 1) (i := 1) (q := 0) (pc' := 169) ⟨by decide +kernel, rfl⟩ rfl rfl ?_
          refine w_invS (Z := Y_M_isFigure) (idx := 517) (As := [.int v9]) (rest := []) (pc' := 172) cl_13_517 rfl ⟨rfl, rfl⟩ ⟨⟨by decide, by decide⟩, rfl, rfl⟩ ⟨by decide +kernel, rfl⟩ rfl rfl (Nat.le_of_ble_eq_true rfl) rfl rfl ?_
          refine sF_M_isFigure h (fun v13 σ13 h => ?_)
          show Wz E Y_M_token 172 [(1, .int v9), (0, .ref 110)] [.int v13] σ13 K
          refine z_if_eq (off := 10) (tgt := 182) (pc' := 175) ⟨by decide +kernel, by decide, rfl⟩ (fun h14 => ?_) (fun h14 => ?_)
          · have h := h.1 (qi_eq_t rfl (by decide) h14)
            refine z_aload_n (f := 0) (i := 0) (q := 1) (pc' := 183) ⟨by decide +kernel, rfl⟩ rfl rfl ?_
            refine z_iload_n (f := 1) (i := 1) (q := 0) (pc' := 184) ⟨by decide +kernel, rfl⟩ rfl rfl ?_
            refine w_invV (Z := Y_M_sign) (idx := 525) (kb := 110) (As := [.int v9]) (rest := []) (pc' := 187) cl_13_525 rfl ⟨rfl, rfl⟩ ykfa_110_0 rfl ⟨⟨by decide, by decide⟩, rfl, rfl⟩ ⟨by decide +kernel, rfl⟩ rfl rfl (Nat.le_of_ble_eq_true rfl) rfl rfl ?_
            refine sF_M_sign h (fun _ σ15 h => ?_)
            show Wz E Y_M_token 187 [(1, .int v9), (0, .ref 110)] [] σ15 K
            exact z_vret rfl (by decide +kernel) (k _ _ h)
          · have h := h.2 (qi_eq_f rfl (by decide) h14)
            refine z_aload_n (f := 0) (i := 0) (q := 1) (pc' := 176) ⟨by decide +kernel, rfl⟩ rfl rfl ?_
            refine w_invV (Z := Y_M_number) (idx := 522) (kb := 110) (As := []) (rest := []) (pc' := 179) cl_13_522 rfl ⟨rfl, rfl⟩ ykfa_110_0 rfl ⟨⟨by decide, by decide⟩, rfl, rfl⟩ ⟨by decide +kernel, rfl⟩ rfl rfl (Nat.le_of_ble_eq_true rfl) rfl rfl ?_
            refine sF_M_number h (fun _ σ16 h => ?_)
            show Wz E Y_M_token 179 [(1, .int v9), (0, .ref 110)] [] σ16 K
            refine z_goto (off := 8) (tgt := 187) (pc' := 182) ⟨by decide +kernel, by decide, rfl⟩ ?_
            exact z_vret rfl (by decide +kernel) (k _ _ h)
        · have h := h.2 (qi_eq_f rfl (by decide) h12)
          refine z_aload_n (f := 0) (i := 0) (q := 1) (pc' := 81) ⟨by decide +kernel, rfl⟩ rfl rfl ?_
          refine z_iconst (i := 1) (v := 1) (pc' := 82) ⟨by decide +kernel, rfl⟩ (by decide) ?_
          refine w_puti (k := 110) (j := 28) (idx := 511) (pc' := 85) yfxi_13_511 ykfa_110_28 ⟨by decide +kernel, rfl⟩ ?_
          generalize hs17 : zI σ11 110 28 1 = σ17
          have h := h σ17 hs17
          refine z_sub [1] rfl ?_
          exact f85  _ h
      · have h := h.2 (qi_ge_f rfl (by decide) h10)
        refine z_aload_n (f := 0) (i := 0) (q := 1) (pc' := 66) ⟨by decide +kernel, rfl⟩ rfl rfl ?_
        refine z_iconst (i := 0) (v := 0) (pc' := 67) ⟨by decide +kernel, rfl⟩ (by decide) ?_
        refine w_puti (k := 110) (j := 28) (idx := 511) (pc' := 70) yfxi_13_511 ykfa_110_28 ⟨by decide +kernel, rfl⟩ ?_
        generalize hs18 : zI σ9 110 28 0 = σ18
        have h := h σ18 hs18
        refine z_goto (off := 117) (tgt := 187) (pc' := 73) ⟨by decide +kernel, by decide, rfl⟩ ?_
        exact z_vret rfl (by decide +kernel) (k _ _ h)
    · have h := h.1 (qi_ne_f rfl (by decide) h6)
      refine z_aload_n (f := 0) (i := 0) (q := 0) (pc' := 27) ⟨by decide +kernel, rfl⟩ rfl rfl ?_
      refine z_dupr (pc' := 28) ⟨by decide +kernel, rfl⟩ ?_
      refine w_geti (k := 110) (j := 27) (idx := 498) (pc' := 31) yfxe_13_498 ykfa_110_27 ⟨by decide +kernel, rfl⟩ ?_
      refine z_iconst (i := 1) (v := 1) (pc' := 32) ⟨by decide +kernel, rfl⟩ (by decide) ?_
      refine z_iadd (pc' := 33) ⟨by decide +kernel, rfl⟩ ?_
      obtain ⟨hb19, h⟩ := h
      have h := h ((σ5.1 110 27) + 1) (ia_ok rfl (by decide) hb19)
      generalize ((σ5.1 110 27) + 1) = r19 at h ⊢
      refine w_puti (k := 110) (j := 27) (idx := 498) (pc' := 36) yfxi_13_498 ykfa_110_27 ⟨by decide +kernel, rfl⟩ ?_
      generalize hs20 : zI σ5 110 27 r19 = σ20
      have h := h σ20 hs20
      refine z_goto (off := (-36)) (tgt := 0) (pc' := 39) ⟨by decide +kernel, by decide, rfl⟩ ?_
      refine z_sub [0] rfl ?_
      exact f0  _ h

end
