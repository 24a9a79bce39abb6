section
theorem yfxe_11_13 : FxE "RightsHouse$Who" 13 8 3 := fx_e (m := 9) (t := 3) rfl (by decide) (by decide +kernel)
theorem yfxe_11_41 : FxE "RightsHouse$Who" 41 8 2 := fx_e (m := 9) (t := 0) rfl (by decide) (by decide +kernel)
theorem yfxe_13_19 : FxE "RightsHouseModel" 19 11 9 := fx_e (m := 284) (t := 3) rfl (by decide) (by decide +kernel)
theorem yfxe_13_22 : FxE "RightsHouseModel" 22 11 10 := fx_e (m := 284) (t := 3) rfl (by decide) (by decide +kernel)
theorem yfxe_13_25 : FxE "RightsHouseModel" 25 11 11 := fx_e (m := 284) (t := 3) rfl (by decide) (by decide +kernel)
theorem yfxe_13_28 : FxE "RightsHouseModel" 28 11 12 := fx_e (m := 284) (t := 3) rfl (by decide) (by decide +kernel)
theorem yfxe_13_31 : FxE "RightsHouseModel" 31 11 13 := fx_e (m := 284) (t := 3) rfl (by decide) (by decide +kernel)
theorem yfxe_13_34 : FxE "RightsHouseModel" 34 11 14 := fx_e (m := 284) (t := 3) rfl (by decide) (by decide +kernel)
theorem yfxe_13_37 : FxE "RightsHouseModel" 37 11 15 := fx_e (m := 284) (t := 3) rfl (by decide) (by decide +kernel)
theorem yfxe_13_429 : FxE "RightsHouseModel" 429 11 8 := fx_e (m := 284) (t := 0) rfl (by decide) (by decide +kernel)
theorem ykaa_114 : KaA 114 100 201 := ka_a (by decide +kernel)
theorem ykaa_115 : KaA 115 100 201 := ka_a (by decide +kernel)
theorem ykaa_116 : KaA 116 100 201 := ka_a (by decide +kernel)
theorem ykaa_117 : KaA 117 100 201 := ka_a (by decide +kernel)
theorem ykaa_118 : KaA 118 100 201 := ka_a (by decide +kernel)
theorem ykaa_119 : KaA 119 100 201 := ka_a (by decide +kernel)
theorem ykaa_120 : KaA 120 102 16 := ka_a (by decide +kernel)
theorem ykaa_6 : KaA 6 100 1206 := ka_a (by decide +kernel)
theorem ykfa_110_0 : KfA 110 0 11 0 0 := kf_a (by decide) (by decide +kernel)
theorem ykfa_110_10 : KfA 110 10 11 2 115 := kf_a (by decide) (by decide +kernel)
theorem ykfa_110_11 : KfA 110 11 11 2 116 := kf_a (by decide) (by decide +kernel)
theorem ykfa_110_12 : KfA 110 12 11 2 117 := kf_a (by decide) (by decide +kernel)
theorem ykfa_110_13 : KfA 110 13 11 2 118 := kf_a (by decide) (by decide +kernel)
theorem ykfa_110_14 : KfA 110 14 11 2 119 := kf_a (by decide) (by decide +kernel)
theorem ykfa_110_15 : KfA 110 15 11 2 120 := kf_a (by decide) (by decide +kernel)
theorem ykfa_110_8 : KfA 110 8 11 0 0 := kf_a (by decide) (by decide +kernel)
theorem ykfa_110_9 : KfA 110 9 11 2 114 := kf_a (by decide) (by decide +kernel)
theorem ykfa_5_0 : KfA 5 0 8 0 0 := kf_a (by decide) (by decide +kernel)
theorem ykfa_5_2 : KfA 5 2 8 0 0 := kf_a (by decide) (by decide +kernel)
theorem ykfa_5_3 : KfA 5 3 8 2 6 := kf_a (by decide) (by decide +kernel)
noncomputable def W_Wh_isLasting (a1 : Int32) (σ : zS) (Q : Int32 → zS → Prop) : Prop := (-2147483648 ≤ (Int32.toInt a1) * 6 ∧ (Int32.toInt a1) * 6 ≤ 2147483647) ∧ ∀ r1 : Int32, r1.toInt = (Int32.toInt a1) * 6 → ((-2147483648 ≤ (Int32.toInt r1) + 5 ∧ (Int32.toInt r1) + 5 ≤ 2147483647) ∧ ∀ r2 : Int32, r2.toInt = (Int32.toInt r1) + 5 → (∃ n3 : Nat, Int32.toInt r2 = (n3 : Int) ∧ n3 < 1206 ∧ (((Int32.toInt (σ.1 6 n3)) = (-4) → (Q 1 σ)) ∧ (¬ (Int32.toInt (σ.1 6 n3)) = (-4) → (Q 0 σ)))))
theorem sF_Wh_isLasting {E : xV} {σ : zS} {K : zKt} {a1 : Int32} {Q : Int32 → zS → Prop} (h : W_Wh_isLasting a1 σ Q) (k : ∀ v s, Q v s → K (some (.int v)) s) : Cz E Y_Wh_isLasting [.ref 5, .int a1] σ K := by
  refine z_entry (by decide) (fun a => by rw [sl_len]; exact Nat.le_of_ble_eq_true rfl) rfl ?_
  unfold W_Wh_isLasting at h
  refine z_aload_n (f := 0) (i := 0) (q := 0) (pc' := 1) ⟨by decide +kernel, rfl⟩ rfl rfl ?_
  refine w_getr (k := 5) (j := 3) (idx := 13) (pc' := 4) yfxe_11_13 ykfa_5_3 ⟨by decide +kernel, rfl⟩ ?_
  refine z_iload_n (f := 1) (i := 1) (q := 1) (pc' := 5) ⟨by decide +kernel, rfl⟩ rfl rfl ?_
  refine z_bipush (i := 6) (v := 6) (pc' := 7) ⟨by decide +kernel, rfl⟩ (by decide) ?_
  refine z_imul (pc' := 8) ⟨by decide +kernel, rfl⟩ ?_
  obtain ⟨hb1, h⟩ := h
  have h := h (a1 * 6) (im_ok rfl (by decide) hb1)
  generalize (a1 * 6) = r1 at h ⊢
  refine z_iconst (i := 5) (v := 5) (pc' := 9) ⟨by decide +kernel, rfl⟩ (by decide) ?_
  refine z_iadd (pc' := 10) ⟨by decide +kernel, rfl⟩ ?_
  obtain ⟨hb2, h⟩ := h
  have h := h (r1 + 5) (ia_ok rfl (by decide) hb2)
  generalize (r1 + 5) = r2 at h ⊢
  obtain ⟨n3, hi3, hz3, h⟩ := h
  refine w_iald (k := 6) (n := n3) (pc' := 11) ykaa_6 (hi3) (hz3) ⟨by decide +kernel, rfl⟩ ?_
  refine z_bipush (i := (-4)) (v := (-4)) (pc' := 13) ⟨by decide +kernel, rfl⟩ (by decide) ?_
  refine z_icmp_ne (off := 7) (tgt := 20) (pc' := 16) ⟨by decide +kernel, by decide, rfl⟩ (fun h4 => ?_) (fun h4 => ?_)
  · have h := h.2 (qi_ne_t rfl (by decide) h4)
    refine z_iconst (i := 0) (v := 0) (pc' := 21) ⟨by decide +kernel, rfl⟩ (by decide) ?_
    exact z_iret (ty := .boolean) rfl (by rfl) (by decide +kernel) (k _ _ h)
  · have h := h.1 (qi_ne_f rfl (by decide) h4)
    refine z_iconst (i := 1) (v := 1) (pc' := 17) ⟨by decide +kernel, rfl⟩ (by decide) ?_
    refine z_goto (off := 4) (tgt := 21) (pc' := 20) ⟨by decide +kernel, by decide, rfl⟩ ?_
    exact z_iret (ty := .boolean) rfl (by rfl) (by decide +kernel) (k _ _ h)
noncomputable def W_Wh_counts_b48 (x1 : Int32) (x3 : Int32) (x4 : Int32) (y0 : Int32) (σ : zS) (Q : Int32 → zS → Prop) : Prop := ((Int32.toInt y0) = 0 → (Q 0 σ)) ∧ (¬ (Int32.toInt y0) = 0 → ((-2147483648 ≤ (Int32.toInt x4) + 4 ∧ (Int32.toInt x4) + 4 ≤ 2147483647) ∧ ∀ r2 : Int32, r2.toInt = (Int32.toInt x4) + 4 → (∃ n3 : Nat, Int32.toInt r2 = (n3 : Int) ∧ n3 < 1206 ∧ (((Int32.toInt x3) < (Int32.toInt (σ.1 6 n3)) → (Q 0 σ)) ∧ (¬ (Int32.toInt x3) < (Int32.toInt (σ.1 6 n3)) → (W_Wh_isLasting x1 σ (fun v5 σ5 => ((Int32.toInt v5) = 0 → ((-2147483648 ≤ (Int32.toInt x4) + 5 ∧ (Int32.toInt x4) + 5 ≤ 2147483647) ∧ ∀ r7 : Int32, r7.toInt = (Int32.toInt x4) + 5 → (∃ n8 : Nat, Int32.toInt r7 = (n8 : Int) ∧ n8 < 1206 ∧ (((Int32.toInt (σ5.1 6 n8)) ≤ (Int32.toInt x3) → (Q 0 σ5)) ∧ (¬ (Int32.toInt (σ5.1 6 n8)) ≤ (Int32.toInt x3) → (Q 1 σ5)))))) ∧ (¬ (Int32.toInt v5) = 0 → (Q 1 σ5)))))))))
theorem sb_Wh_counts_48 {E : xV} {σ : zS} {K : zKt} {x1 : Int32} {x3 : Int32} {x4 : Int32} {y0 : Int32} {Q : Int32 → zS → Prop} (k : ∀ v s, Q v s → K (some (.int v)) s) (h : W_Wh_counts_b48 x1 x3 x4 y0 σ Q) : Wz E Y_Wh_counts 48 [(0, .ref 5), (1, .int x1), (3, .int x3), (4, .int x4)] [.int y0] σ K := by
  unfold W_Wh_counts_b48 at h
  refine z_istore (i := 5) (pc' := 50) ⟨by decide +kernel, rfl⟩ (by decide) rfl ?_
  show Wz E Y_Wh_counts 50 [(5, .int y0), (0, .ref 5), (1, .int x1), (3, .int x3), (4, .int x4)] [] σ K
  refine z_iload (i := 5) (q := 0) (pc' := 52) ⟨by decide +kernel, rfl⟩ rfl ?_
  refine z_if_eq (off := 41) (tgt := 93) (pc' := 55) ⟨by decide +kernel, by decide, rfl⟩ (fun h1 => ?_) (fun h1 => ?_)
  · have h := h.1 (qi_eq_t rfl (by decide) h1)
    refine z_iconst (i := 0) (v := 0) (pc' := 94) ⟨by decide +kernel, rfl⟩ (by decide) ?_
    exact z_iret (ty := .boolean) rfl (by rfl) (by decide +kernel) (k _ _ h)
  · have h := h.2 (qi_eq_f rfl (by decide) h1)
    refine z_aload_n (f := 0) (i := 0) (q := 1) (pc' := 56) ⟨by decide +kernel, rfl⟩ rfl rfl ?_
    refine w_getr (k := 5) (j := 3) (idx := 13) (pc' := 59) yfxe_11_13 ykfa_5_3 ⟨by decide +kernel, rfl⟩ ?_
    refine z_iload (i := 4) (q := 4) (pc' := 61) ⟨by decide +kernel, rfl⟩ rfl ?_
    refine z_iconst (i := 4) (v := 4) (pc' := 62) ⟨by decide +kernel, rfl⟩ (by decide) ?_
    refine z_iadd (pc' := 63) ⟨by decide +kernel, rfl⟩ ?_
    obtain ⟨hb2, h⟩ := h
    have h := h (x4 + 4) (ia_ok rfl (by decide) hb2)
    generalize (x4 + 4) = r2 at h ⊢
    obtain ⟨n3, hi3, hz3, h⟩ := h
    refine w_iald (k := 6) (n := n3) (pc' := 64) ykaa_6 (hi3) (hz3) ⟨by decide +kernel, rfl⟩ ?_
    refine z_iload_n (f := 3) (i := 3) (q := 3) (pc' := 65) ⟨by decide +kernel, rfl⟩ rfl rfl ?_
    refine z_icmp_gt (off := 28) (tgt := 93) (pc' := 68) ⟨by decide +kernel, by decide, rfl⟩ (fun h4 => ?_) (fun h4 => ?_)
    · have h := h.1 (qi_gt_t rfl rfl h4)
      refine z_iconst (i := 0) (v := 0) (pc' := 94) ⟨by decide +kernel, rfl⟩ (by decide) ?_
      exact z_iret (ty := .boolean) rfl (by rfl) (by decide +kernel) (k _ _ h)
    · have h := h.2 (qi_gt_f rfl rfl h4)
      refine z_aload_n (f := 0) (i := 0) (q := 1) (pc' := 69) ⟨by decide +kernel, rfl⟩ rfl rfl ?_
      refine z_iload_n (f := 1) (i := 1) (q := 2) (pc' := 70) ⟨by decide +kernel, rfl⟩ rfl rfl ?_
      refine w_invV (Z := Y_Wh_isLasting) (idx := 44) (kb := 5) (As := [.int x1]) (rest := []) (pc' := 73) cl_11_44 rfl ⟨rfl, rfl⟩ ykfa_5_0 rfl ⟨⟨by decide, by decide⟩, rfl, rfl⟩ ⟨by decide +kernel, rfl⟩ rfl rfl (Nat.le_of_ble_eq_true rfl) rfl rfl ?_
      refine sF_Wh_isLasting h (fun v5 σ5 h => ?_)
      show Wz E Y_Wh_counts 73 [(5, .int y0), (0, .ref 5), (1, .int x1), (3, .int x3), (4, .int x4)] [.int v5] σ5 K
      refine z_if_ne (off := 16) (tgt := 89) (pc' := 76) ⟨by decide +kernel, by decide, rfl⟩ (fun h6 => ?_) (fun h6 => ?_)
      · have h := h.2 (qi_ne_t rfl (by decide) h6)
        refine z_iconst (i := 1) (v := 1) (pc' := 90) ⟨by decide +kernel, rfl⟩ (by decide) ?_
        refine z_goto (off := 4) (tgt := 94) (pc' := 93) ⟨by decide +kernel, by decide, rfl⟩ ?_
        exact z_iret (ty := .boolean) rfl (by rfl) (by decide +kernel) (k _ _ h)
      · have h := h.1 (qi_ne_f rfl (by decide) h6)
        refine z_iload_n (f := 3) (i := 3) (q := 3) (pc' := 77) ⟨by decide +kernel, rfl⟩ rfl rfl ?_
        refine z_aload_n (f := 0) (i := 0) (q := 1) (pc' := 78) ⟨by decide +kernel, rfl⟩ rfl rfl ?_
        refine w_getr (k := 5) (j := 3) (idx := 13) (pc' := 81) yfxe_11_13 ykfa_5_3 ⟨by decide +kernel, rfl⟩ ?_
        refine z_iload (i := 4) (q := 4) (pc' := 83) ⟨by decide +kernel, rfl⟩ rfl ?_
        refine z_iconst (i := 5) (v := 5) (pc' := 84) ⟨by decide +kernel, rfl⟩ (by decide) ?_
        refine z_iadd (pc' := 85) ⟨by decide +kernel, rfl⟩ ?_
        obtain ⟨hb7, h⟩ := h
        have h := h (x4 + 5) (ia_ok rfl (by decide) hb7)
        generalize (x4 + 5) = r7 at h ⊢
        obtain ⟨n8, hi8, hz8, h⟩ := h
        refine w_iald (k := 6) (n := n8) (pc' := 86) ykaa_6 (hi8) (hz8) ⟨by decide +kernel, rfl⟩ ?_
        refine z_icmp_ge (off := 7) (tgt := 93) (pc' := 89) ⟨by decide +kernel, by decide, rfl⟩ (fun h9 => ?_) (fun h9 => ?_)
        · have h := h.1 (qi_ge_t rfl rfl h9)
          refine z_iconst (i := 0) (v := 0) (pc' := 94) ⟨by decide +kernel, rfl⟩ (by decide) ?_
          exact z_iret (ty := .boolean) rfl (by rfl) (by decide +kernel) (k _ _ h)
        · have h := h.2 (qi_ge_f rfl rfl h9)
          refine z_iconst (i := 1) (v := 1) (pc' := 90) ⟨by decide +kernel, rfl⟩ (by decide) ?_
          refine z_goto (off := 4) (tgt := 94) (pc' := 93) ⟨by decide +kernel, by decide, rfl⟩ ?_
          exact z_iret (ty := .boolean) rfl (by rfl) (by decide +kernel) (k _ _ h)
noncomputable def W_Wh_counts (a1 : Int32) (a2 : Int32) (a3 : Int32) (σ : zS) (Q : Int32 → zS → Prop) : Prop := ((Int32.toInt a2) = (-1) → (W_Wh_isLasting a1 σ (fun v9 σ9 => (v9 = 0 ∨ v9 = 1) ∧ (Q v9 σ9)))) ∧ (¬ (Int32.toInt a2) = (-1) → ((-2147483648 ≤ (Int32.toInt a1) * 6 ∧ (Int32.toInt a1) * 6 ≤ 2147483647) ∧ ∀ r2 : Int32, r2.toInt = (Int32.toInt a1) * 6 → ((-2147483648 ≤ (Int32.toInt r2) + 2 ∧ (Int32.toInt r2) + 2 ≤ 2147483647) ∧ ∀ r3 : Int32, r3.toInt = (Int32.toInt r2) + 2 → (∃ n4 : Nat, Int32.toInt r3 = (n4 : Int) ∧ n4 < 1206 ∧ (((Int32.toInt a2) < (Int32.toInt (σ.1 6 n4)) → (W_Wh_counts_b48  a1 a3 r2 0 σ Q)) ∧ (¬ (Int32.toInt a2) < (Int32.toInt (σ.1 6 n4)) → ((-2147483648 ≤ (Int32.toInt r2) + 3 ∧ (Int32.toInt r2) + 3 ≤ 2147483647) ∧ ∀ r6 : Int32, r6.toInt = (Int32.toInt r2) + 3 → (∃ n7 : Nat, Int32.toInt r6 = (n7 : Int) ∧ n7 < 1206 ∧ (((Int32.toInt (σ.1 6 n7)) ≤ (Int32.toInt a2) → (W_Wh_counts_b48  a1 a3 r2 0 σ Q)) ∧ (¬ (Int32.toInt (σ.1 6 n7)) ≤ (Int32.toInt a2) → (W_Wh_counts_b48  a1 a3 r2 1 σ Q)))))))))))
theorem sF_Wh_counts {E : xV} {σ : zS} {K : zKt} {a1 : Int32} {a2 : Int32} {a3 : Int32} {Q : Int32 → zS → Prop} (h : W_Wh_counts a1 a2 a3 σ Q) (k : ∀ v s, Q v s → K (some (.int v)) s) : Cz E Y_Wh_counts [.ref 5, .int a1, .int a2, .int a3] σ K := by
  refine z_entry (by decide) (fun a => by rw [sl_len]; exact Nat.le_of_ble_eq_true rfl) rfl ?_
  unfold W_Wh_counts at h
  refine z_iload_n (f := 2) (i := 2) (q := 2) (pc' := 1) ⟨by decide +kernel, rfl⟩ rfl rfl ?_
  refine z_iconst (i := (-1)) (v := (-1)) (pc' := 2) ⟨by decide +kernel, rfl⟩ (by decide) ?_
  refine z_icmp_ne (off := 9) (tgt := 11) (pc' := 5) ⟨by decide +kernel, by decide, rfl⟩ (fun h1 => ?_) (fun h1 => ?_)
  · have h := h.2 (qi_ne_t rfl (by decide) h1)
    refine z_iload_n (f := 1) (i := 1) (q := 1) (pc' := 12) ⟨by decide +kernel, rfl⟩ rfl rfl ?_
    refine z_bipush (i := 6) (v := 6) (pc' := 14) ⟨by decide +kernel, rfl⟩ (by decide) ?_
    refine z_imul (pc' := 15) ⟨by decide +kernel, rfl⟩ ?_
    obtain ⟨hb2, h⟩ := h
    have h := h (a1 * 6) (im_ok rfl (by decide) hb2)
    generalize (a1 * 6) = r2 at h ⊢
    refine z_istore (i := 4) (pc' := 17) ⟨by decide +kernel, rfl⟩ (by decide) rfl ?_
    show Wz E Y_Wh_counts 17 [(4, .int r2), (0, .ref 5), (1, .int a1), (2, .int a2), (3, .int a3)] [] σ K
    refine z_aload_n (f := 0) (i := 0) (q := 1) (pc' := 18) ⟨by decide +kernel, rfl⟩ rfl rfl ?_
    refine w_getr (k := 5) (j := 3) (idx := 13) (pc' := 21) yfxe_11_13 ykfa_5_3 ⟨by decide +kernel, rfl⟩ ?_
    refine z_iload (i := 4) (q := 0) (pc' := 23) ⟨by decide +kernel, rfl⟩ rfl ?_
    refine z_iconst (i := 2) (v := 2) (pc' := 24) ⟨by decide +kernel, rfl⟩ (by decide) ?_
    refine z_iadd (pc' := 25) ⟨by decide +kernel, rfl⟩ ?_
    obtain ⟨hb3, h⟩ := h
    have h := h (r2 + 2) (ia_ok rfl (by decide) hb3)
    generalize (r2 + 2) = r3 at h ⊢
    obtain ⟨n4, hi4, hz4, h⟩ := h
    refine w_iald (k := 6) (n := n4) (pc' := 26) ykaa_6 (hi4) (hz4) ⟨by decide +kernel, rfl⟩ ?_
    refine z_iload_n (f := 2) (i := 2) (q := 3) (pc' := 27) ⟨by decide +kernel, rfl⟩ rfl rfl ?_
    refine z_icmp_gt (off := 20) (tgt := 47) (pc' := 30) ⟨by decide +kernel, by decide, rfl⟩ (fun h5 => ?_) (fun h5 => ?_)
    · have h := h.1 (qi_gt_t rfl rfl h5)
      refine z_iconst (i := 0) (v := 0) (pc' := 48) ⟨by decide +kernel, rfl⟩ (by decide) ?_
      refine z_sub [1, 2, 4, 0] rfl ?_
      exact sb_Wh_counts_48  k h
    · have h := h.2 (qi_gt_f rfl rfl h5)
      refine z_iload_n (f := 2) (i := 2) (q := 3) (pc' := 31) ⟨by decide +kernel, rfl⟩ rfl rfl ?_
      refine z_aload_n (f := 0) (i := 0) (q := 1) (pc' := 32) ⟨by decide +kernel, rfl⟩ rfl rfl ?_
      refine w_getr (k := 5) (j := 3) (idx := 13) (pc' := 35) yfxe_11_13 ykfa_5_3 ⟨by decide +kernel, rfl⟩ ?_
      refine z_iload (i := 4) (q := 0) (pc' := 37) ⟨by decide +kernel, rfl⟩ rfl ?_
      refine z_iconst (i := 3) (v := 3) (pc' := 38) ⟨by decide +kernel, rfl⟩ (by decide) ?_
      refine z_iadd (pc' := 39) ⟨by decide +kernel, rfl⟩ ?_
      obtain ⟨hb6, h⟩ := h
      have h := h (r2 + 3) (ia_ok rfl (by decide) hb6)
      generalize (r2 + 3) = r6 at h ⊢
      obtain ⟨n7, hi7, hz7, h⟩ := h
      refine w_iald (k := 6) (n := n7) (pc' := 40) ykaa_6 (hi7) (hz7) ⟨by decide +kernel, rfl⟩ ?_
      refine z_icmp_ge (off := 7) (tgt := 47) (pc' := 43) ⟨by decide +kernel, by decide, rfl⟩ (fun h8 => ?_) (fun h8 => ?_)
      · have h := h.1 (qi_ge_t rfl rfl h8)
        refine z_iconst (i := 0) (v := 0) (pc' := 48) ⟨by decide +kernel, rfl⟩ (by decide) ?_
        refine z_sub [1, 2, 4, 0] rfl ?_
        exact sb_Wh_counts_48  k h
      · have h := h.2 (qi_ge_f rfl rfl h8)
        refine z_iconst (i := 1) (v := 1) (pc' := 44) ⟨by decide +kernel, rfl⟩ (by decide) ?_
        refine z_goto (off := 4) (tgt := 48) (pc' := 47) ⟨by decide +kernel, by decide, rfl⟩ ?_
        refine z_sub [1, 2, 4, 0] rfl ?_
        exact sb_Wh_counts_48  k h
  · have h := h.1 (qi_ne_f rfl (by decide) h1)
    refine z_aload_n (f := 0) (i := 0) (q := 0) (pc' := 6) ⟨by decide +kernel, rfl⟩ rfl rfl ?_
    refine z_iload_n (f := 1) (i := 1) (q := 1) (pc' := 7) ⟨by decide +kernel, rfl⟩ rfl rfl ?_
    refine w_invV (Z := Y_Wh_isLasting) (idx := 44) (kb := 5) (As := [.int a1]) (rest := []) (pc' := 10) cl_11_44 rfl ⟨rfl, rfl⟩ ykfa_5_0 rfl ⟨⟨by decide, by decide⟩, rfl, rfl⟩ ⟨by decide +kernel, rfl⟩ rfl rfl (Nat.le_of_ble_eq_true rfl) rfl rfl ?_
    refine sF_Wh_isLasting h (fun v9 σ9 h => ?_)
    show Wz E Y_Wh_counts 10 [(0, .ref 5), (1, .int a1), (2, .int a2), (3, .int a3)] [.int v9] σ9 K
    obtain ⟨hg10, h⟩ := h
    exact z_iret (ty := .boolean) rfl (j_bool hg10).1 (by decide +kernel) (k _ _ h)
noncomputable def W_Wh_isFromAmong (a1 : Int32) (a2 : Int32) (σ : zS) (Q : Int32 → zS → Prop) : Prop := (-2147483648 ≤ (Int32.toInt a1) * 6 ∧ (Int32.toInt a1) * 6 ≤ 2147483647) ∧ ∀ r1 : Int32, r1.toInt = (Int32.toInt a1) * 6 → ((-2147483648 ≤ (Int32.toInt r1) + 0 ∧ (Int32.toInt r1) + 0 ≤ 2147483647) ∧ ∀ r2 : Int32, r2.toInt = (Int32.toInt r1) + 0 → (∃ n3 : Nat, Int32.toInt r2 = (n3 : Int) ∧ n3 < 1206 ∧ (((Int32.toInt (σ.1 6 n3)) < 100 → (Q 0 σ)) ∧ (¬ (Int32.toInt (σ.1 6 n3)) < 100 → ((-2147483648 ≤ (Int32.toInt (σ.1 6 n3)) - 100 ∧ (Int32.toInt (σ.1 6 n3)) - 100 ≤ 2147483647) ∧ ∀ r5 : Int32, r5.toInt = (Int32.toInt (σ.1 6 n3)) - 100 → (((Int32.toInt ((a2 >>> (r5 &&& 31)) &&& 1)) = 1 → (Q 1 σ)) ∧ (¬ (Int32.toInt ((a2 >>> (r5 &&& 31)) &&& 1)) = 1 → (Q 0 σ))))))))
theorem sF_Wh_isFromAmong {E : xV} {σ : zS} {K : zKt} {a1 : Int32} {a2 : Int32} {Q : Int32 → zS → Prop} (h : W_Wh_isFromAmong a1 a2 σ Q) (k : ∀ v s, Q v s → K (some (.int v)) s) : Cz E Y_Wh_isFromAmong [.ref 5, .int a1, .int a2] σ K := by
  refine z_entry (by decide) (fun a => by rw [sl_len]; exact Nat.le_of_ble_eq_true rfl) rfl ?_
  unfold W_Wh_isFromAmong at h
  refine z_aload_n (f := 0) (i := 0) (q := 0) (pc' := 1) ⟨by decide +kernel, rfl⟩ rfl rfl ?_
  refine w_getr (k := 5) (j := 3) (idx := 13) (pc' := 4) yfxe_11_13 ykfa_5_3 ⟨by decide +kernel, rfl⟩ ?_
  refine z_iload_n (f := 1) (i := 1) (q := 1) (pc' := 5) ⟨by decide +kernel, rfl⟩ rfl rfl ?_
  refine z_bipush (i := 6) (v := 6) (pc' := 7) ⟨by decide +kernel, rfl⟩ (by decide) ?_
  refine z_imul (pc' := 8) ⟨by decide +kernel, rfl⟩ ?_
  obtain ⟨hb1, h⟩ := h
  have h := h (a1 * 6) (im_ok rfl (by decide) hb1)
  generalize (a1 * 6) = r1 at h ⊢
  refine z_iconst (i := 0) (v := 0) (pc' := 9) ⟨by decide +kernel, rfl⟩ (by decide) ?_
  refine z_iadd (pc' := 10) ⟨by decide +kernel, rfl⟩ ?_
  obtain ⟨hb2, h⟩ := h
  have h := h (r1 + 0) (ia_ok rfl (by decide) hb2)
  generalize (r1 + 0) = r2 at h ⊢
  obtain ⟨n3, hi3, hz3, h⟩ := h
  refine w_iald (k := 6) (n := n3) (pc' := 11) ykaa_6 (hi3) (hz3) ⟨by decide +kernel, rfl⟩ ?_
  refine z_istore_n (f := 3) (i := 3) (pc' := 12) ⟨by decide +kernel, rfl⟩ rfl (by decide) rfl ?_
  show Wz E Y_Wh_isFromAmong 12 [(3, .int (σ.1 6 n3)), (0, .ref 5), (1, .int a1), (2, .int a2)] [] σ K
  refine z_iload_n (f := 3) (i := 3) (q := 0) (pc' := 13) ⟨by decide +kernel, rfl⟩ rfl rfl ?_
  refine z_bipush (i := 100) (v := 100) (pc' := 15) ⟨by decide +kernel, rfl⟩ (by decide) ?_
  refine z_icmp_lt (off := 19) (tgt := 34) (pc' := 18) ⟨by decide +kernel, by decide, rfl⟩ (fun h4 => ?_) (fun h4 => ?_)
  · have h := h.1 (qi_lt_t rfl (by decide) h4)
    refine z_iconst (i := 0) (v := 0) (pc' := 35) ⟨by decide +kernel, rfl⟩ (by decide) ?_
    exact z_iret (ty := .boolean) rfl (by rfl) (by decide +kernel) (k _ _ h)
  · have h := h.2 (qi_lt_f rfl (by decide) h4)
    refine z_iload_n (f := 2) (i := 2) (q := 3) (pc' := 19) ⟨by decide +kernel, rfl⟩ rfl rfl ?_
    refine z_iload_n (f := 3) (i := 3) (q := 0) (pc' := 20) ⟨by decide +kernel, rfl⟩ rfl rfl ?_
    refine z_bipush (i := 100) (v := 100) (pc' := 22) ⟨by decide +kernel, rfl⟩ (by decide) ?_
    refine z_isub (pc' := 23) ⟨by decide +kernel, rfl⟩ ?_
    obtain ⟨hb5, h⟩ := h
    have h := h ((σ.1 6 n3) - 100) (is_ok rfl (by decide) hb5)
    generalize ((σ.1 6 n3) - 100) = r5 at h ⊢
    refine z_ishr (pc' := 24) ⟨by decide +kernel, rfl⟩ ?_
    refine z_iconst (i := 1) (v := 1) (pc' := 25) ⟨by decide +kernel, rfl⟩ (by decide) ?_
    refine z_iand (pc' := 26) ⟨by decide +kernel, rfl⟩ ?_
    refine z_iconst (i := 1) (v := 1) (pc' := 27) ⟨by decide +kernel, rfl⟩ (by decide) ?_
    refine z_icmp_ne (off := 7) (tgt := 34) (pc' := 30) ⟨by decide +kernel, by decide, rfl⟩ (fun h6 => ?_) (fun h6 => ?_)
    · have h := h.2 (qi_ne_t rfl (by decide) h6)
      refine z_iconst (i := 0) (v := 0) (pc' := 35) ⟨by decide +kernel, rfl⟩ (by decide) ?_
      exact z_iret (ty := .boolean) rfl (by rfl) (by decide +kernel) (k _ _ h)
    · have h := h.1 (qi_ne_f rfl (by decide) h6)
      refine z_iconst (i := 1) (v := 1) (pc' := 31) ⟨by decide +kernel, rfl⟩ (by decide) ?_
      refine z_goto (off := 4) (tgt := 35) (pc' := 34) ⟨by decide +kernel, by decide, rfl⟩ ?_
      exact z_iret (ty := .boolean) rfl (by rfl) (by decide +kernel) (k _ _ h)
noncomputable def WB_Wh_reachedFrom_6 (F6 : Int32 → Int32 → Int32 → Int32 → zS → (Int32 → zS → Prop) → Prop) (F20 : Int32 → Int32 → Int32 → Int32 → Int32 → Int32 → zS → (Int32 → zS → Prop) → Prop) (x2 : Int32) (x3 : Int32) (x4 : Int32) (x5 : Int32) (σ : zS) (Q : Int32 → zS → Prop) : Prop := (16 ≤ (Int32.toInt x5) → (Q x4 σ)) ∧ (¬ 16 ≤ (Int32.toInt x5) → (F20 x2 x3 x4 x5 x4 0 σ Q))
theorem sh_Wh_reachedFrom_6 {E : xV} {σ : zS} {K : zKt} {F6 : Int32 → Int32 → Int32 → Int32 → zS → (Int32 → zS → Prop) → Prop} {F20 : Int32 → Int32 → Int32 → Int32 → Int32 → Int32 → zS → (Int32 → zS → Prop) → Prop} {x2 : Int32} {x3 : Int32} {x4 : Int32} {x5 : Int32} {Q : Int32 → zS → Prop} (f6 : ∀ (x2 : Int32) (x3 : Int32) (x4 : Int32) (x5 : Int32) (σ : zS), F6 x2 x3 x4 x5 σ Q → Wz E Y_Wh_reachedFrom 6 [(0, .ref 5), (2, .int x2), (3, .int x3), (4, .int x4), (5, .int x5)] [] σ K) (f20 : ∀ (x2 : Int32) (x3 : Int32) (x4 : Int32) (x5 : Int32) (x6 : Int32) (x7 : Int32) (σ : zS), F20 x2 x3 x4 x5 x6 x7 σ Q → Wz E Y_Wh_reachedFrom 20 [(0, .ref 5), (2, .int x2), (3, .int x3), (4, .int x4), (5, .int x5), (6, .int x6), (7, .int x7)] [] σ K) (k : ∀ v s, Q v s → K (some (.int v)) s) (h : WB_Wh_reachedFrom_6 F6 F20 x2 x3 x4 x5 σ Q) : Wz E Y_Wh_reachedFrom 6 [(0, .ref 5), (2, .int x2), (3, .int x3), (4, .int x4), (5, .int x5)] [] σ K := by
  unfold WB_Wh_reachedFrom_6 at h
  refine z_iload (i := 5) (q := 4) (pc' := 8) ⟨by decide +kernel, rfl⟩ rfl ?_
  refine z_bipush (i := 16) (v := 16) (pc' := 10) ⟨by decide +kernel, rfl⟩ (by decide) ?_
  refine z_icmp_ge (off := 82) (tgt := 92) (pc' := 13) ⟨by decide +kernel, by decide, rfl⟩ (fun h1 => ?_) (fun h1 => ?_)
  · have h := h.1 (qi_ge_t rfl (by decide) h1)
    refine z_iload (i := 4) (q := 3) (pc' := 94) ⟨by decide +kernel, rfl⟩ rfl ?_
    exact z_iret (ty := .int) rfl (by rfl) (by decide +kernel) (k _ _ h)
  · have h := h.2 (qi_ge_f rfl (by decide) h1)
    refine z_iload (i := 4) (q := 3) (pc' := 15) ⟨by decide +kernel, rfl⟩ rfl ?_
    refine z_istore (i := 6) (pc' := 17) ⟨by decide +kernel, rfl⟩ (by decide) rfl ?_
    show Wz E Y_Wh_reachedFrom 17 [(6, .int x4), (0, .ref 5), (2, .int x2), (3, .int x3), (4, .int x4), (5, .int x5)] [] σ K
    refine z_iconst (i := 0) (v := 0) (pc' := 18) ⟨by decide +kernel, rfl⟩ (by decide) ?_
    refine z_istore (i := 7) (pc' := 20) ⟨by decide +kernel, rfl⟩ (by decide) rfl ?_
    show Wz E Y_Wh_reachedFrom 20 [(7, .int 0), (6, .int x4), (0, .ref 5), (2, .int x2), (3, .int x3), (4, .int x4), (5, .int x5)] [] σ K
    refine z_sub [2, 3, 4, 5, 6, 1, 0] rfl ?_
    exact f20 _ _ _ _ _ _ _ h
noncomputable def WB_Wh_reachedFrom_20 (F6 : Int32 → Int32 → Int32 → Int32 → zS → (Int32 → zS → Prop) → Prop) (F20 : Int32 → Int32 → Int32 → Int32 → Int32 → Int32 → zS → (Int32 → zS → Prop) → Prop) (x2 : Int32) (x3 : Int32) (x4 : Int32) (x5 : Int32) (x6 : Int32) (x7 : Int32) (σ : zS) (Q : Int32 → zS → Prop) : Prop := ((Int32.toInt (σ.1 5 2)) ≤ (Int32.toInt x7) → (((Int32.toInt x4) = (Int32.toInt x6) → (Q x4 σ)) ∧ (¬ (Int32.toInt x4) = (Int32.toInt x6) → ((-2147483648 ≤ (Int32.toInt x5) + 1 ∧ (Int32.toInt x5) + 1 ≤ 2147483647) ∧ ∀ r3 : Int32, r3.toInt = (Int32.toInt x5) + 1 → (F6 x2 x3 x4 r3 σ Q))))) ∧ (¬ (Int32.toInt (σ.1 5 2)) ≤ (Int32.toInt x7) → (W_Wh_isFromAmong x7 x4 σ (fun v4 σ4 => ((Int32.toInt v4) = 0 → ((-2147483648 ≤ (Int32.toInt x7) + 1 ∧ (Int32.toInt x7) + 1 ≤ 2147483647) ∧ ∀ r6 : Int32, r6.toInt = (Int32.toInt x7) + 1 → (F20 x2 x3 x4 x5 x6 r6 σ4 Q))) ∧ (¬ (Int32.toInt v4) = 0 → (W_Wh_counts x7 x2 x3 σ4 (fun v7 σ7 => ((Int32.toInt v7) = 0 → ((-2147483648 ≤ (Int32.toInt x7) + 1 ∧ (Int32.toInt x7) + 1 ≤ 2147483647) ∧ ∀ r9 : Int32, r9.toInt = (Int32.toInt x7) + 1 → (F20 x2 x3 x4 x5 x6 r9 σ7 Q))) ∧ (¬ (Int32.toInt v7) = 0 → ((-2147483648 ≤ (Int32.toInt x7) * 6 ∧ (Int32.toInt x7) * 6 ≤ 2147483647) ∧ ∀ r10 : Int32, r10.toInt = (Int32.toInt x7) * 6 → ((-2147483648 ≤ (Int32.toInt r10) + 1 ∧ (Int32.toInt r10) + 1 ≤ 2147483647) ∧ ∀ r11 : Int32, r11.toInt = (Int32.toInt r10) + 1 → (∃ n12 : Nat, Int32.toInt r11 = (n12 : Int) ∧ n12 < 1206 ∧ ((-2147483648 ≤ (Int32.toInt x7) + 1 ∧ (Int32.toInt x7) + 1 ≤ 2147483647) ∧ ∀ r13 : Int32, r13.toInt = (Int32.toInt x7) + 1 → (F20 x2 x3 (x4 ||| (1 <<< ((σ7.1 6 n12) &&& 31))) x5 x6 r13 σ7 Q))))))))))))
theorem sh_Wh_reachedFrom_20 {E : xV} {σ : zS} {K : zKt} {F6 : Int32 → Int32 → Int32 → Int32 → zS → (Int32 → zS → Prop) → Prop} {F20 : Int32 → Int32 → Int32 → Int32 → Int32 → Int32 → zS → (Int32 → zS → Prop) → Prop} {x2 : Int32} {x3 : Int32} {x4 : Int32} {x5 : Int32} {x6 : Int32} {x7 : Int32} {Q : Int32 → zS → Prop} (f6 : ∀ (x2 : Int32) (x3 : Int32) (x4 : Int32) (x5 : Int32) (σ : zS), F6 x2 x3 x4 x5 σ Q → Wz E Y_Wh_reachedFrom 6 [(0, .ref 5), (2, .int x2), (3, .int x3), (4, .int x4), (5, .int x5)] [] σ K) (f20 : ∀ (x2 : Int32) (x3 : Int32) (x4 : Int32) (x5 : Int32) (x6 : Int32) (x7 : Int32) (σ : zS), F20 x2 x3 x4 x5 x6 x7 σ Q → Wz E Y_Wh_reachedFrom 20 [(0, .ref 5), (2, .int x2), (3, .int x3), (4, .int x4), (5, .int x5), (6, .int x6), (7, .int x7)] [] σ K) (k : ∀ v s, Q v s → K (some (.int v)) s) (h : WB_Wh_reachedFrom_20 F6 F20 x2 x3 x4 x5 x6 x7 σ Q) : Wz E Y_Wh_reachedFrom 20 [(0, .ref 5), (2, .int x2), (3, .int x3), (4, .int x4), (5, .int x5), (6, .int x6), (7, .int x7)] [] σ K := by
  unfold WB_Wh_reachedFrom_20 at h
  refine z_iload (i := 7) (q := 6) (pc' := 22) ⟨by decide +kernel, rfl⟩ rfl ?_
  refine z_aload_n (f := 0) (i := 0) (q := 0) (pc' := 23) ⟨by decide +kernel, rfl⟩ rfl rfl ?_
  refine w_geti (k := 5) (j := 2) (idx := 41) (pc' := 26) yfxe_11_41 ykfa_5_2 ⟨by decide +kernel, rfl⟩ ?_
  refine z_icmp_ge (off := 50) (tgt := 76) (pc' := 29) ⟨by decide +kernel, by decide, rfl⟩ (fun h1 => ?_) (fun h1 => ?_)
  · have h := h.1 (qi_ge_t rfl rfl h1)
    refine z_iload (i := 4) (q := 3) (pc' := 78) ⟨by decide +kernel, rfl⟩ rfl ?_
    refine z_iload (i := 6) (q := 5) (pc' := 80) ⟨by decide +kernel, rfl⟩ rfl ?_
    refine z_icmp_ne (off := 6) (tgt := 86) (pc' := 83) ⟨by decide +kernel, by decide, rfl⟩ (fun h2 => ?_) (fun h2 => ?_)
    · have h := h.2 (qi_ne_t rfl rfl h2)
      refine z_iinc (i := 5) (z := 1) (q := 4) (pc' := 89) ⟨by decide +kernel, rfl⟩ rfl rfl (by decide) rfl ?_
      show Wz E Y_Wh_reachedFrom 89 [(5, .int (x5 + Int32.ofInt 1)), (0, .ref 5), (2, .int x2), (3, .int x3), (4, .int x4), (6, .int x6), (7, .int x7)] [] σ K
      obtain ⟨hb3, h⟩ := h
      have h := h (x5 + Int32.ofInt 1) (ia_ok rfl (by decide) hb3)
      generalize (x5 + Int32.ofInt 1) = r3 at h ⊢
      refine z_goto (off := (-83)) (tgt := 6) (pc' := 92) ⟨by decide +kernel, by decide, rfl⟩ ?_
      refine z_sub [1, 2, 3, 4, 0] rfl ?_
      exact f6 _ _ _ _ _ h
    · have h := h.1 (qi_ne_f rfl rfl h2)
      refine z_goto (off := 9) (tgt := 92) (pc' := 86) ⟨by decide +kernel, by decide, rfl⟩ ?_
      refine z_iload (i := 4) (q := 3) (pc' := 94) ⟨by decide +kernel, rfl⟩ rfl ?_
      exact z_iret (ty := .int) rfl (by rfl) (by decide +kernel) (k _ _ h)
  · have h := h.2 (qi_ge_f rfl rfl h1)
    refine z_aload_n (f := 0) (i := 0) (q := 0) (pc' := 30) ⟨by decide +kernel, rfl⟩ rfl rfl ?_
    refine z_iload (i := 7) (q := 6) (pc' := 32) ⟨by decide +kernel, rfl⟩ rfl ?_
    refine z_iload (i := 4) (q := 3) (pc' := 34) ⟨by decide +kernel, rfl⟩ rfl ?_
    refine w_invV (Z := Y_Wh_isFromAmong) (idx := 59) (kb := 5) (As := [.int x7, .int x4]) (rest := []) (pc' := 37) cl_11_59 rfl ⟨rfl, rfl⟩ ykfa_5_0 rfl ⟨⟨by decide, by decide⟩, rfl, rfl⟩ ⟨by decide +kernel, rfl⟩ rfl rfl (Nat.le_of_ble_eq_true rfl) rfl rfl ?_
    refine sF_Wh_isFromAmong h (fun v4 σ4 h => ?_)
    show Wz E Y_Wh_reachedFrom 37 [(0, .ref 5), (2, .int x2), (3, .int x3), (4, .int x4), (5, .int x5), (6, .int x6), (7, .int x7)] [.int v4] σ4 K
    refine z_if_eq (off := 33) (tgt := 70) (pc' := 40) ⟨by decide +kernel, by decide, rfl⟩ (fun h5 => ?_) (fun h5 => ?_)
    · have h := h.1 (qi_eq_t rfl (by decide) h5)
      refine z_iinc (i := 7) (z := 1) (q := 6) (pc' := 73) ⟨by decide +kernel, rfl⟩ rfl rfl (by decide) rfl ?_
      show Wz E Y_Wh_reachedFrom 73 [(7, .int (x7 + Int32.ofInt 1)), (0, .ref 5), (2, .int x2), (3, .int x3), (4, .int x4), (5, .int x5), (6, .int x6)] [] σ4 K
      obtain ⟨hb6, h⟩ := h
      have h := h (x7 + Int32.ofInt 1) (ia_ok rfl (by decide) hb6)
      generalize (x7 + Int32.ofInt 1) = r6 at h ⊢
      refine z_goto (off := (-53)) (tgt := 20) (pc' := 76) ⟨by decide +kernel, by decide, rfl⟩ ?_
      refine z_sub [1, 2, 3, 4, 5, 6, 0] rfl ?_
      exact f20 _ _ _ _ _ _ _ h
    · have h := h.2 (qi_eq_f rfl (by decide) h5)
      refine z_aload_n (f := 0) (i := 0) (q := 0) (pc' := 41) ⟨by decide +kernel, rfl⟩ rfl rfl ?_
      refine z_iload (i := 7) (q := 6) (pc' := 43) ⟨by decide +kernel, rfl⟩ rfl ?_
      refine z_iload_n (f := 2) (i := 2) (q := 1) (pc' := 44) ⟨by decide +kernel, rfl⟩ rfl rfl ?_
      refine z_iload_n (f := 3) (i := 3) (q := 2) (pc' := 45) ⟨by decide +kernel, rfl⟩ rfl rfl ?_
      refine w_invV (Z := Y_Wh_counts) (idx := 51) (kb := 5) (As := [.int x7, .int x2, .int x3]) (rest := []) (pc' := 48) cl_11_51 rfl ⟨rfl, rfl⟩ ykfa_5_0 rfl ⟨⟨by decide, by decide⟩, rfl, rfl⟩ ⟨by decide +kernel, rfl⟩ rfl rfl (Nat.le_of_ble_eq_true rfl) rfl rfl ?_
      refine sF_Wh_counts h (fun v7 σ7 h => ?_)
      show Wz E Y_Wh_reachedFrom 48 [(0, .ref 5), (2, .int x2), (3, .int x3), (4, .int x4), (5, .int x5), (6, .int x6), (7, .int x7)] [.int v7] σ7 K
      refine z_if_eq (off := 22) (tgt := 70) (pc' := 51) ⟨by decide +kernel, by decide, rfl⟩ (fun h8 => ?_) (fun h8 => ?_)
      · have h := h.1 (qi_eq_t rfl (by decide) h8)
        refine z_iinc (i := 7) (z := 1) (q := 6) (pc' := 73) ⟨by decide +kernel, rfl⟩ rfl rfl (by decide) rfl ?_
        show Wz E Y_Wh_reachedFrom 73 [(7, .int (x7 + Int32.ofInt 1)), (0, .ref 5), (2, .int x2), (3, .int x3), (4, .int x4), (5, .int x5), (6, .int x6)] [] σ7 K
        obtain ⟨hb9, h⟩ := h
        have h := h (x7 + Int32.ofInt 1) (ia_ok rfl (by decide) hb9)
        generalize (x7 + Int32.ofInt 1) = r9 at h ⊢
        refine z_goto (off := (-53)) (tgt := 20) (pc' := 76) ⟨by decide +kernel, by decide, rfl⟩ ?_
        refine z_sub [1, 2, 3, 4, 5, 6, 0] rfl ?_
        exact f20 _ _ _ _ _ _ _ h
      · have h := h.2 (qi_eq_f rfl (by decide) h8)
        refine z_iload (i := 4) (q := 3) (pc' := 53) ⟨by decide +kernel, rfl⟩ rfl ?_
        refine z_iconst (i := 1) (v := 1) (pc' := 54) ⟨by decide +kernel, rfl⟩ (by decide) ?_
        refine z_aload_n (f := 0) (i := 0) (q := 0) (pc' := 55) ⟨by decide +kernel, rfl⟩ rfl rfl ?_
        refine w_getr (k := 5) (j := 3) (idx := 13) (pc' := 58) yfxe_11_13 ykfa_5_3 ⟨by decide +kernel, rfl⟩ ?_
        refine z_iload (i := 7) (q := 6) (pc' := 60) ⟨by decide +kernel, rfl⟩ rfl ?_
        refine z_bipush (i := 6) (v := 6) (pc' := 62) ⟨by decide +kernel, rfl⟩ (by decide) ?_
        refine z_imul (pc' := 63) ⟨by decide +kernel, rfl⟩ ?_
        obtain ⟨hb10, h⟩ := h
        have h := h (x7 * 6) (im_ok rfl (by decide) hb10)
        generalize (x7 * 6) = r10 at h ⊢
        refine z_iconst (i := 1) (v := 1) (pc' := 64) ⟨by decide +kernel, rfl⟩ (by decide) ?_
        refine z_iadd (pc' := 65) ⟨by decide +kernel, rfl⟩ ?_
        obtain ⟨hb11, h⟩ := h
        have h := h (r10 + 1) (ia_ok rfl (by decide) hb11)
        generalize (r10 + 1) = r11 at h ⊢
        obtain ⟨n12, hi12, hz12, h⟩ := h
        refine w_iald (k := 6) (n := n12) (pc' := 66) ykaa_6 (hi12) (hz12) ⟨by decide +kernel, rfl⟩ ?_
        refine z_ishl (pc' := 67) ⟨by decide +kernel, rfl⟩ ?_
        refine z_ior (pc' := 68) ⟨by decide +kernel, rfl⟩ ?_
        refine z_istore (i := 4) (pc' := 70) ⟨by decide +kernel, rfl⟩ (by decide) rfl ?_
        show Wz E Y_Wh_reachedFrom 70 [(4, .int (x4 ||| (1 <<< ((σ7.1 6 n12) &&& 31)))), (0, .ref 5), (2, .int x2), (3, .int x3), (5, .int x5), (6, .int x6), (7, .int x7)] [] σ7 K
        refine z_iinc (i := 7) (z := 1) (q := 6) (pc' := 73) ⟨by decide +kernel, rfl⟩ rfl rfl (by decide) rfl ?_
        show Wz E Y_Wh_reachedFrom 73 [(7, .int (x7 + Int32.ofInt 1)), (4, .int (x4 ||| (1 <<< ((σ7.1 6 n12) &&& 31)))), (0, .ref 5), (2, .int x2), (3, .int x3), (5, .int x5), (6, .int x6)] [] σ7 K
        obtain ⟨hb13, h⟩ := h
        have h := h (x7 + Int32.ofInt 1) (ia_ok rfl (by decide) hb13)
        generalize (x7 + Int32.ofInt 1) = r13 at h ⊢
        refine z_goto (off := (-53)) (tgt := 20) (pc' := 76) ⟨by decide +kernel, by decide, rfl⟩ ?_
        refine z_sub [2, 3, 4, 1, 5, 6, 0] rfl ?_
        exact f20 _ _ _ _ _ _ _ h
noncomputable def WL_Wh_reachedFrom : Nat → (Int32 → Int32 → Int32 → Int32 → zS → (Int32 → zS → Prop) → Prop) × (Int32 → Int32 → Int32 → Int32 → Int32 → Int32 → zS → (Int32 → zS → Prop) → Prop)
  | 0 => (fun _ _ _ _ _ _ => False, fun _ _ _ _ _ _ _ _ => False)
  | n + 1 => (WB_Wh_reachedFrom_6 (WL_Wh_reachedFrom n).1 (WL_Wh_reachedFrom n).2, WB_Wh_reachedFrom_20 (WL_Wh_reachedFrom n).1 (WL_Wh_reachedFrom n).2)
theorem wl_Wh_reachedFrom_6 {n : Nat} {x2 : Int32} {x3 : Int32} {x4 : Int32} {x5 : Int32} {σ : zS} {Q : Int32 → zS → Prop} (h : WB_Wh_reachedFrom_6 (WL_Wh_reachedFrom n).1 (WL_Wh_reachedFrom n).2 x2 x3 x4 x5 σ Q) : (WL_Wh_reachedFrom (n + 1)).1 x2 x3 x4 x5 σ Q := h
theorem wl_Wh_reachedFrom_20 {n : Nat} {x2 : Int32} {x3 : Int32} {x4 : Int32} {x5 : Int32} {x6 : Int32} {x7 : Int32} {σ : zS} {Q : Int32 → zS → Prop} (h : WB_Wh_reachedFrom_20 (WL_Wh_reachedFrom n).1 (WL_Wh_reachedFrom n).2 x2 x3 x4 x5 x6 x7 σ Q) : (WL_Wh_reachedFrom (n + 1)).2 x2 x3 x4 x5 x6 x7 σ Q := h
theorem sl_Wh_reachedFrom {E : xV} {K : zKt} {Q : Int32 → zS → Prop} (k : ∀ v s, Q v s → K (some (.int v)) s) : ∀ n, (∀ (x2 : Int32) (x3 : Int32) (x4 : Int32) (x5 : Int32) (σ : zS), (WL_Wh_reachedFrom n).1 x2 x3 x4 x5 σ Q → Wz E Y_Wh_reachedFrom 6 [(0, .ref 5), (2, .int x2), (3, .int x3), (4, .int x4), (5, .int x5)] [] σ K) ∧ (∀ (x2 : Int32) (x3 : Int32) (x4 : Int32) (x5 : Int32) (x6 : Int32) (x7 : Int32) (σ : zS), (WL_Wh_reachedFrom n).2 x2 x3 x4 x5 x6 x7 σ Q → Wz E Y_Wh_reachedFrom 20 [(0, .ref 5), (2, .int x2), (3, .int x3), (4, .int x4), (5, .int x5), (6, .int x6), (7, .int x7)] [] σ K)
  | 0 => ⟨fun _ _ _ _ _ h => h.elim, fun _ _ _ _ _ _ _ h => h.elim⟩
  | n + 1 => by
    have i := sl_Wh_reachedFrom (E := E)  k n
    exact ⟨fun _ _ _ _ _ h => sh_Wh_reachedFrom_6 i.1 i.2 k h, fun _ _ _ _ _ _ _ h => sh_Wh_reachedFrom_20 i.1 i.2 k h⟩
noncomputable def W_Wh_reachedFrom (a1 : Int32) (a2 : Int32) (a3 : Int32) (σ : zS) (Q : Int32 → zS → Prop) : Prop := (WL_Wh_reachedFrom fuF).1 a2 a3 a1 0 σ Q
theorem sF_Wh_reachedFrom {E : xV} {σ : zS} {K : zKt} {a1 : Int32} {a2 : Int32} {a3 : Int32} {Q : Int32 → zS → Prop} (h : W_Wh_reachedFrom a1 a2 a3 σ Q) (k : ∀ v s, Q v s → K (some (.int v)) s) : Cz E Y_Wh_reachedFrom [.ref 5, .int a1, .int a2, .int a3] σ K := by
  refine z_entry (by decide) (fun a => by rw [sl_len]; exact Nat.le_of_ble_eq_true rfl) rfl ?_
  unfold W_Wh_reachedFrom at h
  refine z_iload_n (f := 1) (i := 1) (q := 1) (pc' := 1) ⟨by decide +kernel, rfl⟩ rfl rfl ?_
  refine z_istore (i := 4) (pc' := 3) ⟨by decide +kernel, rfl⟩ (by decide) rfl ?_
  show Wz E Y_Wh_reachedFrom 3 [(4, .int a1), (0, .ref 5), (1, .int a1), (2, .int a2), (3, .int a3)] [] σ K
  refine z_iconst (i := 0) (v := 0) (pc' := 4) ⟨by decide +kernel, rfl⟩ (by decide) ?_
  refine z_istore (i := 5) (pc' := 6) ⟨by decide +kernel, rfl⟩ (by decide) rfl ?_
  show Wz E Y_Wh_reachedFrom 6 [(5, .int 0), (4, .int a1), (0, .ref 5), (1, .int a1), (2, .int a2), (3, .int a3)] [] σ K
  refine z_sub [2, 4, 5, 1, 0] rfl ?_
  exact (sl_Wh_reachedFrom k fuF).1 _ _ _ _ _ h
noncomputable def WB_Wh_groupsOf_6 (F6 : Int32 → Int32 → Int32 → Int32 → Int32 → zS → (Int32 → zS → Prop) → Prop) (x1 : Int32) (x2 : Int32) (x3 : Int32) (x4 : Int32) (x5 : Int32) (σ : zS) (Q : Int32 → zS → Prop) : Prop := ((Int32.toInt (σ.1 5 2)) ≤ (Int32.toInt x5) → (((Int32.toInt x4) = 0 → (Q 0 σ)) ∧ (¬ (Int32.toInt x4) = 0 → (W_Wh_reachedFrom x4 x2 x3 σ (fun v3 σ3 => Q v3 σ3))))) ∧ (¬ (Int32.toInt (σ.1 5 2)) ≤ (Int32.toInt x5) → ((-2147483648 ≤ (Int32.toInt x5) * 6 ∧ (Int32.toInt x5) * 6 ≤ 2147483647) ∧ ∀ r4 : Int32, r4.toInt = (Int32.toInt x5) * 6 → ((-2147483648 ≤ (Int32.toInt r4) + 0 ∧ (Int32.toInt r4) + 0 ≤ 2147483647) ∧ ∀ r5 : Int32, r5.toInt = (Int32.toInt r4) + 0 → (∃ n6 : Nat, Int32.toInt r5 = (n6 : Int) ∧ n6 < 1206 ∧ (((Int32.toInt (σ.1 6 n6)) = (Int32.toInt x1) → (W_Wh_counts x5 x2 x3 σ (fun v9 σ9 => ((Int32.toInt v9) = 0 → ((-2147483648 ≤ (Int32.toInt x5) + 1 ∧ (Int32.toInt x5) + 1 ≤ 2147483647) ∧ ∀ r11 : Int32, r11.toInt = (Int32.toInt x5) + 1 → (F6 x1 x2 x3 x4 r11 σ9 Q))) ∧ (¬ (Int32.toInt v9) = 0 → ((-2147483648 ≤ (Int32.toInt x5) * 6 ∧ (Int32.toInt x5) * 6 ≤ 2147483647) ∧ ∀ r12 : Int32, r12.toInt = (Int32.toInt x5) * 6 → ((-2147483648 ≤ (Int32.toInt r12) + 1 ∧ (Int32.toInt r12) + 1 ≤ 2147483647) ∧ ∀ r13 : Int32, r13.toInt = (Int32.toInt r12) + 1 → (∃ n14 : Nat, Int32.toInt r13 = (n14 : Int) ∧ n14 < 1206 ∧ ((-2147483648 ≤ (Int32.toInt x5) + 1 ∧ (Int32.toInt x5) + 1 ≤ 2147483647) ∧ ∀ r15 : Int32, r15.toInt = (Int32.toInt x5) + 1 → (F6 x1 x2 x3 (x4 ||| (1 <<< ((σ9.1 6 n14) &&& 31))) r15 σ9 Q))))))))) ∧ (¬ (Int32.toInt (σ.1 6 n6)) = (Int32.toInt x1) → ((-2147483648 ≤ (Int32.toInt x5) + 1 ∧ (Int32.toInt x5) + 1 ≤ 2147483647) ∧ ∀ r8 : Int32, r8.toInt = (Int32.toInt x5) + 1 → (F6 x1 x2 x3 x4 r8 σ Q))))))))
theorem sh_Wh_groupsOf_6 {E : xV} {σ : zS} {K : zKt} {F6 : Int32 → Int32 → Int32 → Int32 → Int32 → zS → (Int32 → zS → Prop) → Prop} {x1 : Int32} {x2 : Int32} {x3 : Int32} {x4 : Int32} {x5 : Int32} {Q : Int32 → zS → Prop} (f6 : ∀ (x1 : Int32) (x2 : Int32) (x3 : Int32) (x4 : Int32) (x5 : Int32) (σ : zS), F6 x1 x2 x3 x4 x5 σ Q → Wz E Y_Wh_groupsOf 6 [(0, .ref 5), (1, .int x1), (2, .int x2), (3, .int x3), (4, .int x4), (5, .int x5)] [] σ K) (k : ∀ v s, Q v s → K (some (.int v)) s) (h : WB_Wh_groupsOf_6 F6 x1 x2 x3 x4 x5 σ Q) : Wz E Y_Wh_groupsOf 6 [(0, .ref 5), (1, .int x1), (2, .int x2), (3, .int x3), (4, .int x4), (5, .int x5)] [] σ K := by
  unfold WB_Wh_groupsOf_6 at h
  refine z_iload (i := 5) (q := 5) (pc' := 8) ⟨by decide +kernel, rfl⟩ rfl ?_
  refine z_aload_n (f := 0) (i := 0) (q := 0) (pc' := 9) ⟨by decide +kernel, rfl⟩ rfl rfl ?_
  refine w_geti (k := 5) (j := 2) (idx := 41) (pc' := 12) yfxe_11_41 ykfa_5_2 ⟨by decide +kernel, rfl⟩ ?_
  refine z_icmp_ge (off := 55) (tgt := 67) (pc' := 15) ⟨by decide +kernel, by decide, rfl⟩ (fun h1 => ?_) (fun h1 => ?_)
  · have h := h.1 (qi_ge_t rfl rfl h1)
    refine z_iload (i := 4) (q := 4) (pc' := 69) ⟨by decide +kernel, rfl⟩ rfl ?_
    refine z_if_ne (off := 7) (tgt := 76) (pc' := 72) ⟨by decide +kernel, by decide, rfl⟩ (fun h2 => ?_) (fun h2 => ?_)
    · have h := h.2 (qi_ne_t rfl (by decide) h2)
      refine z_aload_n (f := 0) (i := 0) (q := 0) (pc' := 77) ⟨by decide +kernel, rfl⟩ rfl rfl ?_
      refine z_iload (i := 4) (q := 4) (pc' := 79) ⟨by decide +kernel, rfl⟩ rfl ?_
      refine z_iload_n (f := 2) (i := 2) (q := 2) (pc' := 80) ⟨by decide +kernel, rfl⟩ rfl rfl ?_
      refine z_iload_n (f := 3) (i := 3) (q := 3) (pc' := 81) ⟨by decide +kernel, rfl⟩ rfl rfl ?_
      refine w_invV (Z := Y_Wh_reachedFrom) (idx := 55) (kb := 5) (As := [.int x4, .int x2, .int x3]) (rest := []) (pc' := 84) cl_11_55 rfl ⟨rfl, rfl⟩ ykfa_5_0 rfl ⟨⟨by decide, by decide⟩, rfl, rfl⟩ ⟨by decide +kernel, rfl⟩ rfl rfl (Nat.le_of_ble_eq_true rfl) rfl rfl ?_
      refine sF_Wh_reachedFrom h (fun v3 σ3 h => ?_)
      show Wz E Y_Wh_groupsOf 84 [(0, .ref 5), (1, .int x1), (2, .int x2), (3, .int x3), (4, .int x4), (5, .int x5)] [.int v3] σ3 K
      exact z_iret (ty := .int) rfl (by rfl) (by decide +kernel) (k _ _ h)
    · have h := h.1 (qi_ne_f rfl (by decide) h2)
      refine z_iconst (i := 0) (v := 0) (pc' := 73) ⟨by decide +kernel, rfl⟩ (by decide) ?_
      refine z_goto (off := 11) (tgt := 84) (pc' := 76) ⟨by decide +kernel, by decide, rfl⟩ ?_
      exact z_iret (ty := .int) rfl (by rfl) (by decide +kernel) (k _ _ h)
  · have h := h.2 (qi_ge_f rfl rfl h1)
    refine z_aload_n (f := 0) (i := 0) (q := 0) (pc' := 16) ⟨by decide +kernel, rfl⟩ rfl rfl ?_
    refine w_getr (k := 5) (j := 3) (idx := 13) (pc' := 19) yfxe_11_13 ykfa_5_3 ⟨by decide +kernel, rfl⟩ ?_
    refine z_iload (i := 5) (q := 5) (pc' := 21) ⟨by decide +kernel, rfl⟩ rfl ?_
    refine z_bipush (i := 6) (v := 6) (pc' := 23) ⟨by decide +kernel, rfl⟩ (by decide) ?_
    refine z_imul (pc' := 24) ⟨by decide +kernel, rfl⟩ ?_
    obtain ⟨hb4, h⟩ := h
    have h := h (x5 * 6) (im_ok rfl (by decide) hb4)
    generalize (x5 * 6) = r4 at h ⊢
    refine z_iconst (i := 0) (v := 0) (pc' := 25) ⟨by decide +kernel, rfl⟩ (by decide) ?_
    refine z_iadd (pc' := 26) ⟨by decide +kernel, rfl⟩ ?_
    obtain ⟨hb5, h⟩ := h
    have h := h (r4 + 0) (ia_ok rfl (by decide) hb5)
    generalize (r4 + 0) = r5 at h ⊢
    obtain ⟨n6, hi6, hz6, h⟩ := h
    refine w_iald (k := 6) (n := n6) (pc' := 27) ykaa_6 (hi6) (hz6) ⟨by decide +kernel, rfl⟩ ?_
    refine z_iload_n (f := 1) (i := 1) (q := 1) (pc' := 28) ⟨by decide +kernel, rfl⟩ rfl rfl ?_
    refine z_icmp_ne (off := 33) (tgt := 61) (pc' := 31) ⟨by decide +kernel, by decide, rfl⟩ (fun h7 => ?_) (fun h7 => ?_)
    · have h := h.2 (qi_ne_t rfl rfl h7)
      refine z_iinc (i := 5) (z := 1) (q := 5) (pc' := 64) ⟨by decide +kernel, rfl⟩ rfl rfl (by decide) rfl ?_
      show Wz E Y_Wh_groupsOf 64 [(5, .int (x5 + Int32.ofInt 1)), (0, .ref 5), (1, .int x1), (2, .int x2), (3, .int x3), (4, .int x4)] [] σ K
      obtain ⟨hb8, h⟩ := h
      have h := h (x5 + Int32.ofInt 1) (ia_ok rfl (by decide) hb8)
      generalize (x5 + Int32.ofInt 1) = r8 at h ⊢
      refine z_goto (off := (-58)) (tgt := 6) (pc' := 67) ⟨by decide +kernel, by decide, rfl⟩ ?_
      refine z_sub [1, 2, 3, 4, 5, 0] rfl ?_
      exact f6 _ _ _ _ _ _ h
    · have h := h.1 (qi_ne_f rfl rfl h7)
      refine z_aload_n (f := 0) (i := 0) (q := 0) (pc' := 32) ⟨by decide +kernel, rfl⟩ rfl rfl ?_
      refine z_iload (i := 5) (q := 5) (pc' := 34) ⟨by decide +kernel, rfl⟩ rfl ?_
      refine z_iload_n (f := 2) (i := 2) (q := 2) (pc' := 35) ⟨by decide +kernel, rfl⟩ rfl rfl ?_
      refine z_iload_n (f := 3) (i := 3) (q := 3) (pc' := 36) ⟨by decide +kernel, rfl⟩ rfl rfl ?_
      refine w_invV (Z := Y_Wh_counts) (idx := 51) (kb := 5) (As := [.int x5, .int x2, .int x3]) (rest := []) (pc' := 39) cl_11_51 rfl ⟨rfl, rfl⟩ ykfa_5_0 rfl ⟨⟨by decide, by decide⟩, rfl, rfl⟩ ⟨by decide +kernel, rfl⟩ rfl rfl (Nat.le_of_ble_eq_true rfl) rfl rfl ?_
      refine sF_Wh_counts h (fun v9 σ9 h => ?_)
      show Wz E Y_Wh_groupsOf 39 [(0, .ref 5), (1, .int x1), (2, .int x2), (3, .int x3), (4, .int x4), (5, .int x5)] [.int v9] σ9 K
      refine z_if_eq (off := 22) (tgt := 61) (pc' := 42) ⟨by decide +kernel, by decide, rfl⟩ (fun h10 => ?_) (fun h10 => ?_)
      · have h := h.1 (qi_eq_t rfl (by decide) h10)
        refine z_iinc (i := 5) (z := 1) (q := 5) (pc' := 64) ⟨by decide +kernel, rfl⟩ rfl rfl (by decide) rfl ?_
        show Wz E Y_Wh_groupsOf 64 [(5, .int (x5 + Int32.ofInt 1)), (0, .ref 5), (1, .int x1), (2, .int x2), (3, .int x3), (4, .int x4)] [] σ9 K
        obtain ⟨hb11, h⟩ := h
        have h := h (x5 + Int32.ofInt 1) (ia_ok rfl (by decide) hb11)
        generalize (x5 + Int32.ofInt 1) = r11 at h ⊢
        refine z_goto (off := (-58)) (tgt := 6) (pc' := 67) ⟨by decide +kernel, by decide, rfl⟩ ?_
        refine z_sub [1, 2, 3, 4, 5, 0] rfl ?_
        exact f6 _ _ _ _ _ _ h
      · have h := h.2 (qi_eq_f rfl (by decide) h10)
        refine z_iload (i := 4) (q := 4) (pc' := 44) ⟨by decide +kernel, rfl⟩ rfl ?_
        refine z_iconst (i := 1) (v := 1) (pc' := 45) ⟨by decide +kernel, rfl⟩ (by decide) ?_
        refine z_aload_n (f := 0) (i := 0) (q := 0) (pc' := 46) ⟨by decide +kernel, rfl⟩ rfl rfl ?_
        refine w_getr (k := 5) (j := 3) (idx := 13) (pc' := 49) yfxe_11_13 ykfa_5_3 ⟨by decide +kernel, rfl⟩ ?_
        refine z_iload (i := 5) (q := 5) (pc' := 51) ⟨by decide +kernel, rfl⟩ rfl ?_
        refine z_bipush (i := 6) (v := 6) (pc' := 53) ⟨by decide +kernel, rfl⟩ (by decide) ?_
        refine z_imul (pc' := 54) ⟨by decide +kernel, rfl⟩ ?_
        obtain ⟨hb12, h⟩ := h
        have h := h (x5 * 6) (im_ok rfl (by decide) hb12)
        generalize (x5 * 6) = r12 at h ⊢
        refine z_iconst (i := 1) (v := 1) (pc' := 55) ⟨by decide +kernel, rfl⟩ (by decide) ?_
        refine z_iadd (pc' := 56) ⟨by decide +kernel, rfl⟩ ?_
        obtain ⟨hb13, h⟩ := h
        have h := h (r12 + 1) (ia_ok rfl (by decide) hb13)
        generalize (r12 + 1) = r13 at h ⊢
        obtain ⟨n14, hi14, hz14, h⟩ := h
        refine w_iald (k := 6) (n := n14) (pc' := 57) ykaa_6 (hi14) (hz14) ⟨by decide +kernel, rfl⟩ ?_
        refine z_ishl (pc' := 58) ⟨by decide +kernel, rfl⟩ ?_
        refine z_ior (pc' := 59) ⟨by decide +kernel, rfl⟩ ?_
        refine z_istore (i := 4) (pc' := 61) ⟨by decide +kernel, rfl⟩ (by decide) rfl ?_
        show Wz E Y_Wh_groupsOf 61 [(4, .int (x4 ||| (1 <<< ((σ9.1 6 n14) &&& 31)))), (0, .ref 5), (1, .int x1), (2, .int x2), (3, .int x3), (5, .int x5)] [] σ9 K
        refine z_iinc (i := 5) (z := 1) (q := 5) (pc' := 64) ⟨by decide +kernel, rfl⟩ rfl rfl (by decide) rfl ?_
        show Wz E Y_Wh_groupsOf 64 [(5, .int (x5 + Int32.ofInt 1)), (4, .int (x4 ||| (1 <<< ((σ9.1 6 n14) &&& 31)))), (0, .ref 5), (1, .int x1), (2, .int x2), (3, .int x3)] [] σ9 K
        obtain ⟨hb15, h⟩ := h
        have h := h (x5 + Int32.ofInt 1) (ia_ok rfl (by decide) hb15)
        generalize (x5 + Int32.ofInt 1) = r15 at h ⊢
        refine z_goto (off := (-58)) (tgt := 6) (pc' := 67) ⟨by decide +kernel, by decide, rfl⟩ ?_
        refine z_sub [2, 3, 4, 5, 1, 0] rfl ?_
        exact f6 _ _ _ _ _ _ h
noncomputable def WL_Wh_groupsOf : Nat → (Int32 → Int32 → Int32 → Int32 → Int32 → zS → (Int32 → zS → Prop) → Prop)
  | 0 => fun _ _ _ _ _ _ _ => False
  | n + 1 => WB_Wh_groupsOf_6 (WL_Wh_groupsOf n)
theorem wl_Wh_groupsOf_6 {n : Nat} {x1 : Int32} {x2 : Int32} {x3 : Int32} {x4 : Int32} {x5 : Int32} {σ : zS} {Q : Int32 → zS → Prop} (h : WB_Wh_groupsOf_6 (WL_Wh_groupsOf n) x1 x2 x3 x4 x5 σ Q) : (WL_Wh_groupsOf (n + 1)) x1 x2 x3 x4 x5 σ Q := h
theorem sl_Wh_groupsOf {E : xV} {K : zKt} {Q : Int32 → zS → Prop} (k : ∀ v s, Q v s → K (some (.int v)) s) : ∀ n, (∀ (x1 : Int32) (x2 : Int32) (x3 : Int32) (x4 : Int32) (x5 : Int32) (σ : zS), (WL_Wh_groupsOf n) x1 x2 x3 x4 x5 σ Q → Wz E Y_Wh_groupsOf 6 [(0, .ref 5), (1, .int x1), (2, .int x2), (3, .int x3), (4, .int x4), (5, .int x5)] [] σ K)
  | 0 => fun _ _ _ _ _ _ h => h.elim
  | n + 1 => by
    have i := sl_Wh_groupsOf (E := E)  k n
    exact fun _ _ _ _ _ _ h => sh_Wh_groupsOf_6 i k h
noncomputable def W_Wh_groupsOf (a1 : Int32) (a2 : Int32) (a3 : Int32) (σ : zS) (Q : Int32 → zS → Prop) : Prop := (WL_Wh_groupsOf fuF) a1 a2 a3 0 0 σ Q
theorem sF_Wh_groupsOf {E : xV} {σ : zS} {K : zKt} {a1 : Int32} {a2 : Int32} {a3 : Int32} {Q : Int32 → zS → Prop} (h : W_Wh_groupsOf a1 a2 a3 σ Q) (k : ∀ v s, Q v s → K (some (.int v)) s) : Cz E Y_Wh_groupsOf [.ref 5, .int a1, .int a2, .int a3] σ K := by
  refine z_entry (by decide) (fun a => by rw [sl_len]; exact Nat.le_of_ble_eq_true rfl) rfl ?_
  unfold W_Wh_groupsOf at h
  refine z_iconst (i := 0) (v := 0) (pc' := 1) ⟨by decide +kernel, rfl⟩ (by decide) ?_
  refine z_istore (i := 4) (pc' := 3) ⟨by decide +kernel, rfl⟩ (by decide) rfl ?_
  show Wz E Y_Wh_groupsOf 3 [(4, .int 0), (0, .ref 5), (1, .int a1), (2, .int a2), (3, .int a3)] [] σ K
  refine z_iconst (i := 0) (v := 0) (pc' := 4) ⟨by decide +kernel, rfl⟩ (by decide) ?_
  refine z_istore (i := 5) (pc' := 6) ⟨by decide +kernel, rfl⟩ (by decide) rfl ?_
  show Wz E Y_Wh_groupsOf 6 [(5, .int 0), (4, .int 0), (0, .ref 5), (1, .int a1), (2, .int a2), (3, .int a3)] [] σ K
  refine z_sub [2, 3, 4, 5, 1, 0] rfl ?_
  exact (sl_Wh_groupsOf k fuF) _ _ _ _ _ _ h
noncomputable def W_M_standsAt (a1 : Int32) (a2 : Int32) (a3 : Int32) (σ : zS) (Q : Int32 → zS → Prop) : Prop := ∃ n1 : Nat, Int32.toInt a1 = (n1 : Int) ∧ n1 < 201 ∧ (((Int32.toInt a2) < (Int32.toInt (σ.1 116 n1)) → (Q 0 σ)) ∧ (¬ (Int32.toInt a2) < (Int32.toInt (σ.1 116 n1)) → (((Int32.toInt (σ.1 117 n1)) ≤ (Int32.toInt a2) → (Q 0 σ)) ∧ (¬ (Int32.toInt (σ.1 117 n1)) ≤ (Int32.toInt a2) → (((Int32.toInt a3) < (Int32.toInt (σ.1 118 n1)) → (Q 0 σ)) ∧ (¬ (Int32.toInt a3) < (Int32.toInt (σ.1 118 n1)) → (((Int32.toInt (σ.1 119 n1)) = (-4) → (Q 1 σ)) ∧ (¬ (Int32.toInt (σ.1 119 n1)) = (-4) → (((Int32.toInt (σ.1 119 n1)) ≤ (Int32.toInt a3) → (Q 0 σ)) ∧ (¬ (Int32.toInt (σ.1 119 n1)) ≤ (Int32.toInt a3) → (Q 1 σ)))))))))))
theorem sF_M_standsAt {E : xV} {σ : zS} {K : zKt} {a1 : Int32} {a2 : Int32} {a3 : Int32} {Q : Int32 → zS → Prop} (h : W_M_standsAt a1 a2 a3 σ Q) (k : ∀ v s, Q v s → K (some (.int v)) s) : Cz E Y_M_standsAt [.ref 110, .int a1, .int a2, .int a3] σ K := by
  refine z_entry (by decide) (fun a => by rw [sl_len]; exact Nat.le_of_ble_eq_true rfl) rfl ?_
  unfold W_M_standsAt at h
  refine z_aload_n (f := 0) (i := 0) (q := 0) (pc' := 1) ⟨by decide +kernel, rfl⟩ rfl rfl ?_
  refine w_getr (k := 110) (j := 11) (idx := 25) (pc' := 4) yfxe_13_25 ykfa_110_11 ⟨by decide +kernel, rfl⟩ ?_
  refine z_iload_n (f := 1) (i := 1) (q := 1) (pc' := 5) ⟨by decide +kernel, rfl⟩ rfl rfl ?_
  obtain ⟨n1, hi1, hz1, h⟩ := h
  refine w_iald (k := 116) (n := n1) (pc' := 6) ykaa_116 (hi1) (hz1) ⟨by decide +kernel, rfl⟩ ?_
  refine z_iload_n (f := 2) (i := 2) (q := 2) (pc' := 7) ⟨by decide +kernel, rfl⟩ rfl rfl ?_
  refine z_icmp_gt (off := 48) (tgt := 55) (pc' := 10) ⟨by decide +kernel, by decide, rfl⟩ (fun h2 => ?_) (fun h2 => ?_)
  · have h := h.1 (qi_gt_t rfl rfl h2)
    refine z_iconst (i := 0) (v := 0) (pc' := 56) ⟨by decide +kernel, rfl⟩ (by decide) ?_
    exact z_iret (ty := .boolean) rfl (by rfl) (by decide +kernel) (k _ _ h)
  · have h := h.2 (qi_gt_f rfl rfl h2)
    refine z_iload_n (f := 2) (i := 2) (q := 2) (pc' := 11) ⟨by decide +kernel, rfl⟩ rfl rfl ?_
    refine z_aload_n (f := 0) (i := 0) (q := 0) (pc' := 12) ⟨by decide +kernel, rfl⟩ rfl rfl ?_
    refine w_getr (k := 110) (j := 12) (idx := 28) (pc' := 15) yfxe_13_28 ykfa_110_12 ⟨by decide +kernel, rfl⟩ ?_
    refine z_iload_n (f := 1) (i := 1) (q := 1) (pc' := 16) ⟨by decide +kernel, rfl⟩ rfl rfl ?_
    refine w_iald (k := 117) (n := n1) (pc' := 17) ykaa_117 (hi1) (hz1) ⟨by decide +kernel, rfl⟩ ?_
    refine z_icmp_ge (off := 38) (tgt := 55) (pc' := 20) ⟨by decide +kernel, by decide, rfl⟩ (fun h3 => ?_) (fun h3 => ?_)
    · have h := h.1 (qi_ge_t rfl rfl h3)
      refine z_iconst (i := 0) (v := 0) (pc' := 56) ⟨by decide +kernel, rfl⟩ (by decide) ?_
      exact z_iret (ty := .boolean) rfl (by rfl) (by decide +kernel) (k _ _ h)
    · have h := h.2 (qi_ge_f rfl rfl h3)
      refine z_aload_n (f := 0) (i := 0) (q := 0) (pc' := 21) ⟨by decide +kernel, rfl⟩ rfl rfl ?_
      refine w_getr (k := 110) (j := 13) (idx := 31) (pc' := 24) yfxe_13_31 ykfa_110_13 ⟨by decide +kernel, rfl⟩ ?_
      refine z_iload_n (f := 1) (i := 1) (q := 1) (pc' := 25) ⟨by decide +kernel, rfl⟩ rfl rfl ?_
      refine w_iald (k := 118) (n := n1) (pc' := 26) ykaa_118 (hi1) (hz1) ⟨by decide +kernel, rfl⟩ ?_
      refine z_iload_n (f := 3) (i := 3) (q := 3) (pc' := 27) ⟨by decide +kernel, rfl⟩ rfl rfl ?_
      refine z_icmp_gt (off := 28) (tgt := 55) (pc' := 30) ⟨by decide +kernel, by decide, rfl⟩ (fun h4 => ?_) (fun h4 => ?_)
      · have h := h.1 (qi_gt_t rfl rfl h4)
        refine z_iconst (i := 0) (v := 0) (pc' := 56) ⟨by decide +kernel, rfl⟩ (by decide) ?_
        exact z_iret (ty := .boolean) rfl (by rfl) (by decide +kernel) (k _ _ h)
      · have h := h.2 (qi_gt_f rfl rfl h4)
        refine z_aload_n (f := 0) (i := 0) (q := 0) (pc' := 31) ⟨by decide +kernel, rfl⟩ rfl rfl ?_
        refine w_getr (k := 110) (j := 14) (idx := 34) (pc' := 34) yfxe_13_34 ykfa_110_14 ⟨by decide +kernel, rfl⟩ ?_
        refine z_iload_n (f := 1) (i := 1) (q := 1) (pc' := 35) ⟨by decide +kernel, rfl⟩ rfl rfl ?_
        refine w_iald (k := 119) (n := n1) (pc' := 36) ykaa_119 (hi1) (hz1) ⟨by decide +kernel, rfl⟩ ?_
        refine z_bipush (i := (-4)) (v := (-4)) (pc' := 38) ⟨by decide +kernel, rfl⟩ (by decide) ?_
        refine z_icmp_eq (off := 13) (tgt := 51) (pc' := 41) ⟨by decide +kernel, by decide, rfl⟩ (fun h5 => ?_) (fun h5 => ?_)
        · have h := h.1 (qi_eq_t rfl (by decide) h5)
          refine z_iconst (i := 1) (v := 1) (pc' := 52) ⟨by decide +kernel, rfl⟩ (by decide) ?_
          refine z_goto (off := 4) (tgt := 56) (pc' := 55) ⟨by decide +kernel, by decide, rfl⟩ ?_
          exact z_iret (ty := .boolean) rfl (by rfl) (by decide +kernel) (k _ _ h)
        · have h := h.2 (qi_eq_f rfl (by decide) h5)
          refine z_iload_n (f := 3) (i := 3) (q := 3) (pc' := 42) ⟨by decide +kernel, rfl⟩ rfl rfl ?_
          refine z_aload_n (f := 0) (i := 0) (q := 0) (pc' := 43) ⟨by decide +kernel, rfl⟩ rfl rfl ?_
          refine w_getr (k := 110) (j := 14) (idx := 34) (pc' := 46) yfxe_13_34 ykfa_110_14 ⟨by decide +kernel, rfl⟩ ?_
          refine z_iload_n (f := 1) (i := 1) (q := 1) (pc' := 47) ⟨by decide +kernel, rfl⟩ rfl rfl ?_
          refine w_iald (k := 119) (n := n1) (pc' := 48) ykaa_119 (hi1) (hz1) ⟨by decide +kernel, rfl⟩ ?_
          refine z_icmp_ge (off := 7) (tgt := 55) (pc' := 51) ⟨by decide +kernel, by decide, rfl⟩ (fun h6 => ?_) (fun h6 => ?_)
          · have h := h.1 (qi_ge_t rfl rfl h6)
            refine z_iconst (i := 0) (v := 0) (pc' := 56) ⟨by decide +kernel, rfl⟩ (by decide) ?_
            exact z_iret (ty := .boolean) rfl (by rfl) (by decide +kernel) (k _ _ h)
          · have h := h.2 (qi_ge_f rfl rfl h6)
            refine z_iconst (i := 1) (v := 1) (pc' := 52) ⟨by decide +kernel, rfl⟩ (by decide) ?_
            refine z_goto (off := 4) (tgt := 56) (pc' := 55) ⟨by decide +kernel, by decide, rfl⟩ ?_
            exact z_iret (ty := .boolean) rfl (by rfl) (by decide +kernel) (k _ _ h)
noncomputable def WB_M_spreads_2 (F2 : Int32 → Int32 → Int32 → zS → (Unit → zS → Prop) → Prop) (F11 : Int32 → Int32 → Int32 → Int32 → zS → (Unit → zS → Prop) → Prop) (x1 : Int32) (x2 : Int32) (x3 : Int32) (σ : zS) (Q : Unit → zS → Prop) : Prop := ((Int32.toInt x3) = 0 → (Q () σ)) ∧ (¬ (Int32.toInt x3) = 0 → (F11 x1 x2 0 0 σ Q))
theorem sh_M_spreads_2 {E : xV} {σ : zS} {K : zKt} {F2 : Int32 → Int32 → Int32 → zS → (Unit → zS → Prop) → Prop} {F11 : Int32 → Int32 → Int32 → Int32 → zS → (Unit → zS → Prop) → Prop} {x1 : Int32} {x2 : Int32} {x3 : Int32} {Q : Unit → zS → Prop} (f2 : ∀ (x1 : Int32) (x2 : Int32) (x3 : Int32) (σ : zS), F2 x1 x2 x3 σ Q → Wz E Y_M_spreads 2 [(0, .ref 110), (1, .int x1), (2, .int x2), (3, .int x3)] [] σ K) (f11 : ∀ (x1 : Int32) (x2 : Int32) (x3 : Int32) (x4 : Int32) (σ : zS), F11 x1 x2 x3 x4 σ Q → Wz E Y_M_spreads 11 [(0, .ref 110), (1, .int x1), (2, .int x2), (3, .int x3), (4, .int x4)] [] σ K) (k : ∀ v s, Q v s → K none s) (h : WB_M_spreads_2 F2 F11 x1 x2 x3 σ Q) : Wz E Y_M_spreads 2 [(0, .ref 110), (1, .int x1), (2, .int x2), (3, .int x3)] [] σ K := by
  unfold WB_M_spreads_2 at h
  refine z_iload_n (f := 3) (i := 3) (q := 3) (pc' := 3) ⟨by decide +kernel, rfl⟩ rfl rfl ?_
  refine z_if_eq (off := 97) (tgt := 100) (pc' := 6) ⟨by decide +kernel, by decide, rfl⟩ (fun h1 => ?_) (fun h1 => ?_)
  · have h := h.1 (qi_eq_t rfl (by decide) h1)
    exact z_vret rfl (by decide +kernel) (k _ _ h)
  · have h := h.2 (qi_eq_f rfl (by decide) h1)
    refine z_iconst (i := 0) (v := 0) (pc' := 7) ⟨by decide +kernel, rfl⟩ (by decide) ?_
    refine z_istore_n (f := 3) (i := 3) (pc' := 8) ⟨by decide +kernel, rfl⟩ rfl (by decide) rfl ?_
    show Wz E Y_M_spreads 8 [(3, .int 0), (0, .ref 110), (1, .int x1), (2, .int x2)] [] σ K
    refine z_iconst (i := 0) (v := 0) (pc' := 9) ⟨by decide +kernel, rfl⟩ (by decide) ?_
    refine z_istore (i := 4) (pc' := 11) ⟨by decide +kernel, rfl⟩ (by decide) rfl ?_
    show Wz E Y_M_spreads 11 [(4, .int 0), (3, .int 0), (0, .ref 110), (1, .int x1), (2, .int x2)] [] σ K
    refine z_sub [2, 3, 4, 1, 0] rfl ?_
    exact f11 _ _ _ _ _ h
noncomputable def WB_M_spreads_11 (F2 : Int32 → Int32 → Int32 → zS → (Unit → zS → Prop) → Prop) (F11 : Int32 → Int32 → Int32 → Int32 → zS → (Unit → zS → Prop) → Prop) (x1 : Int32) (x2 : Int32) (x3 : Int32) (x4 : Int32) (σ : zS) (Q : Unit → zS → Prop) : Prop := ((Int32.toInt (σ.1 110 8)) ≤ (Int32.toInt x4) → (F2 x1 x2 x3 σ Q)) ∧ (¬ (Int32.toInt (σ.1 110 8)) ≤ (Int32.toInt x4) → (∃ n2 : Nat, Int32.toInt x4 = (n2 : Int) ∧ n2 < 201 ∧ (((Int32.toInt (σ.1 114 n2)) < 100 → ((-2147483648 ≤ (Int32.toInt x4) + 1 ∧ (Int32.toInt x4) + 1 ≤ 2147483647) ∧ ∀ r4 : Int32, r4.toInt = (Int32.toInt x4) + 1 → (F11 x1 x2 x3 r4 σ Q))) ∧ (¬ (Int32.toInt (σ.1 114 n2)) < 100 → ((-2147483648 ≤ (Int32.toInt (σ.1 114 n2)) - 100 ∧ (Int32.toInt (σ.1 114 n2)) - 100 ≤ 2147483647) ∧ ∀ r5 : Int32, r5.toInt = (Int32.toInt (σ.1 114 n2)) - 100 → (∃ n6 : Nat, Int32.toInt r5 = (n6 : Int) ∧ n6 < 16 ∧ (((Int32.toInt (σ.1 120 n6)) = 0 → ((-2147483648 ≤ (Int32.toInt x4) + 1 ∧ (Int32.toInt x4) + 1 ≤ 2147483647) ∧ ∀ r8 : Int32, r8.toInt = (Int32.toInt x4) + 1 → (F11 x1 x2 x3 r8 σ Q))) ∧ (¬ (Int32.toInt (σ.1 120 n6)) = 0 → (∃ n9 : Nat, Int32.toInt (σ.1 115 n2) = (n9 : Int) ∧ n9 < 16 ∧ (((Int32.toInt (σ.1 120 n9)) = 0 → (W_M_standsAt x4 x1 x2 σ (fun v12 σ12 => ((Int32.toInt v12) = 0 → ((-2147483648 ≤ (Int32.toInt x4) + 1 ∧ (Int32.toInt x4) + 1 ≤ 2147483647) ∧ ∀ r14 : Int32, r14.toInt = (Int32.toInt x4) + 1 → (F11 x1 x2 x3 r14 σ12 Q))) ∧ (¬ (Int32.toInt v12) = 0 → (∃ n15 : Nat, Int32.toInt (σ12.1 115 n2) = (n15 : Int) ∧ n15 < 16 ∧ (∀ σ16 : zS, zI σ12 120 n15 1 = σ16 → ((-2147483648 ≤ (Int32.toInt x4) + 1 ∧ (Int32.toInt x4) + 1 ≤ 2147483647) ∧ ∀ r17 : Int32, r17.toInt = (Int32.toInt x4) + 1 → (F11 x1 x2 1 r17 σ16 Q)))))))) ∧ (¬ (Int32.toInt (σ.1 120 n9)) = 0 → ((-2147483648 ≤ (Int32.toInt x4) + 1 ∧ (Int32.toInt x4) + 1 ≤ 2147483647) ∧ ∀ r11 : Int32, r11.toInt = (Int32.toInt x4) + 1 → (F11 x1 x2 x3 r11 σ Q)))))))))))))
theorem sh_M_spreads_11 {E : xV} {σ : zS} {K : zKt} {F2 : Int32 → Int32 → Int32 → zS → (Unit → zS → Prop) → Prop} {F11 : Int32 → Int32 → Int32 → Int32 → zS → (Unit → zS → Prop) → Prop} {x1 : Int32} {x2 : Int32} {x3 : Int32} {x4 : Int32} {Q : Unit → zS → Prop} (f2 : ∀ (x1 : Int32) (x2 : Int32) (x3 : Int32) (σ : zS), F2 x1 x2 x3 σ Q → Wz E Y_M_spreads 2 [(0, .ref 110), (1, .int x1), (2, .int x2), (3, .int x3)] [] σ K) (f11 : ∀ (x1 : Int32) (x2 : Int32) (x3 : Int32) (x4 : Int32) (σ : zS), F11 x1 x2 x3 x4 σ Q → Wz E Y_M_spreads 11 [(0, .ref 110), (1, .int x1), (2, .int x2), (3, .int x3), (4, .int x4)] [] σ K) (k : ∀ v s, Q v s → K none s) (h : WB_M_spreads_11 F2 F11 x1 x2 x3 x4 σ Q) : Wz E Y_M_spreads 11 [(0, .ref 110), (1, .int x1), (2, .int x2), (3, .int x3), (4, .int x4)] [] σ K := by
  unfold WB_M_spreads_11 at h
  refine z_iload (i := 4) (q := 4) (pc' := 13) ⟨by decide +kernel, rfl⟩ rfl ?_
  refine z_aload_n (f := 0) (i := 0) (q := 0) (pc' := 14) ⟨by decide +kernel, rfl⟩ rfl rfl ?_
  refine w_geti (k := 110) (j := 8) (idx := 429) (pc' := 17) yfxe_13_429 ykfa_110_8 ⟨by decide +kernel, rfl⟩ ?_
  refine z_icmp_ge (off := 80) (tgt := 97) (pc' := 20) ⟨by decide +kernel, by decide, rfl⟩ (fun h1 => ?_) (fun h1 => ?_)
  · have h := h.1 (qi_ge_t rfl rfl h1)
    refine z_goto (off := (-95)) (tgt := 2) (pc' := 100) ⟨by decide +kernel, by decide, rfl⟩ ?_
    refine z_sub [0, 1, 2, 3] rfl ?_
    exact f2 _ _ _ _ h
  · have h := h.2 (qi_ge_f rfl rfl h1)
    refine z_aload_n (f := 0) (i := 0) (q := 0) (pc' := 21) ⟨by decide +kernel, rfl⟩ rfl rfl ?_
    refine w_getr (k := 110) (j := 9) (idx := 19) (pc' := 24) yfxe_13_19 ykfa_110_9 ⟨by decide +kernel, rfl⟩ ?_
    refine z_iload (i := 4) (q := 4) (pc' := 26) ⟨by decide +kernel, rfl⟩ rfl ?_
    obtain ⟨n2, hi2, hz2, h⟩ := h
    refine w_iald (k := 114) (n := n2) (pc' := 27) ykaa_114 (hi2) (hz2) ⟨by decide +kernel, rfl⟩ ?_
    refine z_bipush (i := 100) (v := 100) (pc' := 29) ⟨by decide +kernel, rfl⟩ (by decide) ?_
    refine z_icmp_lt (off := 62) (tgt := 91) (pc' := 32) ⟨by decide +kernel, by decide, rfl⟩ (fun h3 => ?_) (fun h3 => ?_)
    · have h := h.1 (qi_lt_t rfl (by decide) h3)
      refine z_iinc (i := 4) (z := 1) (q := 4) (pc' := 94) ⟨by decide +kernel, rfl⟩ rfl rfl (by decide) rfl ?_
      show Wz E Y_M_spreads 94 [(4, .int (x4 + Int32.ofInt 1)), (0, .ref 110), (1, .int x1), (2, .int x2), (3, .int x3)] [] σ K
      obtain ⟨hb4, h⟩ := h
      have h := h (x4 + Int32.ofInt 1) (ia_ok rfl (by decide) hb4)
      generalize (x4 + Int32.ofInt 1) = r4 at h ⊢
      refine z_goto (off := (-83)) (tgt := 11) (pc' := 97) ⟨by decide +kernel, by decide, rfl⟩ ?_
      refine z_sub [1, 2, 3, 4, 0] rfl ?_
      exact f11 _ _ _ _ _ h
    · have h := h.2 (qi_lt_f rfl (by decide) h3)
      refine z_aload_n (f := 0) (i := 0) (q := 0) (pc' := 33) ⟨by decide +kernel, rfl⟩ rfl rfl ?_
      refine w_getr (k := 110) (j := 15) (idx := 37) (pc' := 36) yfxe_13_37 ykfa_110_15 ⟨by decide +kernel, rfl⟩ ?_
      refine z_aload_n (f := 0) (i := 0) (q := 0) (pc' := 37) ⟨by decide +kernel, rfl⟩ rfl rfl ?_
      refine w_getr (k := 110) (j := 9) (idx := 19) (pc' := 40) yfxe_13_19 ykfa_110_9 ⟨by decide +kernel, rfl⟩ ?_
      refine z_iload (i := 4) (q := 4) (pc' := 42) ⟨by decide +kernel, rfl⟩ rfl ?_
      refine w_iald (k := 114) (n := n2) (pc' := 43) ykaa_114 (hi2) (hz2) ⟨by decide +kernel, rfl⟩ ?_
      refine z_bipush (i := 100) (v := 100) (pc' := 45) ⟨by decide +kernel, rfl⟩ (by decide) ?_
      refine z_isub (pc' := 46) ⟨by decide +kernel, rfl⟩ ?_
      obtain ⟨hb5, h⟩ := h
      have h := h ((σ.1 114 n2) - 100) (is_ok rfl (by decide) hb5)
      generalize ((σ.1 114 n2) - 100) = r5 at h ⊢
      obtain ⟨n6, hi6, hz6, h⟩ := h
      refine w_zald (k := 120) (n := n6) (pc' := 47) ykaa_120 (hi6) (hz6) ⟨by decide +kernel, rfl⟩ ?_
      refine z_if_eq (off := 44) (tgt := 91) (pc' := 50) ⟨by decide +kernel, by decide, rfl⟩ (fun h7 => ?_) (fun h7 => ?_)
      · have h := h.1 (qi_eq_t rfl (by decide) h7)
        refine z_iinc (i := 4) (z := 1) (q := 4) (pc' := 94) ⟨by decide +kernel, rfl⟩ rfl rfl (by decide) rfl ?_
        show Wz E Y_M_spreads 94 [(4, .int (x4 + Int32.ofInt 1)), (0, .ref 110), (1, .int x1), (2, .int x2), (3, .int x3)] [] σ K
        obtain ⟨hb8, h⟩ := h
        have h := h (x4 + Int32.ofInt 1) (ia_ok rfl (by decide) hb8)
        generalize (x4 + Int32.ofInt 1) = r8 at h ⊢
        refine z_goto (off := (-83)) (tgt := 11) (pc' := 97) ⟨by decide +kernel, by decide, rfl⟩ ?_
        refine z_sub [1, 2, 3, 4, 0] rfl ?_
        exact f11 _ _ _ _ _ h
      · have h := h.2 (qi_eq_f rfl (by decide) h7)
        refine z_aload_n (f := 0) (i := 0) (q := 0) (pc' := 51) ⟨by decide +kernel, rfl⟩ rfl rfl ?_
        refine w_getr (k := 110) (j := 15) (idx := 37) (pc' := 54) yfxe_13_37 ykfa_110_15 ⟨by decide +kernel, rfl⟩ ?_
        refine z_aload_n (f := 0) (i := 0) (q := 0) (pc' := 55) ⟨by decide +kernel, rfl⟩ rfl rfl ?_
        refine w_getr (k := 110) (j := 10) (idx := 22) (pc' := 58) yfxe_13_22 ykfa_110_10 ⟨by decide +kernel, rfl⟩ ?_
        refine z_iload (i := 4) (q := 4) (pc' := 60) ⟨by decide +kernel, rfl⟩ rfl ?_
        refine w_iald (k := 115) (n := n2) (pc' := 61) ykaa_115 (hi2) (hz2) ⟨by decide +kernel, rfl⟩ ?_
        obtain ⟨n9, hi9, hz9, h⟩ := h
        refine w_zald (k := 120) (n := n9) (pc' := 62) ykaa_120 (hi9) (hz9) ⟨by decide +kernel, rfl⟩ ?_
        refine z_if_ne (off := 29) (tgt := 91) (pc' := 65) ⟨by decide +kernel, by decide, rfl⟩ (fun h10 => ?_) (fun h10 => ?_)
        · have h := h.2 (qi_ne_t rfl (by decide) h10)
          refine z_iinc (i := 4) (z := 1) (q := 4) (pc' := 94) ⟨by decide +kernel, rfl⟩ rfl rfl (by decide) rfl ?_
          show Wz E Y_M_spreads 94 [(4, .int (x4 + Int32.ofInt 1)), (0, .ref 110), (1, .int x1), (2, .int x2), (3, .int x3)] [] σ K
          obtain ⟨hb11, h⟩ := h
          have h := h (x4 + Int32.ofInt 1) (ia_ok rfl (by decide) hb11)
          generalize (x4 + Int32.ofInt 1) = r11 at h ⊢
          refine z_goto (off := (-83)) (tgt := 11) (pc' := 97) ⟨by decide +kernel, by decide, rfl⟩ ?_
          refine z_sub [1, 2, 3, 4, 0] rfl ?_
          exact f11 _ _ _ _ _ h
        · have h := h.1 (qi_ne_f rfl (by decide) h10)
          refine z_aload_n (f := 0) (i := 0) (q := 0) (pc' := 66) ⟨by decide +kernel, rfl⟩ rfl rfl ?_
          refine z_iload (i := 4) (q := 4) (pc' := 68) ⟨by decide +kernel, rfl⟩ rfl ?_
          refine z_iload_n (f := 1) (i := 1) (q := 1) (pc' := 69) ⟨by decide +kernel, rfl⟩ rfl rfl ?_
          refine z_iload_n (f := 2) (i := 2) (q := 2) (pc' := 70) ⟨by decide +kernel, rfl⟩ rfl rfl ?_
          refine w_invV (Z := Y_M_standsAt) (idx := 432) (kb := 110) (As := [.int x4, .int x1, .int x2]) (rest := []) (pc' := 73) cl_13_432 rfl ⟨rfl, rfl⟩ ykfa_110_0 rfl ⟨⟨by decide, by decide⟩, rfl, rfl⟩ ⟨by decide +kernel, rfl⟩ rfl rfl (Nat.le_of_ble_eq_true rfl) rfl rfl ?_
          refine sF_M_standsAt h (fun v12 σ12 h => ?_)
          show Wz E Y_M_spreads 73 [(0, .ref 110), (1, .int x1), (2, .int x2), (3, .int x3), (4, .int x4)] [.int v12] σ12 K
          refine z_if_eq (off := 18) (tgt := 91) (pc' := 76) ⟨by decide +kernel, by decide, rfl⟩ (fun h13 => ?_) (fun h13 => ?_)
          · have h := h.1 (qi_eq_t rfl (by decide) h13)
            refine z_iinc (i := 4) (z := 1) (q := 4) (pc' := 94) ⟨by decide +kernel, rfl⟩ rfl rfl (by decide) rfl ?_
            show Wz E Y_M_spreads 94 [(4, .int (x4 + Int32.ofInt 1)), (0, .ref 110), (1, .int x1), (2, .int x2), (3, .int x3)] [] σ12 K
            obtain ⟨hb14, h⟩ := h
            have h := h (x4 + Int32.ofInt 1) (ia_ok rfl (by decide) hb14)
            generalize (x4 + Int32.ofInt 1) = r14 at h ⊢
            refine z_goto (off := (-83)) (tgt := 11) (pc' := 97) ⟨by decide +kernel, by decide, rfl⟩ ?_
            refine z_sub [1, 2, 3, 4, 0] rfl ?_
            exact f11 _ _ _ _ _ h
          · have h := h.2 (qi_eq_f rfl (by decide) h13)
            refine z_aload_n (f := 0) (i := 0) (q := 0) (pc' := 77) ⟨by decide +kernel, rfl⟩ rfl rfl ?_
            refine w_getr (k := 110) (j := 15) (idx := 37) (pc' := 80) yfxe_13_37 ykfa_110_15 ⟨by decide +kernel, rfl⟩ ?_
            refine z_aload_n (f := 0) (i := 0) (q := 0) (pc' := 81) ⟨by decide +kernel, rfl⟩ rfl rfl ?_
            refine w_getr (k := 110) (j := 10) (idx := 22) (pc' := 84) yfxe_13_22 ykfa_110_10 ⟨by decide +kernel, rfl⟩ ?_
            refine z_iload (i := 4) (q := 4) (pc' := 86) ⟨by decide +kernel, rfl⟩ rfl ?_
            refine w_iald (k := 115) (n := n2) (pc' := 87) ykaa_115 (hi2) (hz2) ⟨by decide +kernel, rfl⟩ ?_
            refine z_iconst (i := 1) (v := 1) (pc' := 88) ⟨by decide +kernel, rfl⟩ (by decide) ?_
            obtain ⟨n15, hi15, hz15, h⟩ := h
            refine w_zast (k := 120) (n := n15) (pc' := 89) ykaa_120 (hi15) (hz15) (by decide) ⟨by decide +kernel, rfl⟩ ?_
            generalize hs16 : zI σ12 120 n15 1 = σ16
            have h := h σ16 hs16
            refine z_iconst (i := 1) (v := 1) (pc' := 90) ⟨by decide +kernel, rfl⟩ (by decide) ?_
            refine z_istore_n (f := 3) (i := 3) (pc' := 91) ⟨by decide +kernel, rfl⟩ rfl (by decide) rfl ?_
            show Wz E Y_M_spreads 91 [(3, .int 1), (0, .ref 110), (1, .int x1), (2, .int x2), (4, .int x4)] [] σ16 K
            refine z_iinc (i := 4) (z := 1) (q := 4) (pc' := 94) ⟨by decide +kernel, rfl⟩ rfl rfl (by decide) rfl ?_
            show Wz E Y_M_spreads 94 [(4, .int (x4 + Int32.ofInt 1)), (3, .int 1), (0, .ref 110), (1, .int x1), (2, .int x2)] [] σ16 K
            obtain ⟨hb17, h⟩ := h
            have h := h (x4 + Int32.ofInt 1) (ia_ok rfl (by decide) hb17)
            generalize (x4 + Int32.ofInt 1) = r17 at h ⊢
            refine z_goto (off := (-83)) (tgt := 11) (pc' := 97) ⟨by decide +kernel, by decide, rfl⟩ ?_
            refine z_sub [2, 3, 4, 1, 0] rfl ?_
            exact f11 _ _ _ _ _ h
noncomputable def WL_M_spreads : Nat → (Int32 → Int32 → Int32 → zS → (Unit → zS → Prop) → Prop) × (Int32 → Int32 → Int32 → Int32 → zS → (Unit → zS → Prop) → Prop)
  | 0 => (fun _ _ _ _ _ => False, fun _ _ _ _ _ _ => False)
  | n + 1 => (WB_M_spreads_2 (WL_M_spreads n).1 (WL_M_spreads n).2, WB_M_spreads_11 (WL_M_spreads n).1 (WL_M_spreads n).2)
theorem wl_M_spreads_2 {n : Nat} {x1 : Int32} {x2 : Int32} {x3 : Int32} {σ : zS} {Q : Unit → zS → Prop} (h : WB_M_spreads_2 (WL_M_spreads n).1 (WL_M_spreads n).2 x1 x2 x3 σ Q) : (WL_M_spreads (n + 1)).1 x1 x2 x3 σ Q := h
theorem wl_M_spreads_11 {n : Nat} {x1 : Int32} {x2 : Int32} {x3 : Int32} {x4 : Int32} {σ : zS} {Q : Unit → zS → Prop} (h : WB_M_spreads_11 (WL_M_spreads n).1 (WL_M_spreads n).2 x1 x2 x3 x4 σ Q) : (WL_M_spreads (n + 1)).2 x1 x2 x3 x4 σ Q := h
theorem sl_M_spreads {E : xV} {K : zKt} {Q : Unit → zS → Prop} (k : ∀ v s, Q v s → K none s) : ∀ n, (∀ (x1 : Int32) (x2 : Int32) (x3 : Int32) (σ : zS), (WL_M_spreads n).1 x1 x2 x3 σ Q → Wz E Y_M_spreads 2 [(0, .ref 110), (1, .int x1), (2, .int x2), (3, .int x3)] [] σ K) ∧ (∀ (x1 : Int32) (x2 : Int32) (x3 : Int32) (x4 : Int32) (σ : zS), (WL_M_spreads n).2 x1 x2 x3 x4 σ Q → Wz E Y_M_spreads 11 [(0, .ref 110), (1, .int x1), (2, .int x2), (3, .int x3), (4, .int x4)] [] σ K)
  | 0 => ⟨fun _ _ _ _ h => h.elim, fun _ _ _ _ _ h => h.elim⟩
  | n + 1 => by
    have i := sl_M_spreads (E := E)  k n
    exact ⟨fun _ _ _ _ h => sh_M_spreads_2 i.1 i.2 k h, fun _ _ _ _ _ h => sh_M_spreads_11 i.1 i.2 k h⟩
noncomputable def W_M_spreads (a1 : Int32) (a2 : Int32) (σ : zS) (Q : Unit → zS → Prop) : Prop := (WL_M_spreads fuF).1 a1 a2 1 σ Q
theorem sF_M_spreads {E : xV} {σ : zS} {K : zKt} {a1 : Int32} {a2 : Int32} {Q : Unit → zS → Prop} (h : W_M_spreads a1 a2 σ Q) (k : ∀ v s, Q v s → K none s) : Cz E Y_M_spreads [.ref 110, .int a1, .int a2] σ K := by
  refine z_entry (by decide) (fun a => by rw [sl_len]; exact Nat.le_of_ble_eq_true rfl) rfl ?_
  unfold W_M_spreads at h
  refine z_iconst (i := 1) (v := 1) (pc' := 1) ⟨by decide +kernel, rfl⟩ (by decide) ?_
  refine z_istore_n (f := 3) (i := 3) (pc' := 2) ⟨by decide +kernel, rfl⟩ rfl (by decide) rfl ?_
  show Wz E Y_M_spreads 2 [(3, .int 1), (0, .ref 110), (1, .int a1), (2, .int a2)] [] σ K
  refine z_sub [1, 2, 3, 0] rfl ?_
  exact (sl_M_spreads k fuF).1 _ _ _ _ h
noncomputable def WB_M_reaches_3 (F3 : Int32 → Int32 → Int32 → Int32 → zS → (Unit → zS → Prop) → Prop) (F27 : Int32 → Int32 → Int32 → Int32 → zS → (Unit → zS → Prop) → Prop) (x1 : Int32) (x2 : Int32) (x3 : Int32) (x4 : Int32) (σ : zS) (Q : Unit → zS → Prop) : Prop := (16 ≤ (Int32.toInt x4) → (F27 x1 x2 x3 0 σ Q)) ∧ (¬ 16 ≤ (Int32.toInt x4) → (∃ n2 : Nat, Int32.toInt x4 = (n2 : Int) ∧ n2 < 16 ∧ (∀ σ3 : zS, zI σ 120 n2 0 = σ3 → ((-2147483648 ≤ (Int32.toInt x4) + 1 ∧ (Int32.toInt x4) + 1 ≤ 2147483647) ∧ ∀ r4 : Int32, r4.toInt = (Int32.toInt x4) + 1 → (F3 x1 x2 x3 r4 σ3 Q)))))
theorem sh_M_reaches_3 {E : xV} {σ : zS} {K : zKt} {F3 : Int32 → Int32 → Int32 → Int32 → zS → (Unit → zS → Prop) → Prop} {F27 : Int32 → Int32 → Int32 → Int32 → zS → (Unit → zS → Prop) → Prop} {x1 : Int32} {x2 : Int32} {x3 : Int32} {x4 : Int32} {Q : Unit → zS → Prop} (f3 : ∀ (x1 : Int32) (x2 : Int32) (x3 : Int32) (x4 : Int32) (σ : zS), F3 x1 x2 x3 x4 σ Q → Wz E Y_M_reaches 3 [(0, .ref 110), (1, .int x1), (2, .int x2), (3, .int x3), (4, .int x4)] [] σ K) (f27 : ∀ (x1 : Int32) (x2 : Int32) (x3 : Int32) (x4 : Int32) (σ : zS), F27 x1 x2 x3 x4 σ Q → Wz E Y_M_reaches 27 [(0, .ref 110), (1, .int x1), (2, .int x2), (3, .int x3), (4, .int x4)] [] σ K) (k : ∀ v s, Q v s → K none s) (h : WB_M_reaches_3 F3 F27 x1 x2 x3 x4 σ Q) : Wz E Y_M_reaches 3 [(0, .ref 110), (1, .int x1), (2, .int x2), (3, .int x3), (4, .int x4)] [] σ K := by
  unfold WB_M_reaches_3 at h
  refine z_iload (i := 4) (q := 4) (pc' := 5) ⟨by decide +kernel, rfl⟩ rfl ?_
  refine z_bipush (i := 16) (v := 16) (pc' := 7) ⟨by decide +kernel, rfl⟩ (by decide) ?_
  refine z_icmp_ge (off := 17) (tgt := 24) (pc' := 10) ⟨by decide +kernel, by decide, rfl⟩ (fun h1 => ?_) (fun h1 => ?_)
  · have h := h.1 (qi_ge_t rfl (by decide) h1)
    refine z_iconst (i := 0) (v := 0) (pc' := 25) ⟨by decide +kernel, rfl⟩ (by decide) ?_
    refine z_istore (i := 4) (pc' := 27) ⟨by decide +kernel, rfl⟩ (by decide) rfl ?_
    show Wz E Y_M_reaches 27 [(4, .int 0), (0, .ref 110), (1, .int x1), (2, .int x2), (3, .int x3)] [] σ K
    refine z_sub [1, 2, 3, 4, 0] rfl ?_
    exact f27 _ _ _ _ _ h
  · have h := h.2 (qi_ge_f rfl (by decide) h1)
    refine z_aload_n (f := 0) (i := 0) (q := 0) (pc' := 11) ⟨by decide +kernel, rfl⟩ rfl rfl ?_
    refine w_getr (k := 110) (j := 15) (idx := 37) (pc' := 14) yfxe_13_37 ykfa_110_15 ⟨by decide +kernel, rfl⟩ ?_
    refine z_iload (i := 4) (q := 4) (pc' := 16) ⟨by decide +kernel, rfl⟩ rfl ?_
    refine z_iconst (i := 0) (v := 0) (pc' := 17) ⟨by decide +kernel, rfl⟩ (by decide) ?_
    obtain ⟨n2, hi2, hz2, h⟩ := h
    refine w_zast (k := 120) (n := n2) (pc' := 18) ykaa_120 (hi2) (hz2) (by decide) ⟨by decide +kernel, rfl⟩ ?_
    generalize hs3 : zI σ 120 n2 0 = σ3
    have h := h σ3 hs3
    refine z_iinc (i := 4) (z := 1) (q := 4) (pc' := 21) ⟨by decide +kernel, rfl⟩ rfl rfl (by decide) rfl ?_
    show Wz E Y_M_reaches 21 [(4, .int (x4 + Int32.ofInt 1)), (0, .ref 110), (1, .int x1), (2, .int x2), (3, .int x3)] [] σ3 K
    obtain ⟨hb4, h⟩ := h
    have h := h (x4 + Int32.ofInt 1) (ia_ok rfl (by decide) hb4)
    generalize (x4 + Int32.ofInt 1) = r4 at h ⊢
    refine z_goto (off := (-18)) (tgt := 3) (pc' := 24) ⟨by decide +kernel, by decide, rfl⟩ ?_
    refine z_sub [1, 2, 3, 4, 0] rfl ?_
    exact f3 _ _ _ _ _ h
noncomputable def WB_M_reaches_27 (F3 : Int32 → Int32 → Int32 → Int32 → zS → (Unit → zS → Prop) → Prop) (F27 : Int32 → Int32 → Int32 → Int32 → zS → (Unit → zS → Prop) → Prop) (x1 : Int32) (x2 : Int32) (x3 : Int32) (x4 : Int32) (σ : zS) (Q : Unit → zS → Prop) : Prop := ((Int32.toInt (σ.1 110 8)) ≤ (Int32.toInt x4) → (W_M_spreads x2 x3 σ (fun _ σ2 => Q () σ2))) ∧ (¬ (Int32.toInt (σ.1 110 8)) ≤ (Int32.toInt x4) → (∃ n3 : Nat, Int32.toInt x4 = (n3 : Int) ∧ n3 < 201 ∧ (((Int32.toInt (σ.1 114 n3)) = (Int32.toInt x1) → (W_M_standsAt x4 x2 x3 σ (fun v6 σ6 => ((Int32.toInt v6) = 0 → ((-2147483648 ≤ (Int32.toInt x4) + 1 ∧ (Int32.toInt x4) + 1 ≤ 2147483647) ∧ ∀ r8 : Int32, r8.toInt = (Int32.toInt x4) + 1 → (F27 x1 x2 x3 r8 σ6 Q))) ∧ (¬ (Int32.toInt v6) = 0 → (∃ n9 : Nat, Int32.toInt (σ6.1 115 n3) = (n9 : Int) ∧ n9 < 16 ∧ (∀ σ10 : zS, zI σ6 120 n9 1 = σ10 → ((-2147483648 ≤ (Int32.toInt x4) + 1 ∧ (Int32.toInt x4) + 1 ≤ 2147483647) ∧ ∀ r11 : Int32, r11.toInt = (Int32.toInt x4) + 1 → (F27 x1 x2 x3 r11 σ10 Q)))))))) ∧ (¬ (Int32.toInt (σ.1 114 n3)) = (Int32.toInt x1) → ((-2147483648 ≤ (Int32.toInt x4) + 1 ∧ (Int32.toInt x4) + 1 ≤ 2147483647) ∧ ∀ r5 : Int32, r5.toInt = (Int32.toInt x4) + 1 → (F27 x1 x2 x3 r5 σ Q))))))
theorem sh_M_reaches_27 {E : xV} {σ : zS} {K : zKt} {F3 : Int32 → Int32 → Int32 → Int32 → zS → (Unit → zS → Prop) → Prop} {F27 : Int32 → Int32 → Int32 → Int32 → zS → (Unit → zS → Prop) → Prop} {x1 : Int32} {x2 : Int32} {x3 : Int32} {x4 : Int32} {Q : Unit → zS → Prop} (f3 : ∀ (x1 : Int32) (x2 : Int32) (x3 : Int32) (x4 : Int32) (σ : zS), F3 x1 x2 x3 x4 σ Q → Wz E Y_M_reaches 3 [(0, .ref 110), (1, .int x1), (2, .int x2), (3, .int x3), (4, .int x4)] [] σ K) (f27 : ∀ (x1 : Int32) (x2 : Int32) (x3 : Int32) (x4 : Int32) (σ : zS), F27 x1 x2 x3 x4 σ Q → Wz E Y_M_reaches 27 [(0, .ref 110), (1, .int x1), (2, .int x2), (3, .int x3), (4, .int x4)] [] σ K) (k : ∀ v s, Q v s → K none s) (h : WB_M_reaches_27 F3 F27 x1 x2 x3 x4 σ Q) : Wz E Y_M_reaches 27 [(0, .ref 110), (1, .int x1), (2, .int x2), (3, .int x3), (4, .int x4)] [] σ K := by
  unfold WB_M_reaches_27 at h
  refine z_iload (i := 4) (q := 4) (pc' := 29) ⟨by decide +kernel, rfl⟩ rfl ?_
  refine z_aload_n (f := 0) (i := 0) (q := 0) (pc' := 30) ⟨by decide +kernel, rfl⟩ rfl rfl ?_
  refine w_geti (k := 110) (j := 8) (idx := 429) (pc' := 33) yfxe_13_429 ykfa_110_8 ⟨by decide +kernel, rfl⟩ ?_
  refine z_icmp_ge (off := 44) (tgt := 77) (pc' := 36) ⟨by decide +kernel, by decide, rfl⟩ (fun h1 => ?_) (fun h1 => ?_)
  · have h := h.1 (qi_ge_t rfl rfl h1)
    refine z_aload_n (f := 0) (i := 0) (q := 0) (pc' := 78) ⟨by decide +kernel, rfl⟩ rfl rfl ?_
    refine z_iload_n (f := 2) (i := 2) (q := 2) (pc' := 79) ⟨by decide +kernel, rfl⟩ rfl rfl ?_
    refine z_iload_n (f := 3) (i := 3) (q := 3) (pc' := 80) ⟨by decide +kernel, rfl⟩ rfl rfl ?_
    refine w_invV (Z := Y_M_spreads) (idx := 436) (kb := 110) (As := [.int x2, .int x3]) (rest := []) (pc' := 83) cl_13_436 rfl ⟨rfl, rfl⟩ ykfa_110_0 rfl ⟨⟨by decide, by decide⟩, rfl, rfl⟩ ⟨by decide +kernel, rfl⟩ rfl rfl (Nat.le_of_ble_eq_true rfl) rfl rfl ?_
    refine sF_M_spreads h (fun _ σ2 h => ?_)
    show Wz E Y_M_reaches 83 [(0, .ref 110), (1, .int x1), (2, .int x2), (3, .int x3), (4, .int x4)] [] σ2 K
    exact z_vret rfl (by decide +kernel) (k _ _ h)
  · have h := h.2 (qi_ge_f rfl rfl h1)
    refine z_aload_n (f := 0) (i := 0) (q := 0) (pc' := 37) ⟨by decide +kernel, rfl⟩ rfl rfl ?_
    refine w_getr (k := 110) (j := 9) (idx := 19) (pc' := 40) yfxe_13_19 ykfa_110_9 ⟨by decide +kernel, rfl⟩ ?_
    refine z_iload (i := 4) (q := 4) (pc' := 42) ⟨by decide +kernel, rfl⟩ rfl ?_
    obtain ⟨n3, hi3, hz3, h⟩ := h
    refine w_iald (k := 114) (n := n3) (pc' := 43) ykaa_114 (hi3) (hz3) ⟨by decide +kernel, rfl⟩ ?_
    refine z_iload_n (f := 1) (i := 1) (q := 1) (pc' := 44) ⟨by decide +kernel, rfl⟩ rfl rfl ?_
    refine z_icmp_ne (off := 27) (tgt := 71) (pc' := 47) ⟨by decide +kernel, by decide, rfl⟩ (fun h4 => ?_) (fun h4 => ?_)
    · have h := h.2 (qi_ne_t rfl rfl h4)
      refine z_iinc (i := 4) (z := 1) (q := 4) (pc' := 74) ⟨by decide +kernel, rfl⟩ rfl rfl (by decide) rfl ?_
      show Wz E Y_M_reaches 74 [(4, .int (x4 + Int32.ofInt 1)), (0, .ref 110), (1, .int x1), (2, .int x2), (3, .int x3)] [] σ K
      obtain ⟨hb5, h⟩ := h
      have h := h (x4 + Int32.ofInt 1) (ia_ok rfl (by decide) hb5)
      generalize (x4 + Int32.ofInt 1) = r5 at h ⊢
      refine z_goto (off := (-47)) (tgt := 27) (pc' := 77) ⟨by decide +kernel, by decide, rfl⟩ ?_
      refine z_sub [1, 2, 3, 4, 0] rfl ?_
      exact f27 _ _ _ _ _ h
    · have h := h.1 (qi_ne_f rfl rfl h4)
      refine z_aload_n (f := 0) (i := 0) (q := 0) (pc' := 48) ⟨by decide +kernel, rfl⟩ rfl rfl ?_
      refine z_iload (i := 4) (q := 4) (pc' := 50) ⟨by decide +kernel, rfl⟩ rfl ?_
      refine z_iload_n (f := 2) (i := 2) (q := 2) (pc' := 51) ⟨by decide +kernel, rfl⟩ rfl rfl ?_
      refine z_iload_n (f := 3) (i := 3) (q := 3) (pc' := 52) ⟨by decide +kernel, rfl⟩ rfl rfl ?_
      refine w_invV (Z := Y_M_standsAt) (idx := 432) (kb := 110) (As := [.int x4, .int x2, .int x3]) (rest := []) (pc' := 55) cl_13_432 rfl ⟨rfl, rfl⟩ ykfa_110_0 rfl ⟨⟨by decide, by decide⟩, rfl, rfl⟩ ⟨by decide +kernel, rfl⟩ rfl rfl (Nat.le_of_ble_eq_true rfl) rfl rfl ?_
      refine sF_M_standsAt h (fun v6 σ6 h => ?_)
      show Wz E Y_M_reaches 55 [(0, .ref 110), (1, .int x1), (2, .int x2), (3, .int x3), (4, .int x4)] [.int v6] σ6 K
      refine z_if_eq (off := 16) (tgt := 71) (pc' := 58) ⟨by decide +kernel, by decide, rfl⟩ (fun h7 => ?_) (fun h7 => ?_)
      · have h := h.1 (qi_eq_t rfl (by decide) h7)
        refine z_iinc (i := 4) (z := 1) (q := 4) (pc' := 74) ⟨by decide +kernel, rfl⟩ rfl rfl (by decide) rfl ?_
        show Wz E Y_M_reaches 74 [(4, .int (x4 + Int32.ofInt 1)), (0, .ref 110), (1, .int x1), (2, .int x2), (3, .int x3)] [] σ6 K
        obtain ⟨hb8, h⟩ := h
        have h := h (x4 + Int32.ofInt 1) (ia_ok rfl (by decide) hb8)
        generalize (x4 + Int32.ofInt 1) = r8 at h ⊢
        refine z_goto (off := (-47)) (tgt := 27) (pc' := 77) ⟨by decide +kernel, by decide, rfl⟩ ?_
        refine z_sub [1, 2, 3, 4, 0] rfl ?_
        exact f27 _ _ _ _ _ h
      · have h := h.2 (qi_eq_f rfl (by decide) h7)
        refine z_aload_n (f := 0) (i := 0) (q := 0) (pc' := 59) ⟨by decide +kernel, rfl⟩ rfl rfl ?_
        refine w_getr (k := 110) (j := 15) (idx := 37) (pc' := 62) yfxe_13_37 ykfa_110_15 ⟨by decide +kernel, rfl⟩ ?_
        refine z_aload_n (f := 0) (i := 0) (q := 0) (pc' := 63) ⟨by decide +kernel, rfl⟩ rfl rfl ?_
        refine w_getr (k := 110) (j := 10) (idx := 22) (pc' := 66) yfxe_13_22 ykfa_110_10 ⟨by decide +kernel, rfl⟩ ?_
        refine z_iload (i := 4) (q := 4) (pc' := 68) ⟨by decide +kernel, rfl⟩ rfl ?_
        refine w_iald (k := 115) (n := n3) (pc' := 69) ykaa_115 (hi3) (hz3) ⟨by decide +kernel, rfl⟩ ?_
        refine z_iconst (i := 1) (v := 1) (pc' := 70) ⟨by decide +kernel, rfl⟩ (by decide) ?_
        obtain ⟨n9, hi9, hz9, h⟩ := h
        refine w_zast (k := 120) (n := n9) (pc' := 71) ykaa_120 (hi9) (hz9) (by decide) ⟨by decide +kernel, rfl⟩ ?_
        generalize hs10 : zI σ6 120 n9 1 = σ10
        have h := h σ10 hs10
        refine z_iinc (i := 4) (z := 1) (q := 4) (pc' := 74) ⟨by decide +kernel, rfl⟩ rfl rfl (by decide) rfl ?_
        show Wz E Y_M_reaches 74 [(4, .int (x4 + Int32.ofInt 1)), (0, .ref 110), (1, .int x1), (2, .int x2), (3, .int x3)] [] σ10 K
        obtain ⟨hb11, h⟩ := h
        have h := h (x4 + Int32.ofInt 1) (ia_ok rfl (by decide) hb11)
        generalize (x4 + Int32.ofInt 1) = r11 at h ⊢
        refine z_goto (off := (-47)) (tgt := 27) (pc' := 77) ⟨by decide +kernel, by decide, rfl⟩ ?_
        refine z_sub [1, 2, 3, 4, 0] rfl ?_
        exact f27 _ _ _ _ _ h
noncomputable def WL_M_reaches : Nat → (Int32 → Int32 → Int32 → Int32 → zS → (Unit → zS → Prop) → Prop) × (Int32 → Int32 → Int32 → Int32 → zS → (Unit → zS → Prop) → Prop)
  | 0 => (fun _ _ _ _ _ _ => False, fun _ _ _ _ _ _ => False)
  | n + 1 => (WB_M_reaches_3 (WL_M_reaches n).1 (WL_M_reaches n).2, WB_M_reaches_27 (WL_M_reaches n).1 (WL_M_reaches n).2)
theorem wl_M_reaches_3 {n : Nat} {x1 : Int32} {x2 : Int32} {x3 : Int32} {x4 : Int32} {σ : zS} {Q : Unit → zS → Prop} (h : WB_M_reaches_3 (WL_M_reaches n).1 (WL_M_reaches n).2 x1 x2 x3 x4 σ Q) : (WL_M_reaches (n + 1)).1 x1 x2 x3 x4 σ Q := h
theorem wl_M_reaches_27 {n : Nat} {x1 : Int32} {x2 : Int32} {x3 : Int32} {x4 : Int32} {σ : zS} {Q : Unit → zS → Prop} (h : WB_M_reaches_27 (WL_M_reaches n).1 (WL_M_reaches n).2 x1 x2 x3 x4 σ Q) : (WL_M_reaches (n + 1)).2 x1 x2 x3 x4 σ Q := h
theorem sl_M_reaches {E : xV} {K : zKt} {Q : Unit → zS → Prop} (k : ∀ v s, Q v s → K none s) : ∀ n, (∀ (x1 : Int32) (x2 : Int32) (x3 : Int32) (x4 : Int32) (σ : zS), (WL_M_reaches n).1 x1 x2 x3 x4 σ Q → Wz E Y_M_reaches 3 [(0, .ref 110), (1, .int x1), (2, .int x2), (3, .int x3), (4, .int x4)] [] σ K) ∧ (∀ (x1 : Int32) (x2 : Int32) (x3 : Int32) (x4 : Int32) (σ : zS), (WL_M_reaches n).2 x1 x2 x3 x4 σ Q → Wz E Y_M_reaches 27 [(0, .ref 110), (1, .int x1), (2, .int x2), (3, .int x3), (4, .int x4)] [] σ K)
  | 0 => ⟨fun _ _ _ _ _ h => h.elim, fun _ _ _ _ _ h => h.elim⟩
  | n + 1 => by
    have i := sl_M_reaches (E := E)  k n
    exact ⟨fun _ _ _ _ _ h => sh_M_reaches_3 i.1 i.2 k h, fun _ _ _ _ _ h => sh_M_reaches_27 i.1 i.2 k h⟩
noncomputable def W_M_reaches (a1 : Int32) (a2 : Int32) (a3 : Int32) (σ : zS) (Q : Unit → zS → Prop) : Prop := (WL_M_reaches fuF).1 a1 a2 a3 0 σ Q
theorem sF_M_reaches {E : xV} {σ : zS} {K : zKt} {a1 : Int32} {a2 : Int32} {a3 : Int32} {Q : Unit → zS → Prop} (h : W_M_reaches a1 a2 a3 σ Q) (k : ∀ v s, Q v s → K none s) : Cz E Y_M_reaches [.ref 110, .int a1, .int a2, .int a3] σ K := by
  refine z_entry (by decide) (fun a => by rw [sl_len]; exact Nat.le_of_ble_eq_true rfl) rfl ?_
  unfold W_M_reaches at h
  refine z_iconst (i := 0) (v := 0) (pc' := 1) ⟨by decide +kernel, rfl⟩ (by decide) ?_
  refine z_istore (i := 4) (pc' := 3) ⟨by decide +kernel, rfl⟩ (by decide) rfl ?_
  show Wz E Y_M_reaches 3 [(4, .int 0), (0, .ref 110), (1, .int a1), (2, .int a2), (3, .int a3)] [] σ K
  refine z_sub [1, 2, 3, 4, 0] rfl ?_
  exact (sl_M_reaches k fuF).1 _ _ _ _ _ h

end
