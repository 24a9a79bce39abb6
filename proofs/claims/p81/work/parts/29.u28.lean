section
theorem yfxe_10_22 : FxE "RightsHouse$Things" 22 7 4 := fx_e (m := 25) (t := 3) rfl (by decide) (by decide +kernel)
theorem yfxe_10_31 : FxE "RightsHouse$Things" 31 7 0 := fx_e (m := 25) (t := 0) rfl (by decide) (by decide +kernel)
theorem yfxe_11_27 : FxE "RightsHouse$Who" 27 8 0 := fx_e (m := 9) (t := 0) rfl (by decide) (by decide +kernel)
theorem yfxe_11_31 : FxE "RightsHouse$Who" 31 8 1 := fx_e (m := 9) (t := 0) rfl (by decide) (by decide +kernel)
theorem yfxe_1_100 : FxE "RightsHouse" 100 10 1 := fx_e (m := 1) (t := 0) rfl (by decide) (by decide +kernel)
theorem yfxe_1_246 : FxE "RightsHouse" 246 5 0 := fx_e (m := 1) (t := 0) rfl (by decide) (by decide +kernel)
theorem yfxe_1_41 : FxE "RightsHouse" 41 10 10 := fx_e (m := 1) (t := 3) rfl (by decide) (by decide +kernel)
theorem yfxe_1_9 : FxE "RightsHouse" 9 10 0 := fx_e (m := 1) (t := 3) rfl (by decide) (by decide +kernel)
theorem yfxe_7_11 : FxE "RightsHouse$Policies" 11 5 6 := fx_e (m := 52) (t := 3) rfl (by decide) (by decide +kernel)
theorem yfxe_7_17 : FxE "RightsHouse$Policies" 17 5 7 := fx_e (m := 52) (t := 3) rfl (by decide) (by decide +kernel)
theorem yfxe_7_21 : FxE "RightsHouse$Policies" 21 5 1 := fx_e (m := 52) (t := 3) rfl (by decide) (by decide +kernel)
theorem yfxe_7_25 : FxE "RightsHouse$Policies" 25 5 2 := fx_e (m := 52) (t := 3) rfl (by decide) (by decide +kernel)
theorem yfxe_7_28 : FxE "RightsHouse$Policies" 28 5 3 := fx_e (m := 52) (t := 3) rfl (by decide) (by decide +kernel)
theorem yfxe_7_31 : FxE "RightsHouse$Policies" 31 5 4 := fx_e (m := 52) (t := 3) rfl (by decide) (by decide +kernel)
theorem yfxe_7_34 : FxE "RightsHouse$Policies" 34 5 5 := fx_e (m := 52) (t := 3) rfl (by decide) (by decide +kernel)
theorem yfxe_7_38 : FxE "RightsHouse$Policies" 38 5 8 := fx_e (m := 52) (t := 3) rfl (by decide) (by decide +kernel)
theorem yfxe_7_41 : FxE "RightsHouse$Policies" 41 5 10 := fx_e (m := 52) (t := 3) rfl (by decide) (by decide +kernel)
theorem yfxe_7_44 : FxE "RightsHouse$Policies" 44 5 11 := fx_e (m := 52) (t := 3) rfl (by decide) (by decide +kernel)
theorem yfxe_7_47 : FxE "RightsHouse$Policies" 47 5 12 := fx_e (m := 52) (t := 3) rfl (by decide) (by decide +kernel)
theorem yfxe_7_56 : FxE "RightsHouse$Policies" 56 5 9 := fx_e (m := 52) (t := 0) rfl (by decide) (by decide +kernel)
theorem yfxe_7_63 : FxE "RightsHouse$Policies" 63 5 14 := fx_e (m := 52) (t := 0) rfl (by decide) (by decide +kernel)
theorem yfxe_7_66 : FxE "RightsHouse$Policies" 66 5 0 := fx_e (m := 52) (t := 0) rfl (by decide) (by decide +kernel)
theorem yfxe_7_69 : FxE "RightsHouse$Policies" 69 5 15 := fx_e (m := 52) (t := 0) rfl (by decide) (by decide +kernel)
theorem yfxe_7_80 : FxE "RightsHouse$Policies" 80 5 16 := fx_e (m := 52) (t := 0) rfl (by decide) (by decide +kernel)
theorem yfxe_7_86 : FxE "RightsHouse$Policies" 86 5 13 := fx_e (m := 52) (t := 0) rfl (by decide) (by decide +kernel)
theorem yfxi_1_100 : FxI "RightsHouse" 100 10 1 := fx_i (m := 1) rfl (by decide) (by decide +kernel)
theorem yfxi_7_56 : FxI "RightsHouse$Policies" 56 5 9 := fx_i (m := 52) rfl (by decide) (by decide +kernel)
theorem yfxi_7_63 : FxI "RightsHouse$Policies" 63 5 14 := fx_i (m := 52) rfl (by decide) (by decide +kernel)
theorem yfxi_7_66 : FxI "RightsHouse$Policies" 66 5 0 := fx_i (m := 52) rfl (by decide) (by decide +kernel)
theorem yfxi_7_69 : FxI "RightsHouse$Policies" 69 5 15 := fx_i (m := 52) rfl (by decide) (by decide +kernel)
theorem yfxi_7_80 : FxI "RightsHouse$Policies" 80 5 16 := fx_i (m := 52) rfl (by decide) (by decide +kernel)
theorem yfxi_7_86 : FxI "RightsHouse$Policies" 86 5 13 := fx_i (m := 52) rfl (by decide) (by decide +kernel)
theorem ykaa_1 : KaA 1 100 1200 := ka_a (by decide +kernel)
theorem ykaa_14 : KaA 14 102 40 := ka_a (by decide +kernel)
theorem ykaa_18 : KaA 18 100 8 := ka_a (by decide +kernel)
theorem ykaa_19 : KaA 19 100 8 := ka_a (by decide +kernel)
theorem ykaa_20 : KaA 20 100 2160 := ka_a (by decide +kernel)
theorem ykaa_21 : KaA 21 100 9600 := ka_a (by decide +kernel)
theorem ykaa_22 : KaA 22 101 9600 := ka_a (by decide +kernel)
theorem ykaa_23 : KaA 23 100 1200 := ka_a (by decide +kernel)
theorem ykaa_24 : KaA 24 100 1201 := ka_a (by decide +kernel)
theorem ykaa_25 : KaA 25 100 1201 := ka_a (by decide +kernel)
theorem ykaa_26 : KaA 26 101 1201 := ka_a (by decide +kernel)
theorem ykfa_0_0 : KfA 0 0 10 2 1 := kf_a (by decide) (by decide +kernel)
theorem ykfa_0_1 : KfA 0 1 10 0 0 := kf_a (by decide) (by decide +kernel)
theorem ykfa_0_10 : KfA 0 10 10 2 17 := kf_a (by decide) (by decide +kernel)
theorem ykfa_10_0 : KfA 10 0 7 0 0 := kf_a (by decide) (by decide +kernel)
theorem ykfa_10_4 : KfA 10 4 7 2 14 := kf_a (by decide) (by decide +kernel)
theorem ykfa_17_0 : KfA 17 0 5 0 0 := kf_a (by decide) (by decide +kernel)
theorem ykfa_17_1 : KfA 17 1 5 2 18 := kf_a (by decide) (by decide +kernel)
theorem ykfa_17_10 : KfA 17 10 5 2 24 := kf_a (by decide) (by decide +kernel)
theorem ykfa_17_11 : KfA 17 11 5 2 25 := kf_a (by decide) (by decide +kernel)
theorem ykfa_17_12 : KfA 17 12 5 2 26 := kf_a (by decide) (by decide +kernel)
theorem ykfa_17_13 : KfA 17 13 5 0 0 := kf_a (by decide) (by decide +kernel)
theorem ykfa_17_14 : KfA 17 14 5 0 0 := kf_a (by decide) (by decide +kernel)
theorem ykfa_17_15 : KfA 17 15 5 0 0 := kf_a (by decide) (by decide +kernel)
theorem ykfa_17_16 : KfA 17 16 5 0 0 := kf_a (by decide) (by decide +kernel)
theorem ykfa_17_2 : KfA 17 2 5 2 19 := kf_a (by decide) (by decide +kernel)
theorem ykfa_17_3 : KfA 17 3 5 2 20 := kf_a (by decide) (by decide +kernel)
theorem ykfa_17_4 : KfA 17 4 5 2 21 := kf_a (by decide) (by decide +kernel)
theorem ykfa_17_5 : KfA 17 5 5 2 22 := kf_a (by decide) (by decide +kernel)
theorem ykfa_17_6 : KfA 17 6 5 2 5 := kf_a (by decide) (by decide +kernel)
theorem ykfa_17_7 : KfA 17 7 5 2 10 := kf_a (by decide) (by decide +kernel)
theorem ykfa_17_8 : KfA 17 8 5 2 23 := kf_a (by decide) (by decide +kernel)
theorem ykfa_17_9 : KfA 17 9 5 0 0 := kf_a (by decide) (by decide +kernel)
theorem ykfa_5_1 : KfA 5 1 8 0 0 := kf_a (by decide) (by decide +kernel)
noncomputable def W_JS_isLatin1 (a0 : Nat) (σ : zS) (Q : Int32 → zS → Prop) : Prop := Q 1 σ
theorem sF_JS_isLatin1 {E : xV} {σ : zS} {K : zKt} {a0 : Nat} {Q : Int32 → zS → Prop} (hi : a0 < 21) (h : W_JS_isLatin1 a0 σ Q) (k : ∀ v s, Q v s → K (some (.int v)) s) : Cz E Y_JS_isLatin1 [.ref (1000 + a0)] σ K := by
  refine z_entry (by decide) (fun a => by rw [sl_len]; exact Nat.le_of_ble_eq_true rfl) rfl ?_
  unfold W_JS_isLatin1 at h
  refine w_getsC (m := 64) (idx := 38) (pc' := 3) rfl (by decide) (by decide +kernel) ⟨by decide +kernel, rfl⟩ ?_
  refine z_if_eq (off := 14) (tgt := 17) (pc' := 6) ⟨by decide +kernel, by decide, rfl⟩ (fun h1 => absurd h1 (by decide)) (fun h1 => ?_)
  refine z_aload_n (f := 0) (i := 0) (q := 0) (pc' := 7) ⟨by decide +kernel, rfl⟩ rfl rfl ?_
  refine w_sgetc (m := 64) (idx := 15) (i := a0) (pc' := 10) rfl (by decide) (by decide +kernel) hi ⟨by decide +kernel, rfl⟩ ?_
  refine z_if_ne (off := 7) (tgt := 17) (pc' := 13) ⟨by decide +kernel, by decide, rfl⟩ (fun h2 => absurd h2 (by decide)) (fun h2 => ?_)
  refine z_iconst (i := 1) (v := 1) (pc' := 14) ⟨by decide +kernel, rfl⟩ (by decide) ?_
  refine z_goto (off := 4) (tgt := 18) (pc' := 17) ⟨by decide +kernel, by decide, rfl⟩ ?_
  exact z_iret (ty := .boolean) rfl (by rfl) (by decide +kernel) (k _ _ h)
noncomputable def W_JS_coder (a0 : Nat) (σ : zS) (Q : Int32 → zS → Prop) : Prop := Q 0 σ
theorem sF_JS_coder {E : xV} {σ : zS} {K : zKt} {a0 : Nat} {Q : Int32 → zS → Prop} (hi : a0 < 21) (h : W_JS_coder a0 σ Q) (k : ∀ v s, Q v s → K (some (.int v)) s) : Cz E Y_JS_coder [.ref (1000 + a0)] σ K := by
  refine z_entry (by decide) (fun a => by rw [sl_len]; exact Nat.le_of_ble_eq_true rfl) rfl ?_
  unfold W_JS_coder at h
  refine w_getsC (m := 65) (idx := 38) (pc' := 3) rfl (by decide) (by decide +kernel) ⟨by decide +kernel, rfl⟩ ?_
  refine z_if_eq (off := 10) (tgt := 13) (pc' := 6) ⟨by decide +kernel, by decide, rfl⟩ (fun h1 => absurd h1 (by decide)) (fun h1 => ?_)
  refine z_aload_n (f := 0) (i := 0) (q := 0) (pc' := 7) ⟨by decide +kernel, rfl⟩ rfl rfl ?_
  refine w_sgetc (m := 65) (idx := 15) (i := a0) (pc' := 10) rfl (by decide) (by decide +kernel) hi ⟨by decide +kernel, rfl⟩ ?_
  refine z_goto (off := 4) (tgt := 14) (pc' := 13) ⟨by decide +kernel, by decide, rfl⟩ ?_
  exact z_iret (ty := .byte) rfl (by rfl) (by decide +kernel) (k _ _ h)
noncomputable def W_JS_length (a0 : Nat) (σ : zS) (Q : Int32 → zS → Prop) : Prop := ∀ r1 : Int32, r1.toInt = ((SLN.getD a0 0 : Nat) : Int) → (Q r1 σ)
theorem sF_JS_length {E : xV} {σ : zS} {K : zKt} {a0 : Nat} {Q : Int32 → zS → Prop} (hi : a0 < 21) (h : W_JS_length a0 σ Q) (k : ∀ v s, Q v s → K (some (.int v)) s) : Cz E Y_JS_length [.ref (1000 + a0)] σ K := by
  refine z_entry (by decide) (fun a => by rw [sl_len]; exact Nat.le_of_ble_eq_true rfl) rfl ?_
  unfold W_JS_length at h
  refine z_aload_n (f := 0) (i := 0) (q := 0) (pc' := 1) ⟨by decide +kernel, rfl⟩ rfl rfl ?_
  refine w_sgetv (m := 66) (idx := 9) (i := a0) (pc' := 4) rfl (by decide) (by decide +kernel) hi ⟨by decide +kernel, rfl⟩ ?_
  refine z_slen (i := a0) (v := (Int32.ofNat (SLN.getD a0 0))) (pc' := 5) hi rfl ⟨by decide +kernel, rfl⟩ ?_
  have h := h (Int32.ofNat (SLN.getD a0 0)) (sln_i _)
  generalize (Int32.ofNat (SLN.getD a0 0)) = r1 at h ⊢
  refine z_aload_n (f := 0) (i := 0) (q := 0) (pc' := 6) ⟨by decide +kernel, rfl⟩ rfl rfl ?_
  refine w_invVS (Z := Y_JS_coder) (idx := 335) (i := a0) (As := []) (rest := [.int r1]) (pc' := 9) cl_15_335 rfl ⟨rfl, rfl⟩ hi rfl ⟨⟨by decide, by decide⟩, rfl, rfl⟩ ⟨by decide +kernel, rfl⟩ rfl rfl (Nat.le_of_ble_eq_true rfl) (by first | (simp only [List.all_cons, List.all_nil, xk1, xk2] <;> rfl) | (show (List.all [(0, .ref (1000 + a0))] (fun q : Nat × Value => xokv 215 q.2)) = true; simp only [List.all_cons, List.all_nil, xk1, xk2] <;> rfl)) rfl ?_
  refine sF_JS_coder hi (Q := fun v s => v = 0 ∧ s = σ) ⟨rfl, rfl⟩ (fun v s hq => ?_)
  rw [hq.1, hq.2]
  show Wz E Y_JS_length 9 [(0, .ref (1000 + a0))] [.int 0, .int r1] σ K
  refine w_shr0 (pc' := 10) ⟨by decide +kernel, rfl⟩ ?_
  exact z_iret (ty := .int) rfl (by rfl) (by decide +kernel) (k _ _ h)
noncomputable def W_JL_charAt (a0 : Nat) (a1 : Int32) (σ : zS) (Q : Int32 → zS → Prop) : Prop := ∀ r1 : Int32, r1.toInt = ((SLN.getD a0 0 : Nat) : Int) → (W_JS_checkIndex a1 r1 σ (fun _ σ2 => ∃ n3 : Nat, Int32.toInt a1 = (n3 : Int) ∧ n3 < SLN.getD a0 0 ∧ (∀ r4 : Int32, r4.toInt = (Int32.toInt (((SBY.getD a0 []).getD n3 0) &&& 255)) % 65536 → ((0 ≤ r4.toInt ∧ r4.toInt ≤ 65535) ∧ (Q r4 σ2)))))
theorem sF_JL_charAt {E : xV} {σ : zS} {K : zKt} {a0 : Nat} {a1 : Int32} {Q : Int32 → zS → Prop} (hi : a0 < 21) (h : W_JL_charAt a0 a1 σ Q) (k : ∀ v s, Q v s → K (some (.int v)) s) : Cz E Y_JL_charAt [.ref (2000 + a0), .int a1] σ K := by
  refine z_entry (by decide) (fun a => by rw [sl_len]; exact Nat.le_of_ble_eq_true rfl) rfl ?_
  unfold W_JL_charAt at h
  refine z_iload_n (f := 1) (i := 1) (q := 1) (pc' := 1) ⟨by decide +kernel, rfl⟩ rfl rfl ?_
  refine z_aload_n (f := 0) (i := 0) (q := 0) (pc' := 2) ⟨by decide +kernel, rfl⟩ rfl rfl ?_
  refine z_slen (i := a0) (v := (Int32.ofNat (SLN.getD a0 0))) (pc' := 3) hi rfl ⟨by decide +kernel, rfl⟩ ?_
  have h := h (Int32.ofNat (SLN.getD a0 0)) (sln_i _)
  generalize (Int32.ofNat (SLN.getD a0 0)) = r1 at h ⊢
  refine w_invS (Z := Y_JS_checkIndex) (idx := 9) (As := [.int a1, .int r1]) (rest := []) (pc' := 6) cl_16_9 rfl ⟨rfl, rfl⟩ ⟨⟨by decide, by decide⟩, rfl, rfl⟩ ⟨by decide +kernel, rfl⟩ rfl rfl (Nat.le_of_ble_eq_true rfl) (by first | (simp only [List.all_cons, List.all_nil, xk1, xk2] <;> rfl) | (show (List.all [(0, .ref (2000 + a0)), (1, .int a1)] (fun q : Nat × Value => xokv 215 q.2)) = true; simp only [List.all_cons, List.all_nil, xk1, xk2] <;> rfl)) rfl ?_
  refine sF_JS_checkIndex h (fun _ σ2 h => ?_)
  show Wz E Y_JL_charAt 6 [(0, .ref (2000 + a0)), (1, .int a1)] [] σ2 K
  refine z_aload_n (f := 0) (i := 0) (q := 0) (pc' := 7) ⟨by decide +kernel, rfl⟩ rfl rfl ?_
  refine z_iload_n (f := 1) (i := 1) (q := 1) (pc' := 8) ⟨by decide +kernel, rfl⟩ rfl rfl ?_
  obtain ⟨n3, hi3, hz3, h⟩ := h
  refine w_sald (i := a0) (n := n3) (pc' := 9) hi hi3 hz3 ⟨by decide +kernel, rfl⟩ ?_
  refine z_sipush (i := 255) (v := 255) (pc' := 12) ⟨by decide +kernel, rfl⟩ (by decide) ?_
  refine z_iand (pc' := 13) ⟨by decide +kernel, rfl⟩ ?_
  refine z_i2c (pc' := 14) ⟨by decide +kernel, rfl⟩ rfl ?_
  have h := h ((Int32.toUInt32 (((SBY.getD a0 []).getD n3 0) &&& 255) % 65536).toInt32) (i2c_i _)
  generalize ((Int32.toUInt32 (((SBY.getD a0 []).getD n3 0) &&& 255) % 65536).toInt32) = r4 at h ⊢
  obtain ⟨hg5, h⟩ := h
  exact z_iret (ty := .char) rfl (nch hg5) (by decide +kernel) (k _ _ h)
noncomputable def W_JS_charAt (a0 : Nat) (a1 : Int32) (σ : zS) (Q : Int32 → zS → Prop) : Prop := W_JL_charAt a0 a1 σ (fun v3 σ3 => (0 ≤ v3.toInt ∧ v3.toInt ≤ 65535) ∧ (Q v3 σ3))
theorem sF_JS_charAt {E : xV} {σ : zS} {K : zKt} {a0 : Nat} {a1 : Int32} {Q : Int32 → zS → Prop} (hi : a0 < 21) (h : W_JS_charAt a0 a1 σ Q) (k : ∀ v s, Q v s → K (some (.int v)) s) : Cz E Y_JS_charAt [.ref (1000 + a0), .int a1] σ K := by
  refine z_entry (by decide) (fun a => by rw [sl_len]; exact Nat.le_of_ble_eq_true rfl) rfl ?_
  unfold W_JS_charAt at h
  refine z_aload_n (f := 0) (i := 0) (q := 0) (pc' := 1) ⟨by decide +kernel, rfl⟩ rfl rfl ?_
  refine w_invVS (Z := Y_JS_isLatin1) (idx := 492) (i := a0) (As := []) (rest := []) (pc' := 4) cl_15_492 rfl ⟨rfl, rfl⟩ hi rfl ⟨⟨by decide, by decide⟩, rfl, rfl⟩ ⟨by decide +kernel, rfl⟩ rfl rfl (Nat.le_of_ble_eq_true rfl) (by first | (simp only [List.all_cons, List.all_nil, xk1, xk2] <;> rfl) | (show (List.all [(0, .ref (1000 + a0)), (1, .int a1)] (fun q : Nat × Value => xokv 215 q.2)) = true; simp only [List.all_cons, List.all_nil, xk1, xk2] <;> rfl)) rfl ?_
  refine sF_JS_isLatin1 hi (Q := fun v s => v = 1 ∧ s = σ) ⟨rfl, rfl⟩ (fun v s hq => ?_)
  rw [hq.1, hq.2]
  show Wz E Y_JS_charAt 4 [(0, .ref (1000 + a0)), (1, .int a1)] [.int 1] σ K
  refine z_if_eq (off := 12) (tgt := 16) (pc' := 7) ⟨by decide +kernel, by decide, rfl⟩ (fun h2 => absurd h2 (by decide)) (fun h2 => ?_)
  refine z_aload_n (f := 0) (i := 0) (q := 0) (pc' := 8) ⟨by decide +kernel, rfl⟩ rfl rfl ?_
  refine w_sgetv (m := 78) (idx := 9) (i := a0) (pc' := 11) rfl (by decide) (by decide +kernel) hi ⟨by decide +kernel, rfl⟩ ?_
  refine z_iload_n (f := 1) (i := 1) (q := 1) (pc' := 12) ⟨by decide +kernel, rfl⟩ rfl rfl ?_
  refine w_invS (Z := Y_JL_charAt) (idx := 495) (As := [.ref (2000 + a0), .int a1]) (rest := []) (pc' := 15) cl_15_495 rfl ⟨rfl, rfl⟩ ⟨⟨by decide, by decide⟩, rfl, rfl⟩ ⟨by decide +kernel, rfl⟩ rfl rfl (Nat.le_of_ble_eq_true rfl) (by first | (simp only [List.all_cons, List.all_nil, xk1, xk2] <;> rfl) | (show (List.all [(0, .ref (1000 + a0)), (1, .int a1)] (fun q : Nat × Value => xokv 215 q.2)) = true; simp only [List.all_cons, List.all_nil, xk1, xk2] <;> rfl)) rfl ?_
  refine sF_JL_charAt hi h (fun v3 σ3 h => ?_)
  show Wz E Y_JS_charAt 15 [(0, .ref (1000 + a0)), (1, .int a1)] [.int v3] σ3 K
  obtain ⟨hg4, h⟩ := h
  exact z_iret (ty := .char) rfl (nch hg4) (by decide +kernel) (k _ _ h)
noncomputable def W_JL_canEncode (a0 : Int32) (σ : zS) (Q : Int32 → zS → Prop) : Prop := ((Int32.toInt a0) < 0 → (Q 0 σ)) ∧ (¬ (Int32.toInt a0) < 0 → ((255 < (Int32.toInt a0) → (Q 0 σ)) ∧ (¬ 255 < (Int32.toInt a0) → (Q 1 σ))))
theorem sF_JL_canEncode {E : xV} {σ : zS} {K : zKt} {a0 : Int32} {Q : Int32 → zS → Prop} (h : W_JL_canEncode a0 σ Q) (k : ∀ v s, Q v s → K (some (.int v)) s) : Cz E Y_JL_canEncode [.int a0] σ K := by
  refine z_entry (by decide) (fun a => by rw [sl_len]; exact Nat.le_of_ble_eq_true rfl) rfl ?_
  unfold W_JL_canEncode at h
  refine z_iload_n (f := 0) (i := 0) (q := 0) (pc' := 1) ⟨by decide +kernel, rfl⟩ rfl rfl ?_
  refine z_if_lt (off := 14) (tgt := 15) (pc' := 4) ⟨by decide +kernel, by decide, rfl⟩ (fun h1 => ?_) (fun h1 => ?_)
  · have h := h.1 (qi_lt_t rfl (by decide) h1)
    refine z_iconst (i := 0) (v := 0) (pc' := 16) ⟨by decide +kernel, rfl⟩ (by decide) ?_
    exact z_iret (ty := .boolean) rfl (by rfl) (by decide +kernel) (k _ _ h)
  · have h := h.2 (qi_lt_f rfl (by decide) h1)
    refine z_iload_n (f := 0) (i := 0) (q := 0) (pc' := 5) ⟨by decide +kernel, rfl⟩ rfl rfl ?_
    refine z_sipush (i := 255) (v := 255) (pc' := 8) ⟨by decide +kernel, rfl⟩ (by decide) ?_
    refine z_icmp_gt (off := 7) (tgt := 15) (pc' := 11) ⟨by decide +kernel, by decide, rfl⟩ (fun h2 => ?_) (fun h2 => ?_)
    · have h := h.1 (qi_gt_t rfl (by decide) h2)
      refine z_iconst (i := 0) (v := 0) (pc' := 16) ⟨by decide +kernel, rfl⟩ (by decide) ?_
      exact z_iret (ty := .boolean) rfl (by rfl) (by decide +kernel) (k _ _ h)
    · have h := h.2 (qi_gt_f rfl (by decide) h2)
      refine z_iconst (i := 1) (v := 1) (pc' := 12) ⟨by decide +kernel, rfl⟩ (by decide) ?_
      refine z_goto (off := 4) (tgt := 16) (pc' := 15) ⟨by decide +kernel, by decide, rfl⟩ ?_
      exact z_iret (ty := .boolean) rfl (by rfl) (by decide +kernel) (k _ _ h)
noncomputable def WB_JL_indexOfChar_7 (F7 : Nat → Int32 → Int32 → Int32 → zS → (Int32 → zS → Prop) → Prop) (a0 : Nat) (x3 : Int32) (x4 : Int32) (x5 : Int32) (σ : zS) (Q : Int32 → zS → Prop) : Prop := ((Int32.toInt x3) ≤ (Int32.toInt x5) → (Q (-1) σ)) ∧ (¬ (Int32.toInt x3) ≤ (Int32.toInt x5) → (∃ n2 : Nat, Int32.toInt x5 = (n2 : Int) ∧ n2 < SLN.getD a0 0 ∧ (((Int32.toInt ((SBY.getD a0 []).getD n2 0)) = (Int32.toInt x4) → (Q x5 σ)) ∧ (¬ (Int32.toInt ((SBY.getD a0 []).getD n2 0)) = (Int32.toInt x4) → ((-2147483648 ≤ (Int32.toInt x5) + 1 ∧ (Int32.toInt x5) + 1 ≤ 2147483647) ∧ ∀ r4 : Int32, r4.toInt = (Int32.toInt x5) + 1 → (F7 a0 x3 x4 r4 σ Q))))))
theorem sh_JL_indexOfChar_7 {E : xV} {σ : zS} {K : zKt} {F7 : Nat → Int32 → Int32 → Int32 → zS → (Int32 → zS → Prop) → Prop} {a0 : Nat} {x3 : Int32} {x4 : Int32} {x5 : Int32} {Q : Int32 → zS → Prop} (hi : a0 < 21) (f7 : ∀ (a0 : Nat) (x3 : Int32) (x4 : Int32) (x5 : Int32) (σ : zS), a0 < 21 → F7 a0 x3 x4 x5 σ Q → Wz E Y_JL_indexOfChar 7 [(0, .ref (2000 + a0)), (3, .int x3), (4, .int x4), (5, .int x5)] [] σ K) (k : ∀ v s, Q v s → K (some (.int v)) s) (h : WB_JL_indexOfChar_7 F7 a0 x3 x4 x5 σ Q) : Wz E Y_JL_indexOfChar 7 [(0, .ref (2000 + a0)), (3, .int x3), (4, .int x4), (5, .int x5)] [] σ K := by
  unfold WB_JL_indexOfChar_7 at h
  refine z_iload (i := 5) (q := 3) (pc' := 9) ⟨by decide +kernel, rfl⟩ rfl ?_
  refine z_iload_n (f := 3) (i := 3) (q := 1) (pc' := 10) ⟨by decide +kernel, rfl⟩ rfl rfl ?_
  refine z_icmp_ge (off := 21) (tgt := 31) (pc' := 13) ⟨by decide +kernel, by decide, rfl⟩ (fun h1 => ?_) (fun h1 => ?_)
  · have h := h.1 (qi_ge_t rfl rfl h1)
    refine z_iconst (i := (-1)) (v := (-1)) (pc' := 32) ⟨by decide +kernel, rfl⟩ (by decide) ?_
    exact z_iret (ty := .int) rfl (by rfl) (by decide +kernel) (k _ _ h)
  · have h := h.2 (qi_ge_f rfl rfl h1)
    refine z_aload_n (f := 0) (i := 0) (q := 0) (pc' := 14) ⟨by decide +kernel, rfl⟩ rfl rfl ?_
    refine z_iload (i := 5) (q := 3) (pc' := 16) ⟨by decide +kernel, rfl⟩ rfl ?_
    obtain ⟨n2, hi2, hz2, h⟩ := h
    refine w_sald (i := a0) (n := n2) (pc' := 17) hi hi2 hz2 ⟨by decide +kernel, rfl⟩ ?_
    refine z_iload (i := 4) (q := 2) (pc' := 19) ⟨by decide +kernel, rfl⟩ rfl ?_
    refine z_icmp_ne (off := 6) (tgt := 25) (pc' := 22) ⟨by decide +kernel, by decide, rfl⟩ (fun h3 => ?_) (fun h3 => ?_)
    · have h := h.2 (qi_ne_t rfl rfl h3)
      refine z_iinc (i := 5) (z := 1) (q := 3) (pc' := 28) ⟨by decide +kernel, rfl⟩ rfl rfl (by decide) rfl ?_
      show Wz E Y_JL_indexOfChar 28 [(5, .int (x5 + Int32.ofInt 1)), (0, .ref (2000 + a0)), (3, .int x3), (4, .int x4)] [] σ K
      obtain ⟨hb4, h⟩ := h
      have h := h (x5 + Int32.ofInt 1) (ia_ok rfl (by decide) hb4)
      generalize (x5 + Int32.ofInt 1) = r4 at h ⊢
      refine z_goto (off := (-21)) (tgt := 7) (pc' := 31) ⟨by decide +kernel, by decide, rfl⟩ ?_
      refine z_sub [1, 2, 3, 0] rfl ?_
      exact f7 _ _ _ _ _ hi h
    · have h := h.1 (qi_ne_f rfl rfl h3)
      refine z_iload (i := 5) (q := 3) (pc' := 24) ⟨by decide +kernel, rfl⟩ rfl ?_
      exact z_iret (ty := .int) rfl (by rfl) (by decide +kernel) (k _ _ h)
noncomputable def WL_JL_indexOfChar : Nat → (Nat → Int32 → Int32 → Int32 → zS → (Int32 → zS → Prop) → Prop)
  | 0 => fun _ _ _ _ _ _ => False
  | n + 1 => WB_JL_indexOfChar_7 (WL_JL_indexOfChar n)
theorem wl_JL_indexOfChar_7 {n : Nat} {a0 : Nat} {x3 : Int32} {x4 : Int32} {x5 : Int32} {σ : zS} {Q : Int32 → zS → Prop} (h : WB_JL_indexOfChar_7 (WL_JL_indexOfChar n) a0 x3 x4 x5 σ Q) : (WL_JL_indexOfChar (n + 1)) a0 x3 x4 x5 σ Q := h
theorem sl_JL_indexOfChar {E : xV} {K : zKt} {Q : Int32 → zS → Prop} (k : ∀ v s, Q v s → K (some (.int v)) s) : ∀ n, (∀ (a0 : Nat) (x3 : Int32) (x4 : Int32) (x5 : Int32) (σ : zS), a0 < 21 → (WL_JL_indexOfChar n) a0 x3 x4 x5 σ Q → Wz E Y_JL_indexOfChar 7 [(0, .ref (2000 + a0)), (3, .int x3), (4, .int x4), (5, .int x5)] [] σ K)
  | 0 => fun _ _ _ _ _ _ h => h.elim
  | n + 1 => by
    have i := sl_JL_indexOfChar (E := E)  k n
    exact fun _ _ _ _ _ hi h => sh_JL_indexOfChar_7 hi i k h
noncomputable def W_JL_indexOfChar (a0 : Nat) (a1 : Int32) (a2 : Int32) (a3 : Int32) (σ : zS) (Q : Int32 → zS → Prop) : Prop := (WL_JL_indexOfChar fuF) a0 a3 ((Int32.toInt8 a1).toInt32) a2 σ Q
theorem sF_JL_indexOfChar {E : xV} {σ : zS} {K : zKt} {a0 : Nat} {a1 : Int32} {a2 : Int32} {a3 : Int32} {Q : Int32 → zS → Prop} (hi : a0 < 21) (h : W_JL_indexOfChar a0 a1 a2 a3 σ Q) (k : ∀ v s, Q v s → K (some (.int v)) s) : Cz E Y_JL_indexOfChar [.ref (2000 + a0), .int a1, .int a2, .int a3] σ K := by
  refine z_entry (by decide) (fun a => by rw [sl_len]; exact Nat.le_of_ble_eq_true rfl) rfl ?_
  unfold W_JL_indexOfChar at h
  refine z_iload_n (f := 1) (i := 1) (q := 1) (pc' := 1) ⟨by decide +kernel, rfl⟩ rfl rfl ?_
  refine z_i2b (pc' := 2) ⟨by decide +kernel, rfl⟩ rfl ?_
  refine z_istore (i := 4) (pc' := 4) ⟨by decide +kernel, rfl⟩ (by decide) rfl ?_
  show Wz E Y_JL_indexOfChar 4 [(4, .int ((Int32.toInt8 a1).toInt32)), (0, .ref (2000 + a0)), (1, .int a1), (2, .int a2), (3, .int a3)] [] σ K
  refine z_iload_n (f := 2) (i := 2) (q := 3) (pc' := 5) ⟨by decide +kernel, rfl⟩ rfl rfl ?_
  refine z_istore (i := 5) (pc' := 7) ⟨by decide +kernel, rfl⟩ (by decide) rfl ?_
  show Wz E Y_JL_indexOfChar 7 [(5, .int a2), (4, .int ((Int32.toInt8 a1).toInt32)), (0, .ref (2000 + a0)), (1, .int a1), (2, .int a2), (3, .int a3)] [] σ K
  refine z_sub [2, 5, 1, 0] rfl ?_
  exact (sl_JL_indexOfChar k fuF) _ _ _ _ _ hi h
noncomputable def W_JL_indexOf (a0 : Nat) (a1 : Int32) (a2 : Int32) (a3 : Int32) (σ : zS) (Q : Int32 → zS → Prop) : Prop := W_JL_canEncode a1 σ (fun v1 σ1 => ((Int32.toInt v1) = 0 → (Q (-1) σ1)) ∧ (¬ (Int32.toInt v1) = 0 → (∀ r3 : Int32, r3.toInt = max (Int32.toInt a2) 0 → (∀ r4 : Int32, r4.toInt = ((SLN.getD a0 0 : Nat) : Int) → (∀ r5 : Int32, r5.toInt = min (Int32.toInt a3) (Int32.toInt r4) → (((Int32.toInt r3) < (Int32.toInt r5) → (W_JL_indexOfChar a0 a1 r3 r5 σ1 (fun v7 σ7 => Q v7 σ7))) ∧ (¬ (Int32.toInt r3) < (Int32.toInt r5) → (Q (-1) σ1))))))))
theorem sF_JL_indexOf {E : xV} {σ : zS} {K : zKt} {a0 : Nat} {a1 : Int32} {a2 : Int32} {a3 : Int32} {Q : Int32 → zS → Prop} (hi : a0 < 21) (h : W_JL_indexOf a0 a1 a2 a3 σ Q) (k : ∀ v s, Q v s → K (some (.int v)) s) : Cz E Y_JL_indexOf [.ref (2000 + a0), .int a1, .int a2, .int a3] σ K := by
  refine z_entry (by decide) (fun a => by rw [sl_len]; exact Nat.le_of_ble_eq_true rfl) rfl ?_
  unfold W_JL_indexOf at h
  refine z_iload_n (f := 1) (i := 1) (q := 1) (pc' := 1) ⟨by decide +kernel, rfl⟩ rfl rfl ?_
  refine w_invS (Z := Y_JL_canEncode) (idx := 88) (As := [.int a1]) (rest := []) (pc' := 4) cl_16_88 rfl ⟨rfl, rfl⟩ ⟨⟨by decide, by decide⟩, rfl, rfl⟩ ⟨by decide +kernel, rfl⟩ rfl rfl (Nat.le_of_ble_eq_true rfl) (by first | (simp only [List.all_cons, List.all_nil, xk1, xk2] <;> rfl) | (show (List.all [(0, .ref (2000 + a0)), (1, .int a1), (2, .int a2), (3, .int a3)] (fun q : Nat × Value => xokv 215 q.2)) = true; simp only [List.all_cons, List.all_nil, xk1, xk2] <;> rfl)) rfl ?_
  refine sF_JL_canEncode h (fun v1 σ1 h => ?_)
  show Wz E Y_JL_indexOf 4 [(0, .ref (2000 + a0)), (1, .int a1), (2, .int a2), (3, .int a3)] [.int v1] σ1 K
  refine z_if_ne (off := 5) (tgt := 9) (pc' := 7) ⟨by decide +kernel, by decide, rfl⟩ (fun h2 => ?_) (fun h2 => ?_)
  · have h := h.2 (qi_ne_t rfl (by decide) h2)
    refine z_iload_n (f := 2) (i := 2) (q := 2) (pc' := 10) ⟨by decide +kernel, rfl⟩ rfl rfl ?_
    refine z_iconst (i := 0) (v := 0) (pc' := 11) ⟨by decide +kernel, rfl⟩ (by decide) ?_
    refine w_max (m := 69) (idx := 92) (pc' := 14) rfl (by decide) (by decide +kernel) (by decide) (by decide) (Nat.le_of_ble_eq_true rfl) ⟨by decide +kernel, rfl⟩ ?_
    have h := h (if a2 < 0 then 0 else a2) (ma_okj9 rfl (by decide))
    generalize (if a2 < 0 then 0 else a2) = r3 at h ⊢
    refine z_istore_n (f := 2) (i := 2) (pc' := 15) ⟨by decide +kernel, rfl⟩ rfl (by decide) rfl ?_
    show Wz E Y_JL_indexOf 15 [(2, .int r3), (0, .ref (2000 + a0)), (1, .int a1), (3, .int a3)] [] σ1 K
    refine z_iload_n (f := 3) (i := 3) (q := 3) (pc' := 16) ⟨by decide +kernel, rfl⟩ rfl rfl ?_
    refine z_aload_n (f := 0) (i := 0) (q := 1) (pc' := 17) ⟨by decide +kernel, rfl⟩ rfl rfl ?_
    refine z_slen (i := a0) (v := (Int32.ofNat (SLN.getD a0 0))) (pc' := 18) hi rfl ⟨by decide +kernel, rfl⟩ ?_
    have h := h (Int32.ofNat (SLN.getD a0 0)) (sln_i _)
    generalize (Int32.ofNat (SLN.getD a0 0)) = r4 at h ⊢
    refine w_min (m := 69) (idx := 38) (pc' := 21) rfl (by decide) (by decide +kernel) (by decide) (by decide) (Nat.le_of_ble_eq_true rfl) ⟨by decide +kernel, rfl⟩ ?_
    have h := h (if r4 < a3 then r4 else a3) (mi_ok rfl rfl)
    generalize (if r4 < a3 then r4 else a3) = r5 at h ⊢
    refine z_istore_n (f := 3) (i := 3) (pc' := 22) ⟨by decide +kernel, rfl⟩ rfl (by decide) rfl ?_
    show Wz E Y_JL_indexOf 22 [(3, .int r5), (2, .int r3), (0, .ref (2000 + a0)), (1, .int a1)] [] σ1 K
    refine z_iload_n (f := 2) (i := 2) (q := 1) (pc' := 23) ⟨by decide +kernel, rfl⟩ rfl rfl ?_
    refine z_iload_n (f := 3) (i := 3) (q := 0) (pc' := 24) ⟨by decide +kernel, rfl⟩ rfl rfl ?_
    refine z_icmp_lt (off := 5) (tgt := 29) (pc' := 27) ⟨by decide +kernel, by decide, rfl⟩ (fun h6 => ?_) (fun h6 => ?_)
    · have h := h.1 (qi_lt_t rfl rfl h6)
      refine z_aload_n (f := 0) (i := 0) (q := 2) (pc' := 30) ⟨by decide +kernel, rfl⟩ rfl rfl ?_
      refine z_iload_n (f := 1) (i := 1) (q := 3) (pc' := 31) ⟨by decide +kernel, rfl⟩ rfl rfl ?_
      refine z_iload_n (f := 2) (i := 2) (q := 1) (pc' := 32) ⟨by decide +kernel, rfl⟩ rfl rfl ?_
      refine z_iload_n (f := 3) (i := 3) (q := 0) (pc' := 33) ⟨by decide +kernel, rfl⟩ rfl rfl ?_
      refine w_invS (Z := Y_JL_indexOfChar) (idx := 95) (As := [.ref (2000 + a0), .int a1, .int r3, .int r5]) (rest := []) (pc' := 36) cl_16_95 rfl ⟨rfl, rfl⟩ ⟨⟨by decide, by decide⟩, rfl, rfl⟩ ⟨by decide +kernel, rfl⟩ rfl rfl (Nat.le_of_ble_eq_true rfl) (by first | (simp only [List.all_cons, List.all_nil, xk1, xk2] <;> rfl) | (show (List.all [(3, .int r5), (2, .int r3), (0, .ref (2000 + a0)), (1, .int a1)] (fun q : Nat × Value => xokv 215 q.2)) = true; simp only [List.all_cons, List.all_nil, xk1, xk2] <;> rfl)) rfl ?_
      refine sF_JL_indexOfChar hi h (fun v7 σ7 h => ?_)
      show Wz E Y_JL_indexOf 36 [(3, .int r5), (2, .int r3), (0, .ref (2000 + a0)), (1, .int a1)] [.int v7] σ7 K
      exact z_iret (ty := .int) rfl (by rfl) (by decide +kernel) (k _ _ h)
    · have h := h.2 (qi_lt_f rfl rfl h6)
      refine z_iconst (i := (-1)) (v := (-1)) (pc' := 28) ⟨by decide +kernel, rfl⟩ (by decide) ?_
      exact z_iret (ty := .int) rfl (by rfl) (by decide +kernel) (k _ _ h)
  · have h := h.1 (qi_ne_f rfl (by decide) h2)
    refine z_iconst (i := (-1)) (v := (-1)) (pc' := 8) ⟨by decide +kernel, rfl⟩ (by decide) ?_
    exact z_iret (ty := .int) rfl (by rfl) (by decide +kernel) (k _ _ h)
noncomputable def W_JS_indexOf_1 (a0 : Nat) (a1 : Int32) (a2 : Int32) (σ : zS) (Q : Int32 → zS → Prop) : Prop := W_JS_length a0 σ (fun v3 σ3 => W_JL_indexOf a0 a1 a2 v3 σ3 (fun v4 σ4 => Q v4 σ4))
theorem sF_JS_indexOf_1 {E : xV} {σ : zS} {K : zKt} {a0 : Nat} {a1 : Int32} {a2 : Int32} {Q : Int32 → zS → Prop} (hi : a0 < 21) (h : W_JS_indexOf_1 a0 a1 a2 σ Q) (k : ∀ v s, Q v s → K (some (.int v)) s) : Cz E Y_JS_indexOf_1 [.ref (1000 + a0), .int a1, .int a2] σ K := by
  refine z_entry (by decide) (fun a => by rw [sl_len]; exact Nat.le_of_ble_eq_true rfl) rfl ?_
  unfold W_JS_indexOf_1 at h
  refine z_aload_n (f := 0) (i := 0) (q := 0) (pc' := 1) ⟨by decide +kernel, rfl⟩ rfl rfl ?_
  refine w_invVS (Z := Y_JS_isLatin1) (idx := 492) (i := a0) (As := []) (rest := []) (pc' := 4) cl_15_492 rfl ⟨rfl, rfl⟩ hi rfl ⟨⟨by decide, by decide⟩, rfl, rfl⟩ ⟨by decide +kernel, rfl⟩ rfl rfl (Nat.le_of_ble_eq_true rfl) (by first | (simp only [List.all_cons, List.all_nil, xk1, xk2] <;> rfl) | (show (List.all [(0, .ref (1000 + a0)), (1, .int a1), (2, .int a2)] (fun q : Nat × Value => xokv 215 q.2)) = true; simp only [List.all_cons, List.all_nil, xk1, xk2] <;> rfl)) rfl ?_
  refine sF_JS_isLatin1 hi (Q := fun v s => v = 1 ∧ s = σ) ⟨rfl, rfl⟩ (fun v s hq => ?_)
  rw [hq.1, hq.2]
  show Wz E Y_JS_indexOf_1 4 [(0, .ref (1000 + a0)), (1, .int a1), (2, .int a2)] [.int 1] σ K
  refine z_if_eq (off := 19) (tgt := 23) (pc' := 7) ⟨by decide +kernel, by decide, rfl⟩ (fun h2 => absurd h2 (by decide)) (fun h2 => ?_)
  refine z_aload_n (f := 0) (i := 0) (q := 0) (pc' := 8) ⟨by decide +kernel, rfl⟩ rfl rfl ?_
  refine w_sgetv (m := 70) (idx := 9) (i := a0) (pc' := 11) rfl (by decide) (by decide +kernel) hi ⟨by decide +kernel, rfl⟩ ?_
  refine z_iload_n (f := 1) (i := 1) (q := 1) (pc' := 12) ⟨by decide +kernel, rfl⟩ rfl rfl ?_
  refine z_iload_n (f := 2) (i := 2) (q := 2) (pc' := 13) ⟨by decide +kernel, rfl⟩ rfl rfl ?_
  refine z_aload_n (f := 0) (i := 0) (q := 0) (pc' := 14) ⟨by decide +kernel, rfl⟩ rfl rfl ?_
  refine w_invVS (Z := Y_JS_length) (idx := 505) (i := a0) (As := []) (rest := [.int a2, .int a1, .ref (2000 + a0)]) (pc' := 17) cl_15_505 rfl ⟨rfl, rfl⟩ hi rfl ⟨⟨by decide, by decide⟩, rfl, rfl⟩ ⟨by decide +kernel, rfl⟩ rfl rfl (Nat.le_of_ble_eq_true rfl) (by first | (simp only [List.all_cons, List.all_nil, xk1, xk2] <;> rfl) | (show (List.all [(0, .ref (1000 + a0)), (1, .int a1), (2, .int a2)] (fun q : Nat × Value => xokv 215 q.2)) = true; simp only [List.all_cons, List.all_nil, xk1, xk2] <;> rfl)) (by simp only [List.all_cons, List.all_nil, xk1, xk2]; rfl) ?_
  refine sF_JS_length hi h (fun v3 σ3 h => ?_)
  show Wz E Y_JS_indexOf_1 17 [(0, .ref (1000 + a0)), (1, .int a1), (2, .int a2)] [.int v3, .int a2, .int a1, .ref (2000 + a0)] σ3 K
  refine w_invS (Z := Y_JL_indexOf) (idx := 637) (As := [.ref (2000 + a0), .int a1, .int a2, .int v3]) (rest := []) (pc' := 20) cl_15_637 rfl ⟨rfl, rfl⟩ ⟨⟨by decide, by decide⟩, rfl, rfl⟩ ⟨by decide +kernel, rfl⟩ rfl rfl (Nat.le_of_ble_eq_true rfl) (by first | (simp only [List.all_cons, List.all_nil, xk1, xk2] <;> rfl) | (show (List.all [(0, .ref (1000 + a0)), (1, .int a1), (2, .int a2)] (fun q : Nat × Value => xokv 215 q.2)) = true; simp only [List.all_cons, List.all_nil, xk1, xk2] <;> rfl)) rfl ?_
  refine sF_JL_indexOf hi h (fun v4 σ4 h => ?_)
  show Wz E Y_JS_indexOf_1 20 [(0, .ref (1000 + a0)), (1, .int a1), (2, .int a2)] [.int v4] σ4 K
  refine z_goto (off := 16) (tgt := 36) (pc' := 23) ⟨by decide +kernel, by decide, rfl⟩ ?_
  exact z_iret (ty := .int) rfl (by rfl) (by decide +kernel) (k _ _ h)
noncomputable def W_JS_indexOf_0 (a0 : Nat) (a1 : Int32) (σ : zS) (Q : Int32 → zS → Prop) : Prop := W_JS_indexOf_1 a0 a1 0 σ (fun v1 σ1 => Q v1 σ1)
theorem sF_JS_indexOf_0 {E : xV} {σ : zS} {K : zKt} {a0 : Nat} {a1 : Int32} {Q : Int32 → zS → Prop} (hi : a0 < 21) (h : W_JS_indexOf_0 a0 a1 σ Q) (k : ∀ v s, Q v s → K (some (.int v)) s) : Cz E Y_JS_indexOf_0 [.ref (1000 + a0), .int a1] σ K := by
  refine z_entry (by decide) (fun a => by rw [sl_len]; exact Nat.le_of_ble_eq_true rfl) rfl ?_
  unfold W_JS_indexOf_0 at h
  refine z_aload_n (f := 0) (i := 0) (q := 0) (pc' := 1) ⟨by decide +kernel, rfl⟩ rfl rfl ?_
  refine z_iload_n (f := 1) (i := 1) (q := 1) (pc' := 2) ⟨by decide +kernel, rfl⟩ rfl rfl ?_
  refine z_iconst (i := 0) (v := 0) (pc' := 3) ⟨by decide +kernel, rfl⟩ (by decide) ?_
  refine w_invVS (Z := Y_JS_indexOf_1) (idx := 633) (i := a0) (As := [.int a1, .int 0]) (rest := []) (pc' := 6) cl_15_633 rfl ⟨rfl, rfl⟩ hi rfl ⟨⟨by decide, by decide⟩, rfl, rfl⟩ ⟨by decide +kernel, rfl⟩ rfl rfl (Nat.le_of_ble_eq_true rfl) (by first | (simp only [List.all_cons, List.all_nil, xk1, xk2] <;> rfl) | (show (List.all [(0, .ref (1000 + a0)), (1, .int a1)] (fun q : Nat × Value => xokv 215 q.2)) = true; simp only [List.all_cons, List.all_nil, xk1, xk2] <;> rfl)) rfl ?_
  refine sF_JS_indexOf_1 hi h (fun v1 σ1 h => ?_)
  show Wz E Y_JS_indexOf_0 6 [(0, .ref (1000 + a0)), (1, .int a1)] [.int v1] σ1 K
  exact z_iret (ty := .int) rfl (by rfl) (by decide +kernel) (k _ _ h)
noncomputable def WB_Po_isWord_46 (F46 : Nat → Int32 → zS → (Int32 → zS → Prop) → Prop) (a1 : Nat) (x2 : Int32) (σ : zS) (Q : Int32 → zS → Prop) : Prop := W_JS_length a1 σ (fun v1 σ1 => ((Int32.toInt v1) ≤ (Int32.toInt x2) → (Q 1 σ1)) ∧ (¬ (Int32.toInt v1) ≤ (Int32.toInt x2) → (∃ n3 : Nat, Int32.toInt (σ1.1 17 14) = (n3 : Int) ∧ n3 < 1201 ∧ ((-2147483648 ≤ (Int32.toInt (σ1.1 25 n3)) + (Int32.toInt x2) ∧ (Int32.toInt (σ1.1 25 n3)) + (Int32.toInt x2) ≤ 2147483647) ∧ ∀ r4 : Int32, r4.toInt = (Int32.toInt (σ1.1 25 n3)) + (Int32.toInt x2) → (∃ n5 : Nat, Int32.toInt r4 = (n5 : Int) ∧ n5 < 1200 ∧ (W_JS_charAt a1 x2 σ1 (fun v6 σ6 => ((Int32.toInt (σ1.1 23 n5)) = (Int32.toInt v6) → ((-2147483648 ≤ (Int32.toInt x2) + 1 ∧ (Int32.toInt x2) + 1 ≤ 2147483647) ∧ ∀ r8 : Int32, r8.toInt = (Int32.toInt x2) + 1 → (F46 a1 r8 σ6 Q))) ∧ (¬ (Int32.toInt (σ1.1 23 n5)) = (Int32.toInt v6) → (Q 0 σ6)))))))))
theorem sh_Po_isWord_46 {E : xV} {σ : zS} {K : zKt} {F46 : Nat → Int32 → zS → (Int32 → zS → Prop) → Prop} {a1 : Nat} {x2 : Int32} {Q : Int32 → zS → Prop} (hi : a1 < 21) (f46 : ∀ (a1 : Nat) (x2 : Int32) (σ : zS), a1 < 21 → F46 a1 x2 σ Q → Wz E Y_Po_isWord 46 [(0, .ref 17), (1, .ref (1000 + a1)), (2, .int x2)] [] σ K) (k : ∀ v s, Q v s → K (some (.int v)) s) (h : WB_Po_isWord_46 F46 a1 x2 σ Q) : Wz E Y_Po_isWord 46 [(0, .ref 17), (1, .ref (1000 + a1)), (2, .int x2)] [] σ K := by
  unfold WB_Po_isWord_46 at h
  refine z_iload_n (f := 2) (i := 2) (q := 2) (pc' := 47) ⟨by decide +kernel, rfl⟩ rfl rfl ?_
  refine z_aload_n (f := 1) (i := 1) (q := 1) (pc' := 48) ⟨by decide +kernel, rfl⟩ rfl rfl ?_
  refine w_invVS (Z := Y_JS_length) (idx := 130) (i := a1) (As := []) (rest := [.int x2]) (pc' := 51) cl_7_130 rfl ⟨rfl, rfl⟩ hi rfl ⟨⟨by decide, by decide⟩, rfl, rfl⟩ ⟨by decide +kernel, rfl⟩ rfl rfl (Nat.le_of_ble_eq_true rfl) (by first | (simp only [List.all_cons, List.all_nil, xk1, xk2] <;> rfl) | (show (List.all [(0, .ref 17), (1, .ref (1000 + a1)), (2, .int x2)] (fun q : Nat × Value => xokv 215 q.2)) = true; simp only [List.all_cons, List.all_nil, xk1, xk2] <;> rfl)) rfl ?_
  refine sF_JS_length hi h (fun v1 σ1 h => ?_)
  show Wz E Y_Po_isWord 51 [(0, .ref 17), (1, .ref (1000 + a1)), (2, .int x2)] [.int v1, .int x2] σ1 K
  refine z_icmp_ge (off := 35) (tgt := 86) (pc' := 54) ⟨by decide +kernel, by decide, rfl⟩ (fun h2 => ?_) (fun h2 => ?_)
  · have h := h.1 (qi_ge_t rfl rfl h2)
    refine z_iconst (i := 1) (v := 1) (pc' := 87) ⟨by decide +kernel, rfl⟩ (by decide) ?_
    exact z_iret (ty := .boolean) rfl (by rfl) (by decide +kernel) (k _ _ h)
  · have h := h.2 (qi_ge_f rfl rfl h2)
    refine z_aload_n (f := 0) (i := 0) (q := 0) (pc' := 55) ⟨by decide +kernel, rfl⟩ rfl rfl ?_
    refine w_getr (k := 17) (j := 8) (idx := 38) (pc' := 58) yfxe_7_38 ykfa_17_8 ⟨by decide +kernel, rfl⟩ ?_
    refine z_aload_n (f := 0) (i := 0) (q := 0) (pc' := 59) ⟨by decide +kernel, rfl⟩ rfl rfl ?_
    refine w_getr (k := 17) (j := 11) (idx := 44) (pc' := 62) yfxe_7_44 ykfa_17_11 ⟨by decide +kernel, rfl⟩ ?_
    refine z_aload_n (f := 0) (i := 0) (q := 0) (pc' := 63) ⟨by decide +kernel, rfl⟩ rfl rfl ?_
    refine w_geti (k := 17) (j := 14) (idx := 63) (pc' := 66) yfxe_7_63 ykfa_17_14 ⟨by decide +kernel, rfl⟩ ?_
    obtain ⟨n3, hi3, hz3, h⟩ := h
    refine w_iald (k := 25) (n := n3) (pc' := 67) ykaa_25 (hi3) (hz3) ⟨by decide +kernel, rfl⟩ ?_
    refine z_iload_n (f := 2) (i := 2) (q := 2) (pc' := 68) ⟨by decide +kernel, rfl⟩ rfl rfl ?_
    refine z_iadd (pc' := 69) ⟨by decide +kernel, rfl⟩ ?_
    obtain ⟨hb4, h⟩ := h
    have h := h ((σ1.1 25 n3) + x2) (ia_ok rfl rfl hb4)
    generalize ((σ1.1 25 n3) + x2) = r4 at h ⊢
    obtain ⟨n5, hi5, hz5, h⟩ := h
    refine w_iald (k := 23) (n := n5) (pc' := 70) ykaa_23 (hi5) (hz5) ⟨by decide +kernel, rfl⟩ ?_
    refine z_aload_n (f := 1) (i := 1) (q := 1) (pc' := 71) ⟨by decide +kernel, rfl⟩ rfl rfl ?_
    refine z_iload_n (f := 2) (i := 2) (q := 2) (pc' := 72) ⟨by decide +kernel, rfl⟩ rfl rfl ?_
    refine w_invVS (Z := Y_JS_charAt) (idx := 133) (i := a1) (As := [.int x2]) (rest := [.int (σ1.1 23 n5)]) (pc' := 75) cl_7_133 rfl ⟨rfl, rfl⟩ hi rfl ⟨⟨by decide, by decide⟩, rfl, rfl⟩ ⟨by decide +kernel, rfl⟩ rfl rfl (Nat.le_of_ble_eq_true rfl) (by first | (simp only [List.all_cons, List.all_nil, xk1, xk2] <;> rfl) | (show (List.all [(0, .ref 17), (1, .ref (1000 + a1)), (2, .int x2)] (fun q : Nat × Value => xokv 215 q.2)) = true; simp only [List.all_cons, List.all_nil, xk1, xk2] <;> rfl)) rfl ?_
    refine sF_JS_charAt hi h (fun v6 σ6 h => ?_)
    show Wz E Y_Po_isWord 75 [(0, .ref 17), (1, .ref (1000 + a1)), (2, .int x2)] [.int v6, .int (σ1.1 23 n5)] σ6 K
    refine z_icmp_eq (off := 5) (tgt := 80) (pc' := 78) ⟨by decide +kernel, by decide, rfl⟩ (fun h7 => ?_) (fun h7 => ?_)
    · have h := h.1 (qi_eq_t rfl rfl h7)
      refine z_iinc (i := 2) (z := 1) (q := 2) (pc' := 83) ⟨by decide +kernel, rfl⟩ rfl rfl (by decide) rfl ?_
      show Wz E Y_Po_isWord 83 [(2, .int (x2 + Int32.ofInt 1)), (0, .ref 17), (1, .ref (1000 + a1))] [] σ6 K
      obtain ⟨hb8, h⟩ := h
      have h := h (x2 + Int32.ofInt 1) (ia_ok rfl (by decide) hb8)
      generalize (x2 + Int32.ofInt 1) = r8 at h ⊢
      refine z_goto (off := (-37)) (tgt := 46) (pc' := 86) ⟨by decide +kernel, by decide, rfl⟩ ?_
      refine z_sub [1, 2, 0] rfl ?_
      exact f46 _ _ _ hi h
    · have h := h.2 (qi_eq_f rfl rfl h7)
      refine z_iconst (i := 0) (v := 0) (pc' := 79) ⟨by decide +kernel, rfl⟩ (by decide) ?_
      exact z_iret (ty := .boolean) rfl (by rfl) (by decide +kernel) (k _ _ h)
noncomputable def WL_Po_isWord : Nat → (Nat → Int32 → zS → (Int32 → zS → Prop) → Prop)
  | 0 => fun _ _ _ _ => False
  | n + 1 => WB_Po_isWord_46 (WL_Po_isWord n)
theorem wl_Po_isWord_46 {n : Nat} {a1 : Nat} {x2 : Int32} {σ : zS} {Q : Int32 → zS → Prop} (h : WB_Po_isWord_46 (WL_Po_isWord n) a1 x2 σ Q) : (WL_Po_isWord (n + 1)) a1 x2 σ Q := h
theorem sl_Po_isWord {E : xV} {K : zKt} {Q : Int32 → zS → Prop} (k : ∀ v s, Q v s → K (some (.int v)) s) : ∀ n, (∀ (a1 : Nat) (x2 : Int32) (σ : zS), a1 < 21 → (WL_Po_isWord n) a1 x2 σ Q → Wz E Y_Po_isWord 46 [(0, .ref 17), (1, .ref (1000 + a1)), (2, .int x2)] [] σ K)
  | 0 => fun _ _ _ _ h => h.elim
  | n + 1 => by
    have i := sl_Po_isWord (E := E)  k n
    exact fun _ _ _ hi h => sh_Po_isWord_46 hi i k h
noncomputable def W_Po_isWord (a1 : Nat) (σ : zS) (Q : Int32 → zS → Prop) : Prop := ∃ n1 : Nat, Int32.toInt (σ.1 17 14) = (n1 : Int) ∧ n1 < 1201 ∧ (((Int32.toInt (σ.1 24 n1)) = 1 → (∀ r3 : Int64, r3.toInt = (Int32.toInt (σ.1 25 n1)) → ((-9223372036854775808 ≤ (Int64.toInt (σ.2 26 n1)) - (Int64.toInt r3) ∧ (Int64.toInt (σ.2 26 n1)) - (Int64.toInt r3) ≤ 9223372036854775807) ∧ ∀ r4 : Int64, r4.toInt = (Int64.toInt (σ.2 26 n1)) - (Int64.toInt r3) → (W_JS_length a1 σ (fun v5 σ5 => ∀ r6 : Int64, r6.toInt = (Int32.toInt v5) → (((Int64.toInt r4) = (Int64.toInt r6) → ((WL_Po_isWord fuF) a1 0 σ5 Q)) ∧ (¬ (Int64.toInt r4) = (Int64.toInt r6) → (Q 0 σ5)))))))) ∧ (¬ (Int32.toInt (σ.1 24 n1)) = 1 → (Q 0 σ)))
theorem sF_Po_isWord {E : xV} {σ : zS} {K : zKt} {a1 : Nat} {Q : Int32 → zS → Prop} (hi : a1 < 21) (h : W_Po_isWord a1 σ Q) (k : ∀ v s, Q v s → K (some (.int v)) s) : Cz E Y_Po_isWord [.ref 17, .ref (1000 + a1)] σ K := by
  refine z_entry (by decide) (fun a => by rw [sl_len]; exact Nat.le_of_ble_eq_true rfl) rfl ?_
  unfold W_Po_isWord at h
  refine z_aload_n (f := 0) (i := 0) (q := 0) (pc' := 1) ⟨by decide +kernel, rfl⟩ rfl rfl ?_
  refine w_getr (k := 17) (j := 10) (idx := 41) (pc' := 4) yfxe_7_41 ykfa_17_10 ⟨by decide +kernel, rfl⟩ ?_
  refine z_aload_n (f := 0) (i := 0) (q := 0) (pc' := 5) ⟨by decide +kernel, rfl⟩ rfl rfl ?_
  refine w_geti (k := 17) (j := 14) (idx := 63) (pc' := 8) yfxe_7_63 ykfa_17_14 ⟨by decide +kernel, rfl⟩ ?_
  obtain ⟨n1, hi1, hz1, h⟩ := h
  refine w_iald (k := 24) (n := n1) (pc' := 9) ykaa_24 (hi1) (hz1) ⟨by decide +kernel, rfl⟩ ?_
  refine z_iconst (i := 1) (v := 1) (pc' := 10) ⟨by decide +kernel, rfl⟩ (by decide) ?_
  refine z_icmp_ne (off := 32) (tgt := 42) (pc' := 13) ⟨by decide +kernel, by decide, rfl⟩ (fun h2 => ?_) (fun h2 => ?_)
  · have h := h.2 (qi_ne_t rfl (by decide) h2)
    refine z_iconst (i := 0) (v := 0) (pc' := 43) ⟨by decide +kernel, rfl⟩ (by decide) ?_
    exact z_iret (ty := .boolean) rfl (by rfl) (by decide +kernel) (k _ _ h)
  · have h := h.1 (qi_ne_f rfl (by decide) h2)
    refine z_aload_n (f := 0) (i := 0) (q := 0) (pc' := 14) ⟨by decide +kernel, rfl⟩ rfl rfl ?_
    refine w_getr (k := 17) (j := 12) (idx := 47) (pc' := 17) yfxe_7_47 ykfa_17_12 ⟨by decide +kernel, rfl⟩ ?_
    refine z_aload_n (f := 0) (i := 0) (q := 0) (pc' := 18) ⟨by decide +kernel, rfl⟩ rfl rfl ?_
    refine w_geti (k := 17) (j := 14) (idx := 63) (pc' := 21) yfxe_7_63 ykfa_17_14 ⟨by decide +kernel, rfl⟩ ?_
    refine w_lald (k := 26) (n := n1) (pc' := 22) ykaa_26 (hi1) (hz1) ⟨by decide +kernel, rfl⟩ ?_
    refine z_aload_n (f := 0) (i := 0) (q := 0) (pc' := 23) ⟨by decide +kernel, rfl⟩ rfl rfl ?_
    refine w_getr (k := 17) (j := 11) (idx := 44) (pc' := 26) yfxe_7_44 ykfa_17_11 ⟨by decide +kernel, rfl⟩ ?_
    refine z_aload_n (f := 0) (i := 0) (q := 0) (pc' := 27) ⟨by decide +kernel, rfl⟩ rfl rfl ?_
    refine w_geti (k := 17) (j := 14) (idx := 63) (pc' := 30) yfxe_7_63 ykfa_17_14 ⟨by decide +kernel, rfl⟩ ?_
    refine w_iald (k := 25) (n := n1) (pc' := 31) ykaa_25 (hi1) (hz1) ⟨by decide +kernel, rfl⟩ ?_
    refine z_i2l (v := (Int32.toInt64 (σ.1 25 n1))) (pc' := 32) ⟨by decide +kernel, rfl⟩ rfl ?_
    have h := h (Int32.toInt64 (σ.1 25 n1)) (Int32.toInt_toInt64 _)
    generalize (Int32.toInt64 (σ.1 25 n1)) = r3 at h ⊢
    refine z_lsub (pc' := 33) ⟨by decide +kernel, rfl⟩ ?_
    obtain ⟨hb4, h⟩ := h
    have h := h ((σ.2 26 n1) - r3) (isl_ok rfl rfl hb4)
    generalize ((σ.2 26 n1) - r3) = r4 at h ⊢
    refine z_aload_n (f := 1) (i := 1) (q := 1) (pc' := 34) ⟨by decide +kernel, rfl⟩ rfl rfl ?_
    refine w_invVS (Z := Y_JS_length) (idx := 130) (i := a1) (As := []) (rest := [.long r4]) (pc' := 37) cl_7_130 rfl ⟨rfl, rfl⟩ hi rfl ⟨⟨by decide, by decide⟩, rfl, rfl⟩ ⟨by decide +kernel, rfl⟩ rfl rfl (Nat.le_of_ble_eq_true rfl) (by first | (simp only [List.all_cons, List.all_nil, xk1, xk2] <;> rfl) | (show (List.all [(0, .ref 17), (1, .ref (1000 + a1))] (fun q : Nat × Value => xokv 215 q.2)) = true; simp only [List.all_cons, List.all_nil, xk1, xk2] <;> rfl)) rfl ?_
    refine sF_JS_length hi h (fun v5 σ5 h => ?_)
    show Wz E Y_Po_isWord 37 [(0, .ref 17), (1, .ref (1000 + a1))] [.int v5, .long r4] σ5 K
    refine z_i2l (v := (Int32.toInt64 v5)) (pc' := 38) ⟨by decide +kernel, rfl⟩ rfl ?_
    have h := h (Int32.toInt64 v5) (Int32.toInt_toInt64 _)
    generalize (Int32.toInt64 v5) = r6 at h ⊢
    refine z_lcmp (pc' := 39) ⟨by decide +kernel, rfl⟩ ?_
    refine z_if_eq (off := 5) (tgt := 44) (pc' := 42) ⟨by decide +kernel, by decide, rfl⟩ (fun h7 => ?_) (fun h7 => ?_)
    · have h := h.1 (qk_eq_t rfl rfl h7)
      refine z_iconst (i := 0) (v := 0) (pc' := 45) ⟨by decide +kernel, rfl⟩ (by decide) ?_
      refine z_istore_n (f := 2) (i := 2) (pc' := 46) ⟨by decide +kernel, rfl⟩ rfl (by decide) rfl ?_
      show Wz E Y_Po_isWord 46 [(2, .int 0), (0, .ref 17), (1, .ref (1000 + a1))] [] σ5 K
      refine z_sub [1, 2, 0] rfl ?_
      exact (sl_Po_isWord k fuF) _ _ _ hi h
    · have h := h.2 (qk_eq_f rfl rfl h7)
      refine z_iconst (i := 0) (v := 0) (pc' := 43) ⟨by decide +kernel, rfl⟩ (by decide) ?_
      exact z_iret (ty := .boolean) rfl (by rfl) (by decide +kernel) (k _ _ h)
noncomputable def W_Po_oneLetter_b43 (y0 : Int32) (σ : zS) (Q : Int32 → zS → Prop) : Prop := ((Int32.toInt y0) = 0 → (Q 32 σ)) ∧ (¬ (Int32.toInt y0) = 0 → (∃ n2 : Nat, Int32.toInt (σ.1 17 14) = (n2 : Int) ∧ n2 < 1201 ∧ (∃ n3 : Nat, Int32.toInt (σ.1 25 n2) = (n3 : Int) ∧ n3 < 1200 ∧ (∀ r4 : Int32, r4.toInt = (Int32.toInt (σ.1 23 n3)) % 65536 → ((0 ≤ r4.toInt ∧ r4.toInt ≤ 65535) ∧ (Q r4 σ))))))
theorem sb_Po_oneLetter_43 {E : xV} {σ : zS} {K : zKt} {y0 : Int32} {Q : Int32 → zS → Prop} (k : ∀ v s, Q v s → K (some (.int v)) s) (h : W_Po_oneLetter_b43 y0 σ Q) : Wz E Y_Po_oneLetter 43 [(0, .ref 17)] [.int y0] σ K := by
  unfold W_Po_oneLetter_b43 at h
  refine z_istore_n (f := 1) (i := 1) (pc' := 44) ⟨by decide +kernel, rfl⟩ rfl (by decide) rfl ?_
  show Wz E Y_Po_oneLetter 44 [(1, .int y0), (0, .ref 17)] [] σ K
  refine z_iload_n (f := 1) (i := 1) (q := 0) (pc' := 45) ⟨by decide +kernel, rfl⟩ rfl rfl ?_
  refine z_if_eq (off := 21) (tgt := 66) (pc' := 48) ⟨by decide +kernel, by decide, rfl⟩ (fun h1 => ?_) (fun h1 => ?_)
  · have h := h.1 (qi_eq_t rfl (by decide) h1)
    refine z_bipush (i := 32) (v := 32) (pc' := 68) ⟨by decide +kernel, rfl⟩ (by decide) ?_
    exact z_iret (ty := .char) rfl (by rfl) (by decide +kernel) (k _ _ h)
  · have h := h.2 (qi_eq_f rfl (by decide) h1)
    refine z_aload_n (f := 0) (i := 0) (q := 1) (pc' := 49) ⟨by decide +kernel, rfl⟩ rfl rfl ?_
    refine w_getr (k := 17) (j := 8) (idx := 38) (pc' := 52) yfxe_7_38 ykfa_17_8 ⟨by decide +kernel, rfl⟩ ?_
    refine z_aload_n (f := 0) (i := 0) (q := 1) (pc' := 53) ⟨by decide +kernel, rfl⟩ rfl rfl ?_
    refine w_getr (k := 17) (j := 11) (idx := 44) (pc' := 56) yfxe_7_44 ykfa_17_11 ⟨by decide +kernel, rfl⟩ ?_
    refine z_aload_n (f := 0) (i := 0) (q := 1) (pc' := 57) ⟨by decide +kernel, rfl⟩ rfl rfl ?_
    refine w_geti (k := 17) (j := 14) (idx := 63) (pc' := 60) yfxe_7_63 ykfa_17_14 ⟨by decide +kernel, rfl⟩ ?_
    obtain ⟨n2, hi2, hz2, h⟩ := h
    refine w_iald (k := 25) (n := n2) (pc' := 61) ykaa_25 (hi2) (hz2) ⟨by decide +kernel, rfl⟩ ?_
    obtain ⟨n3, hi3, hz3, h⟩ := h
    refine w_iald (k := 23) (n := n3) (pc' := 62) ykaa_23 (hi3) (hz3) ⟨by decide +kernel, rfl⟩ ?_
    refine z_i2c (pc' := 63) ⟨by decide +kernel, rfl⟩ rfl ?_
    have h := h ((Int32.toUInt32 (σ.1 23 n3) % 65536).toInt32) (i2c_i _)
    generalize ((Int32.toUInt32 (σ.1 23 n3) % 65536).toInt32) = r4 at h ⊢
    refine z_goto (off := 5) (tgt := 68) (pc' := 66) ⟨by decide +kernel, by decide, rfl⟩ ?_
    obtain ⟨hg5, h⟩ := h
    exact z_iret (ty := .char) rfl (nch hg5) (by decide +kernel) (k _ _ h)
noncomputable def W_Po_oneLetter  (σ : zS) (Q : Int32 → zS → Prop) : Prop := ∃ n1 : Nat, Int32.toInt (σ.1 17 14) = (n1 : Int) ∧ n1 < 1201 ∧ (((Int32.toInt (σ.1 24 n1)) = 1 → (∀ r3 : Int64, r3.toInt = (Int32.toInt (σ.1 25 n1)) → ((-9223372036854775808 ≤ (Int64.toInt (σ.2 26 n1)) - (Int64.toInt r3) ∧ (Int64.toInt (σ.2 26 n1)) - (Int64.toInt r3) ≤ 9223372036854775807) ∧ ∀ r4 : Int64, r4.toInt = (Int64.toInt (σ.2 26 n1)) - (Int64.toInt r3) → (((Int64.toInt r4) = 1 → (W_Po_oneLetter_b43  1 σ Q)) ∧ (¬ (Int64.toInt r4) = 1 → (W_Po_oneLetter_b43  0 σ Q)))))) ∧ (¬ (Int32.toInt (σ.1 24 n1)) = 1 → (W_Po_oneLetter_b43  0 σ Q)))
theorem sF_Po_oneLetter {E : xV} {σ : zS} {K : zKt}  {Q : Int32 → zS → Prop} (h : W_Po_oneLetter  σ Q) (k : ∀ v s, Q v s → K (some (.int v)) s) : Cz E Y_Po_oneLetter [.ref 17] σ K := by
  refine z_entry (by decide) (fun a => by rw [sl_len]; exact Nat.le_of_ble_eq_true rfl) rfl ?_
  unfold W_Po_oneLetter at h
  refine z_aload_n (f := 0) (i := 0) (q := 0) (pc' := 1) ⟨by decide +kernel, rfl⟩ rfl rfl ?_
  refine w_getr (k := 17) (j := 10) (idx := 41) (pc' := 4) yfxe_7_41 ykfa_17_10 ⟨by decide +kernel, rfl⟩ ?_
  refine z_aload_n (f := 0) (i := 0) (q := 0) (pc' := 5) ⟨by decide +kernel, rfl⟩ rfl rfl ?_
  refine w_geti (k := 17) (j := 14) (idx := 63) (pc' := 8) yfxe_7_63 ykfa_17_14 ⟨by decide +kernel, rfl⟩ ?_
  obtain ⟨n1, hi1, hz1, h⟩ := h
  refine w_iald (k := 24) (n := n1) (pc' := 9) ykaa_24 (hi1) (hz1) ⟨by decide +kernel, rfl⟩ ?_
  refine z_iconst (i := 1) (v := 1) (pc' := 10) ⟨by decide +kernel, rfl⟩ (by decide) ?_
  refine z_icmp_ne (off := 32) (tgt := 42) (pc' := 13) ⟨by decide +kernel, by decide, rfl⟩ (fun h2 => ?_) (fun h2 => ?_)
  · have h := h.2 (qi_ne_t rfl (by decide) h2)
    refine z_iconst (i := 0) (v := 0) (pc' := 43) ⟨by decide +kernel, rfl⟩ (by decide) ?_
    refine z_sub [0] rfl ?_
    exact sb_Po_oneLetter_43  k h
  · have h := h.1 (qi_ne_f rfl (by decide) h2)
    refine z_aload_n (f := 0) (i := 0) (q := 0) (pc' := 14) ⟨by decide +kernel, rfl⟩ rfl rfl ?_
    refine w_getr (k := 17) (j := 12) (idx := 47) (pc' := 17) yfxe_7_47 ykfa_17_12 ⟨by decide +kernel, rfl⟩ ?_
    refine z_aload_n (f := 0) (i := 0) (q := 0) (pc' := 18) ⟨by decide +kernel, rfl⟩ rfl rfl ?_
    refine w_geti (k := 17) (j := 14) (idx := 63) (pc' := 21) yfxe_7_63 ykfa_17_14 ⟨by decide +kernel, rfl⟩ ?_
    refine w_lald (k := 26) (n := n1) (pc' := 22) ykaa_26 (hi1) (hz1) ⟨by decide +kernel, rfl⟩ ?_
    refine z_aload_n (f := 0) (i := 0) (q := 0) (pc' := 23) ⟨by decide +kernel, rfl⟩ rfl rfl ?_
    refine w_getr (k := 17) (j := 11) (idx := 44) (pc' := 26) yfxe_7_44 ykfa_17_11 ⟨by decide +kernel, rfl⟩ ?_
    refine z_aload_n (f := 0) (i := 0) (q := 0) (pc' := 27) ⟨by decide +kernel, rfl⟩ rfl rfl ?_
    refine w_geti (k := 17) (j := 14) (idx := 63) (pc' := 30) yfxe_7_63 ykfa_17_14 ⟨by decide +kernel, rfl⟩ ?_
    refine w_iald (k := 25) (n := n1) (pc' := 31) ykaa_25 (hi1) (hz1) ⟨by decide +kernel, rfl⟩ ?_
    refine z_i2l (v := (Int32.toInt64 (σ.1 25 n1))) (pc' := 32) ⟨by decide +kernel, rfl⟩ rfl ?_
    have h := h (Int32.toInt64 (σ.1 25 n1)) (Int32.toInt_toInt64 _)
    generalize (Int32.toInt64 (σ.1 25 n1)) = r3 at h ⊢
    refine z_lsub (pc' := 33) ⟨by decide +kernel, rfl⟩ ?_
    obtain ⟨hb4, h⟩ := h
    have h := h ((σ.2 26 n1) - r3) (isl_ok rfl rfl hb4)
    generalize ((σ.2 26 n1) - r3) = r4 at h ⊢
    refine z_lconst (i := 1) (v := 1) (pc' := 34) ⟨by decide +kernel, rfl⟩ (by decide) ?_
    refine z_lcmp (pc' := 35) ⟨by decide +kernel, rfl⟩ ?_
    refine z_if_ne (off := 7) (tgt := 42) (pc' := 38) ⟨by decide +kernel, by decide, rfl⟩ (fun h5 => ?_) (fun h5 => ?_)
    · have h := h.2 (qk_ne_t rfl (by decide) h5)
      refine z_iconst (i := 0) (v := 0) (pc' := 43) ⟨by decide +kernel, rfl⟩ (by decide) ?_
      refine z_sub [0] rfl ?_
      exact sb_Po_oneLetter_43  k h
    · have h := h.1 (qk_ne_f rfl (by decide) h5)
      refine z_iconst (i := 1) (v := 1) (pc' := 39) ⟨by decide +kernel, rfl⟩ (by decide) ?_
      refine z_goto (off := 4) (tgt := 43) (pc' := 42) ⟨by decide +kernel, by decide, rfl⟩ ?_
      refine z_sub [0] rfl ?_
      exact sb_Po_oneLetter_43  k h
noncomputable def W_Po_isFigure (a1 : Int32) (σ : zS) (Q : Int32 → zS → Prop) : Prop := ((Int32.toInt (σ.1 17 9)) ≤ (Int32.toInt a1) → (Q 0 σ)) ∧ (¬ (Int32.toInt (σ.1 17 9)) ≤ (Int32.toInt a1) → (∃ n2 : Nat, Int32.toInt a1 = (n2 : Int) ∧ n2 < 1200 ∧ (((Int32.toInt (σ.1 23 n2)) < 48 → (Q 0 σ)) ∧ (¬ (Int32.toInt (σ.1 23 n2)) < 48 → ((57 < (Int32.toInt (σ.1 23 n2)) → (Q 0 σ)) ∧ (¬ 57 < (Int32.toInt (σ.1 23 n2)) → (Q 1 σ)))))))
theorem sF_Po_isFigure {E : xV} {σ : zS} {K : zKt} {a1 : Int32} {Q : Int32 → zS → Prop} (h : W_Po_isFigure a1 σ Q) (k : ∀ v s, Q v s → K (some (.int v)) s) : Cz E Y_Po_isFigure [.ref 17, .int a1] σ K := by
  refine z_entry (by decide) (fun a => by rw [sl_len]; exact Nat.le_of_ble_eq_true rfl) rfl ?_
  unfold W_Po_isFigure at h
  refine z_iload_n (f := 1) (i := 1) (q := 1) (pc' := 1) ⟨by decide +kernel, rfl⟩ rfl rfl ?_
  refine z_aload_n (f := 0) (i := 0) (q := 0) (pc' := 2) ⟨by decide +kernel, rfl⟩ rfl rfl ?_
  refine w_geti (k := 17) (j := 9) (idx := 56) (pc' := 5) yfxe_7_56 ykfa_17_9 ⟨by decide +kernel, rfl⟩ ?_
  refine z_icmp_ge (off := 29) (tgt := 34) (pc' := 8) ⟨by decide +kernel, by decide, rfl⟩ (fun h1 => ?_) (fun h1 => ?_)
  · have h := h.1 (qi_ge_t rfl rfl h1)
    refine z_iconst (i := 0) (v := 0) (pc' := 35) ⟨by decide +kernel, rfl⟩ (by decide) ?_
    exact z_iret (ty := .boolean) rfl (by rfl) (by decide +kernel) (k _ _ h)
  · have h := h.2 (qi_ge_f rfl rfl h1)
    refine z_aload_n (f := 0) (i := 0) (q := 0) (pc' := 9) ⟨by decide +kernel, rfl⟩ rfl rfl ?_
    refine w_getr (k := 17) (j := 8) (idx := 38) (pc' := 12) yfxe_7_38 ykfa_17_8 ⟨by decide +kernel, rfl⟩ ?_
    refine z_iload_n (f := 1) (i := 1) (q := 1) (pc' := 13) ⟨by decide +kernel, rfl⟩ rfl rfl ?_
    obtain ⟨n2, hi2, hz2, h⟩ := h
    refine w_iald (k := 23) (n := n2) (pc' := 14) ykaa_23 (hi2) (hz2) ⟨by decide +kernel, rfl⟩ ?_
    refine z_bipush (i := 48) (v := 48) (pc' := 16) ⟨by decide +kernel, rfl⟩ (by decide) ?_
    refine z_icmp_lt (off := 18) (tgt := 34) (pc' := 19) ⟨by decide +kernel, by decide, rfl⟩ (fun h3 => ?_) (fun h3 => ?_)
    · have h := h.1 (qi_lt_t rfl (by decide) h3)
      refine z_iconst (i := 0) (v := 0) (pc' := 35) ⟨by decide +kernel, rfl⟩ (by decide) ?_
      exact z_iret (ty := .boolean) rfl (by rfl) (by decide +kernel) (k _ _ h)
    · have h := h.2 (qi_lt_f rfl (by decide) h3)
      refine z_aload_n (f := 0) (i := 0) (q := 0) (pc' := 20) ⟨by decide +kernel, rfl⟩ rfl rfl ?_
      refine w_getr (k := 17) (j := 8) (idx := 38) (pc' := 23) yfxe_7_38 ykfa_17_8 ⟨by decide +kernel, rfl⟩ ?_
      refine z_iload_n (f := 1) (i := 1) (q := 1) (pc' := 24) ⟨by decide +kernel, rfl⟩ rfl rfl ?_
      refine w_iald (k := 23) (n := n2) (pc' := 25) ykaa_23 (hi2) (hz2) ⟨by decide +kernel, rfl⟩ ?_
      refine z_bipush (i := 57) (v := 57) (pc' := 27) ⟨by decide +kernel, rfl⟩ (by decide) ?_
      refine z_icmp_gt (off := 7) (tgt := 34) (pc' := 30) ⟨by decide +kernel, by decide, rfl⟩ (fun h4 => ?_) (fun h4 => ?_)
      · have h := h.1 (qi_gt_t rfl (by decide) h4)
        refine z_iconst (i := 0) (v := 0) (pc' := 35) ⟨by decide +kernel, rfl⟩ (by decide) ?_
        exact z_iret (ty := .boolean) rfl (by rfl) (by decide +kernel) (k _ _ h)
      · have h := h.2 (qi_gt_f rfl (by decide) h4)
        refine z_iconst (i := 1) (v := 1) (pc' := 31) ⟨by decide +kernel, rfl⟩ (by decide) ?_
        refine z_goto (off := 4) (tgt := 35) (pc' := 34) ⟨by decide +kernel, by decide, rfl⟩ ?_
        exact z_iret (ty := .boolean) rfl (by rfl) (by decide +kernel) (k _ _ h)
noncomputable def W_Po_isLetter (a1 : Int32) (σ : zS) (Q : Int32 → zS → Prop) : Prop := ((Int32.toInt (σ.1 17 9)) ≤ (Int32.toInt a1) → (Q 0 σ)) ∧ (¬ (Int32.toInt (σ.1 17 9)) ≤ (Int32.toInt a1) → (∃ n2 : Nat, Int32.toInt a1 = (n2 : Int) ∧ n2 < 1200 ∧ (((Int32.toInt (σ.1 23 n2)) < 97 → (Q 0 σ)) ∧ (¬ (Int32.toInt (σ.1 23 n2)) < 97 → ((122 < (Int32.toInt (σ.1 23 n2)) → (Q 0 σ)) ∧ (¬ 122 < (Int32.toInt (σ.1 23 n2)) → (Q 1 σ)))))))
theorem sF_Po_isLetter {E : xV} {σ : zS} {K : zKt} {a1 : Int32} {Q : Int32 → zS → Prop} (h : W_Po_isLetter a1 σ Q) (k : ∀ v s, Q v s → K (some (.int v)) s) : Cz E Y_Po_isLetter [.ref 17, .int a1] σ K := by
  refine z_entry (by decide) (fun a => by rw [sl_len]; exact Nat.le_of_ble_eq_true rfl) rfl ?_
  unfold W_Po_isLetter at h
  refine z_iload_n (f := 1) (i := 1) (q := 1) (pc' := 1) ⟨by decide +kernel, rfl⟩ rfl rfl ?_
  refine z_aload_n (f := 0) (i := 0) (q := 0) (pc' := 2) ⟨by decide +kernel, rfl⟩ rfl rfl ?_
  refine w_geti (k := 17) (j := 9) (idx := 56) (pc' := 5) yfxe_7_56 ykfa_17_9 ⟨by decide +kernel, rfl⟩ ?_
  refine z_icmp_ge (off := 29) (tgt := 34) (pc' := 8) ⟨by decide +kernel, by decide, rfl⟩ (fun h1 => ?_) (fun h1 => ?_)
  · have h := h.1 (qi_ge_t rfl rfl h1)
    refine z_iconst (i := 0) (v := 0) (pc' := 35) ⟨by decide +kernel, rfl⟩ (by decide) ?_
    exact z_iret (ty := .boolean) rfl (by rfl) (by decide +kernel) (k _ _ h)
  · have h := h.2 (qi_ge_f rfl rfl h1)
    refine z_aload_n (f := 0) (i := 0) (q := 0) (pc' := 9) ⟨by decide +kernel, rfl⟩ rfl rfl ?_
    refine w_getr (k := 17) (j := 8) (idx := 38) (pc' := 12) yfxe_7_38 ykfa_17_8 ⟨by decide +kernel, rfl⟩ ?_
    refine z_iload_n (f := 1) (i := 1) (q := 1) (pc' := 13) ⟨by decide +kernel, rfl⟩ rfl rfl ?_
    obtain ⟨n2, hi2, hz2, h⟩ := h
    refine w_iald (k := 23) (n := n2) (pc' := 14) ykaa_23 (hi2) (hz2) ⟨by decide +kernel, rfl⟩ ?_
    refine z_bipush (i := 97) (v := 97) (pc' := 16) ⟨by decide +kernel, rfl⟩ (by decide) ?_
    refine z_icmp_lt (off := 18) (tgt := 34) (pc' := 19) ⟨by decide +kernel, by decide, rfl⟩ (fun h3 => ?_) (fun h3 => ?_)
    · have h := h.1 (qi_lt_t rfl (by decide) h3)
      refine z_iconst (i := 0) (v := 0) (pc' := 35) ⟨by decide +kernel, rfl⟩ (by decide) ?_
      exact z_iret (ty := .boolean) rfl (by rfl) (by decide +kernel) (k _ _ h)
    · have h := h.2 (qi_lt_f rfl (by decide) h3)
      refine z_aload_n (f := 0) (i := 0) (q := 0) (pc' := 20) ⟨by decide +kernel, rfl⟩ rfl rfl ?_
      refine w_getr (k := 17) (j := 8) (idx := 38) (pc' := 23) yfxe_7_38 ykfa_17_8 ⟨by decide +kernel, rfl⟩ ?_
      refine z_iload_n (f := 1) (i := 1) (q := 1) (pc' := 24) ⟨by decide +kernel, rfl⟩ rfl rfl ?_
      refine w_iald (k := 23) (n := n2) (pc' := 25) ykaa_23 (hi2) (hz2) ⟨by decide +kernel, rfl⟩ ?_
      refine z_bipush (i := 122) (v := 122) (pc' := 27) ⟨by decide +kernel, rfl⟩ (by decide) ?_
      refine z_icmp_gt (off := 7) (tgt := 34) (pc' := 30) ⟨by decide +kernel, by decide, rfl⟩ (fun h4 => ?_) (fun h4 => ?_)
      · have h := h.1 (qi_gt_t rfl (by decide) h4)
        refine z_iconst (i := 0) (v := 0) (pc' := 35) ⟨by decide +kernel, rfl⟩ (by decide) ?_
        exact z_iret (ty := .boolean) rfl (by rfl) (by decide +kernel) (k _ _ h)
      · have h := h.2 (qi_gt_f rfl (by decide) h4)
        refine z_iconst (i := 1) (v := 1) (pc' := 31) ⟨by decide +kernel, rfl⟩ (by decide) ?_
        refine z_goto (off := 4) (tgt := 35) (pc' := 34) ⟨by decide +kernel, by decide, rfl⟩ ?_
        exact z_iret (ty := .boolean) rfl (by rfl) (by decide +kernel) (k _ _ h)
noncomputable def W_Po_addToken (a1 : Int32) (a2 : Int32) (a3 : Int64) (σ : zS) (Q : Unit → zS → Prop) : Prop := (1200 < (Int32.toInt (σ.1 17 13)) → (Q () σ)) ∧ (¬ 1200 < (Int32.toInt (σ.1 17 13)) → (∃ n2 : Nat, Int32.toInt (σ.1 17 13) = (n2 : Int) ∧ n2 < 1201 ∧ (∀ σ3 : zS, zI σ 24 n2 a1 = σ3 → (∃ n4 : Nat, Int32.toInt (σ3.1 17 13) = (n4 : Int) ∧ n4 < 1201 ∧ (∀ σ5 : zS, zI σ3 25 n4 a2 = σ5 → (∃ n6 : Nat, Int32.toInt (σ5.1 17 13) = (n6 : Int) ∧ n6 < 1201 ∧ (∀ σ7 : zS, zJ σ5 26 n6 a3 = σ7 → ((-2147483648 ≤ (Int32.toInt (σ7.1 17 13)) + 1 ∧ (Int32.toInt (σ7.1 17 13)) + 1 ≤ 2147483647) ∧ ∀ r8 : Int32, r8.toInt = (Int32.toInt (σ7.1 17 13)) + 1 → (∀ σ9 : zS, zI σ7 17 13 r8 = σ9 → (Q () σ9))))))))))
theorem sF_Po_addToken {E : xV} {σ : zS} {K : zKt} {a1 : Int32} {a2 : Int32} {a3 : Int64} {Q : Unit → zS → Prop} (h : W_Po_addToken a1 a2 a3 σ Q) (k : ∀ v s, Q v s → K none s) : Cz E Y_Po_addToken [.ref 17, .int a1, .int a2, .long a3] σ K := by
  refine z_entry (by decide) (fun a => by rw [sl_len]; exact Nat.le_of_ble_eq_true rfl) rfl ?_
  unfold W_Po_addToken at h
  refine z_aload_n (f := 0) (i := 0) (q := 0) (pc' := 1) ⟨by decide +kernel, rfl⟩ rfl rfl ?_
  refine w_geti (k := 17) (j := 13) (idx := 86) (pc' := 4) yfxe_7_86 ykfa_17_13 ⟨by decide +kernel, rfl⟩ ?_
  refine z_sipush (i := 1200) (v := 1200) (pc' := 7) ⟨by decide +kernel, rfl⟩ (by decide) ?_
  refine z_icmp_gt (off := 43) (tgt := 50) (pc' := 10) ⟨by decide +kernel, by decide, rfl⟩ (fun h1 => ?_) (fun h1 => ?_)
  · have h := h.1 (qi_gt_t rfl (by decide) h1)
    exact z_vret rfl (by decide +kernel) (k _ _ h)
  · have h := h.2 (qi_gt_f rfl (by decide) h1)
    refine z_aload_n (f := 0) (i := 0) (q := 0) (pc' := 11) ⟨by decide +kernel, rfl⟩ rfl rfl ?_
    refine w_getr (k := 17) (j := 10) (idx := 41) (pc' := 14) yfxe_7_41 ykfa_17_10 ⟨by decide +kernel, rfl⟩ ?_
    refine z_aload_n (f := 0) (i := 0) (q := 0) (pc' := 15) ⟨by decide +kernel, rfl⟩ rfl rfl ?_
    refine w_geti (k := 17) (j := 13) (idx := 86) (pc' := 18) yfxe_7_86 ykfa_17_13 ⟨by decide +kernel, rfl⟩ ?_
    refine z_iload_n (f := 1) (i := 1) (q := 1) (pc' := 19) ⟨by decide +kernel, rfl⟩ rfl rfl ?_
    obtain ⟨n2, hi2, hz2, h⟩ := h
    refine w_iast (k := 24) (n := n2) (pc' := 20) ykaa_24 (hi2) (hz2) ⟨by decide +kernel, rfl⟩ ?_
    generalize hs3 : zI σ 24 n2 a1 = σ3
    have h := h σ3 hs3
    refine z_aload_n (f := 0) (i := 0) (q := 0) (pc' := 21) ⟨by decide +kernel, rfl⟩ rfl rfl ?_
    refine w_getr (k := 17) (j := 11) (idx := 44) (pc' := 24) yfxe_7_44 ykfa_17_11 ⟨by decide +kernel, rfl⟩ ?_
    refine z_aload_n (f := 0) (i := 0) (q := 0) (pc' := 25) ⟨by decide +kernel, rfl⟩ rfl rfl ?_
    refine w_geti (k := 17) (j := 13) (idx := 86) (pc' := 28) yfxe_7_86 ykfa_17_13 ⟨by decide +kernel, rfl⟩ ?_
    refine z_iload_n (f := 2) (i := 2) (q := 2) (pc' := 29) ⟨by decide +kernel, rfl⟩ rfl rfl ?_
    obtain ⟨n4, hi4, hz4, h⟩ := h
    refine w_iast (k := 25) (n := n4) (pc' := 30) ykaa_25 (hi4) (hz4) ⟨by decide +kernel, rfl⟩ ?_
    generalize hs5 : zI σ3 25 n4 a2 = σ5
    have h := h σ5 hs5
    refine z_aload_n (f := 0) (i := 0) (q := 0) (pc' := 31) ⟨by decide +kernel, rfl⟩ rfl rfl ?_
    refine w_getr (k := 17) (j := 12) (idx := 47) (pc' := 34) yfxe_7_47 ykfa_17_12 ⟨by decide +kernel, rfl⟩ ?_
    refine z_aload_n (f := 0) (i := 0) (q := 0) (pc' := 35) ⟨by decide +kernel, rfl⟩ rfl rfl ?_
    refine w_geti (k := 17) (j := 13) (idx := 86) (pc' := 38) yfxe_7_86 ykfa_17_13 ⟨by decide +kernel, rfl⟩ ?_
    refine z_lload_n (f := 3) (i := 3) (q := 3) (pc' := 39) ⟨by decide +kernel, rfl⟩ rfl rfl ?_
    obtain ⟨n6, hi6, hz6, h⟩ := h
    refine w_last (k := 26) (n := n6) (pc' := 40) ykaa_26 (hi6) (hz6) ⟨by decide +kernel, rfl⟩ ?_
    generalize hs7 : zJ σ5 26 n6 a3 = σ7
    have h := h σ7 hs7
    refine z_aload_n (f := 0) (i := 0) (q := 0) (pc' := 41) ⟨by decide +kernel, rfl⟩ rfl rfl ?_
    refine z_dupr (pc' := 42) ⟨by decide +kernel, rfl⟩ ?_
    refine w_geti (k := 17) (j := 13) (idx := 86) (pc' := 45) yfxe_7_86 ykfa_17_13 ⟨by decide +kernel, rfl⟩ ?_
    refine z_iconst (i := 1) (v := 1) (pc' := 46) ⟨by decide +kernel, rfl⟩ (by decide) ?_
    refine z_iadd (pc' := 47) ⟨by decide +kernel, rfl⟩ ?_
    obtain ⟨hb8, h⟩ := h
    have h := h ((σ7.1 17 13) + 1) (ia_ok rfl (by decide) hb8)
    generalize ((σ7.1 17 13) + 1) = r8 at h ⊢
    refine w_puti (k := 17) (j := 13) (idx := 86) (pc' := 50) yfxi_7_86 ykfa_17_13 ⟨by decide +kernel, rfl⟩ ?_
    generalize hs9 : zI σ7 17 13 r8 = σ9
    have h := h σ9 hs9
    exact z_vret rfl (by decide +kernel) (k _ _ h)
noncomputable def W_Po_isSign (a1 : Int32) (σ : zS) (Q : Int32 → zS → Prop) : Prop := ∃ n1 : Nat, Int32.toInt (σ.1 17 14) = (n1 : Int) ∧ n1 < 1201 ∧ (((Int32.toInt (σ.1 24 n1)) = 4 → (∀ r3 : Int64, r3.toInt = (Int32.toInt a1) → (((Int64.toInt (σ.2 26 n1)) = (Int64.toInt r3) → (Q 1 σ)) ∧ (¬ (Int64.toInt (σ.2 26 n1)) = (Int64.toInt r3) → (Q 0 σ))))) ∧ (¬ (Int32.toInt (σ.1 24 n1)) = 4 → (Q 0 σ)))
theorem sF_Po_isSign {E : xV} {σ : zS} {K : zKt} {a1 : Int32} {Q : Int32 → zS → Prop} (h : W_Po_isSign a1 σ Q) (k : ∀ v s, Q v s → K (some (.int v)) s) : Cz E Y_Po_isSign [.ref 17, .int a1] σ K := by
  refine z_entry (by decide) (fun a => by rw [sl_len]; exact Nat.le_of_ble_eq_true rfl) rfl ?_
  unfold W_Po_isSign at h
  refine z_aload_n (f := 0) (i := 0) (q := 0) (pc' := 1) ⟨by decide +kernel, rfl⟩ rfl rfl ?_
  refine w_getr (k := 17) (j := 10) (idx := 41) (pc' := 4) yfxe_7_41 ykfa_17_10 ⟨by decide +kernel, rfl⟩ ?_
  refine z_aload_n (f := 0) (i := 0) (q := 0) (pc' := 5) ⟨by decide +kernel, rfl⟩ rfl rfl ?_
  refine w_geti (k := 17) (j := 14) (idx := 63) (pc' := 8) yfxe_7_63 ykfa_17_14 ⟨by decide +kernel, rfl⟩ ?_
  obtain ⟨n1, hi1, hz1, h⟩ := h
  refine w_iald (k := 24) (n := n1) (pc' := 9) ykaa_24 (hi1) (hz1) ⟨by decide +kernel, rfl⟩ ?_
  refine z_iconst (i := 4) (v := 4) (pc' := 10) ⟨by decide +kernel, rfl⟩ (by decide) ?_
  refine z_icmp_ne (off := 22) (tgt := 32) (pc' := 13) ⟨by decide +kernel, by decide, rfl⟩ (fun h2 => ?_) (fun h2 => ?_)
  · have h := h.2 (qi_ne_t rfl (by decide) h2)
    refine z_iconst (i := 0) (v := 0) (pc' := 33) ⟨by decide +kernel, rfl⟩ (by decide) ?_
    exact z_iret (ty := .boolean) rfl (by rfl) (by decide +kernel) (k _ _ h)
  · have h := h.1 (qi_ne_f rfl (by decide) h2)
    refine z_aload_n (f := 0) (i := 0) (q := 0) (pc' := 14) ⟨by decide +kernel, rfl⟩ rfl rfl ?_
    refine w_getr (k := 17) (j := 12) (idx := 47) (pc' := 17) yfxe_7_47 ykfa_17_12 ⟨by decide +kernel, rfl⟩ ?_
    refine z_aload_n (f := 0) (i := 0) (q := 0) (pc' := 18) ⟨by decide +kernel, rfl⟩ rfl rfl ?_
    refine w_geti (k := 17) (j := 14) (idx := 63) (pc' := 21) yfxe_7_63 ykfa_17_14 ⟨by decide +kernel, rfl⟩ ?_
    refine w_lald (k := 26) (n := n1) (pc' := 22) ykaa_26 (hi1) (hz1) ⟨by decide +kernel, rfl⟩ ?_
    refine z_iload_n (f := 1) (i := 1) (q := 1) (pc' := 23) ⟨by decide +kernel, rfl⟩ rfl rfl ?_
    refine z_i2l (v := (Int32.toInt64 a1)) (pc' := 24) ⟨by decide +kernel, rfl⟩ rfl ?_
    have h := h (Int32.toInt64 a1) (Int32.toInt_toInt64 _)
    generalize (Int32.toInt64 a1) = r3 at h ⊢
    refine z_lcmp (pc' := 25) ⟨by decide +kernel, rfl⟩ ?_
    refine z_if_ne (off := 7) (tgt := 32) (pc' := 28) ⟨by decide +kernel, by decide, rfl⟩ (fun h4 => ?_) (fun h4 => ?_)
    · have h := h.2 (qk_ne_t rfl rfl h4)
      refine z_iconst (i := 0) (v := 0) (pc' := 33) ⟨by decide +kernel, rfl⟩ (by decide) ?_
      exact z_iret (ty := .boolean) rfl (by rfl) (by decide +kernel) (k _ _ h)
    · have h := h.1 (qk_ne_f rfl rfl h4)
      refine z_iconst (i := 1) (v := 1) (pc' := 29) ⟨by decide +kernel, rfl⟩ (by decide) ?_
      refine z_goto (off := 4) (tgt := 33) (pc' := 32) ⟨by decide +kernel, by decide, rfl⟩ ?_
      exact z_iret (ty := .boolean) rfl (by rfl) (by decide +kernel) (k _ _ h)
noncomputable def W_Po_fail  (σ : zS) (Q : Int32 → zS → Prop) : Prop := ∃ n1 : Nat, Int32.toInt (σ.1 17 14) = (n1 : Int) ∧ n1 < 1201 ∧ (∀ σ2 : zS, zI σ 17 16 (σ.1 25 n1) = σ2 → (Q 0 σ2))
theorem sF_Po_fail {E : xV} {σ : zS} {K : zKt}  {Q : Int32 → zS → Prop} (h : W_Po_fail  σ Q) (k : ∀ v s, Q v s → K (some (.int v)) s) : Cz E Y_Po_fail [.ref 17] σ K := by
  refine z_entry (by decide) (fun a => by rw [sl_len]; exact Nat.le_of_ble_eq_true rfl) rfl ?_
  unfold W_Po_fail at h
  refine z_aload_n (f := 0) (i := 0) (q := 0) (pc' := 1) ⟨by decide +kernel, rfl⟩ rfl rfl ?_
  refine z_aload_n (f := 0) (i := 0) (q := 0) (pc' := 2) ⟨by decide +kernel, rfl⟩ rfl rfl ?_
  refine w_getr (k := 17) (j := 11) (idx := 44) (pc' := 5) yfxe_7_44 ykfa_17_11 ⟨by decide +kernel, rfl⟩ ?_
  refine z_aload_n (f := 0) (i := 0) (q := 0) (pc' := 6) ⟨by decide +kernel, rfl⟩ rfl rfl ?_
  refine w_geti (k := 17) (j := 14) (idx := 63) (pc' := 9) yfxe_7_63 ykfa_17_14 ⟨by decide +kernel, rfl⟩ ?_
  obtain ⟨n1, hi1, hz1, h⟩ := h
  refine w_iald (k := 25) (n := n1) (pc' := 10) ykaa_25 (hi1) (hz1) ⟨by decide +kernel, rfl⟩ ?_
  refine w_puti (k := 17) (j := 16) (idx := 80) (pc' := 13) yfxi_7_80 ykfa_17_16 ⟨by decide +kernel, rfl⟩ ?_
  generalize hs2 : zI σ 17 16 (σ.1 25 n1) = σ2
  have h := h σ2 hs2
  refine z_iconst (i := 0) (v := 0) (pc' := 14) ⟨by decide +kernel, rfl⟩ (by decide) ?_
  exact z_iret (ty := .boolean) rfl (by rfl) (by decide +kernel) (k _ _ h)
noncomputable def W_Po_passes (a1 : Int32) (σ : zS) (Q : Int32 → zS → Prop) : Prop := W_Po_isSign a1 σ (fun v1 σ1 => ((Int32.toInt v1) = 0 → (W_Po_fail  σ1 (fun v5 σ5 => (v5 = 0 ∨ v5 = 1) ∧ (Q v5 σ5)))) ∧ (¬ (Int32.toInt v1) = 0 → ((-2147483648 ≤ (Int32.toInt (σ1.1 17 14)) + 1 ∧ (Int32.toInt (σ1.1 17 14)) + 1 ≤ 2147483647) ∧ ∀ r3 : Int32, r3.toInt = (Int32.toInt (σ1.1 17 14)) + 1 → (∀ σ4 : zS, zI σ1 17 14 r3 = σ4 → (Q 1 σ4)))))
theorem sF_Po_passes {E : xV} {σ : zS} {K : zKt} {a1 : Int32} {Q : Int32 → zS → Prop} (h : W_Po_passes a1 σ Q) (k : ∀ v s, Q v s → K (some (.int v)) s) : Cz E Y_Po_passes [.ref 17, .int a1] σ K := by
  refine z_entry (by decide) (fun a => by rw [sl_len]; exact Nat.le_of_ble_eq_true rfl) rfl ?_
  unfold W_Po_passes at h
  refine z_aload_n (f := 0) (i := 0) (q := 0) (pc' := 1) ⟨by decide +kernel, rfl⟩ rfl rfl ?_
  refine z_iload_n (f := 1) (i := 1) (q := 1) (pc' := 2) ⟨by decide +kernel, rfl⟩ rfl rfl ?_
  refine w_invV (Z := Y_Po_isSign) (idx := 137) (kb := 17) (As := [.int a1]) (rest := []) (pc' := 5) cl_7_137 rfl ⟨rfl, rfl⟩ ykfa_17_0 rfl ⟨⟨by decide, by decide⟩, rfl, rfl⟩ ⟨by decide +kernel, rfl⟩ rfl rfl (Nat.le_of_ble_eq_true rfl) rfl rfl ?_
  refine sF_Po_isSign h (fun v1 σ1 h => ?_)
  show Wz E Y_Po_passes 5 [(0, .ref 17), (1, .int a1)] [.int v1] σ1 K
  refine z_if_ne (off := 8) (tgt := 13) (pc' := 8) ⟨by decide +kernel, by decide, rfl⟩ (fun h2 => ?_) (fun h2 => ?_)
  · have h := h.2 (qi_ne_t rfl (by decide) h2)
    refine z_aload_n (f := 0) (i := 0) (q := 0) (pc' := 14) ⟨by decide +kernel, rfl⟩ rfl rfl ?_
    refine z_dupr (pc' := 15) ⟨by decide +kernel, rfl⟩ ?_
    refine w_geti (k := 17) (j := 14) (idx := 63) (pc' := 18) yfxe_7_63 ykfa_17_14 ⟨by decide +kernel, rfl⟩ ?_
    refine z_iconst (i := 1) (v := 1) (pc' := 19) ⟨by decide +kernel, rfl⟩ (by decide) ?_
    refine z_iadd (pc' := 20) ⟨by decide +kernel, rfl⟩ ?_
    obtain ⟨hb3, h⟩ := h
    have h := h ((σ1.1 17 14) + 1) (ia_ok rfl (by decide) hb3)
    generalize ((σ1.1 17 14) + 1) = r3 at h ⊢
    refine w_puti (k := 17) (j := 14) (idx := 63) (pc' := 23) yfxi_7_63 ykfa_17_14 ⟨by decide +kernel, rfl⟩ ?_
    generalize hs4 : zI σ1 17 14 r3 = σ4
    have h := h σ4 hs4
    refine z_iconst (i := 1) (v := 1) (pc' := 24) ⟨by decide +kernel, rfl⟩ (by decide) ?_
    exact z_iret (ty := .boolean) rfl (by rfl) (by decide +kernel) (k _ _ h)
  · have h := h.1 (qi_ne_f rfl (by decide) h2)
    refine z_aload_n (f := 0) (i := 0) (q := 0) (pc' := 9) ⟨by decide +kernel, rfl⟩ rfl rfl ?_
    refine w_invV (Z := Y_Po_fail) (idx := 140) (kb := 17) (As := []) (rest := []) (pc' := 12) cl_7_140 rfl ⟨rfl, rfl⟩ ykfa_17_0 rfl ⟨⟨by decide, by decide⟩, rfl, rfl⟩ ⟨by decide +kernel, rfl⟩ rfl rfl (Nat.le_of_ble_eq_true rfl) rfl rfl ?_
    refine sF_Po_fail h (fun v5 σ5 h => ?_)
    show Wz E Y_Po_passes 12 [(0, .ref 17), (1, .int a1)] [.int v5] σ5 K
    obtain ⟨hg6, h⟩ := h
    exact z_iret (ty := .boolean) rfl (j_bool hg6).1 (by decide +kernel) (k _ _ h)
noncomputable def W_Po_emit (a1 : Int32) (a2 : Int64) (σ : zS) (Q : Unit → zS → Prop) : Prop := (9600 ≤ (Int32.toInt (σ.1 17 15)) → (Q () σ)) ∧ (¬ 9600 ≤ (Int32.toInt (σ.1 17 15)) → (∃ n2 : Nat, Int32.toInt (σ.1 17 15) = (n2 : Int) ∧ n2 < 9600 ∧ (∀ σ3 : zS, zI σ 21 n2 a1 = σ3 → (∃ n4 : Nat, Int32.toInt (σ3.1 17 15) = (n4 : Int) ∧ n4 < 9600 ∧ (∀ σ5 : zS, zJ σ3 22 n4 a2 = σ5 → ((-2147483648 ≤ (Int32.toInt (σ5.1 17 15)) + 1 ∧ (Int32.toInt (σ5.1 17 15)) + 1 ≤ 2147483647) ∧ ∀ r6 : Int32, r6.toInt = (Int32.toInt (σ5.1 17 15)) + 1 → (∀ σ7 : zS, zI σ5 17 15 r6 = σ7 → (Q () σ7))))))))
theorem sF_Po_emit {E : xV} {σ : zS} {K : zKt} {a1 : Int32} {a2 : Int64} {Q : Unit → zS → Prop} (h : W_Po_emit a1 a2 σ Q) (k : ∀ v s, Q v s → K none s) : Cz E Y_Po_emit [.ref 17, .int a1, .long a2] σ K := by
  refine z_entry (by decide) (fun a => by rw [sl_len]; exact Nat.le_of_ble_eq_true rfl) rfl ?_
  unfold W_Po_emit at h
  refine z_aload_n (f := 0) (i := 0) (q := 0) (pc' := 1) ⟨by decide +kernel, rfl⟩ rfl rfl ?_
  refine w_geti (k := 17) (j := 15) (idx := 69) (pc' := 4) yfxe_7_69 ykfa_17_15 ⟨by decide +kernel, rfl⟩ ?_
  refine z_sipush (i := 9600) (v := 9600) (pc' := 7) ⟨by decide +kernel, rfl⟩ (by decide) ?_
  refine z_icmp_ge (off := 33) (tgt := 40) (pc' := 10) ⟨by decide +kernel, by decide, rfl⟩ (fun h1 => ?_) (fun h1 => ?_)
  · have h := h.1 (qi_ge_t rfl (by decide) h1)
    exact z_vret rfl (by decide +kernel) (k _ _ h)
  · have h := h.2 (qi_ge_f rfl (by decide) h1)
    refine z_aload_n (f := 0) (i := 0) (q := 0) (pc' := 11) ⟨by decide +kernel, rfl⟩ rfl rfl ?_
    refine w_getr (k := 17) (j := 4) (idx := 31) (pc' := 14) yfxe_7_31 ykfa_17_4 ⟨by decide +kernel, rfl⟩ ?_
    refine z_aload_n (f := 0) (i := 0) (q := 0) (pc' := 15) ⟨by decide +kernel, rfl⟩ rfl rfl ?_
    refine w_geti (k := 17) (j := 15) (idx := 69) (pc' := 18) yfxe_7_69 ykfa_17_15 ⟨by decide +kernel, rfl⟩ ?_
    refine z_iload_n (f := 1) (i := 1) (q := 1) (pc' := 19) ⟨by decide +kernel, rfl⟩ rfl rfl ?_
    obtain ⟨n2, hi2, hz2, h⟩ := h
    refine w_iast (k := 21) (n := n2) (pc' := 20) ykaa_21 (hi2) (hz2) ⟨by decide +kernel, rfl⟩ ?_
    generalize hs3 : zI σ 21 n2 a1 = σ3
    have h := h σ3 hs3
    refine z_aload_n (f := 0) (i := 0) (q := 0) (pc' := 21) ⟨by decide +kernel, rfl⟩ rfl rfl ?_
    refine w_getr (k := 17) (j := 5) (idx := 34) (pc' := 24) yfxe_7_34 ykfa_17_5 ⟨by decide +kernel, rfl⟩ ?_
    refine z_aload_n (f := 0) (i := 0) (q := 0) (pc' := 25) ⟨by decide +kernel, rfl⟩ rfl rfl ?_
    refine w_geti (k := 17) (j := 15) (idx := 69) (pc' := 28) yfxe_7_69 ykfa_17_15 ⟨by decide +kernel, rfl⟩ ?_
    refine z_lload_n (f := 2) (i := 2) (q := 2) (pc' := 29) ⟨by decide +kernel, rfl⟩ rfl rfl ?_
    obtain ⟨n4, hi4, hz4, h⟩ := h
    refine w_last (k := 22) (n := n4) (pc' := 30) ykaa_22 (hi4) (hz4) ⟨by decide +kernel, rfl⟩ ?_
    generalize hs5 : zJ σ3 22 n4 a2 = σ5
    have h := h σ5 hs5
    refine z_aload_n (f := 0) (i := 0) (q := 0) (pc' := 31) ⟨by decide +kernel, rfl⟩ rfl rfl ?_
    refine z_dupr (pc' := 32) ⟨by decide +kernel, rfl⟩ ?_
    refine w_geti (k := 17) (j := 15) (idx := 69) (pc' := 35) yfxe_7_69 ykfa_17_15 ⟨by decide +kernel, rfl⟩ ?_
    refine z_iconst (i := 1) (v := 1) (pc' := 36) ⟨by decide +kernel, rfl⟩ (by decide) ?_
    refine z_iadd (pc' := 37) ⟨by decide +kernel, rfl⟩ ?_
    obtain ⟨hb6, h⟩ := h
    have h := h ((σ5.1 17 15) + 1) (ia_ok rfl (by decide) hb6)
    generalize ((σ5.1 17 15) + 1) = r6 at h ⊢
    refine w_puti (k := 17) (j := 15) (idx := 69) (pc' := 40) yfxi_7_69 ykfa_17_15 ⟨by decide +kernel, rfl⟩ ?_
    generalize hs7 : zI σ5 17 15 r6 = σ7
    have h := h σ7 hs7
    exact z_vret rfl (by decide +kernel) (k _ _ h)
noncomputable def W_Po_aimHere (a1 : Int32) (σ : zS) (Q : Unit → zS → Prop) : Prop := ((Int32.toInt (σ.1 17 15)) ≤ (Int32.toInt a1) → (Q () σ)) ∧ (¬ (Int32.toInt (σ.1 17 15)) ≤ (Int32.toInt a1) → (∀ r2 : Int64, r2.toInt = (Int32.toInt (σ.1 17 15)) → (∃ n3 : Nat, Int32.toInt a1 = (n3 : Int) ∧ n3 < 9600 ∧ (∀ σ4 : zS, zJ σ 22 n3 r2 = σ4 → (Q () σ4)))))
theorem sF_Po_aimHere {E : xV} {σ : zS} {K : zKt} {a1 : Int32} {Q : Unit → zS → Prop} (h : W_Po_aimHere a1 σ Q) (k : ∀ v s, Q v s → K none s) : Cz E Y_Po_aimHere [.ref 17, .int a1] σ K := by
  refine z_entry (by decide) (fun a => by rw [sl_len]; exact Nat.le_of_ble_eq_true rfl) rfl ?_
  unfold W_Po_aimHere at h
  refine z_iload_n (f := 1) (i := 1) (q := 1) (pc' := 1) ⟨by decide +kernel, rfl⟩ rfl rfl ?_
  refine z_aload_n (f := 0) (i := 0) (q := 0) (pc' := 2) ⟨by decide +kernel, rfl⟩ rfl rfl ?_
  refine w_geti (k := 17) (j := 15) (idx := 69) (pc' := 5) yfxe_7_69 ykfa_17_15 ⟨by decide +kernel, rfl⟩ ?_
  refine z_icmp_ge (off := 14) (tgt := 19) (pc' := 8) ⟨by decide +kernel, by decide, rfl⟩ (fun h1 => ?_) (fun h1 => ?_)
  · have h := h.1 (qi_ge_t rfl rfl h1)
    exact z_vret rfl (by decide +kernel) (k _ _ h)
  · have h := h.2 (qi_ge_f rfl rfl h1)
    refine z_aload_n (f := 0) (i := 0) (q := 0) (pc' := 9) ⟨by decide +kernel, rfl⟩ rfl rfl ?_
    refine w_getr (k := 17) (j := 5) (idx := 34) (pc' := 12) yfxe_7_34 ykfa_17_5 ⟨by decide +kernel, rfl⟩ ?_
    refine z_iload_n (f := 1) (i := 1) (q := 1) (pc' := 13) ⟨by decide +kernel, rfl⟩ rfl rfl ?_
    refine z_aload_n (f := 0) (i := 0) (q := 0) (pc' := 14) ⟨by decide +kernel, rfl⟩ rfl rfl ?_
    refine w_geti (k := 17) (j := 15) (idx := 69) (pc' := 17) yfxe_7_69 ykfa_17_15 ⟨by decide +kernel, rfl⟩ ?_
    refine z_i2l (v := (Int32.toInt64 (σ.1 17 15))) (pc' := 18) ⟨by decide +kernel, rfl⟩ rfl ?_
    have h := h (Int32.toInt64 (σ.1 17 15)) (Int32.toInt_toInt64 _)
    generalize (Int32.toInt64 (σ.1 17 15)) = r2 at h ⊢
    obtain ⟨n3, hi3, hz3, h⟩ := h
    refine w_last (k := 22) (n := n3) (pc' := 19) ykaa_22 (hi3) (hz3) ⟨by decide +kernel, rfl⟩ ?_
    generalize hs4 : zJ σ 22 n3 r2 = σ4
    have h := h σ4 hs4
    exact z_vret rfl (by decide +kernel) (k _ _ h)
noncomputable def W_Po_comparisonHere  (σ : zS) (Q : Int32 → zS → Prop) : Prop := ∃ n1 : Nat, Int32.toInt (σ.1 17 14) = (n1 : Int) ∧ n1 < 1201 ∧ (((Int32.toInt (σ.1 24 n1)) = 4 → ((-2147483648 ≤ (Int64.toInt (σ.2 26 n1)) ∧ (Int64.toInt (σ.2 26 n1)) ≤ 2147483647) ∧ ∀ r3 : Int32, r3.toInt = (Int64.toInt (σ.2 26 n1)) → ((Int32.toInt r3 = 60 → (Q 13 σ)) ∧ (¬ Int32.toInt r3 = 60 → ((Int32.toInt r3 = 61 → (Q 15 σ)) ∧ (¬ Int32.toInt r3 = 61 → ((Int32.toInt r3 = 62 → (Q 18 σ)) ∧ (¬ Int32.toInt r3 = 62 → ((Int32.toInt r3 = 256 → (Q 14 σ)) ∧ (¬ Int32.toInt r3 = 256 → ((Int32.toInt r3 = 257 → (Q 17 σ)) ∧ (¬ Int32.toInt r3 = 257 → ((Int32.toInt r3 = 258 → (Q 16 σ)) ∧ (¬ Int32.toInt r3 = 258 → (Q (-4) σ))))))))))))))) ∧ (¬ (Int32.toInt (σ.1 24 n1)) = 4 → (Q (-4) σ)))
theorem sF_Po_comparisonHere {E : xV} {σ : zS} {K : zKt}  {Q : Int32 → zS → Prop} (h : W_Po_comparisonHere  σ Q) (k : ∀ v s, Q v s → K (some (.int v)) s) : Cz E Y_Po_comparisonHere [.ref 17] σ K := by
  refine z_entry (by decide) (fun a => by rw [sl_len]; exact Nat.le_of_ble_eq_true rfl) rfl ?_
  unfold W_Po_comparisonHere at h
  refine z_aload_n (f := 0) (i := 0) (q := 0) (pc' := 1) ⟨by decide +kernel, rfl⟩ rfl rfl ?_
  refine w_getr (k := 17) (j := 10) (idx := 41) (pc' := 4) yfxe_7_41 ykfa_17_10 ⟨by decide +kernel, rfl⟩ ?_
  refine z_aload_n (f := 0) (i := 0) (q := 0) (pc' := 5) ⟨by decide +kernel, rfl⟩ rfl rfl ?_
  refine w_geti (k := 17) (j := 14) (idx := 63) (pc' := 8) yfxe_7_63 ykfa_17_14 ⟨by decide +kernel, rfl⟩ ?_
  obtain ⟨n1, hi1, hz1, h⟩ := h
  refine w_iald (k := 24) (n := n1) (pc' := 9) ykaa_24 (hi1) (hz1) ⟨by decide +kernel, rfl⟩ ?_
  refine z_iconst (i := 4) (v := 4) (pc' := 10) ⟨by decide +kernel, rfl⟩ (by decide) ?_
  refine z_icmp_eq (off := 6) (tgt := 16) (pc' := 13) ⟨by decide +kernel, by decide, rfl⟩ (fun h2 => ?_) (fun h2 => ?_)
  · have h := h.1 (qi_eq_t rfl (by decide) h2)
    refine z_aload_n (f := 0) (i := 0) (q := 0) (pc' := 17) ⟨by decide +kernel, rfl⟩ rfl rfl ?_
    refine w_getr (k := 17) (j := 12) (idx := 47) (pc' := 20) yfxe_7_47 ykfa_17_12 ⟨by decide +kernel, rfl⟩ ?_
    refine z_aload_n (f := 0) (i := 0) (q := 0) (pc' := 21) ⟨by decide +kernel, rfl⟩ rfl rfl ?_
    refine w_geti (k := 17) (j := 14) (idx := 63) (pc' := 24) yfxe_7_63 ykfa_17_14 ⟨by decide +kernel, rfl⟩ ?_
    refine w_lald (k := 26) (n := n1) (pc' := 25) ykaa_26 (hi1) (hz1) ⟨by decide +kernel, rfl⟩ ?_
    refine z_l2i (pc' := 26) ⟨by decide +kernel, rfl⟩ rfl ?_
    obtain ⟨hb3, h⟩ := h
    have h := h (Int64.toInt32 (σ.2 26 n1)) (li_ok hb3)
    generalize (Int64.toInt32 (σ.2 26 n1)) = r3 at h ⊢
    by_cases h4 : Int32.toInt r3 = 60
    · refine z_lookup (dflt := 76) (ps := #[(60, 58), (61, 64), (62, 73), (256, 61), (257, 70), (258, 67)]) (len := 58) (off := 58) (tgt := 84) (by decide +kernel) (by decide) (by show Op.lookupswitch.offset [(60, 58), (61, 64), (62, 73), (256, 61), (257, 70), (258, 67)] 76 (Int32.toInt r3) = 58; rw [Op.lookupswitch.offset_cons, if_pos (Eq.symm h4)]) (by decide) ?_
      have h := h.1 h4
      refine z_bipush (i := 13) (v := 13) (pc' := 86) ⟨by decide +kernel, rfl⟩ (by decide) ?_
      exact z_iret (ty := .int) rfl (by rfl) (by decide +kernel) (k _ _ h)
    have h := h.2 h4
    by_cases h5 : Int32.toInt r3 = 61
    · refine z_lookup (dflt := 76) (ps := #[(60, 58), (61, 64), (62, 73), (256, 61), (257, 70), (258, 67)]) (len := 58) (off := 64) (tgt := 90) (by decide +kernel) (by decide) (by show Op.lookupswitch.offset [(60, 58), (61, 64), (62, 73), (256, 61), (257, 70), (258, 67)] 76 (Int32.toInt r3) = 64; rw [Op.lookupswitch.offset_cons, if_neg (Ne.symm h4), Op.lookupswitch.offset_cons, if_pos (Eq.symm h5)]) (by decide) ?_
      have h := h.1 h5
      refine z_bipush (i := 15) (v := 15) (pc' := 92) ⟨by decide +kernel, rfl⟩ (by decide) ?_
      exact z_iret (ty := .int) rfl (by rfl) (by decide +kernel) (k _ _ h)
    have h := h.2 h5
    by_cases h6 : Int32.toInt r3 = 62
    · refine z_lookup (dflt := 76) (ps := #[(60, 58), (61, 64), (62, 73), (256, 61), (257, 70), (258, 67)]) (len := 58) (off := 73) (tgt := 99) (by decide +kernel) (by decide) (by show Op.lookupswitch.offset [(60, 58), (61, 64), (62, 73), (256, 61), (257, 70), (258, 67)] 76 (Int32.toInt r3) = 73; rw [Op.lookupswitch.offset_cons, if_neg (Ne.symm h4), Op.lookupswitch.offset_cons, if_neg (Ne.symm h5), Op.lookupswitch.offset_cons, if_pos (Eq.symm h6)]) (by decide) ?_
      have h := h.1 h6
      refine z_bipush (i := 18) (v := 18) (pc' := 101) ⟨by decide +kernel, rfl⟩ (by decide) ?_
      exact z_iret (ty := .int) rfl (by rfl) (by decide +kernel) (k _ _ h)
    have h := h.2 h6
    by_cases h7 : Int32.toInt r3 = 256
    · refine z_lookup (dflt := 76) (ps := #[(60, 58), (61, 64), (62, 73), (256, 61), (257, 70), (258, 67)]) (len := 58) (off := 61) (tgt := 87) (by decide +kernel) (by decide) (by show Op.lookupswitch.offset [(60, 58), (61, 64), (62, 73), (256, 61), (257, 70), (258, 67)] 76 (Int32.toInt r3) = 61; rw [Op.lookupswitch.offset_cons, if_neg (Ne.symm h4), Op.lookupswitch.offset_cons, if_neg (Ne.symm h5), Op.lookupswitch.offset_cons, if_neg (Ne.symm h6), Op.lookupswitch.offset_cons, if_pos (Eq.symm h7)]) (by decide) ?_
      have h := h.1 h7
      refine z_bipush (i := 14) (v := 14) (pc' := 89) ⟨by decide +kernel, rfl⟩ (by decide) ?_
      exact z_iret (ty := .int) rfl (by rfl) (by decide +kernel) (k _ _ h)
    have h := h.2 h7
    by_cases h8 : Int32.toInt r3 = 257
    · refine z_lookup (dflt := 76) (ps := #[(60, 58), (61, 64), (62, 73), (256, 61), (257, 70), (258, 67)]) (len := 58) (off := 70) (tgt := 96) (by decide +kernel) (by decide) (by show Op.lookupswitch.offset [(60, 58), (61, 64), (62, 73), (256, 61), (257, 70), (258, 67)] 76 (Int32.toInt r3) = 70; rw [Op.lookupswitch.offset_cons, if_neg (Ne.symm h4), Op.lookupswitch.offset_cons, if_neg (Ne.symm h5), Op.lookupswitch.offset_cons, if_neg (Ne.symm h6), Op.lookupswitch.offset_cons, if_neg (Ne.symm h7), Op.lookupswitch.offset_cons, if_pos (Eq.symm h8)]) (by decide) ?_
      have h := h.1 h8
      refine z_bipush (i := 17) (v := 17) (pc' := 98) ⟨by decide +kernel, rfl⟩ (by decide) ?_
      exact z_iret (ty := .int) rfl (by rfl) (by decide +kernel) (k _ _ h)
    have h := h.2 h8
    by_cases h9 : Int32.toInt r3 = 258
    · refine z_lookup (dflt := 76) (ps := #[(60, 58), (61, 64), (62, 73), (256, 61), (257, 70), (258, 67)]) (len := 58) (off := 67) (tgt := 93) (by decide +kernel) (by decide) (by show Op.lookupswitch.offset [(60, 58), (61, 64), (62, 73), (256, 61), (257, 70), (258, 67)] 76 (Int32.toInt r3) = 67; rw [Op.lookupswitch.offset_cons, if_neg (Ne.symm h4), Op.lookupswitch.offset_cons, if_neg (Ne.symm h5), Op.lookupswitch.offset_cons, if_neg (Ne.symm h6), Op.lookupswitch.offset_cons, if_neg (Ne.symm h7), Op.lookupswitch.offset_cons, if_neg (Ne.symm h8), Op.lookupswitch.offset_cons, if_pos (Eq.symm h9)]) (by decide) ?_
      have h := h.1 h9
      refine z_bipush (i := 16) (v := 16) (pc' := 95) ⟨by decide +kernel, rfl⟩ (by decide) ?_
      exact z_iret (ty := .int) rfl (by rfl) (by decide +kernel) (k _ _ h)
    have h := h.2 h9
    refine z_lookup (dflt := 76) (ps := #[(60, 58), (61, 64), (62, 73), (256, 61), (257, 70), (258, 67)]) (len := 58) (off := 76) (tgt := 102) (by decide +kernel) (by decide) (by show Op.lookupswitch.offset [(60, 58), (61, 64), (62, 73), (256, 61), (257, 70), (258, 67)] 76 (Int32.toInt r3) = 76; rw [Op.lookupswitch.offset_cons, if_neg (Ne.symm h4), Op.lookupswitch.offset_cons, if_neg (Ne.symm h5), Op.lookupswitch.offset_cons, if_neg (Ne.symm h6), Op.lookupswitch.offset_cons, if_neg (Ne.symm h7), Op.lookupswitch.offset_cons, if_neg (Ne.symm h8), Op.lookupswitch.offset_cons, if_neg (Ne.symm h9), Op.lookupswitch.offset_nil]) (by decide) ?_
    refine z_bipush (i := (-4)) (v := (-4)) (pc' := 104) ⟨by decide +kernel, rfl⟩ (by decide) ?_
    exact z_iret (ty := .int) rfl (by rfl) (by decide +kernel) (k _ _ h)
  · have h := h.2 (qi_eq_f rfl (by decide) h2)
    refine z_bipush (i := (-4)) (v := (-4)) (pc' := 15) ⟨by decide +kernel, rfl⟩ (by decide) ?_
    exact z_iret (ty := .int) rfl (by rfl) (by decide +kernel) (k _ _ h)
noncomputable def WB_Po_numberBehind_89 (F89 : Int32 → Int32 → Int32 → zS → (Int32 → zS → Prop) → Prop) (x2 : Int32) (x4 : Int32) (x5 : Int32) (σ : zS) (Q : Int32 → zS → Prop) : Prop := ((Int32.toInt x2) ≤ (Int32.toInt x5) → (Q x4 σ)) ∧ (¬ (Int32.toInt x2) ≤ (Int32.toInt x5) → (W_Po_isFigure x5 σ (fun v2 σ2 => ((Int32.toInt v2) = 0 → (Q (-4) σ2)) ∧ (¬ (Int32.toInt v2) = 0 → ((-2147483648 ≤ (Int32.toInt x4) * 10 ∧ (Int32.toInt x4) * 10 ≤ 2147483647) ∧ ∀ r4 : Int32, r4.toInt = (Int32.toInt x4) * 10 → (∃ n5 : Nat, Int32.toInt x5 = (n5 : Int) ∧ n5 < 1200 ∧ ((-2147483648 ≤ (Int32.toInt r4) + (Int32.toInt (σ2.1 23 n5)) ∧ (Int32.toInt r4) + (Int32.toInt (σ2.1 23 n5)) ≤ 2147483647) ∧ ∀ r6 : Int32, r6.toInt = (Int32.toInt r4) + (Int32.toInt (σ2.1 23 n5)) → ((-2147483648 ≤ (Int32.toInt r6) - 48 ∧ (Int32.toInt r6) - 48 ≤ 2147483647) ∧ ∀ r7 : Int32, r7.toInt = (Int32.toInt r6) - 48 → ((-2147483648 ≤ (Int32.toInt x5) + 1 ∧ (Int32.toInt x5) + 1 ≤ 2147483647) ∧ ∀ r8 : Int32, r8.toInt = (Int32.toInt x5) + 1 → (F89 x2 r7 r8 σ2 Q))))))))))
theorem sh_Po_numberBehind_89 {E : xV} {σ : zS} {K : zKt} {F89 : Int32 → Int32 → Int32 → zS → (Int32 → zS → Prop) → Prop} {x2 : Int32} {x4 : Int32} {x5 : Int32} {Q : Int32 → zS → Prop} (f89 : ∀ (x2 : Int32) (x4 : Int32) (x5 : Int32) (σ : zS), F89 x2 x4 x5 σ Q → Wz E Y_Po_numberBehind 89 [(0, .ref 17), (2, .int x2), (4, .int x4), (5, .int x5)] [] σ K) (k : ∀ v s, Q v s → K (some (.int v)) s) (h : WB_Po_numberBehind_89 F89 x2 x4 x5 σ Q) : Wz E Y_Po_numberBehind 89 [(0, .ref 17), (2, .int x2), (4, .int x4), (5, .int x5)] [] σ K := by
  unfold WB_Po_numberBehind_89 at h
  refine z_iload (i := 5) (q := 3) (pc' := 91) ⟨by decide +kernel, rfl⟩ rfl ?_
  refine z_iload_n (f := 2) (i := 2) (q := 1) (pc' := 92) ⟨by decide +kernel, rfl⟩ rfl rfl ?_
  refine z_icmp_ge (off := 39) (tgt := 131) (pc' := 95) ⟨by decide +kernel, by decide, rfl⟩ (fun h1 => ?_) (fun h1 => ?_)
  · have h := h.1 (qi_ge_t rfl rfl h1)
    refine z_iload (i := 4) (q := 2) (pc' := 133) ⟨by decide +kernel, rfl⟩ rfl ?_
    exact z_iret (ty := .int) rfl (by rfl) (by decide +kernel) (k _ _ h)
  · have h := h.2 (qi_ge_f rfl rfl h1)
    refine z_aload_n (f := 0) (i := 0) (q := 0) (pc' := 96) ⟨by decide +kernel, rfl⟩ rfl rfl ?_
    refine z_iload (i := 5) (q := 3) (pc' := 98) ⟨by decide +kernel, rfl⟩ rfl ?_
    refine w_invV (Z := Y_Po_isFigure) (idx := 97) (kb := 17) (As := [.int x5]) (rest := []) (pc' := 101) cl_7_97 rfl ⟨rfl, rfl⟩ ykfa_17_0 rfl ⟨⟨by decide, by decide⟩, rfl, rfl⟩ ⟨by decide +kernel, rfl⟩ rfl rfl (Nat.le_of_ble_eq_true rfl) rfl rfl ?_
    refine sF_Po_isFigure h (fun v2 σ2 h => ?_)
    show Wz E Y_Po_numberBehind 101 [(0, .ref 17), (2, .int x2), (4, .int x4), (5, .int x5)] [.int v2] σ2 K
    refine z_if_ne (off := 6) (tgt := 107) (pc' := 104) ⟨by decide +kernel, by decide, rfl⟩ (fun h3 => ?_) (fun h3 => ?_)
    · have h := h.2 (qi_ne_t rfl (by decide) h3)
      refine z_iload (i := 4) (q := 2) (pc' := 109) ⟨by decide +kernel, rfl⟩ rfl ?_
      refine z_bipush (i := 10) (v := 10) (pc' := 111) ⟨by decide +kernel, rfl⟩ (by decide) ?_
      refine z_imul (pc' := 112) ⟨by decide +kernel, rfl⟩ ?_
      obtain ⟨hb4, h⟩ := h
      have h := h (x4 * 10) (im_ok rfl (by decide) hb4)
      generalize (x4 * 10) = r4 at h ⊢
      refine z_aload_n (f := 0) (i := 0) (q := 0) (pc' := 113) ⟨by decide +kernel, rfl⟩ rfl rfl ?_
      refine w_getr (k := 17) (j := 8) (idx := 38) (pc' := 116) yfxe_7_38 ykfa_17_8 ⟨by decide +kernel, rfl⟩ ?_
      refine z_iload (i := 5) (q := 3) (pc' := 118) ⟨by decide +kernel, rfl⟩ rfl ?_
      obtain ⟨n5, hi5, hz5, h⟩ := h
      refine w_iald (k := 23) (n := n5) (pc' := 119) ykaa_23 (hi5) (hz5) ⟨by decide +kernel, rfl⟩ ?_
      refine z_iadd (pc' := 120) ⟨by decide +kernel, rfl⟩ ?_
      obtain ⟨hb6, h⟩ := h
      have h := h (r4 + (σ2.1 23 n5)) (ia_ok rfl rfl hb6)
      generalize (r4 + (σ2.1 23 n5)) = r6 at h ⊢
      refine z_bipush (i := 48) (v := 48) (pc' := 122) ⟨by decide +kernel, rfl⟩ (by decide) ?_
      refine z_isub (pc' := 123) ⟨by decide +kernel, rfl⟩ ?_
      obtain ⟨hb7, h⟩ := h
      have h := h (r6 - 48) (is_ok rfl (by decide) hb7)
      generalize (r6 - 48) = r7 at h ⊢
      refine z_istore (i := 4) (pc' := 125) ⟨by decide +kernel, rfl⟩ (by decide) rfl ?_
      show Wz E Y_Po_numberBehind 125 [(4, .int r7), (0, .ref 17), (2, .int x2), (5, .int x5)] [] σ2 K
      refine z_iinc (i := 5) (z := 1) (q := 3) (pc' := 128) ⟨by decide +kernel, rfl⟩ rfl rfl (by decide) rfl ?_
      show Wz E Y_Po_numberBehind 128 [(5, .int (x5 + Int32.ofInt 1)), (4, .int r7), (0, .ref 17), (2, .int x2)] [] σ2 K
      obtain ⟨hb8, h⟩ := h
      have h := h (x5 + Int32.ofInt 1) (ia_ok rfl (by decide) hb8)
      generalize (x5 + Int32.ofInt 1) = r8 at h ⊢
      refine z_goto (off := (-39)) (tgt := 89) (pc' := 131) ⟨by decide +kernel, by decide, rfl⟩ ?_
      refine z_sub [2, 3, 1, 0] rfl ?_
      exact f89 _ _ _ _ h
    · have h := h.1 (qi_ne_f rfl (by decide) h3)
      refine z_bipush (i := (-4)) (v := (-4)) (pc' := 106) ⟨by decide +kernel, rfl⟩ (by decide) ?_
      exact z_iret (ty := .int) rfl (by rfl) (by decide +kernel) (k _ _ h)
noncomputable def WL_Po_numberBehind : Nat → (Int32 → Int32 → Int32 → zS → (Int32 → zS → Prop) → Prop)
  | 0 => fun _ _ _ _ _ => False
  | n + 1 => WB_Po_numberBehind_89 (WL_Po_numberBehind n)
theorem wl_Po_numberBehind_89 {n : Nat} {x2 : Int32} {x4 : Int32} {x5 : Int32} {σ : zS} {Q : Int32 → zS → Prop} (h : WB_Po_numberBehind_89 (WL_Po_numberBehind n) x2 x4 x5 σ Q) : (WL_Po_numberBehind (n + 1)) x2 x4 x5 σ Q := h
theorem sl_Po_numberBehind {E : xV} {K : zKt} {Q : Int32 → zS → Prop} (k : ∀ v s, Q v s → K (some (.int v)) s) : ∀ n, (∀ (x2 : Int32) (x4 : Int32) (x5 : Int32) (σ : zS), (WL_Po_numberBehind n) x2 x4 x5 σ Q → Wz E Y_Po_numberBehind 89 [(0, .ref 17), (2, .int x2), (4, .int x4), (5, .int x5)] [] σ K)
  | 0 => fun _ _ _ _ h => h.elim
  | n + 1 => by
    have i := sl_Po_numberBehind (E := E)  k n
    exact fun _ _ _ _ h => sh_Po_numberBehind_89 i k h
noncomputable def W_Po_numberBehind (a1 : Int32) (σ : zS) (Q : Int32 → zS → Prop) : Prop := ∃ n1 : Nat, Int32.toInt (σ.1 17 14) = (n1 : Int) ∧ n1 < 1201 ∧ (((Int32.toInt (σ.1 24 n1)) = 1 → (∃ n3 : Nat, Int32.toInt (σ.1 25 n1) = (n3 : Int) ∧ n3 < 1200 ∧ (((Int32.toInt (σ.1 23 n3)) = (Int32.toInt a1) → ((-2147483648 ≤ (Int64.toInt (σ.2 26 n1)) ∧ (Int64.toInt (σ.2 26 n1)) ≤ 2147483647) ∧ ∀ r5 : Int32, r5.toInt = (Int64.toInt (σ.2 26 n1)) → ((-2147483648 ≤ (Int32.toInt r5) - (Int32.toInt (σ.1 25 n1)) ∧ (Int32.toInt r5) - (Int32.toInt (σ.1 25 n1)) ≤ 2147483647) ∧ ∀ r6 : Int32, r6.toInt = (Int32.toInt r5) - (Int32.toInt (σ.1 25 n1)) → ((-2147483648 ≤ (Int32.toInt r6) - 1 ∧ (Int32.toInt r6) - 1 ≤ 2147483647) ∧ ∀ r7 : Int32, r7.toInt = (Int32.toInt r6) - 1 → (((Int32.toInt r7) < 1 → (Q (-4) σ)) ∧ (¬ (Int32.toInt r7) < 1 → (((Int32.toInt r7) ≤ 9 → ((-2147483648 ≤ (Int32.toInt (σ.1 25 n1)) + 1 ∧ (Int32.toInt (σ.1 25 n1)) + 1 ≤ 2147483647) ∧ ∀ r10 : Int32, r10.toInt = (Int32.toInt (σ.1 25 n1)) + 1 → ((WL_Po_numberBehind fuF) r5 0 r10 σ Q))) ∧ (¬ (Int32.toInt r7) ≤ 9 → (Q (-4) σ))))))))) ∧ (¬ (Int32.toInt (σ.1 23 n3)) = (Int32.toInt a1) → (Q (-4) σ))))) ∧ (¬ (Int32.toInt (σ.1 24 n1)) = 1 → (Q (-4) σ)))
theorem sF_Po_numberBehind {E : xV} {σ : zS} {K : zKt} {a1 : Int32} {Q : Int32 → zS → Prop} (h : W_Po_numberBehind a1 σ Q) (k : ∀ v s, Q v s → K (some (.int v)) s) : Cz E Y_Po_numberBehind [.ref 17, .int a1] σ K := by
  refine z_entry (by decide) (fun a => by rw [sl_len]; exact Nat.le_of_ble_eq_true rfl) rfl ?_
  unfold W_Po_numberBehind at h
  refine z_aload_n (f := 0) (i := 0) (q := 0) (pc' := 1) ⟨by decide +kernel, rfl⟩ rfl rfl ?_
  refine w_getr (k := 17) (j := 10) (idx := 41) (pc' := 4) yfxe_7_41 ykfa_17_10 ⟨by decide +kernel, rfl⟩ ?_
  refine z_aload_n (f := 0) (i := 0) (q := 0) (pc' := 5) ⟨by decide +kernel, rfl⟩ rfl rfl ?_
  refine w_geti (k := 17) (j := 14) (idx := 63) (pc' := 8) yfxe_7_63 ykfa_17_14 ⟨by decide +kernel, rfl⟩ ?_
  obtain ⟨n1, hi1, hz1, h⟩ := h
  refine w_iald (k := 24) (n := n1) (pc' := 9) ykaa_24 (hi1) (hz1) ⟨by decide +kernel, rfl⟩ ?_
  refine z_iconst (i := 1) (v := 1) (pc' := 10) ⟨by decide +kernel, rfl⟩ (by decide) ?_
  refine z_icmp_ne (off := 21) (tgt := 31) (pc' := 13) ⟨by decide +kernel, by decide, rfl⟩ (fun h2 => ?_) (fun h2 => ?_)
  · have h := h.2 (qi_ne_t rfl (by decide) h2)
    refine z_bipush (i := (-4)) (v := (-4)) (pc' := 33) ⟨by decide +kernel, rfl⟩ (by decide) ?_
    exact z_iret (ty := .int) rfl (by rfl) (by decide +kernel) (k _ _ h)
  · have h := h.1 (qi_ne_f rfl (by decide) h2)
    refine z_aload_n (f := 0) (i := 0) (q := 0) (pc' := 14) ⟨by decide +kernel, rfl⟩ rfl rfl ?_
    refine w_getr (k := 17) (j := 8) (idx := 38) (pc' := 17) yfxe_7_38 ykfa_17_8 ⟨by decide +kernel, rfl⟩ ?_
    refine z_aload_n (f := 0) (i := 0) (q := 0) (pc' := 18) ⟨by decide +kernel, rfl⟩ rfl rfl ?_
    refine w_getr (k := 17) (j := 11) (idx := 44) (pc' := 21) yfxe_7_44 ykfa_17_11 ⟨by decide +kernel, rfl⟩ ?_
    refine z_aload_n (f := 0) (i := 0) (q := 0) (pc' := 22) ⟨by decide +kernel, rfl⟩ rfl rfl ?_
    refine w_geti (k := 17) (j := 14) (idx := 63) (pc' := 25) yfxe_7_63 ykfa_17_14 ⟨by decide +kernel, rfl⟩ ?_
    refine w_iald (k := 25) (n := n1) (pc' := 26) ykaa_25 (hi1) (hz1) ⟨by decide +kernel, rfl⟩ ?_
    obtain ⟨n3, hi3, hz3, h⟩ := h
    refine w_iald (k := 23) (n := n3) (pc' := 27) ykaa_23 (hi3) (hz3) ⟨by decide +kernel, rfl⟩ ?_
    refine z_iload_n (f := 1) (i := 1) (q := 1) (pc' := 28) ⟨by decide +kernel, rfl⟩ rfl rfl ?_
    refine z_icmp_eq (off := 6) (tgt := 34) (pc' := 31) ⟨by decide +kernel, by decide, rfl⟩ (fun h4 => ?_) (fun h4 => ?_)
    · have h := h.1 (qi_eq_t rfl rfl h4)
      refine z_aload_n (f := 0) (i := 0) (q := 0) (pc' := 35) ⟨by decide +kernel, rfl⟩ rfl rfl ?_
      refine w_getr (k := 17) (j := 12) (idx := 47) (pc' := 38) yfxe_7_47 ykfa_17_12 ⟨by decide +kernel, rfl⟩ ?_
      refine z_aload_n (f := 0) (i := 0) (q := 0) (pc' := 39) ⟨by decide +kernel, rfl⟩ rfl rfl ?_
      refine w_geti (k := 17) (j := 14) (idx := 63) (pc' := 42) yfxe_7_63 ykfa_17_14 ⟨by decide +kernel, rfl⟩ ?_
      refine w_lald (k := 26) (n := n1) (pc' := 43) ykaa_26 (hi1) (hz1) ⟨by decide +kernel, rfl⟩ ?_
      refine z_l2i (pc' := 44) ⟨by decide +kernel, rfl⟩ rfl ?_
      obtain ⟨hb5, h⟩ := h
      have h := h (Int64.toInt32 (σ.2 26 n1)) (li_ok hb5)
      generalize (Int64.toInt32 (σ.2 26 n1)) = r5 at h ⊢
      refine z_istore_n (f := 2) (i := 2) (pc' := 45) ⟨by decide +kernel, rfl⟩ rfl (by decide) rfl ?_
      show Wz E Y_Po_numberBehind 45 [(2, .int r5), (0, .ref 17), (1, .int a1)] [] σ K
      refine z_iload_n (f := 2) (i := 2) (q := 0) (pc' := 46) ⟨by decide +kernel, rfl⟩ rfl rfl ?_
      refine z_aload_n (f := 0) (i := 0) (q := 1) (pc' := 47) ⟨by decide +kernel, rfl⟩ rfl rfl ?_
      refine w_getr (k := 17) (j := 11) (idx := 44) (pc' := 50) yfxe_7_44 ykfa_17_11 ⟨by decide +kernel, rfl⟩ ?_
      refine z_aload_n (f := 0) (i := 0) (q := 1) (pc' := 51) ⟨by decide +kernel, rfl⟩ rfl rfl ?_
      refine w_geti (k := 17) (j := 14) (idx := 63) (pc' := 54) yfxe_7_63 ykfa_17_14 ⟨by decide +kernel, rfl⟩ ?_
      refine w_iald (k := 25) (n := n1) (pc' := 55) ykaa_25 (hi1) (hz1) ⟨by decide +kernel, rfl⟩ ?_
      refine z_isub (pc' := 56) ⟨by decide +kernel, rfl⟩ ?_
      obtain ⟨hb6, h⟩ := h
      have h := h (r5 - (σ.1 25 n1)) (is_ok rfl rfl hb6)
      generalize (r5 - (σ.1 25 n1)) = r6 at h ⊢
      refine z_iconst (i := 1) (v := 1) (pc' := 57) ⟨by decide +kernel, rfl⟩ (by decide) ?_
      refine z_isub (pc' := 58) ⟨by decide +kernel, rfl⟩ ?_
      obtain ⟨hb7, h⟩ := h
      have h := h (r6 - 1) (is_ok rfl (by decide) hb7)
      generalize (r6 - 1) = r7 at h ⊢
      refine z_istore_n (f := 3) (i := 3) (pc' := 59) ⟨by decide +kernel, rfl⟩ rfl (by decide) rfl ?_
      show Wz E Y_Po_numberBehind 59 [(3, .int r7), (2, .int r5), (0, .ref 17), (1, .int a1)] [] σ K
      refine z_iload_n (f := 3) (i := 3) (q := 0) (pc' := 60) ⟨by decide +kernel, rfl⟩ rfl rfl ?_
      refine z_iconst (i := 1) (v := 1) (pc' := 61) ⟨by decide +kernel, rfl⟩ (by decide) ?_
      refine z_icmp_lt (off := 9) (tgt := 70) (pc' := 64) ⟨by decide +kernel, by decide, rfl⟩ (fun h8 => ?_) (fun h8 => ?_)
      · have h := h.1 (qi_lt_t rfl (by decide) h8)
        refine z_bipush (i := (-4)) (v := (-4)) (pc' := 72) ⟨by decide +kernel, rfl⟩ (by decide) ?_
        exact z_iret (ty := .int) rfl (by rfl) (by decide +kernel) (k _ _ h)
      · have h := h.2 (qi_lt_f rfl (by decide) h8)
        refine z_iload_n (f := 3) (i := 3) (q := 0) (pc' := 65) ⟨by decide +kernel, rfl⟩ rfl rfl ?_
        refine z_bipush (i := 9) (v := 9) (pc' := 67) ⟨by decide +kernel, rfl⟩ (by decide) ?_
        refine z_icmp_le (off := 6) (tgt := 73) (pc' := 70) ⟨by decide +kernel, by decide, rfl⟩ (fun h9 => ?_) (fun h9 => ?_)
        · have h := h.1 (qi_le_t rfl (by decide) h9)
          refine z_iconst (i := 0) (v := 0) (pc' := 74) ⟨by decide +kernel, rfl⟩ (by decide) ?_
          refine z_istore (i := 4) (pc' := 76) ⟨by decide +kernel, rfl⟩ (by decide) rfl ?_
          show Wz E Y_Po_numberBehind 76 [(4, .int 0), (3, .int r7), (2, .int r5), (0, .ref 17), (1, .int a1)] [] σ K
          refine z_aload_n (f := 0) (i := 0) (q := 3) (pc' := 77) ⟨by decide +kernel, rfl⟩ rfl rfl ?_
          refine w_getr (k := 17) (j := 11) (idx := 44) (pc' := 80) yfxe_7_44 ykfa_17_11 ⟨by decide +kernel, rfl⟩ ?_
          refine z_aload_n (f := 0) (i := 0) (q := 3) (pc' := 81) ⟨by decide +kernel, rfl⟩ rfl rfl ?_
          refine w_geti (k := 17) (j := 14) (idx := 63) (pc' := 84) yfxe_7_63 ykfa_17_14 ⟨by decide +kernel, rfl⟩ ?_
          refine w_iald (k := 25) (n := n1) (pc' := 85) ykaa_25 (hi1) (hz1) ⟨by decide +kernel, rfl⟩ ?_
          refine z_iconst (i := 1) (v := 1) (pc' := 86) ⟨by decide +kernel, rfl⟩ (by decide) ?_
          refine z_iadd (pc' := 87) ⟨by decide +kernel, rfl⟩ ?_
          obtain ⟨hb10, h⟩ := h
          have h := h ((σ.1 25 n1) + 1) (ia_ok rfl (by decide) hb10)
          generalize ((σ.1 25 n1) + 1) = r10 at h ⊢
          refine z_istore (i := 5) (pc' := 89) ⟨by decide +kernel, rfl⟩ (by decide) rfl ?_
          show Wz E Y_Po_numberBehind 89 [(5, .int r10), (4, .int 0), (3, .int r7), (2, .int r5), (0, .ref 17), (1, .int a1)] [] σ K
          refine z_sub [4, 3, 1, 0] rfl ?_
          exact (sl_Po_numberBehind k fuF) _ _ _ _ h
        · have h := h.2 (qi_le_f rfl (by decide) h9)
          refine z_bipush (i := (-4)) (v := (-4)) (pc' := 72) ⟨by decide +kernel, rfl⟩ (by decide) ?_
          exact z_iret (ty := .int) rfl (by rfl) (by decide +kernel) (k _ _ h)
    · have h := h.2 (qi_eq_f rfl rfl h4)
      refine z_bipush (i := (-4)) (v := (-4)) (pc' := 33) ⟨by decide +kernel, rfl⟩ (by decide) ?_
      exact z_iret (ty := .int) rfl (by rfl) (by decide +kernel) (k _ _ h)

end
