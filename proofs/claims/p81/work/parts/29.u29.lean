section
noncomputable def W_Po_readFeature_b27 (x1 : Int32) (x2 : Int32) (σ : zS) (Q : Int32 → zS → Prop) : Prop := (-2147483648 ≤ (Int32.toInt (σ.1 17 14)) + 1 ∧ (Int32.toInt (σ.1 17 14)) + 1 ≤ 2147483647) ∧ ∀ r1 : Int32, r1.toInt = (Int32.toInt (σ.1 17 14)) + 1 → (∀ σ2 : zS, zI σ 17 14 r1 = σ2 → (W_Po_isSign 46 σ2 (fun v3 σ3 => ((Int32.toInt v3) = 0 → (W_Po_fail  σ3 (fun v20 σ20 => (v20 = 0 ∨ v20 = 1) ∧ (Q v20 σ20)))) ∧ (¬ (Int32.toInt v3) = 0 → ((-2147483648 ≤ (Int32.toInt (σ3.1 17 14)) + 1 ∧ (Int32.toInt (σ3.1 17 14)) + 1 ≤ 2147483647) ∧ ∀ r5 : Int32, r5.toInt = (Int32.toInt (σ3.1 17 14)) + 1 → (∀ σ6 : zS, zI σ3 17 14 r5 = σ6 → (W_Po_oneLetter  σ6 (fun v7 σ7 => W_JS_indexOf_0 13 v7 σ7 (fun v8 σ8 => (0 ≤ (Int32.toInt v8) → ((-2147483648 ≤ (Int32.toInt (σ8.1 17 14)) + 1 ∧ (Int32.toInt (σ8.1 17 14)) + 1 ≤ 2147483647) ∧ ∀ r10 : Int32, r10.toInt = (Int32.toInt (σ8.1 17 14)) + 1 → (∀ σ11 : zS, zI σ8 17 14 r10 = σ11 → (((Int32.toInt x2) = 0 → ((-2147483648 ≤ (Int32.toInt v8) + 8 ∧ (Int32.toInt v8) + 8 ≤ 2147483647) ∧ ∀ r13 : Int32, r13.toInt = (Int32.toInt v8) + 8 → (∀ r14 : Int64, r14.toInt = (Int32.toInt r13) → (W_Po_emit x1 r14 σ11 (fun _ σ15 => Q 1 σ15))))) ∧ (¬ (Int32.toInt x2) = 0 → (∀ r16 : Int64, r16.toInt = (Int32.toInt v8) → (W_Po_emit x1 r16 σ11 (fun _ σ17 => Q 1 σ17)))))))) ∧ (¬ 0 ≤ (Int32.toInt v8) → (W_Po_fail  σ8 (fun v18 σ18 => (v18 = 0 ∨ v18 = 1) ∧ (Q v18 σ18)))))))))))))
theorem sb_Po_readFeature_27 {E : xV} {σ : zS} {K : zKt} {x1 : Int32} {x2 : Int32} {Q : Int32 → zS → Prop} (k : ∀ v s, Q v s → K (some (.int v)) s) (h : W_Po_readFeature_b27 x1 x2 σ Q) : Wz E Y_Po_readFeature 27 [(0, .ref 17), (1, .int x1), (2, .int x2)] [] σ K := by
  unfold W_Po_readFeature_b27 at h
  refine z_aload_n (f := 0) (i := 0) (q := 0) (pc' := 28) ⟨by decide +kernel, rfl⟩ rfl rfl ?_
  refine z_dupr (pc' := 29) ⟨by decide +kernel, rfl⟩ ?_
  refine w_geti (k := 17) (j := 14) (idx := 63) (pc' := 32) yfxe_7_63 ykfa_17_14 ⟨by decide +kernel, rfl⟩ ?_
  refine z_iconst (i := 1) (v := 1) (pc' := 33) ⟨by decide +kernel, rfl⟩ (by decide) ?_
  refine z_iadd (pc' := 34) ⟨by decide +kernel, rfl⟩ ?_
  obtain ⟨hb1, h⟩ := h
  have h := h ((σ.1 17 14) + 1) (ia_ok rfl (by decide) hb1)
  generalize ((σ.1 17 14) + 1) = r1 at h ⊢
  refine w_puti (k := 17) (j := 14) (idx := 63) (pc' := 37) yfxi_7_63 ykfa_17_14 ⟨by decide +kernel, rfl⟩ ?_
  generalize hs2 : zI σ 17 14 r1 = σ2
  have h := h σ2 hs2
  refine z_aload_n (f := 0) (i := 0) (q := 0) (pc' := 38) ⟨by decide +kernel, rfl⟩ rfl rfl ?_
  refine z_bipush (i := 46) (v := 46) (pc' := 40) ⟨by decide +kernel, rfl⟩ (by decide) ?_
  refine w_invV (Z := Y_Po_isSign) (idx := 137) (kb := 17) (As := [.int 46]) (rest := []) (pc' := 43) cl_7_137 rfl ⟨rfl, rfl⟩ ykfa_17_0 rfl ⟨⟨by decide, by decide⟩, rfl, rfl⟩ ⟨by decide +kernel, rfl⟩ rfl rfl (Nat.le_of_ble_eq_true rfl) rfl rfl ?_
  refine sF_Po_isSign h (fun v3 σ3 h => ?_)
  show Wz E Y_Po_readFeature 43 [(0, .ref 17), (1, .int x1), (2, .int x2)] [.int v3] σ3 K
  refine z_if_ne (off := 8) (tgt := 51) (pc' := 46) ⟨by decide +kernel, by decide, rfl⟩ (fun h4 => ?_) (fun h4 => ?_)
  · have h := h.2 (qi_ne_t rfl (by decide) h4)
    refine z_aload_n (f := 0) (i := 0) (q := 0) (pc' := 52) ⟨by decide +kernel, rfl⟩ rfl rfl ?_
    refine z_dupr (pc' := 53) ⟨by decide +kernel, rfl⟩ ?_
    refine w_geti (k := 17) (j := 14) (idx := 63) (pc' := 56) yfxe_7_63 ykfa_17_14 ⟨by decide +kernel, rfl⟩ ?_
    refine z_iconst (i := 1) (v := 1) (pc' := 57) ⟨by decide +kernel, rfl⟩ (by decide) ?_
    refine z_iadd (pc' := 58) ⟨by decide +kernel, rfl⟩ ?_
    obtain ⟨hb5, h⟩ := h
    have h := h ((σ3.1 17 14) + 1) (ia_ok rfl (by decide) hb5)
    generalize ((σ3.1 17 14) + 1) = r5 at h ⊢
    refine w_puti (k := 17) (j := 14) (idx := 63) (pc' := 61) yfxi_7_63 ykfa_17_14 ⟨by decide +kernel, rfl⟩ ?_
    generalize hs6 : zI σ3 17 14 r5 = σ6
    have h := h σ6 hs6
    refine z_ldcwS (i := 13) (pc' := 64) rfl rfl ⟨by decide +kernel, rfl⟩ ?_
    show Wz E Y_Po_readFeature 64 [(0, .ref 17), (1, .int x1), (2, .int x2)] (.ref (1000 + 13) :: []) σ6 K
    refine z_aload_n (f := 0) (i := 0) (q := 0) (pc' := 65) ⟨by decide +kernel, rfl⟩ rfl rfl ?_
    refine w_invV (Z := Y_Po_oneLetter) (idx := 199) (kb := 17) (As := []) (rest := [.ref (1000 + 13)]) (pc' := 68) cl_7_199 rfl ⟨rfl, rfl⟩ ykfa_17_0 rfl ⟨⟨by decide, by decide⟩, rfl, rfl⟩ ⟨by decide +kernel, rfl⟩ rfl rfl (Nat.le_of_ble_eq_true rfl) rfl (by simp only [List.all_cons, List.all_nil, xk1, xk2]; rfl) ?_
    refine sF_Po_oneLetter h (fun v7 σ7 h => ?_)
    show Wz E Y_Po_readFeature 68 [(0, .ref 17), (1, .int x1), (2, .int x2)] [.int v7, .ref (1000 + 13)] σ7 K
    refine w_invVS (Z := Y_JS_indexOf_0) (idx := 111) (i := 13) (As := [.int v7]) (rest := []) (pc' := 71) cl_7_111 rfl ⟨rfl, rfl⟩ (by decide) rfl ⟨⟨by decide, by decide⟩, rfl, rfl⟩ ⟨by decide +kernel, rfl⟩ rfl rfl (Nat.le_of_ble_eq_true rfl) rfl rfl ?_
    refine sF_JS_indexOf_0 (by decide) h (fun v8 σ8 h => ?_)
    show Wz E Y_Po_readFeature 71 [(0, .ref 17), (1, .int x1), (2, .int x2)] [.int v8] σ8 K
    refine z_istore_n (f := 3) (i := 3) (pc' := 72) ⟨by decide +kernel, rfl⟩ rfl (by decide) rfl ?_
    show Wz E Y_Po_readFeature 72 [(3, .int v8), (0, .ref 17), (1, .int x1), (2, .int x2)] [] σ8 K
    refine z_iload_n (f := 3) (i := 3) (q := 0) (pc' := 73) ⟨by decide +kernel, rfl⟩ rfl rfl ?_
    refine z_if_ge (off := 8) (tgt := 81) (pc' := 76) ⟨by decide +kernel, by decide, rfl⟩ (fun h9 => ?_) (fun h9 => ?_)
    · have h := h.1 (qi_ge_t rfl (by decide) h9)
      refine z_aload_n (f := 0) (i := 0) (q := 1) (pc' := 82) ⟨by decide +kernel, rfl⟩ rfl rfl ?_
      refine z_dupr (pc' := 83) ⟨by decide +kernel, rfl⟩ ?_
      refine w_geti (k := 17) (j := 14) (idx := 63) (pc' := 86) yfxe_7_63 ykfa_17_14 ⟨by decide +kernel, rfl⟩ ?_
      refine z_iconst (i := 1) (v := 1) (pc' := 87) ⟨by decide +kernel, rfl⟩ (by decide) ?_
      refine z_iadd (pc' := 88) ⟨by decide +kernel, rfl⟩ ?_
      obtain ⟨hb10, h⟩ := h
      have h := h ((σ8.1 17 14) + 1) (ia_ok rfl (by decide) hb10)
      generalize ((σ8.1 17 14) + 1) = r10 at h ⊢
      refine w_puti (k := 17) (j := 14) (idx := 63) (pc' := 91) yfxi_7_63 ykfa_17_14 ⟨by decide +kernel, rfl⟩ ?_
      generalize hs11 : zI σ8 17 14 r10 = σ11
      have h := h σ11 hs11
      refine z_aload_n (f := 0) (i := 0) (q := 1) (pc' := 92) ⟨by decide +kernel, rfl⟩ rfl rfl ?_
      refine z_iload_n (f := 1) (i := 1) (q := 2) (pc' := 93) ⟨by decide +kernel, rfl⟩ rfl rfl ?_
      refine z_iload_n (f := 2) (i := 2) (q := 3) (pc' := 94) ⟨by decide +kernel, rfl⟩ rfl rfl ?_
      refine z_if_eq (off := 8) (tgt := 102) (pc' := 97) ⟨by decide +kernel, by decide, rfl⟩ (fun h12 => ?_) (fun h12 => ?_)
      · have h := h.1 (qi_eq_t rfl (by decide) h12)
        refine z_iload_n (f := 3) (i := 3) (q := 0) (pc' := 103) ⟨by decide +kernel, rfl⟩ rfl rfl ?_
        refine z_bipush (i := 8) (v := 8) (pc' := 105) ⟨by decide +kernel, rfl⟩ (by decide) ?_
        refine z_iadd (pc' := 106) ⟨by decide +kernel, rfl⟩ ?_
        obtain ⟨hb13, h⟩ := h
        have h := h (v8 + 8) (ia_ok rfl (by decide) hb13)
        generalize (v8 + 8) = r13 at h ⊢
        refine z_i2l (v := (Int32.toInt64 r13)) (pc' := 107) ⟨by decide +kernel, rfl⟩ rfl ?_
        have h := h (Int32.toInt64 r13) (Int32.toInt_toInt64 _)
        generalize (Int32.toInt64 r13) = r14 at h ⊢
        refine w_invV (Z := Y_Po_emit) (idx := 211) (kb := 17) (As := [.int x1, .long r14]) (rest := []) (pc' := 110) cl_7_211 rfl ⟨rfl, rfl⟩ ykfa_17_0 rfl ⟨⟨by decide, by decide⟩, rfl, rfl⟩ ⟨by decide +kernel, rfl⟩ rfl rfl (Nat.le_of_ble_eq_true rfl) rfl rfl ?_
        refine sF_Po_emit h (fun _ σ15 h => ?_)
        show Wz E Y_Po_readFeature 110 [(3, .int v8), (0, .ref 17), (1, .int x1), (2, .int x2)] [] σ15 K
        refine z_iconst (i := 1) (v := 1) (pc' := 111) ⟨by decide +kernel, rfl⟩ (by decide) ?_
        exact z_iret (ty := .boolean) rfl (by rfl) (by decide +kernel) (k _ _ h)
      · have h := h.2 (qi_eq_f rfl (by decide) h12)
        refine z_iload_n (f := 3) (i := 3) (q := 0) (pc' := 98) ⟨by decide +kernel, rfl⟩ rfl rfl ?_
        refine z_i2l (v := (Int32.toInt64 v8)) (pc' := 99) ⟨by decide +kernel, rfl⟩ rfl ?_
        have h := h (Int32.toInt64 v8) (Int32.toInt_toInt64 _)
        generalize (Int32.toInt64 v8) = r16 at h ⊢
        refine z_goto (off := 8) (tgt := 107) (pc' := 102) ⟨by decide +kernel, by decide, rfl⟩ ?_
        refine w_invV (Z := Y_Po_emit) (idx := 211) (kb := 17) (As := [.int x1, .long r16]) (rest := []) (pc' := 110) cl_7_211 rfl ⟨rfl, rfl⟩ ykfa_17_0 rfl ⟨⟨by decide, by decide⟩, rfl, rfl⟩ ⟨by decide +kernel, rfl⟩ rfl rfl (Nat.le_of_ble_eq_true rfl) rfl rfl ?_
        refine sF_Po_emit h (fun _ σ17 h => ?_)
        show Wz E Y_Po_readFeature 110 [(3, .int v8), (0, .ref 17), (1, .int x1), (2, .int x2)] [] σ17 K
        refine z_iconst (i := 1) (v := 1) (pc' := 111) ⟨by decide +kernel, rfl⟩ (by decide) ?_
        exact z_iret (ty := .boolean) rfl (by rfl) (by decide +kernel) (k _ _ h)
    · have h := h.2 (qi_ge_f rfl (by decide) h9)
      refine z_aload_n (f := 0) (i := 0) (q := 1) (pc' := 77) ⟨by decide +kernel, rfl⟩ rfl rfl ?_
      refine w_invV (Z := Y_Po_fail) (idx := 140) (kb := 17) (As := []) (rest := []) (pc' := 80) cl_7_140 rfl ⟨rfl, rfl⟩ ykfa_17_0 rfl ⟨⟨by decide, by decide⟩, rfl, rfl⟩ ⟨by decide +kernel, rfl⟩ rfl rfl (Nat.le_of_ble_eq_true rfl) rfl rfl ?_
      refine sF_Po_fail h (fun v18 σ18 h => ?_)
      show Wz E Y_Po_readFeature 80 [(3, .int v8), (0, .ref 17), (1, .int x1), (2, .int x2)] [.int v18] σ18 K
      obtain ⟨hg19, h⟩ := h
      exact z_iret (ty := .boolean) rfl (j_bool hg19).1 (by decide +kernel) (k _ _ h)
  · have h := h.1 (qi_ne_f rfl (by decide) h4)
    refine z_aload_n (f := 0) (i := 0) (q := 0) (pc' := 47) ⟨by decide +kernel, rfl⟩ rfl rfl ?_
    refine w_invV (Z := Y_Po_fail) (idx := 140) (kb := 17) (As := []) (rest := []) (pc' := 50) cl_7_140 rfl ⟨rfl, rfl⟩ ykfa_17_0 rfl ⟨⟨by decide, by decide⟩, rfl, rfl⟩ ⟨by decide +kernel, rfl⟩ rfl rfl (Nat.le_of_ble_eq_true rfl) rfl rfl ?_
    refine sF_Po_fail h (fun v20 σ20 h => ?_)
    show Wz E Y_Po_readFeature 50 [(0, .ref 17), (1, .int x1), (2, .int x2)] [.int v20] σ20 K
    obtain ⟨hg21, h⟩ := h
    exact z_iret (ty := .boolean) rfl (j_bool hg21).1 (by decide +kernel) (k _ _ h)
noncomputable def W_Po_readFeature (a1 : Int32) (σ : zS) (Q : Int32 → zS → Prop) : Prop := W_Po_isWord 11 σ (fun v1 σ1 => ((Int32.toInt v1) = 0 → (W_Po_isWord 12 σ1 (fun v3 σ3 => ((Int32.toInt v3) = 0 → (W_Po_fail  σ3 (fun v5 σ5 => (v5 = 0 ∨ v5 = 1) ∧ (Q v5 σ5)))) ∧ (¬ (Int32.toInt v3) = 0 → (W_Po_readFeature_b27  a1 v1 σ3 Q))))) ∧ (¬ (Int32.toInt v1) = 0 → (W_Po_readFeature_b27  a1 v1 σ1 Q)))
theorem sF_Po_readFeature {E : xV} {σ : zS} {K : zKt} {a1 : Int32} {Q : Int32 → zS → Prop} (h : W_Po_readFeature a1 σ Q) (k : ∀ v s, Q v s → K (some (.int v)) s) : Cz E Y_Po_readFeature [.ref 17, .int a1] σ K := by
  refine z_entry (by decide) (fun a => by rw [sl_len]; exact Nat.le_of_ble_eq_true rfl) rfl ?_
  unfold W_Po_readFeature at h
  refine z_aload_n (f := 0) (i := 0) (q := 0) (pc' := 1) ⟨by decide +kernel, rfl⟩ rfl rfl ?_
  refine z_ldcwS (i := 11) (pc' := 4) rfl rfl ⟨by decide +kernel, rfl⟩ ?_
  show Wz E Y_Po_readFeature 4 [(0, .ref 17), (1, .int a1)] (.ref (1000 + 11) :: [.ref 17]) σ K
  refine w_invV (Z := Y_Po_isWord) (idx := 158) (kb := 17) (As := [.ref (1000 + 11)]) (rest := []) (pc' := 7) cl_7_158 rfl ⟨rfl, rfl⟩ ykfa_17_0 rfl ⟨⟨by decide, by decide⟩, rfl, rfl⟩ ⟨by decide +kernel, rfl⟩ rfl rfl (Nat.le_of_ble_eq_true rfl) rfl rfl ?_
  refine sF_Po_isWord (by decide) h (fun v1 σ1 h => ?_)
  show Wz E Y_Po_readFeature 7 [(0, .ref 17), (1, .int a1)] [.int v1] σ1 K
  refine z_istore_n (f := 2) (i := 2) (pc' := 8) ⟨by decide +kernel, rfl⟩ rfl (by decide) rfl ?_
  show Wz E Y_Po_readFeature 8 [(2, .int v1), (0, .ref 17), (1, .int a1)] [] σ1 K
  refine z_iload_n (f := 2) (i := 2) (q := 0) (pc' := 9) ⟨by decide +kernel, rfl⟩ rfl rfl ?_
  refine z_if_ne (off := 18) (tgt := 27) (pc' := 12) ⟨by decide +kernel, by decide, rfl⟩ (fun h2 => ?_) (fun h2 => ?_)
  · have h := h.2 (qi_ne_t rfl (by decide) h2)
    refine z_sub [1, 2, 0] rfl ?_
    exact sb_Po_readFeature_27  k h
  · have h := h.1 (qi_ne_f rfl (by decide) h2)
    refine z_aload_n (f := 0) (i := 0) (q := 1) (pc' := 13) ⟨by decide +kernel, rfl⟩ rfl rfl ?_
    refine z_ldcwS (i := 12) (pc' := 16) rfl rfl ⟨by decide +kernel, rfl⟩ ?_
    show Wz E Y_Po_readFeature 16 [(2, .int v1), (0, .ref 17), (1, .int a1)] (.ref (1000 + 12) :: [.ref 17]) σ1 K
    refine w_invV (Z := Y_Po_isWord) (idx := 158) (kb := 17) (As := [.ref (1000 + 12)]) (rest := []) (pc' := 19) cl_7_158 rfl ⟨rfl, rfl⟩ ykfa_17_0 rfl ⟨⟨by decide, by decide⟩, rfl, rfl⟩ ⟨by decide +kernel, rfl⟩ rfl rfl (Nat.le_of_ble_eq_true rfl) rfl rfl ?_
    refine sF_Po_isWord (by decide) h (fun v3 σ3 h => ?_)
    show Wz E Y_Po_readFeature 19 [(2, .int v1), (0, .ref 17), (1, .int a1)] [.int v3] σ3 K
    refine z_if_ne (off := 8) (tgt := 27) (pc' := 22) ⟨by decide +kernel, by decide, rfl⟩ (fun h4 => ?_) (fun h4 => ?_)
    · have h := h.2 (qi_ne_t rfl (by decide) h4)
      refine z_sub [1, 2, 0] rfl ?_
      exact sb_Po_readFeature_27  k h
    · have h := h.1 (qi_ne_f rfl (by decide) h4)
      refine z_aload_n (f := 0) (i := 0) (q := 1) (pc' := 23) ⟨by decide +kernel, rfl⟩ rfl rfl ?_
      refine w_invV (Z := Y_Po_fail) (idx := 140) (kb := 17) (As := []) (rest := []) (pc' := 26) cl_7_140 rfl ⟨rfl, rfl⟩ ykfa_17_0 rfl ⟨⟨by decide, by decide⟩, rfl, rfl⟩ ⟨by decide +kernel, rfl⟩ rfl rfl (Nat.le_of_ble_eq_true rfl) rfl rfl ?_
      refine sF_Po_fail h (fun v5 σ5 h => ?_)
      show Wz E Y_Po_readFeature 26 [(2, .int v1), (0, .ref 17), (1, .int a1)] [.int v5] σ5 K
      obtain ⟨hg6, h⟩ := h
      exact z_iret (ty := .boolean) rfl (j_bool hg6).1 (by decide +kernel) (k _ _ h)
noncomputable def W_Po_ruleAt (a0 : Int32) (a1 : Int32) (σ : zS) (Q : Int32 → zS → Prop) : Prop := (-2147483648 ≤ (Int32.toInt a0) * 30 ∧ (Int32.toInt a0) * 30 ≤ 2147483647) ∧ ∀ r1 : Int32, r1.toInt = (Int32.toInt a0) * 30 → ((-2147483648 ≤ (Int32.toInt r1) + (Int32.toInt a1) ∧ (Int32.toInt r1) + (Int32.toInt a1) ≤ 2147483647) ∧ ∀ r2 : Int32, r2.toInt = (Int32.toInt r1) + (Int32.toInt a1) → ((-2147483648 ≤ (Int32.toInt r2) * 9 ∧ (Int32.toInt r2) * 9 ≤ 2147483647) ∧ ∀ r3 : Int32, r3.toInt = (Int32.toInt r2) * 9 → (Q r3 σ)))
theorem sF_Po_ruleAt {E : xV} {σ : zS} {K : zKt} {a0 : Int32} {a1 : Int32} {Q : Int32 → zS → Prop} (h : W_Po_ruleAt a0 a1 σ Q) (k : ∀ v s, Q v s → K (some (.int v)) s) : Cz E Y_Po_ruleAt [.int a0, .int a1] σ K := by
  refine z_entry (by decide) (fun a => by rw [sl_len]; exact Nat.le_of_ble_eq_true rfl) rfl ?_
  unfold W_Po_ruleAt at h
  refine z_iload_n (f := 0) (i := 0) (q := 0) (pc' := 1) ⟨by decide +kernel, rfl⟩ rfl rfl ?_
  refine z_bipush (i := 30) (v := 30) (pc' := 3) ⟨by decide +kernel, rfl⟩ (by decide) ?_
  refine z_imul (pc' := 4) ⟨by decide +kernel, rfl⟩ ?_
  obtain ⟨hb1, h⟩ := h
  have h := h (a0 * 30) (im_ok rfl (by decide) hb1)
  generalize (a0 * 30) = r1 at h ⊢
  refine z_iload_n (f := 1) (i := 1) (q := 1) (pc' := 5) ⟨by decide +kernel, rfl⟩ rfl rfl ?_
  refine z_iadd (pc' := 6) ⟨by decide +kernel, rfl⟩ ?_
  obtain ⟨hb2, h⟩ := h
  have h := h (r1 + a1) (ia_ok rfl rfl hb2)
  generalize (r1 + a1) = r2 at h ⊢
  refine z_bipush (i := 9) (v := 9) (pc' := 8) ⟨by decide +kernel, rfl⟩ (by decide) ?_
  refine z_imul (pc' := 9) ⟨by decide +kernel, rfl⟩ ?_
  obtain ⟨hb3, h⟩ := h
  have h := h (r2 * 9) (im_ok rfl (by decide) hb3)
  generalize (r2 * 9) = r3 at h ⊢
  exact z_iret (ty := .int) rfl (by rfl) (by decide +kernel) (k _ _ h)
noncomputable def W_Wh_isPerson (a1 : Int32) (σ : zS) (Q : Int32 → zS → Prop) : Prop := ((Int32.toInt a1) < 0 → (Q 0 σ)) ∧ (¬ (Int32.toInt a1) < 0 → (((Int32.toInt (σ.1 5 0)) ≤ (Int32.toInt a1) → (Q 0 σ)) ∧ (¬ (Int32.toInt (σ.1 5 0)) ≤ (Int32.toInt a1) → (Q 1 σ))))
theorem sF_Wh_isPerson {E : xV} {σ : zS} {K : zKt} {a1 : Int32} {Q : Int32 → zS → Prop} (h : W_Wh_isPerson a1 σ Q) (k : ∀ v s, Q v s → K (some (.int v)) s) : Cz E Y_Wh_isPerson [.ref 5, .int a1] σ K := by
  refine z_entry (by decide) (fun a => by rw [sl_len]; exact Nat.le_of_ble_eq_true rfl) rfl ?_
  unfold W_Wh_isPerson at h
  refine z_iload_n (f := 1) (i := 1) (q := 1) (pc' := 1) ⟨by decide +kernel, rfl⟩ rfl rfl ?_
  refine z_if_lt (off := 15) (tgt := 16) (pc' := 4) ⟨by decide +kernel, by decide, rfl⟩ (fun h1 => ?_) (fun h1 => ?_)
  · have h := h.1 (qi_lt_t rfl (by decide) h1)
    refine z_iconst (i := 0) (v := 0) (pc' := 17) ⟨by decide +kernel, rfl⟩ (by decide) ?_
    exact z_iret (ty := .boolean) rfl (by rfl) (by decide +kernel) (k _ _ h)
  · have h := h.2 (qi_lt_f rfl (by decide) h1)
    refine z_iload_n (f := 1) (i := 1) (q := 1) (pc' := 5) ⟨by decide +kernel, rfl⟩ rfl rfl ?_
    refine z_aload_n (f := 0) (i := 0) (q := 0) (pc' := 6) ⟨by decide +kernel, rfl⟩ rfl rfl ?_
    refine w_geti (k := 5) (j := 0) (idx := 27) (pc' := 9) yfxe_11_27 ykfa_5_0 ⟨by decide +kernel, rfl⟩ ?_
    refine z_icmp_ge (off := 7) (tgt := 16) (pc' := 12) ⟨by decide +kernel, by decide, rfl⟩ (fun h2 => ?_) (fun h2 => ?_)
    · have h := h.1 (qi_ge_t rfl rfl h2)
      refine z_iconst (i := 0) (v := 0) (pc' := 17) ⟨by decide +kernel, rfl⟩ (by decide) ?_
      exact z_iret (ty := .boolean) rfl (by rfl) (by decide +kernel) (k _ _ h)
    · have h := h.2 (qi_ge_f rfl rfl h2)
      refine z_iconst (i := 1) (v := 1) (pc' := 13) ⟨by decide +kernel, rfl⟩ (by decide) ?_
      refine z_goto (off := 4) (tgt := 17) (pc' := 16) ⟨by decide +kernel, by decide, rfl⟩ ?_
      exact z_iret (ty := .boolean) rfl (by rfl) (by decide +kernel) (k _ _ h)
noncomputable def W_Wh_isGroup (a1 : Int32) (σ : zS) (Q : Int32 → zS → Prop) : Prop := ((Int32.toInt a1) < 0 → (Q 0 σ)) ∧ (¬ (Int32.toInt a1) < 0 → (((Int32.toInt (σ.1 5 1)) ≤ (Int32.toInt a1) → (Q 0 σ)) ∧ (¬ (Int32.toInt (σ.1 5 1)) ≤ (Int32.toInt a1) → (Q 1 σ))))
theorem sF_Wh_isGroup {E : xV} {σ : zS} {K : zKt} {a1 : Int32} {Q : Int32 → zS → Prop} (h : W_Wh_isGroup a1 σ Q) (k : ∀ v s, Q v s → K (some (.int v)) s) : Cz E Y_Wh_isGroup [.ref 5, .int a1] σ K := by
  refine z_entry (by decide) (fun a => by rw [sl_len]; exact Nat.le_of_ble_eq_true rfl) rfl ?_
  unfold W_Wh_isGroup at h
  refine z_iload_n (f := 1) (i := 1) (q := 1) (pc' := 1) ⟨by decide +kernel, rfl⟩ rfl rfl ?_
  refine z_if_lt (off := 15) (tgt := 16) (pc' := 4) ⟨by decide +kernel, by decide, rfl⟩ (fun h1 => ?_) (fun h1 => ?_)
  · have h := h.1 (qi_lt_t rfl (by decide) h1)
    refine z_iconst (i := 0) (v := 0) (pc' := 17) ⟨by decide +kernel, rfl⟩ (by decide) ?_
    exact z_iret (ty := .boolean) rfl (by rfl) (by decide +kernel) (k _ _ h)
  · have h := h.2 (qi_lt_f rfl (by decide) h1)
    refine z_iload_n (f := 1) (i := 1) (q := 1) (pc' := 5) ⟨by decide +kernel, rfl⟩ rfl rfl ?_
    refine z_aload_n (f := 0) (i := 0) (q := 0) (pc' := 6) ⟨by decide +kernel, rfl⟩ rfl rfl ?_
    refine w_geti (k := 5) (j := 1) (idx := 31) (pc' := 9) yfxe_11_31 ykfa_5_1 ⟨by decide +kernel, rfl⟩ ?_
    refine z_icmp_ge (off := 7) (tgt := 16) (pc' := 12) ⟨by decide +kernel, by decide, rfl⟩ (fun h2 => ?_) (fun h2 => ?_)
    · have h := h.1 (qi_ge_t rfl rfl h2)
      refine z_iconst (i := 0) (v := 0) (pc' := 17) ⟨by decide +kernel, rfl⟩ (by decide) ?_
      exact z_iret (ty := .boolean) rfl (by rfl) (by decide +kernel) (k _ _ h)
    · have h := h.2 (qi_ge_f rfl rfl h2)
      refine z_iconst (i := 1) (v := 1) (pc' := 13) ⟨by decide +kernel, rfl⟩ (by decide) ?_
      refine z_goto (off := 4) (tgt := 17) (pc' := 16) ⟨by decide +kernel, by decide, rfl⟩ ?_
      exact z_iret (ty := .boolean) rfl (by rfl) (by decide +kernel) (k _ _ h)
noncomputable def W_Th_isThere (a1 : Int32) (σ : zS) (Q : Int32 → zS → Prop) : Prop := ((Int32.toInt a1) < 0 → (Q 0 σ)) ∧ (¬ (Int32.toInt a1) < 0 → (((Int32.toInt (σ.1 10 0)) ≤ (Int32.toInt a1) → (Q 0 σ)) ∧ (¬ (Int32.toInt (σ.1 10 0)) ≤ (Int32.toInt a1) → (∃ n3 : Nat, Int32.toInt a1 = (n3 : Int) ∧ n3 < 40 ∧ (((Int32.toInt (σ.1 14 n3)) = 0 → (Q 1 σ)) ∧ (¬ (Int32.toInt (σ.1 14 n3)) = 0 → (Q 0 σ)))))))
theorem sF_Th_isThere {E : xV} {σ : zS} {K : zKt} {a1 : Int32} {Q : Int32 → zS → Prop} (h : W_Th_isThere a1 σ Q) (k : ∀ v s, Q v s → K (some (.int v)) s) : Cz E Y_Th_isThere [.ref 10, .int a1] σ K := by
  refine z_entry (by decide) (fun a => by rw [sl_len]; exact Nat.le_of_ble_eq_true rfl) rfl ?_
  unfold W_Th_isThere at h
  refine z_iload_n (f := 1) (i := 1) (q := 1) (pc' := 1) ⟨by decide +kernel, rfl⟩ rfl rfl ?_
  refine z_if_lt (off := 24) (tgt := 25) (pc' := 4) ⟨by decide +kernel, by decide, rfl⟩ (fun h1 => ?_) (fun h1 => ?_)
  · have h := h.1 (qi_lt_t rfl (by decide) h1)
    refine z_iconst (i := 0) (v := 0) (pc' := 26) ⟨by decide +kernel, rfl⟩ (by decide) ?_
    exact z_iret (ty := .boolean) rfl (by rfl) (by decide +kernel) (k _ _ h)
  · have h := h.2 (qi_lt_f rfl (by decide) h1)
    refine z_iload_n (f := 1) (i := 1) (q := 1) (pc' := 5) ⟨by decide +kernel, rfl⟩ rfl rfl ?_
    refine z_aload_n (f := 0) (i := 0) (q := 0) (pc' := 6) ⟨by decide +kernel, rfl⟩ rfl rfl ?_
    refine w_geti (k := 10) (j := 0) (idx := 31) (pc' := 9) yfxe_10_31 ykfa_10_0 ⟨by decide +kernel, rfl⟩ ?_
    refine z_icmp_ge (off := 16) (tgt := 25) (pc' := 12) ⟨by decide +kernel, by decide, rfl⟩ (fun h2 => ?_) (fun h2 => ?_)
    · have h := h.1 (qi_ge_t rfl rfl h2)
      refine z_iconst (i := 0) (v := 0) (pc' := 26) ⟨by decide +kernel, rfl⟩ (by decide) ?_
      exact z_iret (ty := .boolean) rfl (by rfl) (by decide +kernel) (k _ _ h)
    · have h := h.2 (qi_ge_f rfl rfl h2)
      refine z_aload_n (f := 0) (i := 0) (q := 0) (pc' := 13) ⟨by decide +kernel, rfl⟩ rfl rfl ?_
      refine w_getr (k := 10) (j := 4) (idx := 22) (pc' := 16) yfxe_10_22 ykfa_10_4 ⟨by decide +kernel, rfl⟩ ?_
      refine z_iload_n (f := 1) (i := 1) (q := 1) (pc' := 17) ⟨by decide +kernel, rfl⟩ rfl rfl ?_
      obtain ⟨n3, hi3, hz3, h⟩ := h
      refine w_zald (k := 14) (n := n3) (pc' := 18) ykaa_14 (hi3) (hz3) ⟨by decide +kernel, rfl⟩ ?_
      refine z_if_ne (off := 7) (tgt := 25) (pc' := 21) ⟨by decide +kernel, by decide, rfl⟩ (fun h4 => ?_) (fun h4 => ?_)
      · have h := h.2 (qi_ne_t rfl (by decide) h4)
        refine z_iconst (i := 0) (v := 0) (pc' := 26) ⟨by decide +kernel, rfl⟩ (by decide) ?_
        exact z_iret (ty := .boolean) rfl (by rfl) (by decide +kernel) (k _ _ h)
      · have h := h.1 (qi_ne_f rfl (by decide) h4)
        refine z_iconst (i := 1) (v := 1) (pc' := 22) ⟨by decide +kernel, rfl⟩ (by decide) ?_
        refine z_goto (off := 4) (tgt := 26) (pc' := 25) ⟨by decide +kernel, by decide, rfl⟩ ?_
        exact z_iret (ty := .boolean) rfl (by rfl) (by decide +kernel) (k _ _ h)
noncomputable def W_Po_splitSign_b124 (x1 : Int32) (x2 : Int32) (y0 : Int32) (σ : zS) (Q : Int32 → zS → Prop) : Prop := ∀ r1 : Int64, r1.toInt = (Int32.toInt x2) → (W_Po_addToken y0 x1 r1 σ (fun _ σ2 => (-2147483648 ≤ (Int32.toInt x1) + 1 ∧ (Int32.toInt x1) + 1 ≤ 2147483647) ∧ ∀ r3 : Int32, r3.toInt = (Int32.toInt x1) + 1 → (Q r3 σ2)))
theorem sb_Po_splitSign_124 {E : xV} {σ : zS} {K : zKt} {x1 : Int32} {x2 : Int32} {y0 : Int32} {Q : Int32 → zS → Prop} (k : ∀ v s, Q v s → K (some (.int v)) s) (h : W_Po_splitSign_b124 x1 x2 y0 σ Q) : Wz E Y_Po_splitSign 124 [(1, .int x1), (2, .int x2)] [.int y0, .ref 17] σ K := by
  unfold W_Po_splitSign_b124 at h
  refine z_iload_n (f := 1) (i := 1) (q := 0) (pc' := 125) ⟨by decide +kernel, rfl⟩ rfl rfl ?_
  refine z_iload_n (f := 2) (i := 2) (q := 1) (pc' := 126) ⟨by decide +kernel, rfl⟩ rfl rfl ?_
  refine z_i2l (v := (Int32.toInt64 x2)) (pc' := 127) ⟨by decide +kernel, rfl⟩ rfl ?_
  have h := h (Int32.toInt64 x2) (Int32.toInt_toInt64 _)
  generalize (Int32.toInt64 x2) = r1 at h ⊢
  refine w_invV (Z := Y_Po_addToken) (idx := 93) (kb := 17) (As := [.int y0, .int x1, .long r1]) (rest := []) (pc' := 130) cl_7_93 rfl ⟨rfl, rfl⟩ ykfa_17_0 rfl ⟨⟨by decide, by decide⟩, rfl, rfl⟩ ⟨by decide +kernel, rfl⟩ rfl rfl (Nat.le_of_ble_eq_true rfl) rfl rfl ?_
  refine sF_Po_addToken h (fun _ σ2 h => ?_)
  show Wz E Y_Po_splitSign 130 [(1, .int x1), (2, .int x2)] [] σ2 K
  refine z_iload_n (f := 1) (i := 1) (q := 0) (pc' := 131) ⟨by decide +kernel, rfl⟩ rfl rfl ?_
  refine z_iconst (i := 1) (v := 1) (pc' := 132) ⟨by decide +kernel, rfl⟩ (by decide) ?_
  refine z_iadd (pc' := 133) ⟨by decide +kernel, rfl⟩ ?_
  obtain ⟨hb3, h⟩ := h
  have h := h (x1 + 1) (ia_ok rfl (by decide) hb3)
  generalize (x1 + 1) = r3 at h ⊢
  exact z_iret (ty := .int) rfl (by rfl) (by decide +kernel) (k _ _ h)
noncomputable def W_Po_splitSign_b90 (x1 : Int32) (x2 : Int32) (x4 : Int32) (σ : zS) (Q : Int32 → zS → Prop) : Prop := ((Int32.toInt x4) = 0 → (∀ r2 : Int32, r2.toInt = (Int32.toInt x2) % 65536 → (W_JS_indexOf_0 0 r2 σ (fun v3 σ3 => ((Int32.toInt v3) < 0 → (W_Po_splitSign_b124  x1 x2 5 σ3 Q)) ∧ (¬ (Int32.toInt v3) < 0 → (W_Po_splitSign_b124  x1 x2 4 σ3 Q)))))) ∧ (¬ (Int32.toInt x4) = 0 → (∀ r5 : Int64, r5.toInt = (Int32.toInt x4) → (W_Po_addToken 4 x1 r5 σ (fun _ σ6 => (-2147483648 ≤ (Int32.toInt x1) + 2 ∧ (Int32.toInt x1) + 2 ≤ 2147483647) ∧ ∀ r7 : Int32, r7.toInt = (Int32.toInt x1) + 2 → (Q r7 σ6)))))
theorem sb_Po_splitSign_90 {E : xV} {σ : zS} {K : zKt} {x1 : Int32} {x2 : Int32} {x4 : Int32} {Q : Int32 → zS → Prop} (k : ∀ v s, Q v s → K (some (.int v)) s) (h : W_Po_splitSign_b90 x1 x2 x4 σ Q) : Wz E Y_Po_splitSign 90 [(0, .ref 17), (1, .int x1), (2, .int x2), (4, .int x4)] [] σ K := by
  unfold W_Po_splitSign_b90 at h
  refine z_iload (i := 4) (q := 3) (pc' := 92) ⟨by decide +kernel, rfl⟩ rfl ?_
  refine z_if_eq (off := 16) (tgt := 108) (pc' := 95) ⟨by decide +kernel, by decide, rfl⟩ (fun h1 => ?_) (fun h1 => ?_)
  · have h := h.1 (qi_eq_t rfl (by decide) h1)
    refine z_aload_n (f := 0) (i := 0) (q := 0) (pc' := 109) ⟨by decide +kernel, rfl⟩ rfl rfl ?_
    refine z_ldcS (i := 0) (pc' := 111) rfl rfl ⟨by decide +kernel, rfl⟩ ?_
    show Wz E Y_Po_splitSign 111 [(0, .ref 17), (1, .int x1), (2, .int x2), (4, .int x4)] (.ref (1000 + 0) :: [.ref 17]) σ K
    refine z_iload_n (f := 2) (i := 2) (q := 2) (pc' := 112) ⟨by decide +kernel, rfl⟩ rfl rfl ?_
    refine z_i2c (pc' := 113) ⟨by decide +kernel, rfl⟩ rfl ?_
    have h := h ((Int32.toUInt32 x2 % 65536).toInt32) (i2c_i _)
    generalize ((Int32.toUInt32 x2 % 65536).toInt32) = r2 at h ⊢
    refine w_invVS (Z := Y_JS_indexOf_0) (idx := 111) (i := 0) (As := [.int r2]) (rest := [.ref 17]) (pc' := 116) cl_7_111 rfl ⟨rfl, rfl⟩ (by decide) rfl ⟨⟨by decide, by decide⟩, rfl, rfl⟩ ⟨by decide +kernel, rfl⟩ rfl rfl (Nat.le_of_ble_eq_true rfl) rfl rfl ?_
    refine sF_JS_indexOf_0 (by decide) h (fun v3 σ3 h => ?_)
    show Wz E Y_Po_splitSign 116 [(0, .ref 17), (1, .int x1), (2, .int x2), (4, .int x4)] [.int v3, .ref 17] σ3 K
    refine z_if_lt (off := 7) (tgt := 123) (pc' := 119) ⟨by decide +kernel, by decide, rfl⟩ (fun h4 => ?_) (fun h4 => ?_)
    · have h := h.1 (qi_lt_t rfl (by decide) h4)
      refine z_iconst (i := 5) (v := 5) (pc' := 124) ⟨by decide +kernel, rfl⟩ (by decide) ?_
      refine z_sub [1, 2] rfl ?_
      exact sb_Po_splitSign_124  k h
    · have h := h.2 (qi_lt_f rfl (by decide) h4)
      refine z_iconst (i := 4) (v := 4) (pc' := 120) ⟨by decide +kernel, rfl⟩ (by decide) ?_
      refine z_goto (off := 4) (tgt := 124) (pc' := 123) ⟨by decide +kernel, by decide, rfl⟩ ?_
      refine z_sub [1, 2] rfl ?_
      exact sb_Po_splitSign_124  k h
  · have h := h.2 (qi_eq_f rfl (by decide) h1)
    refine z_aload_n (f := 0) (i := 0) (q := 0) (pc' := 96) ⟨by decide +kernel, rfl⟩ rfl rfl ?_
    refine z_iconst (i := 4) (v := 4) (pc' := 97) ⟨by decide +kernel, rfl⟩ (by decide) ?_
    refine z_iload_n (f := 1) (i := 1) (q := 1) (pc' := 98) ⟨by decide +kernel, rfl⟩ rfl rfl ?_
    refine z_iload (i := 4) (q := 3) (pc' := 100) ⟨by decide +kernel, rfl⟩ rfl ?_
    refine z_i2l (v := (Int32.toInt64 x4)) (pc' := 101) ⟨by decide +kernel, rfl⟩ rfl ?_
    have h := h (Int32.toInt64 x4) (Int32.toInt_toInt64 _)
    generalize (Int32.toInt64 x4) = r5 at h ⊢
    refine w_invV (Z := Y_Po_addToken) (idx := 93) (kb := 17) (As := [.int 4, .int x1, .long r5]) (rest := []) (pc' := 104) cl_7_93 rfl ⟨rfl, rfl⟩ ykfa_17_0 rfl ⟨⟨by decide, by decide⟩, rfl, rfl⟩ ⟨by decide +kernel, rfl⟩ rfl rfl (Nat.le_of_ble_eq_true rfl) rfl rfl ?_
    refine sF_Po_addToken h (fun _ σ6 h => ?_)
    show Wz E Y_Po_splitSign 104 [(0, .ref 17), (1, .int x1), (2, .int x2), (4, .int x4)] [] σ6 K
    refine z_iload_n (f := 1) (i := 1) (q := 1) (pc' := 105) ⟨by decide +kernel, rfl⟩ rfl rfl ?_
    refine z_iconst (i := 2) (v := 2) (pc' := 106) ⟨by decide +kernel, rfl⟩ (by decide) ?_
    refine z_iadd (pc' := 107) ⟨by decide +kernel, rfl⟩ ?_
    obtain ⟨hb7, h⟩ := h
    have h := h (x1 + 2) (ia_ok rfl (by decide) hb7)
    generalize (x1 + 2) = r7 at h ⊢
    exact z_iret (ty := .int) rfl (by rfl) (by decide +kernel) (k _ _ h)
noncomputable def W_Po_splitSign_b53 (x1 : Int32) (x2 : Int32) (x3 : Int32) (x4 : Int32) (σ : zS) (Q : Int32 → zS → Prop) : Prop := ((Int32.toInt x2) = 62 → (((Int32.toInt x3) = 61 → (W_Po_splitSign_b90  x1 x2 257 σ Q)) ∧ (¬ (Int32.toInt x3) = 61 → (((Int32.toInt x2) = 60 → (((Int32.toInt x3) = 62 → (W_Po_splitSign_b90  x1 x2 258 σ Q)) ∧ (¬ (Int32.toInt x3) = 62 → (W_Po_splitSign_b90  x1 x2 x4 σ Q)))) ∧ (¬ (Int32.toInt x2) = 60 → (W_Po_splitSign_b90  x1 x2 x4 σ Q)))))) ∧ (¬ (Int32.toInt x2) = 62 → (((Int32.toInt x2) = 60 → (((Int32.toInt x3) = 62 → (W_Po_splitSign_b90  x1 x2 258 σ Q)) ∧ (¬ (Int32.toInt x3) = 62 → (W_Po_splitSign_b90  x1 x2 x4 σ Q)))) ∧ (¬ (Int32.toInt x2) = 60 → (W_Po_splitSign_b90  x1 x2 x4 σ Q))))
theorem sb_Po_splitSign_53 {E : xV} {σ : zS} {K : zKt} {x1 : Int32} {x2 : Int32} {x3 : Int32} {x4 : Int32} {Q : Int32 → zS → Prop} (k : ∀ v s, Q v s → K (some (.int v)) s) (h : W_Po_splitSign_b53 x1 x2 x3 x4 σ Q) : Wz E Y_Po_splitSign 53 [(0, .ref 17), (1, .int x1), (2, .int x2), (3, .int x3), (4, .int x4)] [] σ K := by
  unfold W_Po_splitSign_b53 at h
  refine z_iload_n (f := 2) (i := 2) (q := 2) (pc' := 54) ⟨by decide +kernel, rfl⟩ rfl rfl ?_
  refine z_bipush (i := 62) (v := 62) (pc' := 56) ⟨by decide +kernel, rfl⟩ (by decide) ?_
  refine z_icmp_ne (off := 17) (tgt := 73) (pc' := 59) ⟨by decide +kernel, by decide, rfl⟩ (fun h1 => ?_) (fun h1 => ?_)
  · have h := h.2 (qi_ne_t rfl (by decide) h1)
    refine z_iload_n (f := 2) (i := 2) (q := 2) (pc' := 74) ⟨by decide +kernel, rfl⟩ rfl rfl ?_
    refine z_bipush (i := 60) (v := 60) (pc' := 76) ⟨by decide +kernel, rfl⟩ (by decide) ?_
    refine z_icmp_ne (off := 14) (tgt := 90) (pc' := 79) ⟨by decide +kernel, by decide, rfl⟩ (fun h2 => ?_) (fun h2 => ?_)
    · have h := h.2 (qi_ne_t rfl (by decide) h2)
      refine z_sub [0, 1, 2, 4] rfl ?_
      exact sb_Po_splitSign_90  k h
    · have h := h.1 (qi_ne_f rfl (by decide) h2)
      refine z_iload_n (f := 3) (i := 3) (q := 3) (pc' := 80) ⟨by decide +kernel, rfl⟩ rfl rfl ?_
      refine z_bipush (i := 62) (v := 62) (pc' := 82) ⟨by decide +kernel, rfl⟩ (by decide) ?_
      refine z_icmp_ne (off := 8) (tgt := 90) (pc' := 85) ⟨by decide +kernel, by decide, rfl⟩ (fun h3 => ?_) (fun h3 => ?_)
      · have h := h.2 (qi_ne_t rfl (by decide) h3)
        refine z_sub [0, 1, 2, 4] rfl ?_
        exact sb_Po_splitSign_90  k h
      · have h := h.1 (qi_ne_f rfl (by decide) h3)
        refine z_sipush (i := 258) (v := 258) (pc' := 88) ⟨by decide +kernel, rfl⟩ (by decide) ?_
        refine z_istore (i := 4) (pc' := 90) ⟨by decide +kernel, rfl⟩ (by decide) rfl ?_
        show Wz E Y_Po_splitSign 90 [(4, .int 258), (0, .ref 17), (1, .int x1), (2, .int x2), (3, .int x3)] [] σ K
        refine z_sub [1, 2, 3, 0] rfl ?_
        exact sb_Po_splitSign_90  k h
  · have h := h.1 (qi_ne_f rfl (by decide) h1)
    refine z_iload_n (f := 3) (i := 3) (q := 3) (pc' := 60) ⟨by decide +kernel, rfl⟩ rfl rfl ?_
    refine z_bipush (i := 61) (v := 61) (pc' := 62) ⟨by decide +kernel, rfl⟩ (by decide) ?_
    refine z_icmp_ne (off := 11) (tgt := 73) (pc' := 65) ⟨by decide +kernel, by decide, rfl⟩ (fun h4 => ?_) (fun h4 => ?_)
    · have h := h.2 (qi_ne_t rfl (by decide) h4)
      refine z_iload_n (f := 2) (i := 2) (q := 2) (pc' := 74) ⟨by decide +kernel, rfl⟩ rfl rfl ?_
      refine z_bipush (i := 60) (v := 60) (pc' := 76) ⟨by decide +kernel, rfl⟩ (by decide) ?_
      refine z_icmp_ne (off := 14) (tgt := 90) (pc' := 79) ⟨by decide +kernel, by decide, rfl⟩ (fun h5 => ?_) (fun h5 => ?_)
      · have h := h.2 (qi_ne_t rfl (by decide) h5)
        refine z_sub [0, 1, 2, 4] rfl ?_
        exact sb_Po_splitSign_90  k h
      · have h := h.1 (qi_ne_f rfl (by decide) h5)
        refine z_iload_n (f := 3) (i := 3) (q := 3) (pc' := 80) ⟨by decide +kernel, rfl⟩ rfl rfl ?_
        refine z_bipush (i := 62) (v := 62) (pc' := 82) ⟨by decide +kernel, rfl⟩ (by decide) ?_
        refine z_icmp_ne (off := 8) (tgt := 90) (pc' := 85) ⟨by decide +kernel, by decide, rfl⟩ (fun h6 => ?_) (fun h6 => ?_)
        · have h := h.2 (qi_ne_t rfl (by decide) h6)
          refine z_sub [0, 1, 2, 4] rfl ?_
          exact sb_Po_splitSign_90  k h
        · have h := h.1 (qi_ne_f rfl (by decide) h6)
          refine z_sipush (i := 258) (v := 258) (pc' := 88) ⟨by decide +kernel, rfl⟩ (by decide) ?_
          refine z_istore (i := 4) (pc' := 90) ⟨by decide +kernel, rfl⟩ (by decide) rfl ?_
          show Wz E Y_Po_splitSign 90 [(4, .int 258), (0, .ref 17), (1, .int x1), (2, .int x2), (3, .int x3)] [] σ K
          refine z_sub [1, 2, 3, 0] rfl ?_
          exact sb_Po_splitSign_90  k h
    · have h := h.1 (qi_ne_f rfl (by decide) h4)
      refine z_sipush (i := 257) (v := 257) (pc' := 68) ⟨by decide +kernel, rfl⟩ (by decide) ?_
      refine z_istore (i := 4) (pc' := 70) ⟨by decide +kernel, rfl⟩ (by decide) rfl ?_
      show Wz E Y_Po_splitSign 70 [(4, .int 257), (0, .ref 17), (1, .int x1), (2, .int x2), (3, .int x3)] [] σ K
      refine z_goto (off := 20) (tgt := 90) (pc' := 73) ⟨by decide +kernel, by decide, rfl⟩ ?_
      refine z_sub [1, 2, 3, 0] rfl ?_
      exact sb_Po_splitSign_90  k h
noncomputable def W_Po_splitSign_b29 (x1 : Int32) (x2 : Int32) (y0 : Int32) (σ : zS) (Q : Int32 → zS → Prop) : Prop := ((Int32.toInt x2) = 60 → (((Int32.toInt y0) = 61 → (W_Po_splitSign_b90  x1 x2 256 σ Q)) ∧ (¬ (Int32.toInt y0) = 61 → (W_Po_splitSign_b53  x1 x2 y0 0 σ Q)))) ∧ (¬ (Int32.toInt x2) = 60 → (W_Po_splitSign_b53  x1 x2 y0 0 σ Q))
theorem sb_Po_splitSign_29 {E : xV} {σ : zS} {K : zKt} {x1 : Int32} {x2 : Int32} {y0 : Int32} {Q : Int32 → zS → Prop} (k : ∀ v s, Q v s → K (some (.int v)) s) (h : W_Po_splitSign_b29 x1 x2 y0 σ Q) : Wz E Y_Po_splitSign 29 [(0, .ref 17), (1, .int x1), (2, .int x2)] [.int y0] σ K := by
  unfold W_Po_splitSign_b29 at h
  refine z_istore_n (f := 3) (i := 3) (pc' := 30) ⟨by decide +kernel, rfl⟩ rfl (by decide) rfl ?_
  show Wz E Y_Po_splitSign 30 [(3, .int y0), (0, .ref 17), (1, .int x1), (2, .int x2)] [] σ K
  refine z_iconst (i := 0) (v := 0) (pc' := 31) ⟨by decide +kernel, rfl⟩ (by decide) ?_
  refine z_istore (i := 4) (pc' := 33) ⟨by decide +kernel, rfl⟩ (by decide) rfl ?_
  show Wz E Y_Po_splitSign 33 [(4, .int 0), (3, .int y0), (0, .ref 17), (1, .int x1), (2, .int x2)] [] σ K
  refine z_iload_n (f := 2) (i := 2) (q := 4) (pc' := 34) ⟨by decide +kernel, rfl⟩ rfl rfl ?_
  refine z_bipush (i := 60) (v := 60) (pc' := 36) ⟨by decide +kernel, rfl⟩ (by decide) ?_
  refine z_icmp_ne (off := 17) (tgt := 53) (pc' := 39) ⟨by decide +kernel, by decide, rfl⟩ (fun h1 => ?_) (fun h1 => ?_)
  · have h := h.2 (qi_ne_t rfl (by decide) h1)
    refine z_sub [2, 3, 4, 1, 0] rfl ?_
    exact sb_Po_splitSign_53  k h
  · have h := h.1 (qi_ne_f rfl (by decide) h1)
    refine z_iload_n (f := 3) (i := 3) (q := 1) (pc' := 40) ⟨by decide +kernel, rfl⟩ rfl rfl ?_
    refine z_bipush (i := 61) (v := 61) (pc' := 42) ⟨by decide +kernel, rfl⟩ (by decide) ?_
    refine z_icmp_ne (off := 11) (tgt := 53) (pc' := 45) ⟨by decide +kernel, by decide, rfl⟩ (fun h2 => ?_) (fun h2 => ?_)
    · have h := h.2 (qi_ne_t rfl (by decide) h2)
      refine z_sub [2, 3, 4, 1, 0] rfl ?_
      exact sb_Po_splitSign_53  k h
    · have h := h.1 (qi_ne_f rfl (by decide) h2)
      refine z_sipush (i := 256) (v := 256) (pc' := 48) ⟨by decide +kernel, rfl⟩ (by decide) ?_
      refine z_istore (i := 4) (pc' := 50) ⟨by decide +kernel, rfl⟩ (by decide) rfl ?_
      show Wz E Y_Po_splitSign 50 [(4, .int 256), (3, .int y0), (0, .ref 17), (1, .int x1), (2, .int x2)] [] σ K
      refine z_goto (off := 40) (tgt := 90) (pc' := 53) ⟨by decide +kernel, by decide, rfl⟩ ?_
      refine z_sub [2, 3, 4, 0] rfl ?_
      exact sb_Po_splitSign_90  k h
noncomputable def W_Po_splitSign (a1 : Int32) (σ : zS) (Q : Int32 → zS → Prop) : Prop := ∃ n1 : Nat, Int32.toInt a1 = (n1 : Int) ∧ n1 < 1200 ∧ ((-2147483648 ≤ (Int32.toInt a1) + 1 ∧ (Int32.toInt a1) + 1 ≤ 2147483647) ∧ ∀ r2 : Int32, r2.toInt = (Int32.toInt a1) + 1 → (((Int32.toInt (σ.1 17 9)) ≤ (Int32.toInt r2) → (W_Po_splitSign_b29  a1 (σ.1 23 n1) 0 σ Q)) ∧ (¬ (Int32.toInt (σ.1 17 9)) ≤ (Int32.toInt r2) → ((-2147483648 ≤ (Int32.toInt a1) + 1 ∧ (Int32.toInt a1) + 1 ≤ 2147483647) ∧ ∀ r4 : Int32, r4.toInt = (Int32.toInt a1) + 1 → (∃ n5 : Nat, Int32.toInt r4 = (n5 : Int) ∧ n5 < 1200 ∧ (W_Po_splitSign_b29  a1 (σ.1 23 n1) (σ.1 23 n5) σ Q))))))
theorem sF_Po_splitSign {E : xV} {σ : zS} {K : zKt} {a1 : Int32} {Q : Int32 → zS → Prop} (h : W_Po_splitSign a1 σ Q) (k : ∀ v s, Q v s → K (some (.int v)) s) : Cz E Y_Po_splitSign [.ref 17, .int a1] σ K := by
  refine z_entry (by decide) (fun a => by rw [sl_len]; exact Nat.le_of_ble_eq_true rfl) rfl ?_
  unfold W_Po_splitSign at h
  refine z_aload_n (f := 0) (i := 0) (q := 0) (pc' := 1) ⟨by decide +kernel, rfl⟩ rfl rfl ?_
  refine w_getr (k := 17) (j := 8) (idx := 38) (pc' := 4) yfxe_7_38 ykfa_17_8 ⟨by decide +kernel, rfl⟩ ?_
  refine z_iload_n (f := 1) (i := 1) (q := 1) (pc' := 5) ⟨by decide +kernel, rfl⟩ rfl rfl ?_
  obtain ⟨n1, hi1, hz1, h⟩ := h
  refine w_iald (k := 23) (n := n1) (pc' := 6) ykaa_23 (hi1) (hz1) ⟨by decide +kernel, rfl⟩ ?_
  refine z_istore_n (f := 2) (i := 2) (pc' := 7) ⟨by decide +kernel, rfl⟩ rfl (by decide) rfl ?_
  show Wz E Y_Po_splitSign 7 [(2, .int (σ.1 23 n1)), (0, .ref 17), (1, .int a1)] [] σ K
  refine z_iload_n (f := 1) (i := 1) (q := 2) (pc' := 8) ⟨by decide +kernel, rfl⟩ rfl rfl ?_
  refine z_iconst (i := 1) (v := 1) (pc' := 9) ⟨by decide +kernel, rfl⟩ (by decide) ?_
  refine z_iadd (pc' := 10) ⟨by decide +kernel, rfl⟩ ?_
  obtain ⟨hb2, h⟩ := h
  have h := h (a1 + 1) (ia_ok rfl (by decide) hb2)
  generalize (a1 + 1) = r2 at h ⊢
  refine z_aload_n (f := 0) (i := 0) (q := 1) (pc' := 11) ⟨by decide +kernel, rfl⟩ rfl rfl ?_
  refine w_geti (k := 17) (j := 9) (idx := 56) (pc' := 14) yfxe_7_56 ykfa_17_9 ⟨by decide +kernel, rfl⟩ ?_
  refine z_icmp_ge (off := 14) (tgt := 28) (pc' := 17) ⟨by decide +kernel, by decide, rfl⟩ (fun h3 => ?_) (fun h3 => ?_)
  · have h := h.1 (qi_ge_t rfl rfl h3)
    refine z_iconst (i := 0) (v := 0) (pc' := 29) ⟨by decide +kernel, rfl⟩ (by decide) ?_
    refine z_sub [1, 2, 0] rfl ?_
    exact sb_Po_splitSign_29  k h
  · have h := h.2 (qi_ge_f rfl rfl h3)
    refine z_aload_n (f := 0) (i := 0) (q := 1) (pc' := 18) ⟨by decide +kernel, rfl⟩ rfl rfl ?_
    refine w_getr (k := 17) (j := 8) (idx := 38) (pc' := 21) yfxe_7_38 ykfa_17_8 ⟨by decide +kernel, rfl⟩ ?_
    refine z_iload_n (f := 1) (i := 1) (q := 2) (pc' := 22) ⟨by decide +kernel, rfl⟩ rfl rfl ?_
    refine z_iconst (i := 1) (v := 1) (pc' := 23) ⟨by decide +kernel, rfl⟩ (by decide) ?_
    refine z_iadd (pc' := 24) ⟨by decide +kernel, rfl⟩ ?_
    obtain ⟨hb4, h⟩ := h
    have h := h (a1 + 1) (ia_ok rfl (by decide) hb4)
    generalize (a1 + 1) = r4 at h ⊢
    obtain ⟨n5, hi5, hz5, h⟩ := h
    refine w_iald (k := 23) (n := n5) (pc' := 25) ykaa_23 (hi5) (hz5) ⟨by decide +kernel, rfl⟩ ?_
    refine z_goto (off := 4) (tgt := 29) (pc' := 28) ⟨by decide +kernel, by decide, rfl⟩ ?_
    refine z_sub [1, 2, 0] rfl ?_
    exact sb_Po_splitSign_29  k h
noncomputable def W_Po_readEffect (a1 : Int32) (σ : zS) (Q : Int32 → zS → Prop) : Prop := W_Po_isWord 1 σ (fun v1 σ1 => ((Int32.toInt v1) = 0 → (W_Po_isWord 2 σ1 (fun v3 σ3 => ((Int32.toInt v3) = 0 → (W_Po_isWord 3 σ3 (fun v5 σ5 => ((Int32.toInt v5) = 0 → (W_Po_fail  σ5 (fun v7 σ7 => (v7 = 0 ∨ v7 = 1) ∧ (Q v7 σ7)))) ∧ (¬ (Int32.toInt v5) = 0 → ((-2147483648 ≤ (Int32.toInt a1) + 0 ∧ (Int32.toInt a1) + 0 ≤ 2147483647) ∧ ∀ r9 : Int32, r9.toInt = (Int32.toInt a1) + 0 → (∃ n10 : Nat, Int32.toInt r9 = (n10 : Int) ∧ n10 < 2160 ∧ (∀ σ11 : zS, zI σ5 20 n10 2 = σ11 → ((-2147483648 ≤ (Int32.toInt (σ11.1 17 14)) + 1 ∧ (Int32.toInt (σ11.1 17 14)) + 1 ≤ 2147483647) ∧ ∀ r12 : Int32, r12.toInt = (Int32.toInt (σ11.1 17 14)) + 1 → (∀ σ13 : zS, zI σ11 17 14 r12 = σ13 → (Q 1 σ13)))))))))) ∧ (¬ (Int32.toInt v3) = 0 → ((-2147483648 ≤ (Int32.toInt a1) + 0 ∧ (Int32.toInt a1) + 0 ≤ 2147483647) ∧ ∀ r14 : Int32, r14.toInt = (Int32.toInt a1) + 0 → (∃ n15 : Nat, Int32.toInt r14 = (n15 : Int) ∧ n15 < 2160 ∧ (∀ σ16 : zS, zI σ3 20 n15 1 = σ16 → ((-2147483648 ≤ (Int32.toInt (σ16.1 17 14)) + 1 ∧ (Int32.toInt (σ16.1 17 14)) + 1 ≤ 2147483647) ∧ ∀ r17 : Int32, r17.toInt = (Int32.toInt (σ16.1 17 14)) + 1 → (∀ σ18 : zS, zI σ16 17 14 r17 = σ18 → (Q 1 σ18)))))))))) ∧ (¬ (Int32.toInt v1) = 0 → ((-2147483648 ≤ (Int32.toInt a1) + 0 ∧ (Int32.toInt a1) + 0 ≤ 2147483647) ∧ ∀ r19 : Int32, r19.toInt = (Int32.toInt a1) + 0 → (∃ n20 : Nat, Int32.toInt r19 = (n20 : Int) ∧ n20 < 2160 ∧ (∀ σ21 : zS, zI σ1 20 n20 0 = σ21 → ((-2147483648 ≤ (Int32.toInt (σ21.1 17 14)) + 1 ∧ (Int32.toInt (σ21.1 17 14)) + 1 ≤ 2147483647) ∧ ∀ r22 : Int32, r22.toInt = (Int32.toInt (σ21.1 17 14)) + 1 → (∀ σ23 : zS, zI σ21 17 14 r22 = σ23 → (Q 1 σ23))))))))
theorem sF_Po_readEffect {E : xV} {σ : zS} {K : zKt} {a1 : Int32} {Q : Int32 → zS → Prop} (h : W_Po_readEffect a1 σ Q) (k : ∀ v s, Q v s → K (some (.int v)) s) : Cz E Y_Po_readEffect [.ref 17, .int a1] σ K := by
  refine z_entry (by decide) (fun a => by rw [sl_len]; exact Nat.le_of_ble_eq_true rfl) rfl ?_
  unfold W_Po_readEffect at h
  refine z_aload_n (f := 0) (i := 0) (q := 0) (pc' := 1) ⟨by decide +kernel, rfl⟩ rfl rfl ?_
  refine z_ldcS (i := 1) (pc' := 3) rfl rfl ⟨by decide +kernel, rfl⟩ ?_
  show Wz E Y_Po_readEffect 3 [(0, .ref 17), (1, .int a1)] (.ref (1000 + 1) :: [.ref 17]) σ K
  refine w_invV (Z := Y_Po_isWord) (idx := 158) (kb := 17) (As := [.ref (1000 + 1)]) (rest := []) (pc' := 6) cl_7_158 rfl ⟨rfl, rfl⟩ ykfa_17_0 rfl ⟨⟨by decide, by decide⟩, rfl, rfl⟩ ⟨by decide +kernel, rfl⟩ rfl rfl (Nat.le_of_ble_eq_true rfl) rfl rfl ?_
  refine sF_Po_isWord (by decide) h (fun v1 σ1 h => ?_)
  show Wz E Y_Po_readEffect 6 [(0, .ref 17), (1, .int a1)] [.int v1] σ1 K
  refine z_if_eq (off := 15) (tgt := 21) (pc' := 9) ⟨by decide +kernel, by decide, rfl⟩ (fun h2 => ?_) (fun h2 => ?_)
  · have h := h.1 (qi_eq_t rfl (by decide) h2)
    refine z_aload_n (f := 0) (i := 0) (q := 0) (pc' := 22) ⟨by decide +kernel, rfl⟩ rfl rfl ?_
    refine z_ldcS (i := 2) (pc' := 24) rfl rfl ⟨by decide +kernel, rfl⟩ ?_
    show Wz E Y_Po_readEffect 24 [(0, .ref 17), (1, .int a1)] (.ref (1000 + 2) :: [.ref 17]) σ1 K
    refine w_invV (Z := Y_Po_isWord) (idx := 158) (kb := 17) (As := [.ref (1000 + 2)]) (rest := []) (pc' := 27) cl_7_158 rfl ⟨rfl, rfl⟩ ykfa_17_0 rfl ⟨⟨by decide, by decide⟩, rfl, rfl⟩ ⟨by decide +kernel, rfl⟩ rfl rfl (Nat.le_of_ble_eq_true rfl) rfl rfl ?_
    refine sF_Po_isWord (by decide) h (fun v3 σ3 h => ?_)
    show Wz E Y_Po_readEffect 27 [(0, .ref 17), (1, .int a1)] [.int v3] σ3 K
    refine z_if_eq (off := 15) (tgt := 42) (pc' := 30) ⟨by decide +kernel, by decide, rfl⟩ (fun h4 => ?_) (fun h4 => ?_)
    · have h := h.1 (qi_eq_t rfl (by decide) h4)
      refine z_aload_n (f := 0) (i := 0) (q := 0) (pc' := 43) ⟨by decide +kernel, rfl⟩ rfl rfl ?_
      refine z_ldcS (i := 3) (pc' := 45) rfl rfl ⟨by decide +kernel, rfl⟩ ?_
      show Wz E Y_Po_readEffect 45 [(0, .ref 17), (1, .int a1)] (.ref (1000 + 3) :: [.ref 17]) σ3 K
      refine w_invV (Z := Y_Po_isWord) (idx := 158) (kb := 17) (As := [.ref (1000 + 3)]) (rest := []) (pc' := 48) cl_7_158 rfl ⟨rfl, rfl⟩ ykfa_17_0 rfl ⟨⟨by decide, by decide⟩, rfl, rfl⟩ ⟨by decide +kernel, rfl⟩ rfl rfl (Nat.le_of_ble_eq_true rfl) rfl rfl ?_
      refine sF_Po_isWord (by decide) h (fun v5 σ5 h => ?_)
      show Wz E Y_Po_readEffect 48 [(0, .ref 17), (1, .int a1)] [.int v5] σ5 K
      refine z_if_eq (off := 15) (tgt := 63) (pc' := 51) ⟨by decide +kernel, by decide, rfl⟩ (fun h6 => ?_) (fun h6 => ?_)
      · have h := h.1 (qi_eq_t rfl (by decide) h6)
        refine z_aload_n (f := 0) (i := 0) (q := 0) (pc' := 64) ⟨by decide +kernel, rfl⟩ rfl rfl ?_
        refine w_invV (Z := Y_Po_fail) (idx := 140) (kb := 17) (As := []) (rest := []) (pc' := 67) cl_7_140 rfl ⟨rfl, rfl⟩ ykfa_17_0 rfl ⟨⟨by decide, by decide⟩, rfl, rfl⟩ ⟨by decide +kernel, rfl⟩ rfl rfl (Nat.le_of_ble_eq_true rfl) rfl rfl ?_
        refine sF_Po_fail h (fun v7 σ7 h => ?_)
        show Wz E Y_Po_readEffect 67 [(0, .ref 17), (1, .int a1)] [.int v7] σ7 K
        obtain ⟨hg8, h⟩ := h
        exact z_iret (ty := .boolean) rfl (j_bool hg8).1 (by decide +kernel) (k _ _ h)
      · have h := h.2 (qi_eq_f rfl (by decide) h6)
        refine z_aload_n (f := 0) (i := 0) (q := 0) (pc' := 52) ⟨by decide +kernel, rfl⟩ rfl rfl ?_
        refine w_getr (k := 17) (j := 3) (idx := 28) (pc' := 55) yfxe_7_28 ykfa_17_3 ⟨by decide +kernel, rfl⟩ ?_
        refine z_iload_n (f := 1) (i := 1) (q := 1) (pc' := 56) ⟨by decide +kernel, rfl⟩ rfl rfl ?_
        refine z_iconst (i := 0) (v := 0) (pc' := 57) ⟨by decide +kernel, rfl⟩ (by decide) ?_
        refine z_iadd (pc' := 58) ⟨by decide +kernel, rfl⟩ ?_
        obtain ⟨hb9, h⟩ := h
        have h := h (a1 + 0) (ia_ok rfl (by decide) hb9)
        generalize (a1 + 0) = r9 at h ⊢
        refine z_iconst (i := 2) (v := 2) (pc' := 59) ⟨by decide +kernel, rfl⟩ (by decide) ?_
        obtain ⟨n10, hi10, hz10, h⟩ := h
        refine w_iast (k := 20) (n := n10) (pc' := 60) ykaa_20 (hi10) (hz10) ⟨by decide +kernel, rfl⟩ ?_
        generalize hs11 : zI σ5 20 n10 2 = σ11
        have h := h σ11 hs11
        refine z_goto (off := 8) (tgt := 68) (pc' := 63) ⟨by decide +kernel, by decide, rfl⟩ ?_
        refine z_aload_n (f := 0) (i := 0) (q := 0) (pc' := 69) ⟨by decide +kernel, rfl⟩ rfl rfl ?_
        refine z_dupr (pc' := 70) ⟨by decide +kernel, rfl⟩ ?_
        refine w_geti (k := 17) (j := 14) (idx := 63) (pc' := 73) yfxe_7_63 ykfa_17_14 ⟨by decide +kernel, rfl⟩ ?_
        refine z_iconst (i := 1) (v := 1) (pc' := 74) ⟨by decide +kernel, rfl⟩ (by decide) ?_
        refine z_iadd (pc' := 75) ⟨by decide +kernel, rfl⟩ ?_
        obtain ⟨hb12, h⟩ := h
        have h := h ((σ11.1 17 14) + 1) (ia_ok rfl (by decide) hb12)
        generalize ((σ11.1 17 14) + 1) = r12 at h ⊢
        refine w_puti (k := 17) (j := 14) (idx := 63) (pc' := 78) yfxi_7_63 ykfa_17_14 ⟨by decide +kernel, rfl⟩ ?_
        generalize hs13 : zI σ11 17 14 r12 = σ13
        have h := h σ13 hs13
        refine z_iconst (i := 1) (v := 1) (pc' := 79) ⟨by decide +kernel, rfl⟩ (by decide) ?_
        exact z_iret (ty := .boolean) rfl (by rfl) (by decide +kernel) (k _ _ h)
    · have h := h.2 (qi_eq_f rfl (by decide) h4)
      refine z_aload_n (f := 0) (i := 0) (q := 0) (pc' := 31) ⟨by decide +kernel, rfl⟩ rfl rfl ?_
      refine w_getr (k := 17) (j := 3) (idx := 28) (pc' := 34) yfxe_7_28 ykfa_17_3 ⟨by decide +kernel, rfl⟩ ?_
      refine z_iload_n (f := 1) (i := 1) (q := 1) (pc' := 35) ⟨by decide +kernel, rfl⟩ rfl rfl ?_
      refine z_iconst (i := 0) (v := 0) (pc' := 36) ⟨by decide +kernel, rfl⟩ (by decide) ?_
      refine z_iadd (pc' := 37) ⟨by decide +kernel, rfl⟩ ?_
      obtain ⟨hb14, h⟩ := h
      have h := h (a1 + 0) (ia_ok rfl (by decide) hb14)
      generalize (a1 + 0) = r14 at h ⊢
      refine z_iconst (i := 1) (v := 1) (pc' := 38) ⟨by decide +kernel, rfl⟩ (by decide) ?_
      obtain ⟨n15, hi15, hz15, h⟩ := h
      refine w_iast (k := 20) (n := n15) (pc' := 39) ykaa_20 (hi15) (hz15) ⟨by decide +kernel, rfl⟩ ?_
      generalize hs16 : zI σ3 20 n15 1 = σ16
      have h := h σ16 hs16
      refine z_goto (off := 29) (tgt := 68) (pc' := 42) ⟨by decide +kernel, by decide, rfl⟩ ?_
      refine z_aload_n (f := 0) (i := 0) (q := 0) (pc' := 69) ⟨by decide +kernel, rfl⟩ rfl rfl ?_
      refine z_dupr (pc' := 70) ⟨by decide +kernel, rfl⟩ ?_
      refine w_geti (k := 17) (j := 14) (idx := 63) (pc' := 73) yfxe_7_63 ykfa_17_14 ⟨by decide +kernel, rfl⟩ ?_
      refine z_iconst (i := 1) (v := 1) (pc' := 74) ⟨by decide +kernel, rfl⟩ (by decide) ?_
      refine z_iadd (pc' := 75) ⟨by decide +kernel, rfl⟩ ?_
      obtain ⟨hb17, h⟩ := h
      have h := h ((σ16.1 17 14) + 1) (ia_ok rfl (by decide) hb17)
      generalize ((σ16.1 17 14) + 1) = r17 at h ⊢
      refine w_puti (k := 17) (j := 14) (idx := 63) (pc' := 78) yfxi_7_63 ykfa_17_14 ⟨by decide +kernel, rfl⟩ ?_
      generalize hs18 : zI σ16 17 14 r17 = σ18
      have h := h σ18 hs18
      refine z_iconst (i := 1) (v := 1) (pc' := 79) ⟨by decide +kernel, rfl⟩ (by decide) ?_
      exact z_iret (ty := .boolean) rfl (by rfl) (by decide +kernel) (k _ _ h)
  · have h := h.2 (qi_eq_f rfl (by decide) h2)
    refine z_aload_n (f := 0) (i := 0) (q := 0) (pc' := 10) ⟨by decide +kernel, rfl⟩ rfl rfl ?_
    refine w_getr (k := 17) (j := 3) (idx := 28) (pc' := 13) yfxe_7_28 ykfa_17_3 ⟨by decide +kernel, rfl⟩ ?_
    refine z_iload_n (f := 1) (i := 1) (q := 1) (pc' := 14) ⟨by decide +kernel, rfl⟩ rfl rfl ?_
    refine z_iconst (i := 0) (v := 0) (pc' := 15) ⟨by decide +kernel, rfl⟩ (by decide) ?_
    refine z_iadd (pc' := 16) ⟨by decide +kernel, rfl⟩ ?_
    obtain ⟨hb19, h⟩ := h
    have h := h (a1 + 0) (ia_ok rfl (by decide) hb19)
    generalize (a1 + 0) = r19 at h ⊢
    refine z_iconst (i := 0) (v := 0) (pc' := 17) ⟨by decide +kernel, rfl⟩ (by decide) ?_
    obtain ⟨n20, hi20, hz20, h⟩ := h
    refine w_iast (k := 20) (n := n20) (pc' := 18) ykaa_20 (hi20) (hz20) ⟨by decide +kernel, rfl⟩ ?_
    generalize hs21 : zI σ1 20 n20 0 = σ21
    have h := h σ21 hs21
    refine z_goto (off := 50) (tgt := 68) (pc' := 21) ⟨by decide +kernel, by decide, rfl⟩ ?_
    refine z_aload_n (f := 0) (i := 0) (q := 0) (pc' := 69) ⟨by decide +kernel, rfl⟩ rfl rfl ?_
    refine z_dupr (pc' := 70) ⟨by decide +kernel, rfl⟩ ?_
    refine w_geti (k := 17) (j := 14) (idx := 63) (pc' := 73) yfxe_7_63 ykfa_17_14 ⟨by decide +kernel, rfl⟩ ?_
    refine z_iconst (i := 1) (v := 1) (pc' := 74) ⟨by decide +kernel, rfl⟩ (by decide) ?_
    refine z_iadd (pc' := 75) ⟨by decide +kernel, rfl⟩ ?_
    obtain ⟨hb22, h⟩ := h
    have h := h ((σ21.1 17 14) + 1) (ia_ok rfl (by decide) hb22)
    generalize ((σ21.1 17 14) + 1) = r22 at h ⊢
    refine w_puti (k := 17) (j := 14) (idx := 63) (pc' := 78) yfxi_7_63 ykfa_17_14 ⟨by decide +kernel, rfl⟩ ?_
    generalize hs23 : zI σ21 17 14 r22 = σ23
    have h := h σ23 hs23
    refine z_iconst (i := 1) (v := 1) (pc' := 79) ⟨by decide +kernel, rfl⟩ (by decide) ?_
    exact z_iret (ty := .boolean) rfl (by rfl) (by decide +kernel) (k _ _ h)
noncomputable def W_Po_readWho (a1 : Int32) (σ : zS) (Q : Int32 → zS → Prop) : Prop := W_Po_numberBehind 112 σ (fun v1 σ1 => W_Po_numberBehind 103 σ1 (fun v2 σ2 => (-2147483648 ≤ (Int32.toInt a1) + 2 ∧ (Int32.toInt a1) + 2 ≤ 2147483647) ∧ ∀ r3 : Int32, r3.toInt = (Int32.toInt a1) + 2 → (∀ r4 : Int32, r4.toInt = max (Int32.toInt v1) (Int32.toInt v2) → (∃ n5 : Nat, Int32.toInt r3 = (n5 : Int) ∧ n5 < 2160 ∧ (∀ σ6 : zS, zI σ2 20 n5 r4 = σ6 → (W_Po_isWord 4 σ6 (fun v7 σ7 => ((Int32.toInt v7) = 0 → (W_Po_isWord 5 σ7 (fun v9 σ9 => ((Int32.toInt v9) = 0 → (W_Wh_isPerson v1 σ9 (fun v11 σ11 => ((Int32.toInt v11) = 0 → (W_Wh_isGroup v2 σ11 (fun v13 σ13 => ((Int32.toInt v13) = 0 → (W_Po_fail  σ13 (fun v15 σ15 => (v15 = 0 ∨ v15 = 1) ∧ (Q v15 σ15)))) ∧ (¬ (Int32.toInt v13) = 0 → ((-2147483648 ≤ (Int32.toInt a1) + 1 ∧ (Int32.toInt a1) + 1 ≤ 2147483647) ∧ ∀ r17 : Int32, r17.toInt = (Int32.toInt a1) + 1 → (∃ n18 : Nat, Int32.toInt r17 = (n18 : Int) ∧ n18 < 2160 ∧ (∀ σ19 : zS, zI σ13 20 n18 1 = σ19 → ((-2147483648 ≤ (Int32.toInt (σ19.1 17 14)) + 1 ∧ (Int32.toInt (σ19.1 17 14)) + 1 ≤ 2147483647) ∧ ∀ r20 : Int32, r20.toInt = (Int32.toInt (σ19.1 17 14)) + 1 → (∀ σ21 : zS, zI σ19 17 14 r20 = σ21 → (Q 1 σ21)))))))))) ∧ (¬ (Int32.toInt v11) = 0 → ((-2147483648 ≤ (Int32.toInt a1) + 1 ∧ (Int32.toInt a1) + 1 ≤ 2147483647) ∧ ∀ r22 : Int32, r22.toInt = (Int32.toInt a1) + 1 → (∃ n23 : Nat, Int32.toInt r22 = (n23 : Int) ∧ n23 < 2160 ∧ (∀ σ24 : zS, zI σ11 20 n23 3 = σ24 → ((-2147483648 ≤ (Int32.toInt (σ24.1 17 14)) + 1 ∧ (Int32.toInt (σ24.1 17 14)) + 1 ≤ 2147483647) ∧ ∀ r25 : Int32, r25.toInt = (Int32.toInt (σ24.1 17 14)) + 1 → (∀ σ26 : zS, zI σ24 17 14 r25 = σ26 → (Q 1 σ26)))))))))) ∧ (¬ (Int32.toInt v9) = 0 → ((-2147483648 ≤ (Int32.toInt a1) + 1 ∧ (Int32.toInt a1) + 1 ≤ 2147483647) ∧ ∀ r27 : Int32, r27.toInt = (Int32.toInt a1) + 1 → (∃ n28 : Nat, Int32.toInt r27 = (n28 : Int) ∧ n28 < 2160 ∧ (∀ σ29 : zS, zI σ9 20 n28 2 = σ29 → ((-2147483648 ≤ (Int32.toInt (σ29.1 17 14)) + 1 ∧ (Int32.toInt (σ29.1 17 14)) + 1 ≤ 2147483647) ∧ ∀ r30 : Int32, r30.toInt = (Int32.toInt (σ29.1 17 14)) + 1 → (∀ σ31 : zS, zI σ29 17 14 r30 = σ31 → (Q 1 σ31)))))))))) ∧ (¬ (Int32.toInt v7) = 0 → ((-2147483648 ≤ (Int32.toInt a1) + 1 ∧ (Int32.toInt a1) + 1 ≤ 2147483647) ∧ ∀ r32 : Int32, r32.toInt = (Int32.toInt a1) + 1 → (∃ n33 : Nat, Int32.toInt r32 = (n33 : Int) ∧ n33 < 2160 ∧ (∀ σ34 : zS, zI σ7 20 n33 0 = σ34 → ((-2147483648 ≤ (Int32.toInt (σ34.1 17 14)) + 1 ∧ (Int32.toInt (σ34.1 17 14)) + 1 ≤ 2147483647) ∧ ∀ r35 : Int32, r35.toInt = (Int32.toInt (σ34.1 17 14)) + 1 → (∀ σ36 : zS, zI σ34 17 14 r35 = σ36 → (Q 1 σ36))))))))))))))
theorem sF_Po_readWho {E : xV} {σ : zS} {K : zKt} {a1 : Int32} {Q : Int32 → zS → Prop} (h : W_Po_readWho a1 σ Q) (k : ∀ v s, Q v s → K (some (.int v)) s) : Cz E Y_Po_readWho [.ref 17, .int a1] σ K := by
  refine z_entry (by decide) (fun a => by rw [sl_len]; exact Nat.le_of_ble_eq_true rfl) rfl ?_
  unfold W_Po_readWho at h
  refine z_aload_n (f := 0) (i := 0) (q := 0) (pc' := 1) ⟨by decide +kernel, rfl⟩ rfl rfl ?_
  refine z_bipush (i := 112) (v := 112) (pc' := 3) ⟨by decide +kernel, rfl⟩ (by decide) ?_
  refine w_invV (Z := Y_Po_numberBehind) (idx := 175) (kb := 17) (As := [.int 112]) (rest := []) (pc' := 6) cl_7_175 rfl ⟨rfl, rfl⟩ ykfa_17_0 rfl ⟨⟨by decide, by decide⟩, rfl, rfl⟩ ⟨by decide +kernel, rfl⟩ rfl rfl (Nat.le_of_ble_eq_true rfl) rfl rfl ?_
  refine sF_Po_numberBehind h (fun v1 σ1 h => ?_)
  show Wz E Y_Po_readWho 6 [(0, .ref 17), (1, .int a1)] [.int v1] σ1 K
  refine z_istore_n (f := 2) (i := 2) (pc' := 7) ⟨by decide +kernel, rfl⟩ rfl (by decide) rfl ?_
  show Wz E Y_Po_readWho 7 [(2, .int v1), (0, .ref 17), (1, .int a1)] [] σ1 K
  refine z_aload_n (f := 0) (i := 0) (q := 1) (pc' := 8) ⟨by decide +kernel, rfl⟩ rfl rfl ?_
  refine z_bipush (i := 103) (v := 103) (pc' := 10) ⟨by decide +kernel, rfl⟩ (by decide) ?_
  refine w_invV (Z := Y_Po_numberBehind) (idx := 175) (kb := 17) (As := [.int 103]) (rest := []) (pc' := 13) cl_7_175 rfl ⟨rfl, rfl⟩ ykfa_17_0 rfl ⟨⟨by decide, by decide⟩, rfl, rfl⟩ ⟨by decide +kernel, rfl⟩ rfl rfl (Nat.le_of_ble_eq_true rfl) rfl rfl ?_
  refine sF_Po_numberBehind h (fun v2 σ2 h => ?_)
  show Wz E Y_Po_readWho 13 [(2, .int v1), (0, .ref 17), (1, .int a1)] [.int v2] σ2 K
  refine z_istore_n (f := 3) (i := 3) (pc' := 14) ⟨by decide +kernel, rfl⟩ rfl (by decide) rfl ?_
  show Wz E Y_Po_readWho 14 [(3, .int v2), (2, .int v1), (0, .ref 17), (1, .int a1)] [] σ2 K
  refine z_aload_n (f := 0) (i := 0) (q := 2) (pc' := 15) ⟨by decide +kernel, rfl⟩ rfl rfl ?_
  refine w_getr (k := 17) (j := 3) (idx := 28) (pc' := 18) yfxe_7_28 ykfa_17_3 ⟨by decide +kernel, rfl⟩ ?_
  refine z_iload_n (f := 1) (i := 1) (q := 3) (pc' := 19) ⟨by decide +kernel, rfl⟩ rfl rfl ?_
  refine z_iconst (i := 2) (v := 2) (pc' := 20) ⟨by decide +kernel, rfl⟩ (by decide) ?_
  refine z_iadd (pc' := 21) ⟨by decide +kernel, rfl⟩ ?_
  obtain ⟨hb3, h⟩ := h
  have h := h (a1 + 2) (ia_ok rfl (by decide) hb3)
  generalize (a1 + 2) = r3 at h ⊢
  refine z_iload_n (f := 2) (i := 2) (q := 1) (pc' := 22) ⟨by decide +kernel, rfl⟩ rfl rfl ?_
  refine z_iload_n (f := 3) (i := 3) (q := 0) (pc' := 23) ⟨by decide +kernel, rfl⟩ rfl rfl ?_
  refine w_max (m := 83) (idx := 178) (pc' := 26) rfl (by decide) (by decide +kernel) (by decide) (by decide) (Nat.le_of_ble_eq_true rfl) ⟨by decide +kernel, rfl⟩ ?_
  have h := h (if v1 < v2 then v2 else v1) (ma_okj9 rfl rfl)
  generalize (if v1 < v2 then v2 else v1) = r4 at h ⊢
  obtain ⟨n5, hi5, hz5, h⟩ := h
  refine w_iast (k := 20) (n := n5) (pc' := 27) ykaa_20 (hi5) (hz5) ⟨by decide +kernel, rfl⟩ ?_
  generalize hs6 : zI σ2 20 n5 r4 = σ6
  have h := h σ6 hs6
  refine z_aload_n (f := 0) (i := 0) (q := 2) (pc' := 28) ⟨by decide +kernel, rfl⟩ rfl rfl ?_
  refine z_ldcS (i := 4) (pc' := 30) rfl rfl ⟨by decide +kernel, rfl⟩ ?_
  show Wz E Y_Po_readWho 30 [(3, .int v2), (2, .int v1), (0, .ref 17), (1, .int a1)] (.ref (1000 + 4) :: [.ref 17]) σ6 K
  refine w_invV (Z := Y_Po_isWord) (idx := 158) (kb := 17) (As := [.ref (1000 + 4)]) (rest := []) (pc' := 33) cl_7_158 rfl ⟨rfl, rfl⟩ ykfa_17_0 rfl ⟨⟨by decide, by decide⟩, rfl, rfl⟩ ⟨by decide +kernel, rfl⟩ rfl rfl (Nat.le_of_ble_eq_true rfl) rfl rfl ?_
  refine sF_Po_isWord (by decide) h (fun v7 σ7 h => ?_)
  show Wz E Y_Po_readWho 33 [(3, .int v2), (2, .int v1), (0, .ref 17), (1, .int a1)] [.int v7] σ7 K
  refine z_if_eq (off := 15) (tgt := 48) (pc' := 36) ⟨by decide +kernel, by decide, rfl⟩ (fun h8 => ?_) (fun h8 => ?_)
  · have h := h.1 (qi_eq_t rfl (by decide) h8)
    refine z_aload_n (f := 0) (i := 0) (q := 2) (pc' := 49) ⟨by decide +kernel, rfl⟩ rfl rfl ?_
    refine z_ldcS (i := 5) (pc' := 51) rfl rfl ⟨by decide +kernel, rfl⟩ ?_
    show Wz E Y_Po_readWho 51 [(3, .int v2), (2, .int v1), (0, .ref 17), (1, .int a1)] (.ref (1000 + 5) :: [.ref 17]) σ7 K
    refine w_invV (Z := Y_Po_isWord) (idx := 158) (kb := 17) (As := [.ref (1000 + 5)]) (rest := []) (pc' := 54) cl_7_158 rfl ⟨rfl, rfl⟩ ykfa_17_0 rfl ⟨⟨by decide, by decide⟩, rfl, rfl⟩ ⟨by decide +kernel, rfl⟩ rfl rfl (Nat.le_of_ble_eq_true rfl) rfl rfl ?_
    refine sF_Po_isWord (by decide) h (fun v9 σ9 h => ?_)
    show Wz E Y_Po_readWho 54 [(3, .int v2), (2, .int v1), (0, .ref 17), (1, .int a1)] [.int v9] σ9 K
    refine z_if_eq (off := 15) (tgt := 69) (pc' := 57) ⟨by decide +kernel, by decide, rfl⟩ (fun h10 => ?_) (fun h10 => ?_)
    · have h := h.1 (qi_eq_t rfl (by decide) h10)
      refine z_aload_n (f := 0) (i := 0) (q := 2) (pc' := 70) ⟨by decide +kernel, rfl⟩ rfl rfl ?_
      refine w_getr (k := 17) (j := 6) (idx := 11) (pc' := 73) yfxe_7_11 ykfa_17_6 ⟨by decide +kernel, rfl⟩ ?_
      refine z_iload_n (f := 2) (i := 2) (q := 1) (pc' := 74) ⟨by decide +kernel, rfl⟩ rfl rfl ?_
      refine w_invV (Z := Y_Wh_isPerson) (idx := 187) (kb := 5) (As := [.int v1]) (rest := []) (pc' := 77) cl_7_187 rfl ⟨rfl, rfl⟩ ykfa_5_0 rfl ⟨⟨by decide, by decide⟩, rfl, rfl⟩ ⟨by decide +kernel, rfl⟩ rfl rfl (Nat.le_of_ble_eq_true rfl) rfl rfl ?_
      refine sF_Wh_isPerson h (fun v11 σ11 h => ?_)
      show Wz E Y_Po_readWho 77 [(3, .int v2), (2, .int v1), (0, .ref 17), (1, .int a1)] [.int v11] σ11 K
      refine z_if_eq (off := 15) (tgt := 92) (pc' := 80) ⟨by decide +kernel, by decide, rfl⟩ (fun h12 => ?_) (fun h12 => ?_)
      · have h := h.1 (qi_eq_t rfl (by decide) h12)
        refine z_aload_n (f := 0) (i := 0) (q := 2) (pc' := 93) ⟨by decide +kernel, rfl⟩ rfl rfl ?_
        refine w_getr (k := 17) (j := 6) (idx := 11) (pc' := 96) yfxe_7_11 ykfa_17_6 ⟨by decide +kernel, rfl⟩ ?_
        refine z_iload_n (f := 3) (i := 3) (q := 0) (pc' := 97) ⟨by decide +kernel, rfl⟩ rfl rfl ?_
        refine w_invV (Z := Y_Wh_isGroup) (idx := 192) (kb := 5) (As := [.int v2]) (rest := []) (pc' := 100) cl_7_192 rfl ⟨rfl, rfl⟩ ykfa_5_0 rfl ⟨⟨by decide, by decide⟩, rfl, rfl⟩ ⟨by decide +kernel, rfl⟩ rfl rfl (Nat.le_of_ble_eq_true rfl) rfl rfl ?_
        refine sF_Wh_isGroup h (fun v13 σ13 h => ?_)
        show Wz E Y_Po_readWho 100 [(3, .int v2), (2, .int v1), (0, .ref 17), (1, .int a1)] [.int v13] σ13 K
        refine z_if_eq (off := 15) (tgt := 115) (pc' := 103) ⟨by decide +kernel, by decide, rfl⟩ (fun h14 => ?_) (fun h14 => ?_)
        · have h := h.1 (qi_eq_t rfl (by decide) h14)
          refine z_aload_n (f := 0) (i := 0) (q := 2) (pc' := 116) ⟨by decide +kernel, rfl⟩ rfl rfl ?_
          refine w_invV (Z := Y_Po_fail) (idx := 140) (kb := 17) (As := []) (rest := []) (pc' := 119) cl_7_140 rfl ⟨rfl, rfl⟩ ykfa_17_0 rfl ⟨⟨by decide, by decide⟩, rfl, rfl⟩ ⟨by decide +kernel, rfl⟩ rfl rfl (Nat.le_of_ble_eq_true rfl) rfl rfl ?_
          refine sF_Po_fail h (fun v15 σ15 h => ?_)
          show Wz E Y_Po_readWho 119 [(3, .int v2), (2, .int v1), (0, .ref 17), (1, .int a1)] [.int v15] σ15 K
          obtain ⟨hg16, h⟩ := h
          exact z_iret (ty := .boolean) rfl (j_bool hg16).1 (by decide +kernel) (k _ _ h)
        · have h := h.2 (qi_eq_f rfl (by decide) h14)
          refine z_aload_n (f := 0) (i := 0) (q := 2) (pc' := 104) ⟨by decide +kernel, rfl⟩ rfl rfl ?_
          refine w_getr (k := 17) (j := 3) (idx := 28) (pc' := 107) yfxe_7_28 ykfa_17_3 ⟨by decide +kernel, rfl⟩ ?_
          refine z_iload_n (f := 1) (i := 1) (q := 3) (pc' := 108) ⟨by decide +kernel, rfl⟩ rfl rfl ?_
          refine z_iconst (i := 1) (v := 1) (pc' := 109) ⟨by decide +kernel, rfl⟩ (by decide) ?_
          refine z_iadd (pc' := 110) ⟨by decide +kernel, rfl⟩ ?_
          obtain ⟨hb17, h⟩ := h
          have h := h (a1 + 1) (ia_ok rfl (by decide) hb17)
          generalize (a1 + 1) = r17 at h ⊢
          refine z_iconst (i := 1) (v := 1) (pc' := 111) ⟨by decide +kernel, rfl⟩ (by decide) ?_
          obtain ⟨n18, hi18, hz18, h⟩ := h
          refine w_iast (k := 20) (n := n18) (pc' := 112) ykaa_20 (hi18) (hz18) ⟨by decide +kernel, rfl⟩ ?_
          generalize hs19 : zI σ13 20 n18 1 = σ19
          have h := h σ19 hs19
          refine z_goto (off := 8) (tgt := 120) (pc' := 115) ⟨by decide +kernel, by decide, rfl⟩ ?_
          refine z_aload_n (f := 0) (i := 0) (q := 2) (pc' := 121) ⟨by decide +kernel, rfl⟩ rfl rfl ?_
          refine z_dupr (pc' := 122) ⟨by decide +kernel, rfl⟩ ?_
          refine w_geti (k := 17) (j := 14) (idx := 63) (pc' := 125) yfxe_7_63 ykfa_17_14 ⟨by decide +kernel, rfl⟩ ?_
          refine z_iconst (i := 1) (v := 1) (pc' := 126) ⟨by decide +kernel, rfl⟩ (by decide) ?_
          refine z_iadd (pc' := 127) ⟨by decide +kernel, rfl⟩ ?_
          obtain ⟨hb20, h⟩ := h
          have h := h ((σ19.1 17 14) + 1) (ia_ok rfl (by decide) hb20)
          generalize ((σ19.1 17 14) + 1) = r20 at h ⊢
          refine w_puti (k := 17) (j := 14) (idx := 63) (pc' := 130) yfxi_7_63 ykfa_17_14 ⟨by decide +kernel, rfl⟩ ?_
          generalize hs21 : zI σ19 17 14 r20 = σ21
          have h := h σ21 hs21
          refine z_iconst (i := 1) (v := 1) (pc' := 131) ⟨by decide +kernel, rfl⟩ (by decide) ?_
          exact z_iret (ty := .boolean) rfl (by rfl) (by decide +kernel) (k _ _ h)
      · have h := h.2 (qi_eq_f rfl (by decide) h12)
        refine z_aload_n (f := 0) (i := 0) (q := 2) (pc' := 81) ⟨by decide +kernel, rfl⟩ rfl rfl ?_
        refine w_getr (k := 17) (j := 3) (idx := 28) (pc' := 84) yfxe_7_28 ykfa_17_3 ⟨by decide +kernel, rfl⟩ ?_
        refine z_iload_n (f := 1) (i := 1) (q := 3) (pc' := 85) ⟨by decide +kernel, rfl⟩ rfl rfl ?_
        refine z_iconst (i := 1) (v := 1) (pc' := 86) ⟨by decide +kernel, rfl⟩ (by decide) ?_
        refine z_iadd (pc' := 87) ⟨by decide +kernel, rfl⟩ ?_
        obtain ⟨hb22, h⟩ := h
        have h := h (a1 + 1) (ia_ok rfl (by decide) hb22)
        generalize (a1 + 1) = r22 at h ⊢
        refine z_iconst (i := 3) (v := 3) (pc' := 88) ⟨by decide +kernel, rfl⟩ (by decide) ?_
        obtain ⟨n23, hi23, hz23, h⟩ := h
        refine w_iast (k := 20) (n := n23) (pc' := 89) ykaa_20 (hi23) (hz23) ⟨by decide +kernel, rfl⟩ ?_
        generalize hs24 : zI σ11 20 n23 3 = σ24
        have h := h σ24 hs24
        refine z_goto (off := 31) (tgt := 120) (pc' := 92) ⟨by decide +kernel, by decide, rfl⟩ ?_
        refine z_aload_n (f := 0) (i := 0) (q := 2) (pc' := 121) ⟨by decide +kernel, rfl⟩ rfl rfl ?_
        refine z_dupr (pc' := 122) ⟨by decide +kernel, rfl⟩ ?_
        refine w_geti (k := 17) (j := 14) (idx := 63) (pc' := 125) yfxe_7_63 ykfa_17_14 ⟨by decide +kernel, rfl⟩ ?_
        refine z_iconst (i := 1) (v := 1) (pc' := 126) ⟨by decide +kernel, rfl⟩ (by decide) ?_
        refine z_iadd (pc' := 127) ⟨by decide +kernel, rfl⟩ ?_
        obtain ⟨hb25, h⟩ := h
        have h := h ((σ24.1 17 14) + 1) (ia_ok rfl (by decide) hb25)
        generalize ((σ24.1 17 14) + 1) = r25 at h ⊢
        refine w_puti (k := 17) (j := 14) (idx := 63) (pc' := 130) yfxi_7_63 ykfa_17_14 ⟨by decide +kernel, rfl⟩ ?_
        generalize hs26 : zI σ24 17 14 r25 = σ26
        have h := h σ26 hs26
        refine z_iconst (i := 1) (v := 1) (pc' := 131) ⟨by decide +kernel, rfl⟩ (by decide) ?_
        exact z_iret (ty := .boolean) rfl (by rfl) (by decide +kernel) (k _ _ h)
    · have h := h.2 (qi_eq_f rfl (by decide) h10)
      refine z_aload_n (f := 0) (i := 0) (q := 2) (pc' := 58) ⟨by decide +kernel, rfl⟩ rfl rfl ?_
      refine w_getr (k := 17) (j := 3) (idx := 28) (pc' := 61) yfxe_7_28 ykfa_17_3 ⟨by decide +kernel, rfl⟩ ?_
      refine z_iload_n (f := 1) (i := 1) (q := 3) (pc' := 62) ⟨by decide +kernel, rfl⟩ rfl rfl ?_
      refine z_iconst (i := 1) (v := 1) (pc' := 63) ⟨by decide +kernel, rfl⟩ (by decide) ?_
      refine z_iadd (pc' := 64) ⟨by decide +kernel, rfl⟩ ?_
      obtain ⟨hb27, h⟩ := h
      have h := h (a1 + 1) (ia_ok rfl (by decide) hb27)
      generalize (a1 + 1) = r27 at h ⊢
      refine z_iconst (i := 2) (v := 2) (pc' := 65) ⟨by decide +kernel, rfl⟩ (by decide) ?_
      obtain ⟨n28, hi28, hz28, h⟩ := h
      refine w_iast (k := 20) (n := n28) (pc' := 66) ykaa_20 (hi28) (hz28) ⟨by decide +kernel, rfl⟩ ?_
      generalize hs29 : zI σ9 20 n28 2 = σ29
      have h := h σ29 hs29
      refine z_goto (off := 54) (tgt := 120) (pc' := 69) ⟨by decide +kernel, by decide, rfl⟩ ?_
      refine z_aload_n (f := 0) (i := 0) (q := 2) (pc' := 121) ⟨by decide +kernel, rfl⟩ rfl rfl ?_
      refine z_dupr (pc' := 122) ⟨by decide +kernel, rfl⟩ ?_
      refine w_geti (k := 17) (j := 14) (idx := 63) (pc' := 125) yfxe_7_63 ykfa_17_14 ⟨by decide +kernel, rfl⟩ ?_
      refine z_iconst (i := 1) (v := 1) (pc' := 126) ⟨by decide +kernel, rfl⟩ (by decide) ?_
      refine z_iadd (pc' := 127) ⟨by decide +kernel, rfl⟩ ?_
      obtain ⟨hb30, h⟩ := h
      have h := h ((σ29.1 17 14) + 1) (ia_ok rfl (by decide) hb30)
      generalize ((σ29.1 17 14) + 1) = r30 at h ⊢
      refine w_puti (k := 17) (j := 14) (idx := 63) (pc' := 130) yfxi_7_63 ykfa_17_14 ⟨by decide +kernel, rfl⟩ ?_
      generalize hs31 : zI σ29 17 14 r30 = σ31
      have h := h σ31 hs31
      refine z_iconst (i := 1) (v := 1) (pc' := 131) ⟨by decide +kernel, rfl⟩ (by decide) ?_
      exact z_iret (ty := .boolean) rfl (by rfl) (by decide +kernel) (k _ _ h)
  · have h := h.2 (qi_eq_f rfl (by decide) h8)
    refine z_aload_n (f := 0) (i := 0) (q := 2) (pc' := 37) ⟨by decide +kernel, rfl⟩ rfl rfl ?_
    refine w_getr (k := 17) (j := 3) (idx := 28) (pc' := 40) yfxe_7_28 ykfa_17_3 ⟨by decide +kernel, rfl⟩ ?_
    refine z_iload_n (f := 1) (i := 1) (q := 3) (pc' := 41) ⟨by decide +kernel, rfl⟩ rfl rfl ?_
    refine z_iconst (i := 1) (v := 1) (pc' := 42) ⟨by decide +kernel, rfl⟩ (by decide) ?_
    refine z_iadd (pc' := 43) ⟨by decide +kernel, rfl⟩ ?_
    obtain ⟨hb32, h⟩ := h
    have h := h (a1 + 1) (ia_ok rfl (by decide) hb32)
    generalize (a1 + 1) = r32 at h ⊢
    refine z_iconst (i := 0) (v := 0) (pc' := 44) ⟨by decide +kernel, rfl⟩ (by decide) ?_
    obtain ⟨n33, hi33, hz33, h⟩ := h
    refine w_iast (k := 20) (n := n33) (pc' := 45) ykaa_20 (hi33) (hz33) ⟨by decide +kernel, rfl⟩ ?_
    generalize hs34 : zI σ7 20 n33 0 = σ34
    have h := h σ34 hs34
    refine z_goto (off := 75) (tgt := 120) (pc' := 48) ⟨by decide +kernel, by decide, rfl⟩ ?_
    refine z_aload_n (f := 0) (i := 0) (q := 2) (pc' := 121) ⟨by decide +kernel, rfl⟩ rfl rfl ?_
    refine z_dupr (pc' := 122) ⟨by decide +kernel, rfl⟩ ?_
    refine w_geti (k := 17) (j := 14) (idx := 63) (pc' := 125) yfxe_7_63 ykfa_17_14 ⟨by decide +kernel, rfl⟩ ?_
    refine z_iconst (i := 1) (v := 1) (pc' := 126) ⟨by decide +kernel, rfl⟩ (by decide) ?_
    refine z_iadd (pc' := 127) ⟨by decide +kernel, rfl⟩ ?_
    obtain ⟨hb35, h⟩ := h
    have h := h ((σ34.1 17 14) + 1) (ia_ok rfl (by decide) hb35)
    generalize ((σ34.1 17 14) + 1) = r35 at h ⊢
    refine w_puti (k := 17) (j := 14) (idx := 63) (pc' := 130) yfxi_7_63 ykfa_17_14 ⟨by decide +kernel, rfl⟩ ?_
    generalize hs36 : zI σ34 17 14 r35 = σ36
    have h := h σ36 hs36
    refine z_iconst (i := 1) (v := 1) (pc' := 131) ⟨by decide +kernel, rfl⟩ (by decide) ?_
    exact z_iret (ty := .boolean) rfl (by rfl) (by decide +kernel) (k _ _ h)
noncomputable def W_Po_readAct (a1 : Int32) (σ : zS) (Q : Int32 → zS → Prop) : Prop := W_Po_isWord 6 σ (fun v1 σ1 => ((Int32.toInt v1) = 0 → (W_Po_oneLetter  σ1 (fun v3 σ3 => W_JS_indexOf_0 7 v3 σ3 (fun v4 σ4 => (0 ≤ (Int32.toInt v4) → ((-2147483648 ≤ (Int32.toInt a1) + 3 ∧ (Int32.toInt a1) + 3 ≤ 2147483647) ∧ ∀ r6 : Int32, r6.toInt = (Int32.toInt a1) + 3 → (∃ n7 : Nat, Int32.toInt r6 = (n7 : Int) ∧ n7 < 2160 ∧ (∀ σ8 : zS, zI σ4 20 n7 v4 = σ8 → ((-2147483648 ≤ (Int32.toInt (σ8.1 17 14)) + 1 ∧ (Int32.toInt (σ8.1 17 14)) + 1 ≤ 2147483647) ∧ ∀ r9 : Int32, r9.toInt = (Int32.toInt (σ8.1 17 14)) + 1 → (∀ σ10 : zS, zI σ8 17 14 r9 = σ10 → (Q 1 σ10))))))) ∧ (¬ 0 ≤ (Int32.toInt v4) → (W_Po_fail  σ4 (fun v11 σ11 => (v11 = 0 ∨ v11 = 1) ∧ (Q v11 σ11)))))))) ∧ (¬ (Int32.toInt v1) = 0 → ((-2147483648 ≤ (Int32.toInt a1) + 3 ∧ (Int32.toInt a1) + 3 ≤ 2147483647) ∧ ∀ r13 : Int32, r13.toInt = (Int32.toInt a1) + 3 → (∃ n14 : Nat, Int32.toInt r13 = (n14 : Int) ∧ n14 < 2160 ∧ (∀ σ15 : zS, zI σ1 20 n14 6 = σ15 → ((-2147483648 ≤ (Int32.toInt (σ15.1 17 14)) + 1 ∧ (Int32.toInt (σ15.1 17 14)) + 1 ≤ 2147483647) ∧ ∀ r16 : Int32, r16.toInt = (Int32.toInt (σ15.1 17 14)) + 1 → (∀ σ17 : zS, zI σ15 17 14 r16 = σ17 → (Q 1 σ17))))))))
theorem sF_Po_readAct {E : xV} {σ : zS} {K : zKt} {a1 : Int32} {Q : Int32 → zS → Prop} (h : W_Po_readAct a1 σ Q) (k : ∀ v s, Q v s → K (some (.int v)) s) : Cz E Y_Po_readAct [.ref 17, .int a1] σ K := by
  refine z_entry (by decide) (fun a => by rw [sl_len]; exact Nat.le_of_ble_eq_true rfl) rfl ?_
  unfold W_Po_readAct at h
  refine z_aload_n (f := 0) (i := 0) (q := 0) (pc' := 1) ⟨by decide +kernel, rfl⟩ rfl rfl ?_
  refine z_ldcS (i := 6) (pc' := 3) rfl rfl ⟨by decide +kernel, rfl⟩ ?_
  show Wz E Y_Po_readAct 3 [(0, .ref 17), (1, .int a1)] (.ref (1000 + 6) :: [.ref 17]) σ K
  refine w_invV (Z := Y_Po_isWord) (idx := 158) (kb := 17) (As := [.ref (1000 + 6)]) (rest := []) (pc' := 6) cl_7_158 rfl ⟨rfl, rfl⟩ ykfa_17_0 rfl ⟨⟨by decide, by decide⟩, rfl, rfl⟩ ⟨by decide +kernel, rfl⟩ rfl rfl (Nat.le_of_ble_eq_true rfl) rfl rfl ?_
  refine sF_Po_isWord (by decide) h (fun v1 σ1 h => ?_)
  show Wz E Y_Po_readAct 6 [(0, .ref 17), (1, .int a1)] [.int v1] σ1 K
  refine z_if_eq (off := 25) (tgt := 31) (pc' := 9) ⟨by decide +kernel, by decide, rfl⟩ (fun h2 => ?_) (fun h2 => ?_)
  · have h := h.1 (qi_eq_t rfl (by decide) h2)
    refine z_ldcS (i := 7) (pc' := 33) rfl rfl ⟨by decide +kernel, rfl⟩ ?_
    show Wz E Y_Po_readAct 33 [(0, .ref 17), (1, .int a1)] (.ref (1000 + 7) :: []) σ1 K
    refine z_aload_n (f := 0) (i := 0) (q := 0) (pc' := 34) ⟨by decide +kernel, rfl⟩ rfl rfl ?_
    refine w_invV (Z := Y_Po_oneLetter) (idx := 199) (kb := 17) (As := []) (rest := [.ref (1000 + 7)]) (pc' := 37) cl_7_199 rfl ⟨rfl, rfl⟩ ykfa_17_0 rfl ⟨⟨by decide, by decide⟩, rfl, rfl⟩ ⟨by decide +kernel, rfl⟩ rfl rfl (Nat.le_of_ble_eq_true rfl) rfl (by simp only [List.all_cons, List.all_nil, xk1, xk2]; rfl) ?_
    refine sF_Po_oneLetter h (fun v3 σ3 h => ?_)
    show Wz E Y_Po_readAct 37 [(0, .ref 17), (1, .int a1)] [.int v3, .ref (1000 + 7)] σ3 K
    refine w_invVS (Z := Y_JS_indexOf_0) (idx := 111) (i := 7) (As := [.int v3]) (rest := []) (pc' := 40) cl_7_111 rfl ⟨rfl, rfl⟩ (by decide) rfl ⟨⟨by decide, by decide⟩, rfl, rfl⟩ ⟨by decide +kernel, rfl⟩ rfl rfl (Nat.le_of_ble_eq_true rfl) rfl rfl ?_
    refine sF_JS_indexOf_0 (by decide) h (fun v4 σ4 h => ?_)
    show Wz E Y_Po_readAct 40 [(0, .ref 17), (1, .int a1)] [.int v4] σ4 K
    refine z_istore_n (f := 2) (i := 2) (pc' := 41) ⟨by decide +kernel, rfl⟩ rfl (by decide) rfl ?_
    show Wz E Y_Po_readAct 41 [(2, .int v4), (0, .ref 17), (1, .int a1)] [] σ4 K
    refine z_iload_n (f := 2) (i := 2) (q := 0) (pc' := 42) ⟨by decide +kernel, rfl⟩ rfl rfl ?_
    refine z_if_ge (off := 8) (tgt := 50) (pc' := 45) ⟨by decide +kernel, by decide, rfl⟩ (fun h5 => ?_) (fun h5 => ?_)
    · have h := h.1 (qi_ge_t rfl (by decide) h5)
      refine z_aload_n (f := 0) (i := 0) (q := 1) (pc' := 51) ⟨by decide +kernel, rfl⟩ rfl rfl ?_
      refine w_getr (k := 17) (j := 3) (idx := 28) (pc' := 54) yfxe_7_28 ykfa_17_3 ⟨by decide +kernel, rfl⟩ ?_
      refine z_iload_n (f := 1) (i := 1) (q := 2) (pc' := 55) ⟨by decide +kernel, rfl⟩ rfl rfl ?_
      refine z_iconst (i := 3) (v := 3) (pc' := 56) ⟨by decide +kernel, rfl⟩ (by decide) ?_
      refine z_iadd (pc' := 57) ⟨by decide +kernel, rfl⟩ ?_
      obtain ⟨hb6, h⟩ := h
      have h := h (a1 + 3) (ia_ok rfl (by decide) hb6)
      generalize (a1 + 3) = r6 at h ⊢
      refine z_iload_n (f := 2) (i := 2) (q := 0) (pc' := 58) ⟨by decide +kernel, rfl⟩ rfl rfl ?_
      obtain ⟨n7, hi7, hz7, h⟩ := h
      refine w_iast (k := 20) (n := n7) (pc' := 59) ykaa_20 (hi7) (hz7) ⟨by decide +kernel, rfl⟩ ?_
      generalize hs8 : zI σ4 20 n7 v4 = σ8
      have h := h σ8 hs8
      refine z_aload_n (f := 0) (i := 0) (q := 1) (pc' := 60) ⟨by decide +kernel, rfl⟩ rfl rfl ?_
      refine z_dupr (pc' := 61) ⟨by decide +kernel, rfl⟩ ?_
      refine w_geti (k := 17) (j := 14) (idx := 63) (pc' := 64) yfxe_7_63 ykfa_17_14 ⟨by decide +kernel, rfl⟩ ?_
      refine z_iconst (i := 1) (v := 1) (pc' := 65) ⟨by decide +kernel, rfl⟩ (by decide) ?_
      refine z_iadd (pc' := 66) ⟨by decide +kernel, rfl⟩ ?_
      obtain ⟨hb9, h⟩ := h
      have h := h ((σ8.1 17 14) + 1) (ia_ok rfl (by decide) hb9)
      generalize ((σ8.1 17 14) + 1) = r9 at h ⊢
      refine w_puti (k := 17) (j := 14) (idx := 63) (pc' := 69) yfxi_7_63 ykfa_17_14 ⟨by decide +kernel, rfl⟩ ?_
      generalize hs10 : zI σ8 17 14 r9 = σ10
      have h := h σ10 hs10
      refine z_iconst (i := 1) (v := 1) (pc' := 70) ⟨by decide +kernel, rfl⟩ (by decide) ?_
      exact z_iret (ty := .boolean) rfl (by rfl) (by decide +kernel) (k _ _ h)
    · have h := h.2 (qi_ge_f rfl (by decide) h5)
      refine z_aload_n (f := 0) (i := 0) (q := 1) (pc' := 46) ⟨by decide +kernel, rfl⟩ rfl rfl ?_
      refine w_invV (Z := Y_Po_fail) (idx := 140) (kb := 17) (As := []) (rest := []) (pc' := 49) cl_7_140 rfl ⟨rfl, rfl⟩ ykfa_17_0 rfl ⟨⟨by decide, by decide⟩, rfl, rfl⟩ ⟨by decide +kernel, rfl⟩ rfl rfl (Nat.le_of_ble_eq_true rfl) rfl rfl ?_
      refine sF_Po_fail h (fun v11 σ11 h => ?_)
      show Wz E Y_Po_readAct 49 [(2, .int v4), (0, .ref 17), (1, .int a1)] [.int v11] σ11 K
      obtain ⟨hg12, h⟩ := h
      exact z_iret (ty := .boolean) rfl (j_bool hg12).1 (by decide +kernel) (k _ _ h)
  · have h := h.2 (qi_eq_f rfl (by decide) h2)
    refine z_aload_n (f := 0) (i := 0) (q := 0) (pc' := 10) ⟨by decide +kernel, rfl⟩ rfl rfl ?_
    refine w_getr (k := 17) (j := 3) (idx := 28) (pc' := 13) yfxe_7_28 ykfa_17_3 ⟨by decide +kernel, rfl⟩ ?_
    refine z_iload_n (f := 1) (i := 1) (q := 1) (pc' := 14) ⟨by decide +kernel, rfl⟩ rfl rfl ?_
    refine z_iconst (i := 3) (v := 3) (pc' := 15) ⟨by decide +kernel, rfl⟩ (by decide) ?_
    refine z_iadd (pc' := 16) ⟨by decide +kernel, rfl⟩ ?_
    obtain ⟨hb13, h⟩ := h
    have h := h (a1 + 3) (ia_ok rfl (by decide) hb13)
    generalize (a1 + 3) = r13 at h ⊢
    refine z_bipush (i := 6) (v := 6) (pc' := 18) ⟨by decide +kernel, rfl⟩ (by decide) ?_
    obtain ⟨n14, hi14, hz14, h⟩ := h
    refine w_iast (k := 20) (n := n14) (pc' := 19) ykaa_20 (hi14) (hz14) ⟨by decide +kernel, rfl⟩ ?_
    generalize hs15 : zI σ1 20 n14 6 = σ15
    have h := h σ15 hs15
    refine z_aload_n (f := 0) (i := 0) (q := 0) (pc' := 20) ⟨by decide +kernel, rfl⟩ rfl rfl ?_
    refine z_dupr (pc' := 21) ⟨by decide +kernel, rfl⟩ ?_
    refine w_geti (k := 17) (j := 14) (idx := 63) (pc' := 24) yfxe_7_63 ykfa_17_14 ⟨by decide +kernel, rfl⟩ ?_
    refine z_iconst (i := 1) (v := 1) (pc' := 25) ⟨by decide +kernel, rfl⟩ (by decide) ?_
    refine z_iadd (pc' := 26) ⟨by decide +kernel, rfl⟩ ?_
    obtain ⟨hb16, h⟩ := h
    have h := h ((σ15.1 17 14) + 1) (ia_ok rfl (by decide) hb16)
    generalize ((σ15.1 17 14) + 1) = r16 at h ⊢
    refine w_puti (k := 17) (j := 14) (idx := 63) (pc' := 29) yfxi_7_63 ykfa_17_14 ⟨by decide +kernel, rfl⟩ ?_
    generalize hs17 : zI σ15 17 14 r16 = σ17
    have h := h σ17 hs17
    refine z_iconst (i := 1) (v := 1) (pc' := 30) ⟨by decide +kernel, rfl⟩ (by decide) ?_
    exact z_iret (ty := .boolean) rfl (by rfl) (by decide +kernel) (k _ _ h)
noncomputable def W_Po_readThing (a1 : Int32) (σ : zS) (Q : Int32 → zS → Prop) : Prop := W_Po_isWord 4 σ (fun v1 σ1 => ((Int32.toInt v1) = 0 → (W_Po_numberBehind 116 σ1 (fun v3 σ3 => W_Th_isThere v3 σ3 (fun v4 σ4 => ((Int32.toInt v4) = 0 → (W_Po_fail  σ4 (fun v21 σ21 => (v21 = 0 ∨ v21 = 1) ∧ (Q v21 σ21)))) ∧ (¬ (Int32.toInt v4) = 0 → ((-2147483648 ≤ (Int32.toInt (σ4.1 17 14)) + 1 ∧ (Int32.toInt (σ4.1 17 14)) + 1 ≤ 2147483647) ∧ ∀ r6 : Int32, r6.toInt = (Int32.toInt (σ4.1 17 14)) + 1 → (∀ σ7 : zS, zI σ4 17 14 r6 = σ7 → ((-2147483648 ≤ (Int32.toInt a1) + 5 ∧ (Int32.toInt a1) + 5 ≤ 2147483647) ∧ ∀ r8 : Int32, r8.toInt = (Int32.toInt a1) + 5 → (∃ n9 : Nat, Int32.toInt r8 = (n9 : Int) ∧ n9 < 2160 ∧ (∀ σ10 : zS, zI σ7 20 n9 v3 = σ10 → ((-2147483648 ≤ (Int32.toInt a1) + 4 ∧ (Int32.toInt a1) + 4 ≤ 2147483647) ∧ ∀ r11 : Int32, r11.toInt = (Int32.toInt a1) + 4 → (∃ n12 : Nat, Int32.toInt r11 = (n12 : Int) ∧ n12 < 2160 ∧ (∀ σ13 : zS, zI σ10 20 n12 2 = σ13 → (W_Po_isSign 47 σ13 (fun v14 σ14 => ((Int32.toInt v14) = 0 → (Q 1 σ14)) ∧ (¬ (Int32.toInt v14) = 0 → ((-2147483648 ≤ (Int32.toInt (σ14.1 17 14)) + 1 ∧ (Int32.toInt (σ14.1 17 14)) + 1 ≤ 2147483647) ∧ ∀ r16 : Int32, r16.toInt = (Int32.toInt (σ14.1 17 14)) + 1 → (∀ σ17 : zS, zI σ14 17 14 r16 = σ17 → ((-2147483648 ≤ (Int32.toInt a1) + 4 ∧ (Int32.toInt a1) + 4 ≤ 2147483647) ∧ ∀ r18 : Int32, r18.toInt = (Int32.toInt a1) + 4 → (∃ n19 : Nat, Int32.toInt r18 = (n19 : Int) ∧ n19 < 2160 ∧ (∀ σ20 : zS, zI σ17 20 n19 1 = σ20 → (Q 1 σ20)))))))))))))))))))))) ∧ (¬ (Int32.toInt v1) = 0 → ((-2147483648 ≤ (Int32.toInt a1) + 4 ∧ (Int32.toInt a1) + 4 ≤ 2147483647) ∧ ∀ r23 : Int32, r23.toInt = (Int32.toInt a1) + 4 → (∃ n24 : Nat, Int32.toInt r23 = (n24 : Int) ∧ n24 < 2160 ∧ (∀ σ25 : zS, zI σ1 20 n24 0 = σ25 → ((-2147483648 ≤ (Int32.toInt (σ25.1 17 14)) + 1 ∧ (Int32.toInt (σ25.1 17 14)) + 1 ≤ 2147483647) ∧ ∀ r26 : Int32, r26.toInt = (Int32.toInt (σ25.1 17 14)) + 1 → (∀ σ27 : zS, zI σ25 17 14 r26 = σ27 → (Q 1 σ27))))))))
theorem sF_Po_readThing {E : xV} {σ : zS} {K : zKt} {a1 : Int32} {Q : Int32 → zS → Prop} (h : W_Po_readThing a1 σ Q) (k : ∀ v s, Q v s → K (some (.int v)) s) : Cz E Y_Po_readThing [.ref 17, .int a1] σ K := by
  refine z_entry (by decide) (fun a => by rw [sl_len]; exact Nat.le_of_ble_eq_true rfl) rfl ?_
  unfold W_Po_readThing at h
  refine z_aload_n (f := 0) (i := 0) (q := 0) (pc' := 1) ⟨by decide +kernel, rfl⟩ rfl rfl ?_
  refine z_ldcS (i := 4) (pc' := 3) rfl rfl ⟨by decide +kernel, rfl⟩ ?_
  show Wz E Y_Po_readThing 3 [(0, .ref 17), (1, .int a1)] (.ref (1000 + 4) :: [.ref 17]) σ K
  refine w_invV (Z := Y_Po_isWord) (idx := 158) (kb := 17) (As := [.ref (1000 + 4)]) (rest := []) (pc' := 6) cl_7_158 rfl ⟨rfl, rfl⟩ ykfa_17_0 rfl ⟨⟨by decide, by decide⟩, rfl, rfl⟩ ⟨by decide +kernel, rfl⟩ rfl rfl (Nat.le_of_ble_eq_true rfl) rfl rfl ?_
  refine sF_Po_isWord (by decide) h (fun v1 σ1 h => ?_)
  show Wz E Y_Po_readThing 6 [(0, .ref 17), (1, .int a1)] [.int v1] σ1 K
  refine z_if_eq (off := 24) (tgt := 30) (pc' := 9) ⟨by decide +kernel, by decide, rfl⟩ (fun h2 => ?_) (fun h2 => ?_)
  · have h := h.1 (qi_eq_t rfl (by decide) h2)
    refine z_aload_n (f := 0) (i := 0) (q := 0) (pc' := 31) ⟨by decide +kernel, rfl⟩ rfl rfl ?_
    refine z_bipush (i := 116) (v := 116) (pc' := 33) ⟨by decide +kernel, rfl⟩ (by decide) ?_
    refine w_invV (Z := Y_Po_numberBehind) (idx := 175) (kb := 17) (As := [.int 116]) (rest := []) (pc' := 36) cl_7_175 rfl ⟨rfl, rfl⟩ ykfa_17_0 rfl ⟨⟨by decide, by decide⟩, rfl, rfl⟩ ⟨by decide +kernel, rfl⟩ rfl rfl (Nat.le_of_ble_eq_true rfl) rfl rfl ?_
    refine sF_Po_numberBehind h (fun v3 σ3 h => ?_)
    show Wz E Y_Po_readThing 36 [(0, .ref 17), (1, .int a1)] [.int v3] σ3 K
    refine z_istore_n (f := 2) (i := 2) (pc' := 37) ⟨by decide +kernel, rfl⟩ rfl (by decide) rfl ?_
    show Wz E Y_Po_readThing 37 [(2, .int v3), (0, .ref 17), (1, .int a1)] [] σ3 K
    refine z_aload_n (f := 0) (i := 0) (q := 1) (pc' := 38) ⟨by decide +kernel, rfl⟩ rfl rfl ?_
    refine w_getr (k := 17) (j := 7) (idx := 17) (pc' := 41) yfxe_7_17 ykfa_17_7 ⟨by decide +kernel, rfl⟩ ?_
    refine z_iload_n (f := 2) (i := 2) (q := 0) (pc' := 42) ⟨by decide +kernel, rfl⟩ rfl rfl ?_
    refine w_invV (Z := Y_Th_isThere) (idx := 203) (kb := 10) (As := [.int v3]) (rest := []) (pc' := 45) cl_7_203 rfl ⟨rfl, rfl⟩ ykfa_10_0 rfl ⟨⟨by decide, by decide⟩, rfl, rfl⟩ ⟨by decide +kernel, rfl⟩ rfl rfl (Nat.le_of_ble_eq_true rfl) rfl rfl ?_
    refine sF_Th_isThere h (fun v4 σ4 h => ?_)
    show Wz E Y_Po_readThing 45 [(2, .int v3), (0, .ref 17), (1, .int a1)] [.int v4] σ4 K
    refine z_if_ne (off := 8) (tgt := 53) (pc' := 48) ⟨by decide +kernel, by decide, rfl⟩ (fun h5 => ?_) (fun h5 => ?_)
    · have h := h.2 (qi_ne_t rfl (by decide) h5)
      refine z_aload_n (f := 0) (i := 0) (q := 1) (pc' := 54) ⟨by decide +kernel, rfl⟩ rfl rfl ?_
      refine z_dupr (pc' := 55) ⟨by decide +kernel, rfl⟩ ?_
      refine w_geti (k := 17) (j := 14) (idx := 63) (pc' := 58) yfxe_7_63 ykfa_17_14 ⟨by decide +kernel, rfl⟩ ?_
      refine z_iconst (i := 1) (v := 1) (pc' := 59) ⟨by decide +kernel, rfl⟩ (by decide) ?_
      refine z_iadd (pc' := 60) ⟨by decide +kernel, rfl⟩ ?_
      obtain ⟨hb6, h⟩ := h
      have h := h ((σ4.1 17 14) + 1) (ia_ok rfl (by decide) hb6)
      generalize ((σ4.1 17 14) + 1) = r6 at h ⊢
      refine w_puti (k := 17) (j := 14) (idx := 63) (pc' := 63) yfxi_7_63 ykfa_17_14 ⟨by decide +kernel, rfl⟩ ?_
      generalize hs7 : zI σ4 17 14 r6 = σ7
      have h := h σ7 hs7
      refine z_aload_n (f := 0) (i := 0) (q := 1) (pc' := 64) ⟨by decide +kernel, rfl⟩ rfl rfl ?_
      refine w_getr (k := 17) (j := 3) (idx := 28) (pc' := 67) yfxe_7_28 ykfa_17_3 ⟨by decide +kernel, rfl⟩ ?_
      refine z_iload_n (f := 1) (i := 1) (q := 2) (pc' := 68) ⟨by decide +kernel, rfl⟩ rfl rfl ?_
      refine z_iconst (i := 5) (v := 5) (pc' := 69) ⟨by decide +kernel, rfl⟩ (by decide) ?_
      refine z_iadd (pc' := 70) ⟨by decide +kernel, rfl⟩ ?_
      obtain ⟨hb8, h⟩ := h
      have h := h (a1 + 5) (ia_ok rfl (by decide) hb8)
      generalize (a1 + 5) = r8 at h ⊢
      refine z_iload_n (f := 2) (i := 2) (q := 0) (pc' := 71) ⟨by decide +kernel, rfl⟩ rfl rfl ?_
      obtain ⟨n9, hi9, hz9, h⟩ := h
      refine w_iast (k := 20) (n := n9) (pc' := 72) ykaa_20 (hi9) (hz9) ⟨by decide +kernel, rfl⟩ ?_
      generalize hs10 : zI σ7 20 n9 v3 = σ10
      have h := h σ10 hs10
      refine z_aload_n (f := 0) (i := 0) (q := 1) (pc' := 73) ⟨by decide +kernel, rfl⟩ rfl rfl ?_
      refine w_getr (k := 17) (j := 3) (idx := 28) (pc' := 76) yfxe_7_28 ykfa_17_3 ⟨by decide +kernel, rfl⟩ ?_
      refine z_iload_n (f := 1) (i := 1) (q := 2) (pc' := 77) ⟨by decide +kernel, rfl⟩ rfl rfl ?_
      refine z_iconst (i := 4) (v := 4) (pc' := 78) ⟨by decide +kernel, rfl⟩ (by decide) ?_
      refine z_iadd (pc' := 79) ⟨by decide +kernel, rfl⟩ ?_
      obtain ⟨hb11, h⟩ := h
      have h := h (a1 + 4) (ia_ok rfl (by decide) hb11)
      generalize (a1 + 4) = r11 at h ⊢
      refine z_iconst (i := 2) (v := 2) (pc' := 80) ⟨by decide +kernel, rfl⟩ (by decide) ?_
      obtain ⟨n12, hi12, hz12, h⟩ := h
      refine w_iast (k := 20) (n := n12) (pc' := 81) ykaa_20 (hi12) (hz12) ⟨by decide +kernel, rfl⟩ ?_
      generalize hs13 : zI σ10 20 n12 2 = σ13
      have h := h σ13 hs13
      refine z_aload_n (f := 0) (i := 0) (q := 1) (pc' := 82) ⟨by decide +kernel, rfl⟩ rfl rfl ?_
      refine z_bipush (i := 47) (v := 47) (pc' := 84) ⟨by decide +kernel, rfl⟩ (by decide) ?_
      refine w_invV (Z := Y_Po_isSign) (idx := 137) (kb := 17) (As := [.int 47]) (rest := []) (pc' := 87) cl_7_137 rfl ⟨rfl, rfl⟩ ykfa_17_0 rfl ⟨⟨by decide, by decide⟩, rfl, rfl⟩ ⟨by decide +kernel, rfl⟩ rfl rfl (Nat.le_of_ble_eq_true rfl) rfl rfl ?_
      refine sF_Po_isSign h (fun v14 σ14 h => ?_)
      show Wz E Y_Po_readThing 87 [(2, .int v3), (0, .ref 17), (1, .int a1)] [.int v14] σ14 K
      refine z_if_eq (off := 22) (tgt := 109) (pc' := 90) ⟨by decide +kernel, by decide, rfl⟩ (fun h15 => ?_) (fun h15 => ?_)
      · have h := h.1 (qi_eq_t rfl (by decide) h15)
        refine z_iconst (i := 1) (v := 1) (pc' := 110) ⟨by decide +kernel, rfl⟩ (by decide) ?_
        exact z_iret (ty := .boolean) rfl (by rfl) (by decide +kernel) (k _ _ h)
      · have h := h.2 (qi_eq_f rfl (by decide) h15)
        refine z_aload_n (f := 0) (i := 0) (q := 1) (pc' := 91) ⟨by decide +kernel, rfl⟩ rfl rfl ?_
        refine z_dupr (pc' := 92) ⟨by decide +kernel, rfl⟩ ?_
        refine w_geti (k := 17) (j := 14) (idx := 63) (pc' := 95) yfxe_7_63 ykfa_17_14 ⟨by decide +kernel, rfl⟩ ?_
        refine z_iconst (i := 1) (v := 1) (pc' := 96) ⟨by decide +kernel, rfl⟩ (by decide) ?_
        refine z_iadd (pc' := 97) ⟨by decide +kernel, rfl⟩ ?_
        obtain ⟨hb16, h⟩ := h
        have h := h ((σ14.1 17 14) + 1) (ia_ok rfl (by decide) hb16)
        generalize ((σ14.1 17 14) + 1) = r16 at h ⊢
        refine w_puti (k := 17) (j := 14) (idx := 63) (pc' := 100) yfxi_7_63 ykfa_17_14 ⟨by decide +kernel, rfl⟩ ?_
        generalize hs17 : zI σ14 17 14 r16 = σ17
        have h := h σ17 hs17
        refine z_aload_n (f := 0) (i := 0) (q := 1) (pc' := 101) ⟨by decide +kernel, rfl⟩ rfl rfl ?_
        refine w_getr (k := 17) (j := 3) (idx := 28) (pc' := 104) yfxe_7_28 ykfa_17_3 ⟨by decide +kernel, rfl⟩ ?_
        refine z_iload_n (f := 1) (i := 1) (q := 2) (pc' := 105) ⟨by decide +kernel, rfl⟩ rfl rfl ?_
        refine z_iconst (i := 4) (v := 4) (pc' := 106) ⟨by decide +kernel, rfl⟩ (by decide) ?_
        refine z_iadd (pc' := 107) ⟨by decide +kernel, rfl⟩ ?_
        obtain ⟨hb18, h⟩ := h
        have h := h (a1 + 4) (ia_ok rfl (by decide) hb18)
        generalize (a1 + 4) = r18 at h ⊢
        refine z_iconst (i := 1) (v := 1) (pc' := 108) ⟨by decide +kernel, rfl⟩ (by decide) ?_
        obtain ⟨n19, hi19, hz19, h⟩ := h
        refine w_iast (k := 20) (n := n19) (pc' := 109) ykaa_20 (hi19) (hz19) ⟨by decide +kernel, rfl⟩ ?_
        generalize hs20 : zI σ17 20 n19 1 = σ20
        have h := h σ20 hs20
        refine z_iconst (i := 1) (v := 1) (pc' := 110) ⟨by decide +kernel, rfl⟩ (by decide) ?_
        exact z_iret (ty := .boolean) rfl (by rfl) (by decide +kernel) (k _ _ h)
    · have h := h.1 (qi_ne_f rfl (by decide) h5)
      refine z_aload_n (f := 0) (i := 0) (q := 1) (pc' := 49) ⟨by decide +kernel, rfl⟩ rfl rfl ?_
      refine w_invV (Z := Y_Po_fail) (idx := 140) (kb := 17) (As := []) (rest := []) (pc' := 52) cl_7_140 rfl ⟨rfl, rfl⟩ ykfa_17_0 rfl ⟨⟨by decide, by decide⟩, rfl, rfl⟩ ⟨by decide +kernel, rfl⟩ rfl rfl (Nat.le_of_ble_eq_true rfl) rfl rfl ?_
      refine sF_Po_fail h (fun v21 σ21 h => ?_)
      show Wz E Y_Po_readThing 52 [(2, .int v3), (0, .ref 17), (1, .int a1)] [.int v21] σ21 K
      obtain ⟨hg22, h⟩ := h
      exact z_iret (ty := .boolean) rfl (j_bool hg22).1 (by decide +kernel) (k _ _ h)
  · have h := h.2 (qi_eq_f rfl (by decide) h2)
    refine z_aload_n (f := 0) (i := 0) (q := 0) (pc' := 10) ⟨by decide +kernel, rfl⟩ rfl rfl ?_
    refine w_getr (k := 17) (j := 3) (idx := 28) (pc' := 13) yfxe_7_28 ykfa_17_3 ⟨by decide +kernel, rfl⟩ ?_
    refine z_iload_n (f := 1) (i := 1) (q := 1) (pc' := 14) ⟨by decide +kernel, rfl⟩ rfl rfl ?_
    refine z_iconst (i := 4) (v := 4) (pc' := 15) ⟨by decide +kernel, rfl⟩ (by decide) ?_
    refine z_iadd (pc' := 16) ⟨by decide +kernel, rfl⟩ ?_
    obtain ⟨hb23, h⟩ := h
    have h := h (a1 + 4) (ia_ok rfl (by decide) hb23)
    generalize (a1 + 4) = r23 at h ⊢
    refine z_iconst (i := 0) (v := 0) (pc' := 17) ⟨by decide +kernel, rfl⟩ (by decide) ?_
    obtain ⟨n24, hi24, hz24, h⟩ := h
    refine w_iast (k := 20) (n := n24) (pc' := 18) ykaa_20 (hi24) (hz24) ⟨by decide +kernel, rfl⟩ ?_
    generalize hs25 : zI σ1 20 n24 0 = σ25
    have h := h σ25 hs25
    refine z_aload_n (f := 0) (i := 0) (q := 0) (pc' := 19) ⟨by decide +kernel, rfl⟩ rfl rfl ?_
    refine z_dupr (pc' := 20) ⟨by decide +kernel, rfl⟩ ?_
    refine w_geti (k := 17) (j := 14) (idx := 63) (pc' := 23) yfxe_7_63 ykfa_17_14 ⟨by decide +kernel, rfl⟩ ?_
    refine z_iconst (i := 1) (v := 1) (pc' := 24) ⟨by decide +kernel, rfl⟩ (by decide) ?_
    refine z_iadd (pc' := 25) ⟨by decide +kernel, rfl⟩ ?_
    obtain ⟨hb26, h⟩ := h
    have h := h ((σ25.1 17 14) + 1) (ia_ok rfl (by decide) hb26)
    generalize ((σ25.1 17 14) + 1) = r26 at h ⊢
    refine w_puti (k := 17) (j := 14) (idx := 63) (pc' := 28) yfxi_7_63 ykfa_17_14 ⟨by decide +kernel, rfl⟩ ?_
    generalize hs27 : zI σ25 17 14 r26 = σ27
    have h := h σ27 hs27
    refine z_iconst (i := 1) (v := 1) (pc' := 29) ⟨by decide +kernel, rfl⟩ (by decide) ?_
    exact z_iret (ty := .boolean) rfl (by rfl) (by decide +kernel) (k _ _ h)
noncomputable def W_Re_ofWhole (a0 : Int64) (σ : zS) (Q : Int64 → zS → Prop) : Prop := ∀ v : Int64, OwR a0.toInt v.toInt → Q v σ
theorem sF_Re_ofWhole {E : xV} {σ : zS} {K : zKt} {a0 : Int64} {Q : Int64 → zS → Prop} (h : W_Re_ofWhole a0 σ Q) (k : ∀ v s, Q v s → K (some (.long v)) s) : Cz E Y_Re_ofWhole [.long a0] σ K := cz_Re_ofWhole (fun v q => k _ _ (h v q))
noncomputable def W_Re_over (a0 a2 : Int64) (σ : zS) (Q : Int64 → zS → Prop) : Prop := ∀ v : Int64, OvR a0.toInt a2.toInt v.toInt → Q v σ
theorem sF_Re_over {E : xV} {σ : zS} {K : zKt} {a0 a2 : Int64} {Q : Int64 → zS → Prop} (h : W_Re_over a0 a2 σ Q) (k : ∀ v s, Q v s → K (some (.long v)) s) : Cz E Y_Re_over [.long a0, .long a2] σ K := cz_Re_over (fun v q => k _ _ (h v q))
noncomputable def W_Po_splitNumber_b177 (F15 : Int32 → Int64 → Int64 → Int32 → Int32 → Int32 → zS → (Int32 → zS → Prop) → Prop) (x1 : Int32) (x6 : Int32) (σ : zS) (Q : Int32 → zS → Prop) : Prop := W_Po_addToken 5 x1 0 σ (fun _ σ1 => Q x6 σ1)
theorem sb_Po_splitNumber_177 {E : xV} {σ : zS} {K : zKt} {F15 : Int32 → Int64 → Int64 → Int32 → Int32 → Int32 → zS → (Int32 → zS → Prop) → Prop} {x1 : Int32} {x6 : Int32} {Q : Int32 → zS → Prop} (f15 : ∀ (x1 : Int32) (x2 : Int64) (x4 : Int64) (x6 : Int32) (x7 : Int32) (x8 : Int32) (σ : zS), F15 x1 x2 x4 x6 x7 x8 σ Q → Wz E Y_Po_splitNumber 15 [(0, .ref 17), (1, .int x1), (2, .long x2), (4, .long x4), (6, .int x6), (7, .int x7), (8, .int x8)] [] σ K) (k : ∀ v s, Q v s → K (some (.int v)) s) (h : W_Po_splitNumber_b177 F15 x1 x6 σ Q) : Wz E Y_Po_splitNumber 177 [(0, .ref 17), (1, .int x1), (6, .int x6)] [] σ K := by
  unfold W_Po_splitNumber_b177 at h
  refine z_aload_n (f := 0) (i := 0) (q := 0) (pc' := 178) ⟨by decide +kernel, rfl⟩ rfl rfl ?_
  refine z_iconst (i := 5) (v := 5) (pc' := 179) ⟨by decide +kernel, rfl⟩ (by decide) ?_
  refine z_iload_n (f := 1) (i := 1) (q := 1) (pc' := 180) ⟨by decide +kernel, rfl⟩ rfl rfl ?_
  refine z_lconst (i := 0) (v := 0) (pc' := 181) ⟨by decide +kernel, rfl⟩ (by decide) ?_
  refine w_invV (Z := Y_Po_addToken) (idx := 93) (kb := 17) (As := [.int 5, .int x1, .long 0]) (rest := []) (pc' := 184) cl_7_93 rfl ⟨rfl, rfl⟩ ykfa_17_0 rfl ⟨⟨by decide, by decide⟩, rfl, rfl⟩ ⟨by decide +kernel, rfl⟩ rfl rfl (Nat.le_of_ble_eq_true rfl) rfl rfl ?_
  refine sF_Po_addToken h (fun _ σ1 h => ?_)
  show Wz E Y_Po_splitNumber 184 [(0, .ref 17), (1, .int x1), (6, .int x6)] [] σ1 K
  refine z_goto (off := 38) (tgt := 222) (pc' := 187) ⟨by decide +kernel, by decide, rfl⟩ ?_
  refine z_iload (i := 6) (q := 2) (pc' := 224) ⟨by decide +kernel, rfl⟩ rfl ?_
  exact z_iret (ty := .int) rfl (by rfl) (by decide +kernel) (k _ _ h)

end
