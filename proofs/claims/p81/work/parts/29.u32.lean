section
noncomputable def W_Po_readRule (a1 : Int32) (σ : zS) (Q : Int32 → zS → Prop) : Prop := W_Po_readEffect a1 σ (fun v1 σ1 => ((Int32.toInt v1) = 0 → (Q 0 σ1)) ∧ (¬ (Int32.toInt v1) = 0 → (W_Po_readWho a1 σ1 (fun v3 σ3 => ((Int32.toInt v3) = 0 → (Q 0 σ3)) ∧ (¬ (Int32.toInt v3) = 0 → (W_Po_readAct a1 σ3 (fun v5 σ5 => ((Int32.toInt v5) = 0 → (Q 0 σ5)) ∧ (¬ (Int32.toInt v5) = 0 → (W_Po_readThing a1 σ5 (fun v7 σ7 => ((Int32.toInt v7) = 0 → (Q 0 σ7)) ∧ (¬ (Int32.toInt v7) = 0 → ((-2147483648 ≤ (Int32.toInt a1) + 6 ∧ (Int32.toInt a1) + 6 ≤ 2147483647) ∧ ∀ r9 : Int32, r9.toInt = (Int32.toInt a1) + 6 → (∃ n10 : Nat, Int32.toInt r9 = (n10 : Int) ∧ n10 < 2160 ∧ (∀ σ11 : zS, zI σ7 20 n10 (σ7.1 17 15) = σ11 → (W_Po_isWord 8 σ11 (fun v12 σ12 => ((Int32.toInt v12) = 0 → (W_Po_readRule_b76  a1 σ12 Q)) ∧ (¬ (Int32.toInt v12) = 0 → ((-2147483648 ≤ (Int32.toInt (σ12.1 17 14)) + 1 ∧ (Int32.toInt (σ12.1 17 14)) + 1 ≤ 2147483647) ∧ ∀ r14 : Int32, r14.toInt = (Int32.toInt (σ12.1 17 14)) + 1 → (∀ σ15 : zS, zI σ12 17 14 r14 = σ15 → (WR_Po_readCondition 0 σ15 (fun v16 σ16 => ((Int32.toInt v16) = 0 → (Q 0 σ16)) ∧ (¬ (Int32.toInt v16) = 0 → (W_Po_readRule_b76  a1 σ16 Q)))))))))))))))))))))))
theorem sF_Po_readRule {E : xV} {σ : zS} {K : zKt} {a1 : Int32} {Q : Int32 → zS → Prop} (h : W_Po_readRule a1 σ Q) (k : ∀ v s, Q v s → K (some (.int v)) s) : Cz E Y_Po_readRule [.ref 17, .int a1] σ K := by
  refine z_entry (by decide) (fun a => by rw [sl_len]; exact Nat.le_of_ble_eq_true rfl) rfl ?_
  unfold W_Po_readRule at h
  refine z_aload_n (f := 0) (i := 0) (q := 0) (pc' := 1) ⟨by decide +kernel, rfl⟩ rfl rfl ?_
  refine z_iload_n (f := 1) (i := 1) (q := 1) (pc' := 2) ⟨by decide +kernel, rfl⟩ rfl rfl ?_
  refine w_invV (Z := Y_Po_readEffect) (idx := 144) (kb := 17) (As := [.int a1]) (rest := []) (pc' := 5) cl_7_144 rfl ⟨rfl, rfl⟩ ykfa_17_0 rfl ⟨⟨by decide, by decide⟩, rfl, rfl⟩ ⟨by decide +kernel, rfl⟩ rfl rfl (Nat.le_of_ble_eq_true rfl) rfl rfl ?_
  refine sF_Po_readEffect h (fun v1 σ1 h => ?_)
  show Wz E Y_Po_readRule 5 [(0, .ref 17), (1, .int a1)] [.int v1] σ1 K
  refine z_if_eq (off := 27) (tgt := 32) (pc' := 8) ⟨by decide +kernel, by decide, rfl⟩ (fun h2 => ?_) (fun h2 => ?_)
  · have h := h.1 (qi_eq_t rfl (by decide) h2)
    refine z_iconst (i := 0) (v := 0) (pc' := 33) ⟨by decide +kernel, rfl⟩ (by decide) ?_
    exact z_iret (ty := .boolean) rfl (by rfl) (by decide +kernel) (k _ _ h)
  · have h := h.2 (qi_eq_f rfl (by decide) h2)
    refine z_aload_n (f := 0) (i := 0) (q := 0) (pc' := 9) ⟨by decide +kernel, rfl⟩ rfl rfl ?_
    refine z_iload_n (f := 1) (i := 1) (q := 1) (pc' := 10) ⟨by decide +kernel, rfl⟩ rfl rfl ?_
    refine w_invV (Z := Y_Po_readWho) (idx := 147) (kb := 17) (As := [.int a1]) (rest := []) (pc' := 13) cl_7_147 rfl ⟨rfl, rfl⟩ ykfa_17_0 rfl ⟨⟨by decide, by decide⟩, rfl, rfl⟩ ⟨by decide +kernel, rfl⟩ rfl rfl (Nat.le_of_ble_eq_true rfl) rfl rfl ?_
    refine sF_Po_readWho h (fun v3 σ3 h => ?_)
    show Wz E Y_Po_readRule 13 [(0, .ref 17), (1, .int a1)] [.int v3] σ3 K
    refine z_if_eq (off := 19) (tgt := 32) (pc' := 16) ⟨by decide +kernel, by decide, rfl⟩ (fun h4 => ?_) (fun h4 => ?_)
    · have h := h.1 (qi_eq_t rfl (by decide) h4)
      refine z_iconst (i := 0) (v := 0) (pc' := 33) ⟨by decide +kernel, rfl⟩ (by decide) ?_
      exact z_iret (ty := .boolean) rfl (by rfl) (by decide +kernel) (k _ _ h)
    · have h := h.2 (qi_eq_f rfl (by decide) h4)
      refine z_aload_n (f := 0) (i := 0) (q := 0) (pc' := 17) ⟨by decide +kernel, rfl⟩ rfl rfl ?_
      refine z_iload_n (f := 1) (i := 1) (q := 1) (pc' := 18) ⟨by decide +kernel, rfl⟩ rfl rfl ?_
      refine w_invV (Z := Y_Po_readAct) (idx := 150) (kb := 17) (As := [.int a1]) (rest := []) (pc' := 21) cl_7_150 rfl ⟨rfl, rfl⟩ ykfa_17_0 rfl ⟨⟨by decide, by decide⟩, rfl, rfl⟩ ⟨by decide +kernel, rfl⟩ rfl rfl (Nat.le_of_ble_eq_true rfl) rfl rfl ?_
      refine sF_Po_readAct h (fun v5 σ5 h => ?_)
      show Wz E Y_Po_readRule 21 [(0, .ref 17), (1, .int a1)] [.int v5] σ5 K
      refine z_if_eq (off := 11) (tgt := 32) (pc' := 24) ⟨by decide +kernel, by decide, rfl⟩ (fun h6 => ?_) (fun h6 => ?_)
      · have h := h.1 (qi_eq_t rfl (by decide) h6)
        refine z_iconst (i := 0) (v := 0) (pc' := 33) ⟨by decide +kernel, rfl⟩ (by decide) ?_
        exact z_iret (ty := .boolean) rfl (by rfl) (by decide +kernel) (k _ _ h)
      · have h := h.2 (qi_eq_f rfl (by decide) h6)
        refine z_aload_n (f := 0) (i := 0) (q := 0) (pc' := 25) ⟨by decide +kernel, rfl⟩ rfl rfl ?_
        refine z_iload_n (f := 1) (i := 1) (q := 1) (pc' := 26) ⟨by decide +kernel, rfl⟩ rfl rfl ?_
        refine w_invV (Z := Y_Po_readThing) (idx := 153) (kb := 17) (As := [.int a1]) (rest := []) (pc' := 29) cl_7_153 rfl ⟨rfl, rfl⟩ ykfa_17_0 rfl ⟨⟨by decide, by decide⟩, rfl, rfl⟩ ⟨by decide +kernel, rfl⟩ rfl rfl (Nat.le_of_ble_eq_true rfl) rfl rfl ?_
        refine sF_Po_readThing h (fun v7 σ7 h => ?_)
        show Wz E Y_Po_readRule 29 [(0, .ref 17), (1, .int a1)] [.int v7] σ7 K
        refine z_if_ne (off := 5) (tgt := 34) (pc' := 32) ⟨by decide +kernel, by decide, rfl⟩ (fun h8 => ?_) (fun h8 => ?_)
        · have h := h.2 (qi_ne_t rfl (by decide) h8)
          refine z_aload_n (f := 0) (i := 0) (q := 0) (pc' := 35) ⟨by decide +kernel, rfl⟩ rfl rfl ?_
          refine w_getr (k := 17) (j := 3) (idx := 28) (pc' := 38) yfxe_7_28 ykfa_17_3 ⟨by decide +kernel, rfl⟩ ?_
          refine z_iload_n (f := 1) (i := 1) (q := 1) (pc' := 39) ⟨by decide +kernel, rfl⟩ rfl rfl ?_
          refine z_bipush (i := 6) (v := 6) (pc' := 41) ⟨by decide +kernel, rfl⟩ (by decide) ?_
          refine z_iadd (pc' := 42) ⟨by decide +kernel, rfl⟩ ?_
          obtain ⟨hb9, h⟩ := h
          have h := h (a1 + 6) (ia_ok rfl (by decide) hb9)
          generalize (a1 + 6) = r9 at h ⊢
          refine z_aload_n (f := 0) (i := 0) (q := 0) (pc' := 43) ⟨by decide +kernel, rfl⟩ rfl rfl ?_
          refine w_geti (k := 17) (j := 15) (idx := 69) (pc' := 46) yfxe_7_69 ykfa_17_15 ⟨by decide +kernel, rfl⟩ ?_
          obtain ⟨n10, hi10, hz10, h⟩ := h
          refine w_iast (k := 20) (n := n10) (pc' := 47) ykaa_20 (hi10) (hz10) ⟨by decide +kernel, rfl⟩ ?_
          generalize hs11 : zI σ7 20 n10 (σ7.1 17 15) = σ11
          have h := h σ11 hs11
          refine z_aload_n (f := 0) (i := 0) (q := 0) (pc' := 48) ⟨by decide +kernel, rfl⟩ rfl rfl ?_
          refine z_ldcS (i := 8) (pc' := 50) rfl rfl ⟨by decide +kernel, rfl⟩ ?_
          show Wz E Y_Po_readRule 50 [(0, .ref 17), (1, .int a1)] (.ref (1000 + 8) :: [.ref 17]) σ11 K
          refine w_invV (Z := Y_Po_isWord) (idx := 158) (kb := 17) (As := [.ref (1000 + 8)]) (rest := []) (pc' := 53) cl_7_158 rfl ⟨rfl, rfl⟩ ykfa_17_0 rfl ⟨⟨by decide, by decide⟩, rfl, rfl⟩ ⟨by decide +kernel, rfl⟩ rfl rfl (Nat.le_of_ble_eq_true rfl) rfl rfl ?_
          refine sF_Po_isWord (by decide) h (fun v12 σ12 h => ?_)
          show Wz E Y_Po_readRule 53 [(0, .ref 17), (1, .int a1)] [.int v12] σ12 K
          refine z_if_eq (off := 23) (tgt := 76) (pc' := 56) ⟨by decide +kernel, by decide, rfl⟩ (fun h13 => ?_) (fun h13 => ?_)
          · have h := h.1 (qi_eq_t rfl (by decide) h13)
            refine z_sub [0, 1] rfl ?_
            exact sb_Po_readRule_76  k h
          · have h := h.2 (qi_eq_f rfl (by decide) h13)
            refine z_aload_n (f := 0) (i := 0) (q := 0) (pc' := 57) ⟨by decide +kernel, rfl⟩ rfl rfl ?_
            refine z_dupr (pc' := 58) ⟨by decide +kernel, rfl⟩ ?_
            refine w_geti (k := 17) (j := 14) (idx := 63) (pc' := 61) yfxe_7_63 ykfa_17_14 ⟨by decide +kernel, rfl⟩ ?_
            refine z_iconst (i := 1) (v := 1) (pc' := 62) ⟨by decide +kernel, rfl⟩ (by decide) ?_
            refine z_iadd (pc' := 63) ⟨by decide +kernel, rfl⟩ ?_
            obtain ⟨hb14, h⟩ := h
            have h := h ((σ12.1 17 14) + 1) (ia_ok rfl (by decide) hb14)
            generalize ((σ12.1 17 14) + 1) = r14 at h ⊢
            refine w_puti (k := 17) (j := 14) (idx := 63) (pc' := 66) yfxi_7_63 ykfa_17_14 ⟨by decide +kernel, rfl⟩ ?_
            generalize hs15 : zI σ12 17 14 r14 = σ15
            have h := h σ15 hs15
            refine z_aload_n (f := 0) (i := 0) (q := 0) (pc' := 67) ⟨by decide +kernel, rfl⟩ rfl rfl ?_
            refine z_iconst (i := 0) (v := 0) (pc' := 68) ⟨by decide +kernel, rfl⟩ (by decide) ?_
            refine w_invV (Z := Y_Po_readCondition) (idx := 162) (kb := 17) (As := [.int 0]) (rest := []) (pc' := 71) cl_7_162 rfl ⟨rfl, rfl⟩ ykfa_17_0 rfl ⟨⟨by decide, by decide⟩, rfl, rfl⟩ ⟨by decide +kernel, rfl⟩ rfl rfl (Nat.le_of_ble_eq_true rfl) rfl rfl ?_
            refine sR_Po_readCondition h (fun v16 σ16 h => ?_)
            show Wz E Y_Po_readRule 71 [(0, .ref 17), (1, .int a1)] [.int v16] σ16 K
            refine z_if_ne (off := 5) (tgt := 76) (pc' := 74) ⟨by decide +kernel, by decide, rfl⟩ (fun h17 => ?_) (fun h17 => ?_)
            · have h := h.2 (qi_ne_t rfl (by decide) h17)
              refine z_sub [0, 1] rfl ?_
              exact sb_Po_readRule_76  k h
            · have h := h.1 (qi_ne_f rfl (by decide) h17)
              refine z_iconst (i := 0) (v := 0) (pc' := 75) ⟨by decide +kernel, rfl⟩ (by decide) ?_
              exact z_iret (ty := .boolean) rfl (by rfl) (by decide +kernel) (k _ _ h)
        · have h := h.1 (qi_ne_f rfl (by decide) h8)
          refine z_iconst (i := 0) (v := 0) (pc' := 33) ⟨by decide +kernel, rfl⟩ (by decide) ?_
          exact z_iret (ty := .boolean) rfl (by rfl) (by decide +kernel) (k _ _ h)
noncomputable def WB_Po_read_40 (F40 : Int32 → Int32 → zS → (Int32 → zS → Prop) → Prop) (x3 : Int32) (x4 : Int32) (σ : zS) (Q : Int32 → zS → Prop) : Prop := (30 ≤ (Int32.toInt x4) → (∃ n2 : Nat, Int32.toInt (σ.1 17 14) = (n2 : Int) ∧ n2 < 1201 ∧ (Q (σ.1 25 n2) σ))) ∧ (¬ 30 ≤ (Int32.toInt x4) → (W_Po_ruleAt (σ.1 17 0) x4 σ (fun v3 σ3 => W_Po_readRule v3 σ3 (fun v4 σ4 => ((Int32.toInt v4) = 0 → (Q (σ4.1 17 16) σ4)) ∧ (¬ (Int32.toInt v4) = 0 → (∃ n6 : Nat, Int32.toInt (σ4.1 17 14) = (n6 : Int) ∧ n6 < 1201 ∧ (((Int32.toInt (σ4.1 24 n6)) = 0 → (∃ n11 : Nat, Int32.toInt (σ4.1 17 0) = (n11 : Int) ∧ n11 < 8 ∧ (∀ σ12 : zS, zI σ4 18 n11 x3 = σ12 → ((-2147483648 ≤ (Int32.toInt x4) + 1 ∧ (Int32.toInt x4) + 1 ≤ 2147483647) ∧ ∀ r13 : Int32, r13.toInt = (Int32.toInt x4) + 1 → (∃ n14 : Nat, Int32.toInt (σ12.1 17 0) = (n14 : Int) ∧ n14 < 8 ∧ (∀ σ15 : zS, zI σ12 19 n14 r13 = σ15 → ((-2147483648 ≤ (Int32.toInt (σ15.1 17 0)) + 1 ∧ (Int32.toInt (σ15.1 17 0)) + 1 ≤ 2147483647) ∧ ∀ r16 : Int32, r16.toInt = (Int32.toInt (σ15.1 17 0)) + 1 → (∀ σ17 : zS, zI σ15 17 0 r16 = σ17 → (Q (-4) σ17))))))))) ∧ (¬ (Int32.toInt (σ4.1 24 n6)) = 0 → (W_Po_passes 59 σ4 (fun v8 σ8 => ((Int32.toInt v8) = 0 → (Q (σ8.1 17 16) σ8)) ∧ (¬ (Int32.toInt v8) = 0 → ((-2147483648 ≤ (Int32.toInt x4) + 1 ∧ (Int32.toInt x4) + 1 ≤ 2147483647) ∧ ∀ r10 : Int32, r10.toInt = (Int32.toInt x4) + 1 → (F40 x3 r10 σ8 Q)))))))))))))
theorem sh_Po_read_40 {E : xV} {σ : zS} {K : zKt} {F40 : Int32 → Int32 → zS → (Int32 → zS → Prop) → Prop} {x3 : Int32} {x4 : Int32} {Q : Int32 → zS → Prop} (f40 : ∀ (x3 : Int32) (x4 : Int32) (σ : zS), F40 x3 x4 σ Q → Wz E Y_Po_read 40 [(0, .ref 17), (3, .int x3), (4, .int x4)] [] σ K) (k : ∀ v s, Q v s → K (some (.int v)) s) (h : WB_Po_read_40 F40 x3 x4 σ Q) : Wz E Y_Po_read 40 [(0, .ref 17), (3, .int x3), (4, .int x4)] [] σ K := by
  unfold WB_Po_read_40 at h
  refine z_iload (i := 4) (q := 2) (pc' := 42) ⟨by decide +kernel, rfl⟩ rfl ?_
  refine z_bipush (i := 30) (v := 30) (pc' := 44) ⟨by decide +kernel, rfl⟩ (by decide) ?_
  refine z_icmp_ge (off := 92) (tgt := 136) (pc' := 47) ⟨by decide +kernel, by decide, rfl⟩ (fun h1 => ?_) (fun h1 => ?_)
  · have h := h.1 (qi_ge_t rfl (by decide) h1)
    refine z_aload_n (f := 0) (i := 0) (q := 0) (pc' := 137) ⟨by decide +kernel, rfl⟩ rfl rfl ?_
    refine w_getr (k := 17) (j := 11) (idx := 44) (pc' := 140) yfxe_7_44 ykfa_17_11 ⟨by decide +kernel, rfl⟩ ?_
    refine z_aload_n (f := 0) (i := 0) (q := 0) (pc' := 141) ⟨by decide +kernel, rfl⟩ rfl rfl ?_
    refine w_geti (k := 17) (j := 14) (idx := 63) (pc' := 144) yfxe_7_63 ykfa_17_14 ⟨by decide +kernel, rfl⟩ ?_
    obtain ⟨n2, hi2, hz2, h⟩ := h
    refine w_iald (k := 25) (n := n2) (pc' := 145) ykaa_25 (hi2) (hz2) ⟨by decide +kernel, rfl⟩ ?_
    exact z_iret (ty := .int) rfl (by rfl) (by decide +kernel) (k _ _ h)
  · have h := h.2 (qi_ge_f rfl (by decide) h1)
    refine z_aload_n (f := 0) (i := 0) (q := 0) (pc' := 48) ⟨by decide +kernel, rfl⟩ rfl rfl ?_
    refine z_aload_n (f := 0) (i := 0) (q := 0) (pc' := 49) ⟨by decide +kernel, rfl⟩ rfl rfl ?_
    refine w_geti (k := 17) (j := 0) (idx := 66) (pc' := 52) yfxe_7_66 ykfa_17_0 ⟨by decide +kernel, rfl⟩ ?_
    refine z_iload (i := 4) (q := 2) (pc' := 54) ⟨by decide +kernel, rfl⟩ rfl ?_
    refine w_invS (Z := Y_Po_ruleAt) (idx := 72) (As := [.int (σ.1 17 0), .int x4]) (rest := [.ref 17]) (pc' := 57) cl_7_72 rfl ⟨rfl, rfl⟩ ⟨⟨by decide, by decide⟩, rfl, rfl⟩ ⟨by decide +kernel, rfl⟩ rfl rfl (Nat.le_of_ble_eq_true rfl) rfl rfl ?_
    refine sF_Po_ruleAt h (fun v3 σ3 h => ?_)
    show Wz E Y_Po_read 57 [(0, .ref 17), (3, .int x3), (4, .int x4)] [.int v3, .ref 17] σ3 K
    refine w_invV (Z := Y_Po_readRule) (idx := 76) (kb := 17) (As := [.int v3]) (rest := []) (pc' := 60) cl_7_76 rfl ⟨rfl, rfl⟩ ykfa_17_0 rfl ⟨⟨by decide, by decide⟩, rfl, rfl⟩ ⟨by decide +kernel, rfl⟩ rfl rfl (Nat.le_of_ble_eq_true rfl) rfl rfl ?_
    refine sF_Po_readRule h (fun v4 σ4 h => ?_)
    show Wz E Y_Po_read 60 [(0, .ref 17), (3, .int x3), (4, .int x4)] [.int v4] σ4 K
    refine z_if_ne (off := 8) (tgt := 68) (pc' := 63) ⟨by decide +kernel, by decide, rfl⟩ (fun h5 => ?_) (fun h5 => ?_)
    · have h := h.2 (qi_ne_t rfl (by decide) h5)
      refine z_aload_n (f := 0) (i := 0) (q := 0) (pc' := 69) ⟨by decide +kernel, rfl⟩ rfl rfl ?_
      refine w_getr (k := 17) (j := 10) (idx := 41) (pc' := 72) yfxe_7_41 ykfa_17_10 ⟨by decide +kernel, rfl⟩ ?_
      refine z_aload_n (f := 0) (i := 0) (q := 0) (pc' := 73) ⟨by decide +kernel, rfl⟩ rfl rfl ?_
      refine w_geti (k := 17) (j := 14) (idx := 63) (pc' := 76) yfxe_7_63 ykfa_17_14 ⟨by decide +kernel, rfl⟩ ?_
      obtain ⟨n6, hi6, hz6, h⟩ := h
      refine w_iald (k := 24) (n := n6) (pc' := 77) ykaa_24 (hi6) (hz6) ⟨by decide +kernel, rfl⟩ ?_
      refine z_if_ne (off := 39) (tgt := 116) (pc' := 80) ⟨by decide +kernel, by decide, rfl⟩ (fun h7 => ?_) (fun h7 => ?_)
      · have h := h.2 (qi_ne_t rfl (by decide) h7)
        refine z_aload_n (f := 0) (i := 0) (q := 0) (pc' := 117) ⟨by decide +kernel, rfl⟩ rfl rfl ?_
        refine z_bipush (i := 59) (v := 59) (pc' := 119) ⟨by decide +kernel, rfl⟩ (by decide) ?_
        refine w_invV (Z := Y_Po_passes) (idx := 83) (kb := 17) (As := [.int 59]) (rest := []) (pc' := 122) cl_7_83 rfl ⟨rfl, rfl⟩ ykfa_17_0 rfl ⟨⟨by decide, by decide⟩, rfl, rfl⟩ ⟨by decide +kernel, rfl⟩ rfl rfl (Nat.le_of_ble_eq_true rfl) rfl rfl ?_
        refine sF_Po_passes h (fun v8 σ8 h => ?_)
        show Wz E Y_Po_read 122 [(0, .ref 17), (3, .int x3), (4, .int x4)] [.int v8] σ8 K
        refine z_if_ne (off := 8) (tgt := 130) (pc' := 125) ⟨by decide +kernel, by decide, rfl⟩ (fun h9 => ?_) (fun h9 => ?_)
        · have h := h.2 (qi_ne_t rfl (by decide) h9)
          refine z_iinc (i := 4) (z := 1) (q := 2) (pc' := 133) ⟨by decide +kernel, rfl⟩ rfl rfl (by decide) rfl ?_
          show Wz E Y_Po_read 133 [(4, .int (x4 + Int32.ofInt 1)), (0, .ref 17), (3, .int x3)] [] σ8 K
          obtain ⟨hb10, h⟩ := h
          have h := h (x4 + Int32.ofInt 1) (ia_ok rfl (by decide) hb10)
          generalize (x4 + Int32.ofInt 1) = r10 at h ⊢
          refine z_goto (off := (-93)) (tgt := 40) (pc' := 136) ⟨by decide +kernel, by decide, rfl⟩ ?_
          refine z_sub [1, 2, 0] rfl ?_
          exact f40 _ _ _ h
        · have h := h.1 (qi_ne_f rfl (by decide) h9)
          refine z_aload_n (f := 0) (i := 0) (q := 0) (pc' := 126) ⟨by decide +kernel, rfl⟩ rfl rfl ?_
          refine w_geti (k := 17) (j := 16) (idx := 80) (pc' := 129) yfxe_7_80 ykfa_17_16 ⟨by decide +kernel, rfl⟩ ?_
          exact z_iret (ty := .int) rfl (by rfl) (by decide +kernel) (k _ _ h)
      · have h := h.1 (qi_ne_f rfl (by decide) h7)
        refine z_aload_n (f := 0) (i := 0) (q := 0) (pc' := 81) ⟨by decide +kernel, rfl⟩ rfl rfl ?_
        refine w_getr (k := 17) (j := 1) (idx := 21) (pc' := 84) yfxe_7_21 ykfa_17_1 ⟨by decide +kernel, rfl⟩ ?_
        refine z_aload_n (f := 0) (i := 0) (q := 0) (pc' := 85) ⟨by decide +kernel, rfl⟩ rfl rfl ?_
        refine w_geti (k := 17) (j := 0) (idx := 66) (pc' := 88) yfxe_7_66 ykfa_17_0 ⟨by decide +kernel, rfl⟩ ?_
        refine z_iload_n (f := 3) (i := 3) (q := 1) (pc' := 89) ⟨by decide +kernel, rfl⟩ rfl rfl ?_
        obtain ⟨n11, hi11, hz11, h⟩ := h
        refine w_iast (k := 18) (n := n11) (pc' := 90) ykaa_18 (hi11) (hz11) ⟨by decide +kernel, rfl⟩ ?_
        generalize hs12 : zI σ4 18 n11 x3 = σ12
        have h := h σ12 hs12
        refine z_aload_n (f := 0) (i := 0) (q := 0) (pc' := 91) ⟨by decide +kernel, rfl⟩ rfl rfl ?_
        refine w_getr (k := 17) (j := 2) (idx := 25) (pc' := 94) yfxe_7_25 ykfa_17_2 ⟨by decide +kernel, rfl⟩ ?_
        refine z_aload_n (f := 0) (i := 0) (q := 0) (pc' := 95) ⟨by decide +kernel, rfl⟩ rfl rfl ?_
        refine w_geti (k := 17) (j := 0) (idx := 66) (pc' := 98) yfxe_7_66 ykfa_17_0 ⟨by decide +kernel, rfl⟩ ?_
        refine z_iload (i := 4) (q := 2) (pc' := 100) ⟨by decide +kernel, rfl⟩ rfl ?_
        refine z_iconst (i := 1) (v := 1) (pc' := 101) ⟨by decide +kernel, rfl⟩ (by decide) ?_
        refine z_iadd (pc' := 102) ⟨by decide +kernel, rfl⟩ ?_
        obtain ⟨hb13, h⟩ := h
        have h := h (x4 + 1) (ia_ok rfl (by decide) hb13)
        generalize (x4 + 1) = r13 at h ⊢
        obtain ⟨n14, hi14, hz14, h⟩ := h
        refine w_iast (k := 19) (n := n14) (pc' := 103) ykaa_19 (hi14) (hz14) ⟨by decide +kernel, rfl⟩ ?_
        generalize hs15 : zI σ12 19 n14 r13 = σ15
        have h := h σ15 hs15
        refine z_aload_n (f := 0) (i := 0) (q := 0) (pc' := 104) ⟨by decide +kernel, rfl⟩ rfl rfl ?_
        refine z_dupr (pc' := 105) ⟨by decide +kernel, rfl⟩ ?_
        refine w_geti (k := 17) (j := 0) (idx := 66) (pc' := 108) yfxe_7_66 ykfa_17_0 ⟨by decide +kernel, rfl⟩ ?_
        refine z_iconst (i := 1) (v := 1) (pc' := 109) ⟨by decide +kernel, rfl⟩ (by decide) ?_
        refine z_iadd (pc' := 110) ⟨by decide +kernel, rfl⟩ ?_
        obtain ⟨hb16, h⟩ := h
        have h := h ((σ15.1 17 0) + 1) (ia_ok rfl (by decide) hb16)
        generalize ((σ15.1 17 0) + 1) = r16 at h ⊢
        refine w_puti (k := 17) (j := 0) (idx := 66) (pc' := 113) yfxi_7_66 ykfa_17_0 ⟨by decide +kernel, rfl⟩ ?_
        generalize hs17 : zI σ15 17 0 r16 = σ17
        have h := h σ17 hs17
        refine z_bipush (i := (-4)) (v := (-4)) (pc' := 115) ⟨by decide +kernel, rfl⟩ (by decide) ?_
        exact z_iret (ty := .int) rfl (by rfl) (by decide +kernel) (k _ _ h)
    · have h := h.1 (qi_ne_f rfl (by decide) h5)
      refine z_aload_n (f := 0) (i := 0) (q := 0) (pc' := 64) ⟨by decide +kernel, rfl⟩ rfl rfl ?_
      refine w_geti (k := 17) (j := 16) (idx := 80) (pc' := 67) yfxe_7_80 ykfa_17_16 ⟨by decide +kernel, rfl⟩ ?_
      exact z_iret (ty := .int) rfl (by rfl) (by decide +kernel) (k _ _ h)
noncomputable def WL_Po_read : Nat → (Int32 → Int32 → zS → (Int32 → zS → Prop) → Prop)
  | 0 => fun _ _ _ _ => False
  | n + 1 => WB_Po_read_40 (WL_Po_read n)
theorem wl_Po_read_40 {n : Nat} {x3 : Int32} {x4 : Int32} {σ : zS} {Q : Int32 → zS → Prop} (h : WB_Po_read_40 (WL_Po_read n) x3 x4 σ Q) : (WL_Po_read (n + 1)) x3 x4 σ Q := h
theorem sl_Po_read {E : xV} {K : zKt} {Q : Int32 → zS → Prop} (k : ∀ v s, Q v s → K (some (.int v)) s) : ∀ n, (∀ (x3 : Int32) (x4 : Int32) (σ : zS), (WL_Po_read n) x3 x4 σ Q → Wz E Y_Po_read 40 [(0, .ref 17), (3, .int x3), (4, .int x4)] [] σ K)
  | 0 => fun _ _ _ h => h.elim
  | n + 1 => by
    have i := sl_Po_read (E := E)  k n
    exact fun _ _ _ h => sh_Po_read_40 i k h
noncomputable def W_Po_read (a2 : Int32) (a3 : Int32) (σ : zS) (Q : Int32 → zS → Prop) : Prop := ∃ n2 : Nat, Int32.toInt a2 = (n2 : Int) ∧ ((0 + n2 ≤ 1200 ∧ 0 + n2 ≤ 1200) ∧ (∀ σ4 : zS, zIr σ 23 (va_cpy (σ.1 1) (σ.1 23) 0 0 n2) = σ4 → (∀ σ5 : zS, zI σ4 17 9 a2 = σ5 → (W_Po_split  σ5 (fun _ σ6 => ∀ σ7 : zS, zI σ6 17 14 0 = σ7 → ((-2147483648 ≤ (Int32.toInt (σ7.1 17 0)) * 1200 ∧ (Int32.toInt (σ7.1 17 0)) * 1200 ≤ 2147483647) ∧ ∀ r8 : Int32, r8.toInt = (Int32.toInt (σ7.1 17 0)) * 1200 → (∀ σ9 : zS, zI σ7 17 15 r8 = σ9 → ((WL_Po_read fuF) a3 0 σ9 Q))))))))
theorem sF_Po_read {E : xV} {σ : zS} {K : zKt} {a2 : Int32} {a3 : Int32} {Q : Int32 → zS → Prop} (h : W_Po_read a2 a3 σ Q) (k : ∀ v s, Q v s → K (some (.int v)) s) : Cz E Y_Po_read [.ref 17, .ref 1, .int a2, .int a3] σ K := by
  refine z_entry (by decide) (fun a => by rw [sl_len]; exact Nat.le_of_ble_eq_true rfl) rfl ?_
  unfold W_Po_read at h
  refine z_aload_n (f := 1) (i := 1) (q := 1) (pc' := 1) ⟨by decide +kernel, rfl⟩ rfl rfl ?_
  refine z_iconst (i := 0) (v := 0) (pc' := 2) ⟨by decide +kernel, rfl⟩ (by decide) ?_
  refine z_aload_n (f := 0) (i := 0) (q := 0) (pc' := 3) ⟨by decide +kernel, rfl⟩ rfl rfl ?_
  refine w_getr (k := 17) (j := 8) (idx := 38) (pc' := 6) yfxe_7_38 ykfa_17_8 ⟨by decide +kernel, rfl⟩ ?_
  refine z_iconst (i := 0) (v := 0) (pc' := 7) ⟨by decide +kernel, rfl⟩ (by decide) ?_
  refine z_iload_n (f := 2) (i := 2) (q := 2) (pc' := 8) ⟨by decide +kernel, rfl⟩ rfl rfl ?_
  obtain ⟨n2, hi2, h⟩ := h
  obtain ⟨hg3, h⟩ := h
  refine w_copyi (m := 104) (idx := 50) (k0 := 1) (k1 := 23) (a := 0) (b := 0) (c := n2) (pc' := 11) rfl (by decide) (by decide +kernel) ykaa_1 ykaa_23 (by decide) (by decide) (hi2) hg3 (by decide) (by decide) (Nat.le_of_ble_eq_true rfl) ⟨by decide +kernel, rfl⟩ ?_
  generalize hs4 : zIr σ 23 (va_cpy (σ.1 1) (σ.1 23) 0 0 n2) = σ4
  have h := h σ4 hs4
  refine z_aload_n (f := 0) (i := 0) (q := 0) (pc' := 12) ⟨by decide +kernel, rfl⟩ rfl rfl ?_
  refine z_iload_n (f := 2) (i := 2) (q := 2) (pc' := 13) ⟨by decide +kernel, rfl⟩ rfl rfl ?_
  refine w_puti (k := 17) (j := 9) (idx := 56) (pc' := 16) yfxi_7_56 ykfa_17_9 ⟨by decide +kernel, rfl⟩ ?_
  generalize hs5 : zI σ4 17 9 a2 = σ5
  have h := h σ5 hs5
  refine z_aload_n (f := 0) (i := 0) (q := 0) (pc' := 17) ⟨by decide +kernel, rfl⟩ rfl rfl ?_
  refine w_invV (Z := Y_Po_split) (idx := 60) (kb := 17) (As := []) (rest := []) (pc' := 20) cl_7_60 rfl ⟨rfl, rfl⟩ ykfa_17_0 rfl ⟨⟨by decide, by decide⟩, rfl, rfl⟩ ⟨by decide +kernel, rfl⟩ rfl rfl (Nat.le_of_ble_eq_true rfl) rfl rfl ?_
  refine sF_Po_split h (fun _ σ6 h => ?_)
  show Wz E Y_Po_read 20 [(0, .ref 17), (1, .ref 1), (2, .int a2), (3, .int a3)] [] σ6 K
  refine z_aload_n (f := 0) (i := 0) (q := 0) (pc' := 21) ⟨by decide +kernel, rfl⟩ rfl rfl ?_
  refine z_iconst (i := 0) (v := 0) (pc' := 22) ⟨by decide +kernel, rfl⟩ (by decide) ?_
  refine w_puti (k := 17) (j := 14) (idx := 63) (pc' := 25) yfxi_7_63 ykfa_17_14 ⟨by decide +kernel, rfl⟩ ?_
  generalize hs7 : zI σ6 17 14 0 = σ7
  have h := h σ7 hs7
  refine z_aload_n (f := 0) (i := 0) (q := 0) (pc' := 26) ⟨by decide +kernel, rfl⟩ rfl rfl ?_
  refine z_aload_n (f := 0) (i := 0) (q := 0) (pc' := 27) ⟨by decide +kernel, rfl⟩ rfl rfl ?_
  refine w_geti (k := 17) (j := 0) (idx := 66) (pc' := 30) yfxe_7_66 ykfa_17_0 ⟨by decide +kernel, rfl⟩ ?_
  refine z_sipush (i := 1200) (v := 1200) (pc' := 33) ⟨by decide +kernel, rfl⟩ (by decide) ?_
  refine z_imul (pc' := 34) ⟨by decide +kernel, rfl⟩ ?_
  obtain ⟨hb8, h⟩ := h
  have h := h ((σ7.1 17 0) * 1200) (im_ok rfl (by decide) hb8)
  generalize ((σ7.1 17 0) * 1200) = r8 at h ⊢
  refine w_puti (k := 17) (j := 15) (idx := 69) (pc' := 37) yfxi_7_69 ykfa_17_15 ⟨by decide +kernel, rfl⟩ ?_
  generalize hs9 : zI σ7 17 15 r8 = σ9
  have h := h σ9 hs9
  refine z_iconst (i := 0) (v := 0) (pc' := 38) ⟨by decide +kernel, rfl⟩ (by decide) ?_
  refine z_istore (i := 4) (pc' := 40) ⟨by decide +kernel, rfl⟩ (by decide) rfl ?_
  show Wz E Y_Po_read 40 [(4, .int 0), (0, .ref 17), (1, .ref 1), (2, .int a2), (3, .int a3)] [] σ9 K
  refine z_sub [1, 4, 0] rfl ?_
  exact (sl_Po_read k fuF) _ _ _ h
noncomputable def W_H_policy (a1 : Int32) (σ : zS) (Q : Int32 → zS → Prop) : Prop := ((Int32.toInt a1) < 0 → (Q (-1) σ)) ∧ (¬ (Int32.toInt a1) < 0 → (((Int32.toInt a1) ≤ 3 → (((Int32.toInt (σ.1 17 0)) < 8 → (∀ σ4 : zS, zI σ 0 1 0 = σ4 → (W_Po_read (σ.1 0 1) a1 σ4 (fun v5 σ5 => ((Int32.toInt v5) = (-4) → ((-2147483648 ≤ (Int32.toInt (σ5.1 17 0)) - 1 ∧ (Int32.toInt (σ5.1 17 0)) - 1 ≤ 2147483647) ∧ ∀ r8 : Int32, r8.toInt = (Int32.toInt (σ5.1 17 0)) - 1 → (Q r8 σ5))) ∧ (¬ (Int32.toInt v5) = (-4) → ((-2147483648 ≤ (-10) - (Int32.toInt v5) ∧ (-10) - (Int32.toInt v5) ≤ 2147483647) ∧ ∀ r7 : Int32, r7.toInt = (-10) - (Int32.toInt v5) → (Q r7 σ5))))))) ∧ (¬ (Int32.toInt (σ.1 17 0)) < 8 → (Q (-3) σ)))) ∧ (¬ (Int32.toInt a1) ≤ 3 → (Q (-1) σ))))
theorem sF_H_policy {E : xV} {σ : zS} {K : zKt} {a1 : Int32} {Q : Int32 → zS → Prop} (h : W_H_policy a1 σ Q) (k : ∀ v s, Q v s → K (some (.int v)) s) : Cz E Y_H_policy [.ref 0, .int a1] σ K := by
  refine z_entry (by decide) (fun a => by rw [sl_len]; exact Nat.le_of_ble_eq_true rfl) rfl ?_
  unfold W_H_policy at h
  refine z_iload_n (f := 1) (i := 1) (q := 1) (pc' := 1) ⟨by decide +kernel, rfl⟩ rfl rfl ?_
  refine z_if_lt (off := 8) (tgt := 9) (pc' := 4) ⟨by decide +kernel, by decide, rfl⟩ (fun h1 => ?_) (fun h1 => ?_)
  · have h := h.1 (qi_lt_t rfl (by decide) h1)
    refine z_iconst (i := (-1)) (v := (-1)) (pc' := 10) ⟨by decide +kernel, rfl⟩ (by decide) ?_
    exact z_iret (ty := .int) rfl (by rfl) (by decide +kernel) (k _ _ h)
  · have h := h.2 (qi_lt_f rfl (by decide) h1)
    refine z_iload_n (f := 1) (i := 1) (q := 1) (pc' := 5) ⟨by decide +kernel, rfl⟩ rfl rfl ?_
    refine z_iconst (i := 3) (v := 3) (pc' := 6) ⟨by decide +kernel, rfl⟩ (by decide) ?_
    refine z_icmp_le (off := 5) (tgt := 11) (pc' := 9) ⟨by decide +kernel, by decide, rfl⟩ (fun h2 => ?_) (fun h2 => ?_)
    · have h := h.1 (qi_le_t rfl (by decide) h2)
      refine z_aload_n (f := 0) (i := 0) (q := 0) (pc' := 12) ⟨by decide +kernel, rfl⟩ rfl rfl ?_
      refine w_getr (k := 0) (j := 10) (idx := 41) (pc' := 15) yfxe_1_41 ykfa_0_10 ⟨by decide +kernel, rfl⟩ ?_
      refine w_geti (k := 17) (j := 0) (idx := 246) (pc' := 18) yfxe_1_246 ykfa_17_0 ⟨by decide +kernel, rfl⟩ ?_
      refine z_bipush (i := 8) (v := 8) (pc' := 20) ⟨by decide +kernel, rfl⟩ (by decide) ?_
      refine z_icmp_lt (off := 6) (tgt := 26) (pc' := 23) ⟨by decide +kernel, by decide, rfl⟩ (fun h3 => ?_) (fun h3 => ?_)
      · have h := h.1 (qi_lt_t rfl (by decide) h3)
        refine z_aload_n (f := 0) (i := 0) (q := 0) (pc' := 27) ⟨by decide +kernel, rfl⟩ rfl rfl ?_
        refine w_geti (k := 0) (j := 1) (idx := 100) (pc' := 30) yfxe_1_100 ykfa_0_1 ⟨by decide +kernel, rfl⟩ ?_
        refine z_istore_n (f := 2) (i := 2) (pc' := 31) ⟨by decide +kernel, rfl⟩ rfl (by decide) rfl ?_
        show Wz E Y_H_policy 31 [(2, .int (σ.1 0 1)), (0, .ref 0), (1, .int a1)] [] σ K
        refine z_aload_n (f := 0) (i := 0) (q := 1) (pc' := 32) ⟨by decide +kernel, rfl⟩ rfl rfl ?_
        refine z_iconst (i := 0) (v := 0) (pc' := 33) ⟨by decide +kernel, rfl⟩ (by decide) ?_
        refine w_puti (k := 0) (j := 1) (idx := 100) (pc' := 36) yfxi_1_100 ykfa_0_1 ⟨by decide +kernel, rfl⟩ ?_
        generalize hs4 : zI σ 0 1 0 = σ4
        have h := h σ4 hs4
        refine z_aload_n (f := 0) (i := 0) (q := 1) (pc' := 37) ⟨by decide +kernel, rfl⟩ rfl rfl ?_
        refine w_getr (k := 0) (j := 10) (idx := 41) (pc' := 40) yfxe_1_41 ykfa_0_10 ⟨by decide +kernel, rfl⟩ ?_
        refine z_aload_n (f := 0) (i := 0) (q := 1) (pc' := 41) ⟨by decide +kernel, rfl⟩ rfl rfl ?_
        refine w_getr (k := 0) (j := 0) (idx := 9) (pc' := 44) yfxe_1_9 ykfa_0_0 ⟨by decide +kernel, rfl⟩ ?_
        refine z_iload_n (f := 2) (i := 2) (q := 0) (pc' := 45) ⟨by decide +kernel, rfl⟩ rfl rfl ?_
        refine z_iload_n (f := 1) (i := 1) (q := 2) (pc' := 46) ⟨by decide +kernel, rfl⟩ rfl rfl ?_
        refine w_invV (Z := Y_Po_read) (idx := 248) (kb := 17) (As := [.ref 1, .int (σ.1 0 1), .int a1]) (rest := []) (pc' := 49) cl_1_248 rfl ⟨rfl, rfl⟩ ykfa_17_0 rfl ⟨⟨by decide, by decide⟩, rfl, rfl⟩ ⟨by decide +kernel, rfl⟩ rfl rfl (Nat.le_of_ble_eq_true rfl) rfl rfl ?_
        refine sF_Po_read h (fun v5 σ5 h => ?_)
        show Wz E Y_H_policy 49 [(2, .int (σ.1 0 1)), (0, .ref 0), (1, .int a1)] [.int v5] σ5 K
        refine z_istore_n (f := 3) (i := 3) (pc' := 50) ⟨by decide +kernel, rfl⟩ rfl (by decide) rfl ?_
        show Wz E Y_H_policy 50 [(3, .int v5), (2, .int (σ.1 0 1)), (0, .ref 0), (1, .int a1)] [] σ5 K
        refine z_iload_n (f := 3) (i := 3) (q := 0) (pc' := 51) ⟨by decide +kernel, rfl⟩ rfl rfl ?_
        refine z_bipush (i := (-4)) (v := (-4)) (pc' := 53) ⟨by decide +kernel, rfl⟩ (by decide) ?_
        refine z_icmp_ne (off := 15) (tgt := 68) (pc' := 56) ⟨by decide +kernel, by decide, rfl⟩ (fun h6 => ?_) (fun h6 => ?_)
        · have h := h.2 (qi_ne_t rfl (by decide) h6)
          refine z_bipush (i := (-10)) (v := (-10)) (pc' := 70) ⟨by decide +kernel, rfl⟩ (by decide) ?_
          refine z_iload_n (f := 3) (i := 3) (q := 0) (pc' := 71) ⟨by decide +kernel, rfl⟩ rfl rfl ?_
          refine z_isub (pc' := 72) ⟨by decide +kernel, rfl⟩ ?_
          obtain ⟨hb7, h⟩ := h
          have h := h ((-10) - v5) (is_ok (by decide) rfl hb7)
          generalize ((-10) - v5) = r7 at h ⊢
          exact z_iret (ty := .int) rfl (by rfl) (by decide +kernel) (k _ _ h)
        · have h := h.1 (qi_ne_f rfl (by decide) h6)
          refine z_aload_n (f := 0) (i := 0) (q := 2) (pc' := 57) ⟨by decide +kernel, rfl⟩ rfl rfl ?_
          refine w_getr (k := 0) (j := 10) (idx := 41) (pc' := 60) yfxe_1_41 ykfa_0_10 ⟨by decide +kernel, rfl⟩ ?_
          refine w_geti (k := 17) (j := 0) (idx := 246) (pc' := 63) yfxe_1_246 ykfa_17_0 ⟨by decide +kernel, rfl⟩ ?_
          refine z_iconst (i := 1) (v := 1) (pc' := 64) ⟨by decide +kernel, rfl⟩ (by decide) ?_
          refine z_isub (pc' := 65) ⟨by decide +kernel, rfl⟩ ?_
          obtain ⟨hb8, h⟩ := h
          have h := h ((σ5.1 17 0) - 1) (is_ok rfl (by decide) hb8)
          generalize ((σ5.1 17 0) - 1) = r8 at h ⊢
          refine z_goto (off := 7) (tgt := 72) (pc' := 68) ⟨by decide +kernel, by decide, rfl⟩ ?_
          exact z_iret (ty := .int) rfl (by rfl) (by decide +kernel) (k _ _ h)
      · have h := h.2 (qi_lt_f rfl (by decide) h3)
        refine z_bipush (i := (-3)) (v := (-3)) (pc' := 25) ⟨by decide +kernel, rfl⟩ (by decide) ?_
        exact z_iret (ty := .int) rfl (by rfl) (by decide +kernel) (k _ _ h)
    · have h := h.2 (qi_le_f rfl (by decide) h2)
      refine z_iconst (i := (-1)) (v := (-1)) (pc' := 10) ⟨by decide +kernel, rfl⟩ (by decide) ?_
      exact z_iret (ty := .int) rfl (by rfl) (by decide +kernel) (k _ _ h)

end
