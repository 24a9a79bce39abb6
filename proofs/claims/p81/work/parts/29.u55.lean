section
noncomputable def W_M_item (a1 : Int32) (a2 : Int32) (a3 : Int32) (a4 : Int64) (σ : zS) (Q : Int32 → zS → Prop) : Prop := W_M_rowFor a1 a2 σ (fun v1 σ1 => (0 ≤ (Int32.toInt v1) → (∃ n3 : Nat, Int32.toInt v1 = (n3 : Int) ∧ n3 < 480 ∧ (((Int32.toInt (σ1.1 121 n3)) = 0 → (Q (-11) σ1)) ∧ (¬ (Int32.toInt (σ1.1 121 n3)) = 0 → (∀ r5 : Int64, r5.toInt = (Int32.toInt a3) → ((-2147483648 ≤ (Int32.toInt (σ1.1 122 n3)) - 1 ∧ (Int32.toInt (σ1.1 122 n3)) - 1 ≤ 2147483647) ∧ ∀ r6 : Int32, r6.toInt = (Int32.toInt (σ1.1 122 n3)) - 1 → (∀ r7 : Int64, r7.toInt = (Int32.toInt r6) → (W_M_in r5 0 r7 σ1 (fun v8 σ8 => ((Int32.toInt v8) = 0 → (Q (-12) σ8)) ∧ (¬ (Int32.toInt v8) = 0 → ((-2147483648 ≤ 20 * (Int32.toInt v1) ∧ 20 * (Int32.toInt v1) ≤ 2147483647) ∧ ∀ r10 : Int32, r10.toInt = 20 * (Int32.toInt v1) → ((-2147483648 ≤ (Int32.toInt r10) + (Int32.toInt a3) ∧ (Int32.toInt r10) + (Int32.toInt a3) ≤ 2147483647) ∧ ∀ r11 : Int32, r11.toInt = (Int32.toInt r10) + (Int32.toInt a3) → (((Int32.toInt (σ8.1 121 n3)) = 3 → (∀ r22 : Int64, r22.toInt = (Int32.toInt (Int64.toInt32 a4)) → (∃ n23 : Nat, Int32.toInt r11 = (n23 : Int) ∧ n23 < 9600 ∧ (∀ σ24 : zS, zJ σ8 123 n23 r22 = σ24 → (Q 1 σ24))))) ∧ (¬ (Int32.toInt (σ8.1 121 n3)) = 3 → (((Int32.toInt (σ8.1 121 n3)) = 2 → (W_M_isNan a4 σ8 (fun v16 σ16 => ((Int32.toInt v16) = 0 → (∃ n18 : Nat, Int32.toInt r11 = (n18 : Int) ∧ n18 < 9600 ∧ (∀ σ19 : zS, zJ σ16 123 n18 a4 = σ19 → (Q 1 σ19)))) ∧ (¬ (Int32.toInt v16) = 0 → (∃ n20 : Nat, Int32.toInt r11 = (n20 : Int) ∧ n20 < 9600 ∧ (∀ σ21 : zS, zJ σ16 123 n20 9221120237041090560 = σ21 → (Q 1 σ21))))))) ∧ (¬ (Int32.toInt (σ8.1 121 n3)) = 2 → (∃ n14 : Nat, Int32.toInt r11 = (n14 : Int) ∧ n14 < 9600 ∧ (∀ σ15 : zS, zJ σ8 123 n14 a4 = σ15 → (Q 1 σ15))))))))))))))))))) ∧ (¬ 0 ≤ (Int32.toInt v1) → (Q (-1) σ1)))
theorem sF_M_item {E : xV} {σ : zS} {K : zKt} {a1 : Int32} {a2 : Int32} {a3 : Int32} {a4 : Int64} {Q : Int32 → zS → Prop} (h : W_M_item a1 a2 a3 a4 σ Q) (k : ∀ v s, Q v s → K (some (.int v)) s) : Cz E Y_M_item [.ref 110, .int a1, .int a2, .int a3, .long a4] σ K := by
  refine z_entry (by decide) (fun a => by rw [sl_len]; exact Nat.le_of_ble_eq_true rfl) rfl ?_
  unfold W_M_item at h
  refine z_aload_n (f := 0) (i := 0) (q := 0) (pc' := 1) ⟨by decide +kernel, rfl⟩ rfl rfl ?_
  refine z_iload_n (f := 1) (i := 1) (q := 1) (pc' := 2) ⟨by decide +kernel, rfl⟩ rfl rfl ?_
  refine z_iload_n (f := 2) (i := 2) (q := 2) (pc' := 3) ⟨by decide +kernel, rfl⟩ rfl rfl ?_
  refine w_invV (Z := Y_M_rowFor) (idx := 463) (kb := 110) (As := [.int a1, .int a2]) (rest := []) (pc' := 6) cl_13_463 rfl ⟨rfl, rfl⟩ ykfa_110_0 rfl ⟨⟨by decide, by decide⟩, rfl, rfl⟩ ⟨by decide +kernel, rfl⟩ rfl rfl (Nat.le_of_ble_eq_true rfl) rfl rfl ?_
  refine sF_M_rowFor h (fun v1 σ1 h => ?_)
  show Wz E Y_M_item 6 [(0, .ref 110), (1, .int a1), (2, .int a2), (3, .int a3), (4, .long a4)] [.int v1] σ1 K
  refine z_istore (i := 6) (pc' := 8) ⟨by decide +kernel, rfl⟩ (by decide) rfl ?_
  show Wz E Y_M_item 8 [(6, .int v1), (0, .ref 110), (1, .int a1), (2, .int a2), (3, .int a3), (4, .long a4)] [] σ1 K
  refine z_iload (i := 6) (q := 0) (pc' := 10) ⟨by decide +kernel, rfl⟩ rfl ?_
  refine z_if_ge (off := 5) (tgt := 15) (pc' := 13) ⟨by decide +kernel, by decide, rfl⟩ (fun h2 => ?_) (fun h2 => ?_)
  · have h := h.1 (qi_ge_t rfl (by decide) h2)
    refine z_aload_n (f := 0) (i := 0) (q := 1) (pc' := 16) ⟨by decide +kernel, rfl⟩ rfl rfl ?_
    refine w_getr (k := 110) (j := 16) (idx := 41) (pc' := 19) yfxe_13_41 ykfa_110_16 ⟨by decide +kernel, rfl⟩ ?_
    refine z_iload (i := 6) (q := 0) (pc' := 21) ⟨by decide +kernel, rfl⟩ rfl ?_
    obtain ⟨n3, hi3, hz3, h⟩ := h
    refine w_iald (k := 121) (n := n3) (pc' := 22) ykaa_121 (hi3) (hz3) ⟨by decide +kernel, rfl⟩ ?_
    refine z_if_ne (off := 6) (tgt := 28) (pc' := 25) ⟨by decide +kernel, by decide, rfl⟩ (fun h4 => ?_) (fun h4 => ?_)
    · have h := h.2 (qi_ne_t rfl (by decide) h4)
      refine z_iload_n (f := 3) (i := 3) (q := 4) (pc' := 29) ⟨by decide +kernel, rfl⟩ rfl rfl ?_
      refine z_i2l (v := (Int32.toInt64 a3)) (pc' := 30) ⟨by decide +kernel, rfl⟩ rfl ?_
      have h := h (Int32.toInt64 a3) (Int32.toInt_toInt64 _)
      generalize (Int32.toInt64 a3) = r5 at h ⊢
      refine z_lconst (i := 0) (v := 0) (pc' := 31) ⟨by decide +kernel, rfl⟩ (by decide) ?_
      refine z_aload_n (f := 0) (i := 0) (q := 1) (pc' := 32) ⟨by decide +kernel, rfl⟩ rfl rfl ?_
      refine w_getr (k := 110) (j := 17) (idx := 44) (pc' := 35) yfxe_13_44 ykfa_110_17 ⟨by decide +kernel, rfl⟩ ?_
      refine z_iload (i := 6) (q := 0) (pc' := 37) ⟨by decide +kernel, rfl⟩ rfl ?_
      refine w_iald (k := 122) (n := n3) (pc' := 38) ykaa_122 (hi3) (hz3) ⟨by decide +kernel, rfl⟩ ?_
      refine z_iconst (i := 1) (v := 1) (pc' := 39) ⟨by decide +kernel, rfl⟩ (by decide) ?_
      refine z_isub (pc' := 40) ⟨by decide +kernel, rfl⟩ ?_
      obtain ⟨hb6, h⟩ := h
      have h := h ((σ1.1 122 n3) - 1) (is_ok rfl (by decide) hb6)
      generalize ((σ1.1 122 n3) - 1) = r6 at h ⊢
      refine z_i2l (v := (Int32.toInt64 r6)) (pc' := 41) ⟨by decide +kernel, rfl⟩ rfl ?_
      have h := h (Int32.toInt64 r6) (Int32.toInt_toInt64 _)
      generalize (Int32.toInt64 r6) = r7 at h ⊢
      refine w_invS (Z := Y_M_in) (idx := 333) (As := [.long r5, .long 0, .long r7]) (rest := []) (pc' := 44) cl_13_333 rfl ⟨rfl, rfl⟩ ⟨⟨by decide, by decide⟩, rfl, rfl⟩ ⟨by decide +kernel, rfl⟩ rfl rfl (Nat.le_of_ble_eq_true rfl) rfl rfl ?_
      refine sF_M_in h (fun v8 σ8 h => ?_)
      show Wz E Y_M_item 44 [(6, .int v1), (0, .ref 110), (1, .int a1), (2, .int a2), (3, .int a3), (4, .long a4)] [.int v8] σ8 K
      refine z_if_ne (off := 6) (tgt := 50) (pc' := 47) ⟨by decide +kernel, by decide, rfl⟩ (fun h9 => ?_) (fun h9 => ?_)
      · have h := h.2 (qi_ne_t rfl (by decide) h9)
        refine z_aload_n (f := 0) (i := 0) (q := 1) (pc' := 51) ⟨by decide +kernel, rfl⟩ rfl rfl ?_
        refine w_getr (k := 110) (j := 18) (idx := 47) (pc' := 54) yfxe_13_47 ykfa_110_18 ⟨by decide +kernel, rfl⟩ ?_
        refine z_bipush (i := 20) (v := 20) (pc' := 56) ⟨by decide +kernel, rfl⟩ (by decide) ?_
        refine z_iload (i := 6) (q := 0) (pc' := 58) ⟨by decide +kernel, rfl⟩ rfl ?_
        refine z_imul (pc' := 59) ⟨by decide +kernel, rfl⟩ ?_
        obtain ⟨hb10, h⟩ := h
        have h := h (20 * v1) (im_ok (by decide) rfl hb10)
        generalize (20 * v1) = r10 at h ⊢
        refine z_iload_n (f := 3) (i := 3) (q := 4) (pc' := 60) ⟨by decide +kernel, rfl⟩ rfl rfl ?_
        refine z_iadd (pc' := 61) ⟨by decide +kernel, rfl⟩ ?_
        obtain ⟨hb11, h⟩ := h
        have h := h (r10 + a3) (ia_ok rfl rfl hb11)
        generalize (r10 + a3) = r11 at h ⊢
        refine z_aload_n (f := 0) (i := 0) (q := 1) (pc' := 62) ⟨by decide +kernel, rfl⟩ rfl rfl ?_
        refine w_getr (k := 110) (j := 16) (idx := 41) (pc' := 65) yfxe_13_41 ykfa_110_16 ⟨by decide +kernel, rfl⟩ ?_
        refine z_iload (i := 6) (q := 0) (pc' := 67) ⟨by decide +kernel, rfl⟩ rfl ?_
        refine w_iald (k := 121) (n := n3) (pc' := 68) ykaa_121 (hi3) (hz3) ⟨by decide +kernel, rfl⟩ ?_
        refine z_iconst (i := 3) (v := 3) (pc' := 69) ⟨by decide +kernel, rfl⟩ (by decide) ?_
        refine z_icmp_ne (off := 10) (tgt := 79) (pc' := 72) ⟨by decide +kernel, by decide, rfl⟩ (fun h12 => ?_) (fun h12 => ?_)
        · have h := h.2 (qi_ne_t rfl (by decide) h12)
          refine z_aload_n (f := 0) (i := 0) (q := 1) (pc' := 80) ⟨by decide +kernel, rfl⟩ rfl rfl ?_
          refine w_getr (k := 110) (j := 16) (idx := 41) (pc' := 83) yfxe_13_41 ykfa_110_16 ⟨by decide +kernel, rfl⟩ ?_
          refine z_iload (i := 6) (q := 0) (pc' := 85) ⟨by decide +kernel, rfl⟩ rfl ?_
          refine w_iald (k := 121) (n := n3) (pc' := 86) ykaa_121 (hi3) (hz3) ⟨by decide +kernel, rfl⟩ ?_
          refine z_iconst (i := 2) (v := 2) (pc' := 87) ⟨by decide +kernel, rfl⟩ (by decide) ?_
          refine z_icmp_ne (off := 17) (tgt := 104) (pc' := 90) ⟨by decide +kernel, by decide, rfl⟩ (fun h13 => ?_) (fun h13 => ?_)
          · have h := h.2 (qi_ne_t rfl (by decide) h13)
            refine z_lload (i := 4) (q := 5) (pc' := 106) ⟨by decide +kernel, rfl⟩ rfl ?_
            obtain ⟨n14, hi14, hz14, h⟩ := h
            refine w_last (k := 123) (n := n14) (pc' := 107) ykaa_123 (hi14) (hz14) ⟨by decide +kernel, rfl⟩ ?_
            generalize hs15 : zJ σ8 123 n14 a4 = σ15
            have h := h σ15 hs15
            refine z_iconst (i := 1) (v := 1) (pc' := 108) ⟨by decide +kernel, rfl⟩ (by decide) ?_
            exact z_iret (ty := .int) rfl (by rfl) (by decide +kernel) (k _ _ h)
          · have h := h.1 (qi_ne_f rfl (by decide) h13)
            refine z_lload (i := 4) (q := 5) (pc' := 92) ⟨by decide +kernel, rfl⟩ rfl ?_
            refine w_invS (Z := Y_M_isNan) (idx := 367) (As := [.long a4]) (rest := [.int r11, .ref 123]) (pc' := 95) cl_13_367 rfl ⟨rfl, rfl⟩ ⟨⟨by decide, by decide⟩, rfl, rfl⟩ ⟨by decide +kernel, rfl⟩ rfl rfl (Nat.le_of_ble_eq_true rfl) rfl rfl ?_
            refine sF_M_isNan h (fun v16 σ16 h => ?_)
            show Wz E Y_M_item 95 [(6, .int v1), (0, .ref 110), (1, .int a1), (2, .int a2), (3, .int a3), (4, .long a4)] [.int v16, .int r11, .ref 123] σ16 K
            refine z_if_eq (off := 9) (tgt := 104) (pc' := 98) ⟨by decide +kernel, by decide, rfl⟩ (fun h17 => ?_) (fun h17 => ?_)
            · have h := h.1 (qi_eq_t rfl (by decide) h17)
              refine z_lload (i := 4) (q := 5) (pc' := 106) ⟨by decide +kernel, rfl⟩ rfl ?_
              obtain ⟨n18, hi18, hz18, h⟩ := h
              refine w_last (k := 123) (n := n18) (pc' := 107) ykaa_123 (hi18) (hz18) ⟨by decide +kernel, rfl⟩ ?_
              generalize hs19 : zJ σ16 123 n18 a4 = σ19
              have h := h σ19 hs19
              refine z_iconst (i := 1) (v := 1) (pc' := 108) ⟨by decide +kernel, rfl⟩ (by decide) ?_
              exact z_iret (ty := .int) rfl (by rfl) (by decide +kernel) (k _ _ h)
            · have h := h.2 (qi_eq_f rfl (by decide) h17)
              refine z_ldc2 (i := 377) (v := 9221120237041090560) (pc' := 101) ⟨by decide +kernel, rfl⟩ k_11_28 ?_
              refine z_goto (off := 5) (tgt := 106) (pc' := 104) ⟨by decide +kernel, by decide, rfl⟩ ?_
              obtain ⟨n20, hi20, hz20, h⟩ := h
              refine w_last (k := 123) (n := n20) (pc' := 107) ykaa_123 (hi20) (hz20) ⟨by decide +kernel, rfl⟩ ?_
              generalize hs21 : zJ σ16 123 n20 9221120237041090560 = σ21
              have h := h σ21 hs21
              refine z_iconst (i := 1) (v := 1) (pc' := 108) ⟨by decide +kernel, rfl⟩ (by decide) ?_
              exact z_iret (ty := .int) rfl (by rfl) (by decide +kernel) (k _ _ h)
        · have h := h.1 (qi_ne_f rfl (by decide) h12)
          refine z_lload (i := 4) (q := 5) (pc' := 74) ⟨by decide +kernel, rfl⟩ rfl ?_
          refine z_l2i (pc' := 75) ⟨by decide +kernel, rfl⟩ rfl ?_
          refine z_i2l (v := (Int32.toInt64 (Int64.toInt32 a4))) (pc' := 76) ⟨by decide +kernel, rfl⟩ rfl ?_
          have h := h (Int32.toInt64 (Int64.toInt32 a4)) (Int32.toInt_toInt64 _)
          generalize (Int32.toInt64 (Int64.toInt32 a4)) = r22 at h ⊢
          refine z_goto (off := 30) (tgt := 106) (pc' := 79) ⟨by decide +kernel, by decide, rfl⟩ ?_
          obtain ⟨n23, hi23, hz23, h⟩ := h
          refine w_last (k := 123) (n := n23) (pc' := 107) ykaa_123 (hi23) (hz23) ⟨by decide +kernel, rfl⟩ ?_
          generalize hs24 : zJ σ8 123 n23 r22 = σ24
          have h := h σ24 hs24
          refine z_iconst (i := 1) (v := 1) (pc' := 108) ⟨by decide +kernel, rfl⟩ (by decide) ?_
          exact z_iret (ty := .int) rfl (by rfl) (by decide +kernel) (k _ _ h)
      · have h := h.1 (qi_ne_f rfl (by decide) h9)
        refine z_bipush (i := (-12)) (v := (-12)) (pc' := 49) ⟨by decide +kernel, rfl⟩ (by decide) ?_
        exact z_iret (ty := .int) rfl (by rfl) (by decide +kernel) (k _ _ h)
    · have h := h.1 (qi_ne_f rfl (by decide) h4)
      refine z_bipush (i := (-11)) (v := (-11)) (pc' := 27) ⟨by decide +kernel, rfl⟩ (by decide) ?_
      exact z_iret (ty := .int) rfl (by rfl) (by decide +kernel) (k _ _ h)
  · have h := h.2 (qi_ge_f rfl (by decide) h2)
    refine z_iconst (i := (-1)) (v := (-1)) (pc' := 14) ⟨by decide +kernel, rfl⟩ (by decide) ?_
    exact z_iret (ty := .int) rfl (by rfl) (by decide +kernel) (k _ _ h)
noncomputable def WB_M_copy_130 (F130 : Int32 → Int32 → Int32 → Int32 → Int32 → Int32 → zS → (Int32 → zS → Prop) → Prop) (F168 : Int32 → Int32 → Int32 → Int32 → zS → (Int32 → zS → Prop) → Prop) (x3 : Int32) (x6 : Int32) (x7 : Int32) (x8 : Int32) (x9 : Int32) (x10 : Int32) (σ : zS) (Q : Int32 → zS → Prop) : Prop := ((Int32.toInt x7) ≤ (Int32.toInt x10) → (F168 x6 x7 x9 0 σ Q)) ∧ (¬ (Int32.toInt x7) ≤ (Int32.toInt x10) → ((-2147483648 ≤ 20 * (Int32.toInt x8) ∧ 20 * (Int32.toInt x8) ≤ 2147483647) ∧ ∀ r2 : Int32, r2.toInt = 20 * (Int32.toInt x8) → ((-2147483648 ≤ (Int32.toInt r2) + (Int32.toInt x3) ∧ (Int32.toInt r2) + (Int32.toInt x3) ≤ 2147483647) ∧ ∀ r3 : Int32, r3.toInt = (Int32.toInt r2) + (Int32.toInt x3) → ((-2147483648 ≤ (Int32.toInt r3) + (Int32.toInt x10) ∧ (Int32.toInt r3) + (Int32.toInt x10) ≤ 2147483647) ∧ ∀ r4 : Int32, r4.toInt = (Int32.toInt r3) + (Int32.toInt x10) → (∃ n5 : Nat, Int32.toInt r4 = (n5 : Int) ∧ n5 < 9600 ∧ (∃ n6 : Nat, Int32.toInt x10 = (n6 : Int) ∧ n6 < 20 ∧ (∀ σ7 : zS, zJ σ 124 n6 (σ.2 123 n5) = σ7 → ((-2147483648 ≤ (Int32.toInt x10) + 1 ∧ (Int32.toInt x10) + 1 ≤ 2147483647) ∧ ∀ r8 : Int32, r8.toInt = (Int32.toInt x10) + 1 → (F130 x3 x6 x7 x8 x9 r8 σ7 Q)))))))))
theorem sh_M_copy_130 {E : xV} {σ : zS} {K : zKt} {F130 : Int32 → Int32 → Int32 → Int32 → Int32 → Int32 → zS → (Int32 → zS → Prop) → Prop} {F168 : Int32 → Int32 → Int32 → Int32 → zS → (Int32 → zS → Prop) → Prop} {x3 : Int32} {x6 : Int32} {x7 : Int32} {x8 : Int32} {x9 : Int32} {x10 : Int32} {Q : Int32 → zS → Prop} (f130 : ∀ (x3 : Int32) (x6 : Int32) (x7 : Int32) (x8 : Int32) (x9 : Int32) (x10 : Int32) (σ : zS), F130 x3 x6 x7 x8 x9 x10 σ Q → Wz E Y_M_copy 130 [(0, .ref 110), (3, .int x3), (6, .int x6), (7, .int x7), (8, .int x8), (9, .int x9), (10, .int x10)] [] σ K) (f168 : ∀ (x6 : Int32) (x7 : Int32) (x9 : Int32) (x10 : Int32) (σ : zS), F168 x6 x7 x9 x10 σ Q → Wz E Y_M_copy 168 [(0, .ref 110), (6, .int x6), (7, .int x7), (9, .int x9), (10, .int x10)] [] σ K) (k : ∀ v s, Q v s → K (some (.int v)) s) (h : WB_M_copy_130 F130 F168 x3 x6 x7 x8 x9 x10 σ Q) : Wz E Y_M_copy 130 [(0, .ref 110), (3, .int x3), (6, .int x6), (7, .int x7), (8, .int x8), (9, .int x9), (10, .int x10)] [] σ K := by
  unfold WB_M_copy_130 at h
  refine z_iload (i := 10) (q := 6) (pc' := 132) ⟨by decide +kernel, rfl⟩ rfl ?_
  refine z_iload (i := 7) (q := 3) (pc' := 134) ⟨by decide +kernel, rfl⟩ rfl ?_
  refine z_icmp_ge (off := 31) (tgt := 165) (pc' := 137) ⟨by decide +kernel, by decide, rfl⟩ (fun h1 => ?_) (fun h1 => ?_)
  · have h := h.1 (qi_ge_t rfl rfl h1)
    refine z_iconst (i := 0) (v := 0) (pc' := 166) ⟨by decide +kernel, rfl⟩ (by decide) ?_
    refine z_istore (i := 10) (pc' := 168) ⟨by decide +kernel, rfl⟩ (by decide) rfl ?_
    show Wz E Y_M_copy 168 [(10, .int 0), (0, .ref 110), (3, .int x3), (6, .int x6), (7, .int x7), (8, .int x8), (9, .int x9)] [] σ K
    refine z_sub [1, 3, 4, 6, 0] rfl ?_
    exact f168 _ _ _ _ _ h
  · have h := h.2 (qi_ge_f rfl rfl h1)
    refine z_aload_n (f := 0) (i := 0) (q := 0) (pc' := 138) ⟨by decide +kernel, rfl⟩ rfl rfl ?_
    refine w_getr (k := 110) (j := 19) (idx := 51) (pc' := 141) yfxe_13_51 ykfa_110_19 ⟨by decide +kernel, rfl⟩ ?_
    refine z_iload (i := 10) (q := 6) (pc' := 143) ⟨by decide +kernel, rfl⟩ rfl ?_
    refine z_aload_n (f := 0) (i := 0) (q := 0) (pc' := 144) ⟨by decide +kernel, rfl⟩ rfl rfl ?_
    refine w_getr (k := 110) (j := 18) (idx := 47) (pc' := 147) yfxe_13_47 ykfa_110_18 ⟨by decide +kernel, rfl⟩ ?_
    refine z_bipush (i := 20) (v := 20) (pc' := 149) ⟨by decide +kernel, rfl⟩ (by decide) ?_
    refine z_iload (i := 8) (q := 4) (pc' := 151) ⟨by decide +kernel, rfl⟩ rfl ?_
    refine z_imul (pc' := 152) ⟨by decide +kernel, rfl⟩ ?_
    obtain ⟨hb2, h⟩ := h
    have h := h (20 * x8) (im_ok (by decide) rfl hb2)
    generalize (20 * x8) = r2 at h ⊢
    refine z_iload_n (f := 3) (i := 3) (q := 1) (pc' := 153) ⟨by decide +kernel, rfl⟩ rfl rfl ?_
    refine z_iadd (pc' := 154) ⟨by decide +kernel, rfl⟩ ?_
    obtain ⟨hb3, h⟩ := h
    have h := h (r2 + x3) (ia_ok rfl rfl hb3)
    generalize (r2 + x3) = r3 at h ⊢
    refine z_iload (i := 10) (q := 6) (pc' := 156) ⟨by decide +kernel, rfl⟩ rfl ?_
    refine z_iadd (pc' := 157) ⟨by decide +kernel, rfl⟩ ?_
    obtain ⟨hb4, h⟩ := h
    have h := h (r3 + x10) (ia_ok rfl rfl hb4)
    generalize (r3 + x10) = r4 at h ⊢
    obtain ⟨n5, hi5, hz5, h⟩ := h
    refine w_lald (k := 123) (n := n5) (pc' := 158) ykaa_123 (hi5) (hz5) ⟨by decide +kernel, rfl⟩ ?_
    obtain ⟨n6, hi6, hz6, h⟩ := h
    refine w_last (k := 124) (n := n6) (pc' := 159) ykaa_124 (hi6) (hz6) ⟨by decide +kernel, rfl⟩ ?_
    generalize hs7 : zJ σ 124 n6 (σ.2 123 n5) = σ7
    have h := h σ7 hs7
    refine z_iinc (i := 10) (z := 1) (q := 6) (pc' := 162) ⟨by decide +kernel, rfl⟩ rfl rfl (by decide) rfl ?_
    show Wz E Y_M_copy 162 [(10, .int (x10 + Int32.ofInt 1)), (0, .ref 110), (3, .int x3), (6, .int x6), (7, .int x7), (8, .int x8), (9, .int x9)] [] σ7 K
    obtain ⟨hb8, h⟩ := h
    have h := h (x10 + Int32.ofInt 1) (ia_ok rfl (by decide) hb8)
    generalize (x10 + Int32.ofInt 1) = r8 at h ⊢
    refine z_goto (off := (-32)) (tgt := 130) (pc' := 165) ⟨by decide +kernel, by decide, rfl⟩ ?_
    refine z_sub [1, 2, 3, 4, 5, 6, 0] rfl ?_
    exact f130 _ _ _ _ _ _ _ h
noncomputable def WB_M_copy_168 (F130 : Int32 → Int32 → Int32 → Int32 → Int32 → Int32 → zS → (Int32 → zS → Prop) → Prop) (F168 : Int32 → Int32 → Int32 → Int32 → zS → (Int32 → zS → Prop) → Prop) (x6 : Int32) (x7 : Int32) (x9 : Int32) (x10 : Int32) (σ : zS) (Q : Int32 → zS → Prop) : Prop := ((Int32.toInt x7) ≤ (Int32.toInt x10) → (Q x7 σ)) ∧ (¬ (Int32.toInt x7) ≤ (Int32.toInt x10) → ((-2147483648 ≤ 20 * (Int32.toInt x9) ∧ 20 * (Int32.toInt x9) ≤ 2147483647) ∧ ∀ r2 : Int32, r2.toInt = 20 * (Int32.toInt x9) → ((-2147483648 ≤ (Int32.toInt r2) + (Int32.toInt x6) ∧ (Int32.toInt r2) + (Int32.toInt x6) ≤ 2147483647) ∧ ∀ r3 : Int32, r3.toInt = (Int32.toInt r2) + (Int32.toInt x6) → ((-2147483648 ≤ (Int32.toInt r3) + (Int32.toInt x10) ∧ (Int32.toInt r3) + (Int32.toInt x10) ≤ 2147483647) ∧ ∀ r4 : Int32, r4.toInt = (Int32.toInt r3) + (Int32.toInt x10) → (∃ n5 : Nat, Int32.toInt x10 = (n5 : Int) ∧ n5 < 20 ∧ (∃ n6 : Nat, Int32.toInt r4 = (n6 : Int) ∧ n6 < 9600 ∧ (∀ σ7 : zS, zJ σ 123 n6 (σ.2 124 n5) = σ7 → ((-2147483648 ≤ (Int32.toInt x10) + 1 ∧ (Int32.toInt x10) + 1 ≤ 2147483647) ∧ ∀ r8 : Int32, r8.toInt = (Int32.toInt x10) + 1 → (F168 x6 x7 x9 r8 σ7 Q)))))))))
theorem sh_M_copy_168 {E : xV} {σ : zS} {K : zKt} {F130 : Int32 → Int32 → Int32 → Int32 → Int32 → Int32 → zS → (Int32 → zS → Prop) → Prop} {F168 : Int32 → Int32 → Int32 → Int32 → zS → (Int32 → zS → Prop) → Prop} {x6 : Int32} {x7 : Int32} {x9 : Int32} {x10 : Int32} {Q : Int32 → zS → Prop} (f130 : ∀ (x3 : Int32) (x6 : Int32) (x7 : Int32) (x8 : Int32) (x9 : Int32) (x10 : Int32) (σ : zS), F130 x3 x6 x7 x8 x9 x10 σ Q → Wz E Y_M_copy 130 [(0, .ref 110), (3, .int x3), (6, .int x6), (7, .int x7), (8, .int x8), (9, .int x9), (10, .int x10)] [] σ K) (f168 : ∀ (x6 : Int32) (x7 : Int32) (x9 : Int32) (x10 : Int32) (σ : zS), F168 x6 x7 x9 x10 σ Q → Wz E Y_M_copy 168 [(0, .ref 110), (6, .int x6), (7, .int x7), (9, .int x9), (10, .int x10)] [] σ K) (k : ∀ v s, Q v s → K (some (.int v)) s) (h : WB_M_copy_168 F130 F168 x6 x7 x9 x10 σ Q) : Wz E Y_M_copy 168 [(0, .ref 110), (6, .int x6), (7, .int x7), (9, .int x9), (10, .int x10)] [] σ K := by
  unfold WB_M_copy_168 at h
  refine z_iload (i := 10) (q := 4) (pc' := 170) ⟨by decide +kernel, rfl⟩ rfl ?_
  refine z_iload (i := 7) (q := 2) (pc' := 172) ⟨by decide +kernel, rfl⟩ rfl ?_
  refine z_icmp_ge (off := 32) (tgt := 204) (pc' := 175) ⟨by decide +kernel, by decide, rfl⟩ (fun h1 => ?_) (fun h1 => ?_)
  · have h := h.1 (qi_ge_t rfl rfl h1)
    refine z_iload (i := 7) (q := 2) (pc' := 206) ⟨by decide +kernel, rfl⟩ rfl ?_
    exact z_iret (ty := .int) rfl (by rfl) (by decide +kernel) (k _ _ h)
  · have h := h.2 (qi_ge_f rfl rfl h1)
    refine z_aload_n (f := 0) (i := 0) (q := 0) (pc' := 176) ⟨by decide +kernel, rfl⟩ rfl rfl ?_
    refine w_getr (k := 110) (j := 18) (idx := 47) (pc' := 179) yfxe_13_47 ykfa_110_18 ⟨by decide +kernel, rfl⟩ ?_
    refine z_bipush (i := 20) (v := 20) (pc' := 181) ⟨by decide +kernel, rfl⟩ (by decide) ?_
    refine z_iload (i := 9) (q := 3) (pc' := 183) ⟨by decide +kernel, rfl⟩ rfl ?_
    refine z_imul (pc' := 184) ⟨by decide +kernel, rfl⟩ ?_
    obtain ⟨hb2, h⟩ := h
    have h := h (20 * x9) (im_ok (by decide) rfl hb2)
    generalize (20 * x9) = r2 at h ⊢
    refine z_iload (i := 6) (q := 1) (pc' := 186) ⟨by decide +kernel, rfl⟩ rfl ?_
    refine z_iadd (pc' := 187) ⟨by decide +kernel, rfl⟩ ?_
    obtain ⟨hb3, h⟩ := h
    have h := h (r2 + x6) (ia_ok rfl rfl hb3)
    generalize (r2 + x6) = r3 at h ⊢
    refine z_iload (i := 10) (q := 4) (pc' := 189) ⟨by decide +kernel, rfl⟩ rfl ?_
    refine z_iadd (pc' := 190) ⟨by decide +kernel, rfl⟩ ?_
    obtain ⟨hb4, h⟩ := h
    have h := h (r3 + x10) (ia_ok rfl rfl hb4)
    generalize (r3 + x10) = r4 at h ⊢
    refine z_aload_n (f := 0) (i := 0) (q := 0) (pc' := 191) ⟨by decide +kernel, rfl⟩ rfl rfl ?_
    refine w_getr (k := 110) (j := 19) (idx := 51) (pc' := 194) yfxe_13_51 ykfa_110_19 ⟨by decide +kernel, rfl⟩ ?_
    refine z_iload (i := 10) (q := 4) (pc' := 196) ⟨by decide +kernel, rfl⟩ rfl ?_
    obtain ⟨n5, hi5, hz5, h⟩ := h
    refine w_lald (k := 124) (n := n5) (pc' := 197) ykaa_124 (hi5) (hz5) ⟨by decide +kernel, rfl⟩ ?_
    obtain ⟨n6, hi6, hz6, h⟩ := h
    refine w_last (k := 123) (n := n6) (pc' := 198) ykaa_123 (hi6) (hz6) ⟨by decide +kernel, rfl⟩ ?_
    generalize hs7 : zJ σ 123 n6 (σ.2 124 n5) = σ7
    have h := h σ7 hs7
    refine z_iinc (i := 10) (z := 1) (q := 4) (pc' := 201) ⟨by decide +kernel, rfl⟩ rfl rfl (by decide) rfl ?_
    show Wz E Y_M_copy 201 [(10, .int (x10 + Int32.ofInt 1)), (0, .ref 110), (6, .int x6), (7, .int x7), (9, .int x9)] [] σ7 K
    obtain ⟨hb8, h⟩ := h
    have h := h (x10 + Int32.ofInt 1) (ia_ok rfl (by decide) hb8)
    generalize (x10 + Int32.ofInt 1) = r8 at h ⊢
    refine z_goto (off := (-33)) (tgt := 168) (pc' := 204) ⟨by decide +kernel, by decide, rfl⟩ ?_
    refine z_sub [1, 2, 3, 4, 0] rfl ?_
    exact f168 _ _ _ _ _ h
noncomputable def WL_M_copy : Nat → (Int32 → Int32 → Int32 → Int32 → Int32 → Int32 → zS → (Int32 → zS → Prop) → Prop) × (Int32 → Int32 → Int32 → Int32 → zS → (Int32 → zS → Prop) → Prop)
  | 0 => (fun _ _ _ _ _ _ _ _ => False, fun _ _ _ _ _ _ => False)
  | n + 1 => (WB_M_copy_130 (WL_M_copy n).1 (WL_M_copy n).2, WB_M_copy_168 (WL_M_copy n).1 (WL_M_copy n).2)
theorem wl_M_copy_130 {n : Nat} {x3 : Int32} {x6 : Int32} {x7 : Int32} {x8 : Int32} {x9 : Int32} {x10 : Int32} {σ : zS} {Q : Int32 → zS → Prop} (h : WB_M_copy_130 (WL_M_copy n).1 (WL_M_copy n).2 x3 x6 x7 x8 x9 x10 σ Q) : (WL_M_copy (n + 1)).1 x3 x6 x7 x8 x9 x10 σ Q := h
theorem wl_M_copy_168 {n : Nat} {x6 : Int32} {x7 : Int32} {x9 : Int32} {x10 : Int32} {σ : zS} {Q : Int32 → zS → Prop} (h : WB_M_copy_168 (WL_M_copy n).1 (WL_M_copy n).2 x6 x7 x9 x10 σ Q) : (WL_M_copy (n + 1)).2 x6 x7 x9 x10 σ Q := h
theorem sl_M_copy {E : xV} {K : zKt} {Q : Int32 → zS → Prop} (k : ∀ v s, Q v s → K (some (.int v)) s) : ∀ n, (∀ (x3 : Int32) (x6 : Int32) (x7 : Int32) (x8 : Int32) (x9 : Int32) (x10 : Int32) (σ : zS), (WL_M_copy n).1 x3 x6 x7 x8 x9 x10 σ Q → Wz E Y_M_copy 130 [(0, .ref 110), (3, .int x3), (6, .int x6), (7, .int x7), (8, .int x8), (9, .int x9), (10, .int x10)] [] σ K) ∧ (∀ (x6 : Int32) (x7 : Int32) (x9 : Int32) (x10 : Int32) (σ : zS), (WL_M_copy n).2 x6 x7 x9 x10 σ Q → Wz E Y_M_copy 168 [(0, .ref 110), (6, .int x6), (7, .int x7), (9, .int x9), (10, .int x10)] [] σ K)
  | 0 => ⟨fun _ _ _ _ _ _ _ h => h.elim, fun _ _ _ _ _ h => h.elim⟩
  | n + 1 => by
    have i := sl_M_copy (E := E)  k n
    exact ⟨fun _ _ _ _ _ _ _ h => sh_M_copy_130 i.1 i.2 k h, fun _ _ _ _ _ h => sh_M_copy_168 i.1 i.2 k h⟩
noncomputable def W_M_copy (a1 : Int32) (a2 : Int32) (a3 : Int32) (a4 : Int32) (a5 : Int32) (a6 : Int32) (a7 : Int32) (σ : zS) (Q : Int32 → zS → Prop) : Prop := W_M_rowFor a1 a2 σ (fun v1 σ1 => W_M_rowFor a4 a5 σ1 (fun v2 σ2 => ((Int32.toInt v1) < 0 → (Q (-1) σ2)) ∧ (¬ (Int32.toInt v1) < 0 → ((0 ≤ (Int32.toInt v2) → (∃ n5 : Nat, Int32.toInt v1 = (n5 : Int) ∧ n5 < 480 ∧ (((Int32.toInt (σ2.1 121 n5)) = 0 → (Q (-11) σ2)) ∧ (¬ (Int32.toInt (σ2.1 121 n5)) = 0 → (∃ n7 : Nat, Int32.toInt v2 = (n7 : Int) ∧ n7 < 480 ∧ (((Int32.toInt (σ2.1 121 n7)) = 0 → (Q (-11) σ2)) ∧ (¬ (Int32.toInt (σ2.1 121 n7)) = 0 → (((Int32.toInt (σ2.1 121 n5)) = (Int32.toInt (σ2.1 121 n7)) → (((Int32.toInt a3) < 0 → (Q (-12) σ2)) ∧ (¬ (Int32.toInt a3) < 0 → (((Int32.toInt a6) < 0 → (Q (-12) σ2)) ∧ (¬ (Int32.toInt a6) < 0 → (((Int32.toInt a7) < 0 → (Q (-12) σ2)) ∧ (¬ (Int32.toInt a7) < 0 → (∀ r13 : Int64, r13.toInt = (Int32.toInt a3) → (∀ r14 : Int64, r14.toInt = (Int32.toInt a7) → ((-9223372036854775808 ≤ (Int64.toInt r13) + (Int64.toInt r14) ∧ (Int64.toInt r13) + (Int64.toInt r14) ≤ 9223372036854775807) ∧ ∀ r15 : Int64, r15.toInt = (Int64.toInt r13) + (Int64.toInt r14) → (∀ r16 : Int64, r16.toInt = (Int32.toInt (σ2.1 122 n5)) → (((Int64.toInt r16) < (Int64.toInt r15) → (Q (-12) σ2)) ∧ (¬ (Int64.toInt r16) < (Int64.toInt r15) → (∀ r18 : Int64, r18.toInt = (Int32.toInt a6) → (∀ r19 : Int64, r19.toInt = (Int32.toInt a7) → ((-9223372036854775808 ≤ (Int64.toInt r18) + (Int64.toInt r19) ∧ (Int64.toInt r18) + (Int64.toInt r19) ≤ 9223372036854775807) ∧ ∀ r20 : Int64, r20.toInt = (Int64.toInt r18) + (Int64.toInt r19) → (∀ r21 : Int64, r21.toInt = (Int32.toInt (σ2.1 122 n7)) → (((Int64.toInt r20) ≤ (Int64.toInt r21) → ((WL_M_copy fuF).1 a3 a6 a7 v1 v2 0 σ2 Q)) ∧ (¬ (Int64.toInt r20) ≤ (Int64.toInt r21) → (Q (-12) σ2)))))))))))))))))))) ∧ (¬ (Int32.toInt (σ2.1 121 n5)) = (Int32.toInt (σ2.1 121 n7)) → (Q (-14) σ2)))))))))) ∧ (¬ 0 ≤ (Int32.toInt v2) → (Q (-1) σ2))))))
theorem sF_M_copy {E : xV} {σ : zS} {K : zKt} {a1 : Int32} {a2 : Int32} {a3 : Int32} {a4 : Int32} {a5 : Int32} {a6 : Int32} {a7 : Int32} {Q : Int32 → zS → Prop} (h : W_M_copy a1 a2 a3 a4 a5 a6 a7 σ Q) (k : ∀ v s, Q v s → K (some (.int v)) s) : Cz E Y_M_copy [.ref 110, .int a1, .int a2, .int a3, .int a4, .int a5, .int a6, .int a7] σ K := by
  refine z_entry (by decide) (fun a => by rw [sl_len]; exact Nat.le_of_ble_eq_true rfl) rfl ?_
  unfold W_M_copy at h
  refine z_aload_n (f := 0) (i := 0) (q := 0) (pc' := 1) ⟨by decide +kernel, rfl⟩ rfl rfl ?_
  refine z_iload_n (f := 1) (i := 1) (q := 1) (pc' := 2) ⟨by decide +kernel, rfl⟩ rfl rfl ?_
  refine z_iload_n (f := 2) (i := 2) (q := 2) (pc' := 3) ⟨by decide +kernel, rfl⟩ rfl rfl ?_
  refine w_invV (Z := Y_M_rowFor) (idx := 463) (kb := 110) (As := [.int a1, .int a2]) (rest := []) (pc' := 6) cl_13_463 rfl ⟨rfl, rfl⟩ ykfa_110_0 rfl ⟨⟨by decide, by decide⟩, rfl, rfl⟩ ⟨by decide +kernel, rfl⟩ rfl rfl (Nat.le_of_ble_eq_true rfl) rfl rfl ?_
  refine sF_M_rowFor h (fun v1 σ1 h => ?_)
  show Wz E Y_M_copy 6 [(0, .ref 110), (1, .int a1), (2, .int a2), (3, .int a3), (4, .int a4), (5, .int a5), (6, .int a6), (7, .int a7)] [.int v1] σ1 K
  refine z_istore (i := 8) (pc' := 8) ⟨by decide +kernel, rfl⟩ (by decide) rfl ?_
  show Wz E Y_M_copy 8 [(8, .int v1), (0, .ref 110), (1, .int a1), (2, .int a2), (3, .int a3), (4, .int a4), (5, .int a5), (6, .int a6), (7, .int a7)] [] σ1 K
  refine z_aload_n (f := 0) (i := 0) (q := 1) (pc' := 9) ⟨by decide +kernel, rfl⟩ rfl rfl ?_
  refine z_iload (i := 4) (q := 5) (pc' := 11) ⟨by decide +kernel, rfl⟩ rfl ?_
  refine z_iload (i := 5) (q := 6) (pc' := 13) ⟨by decide +kernel, rfl⟩ rfl ?_
  refine w_invV (Z := Y_M_rowFor) (idx := 463) (kb := 110) (As := [.int a4, .int a5]) (rest := []) (pc' := 16) cl_13_463 rfl ⟨rfl, rfl⟩ ykfa_110_0 rfl ⟨⟨by decide, by decide⟩, rfl, rfl⟩ ⟨by decide +kernel, rfl⟩ rfl rfl (Nat.le_of_ble_eq_true rfl) rfl rfl ?_
  refine sF_M_rowFor h (fun v2 σ2 h => ?_)
  show Wz E Y_M_copy 16 [(8, .int v1), (0, .ref 110), (1, .int a1), (2, .int a2), (3, .int a3), (4, .int a4), (5, .int a5), (6, .int a6), (7, .int a7)] [.int v2] σ2 K
  refine z_istore (i := 9) (pc' := 18) ⟨by decide +kernel, rfl⟩ (by decide) rfl ?_
  show Wz E Y_M_copy 18 [(9, .int v2), (8, .int v1), (0, .ref 110), (1, .int a1), (2, .int a2), (3, .int a3), (4, .int a4), (5, .int a5), (6, .int a6), (7, .int a7)] [] σ2 K
  refine z_iload (i := 8) (q := 1) (pc' := 20) ⟨by decide +kernel, rfl⟩ rfl ?_
  refine z_if_lt (off := 8) (tgt := 28) (pc' := 23) ⟨by decide +kernel, by decide, rfl⟩ (fun h3 => ?_) (fun h3 => ?_)
  · have h := h.1 (qi_lt_t rfl (by decide) h3)
    refine z_iconst (i := (-1)) (v := (-1)) (pc' := 29) ⟨by decide +kernel, rfl⟩ (by decide) ?_
    exact z_iret (ty := .int) rfl (by rfl) (by decide +kernel) (k _ _ h)
  · have h := h.2 (qi_lt_f rfl (by decide) h3)
    refine z_iload (i := 9) (q := 0) (pc' := 25) ⟨by decide +kernel, rfl⟩ rfl ?_
    refine z_if_ge (off := 5) (tgt := 30) (pc' := 28) ⟨by decide +kernel, by decide, rfl⟩ (fun h4 => ?_) (fun h4 => ?_)
    · have h := h.1 (qi_ge_t rfl (by decide) h4)
      refine z_aload_n (f := 0) (i := 0) (q := 2) (pc' := 31) ⟨by decide +kernel, rfl⟩ rfl rfl ?_
      refine w_getr (k := 110) (j := 16) (idx := 41) (pc' := 34) yfxe_13_41 ykfa_110_16 ⟨by decide +kernel, rfl⟩ ?_
      refine z_iload (i := 8) (q := 1) (pc' := 36) ⟨by decide +kernel, rfl⟩ rfl ?_
      obtain ⟨n5, hi5, hz5, h⟩ := h
      refine w_iald (k := 121) (n := n5) (pc' := 37) ykaa_121 (hi5) (hz5) ⟨by decide +kernel, rfl⟩ ?_
      refine z_if_eq (off := 13) (tgt := 50) (pc' := 40) ⟨by decide +kernel, by decide, rfl⟩ (fun h6 => ?_) (fun h6 => ?_)
      · have h := h.1 (qi_eq_t rfl (by decide) h6)
        refine z_bipush (i := (-11)) (v := (-11)) (pc' := 52) ⟨by decide +kernel, rfl⟩ (by decide) ?_
        exact z_iret (ty := .int) rfl (by rfl) (by decide +kernel) (k _ _ h)
      · have h := h.2 (qi_eq_f rfl (by decide) h6)
        refine z_aload_n (f := 0) (i := 0) (q := 2) (pc' := 41) ⟨by decide +kernel, rfl⟩ rfl rfl ?_
        refine w_getr (k := 110) (j := 16) (idx := 41) (pc' := 44) yfxe_13_41 ykfa_110_16 ⟨by decide +kernel, rfl⟩ ?_
        refine z_iload (i := 9) (q := 0) (pc' := 46) ⟨by decide +kernel, rfl⟩ rfl ?_
        obtain ⟨n7, hi7, hz7, h⟩ := h
        refine w_iald (k := 121) (n := n7) (pc' := 47) ykaa_121 (hi7) (hz7) ⟨by decide +kernel, rfl⟩ ?_
        refine z_if_ne (off := 6) (tgt := 53) (pc' := 50) ⟨by decide +kernel, by decide, rfl⟩ (fun h8 => ?_) (fun h8 => ?_)
        · have h := h.2 (qi_ne_t rfl (by decide) h8)
          refine z_aload_n (f := 0) (i := 0) (q := 2) (pc' := 54) ⟨by decide +kernel, rfl⟩ rfl rfl ?_
          refine w_getr (k := 110) (j := 16) (idx := 41) (pc' := 57) yfxe_13_41 ykfa_110_16 ⟨by decide +kernel, rfl⟩ ?_
          refine z_iload (i := 8) (q := 1) (pc' := 59) ⟨by decide +kernel, rfl⟩ rfl ?_
          refine w_iald (k := 121) (n := n5) (pc' := 60) ykaa_121 (hi5) (hz5) ⟨by decide +kernel, rfl⟩ ?_
          refine z_aload_n (f := 0) (i := 0) (q := 2) (pc' := 61) ⟨by decide +kernel, rfl⟩ rfl rfl ?_
          refine w_getr (k := 110) (j := 16) (idx := 41) (pc' := 64) yfxe_13_41 ykfa_110_16 ⟨by decide +kernel, rfl⟩ ?_
          refine z_iload (i := 9) (q := 0) (pc' := 66) ⟨by decide +kernel, rfl⟩ rfl ?_
          refine w_iald (k := 121) (n := n7) (pc' := 67) ykaa_121 (hi7) (hz7) ⟨by decide +kernel, rfl⟩ ?_
          refine z_icmp_eq (off := 6) (tgt := 73) (pc' := 70) ⟨by decide +kernel, by decide, rfl⟩ (fun h9 => ?_) (fun h9 => ?_)
          · have h := h.1 (qi_eq_t rfl rfl h9)
            refine z_iload_n (f := 3) (i := 3) (q := 5) (pc' := 74) ⟨by decide +kernel, rfl⟩ rfl rfl ?_
            refine z_if_lt (off := 50) (tgt := 124) (pc' := 77) ⟨by decide +kernel, by decide, rfl⟩ (fun h10 => ?_) (fun h10 => ?_)
            · have h := h.1 (qi_lt_t rfl (by decide) h10)
              refine z_bipush (i := (-12)) (v := (-12)) (pc' := 126) ⟨by decide +kernel, rfl⟩ (by decide) ?_
              exact z_iret (ty := .int) rfl (by rfl) (by decide +kernel) (k _ _ h)
            · have h := h.2 (qi_lt_f rfl (by decide) h10)
              refine z_iload (i := 6) (q := 8) (pc' := 79) ⟨by decide +kernel, rfl⟩ rfl ?_
              refine z_if_lt (off := 45) (tgt := 124) (pc' := 82) ⟨by decide +kernel, by decide, rfl⟩ (fun h11 => ?_) (fun h11 => ?_)
              · have h := h.1 (qi_lt_t rfl (by decide) h11)
                refine z_bipush (i := (-12)) (v := (-12)) (pc' := 126) ⟨by decide +kernel, rfl⟩ (by decide) ?_
                exact z_iret (ty := .int) rfl (by rfl) (by decide +kernel) (k _ _ h)
              · have h := h.2 (qi_lt_f rfl (by decide) h11)
                refine z_iload (i := 7) (q := 9) (pc' := 84) ⟨by decide +kernel, rfl⟩ rfl ?_
                refine z_if_lt (off := 40) (tgt := 124) (pc' := 87) ⟨by decide +kernel, by decide, rfl⟩ (fun h12 => ?_) (fun h12 => ?_)
                · have h := h.1 (qi_lt_t rfl (by decide) h12)
                  refine z_bipush (i := (-12)) (v := (-12)) (pc' := 126) ⟨by decide +kernel, rfl⟩ (by decide) ?_
                  exact z_iret (ty := .int) rfl (by rfl) (by decide +kernel) (k _ _ h)
                · have h := h.2 (qi_lt_f rfl (by decide) h12)
                  refine z_iload_n (f := 3) (i := 3) (q := 5) (pc' := 88) ⟨by decide +kernel, rfl⟩ rfl rfl ?_
                  refine z_i2l (v := (Int32.toInt64 a3)) (pc' := 89) ⟨by decide +kernel, rfl⟩ rfl ?_
                  have h := h (Int32.toInt64 a3) (Int32.toInt_toInt64 _)
                  generalize (Int32.toInt64 a3) = r13 at h ⊢
                  refine z_iload (i := 7) (q := 9) (pc' := 91) ⟨by decide +kernel, rfl⟩ rfl ?_
                  refine z_i2l (v := (Int32.toInt64 a7)) (pc' := 92) ⟨by decide +kernel, rfl⟩ rfl ?_
                  have h := h (Int32.toInt64 a7) (Int32.toInt_toInt64 _)
                  generalize (Int32.toInt64 a7) = r14 at h ⊢
                  refine z_ladd (pc' := 93) ⟨by decide +kernel, rfl⟩ ?_
                  obtain ⟨hb15, h⟩ := h
                  have h := h (r13 + r14) (ial_ok rfl rfl hb15)
                  generalize (r13 + r14) = r15 at h ⊢
                  refine z_aload_n (f := 0) (i := 0) (q := 2) (pc' := 94) ⟨by decide +kernel, rfl⟩ rfl rfl ?_
                  refine w_getr (k := 110) (j := 17) (idx := 44) (pc' := 97) yfxe_13_44 ykfa_110_17 ⟨by decide +kernel, rfl⟩ ?_
                  refine z_iload (i := 8) (q := 1) (pc' := 99) ⟨by decide +kernel, rfl⟩ rfl ?_
                  refine w_iald (k := 122) (n := n5) (pc' := 100) ykaa_122 (hi5) (hz5) ⟨by decide +kernel, rfl⟩ ?_
                  refine z_i2l (v := (Int32.toInt64 (σ2.1 122 n5))) (pc' := 101) ⟨by decide +kernel, rfl⟩ rfl ?_
                  have h := h (Int32.toInt64 (σ2.1 122 n5)) (Int32.toInt_toInt64 _)
                  generalize (Int32.toInt64 (σ2.1 122 n5)) = r16 at h ⊢
                  refine z_lcmp (pc' := 102) ⟨by decide +kernel, rfl⟩ ?_
                  refine z_if_gt (off := 22) (tgt := 124) (pc' := 105) ⟨by decide +kernel, by decide, rfl⟩ (fun h17 => ?_) (fun h17 => ?_)
                  · have h := h.1 (qk_gt_t rfl rfl h17)
                    refine z_bipush (i := (-12)) (v := (-12)) (pc' := 126) ⟨by decide +kernel, rfl⟩ (by decide) ?_
                    exact z_iret (ty := .int) rfl (by rfl) (by decide +kernel) (k _ _ h)
                  · have h := h.2 (qk_gt_f rfl rfl h17)
                    refine z_iload (i := 6) (q := 8) (pc' := 107) ⟨by decide +kernel, rfl⟩ rfl ?_
                    refine z_i2l (v := (Int32.toInt64 a6)) (pc' := 108) ⟨by decide +kernel, rfl⟩ rfl ?_
                    have h := h (Int32.toInt64 a6) (Int32.toInt_toInt64 _)
                    generalize (Int32.toInt64 a6) = r18 at h ⊢
                    refine z_iload (i := 7) (q := 9) (pc' := 110) ⟨by decide +kernel, rfl⟩ rfl ?_
                    refine z_i2l (v := (Int32.toInt64 a7)) (pc' := 111) ⟨by decide +kernel, rfl⟩ rfl ?_
                    have h := h (Int32.toInt64 a7) (Int32.toInt_toInt64 _)
                    generalize (Int32.toInt64 a7) = r19 at h ⊢
                    refine z_ladd (pc' := 112) ⟨by decide +kernel, rfl⟩ ?_
                    obtain ⟨hb20, h⟩ := h
                    have h := h (r18 + r19) (ial_ok rfl rfl hb20)
                    generalize (r18 + r19) = r20 at h ⊢
                    refine z_aload_n (f := 0) (i := 0) (q := 2) (pc' := 113) ⟨by decide +kernel, rfl⟩ rfl rfl ?_
                    refine w_getr (k := 110) (j := 17) (idx := 44) (pc' := 116) yfxe_13_44 ykfa_110_17 ⟨by decide +kernel, rfl⟩ ?_
                    refine z_iload (i := 9) (q := 0) (pc' := 118) ⟨by decide +kernel, rfl⟩ rfl ?_
                    refine w_iald (k := 122) (n := n7) (pc' := 119) ykaa_122 (hi7) (hz7) ⟨by decide +kernel, rfl⟩ ?_
                    refine z_i2l (v := (Int32.toInt64 (σ2.1 122 n7))) (pc' := 120) ⟨by decide +kernel, rfl⟩ rfl ?_
                    have h := h (Int32.toInt64 (σ2.1 122 n7)) (Int32.toInt_toInt64 _)
                    generalize (Int32.toInt64 (σ2.1 122 n7)) = r21 at h ⊢
                    refine z_lcmp (pc' := 121) ⟨by decide +kernel, rfl⟩ ?_
                    refine z_if_le (off := 6) (tgt := 127) (pc' := 124) ⟨by decide +kernel, by decide, rfl⟩ (fun h22 => ?_) (fun h22 => ?_)
                    · have h := h.1 (qk_le_t rfl rfl h22)
                      refine z_iconst (i := 0) (v := 0) (pc' := 128) ⟨by decide +kernel, rfl⟩ (by decide) ?_
                      refine z_istore (i := 10) (pc' := 130) ⟨by decide +kernel, rfl⟩ (by decide) rfl ?_
                      show Wz E Y_M_copy 130 [(10, .int 0), (9, .int v2), (8, .int v1), (0, .ref 110), (1, .int a1), (2, .int a2), (3, .int a3), (4, .int a4), (5, .int a5), (6, .int a6), (7, .int a7)] [] σ2 K
                      refine z_sub [3, 6, 9, 10, 2, 1, 0] rfl ?_
                      exact (sl_M_copy k fuF).1 _ _ _ _ _ _ _ h
                    · have h := h.2 (qk_le_f rfl rfl h22)
                      refine z_bipush (i := (-12)) (v := (-12)) (pc' := 126) ⟨by decide +kernel, rfl⟩ (by decide) ?_
                      exact z_iret (ty := .int) rfl (by rfl) (by decide +kernel) (k _ _ h)
          · have h := h.2 (qi_eq_f rfl rfl h9)
            refine z_bipush (i := (-14)) (v := (-14)) (pc' := 72) ⟨by decide +kernel, rfl⟩ (by decide) ?_
            exact z_iret (ty := .int) rfl (by rfl) (by decide +kernel) (k _ _ h)
        · have h := h.1 (qi_ne_f rfl (by decide) h8)
          refine z_bipush (i := (-11)) (v := (-11)) (pc' := 52) ⟨by decide +kernel, rfl⟩ (by decide) ?_
          exact z_iret (ty := .int) rfl (by rfl) (by decide +kernel) (k _ _ h)
    · have h := h.2 (qi_ge_f rfl (by decide) h4)
      refine z_iconst (i := (-1)) (v := (-1)) (pc' := 29) ⟨by decide +kernel, rfl⟩ (by decide) ?_
      exact z_iret (ty := .int) rfl (by rfl) (by decide +kernel) (k _ _ h)
noncomputable def W_M_holds_b55 (x1 : Int32) (x2 : Int32) (x3 : Int32) (y0 : Int32) (σ : zS) (Q : Int32 → zS → Prop) : Prop := (-2147483648 ≤ 6 * (Int32.toInt x1) ∧ 6 * (Int32.toInt x1) ≤ 2147483647) ∧ ∀ r1 : Int32, r1.toInt = 6 * (Int32.toInt x1) → ((-2147483648 ≤ (Int32.toInt r1) + (Int32.toInt x2) ∧ (Int32.toInt r1) + (Int32.toInt x2) ≤ 2147483647) ∧ ∀ r2 : Int32, r2.toInt = (Int32.toInt r1) + (Int32.toInt x2) → (∃ n3 : Nat, Int32.toInt r2 = (n3 : Int) ∧ n3 < 36 ∧ ((x3 = 0 ∨ x3 = 1) ∧ (∀ σ5 : zS, zI σ 129 n3 x3 = σ5 → (Q y0 σ5)))))
theorem sb_M_holds_55 {E : xV} {σ : zS} {K : zKt} {x1 : Int32} {x2 : Int32} {x3 : Int32} {y0 : Int32} {Q : Int32 → zS → Prop} (k : ∀ v s, Q v s → K (some (.int v)) s) (h : W_M_holds_b55 x1 x2 x3 y0 σ Q) : Wz E Y_M_holds 55 [(0, .ref 110), (1, .int x1), (2, .int x2), (3, .int x3)] [.int y0] σ K := by
  unfold W_M_holds_b55 at h
  refine z_istore (i := 4) (pc' := 57) ⟨by decide +kernel, rfl⟩ (by decide) rfl ?_
  show Wz E Y_M_holds 57 [(4, .int y0), (0, .ref 110), (1, .int x1), (2, .int x2), (3, .int x3)] [] σ K
  refine z_aload_n (f := 0) (i := 0) (q := 1) (pc' := 58) ⟨by decide +kernel, rfl⟩ rfl rfl ?_
  refine w_getr (k := 110) (j := 25) (idx := 70) (pc' := 61) yfxe_13_70 ykfa_110_25 ⟨by decide +kernel, rfl⟩ ?_
  refine z_bipush (i := 6) (v := 6) (pc' := 63) ⟨by decide +kernel, rfl⟩ (by decide) ?_
  refine z_iload_n (f := 1) (i := 1) (q := 2) (pc' := 64) ⟨by decide +kernel, rfl⟩ rfl rfl ?_
  refine z_imul (pc' := 65) ⟨by decide +kernel, rfl⟩ ?_
  obtain ⟨hb1, h⟩ := h
  have h := h (6 * x1) (im_ok (by decide) rfl hb1)
  generalize (6 * x1) = r1 at h ⊢
  refine z_iload_n (f := 2) (i := 2) (q := 3) (pc' := 66) ⟨by decide +kernel, rfl⟩ rfl rfl ?_
  refine z_iadd (pc' := 67) ⟨by decide +kernel, rfl⟩ ?_
  obtain ⟨hb2, h⟩ := h
  have h := h (r1 + x2) (ia_ok rfl rfl hb2)
  generalize (r1 + x2) = r2 at h ⊢
  refine z_iload_n (f := 3) (i := 3) (q := 4) (pc' := 68) ⟨by decide +kernel, rfl⟩ rfl rfl ?_
  obtain ⟨n3, hi3, hz3, h⟩ := h
  obtain ⟨hg4, h⟩ := h
  refine w_zast (k := 129) (n := n3) (pc' := 69) ykaa_129 (hi3) (hz3) hg4 ⟨by decide +kernel, rfl⟩ ?_
  generalize hs5 : zI σ 129 n3 x3 = σ5
  have h := h σ5 hs5
  refine z_iload (i := 4) (q := 0) (pc' := 71) ⟨by decide +kernel, rfl⟩ rfl ?_
  exact z_iret (ty := .int) rfl (by rfl) (by decide +kernel) (k _ _ h)
noncomputable def W_M_holds (a1 : Int32) (a2 : Int32) (a3 : Int32) (σ : zS) (Q : Int32 → zS → Prop) : Prop := W_M_begins  σ (fun _ σ1 => ∀ r2 : Int64, r2.toInt = (Int32.toInt a1) → (W_M_in r2 0 5 σ1 (fun v3 σ3 => ((Int32.toInt v3) = 0 → (Q (-1) σ3)) ∧ (¬ (Int32.toInt v3) = 0 → (∀ r5 : Int64, r5.toInt = (Int32.toInt a2) → (W_M_in r5 0 5 σ3 (fun v6 σ6 => ((Int32.toInt v6) = 0 → (Q (-1) σ6)) ∧ (¬ (Int32.toInt v6) = 0 → (((Int32.toInt a1) = (Int32.toInt a2) → (Q (-1) σ6)) ∧ (¬ (Int32.toInt a1) = (Int32.toInt a2) → ((-2147483648 ≤ 6 * (Int32.toInt a1) ∧ 6 * (Int32.toInt a1) ≤ 2147483647) ∧ ∀ r9 : Int32, r9.toInt = 6 * (Int32.toInt a1) → ((-2147483648 ≤ (Int32.toInt r9) + (Int32.toInt a2) ∧ (Int32.toInt r9) + (Int32.toInt a2) ≤ 2147483647) ∧ ∀ r10 : Int32, r10.toInt = (Int32.toInt r9) + (Int32.toInt a2) → (∃ n11 : Nat, Int32.toInt r10 = (n11 : Int) ∧ n11 < 36 ∧ (((Int32.toInt (σ6.1 129 n11)) = (Int32.toInt a3) → (W_M_holds_b55  a1 a2 a3 0 σ6 Q)) ∧ (¬ (Int32.toInt (σ6.1 129 n11)) = (Int32.toInt a3) → (W_M_holds_b55  a1 a2 a3 1 σ6 Q))))))))))))))))
theorem sF_M_holds {E : xV} {σ : zS} {K : zKt} {a1 : Int32} {a2 : Int32} {a3 : Int32} {Q : Int32 → zS → Prop} (h : W_M_holds a1 a2 a3 σ Q) (k : ∀ v s, Q v s → K (some (.int v)) s) : Cz E Y_M_holds [.ref 110, .int a1, .int a2, .int a3] σ K := by
  refine z_entry (by decide) (fun a => by rw [sl_len]; exact Nat.le_of_ble_eq_true rfl) rfl ?_
  unfold W_M_holds at h
  refine z_aload_n (f := 0) (i := 0) (q := 0) (pc' := 1) ⟨by decide +kernel, rfl⟩ rfl rfl ?_
  refine w_invV (Z := Y_M_begins) (idx := 476) (kb := 110) (As := []) (rest := []) (pc' := 4) cl_13_476 rfl ⟨rfl, rfl⟩ ykfa_110_0 rfl ⟨⟨by decide, by decide⟩, rfl, rfl⟩ ⟨by decide +kernel, rfl⟩ rfl rfl (Nat.le_of_ble_eq_true rfl) rfl rfl ?_
  refine sF_M_begins h (fun _ σ1 h => ?_)
  show Wz E Y_M_holds 4 [(0, .ref 110), (1, .int a1), (2, .int a2), (3, .int a3)] [] σ1 K
  refine z_iload_n (f := 1) (i := 1) (q := 1) (pc' := 5) ⟨by decide +kernel, rfl⟩ rfl rfl ?_
  refine z_i2l (v := (Int32.toInt64 a1)) (pc' := 6) ⟨by decide +kernel, rfl⟩ rfl ?_
  have h := h (Int32.toInt64 a1) (Int32.toInt_toInt64 _)
  generalize (Int32.toInt64 a1) = r2 at h ⊢
  refine z_lconst (i := 0) (v := 0) (pc' := 7) ⟨by decide +kernel, rfl⟩ (by decide) ?_
  refine z_ldc2 (i := 421) (v := 5) (pc' := 10) ⟨by decide +kernel, rfl⟩ k_10_175 ?_
  refine w_invS (Z := Y_M_in) (idx := 333) (As := [.long r2, .long 0, .long 5]) (rest := []) (pc' := 13) cl_13_333 rfl ⟨rfl, rfl⟩ ⟨⟨by decide, by decide⟩, rfl, rfl⟩ ⟨by decide +kernel, rfl⟩ rfl rfl (Nat.le_of_ble_eq_true rfl) rfl rfl ?_
  refine sF_M_in h (fun v3 σ3 h => ?_)
  show Wz E Y_M_holds 13 [(0, .ref 110), (1, .int a1), (2, .int a2), (3, .int a3)] [.int v3] σ3 K
  refine z_if_eq (off := 20) (tgt := 33) (pc' := 16) ⟨by decide +kernel, by decide, rfl⟩ (fun h4 => ?_) (fun h4 => ?_)
  · have h := h.1 (qi_eq_t rfl (by decide) h4)
    refine z_iconst (i := (-1)) (v := (-1)) (pc' := 34) ⟨by decide +kernel, rfl⟩ (by decide) ?_
    exact z_iret (ty := .int) rfl (by rfl) (by decide +kernel) (k _ _ h)
  · have h := h.2 (qi_eq_f rfl (by decide) h4)
    refine z_iload_n (f := 2) (i := 2) (q := 2) (pc' := 17) ⟨by decide +kernel, rfl⟩ rfl rfl ?_
    refine z_i2l (v := (Int32.toInt64 a2)) (pc' := 18) ⟨by decide +kernel, rfl⟩ rfl ?_
    have h := h (Int32.toInt64 a2) (Int32.toInt_toInt64 _)
    generalize (Int32.toInt64 a2) = r5 at h ⊢
    refine z_lconst (i := 0) (v := 0) (pc' := 19) ⟨by decide +kernel, rfl⟩ (by decide) ?_
    refine z_ldc2 (i := 421) (v := 5) (pc' := 22) ⟨by decide +kernel, rfl⟩ k_10_175 ?_
    refine w_invS (Z := Y_M_in) (idx := 333) (As := [.long r5, .long 0, .long 5]) (rest := []) (pc' := 25) cl_13_333 rfl ⟨rfl, rfl⟩ ⟨⟨by decide, by decide⟩, rfl, rfl⟩ ⟨by decide +kernel, rfl⟩ rfl rfl (Nat.le_of_ble_eq_true rfl) rfl rfl ?_
    refine sF_M_in h (fun v6 σ6 h => ?_)
    show Wz E Y_M_holds 25 [(0, .ref 110), (1, .int a1), (2, .int a2), (3, .int a3)] [.int v6] σ6 K
    refine z_if_eq (off := 8) (tgt := 33) (pc' := 28) ⟨by decide +kernel, by decide, rfl⟩ (fun h7 => ?_) (fun h7 => ?_)
    · have h := h.1 (qi_eq_t rfl (by decide) h7)
      refine z_iconst (i := (-1)) (v := (-1)) (pc' := 34) ⟨by decide +kernel, rfl⟩ (by decide) ?_
      exact z_iret (ty := .int) rfl (by rfl) (by decide +kernel) (k _ _ h)
    · have h := h.2 (qi_eq_f rfl (by decide) h7)
      refine z_iload_n (f := 1) (i := 1) (q := 1) (pc' := 29) ⟨by decide +kernel, rfl⟩ rfl rfl ?_
      refine z_iload_n (f := 2) (i := 2) (q := 2) (pc' := 30) ⟨by decide +kernel, rfl⟩ rfl rfl ?_
      refine z_icmp_ne (off := 5) (tgt := 35) (pc' := 33) ⟨by decide +kernel, by decide, rfl⟩ (fun h8 => ?_) (fun h8 => ?_)
      · have h := h.2 (qi_ne_t rfl rfl h8)
        refine z_aload_n (f := 0) (i := 0) (q := 0) (pc' := 36) ⟨by decide +kernel, rfl⟩ rfl rfl ?_
        refine w_getr (k := 110) (j := 25) (idx := 70) (pc' := 39) yfxe_13_70 ykfa_110_25 ⟨by decide +kernel, rfl⟩ ?_
        refine z_bipush (i := 6) (v := 6) (pc' := 41) ⟨by decide +kernel, rfl⟩ (by decide) ?_
        refine z_iload_n (f := 1) (i := 1) (q := 1) (pc' := 42) ⟨by decide +kernel, rfl⟩ rfl rfl ?_
        refine z_imul (pc' := 43) ⟨by decide +kernel, rfl⟩ ?_
        obtain ⟨hb9, h⟩ := h
        have h := h (6 * a1) (im_ok (by decide) rfl hb9)
        generalize (6 * a1) = r9 at h ⊢
        refine z_iload_n (f := 2) (i := 2) (q := 2) (pc' := 44) ⟨by decide +kernel, rfl⟩ rfl rfl ?_
        refine z_iadd (pc' := 45) ⟨by decide +kernel, rfl⟩ ?_
        obtain ⟨hb10, h⟩ := h
        have h := h (r9 + a2) (ia_ok rfl rfl hb10)
        generalize (r9 + a2) = r10 at h ⊢
        obtain ⟨n11, hi11, hz11, h⟩ := h
        refine w_zald (k := 129) (n := n11) (pc' := 46) ykaa_129 (hi11) (hz11) ⟨by decide +kernel, rfl⟩ ?_
        refine z_iload_n (f := 3) (i := 3) (q := 3) (pc' := 47) ⟨by decide +kernel, rfl⟩ rfl rfl ?_
        refine z_icmp_ne (off := 7) (tgt := 54) (pc' := 50) ⟨by decide +kernel, by decide, rfl⟩ (fun h12 => ?_) (fun h12 => ?_)
        · have h := h.2 (qi_ne_t rfl rfl h12)
          refine z_iconst (i := 1) (v := 1) (pc' := 55) ⟨by decide +kernel, rfl⟩ (by decide) ?_
          refine z_sub [0, 1, 2, 3] rfl ?_
          exact sb_M_holds_55  k h
        · have h := h.1 (qi_ne_f rfl rfl h12)
          refine z_iconst (i := 0) (v := 0) (pc' := 51) ⟨by decide +kernel, rfl⟩ (by decide) ?_
          refine z_goto (off := 4) (tgt := 55) (pc' := 54) ⟨by decide +kernel, by decide, rfl⟩ ?_
          refine z_sub [0, 1, 2, 3] rfl ?_
          exact sb_M_holds_55  k h
      · have h := h.1 (qi_ne_f rfl rfl h8)
        refine z_iconst (i := (-1)) (v := (-1)) (pc' := 34) ⟨by decide +kernel, rfl⟩ (by decide) ?_
        exact z_iret (ty := .int) rfl (by rfl) (by decide +kernel) (k _ _ h)
noncomputable def WB_M_feed_34 (F34 : Int64 → Int32 → zS → (Int32 → zS → Prop) → Prop) (x2 : Int64) (x4 : Int32) (σ : zS) (Q : Int32 → zS → Prop) : Prop := ((Int32.toInt x4) < 0 → (Q (σ.1 110 1) σ)) ∧ (¬ (Int32.toInt x4) < 0 → ((-2147483648 ≤ 8 * (Int32.toInt x4) ∧ 8 * (Int32.toInt x4) ≤ 2147483647) ∧ ∀ r2 : Int32, r2.toInt = 8 * (Int32.toInt x4) → (∃ n3 : Nat, Int32.toInt (σ.1 110 1) = (n3 : Int) ∧ n3 < 1200 ∧ (∀ σ4 : zS, zI σ 111 n3 (Int64.toInt32 ((x2 >>> (Int32.toInt64 r2 &&& 63)) &&& 255)) = σ4 → ((-2147483648 ≤ (Int32.toInt (σ4.1 110 1)) + 1 ∧ (Int32.toInt (σ4.1 110 1)) + 1 ≤ 2147483647) ∧ ∀ r5 : Int32, r5.toInt = (Int32.toInt (σ4.1 110 1)) + 1 → (∀ σ6 : zS, zI σ4 110 1 r5 = σ6 → ((-2147483648 ≤ (Int32.toInt x4) + (-1) ∧ (Int32.toInt x4) + (-1) ≤ 2147483647) ∧ ∀ r7 : Int32, r7.toInt = (Int32.toInt x4) + (-1) → (F34 x2 r7 σ6 Q))))))))
theorem sh_M_feed_34 {E : xV} {σ : zS} {K : zKt} {F34 : Int64 → Int32 → zS → (Int32 → zS → Prop) → Prop} {x2 : Int64} {x4 : Int32} {Q : Int32 → zS → Prop} (f34 : ∀ (x2 : Int64) (x4 : Int32) (σ : zS), F34 x2 x4 σ Q → Wz E Y_M_feed 34 [(0, .ref 110), (2, .long x2), (4, .int x4)] [] σ K) (k : ∀ v s, Q v s → K (some (.int v)) s) (h : WB_M_feed_34 F34 x2 x4 σ Q) : Wz E Y_M_feed 34 [(0, .ref 110), (2, .long x2), (4, .int x4)] [] σ K := by
  unfold WB_M_feed_34 at h
  refine z_iload (i := 4) (q := 2) (pc' := 36) ⟨by decide +kernel, rfl⟩ rfl ?_
  refine z_if_lt (off := 40) (tgt := 76) (pc' := 39) ⟨by decide +kernel, by decide, rfl⟩ (fun h1 => ?_) (fun h1 => ?_)
  · have h := h.1 (qi_lt_t rfl (by decide) h1)
    refine z_aload_n (f := 0) (i := 0) (q := 0) (pc' := 77) ⟨by decide +kernel, rfl⟩ rfl rfl ?_
    refine w_geti (k := 110) (j := 1) (idx := 396) (pc' := 80) yfxe_13_396 ykfa_110_1 ⟨by decide +kernel, rfl⟩ ?_
    exact z_iret (ty := .int) rfl (by rfl) (by decide +kernel) (k _ _ h)
  · have h := h.2 (qi_lt_f rfl (by decide) h1)
    refine z_aload_n (f := 0) (i := 0) (q := 0) (pc' := 40) ⟨by decide +kernel, rfl⟩ rfl rfl ?_
    refine w_getr (k := 110) (j := 2) (idx := 7) (pc' := 43) yfxe_13_7 ykfa_110_2 ⟨by decide +kernel, rfl⟩ ?_
    refine z_aload_n (f := 0) (i := 0) (q := 0) (pc' := 44) ⟨by decide +kernel, rfl⟩ rfl rfl ?_
    refine w_geti (k := 110) (j := 1) (idx := 396) (pc' := 47) yfxe_13_396 ykfa_110_1 ⟨by decide +kernel, rfl⟩ ?_
    refine z_lload_n (f := 2) (i := 2) (q := 1) (pc' := 48) ⟨by decide +kernel, rfl⟩ rfl rfl ?_
    refine z_bipush (i := 8) (v := 8) (pc' := 50) ⟨by decide +kernel, rfl⟩ (by decide) ?_
    refine z_iload (i := 4) (q := 2) (pc' := 52) ⟨by decide +kernel, rfl⟩ rfl ?_
    refine z_imul (pc' := 53) ⟨by decide +kernel, rfl⟩ ?_
    obtain ⟨hb2, h⟩ := h
    have h := h (8 * x4) (im_ok (by decide) rfl hb2)
    generalize (8 * x4) = r2 at h ⊢
    refine z_lshr (v := (x2 >>> (Int32.toInt64 r2 &&& 63))) (pc' := 54) ⟨by decide +kernel, rfl⟩ rfl ?_
    refine z_ldc2 (i := 399) (v := 255) (pc' := 57) ⟨by decide +kernel, rfl⟩ k_10_155 ?_
    refine z_land (pc' := 58) ⟨by decide +kernel, rfl⟩ ?_
    refine z_l2i (pc' := 59) ⟨by decide +kernel, rfl⟩ rfl ?_
    obtain ⟨n3, hi3, hz3, h⟩ := h
    refine w_iast (k := 111) (n := n3) (pc' := 60) ykaa_111 (hi3) (hz3) ⟨by decide +kernel, rfl⟩ ?_
    generalize hs4 : zI σ 111 n3 (Int64.toInt32 ((x2 >>> (Int32.toInt64 r2 &&& 63)) &&& 255)) = σ4
    have h := h σ4 hs4
    refine z_aload_n (f := 0) (i := 0) (q := 0) (pc' := 61) ⟨by decide +kernel, rfl⟩ rfl rfl ?_
    refine z_dupr (pc' := 62) ⟨by decide +kernel, rfl⟩ ?_
    refine w_geti (k := 110) (j := 1) (idx := 396) (pc' := 65) yfxe_13_396 ykfa_110_1 ⟨by decide +kernel, rfl⟩ ?_
    refine z_iconst (i := 1) (v := 1) (pc' := 66) ⟨by decide +kernel, rfl⟩ (by decide) ?_
    refine z_iadd (pc' := 67) ⟨by decide +kernel, rfl⟩ ?_
    obtain ⟨hb5, h⟩ := h
    have h := h ((σ4.1 110 1) + 1) (ia_ok rfl (by decide) hb5)
    generalize ((σ4.1 110 1) + 1) = r5 at h ⊢
    refine w_puti (k := 110) (j := 1) (idx := 396) (pc' := 70) yfxi_13_396 ykfa_110_1 ⟨by decide +kernel, rfl⟩ ?_
    generalize hs6 : zI σ4 110 1 r5 = σ6
    have h := h σ6 hs6
    refine z_iinc (i := 4) (z := (-1)) (q := 2) (pc' := 73) ⟨by decide +kernel, rfl⟩ rfl rfl (by decide) rfl ?_
    show Wz E Y_M_feed 73 [(4, .int (x4 + Int32.ofInt (-1))), (0, .ref 110), (2, .long x2)] [] σ6 K
    obtain ⟨hb7, h⟩ := h
    have h := h (x4 + Int32.ofInt (-1)) (ia_ok rfl (by decide) hb7)
    generalize (x4 + Int32.ofInt (-1)) = r7 at h ⊢
    refine z_goto (off := (-39)) (tgt := 34) (pc' := 76) ⟨by decide +kernel, by decide, rfl⟩ ?_
    refine z_sub [1, 2, 0] rfl ?_
    exact f34 _ _ _ h
noncomputable def WL_M_feed : Nat → (Int64 → Int32 → zS → (Int32 → zS → Prop) → Prop)
  | 0 => fun _ _ _ _ => False
  | n + 1 => WB_M_feed_34 (WL_M_feed n)
theorem wl_M_feed_34 {n : Nat} {x2 : Int64} {x4 : Int32} {σ : zS} {Q : Int32 → zS → Prop} (h : WB_M_feed_34 (WL_M_feed n) x2 x4 σ Q) : (WL_M_feed (n + 1)) x2 x4 σ Q := h
theorem sl_M_feed {E : xV} {K : zKt} {Q : Int32 → zS → Prop} (k : ∀ v s, Q v s → K (some (.int v)) s) : ∀ n, (∀ (x2 : Int64) (x4 : Int32) (σ : zS), (WL_M_feed n) x2 x4 σ Q → Wz E Y_M_feed 34 [(0, .ref 110), (2, .long x2), (4, .int x4)] [] σ K)
  | 0 => fun _ _ _ h => h.elim
  | n + 1 => by
    have i := sl_M_feed (E := E)  k n
    exact fun _ _ _ h => sh_M_feed_34 i k h
noncomputable def W_M_feed (a1 : Int32) (a2 : Int64) (σ : zS) (Q : Int32 → zS → Prop) : Prop := ∀ r1 : Int64, r1.toInt = (Int32.toInt a1) → (W_M_in r1 1 8 σ (fun v2 σ2 => ((Int32.toInt v2) = 0 → (Q (-1) σ2)) ∧ (¬ (Int32.toInt v2) = 0 → ((-2147483648 ≤ (Int32.toInt (σ2.1 110 1)) + (Int32.toInt a1) ∧ (Int32.toInt (σ2.1 110 1)) + (Int32.toInt a1) ≤ 2147483647) ∧ ∀ r4 : Int32, r4.toInt = (Int32.toInt (σ2.1 110 1)) + (Int32.toInt a1) → (((Int32.toInt r4) ≤ 1200 → ((-2147483648 ≤ (Int32.toInt a1) - 1 ∧ (Int32.toInt a1) - 1 ≤ 2147483647) ∧ ∀ r6 : Int32, r6.toInt = (Int32.toInt a1) - 1 → ((WL_M_feed fuF) a2 r6 σ2 Q))) ∧ (¬ (Int32.toInt r4) ≤ 1200 → (Q (-3) σ2)))))))
theorem sF_M_feed {E : xV} {σ : zS} {K : zKt} {a1 : Int32} {a2 : Int64} {Q : Int32 → zS → Prop} (h : W_M_feed a1 a2 σ Q) (k : ∀ v s, Q v s → K (some (.int v)) s) : Cz E Y_M_feed [.ref 110, .int a1, .long a2] σ K := by
  refine z_entry (by decide) (fun a => by rw [sl_len]; exact Nat.le_of_ble_eq_true rfl) rfl ?_
  unfold W_M_feed at h
  refine z_iload_n (f := 1) (i := 1) (q := 1) (pc' := 1) ⟨by decide +kernel, rfl⟩ rfl rfl ?_
  refine z_i2l (v := (Int32.toInt64 a1)) (pc' := 2) ⟨by decide +kernel, rfl⟩ rfl ?_
  have h := h (Int32.toInt64 a1) (Int32.toInt_toInt64 _)
  generalize (Int32.toInt64 a1) = r1 at h ⊢
  refine z_lconst (i := 1) (v := 1) (pc' := 3) ⟨by decide +kernel, rfl⟩ (by decide) ?_
  refine z_ldc2 (i := 394) (v := 8) (pc' := 6) ⟨by decide +kernel, rfl⟩ k_10_151 ?_
  refine w_invS (Z := Y_M_in) (idx := 333) (As := [.long r1, .long 1, .long 8]) (rest := []) (pc' := 9) cl_13_333 rfl ⟨rfl, rfl⟩ ⟨⟨by decide, by decide⟩, rfl, rfl⟩ ⟨by decide +kernel, rfl⟩ rfl rfl (Nat.le_of_ble_eq_true rfl) rfl rfl ?_
  refine sF_M_in h (fun v2 σ2 h => ?_)
  show Wz E Y_M_feed 9 [(0, .ref 110), (1, .int a1), (2, .long a2)] [.int v2] σ2 K
  refine z_if_ne (off := 5) (tgt := 14) (pc' := 12) ⟨by decide +kernel, by decide, rfl⟩ (fun h3 => ?_) (fun h3 => ?_)
  · have h := h.2 (qi_ne_t rfl (by decide) h3)
    refine z_aload_n (f := 0) (i := 0) (q := 0) (pc' := 15) ⟨by decide +kernel, rfl⟩ rfl rfl ?_
    refine w_geti (k := 110) (j := 1) (idx := 396) (pc' := 18) yfxe_13_396 ykfa_110_1 ⟨by decide +kernel, rfl⟩ ?_
    refine z_iload_n (f := 1) (i := 1) (q := 1) (pc' := 19) ⟨by decide +kernel, rfl⟩ rfl rfl ?_
    refine z_iadd (pc' := 20) ⟨by decide +kernel, rfl⟩ ?_
    obtain ⟨hb4, h⟩ := h
    have h := h ((σ2.1 110 1) + a1) (ia_ok rfl rfl hb4)
    generalize ((σ2.1 110 1) + a1) = r4 at h ⊢
    refine z_sipush (i := 1200) (v := 1200) (pc' := 23) ⟨by decide +kernel, rfl⟩ (by decide) ?_
    refine z_icmp_le (off := 6) (tgt := 29) (pc' := 26) ⟨by decide +kernel, by decide, rfl⟩ (fun h5 => ?_) (fun h5 => ?_)
    · have h := h.1 (qi_le_t rfl (by decide) h5)
      refine z_iload_n (f := 1) (i := 1) (q := 1) (pc' := 30) ⟨by decide +kernel, rfl⟩ rfl rfl ?_
      refine z_iconst (i := 1) (v := 1) (pc' := 31) ⟨by decide +kernel, rfl⟩ (by decide) ?_
      refine z_isub (pc' := 32) ⟨by decide +kernel, rfl⟩ ?_
      obtain ⟨hb6, h⟩ := h
      have h := h (a1 - 1) (is_ok rfl (by decide) hb6)
      generalize (a1 - 1) = r6 at h ⊢
      refine z_istore (i := 4) (pc' := 34) ⟨by decide +kernel, rfl⟩ (by decide) rfl ?_
      show Wz E Y_M_feed 34 [(4, .int r6), (0, .ref 110), (1, .int a1), (2, .long a2)] [] σ2 K
      refine z_sub [1, 3, 0] rfl ?_
      exact (sl_M_feed k fuF) _ _ _ h
    · have h := h.2 (qi_le_f rfl (by decide) h5)
      refine z_bipush (i := (-3)) (v := (-3)) (pc' := 28) ⟨by decide +kernel, rfl⟩ (by decide) ?_
      exact z_iret (ty := .int) rfl (by rfl) (by decide +kernel) (k _ _ h)
  · have h := h.1 (qi_ne_f rfl (by decide) h3)
    refine z_iconst (i := (-1)) (v := (-1)) (pc' := 13) ⟨by decide +kernel, rfl⟩ (by decide) ?_
    exact z_iret (ty := .int) rfl (by rfl) (by decide +kernel) (k _ _ h)
noncomputable def W_M_cut (a1 : Int32) (σ : zS) (Q : Int32 → zS → Prop) : Prop := ∀ r1 : Int64, r1.toInt = (Int32.toInt a1) → (∀ r2 : Int64, r2.toInt = (Int32.toInt (σ.1 110 1)) → (W_M_in r1 0 r2 σ (fun v3 σ3 => ((Int32.toInt v3) = 0 → (Q (-1) σ3)) ∧ (¬ (Int32.toInt v3) = 0 → ((-2147483648 ≤ (Int32.toInt (σ3.1 110 1)) - (Int32.toInt a1) ∧ (Int32.toInt (σ3.1 110 1)) - (Int32.toInt a1) ≤ 2147483647) ∧ ∀ r5 : Int32, r5.toInt = (Int32.toInt (σ3.1 110 1)) - (Int32.toInt a1) → (∀ σ6 : zS, zI σ3 110 1 a1 = σ6 → (Q r5 σ6)))))))
theorem sF_M_cut {E : xV} {σ : zS} {K : zKt} {a1 : Int32} {Q : Int32 → zS → Prop} (h : W_M_cut a1 σ Q) (k : ∀ v s, Q v s → K (some (.int v)) s) : Cz E Y_M_cut [.ref 110, .int a1] σ K := by
  refine z_entry (by decide) (fun a => by rw [sl_len]; exact Nat.le_of_ble_eq_true rfl) rfl ?_
  unfold W_M_cut at h
  refine z_iload_n (f := 1) (i := 1) (q := 1) (pc' := 1) ⟨by decide +kernel, rfl⟩ rfl rfl ?_
  refine z_i2l (v := (Int32.toInt64 a1)) (pc' := 2) ⟨by decide +kernel, rfl⟩ rfl ?_
  have h := h (Int32.toInt64 a1) (Int32.toInt_toInt64 _)
  generalize (Int32.toInt64 a1) = r1 at h ⊢
  refine z_lconst (i := 0) (v := 0) (pc' := 3) ⟨by decide +kernel, rfl⟩ (by decide) ?_
  refine z_aload_n (f := 0) (i := 0) (q := 0) (pc' := 4) ⟨by decide +kernel, rfl⟩ rfl rfl ?_
  refine w_geti (k := 110) (j := 1) (idx := 396) (pc' := 7) yfxe_13_396 ykfa_110_1 ⟨by decide +kernel, rfl⟩ ?_
  refine z_i2l (v := (Int32.toInt64 (σ.1 110 1))) (pc' := 8) ⟨by decide +kernel, rfl⟩ rfl ?_
  have h := h (Int32.toInt64 (σ.1 110 1)) (Int32.toInt_toInt64 _)
  generalize (Int32.toInt64 (σ.1 110 1)) = r2 at h ⊢
  refine w_invS (Z := Y_M_in) (idx := 333) (As := [.long r1, .long 0, .long r2]) (rest := []) (pc' := 11) cl_13_333 rfl ⟨rfl, rfl⟩ ⟨⟨by decide, by decide⟩, rfl, rfl⟩ ⟨by decide +kernel, rfl⟩ rfl rfl (Nat.le_of_ble_eq_true rfl) rfl rfl ?_
  refine sF_M_in h (fun v3 σ3 h => ?_)
  show Wz E Y_M_cut 11 [(0, .ref 110), (1, .int a1)] [.int v3] σ3 K
  refine z_if_ne (off := 5) (tgt := 16) (pc' := 14) ⟨by decide +kernel, by decide, rfl⟩ (fun h4 => ?_) (fun h4 => ?_)
  · have h := h.2 (qi_ne_t rfl (by decide) h4)
    refine z_aload_n (f := 0) (i := 0) (q := 0) (pc' := 17) ⟨by decide +kernel, rfl⟩ rfl rfl ?_
    refine w_geti (k := 110) (j := 1) (idx := 396) (pc' := 20) yfxe_13_396 ykfa_110_1 ⟨by decide +kernel, rfl⟩ ?_
    refine z_iload_n (f := 1) (i := 1) (q := 1) (pc' := 21) ⟨by decide +kernel, rfl⟩ rfl rfl ?_
    refine z_isub (pc' := 22) ⟨by decide +kernel, rfl⟩ ?_
    obtain ⟨hb5, h⟩ := h
    have h := h ((σ3.1 110 1) - a1) (is_ok rfl rfl hb5)
    generalize ((σ3.1 110 1) - a1) = r5 at h ⊢
    refine z_istore_n (f := 2) (i := 2) (pc' := 23) ⟨by decide +kernel, rfl⟩ rfl (by decide) rfl ?_
    show Wz E Y_M_cut 23 [(2, .int r5), (0, .ref 110), (1, .int a1)] [] σ3 K
    refine z_aload_n (f := 0) (i := 0) (q := 1) (pc' := 24) ⟨by decide +kernel, rfl⟩ rfl rfl ?_
    refine z_iload_n (f := 1) (i := 1) (q := 2) (pc' := 25) ⟨by decide +kernel, rfl⟩ rfl rfl ?_
    refine w_puti (k := 110) (j := 1) (idx := 396) (pc' := 28) yfxi_13_396 ykfa_110_1 ⟨by decide +kernel, rfl⟩ ?_
    generalize hs6 : zI σ3 110 1 a1 = σ6
    have h := h σ6 hs6
    refine z_iload_n (f := 2) (i := 2) (q := 0) (pc' := 29) ⟨by decide +kernel, rfl⟩ rfl rfl ?_
    exact z_iret (ty := .int) rfl (by rfl) (by decide +kernel) (k _ _ h)
  · have h := h.1 (qi_ne_f rfl (by decide) h4)
    refine z_iconst (i := (-1)) (v := (-1)) (pc' := 15) ⟨by decide +kernel, rfl⟩ (by decide) ?_
    exact z_iret (ty := .int) rfl (by rfl) (by decide +kernel) (k _ _ h)
noncomputable def W_M_fourAt (a1 : Int32) (σ : zS) (Q : Int64 → zS → Prop) : Prop := ∃ n1 : Nat, Int32.toInt a1 = (n1 : Int) ∧ n1 < 1200 ∧ (∃ n2 : Nat, Int32.toInt (a1 + 1) = (n2 : Int) ∧ n2 < 1200 ∧ (∃ n3 : Nat, Int32.toInt (a1 + 2) = (n3 : Int) ∧ n3 < 1200 ∧ (∃ n4 : Nat, Int32.toInt (a1 + 3) = (n4 : Int) ∧ n4 < 1200 ∧ (Q (((((Int32.toInt64 (σ.1 111 n1)) <<< (Int32.toInt64 24 &&& 63)) ||| (Int32.toInt64 ((σ.1 111 n2) <<< (16 &&& 31)))) ||| (Int32.toInt64 ((σ.1 111 n3) <<< (8 &&& 31)))) ||| (Int32.toInt64 (σ.1 111 n4))) σ))))
theorem sF_M_fourAt {E : xV} {σ : zS} {K : zKt} {a1 : Int32} {Q : Int64 → zS → Prop} (h : W_M_fourAt a1 σ Q) (k : ∀ v s, Q v s → K (some (.long v)) s) : Cz E Y_M_fourAt [.ref 110, .int a1] σ K := by
  refine z_entry (by decide) (fun a => by rw [sl_len]; exact Nat.le_of_ble_eq_true rfl) rfl ?_
  unfold W_M_fourAt at h
  refine z_aload_n (f := 0) (i := 0) (q := 0) (pc' := 1) ⟨by decide +kernel, rfl⟩ rfl rfl ?_
  refine w_getr (k := 110) (j := 2) (idx := 7) (pc' := 4) yfxe_13_7 ykfa_110_2 ⟨by decide +kernel, rfl⟩ ?_
  refine z_iload_n (f := 1) (i := 1) (q := 1) (pc' := 5) ⟨by decide +kernel, rfl⟩ rfl rfl ?_
  obtain ⟨n1, hi1, hz1, h⟩ := h
  refine w_iald (k := 111) (n := n1) (pc' := 6) ykaa_111 (hi1) (hz1) ⟨by decide +kernel, rfl⟩ ?_
  refine z_i2l (v := (Int32.toInt64 (σ.1 111 n1))) (pc' := 7) ⟨by decide +kernel, rfl⟩ rfl ?_
  refine z_bipush (i := 24) (v := 24) (pc' := 9) ⟨by decide +kernel, rfl⟩ (by decide) ?_
  refine z_lshl (v := ((Int32.toInt64 (σ.1 111 n1)) <<< (Int32.toInt64 24 &&& 63))) (pc' := 10) ⟨by decide +kernel, rfl⟩ rfl ?_
  refine z_aload_n (f := 0) (i := 0) (q := 0) (pc' := 11) ⟨by decide +kernel, rfl⟩ rfl rfl ?_
  refine w_getr (k := 110) (j := 2) (idx := 7) (pc' := 14) yfxe_13_7 ykfa_110_2 ⟨by decide +kernel, rfl⟩ ?_
  refine z_iload_n (f := 1) (i := 1) (q := 1) (pc' := 15) ⟨by decide +kernel, rfl⟩ rfl rfl ?_
  refine z_iconst (i := 1) (v := 1) (pc' := 16) ⟨by decide +kernel, rfl⟩ (by decide) ?_
  refine z_iadd (pc' := 17) ⟨by decide +kernel, rfl⟩ ?_
  obtain ⟨n2, hi2, hz2, h⟩ := h
  refine w_iald (k := 111) (n := n2) (pc' := 18) ykaa_111 (hi2) (hz2) ⟨by decide +kernel, rfl⟩ ?_
  refine z_bipush (i := 16) (v := 16) (pc' := 20) ⟨by decide +kernel, rfl⟩ (by decide) ?_
  refine z_ishl (pc' := 21) ⟨by decide +kernel, rfl⟩ ?_
  refine z_i2l (v := (Int32.toInt64 ((σ.1 111 n2) <<< (16 &&& 31)))) (pc' := 22) ⟨by decide +kernel, rfl⟩ rfl ?_
  refine z_lor (pc' := 23) ⟨by decide +kernel, rfl⟩ ?_
  refine z_aload_n (f := 0) (i := 0) (q := 0) (pc' := 24) ⟨by decide +kernel, rfl⟩ rfl rfl ?_
  refine w_getr (k := 110) (j := 2) (idx := 7) (pc' := 27) yfxe_13_7 ykfa_110_2 ⟨by decide +kernel, rfl⟩ ?_
  refine z_iload_n (f := 1) (i := 1) (q := 1) (pc' := 28) ⟨by decide +kernel, rfl⟩ rfl rfl ?_
  refine z_iconst (i := 2) (v := 2) (pc' := 29) ⟨by decide +kernel, rfl⟩ (by decide) ?_
  refine z_iadd (pc' := 30) ⟨by decide +kernel, rfl⟩ ?_
  obtain ⟨n3, hi3, hz3, h⟩ := h
  refine w_iald (k := 111) (n := n3) (pc' := 31) ykaa_111 (hi3) (hz3) ⟨by decide +kernel, rfl⟩ ?_
  refine z_bipush (i := 8) (v := 8) (pc' := 33) ⟨by decide +kernel, rfl⟩ (by decide) ?_
  refine z_ishl (pc' := 34) ⟨by decide +kernel, rfl⟩ ?_
  refine z_i2l (v := (Int32.toInt64 ((σ.1 111 n3) <<< (8 &&& 31)))) (pc' := 35) ⟨by decide +kernel, rfl⟩ rfl ?_
  refine z_lor (pc' := 36) ⟨by decide +kernel, rfl⟩ ?_
  refine z_aload_n (f := 0) (i := 0) (q := 0) (pc' := 37) ⟨by decide +kernel, rfl⟩ rfl rfl ?_
  refine w_getr (k := 110) (j := 2) (idx := 7) (pc' := 40) yfxe_13_7 ykfa_110_2 ⟨by decide +kernel, rfl⟩ ?_
  refine z_iload_n (f := 1) (i := 1) (q := 1) (pc' := 41) ⟨by decide +kernel, rfl⟩ rfl rfl ?_
  refine z_iconst (i := 3) (v := 3) (pc' := 42) ⟨by decide +kernel, rfl⟩ (by decide) ?_
  refine z_iadd (pc' := 43) ⟨by decide +kernel, rfl⟩ ?_
  obtain ⟨n4, hi4, hz4, h⟩ := h
  refine w_iald (k := 111) (n := n4) (pc' := 44) ykaa_111 (hi4) (hz4) ⟨by decide +kernel, rfl⟩ ?_
  refine z_i2l (v := (Int32.toInt64 (σ.1 111 n4))) (pc' := 45) ⟨by decide +kernel, rfl⟩ rfl ?_
  refine z_lor (pc' := 46) ⟨by decide +kernel, rfl⟩ ?_
  exact z_lret rfl (by decide +kernel) (k _ _ h)
noncomputable def WB_M_half_57 (F57 : Int32 → Int64 → Int64 → Int32 → zS → (Int32 → zS → Prop) → Prop) (x2 : Int32) (x3 : Int64) (x5 : Int64) (x7 : Int32) (σ : zS) (Q : Int32 → zS → Prop) : Prop := ((Int32.toInt (σ.1 110 1)) ≤ (Int32.toInt x7) → (∀ σ2 : zS, zI σ 110 1 0 = σ2 → (Q (Int64.toInt32 x3) σ2))) ∧ (¬ (Int32.toInt (σ.1 110 1)) ≤ (Int32.toInt x7) → (∀ r3 : Int64, r3.toInt = (Int32.toInt x2) → (W_M_fourAt x7 σ (fun v4 σ4 => (-2147483648 ≤ (Int32.toInt x7) + 4 ∧ (Int32.toInt x7) + 4 ≤ 2147483647) ∧ ∀ r5 : Int32, r5.toInt = (Int32.toInt x7) + 4 → (F57 x2 ((x3 + ((v4 - v4 / 2147483647 * 2147483647) * ((x5 * r3) - (x5 * r3) / 2147483647 * 2147483647))) - (x3 + ((v4 - v4 / 2147483647 * 2147483647) * ((x5 * r3) - (x5 * r3) / 2147483647 * 2147483647))) / 2147483647 * 2147483647) ((x5 * r3) - (x5 * r3) / 2147483647 * 2147483647) r5 σ4 Q)))))
theorem sh_M_half_57 {E : xV} {σ : zS} {K : zKt} {F57 : Int32 → Int64 → Int64 → Int32 → zS → (Int32 → zS → Prop) → Prop} {x2 : Int32} {x3 : Int64} {x5 : Int64} {x7 : Int32} {Q : Int32 → zS → Prop} (f57 : ∀ (x2 : Int32) (x3 : Int64) (x5 : Int64) (x7 : Int32) (σ : zS), F57 x2 x3 x5 x7 σ Q → Wz E Y_M_half 57 [(0, .ref 110), (2, .int x2), (3, .long x3), (5, .long x5), (7, .int x7)] [] σ K) (k : ∀ v s, Q v s → K (some (.int v)) s) (h : WB_M_half_57 F57 x2 x3 x5 x7 σ Q) : Wz E Y_M_half 57 [(0, .ref 110), (2, .int x2), (3, .long x3), (5, .long x5), (7, .int x7)] [] σ K := by
  unfold WB_M_half_57 at h
  refine z_iload (i := 7) (q := 4) (pc' := 59) ⟨by decide +kernel, rfl⟩ rfl ?_
  refine z_aload_n (f := 0) (i := 0) (q := 0) (pc' := 60) ⟨by decide +kernel, rfl⟩ rfl rfl ?_
  refine w_geti (k := 110) (j := 1) (idx := 396) (pc' := 63) yfxe_13_396 ykfa_110_1 ⟨by decide +kernel, rfl⟩ ?_
  refine z_icmp_ge (off := 40) (tgt := 103) (pc' := 66) ⟨by decide +kernel, by decide, rfl⟩ (fun h1 => ?_) (fun h1 => ?_)
  · have h := h.1 (qi_ge_t rfl rfl h1)
    refine z_aload_n (f := 0) (i := 0) (q := 0) (pc' := 104) ⟨by decide +kernel, rfl⟩ rfl rfl ?_
    refine z_iconst (i := 0) (v := 0) (pc' := 105) ⟨by decide +kernel, rfl⟩ (by decide) ?_
    refine w_puti (k := 110) (j := 1) (idx := 396) (pc' := 108) yfxi_13_396 ykfa_110_1 ⟨by decide +kernel, rfl⟩ ?_
    generalize hs2 : zI σ 110 1 0 = σ2
    have h := h σ2 hs2
    refine z_lload_n (f := 3) (i := 3) (q := 2) (pc' := 109) ⟨by decide +kernel, rfl⟩ rfl rfl ?_
    refine z_l2i (pc' := 110) ⟨by decide +kernel, rfl⟩ rfl ?_
    exact z_iret (ty := .int) rfl (by rfl) (by decide +kernel) (k _ _ h)
  · have h := h.2 (qi_ge_f rfl rfl h1)
    refine z_lload (i := 5) (q := 3) (pc' := 68) ⟨by decide +kernel, rfl⟩ rfl ?_
    refine z_iload_n (f := 2) (i := 2) (q := 1) (pc' := 69) ⟨by decide +kernel, rfl⟩ rfl rfl ?_
    refine z_i2l (v := (Int32.toInt64 x2)) (pc' := 70) ⟨by decide +kernel, rfl⟩ rfl ?_
    have h := h (Int32.toInt64 x2) (Int32.toInt_toInt64 _)
    generalize (Int32.toInt64 x2) = r3 at h ⊢
    refine z_lmul (pc' := 71) ⟨by decide +kernel, rfl⟩ ?_
    refine z_ldc2 (i := 860) (v := 2147483647) (pc' := 74) ⟨by decide +kernel, rfl⟩ k_13_168 ?_
    refine z_lrem (pc' := 75) ⟨by decide +kernel, rfl⟩ (by decide) ?_
    refine z_lstore (i := 5) (pc' := 77) ⟨by decide +kernel, rfl⟩ (by decide) rfl ?_
    show Wz E Y_M_half 77 [(5, .long ((x5 * r3) - (x5 * r3) / 2147483647 * 2147483647)), (0, .ref 110), (2, .int x2), (3, .long x3), (7, .int x7)] [] σ K
    refine z_lload_n (f := 3) (i := 3) (q := 3) (pc' := 78) ⟨by decide +kernel, rfl⟩ rfl rfl ?_
    refine z_aload_n (f := 0) (i := 0) (q := 1) (pc' := 79) ⟨by decide +kernel, rfl⟩ rfl rfl ?_
    refine z_iload (i := 7) (q := 4) (pc' := 81) ⟨by decide +kernel, rfl⟩ rfl ?_
    refine w_invV (Z := Y_M_fourAt) (idx := 909) (kb := 110) (As := [.int x7]) (rest := [.long x3]) (pc' := 84) cl_13_909 rfl ⟨rfl, rfl⟩ ykfa_110_0 rfl ⟨⟨by decide, by decide⟩, rfl, rfl⟩ ⟨by decide +kernel, rfl⟩ rfl rfl (Nat.le_of_ble_eq_true rfl) rfl rfl ?_
    refine sF_M_fourAt h (fun v4 σ4 h => ?_)
    show Wz E Y_M_half 84 [(5, .long ((x5 * r3) - (x5 * r3) / 2147483647 * 2147483647)), (0, .ref 110), (2, .int x2), (3, .long x3), (7, .int x7)] [.long v4, .long x3] σ4 K
    refine z_ldc2 (i := 860) (v := 2147483647) (pc' := 87) ⟨by decide +kernel, rfl⟩ k_13_168 ?_
    refine z_lrem (pc' := 88) ⟨by decide +kernel, rfl⟩ (by decide) ?_
    refine z_lload (i := 5) (q := 0) (pc' := 90) ⟨by decide +kernel, rfl⟩ rfl ?_
    refine z_lmul (pc' := 91) ⟨by decide +kernel, rfl⟩ ?_
    refine z_ladd (pc' := 92) ⟨by decide +kernel, rfl⟩ ?_
    refine z_ldc2 (i := 860) (v := 2147483647) (pc' := 95) ⟨by decide +kernel, rfl⟩ k_13_168 ?_
    refine z_lrem (pc' := 96) ⟨by decide +kernel, rfl⟩ (by decide) ?_
    refine z_lstore_n (f := 3) (i := 3) (pc' := 97) ⟨by decide +kernel, rfl⟩ rfl (by decide) rfl ?_
    show Wz E Y_M_half 97 [(3, .long ((x3 + ((v4 - v4 / 2147483647 * 2147483647) * ((x5 * r3) - (x5 * r3) / 2147483647 * 2147483647))) - (x3 + ((v4 - v4 / 2147483647 * 2147483647) * ((x5 * r3) - (x5 * r3) / 2147483647 * 2147483647))) / 2147483647 * 2147483647)), (5, .long ((x5 * r3) - (x5 * r3) / 2147483647 * 2147483647)), (0, .ref 110), (2, .int x2), (7, .int x7)] [] σ4 K
    refine z_iinc (i := 7) (z := 4) (q := 4) (pc' := 100) ⟨by decide +kernel, rfl⟩ rfl rfl (by decide) rfl ?_
    show Wz E Y_M_half 100 [(7, .int (x7 + Int32.ofInt 4)), (3, .long ((x3 + ((v4 - v4 / 2147483647 * 2147483647) * ((x5 * r3) - (x5 * r3) / 2147483647 * 2147483647))) - (x3 + ((v4 - v4 / 2147483647 * 2147483647) * ((x5 * r3) - (x5 * r3) / 2147483647 * 2147483647))) / 2147483647 * 2147483647)), (5, .long ((x5 * r3) - (x5 * r3) / 2147483647 * 2147483647)), (0, .ref 110), (2, .int x2)] [] σ4 K
    obtain ⟨hb5, h⟩ := h
    have h := h (x7 + Int32.ofInt 4) (ia_ok rfl (by decide) hb5)
    generalize (x7 + Int32.ofInt 4) = r5 at h ⊢
    refine z_goto (off := (-43)) (tgt := 57) (pc' := 103) ⟨by decide +kernel, by decide, rfl⟩ ?_
    refine z_sub [3, 4, 1, 2, 0] rfl ?_
    exact f57 _ _ _ _ _ h
noncomputable def WL_M_half : Nat → (Int32 → Int64 → Int64 → Int32 → zS → (Int32 → zS → Prop) → Prop)
  | 0 => fun _ _ _ _ _ _ => False
  | n + 1 => WB_M_half_57 (WL_M_half n)
theorem wl_M_half_57 {n : Nat} {x2 : Int32} {x3 : Int64} {x5 : Int64} {x7 : Int32} {σ : zS} {Q : Int32 → zS → Prop} (h : WB_M_half_57 (WL_M_half n) x2 x3 x5 x7 σ Q) : (WL_M_half (n + 1)) x2 x3 x5 x7 σ Q := h
theorem sl_M_half {E : xV} {K : zKt} {Q : Int32 → zS → Prop} (k : ∀ v s, Q v s → K (some (.int v)) s) : ∀ n, (∀ (x2 : Int32) (x3 : Int64) (x5 : Int64) (x7 : Int32) (σ : zS), (WL_M_half n) x2 x3 x5 x7 σ Q → Wz E Y_M_half 57 [(0, .ref 110), (2, .int x2), (3, .long x3), (5, .long x5), (7, .int x7)] [] σ K)
  | 0 => fun _ _ _ _ _ h => h.elim
  | n + 1 => by
    have i := sl_M_half (E := E)  k n
    exact fun _ _ _ _ _ h => sh_M_half_57 i k h
noncomputable def W_M_half (a1 : Int32) (a2 : Int32) (σ : zS) (Q : Int32 → zS → Prop) : Prop := ((Int32.toInt a1) < 0 → (Q (-1) σ)) ∧ (¬ (Int32.toInt a1) < 0 → (∀ r2 : Int64, r2.toInt = (Int32.toInt a1) → ((2147483647 ≤ (Int64.toInt r2) → (Q (-1) σ)) ∧ (¬ 2147483647 ≤ (Int64.toInt r2) → (∀ r4 : Int64, r4.toInt = (Int32.toInt a2) → (W_M_in r4 1 1000 σ (fun v5 σ5 => ((Int32.toInt v5) = 0 → (Q (-1) σ5)) ∧ (¬ (Int32.toInt v5) = 0 → ((0 ≤ (Int32.toInt (σ5.1 110 1))) ∧ (∀ r8 : Int32, r8.toInt = (Int32.toInt (σ5.1 110 1)) % 4 → (((Int32.toInt r8) = 0 → (((Int32.toInt (σ5.1 110 1)) ≤ 40 → (∀ r11 : Int64, r11.toInt = (Int32.toInt a1) → ((WL_M_half fuF) a2 r11 1 0 σ5 Q))) ∧ (¬ (Int32.toInt (σ5.1 110 1)) ≤ 40 → (Q (-2) σ5)))) ∧ (¬ (Int32.toInt r8) = 0 → (Q (-2) σ5)))))))))))))
theorem sF_M_half {E : xV} {σ : zS} {K : zKt} {a1 : Int32} {a2 : Int32} {Q : Int32 → zS → Prop} (h : W_M_half a1 a2 σ Q) (k : ∀ v s, Q v s → K (some (.int v)) s) : Cz E Y_M_half [.ref 110, .int a1, .int a2] σ K := by
  refine z_entry (by decide) (fun a => by rw [sl_len]; exact Nat.le_of_ble_eq_true rfl) rfl ?_
  unfold W_M_half at h
  refine z_iload_n (f := 1) (i := 1) (q := 1) (pc' := 1) ⟨by decide +kernel, rfl⟩ rfl rfl ?_
  refine z_if_lt (off := 24) (tgt := 25) (pc' := 4) ⟨by decide +kernel, by decide, rfl⟩ (fun h1 => ?_) (fun h1 => ?_)
  · have h := h.1 (qi_lt_t rfl (by decide) h1)
    refine z_iconst (i := (-1)) (v := (-1)) (pc' := 26) ⟨by decide +kernel, rfl⟩ (by decide) ?_
    exact z_iret (ty := .int) rfl (by rfl) (by decide +kernel) (k _ _ h)
  · have h := h.2 (qi_lt_f rfl (by decide) h1)
    refine z_iload_n (f := 1) (i := 1) (q := 1) (pc' := 5) ⟨by decide +kernel, rfl⟩ rfl rfl ?_
    refine z_i2l (v := (Int32.toInt64 a1)) (pc' := 6) ⟨by decide +kernel, rfl⟩ rfl ?_
    have h := h (Int32.toInt64 a1) (Int32.toInt_toInt64 _)
    generalize (Int32.toInt64 a1) = r2 at h ⊢
    refine z_ldc2 (i := 860) (v := 2147483647) (pc' := 9) ⟨by decide +kernel, rfl⟩ k_13_168 ?_
    refine z_lcmp (pc' := 10) ⟨by decide +kernel, rfl⟩ ?_
    refine z_if_ge (off := 15) (tgt := 25) (pc' := 13) ⟨by decide +kernel, by decide, rfl⟩ (fun h3 => ?_) (fun h3 => ?_)
    · have h := h.1 (qk_ge_t rfl (by decide) h3)
      refine z_iconst (i := (-1)) (v := (-1)) (pc' := 26) ⟨by decide +kernel, rfl⟩ (by decide) ?_
      exact z_iret (ty := .int) rfl (by rfl) (by decide +kernel) (k _ _ h)
    · have h := h.2 (qk_ge_f rfl (by decide) h3)
      refine z_iload_n (f := 2) (i := 2) (q := 2) (pc' := 14) ⟨by decide +kernel, rfl⟩ rfl rfl ?_
      refine z_i2l (v := (Int32.toInt64 a2)) (pc' := 15) ⟨by decide +kernel, rfl⟩ rfl ?_
      have h := h (Int32.toInt64 a2) (Int32.toInt_toInt64 _)
      generalize (Int32.toInt64 a2) = r4 at h ⊢
      refine z_lconst (i := 1) (v := 1) (pc' := 16) ⟨by decide +kernel, rfl⟩ (by decide) ?_
      refine z_ldc2 (i := 895) (v := 1000) (pc' := 19) ⟨by decide +kernel, rfl⟩ k_13_195 ?_
      refine w_invS (Z := Y_M_in) (idx := 333) (As := [.long r4, .long 1, .long 1000]) (rest := []) (pc' := 22) cl_13_333 rfl ⟨rfl, rfl⟩ ⟨⟨by decide, by decide⟩, rfl, rfl⟩ ⟨by decide +kernel, rfl⟩ rfl rfl (Nat.le_of_ble_eq_true rfl) rfl rfl ?_
      refine sF_M_in h (fun v5 σ5 h => ?_)
      show Wz E Y_M_half 22 [(0, .ref 110), (1, .int a1), (2, .int a2)] [.int v5] σ5 K
      refine z_if_ne (off := 5) (tgt := 27) (pc' := 25) ⟨by decide +kernel, by decide, rfl⟩ (fun h6 => ?_) (fun h6 => ?_)
      · have h := h.2 (qi_ne_t rfl (by decide) h6)
        refine z_aload_n (f := 0) (i := 0) (q := 0) (pc' := 28) ⟨by decide +kernel, rfl⟩ rfl rfl ?_
        refine w_geti (k := 110) (j := 1) (idx := 396) (pc' := 31) yfxe_13_396 ykfa_110_1 ⟨by decide +kernel, rfl⟩ ?_
        refine z_iconst (i := 4) (v := 4) (pc' := 32) ⟨by decide +kernel, rfl⟩ (by decide) ?_
        refine z_irem (pc' := 33) ⟨by decide +kernel, rfl⟩ (by decide) ?_
        obtain ⟨hg7, h⟩ := h
        have h := h ((σ5.1 110 1) - (σ5.1 110 1) / 4 * 4) (remi_ok hg7 (by decide) (by decide))
        generalize ((σ5.1 110 1) - (σ5.1 110 1) / 4 * 4) = r8 at h ⊢
        refine z_if_ne (off := 12) (tgt := 45) (pc' := 36) ⟨by decide +kernel, by decide, rfl⟩ (fun h9 => ?_) (fun h9 => ?_)
        · have h := h.2 (qi_ne_t rfl (by decide) h9)
          refine z_bipush (i := (-2)) (v := (-2)) (pc' := 47) ⟨by decide +kernel, rfl⟩ (by decide) ?_
          exact z_iret (ty := .int) rfl (by rfl) (by decide +kernel) (k _ _ h)
        · have h := h.1 (qi_ne_f rfl (by decide) h9)
          refine z_aload_n (f := 0) (i := 0) (q := 0) (pc' := 37) ⟨by decide +kernel, rfl⟩ rfl rfl ?_
          refine w_geti (k := 110) (j := 1) (idx := 396) (pc' := 40) yfxe_13_396 ykfa_110_1 ⟨by decide +kernel, rfl⟩ ?_
          refine z_bipush (i := 40) (v := 40) (pc' := 42) ⟨by decide +kernel, rfl⟩ (by decide) ?_
          refine z_icmp_le (off := 6) (tgt := 48) (pc' := 45) ⟨by decide +kernel, by decide, rfl⟩ (fun h10 => ?_) (fun h10 => ?_)
          · have h := h.1 (qi_le_t rfl (by decide) h10)
            refine z_iload_n (f := 1) (i := 1) (q := 1) (pc' := 49) ⟨by decide +kernel, rfl⟩ rfl rfl ?_
            refine z_i2l (v := (Int32.toInt64 a1)) (pc' := 50) ⟨by decide +kernel, rfl⟩ rfl ?_
            have h := h (Int32.toInt64 a1) (Int32.toInt_toInt64 _)
            generalize (Int32.toInt64 a1) = r11 at h ⊢
            refine z_lstore_n (f := 3) (i := 3) (pc' := 51) ⟨by decide +kernel, rfl⟩ rfl (by decide) rfl ?_
            show Wz E Y_M_half 51 [(3, .long r11), (0, .ref 110), (1, .int a1), (2, .int a2)] [] σ5 K
            refine z_lconst (i := 1) (v := 1) (pc' := 52) ⟨by decide +kernel, rfl⟩ (by decide) ?_
            refine z_lstore (i := 5) (pc' := 54) ⟨by decide +kernel, rfl⟩ (by decide) rfl ?_
            show Wz E Y_M_half 54 [(5, .long 1), (3, .long r11), (0, .ref 110), (1, .int a1), (2, .int a2)] [] σ5 K
            refine z_iconst (i := 0) (v := 0) (pc' := 55) ⟨by decide +kernel, rfl⟩ (by decide) ?_
            refine z_istore (i := 7) (pc' := 57) ⟨by decide +kernel, rfl⟩ (by decide) rfl ?_
            show Wz E Y_M_half 57 [(7, .int 0), (5, .long 1), (3, .long r11), (0, .ref 110), (1, .int a1), (2, .int a2)] [] σ5 K
            refine z_sub [3, 5, 2, 1, 0] rfl ?_
            exact (sl_M_half k fuF) _ _ _ _ _ h
          · have h := h.2 (qi_le_f rfl (by decide) h10)
            refine z_bipush (i := (-2)) (v := (-2)) (pc' := 47) ⟨by decide +kernel, rfl⟩ (by decide) ?_
            exact z_iret (ty := .int) rfl (by rfl) (by decide +kernel) (k _ _ h)
      · have h := h.1 (qi_ne_f rfl (by decide) h6)
        refine z_iconst (i := (-1)) (v := (-1)) (pc' := 26) ⟨by decide +kernel, rfl⟩ (by decide) ?_
        exact z_iret (ty := .int) rfl (by rfl) (by decide +kernel) (k _ _ h)
noncomputable def W_M_power_b39 (F9 : Int64 → Int64 → Int64 → zS → (Int64 → zS → Prop) → Prop) (x6 : Int64) (x8 : Int64) (y0 : Int64) (σ : zS) (Q : Int64 → zS → Prop) : Prop := F9 y0 ((x6 * x6) - (x6 * x6) / 2147483647 * 2147483647) (x8 >>> (Int32.toInt64 1 &&& 63)) σ Q
theorem sb_M_power_39 {E : xV} {σ : zS} {K : zKt} {F9 : Int64 → Int64 → Int64 → zS → (Int64 → zS → Prop) → Prop} {x6 : Int64} {x8 : Int64} {y0 : Int64} {Q : Int64 → zS → Prop} (f9 : ∀ (x4 : Int64) (x6 : Int64) (x8 : Int64) (σ : zS), F9 x4 x6 x8 σ Q → Wz E Y_M_power 9 [(4, .long x4), (6, .long x6), (8, .long x8)] [] σ K) (k : ∀ v s, Q v s → K (some (.long v)) s) (h : W_M_power_b39 F9 x6 x8 y0 σ Q) : Wz E Y_M_power 39 [(6, .long x6), (8, .long x8)] [.long y0] σ K := by
  unfold W_M_power_b39 at h
  refine z_lstore (i := 4) (pc' := 41) ⟨by decide +kernel, rfl⟩ (by decide) rfl ?_
  show Wz E Y_M_power 41 [(4, .long y0), (6, .long x6), (8, .long x8)] [] σ K
  refine z_lload (i := 6) (q := 1) (pc' := 43) ⟨by decide +kernel, rfl⟩ rfl ?_
  refine z_lload (i := 6) (q := 1) (pc' := 45) ⟨by decide +kernel, rfl⟩ rfl ?_
  refine z_lmul (pc' := 46) ⟨by decide +kernel, rfl⟩ ?_
  refine z_ldc2 (i := 860) (v := 2147483647) (pc' := 49) ⟨by decide +kernel, rfl⟩ k_13_168 ?_
  refine z_lrem (pc' := 50) ⟨by decide +kernel, rfl⟩ (by decide) ?_
  refine z_lstore (i := 6) (pc' := 52) ⟨by decide +kernel, rfl⟩ (by decide) rfl ?_
  show Wz E Y_M_power 52 [(6, .long ((x6 * x6) - (x6 * x6) / 2147483647 * 2147483647)), (4, .long y0), (8, .long x8)] [] σ K
  refine z_lload (i := 8) (q := 2) (pc' := 54) ⟨by decide +kernel, rfl⟩ rfl ?_
  refine z_iconst (i := 1) (v := 1) (pc' := 55) ⟨by decide +kernel, rfl⟩ (by decide) ?_
  refine z_lshr (v := (x8 >>> (Int32.toInt64 1 &&& 63))) (pc' := 56) ⟨by decide +kernel, rfl⟩ rfl ?_
  refine z_lstore (i := 8) (pc' := 58) ⟨by decide +kernel, rfl⟩ (by decide) rfl ?_
  show Wz E Y_M_power 58 [(8, .long (x8 >>> (Int32.toInt64 1 &&& 63))), (6, .long ((x6 * x6) - (x6 * x6) / 2147483647 * 2147483647)), (4, .long y0)] [] σ K
  refine z_goto (off := (-49)) (tgt := 9) (pc' := 61) ⟨by decide +kernel, by decide, rfl⟩ ?_
  refine z_sub [2, 1, 0] rfl ?_
  exact f9 _ _ _ _ h
noncomputable def WB_M_power_9 (F9 : Int64 → Int64 → Int64 → zS → (Int64 → zS → Prop) → Prop) (x4 : Int64) (x6 : Int64) (x8 : Int64) (σ : zS) (Q : Int64 → zS → Prop) : Prop := ((Int64.toInt x8) ≤ 0 → (Q x4 σ)) ∧ (¬ (Int64.toInt x8) ≤ 0 → (((Int64.toInt (x8 &&& 1)) = 1 → (W_M_power_b39 F9 x6 x8 ((x4 * x6) - (x4 * x6) / 2147483647 * 2147483647) σ Q)) ∧ (¬ (Int64.toInt (x8 &&& 1)) = 1 → (W_M_power_b39 F9 x6 x8 x4 σ Q))))
theorem sh_M_power_9 {E : xV} {σ : zS} {K : zKt} {F9 : Int64 → Int64 → Int64 → zS → (Int64 → zS → Prop) → Prop} {x4 : Int64} {x6 : Int64} {x8 : Int64} {Q : Int64 → zS → Prop} (f9 : ∀ (x4 : Int64) (x6 : Int64) (x8 : Int64) (σ : zS), F9 x4 x6 x8 σ Q → Wz E Y_M_power 9 [(4, .long x4), (6, .long x6), (8, .long x8)] [] σ K) (k : ∀ v s, Q v s → K (some (.long v)) s) (h : WB_M_power_9 F9 x4 x6 x8 σ Q) : Wz E Y_M_power 9 [(4, .long x4), (6, .long x6), (8, .long x8)] [] σ K := by
  unfold WB_M_power_9 at h
  refine z_lload (i := 8) (q := 2) (pc' := 11) ⟨by decide +kernel, rfl⟩ rfl ?_
  refine z_lconst (i := 0) (v := 0) (pc' := 12) ⟨by decide +kernel, rfl⟩ (by decide) ?_
  refine z_lcmp (pc' := 13) ⟨by decide +kernel, rfl⟩ ?_
  refine z_if_le (off := 48) (tgt := 61) (pc' := 16) ⟨by decide +kernel, by decide, rfl⟩ (fun h1 => ?_) (fun h1 => ?_)
  · have h := h.1 (qk_le_t rfl (by decide) h1)
    refine z_lload (i := 4) (q := 0) (pc' := 63) ⟨by decide +kernel, rfl⟩ rfl ?_
    exact z_lret rfl (by decide +kernel) (k _ _ h)
  · have h := h.2 (qk_le_f rfl (by decide) h1)
    refine z_lload (i := 8) (q := 2) (pc' := 18) ⟨by decide +kernel, rfl⟩ rfl ?_
    refine z_lconst (i := 1) (v := 1) (pc' := 19) ⟨by decide +kernel, rfl⟩ (by decide) ?_
    refine z_land (pc' := 20) ⟨by decide +kernel, rfl⟩ ?_
    refine z_lconst (i := 1) (v := 1) (pc' := 21) ⟨by decide +kernel, rfl⟩ (by decide) ?_
    refine z_lcmp (pc' := 22) ⟨by decide +kernel, rfl⟩ ?_
    refine z_if_ne (off := 15) (tgt := 37) (pc' := 25) ⟨by decide +kernel, by decide, rfl⟩ (fun h2 => ?_) (fun h2 => ?_)
    · have h := h.2 (qk_ne_t rfl (by decide) h2)
      refine z_lload (i := 4) (q := 0) (pc' := 39) ⟨by decide +kernel, rfl⟩ rfl ?_
      refine z_sub [1, 2] rfl ?_
      exact sb_M_power_39 f9 k h
    · have h := h.1 (qk_ne_f rfl (by decide) h2)
      refine z_lload (i := 4) (q := 0) (pc' := 27) ⟨by decide +kernel, rfl⟩ rfl ?_
      refine z_lload (i := 6) (q := 1) (pc' := 29) ⟨by decide +kernel, rfl⟩ rfl ?_
      refine z_lmul (pc' := 30) ⟨by decide +kernel, rfl⟩ ?_
      refine z_ldc2 (i := 860) (v := 2147483647) (pc' := 33) ⟨by decide +kernel, rfl⟩ k_13_168 ?_
      refine z_lrem (pc' := 34) ⟨by decide +kernel, rfl⟩ (by decide) ?_
      refine z_goto (off := 5) (tgt := 39) (pc' := 37) ⟨by decide +kernel, by decide, rfl⟩ ?_
      refine z_sub [1, 2] rfl ?_
      exact sb_M_power_39 f9 k h
noncomputable def WL_M_power : Nat → (Int64 → Int64 → Int64 → zS → (Int64 → zS → Prop) → Prop)
  | 0 => fun _ _ _ _ _ => False
  | n + 1 => WB_M_power_9 (WL_M_power n)
theorem wl_M_power_9 {n : Nat} {x4 : Int64} {x6 : Int64} {x8 : Int64} {σ : zS} {Q : Int64 → zS → Prop} (h : WB_M_power_9 (WL_M_power n) x4 x6 x8 σ Q) : (WL_M_power (n + 1)) x4 x6 x8 σ Q := h
theorem sl_M_power {E : xV} {K : zKt} {Q : Int64 → zS → Prop} (k : ∀ v s, Q v s → K (some (.long v)) s) : ∀ n, (∀ (x4 : Int64) (x6 : Int64) (x8 : Int64) (σ : zS), (WL_M_power n) x4 x6 x8 σ Q → Wz E Y_M_power 9 [(4, .long x4), (6, .long x6), (8, .long x8)] [] σ K)
  | 0 => fun _ _ _ _ h => h.elim
  | n + 1 => by
    have i := sl_M_power (E := E)  k n
    exact fun _ _ _ _ h => sh_M_power_9 i k h
noncomputable def W_M_power (a0 : Int64) (a2 : Int64) (σ : zS) (Q : Int64 → zS → Prop) : Prop := (WL_M_power fuF) 1 a0 a2 σ Q
theorem sF_M_power {E : xV} {σ : zS} {K : zKt} {a0 : Int64} {a2 : Int64} {Q : Int64 → zS → Prop} (h : W_M_power a0 a2 σ Q) (k : ∀ v s, Q v s → K (some (.long v)) s) : Cz E Y_M_power [.long a0, .long a2] σ K := by
  refine z_entry (by decide) (fun a => by rw [sl_len]; exact Nat.le_of_ble_eq_true rfl) rfl ?_
  unfold W_M_power at h
  refine z_lconst (i := 1) (v := 1) (pc' := 1) ⟨by decide +kernel, rfl⟩ (by decide) ?_
  refine z_lstore (i := 4) (pc' := 3) ⟨by decide +kernel, rfl⟩ (by decide) rfl ?_
  show Wz E Y_M_power 3 [(4, .long 1), (0, .long a0), (2, .long a2)] [] σ K
  refine z_lload_n (f := 0) (i := 0) (q := 1) (pc' := 4) ⟨by decide +kernel, rfl⟩ rfl rfl ?_
  refine z_lstore (i := 6) (pc' := 6) ⟨by decide +kernel, rfl⟩ (by decide) rfl ?_
  show Wz E Y_M_power 6 [(6, .long a0), (4, .long 1), (0, .long a0), (2, .long a2)] [] σ K
  refine z_lload_n (f := 2) (i := 2) (q := 3) (pc' := 7) ⟨by decide +kernel, rfl⟩ rfl rfl ?_
  refine z_lstore (i := 8) (pc' := 9) ⟨by decide +kernel, rfl⟩ (by decide) rfl ?_
  show Wz E Y_M_power 9 [(8, .long a2), (6, .long a0), (4, .long 1), (0, .long a0), (2, .long a2)] [] σ K
  refine z_sub [2, 1, 0] rfl ?_
  exact (sl_M_power k fuF) _ _ _ _ h
noncomputable def WB_M_joined_31 (F31 : Int32 → zS → (Int32 → zS → Prop) → Prop) (F73 : Int32 → Int32 → zS → (Int32 → zS → Prop) → Prop) (F111 : Int64 → Int32 → zS → (Int32 → zS → Prop) → Prop) (F134 : Int64 → Int32 → Int64 → Int64 → Int32 → zS → (Int32 → zS → Prop) → Prop) (x1 : Int32) (σ : zS) (Q : Int32 → zS → Prop) : Prop := ((Int32.toInt (σ.1 110 1)) ≤ (Int32.toInt x1) → (F111 0 0 σ Q)) ∧ (¬ (Int32.toInt (σ.1 110 1)) ≤ (Int32.toInt x1) → (W_M_fourAt x1 σ (fun v2 σ2 => W_M_in v2 1 1000 σ2 (fun v3 σ3 => ((Int32.toInt v3) = 0 → (Q (-2) σ3)) ∧ (¬ (Int32.toInt v3) = 0 → ((-2147483648 ≤ (Int32.toInt x1) + 4 ∧ (Int32.toInt x1) + 4 ≤ 2147483647) ∧ ∀ r5 : Int32, r5.toInt = (Int32.toInt x1) + 4 → (W_M_fourAt r5 σ3 (fun v6 σ6 => ((Int64.toInt v6) < 2147483647 → (F73 x1 0 σ6 Q)) ∧ (¬ (Int64.toInt v6) < 2147483647 → (Q (-2) σ6))))))))))
theorem sh_M_joined_31 {E : xV} {σ : zS} {K : zKt} {F31 : Int32 → zS → (Int32 → zS → Prop) → Prop} {F73 : Int32 → Int32 → zS → (Int32 → zS → Prop) → Prop} {F111 : Int64 → Int32 → zS → (Int32 → zS → Prop) → Prop} {F134 : Int64 → Int32 → Int64 → Int64 → Int32 → zS → (Int32 → zS → Prop) → Prop} {x1 : Int32} {Q : Int32 → zS → Prop} (f31 : ∀ (x1 : Int32) (σ : zS), F31 x1 σ Q → Wz E Y_M_joined 31 [(0, .ref 110), (1, .int x1)] [] σ K) (f73 : ∀ (x1 : Int32) (x2 : Int32) (σ : zS), F73 x1 x2 σ Q → Wz E Y_M_joined 73 [(0, .ref 110), (1, .int x1), (2, .int x2)] [] σ K) (f111 : ∀ (x1 : Int64) (x3 : Int32) (σ : zS), F111 x1 x3 σ Q → Wz E Y_M_joined 111 [(0, .ref 110), (1, .long x1), (3, .int x3)] [] σ K) (f134 : ∀ (x1 : Int64) (x3 : Int32) (x4 : Int64) (x6 : Int64) (x8 : Int32) (σ : zS), F134 x1 x3 x4 x6 x8 σ Q → Wz E Y_M_joined 134 [(0, .ref 110), (1, .long x1), (3, .int x3), (4, .long x4), (6, .long x6), (8, .int x8)] [] σ K) (k : ∀ v s, Q v s → K (some (.int v)) s) (h : WB_M_joined_31 F31 F73 F111 F134 x1 σ Q) : Wz E Y_M_joined 31 [(0, .ref 110), (1, .int x1)] [] σ K := by
  unfold WB_M_joined_31 at h
  refine z_iload_n (f := 1) (i := 1) (q := 1) (pc' := 32) ⟨by decide +kernel, rfl⟩ rfl rfl ?_
  refine z_aload_n (f := 0) (i := 0) (q := 0) (pc' := 33) ⟨by decide +kernel, rfl⟩ rfl rfl ?_
  refine w_geti (k := 110) (j := 1) (idx := 396) (pc' := 36) yfxe_13_396 ykfa_110_1 ⟨by decide +kernel, rfl⟩ ?_
  refine z_icmp_ge (off := 71) (tgt := 107) (pc' := 39) ⟨by decide +kernel, by decide, rfl⟩ (fun h1 => ?_) (fun h1 => ?_)
  · have h := h.1 (qi_ge_t rfl rfl h1)
    refine z_lconst (i := 0) (v := 0) (pc' := 108) ⟨by decide +kernel, rfl⟩ (by decide) ?_
    refine z_lstore_n (f := 1) (i := 1) (pc' := 109) ⟨by decide +kernel, rfl⟩ rfl (by decide) rfl ?_
    show Wz E Y_M_joined 109 [(1, .long 0), (0, .ref 110)] [] σ K
    refine z_iconst (i := 0) (v := 0) (pc' := 110) ⟨by decide +kernel, rfl⟩ (by decide) ?_
    refine z_istore_n (f := 3) (i := 3) (pc' := 111) ⟨by decide +kernel, rfl⟩ rfl (by decide) rfl ?_
    show Wz E Y_M_joined 111 [(3, .int 0), (1, .long 0), (0, .ref 110)] [] σ K
    refine z_sub [2, 1, 0] rfl ?_
    exact f111 _ _ _ h
  · have h := h.2 (qi_ge_f rfl rfl h1)
    refine z_aload_n (f := 0) (i := 0) (q := 0) (pc' := 40) ⟨by decide +kernel, rfl⟩ rfl rfl ?_
    refine z_iload_n (f := 1) (i := 1) (q := 1) (pc' := 41) ⟨by decide +kernel, rfl⟩ rfl rfl ?_
    refine w_invV (Z := Y_M_fourAt) (idx := 909) (kb := 110) (As := [.int x1]) (rest := []) (pc' := 44) cl_13_909 rfl ⟨rfl, rfl⟩ ykfa_110_0 rfl ⟨⟨by decide, by decide⟩, rfl, rfl⟩ ⟨by decide +kernel, rfl⟩ rfl rfl (Nat.le_of_ble_eq_true rfl) rfl rfl ?_
    refine sF_M_fourAt h (fun v2 σ2 h => ?_)
    show Wz E Y_M_joined 44 [(0, .ref 110), (1, .int x1)] [.long v2] σ2 K
    refine z_lconst (i := 1) (v := 1) (pc' := 45) ⟨by decide +kernel, rfl⟩ (by decide) ?_
    refine z_ldc2 (i := 895) (v := 1000) (pc' := 48) ⟨by decide +kernel, rfl⟩ k_13_195 ?_
    refine w_invS (Z := Y_M_in) (idx := 333) (As := [.long v2, .long 1, .long 1000]) (rest := []) (pc' := 51) cl_13_333 rfl ⟨rfl, rfl⟩ ⟨⟨by decide, by decide⟩, rfl, rfl⟩ ⟨by decide +kernel, rfl⟩ rfl rfl (Nat.le_of_ble_eq_true rfl) rfl rfl ?_
    refine sF_M_in h (fun v3 σ3 h => ?_)
    show Wz E Y_M_joined 51 [(0, .ref 110), (1, .int x1)] [.int v3] σ3 K
    refine z_if_eq (off := 17) (tgt := 68) (pc' := 54) ⟨by decide +kernel, by decide, rfl⟩ (fun h4 => ?_) (fun h4 => ?_)
    · have h := h.1 (qi_eq_t rfl (by decide) h4)
      refine z_bipush (i := (-2)) (v := (-2)) (pc' := 70) ⟨by decide +kernel, rfl⟩ (by decide) ?_
      exact z_iret (ty := .int) rfl (by rfl) (by decide +kernel) (k _ _ h)
    · have h := h.2 (qi_eq_f rfl (by decide) h4)
      refine z_aload_n (f := 0) (i := 0) (q := 0) (pc' := 55) ⟨by decide +kernel, rfl⟩ rfl rfl ?_
      refine z_iload_n (f := 1) (i := 1) (q := 1) (pc' := 56) ⟨by decide +kernel, rfl⟩ rfl rfl ?_
      refine z_iconst (i := 4) (v := 4) (pc' := 57) ⟨by decide +kernel, rfl⟩ (by decide) ?_
      refine z_iadd (pc' := 58) ⟨by decide +kernel, rfl⟩ ?_
      obtain ⟨hb5, h⟩ := h
      have h := h (x1 + 4) (ia_ok rfl (by decide) hb5)
      generalize (x1 + 4) = r5 at h ⊢
      refine w_invV (Z := Y_M_fourAt) (idx := 909) (kb := 110) (As := [.int r5]) (rest := []) (pc' := 61) cl_13_909 rfl ⟨rfl, rfl⟩ ykfa_110_0 rfl ⟨⟨by decide, by decide⟩, rfl, rfl⟩ ⟨by decide +kernel, rfl⟩ rfl rfl (Nat.le_of_ble_eq_true rfl) rfl rfl ?_
      refine sF_M_fourAt h (fun v6 σ6 h => ?_)
      show Wz E Y_M_joined 61 [(0, .ref 110), (1, .int x1)] [.long v6] σ6 K
      refine z_ldc2 (i := 860) (v := 2147483647) (pc' := 64) ⟨by decide +kernel, rfl⟩ k_13_168 ?_
      refine z_lcmp (pc' := 65) ⟨by decide +kernel, rfl⟩ ?_
      refine z_if_lt (off := 6) (tgt := 71) (pc' := 68) ⟨by decide +kernel, by decide, rfl⟩ (fun h7 => ?_) (fun h7 => ?_)
      · have h := h.1 (qk_lt_t rfl (by decide) h7)
        refine z_iconst (i := 0) (v := 0) (pc' := 72) ⟨by decide +kernel, rfl⟩ (by decide) ?_
        refine z_istore_n (f := 2) (i := 2) (pc' := 73) ⟨by decide +kernel, rfl⟩ rfl (by decide) rfl ?_
        show Wz E Y_M_joined 73 [(2, .int 0), (0, .ref 110), (1, .int x1)] [] σ6 K
        refine z_sub [1, 2, 0] rfl ?_
        exact f73 _ _ _ h
      · have h := h.2 (qk_lt_f rfl (by decide) h7)
        refine z_bipush (i := (-2)) (v := (-2)) (pc' := 70) ⟨by decide +kernel, rfl⟩ (by decide) ?_
        exact z_iret (ty := .int) rfl (by rfl) (by decide +kernel) (k _ _ h)

end
