section
section
noncomputable def WB_M_joined_73 (F31 : Int32 → zS → (Int32 → zS → Prop) → Prop) (F73 : Int32 → Int32 → zS → (Int32 → zS → Prop) → Prop) (F111 : Int64 → Int32 → zS → (Int32 → zS → Prop) → Prop) (F134 : Int64 → Int32 → Int64 → Int64 → Int32 → zS → (Int32 → zS → Prop) → Prop) (x1 : Int32) (x2 : Int32) (σ : zS) (Q : Int32 → zS → Prop) : Prop := ((Int32.toInt x1) ≤ (Int32.toInt x2) → ((-2147483648 ≤ (Int32.toInt x1) + 8 ∧ (Int32.toInt x1) + 8 ≤ 2147483647) ∧ ∀ r2 : Int32, r2.toInt = (Int32.toInt x1) + 8 → (F31 r2 σ Q))) ∧ (¬ (Int32.toInt x1) ≤ (Int32.toInt x2) → (W_M_fourAt x2 σ (fun v3 σ3 => W_M_fourAt x1 σ3 (fun v4 σ4 => ((Int64.toInt v3) = (Int64.toInt v4) → (Q (-2) σ4)) ∧ (¬ (Int64.toInt v3) = (Int64.toInt v4) → ((-2147483648 ≤ (Int32.toInt x2) + 8 ∧ (Int32.toInt x2) + 8 ≤ 2147483647) ∧ ∀ r6 : Int32, r6.toInt = (Int32.toInt x2) + 8 → (F73 x1 r6 σ4 Q)))))))
theorem sh_M_joined_73 {E : xV} {σ : zS} {K : zKt} {F31 : Int32 → zS → (Int32 → zS → Prop) → Prop} {F73 : Int32 → Int32 → zS → (Int32 → zS → Prop) → Prop} {F111 : Int64 → Int32 → zS → (Int32 → zS → Prop) → Prop} {F134 : Int64 → Int32 → Int64 → Int64 → Int32 → zS → (Int32 → zS → Prop) → Prop} {x1 : Int32} {x2 : Int32} {Q : Int32 → zS → Prop} (f31 : ∀ (x1 : Int32) (σ : zS), F31 x1 σ Q → Wz E Y_M_joined 31 [(0, .ref 110), (1, .int x1)] [] σ K) (f73 : ∀ (x1 : Int32) (x2 : Int32) (σ : zS), F73 x1 x2 σ Q → Wz E Y_M_joined 73 [(0, .ref 110), (1, .int x1), (2, .int x2)] [] σ K) (f111 : ∀ (x1 : Int64) (x3 : Int32) (σ : zS), F111 x1 x3 σ Q → Wz E Y_M_joined 111 [(0, .ref 110), (1, .long x1), (3, .int x3)] [] σ K) (f134 : ∀ (x1 : Int64) (x3 : Int32) (x4 : Int64) (x6 : Int64) (x8 : Int32) (σ : zS), F134 x1 x3 x4 x6 x8 σ Q → Wz E Y_M_joined 134 [(0, .ref 110), (1, .long x1), (3, .int x3), (4, .long x4), (6, .long x6), (8, .int x8)] [] σ K) (k : ∀ v s, Q v s → K (some (.int v)) s) (h : WB_M_joined_73 F31 F73 F111 F134 x1 x2 σ Q) : Wz E Y_M_joined 73 [(0, .ref 110), (1, .int x1), (2, .int x2)] [] σ K := by
  unfold WB_M_joined_73 at h
  refine z_iload_n (f := 2) (i := 2) (q := 2) (pc' := 74) ⟨by decide +kernel, rfl⟩ rfl rfl ?_
  refine z_iload_n (f := 1) (i := 1) (q := 1) (pc' := 75) ⟨by decide +kernel, rfl⟩ rfl rfl ?_
  refine z_icmp_ge (off := 26) (tgt := 101) (pc' := 78) ⟨by decide +kernel, by decide, rfl⟩ (fun h1 => ?_) (fun h1 => ?_)
  · have h := h.1 (qi_ge_t rfl rfl h1)
    refine z_iinc (i := 1) (z := 8) (q := 1) (pc' := 104) ⟨by decide +kernel, rfl⟩ rfl rfl (by decide) rfl ?_
    show Wz E Y_M_joined 104 [(1, .int (x1 + Int32.ofInt 8)), (0, .ref 110), (2, .int x2)] [] σ K
    obtain ⟨hb2, h⟩ := h
    have h := h (x1 + Int32.ofInt 8) (ia_ok rfl (by decide) hb2)
    generalize (x1 + Int32.ofInt 8) = r2 at h ⊢
    refine z_goto (off := (-73)) (tgt := 31) (pc' := 107) ⟨by decide +kernel, by decide, rfl⟩ ?_
    refine z_sub [1, 0] rfl ?_
    exact f31 _ _ h
  · have h := h.2 (qi_ge_f rfl rfl h1)
    refine z_aload_n (f := 0) (i := 0) (q := 0) (pc' := 79) ⟨by decide +kernel, rfl⟩ rfl rfl ?_
    refine z_iload_n (f := 2) (i := 2) (q := 2) (pc' := 80) ⟨by decide +kernel, rfl⟩ rfl rfl ?_
    refine w_invV (Z := Y_M_fourAt) (idx := 909) (kb := 110) (As := [.int x2]) (rest := []) (pc' := 83) cl_13_909 rfl ⟨rfl, rfl⟩ ykfa_110_0 rfl ⟨⟨by decide, by decide⟩, rfl, rfl⟩ ⟨by decide +kernel, rfl⟩ rfl rfl (Nat.le_of_ble_eq_true rfl) rfl rfl ?_
    refine sF_M_fourAt h (fun v3 σ3 h => ?_)
    show Wz E Y_M_joined 83 [(0, .ref 110), (1, .int x1), (2, .int x2)] [.long v3] σ3 K
    refine z_aload_n (f := 0) (i := 0) (q := 0) (pc' := 84) ⟨by decide +kernel, rfl⟩ rfl rfl ?_
    refine z_iload_n (f := 1) (i := 1) (q := 1) (pc' := 85) ⟨by decide +kernel, rfl⟩ rfl rfl ?_
    refine w_invV (Z := Y_M_fourAt) (idx := 909) (kb := 110) (As := [.int x1]) (rest := [.long v3]) (pc' := 88) cl_13_909 rfl ⟨rfl, rfl⟩ ykfa_110_0 rfl ⟨⟨by decide, by decide⟩, rfl, rfl⟩ ⟨by decide +kernel, rfl⟩ rfl rfl (Nat.le_of_ble_eq_true rfl) rfl rfl ?_
    refine sF_M_fourAt h (fun v4 σ4 h => ?_)
    show Wz E Y_M_joined 88 [(0, .ref 110), (1, .int x1), (2, .int x2)] [.long v4, .long v3] σ4 K
    refine z_lcmp (pc' := 89) ⟨by decide +kernel, rfl⟩ ?_
    refine z_if_ne (off := 6) (tgt := 95) (pc' := 92) ⟨by decide +kernel, by decide, rfl⟩ (fun h5 => ?_) (fun h5 => ?_)
    · have h := h.2 (qk_ne_t rfl rfl h5)
      refine z_iinc (i := 2) (z := 8) (q := 2) (pc' := 98) ⟨by decide +kernel, rfl⟩ rfl rfl (by decide) rfl ?_
      show Wz E Y_M_joined 98 [(2, .int (x2 + Int32.ofInt 8)), (0, .ref 110), (1, .int x1)] [] σ4 K
      obtain ⟨hb6, h⟩ := h
      have h := h (x2 + Int32.ofInt 8) (ia_ok rfl (by decide) hb6)
      generalize (x2 + Int32.ofInt 8) = r6 at h ⊢
      refine z_goto (off := (-25)) (tgt := 73) (pc' := 101) ⟨by decide +kernel, by decide, rfl⟩ ?_
      refine z_sub [1, 2, 0] rfl ?_
      exact f73 _ _ _ h
    · have h := h.1 (qk_ne_f rfl rfl h5)
      refine z_bipush (i := (-2)) (v := (-2)) (pc' := 94) ⟨by decide +kernel, rfl⟩ (by decide) ?_
      exact z_iret (ty := .int) rfl (by rfl) (by decide +kernel) (k _ _ h)
noncomputable def WB_M_joined_111 (F31 : Int32 → zS → (Int32 → zS → Prop) → Prop) (F73 : Int32 → Int32 → zS → (Int32 → zS → Prop) → Prop) (F111 : Int64 → Int32 → zS → (Int32 → zS → Prop) → Prop) (F134 : Int64 → Int32 → Int64 → Int64 → Int32 → zS → (Int32 → zS → Prop) → Prop) (x1 : Int64) (x3 : Int32) (σ : zS) (Q : Int32 → zS → Prop) : Prop := ((Int32.toInt (σ.1 110 1)) ≤ (Int32.toInt x3) → (∀ σ2 : zS, zI σ 110 1 0 = σ2 → (Q (Int64.toInt32 x1) σ2))) ∧ (¬ (Int32.toInt (σ.1 110 1)) ≤ (Int32.toInt x3) → ((-2147483648 ≤ (Int32.toInt x3) + 4 ∧ (Int32.toInt x3) + 4 ≤ 2147483647) ∧ ∀ r3 : Int32, r3.toInt = (Int32.toInt x3) + 4 → (W_M_fourAt r3 σ (fun v4 σ4 => F134 x1 x3 v4 1 0 σ4 Q))))
theorem sh_M_joined_111 {E : xV} {σ : zS} {K : zKt} {F31 : Int32 → zS → (Int32 → zS → Prop) → Prop} {F73 : Int32 → Int32 → zS → (Int32 → zS → Prop) → Prop} {F111 : Int64 → Int32 → zS → (Int32 → zS → Prop) → Prop} {F134 : Int64 → Int32 → Int64 → Int64 → Int32 → zS → (Int32 → zS → Prop) → Prop} {x1 : Int64} {x3 : Int32} {Q : Int32 → zS → Prop} (f31 : ∀ (x1 : Int32) (σ : zS), F31 x1 σ Q → Wz E Y_M_joined 31 [(0, .ref 110), (1, .int x1)] [] σ K) (f73 : ∀ (x1 : Int32) (x2 : Int32) (σ : zS), F73 x1 x2 σ Q → Wz E Y_M_joined 73 [(0, .ref 110), (1, .int x1), (2, .int x2)] [] σ K) (f111 : ∀ (x1 : Int64) (x3 : Int32) (σ : zS), F111 x1 x3 σ Q → Wz E Y_M_joined 111 [(0, .ref 110), (1, .long x1), (3, .int x3)] [] σ K) (f134 : ∀ (x1 : Int64) (x3 : Int32) (x4 : Int64) (x6 : Int64) (x8 : Int32) (σ : zS), F134 x1 x3 x4 x6 x8 σ Q → Wz E Y_M_joined 134 [(0, .ref 110), (1, .long x1), (3, .int x3), (4, .long x4), (6, .long x6), (8, .int x8)] [] σ K) (k : ∀ v s, Q v s → K (some (.int v)) s) (h : WB_M_joined_111 F31 F73 F111 F134 x1 x3 σ Q) : Wz E Y_M_joined 111 [(0, .ref 110), (1, .long x1), (3, .int x3)] [] σ K := by
  unfold WB_M_joined_111 at h
  refine z_iload_n (f := 3) (i := 3) (q := 2) (pc' := 112) ⟨by decide +kernel, rfl⟩ rfl rfl ?_
  refine z_aload_n (f := 0) (i := 0) (q := 0) (pc' := 113) ⟨by decide +kernel, rfl⟩ rfl rfl ?_
  refine w_geti (k := 110) (j := 1) (idx := 396) (pc' := 116) yfxe_13_396 ykfa_110_1 ⟨by decide +kernel, rfl⟩ ?_
  refine z_icmp_ge (off := 107) (tgt := 223) (pc' := 119) ⟨by decide +kernel, by decide, rfl⟩ (fun h1 => ?_) (fun h1 => ?_)
  · have h := h.1 (qi_ge_t rfl rfl h1)
    refine z_aload_n (f := 0) (i := 0) (q := 0) (pc' := 224) ⟨by decide +kernel, rfl⟩ rfl rfl ?_
    refine z_iconst (i := 0) (v := 0) (pc' := 225) ⟨by decide +kernel, rfl⟩ (by decide) ?_
    refine w_puti (k := 110) (j := 1) (idx := 396) (pc' := 228) yfxi_13_396 ykfa_110_1 ⟨by decide +kernel, rfl⟩ ?_
    generalize hs2 : zI σ 110 1 0 = σ2
    have h := h σ2 hs2
    refine z_lload_n (f := 1) (i := 1) (q := 1) (pc' := 229) ⟨by decide +kernel, rfl⟩ rfl rfl ?_
    refine z_l2i (pc' := 230) ⟨by decide +kernel, rfl⟩ rfl ?_
    exact z_iret (ty := .int) rfl (by rfl) (by decide +kernel) (k _ _ h)
  · have h := h.2 (qi_ge_f rfl rfl h1)
    refine z_aload_n (f := 0) (i := 0) (q := 0) (pc' := 120) ⟨by decide +kernel, rfl⟩ rfl rfl ?_
    refine z_iload_n (f := 3) (i := 3) (q := 2) (pc' := 121) ⟨by decide +kernel, rfl⟩ rfl rfl ?_
    refine z_iconst (i := 4) (v := 4) (pc' := 122) ⟨by decide +kernel, rfl⟩ (by decide) ?_
    refine z_iadd (pc' := 123) ⟨by decide +kernel, rfl⟩ ?_
    obtain ⟨hb3, h⟩ := h
    have h := h (x3 + 4) (ia_ok rfl (by decide) hb3)
    generalize (x3 + 4) = r3 at h ⊢
    refine w_invV (Z := Y_M_fourAt) (idx := 909) (kb := 110) (As := [.int r3]) (rest := []) (pc' := 126) cl_13_909 rfl ⟨rfl, rfl⟩ ykfa_110_0 rfl ⟨⟨by decide, by decide⟩, rfl, rfl⟩ ⟨by decide +kernel, rfl⟩ rfl rfl (Nat.le_of_ble_eq_true rfl) rfl rfl ?_
    refine sF_M_fourAt h (fun v4 σ4 h => ?_)
    show Wz E Y_M_joined 126 [(0, .ref 110), (1, .long x1), (3, .int x3)] [.long v4] σ4 K
    refine z_lstore (i := 4) (pc' := 128) ⟨by decide +kernel, rfl⟩ (by decide) rfl ?_
    show Wz E Y_M_joined 128 [(4, .long v4), (0, .ref 110), (1, .long x1), (3, .int x3)] [] σ4 K
    refine z_lconst (i := 1) (v := 1) (pc' := 129) ⟨by decide +kernel, rfl⟩ (by decide) ?_
    refine z_lstore (i := 6) (pc' := 131) ⟨by decide +kernel, rfl⟩ (by decide) rfl ?_
    show Wz E Y_M_joined 131 [(6, .long 1), (4, .long v4), (0, .ref 110), (1, .long x1), (3, .int x3)] [] σ4 K
    refine z_iconst (i := 0) (v := 0) (pc' := 132) ⟨by decide +kernel, rfl⟩ (by decide) ?_
    refine z_istore (i := 8) (pc' := 134) ⟨by decide +kernel, rfl⟩ (by decide) rfl ?_
    show Wz E Y_M_joined 134 [(8, .int 0), (6, .long 1), (4, .long v4), (0, .ref 110), (1, .long x1), (3, .int x3)] [] σ4 K
    refine z_sub [3, 4, 5, 2, 1, 0] rfl ?_
    exact f134 _ _ _ _ _ _ h
noncomputable def WB_M_joined_134 (F31 : Int32 → zS → (Int32 → zS → Prop) → Prop) (F73 : Int32 → Int32 → zS → (Int32 → zS → Prop) → Prop) (F111 : Int64 → Int32 → zS → (Int32 → zS → Prop) → Prop) (F134 : Int64 → Int32 → Int64 → Int64 → Int32 → zS → (Int32 → zS → Prop) → Prop) (x1 : Int64) (x3 : Int32) (x4 : Int64) (x6 : Int64) (x8 : Int32) (σ : zS) (Q : Int32 → zS → Prop) : Prop := ((Int32.toInt (σ.1 110 1)) ≤ (Int32.toInt x8) → (W_M_power x6 2147483645 σ (fun v2 σ2 => (-2147483648 ≤ (Int32.toInt x3) + 8 ∧ (Int32.toInt x3) + 8 ≤ 2147483647) ∧ ∀ r3 : Int32, r3.toInt = (Int32.toInt x3) + 8 → (F111 ((x1 + (x4 * v2)) - (x1 + (x4 * v2)) / 2147483647 * 2147483647) r3 σ2 Q)))) ∧ (¬ (Int32.toInt (σ.1 110 1)) ≤ (Int32.toInt x8) → (((Int32.toInt x8) = (Int32.toInt x3) → ((-2147483648 ≤ (Int32.toInt x8) + 8 ∧ (Int32.toInt x8) + 8 ≤ 2147483647) ∧ ∀ r5 : Int32, r5.toInt = (Int32.toInt x8) + 8 → (F134 x1 x3 x4 x6 r5 σ Q))) ∧ (¬ (Int32.toInt x8) = (Int32.toInt x3) → (W_M_fourAt x8 σ (fun v6 σ6 => W_M_fourAt x8 σ6 (fun v7 σ7 => W_M_fourAt x3 σ7 (fun v8 σ8 => (-2147483648 ≤ (Int32.toInt x8) + 8 ∧ (Int32.toInt x8) + 8 ≤ 2147483647) ∧ ∀ r9 : Int32, r9.toInt = (Int32.toInt x8) + 8 → (F134 x1 x3 ((x4 * v6) - (x4 * v6) / 2147483647 * 2147483647) ((x6 * (((v7 - v8) + 2147483647) - ((v7 - v8) + 2147483647) / 2147483647 * 2147483647)) - (x6 * (((v7 - v8) + 2147483647) - ((v7 - v8) + 2147483647) / 2147483647 * 2147483647)) / 2147483647 * 2147483647) r9 σ8 Q))))))))
theorem sh_M_joined_134 {E : xV} {σ : zS} {K : zKt} {F31 : Int32 → zS → (Int32 → zS → Prop) → Prop} {F73 : Int32 → Int32 → zS → (Int32 → zS → Prop) → Prop} {F111 : Int64 → Int32 → zS → (Int32 → zS → Prop) → Prop} {F134 : Int64 → Int32 → Int64 → Int64 → Int32 → zS → (Int32 → zS → Prop) → Prop} {x1 : Int64} {x3 : Int32} {x4 : Int64} {x6 : Int64} {x8 : Int32} {Q : Int32 → zS → Prop} (f31 : ∀ (x1 : Int32) (σ : zS), F31 x1 σ Q → Wz E Y_M_joined 31 [(0, .ref 110), (1, .int x1)] [] σ K) (f73 : ∀ (x1 : Int32) (x2 : Int32) (σ : zS), F73 x1 x2 σ Q → Wz E Y_M_joined 73 [(0, .ref 110), (1, .int x1), (2, .int x2)] [] σ K) (f111 : ∀ (x1 : Int64) (x3 : Int32) (σ : zS), F111 x1 x3 σ Q → Wz E Y_M_joined 111 [(0, .ref 110), (1, .long x1), (3, .int x3)] [] σ K) (f134 : ∀ (x1 : Int64) (x3 : Int32) (x4 : Int64) (x6 : Int64) (x8 : Int32) (σ : zS), F134 x1 x3 x4 x6 x8 σ Q → Wz E Y_M_joined 134 [(0, .ref 110), (1, .long x1), (3, .int x3), (4, .long x4), (6, .long x6), (8, .int x8)] [] σ K) (k : ∀ v s, Q v s → K (some (.int v)) s) (h : WB_M_joined_134 F31 F73 F111 F134 x1 x3 x4 x6 x8 σ Q) : Wz E Y_M_joined 134 [(0, .ref 110), (1, .long x1), (3, .int x3), (4, .long x4), (6, .long x6), (8, .int x8)] [] σ K := by
  unfold WB_M_joined_134 at h
  refine z_iload (i := 8) (q := 5) (pc' := 136) ⟨by decide +kernel, rfl⟩ rfl ?_
  refine z_aload_n (f := 0) (i := 0) (q := 0) (pc' := 137) ⟨by decide +kernel, rfl⟩ rfl rfl ?_
  refine w_geti (k := 110) (j := 1) (idx := 396) (pc' := 140) yfxe_13_396 ykfa_110_1 ⟨by decide +kernel, rfl⟩ ?_
  refine z_icmp_ge (off := 59) (tgt := 199) (pc' := 143) ⟨by decide +kernel, by decide, rfl⟩ (fun h1 => ?_) (fun h1 => ?_)
  · have h := h.1 (qi_ge_t rfl rfl h1)
    refine z_lload_n (f := 1) (i := 1) (q := 1) (pc' := 200) ⟨by decide +kernel, rfl⟩ rfl rfl ?_
    refine z_lload (i := 4) (q := 3) (pc' := 202) ⟨by decide +kernel, rfl⟩ rfl ?_
    refine z_lload (i := 6) (q := 4) (pc' := 204) ⟨by decide +kernel, rfl⟩ rfl ?_
    refine z_ldc2 (i := 862) (v := 2147483645) (pc' := 207) ⟨by decide +kernel, rfl⟩ k_13_164 ?_
    refine w_invS (Z := Y_M_power) (idx := 864) (As := [.long x6, .long 2147483645]) (rest := [.long x4, .long x1]) (pc' := 210) cl_13_864 rfl ⟨rfl, rfl⟩ ⟨⟨by decide, by decide⟩, rfl, rfl⟩ ⟨by decide +kernel, rfl⟩ rfl rfl (Nat.le_of_ble_eq_true rfl) rfl rfl ?_
    refine sF_M_power h (fun v2 σ2 h => ?_)
    show Wz E Y_M_joined 210 [(0, .ref 110), (1, .long x1), (3, .int x3), (4, .long x4), (6, .long x6), (8, .int x8)] [.long v2, .long x4, .long x1] σ2 K
    refine z_lmul (pc' := 211) ⟨by decide +kernel, rfl⟩ ?_
    refine z_ladd (pc' := 212) ⟨by decide +kernel, rfl⟩ ?_
    refine z_ldc2 (i := 860) (v := 2147483647) (pc' := 215) ⟨by decide +kernel, rfl⟩ k_13_168 ?_
    refine z_lrem (pc' := 216) ⟨by decide +kernel, rfl⟩ (by decide) ?_
    refine z_lstore_n (f := 1) (i := 1) (pc' := 217) ⟨by decide +kernel, rfl⟩ rfl (by decide) rfl ?_
    show Wz E Y_M_joined 217 [(1, .long ((x1 + (x4 * v2)) - (x1 + (x4 * v2)) / 2147483647 * 2147483647)), (0, .ref 110), (3, .int x3), (4, .long x4), (6, .long x6), (8, .int x8)] [] σ2 K
    refine z_iinc (i := 3) (z := 8) (q := 2) (pc' := 220) ⟨by decide +kernel, rfl⟩ rfl rfl (by decide) rfl ?_
    show Wz E Y_M_joined 220 [(3, .int (x3 + Int32.ofInt 8)), (1, .long ((x1 + (x4 * v2)) - (x1 + (x4 * v2)) / 2147483647 * 2147483647)), (0, .ref 110), (4, .long x4), (6, .long x6), (8, .int x8)] [] σ2 K
    obtain ⟨hb3, h⟩ := h
    have h := h (x3 + Int32.ofInt 8) (ia_ok rfl (by decide) hb3)
    generalize (x3 + Int32.ofInt 8) = r3 at h ⊢
    refine z_goto (off := (-109)) (tgt := 111) (pc' := 223) ⟨by decide +kernel, by decide, rfl⟩ ?_
    refine z_sub [2, 1, 0] rfl ?_
    exact f111 _ _ _ h
  · have h := h.2 (qi_ge_f rfl rfl h1)
    refine z_iload (i := 8) (q := 5) (pc' := 145) ⟨by decide +kernel, rfl⟩ rfl ?_
    refine z_iload_n (f := 3) (i := 3) (q := 2) (pc' := 146) ⟨by decide +kernel, rfl⟩ rfl rfl ?_
    refine z_icmp_eq (off := 47) (tgt := 193) (pc' := 149) ⟨by decide +kernel, by decide, rfl⟩ (fun h4 => ?_) (fun h4 => ?_)
    · have h := h.1 (qi_eq_t rfl rfl h4)
      refine z_iinc (i := 8) (z := 8) (q := 5) (pc' := 196) ⟨by decide +kernel, rfl⟩ rfl rfl (by decide) rfl ?_
      show Wz E Y_M_joined 196 [(8, .int (x8 + Int32.ofInt 8)), (0, .ref 110), (1, .long x1), (3, .int x3), (4, .long x4), (6, .long x6)] [] σ K
      obtain ⟨hb5, h⟩ := h
      have h := h (x8 + Int32.ofInt 8) (ia_ok rfl (by decide) hb5)
      generalize (x8 + Int32.ofInt 8) = r5 at h ⊢
      refine z_goto (off := (-62)) (tgt := 134) (pc' := 199) ⟨by decide +kernel, by decide, rfl⟩ ?_
      refine z_sub [1, 2, 3, 4, 5, 0] rfl ?_
      exact f134 _ _ _ _ _ _ h
    · have h := h.2 (qi_eq_f rfl rfl h4)
      refine z_lload (i := 4) (q := 3) (pc' := 151) ⟨by decide +kernel, rfl⟩ rfl ?_
      refine z_aload_n (f := 0) (i := 0) (q := 0) (pc' := 152) ⟨by decide +kernel, rfl⟩ rfl rfl ?_
      refine z_iload (i := 8) (q := 5) (pc' := 154) ⟨by decide +kernel, rfl⟩ rfl ?_
      refine w_invV (Z := Y_M_fourAt) (idx := 909) (kb := 110) (As := [.int x8]) (rest := [.long x4]) (pc' := 157) cl_13_909 rfl ⟨rfl, rfl⟩ ykfa_110_0 rfl ⟨⟨by decide, by decide⟩, rfl, rfl⟩ ⟨by decide +kernel, rfl⟩ rfl rfl (Nat.le_of_ble_eq_true rfl) rfl rfl ?_
      refine sF_M_fourAt h (fun v6 σ6 h => ?_)
      show Wz E Y_M_joined 157 [(0, .ref 110), (1, .long x1), (3, .int x3), (4, .long x4), (6, .long x6), (8, .int x8)] [.long v6, .long x4] σ6 K
      refine z_lmul (pc' := 158) ⟨by decide +kernel, rfl⟩ ?_
      refine z_ldc2 (i := 860) (v := 2147483647) (pc' := 161) ⟨by decide +kernel, rfl⟩ k_13_168 ?_
      refine z_lrem (pc' := 162) ⟨by decide +kernel, rfl⟩ (by decide) ?_
      refine z_lstore (i := 4) (pc' := 164) ⟨by decide +kernel, rfl⟩ (by decide) rfl ?_
      show Wz E Y_M_joined 164 [(4, .long ((x4 * v6) - (x4 * v6) / 2147483647 * 2147483647)), (0, .ref 110), (1, .long x1), (3, .int x3), (6, .long x6), (8, .int x8)] [] σ6 K
      refine z_lload (i := 6) (q := 4) (pc' := 166) ⟨by decide +kernel, rfl⟩ rfl ?_
      refine z_aload_n (f := 0) (i := 0) (q := 1) (pc' := 167) ⟨by decide +kernel, rfl⟩ rfl rfl ?_
      refine z_iload (i := 8) (q := 5) (pc' := 169) ⟨by decide +kernel, rfl⟩ rfl ?_
      refine w_invV (Z := Y_M_fourAt) (idx := 909) (kb := 110) (As := [.int x8]) (rest := [.long x6]) (pc' := 172) cl_13_909 rfl ⟨rfl, rfl⟩ ykfa_110_0 rfl ⟨⟨by decide, by decide⟩, rfl, rfl⟩ ⟨by decide +kernel, rfl⟩ rfl rfl (Nat.le_of_ble_eq_true rfl) rfl rfl ?_
      refine sF_M_fourAt h (fun v7 σ7 h => ?_)
      show Wz E Y_M_joined 172 [(4, .long ((x4 * v6) - (x4 * v6) / 2147483647 * 2147483647)), (0, .ref 110), (1, .long x1), (3, .int x3), (6, .long x6), (8, .int x8)] [.long v7, .long x6] σ7 K
      refine z_aload_n (f := 0) (i := 0) (q := 1) (pc' := 173) ⟨by decide +kernel, rfl⟩ rfl rfl ?_
      refine z_iload_n (f := 3) (i := 3) (q := 3) (pc' := 174) ⟨by decide +kernel, rfl⟩ rfl rfl ?_
      refine w_invV (Z := Y_M_fourAt) (idx := 909) (kb := 110) (As := [.int x3]) (rest := [.long v7, .long x6]) (pc' := 177) cl_13_909 rfl ⟨rfl, rfl⟩ ykfa_110_0 rfl ⟨⟨by decide, by decide⟩, rfl, rfl⟩ ⟨by decide +kernel, rfl⟩ rfl rfl (Nat.le_of_ble_eq_true rfl) rfl rfl ?_
      refine sF_M_fourAt h (fun v8 σ8 h => ?_)
      show Wz E Y_M_joined 177 [(4, .long ((x4 * v6) - (x4 * v6) / 2147483647 * 2147483647)), (0, .ref 110), (1, .long x1), (3, .int x3), (6, .long x6), (8, .int x8)] [.long v8, .long v7, .long x6] σ8 K
      refine z_lsub (pc' := 178) ⟨by decide +kernel, rfl⟩ ?_
      refine z_ldc2 (i := 860) (v := 2147483647) (pc' := 181) ⟨by decide +kernel, rfl⟩ k_13_168 ?_
      refine z_ladd (pc' := 182) ⟨by decide +kernel, rfl⟩ ?_
      refine z_ldc2 (i := 860) (v := 2147483647) (pc' := 185) ⟨by decide +kernel, rfl⟩ k_13_168 ?_
      refine z_lrem (pc' := 186) ⟨by decide +kernel, rfl⟩ (by decide) ?_
      refine z_lmul (pc' := 187) ⟨by decide +kernel, rfl⟩ ?_
      refine z_ldc2 (i := 860) (v := 2147483647) (pc' := 190) ⟨by decide +kernel, rfl⟩ k_13_168 ?_
      refine z_lrem (pc' := 191) ⟨by decide +kernel, rfl⟩ (by decide) ?_
      refine z_lstore (i := 6) (pc' := 193) ⟨by decide +kernel, rfl⟩ (by decide) rfl ?_
      show Wz E Y_M_joined 193 [(6, .long ((x6 * (((v7 - v8) + 2147483647) - ((v7 - v8) + 2147483647) / 2147483647 * 2147483647)) - (x6 * (((v7 - v8) + 2147483647) - ((v7 - v8) + 2147483647) / 2147483647 * 2147483647)) / 2147483647 * 2147483647)), (4, .long ((x4 * v6) - (x4 * v6) / 2147483647 * 2147483647)), (0, .ref 110), (1, .long x1), (3, .int x3), (8, .int x8)] [] σ8 K
      refine z_iinc (i := 8) (z := 8) (q := 5) (pc' := 196) ⟨by decide +kernel, rfl⟩ rfl rfl (by decide) rfl ?_
      show Wz E Y_M_joined 196 [(8, .int (x8 + Int32.ofInt 8)), (6, .long ((x6 * (((v7 - v8) + 2147483647) - ((v7 - v8) + 2147483647) / 2147483647 * 2147483647)) - (x6 * (((v7 - v8) + 2147483647) - ((v7 - v8) + 2147483647) / 2147483647 * 2147483647)) / 2147483647 * 2147483647)), (4, .long ((x4 * v6) - (x4 * v6) / 2147483647 * 2147483647)), (0, .ref 110), (1, .long x1), (3, .int x3)] [] σ8 K
      obtain ⟨hb9, h⟩ := h
      have h := h (x8 + Int32.ofInt 8) (ia_ok rfl (by decide) hb9)
      generalize (x8 + Int32.ofInt 8) = r9 at h ⊢
      refine z_goto (off := (-62)) (tgt := 134) (pc' := 199) ⟨by decide +kernel, by decide, rfl⟩ ?_
      refine z_sub [3, 4, 5, 2, 1, 0] rfl ?_
      exact f134 _ _ _ _ _ _ h
noncomputable def WL_M_joined : Nat → (Int32 → zS → (Int32 → zS → Prop) → Prop) × (Int32 → Int32 → zS → (Int32 → zS → Prop) → Prop) × (Int64 → Int32 → zS → (Int32 → zS → Prop) → Prop) × (Int64 → Int32 → Int64 → Int64 → Int32 → zS → (Int32 → zS → Prop) → Prop)
  | 0 => (fun _ _ _ => False, (fun _ _ _ _ => False, (fun _ _ _ _ => False, fun _ _ _ _ _ _ _ => False)))
  | n + 1 => (WB_M_joined_31 (WL_M_joined n).1 (WL_M_joined n).2.1 (WL_M_joined n).2.2.1 (WL_M_joined n).2.2.2, (WB_M_joined_73 (WL_M_joined n).1 (WL_M_joined n).2.1 (WL_M_joined n).2.2.1 (WL_M_joined n).2.2.2, (WB_M_joined_111 (WL_M_joined n).1 (WL_M_joined n).2.1 (WL_M_joined n).2.2.1 (WL_M_joined n).2.2.2, WB_M_joined_134 (WL_M_joined n).1 (WL_M_joined n).2.1 (WL_M_joined n).2.2.1 (WL_M_joined n).2.2.2)))
theorem wl_M_joined_31 {n : Nat} {x1 : Int32} {σ : zS} {Q : Int32 → zS → Prop} (h : WB_M_joined_31 (WL_M_joined n).1 (WL_M_joined n).2.1 (WL_M_joined n).2.2.1 (WL_M_joined n).2.2.2 x1 σ Q) : (WL_M_joined (n + 1)).1 x1 σ Q := h
theorem wl_M_joined_73 {n : Nat} {x1 : Int32} {x2 : Int32} {σ : zS} {Q : Int32 → zS → Prop} (h : WB_M_joined_73 (WL_M_joined n).1 (WL_M_joined n).2.1 (WL_M_joined n).2.2.1 (WL_M_joined n).2.2.2 x1 x2 σ Q) : (WL_M_joined (n + 1)).2.1 x1 x2 σ Q := h
theorem wl_M_joined_111 {n : Nat} {x1 : Int64} {x3 : Int32} {σ : zS} {Q : Int32 → zS → Prop} (h : WB_M_joined_111 (WL_M_joined n).1 (WL_M_joined n).2.1 (WL_M_joined n).2.2.1 (WL_M_joined n).2.2.2 x1 x3 σ Q) : (WL_M_joined (n + 1)).2.2.1 x1 x3 σ Q := h
theorem wl_M_joined_134 {n : Nat} {x1 : Int64} {x3 : Int32} {x4 : Int64} {x6 : Int64} {x8 : Int32} {σ : zS} {Q : Int32 → zS → Prop} (h : WB_M_joined_134 (WL_M_joined n).1 (WL_M_joined n).2.1 (WL_M_joined n).2.2.1 (WL_M_joined n).2.2.2 x1 x3 x4 x6 x8 σ Q) : (WL_M_joined (n + 1)).2.2.2 x1 x3 x4 x6 x8 σ Q := h
theorem sl_M_joined {E : xV} {K : zKt} {Q : Int32 → zS → Prop} (k : ∀ v s, Q v s → K (some (.int v)) s) : ∀ n, (∀ (x1 : Int32) (σ : zS), (WL_M_joined n).1 x1 σ Q → Wz E Y_M_joined 31 [(0, .ref 110), (1, .int x1)] [] σ K) ∧ (∀ (x1 : Int32) (x2 : Int32) (σ : zS), (WL_M_joined n).2.1 x1 x2 σ Q → Wz E Y_M_joined 73 [(0, .ref 110), (1, .int x1), (2, .int x2)] [] σ K) ∧ (∀ (x1 : Int64) (x3 : Int32) (σ : zS), (WL_M_joined n).2.2.1 x1 x3 σ Q → Wz E Y_M_joined 111 [(0, .ref 110), (1, .long x1), (3, .int x3)] [] σ K) ∧ (∀ (x1 : Int64) (x3 : Int32) (x4 : Int64) (x6 : Int64) (x8 : Int32) (σ : zS), (WL_M_joined n).2.2.2 x1 x3 x4 x6 x8 σ Q → Wz E Y_M_joined 134 [(0, .ref 110), (1, .long x1), (3, .int x3), (4, .long x4), (6, .long x6), (8, .int x8)] [] σ K)
  | 0 => ⟨fun _ _ h => h.elim, fun _ _ _ h => h.elim, fun _ _ _ h => h.elim, fun _ _ _ _ _ _ h => h.elim⟩
  | n + 1 => by
    have i := sl_M_joined (E := E)  k n
    exact ⟨fun _ _ h => sh_M_joined_31 i.1 i.2.1 i.2.2.1 i.2.2.2 k h, fun _ _ _ h => sh_M_joined_73 i.1 i.2.1 i.2.2.1 i.2.2.2 k h, fun _ _ _ h => sh_M_joined_111 i.1 i.2.1 i.2.2.1 i.2.2.2 k h, fun _ _ _ _ _ _ h => sh_M_joined_134 i.1 i.2.1 i.2.2.1 i.2.2.2 k h⟩
noncomputable def W_M_joined  (σ : zS) (Q : Int32 → zS → Prop) : Prop := (0 ≤ (Int32.toInt (σ.1 110 1))) ∧ (∀ r2 : Int32, r2.toInt = (Int32.toInt (σ.1 110 1)) % 8 → (((Int32.toInt r2) = 0 → (((Int32.toInt (σ.1 110 1)) = 0 → (Q (-2) σ)) ∧ (¬ (Int32.toInt (σ.1 110 1)) = 0 → (((Int32.toInt (σ.1 110 1)) ≤ 80 → ((WL_M_joined fuF).1 0 σ Q)) ∧ (¬ (Int32.toInt (σ.1 110 1)) ≤ 80 → (Q (-2) σ)))))) ∧ (¬ (Int32.toInt r2) = 0 → (Q (-2) σ))))
theorem sF_M_joined {E : xV} {σ : zS} {K : zKt}  {Q : Int32 → zS → Prop} (h : W_M_joined  σ Q) (k : ∀ v s, Q v s → K (some (.int v)) s) : Cz E Y_M_joined [.ref 110] σ K := by
  refine z_entry (by decide) (fun a => by rw [sl_len]; exact Nat.le_of_ble_eq_true rfl) rfl ?_
  unfold W_M_joined at h
  refine z_aload_n (f := 0) (i := 0) (q := 0) (pc' := 1) ⟨by decide +kernel, rfl⟩ rfl rfl ?_
  refine w_geti (k := 110) (j := 1) (idx := 396) (pc' := 4) yfxe_13_396 ykfa_110_1 ⟨by decide +kernel, rfl⟩ ?_
  refine z_bipush (i := 8) (v := 8) (pc' := 6) ⟨by decide +kernel, rfl⟩ (by decide) ?_
  refine z_irem (pc' := 7) ⟨by decide +kernel, rfl⟩ (by decide) ?_
  obtain ⟨hg1, h⟩ := h
  have h := h ((σ.1 110 1) - (σ.1 110 1) / 8 * 8) (remi_ok hg1 (by decide) (by decide))
  generalize ((σ.1 110 1) - (σ.1 110 1) / 8 * 8) = r2 at h ⊢
  refine z_if_ne (off := 19) (tgt := 26) (pc' := 10) ⟨by decide +kernel, by decide, rfl⟩ (fun h3 => ?_) (fun h3 => ?_)
  · have h := h.2 (qi_ne_t rfl (by decide) h3)
    refine z_bipush (i := (-2)) (v := (-2)) (pc' := 28) ⟨by decide +kernel, rfl⟩ (by decide) ?_
    exact z_iret (ty := .int) rfl (by rfl) (by decide +kernel) (k _ _ h)
  · have h := h.1 (qi_ne_f rfl (by decide) h3)
    refine z_aload_n (f := 0) (i := 0) (q := 0) (pc' := 11) ⟨by decide +kernel, rfl⟩ rfl rfl ?_
    refine w_geti (k := 110) (j := 1) (idx := 396) (pc' := 14) yfxe_13_396 ykfa_110_1 ⟨by decide +kernel, rfl⟩ ?_
    refine z_if_eq (off := 12) (tgt := 26) (pc' := 17) ⟨by decide +kernel, by decide, rfl⟩ (fun h4 => ?_) (fun h4 => ?_)
    · have h := h.1 (qi_eq_t rfl (by decide) h4)
      refine z_bipush (i := (-2)) (v := (-2)) (pc' := 28) ⟨by decide +kernel, rfl⟩ (by decide) ?_
      exact z_iret (ty := .int) rfl (by rfl) (by decide +kernel) (k _ _ h)
    · have h := h.2 (qi_eq_f rfl (by decide) h4)
      refine z_aload_n (f := 0) (i := 0) (q := 0) (pc' := 18) ⟨by decide +kernel, rfl⟩ rfl rfl ?_
      refine w_geti (k := 110) (j := 1) (idx := 396) (pc' := 21) yfxe_13_396 ykfa_110_1 ⟨by decide +kernel, rfl⟩ ?_
      refine z_bipush (i := 80) (v := 80) (pc' := 23) ⟨by decide +kernel, rfl⟩ (by decide) ?_
      refine z_icmp_le (off := 6) (tgt := 29) (pc' := 26) ⟨by decide +kernel, by decide, rfl⟩ (fun h5 => ?_) (fun h5 => ?_)
      · have h := h.1 (qi_le_t rfl (by decide) h5)
        refine z_iconst (i := 0) (v := 0) (pc' := 30) ⟨by decide +kernel, rfl⟩ (by decide) ?_
        refine z_istore_n (f := 1) (i := 1) (pc' := 31) ⟨by decide +kernel, rfl⟩ rfl (by decide) rfl ?_
        show Wz E Y_M_joined 31 [(1, .int 0), (0, .ref 110)] [] σ K
        refine z_sub [1, 0] rfl ?_
        exact (sl_M_joined k fuF).1 _ _ h
      · have h := h.2 (qi_le_f rfl (by decide) h5)
        refine z_bipush (i := (-2)) (v := (-2)) (pc' := 28) ⟨by decide +kernel, rfl⟩ (by decide) ?_
        exact z_iret (ty := .int) rfl (by rfl) (by decide +kernel) (k _ _ h)

end
end
section
section
noncomputable def W_H_person  (σ : zS) (Q : Int32 → zS → Prop) : Prop := ((Int32.toInt (σ.1 5 0)) < 20 → ((-2147483648 ≤ (Int32.toInt (σ.1 5 0)) + 1 ∧ (Int32.toInt (σ.1 5 0)) + 1 ≤ 2147483647) ∧ ∀ r2 : Int32, r2.toInt = (Int32.toInt (σ.1 5 0)) + 1 → (∀ σ3 : zS, zI σ 5 0 r2 = σ3 → ((-2147483648 ≤ (Int32.toInt (σ3.1 5 0)) - 1 ∧ (Int32.toInt (σ3.1 5 0)) - 1 ≤ 2147483647) ∧ ∀ r4 : Int32, r4.toInt = (Int32.toInt (σ3.1 5 0)) - 1 → (Q r4 σ3))))) ∧ (¬ (Int32.toInt (σ.1 5 0)) < 20 → (Q (-3) σ))
noncomputable def W_Th_add (a1 : Int32) (a2 : Int32) (σ : zS) (Q : Int32 → zS → Prop) : Prop := ∃ n1 : Nat, Int32.toInt (σ.1 10 0) = (n1 : Int) ∧ n1 < 40 ∧ (∀ σ2 : zS, zI σ 11 n1 a1 = σ2 → (∃ n3 : Nat, Int32.toInt (σ2.1 10 0) = (n3 : Int) ∧ n3 < 40 ∧ (∀ σ4 : zS, zI σ2 12 n3 a2 = σ4 → ((-2147483648 ≤ (Int32.toInt (σ4.1 10 0)) + 1 ∧ (Int32.toInt (σ4.1 10 0)) + 1 ≤ 2147483647) ∧ ∀ r5 : Int32, r5.toInt = (Int32.toInt (σ4.1 10 0)) + 1 → (∀ σ6 : zS, zI σ4 10 0 r5 = σ6 → ((-2147483648 ≤ (Int32.toInt (σ6.1 10 0)) - 1 ∧ (Int32.toInt (σ6.1 10 0)) - 1 ≤ 2147483647) ∧ ∀ r7 : Int32, r7.toInt = (Int32.toInt (σ6.1 10 0)) - 1 → (Q r7 σ6)))))))
theorem sF_Th_add {E : xV} {σ : zS} {K : zKt} {a1 : Int32} {a2 : Int32} {Q : Int32 → zS → Prop} (h : W_Th_add a1 a2 σ Q) (k : ∀ v s, Q v s → K (some (.int v)) s) : Cz E Y_Th_add [.ref 10, .int a1, .int a2] σ K := by
  refine z_entry (by decide) (fun a => by rw [sl_len]; exact Nat.le_of_ble_eq_true rfl) rfl ?_
  unfold W_Th_add at h
  refine z_aload_n (f := 0) (i := 0) (q := 0) (pc' := 1) ⟨by decide +kernel, rfl⟩ rfl rfl ?_
  refine w_getr (k := 10) (j := 1) (idx := 11) (pc' := 4) yfxe_10_11 ykfa_10_1 ⟨by decide +kernel, rfl⟩ ?_
  refine z_aload_n (f := 0) (i := 0) (q := 0) (pc' := 5) ⟨by decide +kernel, rfl⟩ rfl rfl ?_
  refine w_geti (k := 10) (j := 0) (idx := 31) (pc' := 8) yfxe_10_31 ykfa_10_0 ⟨by decide +kernel, rfl⟩ ?_
  refine z_iload_n (f := 1) (i := 1) (q := 1) (pc' := 9) ⟨by decide +kernel, rfl⟩ rfl rfl ?_
  obtain ⟨n1, hi1, hz1, h⟩ := h
  refine w_iast (k := 11) (n := n1) (pc' := 10) ykaa_11 (hi1) (hz1) ⟨by decide +kernel, rfl⟩ ?_
  generalize hs2 : zI σ 11 n1 a1 = σ2
  have h := h σ2 hs2
  refine z_aload_n (f := 0) (i := 0) (q := 0) (pc' := 11) ⟨by decide +kernel, rfl⟩ rfl rfl ?_
  refine w_getr (k := 10) (j := 2) (idx := 15) (pc' := 14) yfxe_10_15 ykfa_10_2 ⟨by decide +kernel, rfl⟩ ?_
  refine z_aload_n (f := 0) (i := 0) (q := 0) (pc' := 15) ⟨by decide +kernel, rfl⟩ rfl rfl ?_
  refine w_geti (k := 10) (j := 0) (idx := 31) (pc' := 18) yfxe_10_31 ykfa_10_0 ⟨by decide +kernel, rfl⟩ ?_
  refine z_iload_n (f := 2) (i := 2) (q := 2) (pc' := 19) ⟨by decide +kernel, rfl⟩ rfl rfl ?_
  obtain ⟨n3, hi3, hz3, h⟩ := h
  refine w_iast (k := 12) (n := n3) (pc' := 20) ykaa_12 (hi3) (hz3) ⟨by decide +kernel, rfl⟩ ?_
  generalize hs4 : zI σ2 12 n3 a2 = σ4
  have h := h σ4 hs4
  refine z_aload_n (f := 0) (i := 0) (q := 0) (pc' := 21) ⟨by decide +kernel, rfl⟩ rfl rfl ?_
  refine z_dupr (pc' := 22) ⟨by decide +kernel, rfl⟩ ?_
  refine w_geti (k := 10) (j := 0) (idx := 31) (pc' := 25) yfxe_10_31 ykfa_10_0 ⟨by decide +kernel, rfl⟩ ?_
  refine z_iconst (i := 1) (v := 1) (pc' := 26) ⟨by decide +kernel, rfl⟩ (by decide) ?_
  refine z_iadd (pc' := 27) ⟨by decide +kernel, rfl⟩ ?_
  obtain ⟨hb5, h⟩ := h
  have h := h ((σ4.1 10 0) + 1) (ia_ok rfl (by decide) hb5)
  generalize ((σ4.1 10 0) + 1) = r5 at h ⊢
  refine w_puti (k := 10) (j := 0) (idx := 31) (pc' := 30) yfxi_10_31 ykfa_10_0 ⟨by decide +kernel, rfl⟩ ?_
  generalize hs6 : zI σ4 10 0 r5 = σ6
  have h := h σ6 hs6
  refine z_aload_n (f := 0) (i := 0) (q := 0) (pc' := 31) ⟨by decide +kernel, rfl⟩ rfl rfl ?_
  refine w_geti (k := 10) (j := 0) (idx := 31) (pc' := 34) yfxe_10_31 ykfa_10_0 ⟨by decide +kernel, rfl⟩ ?_
  refine z_iconst (i := 1) (v := 1) (pc' := 35) ⟨by decide +kernel, rfl⟩ (by decide) ?_
  refine z_isub (pc' := 36) ⟨by decide +kernel, rfl⟩ ?_
  obtain ⟨hb7, h⟩ := h
  have h := h ((σ6.1 10 0) - 1) (is_ok rfl (by decide) hb7)
  generalize ((σ6.1 10 0) - 1) = r7 at h ⊢
  exact z_iret (ty := .int) rfl (by rfl) (by decide +kernel) (k _ _ h)
noncomputable def W_H_thing_b30 (x1 : Int32) (x2 : Int32) (σ : zS) (Q : Int32 → zS → Prop) : Prop := ((Int32.toInt (σ.1 10 0)) < 40 → (W_Th_add x1 x2 σ (fun v2 σ2 => Q v2 σ2))) ∧ (¬ (Int32.toInt (σ.1 10 0)) < 40 → (Q (-3) σ))
theorem sb_H_thing_30 {E : xV} {σ : zS} {K : zKt} {x1 : Int32} {x2 : Int32} {Q : Int32 → zS → Prop} (k : ∀ v s, Q v s → K (some (.int v)) s) (h : W_H_thing_b30 x1 x2 σ Q) : Wz E Y_H_thing 30 [(0, .ref 0), (1, .int x1), (2, .int x2)] [] σ K := by
  unfold W_H_thing_b30 at h
  refine z_aload_n (f := 0) (i := 0) (q := 0) (pc' := 31) ⟨by decide +kernel, rfl⟩ rfl rfl ?_
  refine w_getr (k := 0) (j := 9) (idx := 32) (pc' := 34) yfxe_1_32 ykfa_0_9 ⟨by decide +kernel, rfl⟩ ?_
  refine w_geti (k := 10) (j := 0) (idx := 205) (pc' := 37) yfxe_1_205 ykfa_10_0 ⟨by decide +kernel, rfl⟩ ?_
  refine z_bipush (i := 40) (v := 40) (pc' := 39) ⟨by decide +kernel, rfl⟩ (by decide) ?_
  refine z_icmp_lt (off := 6) (tgt := 45) (pc' := 42) ⟨by decide +kernel, by decide, rfl⟩ (fun h1 => ?_) (fun h1 => ?_)
  · have h := h.1 (qi_lt_t rfl (by decide) h1)
    refine z_aload_n (f := 0) (i := 0) (q := 0) (pc' := 46) ⟨by decide +kernel, rfl⟩ rfl rfl ?_
    refine w_getr (k := 0) (j := 9) (idx := 32) (pc' := 49) yfxe_1_32 ykfa_0_9 ⟨by decide +kernel, rfl⟩ ?_
    refine z_iload_n (f := 1) (i := 1) (q := 1) (pc' := 50) ⟨by decide +kernel, rfl⟩ rfl rfl ?_
    refine z_iload_n (f := 2) (i := 2) (q := 2) (pc' := 51) ⟨by decide +kernel, rfl⟩ rfl rfl ?_
    refine w_invV (Z := Y_Th_add) (idx := 207) (kb := 10) (As := [.int x1, .int x2]) (rest := []) (pc' := 54) cl_1_207 rfl ⟨rfl, rfl⟩ ykfa_10_0 rfl ⟨⟨by decide, by decide⟩, rfl, rfl⟩ ⟨by decide +kernel, rfl⟩ rfl rfl (Nat.le_of_ble_eq_true rfl) rfl rfl ?_
    refine sF_Th_add h (fun v2 σ2 h => ?_)
    show Wz E Y_H_thing 54 [(0, .ref 0), (1, .int x1), (2, .int x2)] [.int v2] σ2 K
    exact z_iret (ty := .int) rfl (by rfl) (by decide +kernel) (k _ _ h)
  · have h := h.2 (qi_lt_f rfl (by decide) h1)
    refine z_bipush (i := (-3)) (v := (-3)) (pc' := 44) ⟨by decide +kernel, rfl⟩ (by decide) ?_
    exact z_iret (ty := .int) rfl (by rfl) (by decide +kernel) (k _ _ h)
noncomputable def W_H_thing (a1 : Int32) (a2 : Int32) (σ : zS) (Q : Int32 → zS → Prop) : Prop := W_Th_isThere a1 σ (fun v1 σ1 => ((Int32.toInt v1) = 0 → (Q (-1) σ1)) ∧ (¬ (Int32.toInt v1) = 0 → (((Int32.toInt a2) = (-4) → (W_H_thing_b30  a1 a2 σ1 Q)) ∧ (¬ (Int32.toInt a2) = (-4) → (W_Wh_isPerson a2 σ1 (fun v4 σ4 => ((Int32.toInt v4) = 0 → (Q (-1) σ4)) ∧ (¬ (Int32.toInt v4) = 0 → (W_H_thing_b30  a1 a2 σ4 Q))))))))
theorem sF_H_thing {E : xV} {σ : zS} {K : zKt} {a1 : Int32} {a2 : Int32} {Q : Int32 → zS → Prop} (h : W_H_thing a1 a2 σ Q) (k : ∀ v s, Q v s → K (some (.int v)) s) : Cz E Y_H_thing [.ref 0, .int a1, .int a2] σ K := by
  refine z_entry (by decide) (fun a => by rw [sl_len]; exact Nat.le_of_ble_eq_true rfl) rfl ?_
  unfold W_H_thing at h
  refine z_aload_n (f := 0) (i := 0) (q := 0) (pc' := 1) ⟨by decide +kernel, rfl⟩ rfl rfl ?_
  refine w_getr (k := 0) (j := 9) (idx := 32) (pc' := 4) yfxe_1_32 ykfa_0_9 ⟨by decide +kernel, rfl⟩ ?_
  refine z_iload_n (f := 1) (i := 1) (q := 1) (pc' := 5) ⟨by decide +kernel, rfl⟩ rfl rfl ?_
  refine w_invV (Z := Y_Th_isThere) (idx := 160) (kb := 10) (As := [.int a1]) (rest := []) (pc' := 8) cl_1_160 rfl ⟨rfl, rfl⟩ ykfa_10_0 rfl ⟨⟨by decide, by decide⟩, rfl, rfl⟩ ⟨by decide +kernel, rfl⟩ rfl rfl (Nat.le_of_ble_eq_true rfl) rfl rfl ?_
  refine sF_Th_isThere h (fun v1 σ1 h => ?_)
  show Wz E Y_H_thing 8 [(0, .ref 0), (1, .int a1), (2, .int a2)] [.int v1] σ1 K
  refine z_if_eq (off := 20) (tgt := 28) (pc' := 11) ⟨by decide +kernel, by decide, rfl⟩ (fun h2 => ?_) (fun h2 => ?_)
  · have h := h.1 (qi_eq_t rfl (by decide) h2)
    refine z_iconst (i := (-1)) (v := (-1)) (pc' := 29) ⟨by decide +kernel, rfl⟩ (by decide) ?_
    exact z_iret (ty := .int) rfl (by rfl) (by decide +kernel) (k _ _ h)
  · have h := h.2 (qi_eq_f rfl (by decide) h2)
    refine z_iload_n (f := 2) (i := 2) (q := 2) (pc' := 12) ⟨by decide +kernel, rfl⟩ rfl rfl ?_
    refine z_bipush (i := (-4)) (v := (-4)) (pc' := 14) ⟨by decide +kernel, rfl⟩ (by decide) ?_
    refine z_icmp_eq (off := 16) (tgt := 30) (pc' := 17) ⟨by decide +kernel, by decide, rfl⟩ (fun h3 => ?_) (fun h3 => ?_)
    · have h := h.1 (qi_eq_t rfl (by decide) h3)
      refine z_sub [0, 1, 2] rfl ?_
      exact sb_H_thing_30  k h
    · have h := h.2 (qi_eq_f rfl (by decide) h3)
      refine z_aload_n (f := 0) (i := 0) (q := 0) (pc' := 18) ⟨by decide +kernel, rfl⟩ rfl rfl ?_
      refine w_getr (k := 0) (j := 8) (idx := 25) (pc' := 21) yfxe_1_25 ykfa_0_8 ⟨by decide +kernel, rfl⟩ ?_
      refine z_iload_n (f := 2) (i := 2) (q := 2) (pc' := 22) ⟨by decide +kernel, rfl⟩ rfl rfl ?_
      refine w_invV (Z := Y_Wh_isPerson) (idx := 146) (kb := 5) (As := [.int a2]) (rest := []) (pc' := 25) cl_1_146 rfl ⟨rfl, rfl⟩ ykfa_5_0 rfl ⟨⟨by decide, by decide⟩, rfl, rfl⟩ ⟨by decide +kernel, rfl⟩ rfl rfl (Nat.le_of_ble_eq_true rfl) rfl rfl ?_
      refine sF_Wh_isPerson h (fun v4 σ4 h => ?_)
      show Wz E Y_H_thing 25 [(0, .ref 0), (1, .int a1), (2, .int a2)] [.int v4] σ4 K
      refine z_if_ne (off := 5) (tgt := 30) (pc' := 28) ⟨by decide +kernel, by decide, rfl⟩ (fun h5 => ?_) (fun h5 => ?_)
      · have h := h.2 (qi_ne_t rfl (by decide) h5)
        refine z_sub [0, 1, 2] rfl ?_
        exact sb_H_thing_30  k h
      · have h := h.1 (qi_ne_f rfl (by decide) h5)
        refine z_iconst (i := (-1)) (v := (-1)) (pc' := 29) ⟨by decide +kernel, rfl⟩ (by decide) ?_
        exact z_iret (ty := .int) rfl (by rfl) (by decide +kernel) (k _ _ h)
noncomputable def WB_Th_isInside_5 (F5 : Int32 → Int32 → Int32 → zS → (Int32 → zS → Prop) → Prop) (x2 : Int32) (x3 : Int32) (x4 : Int32) (σ : zS) (Q : Int32 → zS → Prop) : Prop := (40 ≤ (Int32.toInt x4) → (Q 0 σ)) ∧ (¬ 40 ≤ (Int32.toInt x4) → (((Int32.toInt x3) = (-4) → (Q 0 σ)) ∧ (¬ (Int32.toInt x3) = (-4) → (((Int32.toInt x3) = (Int32.toInt x2) → (Q 1 σ)) ∧ (¬ (Int32.toInt x3) = (Int32.toInt x2) → (∃ n4 : Nat, Int32.toInt x3 = (n4 : Int) ∧ n4 < 40 ∧ ((-2147483648 ≤ (Int32.toInt x4) + 1 ∧ (Int32.toInt x4) + 1 ≤ 2147483647) ∧ ∀ r5 : Int32, r5.toInt = (Int32.toInt x4) + 1 → (F5 x2 (σ.1 11 n4) r5 σ Q))))))))
theorem sh_Th_isInside_5 {E : xV} {σ : zS} {K : zKt} {F5 : Int32 → Int32 → Int32 → zS → (Int32 → zS → Prop) → Prop} {x2 : Int32} {x3 : Int32} {x4 : Int32} {Q : Int32 → zS → Prop} (f5 : ∀ (x2 : Int32) (x3 : Int32) (x4 : Int32) (σ : zS), F5 x2 x3 x4 σ Q → Wz E Y_Th_isInside 5 [(0, .ref 10), (2, .int x2), (3, .int x3), (4, .int x4)] [] σ K) (k : ∀ v s, Q v s → K (some (.int v)) s) (h : WB_Th_isInside_5 F5 x2 x3 x4 σ Q) : Wz E Y_Th_isInside 5 [(0, .ref 10), (2, .int x2), (3, .int x3), (4, .int x4)] [] σ K := by
  unfold WB_Th_isInside_5 at h
  refine z_iload (i := 4) (q := 3) (pc' := 7) ⟨by decide +kernel, rfl⟩ rfl ?_
  refine z_bipush (i := 40) (v := 40) (pc' := 9) ⟨by decide +kernel, rfl⟩ (by decide) ?_
  refine z_icmp_ge (off := 29) (tgt := 38) (pc' := 12) ⟨by decide +kernel, by decide, rfl⟩ (fun h1 => ?_) (fun h1 => ?_)
  · have h := h.1 (qi_ge_t rfl (by decide) h1)
    refine z_iconst (i := 0) (v := 0) (pc' := 39) ⟨by decide +kernel, rfl⟩ (by decide) ?_
    exact z_iret (ty := .boolean) rfl (by rfl) (by decide +kernel) (k _ _ h)
  · have h := h.2 (qi_ge_f rfl (by decide) h1)
    refine z_iload_n (f := 3) (i := 3) (q := 2) (pc' := 13) ⟨by decide +kernel, rfl⟩ rfl rfl ?_
    refine z_bipush (i := (-4)) (v := (-4)) (pc' := 15) ⟨by decide +kernel, rfl⟩ (by decide) ?_
    refine z_icmp_eq (off := 23) (tgt := 38) (pc' := 18) ⟨by decide +kernel, by decide, rfl⟩ (fun h2 => ?_) (fun h2 => ?_)
    · have h := h.1 (qi_eq_t rfl (by decide) h2)
      refine z_iconst (i := 0) (v := 0) (pc' := 39) ⟨by decide +kernel, rfl⟩ (by decide) ?_
      exact z_iret (ty := .boolean) rfl (by rfl) (by decide +kernel) (k _ _ h)
    · have h := h.2 (qi_eq_f rfl (by decide) h2)
      refine z_iload_n (f := 3) (i := 3) (q := 2) (pc' := 19) ⟨by decide +kernel, rfl⟩ rfl rfl ?_
      refine z_iload_n (f := 2) (i := 2) (q := 1) (pc' := 20) ⟨by decide +kernel, rfl⟩ rfl rfl ?_
      refine z_icmp_ne (off := 5) (tgt := 25) (pc' := 23) ⟨by decide +kernel, by decide, rfl⟩ (fun h3 => ?_) (fun h3 => ?_)
      · have h := h.2 (qi_ne_t rfl rfl h3)
        refine z_aload_n (f := 0) (i := 0) (q := 0) (pc' := 26) ⟨by decide +kernel, rfl⟩ rfl rfl ?_
        refine w_getr (k := 10) (j := 1) (idx := 11) (pc' := 29) yfxe_10_11 ykfa_10_1 ⟨by decide +kernel, rfl⟩ ?_
        refine z_iload_n (f := 3) (i := 3) (q := 2) (pc' := 30) ⟨by decide +kernel, rfl⟩ rfl rfl ?_
        obtain ⟨n4, hi4, hz4, h⟩ := h
        refine w_iald (k := 11) (n := n4) (pc' := 31) ykaa_11 (hi4) (hz4) ⟨by decide +kernel, rfl⟩ ?_
        refine z_istore_n (f := 3) (i := 3) (pc' := 32) ⟨by decide +kernel, rfl⟩ rfl (by decide) rfl ?_
        show Wz E Y_Th_isInside 32 [(3, .int (σ.1 11 n4)), (0, .ref 10), (2, .int x2), (4, .int x4)] [] σ K
        refine z_iinc (i := 4) (z := 1) (q := 3) (pc' := 35) ⟨by decide +kernel, rfl⟩ rfl rfl (by decide) rfl ?_
        show Wz E Y_Th_isInside 35 [(4, .int (x4 + Int32.ofInt 1)), (3, .int (σ.1 11 n4)), (0, .ref 10), (2, .int x2)] [] σ K
        obtain ⟨hb5, h⟩ := h
        have h := h (x4 + Int32.ofInt 1) (ia_ok rfl (by decide) hb5)
        generalize (x4 + Int32.ofInt 1) = r5 at h ⊢
        refine z_goto (off := (-30)) (tgt := 5) (pc' := 38) ⟨by decide +kernel, by decide, rfl⟩ ?_
        refine z_sub [2, 3, 1, 0] rfl ?_
        exact f5 _ _ _ _ h
      · have h := h.1 (qi_ne_f rfl rfl h3)
        refine z_iconst (i := 1) (v := 1) (pc' := 24) ⟨by decide +kernel, rfl⟩ (by decide) ?_
        exact z_iret (ty := .boolean) rfl (by rfl) (by decide +kernel) (k _ _ h)
noncomputable def WL_Th_isInside : Nat → (Int32 → Int32 → Int32 → zS → (Int32 → zS → Prop) → Prop)
  | 0 => fun _ _ _ _ _ => False
  | n + 1 => WB_Th_isInside_5 (WL_Th_isInside n)
theorem wl_Th_isInside_5 {n : Nat} {x2 : Int32} {x3 : Int32} {x4 : Int32} {σ : zS} {Q : Int32 → zS → Prop} (h : WB_Th_isInside_5 (WL_Th_isInside n) x2 x3 x4 σ Q) : (WL_Th_isInside (n + 1)) x2 x3 x4 σ Q := h
theorem sl_Th_isInside {E : xV} {K : zKt} {Q : Int32 → zS → Prop} (k : ∀ v s, Q v s → K (some (.int v)) s) : ∀ n, (∀ (x2 : Int32) (x3 : Int32) (x4 : Int32) (σ : zS), (WL_Th_isInside n) x2 x3 x4 σ Q → Wz E Y_Th_isInside 5 [(0, .ref 10), (2, .int x2), (3, .int x3), (4, .int x4)] [] σ K)
  | 0 => fun _ _ _ _ h => h.elim
  | n + 1 => by
    have i := sl_Th_isInside (E := E)  k n
    exact fun _ _ _ _ h => sh_Th_isInside_5 i k h
noncomputable def W_Th_isInside (a1 : Int32) (a2 : Int32) (σ : zS) (Q : Int32 → zS → Prop) : Prop := (WL_Th_isInside fuF) a2 a1 0 σ Q
theorem sF_Th_isInside {E : xV} {σ : zS} {K : zKt} {a1 : Int32} {a2 : Int32} {Q : Int32 → zS → Prop} (h : W_Th_isInside a1 a2 σ Q) (k : ∀ v s, Q v s → K (some (.int v)) s) : Cz E Y_Th_isInside [.ref 10, .int a1, .int a2] σ K := by
  refine z_entry (by decide) (fun a => by rw [sl_len]; exact Nat.le_of_ble_eq_true rfl) rfl ?_
  unfold W_Th_isInside at h
  refine z_iload_n (f := 1) (i := 1) (q := 1) (pc' := 1) ⟨by decide +kernel, rfl⟩ rfl rfl ?_
  refine z_istore_n (f := 3) (i := 3) (pc' := 2) ⟨by decide +kernel, rfl⟩ rfl (by decide) rfl ?_
  show Wz E Y_Th_isInside 2 [(3, .int a1), (0, .ref 10), (1, .int a1), (2, .int a2)] [] σ K
  refine z_iconst (i := 0) (v := 0) (pc' := 3) ⟨by decide +kernel, rfl⟩ (by decide) ?_
  refine z_istore (i := 4) (pc' := 5) ⟨by decide +kernel, rfl⟩ (by decide) rfl ?_
  show Wz E Y_Th_isInside 5 [(4, .int 0), (3, .int a1), (0, .ref 10), (1, .int a1), (2, .int a2)] [] σ K
  refine z_sub [2, 4, 1, 0] rfl ?_
  exact (sl_Th_isInside k fuF) _ _ _ _ h
noncomputable def W_H_move (a1 : Int32) (a2 : Int32) (σ : zS) (Q : Int32 → zS → Prop) : Prop := ((Int32.toInt a1) = 0 → (Q (-1) σ)) ∧ (¬ (Int32.toInt a1) = 0 → (W_Th_isThere a1 σ (fun v2 σ2 => ((Int32.toInt v2) = 0 → (Q (-1) σ2)) ∧ (¬ (Int32.toInt v2) = 0 → (W_Th_isThere a2 σ2 (fun v4 σ4 => ((Int32.toInt v4) = 0 → (Q (-1) σ4)) ∧ (¬ (Int32.toInt v4) = 0 → (W_Th_isInside a2 a1 σ4 (fun v6 σ6 => ((Int32.toInt v6) = 0 → (∃ n8 : Nat, Int32.toInt a1 = (n8 : Int) ∧ n8 < 40 ∧ (∀ σ9 : zS, zI σ6 11 n8 a2 = σ9 → (Q 1 σ9)))) ∧ (¬ (Int32.toInt v6) = 0 → (Q (-2) σ6)))))))))))
theorem sF_H_move {E : xV} {σ : zS} {K : zKt} {a1 : Int32} {a2 : Int32} {Q : Int32 → zS → Prop} (h : W_H_move a1 a2 σ Q) (k : ∀ v s, Q v s → K (some (.int v)) s) : Cz E Y_H_move [.ref 0, .int a1, .int a2] σ K := by
  refine z_entry (by decide) (fun a => by rw [sl_len]; exact Nat.le_of_ble_eq_true rfl) rfl ?_
  unfold W_H_move at h
  refine z_iload_n (f := 1) (i := 1) (q := 1) (pc' := 1) ⟨by decide +kernel, rfl⟩ rfl rfl ?_
  refine z_if_eq (off := 25) (tgt := 26) (pc' := 4) ⟨by decide +kernel, by decide, rfl⟩ (fun h1 => ?_) (fun h1 => ?_)
  · have h := h.1 (qi_eq_t rfl (by decide) h1)
    refine z_iconst (i := (-1)) (v := (-1)) (pc' := 27) ⟨by decide +kernel, rfl⟩ (by decide) ?_
    exact z_iret (ty := .int) rfl (by rfl) (by decide +kernel) (k _ _ h)
  · have h := h.2 (qi_eq_f rfl (by decide) h1)
    refine z_aload_n (f := 0) (i := 0) (q := 0) (pc' := 5) ⟨by decide +kernel, rfl⟩ rfl rfl ?_
    refine w_getr (k := 0) (j := 9) (idx := 32) (pc' := 8) yfxe_1_32 ykfa_0_9 ⟨by decide +kernel, rfl⟩ ?_
    refine z_iload_n (f := 1) (i := 1) (q := 1) (pc' := 9) ⟨by decide +kernel, rfl⟩ rfl rfl ?_
    refine w_invV (Z := Y_Th_isThere) (idx := 160) (kb := 10) (As := [.int a1]) (rest := []) (pc' := 12) cl_1_160 rfl ⟨rfl, rfl⟩ ykfa_10_0 rfl ⟨⟨by decide, by decide⟩, rfl, rfl⟩ ⟨by decide +kernel, rfl⟩ rfl rfl (Nat.le_of_ble_eq_true rfl) rfl rfl ?_
    refine sF_Th_isThere h (fun v2 σ2 h => ?_)
    show Wz E Y_H_move 12 [(0, .ref 0), (1, .int a1), (2, .int a2)] [.int v2] σ2 K
    refine z_if_eq (off := 14) (tgt := 26) (pc' := 15) ⟨by decide +kernel, by decide, rfl⟩ (fun h3 => ?_) (fun h3 => ?_)
    · have h := h.1 (qi_eq_t rfl (by decide) h3)
      refine z_iconst (i := (-1)) (v := (-1)) (pc' := 27) ⟨by decide +kernel, rfl⟩ (by decide) ?_
      exact z_iret (ty := .int) rfl (by rfl) (by decide +kernel) (k _ _ h)
    · have h := h.2 (qi_eq_f rfl (by decide) h3)
      refine z_aload_n (f := 0) (i := 0) (q := 0) (pc' := 16) ⟨by decide +kernel, rfl⟩ rfl rfl ?_
      refine w_getr (k := 0) (j := 9) (idx := 32) (pc' := 19) yfxe_1_32 ykfa_0_9 ⟨by decide +kernel, rfl⟩ ?_
      refine z_iload_n (f := 2) (i := 2) (q := 2) (pc' := 20) ⟨by decide +kernel, rfl⟩ rfl rfl ?_
      refine w_invV (Z := Y_Th_isThere) (idx := 160) (kb := 10) (As := [.int a2]) (rest := []) (pc' := 23) cl_1_160 rfl ⟨rfl, rfl⟩ ykfa_10_0 rfl ⟨⟨by decide, by decide⟩, rfl, rfl⟩ ⟨by decide +kernel, rfl⟩ rfl rfl (Nat.le_of_ble_eq_true rfl) rfl rfl ?_
      refine sF_Th_isThere h (fun v4 σ4 h => ?_)
      show Wz E Y_H_move 23 [(0, .ref 0), (1, .int a1), (2, .int a2)] [.int v4] σ4 K
      refine z_if_ne (off := 5) (tgt := 28) (pc' := 26) ⟨by decide +kernel, by decide, rfl⟩ (fun h5 => ?_) (fun h5 => ?_)
      · have h := h.2 (qi_ne_t rfl (by decide) h5)
        refine z_aload_n (f := 0) (i := 0) (q := 0) (pc' := 29) ⟨by decide +kernel, rfl⟩ rfl rfl ?_
        refine w_getr (k := 0) (j := 9) (idx := 32) (pc' := 32) yfxe_1_32 ykfa_0_9 ⟨by decide +kernel, rfl⟩ ?_
        refine z_iload_n (f := 2) (i := 2) (q := 2) (pc' := 33) ⟨by decide +kernel, rfl⟩ rfl rfl ?_
        refine z_iload_n (f := 1) (i := 1) (q := 1) (pc' := 34) ⟨by decide +kernel, rfl⟩ rfl rfl ?_
        refine w_invV (Z := Y_Th_isInside) (idx := 210) (kb := 10) (As := [.int a2, .int a1]) (rest := []) (pc' := 37) cl_1_210 rfl ⟨rfl, rfl⟩ ykfa_10_0 rfl ⟨⟨by decide, by decide⟩, rfl, rfl⟩ ⟨by decide +kernel, rfl⟩ rfl rfl (Nat.le_of_ble_eq_true rfl) rfl rfl ?_
        refine sF_Th_isInside h (fun v6 σ6 h => ?_)
        show Wz E Y_H_move 37 [(0, .ref 0), (1, .int a1), (2, .int a2)] [.int v6] σ6 K
        refine z_if_eq (off := 6) (tgt := 43) (pc' := 40) ⟨by decide +kernel, by decide, rfl⟩ (fun h7 => ?_) (fun h7 => ?_)
        · have h := h.1 (qi_eq_t rfl (by decide) h7)
          refine z_aload_n (f := 0) (i := 0) (q := 0) (pc' := 44) ⟨by decide +kernel, rfl⟩ rfl rfl ?_
          refine w_getr (k := 0) (j := 9) (idx := 32) (pc' := 47) yfxe_1_32 ykfa_0_9 ⟨by decide +kernel, rfl⟩ ?_
          refine w_getr (k := 10) (j := 1) (idx := 213) (pc' := 50) yfxe_1_213 ykfa_10_1 ⟨by decide +kernel, rfl⟩ ?_
          refine z_iload_n (f := 1) (i := 1) (q := 1) (pc' := 51) ⟨by decide +kernel, rfl⟩ rfl rfl ?_
          refine z_iload_n (f := 2) (i := 2) (q := 2) (pc' := 52) ⟨by decide +kernel, rfl⟩ rfl rfl ?_
          obtain ⟨n8, hi8, hz8, h⟩ := h
          refine w_iast (k := 11) (n := n8) (pc' := 53) ykaa_11 (hi8) (hz8) ⟨by decide +kernel, rfl⟩ ?_
          generalize hs9 : zI σ6 11 n8 a2 = σ9
          have h := h σ9 hs9
          refine z_iconst (i := 1) (v := 1) (pc' := 54) ⟨by decide +kernel, rfl⟩ (by decide) ?_
          exact z_iret (ty := .int) rfl (by rfl) (by decide +kernel) (k _ _ h)
        · have h := h.2 (qi_eq_f rfl (by decide) h7)
          refine z_bipush (i := (-2)) (v := (-2)) (pc' := 42) ⟨by decide +kernel, rfl⟩ (by decide) ?_
          exact z_iret (ty := .int) rfl (by rfl) (by decide +kernel) (k _ _ h)
      · have h := h.1 (qi_ne_f rfl (by decide) h5)
        refine z_iconst (i := (-1)) (v := (-1)) (pc' := 27) ⟨by decide +kernel, rfl⟩ (by decide) ?_
        exact z_iret (ty := .int) rfl (by rfl) (by decide +kernel) (k _ _ h)
noncomputable def W_H_cutOff_b31 (x1 : Int32) (x2 : Int32) (y0 : Int32) (σ : zS) (Q : Int32 → zS → Prop) : Prop := ∃ n1 : Nat, Int32.toInt x1 = (n1 : Int) ∧ n1 < 40 ∧ ((x2 = 0 ∨ x2 = 1) ∧ (∀ σ3 : zS, zI σ 13 n1 x2 = σ3 → (((Int32.toInt y0) = 0 → (Q 0 σ3)) ∧ (¬ (Int32.toInt y0) = 0 → (Q 1 σ3)))))
noncomputable def W_H_cutOff (a1 : Int32) (a2 : Int32) (σ : zS) (Q : Int32 → zS → Prop) : Prop := W_Th_isThere a1 σ (fun v1 σ1 => ((Int32.toInt v1) = 0 → (Q (-1) σ1)) ∧ (¬ (Int32.toInt v1) = 0 → (∃ n3 : Nat, Int32.toInt a1 = (n3 : Int) ∧ n3 < 40 ∧ (((Int32.toInt (σ1.1 13 n3)) = (Int32.toInt a2) → (W_H_cutOff_b31  a1 a2 0 σ1 Q)) ∧ (¬ (Int32.toInt (σ1.1 13 n3)) = (Int32.toInt a2) → (W_H_cutOff_b31  a1 a2 1 σ1 Q))))))
noncomputable def WB_Th_bearsAny_2 (F2 : Int32 → Int32 → zS → (Int32 → zS → Prop) → Prop) (x1 : Int32) (x2 : Int32) (σ : zS) (Q : Int32 → zS → Prop) : Prop := ((Int32.toInt (σ.1 10 0)) ≤ (Int32.toInt x2) → (Q 0 σ)) ∧ (¬ (Int32.toInt (σ.1 10 0)) ≤ (Int32.toInt x2) → (∃ n2 : Nat, Int32.toInt x2 = (n2 : Int) ∧ n2 < 40 ∧ (((Int32.toInt (σ.1 11 n2)) = (Int32.toInt x1) → (((Int32.toInt (σ.1 14 n2)) = 0 → (Q 1 σ)) ∧ (¬ (Int32.toInt (σ.1 14 n2)) = 0 → ((-2147483648 ≤ (Int32.toInt x2) + 1 ∧ (Int32.toInt x2) + 1 ≤ 2147483647) ∧ ∀ r6 : Int32, r6.toInt = (Int32.toInt x2) + 1 → (F2 x1 r6 σ Q))))) ∧ (¬ (Int32.toInt (σ.1 11 n2)) = (Int32.toInt x1) → ((-2147483648 ≤ (Int32.toInt x2) + 1 ∧ (Int32.toInt x2) + 1 ≤ 2147483647) ∧ ∀ r4 : Int32, r4.toInt = (Int32.toInt x2) + 1 → (F2 x1 r4 σ Q))))))
theorem sh_Th_bearsAny_2 {E : xV} {σ : zS} {K : zKt} {F2 : Int32 → Int32 → zS → (Int32 → zS → Prop) → Prop} {x1 : Int32} {x2 : Int32} {Q : Int32 → zS → Prop} (f2 : ∀ (x1 : Int32) (x2 : Int32) (σ : zS), F2 x1 x2 σ Q → Wz E Y_Th_bearsAny 2 [(0, .ref 10), (1, .int x1), (2, .int x2)] [] σ K) (k : ∀ v s, Q v s → K (some (.int v)) s) (h : WB_Th_bearsAny_2 F2 x1 x2 σ Q) : Wz E Y_Th_bearsAny 2 [(0, .ref 10), (1, .int x1), (2, .int x2)] [] σ K := by
  unfold WB_Th_bearsAny_2 at h
  refine z_iload_n (f := 2) (i := 2) (q := 2) (pc' := 3) ⟨by decide +kernel, rfl⟩ rfl rfl ?_
  refine z_aload_n (f := 0) (i := 0) (q := 0) (pc' := 4) ⟨by decide +kernel, rfl⟩ rfl rfl ?_
  refine w_geti (k := 10) (j := 0) (idx := 31) (pc' := 7) yfxe_10_31 ykfa_10_0 ⟨by decide +kernel, rfl⟩ ?_
  refine z_icmp_ge (off := 30) (tgt := 37) (pc' := 10) ⟨by decide +kernel, by decide, rfl⟩ (fun h1 => ?_) (fun h1 => ?_)
  · have h := h.1 (qi_ge_t rfl rfl h1)
    refine z_iconst (i := 0) (v := 0) (pc' := 38) ⟨by decide +kernel, rfl⟩ (by decide) ?_
    exact z_iret (ty := .boolean) rfl (by rfl) (by decide +kernel) (k _ _ h)
  · have h := h.2 (qi_ge_f rfl rfl h1)
    refine z_aload_n (f := 0) (i := 0) (q := 0) (pc' := 11) ⟨by decide +kernel, rfl⟩ rfl rfl ?_
    refine w_getr (k := 10) (j := 1) (idx := 11) (pc' := 14) yfxe_10_11 ykfa_10_1 ⟨by decide +kernel, rfl⟩ ?_
    refine z_iload_n (f := 2) (i := 2) (q := 2) (pc' := 15) ⟨by decide +kernel, rfl⟩ rfl rfl ?_
    obtain ⟨n2, hi2, hz2, h⟩ := h
    refine w_iald (k := 11) (n := n2) (pc' := 16) ykaa_11 (hi2) (hz2) ⟨by decide +kernel, rfl⟩ ?_
    refine z_iload_n (f := 1) (i := 1) (q := 1) (pc' := 17) ⟨by decide +kernel, rfl⟩ rfl rfl ?_
    refine z_icmp_ne (off := 14) (tgt := 31) (pc' := 20) ⟨by decide +kernel, by decide, rfl⟩ (fun h3 => ?_) (fun h3 => ?_)
    · have h := h.2 (qi_ne_t rfl rfl h3)
      refine z_iinc (i := 2) (z := 1) (q := 2) (pc' := 34) ⟨by decide +kernel, rfl⟩ rfl rfl (by decide) rfl ?_
      show Wz E Y_Th_bearsAny 34 [(2, .int (x2 + Int32.ofInt 1)), (0, .ref 10), (1, .int x1)] [] σ K
      obtain ⟨hb4, h⟩ := h
      have h := h (x2 + Int32.ofInt 1) (ia_ok rfl (by decide) hb4)
      generalize (x2 + Int32.ofInt 1) = r4 at h ⊢
      refine z_goto (off := (-32)) (tgt := 2) (pc' := 37) ⟨by decide +kernel, by decide, rfl⟩ ?_
      refine z_sub [1, 2, 0] rfl ?_
      exact f2 _ _ _ h
    · have h := h.1 (qi_ne_f rfl rfl h3)
      refine z_aload_n (f := 0) (i := 0) (q := 0) (pc' := 21) ⟨by decide +kernel, rfl⟩ rfl rfl ?_
      refine w_getr (k := 10) (j := 4) (idx := 22) (pc' := 24) yfxe_10_22 ykfa_10_4 ⟨by decide +kernel, rfl⟩ ?_
      refine z_iload_n (f := 2) (i := 2) (q := 2) (pc' := 25) ⟨by decide +kernel, rfl⟩ rfl rfl ?_
      refine w_zald (k := 14) (n := n2) (pc' := 26) ykaa_14 (hi2) (hz2) ⟨by decide +kernel, rfl⟩ ?_
      refine z_if_ne (off := 5) (tgt := 31) (pc' := 29) ⟨by decide +kernel, by decide, rfl⟩ (fun h5 => ?_) (fun h5 => ?_)
      · have h := h.2 (qi_ne_t rfl (by decide) h5)
        refine z_iinc (i := 2) (z := 1) (q := 2) (pc' := 34) ⟨by decide +kernel, rfl⟩ rfl rfl (by decide) rfl ?_
        show Wz E Y_Th_bearsAny 34 [(2, .int (x2 + Int32.ofInt 1)), (0, .ref 10), (1, .int x1)] [] σ K
        obtain ⟨hb6, h⟩ := h
        have h := h (x2 + Int32.ofInt 1) (ia_ok rfl (by decide) hb6)
        generalize (x2 + Int32.ofInt 1) = r6 at h ⊢
        refine z_goto (off := (-32)) (tgt := 2) (pc' := 37) ⟨by decide +kernel, by decide, rfl⟩ ?_
        refine z_sub [1, 2, 0] rfl ?_
        exact f2 _ _ _ h
      · have h := h.1 (qi_ne_f rfl (by decide) h5)
        refine z_iconst (i := 1) (v := 1) (pc' := 30) ⟨by decide +kernel, rfl⟩ (by decide) ?_
        exact z_iret (ty := .boolean) rfl (by rfl) (by decide +kernel) (k _ _ h)
noncomputable def WL_Th_bearsAny : Nat → (Int32 → Int32 → zS → (Int32 → zS → Prop) → Prop)
  | 0 => fun _ _ _ _ => False
  | n + 1 => WB_Th_bearsAny_2 (WL_Th_bearsAny n)
theorem wl_Th_bearsAny_2 {n : Nat} {x1 : Int32} {x2 : Int32} {σ : zS} {Q : Int32 → zS → Prop} (h : WB_Th_bearsAny_2 (WL_Th_bearsAny n) x1 x2 σ Q) : (WL_Th_bearsAny (n + 1)) x1 x2 σ Q := h
theorem sl_Th_bearsAny {E : xV} {K : zKt} {Q : Int32 → zS → Prop} (k : ∀ v s, Q v s → K (some (.int v)) s) : ∀ n, (∀ (x1 : Int32) (x2 : Int32) (σ : zS), (WL_Th_bearsAny n) x1 x2 σ Q → Wz E Y_Th_bearsAny 2 [(0, .ref 10), (1, .int x1), (2, .int x2)] [] σ K)
  | 0 => fun _ _ _ h => h.elim
  | n + 1 => by
    have i := sl_Th_bearsAny (E := E)  k n
    exact fun _ _ _ h => sh_Th_bearsAny_2 i k h
noncomputable def W_Th_bearsAny (a1 : Int32) (σ : zS) (Q : Int32 → zS → Prop) : Prop := (WL_Th_bearsAny fuF) a1 0 σ Q
theorem sF_Th_bearsAny {E : xV} {σ : zS} {K : zKt} {a1 : Int32} {Q : Int32 → zS → Prop} (h : W_Th_bearsAny a1 σ Q) (k : ∀ v s, Q v s → K (some (.int v)) s) : Cz E Y_Th_bearsAny [.ref 10, .int a1] σ K := by
  refine z_entry (by decide) (fun a => by rw [sl_len]; exact Nat.le_of_ble_eq_true rfl) rfl ?_
  unfold W_Th_bearsAny at h
  refine z_iconst (i := 0) (v := 0) (pc' := 1) ⟨by decide +kernel, rfl⟩ (by decide) ?_
  refine z_istore_n (f := 2) (i := 2) (pc' := 2) ⟨by decide +kernel, rfl⟩ rfl (by decide) rfl ?_
  show Wz E Y_Th_bearsAny 2 [(2, .int 0), (0, .ref 10), (1, .int a1)] [] σ K
  refine z_sub [1, 2, 0] rfl ?_
  exact (sl_Th_bearsAny k fuF) _ _ _ h
noncomputable def W_H_drop (a1 : Int32) (σ : zS) (Q : Int32 → zS → Prop) : Prop := ((Int32.toInt a1) = 0 → (Q (-1) σ)) ∧ (¬ (Int32.toInt a1) = 0 → (W_Th_isThere a1 σ (fun v2 σ2 => ((Int32.toInt v2) = 0 → (Q (-1) σ2)) ∧ (¬ (Int32.toInt v2) = 0 → (W_Th_bearsAny a1 σ2 (fun v4 σ4 => ((Int32.toInt v4) = 0 → (∃ n6 : Nat, Int32.toInt a1 = (n6 : Int) ∧ n6 < 40 ∧ (∀ σ7 : zS, zI σ4 14 n6 1 = σ7 → (Q 1 σ7)))) ∧ (¬ (Int32.toInt v4) = 0 → (Q (-2) σ4))))))))
theorem sF_H_drop {E : xV} {σ : zS} {K : zKt} {a1 : Int32} {Q : Int32 → zS → Prop} (h : W_H_drop a1 σ Q) (k : ∀ v s, Q v s → K (some (.int v)) s) : Cz E Y_H_drop [.ref 0, .int a1] σ K := by
  refine z_entry (by decide) (fun a => by rw [sl_len]; exact Nat.le_of_ble_eq_true rfl) rfl ?_
  unfold W_H_drop at h
  refine z_iload_n (f := 1) (i := 1) (q := 1) (pc' := 1) ⟨by decide +kernel, rfl⟩ rfl rfl ?_
  refine z_if_eq (off := 14) (tgt := 15) (pc' := 4) ⟨by decide +kernel, by decide, rfl⟩ (fun h1 => ?_) (fun h1 => ?_)
  · have h := h.1 (qi_eq_t rfl (by decide) h1)
    refine z_iconst (i := (-1)) (v := (-1)) (pc' := 16) ⟨by decide +kernel, rfl⟩ (by decide) ?_
    exact z_iret (ty := .int) rfl (by rfl) (by decide +kernel) (k _ _ h)
  · have h := h.2 (qi_eq_f rfl (by decide) h1)
    refine z_aload_n (f := 0) (i := 0) (q := 0) (pc' := 5) ⟨by decide +kernel, rfl⟩ rfl rfl ?_
    refine w_getr (k := 0) (j := 9) (idx := 32) (pc' := 8) yfxe_1_32 ykfa_0_9 ⟨by decide +kernel, rfl⟩ ?_
    refine z_iload_n (f := 1) (i := 1) (q := 1) (pc' := 9) ⟨by decide +kernel, rfl⟩ rfl rfl ?_
    refine w_invV (Z := Y_Th_isThere) (idx := 160) (kb := 10) (As := [.int a1]) (rest := []) (pc' := 12) cl_1_160 rfl ⟨rfl, rfl⟩ ykfa_10_0 rfl ⟨⟨by decide, by decide⟩, rfl, rfl⟩ ⟨by decide +kernel, rfl⟩ rfl rfl (Nat.le_of_ble_eq_true rfl) rfl rfl ?_
    refine sF_Th_isThere h (fun v2 σ2 h => ?_)
    show Wz E Y_H_drop 12 [(0, .ref 0), (1, .int a1)] [.int v2] σ2 K
    refine z_if_ne (off := 5) (tgt := 17) (pc' := 15) ⟨by decide +kernel, by decide, rfl⟩ (fun h3 => ?_) (fun h3 => ?_)
    · have h := h.2 (qi_ne_t rfl (by decide) h3)
      refine z_aload_n (f := 0) (i := 0) (q := 0) (pc' := 18) ⟨by decide +kernel, rfl⟩ rfl rfl ?_
      refine w_getr (k := 0) (j := 9) (idx := 32) (pc' := 21) yfxe_1_32 ykfa_0_9 ⟨by decide +kernel, rfl⟩ ?_
      refine z_iload_n (f := 1) (i := 1) (q := 1) (pc' := 22) ⟨by decide +kernel, rfl⟩ rfl rfl ?_
      refine w_invV (Z := Y_Th_bearsAny) (idx := 220) (kb := 10) (As := [.int a1]) (rest := []) (pc' := 25) cl_1_220 rfl ⟨rfl, rfl⟩ ykfa_10_0 rfl ⟨⟨by decide, by decide⟩, rfl, rfl⟩ ⟨by decide +kernel, rfl⟩ rfl rfl (Nat.le_of_ble_eq_true rfl) rfl rfl ?_
      refine sF_Th_bearsAny h (fun v4 σ4 h => ?_)
      show Wz E Y_H_drop 25 [(0, .ref 0), (1, .int a1)] [.int v4] σ4 K
      refine z_if_eq (off := 6) (tgt := 31) (pc' := 28) ⟨by decide +kernel, by decide, rfl⟩ (fun h5 => ?_) (fun h5 => ?_)
      · have h := h.1 (qi_eq_t rfl (by decide) h5)
        refine z_aload_n (f := 0) (i := 0) (q := 0) (pc' := 32) ⟨by decide +kernel, rfl⟩ rfl rfl ?_
        refine w_getr (k := 0) (j := 9) (idx := 32) (pc' := 35) yfxe_1_32 ykfa_0_9 ⟨by decide +kernel, rfl⟩ ?_
        refine w_getr (k := 10) (j := 4) (idx := 223) (pc' := 38) yfxe_1_223 ykfa_10_4 ⟨by decide +kernel, rfl⟩ ?_
        refine z_iload_n (f := 1) (i := 1) (q := 1) (pc' := 39) ⟨by decide +kernel, rfl⟩ rfl rfl ?_
        refine z_iconst (i := 1) (v := 1) (pc' := 40) ⟨by decide +kernel, rfl⟩ (by decide) ?_
        obtain ⟨n6, hi6, hz6, h⟩ := h
        refine w_zast (k := 14) (n := n6) (pc' := 41) ykaa_14 (hi6) (hz6) (by decide) ⟨by decide +kernel, rfl⟩ ?_
        generalize hs7 : zI σ4 14 n6 1 = σ7
        have h := h σ7 hs7
        refine z_iconst (i := 1) (v := 1) (pc' := 42) ⟨by decide +kernel, rfl⟩ (by decide) ?_
        exact z_iret (ty := .int) rfl (by rfl) (by decide +kernel) (k _ _ h)
      · have h := h.2 (qi_eq_f rfl (by decide) h5)
        refine z_bipush (i := (-2)) (v := (-2)) (pc' := 30) ⟨by decide +kernel, rfl⟩ (by decide) ?_
        exact z_iret (ty := .int) rfl (by rfl) (by decide +kernel) (k _ _ h)
    · have h := h.1 (qi_ne_f rfl (by decide) h3)
      refine z_iconst (i := (-1)) (v := (-1)) (pc' := 16) ⟨by decide +kernel, rfl⟩ (by decide) ?_
      exact z_iret (ty := .int) rfl (by rfl) (by decide +kernel) (k _ _ h)
noncomputable def W_M_person  (σ : zS) (Q : Int32 → zS → Prop) : Prop := ((Int32.toInt (σ.1 110 6)) = 20 → (Q (-3) σ)) ∧ (¬ (Int32.toInt (σ.1 110 6)) = 20 → ((-2147483648 ≤ (Int32.toInt (σ.1 110 6)) + 1 ∧ (Int32.toInt (σ.1 110 6)) + 1 ≤ 2147483647) ∧ ∀ r2 : Int32, r2.toInt = (Int32.toInt (σ.1 110 6)) + 1 → (∀ σ3 : zS, zI σ 110 6 r2 = σ3 → ((-2147483648 ≤ (Int32.toInt (σ3.1 110 6)) - 1 ∧ (Int32.toInt (σ3.1 110 6)) - 1 ≤ 2147483647) ∧ ∀ r4 : Int32, r4.toInt = (Int32.toInt (σ3.1 110 6)) - 1 → (Q r4 σ3)))))
noncomputable def W_M_thing_b28 (x1 : Int32) (x2 : Int32) (σ : zS) (Q : Int32 → zS → Prop) : Prop := ((Int32.toInt (σ.1 110 20)) = 40 → (Q (-3) σ)) ∧ (¬ (Int32.toInt (σ.1 110 20)) = 40 → (∃ n2 : Nat, Int32.toInt (σ.1 110 20) = (n2 : Int) ∧ n2 < 40 ∧ (∀ σ3 : zS, zI σ 125 n2 x1 = σ3 → (∃ n4 : Nat, Int32.toInt (σ3.1 110 20) = (n4 : Int) ∧ n4 < 40 ∧ (∀ σ5 : zS, zI σ3 126 n4 x2 = σ5 → ((-2147483648 ≤ (Int32.toInt (σ5.1 110 20)) + 1 ∧ (Int32.toInt (σ5.1 110 20)) + 1 ≤ 2147483647) ∧ ∀ r6 : Int32, r6.toInt = (Int32.toInt (σ5.1 110 20)) + 1 → (∀ σ7 : zS, zI σ5 110 20 r6 = σ7 → ((-2147483648 ≤ (Int32.toInt (σ7.1 110 20)) - 1 ∧ (Int32.toInt (σ7.1 110 20)) - 1 ≤ 2147483647) ∧ ∀ r8 : Int32, r8.toInt = (Int32.toInt (σ7.1 110 20)) - 1 → (Q r8 σ7)))))))))
theorem sb_M_thing_28 {E : xV} {σ : zS} {K : zKt} {x1 : Int32} {x2 : Int32} {Q : Int32 → zS → Prop} (k : ∀ v s, Q v s → K (some (.int v)) s) (h : W_M_thing_b28 x1 x2 σ Q) : Wz E Y_M_thing 28 [(0, .ref 110), (1, .int x1), (2, .int x2)] [] σ K := by
  unfold W_M_thing_b28 at h
  refine z_aload_n (f := 0) (i := 0) (q := 0) (pc' := 29) ⟨by decide +kernel, rfl⟩ rfl rfl ?_
  refine w_geti (k := 110) (j := 20) (idx := 54) (pc' := 32) yfxe_13_54 ykfa_110_20 ⟨by decide +kernel, rfl⟩ ?_
  refine z_bipush (i := 40) (v := 40) (pc' := 34) ⟨by decide +kernel, rfl⟩ (by decide) ?_
  refine z_icmp_ne (off := 6) (tgt := 40) (pc' := 37) ⟨by decide +kernel, by decide, rfl⟩ (fun h1 => ?_) (fun h1 => ?_)
  · have h := h.2 (qi_ne_t rfl (by decide) h1)
    refine z_aload_n (f := 0) (i := 0) (q := 0) (pc' := 41) ⟨by decide +kernel, rfl⟩ rfl rfl ?_
    refine w_getr (k := 110) (j := 21) (idx := 58) (pc' := 44) yfxe_13_58 ykfa_110_21 ⟨by decide +kernel, rfl⟩ ?_
    refine z_aload_n (f := 0) (i := 0) (q := 0) (pc' := 45) ⟨by decide +kernel, rfl⟩ rfl rfl ?_
    refine w_geti (k := 110) (j := 20) (idx := 54) (pc' := 48) yfxe_13_54 ykfa_110_20 ⟨by decide +kernel, rfl⟩ ?_
    refine z_iload_n (f := 1) (i := 1) (q := 1) (pc' := 49) ⟨by decide +kernel, rfl⟩ rfl rfl ?_
    obtain ⟨n2, hi2, hz2, h⟩ := h
    refine w_iast (k := 125) (n := n2) (pc' := 50) ykaa_125 (hi2) (hz2) ⟨by decide +kernel, rfl⟩ ?_
    generalize hs3 : zI σ 125 n2 x1 = σ3
    have h := h σ3 hs3
    refine z_aload_n (f := 0) (i := 0) (q := 0) (pc' := 51) ⟨by decide +kernel, rfl⟩ rfl rfl ?_
    refine w_getr (k := 110) (j := 22) (idx := 61) (pc' := 54) yfxe_13_61 ykfa_110_22 ⟨by decide +kernel, rfl⟩ ?_
    refine z_aload_n (f := 0) (i := 0) (q := 0) (pc' := 55) ⟨by decide +kernel, rfl⟩ rfl rfl ?_
    refine w_geti (k := 110) (j := 20) (idx := 54) (pc' := 58) yfxe_13_54 ykfa_110_20 ⟨by decide +kernel, rfl⟩ ?_
    refine z_iload_n (f := 2) (i := 2) (q := 2) (pc' := 59) ⟨by decide +kernel, rfl⟩ rfl rfl ?_
    obtain ⟨n4, hi4, hz4, h⟩ := h
    refine w_iast (k := 126) (n := n4) (pc' := 60) ykaa_126 (hi4) (hz4) ⟨by decide +kernel, rfl⟩ ?_
    generalize hs5 : zI σ3 126 n4 x2 = σ5
    have h := h σ5 hs5
    refine z_aload_n (f := 0) (i := 0) (q := 0) (pc' := 61) ⟨by decide +kernel, rfl⟩ rfl rfl ?_
    refine z_dupr (pc' := 62) ⟨by decide +kernel, rfl⟩ ?_
    refine w_geti (k := 110) (j := 20) (idx := 54) (pc' := 65) yfxe_13_54 ykfa_110_20 ⟨by decide +kernel, rfl⟩ ?_
    refine z_iconst (i := 1) (v := 1) (pc' := 66) ⟨by decide +kernel, rfl⟩ (by decide) ?_
    refine z_iadd (pc' := 67) ⟨by decide +kernel, rfl⟩ ?_
    obtain ⟨hb6, h⟩ := h
    have h := h ((σ5.1 110 20) + 1) (ia_ok rfl (by decide) hb6)
    generalize ((σ5.1 110 20) + 1) = r6 at h ⊢
    refine w_puti (k := 110) (j := 20) (idx := 54) (pc' := 70) yfxi_13_54 ykfa_110_20 ⟨by decide +kernel, rfl⟩ ?_
    generalize hs7 : zI σ5 110 20 r6 = σ7
    have h := h σ7 hs7
    refine z_aload_n (f := 0) (i := 0) (q := 0) (pc' := 71) ⟨by decide +kernel, rfl⟩ rfl rfl ?_
    refine w_geti (k := 110) (j := 20) (idx := 54) (pc' := 74) yfxe_13_54 ykfa_110_20 ⟨by decide +kernel, rfl⟩ ?_
    refine z_iconst (i := 1) (v := 1) (pc' := 75) ⟨by decide +kernel, rfl⟩ (by decide) ?_
    refine z_isub (pc' := 76) ⟨by decide +kernel, rfl⟩ ?_
    obtain ⟨hb8, h⟩ := h
    have h := h ((σ7.1 110 20) - 1) (is_ok rfl (by decide) hb8)
    generalize ((σ7.1 110 20) - 1) = r8 at h ⊢
    exact z_iret (ty := .int) rfl (by rfl) (by decide +kernel) (k _ _ h)
  · have h := h.1 (qi_ne_f rfl (by decide) h1)
    refine z_bipush (i := (-3)) (v := (-3)) (pc' := 39) ⟨by decide +kernel, rfl⟩ (by decide) ?_
    exact z_iret (ty := .int) rfl (by rfl) (by decide +kernel) (k _ _ h)
noncomputable def W_M_thing (a1 : Int32) (a2 : Int32) (σ : zS) (Q : Int32 → zS → Prop) : Prop := W_M_begins  σ (fun _ σ1 => W_M_isHere a1 σ1 (fun v2 σ2 => ((Int32.toInt v2) = 0 → (Q (-1) σ2)) ∧ (¬ (Int32.toInt v2) = 0 → (((Int32.toInt a2) = (-4) → (W_M_thing_b28  a1 a2 σ2 Q)) ∧ (¬ (Int32.toInt a2) = (-4) → (W_M_isPerson a2 σ2 (fun v5 σ5 => ((Int32.toInt v5) = 0 → (Q (-1) σ5)) ∧ (¬ (Int32.toInt v5) = 0 → (W_M_thing_b28  a1 a2 σ5 Q)))))))))
theorem sF_M_thing {E : xV} {σ : zS} {K : zKt} {a1 : Int32} {a2 : Int32} {Q : Int32 → zS → Prop} (h : W_M_thing a1 a2 σ Q) (k : ∀ v s, Q v s → K (some (.int v)) s) : Cz E Y_M_thing [.ref 110, .int a1, .int a2] σ K := by
  refine z_entry (by decide) (fun a => by rw [sl_len]; exact Nat.le_of_ble_eq_true rfl) rfl ?_
  unfold W_M_thing at h
  refine z_aload_n (f := 0) (i := 0) (q := 0) (pc' := 1) ⟨by decide +kernel, rfl⟩ rfl rfl ?_
  refine w_invV (Z := Y_M_begins) (idx := 476) (kb := 110) (As := []) (rest := []) (pc' := 4) cl_13_476 rfl ⟨rfl, rfl⟩ ykfa_110_0 rfl ⟨⟨by decide, by decide⟩, rfl, rfl⟩ ⟨by decide +kernel, rfl⟩ rfl rfl (Nat.le_of_ble_eq_true rfl) rfl rfl ?_
  refine sF_M_begins h (fun _ σ1 h => ?_)
  show Wz E Y_M_thing 4 [(0, .ref 110), (1, .int a1), (2, .int a2)] [] σ1 K
  refine z_aload_n (f := 0) (i := 0) (q := 0) (pc' := 5) ⟨by decide +kernel, rfl⟩ rfl rfl ?_
  refine z_iload_n (f := 1) (i := 1) (q := 1) (pc' := 6) ⟨by decide +kernel, rfl⟩ rfl rfl ?_
  refine w_invV (Z := Y_M_isHere) (idx := 479) (kb := 110) (As := [.int a1]) (rest := []) (pc' := 9) cl_13_479 rfl ⟨rfl, rfl⟩ ykfa_110_0 rfl ⟨⟨by decide, by decide⟩, rfl, rfl⟩ ⟨by decide +kernel, rfl⟩ rfl rfl (Nat.le_of_ble_eq_true rfl) rfl rfl ?_
  refine sF_M_isHere h (fun v2 σ2 h => ?_)
  show Wz E Y_M_thing 9 [(0, .ref 110), (1, .int a1), (2, .int a2)] [.int v2] σ2 K
  refine z_if_eq (off := 17) (tgt := 26) (pc' := 12) ⟨by decide +kernel, by decide, rfl⟩ (fun h3 => ?_) (fun h3 => ?_)
  · have h := h.1 (qi_eq_t rfl (by decide) h3)
    refine z_iconst (i := (-1)) (v := (-1)) (pc' := 27) ⟨by decide +kernel, rfl⟩ (by decide) ?_
    exact z_iret (ty := .int) rfl (by rfl) (by decide +kernel) (k _ _ h)
  · have h := h.2 (qi_eq_f rfl (by decide) h3)
    refine z_iload_n (f := 2) (i := 2) (q := 2) (pc' := 13) ⟨by decide +kernel, rfl⟩ rfl rfl ?_
    refine z_bipush (i := (-4)) (v := (-4)) (pc' := 15) ⟨by decide +kernel, rfl⟩ (by decide) ?_
    refine z_icmp_eq (off := 13) (tgt := 28) (pc' := 18) ⟨by decide +kernel, by decide, rfl⟩ (fun h4 => ?_) (fun h4 => ?_)
    · have h := h.1 (qi_eq_t rfl (by decide) h4)
      refine z_sub [0, 1, 2] rfl ?_
      exact sb_M_thing_28  k h
    · have h := h.2 (qi_eq_f rfl (by decide) h4)
      refine z_aload_n (f := 0) (i := 0) (q := 0) (pc' := 19) ⟨by decide +kernel, rfl⟩ rfl rfl ?_
      refine z_iload_n (f := 2) (i := 2) (q := 2) (pc' := 20) ⟨by decide +kernel, rfl⟩ rfl rfl ?_
      refine w_invV (Z := Y_M_isPerson) (idx := 444) (kb := 110) (As := [.int a2]) (rest := []) (pc' := 23) cl_13_444 rfl ⟨rfl, rfl⟩ ykfa_110_0 rfl ⟨⟨by decide, by decide⟩, rfl, rfl⟩ ⟨by decide +kernel, rfl⟩ rfl rfl (Nat.le_of_ble_eq_true rfl) rfl rfl ?_
      refine sF_M_isPerson h (fun v5 σ5 h => ?_)
      show Wz E Y_M_thing 23 [(0, .ref 110), (1, .int a1), (2, .int a2)] [.int v5] σ5 K
      refine z_if_ne (off := 5) (tgt := 28) (pc' := 26) ⟨by decide +kernel, by decide, rfl⟩ (fun h6 => ?_) (fun h6 => ?_)
      · have h := h.2 (qi_ne_t rfl (by decide) h6)
        refine z_sub [0, 1, 2] rfl ?_
        exact sb_M_thing_28  k h
      · have h := h.1 (qi_ne_f rfl (by decide) h6)
        refine z_iconst (i := (-1)) (v := (-1)) (pc' := 27) ⟨by decide +kernel, rfl⟩ (by decide) ?_
        exact z_iret (ty := .int) rfl (by rfl) (by decide +kernel) (k _ _ h)
noncomputable def WB_M_move_28 (F28 : Int32 → Int32 → Int32 → zS → (Int32 → zS → Prop) → Prop) (x1 : Int32) (x2 : Int32) (x3 : Int32) (σ : zS) (Q : Int32 → zS → Prop) : Prop := ((Int32.toInt x3) = (-4) → (∃ n2 : Nat, Int32.toInt x1 = (n2 : Int) ∧ n2 < 40 ∧ (∀ σ3 : zS, zI σ 125 n2 x2 = σ3 → (Q 1 σ3)))) ∧ (¬ (Int32.toInt x3) = (-4) → (((Int32.toInt x3) = (Int32.toInt x1) → (Q (-2) σ)) ∧ (¬ (Int32.toInt x3) = (Int32.toInt x1) → (∃ n5 : Nat, Int32.toInt x3 = (n5 : Int) ∧ n5 < 40 ∧ (F28 x1 x2 (σ.1 125 n5) σ Q)))))
theorem sh_M_move_28 {E : xV} {σ : zS} {K : zKt} {F28 : Int32 → Int32 → Int32 → zS → (Int32 → zS → Prop) → Prop} {x1 : Int32} {x2 : Int32} {x3 : Int32} {Q : Int32 → zS → Prop} (f28 : ∀ (x1 : Int32) (x2 : Int32) (x3 : Int32) (σ : zS), F28 x1 x2 x3 σ Q → Wz E Y_M_move 28 [(0, .ref 110), (1, .int x1), (2, .int x2), (3, .int x3)] [] σ K) (k : ∀ v s, Q v s → K (some (.int v)) s) (h : WB_M_move_28 F28 x1 x2 x3 σ Q) : Wz E Y_M_move 28 [(0, .ref 110), (1, .int x1), (2, .int x2), (3, .int x3)] [] σ K := by
  unfold WB_M_move_28 at h
  refine z_iload_n (f := 3) (i := 3) (q := 3) (pc' := 29) ⟨by decide +kernel, rfl⟩ rfl rfl ?_
  refine z_bipush (i := (-4)) (v := (-4)) (pc' := 31) ⟨by decide +kernel, rfl⟩ (by decide) ?_
  refine z_icmp_eq (off := 21) (tgt := 52) (pc' := 34) ⟨by decide +kernel, by decide, rfl⟩ (fun h1 => ?_) (fun h1 => ?_)
  · have h := h.1 (qi_eq_t rfl (by decide) h1)
    refine z_aload_n (f := 0) (i := 0) (q := 0) (pc' := 53) ⟨by decide +kernel, rfl⟩ rfl rfl ?_
    refine w_getr (k := 110) (j := 21) (idx := 58) (pc' := 56) yfxe_13_58 ykfa_110_21 ⟨by decide +kernel, rfl⟩ ?_
    refine z_iload_n (f := 1) (i := 1) (q := 1) (pc' := 57) ⟨by decide +kernel, rfl⟩ rfl rfl ?_
    refine z_iload_n (f := 2) (i := 2) (q := 2) (pc' := 58) ⟨by decide +kernel, rfl⟩ rfl rfl ?_
    obtain ⟨n2, hi2, hz2, h⟩ := h
    refine w_iast (k := 125) (n := n2) (pc' := 59) ykaa_125 (hi2) (hz2) ⟨by decide +kernel, rfl⟩ ?_
    generalize hs3 : zI σ 125 n2 x2 = σ3
    have h := h σ3 hs3
    refine z_iconst (i := 1) (v := 1) (pc' := 60) ⟨by decide +kernel, rfl⟩ (by decide) ?_
    exact z_iret (ty := .int) rfl (by rfl) (by decide +kernel) (k _ _ h)
  · have h := h.2 (qi_eq_f rfl (by decide) h1)
    refine z_iload_n (f := 3) (i := 3) (q := 3) (pc' := 35) ⟨by decide +kernel, rfl⟩ rfl rfl ?_
    refine z_iload_n (f := 1) (i := 1) (q := 1) (pc' := 36) ⟨by decide +kernel, rfl⟩ rfl rfl ?_
    refine z_icmp_ne (off := 6) (tgt := 42) (pc' := 39) ⟨by decide +kernel, by decide, rfl⟩ (fun h4 => ?_) (fun h4 => ?_)
    · have h := h.2 (qi_ne_t rfl rfl h4)
      refine z_aload_n (f := 0) (i := 0) (q := 0) (pc' := 43) ⟨by decide +kernel, rfl⟩ rfl rfl ?_
      refine w_getr (k := 110) (j := 21) (idx := 58) (pc' := 46) yfxe_13_58 ykfa_110_21 ⟨by decide +kernel, rfl⟩ ?_
      refine z_iload_n (f := 3) (i := 3) (q := 3) (pc' := 47) ⟨by decide +kernel, rfl⟩ rfl rfl ?_
      obtain ⟨n5, hi5, hz5, h⟩ := h
      refine w_iald (k := 125) (n := n5) (pc' := 48) ykaa_125 (hi5) (hz5) ⟨by decide +kernel, rfl⟩ ?_
      refine z_istore_n (f := 3) (i := 3) (pc' := 49) ⟨by decide +kernel, rfl⟩ rfl (by decide) rfl ?_
      show Wz E Y_M_move 49 [(3, .int (σ.1 125 n5)), (0, .ref 110), (1, .int x1), (2, .int x2)] [] σ K
      refine z_goto (off := (-21)) (tgt := 28) (pc' := 52) ⟨by decide +kernel, by decide, rfl⟩ ?_
      refine z_sub [1, 2, 3, 0] rfl ?_
      exact f28 _ _ _ _ h
    · have h := h.1 (qi_ne_f rfl rfl h4)
      refine z_bipush (i := (-2)) (v := (-2)) (pc' := 41) ⟨by decide +kernel, rfl⟩ (by decide) ?_
      exact z_iret (ty := .int) rfl (by rfl) (by decide +kernel) (k _ _ h)
noncomputable def WL_M_move : Nat → (Int32 → Int32 → Int32 → zS → (Int32 → zS → Prop) → Prop)
  | 0 => fun _ _ _ _ _ => False
  | n + 1 => WB_M_move_28 (WL_M_move n)
theorem wl_M_move_28 {n : Nat} {x1 : Int32} {x2 : Int32} {x3 : Int32} {σ : zS} {Q : Int32 → zS → Prop} (h : WB_M_move_28 (WL_M_move n) x1 x2 x3 σ Q) : (WL_M_move (n + 1)) x1 x2 x3 σ Q := h
theorem sl_M_move {E : xV} {K : zKt} {Q : Int32 → zS → Prop} (k : ∀ v s, Q v s → K (some (.int v)) s) : ∀ n, (∀ (x1 : Int32) (x2 : Int32) (x3 : Int32) (σ : zS), (WL_M_move n) x1 x2 x3 σ Q → Wz E Y_M_move 28 [(0, .ref 110), (1, .int x1), (2, .int x2), (3, .int x3)] [] σ K)
  | 0 => fun _ _ _ _ h => h.elim
  | n + 1 => by
    have i := sl_M_move (E := E)  k n
    exact fun _ _ _ _ h => sh_M_move_28 i k h
noncomputable def W_M_move (a1 : Int32) (a2 : Int32) (σ : zS) (Q : Int32 → zS → Prop) : Prop := W_M_begins  σ (fun _ σ1 => W_M_isHere a1 σ1 (fun v2 σ2 => ((Int32.toInt v2) = 0 → (Q (-1) σ2)) ∧ (¬ (Int32.toInt v2) = 0 → (((Int32.toInt a1) = 0 → (Q (-1) σ2)) ∧ (¬ (Int32.toInt a1) = 0 → (W_M_isHere a2 σ2 (fun v5 σ5 => ((Int32.toInt v5) = 0 → (Q (-1) σ5)) ∧ (¬ (Int32.toInt v5) = 0 → ((WL_M_move fuF) a1 a2 a2 σ5 Q)))))))))
theorem sF_M_move {E : xV} {σ : zS} {K : zKt} {a1 : Int32} {a2 : Int32} {Q : Int32 → zS → Prop} (h : W_M_move a1 a2 σ Q) (k : ∀ v s, Q v s → K (some (.int v)) s) : Cz E Y_M_move [.ref 110, .int a1, .int a2] σ K := by
  refine z_entry (by decide) (fun a => by rw [sl_len]; exact Nat.le_of_ble_eq_true rfl) rfl ?_
  unfold W_M_move at h
  refine z_aload_n (f := 0) (i := 0) (q := 0) (pc' := 1) ⟨by decide +kernel, rfl⟩ rfl rfl ?_
  refine w_invV (Z := Y_M_begins) (idx := 476) (kb := 110) (As := []) (rest := []) (pc' := 4) cl_13_476 rfl ⟨rfl, rfl⟩ ykfa_110_0 rfl ⟨⟨by decide, by decide⟩, rfl, rfl⟩ ⟨by decide +kernel, rfl⟩ rfl rfl (Nat.le_of_ble_eq_true rfl) rfl rfl ?_
  refine sF_M_begins h (fun _ σ1 h => ?_)
  show Wz E Y_M_move 4 [(0, .ref 110), (1, .int a1), (2, .int a2)] [] σ1 K
  refine z_aload_n (f := 0) (i := 0) (q := 0) (pc' := 5) ⟨by decide +kernel, rfl⟩ rfl rfl ?_
  refine z_iload_n (f := 1) (i := 1) (q := 1) (pc' := 6) ⟨by decide +kernel, rfl⟩ rfl rfl ?_
  refine w_invV (Z := Y_M_isHere) (idx := 479) (kb := 110) (As := [.int a1]) (rest := []) (pc' := 9) cl_13_479 rfl ⟨rfl, rfl⟩ ykfa_110_0 rfl ⟨⟨by decide, by decide⟩, rfl, rfl⟩ ⟨by decide +kernel, rfl⟩ rfl rfl (Nat.le_of_ble_eq_true rfl) rfl rfl ?_
  refine sF_M_isHere h (fun v2 σ2 h => ?_)
  show Wz E Y_M_move 9 [(0, .ref 110), (1, .int a1), (2, .int a2)] [.int v2] σ2 K
  refine z_if_eq (off := 15) (tgt := 24) (pc' := 12) ⟨by decide +kernel, by decide, rfl⟩ (fun h3 => ?_) (fun h3 => ?_)
  · have h := h.1 (qi_eq_t rfl (by decide) h3)
    refine z_iconst (i := (-1)) (v := (-1)) (pc' := 25) ⟨by decide +kernel, rfl⟩ (by decide) ?_
    exact z_iret (ty := .int) rfl (by rfl) (by decide +kernel) (k _ _ h)
  · have h := h.2 (qi_eq_f rfl (by decide) h3)
    refine z_iload_n (f := 1) (i := 1) (q := 1) (pc' := 13) ⟨by decide +kernel, rfl⟩ rfl rfl ?_
    refine z_if_eq (off := 11) (tgt := 24) (pc' := 16) ⟨by decide +kernel, by decide, rfl⟩ (fun h4 => ?_) (fun h4 => ?_)
    · have h := h.1 (qi_eq_t rfl (by decide) h4)
      refine z_iconst (i := (-1)) (v := (-1)) (pc' := 25) ⟨by decide +kernel, rfl⟩ (by decide) ?_
      exact z_iret (ty := .int) rfl (by rfl) (by decide +kernel) (k _ _ h)
    · have h := h.2 (qi_eq_f rfl (by decide) h4)
      refine z_aload_n (f := 0) (i := 0) (q := 0) (pc' := 17) ⟨by decide +kernel, rfl⟩ rfl rfl ?_
      refine z_iload_n (f := 2) (i := 2) (q := 2) (pc' := 18) ⟨by decide +kernel, rfl⟩ rfl rfl ?_
      refine w_invV (Z := Y_M_isHere) (idx := 479) (kb := 110) (As := [.int a2]) (rest := []) (pc' := 21) cl_13_479 rfl ⟨rfl, rfl⟩ ykfa_110_0 rfl ⟨⟨by decide, by decide⟩, rfl, rfl⟩ ⟨by decide +kernel, rfl⟩ rfl rfl (Nat.le_of_ble_eq_true rfl) rfl rfl ?_
      refine sF_M_isHere h (fun v5 σ5 h => ?_)
      show Wz E Y_M_move 21 [(0, .ref 110), (1, .int a1), (2, .int a2)] [.int v5] σ5 K
      refine z_if_ne (off := 5) (tgt := 26) (pc' := 24) ⟨by decide +kernel, by decide, rfl⟩ (fun h6 => ?_) (fun h6 => ?_)
      · have h := h.2 (qi_ne_t rfl (by decide) h6)
        refine z_iload_n (f := 2) (i := 2) (q := 2) (pc' := 27) ⟨by decide +kernel, rfl⟩ rfl rfl ?_
        refine z_istore_n (f := 3) (i := 3) (pc' := 28) ⟨by decide +kernel, rfl⟩ rfl (by decide) rfl ?_
        show Wz E Y_M_move 28 [(3, .int a2), (0, .ref 110), (1, .int a1), (2, .int a2)] [] σ5 K
        refine z_sub [1, 2, 3, 0] rfl ?_
        exact (sl_M_move k fuF) _ _ _ _ h
      · have h := h.1 (qi_ne_f rfl (by decide) h6)
        refine z_iconst (i := (-1)) (v := (-1)) (pc' := 25) ⟨by decide +kernel, rfl⟩ (by decide) ?_
        exact z_iret (ty := .int) rfl (by rfl) (by decide +kernel) (k _ _ h)
noncomputable def W_M_cutOff (a1 : Int32) (a2 : Int32) (σ : zS) (Q : Int32 → zS → Prop) : Prop := W_M_isHere a1 σ (fun v1 σ1 => ((Int32.toInt v1) = 0 → (Q (-1) σ1)) ∧ (¬ (Int32.toInt v1) = 0 → (∃ n3 : Nat, Int32.toInt a1 = (n3 : Int) ∧ n3 < 40 ∧ (((Int32.toInt (σ1.1 127 n3)) = (Int32.toInt a2) → ((a2 = 0 ∨ a2 = 1) ∧ (∀ σ8 : zS, zI σ1 127 n3 a2 = σ8 → (Q 0 σ8)))) ∧ (¬ (Int32.toInt (σ1.1 127 n3)) = (Int32.toInt a2) → ((a2 = 0 ∨ a2 = 1) ∧ (∀ σ6 : zS, zI σ1 127 n3 a2 = σ6 → (Q 1 σ6))))))))
noncomputable def WB_M_drop_20 (F20 : Int32 → Int32 → zS → (Int32 → zS → Prop) → Prop) (x1 : Int32) (x2 : Int32) (σ : zS) (Q : Int32 → zS → Prop) : Prop := ((Int32.toInt (σ.1 110 20)) ≤ (Int32.toInt x2) → (∃ n2 : Nat, Int32.toInt x1 = (n2 : Int) ∧ n2 < 40 ∧ (∀ σ3 : zS, zI σ 128 n2 1 = σ3 → (Q 1 σ3)))) ∧ (¬ (Int32.toInt (σ.1 110 20)) ≤ (Int32.toInt x2) → (∃ n4 : Nat, Int32.toInt x2 = (n4 : Int) ∧ n4 < 40 ∧ (((Int32.toInt (σ.1 125 n4)) = (Int32.toInt x1) → (((Int32.toInt (σ.1 128 n4)) = 0 → (Q (-2) σ)) ∧ (¬ (Int32.toInt (σ.1 128 n4)) = 0 → ((-2147483648 ≤ (Int32.toInt x2) + 1 ∧ (Int32.toInt x2) + 1 ≤ 2147483647) ∧ ∀ r8 : Int32, r8.toInt = (Int32.toInt x2) + 1 → (F20 x1 r8 σ Q))))) ∧ (¬ (Int32.toInt (σ.1 125 n4)) = (Int32.toInt x1) → ((-2147483648 ≤ (Int32.toInt x2) + 1 ∧ (Int32.toInt x2) + 1 ≤ 2147483647) ∧ ∀ r6 : Int32, r6.toInt = (Int32.toInt x2) + 1 → (F20 x1 r6 σ Q))))))
theorem sh_M_drop_20 {E : xV} {σ : zS} {K : zKt} {F20 : Int32 → Int32 → zS → (Int32 → zS → Prop) → Prop} {x1 : Int32} {x2 : Int32} {Q : Int32 → zS → Prop} (f20 : ∀ (x1 : Int32) (x2 : Int32) (σ : zS), F20 x1 x2 σ Q → Wz E Y_M_drop 20 [(0, .ref 110), (1, .int x1), (2, .int x2)] [] σ K) (k : ∀ v s, Q v s → K (some (.int v)) s) (h : WB_M_drop_20 F20 x1 x2 σ Q) : Wz E Y_M_drop 20 [(0, .ref 110), (1, .int x1), (2, .int x2)] [] σ K := by
  unfold WB_M_drop_20 at h
  refine z_iload_n (f := 2) (i := 2) (q := 2) (pc' := 21) ⟨by decide +kernel, rfl⟩ rfl rfl ?_
  refine z_aload_n (f := 0) (i := 0) (q := 0) (pc' := 22) ⟨by decide +kernel, rfl⟩ rfl rfl ?_
  refine w_geti (k := 110) (j := 20) (idx := 54) (pc' := 25) yfxe_13_54 ykfa_110_20 ⟨by decide +kernel, rfl⟩ ?_
  refine z_icmp_ge (off := 31) (tgt := 56) (pc' := 28) ⟨by decide +kernel, by decide, rfl⟩ (fun h1 => ?_) (fun h1 => ?_)
  · have h := h.1 (qi_ge_t rfl rfl h1)
    refine z_aload_n (f := 0) (i := 0) (q := 0) (pc' := 57) ⟨by decide +kernel, rfl⟩ rfl rfl ?_
    refine w_getr (k := 110) (j := 24) (idx := 67) (pc' := 60) yfxe_13_67 ykfa_110_24 ⟨by decide +kernel, rfl⟩ ?_
    refine z_iload_n (f := 1) (i := 1) (q := 1) (pc' := 61) ⟨by decide +kernel, rfl⟩ rfl rfl ?_
    refine z_iconst (i := 1) (v := 1) (pc' := 62) ⟨by decide +kernel, rfl⟩ (by decide) ?_
    obtain ⟨n2, hi2, hz2, h⟩ := h
    refine w_zast (k := 128) (n := n2) (pc' := 63) ykaa_128 (hi2) (hz2) (by decide) ⟨by decide +kernel, rfl⟩ ?_
    generalize hs3 : zI σ 128 n2 1 = σ3
    have h := h σ3 hs3
    refine z_iconst (i := 1) (v := 1) (pc' := 64) ⟨by decide +kernel, rfl⟩ (by decide) ?_
    exact z_iret (ty := .int) rfl (by rfl) (by decide +kernel) (k _ _ h)
  · have h := h.2 (qi_ge_f rfl rfl h1)
    refine z_aload_n (f := 0) (i := 0) (q := 0) (pc' := 29) ⟨by decide +kernel, rfl⟩ rfl rfl ?_
    refine w_getr (k := 110) (j := 21) (idx := 58) (pc' := 32) yfxe_13_58 ykfa_110_21 ⟨by decide +kernel, rfl⟩ ?_
    refine z_iload_n (f := 2) (i := 2) (q := 2) (pc' := 33) ⟨by decide +kernel, rfl⟩ rfl rfl ?_
    obtain ⟨n4, hi4, hz4, h⟩ := h
    refine w_iald (k := 125) (n := n4) (pc' := 34) ykaa_125 (hi4) (hz4) ⟨by decide +kernel, rfl⟩ ?_
    refine z_iload_n (f := 1) (i := 1) (q := 1) (pc' := 35) ⟨by decide +kernel, rfl⟩ rfl rfl ?_
    refine z_icmp_ne (off := 15) (tgt := 50) (pc' := 38) ⟨by decide +kernel, by decide, rfl⟩ (fun h5 => ?_) (fun h5 => ?_)
    · have h := h.2 (qi_ne_t rfl rfl h5)
      refine z_iinc (i := 2) (z := 1) (q := 2) (pc' := 53) ⟨by decide +kernel, rfl⟩ rfl rfl (by decide) rfl ?_
      show Wz E Y_M_drop 53 [(2, .int (x2 + Int32.ofInt 1)), (0, .ref 110), (1, .int x1)] [] σ K
      obtain ⟨hb6, h⟩ := h
      have h := h (x2 + Int32.ofInt 1) (ia_ok rfl (by decide) hb6)
      generalize (x2 + Int32.ofInt 1) = r6 at h ⊢
      refine z_goto (off := (-33)) (tgt := 20) (pc' := 56) ⟨by decide +kernel, by decide, rfl⟩ ?_
      refine z_sub [1, 2, 0] rfl ?_
      exact f20 _ _ _ h
    · have h := h.1 (qi_ne_f rfl rfl h5)
      refine z_aload_n (f := 0) (i := 0) (q := 0) (pc' := 39) ⟨by decide +kernel, rfl⟩ rfl rfl ?_
      refine w_getr (k := 110) (j := 24) (idx := 67) (pc' := 42) yfxe_13_67 ykfa_110_24 ⟨by decide +kernel, rfl⟩ ?_
      refine z_iload_n (f := 2) (i := 2) (q := 2) (pc' := 43) ⟨by decide +kernel, rfl⟩ rfl rfl ?_
      refine w_zald (k := 128) (n := n4) (pc' := 44) ykaa_128 (hi4) (hz4) ⟨by decide +kernel, rfl⟩ ?_
      refine z_if_ne (off := 6) (tgt := 50) (pc' := 47) ⟨by decide +kernel, by decide, rfl⟩ (fun h7 => ?_) (fun h7 => ?_)
      · have h := h.2 (qi_ne_t rfl (by decide) h7)
        refine z_iinc (i := 2) (z := 1) (q := 2) (pc' := 53) ⟨by decide +kernel, rfl⟩ rfl rfl (by decide) rfl ?_
        show Wz E Y_M_drop 53 [(2, .int (x2 + Int32.ofInt 1)), (0, .ref 110), (1, .int x1)] [] σ K
        obtain ⟨hb8, h⟩ := h
        have h := h (x2 + Int32.ofInt 1) (ia_ok rfl (by decide) hb8)
        generalize (x2 + Int32.ofInt 1) = r8 at h ⊢
        refine z_goto (off := (-33)) (tgt := 20) (pc' := 56) ⟨by decide +kernel, by decide, rfl⟩ ?_
        refine z_sub [1, 2, 0] rfl ?_
        exact f20 _ _ _ h
      · have h := h.1 (qi_ne_f rfl (by decide) h7)
        refine z_bipush (i := (-2)) (v := (-2)) (pc' := 49) ⟨by decide +kernel, rfl⟩ (by decide) ?_
        exact z_iret (ty := .int) rfl (by rfl) (by decide +kernel) (k _ _ h)
noncomputable def WL_M_drop : Nat → (Int32 → Int32 → zS → (Int32 → zS → Prop) → Prop)
  | 0 => fun _ _ _ _ => False
  | n + 1 => WB_M_drop_20 (WL_M_drop n)
theorem wl_M_drop_20 {n : Nat} {x1 : Int32} {x2 : Int32} {σ : zS} {Q : Int32 → zS → Prop} (h : WB_M_drop_20 (WL_M_drop n) x1 x2 σ Q) : (WL_M_drop (n + 1)) x1 x2 σ Q := h
theorem sl_M_drop {E : xV} {K : zKt} {Q : Int32 → zS → Prop} (k : ∀ v s, Q v s → K (some (.int v)) s) : ∀ n, (∀ (x1 : Int32) (x2 : Int32) (σ : zS), (WL_M_drop n) x1 x2 σ Q → Wz E Y_M_drop 20 [(0, .ref 110), (1, .int x1), (2, .int x2)] [] σ K)
  | 0 => fun _ _ _ h => h.elim
  | n + 1 => by
    have i := sl_M_drop (E := E)  k n
    exact fun _ _ _ h => sh_M_drop_20 i k h
noncomputable def W_M_drop (a1 : Int32) (σ : zS) (Q : Int32 → zS → Prop) : Prop := W_M_begins  σ (fun _ σ1 => W_M_isHere a1 σ1 (fun v2 σ2 => ((Int32.toInt v2) = 0 → (Q (-1) σ2)) ∧ (¬ (Int32.toInt v2) = 0 → (((Int32.toInt a1) = 0 → (Q (-1) σ2)) ∧ (¬ (Int32.toInt a1) = 0 → ((WL_M_drop fuF) a1 1 σ2 Q))))))
theorem sF_M_drop {E : xV} {σ : zS} {K : zKt} {a1 : Int32} {Q : Int32 → zS → Prop} (h : W_M_drop a1 σ Q) (k : ∀ v s, Q v s → K (some (.int v)) s) : Cz E Y_M_drop [.ref 110, .int a1] σ K := by
  refine z_entry (by decide) (fun a => by rw [sl_len]; exact Nat.le_of_ble_eq_true rfl) rfl ?_
  unfold W_M_drop at h
  refine z_aload_n (f := 0) (i := 0) (q := 0) (pc' := 1) ⟨by decide +kernel, rfl⟩ rfl rfl ?_
  refine w_invV (Z := Y_M_begins) (idx := 476) (kb := 110) (As := []) (rest := []) (pc' := 4) cl_13_476 rfl ⟨rfl, rfl⟩ ykfa_110_0 rfl ⟨⟨by decide, by decide⟩, rfl, rfl⟩ ⟨by decide +kernel, rfl⟩ rfl rfl (Nat.le_of_ble_eq_true rfl) rfl rfl ?_
  refine sF_M_begins h (fun _ σ1 h => ?_)
  show Wz E Y_M_drop 4 [(0, .ref 110), (1, .int a1)] [] σ1 K
  refine z_aload_n (f := 0) (i := 0) (q := 0) (pc' := 5) ⟨by decide +kernel, rfl⟩ rfl rfl ?_
  refine z_iload_n (f := 1) (i := 1) (q := 1) (pc' := 6) ⟨by decide +kernel, rfl⟩ rfl rfl ?_
  refine w_invV (Z := Y_M_isHere) (idx := 479) (kb := 110) (As := [.int a1]) (rest := []) (pc' := 9) cl_13_479 rfl ⟨rfl, rfl⟩ ykfa_110_0 rfl ⟨⟨by decide, by decide⟩, rfl, rfl⟩ ⟨by decide +kernel, rfl⟩ rfl rfl (Nat.le_of_ble_eq_true rfl) rfl rfl ?_
  refine sF_M_isHere h (fun v2 σ2 h => ?_)
  show Wz E Y_M_drop 9 [(0, .ref 110), (1, .int a1)] [.int v2] σ2 K
  refine z_if_eq (off := 7) (tgt := 16) (pc' := 12) ⟨by decide +kernel, by decide, rfl⟩ (fun h3 => ?_) (fun h3 => ?_)
  · have h := h.1 (qi_eq_t rfl (by decide) h3)
    refine z_iconst (i := (-1)) (v := (-1)) (pc' := 17) ⟨by decide +kernel, rfl⟩ (by decide) ?_
    exact z_iret (ty := .int) rfl (by rfl) (by decide +kernel) (k _ _ h)
  · have h := h.2 (qi_eq_f rfl (by decide) h3)
    refine z_iload_n (f := 1) (i := 1) (q := 1) (pc' := 13) ⟨by decide +kernel, rfl⟩ rfl rfl ?_
    refine z_if_ne (off := 5) (tgt := 18) (pc' := 16) ⟨by decide +kernel, by decide, rfl⟩ (fun h4 => ?_) (fun h4 => ?_)
    · have h := h.2 (qi_ne_t rfl (by decide) h4)
      refine z_iconst (i := 1) (v := 1) (pc' := 19) ⟨by decide +kernel, rfl⟩ (by decide) ?_
      refine z_istore_n (f := 2) (i := 2) (pc' := 20) ⟨by decide +kernel, rfl⟩ rfl (by decide) rfl ?_
      show Wz E Y_M_drop 20 [(2, .int 1), (0, .ref 110), (1, .int a1)] [] σ2 K
      refine z_sub [1, 2, 0] rfl ?_
      exact (sl_M_drop k fuF) _ _ _ h
    · have h := h.1 (qi_ne_f rfl (by decide) h4)
      refine z_iconst (i := (-1)) (v := (-1)) (pc' := 17) ⟨by decide +kernel, rfl⟩ (by decide) ?_
      exact z_iret (ty := .int) rfl (by rfl) (by decide +kernel) (k _ _ h)

end
end
