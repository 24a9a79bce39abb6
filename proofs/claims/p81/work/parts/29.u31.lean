section
noncomputable def W_Po_readProduct_b76 (G : Nat → Int32 → zS → (Int32 → zS → Prop) → Prop) (F12 : Int32 → Int32 → zS → (Int32 → zS → Prop) → Prop) (x1 : Int32) (x2 : Int32) (y0 : Int32) (σ : zS) (Q : Int32 → zS → Prop) : Prop := (-2147483648 ≤ (Int32.toInt (σ.1 17 14)) + 1 ∧ (Int32.toInt (σ.1 17 14)) + 1 ≤ 2147483647) ∧ ∀ r1 : Int32, r1.toInt = (Int32.toInt (σ.1 17 14)) + 1 → (∀ σ2 : zS, zI σ 17 14 r1 = σ2 → (G 0 x1 σ2 (fun v3 σ3 => ((Int32.toInt v3) = 0 → (Q 0 σ3)) ∧ (¬ (Int32.toInt v3) = 0 → (W_Po_emit y0 0 σ3 (fun _ σ5 => (-2147483648 ≤ (Int32.toInt x2) + 1 ∧ (Int32.toInt x2) + 1 ≤ 2147483647) ∧ ∀ r6 : Int32, r6.toInt = (Int32.toInt x2) + 1 → (F12 x1 r6 σ5 Q)))))))
theorem sb_Po_readProduct_76 {E : xV} {R : Nat} {σ : zS} {K : zKt} {G : Nat → Int32 → zS → (Int32 → zS → Prop) → Prop} {F12 : Int32 → Int32 → zS → (Int32 → zS → Prop) → Prop} {x1 : Int32} {x2 : Int32} {y0 : Int32} {Q : Int32 → zS → Prop} (g : ∀ (m : Nat) (d : Int32) (σ : zS) (Q : Int32 → zS → Prop) (K : zKt), G m d σ Q → (∀ v s, Q v s → K (some (.int v)) s) → Cz E (withR (Ypo m) (rmN R)) [.ref 17, .int d] σ K) (f12 : ∀ (x1 : Int32) (x2 : Int32) (σ : zS), F12 x1 x2 σ Q → Wz E (withR Y_Po_readProduct (rmN (R + 1))) 12 [(0, .ref 17), (1, .int x1), (2, .int x2)] [] σ K) (k : ∀ v s, Q v s → K (some (.int v)) s) (h : W_Po_readProduct_b76 G F12 x1 x2 y0 σ Q) : Wz E (withR Y_Po_readProduct (rmN (R + 1))) 76 [(0, .ref 17), (1, .int x1), (2, .int x2)] [.int y0] σ K := by
  unfold W_Po_readProduct_b76 at h
  refine z_istore_n (f := 3) (i := 3) (pc' := 77) ⟨wR (by decide +kernel), rfl⟩ rfl (wQ (by decide)) rfl ?_
  show Wz E (withR Y_Po_readProduct (rmN (R + 1))) 77 [(3, .int y0), (0, .ref 17), (1, .int x1), (2, .int x2)] [] σ K
  refine z_aload_n (f := 0) (i := 0) (q := 1) (pc' := 78) ⟨wR (by decide +kernel), rfl⟩ rfl rfl ?_
  refine z_dupr (pc' := 79) ⟨wR (by decide +kernel), rfl⟩ ?_
  refine w_geti (k := 17) (j := 14) (idx := 63) (pc' := 82) yfxe_7_63 ykfa_17_14 ⟨wR (by decide +kernel), rfl⟩ ?_
  refine z_iconst (i := 1) (v := 1) (pc' := 83) ⟨wR (by decide +kernel), rfl⟩ (by decide) ?_
  refine z_iadd (pc' := 84) ⟨wR (by decide +kernel), rfl⟩ ?_
  obtain ⟨hb1, h⟩ := h
  have h := h ((σ.1 17 14) + 1) (ia_ok rfl (by decide) hb1)
  generalize ((σ.1 17 14) + 1) = r1 at h ⊢
  refine w_puti (k := 17) (j := 14) (idx := 63) (pc' := 87) yfxi_7_63 ykfa_17_14 ⟨wR (by decide +kernel), rfl⟩ ?_
  generalize hs2 : zI σ 17 14 r1 = σ2
  have h := h σ2 hs2
  refine z_aload_n (f := 0) (i := 0) (q := 1) (pc' := 88) ⟨wR (by decide +kernel), rfl⟩ rfl rfl ?_
  refine z_iload_n (f := 1) (i := 1) (q := 2) (pc' := 89) ⟨wR (by decide +kernel), rfl⟩ rfl rfl ?_
  refine w_invVR (Z := Y_Po_readTerm) (idx := 248) (kb := 17) (As := [.int x1]) (rest := []) (pc' := 92) cl_7_248 rfl ⟨rfl, rfl⟩ ykfa_17_0 rfl (rm_i (by decide)) ⟨wR (by decide +kernel), rfl⟩ rfl rfl (Nat.le_of_ble_eq_true rfl) rfl rfl ?_
  refine g 0 _ _ _ _ h (fun v3 σ3 h => ?_)
  show Wz E (withR Y_Po_readProduct (rmN (R + 1))) 92 [(3, .int y0), (0, .ref 17), (1, .int x1), (2, .int x2)] [.int v3] σ3 K
  refine z_if_ne (off := 5) (tgt := 97) (pc' := 95) ⟨wR (by decide +kernel), by decide, rfl⟩ (fun h4 => ?_) (fun h4 => ?_)
  · have h := h.2 (qi_ne_t rfl (by decide) h4)
    refine z_aload_n (f := 0) (i := 0) (q := 1) (pc' := 98) ⟨wR (by decide +kernel), rfl⟩ rfl rfl ?_
    refine z_iload_n (f := 3) (i := 3) (q := 0) (pc' := 99) ⟨wR (by decide +kernel), rfl⟩ rfl rfl ?_
    refine z_lconst (i := 0) (v := 0) (pc' := 100) ⟨wR (by decide +kernel), rfl⟩ (by decide) ?_
    refine w_invV (Z := Y_Po_emit) (idx := 211) (kb := 17) (As := [.int y0, .long 0]) (rest := []) (pc' := 103) cl_7_211 rfl ⟨rfl, rfl⟩ ykfa_17_0 rfl (rm_o (by decide) (by decide) ⟨rfl, rfl⟩) ⟨wR (by decide +kernel), rfl⟩ rfl rfl (Nat.le_of_ble_eq_true rfl) rfl rfl ?_
    refine sF_Po_emit h (fun _ σ5 h => ?_)
    show Wz E (withR Y_Po_readProduct (rmN (R + 1))) 103 [(3, .int y0), (0, .ref 17), (1, .int x1), (2, .int x2)] [] σ5 K
    refine z_iinc (i := 2) (z := 1) (q := 3) (pc' := 106) ⟨wR (by decide +kernel), rfl⟩ rfl rfl (wQ (by decide)) rfl ?_
    show Wz E (withR Y_Po_readProduct (rmN (R + 1))) 106 [(2, .int (x2 + Int32.ofInt 1)), (3, .int y0), (0, .ref 17), (1, .int x1)] [] σ5 K
    obtain ⟨hb6, h⟩ := h
    have h := h (x2 + Int32.ofInt 1) (ia_ok rfl (by decide) hb6)
    generalize (x2 + Int32.ofInt 1) = r6 at h ⊢
    refine z_goto (off := (-94)) (tgt := 12) (pc' := 109) ⟨wR (by decide +kernel), by decide, rfl⟩ ?_
    refine z_sub [2, 3, 0] rfl ?_
    exact f12 _ _ _ h
  · have h := h.1 (qi_ne_f rfl (by decide) h4)
    refine z_iconst (i := 0) (v := 0) (pc' := 96) ⟨wR (by decide +kernel), rfl⟩ (by decide) ?_
    exact z_iret (ty := .boolean) rfl (by rfl) (wR (by decide +kernel)) (k _ _ h)
noncomputable def W_Po_readProduct_b46 (G : Nat → Int32 → zS → (Int32 → zS → Prop) → Prop) (F12 : Int32 → Int32 → zS → (Int32 → zS → Prop) → Prop) (x1 : Int32) (x2 : Int32) (σ : zS) (Q : Int32 → zS → Prop) : Prop := W_Po_isSign 42 σ (fun v1 σ1 => ((Int32.toInt v1) = 0 → (W_Po_isSign 47 σ1 (fun v3 σ3 => ((Int32.toInt v3) = 0 → (W_Po_readProduct_b76 G F12 x1 x2 12 σ3 Q)) ∧ (¬ (Int32.toInt v3) = 0 → (W_Po_readProduct_b76 G F12 x1 x2 11 σ3 Q))))) ∧ (¬ (Int32.toInt v1) = 0 → (W_Po_readProduct_b76 G F12 x1 x2 10 σ1 Q)))
theorem sb_Po_readProduct_46 {E : xV} {R : Nat} {σ : zS} {K : zKt} {G : Nat → Int32 → zS → (Int32 → zS → Prop) → Prop} {F12 : Int32 → Int32 → zS → (Int32 → zS → Prop) → Prop} {x1 : Int32} {x2 : Int32} {Q : Int32 → zS → Prop} (g : ∀ (m : Nat) (d : Int32) (σ : zS) (Q : Int32 → zS → Prop) (K : zKt), G m d σ Q → (∀ v s, Q v s → K (some (.int v)) s) → Cz E (withR (Ypo m) (rmN R)) [.ref 17, .int d] σ K) (f12 : ∀ (x1 : Int32) (x2 : Int32) (σ : zS), F12 x1 x2 σ Q → Wz E (withR Y_Po_readProduct (rmN (R + 1))) 12 [(0, .ref 17), (1, .int x1), (2, .int x2)] [] σ K) (k : ∀ v s, Q v s → K (some (.int v)) s) (h : W_Po_readProduct_b46 G F12 x1 x2 σ Q) : Wz E (withR Y_Po_readProduct (rmN (R + 1))) 46 [(0, .ref 17), (1, .int x1), (2, .int x2)] [] σ K := by
  unfold W_Po_readProduct_b46 at h
  refine z_aload_n (f := 0) (i := 0) (q := 0) (pc' := 47) ⟨wR (by decide +kernel), rfl⟩ rfl rfl ?_
  refine z_bipush (i := 42) (v := 42) (pc' := 49) ⟨wR (by decide +kernel), rfl⟩ (by decide) ?_
  refine w_invV (Z := Y_Po_isSign) (idx := 137) (kb := 17) (As := [.int 42]) (rest := []) (pc' := 52) cl_7_137 rfl ⟨rfl, rfl⟩ ykfa_17_0 rfl (rm_o (by decide) (by decide) ⟨rfl, rfl⟩) ⟨wR (by decide +kernel), rfl⟩ rfl rfl (Nat.le_of_ble_eq_true rfl) rfl rfl ?_
  refine sF_Po_isSign h (fun v1 σ1 h => ?_)
  show Wz E (withR Y_Po_readProduct (rmN (R + 1))) 52 [(0, .ref 17), (1, .int x1), (2, .int x2)] [.int v1] σ1 K
  refine z_if_eq (off := 8) (tgt := 60) (pc' := 55) ⟨wR (by decide +kernel), by decide, rfl⟩ (fun h2 => ?_) (fun h2 => ?_)
  · have h := h.1 (qi_eq_t rfl (by decide) h2)
    refine z_aload_n (f := 0) (i := 0) (q := 0) (pc' := 61) ⟨wR (by decide +kernel), rfl⟩ rfl rfl ?_
    refine z_bipush (i := 47) (v := 47) (pc' := 63) ⟨wR (by decide +kernel), rfl⟩ (by decide) ?_
    refine w_invV (Z := Y_Po_isSign) (idx := 137) (kb := 17) (As := [.int 47]) (rest := []) (pc' := 66) cl_7_137 rfl ⟨rfl, rfl⟩ ykfa_17_0 rfl (rm_o (by decide) (by decide) ⟨rfl, rfl⟩) ⟨wR (by decide +kernel), rfl⟩ rfl rfl (Nat.le_of_ble_eq_true rfl) rfl rfl ?_
    refine sF_Po_isSign h (fun v3 σ3 h => ?_)
    show Wz E (withR Y_Po_readProduct (rmN (R + 1))) 66 [(0, .ref 17), (1, .int x1), (2, .int x2)] [.int v3] σ3 K
    refine z_if_eq (off := 8) (tgt := 74) (pc' := 69) ⟨wR (by decide +kernel), by decide, rfl⟩ (fun h4 => ?_) (fun h4 => ?_)
    · have h := h.1 (qi_eq_t rfl (by decide) h4)
      refine z_bipush (i := 12) (v := 12) (pc' := 76) ⟨wR (by decide +kernel), rfl⟩ (by decide) ?_
      refine z_sub [0, 1, 2] rfl ?_
      exact sb_Po_readProduct_76 g f12 k h
    · have h := h.2 (qi_eq_f rfl (by decide) h4)
      refine z_bipush (i := 11) (v := 11) (pc' := 71) ⟨wR (by decide +kernel), rfl⟩ (by decide) ?_
      refine z_goto (off := 5) (tgt := 76) (pc' := 74) ⟨wR (by decide +kernel), by decide, rfl⟩ ?_
      refine z_sub [0, 1, 2] rfl ?_
      exact sb_Po_readProduct_76 g f12 k h
  · have h := h.2 (qi_eq_f rfl (by decide) h2)
    refine z_bipush (i := 10) (v := 10) (pc' := 57) ⟨wR (by decide +kernel), rfl⟩ (by decide) ?_
    refine z_goto (off := 19) (tgt := 76) (pc' := 60) ⟨wR (by decide +kernel), by decide, rfl⟩ ?_
    refine z_sub [0, 1, 2] rfl ?_
    exact sb_Po_readProduct_76 g f12 k h
noncomputable def WB_Po_readProduct_12 (G : Nat → Int32 → zS → (Int32 → zS → Prop) → Prop) (F12 : Int32 → Int32 → zS → (Int32 → zS → Prop) → Prop) (x1 : Int32) (x2 : Int32) (σ : zS) (Q : Int32 → zS → Prop) : Prop := (1200 ≤ (Int32.toInt x2) → (Q 1 σ)) ∧ (¬ 1200 ≤ (Int32.toInt x2) → (W_Po_isSign 42 σ (fun v2 σ2 => ((Int32.toInt v2) = 0 → (W_Po_isSign 47 σ2 (fun v4 σ4 => ((Int32.toInt v4) = 0 → (W_Po_isSign 37 σ4 (fun v6 σ6 => ((Int32.toInt v6) = 0 → (Q 1 σ6)) ∧ (¬ (Int32.toInt v6) = 0 → (W_Po_readProduct_b46 G F12 x1 x2 σ6 Q))))) ∧ (¬ (Int32.toInt v4) = 0 → (W_Po_readProduct_b46 G F12 x1 x2 σ4 Q))))) ∧ (¬ (Int32.toInt v2) = 0 → (W_Po_readProduct_b46 G F12 x1 x2 σ2 Q)))))
theorem sh_Po_readProduct_12 {E : xV} {R : Nat} {σ : zS} {K : zKt} {G : Nat → Int32 → zS → (Int32 → zS → Prop) → Prop} {F12 : Int32 → Int32 → zS → (Int32 → zS → Prop) → Prop} {x1 : Int32} {x2 : Int32} {Q : Int32 → zS → Prop} (g : ∀ (m : Nat) (d : Int32) (σ : zS) (Q : Int32 → zS → Prop) (K : zKt), G m d σ Q → (∀ v s, Q v s → K (some (.int v)) s) → Cz E (withR (Ypo m) (rmN R)) [.ref 17, .int d] σ K) (f12 : ∀ (x1 : Int32) (x2 : Int32) (σ : zS), F12 x1 x2 σ Q → Wz E (withR Y_Po_readProduct (rmN (R + 1))) 12 [(0, .ref 17), (1, .int x1), (2, .int x2)] [] σ K) (k : ∀ v s, Q v s → K (some (.int v)) s) (h : WB_Po_readProduct_12 G F12 x1 x2 σ Q) : Wz E (withR Y_Po_readProduct (rmN (R + 1))) 12 [(0, .ref 17), (1, .int x1), (2, .int x2)] [] σ K := by
  unfold WB_Po_readProduct_12 at h
  refine z_iload_n (f := 2) (i := 2) (q := 2) (pc' := 13) ⟨wR (by decide +kernel), rfl⟩ rfl rfl ?_
  refine z_sipush (i := 1200) (v := 1200) (pc' := 16) ⟨wR (by decide +kernel), rfl⟩ (by decide) ?_
  refine z_icmp_ge (off := 93) (tgt := 109) (pc' := 19) ⟨wR (by decide +kernel), by decide, rfl⟩ (fun h1 => ?_) (fun h1 => ?_)
  · have h := h.1 (qi_ge_t rfl (by decide) h1)
    refine z_iconst (i := 1) (v := 1) (pc' := 110) ⟨wR (by decide +kernel), rfl⟩ (by decide) ?_
    exact z_iret (ty := .boolean) rfl (by rfl) (wR (by decide +kernel)) (k _ _ h)
  · have h := h.2 (qi_ge_f rfl (by decide) h1)
    refine z_aload_n (f := 0) (i := 0) (q := 0) (pc' := 20) ⟨wR (by decide +kernel), rfl⟩ rfl rfl ?_
    refine z_bipush (i := 42) (v := 42) (pc' := 22) ⟨wR (by decide +kernel), rfl⟩ (by decide) ?_
    refine w_invV (Z := Y_Po_isSign) (idx := 137) (kb := 17) (As := [.int 42]) (rest := []) (pc' := 25) cl_7_137 rfl ⟨rfl, rfl⟩ ykfa_17_0 rfl (rm_o (by decide) (by decide) ⟨rfl, rfl⟩) ⟨wR (by decide +kernel), rfl⟩ rfl rfl (Nat.le_of_ble_eq_true rfl) rfl rfl ?_
    refine sF_Po_isSign h (fun v2 σ2 h => ?_)
    show Wz E (withR Y_Po_readProduct (rmN (R + 1))) 25 [(0, .ref 17), (1, .int x1), (2, .int x2)] [.int v2] σ2 K
    refine z_if_ne (off := 21) (tgt := 46) (pc' := 28) ⟨wR (by decide +kernel), by decide, rfl⟩ (fun h3 => ?_) (fun h3 => ?_)
    · have h := h.2 (qi_ne_t rfl (by decide) h3)
      refine z_sub [0, 1, 2] rfl ?_
      exact sb_Po_readProduct_46 g f12 k h
    · have h := h.1 (qi_ne_f rfl (by decide) h3)
      refine z_aload_n (f := 0) (i := 0) (q := 0) (pc' := 29) ⟨wR (by decide +kernel), rfl⟩ rfl rfl ?_
      refine z_bipush (i := 47) (v := 47) (pc' := 31) ⟨wR (by decide +kernel), rfl⟩ (by decide) ?_
      refine w_invV (Z := Y_Po_isSign) (idx := 137) (kb := 17) (As := [.int 47]) (rest := []) (pc' := 34) cl_7_137 rfl ⟨rfl, rfl⟩ ykfa_17_0 rfl (rm_o (by decide) (by decide) ⟨rfl, rfl⟩) ⟨wR (by decide +kernel), rfl⟩ rfl rfl (Nat.le_of_ble_eq_true rfl) rfl rfl ?_
      refine sF_Po_isSign h (fun v4 σ4 h => ?_)
      show Wz E (withR Y_Po_readProduct (rmN (R + 1))) 34 [(0, .ref 17), (1, .int x1), (2, .int x2)] [.int v4] σ4 K
      refine z_if_ne (off := 12) (tgt := 46) (pc' := 37) ⟨wR (by decide +kernel), by decide, rfl⟩ (fun h5 => ?_) (fun h5 => ?_)
      · have h := h.2 (qi_ne_t rfl (by decide) h5)
        refine z_sub [0, 1, 2] rfl ?_
        exact sb_Po_readProduct_46 g f12 k h
      · have h := h.1 (qi_ne_f rfl (by decide) h5)
        refine z_aload_n (f := 0) (i := 0) (q := 0) (pc' := 38) ⟨wR (by decide +kernel), rfl⟩ rfl rfl ?_
        refine z_bipush (i := 37) (v := 37) (pc' := 40) ⟨wR (by decide +kernel), rfl⟩ (by decide) ?_
        refine w_invV (Z := Y_Po_isSign) (idx := 137) (kb := 17) (As := [.int 37]) (rest := []) (pc' := 43) cl_7_137 rfl ⟨rfl, rfl⟩ ykfa_17_0 rfl (rm_o (by decide) (by decide) ⟨rfl, rfl⟩) ⟨wR (by decide +kernel), rfl⟩ rfl rfl (Nat.le_of_ble_eq_true rfl) rfl rfl ?_
        refine sF_Po_isSign h (fun v6 σ6 h => ?_)
        show Wz E (withR Y_Po_readProduct (rmN (R + 1))) 43 [(0, .ref 17), (1, .int x1), (2, .int x2)] [.int v6] σ6 K
        refine z_if_eq (off := 66) (tgt := 109) (pc' := 46) ⟨wR (by decide +kernel), by decide, rfl⟩ (fun h7 => ?_) (fun h7 => ?_)
        · have h := h.1 (qi_eq_t rfl (by decide) h7)
          refine z_iconst (i := 1) (v := 1) (pc' := 110) ⟨wR (by decide +kernel), rfl⟩ (by decide) ?_
          exact z_iret (ty := .boolean) rfl (by rfl) (wR (by decide +kernel)) (k _ _ h)
        · have h := h.2 (qi_eq_f rfl (by decide) h7)
          refine z_sub [0, 1, 2] rfl ?_
          exact sb_Po_readProduct_46 g f12 k h
noncomputable def WL_Po_readProduct (G : Nat → Int32 → zS → (Int32 → zS → Prop) → Prop) : Nat → (Int32 → Int32 → zS → (Int32 → zS → Prop) → Prop)
  | 0 => fun _ _ _ _ => False
  | n + 1 => WB_Po_readProduct_12 G (WL_Po_readProduct G n)
theorem wl_Po_readProduct_12 (G : Nat → Int32 → zS → (Int32 → zS → Prop) → Prop) {n : Nat} {x1 : Int32} {x2 : Int32} {σ : zS} {Q : Int32 → zS → Prop} (h : WB_Po_readProduct_12 G (WL_Po_readProduct G n) x1 x2 σ Q) : (WL_Po_readProduct G (n + 1)) x1 x2 σ Q := h
theorem sl_Po_readProduct {E : xV} {R : Nat} {K : zKt} {G : Nat → Int32 → zS → (Int32 → zS → Prop) → Prop} {Q : Int32 → zS → Prop} (g : ∀ (m : Nat) (d : Int32) (σ : zS) (Q : Int32 → zS → Prop) (K : zKt), G m d σ Q → (∀ v s, Q v s → K (some (.int v)) s) → Cz E (withR (Ypo m) (rmN R)) [.ref 17, .int d] σ K) (k : ∀ v s, Q v s → K (some (.int v)) s) : ∀ n, (∀ (x1 : Int32) (x2 : Int32) (σ : zS), (WL_Po_readProduct G n) x1 x2 σ Q → Wz E (withR Y_Po_readProduct (rmN (R + 1))) 12 [(0, .ref 17), (1, .int x1), (2, .int x2)] [] σ K)
  | 0 => fun _ _ _ h => h.elim
  | n + 1 => by
    have i := sl_Po_readProduct (E := E) g k n
    exact fun _ _ _ h => sh_Po_readProduct_12 g i k h
noncomputable def W_Po_readProduct (G : Nat → Int32 → zS → (Int32 → zS → Prop) → Prop) (a1 : Int32) (σ : zS) (Q : Int32 → zS → Prop) : Prop := G 0 a1 σ (fun v1 σ1 => ((Int32.toInt v1) = 0 → (Q 0 σ1)) ∧ (¬ (Int32.toInt v1) = 0 → ((WL_Po_readProduct G fuF) a1 0 σ1 Q)))
theorem sF_Po_readProduct {E : xV} {R : Nat} {σ : zS} {K : zKt} {G : Nat → Int32 → zS → (Int32 → zS → Prop) → Prop} {a1 : Int32} {Q : Int32 → zS → Prop} (g : ∀ (m : Nat) (d : Int32) (σ : zS) (Q : Int32 → zS → Prop) (K : zKt), G m d σ Q → (∀ v s, Q v s → K (some (.int v)) s) → Cz E (withR (Ypo m) (rmN R)) [.ref 17, .int d] σ K) (h : W_Po_readProduct G a1 σ Q) (k : ∀ v s, Q v s → K (some (.int v)) s) : Cz E (withR Y_Po_readProduct (rmN (R + 1))) [.ref 17, .int a1] σ K := by
  refine z_entry (show plainName Y_Po_readProduct.1.cls = true by decide) (fun a => by rw [sl_len]; exact Nat.le_of_ble_eq_true rfl) rfl ?_
  unfold W_Po_readProduct at h
  refine z_aload_n (f := 0) (i := 0) (q := 0) (pc' := 1) ⟨wR (by decide +kernel), rfl⟩ rfl rfl ?_
  refine z_iload_n (f := 1) (i := 1) (q := 1) (pc' := 2) ⟨wR (by decide +kernel), rfl⟩ rfl rfl ?_
  refine w_invVR (Z := Y_Po_readTerm) (idx := 248) (kb := 17) (As := [.int a1]) (rest := []) (pc' := 5) cl_7_248 rfl ⟨rfl, rfl⟩ ykfa_17_0 rfl (rm_i (by decide)) ⟨wR (by decide +kernel), rfl⟩ rfl rfl (Nat.le_of_ble_eq_true rfl) rfl rfl ?_
  refine g 0 _ _ _ _ h (fun v1 σ1 h => ?_)
  show Wz E (withR Y_Po_readProduct (rmN (R + 1))) 5 [(0, .ref 17), (1, .int a1)] [.int v1] σ1 K
  refine z_if_ne (off := 5) (tgt := 10) (pc' := 8) ⟨wR (by decide +kernel), by decide, rfl⟩ (fun h2 => ?_) (fun h2 => ?_)
  · have h := h.2 (qi_ne_t rfl (by decide) h2)
    refine z_iconst (i := 0) (v := 0) (pc' := 11) ⟨wR (by decide +kernel), rfl⟩ (by decide) ?_
    refine z_istore_n (f := 2) (i := 2) (pc' := 12) ⟨wR (by decide +kernel), rfl⟩ rfl (wQ (by decide)) rfl ?_
    show Wz E (withR Y_Po_readProduct (rmN (R + 1))) 12 [(2, .int 0), (0, .ref 17), (1, .int a1)] [] σ1 K
    refine z_sub [1, 2, 0] rfl ?_
    exact (sl_Po_readProduct g k fuF) _ _ _ h
  · have h := h.1 (qi_ne_f rfl (by decide) h2)
    refine z_iconst (i := 0) (v := 0) (pc' := 9) ⟨wR (by decide +kernel), rfl⟩ (by decide) ?_
    exact z_iret (ty := .boolean) rfl (by rfl) (wR (by decide +kernel)) (k _ _ h)
noncomputable def W_Po_readSum_b53 (G : Nat → Int32 → zS → (Int32 → zS → Prop) → Prop) (F12 : Int32 → Int32 → zS → (Int32 → zS → Prop) → Prop) (x1 : Int32) (x2 : Int32) (y0 : Int32) (σ : zS) (Q : Int32 → zS → Prop) : Prop := (-2147483648 ≤ (Int32.toInt (σ.1 17 14)) + 1 ∧ (Int32.toInt (σ.1 17 14)) + 1 ≤ 2147483647) ∧ ∀ r1 : Int32, r1.toInt = (Int32.toInt (σ.1 17 14)) + 1 → (∀ σ2 : zS, zI σ 17 14 r1 = σ2 → (G 3 x1 σ2 (fun v3 σ3 => ((Int32.toInt v3) = 0 → (Q 0 σ3)) ∧ (¬ (Int32.toInt v3) = 0 → (W_Po_emit y0 0 σ3 (fun _ σ5 => (-2147483648 ≤ (Int32.toInt x2) + 1 ∧ (Int32.toInt x2) + 1 ≤ 2147483647) ∧ ∀ r6 : Int32, r6.toInt = (Int32.toInt x2) + 1 → (F12 x1 r6 σ5 Q)))))))
theorem sb_Po_readSum_53 {E : xV} {R : Nat} {σ : zS} {K : zKt} {G : Nat → Int32 → zS → (Int32 → zS → Prop) → Prop} {F12 : Int32 → Int32 → zS → (Int32 → zS → Prop) → Prop} {x1 : Int32} {x2 : Int32} {y0 : Int32} {Q : Int32 → zS → Prop} (g : ∀ (m : Nat) (d : Int32) (σ : zS) (Q : Int32 → zS → Prop) (K : zKt), G m d σ Q → (∀ v s, Q v s → K (some (.int v)) s) → Cz E (withR (Ypo m) (rmN R)) [.ref 17, .int d] σ K) (f12 : ∀ (x1 : Int32) (x2 : Int32) (σ : zS), F12 x1 x2 σ Q → Wz E (withR Y_Po_readSum (rmN (R + 1))) 12 [(0, .ref 17), (1, .int x1), (2, .int x2)] [] σ K) (k : ∀ v s, Q v s → K (some (.int v)) s) (h : W_Po_readSum_b53 G F12 x1 x2 y0 σ Q) : Wz E (withR Y_Po_readSum (rmN (R + 1))) 53 [(0, .ref 17), (1, .int x1), (2, .int x2)] [.int y0] σ K := by
  unfold W_Po_readSum_b53 at h
  refine z_istore_n (f := 3) (i := 3) (pc' := 54) ⟨wR (by decide +kernel), rfl⟩ rfl (wQ (by decide)) rfl ?_
  show Wz E (withR Y_Po_readSum (rmN (R + 1))) 54 [(3, .int y0), (0, .ref 17), (1, .int x1), (2, .int x2)] [] σ K
  refine z_aload_n (f := 0) (i := 0) (q := 1) (pc' := 55) ⟨wR (by decide +kernel), rfl⟩ rfl rfl ?_
  refine z_dupr (pc' := 56) ⟨wR (by decide +kernel), rfl⟩ ?_
  refine w_geti (k := 17) (j := 14) (idx := 63) (pc' := 59) yfxe_7_63 ykfa_17_14 ⟨wR (by decide +kernel), rfl⟩ ?_
  refine z_iconst (i := 1) (v := 1) (pc' := 60) ⟨wR (by decide +kernel), rfl⟩ (by decide) ?_
  refine z_iadd (pc' := 61) ⟨wR (by decide +kernel), rfl⟩ ?_
  obtain ⟨hb1, h⟩ := h
  have h := h ((σ.1 17 14) + 1) (ia_ok rfl (by decide) hb1)
  generalize ((σ.1 17 14) + 1) = r1 at h ⊢
  refine w_puti (k := 17) (j := 14) (idx := 63) (pc' := 64) yfxi_7_63 ykfa_17_14 ⟨wR (by decide +kernel), rfl⟩ ?_
  generalize hs2 : zI σ 17 14 r1 = σ2
  have h := h σ2 hs2
  refine z_aload_n (f := 0) (i := 0) (q := 1) (pc' := 65) ⟨wR (by decide +kernel), rfl⟩ rfl rfl ?_
  refine z_iload_n (f := 1) (i := 1) (q := 2) (pc' := 66) ⟨wR (by decide +kernel), rfl⟩ rfl rfl ?_
  refine w_invVR (Z := Y_Po_readProduct) (idx := 245) (kb := 17) (As := [.int x1]) (rest := []) (pc' := 69) cl_7_245 rfl ⟨rfl, rfl⟩ ykfa_17_0 rfl (rm_i (by decide)) ⟨wR (by decide +kernel), rfl⟩ rfl rfl (Nat.le_of_ble_eq_true rfl) rfl rfl ?_
  refine g 3 _ _ _ _ h (fun v3 σ3 h => ?_)
  show Wz E (withR Y_Po_readSum (rmN (R + 1))) 69 [(3, .int y0), (0, .ref 17), (1, .int x1), (2, .int x2)] [.int v3] σ3 K
  refine z_if_ne (off := 5) (tgt := 74) (pc' := 72) ⟨wR (by decide +kernel), by decide, rfl⟩ (fun h4 => ?_) (fun h4 => ?_)
  · have h := h.2 (qi_ne_t rfl (by decide) h4)
    refine z_aload_n (f := 0) (i := 0) (q := 1) (pc' := 75) ⟨wR (by decide +kernel), rfl⟩ rfl rfl ?_
    refine z_iload_n (f := 3) (i := 3) (q := 0) (pc' := 76) ⟨wR (by decide +kernel), rfl⟩ rfl rfl ?_
    refine z_lconst (i := 0) (v := 0) (pc' := 77) ⟨wR (by decide +kernel), rfl⟩ (by decide) ?_
    refine w_invV (Z := Y_Po_emit) (idx := 211) (kb := 17) (As := [.int y0, .long 0]) (rest := []) (pc' := 80) cl_7_211 rfl ⟨rfl, rfl⟩ ykfa_17_0 rfl (rm_o (by decide) (by decide) ⟨rfl, rfl⟩) ⟨wR (by decide +kernel), rfl⟩ rfl rfl (Nat.le_of_ble_eq_true rfl) rfl rfl ?_
    refine sF_Po_emit h (fun _ σ5 h => ?_)
    show Wz E (withR Y_Po_readSum (rmN (R + 1))) 80 [(3, .int y0), (0, .ref 17), (1, .int x1), (2, .int x2)] [] σ5 K
    refine z_iinc (i := 2) (z := 1) (q := 3) (pc' := 83) ⟨wR (by decide +kernel), rfl⟩ rfl rfl (wQ (by decide)) rfl ?_
    show Wz E (withR Y_Po_readSum (rmN (R + 1))) 83 [(2, .int (x2 + Int32.ofInt 1)), (3, .int y0), (0, .ref 17), (1, .int x1)] [] σ5 K
    obtain ⟨hb6, h⟩ := h
    have h := h (x2 + Int32.ofInt 1) (ia_ok rfl (by decide) hb6)
    generalize (x2 + Int32.ofInt 1) = r6 at h ⊢
    refine z_goto (off := (-71)) (tgt := 12) (pc' := 86) ⟨wR (by decide +kernel), by decide, rfl⟩ ?_
    refine z_sub [2, 3, 0] rfl ?_
    exact f12 _ _ _ h
  · have h := h.1 (qi_ne_f rfl (by decide) h4)
    refine z_iconst (i := 0) (v := 0) (pc' := 73) ⟨wR (by decide +kernel), rfl⟩ (by decide) ?_
    exact z_iret (ty := .boolean) rfl (by rfl) (wR (by decide +kernel)) (k _ _ h)
noncomputable def WB_Po_readSum_12 (G : Nat → Int32 → zS → (Int32 → zS → Prop) → Prop) (F12 : Int32 → Int32 → zS → (Int32 → zS → Prop) → Prop) (x1 : Int32) (x2 : Int32) (σ : zS) (Q : Int32 → zS → Prop) : Prop := (1200 ≤ (Int32.toInt x2) → (Q 1 σ)) ∧ (¬ 1200 ≤ (Int32.toInt x2) → (W_Po_isSign 43 σ (fun v2 σ2 => ((Int32.toInt v2) = 0 → (W_Po_isSign 45 σ2 (fun v6 σ6 => ((Int32.toInt v6) = 0 → (Q 1 σ6)) ∧ (¬ (Int32.toInt v6) = 0 → (W_Po_isSign 43 σ6 (fun v8 σ8 => ((Int32.toInt v8) = 0 → (W_Po_readSum_b53 G F12 x1 x2 9 σ8 Q)) ∧ (¬ (Int32.toInt v8) = 0 → (W_Po_readSum_b53 G F12 x1 x2 8 σ8 Q)))))))) ∧ (¬ (Int32.toInt v2) = 0 → (W_Po_isSign 43 σ2 (fun v4 σ4 => ((Int32.toInt v4) = 0 → (W_Po_readSum_b53 G F12 x1 x2 9 σ4 Q)) ∧ (¬ (Int32.toInt v4) = 0 → (W_Po_readSum_b53 G F12 x1 x2 8 σ4 Q))))))))
theorem sh_Po_readSum_12 {E : xV} {R : Nat} {σ : zS} {K : zKt} {G : Nat → Int32 → zS → (Int32 → zS → Prop) → Prop} {F12 : Int32 → Int32 → zS → (Int32 → zS → Prop) → Prop} {x1 : Int32} {x2 : Int32} {Q : Int32 → zS → Prop} (g : ∀ (m : Nat) (d : Int32) (σ : zS) (Q : Int32 → zS → Prop) (K : zKt), G m d σ Q → (∀ v s, Q v s → K (some (.int v)) s) → Cz E (withR (Ypo m) (rmN R)) [.ref 17, .int d] σ K) (f12 : ∀ (x1 : Int32) (x2 : Int32) (σ : zS), F12 x1 x2 σ Q → Wz E (withR Y_Po_readSum (rmN (R + 1))) 12 [(0, .ref 17), (1, .int x1), (2, .int x2)] [] σ K) (k : ∀ v s, Q v s → K (some (.int v)) s) (h : WB_Po_readSum_12 G F12 x1 x2 σ Q) : Wz E (withR Y_Po_readSum (rmN (R + 1))) 12 [(0, .ref 17), (1, .int x1), (2, .int x2)] [] σ K := by
  unfold WB_Po_readSum_12 at h
  refine z_iload_n (f := 2) (i := 2) (q := 2) (pc' := 13) ⟨wR (by decide +kernel), rfl⟩ rfl rfl ?_
  refine z_sipush (i := 1200) (v := 1200) (pc' := 16) ⟨wR (by decide +kernel), rfl⟩ (by decide) ?_
  refine z_icmp_ge (off := 70) (tgt := 86) (pc' := 19) ⟨wR (by decide +kernel), by decide, rfl⟩ (fun h1 => ?_) (fun h1 => ?_)
  · have h := h.1 (qi_ge_t rfl (by decide) h1)
    refine z_iconst (i := 1) (v := 1) (pc' := 87) ⟨wR (by decide +kernel), rfl⟩ (by decide) ?_
    exact z_iret (ty := .boolean) rfl (by rfl) (wR (by decide +kernel)) (k _ _ h)
  · have h := h.2 (qi_ge_f rfl (by decide) h1)
    refine z_aload_n (f := 0) (i := 0) (q := 0) (pc' := 20) ⟨wR (by decide +kernel), rfl⟩ rfl rfl ?_
    refine z_bipush (i := 43) (v := 43) (pc' := 22) ⟨wR (by decide +kernel), rfl⟩ (by decide) ?_
    refine w_invV (Z := Y_Po_isSign) (idx := 137) (kb := 17) (As := [.int 43]) (rest := []) (pc' := 25) cl_7_137 rfl ⟨rfl, rfl⟩ ykfa_17_0 rfl (rm_o (by decide) (by decide) ⟨rfl, rfl⟩) ⟨wR (by decide +kernel), rfl⟩ rfl rfl (Nat.le_of_ble_eq_true rfl) rfl rfl ?_
    refine sF_Po_isSign h (fun v2 σ2 h => ?_)
    show Wz E (withR Y_Po_readSum (rmN (R + 1))) 25 [(0, .ref 17), (1, .int x1), (2, .int x2)] [.int v2] σ2 K
    refine z_if_ne (off := 12) (tgt := 37) (pc' := 28) ⟨wR (by decide +kernel), by decide, rfl⟩ (fun h3 => ?_) (fun h3 => ?_)
    · have h := h.2 (qi_ne_t rfl (by decide) h3)
      refine z_aload_n (f := 0) (i := 0) (q := 0) (pc' := 38) ⟨wR (by decide +kernel), rfl⟩ rfl rfl ?_
      refine z_bipush (i := 43) (v := 43) (pc' := 40) ⟨wR (by decide +kernel), rfl⟩ (by decide) ?_
      refine w_invV (Z := Y_Po_isSign) (idx := 137) (kb := 17) (As := [.int 43]) (rest := []) (pc' := 43) cl_7_137 rfl ⟨rfl, rfl⟩ ykfa_17_0 rfl (rm_o (by decide) (by decide) ⟨rfl, rfl⟩) ⟨wR (by decide +kernel), rfl⟩ rfl rfl (Nat.le_of_ble_eq_true rfl) rfl rfl ?_
      refine sF_Po_isSign h (fun v4 σ4 h => ?_)
      show Wz E (withR Y_Po_readSum (rmN (R + 1))) 43 [(0, .ref 17), (1, .int x1), (2, .int x2)] [.int v4] σ4 K
      refine z_if_eq (off := 8) (tgt := 51) (pc' := 46) ⟨wR (by decide +kernel), by decide, rfl⟩ (fun h5 => ?_) (fun h5 => ?_)
      · have h := h.1 (qi_eq_t rfl (by decide) h5)
        refine z_bipush (i := 9) (v := 9) (pc' := 53) ⟨wR (by decide +kernel), rfl⟩ (by decide) ?_
        refine z_sub [0, 1, 2] rfl ?_
        exact sb_Po_readSum_53 g f12 k h
      · have h := h.2 (qi_eq_f rfl (by decide) h5)
        refine z_bipush (i := 8) (v := 8) (pc' := 48) ⟨wR (by decide +kernel), rfl⟩ (by decide) ?_
        refine z_goto (off := 5) (tgt := 53) (pc' := 51) ⟨wR (by decide +kernel), by decide, rfl⟩ ?_
        refine z_sub [0, 1, 2] rfl ?_
        exact sb_Po_readSum_53 g f12 k h
    · have h := h.1 (qi_ne_f rfl (by decide) h3)
      refine z_aload_n (f := 0) (i := 0) (q := 0) (pc' := 29) ⟨wR (by decide +kernel), rfl⟩ rfl rfl ?_
      refine z_bipush (i := 45) (v := 45) (pc' := 31) ⟨wR (by decide +kernel), rfl⟩ (by decide) ?_
      refine w_invV (Z := Y_Po_isSign) (idx := 137) (kb := 17) (As := [.int 45]) (rest := []) (pc' := 34) cl_7_137 rfl ⟨rfl, rfl⟩ ykfa_17_0 rfl (rm_o (by decide) (by decide) ⟨rfl, rfl⟩) ⟨wR (by decide +kernel), rfl⟩ rfl rfl (Nat.le_of_ble_eq_true rfl) rfl rfl ?_
      refine sF_Po_isSign h (fun v6 σ6 h => ?_)
      show Wz E (withR Y_Po_readSum (rmN (R + 1))) 34 [(0, .ref 17), (1, .int x1), (2, .int x2)] [.int v6] σ6 K
      refine z_if_eq (off := 52) (tgt := 86) (pc' := 37) ⟨wR (by decide +kernel), by decide, rfl⟩ (fun h7 => ?_) (fun h7 => ?_)
      · have h := h.1 (qi_eq_t rfl (by decide) h7)
        refine z_iconst (i := 1) (v := 1) (pc' := 87) ⟨wR (by decide +kernel), rfl⟩ (by decide) ?_
        exact z_iret (ty := .boolean) rfl (by rfl) (wR (by decide +kernel)) (k _ _ h)
      · have h := h.2 (qi_eq_f rfl (by decide) h7)
        refine z_aload_n (f := 0) (i := 0) (q := 0) (pc' := 38) ⟨wR (by decide +kernel), rfl⟩ rfl rfl ?_
        refine z_bipush (i := 43) (v := 43) (pc' := 40) ⟨wR (by decide +kernel), rfl⟩ (by decide) ?_
        refine w_invV (Z := Y_Po_isSign) (idx := 137) (kb := 17) (As := [.int 43]) (rest := []) (pc' := 43) cl_7_137 rfl ⟨rfl, rfl⟩ ykfa_17_0 rfl (rm_o (by decide) (by decide) ⟨rfl, rfl⟩) ⟨wR (by decide +kernel), rfl⟩ rfl rfl (Nat.le_of_ble_eq_true rfl) rfl rfl ?_
        refine sF_Po_isSign h (fun v8 σ8 h => ?_)
        show Wz E (withR Y_Po_readSum (rmN (R + 1))) 43 [(0, .ref 17), (1, .int x1), (2, .int x2)] [.int v8] σ8 K
        refine z_if_eq (off := 8) (tgt := 51) (pc' := 46) ⟨wR (by decide +kernel), by decide, rfl⟩ (fun h9 => ?_) (fun h9 => ?_)
        · have h := h.1 (qi_eq_t rfl (by decide) h9)
          refine z_bipush (i := 9) (v := 9) (pc' := 53) ⟨wR (by decide +kernel), rfl⟩ (by decide) ?_
          refine z_sub [0, 1, 2] rfl ?_
          exact sb_Po_readSum_53 g f12 k h
        · have h := h.2 (qi_eq_f rfl (by decide) h9)
          refine z_bipush (i := 8) (v := 8) (pc' := 48) ⟨wR (by decide +kernel), rfl⟩ (by decide) ?_
          refine z_goto (off := 5) (tgt := 53) (pc' := 51) ⟨wR (by decide +kernel), by decide, rfl⟩ ?_
          refine z_sub [0, 1, 2] rfl ?_
          exact sb_Po_readSum_53 g f12 k h
noncomputable def WL_Po_readSum (G : Nat → Int32 → zS → (Int32 → zS → Prop) → Prop) : Nat → (Int32 → Int32 → zS → (Int32 → zS → Prop) → Prop)
  | 0 => fun _ _ _ _ => False
  | n + 1 => WB_Po_readSum_12 G (WL_Po_readSum G n)
theorem wl_Po_readSum_12 (G : Nat → Int32 → zS → (Int32 → zS → Prop) → Prop) {n : Nat} {x1 : Int32} {x2 : Int32} {σ : zS} {Q : Int32 → zS → Prop} (h : WB_Po_readSum_12 G (WL_Po_readSum G n) x1 x2 σ Q) : (WL_Po_readSum G (n + 1)) x1 x2 σ Q := h
theorem sl_Po_readSum {E : xV} {R : Nat} {K : zKt} {G : Nat → Int32 → zS → (Int32 → zS → Prop) → Prop} {Q : Int32 → zS → Prop} (g : ∀ (m : Nat) (d : Int32) (σ : zS) (Q : Int32 → zS → Prop) (K : zKt), G m d σ Q → (∀ v s, Q v s → K (some (.int v)) s) → Cz E (withR (Ypo m) (rmN R)) [.ref 17, .int d] σ K) (k : ∀ v s, Q v s → K (some (.int v)) s) : ∀ n, (∀ (x1 : Int32) (x2 : Int32) (σ : zS), (WL_Po_readSum G n) x1 x2 σ Q → Wz E (withR Y_Po_readSum (rmN (R + 1))) 12 [(0, .ref 17), (1, .int x1), (2, .int x2)] [] σ K)
  | 0 => fun _ _ _ h => h.elim
  | n + 1 => by
    have i := sl_Po_readSum (E := E) g k n
    exact fun _ _ _ h => sh_Po_readSum_12 g i k h
noncomputable def W_Po_readSum (G : Nat → Int32 → zS → (Int32 → zS → Prop) → Prop) (a1 : Int32) (σ : zS) (Q : Int32 → zS → Prop) : Prop := G 3 a1 σ (fun v1 σ1 => ((Int32.toInt v1) = 0 → (Q 0 σ1)) ∧ (¬ (Int32.toInt v1) = 0 → ((WL_Po_readSum G fuF) a1 0 σ1 Q)))
theorem sF_Po_readSum {E : xV} {R : Nat} {σ : zS} {K : zKt} {G : Nat → Int32 → zS → (Int32 → zS → Prop) → Prop} {a1 : Int32} {Q : Int32 → zS → Prop} (g : ∀ (m : Nat) (d : Int32) (σ : zS) (Q : Int32 → zS → Prop) (K : zKt), G m d σ Q → (∀ v s, Q v s → K (some (.int v)) s) → Cz E (withR (Ypo m) (rmN R)) [.ref 17, .int d] σ K) (h : W_Po_readSum G a1 σ Q) (k : ∀ v s, Q v s → K (some (.int v)) s) : Cz E (withR Y_Po_readSum (rmN (R + 1))) [.ref 17, .int a1] σ K := by
  refine z_entry (show plainName Y_Po_readSum.1.cls = true by decide) (fun a => by rw [sl_len]; exact Nat.le_of_ble_eq_true rfl) rfl ?_
  unfold W_Po_readSum at h
  refine z_aload_n (f := 0) (i := 0) (q := 0) (pc' := 1) ⟨wR (by decide +kernel), rfl⟩ rfl rfl ?_
  refine z_iload_n (f := 1) (i := 1) (q := 1) (pc' := 2) ⟨wR (by decide +kernel), rfl⟩ rfl rfl ?_
  refine w_invVR (Z := Y_Po_readProduct) (idx := 245) (kb := 17) (As := [.int a1]) (rest := []) (pc' := 5) cl_7_245 rfl ⟨rfl, rfl⟩ ykfa_17_0 rfl (rm_i (by decide)) ⟨wR (by decide +kernel), rfl⟩ rfl rfl (Nat.le_of_ble_eq_true rfl) rfl rfl ?_
  refine g 3 _ _ _ _ h (fun v1 σ1 h => ?_)
  show Wz E (withR Y_Po_readSum (rmN (R + 1))) 5 [(0, .ref 17), (1, .int a1)] [.int v1] σ1 K
  refine z_if_ne (off := 5) (tgt := 10) (pc' := 8) ⟨wR (by decide +kernel), by decide, rfl⟩ (fun h2 => ?_) (fun h2 => ?_)
  · have h := h.2 (qi_ne_t rfl (by decide) h2)
    refine z_iconst (i := 0) (v := 0) (pc' := 11) ⟨wR (by decide +kernel), rfl⟩ (by decide) ?_
    refine z_istore_n (f := 2) (i := 2) (pc' := 12) ⟨wR (by decide +kernel), rfl⟩ rfl (wQ (by decide)) rfl ?_
    show Wz E (withR Y_Po_readSum (rmN (R + 1))) 12 [(2, .int 0), (0, .ref 17), (1, .int a1)] [] σ1 K
    refine z_sub [1, 2, 0] rfl ?_
    exact (sl_Po_readSum g k fuF) _ _ _ h
  · have h := h.1 (qi_ne_f rfl (by decide) h2)
    refine z_iconst (i := 0) (v := 0) (pc' := 9) ⟨wR (by decide +kernel), rfl⟩ (by decide) ?_
    exact z_iret (ty := .boolean) rfl (by rfl) (wR (by decide +kernel)) (k _ _ h)
noncomputable def W_Po_readComparisonR (G : Nat → Int32 → zS → (Int32 → zS → Prop) → Prop) (a1 : Int32) (σ : zS) (Q : Int32 → zS → Prop) : Prop := G 4 a1 σ (fun v1 σ1 => ((Int32.toInt v1) = 0 → (Q 0 σ1)) ∧ (¬ (Int32.toInt v1) = 0 → (W_Po_isWord 17 σ1 (fun v3 σ3 => ((Int32.toInt v3) = 0 → (W_Po_comparisonHere  σ3 (fun v5 σ5 => ((Int32.toInt v5) = (-4) → (W_Po_fail  σ5 (fun v12 σ12 => (v12 = 0 ∨ v12 = 1) ∧ (Q v12 σ12)))) ∧ (¬ (Int32.toInt v5) = (-4) → ((-2147483648 ≤ (Int32.toInt (σ5.1 17 14)) + 1 ∧ (Int32.toInt (σ5.1 17 14)) + 1 ≤ 2147483647) ∧ ∀ r7 : Int32, r7.toInt = (Int32.toInt (σ5.1 17 14)) + 1 → (∀ σ8 : zS, zI σ5 17 14 r7 = σ8 → (G 4 a1 σ8 (fun v9 σ9 => ((Int32.toInt v9) = 0 → (Q 0 σ9)) ∧ (¬ (Int32.toInt v9) = 0 → (W_Po_emit v5 0 σ9 (fun _ σ11 => Q 1 σ11))))))))))) ∧ (¬ (Int32.toInt v3) = 0 → ((-2147483648 ≤ (Int32.toInt (σ3.1 17 14)) + 1 ∧ (Int32.toInt (σ3.1 17 14)) + 1 ≤ 2147483647) ∧ ∀ r14 : Int32, r14.toInt = (Int32.toInt (σ3.1 17 14)) + 1 → (∀ σ15 : zS, zI σ3 17 14 r14 = σ15 → (W_Po_readFeature 19 σ15 (fun v16 σ16 => (v16 = 0 ∨ v16 = 1) ∧ (Q v16 σ16))))))))))
theorem sF_Po_readComparisonR {E : xV} {R : Nat} {σ : zS} {K : zKt} {G : Nat → Int32 → zS → (Int32 → zS → Prop) → Prop} {a1 : Int32} {Q : Int32 → zS → Prop} (g : ∀ (m : Nat) (d : Int32) (σ : zS) (Q : Int32 → zS → Prop) (K : zKt), G m d σ Q → (∀ v s, Q v s → K (some (.int v)) s) → Cz E (withR (Ypo m) (rmN R)) [.ref 17, .int d] σ K) (h : W_Po_readComparisonR G a1 σ Q) (k : ∀ v s, Q v s → K (some (.int v)) s) : Cz E (withR Y_Po_readComparisonR (rmN (R + 1))) [.ref 17, .int a1] σ K := by
  refine z_entry (show plainName Y_Po_readComparisonR.1.cls = true by decide) (fun a => by rw [sl_len]; exact Nat.le_of_ble_eq_true rfl) rfl ?_
  unfold W_Po_readComparisonR at h
  refine z_aload_n (f := 0) (i := 0) (q := 0) (pc' := 1) ⟨wR (by decide +kernel), rfl⟩ rfl rfl ?_
  refine z_iload_n (f := 1) (i := 1) (q := 1) (pc' := 2) ⟨wR (by decide +kernel), rfl⟩ rfl rfl ?_
  refine w_invVR (Z := Y_Po_readSum) (idx := 237) (kb := 17) (As := [.int a1]) (rest := []) (pc' := 5) cl_7_237 rfl ⟨rfl, rfl⟩ ykfa_17_0 rfl (rm_i (by decide)) ⟨wR (by decide +kernel), rfl⟩ rfl rfl (Nat.le_of_ble_eq_true rfl) rfl rfl ?_
  refine g 4 _ _ _ _ h (fun v1 σ1 h => ?_)
  show Wz E (withR Y_Po_readComparisonR (rmN (R + 1))) 5 [(0, .ref 17), (1, .int a1)] [.int v1] σ1 K
  refine z_if_ne (off := 5) (tgt := 10) (pc' := 8) ⟨wR (by decide +kernel), by decide, rfl⟩ (fun h2 => ?_) (fun h2 => ?_)
  · have h := h.2 (qi_ne_t rfl (by decide) h2)
    refine z_aload_n (f := 0) (i := 0) (q := 0) (pc' := 11) ⟨wR (by decide +kernel), rfl⟩ rfl rfl ?_
    refine z_ldcS (i := 17) (pc' := 13) rfl rfl ⟨wR (by decide +kernel), rfl⟩ ?_
    show Wz E (withR Y_Po_readComparisonR (rmN (R + 1))) 13 [(0, .ref 17), (1, .int a1)] (.ref (1000 + 17) :: [.ref 17]) σ1 K
    refine w_invV (Z := Y_Po_isWord) (idx := 158) (kb := 17) (As := [.ref (1000 + 17)]) (rest := []) (pc' := 16) cl_7_158 rfl ⟨rfl, rfl⟩ ykfa_17_0 rfl (rm_o (by decide) (by decide) ⟨rfl, rfl⟩) ⟨wR (by decide +kernel), rfl⟩ rfl rfl (Nat.le_of_ble_eq_true rfl) rfl rfl ?_
    refine sF_Po_isWord (by decide) h (fun v3 σ3 h => ?_)
    show Wz E (withR Y_Po_readComparisonR (rmN (R + 1))) 16 [(0, .ref 17), (1, .int a1)] [.int v3] σ3 K
    refine z_if_eq (off := 20) (tgt := 36) (pc' := 19) ⟨wR (by decide +kernel), by decide, rfl⟩ (fun h4 => ?_) (fun h4 => ?_)
    · have h := h.1 (qi_eq_t rfl (by decide) h4)
      refine z_aload_n (f := 0) (i := 0) (q := 0) (pc' := 37) ⟨wR (by decide +kernel), rfl⟩ rfl rfl ?_
      refine w_invV (Z := Y_Po_comparisonHere) (idx := 242) (kb := 17) (As := []) (rest := []) (pc' := 40) cl_7_242 rfl ⟨rfl, rfl⟩ ykfa_17_0 rfl (rm_o (by decide) (by decide) ⟨rfl, rfl⟩) ⟨wR (by decide +kernel), rfl⟩ rfl rfl (Nat.le_of_ble_eq_true rfl) rfl rfl ?_
      refine sF_Po_comparisonHere h (fun v5 σ5 h => ?_)
      show Wz E (withR Y_Po_readComparisonR (rmN (R + 1))) 40 [(0, .ref 17), (1, .int a1)] [.int v5] σ5 K
      refine z_istore_n (f := 2) (i := 2) (pc' := 41) ⟨wR (by decide +kernel), rfl⟩ rfl (wQ (by decide)) rfl ?_
      show Wz E (withR Y_Po_readComparisonR (rmN (R + 1))) 41 [(2, .int v5), (0, .ref 17), (1, .int a1)] [] σ5 K
      refine z_iload_n (f := 2) (i := 2) (q := 0) (pc' := 42) ⟨wR (by decide +kernel), rfl⟩ rfl rfl ?_
      refine z_bipush (i := (-4)) (v := (-4)) (pc' := 44) ⟨wR (by decide +kernel), rfl⟩ (by decide) ?_
      refine z_icmp_ne (off := 8) (tgt := 52) (pc' := 47) ⟨wR (by decide +kernel), by decide, rfl⟩ (fun h6 => ?_) (fun h6 => ?_)
      · have h := h.2 (qi_ne_t rfl (by decide) h6)
        refine z_aload_n (f := 0) (i := 0) (q := 1) (pc' := 53) ⟨wR (by decide +kernel), rfl⟩ rfl rfl ?_
        refine z_dupr (pc' := 54) ⟨wR (by decide +kernel), rfl⟩ ?_
        refine w_geti (k := 17) (j := 14) (idx := 63) (pc' := 57) yfxe_7_63 ykfa_17_14 ⟨wR (by decide +kernel), rfl⟩ ?_
        refine z_iconst (i := 1) (v := 1) (pc' := 58) ⟨wR (by decide +kernel), rfl⟩ (by decide) ?_
        refine z_iadd (pc' := 59) ⟨wR (by decide +kernel), rfl⟩ ?_
        obtain ⟨hb7, h⟩ := h
        have h := h ((σ5.1 17 14) + 1) (ia_ok rfl (by decide) hb7)
        generalize ((σ5.1 17 14) + 1) = r7 at h ⊢
        refine w_puti (k := 17) (j := 14) (idx := 63) (pc' := 62) yfxi_7_63 ykfa_17_14 ⟨wR (by decide +kernel), rfl⟩ ?_
        generalize hs8 : zI σ5 17 14 r7 = σ8
        have h := h σ8 hs8
        refine z_aload_n (f := 0) (i := 0) (q := 1) (pc' := 63) ⟨wR (by decide +kernel), rfl⟩ rfl rfl ?_
        refine z_iload_n (f := 1) (i := 1) (q := 2) (pc' := 64) ⟨wR (by decide +kernel), rfl⟩ rfl rfl ?_
        refine w_invVR (Z := Y_Po_readSum) (idx := 237) (kb := 17) (As := [.int a1]) (rest := []) (pc' := 67) cl_7_237 rfl ⟨rfl, rfl⟩ ykfa_17_0 rfl (rm_i (by decide)) ⟨wR (by decide +kernel), rfl⟩ rfl rfl (Nat.le_of_ble_eq_true rfl) rfl rfl ?_
        refine g 4 _ _ _ _ h (fun v9 σ9 h => ?_)
        show Wz E (withR Y_Po_readComparisonR (rmN (R + 1))) 67 [(2, .int v5), (0, .ref 17), (1, .int a1)] [.int v9] σ9 K
        refine z_if_ne (off := 5) (tgt := 72) (pc' := 70) ⟨wR (by decide +kernel), by decide, rfl⟩ (fun h10 => ?_) (fun h10 => ?_)
        · have h := h.2 (qi_ne_t rfl (by decide) h10)
          refine z_aload_n (f := 0) (i := 0) (q := 1) (pc' := 73) ⟨wR (by decide +kernel), rfl⟩ rfl rfl ?_
          refine z_iload_n (f := 2) (i := 2) (q := 0) (pc' := 74) ⟨wR (by decide +kernel), rfl⟩ rfl rfl ?_
          refine z_lconst (i := 0) (v := 0) (pc' := 75) ⟨wR (by decide +kernel), rfl⟩ (by decide) ?_
          refine w_invV (Z := Y_Po_emit) (idx := 211) (kb := 17) (As := [.int v5, .long 0]) (rest := []) (pc' := 78) cl_7_211 rfl ⟨rfl, rfl⟩ ykfa_17_0 rfl (rm_o (by decide) (by decide) ⟨rfl, rfl⟩) ⟨wR (by decide +kernel), rfl⟩ rfl rfl (Nat.le_of_ble_eq_true rfl) rfl rfl ?_
          refine sF_Po_emit h (fun _ σ11 h => ?_)
          show Wz E (withR Y_Po_readComparisonR (rmN (R + 1))) 78 [(2, .int v5), (0, .ref 17), (1, .int a1)] [] σ11 K
          refine z_iconst (i := 1) (v := 1) (pc' := 79) ⟨wR (by decide +kernel), rfl⟩ (by decide) ?_
          exact z_iret (ty := .boolean) rfl (by rfl) (wR (by decide +kernel)) (k _ _ h)
        · have h := h.1 (qi_ne_f rfl (by decide) h10)
          refine z_iconst (i := 0) (v := 0) (pc' := 71) ⟨wR (by decide +kernel), rfl⟩ (by decide) ?_
          exact z_iret (ty := .boolean) rfl (by rfl) (wR (by decide +kernel)) (k _ _ h)
      · have h := h.1 (qi_ne_f rfl (by decide) h6)
        refine z_aload_n (f := 0) (i := 0) (q := 1) (pc' := 48) ⟨wR (by decide +kernel), rfl⟩ rfl rfl ?_
        refine w_invV (Z := Y_Po_fail) (idx := 140) (kb := 17) (As := []) (rest := []) (pc' := 51) cl_7_140 rfl ⟨rfl, rfl⟩ ykfa_17_0 rfl (rm_o (by decide) (by decide) ⟨rfl, rfl⟩) ⟨wR (by decide +kernel), rfl⟩ rfl rfl (Nat.le_of_ble_eq_true rfl) rfl rfl ?_
        refine sF_Po_fail h (fun v12 σ12 h => ?_)
        show Wz E (withR Y_Po_readComparisonR (rmN (R + 1))) 51 [(2, .int v5), (0, .ref 17), (1, .int a1)] [.int v12] σ12 K
        obtain ⟨hg13, h⟩ := h
        exact z_iret (ty := .boolean) rfl (j_bool hg13).1 (wR (by decide +kernel)) (k _ _ h)
    · have h := h.2 (qi_eq_f rfl (by decide) h4)
      refine z_aload_n (f := 0) (i := 0) (q := 0) (pc' := 20) ⟨wR (by decide +kernel), rfl⟩ rfl rfl ?_
      refine z_dupr (pc' := 21) ⟨wR (by decide +kernel), rfl⟩ ?_
      refine w_geti (k := 17) (j := 14) (idx := 63) (pc' := 24) yfxe_7_63 ykfa_17_14 ⟨wR (by decide +kernel), rfl⟩ ?_
      refine z_iconst (i := 1) (v := 1) (pc' := 25) ⟨wR (by decide +kernel), rfl⟩ (by decide) ?_
      refine z_iadd (pc' := 26) ⟨wR (by decide +kernel), rfl⟩ ?_
      obtain ⟨hb14, h⟩ := h
      have h := h ((σ3.1 17 14) + 1) (ia_ok rfl (by decide) hb14)
      generalize ((σ3.1 17 14) + 1) = r14 at h ⊢
      refine w_puti (k := 17) (j := 14) (idx := 63) (pc' := 29) yfxi_7_63 ykfa_17_14 ⟨wR (by decide +kernel), rfl⟩ ?_
      generalize hs15 : zI σ3 17 14 r14 = σ15
      have h := h σ15 hs15
      refine z_aload_n (f := 0) (i := 0) (q := 0) (pc' := 30) ⟨wR (by decide +kernel), rfl⟩ rfl rfl ?_
      refine z_bipush (i := 19) (v := 19) (pc' := 32) ⟨wR (by decide +kernel), rfl⟩ (by decide) ?_
      refine w_invV (Z := Y_Po_readFeature) (idx := 228) (kb := 17) (As := [.int 19]) (rest := []) (pc' := 35) cl_7_228 rfl ⟨rfl, rfl⟩ ykfa_17_0 rfl (rm_o (by decide) (by decide) ⟨rfl, rfl⟩) ⟨wR (by decide +kernel), rfl⟩ rfl rfl (Nat.le_of_ble_eq_true rfl) rfl rfl ?_
      refine sF_Po_readFeature h (fun v16 σ16 h => ?_)
      show Wz E (withR Y_Po_readComparisonR (rmN (R + 1))) 35 [(0, .ref 17), (1, .int a1)] [.int v16] σ16 K
      obtain ⟨hg17, h⟩ := h
      exact z_iret (ty := .boolean) rfl (j_bool hg17).1 (wR (by decide +kernel)) (k _ _ h)
  · have h := h.1 (qi_ne_f rfl (by decide) h2)
    refine z_iconst (i := 0) (v := 0) (pc' := 9) ⟨wR (by decide +kernel), rfl⟩ (by decide) ?_
    exact z_iret (ty := .boolean) rfl (by rfl) (wR (by decide +kernel)) (k _ _ h)
noncomputable def W_Po_readBothWays_b52 (G : Nat → Int32 → zS → (Int32 → zS → Prop) → Prop) (x1 : Int32) (x2 : Int32) (x3 : Int32) (σ : zS) (Q : Int32 → zS → Prop) : Prop := ∀ σ1 : zS, zI σ 17 14 x2 = σ1 → (∀ σ2 : zS, zI σ1 17 15 x3 = σ2 → (G 5 x1 σ2 (fun v3 σ3 => ((Int32.toInt v3) = 0 → (∀ r5 : Int32, r5.toInt = max (Int32.toInt (σ3.1 17 16)) (Int32.toInt (σ.1 17 16)) → (∀ σ6 : zS, zI σ3 17 16 r5 = σ6 → (Q 0 σ6)))) ∧ (¬ (Int32.toInt v3) = 0 → (Q 1 σ3)))))
theorem sb_Po_readBothWays_52 {E : xV} {R : Nat} {σ : zS} {K : zKt} {G : Nat → Int32 → zS → (Int32 → zS → Prop) → Prop} {x1 : Int32} {x2 : Int32} {x3 : Int32} {Q : Int32 → zS → Prop} (g : ∀ (m : Nat) (d : Int32) (σ : zS) (Q : Int32 → zS → Prop) (K : zKt), G m d σ Q → (∀ v s, Q v s → K (some (.int v)) s) → Cz E (withR (Ypo m) (rmN R)) [.ref 17, .int d] σ K) (k : ∀ v s, Q v s → K (some (.int v)) s) (h : W_Po_readBothWays_b52 G x1 x2 x3 σ Q) : Wz E (withR Y_Po_readBothWays (rmN (R + 1))) 52 [(0, .ref 17), (1, .int x1), (2, .int x2), (3, .int x3)] [] σ K := by
  unfold W_Po_readBothWays_b52 at h
  refine z_aload_n (f := 0) (i := 0) (q := 0) (pc' := 53) ⟨wR (by decide +kernel), rfl⟩ rfl rfl ?_
  refine w_geti (k := 17) (j := 16) (idx := 80) (pc' := 56) yfxe_7_80 ykfa_17_16 ⟨wR (by decide +kernel), rfl⟩ ?_
  refine z_istore (i := 4) (pc' := 58) ⟨wR (by decide +kernel), rfl⟩ (wQ (by decide)) rfl ?_
  show Wz E (withR Y_Po_readBothWays (rmN (R + 1))) 58 [(4, .int (σ.1 17 16)), (0, .ref 17), (1, .int x1), (2, .int x2), (3, .int x3)] [] σ K
  refine z_aload_n (f := 0) (i := 0) (q := 1) (pc' := 59) ⟨wR (by decide +kernel), rfl⟩ rfl rfl ?_
  refine z_iload_n (f := 2) (i := 2) (q := 3) (pc' := 60) ⟨wR (by decide +kernel), rfl⟩ rfl rfl ?_
  refine w_puti (k := 17) (j := 14) (idx := 63) (pc' := 63) yfxi_7_63 ykfa_17_14 ⟨wR (by decide +kernel), rfl⟩ ?_
  generalize hs1 : zI σ 17 14 x2 = σ1
  have h := h σ1 hs1
  refine z_aload_n (f := 0) (i := 0) (q := 1) (pc' := 64) ⟨wR (by decide +kernel), rfl⟩ rfl rfl ?_
  refine z_iload_n (f := 3) (i := 3) (q := 4) (pc' := 65) ⟨wR (by decide +kernel), rfl⟩ rfl rfl ?_
  refine w_puti (k := 17) (j := 15) (idx := 69) (pc' := 68) yfxi_7_69 ykfa_17_15 ⟨wR (by decide +kernel), rfl⟩ ?_
  generalize hs2 : zI σ1 17 15 x3 = σ2
  have h := h σ2 hs2
  refine z_aload_n (f := 0) (i := 0) (q := 1) (pc' := 69) ⟨wR (by decide +kernel), rfl⟩ rfl rfl ?_
  refine z_iload_n (f := 1) (i := 1) (q := 2) (pc' := 70) ⟨wR (by decide +kernel), rfl⟩ rfl rfl ?_
  refine w_invVR (Z := Y_Po_readComparisonR) (idx := 234) (kb := 17) (As := [.int x1]) (rest := []) (pc' := 73) cl_7_234 rfl ⟨rfl, rfl⟩ ykfa_17_0 rfl (rm_i (by decide)) ⟨wR (by decide +kernel), rfl⟩ rfl rfl (Nat.le_of_ble_eq_true rfl) rfl rfl ?_
  refine g 5 _ _ _ _ h (fun v3 σ3 h => ?_)
  show Wz E (withR Y_Po_readBothWays (rmN (R + 1))) 73 [(4, .int (σ.1 17 16)), (0, .ref 17), (1, .int x1), (2, .int x2), (3, .int x3)] [.int v3] σ3 K
  refine z_if_eq (off := 5) (tgt := 78) (pc' := 76) ⟨wR (by decide +kernel), by decide, rfl⟩ (fun h4 => ?_) (fun h4 => ?_)
  · have h := h.1 (qi_eq_t rfl (by decide) h4)
    refine z_aload_n (f := 0) (i := 0) (q := 1) (pc' := 79) ⟨wR (by decide +kernel), rfl⟩ rfl rfl ?_
    refine z_aload_n (f := 0) (i := 0) (q := 1) (pc' := 80) ⟨wR (by decide +kernel), rfl⟩ rfl rfl ?_
    refine w_geti (k := 17) (j := 16) (idx := 80) (pc' := 83) yfxe_7_80 ykfa_17_16 ⟨wR (by decide +kernel), rfl⟩ ?_
    refine z_iload (i := 4) (q := 0) (pc' := 85) ⟨wR (by decide +kernel), rfl⟩ rfl ?_
    refine w_maxR (m := 99) (idx := 178) (pc' := 88) rfl (by decide) (by decide +kernel) (Nat.le_of_ble_eq_true rfl) ⟨wR (by decide +kernel), rfl⟩ ?_
    have h := h (if (σ3.1 17 16) < (σ.1 17 16) then (σ.1 17 16) else (σ3.1 17 16)) (ma_okj9 rfl rfl)
    generalize (if (σ3.1 17 16) < (σ.1 17 16) then (σ.1 17 16) else (σ3.1 17 16)) = r5 at h ⊢
    refine w_puti (k := 17) (j := 16) (idx := 80) (pc' := 91) yfxi_7_80 ykfa_17_16 ⟨wR (by decide +kernel), rfl⟩ ?_
    generalize hs6 : zI σ3 17 16 r5 = σ6
    have h := h σ6 hs6
    refine z_iconst (i := 0) (v := 0) (pc' := 92) ⟨wR (by decide +kernel), rfl⟩ (by decide) ?_
    exact z_iret (ty := .boolean) rfl (by rfl) (wR (by decide +kernel)) (k _ _ h)
  · have h := h.2 (qi_eq_f rfl (by decide) h4)
    refine z_iconst (i := 1) (v := 1) (pc' := 77) ⟨wR (by decide +kernel), rfl⟩ (by decide) ?_
    exact z_iret (ty := .boolean) rfl (by rfl) (wR (by decide +kernel)) (k _ _ h)
noncomputable def W_Po_readBothWays (G : Nat → Int32 → zS → (Int32 → zS → Prop) → Prop) (a1 : Int32) (σ : zS) (Q : Int32 → zS → Prop) : Prop := ((Int32.toInt a1) < 20 → ((-2147483648 ≤ (Int32.toInt (σ.1 17 14)) + 1 ∧ (Int32.toInt (σ.1 17 14)) + 1 ≤ 2147483647) ∧ ∀ r2 : Int32, r2.toInt = (Int32.toInt (σ.1 17 14)) + 1 → (∀ σ3 : zS, zI σ 17 14 r2 = σ3 → ((-2147483648 ≤ (Int32.toInt a1) + 1 ∧ (Int32.toInt a1) + 1 ≤ 2147483647) ∧ ∀ r4 : Int32, r4.toInt = (Int32.toInt a1) + 1 → (G 9 r4 σ3 (fun v5 σ5 => ((Int32.toInt v5) = 0 → (W_Po_readBothWays_b52 G  a1 (σ.1 17 14) (σ.1 17 15) σ5 Q)) ∧ (¬ (Int32.toInt v5) = 0 → (W_Po_passes 41 σ5 (fun v7 σ7 => ((Int32.toInt v7) = 0 → (W_Po_readBothWays_b52 G  a1 (σ.1 17 14) (σ.1 17 15) σ7 Q)) ∧ (¬ (Int32.toInt v7) = 0 → (Q 1 σ7))))))))))) ∧ (¬ (Int32.toInt a1) < 20 → (W_Po_fail  σ (fun v9 σ9 => (v9 = 0 ∨ v9 = 1) ∧ (Q v9 σ9))))
theorem sF_Po_readBothWays {E : xV} {R : Nat} {σ : zS} {K : zKt} {G : Nat → Int32 → zS → (Int32 → zS → Prop) → Prop} {a1 : Int32} {Q : Int32 → zS → Prop} (g : ∀ (m : Nat) (d : Int32) (σ : zS) (Q : Int32 → zS → Prop) (K : zKt), G m d σ Q → (∀ v s, Q v s → K (some (.int v)) s) → Cz E (withR (Ypo m) (rmN R)) [.ref 17, .int d] σ K) (h : W_Po_readBothWays G a1 σ Q) (k : ∀ v s, Q v s → K (some (.int v)) s) : Cz E (withR Y_Po_readBothWays (rmN (R + 1))) [.ref 17, .int a1] σ K := by
  refine z_entry (show plainName Y_Po_readBothWays.1.cls = true by decide) (fun a => by rw [sl_len]; exact Nat.le_of_ble_eq_true rfl) rfl ?_
  unfold W_Po_readBothWays at h
  refine z_iload_n (f := 1) (i := 1) (q := 1) (pc' := 1) ⟨wR (by decide +kernel), rfl⟩ rfl rfl ?_
  refine z_bipush (i := 20) (v := 20) (pc' := 3) ⟨wR (by decide +kernel), rfl⟩ (by decide) ?_
  refine z_icmp_lt (off := 8) (tgt := 11) (pc' := 6) ⟨wR (by decide +kernel), by decide, rfl⟩ (fun h1 => ?_) (fun h1 => ?_)
  · have h := h.1 (qi_lt_t rfl (by decide) h1)
    refine z_aload_n (f := 0) (i := 0) (q := 0) (pc' := 12) ⟨wR (by decide +kernel), rfl⟩ rfl rfl ?_
    refine w_geti (k := 17) (j := 14) (idx := 63) (pc' := 15) yfxe_7_63 ykfa_17_14 ⟨wR (by decide +kernel), rfl⟩ ?_
    refine z_istore_n (f := 2) (i := 2) (pc' := 16) ⟨wR (by decide +kernel), rfl⟩ rfl (wQ (by decide)) rfl ?_
    show Wz E (withR Y_Po_readBothWays (rmN (R + 1))) 16 [(2, .int (σ.1 17 14)), (0, .ref 17), (1, .int a1)] [] σ K
    refine z_aload_n (f := 0) (i := 0) (q := 1) (pc' := 17) ⟨wR (by decide +kernel), rfl⟩ rfl rfl ?_
    refine w_geti (k := 17) (j := 15) (idx := 69) (pc' := 20) yfxe_7_69 ykfa_17_15 ⟨wR (by decide +kernel), rfl⟩ ?_
    refine z_istore_n (f := 3) (i := 3) (pc' := 21) ⟨wR (by decide +kernel), rfl⟩ rfl (wQ (by decide)) rfl ?_
    show Wz E (withR Y_Po_readBothWays (rmN (R + 1))) 21 [(3, .int (σ.1 17 15)), (2, .int (σ.1 17 14)), (0, .ref 17), (1, .int a1)] [] σ K
    refine z_aload_n (f := 0) (i := 0) (q := 2) (pc' := 22) ⟨wR (by decide +kernel), rfl⟩ rfl rfl ?_
    refine z_dupr (pc' := 23) ⟨wR (by decide +kernel), rfl⟩ ?_
    refine w_geti (k := 17) (j := 14) (idx := 63) (pc' := 26) yfxe_7_63 ykfa_17_14 ⟨wR (by decide +kernel), rfl⟩ ?_
    refine z_iconst (i := 1) (v := 1) (pc' := 27) ⟨wR (by decide +kernel), rfl⟩ (by decide) ?_
    refine z_iadd (pc' := 28) ⟨wR (by decide +kernel), rfl⟩ ?_
    obtain ⟨hb2, h⟩ := h
    have h := h ((σ.1 17 14) + 1) (ia_ok rfl (by decide) hb2)
    generalize ((σ.1 17 14) + 1) = r2 at h ⊢
    refine w_puti (k := 17) (j := 14) (idx := 63) (pc' := 31) yfxi_7_63 ykfa_17_14 ⟨wR (by decide +kernel), rfl⟩ ?_
    generalize hs3 : zI σ 17 14 r2 = σ3
    have h := h σ3 hs3
    refine z_aload_n (f := 0) (i := 0) (q := 2) (pc' := 32) ⟨wR (by decide +kernel), rfl⟩ rfl rfl ?_
    refine z_iload_n (f := 1) (i := 1) (q := 3) (pc' := 33) ⟨wR (by decide +kernel), rfl⟩ rfl rfl ?_
    refine z_iconst (i := 1) (v := 1) (pc' := 34) ⟨wR (by decide +kernel), rfl⟩ (by decide) ?_
    refine z_iadd (pc' := 35) ⟨wR (by decide +kernel), rfl⟩ ?_
    obtain ⟨hb4, h⟩ := h
    have h := h (a1 + 1) (ia_ok rfl (by decide) hb4)
    generalize (a1 + 1) = r4 at h ⊢
    refine w_invVR (Z := Y_Po_readCondition) (idx := 162) (kb := 17) (As := [.int r4]) (rest := []) (pc' := 38) cl_7_162 rfl ⟨rfl, rfl⟩ ykfa_17_0 rfl (rm_i (by decide)) ⟨wR (by decide +kernel), rfl⟩ rfl rfl (Nat.le_of_ble_eq_true rfl) rfl rfl ?_
    refine g 9 _ _ _ _ h (fun v5 σ5 h => ?_)
    show Wz E (withR Y_Po_readBothWays (rmN (R + 1))) 38 [(3, .int (σ.1 17 15)), (2, .int (σ.1 17 14)), (0, .ref 17), (1, .int a1)] [.int v5] σ5 K
    refine z_if_eq (off := 14) (tgt := 52) (pc' := 41) ⟨wR (by decide +kernel), by decide, rfl⟩ (fun h6 => ?_) (fun h6 => ?_)
    · have h := h.1 (qi_eq_t rfl (by decide) h6)
      refine z_sub [2, 3, 1, 0] rfl ?_
      exact sb_Po_readBothWays_52 g  k h
    · have h := h.2 (qi_eq_f rfl (by decide) h6)
      refine z_aload_n (f := 0) (i := 0) (q := 2) (pc' := 42) ⟨wR (by decide +kernel), rfl⟩ rfl rfl ?_
      refine z_bipush (i := 41) (v := 41) (pc' := 44) ⟨wR (by decide +kernel), rfl⟩ (by decide) ?_
      refine w_invV (Z := Y_Po_passes) (idx := 83) (kb := 17) (As := [.int 41]) (rest := []) (pc' := 47) cl_7_83 rfl ⟨rfl, rfl⟩ ykfa_17_0 rfl (rm_o (by decide) (by decide) ⟨rfl, rfl⟩) ⟨wR (by decide +kernel), rfl⟩ rfl rfl (Nat.le_of_ble_eq_true rfl) rfl rfl ?_
      refine sF_Po_passes h (fun v7 σ7 h => ?_)
      show Wz E (withR Y_Po_readBothWays (rmN (R + 1))) 47 [(3, .int (σ.1 17 15)), (2, .int (σ.1 17 14)), (0, .ref 17), (1, .int a1)] [.int v7] σ7 K
      refine z_if_eq (off := 5) (tgt := 52) (pc' := 50) ⟨wR (by decide +kernel), by decide, rfl⟩ (fun h8 => ?_) (fun h8 => ?_)
      · have h := h.1 (qi_eq_t rfl (by decide) h8)
        refine z_sub [2, 3, 1, 0] rfl ?_
        exact sb_Po_readBothWays_52 g  k h
      · have h := h.2 (qi_eq_f rfl (by decide) h8)
        refine z_iconst (i := 1) (v := 1) (pc' := 51) ⟨wR (by decide +kernel), rfl⟩ (by decide) ?_
        exact z_iret (ty := .boolean) rfl (by rfl) (wR (by decide +kernel)) (k _ _ h)
  · have h := h.2 (qi_lt_f rfl (by decide) h1)
    refine z_aload_n (f := 0) (i := 0) (q := 0) (pc' := 7) ⟨wR (by decide +kernel), rfl⟩ rfl rfl ?_
    refine w_invV (Z := Y_Po_fail) (idx := 140) (kb := 17) (As := []) (rest := []) (pc' := 10) cl_7_140 rfl ⟨rfl, rfl⟩ ykfa_17_0 rfl (rm_o (by decide) (by decide) ⟨rfl, rfl⟩) ⟨wR (by decide +kernel), rfl⟩ rfl rfl (Nat.le_of_ble_eq_true rfl) rfl rfl ?_
    refine sF_Po_fail h (fun v9 σ9 h => ?_)
    show Wz E (withR Y_Po_readBothWays (rmN (R + 1))) 10 [(0, .ref 17), (1, .int a1)] [.int v9] σ9 K
    obtain ⟨hg10, h⟩ := h
    exact z_iret (ty := .boolean) rfl (j_bool hg10).1 (wR (by decide +kernel)) (k _ _ h)
noncomputable def W_Po_readSuch (G : Nat → Int32 → zS → (Int32 → zS → Prop) → Prop) (a1 : Int32) (σ : zS) (Q : Int32 → zS → Prop) : Prop := W_Po_isWord 9 σ (fun v1 σ1 => ((Int32.toInt v1) = 0 → (W_Po_isWord 10 σ1 (fun v3 σ3 => ((Int32.toInt v3) = 0 → (W_Po_isSign 40 σ3 (fun v5 σ5 => ((Int32.toInt v5) = 0 → (G 5 a1 σ5 (fun v7 σ7 => (v7 = 0 ∨ v7 = 1) ∧ (Q v7 σ7)))) ∧ (¬ (Int32.toInt v5) = 0 → (G 6 a1 σ5 (fun v9 σ9 => (v9 = 0 ∨ v9 = 1) ∧ (Q v9 σ9))))))) ∧ (¬ (Int32.toInt v3) = 0 → ((-2147483648 ≤ (Int32.toInt (σ3.1 17 14)) + 1 ∧ (Int32.toInt (σ3.1 17 14)) + 1 ≤ 2147483647) ∧ ∀ r11 : Int32, r11.toInt = (Int32.toInt (σ3.1 17 14)) + 1 → (∀ σ12 : zS, zI σ3 17 14 r11 = σ12 → (W_Po_readFeature 20 σ12 (fun v13 σ13 => (v13 = 0 ∨ v13 = 1) ∧ (Q v13 σ13))))))))) ∧ (¬ (Int32.toInt v1) = 0 → (((Int32.toInt a1) < 20 → ((-2147483648 ≤ (Int32.toInt (σ1.1 17 14)) + 1 ∧ (Int32.toInt (σ1.1 17 14)) + 1 ≤ 2147483647) ∧ ∀ r16 : Int32, r16.toInt = (Int32.toInt (σ1.1 17 14)) + 1 → (∀ σ17 : zS, zI σ1 17 14 r16 = σ17 → ((-2147483648 ≤ (Int32.toInt a1) + 1 ∧ (Int32.toInt a1) + 1 ≤ 2147483647) ∧ ∀ r18 : Int32, r18.toInt = (Int32.toInt a1) + 1 → (G 7 r18 σ17 (fun v19 σ19 => ((Int32.toInt v19) = 0 → (Q 0 σ19)) ∧ (¬ (Int32.toInt v19) = 0 → (W_Po_emit 21 0 σ19 (fun _ σ21 => Q 1 σ21))))))))) ∧ (¬ (Int32.toInt a1) < 20 → (W_Po_fail  σ1 (fun v22 σ22 => (v22 = 0 ∨ v22 = 1) ∧ (Q v22 σ22)))))))
theorem sF_Po_readSuch {E : xV} {R : Nat} {σ : zS} {K : zKt} {G : Nat → Int32 → zS → (Int32 → zS → Prop) → Prop} {a1 : Int32} {Q : Int32 → zS → Prop} (g : ∀ (m : Nat) (d : Int32) (σ : zS) (Q : Int32 → zS → Prop) (K : zKt), G m d σ Q → (∀ v s, Q v s → K (some (.int v)) s) → Cz E (withR (Ypo m) (rmN R)) [.ref 17, .int d] σ K) (h : W_Po_readSuch G a1 σ Q) (k : ∀ v s, Q v s → K (some (.int v)) s) : Cz E (withR Y_Po_readSuch (rmN (R + 1))) [.ref 17, .int a1] σ K := by
  refine z_entry (show plainName Y_Po_readSuch.1.cls = true by decide) (fun a => by rw [sl_len]; exact Nat.le_of_ble_eq_true rfl) rfl ?_
  unfold W_Po_readSuch at h
  refine z_aload_n (f := 0) (i := 0) (q := 0) (pc' := 1) ⟨wR (by decide +kernel), rfl⟩ rfl rfl ?_
  refine z_ldcS (i := 9) (pc' := 3) rfl rfl ⟨wR (by decide +kernel), rfl⟩ ?_
  show Wz E (withR Y_Po_readSuch (rmN (R + 1))) 3 [(0, .ref 17), (1, .int a1)] (.ref (1000 + 9) :: [.ref 17]) σ K
  refine w_invV (Z := Y_Po_isWord) (idx := 158) (kb := 17) (As := [.ref (1000 + 9)]) (rest := []) (pc' := 6) cl_7_158 rfl ⟨rfl, rfl⟩ ykfa_17_0 rfl (rm_o (by decide) (by decide) ⟨rfl, rfl⟩) ⟨wR (by decide +kernel), rfl⟩ rfl rfl (Nat.le_of_ble_eq_true rfl) rfl rfl ?_
  refine sF_Po_isWord (by decide) h (fun v1 σ1 h => ?_)
  show Wz E (withR Y_Po_readSuch (rmN (R + 1))) 6 [(0, .ref 17), (1, .int a1)] [.int v1] σ1 K
  refine z_if_eq (off := 45) (tgt := 51) (pc' := 9) ⟨wR (by decide +kernel), by decide, rfl⟩ (fun h2 => ?_) (fun h2 => ?_)
  · have h := h.1 (qi_eq_t rfl (by decide) h2)
    refine z_aload_n (f := 0) (i := 0) (q := 0) (pc' := 52) ⟨wR (by decide +kernel), rfl⟩ rfl rfl ?_
    refine z_ldcS (i := 10) (pc' := 54) rfl rfl ⟨wR (by decide +kernel), rfl⟩ ?_
    show Wz E (withR Y_Po_readSuch (rmN (R + 1))) 54 [(0, .ref 17), (1, .int a1)] (.ref (1000 + 10) :: [.ref 17]) σ1 K
    refine w_invV (Z := Y_Po_isWord) (idx := 158) (kb := 17) (As := [.ref (1000 + 10)]) (rest := []) (pc' := 57) cl_7_158 rfl ⟨rfl, rfl⟩ ykfa_17_0 rfl (rm_o (by decide) (by decide) ⟨rfl, rfl⟩) ⟨wR (by decide +kernel), rfl⟩ rfl rfl (Nat.le_of_ble_eq_true rfl) rfl rfl ?_
    refine sF_Po_isWord (by decide) h (fun v3 σ3 h => ?_)
    show Wz E (withR Y_Po_readSuch (rmN (R + 1))) 57 [(0, .ref 17), (1, .int a1)] [.int v3] σ3 K
    refine z_if_eq (off := 20) (tgt := 77) (pc' := 60) ⟨wR (by decide +kernel), by decide, rfl⟩ (fun h4 => ?_) (fun h4 => ?_)
    · have h := h.1 (qi_eq_t rfl (by decide) h4)
      refine z_aload_n (f := 0) (i := 0) (q := 0) (pc' := 78) ⟨wR (by decide +kernel), rfl⟩ rfl rfl ?_
      refine z_bipush (i := 40) (v := 40) (pc' := 80) ⟨wR (by decide +kernel), rfl⟩ (by decide) ?_
      refine w_invV (Z := Y_Po_isSign) (idx := 137) (kb := 17) (As := [.int 40]) (rest := []) (pc' := 83) cl_7_137 rfl ⟨rfl, rfl⟩ ykfa_17_0 rfl (rm_o (by decide) (by decide) ⟨rfl, rfl⟩) ⟨wR (by decide +kernel), rfl⟩ rfl rfl (Nat.le_of_ble_eq_true rfl) rfl rfl ?_
      refine sF_Po_isSign h (fun v5 σ5 h => ?_)
      show Wz E (withR Y_Po_readSuch (rmN (R + 1))) 83 [(0, .ref 17), (1, .int a1)] [.int v5] σ5 K
      refine z_if_eq (off := 11) (tgt := 94) (pc' := 86) ⟨wR (by decide +kernel), by decide, rfl⟩ (fun h6 => ?_) (fun h6 => ?_)
      · have h := h.1 (qi_eq_t rfl (by decide) h6)
        refine z_aload_n (f := 0) (i := 0) (q := 0) (pc' := 95) ⟨wR (by decide +kernel), rfl⟩ rfl rfl ?_
        refine z_iload_n (f := 1) (i := 1) (q := 1) (pc' := 96) ⟨wR (by decide +kernel), rfl⟩ rfl rfl ?_
        refine w_invVR (Z := Y_Po_readComparisonR) (idx := 234) (kb := 17) (As := [.int a1]) (rest := []) (pc' := 99) cl_7_234 rfl ⟨rfl, rfl⟩ ykfa_17_0 rfl (rm_i (by decide)) ⟨wR (by decide +kernel), rfl⟩ rfl rfl (Nat.le_of_ble_eq_true rfl) rfl rfl ?_
        refine g 5 _ _ _ _ h (fun v7 σ7 h => ?_)
        show Wz E (withR Y_Po_readSuch (rmN (R + 1))) 99 [(0, .ref 17), (1, .int a1)] [.int v7] σ7 K
        obtain ⟨hg8, h⟩ := h
        exact z_iret (ty := .boolean) rfl (j_bool hg8).1 (wR (by decide +kernel)) (k _ _ h)
      · have h := h.2 (qi_eq_f rfl (by decide) h6)
        refine z_aload_n (f := 0) (i := 0) (q := 0) (pc' := 87) ⟨wR (by decide +kernel), rfl⟩ rfl rfl ?_
        refine z_iload_n (f := 1) (i := 1) (q := 1) (pc' := 88) ⟨wR (by decide +kernel), rfl⟩ rfl rfl ?_
        refine w_invVR (Z := Y_Po_readBothWays) (idx := 231) (kb := 17) (As := [.int a1]) (rest := []) (pc' := 91) cl_7_231 rfl ⟨rfl, rfl⟩ ykfa_17_0 rfl (rm_i (by decide)) ⟨wR (by decide +kernel), rfl⟩ rfl rfl (Nat.le_of_ble_eq_true rfl) rfl rfl ?_
        refine g 6 _ _ _ _ h (fun v9 σ9 h => ?_)
        show Wz E (withR Y_Po_readSuch (rmN (R + 1))) 91 [(0, .ref 17), (1, .int a1)] [.int v9] σ9 K
        refine z_goto (off := 8) (tgt := 99) (pc' := 94) ⟨wR (by decide +kernel), by decide, rfl⟩ ?_
        obtain ⟨hg10, h⟩ := h
        exact z_iret (ty := .boolean) rfl (j_bool hg10).1 (wR (by decide +kernel)) (k _ _ h)
    · have h := h.2 (qi_eq_f rfl (by decide) h4)
      refine z_aload_n (f := 0) (i := 0) (q := 0) (pc' := 61) ⟨wR (by decide +kernel), rfl⟩ rfl rfl ?_
      refine z_dupr (pc' := 62) ⟨wR (by decide +kernel), rfl⟩ ?_
      refine w_geti (k := 17) (j := 14) (idx := 63) (pc' := 65) yfxe_7_63 ykfa_17_14 ⟨wR (by decide +kernel), rfl⟩ ?_
      refine z_iconst (i := 1) (v := 1) (pc' := 66) ⟨wR (by decide +kernel), rfl⟩ (by decide) ?_
      refine z_iadd (pc' := 67) ⟨wR (by decide +kernel), rfl⟩ ?_
      obtain ⟨hb11, h⟩ := h
      have h := h ((σ3.1 17 14) + 1) (ia_ok rfl (by decide) hb11)
      generalize ((σ3.1 17 14) + 1) = r11 at h ⊢
      refine w_puti (k := 17) (j := 14) (idx := 63) (pc' := 70) yfxi_7_63 ykfa_17_14 ⟨wR (by decide +kernel), rfl⟩ ?_
      generalize hs12 : zI σ3 17 14 r11 = σ12
      have h := h σ12 hs12
      refine z_aload_n (f := 0) (i := 0) (q := 0) (pc' := 71) ⟨wR (by decide +kernel), rfl⟩ rfl rfl ?_
      refine z_bipush (i := 20) (v := 20) (pc' := 73) ⟨wR (by decide +kernel), rfl⟩ (by decide) ?_
      refine w_invV (Z := Y_Po_readFeature) (idx := 228) (kb := 17) (As := [.int 20]) (rest := []) (pc' := 76) cl_7_228 rfl ⟨rfl, rfl⟩ ykfa_17_0 rfl (rm_o (by decide) (by decide) ⟨rfl, rfl⟩) ⟨wR (by decide +kernel), rfl⟩ rfl rfl (Nat.le_of_ble_eq_true rfl) rfl rfl ?_
      refine sF_Po_readFeature h (fun v13 σ13 h => ?_)
      show Wz E (withR Y_Po_readSuch (rmN (R + 1))) 76 [(0, .ref 17), (1, .int a1)] [.int v13] σ13 K
      obtain ⟨hg14, h⟩ := h
      exact z_iret (ty := .boolean) rfl (j_bool hg14).1 (wR (by decide +kernel)) (k _ _ h)
  · have h := h.2 (qi_eq_f rfl (by decide) h2)
    refine z_iload_n (f := 1) (i := 1) (q := 1) (pc' := 10) ⟨wR (by decide +kernel), rfl⟩ rfl rfl ?_
    refine z_bipush (i := 20) (v := 20) (pc' := 12) ⟨wR (by decide +kernel), rfl⟩ (by decide) ?_
    refine z_icmp_lt (off := 8) (tgt := 20) (pc' := 15) ⟨wR (by decide +kernel), by decide, rfl⟩ (fun h15 => ?_) (fun h15 => ?_)
    · have h := h.1 (qi_lt_t rfl (by decide) h15)
      refine z_aload_n (f := 0) (i := 0) (q := 0) (pc' := 21) ⟨wR (by decide +kernel), rfl⟩ rfl rfl ?_
      refine z_dupr (pc' := 22) ⟨wR (by decide +kernel), rfl⟩ ?_
      refine w_geti (k := 17) (j := 14) (idx := 63) (pc' := 25) yfxe_7_63 ykfa_17_14 ⟨wR (by decide +kernel), rfl⟩ ?_
      refine z_iconst (i := 1) (v := 1) (pc' := 26) ⟨wR (by decide +kernel), rfl⟩ (by decide) ?_
      refine z_iadd (pc' := 27) ⟨wR (by decide +kernel), rfl⟩ ?_
      obtain ⟨hb16, h⟩ := h
      have h := h ((σ1.1 17 14) + 1) (ia_ok rfl (by decide) hb16)
      generalize ((σ1.1 17 14) + 1) = r16 at h ⊢
      refine w_puti (k := 17) (j := 14) (idx := 63) (pc' := 30) yfxi_7_63 ykfa_17_14 ⟨wR (by decide +kernel), rfl⟩ ?_
      generalize hs17 : zI σ1 17 14 r16 = σ17
      have h := h σ17 hs17
      refine z_aload_n (f := 0) (i := 0) (q := 0) (pc' := 31) ⟨wR (by decide +kernel), rfl⟩ rfl rfl ?_
      refine z_iload_n (f := 1) (i := 1) (q := 1) (pc' := 32) ⟨wR (by decide +kernel), rfl⟩ rfl rfl ?_
      refine z_iconst (i := 1) (v := 1) (pc' := 33) ⟨wR (by decide +kernel), rfl⟩ (by decide) ?_
      refine z_iadd (pc' := 34) ⟨wR (by decide +kernel), rfl⟩ ?_
      obtain ⟨hb18, h⟩ := h
      have h := h (a1 + 1) (ia_ok rfl (by decide) hb18)
      generalize (a1 + 1) = r18 at h ⊢
      refine w_invVR (Z := Y_Po_readSuch) (idx := 219) (kb := 17) (As := [.int r18]) (rest := []) (pc' := 37) cl_7_219 rfl ⟨rfl, rfl⟩ ykfa_17_0 rfl (rm_i (by decide)) ⟨wR (by decide +kernel), rfl⟩ rfl rfl (Nat.le_of_ble_eq_true rfl) rfl rfl ?_
      refine g 7 _ _ _ _ h (fun v19 σ19 h => ?_)
      show Wz E (withR Y_Po_readSuch (rmN (R + 1))) 37 [(0, .ref 17), (1, .int a1)] [.int v19] σ19 K
      refine z_if_ne (off := 5) (tgt := 42) (pc' := 40) ⟨wR (by decide +kernel), by decide, rfl⟩ (fun h20 => ?_) (fun h20 => ?_)
      · have h := h.2 (qi_ne_t rfl (by decide) h20)
        refine z_aload_n (f := 0) (i := 0) (q := 0) (pc' := 43) ⟨wR (by decide +kernel), rfl⟩ rfl rfl ?_
        refine z_bipush (i := 21) (v := 21) (pc' := 45) ⟨wR (by decide +kernel), rfl⟩ (by decide) ?_
        refine z_lconst (i := 0) (v := 0) (pc' := 46) ⟨wR (by decide +kernel), rfl⟩ (by decide) ?_
        refine w_invV (Z := Y_Po_emit) (idx := 211) (kb := 17) (As := [.int 21, .long 0]) (rest := []) (pc' := 49) cl_7_211 rfl ⟨rfl, rfl⟩ ykfa_17_0 rfl (rm_o (by decide) (by decide) ⟨rfl, rfl⟩) ⟨wR (by decide +kernel), rfl⟩ rfl rfl (Nat.le_of_ble_eq_true rfl) rfl rfl ?_
        refine sF_Po_emit h (fun _ σ21 h => ?_)
        show Wz E (withR Y_Po_readSuch (rmN (R + 1))) 49 [(0, .ref 17), (1, .int a1)] [] σ21 K
        refine z_iconst (i := 1) (v := 1) (pc' := 50) ⟨wR (by decide +kernel), rfl⟩ (by decide) ?_
        exact z_iret (ty := .boolean) rfl (by rfl) (wR (by decide +kernel)) (k _ _ h)
      · have h := h.1 (qi_ne_f rfl (by decide) h20)
        refine z_iconst (i := 0) (v := 0) (pc' := 41) ⟨wR (by decide +kernel), rfl⟩ (by decide) ?_
        exact z_iret (ty := .boolean) rfl (by rfl) (wR (by decide +kernel)) (k _ _ h)
    · have h := h.2 (qi_lt_f rfl (by decide) h15)
      refine z_aload_n (f := 0) (i := 0) (q := 0) (pc' := 16) ⟨wR (by decide +kernel), rfl⟩ rfl rfl ?_
      refine w_invV (Z := Y_Po_fail) (idx := 140) (kb := 17) (As := []) (rest := []) (pc' := 19) cl_7_140 rfl ⟨rfl, rfl⟩ ykfa_17_0 rfl (rm_o (by decide) (by decide) ⟨rfl, rfl⟩) ⟨wR (by decide +kernel), rfl⟩ rfl rfl (Nat.le_of_ble_eq_true rfl) rfl rfl ?_
      refine sF_Po_fail h (fun v22 σ22 h => ?_)
      show Wz E (withR Y_Po_readSuch (rmN (R + 1))) 19 [(0, .ref 17), (1, .int a1)] [.int v22] σ22 K
      obtain ⟨hg23, h⟩ := h
      exact z_iret (ty := .boolean) rfl (j_bool hg23).1 (wR (by decide +kernel)) (k _ _ h)
noncomputable def WB_Po_readPart_12 (G : Nat → Int32 → zS → (Int32 → zS → Prop) → Prop) (F12 : Int32 → Int32 → zS → (Int32 → zS → Prop) → Prop) (x1 : Int32) (x2 : Int32) (σ : zS) (Q : Int32 → zS → Prop) : Prop := (1200 ≤ (Int32.toInt x2) → (Q 1 σ)) ∧ (¬ 1200 ≤ (Int32.toInt x2) → (W_Po_isWord 18 σ (fun v2 σ2 => ((Int32.toInt v2) = 0 → (Q 1 σ2)) ∧ (¬ (Int32.toInt v2) = 0 → ((-2147483648 ≤ (Int32.toInt (σ2.1 17 14)) + 1 ∧ (Int32.toInt (σ2.1 17 14)) + 1 ≤ 2147483647) ∧ ∀ r4 : Int32, r4.toInt = (Int32.toInt (σ2.1 17 14)) + 1 → (∀ σ5 : zS, zI σ2 17 14 r4 = σ5 → (W_Po_emit 24 0 σ5 (fun _ σ6 => G 7 x1 σ6 (fun v7 σ7 => ((Int32.toInt v7) = 0 → (Q 0 σ7)) ∧ (¬ (Int32.toInt v7) = 0 → (W_Po_emit 22 0 σ7 (fun _ σ9 => W_Po_aimHere (σ5.1 17 15) σ9 (fun _ σ10 => (-2147483648 ≤ (Int32.toInt x2) + 1 ∧ (Int32.toInt x2) + 1 ≤ 2147483647) ∧ ∀ r11 : Int32, r11.toInt = (Int32.toInt x2) + 1 → (F12 x1 r11 σ10 Q))))))))))))))
theorem sh_Po_readPart_12 {E : xV} {R : Nat} {σ : zS} {K : zKt} {G : Nat → Int32 → zS → (Int32 → zS → Prop) → Prop} {F12 : Int32 → Int32 → zS → (Int32 → zS → Prop) → Prop} {x1 : Int32} {x2 : Int32} {Q : Int32 → zS → Prop} (g : ∀ (m : Nat) (d : Int32) (σ : zS) (Q : Int32 → zS → Prop) (K : zKt), G m d σ Q → (∀ v s, Q v s → K (some (.int v)) s) → Cz E (withR (Ypo m) (rmN R)) [.ref 17, .int d] σ K) (f12 : ∀ (x1 : Int32) (x2 : Int32) (σ : zS), F12 x1 x2 σ Q → Wz E (withR Y_Po_readPart (rmN (R + 1))) 12 [(0, .ref 17), (1, .int x1), (2, .int x2)] [] σ K) (k : ∀ v s, Q v s → K (some (.int v)) s) (h : WB_Po_readPart_12 G F12 x1 x2 σ Q) : Wz E (withR Y_Po_readPart (rmN (R + 1))) 12 [(0, .ref 17), (1, .int x1), (2, .int x2)] [] σ K := by
  unfold WB_Po_readPart_12 at h
  refine z_iload_n (f := 2) (i := 2) (q := 2) (pc' := 13) ⟨wR (by decide +kernel), rfl⟩ rfl rfl ?_
  refine z_sipush (i := 1200) (v := 1200) (pc' := 16) ⟨wR (by decide +kernel), rfl⟩ (by decide) ?_
  refine z_icmp_ge (off := 62) (tgt := 78) (pc' := 19) ⟨wR (by decide +kernel), by decide, rfl⟩ (fun h1 => ?_) (fun h1 => ?_)
  · have h := h.1 (qi_ge_t rfl (by decide) h1)
    refine z_iconst (i := 1) (v := 1) (pc' := 79) ⟨wR (by decide +kernel), rfl⟩ (by decide) ?_
    exact z_iret (ty := .boolean) rfl (by rfl) (wR (by decide +kernel)) (k _ _ h)
  · have h := h.2 (qi_ge_f rfl (by decide) h1)
    refine z_aload_n (f := 0) (i := 0) (q := 0) (pc' := 20) ⟨wR (by decide +kernel), rfl⟩ rfl rfl ?_
    refine z_ldcS (i := 18) (pc' := 22) rfl rfl ⟨wR (by decide +kernel), rfl⟩ ?_
    show Wz E (withR Y_Po_readPart (rmN (R + 1))) 22 [(0, .ref 17), (1, .int x1), (2, .int x2)] (.ref (1000 + 18) :: [.ref 17]) σ K
    refine w_invV (Z := Y_Po_isWord) (idx := 158) (kb := 17) (As := [.ref (1000 + 18)]) (rest := []) (pc' := 25) cl_7_158 rfl ⟨rfl, rfl⟩ ykfa_17_0 rfl (rm_o (by decide) (by decide) ⟨rfl, rfl⟩) ⟨wR (by decide +kernel), rfl⟩ rfl rfl (Nat.le_of_ble_eq_true rfl) rfl rfl ?_
    refine sF_Po_isWord (by decide) h (fun v2 σ2 h => ?_)
    show Wz E (withR Y_Po_readPart (rmN (R + 1))) 25 [(0, .ref 17), (1, .int x1), (2, .int x2)] [.int v2] σ2 K
    refine z_if_eq (off := 53) (tgt := 78) (pc' := 28) ⟨wR (by decide +kernel), by decide, rfl⟩ (fun h3 => ?_) (fun h3 => ?_)
    · have h := h.1 (qi_eq_t rfl (by decide) h3)
      refine z_iconst (i := 1) (v := 1) (pc' := 79) ⟨wR (by decide +kernel), rfl⟩ (by decide) ?_
      exact z_iret (ty := .boolean) rfl (by rfl) (wR (by decide +kernel)) (k _ _ h)
    · have h := h.2 (qi_eq_f rfl (by decide) h3)
      refine z_aload_n (f := 0) (i := 0) (q := 0) (pc' := 29) ⟨wR (by decide +kernel), rfl⟩ rfl rfl ?_
      refine z_dupr (pc' := 30) ⟨wR (by decide +kernel), rfl⟩ ?_
      refine w_geti (k := 17) (j := 14) (idx := 63) (pc' := 33) yfxe_7_63 ykfa_17_14 ⟨wR (by decide +kernel), rfl⟩ ?_
      refine z_iconst (i := 1) (v := 1) (pc' := 34) ⟨wR (by decide +kernel), rfl⟩ (by decide) ?_
      refine z_iadd (pc' := 35) ⟨wR (by decide +kernel), rfl⟩ ?_
      obtain ⟨hb4, h⟩ := h
      have h := h ((σ2.1 17 14) + 1) (ia_ok rfl (by decide) hb4)
      generalize ((σ2.1 17 14) + 1) = r4 at h ⊢
      refine w_puti (k := 17) (j := 14) (idx := 63) (pc' := 38) yfxi_7_63 ykfa_17_14 ⟨wR (by decide +kernel), rfl⟩ ?_
      generalize hs5 : zI σ2 17 14 r4 = σ5
      have h := h σ5 hs5
      refine z_aload_n (f := 0) (i := 0) (q := 0) (pc' := 39) ⟨wR (by decide +kernel), rfl⟩ rfl rfl ?_
      refine w_geti (k := 17) (j := 15) (idx := 69) (pc' := 42) yfxe_7_69 ykfa_17_15 ⟨wR (by decide +kernel), rfl⟩ ?_
      refine z_istore_n (f := 3) (i := 3) (pc' := 43) ⟨wR (by decide +kernel), rfl⟩ rfl (wQ (by decide)) rfl ?_
      show Wz E (withR Y_Po_readPart (rmN (R + 1))) 43 [(3, .int (σ5.1 17 15)), (0, .ref 17), (1, .int x1), (2, .int x2)] [] σ5 K
      refine z_aload_n (f := 0) (i := 0) (q := 1) (pc' := 44) ⟨wR (by decide +kernel), rfl⟩ rfl rfl ?_
      refine z_bipush (i := 24) (v := 24) (pc' := 46) ⟨wR (by decide +kernel), rfl⟩ (by decide) ?_
      refine z_lconst (i := 0) (v := 0) (pc' := 47) ⟨wR (by decide +kernel), rfl⟩ (by decide) ?_
      refine w_invV (Z := Y_Po_emit) (idx := 211) (kb := 17) (As := [.int 24, .long 0]) (rest := []) (pc' := 50) cl_7_211 rfl ⟨rfl, rfl⟩ ykfa_17_0 rfl (rm_o (by decide) (by decide) ⟨rfl, rfl⟩) ⟨wR (by decide +kernel), rfl⟩ rfl rfl (Nat.le_of_ble_eq_true rfl) rfl rfl ?_
      refine sF_Po_emit h (fun _ σ6 h => ?_)
      show Wz E (withR Y_Po_readPart (rmN (R + 1))) 50 [(3, .int (σ5.1 17 15)), (0, .ref 17), (1, .int x1), (2, .int x2)] [] σ6 K
      refine z_aload_n (f := 0) (i := 0) (q := 1) (pc' := 51) ⟨wR (by decide +kernel), rfl⟩ rfl rfl ?_
      refine z_iload_n (f := 1) (i := 1) (q := 2) (pc' := 52) ⟨wR (by decide +kernel), rfl⟩ rfl rfl ?_
      refine w_invVR (Z := Y_Po_readSuch) (idx := 219) (kb := 17) (As := [.int x1]) (rest := []) (pc' := 55) cl_7_219 rfl ⟨rfl, rfl⟩ ykfa_17_0 rfl (rm_i (by decide)) ⟨wR (by decide +kernel), rfl⟩ rfl rfl (Nat.le_of_ble_eq_true rfl) rfl rfl ?_
      refine g 7 _ _ _ _ h (fun v7 σ7 h => ?_)
      show Wz E (withR Y_Po_readPart (rmN (R + 1))) 55 [(3, .int (σ5.1 17 15)), (0, .ref 17), (1, .int x1), (2, .int x2)] [.int v7] σ7 K
      refine z_if_ne (off := 5) (tgt := 60) (pc' := 58) ⟨wR (by decide +kernel), by decide, rfl⟩ (fun h8 => ?_) (fun h8 => ?_)
      · have h := h.2 (qi_ne_t rfl (by decide) h8)
        refine z_aload_n (f := 0) (i := 0) (q := 1) (pc' := 61) ⟨wR (by decide +kernel), rfl⟩ rfl rfl ?_
        refine z_bipush (i := 22) (v := 22) (pc' := 63) ⟨wR (by decide +kernel), rfl⟩ (by decide) ?_
        refine z_lconst (i := 0) (v := 0) (pc' := 64) ⟨wR (by decide +kernel), rfl⟩ (by decide) ?_
        refine w_invV (Z := Y_Po_emit) (idx := 211) (kb := 17) (As := [.int 22, .long 0]) (rest := []) (pc' := 67) cl_7_211 rfl ⟨rfl, rfl⟩ ykfa_17_0 rfl (rm_o (by decide) (by decide) ⟨rfl, rfl⟩) ⟨wR (by decide +kernel), rfl⟩ rfl rfl (Nat.le_of_ble_eq_true rfl) rfl rfl ?_
        refine sF_Po_emit h (fun _ σ9 h => ?_)
        show Wz E (withR Y_Po_readPart (rmN (R + 1))) 67 [(3, .int (σ5.1 17 15)), (0, .ref 17), (1, .int x1), (2, .int x2)] [] σ9 K
        refine z_aload_n (f := 0) (i := 0) (q := 1) (pc' := 68) ⟨wR (by decide +kernel), rfl⟩ rfl rfl ?_
        refine z_iload_n (f := 3) (i := 3) (q := 0) (pc' := 69) ⟨wR (by decide +kernel), rfl⟩ rfl rfl ?_
        refine w_invV (Z := Y_Po_aimHere) (idx := 215) (kb := 17) (As := [.int (σ5.1 17 15)]) (rest := []) (pc' := 72) cl_7_215 rfl ⟨rfl, rfl⟩ ykfa_17_0 rfl (rm_o (by decide) (by decide) ⟨rfl, rfl⟩) ⟨wR (by decide +kernel), rfl⟩ rfl rfl (Nat.le_of_ble_eq_true rfl) rfl rfl ?_
        refine sF_Po_aimHere h (fun _ σ10 h => ?_)
        show Wz E (withR Y_Po_readPart (rmN (R + 1))) 72 [(3, .int (σ5.1 17 15)), (0, .ref 17), (1, .int x1), (2, .int x2)] [] σ10 K
        refine z_iinc (i := 2) (z := 1) (q := 3) (pc' := 75) ⟨wR (by decide +kernel), rfl⟩ rfl rfl (wQ (by decide)) rfl ?_
        show Wz E (withR Y_Po_readPart (rmN (R + 1))) 75 [(2, .int (x2 + Int32.ofInt 1)), (3, .int (σ5.1 17 15)), (0, .ref 17), (1, .int x1)] [] σ10 K
        obtain ⟨hb11, h⟩ := h
        have h := h (x2 + Int32.ofInt 1) (ia_ok rfl (by decide) hb11)
        generalize (x2 + Int32.ofInt 1) = r11 at h ⊢
        refine z_goto (off := (-63)) (tgt := 12) (pc' := 78) ⟨wR (by decide +kernel), by decide, rfl⟩ ?_
        refine z_sub [2, 3, 0] rfl ?_
        exact f12 _ _ _ h
      · have h := h.1 (qi_ne_f rfl (by decide) h8)
        refine z_iconst (i := 0) (v := 0) (pc' := 59) ⟨wR (by decide +kernel), rfl⟩ (by decide) ?_
        exact z_iret (ty := .boolean) rfl (by rfl) (wR (by decide +kernel)) (k _ _ h)
noncomputable def WL_Po_readPart (G : Nat → Int32 → zS → (Int32 → zS → Prop) → Prop) : Nat → (Int32 → Int32 → zS → (Int32 → zS → Prop) → Prop)
  | 0 => fun _ _ _ _ => False
  | n + 1 => WB_Po_readPart_12 G (WL_Po_readPart G n)
theorem wl_Po_readPart_12 (G : Nat → Int32 → zS → (Int32 → zS → Prop) → Prop) {n : Nat} {x1 : Int32} {x2 : Int32} {σ : zS} {Q : Int32 → zS → Prop} (h : WB_Po_readPart_12 G (WL_Po_readPart G n) x1 x2 σ Q) : (WL_Po_readPart G (n + 1)) x1 x2 σ Q := h
theorem sl_Po_readPart {E : xV} {R : Nat} {K : zKt} {G : Nat → Int32 → zS → (Int32 → zS → Prop) → Prop} {Q : Int32 → zS → Prop} (g : ∀ (m : Nat) (d : Int32) (σ : zS) (Q : Int32 → zS → Prop) (K : zKt), G m d σ Q → (∀ v s, Q v s → K (some (.int v)) s) → Cz E (withR (Ypo m) (rmN R)) [.ref 17, .int d] σ K) (k : ∀ v s, Q v s → K (some (.int v)) s) : ∀ n, (∀ (x1 : Int32) (x2 : Int32) (σ : zS), (WL_Po_readPart G n) x1 x2 σ Q → Wz E (withR Y_Po_readPart (rmN (R + 1))) 12 [(0, .ref 17), (1, .int x1), (2, .int x2)] [] σ K)
  | 0 => fun _ _ _ h => h.elim
  | n + 1 => by
    have i := sl_Po_readPart (E := E) g k n
    exact fun _ _ _ h => sh_Po_readPart_12 g i k h
noncomputable def W_Po_readPart (G : Nat → Int32 → zS → (Int32 → zS → Prop) → Prop) (a1 : Int32) (σ : zS) (Q : Int32 → zS → Prop) : Prop := G 7 a1 σ (fun v1 σ1 => ((Int32.toInt v1) = 0 → (Q 0 σ1)) ∧ (¬ (Int32.toInt v1) = 0 → ((WL_Po_readPart G fuF) a1 0 σ1 Q)))
theorem sF_Po_readPart {E : xV} {R : Nat} {σ : zS} {K : zKt} {G : Nat → Int32 → zS → (Int32 → zS → Prop) → Prop} {a1 : Int32} {Q : Int32 → zS → Prop} (g : ∀ (m : Nat) (d : Int32) (σ : zS) (Q : Int32 → zS → Prop) (K : zKt), G m d σ Q → (∀ v s, Q v s → K (some (.int v)) s) → Cz E (withR (Ypo m) (rmN R)) [.ref 17, .int d] σ K) (h : W_Po_readPart G a1 σ Q) (k : ∀ v s, Q v s → K (some (.int v)) s) : Cz E (withR Y_Po_readPart (rmN (R + 1))) [.ref 17, .int a1] σ K := by
  refine z_entry (show plainName Y_Po_readPart.1.cls = true by decide) (fun a => by rw [sl_len]; exact Nat.le_of_ble_eq_true rfl) rfl ?_
  unfold W_Po_readPart at h
  refine z_aload_n (f := 0) (i := 0) (q := 0) (pc' := 1) ⟨wR (by decide +kernel), rfl⟩ rfl rfl ?_
  refine z_iload_n (f := 1) (i := 1) (q := 1) (pc' := 2) ⟨wR (by decide +kernel), rfl⟩ rfl rfl ?_
  refine w_invVR (Z := Y_Po_readSuch) (idx := 219) (kb := 17) (As := [.int a1]) (rest := []) (pc' := 5) cl_7_219 rfl ⟨rfl, rfl⟩ ykfa_17_0 rfl (rm_i (by decide)) ⟨wR (by decide +kernel), rfl⟩ rfl rfl (Nat.le_of_ble_eq_true rfl) rfl rfl ?_
  refine g 7 _ _ _ _ h (fun v1 σ1 h => ?_)
  show Wz E (withR Y_Po_readPart (rmN (R + 1))) 5 [(0, .ref 17), (1, .int a1)] [.int v1] σ1 K
  refine z_if_ne (off := 5) (tgt := 10) (pc' := 8) ⟨wR (by decide +kernel), by decide, rfl⟩ (fun h2 => ?_) (fun h2 => ?_)
  · have h := h.2 (qi_ne_t rfl (by decide) h2)
    refine z_iconst (i := 0) (v := 0) (pc' := 11) ⟨wR (by decide +kernel), rfl⟩ (by decide) ?_
    refine z_istore_n (f := 2) (i := 2) (pc' := 12) ⟨wR (by decide +kernel), rfl⟩ rfl (wQ (by decide)) rfl ?_
    show Wz E (withR Y_Po_readPart (rmN (R + 1))) 12 [(2, .int 0), (0, .ref 17), (1, .int a1)] [] σ1 K
    refine z_sub [1, 2, 0] rfl ?_
    exact (sl_Po_readPart g k fuF) _ _ _ h
  · have h := h.1 (qi_ne_f rfl (by decide) h2)
    refine z_iconst (i := 0) (v := 0) (pc' := 9) ⟨wR (by decide +kernel), rfl⟩ (by decide) ?_
    exact z_iret (ty := .boolean) rfl (by rfl) (wR (by decide +kernel)) (k _ _ h)
noncomputable def WB_Po_readCondition_12 (G : Nat → Int32 → zS → (Int32 → zS → Prop) → Prop) (F12 : Int32 → Int32 → zS → (Int32 → zS → Prop) → Prop) (x1 : Int32) (x2 : Int32) (σ : zS) (Q : Int32 → zS → Prop) : Prop := (1200 ≤ (Int32.toInt x2) → (Q 1 σ)) ∧ (¬ 1200 ≤ (Int32.toInt x2) → (W_Po_isWord 19 σ (fun v2 σ2 => ((Int32.toInt v2) = 0 → (Q 1 σ2)) ∧ (¬ (Int32.toInt v2) = 0 → ((-2147483648 ≤ (Int32.toInt (σ2.1 17 14)) + 1 ∧ (Int32.toInt (σ2.1 17 14)) + 1 ≤ 2147483647) ∧ ∀ r4 : Int32, r4.toInt = (Int32.toInt (σ2.1 17 14)) + 1 → (∀ σ5 : zS, zI σ2 17 14 r4 = σ5 → (W_Po_emit 25 0 σ5 (fun _ σ6 => G 8 x1 σ6 (fun v7 σ7 => ((Int32.toInt v7) = 0 → (Q 0 σ7)) ∧ (¬ (Int32.toInt v7) = 0 → (W_Po_emit 23 0 σ7 (fun _ σ9 => W_Po_aimHere (σ5.1 17 15) σ9 (fun _ σ10 => (-2147483648 ≤ (Int32.toInt x2) + 1 ∧ (Int32.toInt x2) + 1 ≤ 2147483647) ∧ ∀ r11 : Int32, r11.toInt = (Int32.toInt x2) + 1 → (F12 x1 r11 σ10 Q))))))))))))))
theorem sh_Po_readCondition_12 {E : xV} {R : Nat} {σ : zS} {K : zKt} {G : Nat → Int32 → zS → (Int32 → zS → Prop) → Prop} {F12 : Int32 → Int32 → zS → (Int32 → zS → Prop) → Prop} {x1 : Int32} {x2 : Int32} {Q : Int32 → zS → Prop} (g : ∀ (m : Nat) (d : Int32) (σ : zS) (Q : Int32 → zS → Prop) (K : zKt), G m d σ Q → (∀ v s, Q v s → K (some (.int v)) s) → Cz E (withR (Ypo m) (rmN R)) [.ref 17, .int d] σ K) (f12 : ∀ (x1 : Int32) (x2 : Int32) (σ : zS), F12 x1 x2 σ Q → Wz E (withR Y_Po_readCondition (rmN (R + 1))) 12 [(0, .ref 17), (1, .int x1), (2, .int x2)] [] σ K) (k : ∀ v s, Q v s → K (some (.int v)) s) (h : WB_Po_readCondition_12 G F12 x1 x2 σ Q) : Wz E (withR Y_Po_readCondition (rmN (R + 1))) 12 [(0, .ref 17), (1, .int x1), (2, .int x2)] [] σ K := by
  unfold WB_Po_readCondition_12 at h
  refine z_iload_n (f := 2) (i := 2) (q := 2) (pc' := 13) ⟨wR (by decide +kernel), rfl⟩ rfl rfl ?_
  refine z_sipush (i := 1200) (v := 1200) (pc' := 16) ⟨wR (by decide +kernel), rfl⟩ (by decide) ?_
  refine z_icmp_ge (off := 62) (tgt := 78) (pc' := 19) ⟨wR (by decide +kernel), by decide, rfl⟩ (fun h1 => ?_) (fun h1 => ?_)
  · have h := h.1 (qi_ge_t rfl (by decide) h1)
    refine z_iconst (i := 1) (v := 1) (pc' := 79) ⟨wR (by decide +kernel), rfl⟩ (by decide) ?_
    exact z_iret (ty := .boolean) rfl (by rfl) (wR (by decide +kernel)) (k _ _ h)
  · have h := h.2 (qi_ge_f rfl (by decide) h1)
    refine z_aload_n (f := 0) (i := 0) (q := 0) (pc' := 20) ⟨wR (by decide +kernel), rfl⟩ rfl rfl ?_
    refine z_ldcS (i := 19) (pc' := 22) rfl rfl ⟨wR (by decide +kernel), rfl⟩ ?_
    show Wz E (withR Y_Po_readCondition (rmN (R + 1))) 22 [(0, .ref 17), (1, .int x1), (2, .int x2)] (.ref (1000 + 19) :: [.ref 17]) σ K
    refine w_invV (Z := Y_Po_isWord) (idx := 158) (kb := 17) (As := [.ref (1000 + 19)]) (rest := []) (pc' := 25) cl_7_158 rfl ⟨rfl, rfl⟩ ykfa_17_0 rfl (rm_o (by decide) (by decide) ⟨rfl, rfl⟩) ⟨wR (by decide +kernel), rfl⟩ rfl rfl (Nat.le_of_ble_eq_true rfl) rfl rfl ?_
    refine sF_Po_isWord (by decide) h (fun v2 σ2 h => ?_)
    show Wz E (withR Y_Po_readCondition (rmN (R + 1))) 25 [(0, .ref 17), (1, .int x1), (2, .int x2)] [.int v2] σ2 K
    refine z_if_eq (off := 53) (tgt := 78) (pc' := 28) ⟨wR (by decide +kernel), by decide, rfl⟩ (fun h3 => ?_) (fun h3 => ?_)
    · have h := h.1 (qi_eq_t rfl (by decide) h3)
      refine z_iconst (i := 1) (v := 1) (pc' := 79) ⟨wR (by decide +kernel), rfl⟩ (by decide) ?_
      exact z_iret (ty := .boolean) rfl (by rfl) (wR (by decide +kernel)) (k _ _ h)
    · have h := h.2 (qi_eq_f rfl (by decide) h3)
      refine z_aload_n (f := 0) (i := 0) (q := 0) (pc' := 29) ⟨wR (by decide +kernel), rfl⟩ rfl rfl ?_
      refine z_dupr (pc' := 30) ⟨wR (by decide +kernel), rfl⟩ ?_
      refine w_geti (k := 17) (j := 14) (idx := 63) (pc' := 33) yfxe_7_63 ykfa_17_14 ⟨wR (by decide +kernel), rfl⟩ ?_
      refine z_iconst (i := 1) (v := 1) (pc' := 34) ⟨wR (by decide +kernel), rfl⟩ (by decide) ?_
      refine z_iadd (pc' := 35) ⟨wR (by decide +kernel), rfl⟩ ?_
      obtain ⟨hb4, h⟩ := h
      have h := h ((σ2.1 17 14) + 1) (ia_ok rfl (by decide) hb4)
      generalize ((σ2.1 17 14) + 1) = r4 at h ⊢
      refine w_puti (k := 17) (j := 14) (idx := 63) (pc' := 38) yfxi_7_63 ykfa_17_14 ⟨wR (by decide +kernel), rfl⟩ ?_
      generalize hs5 : zI σ2 17 14 r4 = σ5
      have h := h σ5 hs5
      refine z_aload_n (f := 0) (i := 0) (q := 0) (pc' := 39) ⟨wR (by decide +kernel), rfl⟩ rfl rfl ?_
      refine w_geti (k := 17) (j := 15) (idx := 69) (pc' := 42) yfxe_7_69 ykfa_17_15 ⟨wR (by decide +kernel), rfl⟩ ?_
      refine z_istore_n (f := 3) (i := 3) (pc' := 43) ⟨wR (by decide +kernel), rfl⟩ rfl (wQ (by decide)) rfl ?_
      show Wz E (withR Y_Po_readCondition (rmN (R + 1))) 43 [(3, .int (σ5.1 17 15)), (0, .ref 17), (1, .int x1), (2, .int x2)] [] σ5 K
      refine z_aload_n (f := 0) (i := 0) (q := 1) (pc' := 44) ⟨wR (by decide +kernel), rfl⟩ rfl rfl ?_
      refine z_bipush (i := 25) (v := 25) (pc' := 46) ⟨wR (by decide +kernel), rfl⟩ (by decide) ?_
      refine z_lconst (i := 0) (v := 0) (pc' := 47) ⟨wR (by decide +kernel), rfl⟩ (by decide) ?_
      refine w_invV (Z := Y_Po_emit) (idx := 211) (kb := 17) (As := [.int 25, .long 0]) (rest := []) (pc' := 50) cl_7_211 rfl ⟨rfl, rfl⟩ ykfa_17_0 rfl (rm_o (by decide) (by decide) ⟨rfl, rfl⟩) ⟨wR (by decide +kernel), rfl⟩ rfl rfl (Nat.le_of_ble_eq_true rfl) rfl rfl ?_
      refine sF_Po_emit h (fun _ σ6 h => ?_)
      show Wz E (withR Y_Po_readCondition (rmN (R + 1))) 50 [(3, .int (σ5.1 17 15)), (0, .ref 17), (1, .int x1), (2, .int x2)] [] σ6 K
      refine z_aload_n (f := 0) (i := 0) (q := 1) (pc' := 51) ⟨wR (by decide +kernel), rfl⟩ rfl rfl ?_
      refine z_iload_n (f := 1) (i := 1) (q := 2) (pc' := 52) ⟨wR (by decide +kernel), rfl⟩ rfl rfl ?_
      refine w_invVR (Z := Y_Po_readPart) (idx := 206) (kb := 17) (As := [.int x1]) (rest := []) (pc' := 55) cl_7_206 rfl ⟨rfl, rfl⟩ ykfa_17_0 rfl (rm_i (by decide)) ⟨wR (by decide +kernel), rfl⟩ rfl rfl (Nat.le_of_ble_eq_true rfl) rfl rfl ?_
      refine g 8 _ _ _ _ h (fun v7 σ7 h => ?_)
      show Wz E (withR Y_Po_readCondition (rmN (R + 1))) 55 [(3, .int (σ5.1 17 15)), (0, .ref 17), (1, .int x1), (2, .int x2)] [.int v7] σ7 K
      refine z_if_ne (off := 5) (tgt := 60) (pc' := 58) ⟨wR (by decide +kernel), by decide, rfl⟩ (fun h8 => ?_) (fun h8 => ?_)
      · have h := h.2 (qi_ne_t rfl (by decide) h8)
        refine z_aload_n (f := 0) (i := 0) (q := 1) (pc' := 61) ⟨wR (by decide +kernel), rfl⟩ rfl rfl ?_
        refine z_bipush (i := 23) (v := 23) (pc' := 63) ⟨wR (by decide +kernel), rfl⟩ (by decide) ?_
        refine z_lconst (i := 0) (v := 0) (pc' := 64) ⟨wR (by decide +kernel), rfl⟩ (by decide) ?_
        refine w_invV (Z := Y_Po_emit) (idx := 211) (kb := 17) (As := [.int 23, .long 0]) (rest := []) (pc' := 67) cl_7_211 rfl ⟨rfl, rfl⟩ ykfa_17_0 rfl (rm_o (by decide) (by decide) ⟨rfl, rfl⟩) ⟨wR (by decide +kernel), rfl⟩ rfl rfl (Nat.le_of_ble_eq_true rfl) rfl rfl ?_
        refine sF_Po_emit h (fun _ σ9 h => ?_)
        show Wz E (withR Y_Po_readCondition (rmN (R + 1))) 67 [(3, .int (σ5.1 17 15)), (0, .ref 17), (1, .int x1), (2, .int x2)] [] σ9 K
        refine z_aload_n (f := 0) (i := 0) (q := 1) (pc' := 68) ⟨wR (by decide +kernel), rfl⟩ rfl rfl ?_
        refine z_iload_n (f := 3) (i := 3) (q := 0) (pc' := 69) ⟨wR (by decide +kernel), rfl⟩ rfl rfl ?_
        refine w_invV (Z := Y_Po_aimHere) (idx := 215) (kb := 17) (As := [.int (σ5.1 17 15)]) (rest := []) (pc' := 72) cl_7_215 rfl ⟨rfl, rfl⟩ ykfa_17_0 rfl (rm_o (by decide) (by decide) ⟨rfl, rfl⟩) ⟨wR (by decide +kernel), rfl⟩ rfl rfl (Nat.le_of_ble_eq_true rfl) rfl rfl ?_
        refine sF_Po_aimHere h (fun _ σ10 h => ?_)
        show Wz E (withR Y_Po_readCondition (rmN (R + 1))) 72 [(3, .int (σ5.1 17 15)), (0, .ref 17), (1, .int x1), (2, .int x2)] [] σ10 K
        refine z_iinc (i := 2) (z := 1) (q := 3) (pc' := 75) ⟨wR (by decide +kernel), rfl⟩ rfl rfl (wQ (by decide)) rfl ?_
        show Wz E (withR Y_Po_readCondition (rmN (R + 1))) 75 [(2, .int (x2 + Int32.ofInt 1)), (3, .int (σ5.1 17 15)), (0, .ref 17), (1, .int x1)] [] σ10 K
        obtain ⟨hb11, h⟩ := h
        have h := h (x2 + Int32.ofInt 1) (ia_ok rfl (by decide) hb11)
        generalize (x2 + Int32.ofInt 1) = r11 at h ⊢
        refine z_goto (off := (-63)) (tgt := 12) (pc' := 78) ⟨wR (by decide +kernel), by decide, rfl⟩ ?_
        refine z_sub [2, 3, 0] rfl ?_
        exact f12 _ _ _ h
      · have h := h.1 (qi_ne_f rfl (by decide) h8)
        refine z_iconst (i := 0) (v := 0) (pc' := 59) ⟨wR (by decide +kernel), rfl⟩ (by decide) ?_
        exact z_iret (ty := .boolean) rfl (by rfl) (wR (by decide +kernel)) (k _ _ h)
noncomputable def WL_Po_readCondition (G : Nat → Int32 → zS → (Int32 → zS → Prop) → Prop) : Nat → (Int32 → Int32 → zS → (Int32 → zS → Prop) → Prop)
  | 0 => fun _ _ _ _ => False
  | n + 1 => WB_Po_readCondition_12 G (WL_Po_readCondition G n)
theorem wl_Po_readCondition_12 (G : Nat → Int32 → zS → (Int32 → zS → Prop) → Prop) {n : Nat} {x1 : Int32} {x2 : Int32} {σ : zS} {Q : Int32 → zS → Prop} (h : WB_Po_readCondition_12 G (WL_Po_readCondition G n) x1 x2 σ Q) : (WL_Po_readCondition G (n + 1)) x1 x2 σ Q := h
theorem sl_Po_readCondition {E : xV} {R : Nat} {K : zKt} {G : Nat → Int32 → zS → (Int32 → zS → Prop) → Prop} {Q : Int32 → zS → Prop} (g : ∀ (m : Nat) (d : Int32) (σ : zS) (Q : Int32 → zS → Prop) (K : zKt), G m d σ Q → (∀ v s, Q v s → K (some (.int v)) s) → Cz E (withR (Ypo m) (rmN R)) [.ref 17, .int d] σ K) (k : ∀ v s, Q v s → K (some (.int v)) s) : ∀ n, (∀ (x1 : Int32) (x2 : Int32) (σ : zS), (WL_Po_readCondition G n) x1 x2 σ Q → Wz E (withR Y_Po_readCondition (rmN (R + 1))) 12 [(0, .ref 17), (1, .int x1), (2, .int x2)] [] σ K)
  | 0 => fun _ _ _ h => h.elim
  | n + 1 => by
    have i := sl_Po_readCondition (E := E) g k n
    exact fun _ _ _ h => sh_Po_readCondition_12 g i k h
noncomputable def W_Po_readCondition (G : Nat → Int32 → zS → (Int32 → zS → Prop) → Prop) (a1 : Int32) (σ : zS) (Q : Int32 → zS → Prop) : Prop := G 8 a1 σ (fun v1 σ1 => ((Int32.toInt v1) = 0 → (Q 0 σ1)) ∧ (¬ (Int32.toInt v1) = 0 → ((WL_Po_readCondition G fuF) a1 0 σ1 Q)))
theorem sF_Po_readCondition {E : xV} {R : Nat} {σ : zS} {K : zKt} {G : Nat → Int32 → zS → (Int32 → zS → Prop) → Prop} {a1 : Int32} {Q : Int32 → zS → Prop} (g : ∀ (m : Nat) (d : Int32) (σ : zS) (Q : Int32 → zS → Prop) (K : zKt), G m d σ Q → (∀ v s, Q v s → K (some (.int v)) s) → Cz E (withR (Ypo m) (rmN R)) [.ref 17, .int d] σ K) (h : W_Po_readCondition G a1 σ Q) (k : ∀ v s, Q v s → K (some (.int v)) s) : Cz E (withR Y_Po_readCondition (rmN (R + 1))) [.ref 17, .int a1] σ K := by
  refine z_entry (show plainName Y_Po_readCondition.1.cls = true by decide) (fun a => by rw [sl_len]; exact Nat.le_of_ble_eq_true rfl) rfl ?_
  unfold W_Po_readCondition at h
  refine z_aload_n (f := 0) (i := 0) (q := 0) (pc' := 1) ⟨wR (by decide +kernel), rfl⟩ rfl rfl ?_
  refine z_iload_n (f := 1) (i := 1) (q := 1) (pc' := 2) ⟨wR (by decide +kernel), rfl⟩ rfl rfl ?_
  refine w_invVR (Z := Y_Po_readPart) (idx := 206) (kb := 17) (As := [.int a1]) (rest := []) (pc' := 5) cl_7_206 rfl ⟨rfl, rfl⟩ ykfa_17_0 rfl (rm_i (by decide)) ⟨wR (by decide +kernel), rfl⟩ rfl rfl (Nat.le_of_ble_eq_true rfl) rfl rfl ?_
  refine g 8 _ _ _ _ h (fun v1 σ1 h => ?_)
  show Wz E (withR Y_Po_readCondition (rmN (R + 1))) 5 [(0, .ref 17), (1, .int a1)] [.int v1] σ1 K
  refine z_if_ne (off := 5) (tgt := 10) (pc' := 8) ⟨wR (by decide +kernel), by decide, rfl⟩ (fun h2 => ?_) (fun h2 => ?_)
  · have h := h.2 (qi_ne_t rfl (by decide) h2)
    refine z_iconst (i := 0) (v := 0) (pc' := 11) ⟨wR (by decide +kernel), rfl⟩ (by decide) ?_
    refine z_istore_n (f := 2) (i := 2) (pc' := 12) ⟨wR (by decide +kernel), rfl⟩ rfl (wQ (by decide)) rfl ?_
    show Wz E (withR Y_Po_readCondition (rmN (R + 1))) 12 [(2, .int 0), (0, .ref 17), (1, .int a1)] [] σ1 K
    refine z_sub [1, 2, 0] rfl ?_
    exact (sl_Po_readCondition g k fuF) _ _ _ h
  · have h := h.1 (qi_ne_f rfl (by decide) h2)
    refine z_iconst (i := 0) (v := 0) (pc' := 9) ⟨wR (by decide +kernel), rfl⟩ (by decide) ?_
    exact z_iret (ty := .boolean) rfl (by rfl) (wR (by decide +kernel)) (k _ _ h)
noncomputable def WRm : Nat → Nat → Int32 → zS → (Int32 → zS → Prop) → Prop
  | 0, _, _, _, _ => False
  | n + 1, 0, d, σ, Q => W_Po_readTerm (WRm n) d σ Q
  | n + 1, 1, d, σ, Q => W_Po_readNested (WRm n) d σ Q
  | n + 1, 2, d, σ, Q => W_Po_readItem (WRm n) d σ Q
  | n + 1, 3, d, σ, Q => W_Po_readProduct (WRm n) d σ Q
  | n + 1, 4, d, σ, Q => W_Po_readSum (WRm n) d σ Q
  | n + 1, 5, d, σ, Q => W_Po_readComparisonR (WRm n) d σ Q
  | n + 1, 6, d, σ, Q => W_Po_readBothWays (WRm n) d σ Q
  | n + 1, 7, d, σ, Q => W_Po_readSuch (WRm n) d σ Q
  | n + 1, 8, d, σ, Q => W_Po_readPart (WRm n) d σ Q
  | n + 1, _, d, σ, Q => W_Po_readCondition (WRm n) d σ Q
theorem sR_all {E : xV} : ∀ (R m : Nat) (d : Int32) (σ : zS) (Q : Int32 → zS → Prop) (K : zKt), WRm R m d σ Q → (∀ v s, Q v s → K (some (.int v)) s) → Cz E (withR (Ypo m) (rmN R)) [.ref 17, .int d] σ K
  | 0, _, _, _, _, _, h, _ => h.elim
  | R + 1, 0, d, σ, Q, K, h, k => sF_Po_readTerm (sR_all R) h k
  | R + 1, 1, d, σ, Q, K, h, k => sF_Po_readNested (sR_all R) h k
  | R + 1, 2, d, σ, Q, K, h, k => sF_Po_readItem (sR_all R) h k
  | R + 1, 3, d, σ, Q, K, h, k => sF_Po_readProduct (sR_all R) h k
  | R + 1, 4, d, σ, Q, K, h, k => sF_Po_readSum (sR_all R) h k
  | R + 1, 5, d, σ, Q, K, h, k => sF_Po_readComparisonR (sR_all R) h k
  | R + 1, 6, d, σ, Q, K, h, k => sF_Po_readBothWays (sR_all R) h k
  | R + 1, 7, d, σ, Q, K, h, k => sF_Po_readSuch (sR_all R) h k
  | R + 1, 8, d, σ, Q, K, h, k => sF_Po_readPart (sR_all R) h k
  | R + 1, _ + 9, d, σ, Q, K, h, k => sF_Po_readCondition (sR_all R) h k
noncomputable def WR_Po_readCondition (a1 : Int32) (σ : zS) (Q : Int32 → zS → Prop) : Prop := WRm 400 9 a1 σ Q
theorem sR_Po_readCondition {E : xV} {σ : zS} {K : zKt} {a1 : Int32} {Q : Int32 → zS → Prop} (h : WR_Po_readCondition a1 σ Q) (k : ∀ v s, Q v s → K (some (.int v)) s) : Cz E Y_Po_readCondition [.ref 17, .int a1] σ K := sR_all 400 9 a1 σ Q K h k
noncomputable def W_Po_readRule_b76 (x1 : Int32) (σ : zS) (Q : Int32 → zS → Prop) : Prop := (-2147483648 ≤ (Int32.toInt x1) + 7 ∧ (Int32.toInt x1) + 7 ≤ 2147483647) ∧ ∀ r1 : Int32, r1.toInt = (Int32.toInt x1) + 7 → (∃ n2 : Nat, Int32.toInt r1 = (n2 : Int) ∧ n2 < 2160 ∧ (∀ σ3 : zS, zI σ 20 n2 (σ.1 17 15) = σ3 → ((-2147483648 ≤ (Int32.toInt x1) + 8 ∧ (Int32.toInt x1) + 8 ≤ 2147483647) ∧ ∀ r4 : Int32, r4.toInt = (Int32.toInt x1) + 8 → (∃ n5 : Nat, Int32.toInt r4 = (n5 : Int) ∧ n5 < 2160 ∧ (∀ σ6 : zS, zI σ3 20 n5 0 = σ6 → (W_Po_isWord 20 σ6 (fun v7 σ7 => ((Int32.toInt v7) = 0 → (Q 1 σ7)) ∧ (¬ (Int32.toInt v7) = 0 → ((-2147483648 ≤ (Int32.toInt (σ7.1 17 14)) + 1 ∧ (Int32.toInt (σ7.1 17 14)) + 1 ≤ 2147483647) ∧ ∀ r9 : Int32, r9.toInt = (Int32.toInt (σ7.1 17 14)) + 1 → (∀ σ10 : zS, zI σ7 17 14 r9 = σ10 → (∃ n11 : Nat, Int32.toInt (σ10.1 17 14) = (n11 : Int) ∧ n11 < 1201 ∧ (((Int32.toInt (σ10.1 24 n11)) = 2 → ((1 ≤ (Int64.toInt (σ10.2 26 n11)) → ((-2147483648 ≤ (Int32.toInt x1) + 8 ∧ (Int32.toInt x1) + 8 ≤ 2147483647) ∧ ∀ r16 : Int32, r16.toInt = (Int32.toInt x1) + 8 → ((-2147483648 ≤ (Int64.toInt (σ10.2 26 n11)) ∧ (Int64.toInt (σ10.2 26 n11)) ≤ 2147483647) ∧ ∀ r17 : Int32, r17.toInt = (Int64.toInt (σ10.2 26 n11)) → (∃ n18 : Nat, Int32.toInt r16 = (n18 : Int) ∧ n18 < 2160 ∧ (∀ σ19 : zS, zI σ10 20 n18 r17 = σ19 → ((-2147483648 ≤ (Int32.toInt (σ19.1 17 14)) + 1 ∧ (Int32.toInt (σ19.1 17 14)) + 1 ≤ 2147483647) ∧ ∀ r20 : Int32, r20.toInt = (Int32.toInt (σ19.1 17 14)) + 1 → (∀ σ21 : zS, zI σ19 17 14 r20 = σ21 → (Q 1 σ21)))))))) ∧ (¬ 1 ≤ (Int64.toInt (σ10.2 26 n11)) → (W_Po_fail  σ10 (fun v22 σ22 => (v22 = 0 ∨ v22 = 1) ∧ (Q v22 σ22)))))) ∧ (¬ (Int32.toInt (σ10.1 24 n11)) = 2 → (W_Po_fail  σ10 (fun v13 σ13 => (v13 = 0 ∨ v13 = 1) ∧ (Q v13 σ13))))))))))))))))
theorem sb_Po_readRule_76 {E : xV} {σ : zS} {K : zKt} {x1 : Int32} {Q : Int32 → zS → Prop} (k : ∀ v s, Q v s → K (some (.int v)) s) (h : W_Po_readRule_b76 x1 σ Q) : Wz E Y_Po_readRule 76 [(0, .ref 17), (1, .int x1)] [] σ K := by
  unfold W_Po_readRule_b76 at h
  refine z_aload_n (f := 0) (i := 0) (q := 0) (pc' := 77) ⟨by decide +kernel, rfl⟩ rfl rfl ?_
  refine w_getr (k := 17) (j := 3) (idx := 28) (pc' := 80) yfxe_7_28 ykfa_17_3 ⟨by decide +kernel, rfl⟩ ?_
  refine z_iload_n (f := 1) (i := 1) (q := 1) (pc' := 81) ⟨by decide +kernel, rfl⟩ rfl rfl ?_
  refine z_bipush (i := 7) (v := 7) (pc' := 83) ⟨by decide +kernel, rfl⟩ (by decide) ?_
  refine z_iadd (pc' := 84) ⟨by decide +kernel, rfl⟩ ?_
  obtain ⟨hb1, h⟩ := h
  have h := h (x1 + 7) (ia_ok rfl (by decide) hb1)
  generalize (x1 + 7) = r1 at h ⊢
  refine z_aload_n (f := 0) (i := 0) (q := 0) (pc' := 85) ⟨by decide +kernel, rfl⟩ rfl rfl ?_
  refine w_geti (k := 17) (j := 15) (idx := 69) (pc' := 88) yfxe_7_69 ykfa_17_15 ⟨by decide +kernel, rfl⟩ ?_
  obtain ⟨n2, hi2, hz2, h⟩ := h
  refine w_iast (k := 20) (n := n2) (pc' := 89) ykaa_20 (hi2) (hz2) ⟨by decide +kernel, rfl⟩ ?_
  generalize hs3 : zI σ 20 n2 (σ.1 17 15) = σ3
  have h := h σ3 hs3
  refine z_aload_n (f := 0) (i := 0) (q := 0) (pc' := 90) ⟨by decide +kernel, rfl⟩ rfl rfl ?_
  refine w_getr (k := 17) (j := 3) (idx := 28) (pc' := 93) yfxe_7_28 ykfa_17_3 ⟨by decide +kernel, rfl⟩ ?_
  refine z_iload_n (f := 1) (i := 1) (q := 1) (pc' := 94) ⟨by decide +kernel, rfl⟩ rfl rfl ?_
  refine z_bipush (i := 8) (v := 8) (pc' := 96) ⟨by decide +kernel, rfl⟩ (by decide) ?_
  refine z_iadd (pc' := 97) ⟨by decide +kernel, rfl⟩ ?_
  obtain ⟨hb4, h⟩ := h
  have h := h (x1 + 8) (ia_ok rfl (by decide) hb4)
  generalize (x1 + 8) = r4 at h ⊢
  refine z_iconst (i := 0) (v := 0) (pc' := 98) ⟨by decide +kernel, rfl⟩ (by decide) ?_
  obtain ⟨n5, hi5, hz5, h⟩ := h
  refine w_iast (k := 20) (n := n5) (pc' := 99) ykaa_20 (hi5) (hz5) ⟨by decide +kernel, rfl⟩ ?_
  generalize hs6 : zI σ3 20 n5 0 = σ6
  have h := h σ6 hs6
  refine z_aload_n (f := 0) (i := 0) (q := 0) (pc' := 100) ⟨by decide +kernel, rfl⟩ rfl rfl ?_
  refine z_ldcS (i := 20) (pc' := 102) rfl rfl ⟨by decide +kernel, rfl⟩ ?_
  show Wz E Y_Po_readRule 102 [(0, .ref 17), (1, .int x1)] (.ref (1000 + 20) :: [.ref 17]) σ6 K
  refine w_invV (Z := Y_Po_isWord) (idx := 158) (kb := 17) (As := [.ref (1000 + 20)]) (rest := []) (pc' := 105) cl_7_158 rfl ⟨rfl, rfl⟩ ykfa_17_0 rfl ⟨⟨by decide, by decide⟩, rfl, rfl⟩ ⟨by decide +kernel, rfl⟩ rfl rfl (Nat.le_of_ble_eq_true rfl) rfl rfl ?_
  refine sF_Po_isWord (by decide) h (fun v7 σ7 h => ?_)
  show Wz E Y_Po_readRule 105 [(0, .ref 17), (1, .int x1)] [.int v7] σ7 K
  refine z_if_eq (off := 74) (tgt := 179) (pc' := 108) ⟨by decide +kernel, by decide, rfl⟩ (fun h8 => ?_) (fun h8 => ?_)
  · have h := h.1 (qi_eq_t rfl (by decide) h8)
    refine z_iconst (i := 1) (v := 1) (pc' := 180) ⟨by decide +kernel, rfl⟩ (by decide) ?_
    exact z_iret (ty := .boolean) rfl (by rfl) (by decide +kernel) (k _ _ h)
  · have h := h.2 (qi_eq_f rfl (by decide) h8)
    refine z_aload_n (f := 0) (i := 0) (q := 0) (pc' := 109) ⟨by decide +kernel, rfl⟩ rfl rfl ?_
    refine z_dupr (pc' := 110) ⟨by decide +kernel, rfl⟩ ?_
    refine w_geti (k := 17) (j := 14) (idx := 63) (pc' := 113) yfxe_7_63 ykfa_17_14 ⟨by decide +kernel, rfl⟩ ?_
    refine z_iconst (i := 1) (v := 1) (pc' := 114) ⟨by decide +kernel, rfl⟩ (by decide) ?_
    refine z_iadd (pc' := 115) ⟨by decide +kernel, rfl⟩ ?_
    obtain ⟨hb9, h⟩ := h
    have h := h ((σ7.1 17 14) + 1) (ia_ok rfl (by decide) hb9)
    generalize ((σ7.1 17 14) + 1) = r9 at h ⊢
    refine w_puti (k := 17) (j := 14) (idx := 63) (pc' := 118) yfxi_7_63 ykfa_17_14 ⟨by decide +kernel, rfl⟩ ?_
    generalize hs10 : zI σ7 17 14 r9 = σ10
    have h := h σ10 hs10
    refine z_aload_n (f := 0) (i := 0) (q := 0) (pc' := 119) ⟨by decide +kernel, rfl⟩ rfl rfl ?_
    refine w_getr (k := 17) (j := 10) (idx := 41) (pc' := 122) yfxe_7_41 ykfa_17_10 ⟨by decide +kernel, rfl⟩ ?_
    refine z_aload_n (f := 0) (i := 0) (q := 0) (pc' := 123) ⟨by decide +kernel, rfl⟩ rfl rfl ?_
    refine w_geti (k := 17) (j := 14) (idx := 63) (pc' := 126) yfxe_7_63 ykfa_17_14 ⟨by decide +kernel, rfl⟩ ?_
    obtain ⟨n11, hi11, hz11, h⟩ := h
    refine w_iald (k := 24) (n := n11) (pc' := 127) ykaa_24 (hi11) (hz11) ⟨by decide +kernel, rfl⟩ ?_
    refine z_iconst (i := 2) (v := 2) (pc' := 128) ⟨by decide +kernel, rfl⟩ (by decide) ?_
    refine z_icmp_ne (off := 17) (tgt := 145) (pc' := 131) ⟨by decide +kernel, by decide, rfl⟩ (fun h12 => ?_) (fun h12 => ?_)
    · have h := h.2 (qi_ne_t rfl (by decide) h12)
      refine z_aload_n (f := 0) (i := 0) (q := 0) (pc' := 146) ⟨by decide +kernel, rfl⟩ rfl rfl ?_
      refine w_invV (Z := Y_Po_fail) (idx := 140) (kb := 17) (As := []) (rest := []) (pc' := 149) cl_7_140 rfl ⟨rfl, rfl⟩ ykfa_17_0 rfl ⟨⟨by decide, by decide⟩, rfl, rfl⟩ ⟨by decide +kernel, rfl⟩ rfl rfl (Nat.le_of_ble_eq_true rfl) rfl rfl ?_
      refine sF_Po_fail h (fun v13 σ13 h => ?_)
      show Wz E Y_Po_readRule 149 [(0, .ref 17), (1, .int x1)] [.int v13] σ13 K
      obtain ⟨hg14, h⟩ := h
      exact z_iret (ty := .boolean) rfl (j_bool hg14).1 (by decide +kernel) (k _ _ h)
    · have h := h.1 (qi_ne_f rfl (by decide) h12)
      refine z_aload_n (f := 0) (i := 0) (q := 0) (pc' := 132) ⟨by decide +kernel, rfl⟩ rfl rfl ?_
      refine w_getr (k := 17) (j := 12) (idx := 47) (pc' := 135) yfxe_7_47 ykfa_17_12 ⟨by decide +kernel, rfl⟩ ?_
      refine z_aload_n (f := 0) (i := 0) (q := 0) (pc' := 136) ⟨by decide +kernel, rfl⟩ rfl rfl ?_
      refine w_geti (k := 17) (j := 14) (idx := 63) (pc' := 139) yfxe_7_63 ykfa_17_14 ⟨by decide +kernel, rfl⟩ ?_
      refine w_lald (k := 26) (n := n11) (pc' := 140) ykaa_26 (hi11) (hz11) ⟨by decide +kernel, rfl⟩ ?_
      refine z_lconst (i := 1) (v := 1) (pc' := 141) ⟨by decide +kernel, rfl⟩ (by decide) ?_
      refine z_lcmp (pc' := 142) ⟨by decide +kernel, rfl⟩ ?_
      refine z_if_ge (off := 8) (tgt := 150) (pc' := 145) ⟨by decide +kernel, by decide, rfl⟩ (fun h15 => ?_) (fun h15 => ?_)
      · have h := h.1 (qk_ge_t rfl (by decide) h15)
        refine z_aload_n (f := 0) (i := 0) (q := 0) (pc' := 151) ⟨by decide +kernel, rfl⟩ rfl rfl ?_
        refine w_getr (k := 17) (j := 3) (idx := 28) (pc' := 154) yfxe_7_28 ykfa_17_3 ⟨by decide +kernel, rfl⟩ ?_
        refine z_iload_n (f := 1) (i := 1) (q := 1) (pc' := 155) ⟨by decide +kernel, rfl⟩ rfl rfl ?_
        refine z_bipush (i := 8) (v := 8) (pc' := 157) ⟨by decide +kernel, rfl⟩ (by decide) ?_
        refine z_iadd (pc' := 158) ⟨by decide +kernel, rfl⟩ ?_
        obtain ⟨hb16, h⟩ := h
        have h := h (x1 + 8) (ia_ok rfl (by decide) hb16)
        generalize (x1 + 8) = r16 at h ⊢
        refine z_aload_n (f := 0) (i := 0) (q := 0) (pc' := 159) ⟨by decide +kernel, rfl⟩ rfl rfl ?_
        refine w_getr (k := 17) (j := 12) (idx := 47) (pc' := 162) yfxe_7_47 ykfa_17_12 ⟨by decide +kernel, rfl⟩ ?_
        refine z_aload_n (f := 0) (i := 0) (q := 0) (pc' := 163) ⟨by decide +kernel, rfl⟩ rfl rfl ?_
        refine w_geti (k := 17) (j := 14) (idx := 63) (pc' := 166) yfxe_7_63 ykfa_17_14 ⟨by decide +kernel, rfl⟩ ?_
        refine w_lald (k := 26) (n := n11) (pc' := 167) ykaa_26 (hi11) (hz11) ⟨by decide +kernel, rfl⟩ ?_
        refine z_l2i (pc' := 168) ⟨by decide +kernel, rfl⟩ rfl ?_
        obtain ⟨hb17, h⟩ := h
        have h := h (Int64.toInt32 (σ10.2 26 n11)) (li_ok hb17)
        generalize (Int64.toInt32 (σ10.2 26 n11)) = r17 at h ⊢
        obtain ⟨n18, hi18, hz18, h⟩ := h
        refine w_iast (k := 20) (n := n18) (pc' := 169) ykaa_20 (hi18) (hz18) ⟨by decide +kernel, rfl⟩ ?_
        generalize hs19 : zI σ10 20 n18 r17 = σ19
        have h := h σ19 hs19
        refine z_aload_n (f := 0) (i := 0) (q := 0) (pc' := 170) ⟨by decide +kernel, rfl⟩ rfl rfl ?_
        refine z_dupr (pc' := 171) ⟨by decide +kernel, rfl⟩ ?_
        refine w_geti (k := 17) (j := 14) (idx := 63) (pc' := 174) yfxe_7_63 ykfa_17_14 ⟨by decide +kernel, rfl⟩ ?_
        refine z_iconst (i := 1) (v := 1) (pc' := 175) ⟨by decide +kernel, rfl⟩ (by decide) ?_
        refine z_iadd (pc' := 176) ⟨by decide +kernel, rfl⟩ ?_
        obtain ⟨hb20, h⟩ := h
        have h := h ((σ19.1 17 14) + 1) (ia_ok rfl (by decide) hb20)
        generalize ((σ19.1 17 14) + 1) = r20 at h ⊢
        refine w_puti (k := 17) (j := 14) (idx := 63) (pc' := 179) yfxi_7_63 ykfa_17_14 ⟨by decide +kernel, rfl⟩ ?_
        generalize hs21 : zI σ19 17 14 r20 = σ21
        have h := h σ21 hs21
        refine z_iconst (i := 1) (v := 1) (pc' := 180) ⟨by decide +kernel, rfl⟩ (by decide) ?_
        exact z_iret (ty := .boolean) rfl (by rfl) (by decide +kernel) (k _ _ h)
      · have h := h.2 (qk_ge_f rfl (by decide) h15)
        refine z_aload_n (f := 0) (i := 0) (q := 0) (pc' := 146) ⟨by decide +kernel, rfl⟩ rfl rfl ?_
        refine w_invV (Z := Y_Po_fail) (idx := 140) (kb := 17) (As := []) (rest := []) (pc' := 149) cl_7_140 rfl ⟨rfl, rfl⟩ ykfa_17_0 rfl ⟨⟨by decide, by decide⟩, rfl, rfl⟩ ⟨by decide +kernel, rfl⟩ rfl rfl (Nat.le_of_ble_eq_true rfl) rfl rfl ?_
        refine sF_Po_fail h (fun v22 σ22 h => ?_)
        show Wz E Y_Po_readRule 149 [(0, .ref 17), (1, .int x1)] [.int v22] σ22 K
        obtain ⟨hg23, h⟩ := h
        exact z_iret (ty := .boolean) rfl (j_bool hg23).1 (by decide +kernel) (k _ _ h)

end
