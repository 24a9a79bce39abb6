section
noncomputable def W_H_cut (a1 : Int32) (σ : zS) (Q : Int32 → zS → Prop) : Prop := ((Int32.toInt a1) < 0 → (Q (-1) σ)) ∧ (¬ (Int32.toInt a1) < 0 → (((Int32.toInt a1) ≤ (Int32.toInt (σ.1 0 1)) → ((-2147483648 ≤ (Int32.toInt (σ.1 0 1)) - (Int32.toInt a1) ∧ (Int32.toInt (σ.1 0 1)) - (Int32.toInt a1) ≤ 2147483647) ∧ ∀ r3 : Int32, r3.toInt = (Int32.toInt (σ.1 0 1)) - (Int32.toInt a1) → (∀ σ4 : zS, zI σ 0 1 a1 = σ4 → (Q r3 σ4)))) ∧ (¬ (Int32.toInt a1) ≤ (Int32.toInt (σ.1 0 1)) → (Q (-1) σ))))
theorem sF_H_cut {E : xV} {σ : zS} {K : zKt} {a1 : Int32} {Q : Int32 → zS → Prop} (h : W_H_cut a1 σ Q) (k : ∀ v s, Q v s → K (some (.int v)) s) : Cz E Y_H_cut [.ref 0, .int a1] σ K := by
  refine z_entry (by decide) (fun a => by rw [sl_len]; exact Nat.le_of_ble_eq_true rfl) rfl ?_
  unfold W_H_cut at h
  refine z_iload_n (f := 1) (i := 1) (q := 1) (pc' := 1) ⟨by decide +kernel, rfl⟩ rfl rfl ?_
  refine z_if_lt (off := 11) (tgt := 12) (pc' := 4) ⟨by decide +kernel, by decide, rfl⟩ (fun h1 => ?_) (fun h1 => ?_)
  · have h := h.1 (qi_lt_t rfl (by decide) h1)
    refine z_iconst (i := (-1)) (v := (-1)) (pc' := 13) ⟨by decide +kernel, rfl⟩ (by decide) ?_
    exact z_iret (ty := .int) rfl (by rfl) (by decide +kernel) (k _ _ h)
  · have h := h.2 (qi_lt_f rfl (by decide) h1)
    refine z_iload_n (f := 1) (i := 1) (q := 1) (pc' := 5) ⟨by decide +kernel, rfl⟩ rfl rfl ?_
    refine z_aload_n (f := 0) (i := 0) (q := 0) (pc' := 6) ⟨by decide +kernel, rfl⟩ rfl rfl ?_
    refine w_geti (k := 0) (j := 1) (idx := 100) (pc' := 9) yfxe_1_100 ykfa_0_1 ⟨by decide +kernel, rfl⟩ ?_
    refine z_icmp_le (off := 5) (tgt := 14) (pc' := 12) ⟨by decide +kernel, by decide, rfl⟩ (fun h2 => ?_) (fun h2 => ?_)
    · have h := h.1 (qi_le_t rfl rfl h2)
      refine z_aload_n (f := 0) (i := 0) (q := 0) (pc' := 15) ⟨by decide +kernel, rfl⟩ rfl rfl ?_
      refine w_geti (k := 0) (j := 1) (idx := 100) (pc' := 18) yfxe_1_100 ykfa_0_1 ⟨by decide +kernel, rfl⟩ ?_
      refine z_iload_n (f := 1) (i := 1) (q := 1) (pc' := 19) ⟨by decide +kernel, rfl⟩ rfl rfl ?_
      refine z_isub (pc' := 20) ⟨by decide +kernel, rfl⟩ ?_
      obtain ⟨hb3, h⟩ := h
      have h := h ((σ.1 0 1) - a1) (is_ok rfl rfl hb3)
      generalize ((σ.1 0 1) - a1) = r3 at h ⊢
      refine z_istore_n (f := 2) (i := 2) (pc' := 21) ⟨by decide +kernel, rfl⟩ rfl (by decide) rfl ?_
      show Wz E Y_H_cut 21 [(2, .int r3), (0, .ref 0), (1, .int a1)] [] σ K
      refine z_aload_n (f := 0) (i := 0) (q := 1) (pc' := 22) ⟨by decide +kernel, rfl⟩ rfl rfl ?_
      refine z_iload_n (f := 1) (i := 1) (q := 2) (pc' := 23) ⟨by decide +kernel, rfl⟩ rfl rfl ?_
      refine w_puti (k := 0) (j := 1) (idx := 100) (pc' := 26) yfxi_1_100 ykfa_0_1 ⟨by decide +kernel, rfl⟩ ?_
      generalize hs4 : zI σ 0 1 a1 = σ4
      have h := h σ4 hs4
      refine z_iload_n (f := 2) (i := 2) (q := 0) (pc' := 27) ⟨by decide +kernel, rfl⟩ rfl rfl ?_
      exact z_iret (ty := .int) rfl (by rfl) (by decide +kernel) (k _ _ h)
    · have h := h.2 (qi_le_f rfl rfl h2)
      refine z_iconst (i := (-1)) (v := (-1)) (pc' := 13) ⟨by decide +kernel, rfl⟩ (by decide) ?_
      exact z_iret (ty := .int) rfl (by rfl) (by decide +kernel) (k _ _ h)
noncomputable def WB_H_tapeNumber_5 (F5 : Int32 → Int64 → Int32 → zS → (Int64 → zS → Prop) → Prop) (x1 : Int32) (x2 : Int64) (x4 : Int32) (σ : zS) (Q : Int64 → zS → Prop) : Prop := (-2147483648 ≤ (Int32.toInt x1) + 4 ∧ (Int32.toInt x1) + 4 ≤ 2147483647) ∧ ∀ r1 : Int32, r1.toInt = (Int32.toInt x1) + 4 → (((Int32.toInt r1) ≤ (Int32.toInt x4) → (Q x2 σ)) ∧ (¬ (Int32.toInt r1) ≤ (Int32.toInt x4) → ((1200 ≤ (Int32.toInt x4) → (Q x2 σ)) ∧ (¬ 1200 ≤ (Int32.toInt x4) → (∃ n4 : Nat, Int32.toInt x4 = (n4 : Int) ∧ n4 < 1200 ∧ (∀ r5 : Int64, r5.toInt = (Int32.toInt (σ.1 1 n4)) → ((-2147483648 ≤ (Int32.toInt x4) + 1 ∧ (Int32.toInt x4) + 1 ≤ 2147483647) ∧ ∀ r6 : Int32, r6.toInt = (Int32.toInt x4) + 1 → (F5 x1 ((x2 <<< (Int32.toInt64 8 &&& 63)) ||| r5) r6 σ Q))))))))
theorem sh_H_tapeNumber_5 {E : xV} {σ : zS} {K : zKt} {F5 : Int32 → Int64 → Int32 → zS → (Int64 → zS → Prop) → Prop} {x1 : Int32} {x2 : Int64} {x4 : Int32} {Q : Int64 → zS → Prop} (f5 : ∀ (x1 : Int32) (x2 : Int64) (x4 : Int32) (σ : zS), F5 x1 x2 x4 σ Q → Wz E Y_H_tapeNumber 5 [(0, .ref 0), (1, .int x1), (2, .long x2), (4, .int x4)] [] σ K) (k : ∀ v s, Q v s → K (some (.long v)) s) (h : WB_H_tapeNumber_5 F5 x1 x2 x4 σ Q) : Wz E Y_H_tapeNumber 5 [(0, .ref 0), (1, .int x1), (2, .long x2), (4, .int x4)] [] σ K := by
  unfold WB_H_tapeNumber_5 at h
  refine z_iload (i := 4) (q := 3) (pc' := 7) ⟨by decide +kernel, rfl⟩ rfl ?_
  refine z_iload_n (f := 1) (i := 1) (q := 1) (pc' := 8) ⟨by decide +kernel, rfl⟩ rfl rfl ?_
  refine z_iconst (i := 4) (v := 4) (pc' := 9) ⟨by decide +kernel, rfl⟩ (by decide) ?_
  refine z_iadd (pc' := 10) ⟨by decide +kernel, rfl⟩ ?_
  obtain ⟨hb1, h⟩ := h
  have h := h (x1 + 4) (ia_ok rfl (by decide) hb1)
  generalize (x1 + 4) = r1 at h ⊢
  refine z_icmp_ge (off := 31) (tgt := 41) (pc' := 13) ⟨by decide +kernel, by decide, rfl⟩ (fun h2 => ?_) (fun h2 => ?_)
  · have h := h.1 (qi_ge_t rfl rfl h2)
    refine z_lload_n (f := 2) (i := 2) (q := 2) (pc' := 42) ⟨by decide +kernel, rfl⟩ rfl rfl ?_
    exact z_lret rfl (by decide +kernel) (k _ _ h)
  · have h := h.2 (qi_ge_f rfl rfl h2)
    refine z_iload (i := 4) (q := 3) (pc' := 15) ⟨by decide +kernel, rfl⟩ rfl ?_
    refine z_sipush (i := 1200) (v := 1200) (pc' := 18) ⟨by decide +kernel, rfl⟩ (by decide) ?_
    refine z_icmp_ge (off := 23) (tgt := 41) (pc' := 21) ⟨by decide +kernel, by decide, rfl⟩ (fun h3 => ?_) (fun h3 => ?_)
    · have h := h.1 (qi_ge_t rfl (by decide) h3)
      refine z_lload_n (f := 2) (i := 2) (q := 2) (pc' := 42) ⟨by decide +kernel, rfl⟩ rfl rfl ?_
      exact z_lret rfl (by decide +kernel) (k _ _ h)
    · have h := h.2 (qi_ge_f rfl (by decide) h3)
      refine z_lload_n (f := 2) (i := 2) (q := 2) (pc' := 22) ⟨by decide +kernel, rfl⟩ rfl rfl ?_
      refine z_bipush (i := 8) (v := 8) (pc' := 24) ⟨by decide +kernel, rfl⟩ (by decide) ?_
      refine z_lshl (v := (x2 <<< (Int32.toInt64 8 &&& 63))) (pc' := 25) ⟨by decide +kernel, rfl⟩ rfl ?_
      refine z_aload_n (f := 0) (i := 0) (q := 0) (pc' := 26) ⟨by decide +kernel, rfl⟩ rfl rfl ?_
      refine w_getr (k := 0) (j := 0) (idx := 9) (pc' := 29) yfxe_1_9 ykfa_0_0 ⟨by decide +kernel, rfl⟩ ?_
      refine z_iload (i := 4) (q := 3) (pc' := 31) ⟨by decide +kernel, rfl⟩ rfl ?_
      obtain ⟨n4, hi4, hz4, h⟩ := h
      refine w_iald (k := 1) (n := n4) (pc' := 32) ykaa_1 (hi4) (hz4) ⟨by decide +kernel, rfl⟩ ?_
      refine z_i2l (v := (Int32.toInt64 (σ.1 1 n4))) (pc' := 33) ⟨by decide +kernel, rfl⟩ rfl ?_
      have h := h (Int32.toInt64 (σ.1 1 n4)) (Int32.toInt_toInt64 _)
      generalize (Int32.toInt64 (σ.1 1 n4)) = r5 at h ⊢
      refine z_lor (pc' := 34) ⟨by decide +kernel, rfl⟩ ?_
      refine z_lstore_n (f := 2) (i := 2) (pc' := 35) ⟨by decide +kernel, rfl⟩ rfl (by decide) rfl ?_
      show Wz E Y_H_tapeNumber 35 [(2, .long ((x2 <<< (Int32.toInt64 8 &&& 63)) ||| r5)), (0, .ref 0), (1, .int x1), (4, .int x4)] [] σ K
      refine z_iinc (i := 4) (z := 1) (q := 3) (pc' := 38) ⟨by decide +kernel, rfl⟩ rfl rfl (by decide) rfl ?_
      show Wz E Y_H_tapeNumber 38 [(4, .int (x4 + Int32.ofInt 1)), (2, .long ((x2 <<< (Int32.toInt64 8 &&& 63)) ||| r5)), (0, .ref 0), (1, .int x1)] [] σ K
      obtain ⟨hb6, h⟩ := h
      have h := h (x4 + Int32.ofInt 1) (ia_ok rfl (by decide) hb6)
      generalize (x4 + Int32.ofInt 1) = r6 at h ⊢
      refine z_goto (off := (-33)) (tgt := 5) (pc' := 41) ⟨by decide +kernel, by decide, rfl⟩ ?_
      refine z_sub [2, 3, 1, 0] rfl ?_
      exact f5 _ _ _ _ h
noncomputable def WL_H_tapeNumber : Nat → (Int32 → Int64 → Int32 → zS → (Int64 → zS → Prop) → Prop)
  | 0 => fun _ _ _ _ _ => False
  | n + 1 => WB_H_tapeNumber_5 (WL_H_tapeNumber n)
theorem wl_H_tapeNumber_5 {n : Nat} {x1 : Int32} {x2 : Int64} {x4 : Int32} {σ : zS} {Q : Int64 → zS → Prop} (h : WB_H_tapeNumber_5 (WL_H_tapeNumber n) x1 x2 x4 σ Q) : (WL_H_tapeNumber (n + 1)) x1 x2 x4 σ Q := h
theorem sl_H_tapeNumber {E : xV} {K : zKt} {Q : Int64 → zS → Prop} (k : ∀ v s, Q v s → K (some (.long v)) s) : ∀ n, (∀ (x1 : Int32) (x2 : Int64) (x4 : Int32) (σ : zS), (WL_H_tapeNumber n) x1 x2 x4 σ Q → Wz E Y_H_tapeNumber 5 [(0, .ref 0), (1, .int x1), (2, .long x2), (4, .int x4)] [] σ K)
  | 0 => fun _ _ _ _ h => h.elim
  | n + 1 => by
    have i := sl_H_tapeNumber (E := E)  k n
    exact fun _ _ _ _ h => sh_H_tapeNumber_5 i k h
noncomputable def W_H_tapeNumber (a1 : Int32) (σ : zS) (Q : Int64 → zS → Prop) : Prop := (WL_H_tapeNumber fuF) a1 0 a1 σ Q
theorem sF_H_tapeNumber {E : xV} {σ : zS} {K : zKt} {a1 : Int32} {Q : Int64 → zS → Prop} (h : W_H_tapeNumber a1 σ Q) (k : ∀ v s, Q v s → K (some (.long v)) s) : Cz E Y_H_tapeNumber [.ref 0, .int a1] σ K := by
  refine z_entry (by decide) (fun a => by rw [sl_len]; exact Nat.le_of_ble_eq_true rfl) rfl ?_
  unfold W_H_tapeNumber at h
  refine z_lconst (i := 0) (v := 0) (pc' := 1) ⟨by decide +kernel, rfl⟩ (by decide) ?_
  refine z_lstore_n (f := 2) (i := 2) (pc' := 2) ⟨by decide +kernel, rfl⟩ rfl (by decide) rfl ?_
  show Wz E Y_H_tapeNumber 2 [(2, .long 0), (0, .ref 0), (1, .int a1)] [] σ K
  refine z_iload_n (f := 1) (i := 1) (q := 2) (pc' := 3) ⟨by decide +kernel, rfl⟩ rfl rfl ?_
  refine z_istore (i := 4) (pc' := 5) ⟨by decide +kernel, rfl⟩ (by decide) rfl ?_
  show Wz E Y_H_tapeNumber 5 [(4, .int a1), (2, .long 0), (0, .ref 0), (1, .int a1)] [] σ K
  refine z_sub [2, 3, 1, 0] rfl ?_
  exact (sl_H_tapeNumber k fuF) _ _ _ _ h
noncomputable def WB_H_areHalves_2 (F2 : Int32 → zS → (Int32 → zS → Prop) → Prop) (F49 : Int32 → Int64 → Int32 → zS → (Int32 → zS → Prop) → Prop) (x1 : Int32) (σ : zS) (Q : Int32 → zS → Prop) : Prop := ((Int32.toInt (σ.1 0 1)) ≤ (Int32.toInt x1) → (Q 1 σ)) ∧ (¬ (Int32.toInt (σ.1 0 1)) ≤ (Int32.toInt x1) → (W_H_tapeNumber x1 σ (fun v2 σ2 => ((Int64.toInt v2) < 1 → (Q 0 σ2)) ∧ (¬ (Int64.toInt v2) < 1 → ((1000 < (Int64.toInt v2) → (Q 0 σ2)) ∧ (¬ 1000 < (Int64.toInt v2) → ((-2147483648 ≤ (Int32.toInt x1) + 4 ∧ (Int32.toInt x1) + 4 ≤ 2147483647) ∧ ∀ r5 : Int32, r5.toInt = (Int32.toInt x1) + 4 → (W_H_tapeNumber r5 σ2 (fun v6 σ6 => ((Int64.toInt v6) < 2147483647 → (F49 x1 v2 0 σ6 Q)) ∧ (¬ (Int64.toInt v6) < 2147483647 → (Q 0 σ6)))))))))))
theorem sh_H_areHalves_2 {E : xV} {σ : zS} {K : zKt} {F2 : Int32 → zS → (Int32 → zS → Prop) → Prop} {F49 : Int32 → Int64 → Int32 → zS → (Int32 → zS → Prop) → Prop} {x1 : Int32} {Q : Int32 → zS → Prop} (f2 : ∀ (x1 : Int32) (σ : zS), F2 x1 σ Q → Wz E Y_H_areHalves 2 [(0, .ref 0), (1, .int x1)] [] σ K) (f49 : ∀ (x1 : Int32) (x2 : Int64) (x4 : Int32) (σ : zS), F49 x1 x2 x4 σ Q → Wz E Y_H_areHalves 49 [(0, .ref 0), (1, .int x1), (2, .long x2), (4, .int x4)] [] σ K) (k : ∀ v s, Q v s → K (some (.int v)) s) (h : WB_H_areHalves_2 F2 F49 x1 σ Q) : Wz E Y_H_areHalves 2 [(0, .ref 0), (1, .int x1)] [] σ K := by
  unfold WB_H_areHalves_2 at h
  refine z_iload_n (f := 1) (i := 1) (q := 1) (pc' := 3) ⟨by decide +kernel, rfl⟩ rfl rfl ?_
  refine z_aload_n (f := 0) (i := 0) (q := 0) (pc' := 4) ⟨by decide +kernel, rfl⟩ rfl rfl ?_
  refine w_geti (k := 0) (j := 1) (idx := 100) (pc' := 7) yfxe_1_100 ykfa_0_1 ⟨by decide +kernel, rfl⟩ ?_
  refine z_icmp_ge (off := 73) (tgt := 80) (pc' := 10) ⟨by decide +kernel, by decide, rfl⟩ (fun h1 => ?_) (fun h1 => ?_)
  · have h := h.1 (qi_ge_t rfl rfl h1)
    refine z_iconst (i := 1) (v := 1) (pc' := 81) ⟨by decide +kernel, rfl⟩ (by decide) ?_
    exact z_iret (ty := .boolean) rfl (by rfl) (by decide +kernel) (k _ _ h)
  · have h := h.2 (qi_ge_f rfl rfl h1)
    refine z_aload_n (f := 0) (i := 0) (q := 0) (pc' := 11) ⟨by decide +kernel, rfl⟩ rfl rfl ?_
    refine z_iload_n (f := 1) (i := 1) (q := 1) (pc' := 12) ⟨by decide +kernel, rfl⟩ rfl rfl ?_
    refine w_invV (Z := Y_H_tapeNumber) (idx := 537) (kb := 0) (As := [.int x1]) (rest := []) (pc' := 15) cl_1_537 rfl ⟨rfl, rfl⟩ ykfa_0_0 rfl ⟨⟨by decide, by decide⟩, rfl, rfl⟩ ⟨by decide +kernel, rfl⟩ rfl rfl (Nat.le_of_ble_eq_true rfl) rfl rfl ?_
    refine sF_H_tapeNumber h (fun v2 σ2 h => ?_)
    show Wz E Y_H_areHalves 15 [(0, .ref 0), (1, .int x1)] [.long v2] σ2 K
    refine z_lstore_n (f := 2) (i := 2) (pc' := 16) ⟨by decide +kernel, rfl⟩ rfl (by decide) rfl ?_
    show Wz E Y_H_areHalves 16 [(2, .long v2), (0, .ref 0), (1, .int x1)] [] σ2 K
    refine z_lload_n (f := 2) (i := 2) (q := 0) (pc' := 17) ⟨by decide +kernel, rfl⟩ rfl rfl ?_
    refine z_lconst (i := 1) (v := 1) (pc' := 18) ⟨by decide +kernel, rfl⟩ (by decide) ?_
    refine z_lcmp (pc' := 19) ⟨by decide +kernel, rfl⟩ ?_
    refine z_if_lt (off := 25) (tgt := 44) (pc' := 22) ⟨by decide +kernel, by decide, rfl⟩ (fun h3 => ?_) (fun h3 => ?_)
    · have h := h.1 (qk_lt_t rfl (by decide) h3)
      refine z_iconst (i := 0) (v := 0) (pc' := 45) ⟨by decide +kernel, rfl⟩ (by decide) ?_
      exact z_iret (ty := .boolean) rfl (by rfl) (by decide +kernel) (k _ _ h)
    · have h := h.2 (qk_lt_f rfl (by decide) h3)
      refine z_lload_n (f := 2) (i := 2) (q := 0) (pc' := 23) ⟨by decide +kernel, rfl⟩ rfl rfl ?_
      refine z_ldc2 (i := 549) (v := 1000) (pc' := 26) ⟨by decide +kernel, rfl⟩ k_8_138 ?_
      refine z_lcmp (pc' := 27) ⟨by decide +kernel, rfl⟩ ?_
      refine z_if_gt (off := 17) (tgt := 44) (pc' := 30) ⟨by decide +kernel, by decide, rfl⟩ (fun h4 => ?_) (fun h4 => ?_)
      · have h := h.1 (qk_gt_t rfl (by decide) h4)
        refine z_iconst (i := 0) (v := 0) (pc' := 45) ⟨by decide +kernel, rfl⟩ (by decide) ?_
        exact z_iret (ty := .boolean) rfl (by rfl) (by decide +kernel) (k _ _ h)
      · have h := h.2 (qk_gt_f rfl (by decide) h4)
        refine z_aload_n (f := 0) (i := 0) (q := 1) (pc' := 31) ⟨by decide +kernel, rfl⟩ rfl rfl ?_
        refine z_iload_n (f := 1) (i := 1) (q := 2) (pc' := 32) ⟨by decide +kernel, rfl⟩ rfl rfl ?_
        refine z_iconst (i := 4) (v := 4) (pc' := 33) ⟨by decide +kernel, rfl⟩ (by decide) ?_
        refine z_iadd (pc' := 34) ⟨by decide +kernel, rfl⟩ ?_
        obtain ⟨hb5, h⟩ := h
        have h := h (x1 + 4) (ia_ok rfl (by decide) hb5)
        generalize (x1 + 4) = r5 at h ⊢
        refine w_invV (Z := Y_H_tapeNumber) (idx := 537) (kb := 0) (As := [.int r5]) (rest := []) (pc' := 37) cl_1_537 rfl ⟨rfl, rfl⟩ ykfa_0_0 rfl ⟨⟨by decide, by decide⟩, rfl, rfl⟩ ⟨by decide +kernel, rfl⟩ rfl rfl (Nat.le_of_ble_eq_true rfl) rfl rfl ?_
        refine sF_H_tapeNumber h (fun v6 σ6 h => ?_)
        show Wz E Y_H_areHalves 37 [(2, .long v2), (0, .ref 0), (1, .int x1)] [.long v6] σ6 K
        refine z_ldc2 (i := 540) (v := 2147483647) (pc' := 40) ⟨by decide +kernel, rfl⟩ k_8_129 ?_
        refine z_lcmp (pc' := 41) ⟨by decide +kernel, rfl⟩ ?_
        refine z_if_lt (off := 5) (tgt := 46) (pc' := 44) ⟨by decide +kernel, by decide, rfl⟩ (fun h7 => ?_) (fun h7 => ?_)
        · have h := h.1 (qk_lt_t rfl (by decide) h7)
          refine z_iconst (i := 0) (v := 0) (pc' := 47) ⟨by decide +kernel, rfl⟩ (by decide) ?_
          refine z_istore (i := 4) (pc' := 49) ⟨by decide +kernel, rfl⟩ (by decide) rfl ?_
          show Wz E Y_H_areHalves 49 [(4, .int 0), (2, .long v2), (0, .ref 0), (1, .int x1)] [] σ6 K
          refine z_sub [2, 3, 1, 0] rfl ?_
          exact f49 _ _ _ _ h
        · have h := h.2 (qk_lt_f rfl (by decide) h7)
          refine z_iconst (i := 0) (v := 0) (pc' := 45) ⟨by decide +kernel, rfl⟩ (by decide) ?_
          exact z_iret (ty := .boolean) rfl (by rfl) (by decide +kernel) (k _ _ h)
noncomputable def WB_H_areHalves_49 (F2 : Int32 → zS → (Int32 → zS → Prop) → Prop) (F49 : Int32 → Int64 → Int32 → zS → (Int32 → zS → Prop) → Prop) (x1 : Int32) (x2 : Int64) (x4 : Int32) (σ : zS) (Q : Int32 → zS → Prop) : Prop := ((Int32.toInt x1) ≤ (Int32.toInt x4) → ((-2147483648 ≤ (Int32.toInt x1) + 8 ∧ (Int32.toInt x1) + 8 ≤ 2147483647) ∧ ∀ r2 : Int32, r2.toInt = (Int32.toInt x1) + 8 → (F2 r2 σ Q))) ∧ (¬ (Int32.toInt x1) ≤ (Int32.toInt x4) → (W_H_tapeNumber x4 σ (fun v3 σ3 => ((Int64.toInt v3) = (Int64.toInt x2) → (Q 0 σ3)) ∧ (¬ (Int64.toInt v3) = (Int64.toInt x2) → ((-2147483648 ≤ (Int32.toInt x4) + 8 ∧ (Int32.toInt x4) + 8 ≤ 2147483647) ∧ ∀ r5 : Int32, r5.toInt = (Int32.toInt x4) + 8 → (F49 x1 x2 r5 σ3 Q))))))
theorem sh_H_areHalves_49 {E : xV} {σ : zS} {K : zKt} {F2 : Int32 → zS → (Int32 → zS → Prop) → Prop} {F49 : Int32 → Int64 → Int32 → zS → (Int32 → zS → Prop) → Prop} {x1 : Int32} {x2 : Int64} {x4 : Int32} {Q : Int32 → zS → Prop} (f2 : ∀ (x1 : Int32) (σ : zS), F2 x1 σ Q → Wz E Y_H_areHalves 2 [(0, .ref 0), (1, .int x1)] [] σ K) (f49 : ∀ (x1 : Int32) (x2 : Int64) (x4 : Int32) (σ : zS), F49 x1 x2 x4 σ Q → Wz E Y_H_areHalves 49 [(0, .ref 0), (1, .int x1), (2, .long x2), (4, .int x4)] [] σ K) (k : ∀ v s, Q v s → K (some (.int v)) s) (h : WB_H_areHalves_49 F2 F49 x1 x2 x4 σ Q) : Wz E Y_H_areHalves 49 [(0, .ref 0), (1, .int x1), (2, .long x2), (4, .int x4)] [] σ K := by
  unfold WB_H_areHalves_49 at h
  refine z_iload (i := 4) (q := 3) (pc' := 51) ⟨by decide +kernel, rfl⟩ rfl ?_
  refine z_iload_n (f := 1) (i := 1) (q := 1) (pc' := 52) ⟨by decide +kernel, rfl⟩ rfl rfl ?_
  refine z_icmp_ge (off := 22) (tgt := 74) (pc' := 55) ⟨by decide +kernel, by decide, rfl⟩ (fun h1 => ?_) (fun h1 => ?_)
  · have h := h.1 (qi_ge_t rfl rfl h1)
    refine z_iinc (i := 1) (z := 8) (q := 1) (pc' := 77) ⟨by decide +kernel, rfl⟩ rfl rfl (by decide) rfl ?_
    show Wz E Y_H_areHalves 77 [(1, .int (x1 + Int32.ofInt 8)), (0, .ref 0), (2, .long x2), (4, .int x4)] [] σ K
    obtain ⟨hb2, h⟩ := h
    have h := h (x1 + Int32.ofInt 8) (ia_ok rfl (by decide) hb2)
    generalize (x1 + Int32.ofInt 8) = r2 at h ⊢
    refine z_goto (off := (-75)) (tgt := 2) (pc' := 80) ⟨by decide +kernel, by decide, rfl⟩ ?_
    refine z_sub [1, 0] rfl ?_
    exact f2 _ _ h
  · have h := h.2 (qi_ge_f rfl rfl h1)
    refine z_aload_n (f := 0) (i := 0) (q := 0) (pc' := 56) ⟨by decide +kernel, rfl⟩ rfl rfl ?_
    refine z_iload (i := 4) (q := 3) (pc' := 58) ⟨by decide +kernel, rfl⟩ rfl ?_
    refine w_invV (Z := Y_H_tapeNumber) (idx := 537) (kb := 0) (As := [.int x4]) (rest := []) (pc' := 61) cl_1_537 rfl ⟨rfl, rfl⟩ ykfa_0_0 rfl ⟨⟨by decide, by decide⟩, rfl, rfl⟩ ⟨by decide +kernel, rfl⟩ rfl rfl (Nat.le_of_ble_eq_true rfl) rfl rfl ?_
    refine sF_H_tapeNumber h (fun v3 σ3 h => ?_)
    show Wz E Y_H_areHalves 61 [(0, .ref 0), (1, .int x1), (2, .long x2), (4, .int x4)] [.long v3] σ3 K
    refine z_lload_n (f := 2) (i := 2) (q := 2) (pc' := 62) ⟨by decide +kernel, rfl⟩ rfl rfl ?_
    refine z_lcmp (pc' := 63) ⟨by decide +kernel, rfl⟩ ?_
    refine z_if_ne (off := 5) (tgt := 68) (pc' := 66) ⟨by decide +kernel, by decide, rfl⟩ (fun h4 => ?_) (fun h4 => ?_)
    · have h := h.2 (qk_ne_t rfl rfl h4)
      refine z_iinc (i := 4) (z := 8) (q := 3) (pc' := 71) ⟨by decide +kernel, rfl⟩ rfl rfl (by decide) rfl ?_
      show Wz E Y_H_areHalves 71 [(4, .int (x4 + Int32.ofInt 8)), (0, .ref 0), (1, .int x1), (2, .long x2)] [] σ3 K
      obtain ⟨hb5, h⟩ := h
      have h := h (x4 + Int32.ofInt 8) (ia_ok rfl (by decide) hb5)
      generalize (x4 + Int32.ofInt 8) = r5 at h ⊢
      refine z_goto (off := (-22)) (tgt := 49) (pc' := 74) ⟨by decide +kernel, by decide, rfl⟩ ?_
      refine z_sub [1, 2, 3, 0] rfl ?_
      exact f49 _ _ _ _ h
    · have h := h.1 (qk_ne_f rfl rfl h4)
      refine z_iconst (i := 0) (v := 0) (pc' := 67) ⟨by decide +kernel, rfl⟩ (by decide) ?_
      exact z_iret (ty := .boolean) rfl (by rfl) (by decide +kernel) (k _ _ h)
noncomputable def WL_H_areHalves : Nat → (Int32 → zS → (Int32 → zS → Prop) → Prop) × (Int32 → Int64 → Int32 → zS → (Int32 → zS → Prop) → Prop)
  | 0 => (fun _ _ _ => False, fun _ _ _ _ _ => False)
  | n + 1 => (WB_H_areHalves_2 (WL_H_areHalves n).1 (WL_H_areHalves n).2, WB_H_areHalves_49 (WL_H_areHalves n).1 (WL_H_areHalves n).2)
theorem wl_H_areHalves_2 {n : Nat} {x1 : Int32} {σ : zS} {Q : Int32 → zS → Prop} (h : WB_H_areHalves_2 (WL_H_areHalves n).1 (WL_H_areHalves n).2 x1 σ Q) : (WL_H_areHalves (n + 1)).1 x1 σ Q := h
theorem wl_H_areHalves_49 {n : Nat} {x1 : Int32} {x2 : Int64} {x4 : Int32} {σ : zS} {Q : Int32 → zS → Prop} (h : WB_H_areHalves_49 (WL_H_areHalves n).1 (WL_H_areHalves n).2 x1 x2 x4 σ Q) : (WL_H_areHalves (n + 1)).2 x1 x2 x4 σ Q := h
theorem sl_H_areHalves {E : xV} {K : zKt} {Q : Int32 → zS → Prop} (k : ∀ v s, Q v s → K (some (.int v)) s) : ∀ n, (∀ (x1 : Int32) (σ : zS), (WL_H_areHalves n).1 x1 σ Q → Wz E Y_H_areHalves 2 [(0, .ref 0), (1, .int x1)] [] σ K) ∧ (∀ (x1 : Int32) (x2 : Int64) (x4 : Int32) (σ : zS), (WL_H_areHalves n).2 x1 x2 x4 σ Q → Wz E Y_H_areHalves 49 [(0, .ref 0), (1, .int x1), (2, .long x2), (4, .int x4)] [] σ K)
  | 0 => ⟨fun _ _ h => h.elim, fun _ _ _ _ h => h.elim⟩
  | n + 1 => by
    have i := sl_H_areHalves (E := E)  k n
    exact ⟨fun _ _ h => sh_H_areHalves_2 i.1 i.2 k h, fun _ _ _ _ h => sh_H_areHalves_49 i.1 i.2 k h⟩
noncomputable def W_H_areHalves  (σ : zS) (Q : Int32 → zS → Prop) : Prop := (WL_H_areHalves fuF).1 0 σ Q
theorem sF_H_areHalves {E : xV} {σ : zS} {K : zKt}  {Q : Int32 → zS → Prop} (h : W_H_areHalves  σ Q) (k : ∀ v s, Q v s → K (some (.int v)) s) : Cz E Y_H_areHalves [.ref 0] σ K := by
  refine z_entry (by decide) (fun a => by rw [sl_len]; exact Nat.le_of_ble_eq_true rfl) rfl ?_
  unfold W_H_areHalves at h
  refine z_iconst (i := 0) (v := 0) (pc' := 1) ⟨by decide +kernel, rfl⟩ (by decide) ?_
  refine z_istore_n (f := 1) (i := 1) (pc' := 2) ⟨by decide +kernel, rfl⟩ rfl (by decide) rfl ?_
  show Wz E Y_H_areHalves 2 [(1, .int 0), (0, .ref 0)] [] σ K
  refine z_sub [1, 0] rfl ?_
  exact (sl_H_areHalves k fuF).1 _ _ h
noncomputable def WB_H_inverse_13 (F13 : Int64 → Int64 → Int32 → Int32 → zS → (Int64 → zS → Prop) → Prop) (x2 : Int64) (x4 : Int64) (x6 : Int32) (x7 : Int32) (σ : zS) (Q : Int64 → zS → Prop) : Prop := (31 ≤ (Int32.toInt x7) → (Q x4 σ)) ∧ (¬ 31 ≤ (Int32.toInt x7) → (((Int32.toInt ((x6 >>> (x7 &&& 31)) &&& 1)) = 1 → ((-2147483648 ≤ (Int32.toInt x7) + 1 ∧ (Int32.toInt x7) + 1 ≤ 2147483647) ∧ ∀ r4 : Int32, r4.toInt = (Int32.toInt x7) + 1 → (F13 ((x2 * x2) - (x2 * x2) / 2147483647 * 2147483647) ((x4 * x2) - (x4 * x2) / 2147483647 * 2147483647) x6 r4 σ Q))) ∧ (¬ (Int32.toInt ((x6 >>> (x7 &&& 31)) &&& 1)) = 1 → ((-2147483648 ≤ (Int32.toInt x7) + 1 ∧ (Int32.toInt x7) + 1 ≤ 2147483647) ∧ ∀ r3 : Int32, r3.toInt = (Int32.toInt x7) + 1 → (F13 ((x2 * x2) - (x2 * x2) / 2147483647 * 2147483647) x4 x6 r3 σ Q)))))
theorem sh_H_inverse_13 {E : xV} {σ : zS} {K : zKt} {F13 : Int64 → Int64 → Int32 → Int32 → zS → (Int64 → zS → Prop) → Prop} {x2 : Int64} {x4 : Int64} {x6 : Int32} {x7 : Int32} {Q : Int64 → zS → Prop} (f13 : ∀ (x2 : Int64) (x4 : Int64) (x6 : Int32) (x7 : Int32) (σ : zS), F13 x2 x4 x6 x7 σ Q → Wz E Y_H_inverse 13 [(2, .long x2), (4, .long x4), (6, .int x6), (7, .int x7)] [] σ K) (k : ∀ v s, Q v s → K (some (.long v)) s) (h : WB_H_inverse_13 F13 x2 x4 x6 x7 σ Q) : Wz E Y_H_inverse 13 [(2, .long x2), (4, .long x4), (6, .int x6), (7, .int x7)] [] σ K := by
  unfold WB_H_inverse_13 at h
  refine z_iload (i := 7) (q := 3) (pc' := 15) ⟨by decide +kernel, rfl⟩ rfl ?_
  refine z_bipush (i := 31) (v := 31) (pc' := 17) ⟨by decide +kernel, rfl⟩ (by decide) ?_
  refine z_icmp_ge (off := 38) (tgt := 55) (pc' := 20) ⟨by decide +kernel, by decide, rfl⟩ (fun h1 => ?_) (fun h1 => ?_)
  · have h := h.1 (qi_ge_t rfl (by decide) h1)
    refine z_lload (i := 4) (q := 1) (pc' := 57) ⟨by decide +kernel, rfl⟩ rfl ?_
    exact z_lret rfl (by decide +kernel) (k _ _ h)
  · have h := h.2 (qi_ge_f rfl (by decide) h1)
    refine z_iload (i := 6) (q := 2) (pc' := 22) ⟨by decide +kernel, rfl⟩ rfl ?_
    refine z_iload (i := 7) (q := 3) (pc' := 24) ⟨by decide +kernel, rfl⟩ rfl ?_
    refine z_ishr (pc' := 25) ⟨by decide +kernel, rfl⟩ ?_
    refine z_iconst (i := 1) (v := 1) (pc' := 26) ⟨by decide +kernel, rfl⟩ (by decide) ?_
    refine z_iand (pc' := 27) ⟨by decide +kernel, rfl⟩ ?_
    refine z_iconst (i := 1) (v := 1) (pc' := 28) ⟨by decide +kernel, rfl⟩ (by decide) ?_
    refine z_icmp_ne (off := 13) (tgt := 41) (pc' := 31) ⟨by decide +kernel, by decide, rfl⟩ (fun h2 => ?_) (fun h2 => ?_)
    · have h := h.2 (qi_ne_t rfl (by decide) h2)
      refine z_lload_n (f := 2) (i := 2) (q := 0) (pc' := 42) ⟨by decide +kernel, rfl⟩ rfl rfl ?_
      refine z_lload_n (f := 2) (i := 2) (q := 0) (pc' := 43) ⟨by decide +kernel, rfl⟩ rfl rfl ?_
      refine z_lmul (pc' := 44) ⟨by decide +kernel, rfl⟩ ?_
      refine z_ldc2 (i := 540) (v := 2147483647) (pc' := 47) ⟨by decide +kernel, rfl⟩ k_8_129 ?_
      refine z_lrem (pc' := 48) ⟨by decide +kernel, rfl⟩ (by decide) ?_
      refine z_lstore_n (f := 2) (i := 2) (pc' := 49) ⟨by decide +kernel, rfl⟩ rfl (by decide) rfl ?_
      show Wz E Y_H_inverse 49 [(2, .long ((x2 * x2) - (x2 * x2) / 2147483647 * 2147483647)), (4, .long x4), (6, .int x6), (7, .int x7)] [] σ K
      refine z_iinc (i := 7) (z := 1) (q := 3) (pc' := 52) ⟨by decide +kernel, rfl⟩ rfl rfl (by decide) rfl ?_
      show Wz E Y_H_inverse 52 [(7, .int (x7 + Int32.ofInt 1)), (2, .long ((x2 * x2) - (x2 * x2) / 2147483647 * 2147483647)), (4, .long x4), (6, .int x6)] [] σ K
      obtain ⟨hb3, h⟩ := h
      have h := h (x7 + Int32.ofInt 1) (ia_ok rfl (by decide) hb3)
      generalize (x7 + Int32.ofInt 1) = r3 at h ⊢
      refine z_goto (off := (-39)) (tgt := 13) (pc' := 55) ⟨by decide +kernel, by decide, rfl⟩ ?_
      refine z_sub [1, 2, 3, 0] rfl ?_
      exact f13 _ _ _ _ _ h
    · have h := h.1 (qi_ne_f rfl (by decide) h2)
      refine z_lload (i := 4) (q := 1) (pc' := 33) ⟨by decide +kernel, rfl⟩ rfl ?_
      refine z_lload_n (f := 2) (i := 2) (q := 0) (pc' := 34) ⟨by decide +kernel, rfl⟩ rfl rfl ?_
      refine z_lmul (pc' := 35) ⟨by decide +kernel, rfl⟩ ?_
      refine z_ldc2 (i := 540) (v := 2147483647) (pc' := 38) ⟨by decide +kernel, rfl⟩ k_8_129 ?_
      refine z_lrem (pc' := 39) ⟨by decide +kernel, rfl⟩ (by decide) ?_
      refine z_lstore (i := 4) (pc' := 41) ⟨by decide +kernel, rfl⟩ (by decide) rfl ?_
      show Wz E Y_H_inverse 41 [(4, .long ((x4 * x2) - (x4 * x2) / 2147483647 * 2147483647)), (2, .long x2), (6, .int x6), (7, .int x7)] [] σ K
      refine z_lload_n (f := 2) (i := 2) (q := 1) (pc' := 42) ⟨by decide +kernel, rfl⟩ rfl rfl ?_
      refine z_lload_n (f := 2) (i := 2) (q := 1) (pc' := 43) ⟨by decide +kernel, rfl⟩ rfl rfl ?_
      refine z_lmul (pc' := 44) ⟨by decide +kernel, rfl⟩ ?_
      refine z_ldc2 (i := 540) (v := 2147483647) (pc' := 47) ⟨by decide +kernel, rfl⟩ k_8_129 ?_
      refine z_lrem (pc' := 48) ⟨by decide +kernel, rfl⟩ (by decide) ?_
      refine z_lstore_n (f := 2) (i := 2) (pc' := 49) ⟨by decide +kernel, rfl⟩ rfl (by decide) rfl ?_
      show Wz E Y_H_inverse 49 [(2, .long ((x2 * x2) - (x2 * x2) / 2147483647 * 2147483647)), (4, .long ((x4 * x2) - (x4 * x2) / 2147483647 * 2147483647)), (6, .int x6), (7, .int x7)] [] σ K
      refine z_iinc (i := 7) (z := 1) (q := 3) (pc' := 52) ⟨by decide +kernel, rfl⟩ rfl rfl (by decide) rfl ?_
      show Wz E Y_H_inverse 52 [(7, .int (x7 + Int32.ofInt 1)), (2, .long ((x2 * x2) - (x2 * x2) / 2147483647 * 2147483647)), (4, .long ((x4 * x2) - (x4 * x2) / 2147483647 * 2147483647)), (6, .int x6)] [] σ K
      obtain ⟨hb4, h⟩ := h
      have h := h (x7 + Int32.ofInt 1) (ia_ok rfl (by decide) hb4)
      generalize (x7 + Int32.ofInt 1) = r4 at h ⊢
      refine z_goto (off := (-39)) (tgt := 13) (pc' := 55) ⟨by decide +kernel, by decide, rfl⟩ ?_
      refine z_sub [1, 2, 3, 0] rfl ?_
      exact f13 _ _ _ _ _ h
noncomputable def WL_H_inverse : Nat → (Int64 → Int64 → Int32 → Int32 → zS → (Int64 → zS → Prop) → Prop)
  | 0 => fun _ _ _ _ _ _ => False
  | n + 1 => WB_H_inverse_13 (WL_H_inverse n)
theorem wl_H_inverse_13 {n : Nat} {x2 : Int64} {x4 : Int64} {x6 : Int32} {x7 : Int32} {σ : zS} {Q : Int64 → zS → Prop} (h : WB_H_inverse_13 (WL_H_inverse n) x2 x4 x6 x7 σ Q) : (WL_H_inverse (n + 1)) x2 x4 x6 x7 σ Q := h
theorem sl_H_inverse {E : xV} {K : zKt} {Q : Int64 → zS → Prop} (k : ∀ v s, Q v s → K (some (.long v)) s) : ∀ n, (∀ (x2 : Int64) (x4 : Int64) (x6 : Int32) (x7 : Int32) (σ : zS), (WL_H_inverse n) x2 x4 x6 x7 σ Q → Wz E Y_H_inverse 13 [(2, .long x2), (4, .long x4), (6, .int x6), (7, .int x7)] [] σ K)
  | 0 => fun _ _ _ _ _ h => h.elim
  | n + 1 => by
    have i := sl_H_inverse (E := E)  k n
    exact fun _ _ _ _ _ h => sh_H_inverse_13 i k h
noncomputable def W_H_inverse (a0 : Int64) (σ : zS) (Q : Int64 → zS → Prop) : Prop := (WL_H_inverse fuF) a0 1 2147483645 0 σ Q
theorem sF_H_inverse {E : xV} {σ : zS} {K : zKt} {a0 : Int64} {Q : Int64 → zS → Prop} (h : W_H_inverse a0 σ Q) (k : ∀ v s, Q v s → K (some (.long v)) s) : Cz E Y_H_inverse [.long a0] σ K := by
  refine z_entry (by decide) (fun a => by rw [sl_len]; exact Nat.le_of_ble_eq_true rfl) rfl ?_
  unfold W_H_inverse at h
  refine z_lload_n (f := 0) (i := 0) (q := 0) (pc' := 1) ⟨by decide +kernel, rfl⟩ rfl rfl ?_
  refine z_lstore_n (f := 2) (i := 2) (pc' := 2) ⟨by decide +kernel, rfl⟩ rfl (by decide) rfl ?_
  show Wz E Y_H_inverse 2 [(2, .long a0), (0, .long a0)] [] σ K
  refine z_lconst (i := 1) (v := 1) (pc' := 3) ⟨by decide +kernel, rfl⟩ (by decide) ?_
  refine z_lstore (i := 4) (pc' := 5) ⟨by decide +kernel, rfl⟩ (by decide) rfl ?_
  show Wz E Y_H_inverse 5 [(4, .long 1), (2, .long a0), (0, .long a0)] [] σ K
  refine z_ldcw (i := 555) (v := 2147483645) (pc' := 8) ⟨by decide +kernel, rfl⟩ k_8_146 ?_
  refine z_istore (i := 6) (pc' := 10) ⟨by decide +kernel, rfl⟩ (by decide) rfl ?_
  show Wz E Y_H_inverse 10 [(6, .int 2147483645), (4, .long 1), (2, .long a0), (0, .long a0)] [] σ K
  refine z_iconst (i := 0) (v := 0) (pc' := 11) ⟨by decide +kernel, rfl⟩ (by decide) ?_
  refine z_istore (i := 7) (pc' := 13) ⟨by decide +kernel, rfl⟩ (by decide) rfl ?_
  show Wz E Y_H_inverse 13 [(7, .int 0), (6, .int 2147483645), (4, .long 1), (2, .long a0), (0, .long a0)] [] σ K
  refine z_sub [3, 2, 1, 0] rfl ?_
  exact (sl_H_inverse k fuF) _ _ _ _ _ h
noncomputable def WB_H_weightOf_15 (F15 : Int32 → Int64 → Int64 → Int64 → Int32 → zS → (Int64 → zS → Prop) → Prop) (x1 : Int32) (x2 : Int64) (x4 : Int64) (x6 : Int64) (x8 : Int32) (σ : zS) (Q : Int64 → zS → Prop) : Prop := ((Int32.toInt (σ.1 0 1)) ≤ (Int32.toInt x8) → (W_H_inverse x6 σ (fun v2 σ2 => Q ((x4 * v2) - (x4 * v2) / 2147483647 * 2147483647) σ2))) ∧ (¬ (Int32.toInt (σ.1 0 1)) ≤ (Int32.toInt x8) → (((Int32.toInt x8) = (Int32.toInt x1) → ((-2147483648 ≤ (Int32.toInt x8) + 8 ∧ (Int32.toInt x8) + 8 ≤ 2147483647) ∧ ∀ r4 : Int32, r4.toInt = (Int32.toInt x8) + 8 → (F15 x1 x2 x4 x6 r4 σ Q))) ∧ (¬ (Int32.toInt x8) = (Int32.toInt x1) → (W_H_tapeNumber x8 σ (fun v5 σ5 => (-2147483648 ≤ (Int32.toInt x8) + 8 ∧ (Int32.toInt x8) + 8 ≤ 2147483647) ∧ ∀ r6 : Int32, r6.toInt = (Int32.toInt x8) + 8 → (F15 x1 x2 ((x4 * v5) - (x4 * v5) / 2147483647 * 2147483647) ((x6 * (((v5 - x2) + 2147483647) - ((v5 - x2) + 2147483647) / 2147483647 * 2147483647)) - (x6 * (((v5 - x2) + 2147483647) - ((v5 - x2) + 2147483647) / 2147483647 * 2147483647)) / 2147483647 * 2147483647) r6 σ5 Q))))))
theorem sh_H_weightOf_15 {E : xV} {σ : zS} {K : zKt} {F15 : Int32 → Int64 → Int64 → Int64 → Int32 → zS → (Int64 → zS → Prop) → Prop} {x1 : Int32} {x2 : Int64} {x4 : Int64} {x6 : Int64} {x8 : Int32} {Q : Int64 → zS → Prop} (f15 : ∀ (x1 : Int32) (x2 : Int64) (x4 : Int64) (x6 : Int64) (x8 : Int32) (σ : zS), F15 x1 x2 x4 x6 x8 σ Q → Wz E Y_H_weightOf 15 [(0, .ref 0), (1, .int x1), (2, .long x2), (4, .long x4), (6, .long x6), (8, .int x8)] [] σ K) (k : ∀ v s, Q v s → K (some (.long v)) s) (h : WB_H_weightOf_15 F15 x1 x2 x4 x6 x8 σ Q) : Wz E Y_H_weightOf 15 [(0, .ref 0), (1, .int x1), (2, .long x2), (4, .long x4), (6, .long x6), (8, .int x8)] [] σ K := by
  unfold WB_H_weightOf_15 at h
  refine z_iload (i := 8) (q := 5) (pc' := 17) ⟨by decide +kernel, rfl⟩ rfl ?_
  refine z_aload_n (f := 0) (i := 0) (q := 0) (pc' := 18) ⟨by decide +kernel, rfl⟩ rfl rfl ?_
  refine w_geti (k := 0) (j := 1) (idx := 100) (pc' := 21) yfxe_1_100 ykfa_0_1 ⟨by decide +kernel, rfl⟩ ?_
  refine z_icmp_ge (off := 55) (tgt := 76) (pc' := 24) ⟨by decide +kernel, by decide, rfl⟩ (fun h1 => ?_) (fun h1 => ?_)
  · have h := h.1 (qi_ge_t rfl rfl h1)
    refine z_lload (i := 4) (q := 3) (pc' := 78) ⟨by decide +kernel, rfl⟩ rfl ?_
    refine z_lload (i := 6) (q := 4) (pc' := 80) ⟨by decide +kernel, rfl⟩ rfl ?_
    refine w_invS (Z := Y_H_inverse) (idx := 551) (As := [.long x6]) (rest := [.long x4]) (pc' := 83) cl_1_551 rfl ⟨rfl, rfl⟩ ⟨⟨by decide, by decide⟩, rfl, rfl⟩ ⟨by decide +kernel, rfl⟩ rfl rfl (Nat.le_of_ble_eq_true rfl) rfl rfl ?_
    refine sF_H_inverse h (fun v2 σ2 h => ?_)
    show Wz E Y_H_weightOf 83 [(0, .ref 0), (1, .int x1), (2, .long x2), (4, .long x4), (6, .long x6), (8, .int x8)] [.long v2, .long x4] σ2 K
    refine z_lmul (pc' := 84) ⟨by decide +kernel, rfl⟩ ?_
    refine z_ldc2 (i := 540) (v := 2147483647) (pc' := 87) ⟨by decide +kernel, rfl⟩ k_8_129 ?_
    refine z_lrem (pc' := 88) ⟨by decide +kernel, rfl⟩ (by decide) ?_
    exact z_lret rfl (by decide +kernel) (k _ _ h)
  · have h := h.2 (qi_ge_f rfl rfl h1)
    refine z_iload (i := 8) (q := 5) (pc' := 26) ⟨by decide +kernel, rfl⟩ rfl ?_
    refine z_iload_n (f := 1) (i := 1) (q := 1) (pc' := 27) ⟨by decide +kernel, rfl⟩ rfl rfl ?_
    refine z_icmp_eq (off := 43) (tgt := 70) (pc' := 30) ⟨by decide +kernel, by decide, rfl⟩ (fun h3 => ?_) (fun h3 => ?_)
    · have h := h.1 (qi_eq_t rfl rfl h3)
      refine z_iinc (i := 8) (z := 8) (q := 5) (pc' := 73) ⟨by decide +kernel, rfl⟩ rfl rfl (by decide) rfl ?_
      show Wz E Y_H_weightOf 73 [(8, .int (x8 + Int32.ofInt 8)), (0, .ref 0), (1, .int x1), (2, .long x2), (4, .long x4), (6, .long x6)] [] σ K
      obtain ⟨hb4, h⟩ := h
      have h := h (x8 + Int32.ofInt 8) (ia_ok rfl (by decide) hb4)
      generalize (x8 + Int32.ofInt 8) = r4 at h ⊢
      refine z_goto (off := (-58)) (tgt := 15) (pc' := 76) ⟨by decide +kernel, by decide, rfl⟩ ?_
      refine z_sub [1, 2, 3, 4, 5, 0] rfl ?_
      exact f15 _ _ _ _ _ _ h
    · have h := h.2 (qi_eq_f rfl rfl h3)
      refine z_aload_n (f := 0) (i := 0) (q := 0) (pc' := 31) ⟨by decide +kernel, rfl⟩ rfl rfl ?_
      refine z_iload (i := 8) (q := 5) (pc' := 33) ⟨by decide +kernel, rfl⟩ rfl ?_
      refine w_invV (Z := Y_H_tapeNumber) (idx := 537) (kb := 0) (As := [.int x8]) (rest := []) (pc' := 36) cl_1_537 rfl ⟨rfl, rfl⟩ ykfa_0_0 rfl ⟨⟨by decide, by decide⟩, rfl, rfl⟩ ⟨by decide +kernel, rfl⟩ rfl rfl (Nat.le_of_ble_eq_true rfl) rfl rfl ?_
      refine sF_H_tapeNumber h (fun v5 σ5 h => ?_)
      show Wz E Y_H_weightOf 36 [(0, .ref 0), (1, .int x1), (2, .long x2), (4, .long x4), (6, .long x6), (8, .int x8)] [.long v5] σ5 K
      refine z_lstore (i := 9) (pc' := 38) ⟨by decide +kernel, rfl⟩ (by decide) rfl ?_
      show Wz E Y_H_weightOf 38 [(9, .long v5), (0, .ref 0), (1, .int x1), (2, .long x2), (4, .long x4), (6, .long x6), (8, .int x8)] [] σ5 K
      refine z_lload (i := 4) (q := 4) (pc' := 40) ⟨by decide +kernel, rfl⟩ rfl ?_
      refine z_lload (i := 9) (q := 0) (pc' := 42) ⟨by decide +kernel, rfl⟩ rfl ?_
      refine z_lmul (pc' := 43) ⟨by decide +kernel, rfl⟩ ?_
      refine z_ldc2 (i := 540) (v := 2147483647) (pc' := 46) ⟨by decide +kernel, rfl⟩ k_8_129 ?_
      refine z_lrem (pc' := 47) ⟨by decide +kernel, rfl⟩ (by decide) ?_
      refine z_lstore (i := 4) (pc' := 49) ⟨by decide +kernel, rfl⟩ (by decide) rfl ?_
      show Wz E Y_H_weightOf 49 [(4, .long ((x4 * v5) - (x4 * v5) / 2147483647 * 2147483647)), (9, .long v5), (0, .ref 0), (1, .int x1), (2, .long x2), (6, .long x6), (8, .int x8)] [] σ5 K
      refine z_lload (i := 6) (q := 5) (pc' := 51) ⟨by decide +kernel, rfl⟩ rfl ?_
      refine z_lload (i := 9) (q := 1) (pc' := 53) ⟨by decide +kernel, rfl⟩ rfl ?_
      refine z_lload_n (f := 2) (i := 2) (q := 4) (pc' := 54) ⟨by decide +kernel, rfl⟩ rfl rfl ?_
      refine z_lsub (pc' := 55) ⟨by decide +kernel, rfl⟩ ?_
      refine z_ldc2 (i := 540) (v := 2147483647) (pc' := 58) ⟨by decide +kernel, rfl⟩ k_8_129 ?_
      refine z_ladd (pc' := 59) ⟨by decide +kernel, rfl⟩ ?_
      refine z_ldc2 (i := 540) (v := 2147483647) (pc' := 62) ⟨by decide +kernel, rfl⟩ k_8_129 ?_
      refine z_lrem (pc' := 63) ⟨by decide +kernel, rfl⟩ (by decide) ?_
      refine z_lmul (pc' := 64) ⟨by decide +kernel, rfl⟩ ?_
      refine z_ldc2 (i := 540) (v := 2147483647) (pc' := 67) ⟨by decide +kernel, rfl⟩ k_8_129 ?_
      refine z_lrem (pc' := 68) ⟨by decide +kernel, rfl⟩ (by decide) ?_
      refine z_lstore (i := 6) (pc' := 70) ⟨by decide +kernel, rfl⟩ (by decide) rfl ?_
      show Wz E Y_H_weightOf 70 [(6, .long ((x6 * (((v5 - x2) + 2147483647) - ((v5 - x2) + 2147483647) / 2147483647 * 2147483647)) - (x6 * (((v5 - x2) + 2147483647) - ((v5 - x2) + 2147483647) / 2147483647 * 2147483647)) / 2147483647 * 2147483647)), (4, .long ((x4 * v5) - (x4 * v5) / 2147483647 * 2147483647)), (9, .long v5), (0, .ref 0), (1, .int x1), (2, .long x2), (8, .int x8)] [] σ5 K
      refine z_iinc (i := 8) (z := 8) (q := 6) (pc' := 73) ⟨by decide +kernel, rfl⟩ rfl rfl (by decide) rfl ?_
      show Wz E Y_H_weightOf 73 [(8, .int (x8 + Int32.ofInt 8)), (6, .long ((x6 * (((v5 - x2) + 2147483647) - ((v5 - x2) + 2147483647) / 2147483647 * 2147483647)) - (x6 * (((v5 - x2) + 2147483647) - ((v5 - x2) + 2147483647) / 2147483647 * 2147483647)) / 2147483647 * 2147483647)), (4, .long ((x4 * v5) - (x4 * v5) / 2147483647 * 2147483647)), (9, .long v5), (0, .ref 0), (1, .int x1), (2, .long x2)] [] σ5 K
      obtain ⟨hb6, h⟩ := h
      have h := h (x8 + Int32.ofInt 8) (ia_ok rfl (by decide) hb6)
      generalize (x8 + Int32.ofInt 8) = r6 at h ⊢
      refine z_goto (off := (-58)) (tgt := 15) (pc' := 76) ⟨by decide +kernel, by decide, rfl⟩ ?_
      refine z_sub [4, 5, 6, 2, 1, 0] rfl ?_
      exact f15 _ _ _ _ _ _ h
noncomputable def WL_H_weightOf : Nat → (Int32 → Int64 → Int64 → Int64 → Int32 → zS → (Int64 → zS → Prop) → Prop)
  | 0 => fun _ _ _ _ _ _ _ => False
  | n + 1 => WB_H_weightOf_15 (WL_H_weightOf n)
theorem wl_H_weightOf_15 {n : Nat} {x1 : Int32} {x2 : Int64} {x4 : Int64} {x6 : Int64} {x8 : Int32} {σ : zS} {Q : Int64 → zS → Prop} (h : WB_H_weightOf_15 (WL_H_weightOf n) x1 x2 x4 x6 x8 σ Q) : (WL_H_weightOf (n + 1)) x1 x2 x4 x6 x8 σ Q := h
theorem sl_H_weightOf {E : xV} {K : zKt} {Q : Int64 → zS → Prop} (k : ∀ v s, Q v s → K (some (.long v)) s) : ∀ n, (∀ (x1 : Int32) (x2 : Int64) (x4 : Int64) (x6 : Int64) (x8 : Int32) (σ : zS), (WL_H_weightOf n) x1 x2 x4 x6 x8 σ Q → Wz E Y_H_weightOf 15 [(0, .ref 0), (1, .int x1), (2, .long x2), (4, .long x4), (6, .long x6), (8, .int x8)] [] σ K)
  | 0 => fun _ _ _ _ _ _ h => h.elim
  | n + 1 => by
    have i := sl_H_weightOf (E := E)  k n
    exact fun _ _ _ _ _ _ h => sh_H_weightOf_15 i k h
noncomputable def W_H_weightOf (a1 : Int32) (σ : zS) (Q : Int64 → zS → Prop) : Prop := W_H_tapeNumber a1 σ (fun v1 σ1 => (WL_H_weightOf fuF) a1 v1 1 1 0 σ1 Q)
theorem sF_H_weightOf {E : xV} {σ : zS} {K : zKt} {a1 : Int32} {Q : Int64 → zS → Prop} (h : W_H_weightOf a1 σ Q) (k : ∀ v s, Q v s → K (some (.long v)) s) : Cz E Y_H_weightOf [.ref 0, .int a1] σ K := by
  refine z_entry (by decide) (fun a => by rw [sl_len]; exact Nat.le_of_ble_eq_true rfl) rfl ?_
  unfold W_H_weightOf at h
  refine z_aload_n (f := 0) (i := 0) (q := 0) (pc' := 1) ⟨by decide +kernel, rfl⟩ rfl rfl ?_
  refine z_iload_n (f := 1) (i := 1) (q := 1) (pc' := 2) ⟨by decide +kernel, rfl⟩ rfl rfl ?_
  refine w_invV (Z := Y_H_tapeNumber) (idx := 537) (kb := 0) (As := [.int a1]) (rest := []) (pc' := 5) cl_1_537 rfl ⟨rfl, rfl⟩ ykfa_0_0 rfl ⟨⟨by decide, by decide⟩, rfl, rfl⟩ ⟨by decide +kernel, rfl⟩ rfl rfl (Nat.le_of_ble_eq_true rfl) rfl rfl ?_
  refine sF_H_tapeNumber h (fun v1 σ1 h => ?_)
  show Wz E Y_H_weightOf 5 [(0, .ref 0), (1, .int a1)] [.long v1] σ1 K
  refine z_lstore_n (f := 2) (i := 2) (pc' := 6) ⟨by decide +kernel, rfl⟩ rfl (by decide) rfl ?_
  show Wz E Y_H_weightOf 6 [(2, .long v1), (0, .ref 0), (1, .int a1)] [] σ1 K
  refine z_lconst (i := 1) (v := 1) (pc' := 7) ⟨by decide +kernel, rfl⟩ (by decide) ?_
  refine z_lstore (i := 4) (pc' := 9) ⟨by decide +kernel, rfl⟩ (by decide) rfl ?_
  show Wz E Y_H_weightOf 9 [(4, .long 1), (2, .long v1), (0, .ref 0), (1, .int a1)] [] σ1 K
  refine z_lconst (i := 1) (v := 1) (pc' := 10) ⟨by decide +kernel, rfl⟩ (by decide) ?_
  refine z_lstore (i := 6) (pc' := 12) ⟨by decide +kernel, rfl⟩ (by decide) rfl ?_
  show Wz E Y_H_weightOf 12 [(6, .long 1), (4, .long 1), (2, .long v1), (0, .ref 0), (1, .int a1)] [] σ1 K
  refine z_iconst (i := 0) (v := 0) (pc' := 13) ⟨by decide +kernel, rfl⟩ (by decide) ?_
  refine z_istore (i := 8) (pc' := 15) ⟨by decide +kernel, rfl⟩ (by decide) rfl ?_
  show Wz E Y_H_weightOf 15 [(8, .int 0), (6, .long 1), (4, .long 1), (2, .long v1), (0, .ref 0), (1, .int a1)] [] σ1 K
  refine z_sub [4, 5, 3, 2, 1, 0] rfl ?_
  exact (sl_H_weightOf k fuF) _ _ _ _ _ _ h
noncomputable def WB_H_joined_40 (F40 : Int64 → Int32 → zS → (Int32 → zS → Prop) → Prop) (x1 : Int64) (x3 : Int32) (σ : zS) (Q : Int32 → zS → Prop) : Prop := ((Int32.toInt (σ.1 0 1)) ≤ (Int32.toInt x3) → (∀ σ2 : zS, zI σ 0 1 0 = σ2 → (Q (Int64.toInt32 x1) σ2))) ∧ (¬ (Int32.toInt (σ.1 0 1)) ≤ (Int32.toInt x3) → ((-2147483648 ≤ (Int32.toInt x3) + 4 ∧ (Int32.toInt x3) + 4 ≤ 2147483647) ∧ ∀ r3 : Int32, r3.toInt = (Int32.toInt x3) + 4 → (W_H_tapeNumber r3 σ (fun v4 σ4 => W_H_weightOf x3 σ4 (fun v5 σ5 => (-2147483648 ≤ (Int32.toInt x3) + 8 ∧ (Int32.toInt x3) + 8 ≤ 2147483647) ∧ ∀ r6 : Int32, r6.toInt = (Int32.toInt x3) + 8 → (F40 ((x1 + ((v4 * v5) - (v4 * v5) / 2147483647 * 2147483647)) - (x1 + ((v4 * v5) - (v4 * v5) / 2147483647 * 2147483647)) / 2147483647 * 2147483647) r6 σ5 Q))))))
theorem sh_H_joined_40 {E : xV} {σ : zS} {K : zKt} {F40 : Int64 → Int32 → zS → (Int32 → zS → Prop) → Prop} {x1 : Int64} {x3 : Int32} {Q : Int32 → zS → Prop} (f40 : ∀ (x1 : Int64) (x3 : Int32) (σ : zS), F40 x1 x3 σ Q → Wz E Y_H_joined 40 [(0, .ref 0), (1, .long x1), (3, .int x3)] [] σ K) (k : ∀ v s, Q v s → K (some (.int v)) s) (h : WB_H_joined_40 F40 x1 x3 σ Q) : Wz E Y_H_joined 40 [(0, .ref 0), (1, .long x1), (3, .int x3)] [] σ K := by
  unfold WB_H_joined_40 at h
  refine z_iload_n (f := 3) (i := 3) (q := 2) (pc' := 41) ⟨by decide +kernel, rfl⟩ rfl rfl ?_
  refine z_aload_n (f := 0) (i := 0) (q := 0) (pc' := 42) ⟨by decide +kernel, rfl⟩ rfl rfl ?_
  refine w_geti (k := 0) (j := 1) (idx := 100) (pc' := 45) yfxe_1_100 ykfa_0_1 ⟨by decide +kernel, rfl⟩ ?_
  refine z_icmp_ge (off := 33) (tgt := 78) (pc' := 48) ⟨by decide +kernel, by decide, rfl⟩ (fun h1 => ?_) (fun h1 => ?_)
  · have h := h.1 (qi_ge_t rfl rfl h1)
    refine z_aload_n (f := 0) (i := 0) (q := 0) (pc' := 79) ⟨by decide +kernel, rfl⟩ rfl rfl ?_
    refine z_iconst (i := 0) (v := 0) (pc' := 80) ⟨by decide +kernel, rfl⟩ (by decide) ?_
    refine w_puti (k := 0) (j := 1) (idx := 100) (pc' := 83) yfxi_1_100 ykfa_0_1 ⟨by decide +kernel, rfl⟩ ?_
    generalize hs2 : zI σ 0 1 0 = σ2
    have h := h σ2 hs2
    refine z_lload_n (f := 1) (i := 1) (q := 1) (pc' := 84) ⟨by decide +kernel, rfl⟩ rfl rfl ?_
    refine z_l2i (pc' := 85) ⟨by decide +kernel, rfl⟩ rfl ?_
    exact z_iret (ty := .int) rfl (by rfl) (by decide +kernel) (k _ _ h)
  · have h := h.2 (qi_ge_f rfl rfl h1)
    refine z_lload_n (f := 1) (i := 1) (q := 1) (pc' := 49) ⟨by decide +kernel, rfl⟩ rfl rfl ?_
    refine z_aload_n (f := 0) (i := 0) (q := 0) (pc' := 50) ⟨by decide +kernel, rfl⟩ rfl rfl ?_
    refine z_iload_n (f := 3) (i := 3) (q := 2) (pc' := 51) ⟨by decide +kernel, rfl⟩ rfl rfl ?_
    refine z_iconst (i := 4) (v := 4) (pc' := 52) ⟨by decide +kernel, rfl⟩ (by decide) ?_
    refine z_iadd (pc' := 53) ⟨by decide +kernel, rfl⟩ ?_
    obtain ⟨hb3, h⟩ := h
    have h := h (x3 + 4) (ia_ok rfl (by decide) hb3)
    generalize (x3 + 4) = r3 at h ⊢
    refine w_invV (Z := Y_H_tapeNumber) (idx := 537) (kb := 0) (As := [.int r3]) (rest := [.long x1]) (pc' := 56) cl_1_537 rfl ⟨rfl, rfl⟩ ykfa_0_0 rfl ⟨⟨by decide, by decide⟩, rfl, rfl⟩ ⟨by decide +kernel, rfl⟩ rfl rfl (Nat.le_of_ble_eq_true rfl) rfl rfl ?_
    refine sF_H_tapeNumber h (fun v4 σ4 h => ?_)
    show Wz E Y_H_joined 56 [(0, .ref 0), (1, .long x1), (3, .int x3)] [.long v4, .long x1] σ4 K
    refine z_aload_n (f := 0) (i := 0) (q := 0) (pc' := 57) ⟨by decide +kernel, rfl⟩ rfl rfl ?_
    refine z_iload_n (f := 3) (i := 3) (q := 2) (pc' := 58) ⟨by decide +kernel, rfl⟩ rfl rfl ?_
    refine w_invV (Z := Y_H_weightOf) (idx := 546) (kb := 0) (As := [.int x3]) (rest := [.long v4, .long x1]) (pc' := 61) cl_1_546 rfl ⟨rfl, rfl⟩ ykfa_0_0 rfl ⟨⟨by decide, by decide⟩, rfl, rfl⟩ ⟨by decide +kernel, rfl⟩ rfl rfl (Nat.le_of_ble_eq_true rfl) rfl rfl ?_
    refine sF_H_weightOf h (fun v5 σ5 h => ?_)
    show Wz E Y_H_joined 61 [(0, .ref 0), (1, .long x1), (3, .int x3)] [.long v5, .long v4, .long x1] σ5 K
    refine z_lmul (pc' := 62) ⟨by decide +kernel, rfl⟩ ?_
    refine z_ldc2 (i := 540) (v := 2147483647) (pc' := 65) ⟨by decide +kernel, rfl⟩ k_8_129 ?_
    refine z_lrem (pc' := 66) ⟨by decide +kernel, rfl⟩ (by decide) ?_
    refine z_ladd (pc' := 67) ⟨by decide +kernel, rfl⟩ ?_
    refine z_ldc2 (i := 540) (v := 2147483647) (pc' := 70) ⟨by decide +kernel, rfl⟩ k_8_129 ?_
    refine z_lrem (pc' := 71) ⟨by decide +kernel, rfl⟩ (by decide) ?_
    refine z_lstore_n (f := 1) (i := 1) (pc' := 72) ⟨by decide +kernel, rfl⟩ rfl (by decide) rfl ?_
    show Wz E Y_H_joined 72 [(1, .long ((x1 + ((v4 * v5) - (v4 * v5) / 2147483647 * 2147483647)) - (x1 + ((v4 * v5) - (v4 * v5) / 2147483647 * 2147483647)) / 2147483647 * 2147483647)), (0, .ref 0), (3, .int x3)] [] σ5 K
    refine z_iinc (i := 3) (z := 8) (q := 2) (pc' := 75) ⟨by decide +kernel, rfl⟩ rfl rfl (by decide) rfl ?_
    show Wz E Y_H_joined 75 [(3, .int (x3 + Int32.ofInt 8)), (1, .long ((x1 + ((v4 * v5) - (v4 * v5) / 2147483647 * 2147483647)) - (x1 + ((v4 * v5) - (v4 * v5) / 2147483647 * 2147483647)) / 2147483647 * 2147483647)), (0, .ref 0)] [] σ5 K
    obtain ⟨hb6, h⟩ := h
    have h := h (x3 + Int32.ofInt 8) (ia_ok rfl (by decide) hb6)
    generalize (x3 + Int32.ofInt 8) = r6 at h ⊢
    refine z_goto (off := (-35)) (tgt := 40) (pc' := 78) ⟨by decide +kernel, by decide, rfl⟩ ?_
    refine z_sub [2, 1, 0] rfl ?_
    exact f40 _ _ _ h
noncomputable def WL_H_joined : Nat → (Int64 → Int32 → zS → (Int32 → zS → Prop) → Prop)
  | 0 => fun _ _ _ _ => False
  | n + 1 => WB_H_joined_40 (WL_H_joined n)
theorem wl_H_joined_40 {n : Nat} {x1 : Int64} {x3 : Int32} {σ : zS} {Q : Int32 → zS → Prop} (h : WB_H_joined_40 (WL_H_joined n) x1 x3 σ Q) : (WL_H_joined (n + 1)) x1 x3 σ Q := h
theorem sl_H_joined {E : xV} {K : zKt} {Q : Int32 → zS → Prop} (k : ∀ v s, Q v s → K (some (.int v)) s) : ∀ n, (∀ (x1 : Int64) (x3 : Int32) (σ : zS), (WL_H_joined n) x1 x3 σ Q → Wz E Y_H_joined 40 [(0, .ref 0), (1, .long x1), (3, .int x3)] [] σ K)
  | 0 => fun _ _ _ h => h.elim
  | n + 1 => by
    have i := sl_H_joined (E := E)  k n
    exact fun _ _ _ h => sh_H_joined_40 i k h
noncomputable def W_H_joined  (σ : zS) (Q : Int32 → zS → Prop) : Prop := (0 ≤ (Int32.toInt (σ.1 0 1))) ∧ (∀ r2 : Int32, r2.toInt = (Int32.toInt (σ.1 0 1)) % 8 → (((Int32.toInt r2) = 0 → (((Int32.toInt (σ.1 0 1)) = 0 → (Q (-2) σ)) ∧ (¬ (Int32.toInt (σ.1 0 1)) = 0 → ((80 < (Int32.toInt (σ.1 0 1)) → (Q (-2) σ)) ∧ (¬ 80 < (Int32.toInt (σ.1 0 1)) → (W_H_areHalves  σ (fun v6 σ6 => ((Int32.toInt v6) = 0 → (Q (-2) σ6)) ∧ (¬ (Int32.toInt v6) = 0 → ((WL_H_joined fuF) 0 0 σ6 Q))))))))) ∧ (¬ (Int32.toInt r2) = 0 → (Q (-2) σ))))
theorem sF_H_joined {E : xV} {σ : zS} {K : zKt}  {Q : Int32 → zS → Prop} (h : W_H_joined  σ Q) (k : ∀ v s, Q v s → K (some (.int v)) s) : Cz E Y_H_joined [.ref 0] σ K := by
  refine z_entry (by decide) (fun a => by rw [sl_len]; exact Nat.le_of_ble_eq_true rfl) rfl ?_
  unfold W_H_joined at h
  refine z_aload_n (f := 0) (i := 0) (q := 0) (pc' := 1) ⟨by decide +kernel, rfl⟩ rfl rfl ?_
  refine w_geti (k := 0) (j := 1) (idx := 100) (pc' := 4) yfxe_1_100 ykfa_0_1 ⟨by decide +kernel, rfl⟩ ?_
  refine z_bipush (i := 8) (v := 8) (pc' := 6) ⟨by decide +kernel, rfl⟩ (by decide) ?_
  refine z_irem (pc' := 7) ⟨by decide +kernel, rfl⟩ (by decide) ?_
  obtain ⟨hg1, h⟩ := h
  have h := h ((σ.1 0 1) - (σ.1 0 1) / 8 * 8) (remi_ok hg1 (by decide) (by decide))
  generalize ((σ.1 0 1) - (σ.1 0 1) / 8 * 8) = r2 at h ⊢
  refine z_if_ne (off := 26) (tgt := 33) (pc' := 10) ⟨by decide +kernel, by decide, rfl⟩ (fun h3 => ?_) (fun h3 => ?_)
  · have h := h.2 (qi_ne_t rfl (by decide) h3)
    refine z_bipush (i := (-2)) (v := (-2)) (pc' := 35) ⟨by decide +kernel, rfl⟩ (by decide) ?_
    exact z_iret (ty := .int) rfl (by rfl) (by decide +kernel) (k _ _ h)
  · have h := h.1 (qi_ne_f rfl (by decide) h3)
    refine z_aload_n (f := 0) (i := 0) (q := 0) (pc' := 11) ⟨by decide +kernel, rfl⟩ rfl rfl ?_
    refine w_geti (k := 0) (j := 1) (idx := 100) (pc' := 14) yfxe_1_100 ykfa_0_1 ⟨by decide +kernel, rfl⟩ ?_
    refine z_if_eq (off := 19) (tgt := 33) (pc' := 17) ⟨by decide +kernel, by decide, rfl⟩ (fun h4 => ?_) (fun h4 => ?_)
    · have h := h.1 (qi_eq_t rfl (by decide) h4)
      refine z_bipush (i := (-2)) (v := (-2)) (pc' := 35) ⟨by decide +kernel, rfl⟩ (by decide) ?_
      exact z_iret (ty := .int) rfl (by rfl) (by decide +kernel) (k _ _ h)
    · have h := h.2 (qi_eq_f rfl (by decide) h4)
      refine z_aload_n (f := 0) (i := 0) (q := 0) (pc' := 18) ⟨by decide +kernel, rfl⟩ rfl rfl ?_
      refine w_geti (k := 0) (j := 1) (idx := 100) (pc' := 21) yfxe_1_100 ykfa_0_1 ⟨by decide +kernel, rfl⟩ ?_
      refine z_bipush (i := 80) (v := 80) (pc' := 23) ⟨by decide +kernel, rfl⟩ (by decide) ?_
      refine z_icmp_gt (off := 10) (tgt := 33) (pc' := 26) ⟨by decide +kernel, by decide, rfl⟩ (fun h5 => ?_) (fun h5 => ?_)
      · have h := h.1 (qi_gt_t rfl (by decide) h5)
        refine z_bipush (i := (-2)) (v := (-2)) (pc' := 35) ⟨by decide +kernel, rfl⟩ (by decide) ?_
        exact z_iret (ty := .int) rfl (by rfl) (by decide +kernel) (k _ _ h)
      · have h := h.2 (qi_gt_f rfl (by decide) h5)
        refine z_aload_n (f := 0) (i := 0) (q := 0) (pc' := 27) ⟨by decide +kernel, rfl⟩ rfl rfl ?_
        refine w_invV (Z := Y_H_areHalves) (idx := 542) (kb := 0) (As := []) (rest := []) (pc' := 30) cl_1_542 rfl ⟨rfl, rfl⟩ ykfa_0_0 rfl ⟨⟨by decide, by decide⟩, rfl, rfl⟩ ⟨by decide +kernel, rfl⟩ rfl rfl (Nat.le_of_ble_eq_true rfl) rfl rfl ?_
        refine sF_H_areHalves h (fun v6 σ6 h => ?_)
        show Wz E Y_H_joined 30 [(0, .ref 0)] [.int v6] σ6 K
        refine z_if_ne (off := 6) (tgt := 36) (pc' := 33) ⟨by decide +kernel, by decide, rfl⟩ (fun h7 => ?_) (fun h7 => ?_)
        · have h := h.2 (qi_ne_t rfl (by decide) h7)
          refine z_lconst (i := 0) (v := 0) (pc' := 37) ⟨by decide +kernel, rfl⟩ (by decide) ?_
          refine z_lstore_n (f := 1) (i := 1) (pc' := 38) ⟨by decide +kernel, rfl⟩ rfl (by decide) rfl ?_
          show Wz E Y_H_joined 38 [(1, .long 0), (0, .ref 0)] [] σ6 K
          refine z_iconst (i := 0) (v := 0) (pc' := 39) ⟨by decide +kernel, rfl⟩ (by decide) ?_
          refine z_istore_n (f := 3) (i := 3) (pc' := 40) ⟨by decide +kernel, rfl⟩ rfl (by decide) rfl ?_
          show Wz E Y_H_joined 40 [(3, .int 0), (1, .long 0), (0, .ref 0)] [] σ6 K
          refine z_sub [2, 1, 0] rfl ?_
          exact (sl_H_joined k fuF) _ _ _ h
        · have h := h.1 (qi_ne_f rfl (by decide) h7)
          refine z_bipush (i := (-2)) (v := (-2)) (pc' := 35) ⟨by decide +kernel, rfl⟩ (by decide) ?_
          exact z_iret (ty := .int) rfl (by rfl) (by decide +kernel) (k _ _ h)
noncomputable def WB_H_half_56 (F56 : Int32 → Int32 → Int64 → Int32 → zS → (Int32 → zS → Prop) → Prop) (x1 : Int32) (x2 : Int32) (x3 : Int64) (x5 : Int32) (σ : zS) (Q : Int32 → zS → Prop) : Prop := ((Int32.toInt x5) < 0 → (∀ σ2 : zS, zI σ 0 1 0 = σ2 → (∀ r3 : Int64, r3.toInt = (Int32.toInt x1) → (Q (Int64.toInt32 ((x3 + r3) - (x3 + r3) / 2147483647 * 2147483647)) σ2)))) ∧ (¬ (Int32.toInt x5) < 0 → (W_H_tapeNumber x5 σ (fun v4 σ4 => ∀ r5 : Int64, r5.toInt = (Int32.toInt x2) → ((-2147483648 ≤ (Int32.toInt x5) + (-4) ∧ (Int32.toInt x5) + (-4) ≤ 2147483647) ∧ ∀ r6 : Int32, r6.toInt = (Int32.toInt x5) + (-4) → (F56 x1 x2 ((((x3 + (v4 - v4 / 2147483647 * 2147483647)) - (x3 + (v4 - v4 / 2147483647 * 2147483647)) / 2147483647 * 2147483647) * r5) - (((x3 + (v4 - v4 / 2147483647 * 2147483647)) - (x3 + (v4 - v4 / 2147483647 * 2147483647)) / 2147483647 * 2147483647) * r5) / 2147483647 * 2147483647) r6 σ4 Q)))))
theorem sh_H_half_56 {E : xV} {σ : zS} {K : zKt} {F56 : Int32 → Int32 → Int64 → Int32 → zS → (Int32 → zS → Prop) → Prop} {x1 : Int32} {x2 : Int32} {x3 : Int64} {x5 : Int32} {Q : Int32 → zS → Prop} (f56 : ∀ (x1 : Int32) (x2 : Int32) (x3 : Int64) (x5 : Int32) (σ : zS), F56 x1 x2 x3 x5 σ Q → Wz E Y_H_half 56 [(0, .ref 0), (1, .int x1), (2, .int x2), (3, .long x3), (5, .int x5)] [] σ K) (k : ∀ v s, Q v s → K (some (.int v)) s) (h : WB_H_half_56 F56 x1 x2 x3 x5 σ Q) : Wz E Y_H_half 56 [(0, .ref 0), (1, .int x1), (2, .int x2), (3, .long x3), (5, .int x5)] [] σ K := by
  unfold WB_H_half_56 at h
  refine z_iload (i := 5) (q := 4) (pc' := 58) ⟨by decide +kernel, rfl⟩ rfl ?_
  refine z_if_lt (off := 33) (tgt := 91) (pc' := 61) ⟨by decide +kernel, by decide, rfl⟩ (fun h1 => ?_) (fun h1 => ?_)
  · have h := h.1 (qi_lt_t rfl (by decide) h1)
    refine z_aload_n (f := 0) (i := 0) (q := 0) (pc' := 92) ⟨by decide +kernel, rfl⟩ rfl rfl ?_
    refine z_iconst (i := 0) (v := 0) (pc' := 93) ⟨by decide +kernel, rfl⟩ (by decide) ?_
    refine w_puti (k := 0) (j := 1) (idx := 100) (pc' := 96) yfxi_1_100 ykfa_0_1 ⟨by decide +kernel, rfl⟩ ?_
    generalize hs2 : zI σ 0 1 0 = σ2
    have h := h σ2 hs2
    refine z_lload_n (f := 3) (i := 3) (q := 3) (pc' := 97) ⟨by decide +kernel, rfl⟩ rfl rfl ?_
    refine z_iload_n (f := 1) (i := 1) (q := 1) (pc' := 98) ⟨by decide +kernel, rfl⟩ rfl rfl ?_
    refine z_i2l (v := (Int32.toInt64 x1)) (pc' := 99) ⟨by decide +kernel, rfl⟩ rfl ?_
    have h := h (Int32.toInt64 x1) (Int32.toInt_toInt64 _)
    generalize (Int32.toInt64 x1) = r3 at h ⊢
    refine z_ladd (pc' := 100) ⟨by decide +kernel, rfl⟩ ?_
    refine z_ldc2 (i := 540) (v := 2147483647) (pc' := 103) ⟨by decide +kernel, rfl⟩ k_8_129 ?_
    refine z_lrem (pc' := 104) ⟨by decide +kernel, rfl⟩ (by decide) ?_
    refine z_l2i (pc' := 105) ⟨by decide +kernel, rfl⟩ rfl ?_
    exact z_iret (ty := .int) rfl (by rfl) (by decide +kernel) (k _ _ h)
  · have h := h.2 (qi_lt_f rfl (by decide) h1)
    refine z_lload_n (f := 3) (i := 3) (q := 3) (pc' := 62) ⟨by decide +kernel, rfl⟩ rfl rfl ?_
    refine z_aload_n (f := 0) (i := 0) (q := 0) (pc' := 63) ⟨by decide +kernel, rfl⟩ rfl rfl ?_
    refine z_iload (i := 5) (q := 4) (pc' := 65) ⟨by decide +kernel, rfl⟩ rfl ?_
    refine w_invV (Z := Y_H_tapeNumber) (idx := 537) (kb := 0) (As := [.int x5]) (rest := [.long x3]) (pc' := 68) cl_1_537 rfl ⟨rfl, rfl⟩ ykfa_0_0 rfl ⟨⟨by decide, by decide⟩, rfl, rfl⟩ ⟨by decide +kernel, rfl⟩ rfl rfl (Nat.le_of_ble_eq_true rfl) rfl rfl ?_
    refine sF_H_tapeNumber h (fun v4 σ4 h => ?_)
    show Wz E Y_H_half 68 [(0, .ref 0), (1, .int x1), (2, .int x2), (3, .long x3), (5, .int x5)] [.long v4, .long x3] σ4 K
    refine z_ldc2 (i := 540) (v := 2147483647) (pc' := 71) ⟨by decide +kernel, rfl⟩ k_8_129 ?_
    refine z_lrem (pc' := 72) ⟨by decide +kernel, rfl⟩ (by decide) ?_
    refine z_ladd (pc' := 73) ⟨by decide +kernel, rfl⟩ ?_
    refine z_ldc2 (i := 540) (v := 2147483647) (pc' := 76) ⟨by decide +kernel, rfl⟩ k_8_129 ?_
    refine z_lrem (pc' := 77) ⟨by decide +kernel, rfl⟩ (by decide) ?_
    refine z_iload_n (f := 2) (i := 2) (q := 2) (pc' := 78) ⟨by decide +kernel, rfl⟩ rfl rfl ?_
    refine z_i2l (v := (Int32.toInt64 x2)) (pc' := 79) ⟨by decide +kernel, rfl⟩ rfl ?_
    have h := h (Int32.toInt64 x2) (Int32.toInt_toInt64 _)
    generalize (Int32.toInt64 x2) = r5 at h ⊢
    refine z_lmul (pc' := 80) ⟨by decide +kernel, rfl⟩ ?_
    refine z_ldc2 (i := 540) (v := 2147483647) (pc' := 83) ⟨by decide +kernel, rfl⟩ k_8_129 ?_
    refine z_lrem (pc' := 84) ⟨by decide +kernel, rfl⟩ (by decide) ?_
    refine z_lstore_n (f := 3) (i := 3) (pc' := 85) ⟨by decide +kernel, rfl⟩ rfl (by decide) rfl ?_
    show Wz E Y_H_half 85 [(3, .long ((((x3 + (v4 - v4 / 2147483647 * 2147483647)) - (x3 + (v4 - v4 / 2147483647 * 2147483647)) / 2147483647 * 2147483647) * r5) - (((x3 + (v4 - v4 / 2147483647 * 2147483647)) - (x3 + (v4 - v4 / 2147483647 * 2147483647)) / 2147483647 * 2147483647) * r5) / 2147483647 * 2147483647)), (0, .ref 0), (1, .int x1), (2, .int x2), (5, .int x5)] [] σ4 K
    refine z_iinc (i := 5) (z := (-4)) (q := 4) (pc' := 88) ⟨by decide +kernel, rfl⟩ rfl rfl (by decide) rfl ?_
    show Wz E Y_H_half 88 [(5, .int (x5 + Int32.ofInt (-4))), (3, .long ((((x3 + (v4 - v4 / 2147483647 * 2147483647)) - (x3 + (v4 - v4 / 2147483647 * 2147483647)) / 2147483647 * 2147483647) * r5) - (((x3 + (v4 - v4 / 2147483647 * 2147483647)) - (x3 + (v4 - v4 / 2147483647 * 2147483647)) / 2147483647 * 2147483647) * r5) / 2147483647 * 2147483647)), (0, .ref 0), (1, .int x1), (2, .int x2)] [] σ4 K
    obtain ⟨hb6, h⟩ := h
    have h := h (x5 + Int32.ofInt (-4)) (ia_ok rfl (by decide) hb6)
    generalize (x5 + Int32.ofInt (-4)) = r6 at h ⊢
    refine z_goto (off := (-32)) (tgt := 56) (pc' := 91) ⟨by decide +kernel, by decide, rfl⟩ ?_
    refine z_sub [2, 3, 4, 1, 0] rfl ?_
    exact f56 _ _ _ _ _ h
noncomputable def WL_H_half : Nat → (Int32 → Int32 → Int64 → Int32 → zS → (Int32 → zS → Prop) → Prop)
  | 0 => fun _ _ _ _ _ _ => False
  | n + 1 => WB_H_half_56 (WL_H_half n)
theorem wl_H_half_56 {n : Nat} {x1 : Int32} {x2 : Int32} {x3 : Int64} {x5 : Int32} {σ : zS} {Q : Int32 → zS → Prop} (h : WB_H_half_56 (WL_H_half n) x1 x2 x3 x5 σ Q) : (WL_H_half (n + 1)) x1 x2 x3 x5 σ Q := h
theorem sl_H_half {E : xV} {K : zKt} {Q : Int32 → zS → Prop} (k : ∀ v s, Q v s → K (some (.int v)) s) : ∀ n, (∀ (x1 : Int32) (x2 : Int32) (x3 : Int64) (x5 : Int32) (σ : zS), (WL_H_half n) x1 x2 x3 x5 σ Q → Wz E Y_H_half 56 [(0, .ref 0), (1, .int x1), (2, .int x2), (3, .long x3), (5, .int x5)] [] σ K)
  | 0 => fun _ _ _ _ _ h => h.elim
  | n + 1 => by
    have i := sl_H_half (E := E)  k n
    exact fun _ _ _ _ _ h => sh_H_half_56 i k h
noncomputable def W_H_half (a1 : Int32) (a2 : Int32) (σ : zS) (Q : Int32 → zS → Prop) : Prop := ((Int32.toInt a1) < 0 → (Q (-1) σ)) ∧ (¬ (Int32.toInt a1) < 0 → ((2147483647 ≤ (Int32.toInt a1) → (Q (-1) σ)) ∧ (¬ 2147483647 ≤ (Int32.toInt a1) → (((Int32.toInt a2) < 1 → (Q (-1) σ)) ∧ (¬ (Int32.toInt a2) < 1 → (((Int32.toInt a2) ≤ 1000 → ((0 ≤ (Int32.toInt (σ.1 0 1))) ∧ (∀ r6 : Int32, r6.toInt = (Int32.toInt (σ.1 0 1)) % 4 → (((Int32.toInt r6) = 0 → (((Int32.toInt (σ.1 0 1)) ≤ 40 → ((-2147483648 ≤ (Int32.toInt (σ.1 0 1)) - 4 ∧ (Int32.toInt (σ.1 0 1)) - 4 ≤ 2147483647) ∧ ∀ r9 : Int32, r9.toInt = (Int32.toInt (σ.1 0 1)) - 4 → ((WL_H_half fuF) a1 a2 0 r9 σ Q))) ∧ (¬ (Int32.toInt (σ.1 0 1)) ≤ 40 → (Q (-2) σ)))) ∧ (¬ (Int32.toInt r6) = 0 → (Q (-2) σ)))))) ∧ (¬ (Int32.toInt a2) ≤ 1000 → (Q (-1) σ))))))))
theorem sF_H_half {E : xV} {σ : zS} {K : zKt} {a1 : Int32} {a2 : Int32} {Q : Int32 → zS → Prop} (h : W_H_half a1 a2 σ Q) (k : ∀ v s, Q v s → K (some (.int v)) s) : Cz E Y_H_half [.ref 0, .int a1, .int a2] σ K := by
  refine z_entry (by decide) (fun a => by rw [sl_len]; exact Nat.le_of_ble_eq_true rfl) rfl ?_
  unfold W_H_half at h
  refine z_iload_n (f := 1) (i := 1) (q := 1) (pc' := 1) ⟨by decide +kernel, rfl⟩ rfl rfl ?_
  refine z_if_lt (off := 22) (tgt := 23) (pc' := 4) ⟨by decide +kernel, by decide, rfl⟩ (fun h1 => ?_) (fun h1 => ?_)
  · have h := h.1 (qi_lt_t rfl (by decide) h1)
    refine z_iconst (i := (-1)) (v := (-1)) (pc' := 24) ⟨by decide +kernel, rfl⟩ (by decide) ?_
    exact z_iret (ty := .int) rfl (by rfl) (by decide +kernel) (k _ _ h)
  · have h := h.2 (qi_lt_f rfl (by decide) h1)
    refine z_iload_n (f := 1) (i := 1) (q := 1) (pc' := 5) ⟨by decide +kernel, rfl⟩ rfl rfl ?_
    refine z_ldcw (i := 536) (v := 2147483647) (pc' := 8) ⟨by decide +kernel, rfl⟩ k_8_124 ?_
    refine z_icmp_ge (off := 15) (tgt := 23) (pc' := 11) ⟨by decide +kernel, by decide, rfl⟩ (fun h2 => ?_) (fun h2 => ?_)
    · have h := h.1 (qi_ge_t rfl (by decide) h2)
      refine z_iconst (i := (-1)) (v := (-1)) (pc' := 24) ⟨by decide +kernel, rfl⟩ (by decide) ?_
      exact z_iret (ty := .int) rfl (by rfl) (by decide +kernel) (k _ _ h)
    · have h := h.2 (qi_ge_f rfl (by decide) h2)
      refine z_iload_n (f := 2) (i := 2) (q := 2) (pc' := 12) ⟨by decide +kernel, rfl⟩ rfl rfl ?_
      refine z_iconst (i := 1) (v := 1) (pc' := 13) ⟨by decide +kernel, rfl⟩ (by decide) ?_
      refine z_icmp_lt (off := 10) (tgt := 23) (pc' := 16) ⟨by decide +kernel, by decide, rfl⟩ (fun h3 => ?_) (fun h3 => ?_)
      · have h := h.1 (qi_lt_t rfl (by decide) h3)
        refine z_iconst (i := (-1)) (v := (-1)) (pc' := 24) ⟨by decide +kernel, rfl⟩ (by decide) ?_
        exact z_iret (ty := .int) rfl (by rfl) (by decide +kernel) (k _ _ h)
      · have h := h.2 (qi_lt_f rfl (by decide) h3)
        refine z_iload_n (f := 2) (i := 2) (q := 2) (pc' := 17) ⟨by decide +kernel, rfl⟩ rfl rfl ?_
        refine z_sipush (i := 1000) (v := 1000) (pc' := 20) ⟨by decide +kernel, rfl⟩ (by decide) ?_
        refine z_icmp_le (off := 5) (tgt := 25) (pc' := 23) ⟨by decide +kernel, by decide, rfl⟩ (fun h4 => ?_) (fun h4 => ?_)
        · have h := h.1 (qi_le_t rfl (by decide) h4)
          refine z_aload_n (f := 0) (i := 0) (q := 0) (pc' := 26) ⟨by decide +kernel, rfl⟩ rfl rfl ?_
          refine w_geti (k := 0) (j := 1) (idx := 100) (pc' := 29) yfxe_1_100 ykfa_0_1 ⟨by decide +kernel, rfl⟩ ?_
          refine z_iconst (i := 4) (v := 4) (pc' := 30) ⟨by decide +kernel, rfl⟩ (by decide) ?_
          refine z_irem (pc' := 31) ⟨by decide +kernel, rfl⟩ (by decide) ?_
          obtain ⟨hg5, h⟩ := h
          have h := h ((σ.1 0 1) - (σ.1 0 1) / 4 * 4) (remi_ok hg5 (by decide) (by decide))
          generalize ((σ.1 0 1) - (σ.1 0 1) / 4 * 4) = r6 at h ⊢
          refine z_if_ne (off := 12) (tgt := 43) (pc' := 34) ⟨by decide +kernel, by decide, rfl⟩ (fun h7 => ?_) (fun h7 => ?_)
          · have h := h.2 (qi_ne_t rfl (by decide) h7)
            refine z_bipush (i := (-2)) (v := (-2)) (pc' := 45) ⟨by decide +kernel, rfl⟩ (by decide) ?_
            exact z_iret (ty := .int) rfl (by rfl) (by decide +kernel) (k _ _ h)
          · have h := h.1 (qi_ne_f rfl (by decide) h7)
            refine z_aload_n (f := 0) (i := 0) (q := 0) (pc' := 35) ⟨by decide +kernel, rfl⟩ rfl rfl ?_
            refine w_geti (k := 0) (j := 1) (idx := 100) (pc' := 38) yfxe_1_100 ykfa_0_1 ⟨by decide +kernel, rfl⟩ ?_
            refine z_bipush (i := 40) (v := 40) (pc' := 40) ⟨by decide +kernel, rfl⟩ (by decide) ?_
            refine z_icmp_le (off := 6) (tgt := 46) (pc' := 43) ⟨by decide +kernel, by decide, rfl⟩ (fun h8 => ?_) (fun h8 => ?_)
            · have h := h.1 (qi_le_t rfl (by decide) h8)
              refine z_lconst (i := 0) (v := 0) (pc' := 47) ⟨by decide +kernel, rfl⟩ (by decide) ?_
              refine z_lstore_n (f := 3) (i := 3) (pc' := 48) ⟨by decide +kernel, rfl⟩ rfl (by decide) rfl ?_
              show Wz E Y_H_half 48 [(3, .long 0), (0, .ref 0), (1, .int a1), (2, .int a2)] [] σ K
              refine z_aload_n (f := 0) (i := 0) (q := 1) (pc' := 49) ⟨by decide +kernel, rfl⟩ rfl rfl ?_
              refine w_geti (k := 0) (j := 1) (idx := 100) (pc' := 52) yfxe_1_100 ykfa_0_1 ⟨by decide +kernel, rfl⟩ ?_
              refine z_iconst (i := 4) (v := 4) (pc' := 53) ⟨by decide +kernel, rfl⟩ (by decide) ?_
              refine z_isub (pc' := 54) ⟨by decide +kernel, rfl⟩ ?_
              obtain ⟨hb9, h⟩ := h
              have h := h ((σ.1 0 1) - 4) (is_ok rfl (by decide) hb9)
              generalize ((σ.1 0 1) - 4) = r9 at h ⊢
              refine z_istore (i := 5) (pc' := 56) ⟨by decide +kernel, rfl⟩ (by decide) rfl ?_
              show Wz E Y_H_half 56 [(5, .int r9), (3, .long 0), (0, .ref 0), (1, .int a1), (2, .int a2)] [] σ K
              refine z_sub [2, 3, 4, 1, 0] rfl ?_
              exact (sl_H_half k fuF) _ _ _ _ _ h
            · have h := h.2 (qi_le_f rfl (by decide) h8)
              refine z_bipush (i := (-2)) (v := (-2)) (pc' := 45) ⟨by decide +kernel, rfl⟩ (by decide) ?_
              exact z_iret (ty := .int) rfl (by rfl) (by decide +kernel) (k _ _ h)
        · have h := h.2 (qi_le_f rfl (by decide) h4)
          refine z_iconst (i := (-1)) (v := (-1)) (pc' := 24) ⟨by decide +kernel, rfl⟩ (by decide) ?_
          exact z_iret (ty := .int) rfl (by rfl) (by decide +kernel) (k _ _ h)
noncomputable def W_M_rowFor_b42 (x1 : Int32) (x2 : Int32) (y0 : Int32) (σ : zS) (Q : Int32 → zS → Prop) : Prop := ((Int32.toInt y0) = 0 → (Q (-1) σ)) ∧ (¬ (Int32.toInt y0) = 0 → (∀ r2 : Int64, r2.toInt = (Int32.toInt x2) → (W_M_in r2 0 7 σ (fun v3 σ3 => ((Int32.toInt v3) = 0 → (Q (-1) σ3)) ∧ (¬ (Int32.toInt v3) = 0 → ((100 ≤ (Int32.toInt x1) → ((-2147483648 ≤ (Int32.toInt x1) - 80 ∧ (Int32.toInt x1) - 80 ≤ 2147483647) ∧ ∀ r6 : Int32, r6.toInt = (Int32.toInt x1) - 80 → ((-2147483648 ≤ 8 * (Int32.toInt r6) ∧ 8 * (Int32.toInt r6) ≤ 2147483647) ∧ ∀ r7 : Int32, r7.toInt = 8 * (Int32.toInt r6) → ((-2147483648 ≤ (Int32.toInt r7) + (Int32.toInt x2) ∧ (Int32.toInt r7) + (Int32.toInt x2) ≤ 2147483647) ∧ ∀ r8 : Int32, r8.toInt = (Int32.toInt r7) + (Int32.toInt x2) → (Q r8 σ3))))) ∧ (¬ 100 ≤ (Int32.toInt x1) → ((-2147483648 ≤ 8 * (Int32.toInt x1) ∧ 8 * (Int32.toInt x1) ≤ 2147483647) ∧ ∀ r9 : Int32, r9.toInt = 8 * (Int32.toInt x1) → ((-2147483648 ≤ (Int32.toInt r9) + (Int32.toInt x2) ∧ (Int32.toInt r9) + (Int32.toInt x2) ≤ 2147483647) ∧ ∀ r10 : Int32, r10.toInt = (Int32.toInt r9) + (Int32.toInt x2) → (Q r10 σ3))))))))))
theorem sb_M_rowFor_42 {E : xV} {σ : zS} {K : zKt} {x1 : Int32} {x2 : Int32} {y0 : Int32} {Q : Int32 → zS → Prop} (k : ∀ v s, Q v s → K (some (.int v)) s) (h : W_M_rowFor_b42 x1 x2 y0 σ Q) : Wz E Y_M_rowFor 42 [(1, .int x1), (2, .int x2)] [.int y0] σ K := by
  unfold W_M_rowFor_b42 at h
  refine z_istore_n (f := 3) (i := 3) (pc' := 43) ⟨by decide +kernel, rfl⟩ rfl (by decide) rfl ?_
  show Wz E Y_M_rowFor 43 [(3, .int y0), (1, .int x1), (2, .int x2)] [] σ K
  refine z_iload_n (f := 3) (i := 3) (q := 0) (pc' := 44) ⟨by decide +kernel, rfl⟩ rfl rfl ?_
  refine z_if_eq (off := 15) (tgt := 59) (pc' := 47) ⟨by decide +kernel, by decide, rfl⟩ (fun h1 => ?_) (fun h1 => ?_)
  · have h := h.1 (qi_eq_t rfl (by decide) h1)
    refine z_iconst (i := (-1)) (v := (-1)) (pc' := 60) ⟨by decide +kernel, rfl⟩ (by decide) ?_
    exact z_iret (ty := .int) rfl (by rfl) (by decide +kernel) (k _ _ h)
  · have h := h.2 (qi_eq_f rfl (by decide) h1)
    refine z_iload_n (f := 2) (i := 2) (q := 2) (pc' := 48) ⟨by decide +kernel, rfl⟩ rfl rfl ?_
    refine z_i2l (v := (Int32.toInt64 x2)) (pc' := 49) ⟨by decide +kernel, rfl⟩ rfl ?_
    have h := h (Int32.toInt64 x2) (Int32.toInt_toInt64 _)
    generalize (Int32.toInt64 x2) = r2 at h ⊢
    refine z_lconst (i := 0) (v := 0) (pc' := 50) ⟨by decide +kernel, rfl⟩ (by decide) ?_
    refine z_ldc2 (i := 461) (v := 7) (pc' := 53) ⟨by decide +kernel, rfl⟩ k_11_17 ?_
    refine w_invS (Z := Y_M_in) (idx := 333) (As := [.long r2, .long 0, .long 7]) (rest := []) (pc' := 56) cl_13_333 rfl ⟨rfl, rfl⟩ ⟨⟨by decide, by decide⟩, rfl, rfl⟩ ⟨by decide +kernel, rfl⟩ rfl rfl (Nat.le_of_ble_eq_true rfl) rfl rfl ?_
    refine sF_M_in h (fun v3 σ3 h => ?_)
    show Wz E Y_M_rowFor 56 [(3, .int y0), (1, .int x1), (2, .int x2)] [.int v3] σ3 K
    refine z_if_ne (off := 5) (tgt := 61) (pc' := 59) ⟨by decide +kernel, by decide, rfl⟩ (fun h4 => ?_) (fun h4 => ?_)
    · have h := h.2 (qi_ne_t rfl (by decide) h4)
      refine z_bipush (i := 8) (v := 8) (pc' := 63) ⟨by decide +kernel, rfl⟩ (by decide) ?_
      refine z_iload_n (f := 1) (i := 1) (q := 1) (pc' := 64) ⟨by decide +kernel, rfl⟩ rfl rfl ?_
      refine z_bipush (i := 100) (v := 100) (pc' := 66) ⟨by decide +kernel, rfl⟩ (by decide) ?_
      refine z_icmp_ge (off := 7) (tgt := 73) (pc' := 69) ⟨by decide +kernel, by decide, rfl⟩ (fun h5 => ?_) (fun h5 => ?_)
      · have h := h.1 (qi_ge_t rfl (by decide) h5)
        refine z_iload_n (f := 1) (i := 1) (q := 1) (pc' := 74) ⟨by decide +kernel, rfl⟩ rfl rfl ?_
        refine z_bipush (i := 80) (v := 80) (pc' := 76) ⟨by decide +kernel, rfl⟩ (by decide) ?_
        refine z_isub (pc' := 77) ⟨by decide +kernel, rfl⟩ ?_
        obtain ⟨hb6, h⟩ := h
        have h := h (x1 - 80) (is_ok rfl (by decide) hb6)
        generalize (x1 - 80) = r6 at h ⊢
        refine z_imul (pc' := 78) ⟨by decide +kernel, rfl⟩ ?_
        obtain ⟨hb7, h⟩ := h
        have h := h (8 * r6) (im_ok (by decide) rfl hb7)
        generalize (8 * r6) = r7 at h ⊢
        refine z_iload_n (f := 2) (i := 2) (q := 2) (pc' := 79) ⟨by decide +kernel, rfl⟩ rfl rfl ?_
        refine z_iadd (pc' := 80) ⟨by decide +kernel, rfl⟩ ?_
        obtain ⟨hb8, h⟩ := h
        have h := h (r7 + x2) (ia_ok rfl rfl hb8)
        generalize (r7 + x2) = r8 at h ⊢
        exact z_iret (ty := .int) rfl (by rfl) (by decide +kernel) (k _ _ h)
      · have h := h.2 (qi_ge_f rfl (by decide) h5)
        refine z_iload_n (f := 1) (i := 1) (q := 1) (pc' := 70) ⟨by decide +kernel, rfl⟩ rfl rfl ?_
        refine z_goto (off := 7) (tgt := 77) (pc' := 73) ⟨by decide +kernel, by decide, rfl⟩ ?_
        refine z_imul (pc' := 78) ⟨by decide +kernel, rfl⟩ ?_
        obtain ⟨hb9, h⟩ := h
        have h := h (8 * x1) (im_ok (by decide) rfl hb9)
        generalize (8 * x1) = r9 at h ⊢
        refine z_iload_n (f := 2) (i := 2) (q := 2) (pc' := 79) ⟨by decide +kernel, rfl⟩ rfl rfl ?_
        refine z_iadd (pc' := 80) ⟨by decide +kernel, rfl⟩ ?_
        obtain ⟨hb10, h⟩ := h
        have h := h (r9 + x2) (ia_ok rfl rfl hb10)
        generalize (r9 + x2) = r10 at h ⊢
        exact z_iret (ty := .int) rfl (by rfl) (by decide +kernel) (k _ _ h)
    · have h := h.1 (qi_ne_f rfl (by decide) h4)
      refine z_iconst (i := (-1)) (v := (-1)) (pc' := 60) ⟨by decide +kernel, rfl⟩ (by decide) ?_
      exact z_iret (ty := .int) rfl (by rfl) (by decide +kernel) (k _ _ h)
noncomputable def W_M_rowFor (a1 : Int32) (a2 : Int32) (σ : zS) (Q : Int32 → zS → Prop) : Prop := W_M_isPerson a1 σ (fun v1 σ1 => ((Int32.toInt v1) = 0 → (((Int32.toInt a1) < 100 → (W_M_rowFor_b42  a1 a2 0 σ1 Q)) ∧ (¬ (Int32.toInt a1) < 100 → ((-2147483648 ≤ (Int32.toInt a1) - 100 ∧ (Int32.toInt a1) - 100 ≤ 2147483647) ∧ ∀ r4 : Int32, r4.toInt = (Int32.toInt a1) - 100 → (W_M_isThing r4 σ1 (fun v5 σ5 => ((Int32.toInt v5) = 0 → (W_M_rowFor_b42  a1 a2 0 σ5 Q)) ∧ (¬ (Int32.toInt v5) = 0 → ((-2147483648 ≤ (Int32.toInt a1) - 100 ∧ (Int32.toInt a1) - 100 ≤ 2147483647) ∧ ∀ r7 : Int32, r7.toInt = (Int32.toInt a1) - 100 → (∃ n8 : Nat, Int32.toInt r7 = (n8 : Int) ∧ n8 < 40 ∧ (((Int32.toInt (σ5.1 128 n8)) = 0 → (W_M_rowFor_b42  a1 a2 1 σ5 Q)) ∧ (¬ (Int32.toInt (σ5.1 128 n8)) = 0 → (W_M_rowFor_b42  a1 a2 0 σ5 Q)))))))))))) ∧ (¬ (Int32.toInt v1) = 0 → (W_M_rowFor_b42  a1 a2 1 σ1 Q)))
theorem sF_M_rowFor {E : xV} {σ : zS} {K : zKt} {a1 : Int32} {a2 : Int32} {Q : Int32 → zS → Prop} (h : W_M_rowFor a1 a2 σ Q) (k : ∀ v s, Q v s → K (some (.int v)) s) : Cz E Y_M_rowFor [.ref 110, .int a1, .int a2] σ K := by
  refine z_entry (by decide) (fun a => by rw [sl_len]; exact Nat.le_of_ble_eq_true rfl) rfl ?_
  unfold W_M_rowFor at h
  refine z_aload_n (f := 0) (i := 0) (q := 0) (pc' := 1) ⟨by decide +kernel, rfl⟩ rfl rfl ?_
  refine z_iload_n (f := 1) (i := 1) (q := 1) (pc' := 2) ⟨by decide +kernel, rfl⟩ rfl rfl ?_
  refine w_invV (Z := Y_M_isPerson) (idx := 444) (kb := 110) (As := [.int a1]) (rest := []) (pc' := 5) cl_13_444 rfl ⟨rfl, rfl⟩ ykfa_110_0 rfl ⟨⟨by decide, by decide⟩, rfl, rfl⟩ ⟨by decide +kernel, rfl⟩ rfl rfl (Nat.le_of_ble_eq_true rfl) rfl rfl ?_
  refine sF_M_isPerson h (fun v1 σ1 h => ?_)
  show Wz E Y_M_rowFor 5 [(0, .ref 110), (1, .int a1), (2, .int a2)] [.int v1] σ1 K
  refine z_if_ne (off := 32) (tgt := 37) (pc' := 8) ⟨by decide +kernel, by decide, rfl⟩ (fun h2 => ?_) (fun h2 => ?_)
  · have h := h.2 (qi_ne_t rfl (by decide) h2)
    refine z_iconst (i := 1) (v := 1) (pc' := 38) ⟨by decide +kernel, rfl⟩ (by decide) ?_
    refine z_goto (off := 4) (tgt := 42) (pc' := 41) ⟨by decide +kernel, by decide, rfl⟩ ?_
    refine z_sub [1, 2] rfl ?_
    exact sb_M_rowFor_42  k h
  · have h := h.1 (qi_ne_f rfl (by decide) h2)
    refine z_iload_n (f := 1) (i := 1) (q := 1) (pc' := 9) ⟨by decide +kernel, rfl⟩ rfl rfl ?_
    refine z_bipush (i := 100) (v := 100) (pc' := 11) ⟨by decide +kernel, rfl⟩ (by decide) ?_
    refine z_icmp_lt (off := 30) (tgt := 41) (pc' := 14) ⟨by decide +kernel, by decide, rfl⟩ (fun h3 => ?_) (fun h3 => ?_)
    · have h := h.1 (qi_lt_t rfl (by decide) h3)
      refine z_iconst (i := 0) (v := 0) (pc' := 42) ⟨by decide +kernel, rfl⟩ (by decide) ?_
      refine z_sub [1, 2] rfl ?_
      exact sb_M_rowFor_42  k h
    · have h := h.2 (qi_lt_f rfl (by decide) h3)
      refine z_aload_n (f := 0) (i := 0) (q := 0) (pc' := 15) ⟨by decide +kernel, rfl⟩ rfl rfl ?_
      refine z_iload_n (f := 1) (i := 1) (q := 1) (pc' := 16) ⟨by decide +kernel, rfl⟩ rfl rfl ?_
      refine z_bipush (i := 100) (v := 100) (pc' := 18) ⟨by decide +kernel, rfl⟩ (by decide) ?_
      refine z_isub (pc' := 19) ⟨by decide +kernel, rfl⟩ ?_
      obtain ⟨hb4, h⟩ := h
      have h := h (a1 - 100) (is_ok rfl (by decide) hb4)
      generalize (a1 - 100) = r4 at h ⊢
      refine w_invV (Z := Y_M_isThing) (idx := 458) (kb := 110) (As := [.int r4]) (rest := []) (pc' := 22) cl_13_458 rfl ⟨rfl, rfl⟩ ykfa_110_0 rfl ⟨⟨by decide, by decide⟩, rfl, rfl⟩ ⟨by decide +kernel, rfl⟩ rfl rfl (Nat.le_of_ble_eq_true rfl) rfl rfl ?_
      refine sF_M_isThing h (fun v5 σ5 h => ?_)
      show Wz E Y_M_rowFor 22 [(0, .ref 110), (1, .int a1), (2, .int a2)] [.int v5] σ5 K
      refine z_if_eq (off := 19) (tgt := 41) (pc' := 25) ⟨by decide +kernel, by decide, rfl⟩ (fun h6 => ?_) (fun h6 => ?_)
      · have h := h.1 (qi_eq_t rfl (by decide) h6)
        refine z_iconst (i := 0) (v := 0) (pc' := 42) ⟨by decide +kernel, rfl⟩ (by decide) ?_
        refine z_sub [1, 2] rfl ?_
        exact sb_M_rowFor_42  k h
      · have h := h.2 (qi_eq_f rfl (by decide) h6)
        refine z_aload_n (f := 0) (i := 0) (q := 0) (pc' := 26) ⟨by decide +kernel, rfl⟩ rfl rfl ?_
        refine w_getr (k := 110) (j := 24) (idx := 67) (pc' := 29) yfxe_13_67 ykfa_110_24 ⟨by decide +kernel, rfl⟩ ?_
        refine z_iload_n (f := 1) (i := 1) (q := 1) (pc' := 30) ⟨by decide +kernel, rfl⟩ rfl rfl ?_
        refine z_bipush (i := 100) (v := 100) (pc' := 32) ⟨by decide +kernel, rfl⟩ (by decide) ?_
        refine z_isub (pc' := 33) ⟨by decide +kernel, rfl⟩ ?_
        obtain ⟨hb7, h⟩ := h
        have h := h (a1 - 100) (is_ok rfl (by decide) hb7)
        generalize (a1 - 100) = r7 at h ⊢
        obtain ⟨n8, hi8, hz8, h⟩ := h
        refine w_zald (k := 128) (n := n8) (pc' := 34) ykaa_128 (hi8) (hz8) ⟨by decide +kernel, rfl⟩ ?_
        refine z_if_ne (off := 7) (tgt := 41) (pc' := 37) ⟨by decide +kernel, by decide, rfl⟩ (fun h9 => ?_) (fun h9 => ?_)
        · have h := h.2 (qi_ne_t rfl (by decide) h9)
          refine z_iconst (i := 0) (v := 0) (pc' := 42) ⟨by decide +kernel, rfl⟩ (by decide) ?_
          refine z_sub [1, 2] rfl ?_
          exact sb_M_rowFor_42  k h
        · have h := h.1 (qi_ne_f rfl (by decide) h9)
          refine z_iconst (i := 1) (v := 1) (pc' := 38) ⟨by decide +kernel, rfl⟩ (by decide) ?_
          refine z_goto (off := 4) (tgt := 42) (pc' := 41) ⟨by decide +kernel, by decide, rfl⟩ ?_
          refine z_sub [1, 2] rfl ?_
          exact sb_M_rowFor_42  k h
noncomputable def W_M_feature_b50 (F78 : Int32 → Int32 → zS → (Int32 → zS → Prop) → Prop) (x3 : Int32) (x4 : Int32) (x5 : Int32) (σ : zS) (Q : Int32 → zS → Prop) : Prop := ∃ n1 : Nat, Int32.toInt x5 = (n1 : Int) ∧ n1 < 480 ∧ (∀ σ2 : zS, zI σ 121 n1 x3 = σ2 → (((Int32.toInt x3) = 0 → (∀ σ5 : zS, zI σ2 122 n1 0 = σ5 → (F78 x5 0 σ5 Q))) ∧ (¬ (Int32.toInt x3) = 0 → (∀ σ4 : zS, zI σ2 122 n1 x4 = σ4 → (F78 x5 0 σ4 Q)))))
theorem sb_M_feature_50 {E : xV} {σ : zS} {K : zKt} {F78 : Int32 → Int32 → zS → (Int32 → zS → Prop) → Prop} {x3 : Int32} {x4 : Int32} {x5 : Int32} {Q : Int32 → zS → Prop} (f78 : ∀ (x5 : Int32) (x6 : Int32) (σ : zS), F78 x5 x6 σ Q → Wz E Y_M_feature 78 [(0, .ref 110), (5, .int x5), (6, .int x6)] [] σ K) (k : ∀ v s, Q v s → K (some (.int v)) s) (h : W_M_feature_b50 F78 x3 x4 x5 σ Q) : Wz E Y_M_feature 50 [(0, .ref 110), (3, .int x3), (4, .int x4), (5, .int x5)] [] σ K := by
  unfold W_M_feature_b50 at h
  refine z_aload_n (f := 0) (i := 0) (q := 0) (pc' := 51) ⟨by decide +kernel, rfl⟩ rfl rfl ?_
  refine w_getr (k := 110) (j := 16) (idx := 41) (pc' := 54) yfxe_13_41 ykfa_110_16 ⟨by decide +kernel, rfl⟩ ?_
  refine z_iload (i := 5) (q := 3) (pc' := 56) ⟨by decide +kernel, rfl⟩ rfl ?_
  refine z_iload_n (f := 3) (i := 3) (q := 1) (pc' := 57) ⟨by decide +kernel, rfl⟩ rfl rfl ?_
  obtain ⟨n1, hi1, hz1, h⟩ := h
  refine w_iast (k := 121) (n := n1) (pc' := 58) ykaa_121 (hi1) (hz1) ⟨by decide +kernel, rfl⟩ ?_
  generalize hs2 : zI σ 121 n1 x3 = σ2
  have h := h σ2 hs2
  refine z_aload_n (f := 0) (i := 0) (q := 0) (pc' := 59) ⟨by decide +kernel, rfl⟩ rfl rfl ?_
  refine w_getr (k := 110) (j := 17) (idx := 44) (pc' := 62) yfxe_13_44 ykfa_110_17 ⟨by decide +kernel, rfl⟩ ?_
  refine z_iload (i := 5) (q := 3) (pc' := 64) ⟨by decide +kernel, rfl⟩ rfl ?_
  refine z_iload_n (f := 3) (i := 3) (q := 1) (pc' := 65) ⟨by decide +kernel, rfl⟩ rfl rfl ?_
  refine z_if_ne (off := 7) (tgt := 72) (pc' := 68) ⟨by decide +kernel, by decide, rfl⟩ (fun h3 => ?_) (fun h3 => ?_)
  · have h := h.2 (qi_ne_t rfl (by decide) h3)
    refine z_iload (i := 4) (q := 2) (pc' := 74) ⟨by decide +kernel, rfl⟩ rfl ?_
    refine w_iast (k := 122) (n := n1) (pc' := 75) ykaa_122 (hi1) (hz1) ⟨by decide +kernel, rfl⟩ ?_
    generalize hs4 : zI σ2 122 n1 x4 = σ4
    have h := h σ4 hs4
    refine z_iconst (i := 0) (v := 0) (pc' := 76) ⟨by decide +kernel, rfl⟩ (by decide) ?_
    refine z_istore (i := 6) (pc' := 78) ⟨by decide +kernel, rfl⟩ (by decide) rfl ?_
    show Wz E Y_M_feature 78 [(6, .int 0), (0, .ref 110), (3, .int x3), (4, .int x4), (5, .int x5)] [] σ4 K
    refine z_sub [1, 4, 0] rfl ?_
    exact f78 _ _ _ h
  · have h := h.1 (qi_ne_f rfl (by decide) h3)
    refine z_iconst (i := 0) (v := 0) (pc' := 69) ⟨by decide +kernel, rfl⟩ (by decide) ?_
    refine z_goto (off := 5) (tgt := 74) (pc' := 72) ⟨by decide +kernel, by decide, rfl⟩ ?_
    refine w_iast (k := 122) (n := n1) (pc' := 75) ykaa_122 (hi1) (hz1) ⟨by decide +kernel, rfl⟩ ?_
    generalize hs5 : zI σ2 122 n1 0 = σ5
    have h := h σ5 hs5
    refine z_iconst (i := 0) (v := 0) (pc' := 76) ⟨by decide +kernel, rfl⟩ (by decide) ?_
    refine z_istore (i := 6) (pc' := 78) ⟨by decide +kernel, rfl⟩ (by decide) rfl ?_
    show Wz E Y_M_feature 78 [(6, .int 0), (0, .ref 110), (3, .int x3), (4, .int x4), (5, .int x5)] [] σ5 K
    refine z_sub [1, 4, 0] rfl ?_
    exact f78 _ _ _ h
noncomputable def WB_M_feature_78 (F78 : Int32 → Int32 → zS → (Int32 → zS → Prop) → Prop) (x5 : Int32) (x6 : Int32) (σ : zS) (Q : Int32 → zS → Prop) : Prop := (20 ≤ (Int32.toInt x6) → (∃ n2 : Nat, Int32.toInt x5 = (n2 : Int) ∧ n2 < 480 ∧ (Q (σ.1 122 n2) σ))) ∧ (¬ 20 ≤ (Int32.toInt x6) → ((-2147483648 ≤ 20 * (Int32.toInt x5) ∧ 20 * (Int32.toInt x5) ≤ 2147483647) ∧ ∀ r3 : Int32, r3.toInt = 20 * (Int32.toInt x5) → ((-2147483648 ≤ (Int32.toInt r3) + (Int32.toInt x6) ∧ (Int32.toInt r3) + (Int32.toInt x6) ≤ 2147483647) ∧ ∀ r4 : Int32, r4.toInt = (Int32.toInt r3) + (Int32.toInt x6) → (∃ n5 : Nat, Int32.toInt r4 = (n5 : Int) ∧ n5 < 9600 ∧ (∀ σ6 : zS, zJ σ 123 n5 0 = σ6 → ((-2147483648 ≤ (Int32.toInt x6) + 1 ∧ (Int32.toInt x6) + 1 ≤ 2147483647) ∧ ∀ r7 : Int32, r7.toInt = (Int32.toInt x6) + 1 → (F78 x5 r7 σ6 Q)))))))
theorem sh_M_feature_78 {E : xV} {σ : zS} {K : zKt} {F78 : Int32 → Int32 → zS → (Int32 → zS → Prop) → Prop} {x5 : Int32} {x6 : Int32} {Q : Int32 → zS → Prop} (f78 : ∀ (x5 : Int32) (x6 : Int32) (σ : zS), F78 x5 x6 σ Q → Wz E Y_M_feature 78 [(0, .ref 110), (5, .int x5), (6, .int x6)] [] σ K) (k : ∀ v s, Q v s → K (some (.int v)) s) (h : WB_M_feature_78 F78 x5 x6 σ Q) : Wz E Y_M_feature 78 [(0, .ref 110), (5, .int x5), (6, .int x6)] [] σ K := by
  unfold WB_M_feature_78 at h
  refine z_iload (i := 6) (q := 2) (pc' := 80) ⟨by decide +kernel, rfl⟩ rfl ?_
  refine z_bipush (i := 20) (v := 20) (pc' := 82) ⟨by decide +kernel, rfl⟩ (by decide) ?_
  refine z_icmp_ge (off := 23) (tgt := 105) (pc' := 85) ⟨by decide +kernel, by decide, rfl⟩ (fun h1 => ?_) (fun h1 => ?_)
  · have h := h.1 (qi_ge_t rfl (by decide) h1)
    refine z_aload_n (f := 0) (i := 0) (q := 0) (pc' := 106) ⟨by decide +kernel, rfl⟩ rfl rfl ?_
    refine w_getr (k := 110) (j := 17) (idx := 44) (pc' := 109) yfxe_13_44 ykfa_110_17 ⟨by decide +kernel, rfl⟩ ?_
    refine z_iload (i := 5) (q := 1) (pc' := 111) ⟨by decide +kernel, rfl⟩ rfl ?_
    obtain ⟨n2, hi2, hz2, h⟩ := h
    refine w_iald (k := 122) (n := n2) (pc' := 112) ykaa_122 (hi2) (hz2) ⟨by decide +kernel, rfl⟩ ?_
    exact z_iret (ty := .int) rfl (by rfl) (by decide +kernel) (k _ _ h)
  · have h := h.2 (qi_ge_f rfl (by decide) h1)
    refine z_aload_n (f := 0) (i := 0) (q := 0) (pc' := 86) ⟨by decide +kernel, rfl⟩ rfl rfl ?_
    refine w_getr (k := 110) (j := 18) (idx := 47) (pc' := 89) yfxe_13_47 ykfa_110_18 ⟨by decide +kernel, rfl⟩ ?_
    refine z_bipush (i := 20) (v := 20) (pc' := 91) ⟨by decide +kernel, rfl⟩ (by decide) ?_
    refine z_iload (i := 5) (q := 1) (pc' := 93) ⟨by decide +kernel, rfl⟩ rfl ?_
    refine z_imul (pc' := 94) ⟨by decide +kernel, rfl⟩ ?_
    obtain ⟨hb3, h⟩ := h
    have h := h (20 * x5) (im_ok (by decide) rfl hb3)
    generalize (20 * x5) = r3 at h ⊢
    refine z_iload (i := 6) (q := 2) (pc' := 96) ⟨by decide +kernel, rfl⟩ rfl ?_
    refine z_iadd (pc' := 97) ⟨by decide +kernel, rfl⟩ ?_
    obtain ⟨hb4, h⟩ := h
    have h := h (r3 + x6) (ia_ok rfl rfl hb4)
    generalize (r3 + x6) = r4 at h ⊢
    refine z_lconst (i := 0) (v := 0) (pc' := 98) ⟨by decide +kernel, rfl⟩ (by decide) ?_
    obtain ⟨n5, hi5, hz5, h⟩ := h
    refine w_last (k := 123) (n := n5) (pc' := 99) ykaa_123 (hi5) (hz5) ⟨by decide +kernel, rfl⟩ ?_
    generalize hs6 : zJ σ 123 n5 0 = σ6
    have h := h σ6 hs6
    refine z_iinc (i := 6) (z := 1) (q := 2) (pc' := 102) ⟨by decide +kernel, rfl⟩ rfl rfl (by decide) rfl ?_
    show Wz E Y_M_feature 102 [(6, .int (x6 + Int32.ofInt 1)), (0, .ref 110), (5, .int x5)] [] σ6 K
    obtain ⟨hb7, h⟩ := h
    have h := h (x6 + Int32.ofInt 1) (ia_ok rfl (by decide) hb7)
    generalize (x6 + Int32.ofInt 1) = r7 at h ⊢
    refine z_goto (off := (-24)) (tgt := 78) (pc' := 105) ⟨by decide +kernel, by decide, rfl⟩ ?_
    refine z_sub [1, 2, 0] rfl ?_
    exact f78 _ _ _ h
noncomputable def WL_M_feature : Nat → (Int32 → Int32 → zS → (Int32 → zS → Prop) → Prop)
  | 0 => fun _ _ _ _ => False
  | n + 1 => WB_M_feature_78 (WL_M_feature n)
theorem wl_M_feature_78 {n : Nat} {x5 : Int32} {x6 : Int32} {σ : zS} {Q : Int32 → zS → Prop} (h : WB_M_feature_78 (WL_M_feature n) x5 x6 σ Q) : (WL_M_feature (n + 1)) x5 x6 σ Q := h
theorem sl_M_feature {E : xV} {K : zKt} {Q : Int32 → zS → Prop} (k : ∀ v s, Q v s → K (some (.int v)) s) : ∀ n, (∀ (x5 : Int32) (x6 : Int32) (σ : zS), (WL_M_feature n) x5 x6 σ Q → Wz E Y_M_feature 78 [(0, .ref 110), (5, .int x5), (6, .int x6)] [] σ K)
  | 0 => fun _ _ _ h => h.elim
  | n + 1 => by
    have i := sl_M_feature (E := E)  k n
    exact fun _ _ _ h => sh_M_feature_78 i k h
noncomputable def W_M_feature (a1 : Int32) (a2 : Int32) (a3 : Int32) (a4 : Int32) (σ : zS) (Q : Int32 → zS → Prop) : Prop := W_M_rowFor a1 a2 σ (fun v1 σ1 => ((Int32.toInt v1) < 0 → (Q (-1) σ1)) ∧ (¬ (Int32.toInt v1) < 0 → (∀ r3 : Int64, r3.toInt = (Int32.toInt a3) → (W_M_in r3 0 3 σ1 (fun v4 σ4 => ((Int32.toInt v4) = 0 → (Q (-1) σ4)) ∧ (¬ (Int32.toInt v4) = 0 → (((Int32.toInt a3) ≤ 0 → (((Int32.toInt a3) ≤ 0 → (W_M_feature_b50 (WL_M_feature fuF) a3 a4 v1 σ4 Q)) ∧ (¬ (Int32.toInt a3) ≤ 0 → ((0 ≤ (Int32.toInt a4) → (W_M_feature_b50 (WL_M_feature fuF) a3 a4 v1 σ4 Q)) ∧ (¬ 0 ≤ (Int32.toInt a4) → (Q (-13) σ4)))))) ∧ (¬ (Int32.toInt a3) ≤ 0 → (((Int32.toInt a4) ≤ 20 → (((Int32.toInt a3) ≤ 0 → (W_M_feature_b50 (WL_M_feature fuF) a3 a4 v1 σ4 Q)) ∧ (¬ (Int32.toInt a3) ≤ 0 → ((0 ≤ (Int32.toInt a4) → (W_M_feature_b50 (WL_M_feature fuF) a3 a4 v1 σ4 Q)) ∧ (¬ 0 ≤ (Int32.toInt a4) → (Q (-13) σ4)))))) ∧ (¬ (Int32.toInt a4) ≤ 20 → (Q (-1) σ4)))))))))))
theorem sF_M_feature {E : xV} {σ : zS} {K : zKt} {a1 : Int32} {a2 : Int32} {a3 : Int32} {a4 : Int32} {Q : Int32 → zS → Prop} (h : W_M_feature a1 a2 a3 a4 σ Q) (k : ∀ v s, Q v s → K (some (.int v)) s) : Cz E Y_M_feature [.ref 110, .int a1, .int a2, .int a3, .int a4] σ K := by
  refine z_entry (by decide) (fun a => by rw [sl_len]; exact Nat.le_of_ble_eq_true rfl) rfl ?_
  unfold W_M_feature at h
  refine z_aload_n (f := 0) (i := 0) (q := 0) (pc' := 1) ⟨by decide +kernel, rfl⟩ rfl rfl ?_
  refine z_iload_n (f := 1) (i := 1) (q := 1) (pc' := 2) ⟨by decide +kernel, rfl⟩ rfl rfl ?_
  refine z_iload_n (f := 2) (i := 2) (q := 2) (pc' := 3) ⟨by decide +kernel, rfl⟩ rfl rfl ?_
  refine w_invV (Z := Y_M_rowFor) (idx := 463) (kb := 110) (As := [.int a1, .int a2]) (rest := []) (pc' := 6) cl_13_463 rfl ⟨rfl, rfl⟩ ykfa_110_0 rfl ⟨⟨by decide, by decide⟩, rfl, rfl⟩ ⟨by decide +kernel, rfl⟩ rfl rfl (Nat.le_of_ble_eq_true rfl) rfl rfl ?_
  refine sF_M_rowFor h (fun v1 σ1 h => ?_)
  show Wz E Y_M_feature 6 [(0, .ref 110), (1, .int a1), (2, .int a2), (3, .int a3), (4, .int a4)] [.int v1] σ1 K
  refine z_istore (i := 5) (pc' := 8) ⟨by decide +kernel, rfl⟩ (by decide) rfl ?_
  show Wz E Y_M_feature 8 [(5, .int v1), (0, .ref 110), (1, .int a1), (2, .int a2), (3, .int a3), (4, .int a4)] [] σ1 K
  refine z_iload (i := 5) (q := 0) (pc' := 10) ⟨by decide +kernel, rfl⟩ rfl ?_
  refine z_if_lt (off := 26) (tgt := 36) (pc' := 13) ⟨by decide +kernel, by decide, rfl⟩ (fun h2 => ?_) (fun h2 => ?_)
  · have h := h.1 (qi_lt_t rfl (by decide) h2)
    refine z_iconst (i := (-1)) (v := (-1)) (pc' := 37) ⟨by decide +kernel, rfl⟩ (by decide) ?_
    exact z_iret (ty := .int) rfl (by rfl) (by decide +kernel) (k _ _ h)
  · have h := h.2 (qi_lt_f rfl (by decide) h2)
    refine z_iload_n (f := 3) (i := 3) (q := 4) (pc' := 14) ⟨by decide +kernel, rfl⟩ rfl rfl ?_
    refine z_i2l (v := (Int32.toInt64 a3)) (pc' := 15) ⟨by decide +kernel, rfl⟩ rfl ?_
    have h := h (Int32.toInt64 a3) (Int32.toInt_toInt64 _)
    generalize (Int32.toInt64 a3) = r3 at h ⊢
    refine z_lconst (i := 0) (v := 0) (pc' := 16) ⟨by decide +kernel, rfl⟩ (by decide) ?_
    refine z_ldc2 (i := 365) (v := 3) (pc' := 19) ⟨by decide +kernel, rfl⟩ k_11_18 ?_
    refine w_invS (Z := Y_M_in) (idx := 333) (As := [.long r3, .long 0, .long 3]) (rest := []) (pc' := 22) cl_13_333 rfl ⟨rfl, rfl⟩ ⟨⟨by decide, by decide⟩, rfl, rfl⟩ ⟨by decide +kernel, rfl⟩ rfl rfl (Nat.le_of_ble_eq_true rfl) rfl rfl ?_
    refine sF_M_in h (fun v4 σ4 h => ?_)
    show Wz E Y_M_feature 22 [(5, .int v1), (0, .ref 110), (1, .int a1), (2, .int a2), (3, .int a3), (4, .int a4)] [.int v4] σ4 K
    refine z_if_eq (off := 14) (tgt := 36) (pc' := 25) ⟨by decide +kernel, by decide, rfl⟩ (fun h5 => ?_) (fun h5 => ?_)
    · have h := h.1 (qi_eq_t rfl (by decide) h5)
      refine z_iconst (i := (-1)) (v := (-1)) (pc' := 37) ⟨by decide +kernel, rfl⟩ (by decide) ?_
      exact z_iret (ty := .int) rfl (by rfl) (by decide +kernel) (k _ _ h)
    · have h := h.2 (qi_eq_f rfl (by decide) h5)
      refine z_iload_n (f := 3) (i := 3) (q := 4) (pc' := 26) ⟨by decide +kernel, rfl⟩ rfl rfl ?_
      refine z_if_le (off := 12) (tgt := 38) (pc' := 29) ⟨by decide +kernel, by decide, rfl⟩ (fun h6 => ?_) (fun h6 => ?_)
      · have h := h.1 (qi_le_t rfl (by decide) h6)
        refine z_iload_n (f := 3) (i := 3) (q := 4) (pc' := 39) ⟨by decide +kernel, rfl⟩ rfl rfl ?_
        refine z_if_le (off := 11) (tgt := 50) (pc' := 42) ⟨by decide +kernel, by decide, rfl⟩ (fun h7 => ?_) (fun h7 => ?_)
        · have h := h.1 (qi_le_t rfl (by decide) h7)
          refine z_sub [1, 4, 5, 0] rfl ?_
          exact sb_M_feature_50 (sl_M_feature k fuF) k h
        · have h := h.2 (qi_le_f rfl (by decide) h7)
          refine z_iload (i := 4) (q := 5) (pc' := 44) ⟨by decide +kernel, rfl⟩ rfl ?_
          refine z_if_ge (off := 6) (tgt := 50) (pc' := 47) ⟨by decide +kernel, by decide, rfl⟩ (fun h8 => ?_) (fun h8 => ?_)
          · have h := h.1 (qi_ge_t rfl (by decide) h8)
            refine z_sub [1, 4, 5, 0] rfl ?_
            exact sb_M_feature_50 (sl_M_feature k fuF) k h
          · have h := h.2 (qi_ge_f rfl (by decide) h8)
            refine z_bipush (i := (-13)) (v := (-13)) (pc' := 49) ⟨by decide +kernel, rfl⟩ (by decide) ?_
            exact z_iret (ty := .int) rfl (by rfl) (by decide +kernel) (k _ _ h)
      · have h := h.2 (qi_le_f rfl (by decide) h6)
        refine z_iload (i := 4) (q := 5) (pc' := 31) ⟨by decide +kernel, rfl⟩ rfl ?_
        refine z_bipush (i := 20) (v := 20) (pc' := 33) ⟨by decide +kernel, rfl⟩ (by decide) ?_
        refine z_icmp_le (off := 5) (tgt := 38) (pc' := 36) ⟨by decide +kernel, by decide, rfl⟩ (fun h9 => ?_) (fun h9 => ?_)
        · have h := h.1 (qi_le_t rfl (by decide) h9)
          refine z_iload_n (f := 3) (i := 3) (q := 4) (pc' := 39) ⟨by decide +kernel, rfl⟩ rfl rfl ?_
          refine z_if_le (off := 11) (tgt := 50) (pc' := 42) ⟨by decide +kernel, by decide, rfl⟩ (fun h10 => ?_) (fun h10 => ?_)
          · have h := h.1 (qi_le_t rfl (by decide) h10)
            refine z_sub [1, 4, 5, 0] rfl ?_
            exact sb_M_feature_50 (sl_M_feature k fuF) k h
          · have h := h.2 (qi_le_f rfl (by decide) h10)
            refine z_iload (i := 4) (q := 5) (pc' := 44) ⟨by decide +kernel, rfl⟩ rfl ?_
            refine z_if_ge (off := 6) (tgt := 50) (pc' := 47) ⟨by decide +kernel, by decide, rfl⟩ (fun h11 => ?_) (fun h11 => ?_)
            · have h := h.1 (qi_ge_t rfl (by decide) h11)
              refine z_sub [1, 4, 5, 0] rfl ?_
              exact sb_M_feature_50 (sl_M_feature k fuF) k h
            · have h := h.2 (qi_ge_f rfl (by decide) h11)
              refine z_bipush (i := (-13)) (v := (-13)) (pc' := 49) ⟨by decide +kernel, rfl⟩ (by decide) ?_
              exact z_iret (ty := .int) rfl (by rfl) (by decide +kernel) (k _ _ h)
        · have h := h.2 (qi_le_f rfl (by decide) h9)
          refine z_iconst (i := (-1)) (v := (-1)) (pc' := 37) ⟨by decide +kernel, rfl⟩ (by decide) ?_
          exact z_iret (ty := .int) rfl (by rfl) (by decide +kernel) (k _ _ h)
noncomputable def W_M_isNan (a0 : Int64) (σ : zS) (Q : Int32 → zS → Prop) : Prop := ((Int64.toInt (a0 &&& 9223372036854775807)) ≤ 9218868437227405312 → (Q 0 σ)) ∧ (¬ (Int64.toInt (a0 &&& 9223372036854775807)) ≤ 9218868437227405312 → (Q 1 σ))
theorem sF_M_isNan {E : xV} {σ : zS} {K : zKt} {a0 : Int64} {Q : Int32 → zS → Prop} (h : W_M_isNan a0 σ Q) (k : ∀ v s, Q v s → K (some (.int v)) s) : Cz E Y_M_isNan [.long a0] σ K := by
  refine z_entry (by decide) (fun a => by rw [sl_len]; exact Nat.le_of_ble_eq_true rfl) rfl ?_
  unfold W_M_isNan at h
  refine z_lload_n (f := 0) (i := 0) (q := 0) (pc' := 1) ⟨by decide +kernel, rfl⟩ rfl rfl ?_
  refine z_ldc2 (i := 337) (v := 9223372036854775807) (pc' := 4) ⟨by decide +kernel, rfl⟩ k_11_26 ?_
  refine z_land (pc' := 5) ⟨by decide +kernel, rfl⟩ ?_
  refine z_ldc2 (i := 339) (v := 9218868437227405312) (pc' := 8) ⟨by decide +kernel, rfl⟩ k_11_27 ?_
  refine z_lcmp (pc' := 9) ⟨by decide +kernel, rfl⟩ ?_
  refine z_if_le (off := 7) (tgt := 16) (pc' := 12) ⟨by decide +kernel, by decide, rfl⟩ (fun h1 => ?_) (fun h1 => ?_)
  · have h := h.1 (qk_le_t rfl (by decide) h1)
    refine z_iconst (i := 0) (v := 0) (pc' := 17) ⟨by decide +kernel, rfl⟩ (by decide) ?_
    exact z_iret (ty := .boolean) rfl (by rfl) (by decide +kernel) (k _ _ h)
  · have h := h.2 (qk_le_f rfl (by decide) h1)
    refine z_iconst (i := 1) (v := 1) (pc' := 13) ⟨by decide +kernel, rfl⟩ (by decide) ?_
    refine z_goto (off := 4) (tgt := 17) (pc' := 16) ⟨by decide +kernel, by decide, rfl⟩ ?_
    exact z_iret (ty := .boolean) rfl (by rfl) (by decide +kernel) (k _ _ h)

end
