section
noncomputable def WL_M_forceAt : Nat → (Int32 → Int32 → Int32 → zS → (Int32 → zS → Prop) → Prop)
  | 0 => fun _ _ _ _ _ => False
  | n + 1 => WB_M_forceAt_5 (WL_M_forceAt n)
theorem wl_M_forceAt_5 {n : Nat} {x1 : Int32} {x2 : Int32} {x3 : Int32} {σ : zS} {Q : Int32 → zS → Prop} (h : WB_M_forceAt_5 (WL_M_forceAt n) x1 x2 x3 σ Q) : (WL_M_forceAt (n + 1)) x1 x2 x3 σ Q := h
theorem sl_M_forceAt {E : xV} {K : zKt} {Q : Int32 → zS → Prop} (k : ∀ v s, Q v s → K (some (.int v)) s) : ∀ n, (∀ (x1 : Int32) (x2 : Int32) (x3 : Int32) (σ : zS), (WL_M_forceAt n) x1 x2 x3 σ Q → Wz E Y_M_forceAt 5 [(0, .ref 110), (1, .int x1), (2, .int x2), (3, .int x3)] [] σ K)
  | 0 => fun _ _ _ _ h => h.elim
  | n + 1 => by
    have i := sl_M_forceAt (E := E)  k n
    exact fun _ _ _ _ h => sh_M_forceAt_5 i k h
noncomputable def W_M_forceAt (a1 : Int32) (σ : zS) (Q : Int32 → zS → Prop) : Prop := (WL_M_forceAt fuF) a1 (-4) 0 σ Q
theorem sF_M_forceAt {E : xV} {σ : zS} {K : zKt} {a1 : Int32} {Q : Int32 → zS → Prop} (h : W_M_forceAt a1 σ Q) (k : ∀ v s, Q v s → K (some (.int v)) s) : Cz E Y_M_forceAt [.ref 110, .int a1] σ K := by
  refine z_entry (by decide) (fun a => by rw [sl_len]; exact Nat.le_of_ble_eq_true rfl) rfl ?_
  unfold W_M_forceAt at h
  refine z_bipush (i := (-4)) (v := (-4)) (pc' := 2) ⟨by decide +kernel, rfl⟩ (by decide) ?_
  refine z_istore_n (f := 2) (i := 2) (pc' := 3) ⟨by decide +kernel, rfl⟩ rfl (by decide) rfl ?_
  show Wz E Y_M_forceAt 3 [(2, .int (-4)), (0, .ref 110), (1, .int a1)] [] σ K
  refine z_iconst (i := 0) (v := 0) (pc' := 4) ⟨by decide +kernel, rfl⟩ (by decide) ?_
  refine z_istore_n (f := 3) (i := 3) (pc' := 5) ⟨by decide +kernel, rfl⟩ rfl (by decide) rfl ?_
  show Wz E Y_M_forceAt 5 [(3, .int 0), (2, .int (-4)), (0, .ref 110), (1, .int a1)] [] σ K
  refine z_sub [2, 3, 1, 0] rfl ?_
  exact (sl_M_forceAt k fuF) _ _ _ _ h
noncomputable def W_M_mixed (a0 : Int32) (a1 : Int32) (σ : zS) (Q : Int32 → zS → Prop) : Prop := Q ((((a0 ^^^ a1) * 1664525) + 1013904223) ^^^ ((Int32.toUInt32 (((a0 ^^^ a1) * 1664525) + 1013904223) >>> (Int32.toUInt32 15 &&& Int32.toUInt32 31)).toInt32)) σ
theorem sF_M_mixed {E : xV} {σ : zS} {K : zKt} {a0 : Int32} {a1 : Int32} {Q : Int32 → zS → Prop} (h : W_M_mixed a0 a1 σ Q) (k : ∀ v s, Q v s → K (some (.int v)) s) : Cz E Y_M_mixed [.int a0, .int a1] σ K := by
  refine z_entry (by decide) (fun a => by rw [sl_len]; exact Nat.le_of_ble_eq_true rfl) rfl ?_
  unfold W_M_mixed at h
  refine z_iload_n (f := 0) (i := 0) (q := 0) (pc' := 1) ⟨by decide +kernel, rfl⟩ rfl rfl ?_
  refine z_iload_n (f := 1) (i := 1) (q := 1) (pc' := 2) ⟨by decide +kernel, rfl⟩ rfl rfl ?_
  refine z_ixor (pc' := 3) ⟨by decide +kernel, rfl⟩ ?_
  refine z_ldcw (i := 407) (v := 1664525) (pc' := 6) ⟨by decide +kernel, rfl⟩ k_10_187 ?_
  refine z_imul (pc' := 7) ⟨by decide +kernel, rfl⟩ ?_
  refine z_ldcw (i := 408) (v := 1013904223) (pc' := 10) ⟨by decide +kernel, rfl⟩ k_10_188 ?_
  refine z_iadd (pc' := 11) ⟨by decide +kernel, rfl⟩ ?_
  refine z_istore_n (f := 2) (i := 2) (pc' := 12) ⟨by decide +kernel, rfl⟩ rfl (by decide) rfl ?_
  show Wz E Y_M_mixed 12 [(2, .int (((a0 ^^^ a1) * 1664525) + 1013904223)), (0, .int a0), (1, .int a1)] [] σ K
  refine z_iload_n (f := 2) (i := 2) (q := 0) (pc' := 13) ⟨by decide +kernel, rfl⟩ rfl rfl ?_
  refine z_iload_n (f := 2) (i := 2) (q := 0) (pc' := 14) ⟨by decide +kernel, rfl⟩ rfl rfl ?_
  refine z_bipush (i := 15) (v := 15) (pc' := 16) ⟨by decide +kernel, rfl⟩ (by decide) ?_
  refine z_iushr (v := ((Int32.toUInt32 (((a0 ^^^ a1) * 1664525) + 1013904223) >>> (Int32.toUInt32 15 &&& Int32.toUInt32 31)).toInt32)) (pc' := 17) ⟨by decide +kernel, rfl⟩ rfl ?_
  refine z_ixor (pc' := 18) ⟨by decide +kernel, rfl⟩ ?_
  exact z_iret (ty := .int) rfl (by rfl) (by decide +kernel) (k _ _ h)
noncomputable def WB_M_sumOf_5 (F5 : Int32 → Int32 → Int32 → zS → (Int32 → zS → Prop) → Prop) (x1 : Int32) (x3 : Int32) (x4 : Int32) (σ : zS) (Q : Int32 → zS → Prop) : Prop := (6 ≤ (Int32.toInt x4) → (Q x3 σ)) ∧ (¬ 6 ≤ (Int32.toInt x4) → ((-2147483648 ≤ 6 * (Int32.toInt x1) ∧ 6 * (Int32.toInt x1) ≤ 2147483647) ∧ ∀ r2 : Int32, r2.toInt = 6 * (Int32.toInt x1) → ((-2147483648 ≤ (Int32.toInt r2) + (Int32.toInt x4) ∧ (Int32.toInt r2) + (Int32.toInt x4) ≤ 2147483647) ∧ ∀ r3 : Int32, r3.toInt = (Int32.toInt r2) + (Int32.toInt x4) → (∃ n4 : Nat, Int32.toInt r3 = (n4 : Int) ∧ n4 < 1800 ∧ (W_M_mixed x3 (σ.1 112 n4) σ (fun v5 σ5 => (-2147483648 ≤ (Int32.toInt x4) + 1 ∧ (Int32.toInt x4) + 1 ≤ 2147483647) ∧ ∀ r6 : Int32, r6.toInt = (Int32.toInt x4) + 1 → (F5 x1 v5 r6 σ5 Q)))))))
theorem sh_M_sumOf_5 {E : xV} {σ : zS} {K : zKt} {F5 : Int32 → Int32 → Int32 → zS → (Int32 → zS → Prop) → Prop} {x1 : Int32} {x3 : Int32} {x4 : Int32} {Q : Int32 → zS → Prop} (f5 : ∀ (x1 : Int32) (x3 : Int32) (x4 : Int32) (σ : zS), F5 x1 x3 x4 σ Q → Wz E Y_M_sumOf 5 [(0, .ref 110), (1, .int x1), (3, .int x3), (4, .int x4)] [] σ K) (k : ∀ v s, Q v s → K (some (.int v)) s) (h : WB_M_sumOf_5 F5 x1 x3 x4 σ Q) : Wz E Y_M_sumOf 5 [(0, .ref 110), (1, .int x1), (3, .int x3), (4, .int x4)] [] σ K := by
  unfold WB_M_sumOf_5 at h
  refine z_iload (i := 4) (q := 3) (pc' := 7) ⟨by decide +kernel, rfl⟩ rfl ?_
  refine z_bipush (i := 6) (v := 6) (pc' := 9) ⟨by decide +kernel, rfl⟩ (by decide) ?_
  refine z_icmp_ge (off := 26) (tgt := 35) (pc' := 12) ⟨by decide +kernel, by decide, rfl⟩ (fun h1 => ?_) (fun h1 => ?_)
  · have h := h.1 (qi_ge_t rfl (by decide) h1)
    refine z_iload_n (f := 3) (i := 3) (q := 2) (pc' := 36) ⟨by decide +kernel, rfl⟩ rfl rfl ?_
    exact z_iret (ty := .int) rfl (by rfl) (by decide +kernel) (k _ _ h)
  · have h := h.2 (qi_ge_f rfl (by decide) h1)
    refine z_iload_n (f := 3) (i := 3) (q := 2) (pc' := 13) ⟨by decide +kernel, rfl⟩ rfl rfl ?_
    refine z_aload_n (f := 0) (i := 0) (q := 0) (pc' := 14) ⟨by decide +kernel, rfl⟩ rfl rfl ?_
    refine w_getr (k := 110) (j := 4) (idx := 13) (pc' := 17) yfxe_13_13 ykfa_110_4 ⟨by decide +kernel, rfl⟩ ?_
    refine z_bipush (i := 6) (v := 6) (pc' := 19) ⟨by decide +kernel, rfl⟩ (by decide) ?_
    refine z_iload_n (f := 1) (i := 1) (q := 1) (pc' := 20) ⟨by decide +kernel, rfl⟩ rfl rfl ?_
    refine z_imul (pc' := 21) ⟨by decide +kernel, rfl⟩ ?_
    obtain ⟨hb2, h⟩ := h
    have h := h (6 * x1) (im_ok (by decide) rfl hb2)
    generalize (6 * x1) = r2 at h ⊢
    refine z_iload (i := 4) (q := 3) (pc' := 23) ⟨by decide +kernel, rfl⟩ rfl ?_
    refine z_iadd (pc' := 24) ⟨by decide +kernel, rfl⟩ ?_
    obtain ⟨hb3, h⟩ := h
    have h := h (r2 + x4) (ia_ok rfl rfl hb3)
    generalize (r2 + x4) = r3 at h ⊢
    obtain ⟨n4, hi4, hz4, h⟩ := h
    refine w_iald (k := 112) (n := n4) (pc' := 25) ykaa_112 (hi4) (hz4) ⟨by decide +kernel, rfl⟩ ?_
    refine w_invS (Z := Y_M_mixed) (idx := 409) (As := [.int x3, .int (σ.1 112 n4)]) (rest := []) (pc' := 28) cl_13_409 rfl ⟨rfl, rfl⟩ ⟨⟨by decide, by decide⟩, rfl, rfl⟩ ⟨by decide +kernel, rfl⟩ rfl rfl (Nat.le_of_ble_eq_true rfl) rfl rfl ?_
    refine sF_M_mixed h (fun v5 σ5 h => ?_)
    show Wz E Y_M_sumOf 28 [(0, .ref 110), (1, .int x1), (3, .int x3), (4, .int x4)] [.int v5] σ5 K
    refine z_istore_n (f := 3) (i := 3) (pc' := 29) ⟨by decide +kernel, rfl⟩ rfl (by decide) rfl ?_
    show Wz E Y_M_sumOf 29 [(3, .int v5), (0, .ref 110), (1, .int x1), (4, .int x4)] [] σ5 K
    refine z_iinc (i := 4) (z := 1) (q := 3) (pc' := 32) ⟨by decide +kernel, rfl⟩ rfl rfl (by decide) rfl ?_
    show Wz E Y_M_sumOf 32 [(4, .int (x4 + Int32.ofInt 1)), (3, .int v5), (0, .ref 110), (1, .int x1)] [] σ5 K
    obtain ⟨hb6, h⟩ := h
    have h := h (x4 + Int32.ofInt 1) (ia_ok rfl (by decide) hb6)
    generalize (x4 + Int32.ofInt 1) = r6 at h ⊢
    refine z_goto (off := (-27)) (tgt := 5) (pc' := 35) ⟨by decide +kernel, by decide, rfl⟩ ?_
    refine z_sub [2, 3, 1, 0] rfl ?_
    exact f5 _ _ _ _ h
noncomputable def WL_M_sumOf : Nat → (Int32 → Int32 → Int32 → zS → (Int32 → zS → Prop) → Prop)
  | 0 => fun _ _ _ _ _ => False
  | n + 1 => WB_M_sumOf_5 (WL_M_sumOf n)
theorem wl_M_sumOf_5 {n : Nat} {x1 : Int32} {x3 : Int32} {x4 : Int32} {σ : zS} {Q : Int32 → zS → Prop} (h : WB_M_sumOf_5 (WL_M_sumOf n) x1 x3 x4 σ Q) : (WL_M_sumOf (n + 1)) x1 x3 x4 σ Q := h
theorem sl_M_sumOf {E : xV} {K : zKt} {Q : Int32 → zS → Prop} (k : ∀ v s, Q v s → K (some (.int v)) s) : ∀ n, (∀ (x1 : Int32) (x3 : Int32) (x4 : Int32) (σ : zS), (WL_M_sumOf n) x1 x3 x4 σ Q → Wz E Y_M_sumOf 5 [(0, .ref 110), (1, .int x1), (3, .int x3), (4, .int x4)] [] σ K)
  | 0 => fun _ _ _ _ h => h.elim
  | n + 1 => by
    have i := sl_M_sumOf (E := E)  k n
    exact fun _ _ _ _ h => sh_M_sumOf_5 i k h
noncomputable def W_M_sumOf (a1 : Int32) (a2 : Int32) (σ : zS) (Q : Int32 → zS → Prop) : Prop := (WL_M_sumOf fuF) a1 a2 0 σ Q
theorem sF_M_sumOf {E : xV} {σ : zS} {K : zKt} {a1 : Int32} {a2 : Int32} {Q : Int32 → zS → Prop} (h : W_M_sumOf a1 a2 σ Q) (k : ∀ v s, Q v s → K (some (.int v)) s) : Cz E Y_M_sumOf [.ref 110, .int a1, .int a2] σ K := by
  refine z_entry (by decide) (fun a => by rw [sl_len]; exact Nat.le_of_ble_eq_true rfl) rfl ?_
  unfold W_M_sumOf at h
  refine z_iload_n (f := 2) (i := 2) (q := 2) (pc' := 1) ⟨by decide +kernel, rfl⟩ rfl rfl ?_
  refine z_istore_n (f := 3) (i := 3) (pc' := 2) ⟨by decide +kernel, rfl⟩ rfl (by decide) rfl ?_
  show Wz E Y_M_sumOf 2 [(3, .int a2), (0, .ref 110), (1, .int a1), (2, .int a2)] [] σ K
  refine z_iconst (i := 0) (v := 0) (pc' := 3) ⟨by decide +kernel, rfl⟩ (by decide) ?_
  refine z_istore (i := 4) (pc' := 5) ⟨by decide +kernel, rfl⟩ (by decide) rfl ?_
  show Wz E Y_M_sumOf 5 [(4, .int 0), (3, .int a2), (0, .ref 110), (1, .int a1), (2, .int a2)] [] σ K
  refine z_sub [2, 3, 1, 0] rfl ?_
  exact (sl_M_sumOf k fuF) _ _ _ _ h
noncomputable def W_M_log_b138 (y0 : Int32) (y1 : Int32) (y3 : Int32) (σ : zS) (Q : Unit → zS → Prop) : Prop := W_M_sumOf y1 y0 σ (fun v1 σ1 => ∃ n2 : Nat, Int32.toInt y3 = (n2 : Int) ∧ n2 < 300 ∧ (∀ σ3 : zS, zI σ1 113 n2 v1 = σ3 → ((-2147483648 ≤ (Int32.toInt (σ3.1 110 3)) + 1 ∧ (Int32.toInt (σ3.1 110 3)) + 1 ≤ 2147483647) ∧ ∀ r4 : Int32, r4.toInt = (Int32.toInt (σ3.1 110 3)) + 1 → (∀ σ5 : zS, zI σ3 110 3 r4 = σ5 → (Q () σ5)))))
theorem sb_M_log_138 {E : xV} {σ : zS} {K : zKt} {y0 : Int32} {y1 : Int32} {y3 : Int32} {Q : Unit → zS → Prop} (k : ∀ v s, Q v s → K none s) (h : W_M_log_b138 y0 y1 y3 σ Q) : Wz E Y_M_log 138 [(0, .ref 110)] [.int y0, .int y1, .ref 110, .int y3, .ref 113] σ K := by
  unfold W_M_log_b138 at h
  refine w_invV (Z := Y_M_sumOf) (idx := 416) (kb := 110) (As := [.int y1, .int y0]) (rest := [.int y3, .ref 113]) (pc' := 141) cl_13_416 rfl ⟨rfl, rfl⟩ ykfa_110_0 rfl ⟨⟨by decide, by decide⟩, rfl, rfl⟩ ⟨by decide +kernel, rfl⟩ rfl rfl (Nat.le_of_ble_eq_true rfl) rfl rfl ?_
  refine sF_M_sumOf h (fun v1 σ1 h => ?_)
  show Wz E Y_M_log 141 [(0, .ref 110)] [.int v1, .int y3, .ref 113] σ1 K
  obtain ⟨n2, hi2, hz2, h⟩ := h
  refine w_iast (k := 113) (n := n2) (pc' := 142) ykaa_113 (hi2) (hz2) ⟨by decide +kernel, rfl⟩ ?_
  generalize hs3 : zI σ1 113 n2 v1 = σ3
  have h := h σ3 hs3
  refine z_aload_n (f := 0) (i := 0) (q := 0) (pc' := 143) ⟨by decide +kernel, rfl⟩ rfl rfl ?_
  refine z_dupr (pc' := 144) ⟨by decide +kernel, rfl⟩ ?_
  refine w_geti (k := 110) (j := 3) (idx := 413) (pc' := 147) yfxe_13_413 ykfa_110_3 ⟨by decide +kernel, rfl⟩ ?_
  refine z_iconst (i := 1) (v := 1) (pc' := 148) ⟨by decide +kernel, rfl⟩ (by decide) ?_
  refine z_iadd (pc' := 149) ⟨by decide +kernel, rfl⟩ ?_
  obtain ⟨hb4, h⟩ := h
  have h := h ((σ3.1 110 3) + 1) (ia_ok rfl (by decide) hb4)
  generalize ((σ3.1 110 3) + 1) = r4 at h ⊢
  refine w_puti (k := 110) (j := 3) (idx := 413) (pc' := 152) yfxi_13_413 ykfa_110_3 ⟨by decide +kernel, rfl⟩ ?_
  generalize hs5 : zI σ3 110 3 r4 = σ5
  have h := h σ5 hs5
  exact z_vret rfl (by decide +kernel) (k _ _ h)
noncomputable def W_M_log (a1 : Int32) (a2 : Int32) (a3 : Int32) (a4 : Int32) (a5 : Int32) (σ : zS) (Q : Unit → zS → Prop) : Prop := (300 ≤ (Int32.toInt (σ.1 110 3)) → (Q () σ)) ∧ (¬ 300 ≤ (Int32.toInt (σ.1 110 3)) → ((-2147483648 ≤ 6 * (Int32.toInt (σ.1 110 3)) ∧ 6 * (Int32.toInt (σ.1 110 3)) ≤ 2147483647) ∧ ∀ r2 : Int32, r2.toInt = 6 * (Int32.toInt (σ.1 110 3)) → (∃ n3 : Nat, Int32.toInt r2 = (n3 : Int) ∧ n3 < 1800 ∧ (∀ σ4 : zS, zI σ 112 n3 a1 = σ4 → ((-2147483648 ≤ 6 * (Int32.toInt (σ4.1 110 3)) ∧ 6 * (Int32.toInt (σ4.1 110 3)) ≤ 2147483647) ∧ ∀ r5 : Int32, r5.toInt = 6 * (Int32.toInt (σ4.1 110 3)) → ((-2147483648 ≤ (Int32.toInt r5) + 1 ∧ (Int32.toInt r5) + 1 ≤ 2147483647) ∧ ∀ r6 : Int32, r6.toInt = (Int32.toInt r5) + 1 → (∃ n7 : Nat, Int32.toInt r6 = (n7 : Int) ∧ n7 < 1800 ∧ (∀ σ8 : zS, zI σ4 112 n7 (σ4.1 110 0) = σ8 → ((-2147483648 ≤ 6 * (Int32.toInt (σ8.1 110 3)) ∧ 6 * (Int32.toInt (σ8.1 110 3)) ≤ 2147483647) ∧ ∀ r9 : Int32, r9.toInt = 6 * (Int32.toInt (σ8.1 110 3)) → ((-2147483648 ≤ (Int32.toInt r9) + 2 ∧ (Int32.toInt r9) + 2 ≤ 2147483647) ∧ ∀ r10 : Int32, r10.toInt = (Int32.toInt r9) + 2 → (∃ n11 : Nat, Int32.toInt r10 = (n11 : Int) ∧ n11 < 1800 ∧ (∀ σ12 : zS, zI σ8 112 n11 a2 = σ12 → ((-2147483648 ≤ 6 * (Int32.toInt (σ12.1 110 3)) ∧ 6 * (Int32.toInt (σ12.1 110 3)) ≤ 2147483647) ∧ ∀ r13 : Int32, r13.toInt = 6 * (Int32.toInt (σ12.1 110 3)) → ((-2147483648 ≤ (Int32.toInt r13) + 3 ∧ (Int32.toInt r13) + 3 ≤ 2147483647) ∧ ∀ r14 : Int32, r14.toInt = (Int32.toInt r13) + 3 → (∃ n15 : Nat, Int32.toInt r14 = (n15 : Int) ∧ n15 < 1800 ∧ (∀ σ16 : zS, zI σ12 112 n15 a3 = σ16 → ((-2147483648 ≤ 6 * (Int32.toInt (σ16.1 110 3)) ∧ 6 * (Int32.toInt (σ16.1 110 3)) ≤ 2147483647) ∧ ∀ r17 : Int32, r17.toInt = 6 * (Int32.toInt (σ16.1 110 3)) → ((-2147483648 ≤ (Int32.toInt r17) + 4 ∧ (Int32.toInt r17) + 4 ≤ 2147483647) ∧ ∀ r18 : Int32, r18.toInt = (Int32.toInt r17) + 4 → (∃ n19 : Nat, Int32.toInt r18 = (n19 : Int) ∧ n19 < 1800 ∧ (∀ σ20 : zS, zI σ16 112 n19 a4 = σ20 → ((-2147483648 ≤ 6 * (Int32.toInt (σ20.1 110 3)) ∧ 6 * (Int32.toInt (σ20.1 110 3)) ≤ 2147483647) ∧ ∀ r21 : Int32, r21.toInt = 6 * (Int32.toInt (σ20.1 110 3)) → ((-2147483648 ≤ (Int32.toInt r21) + 5 ∧ (Int32.toInt r21) + 5 ≤ 2147483647) ∧ ∀ r22 : Int32, r22.toInt = (Int32.toInt r21) + 5 → (∃ n23 : Nat, Int32.toInt r22 = (n23 : Int) ∧ n23 < 1800 ∧ (∀ σ24 : zS, zI σ20 112 n23 a5 = σ24 → (((Int32.toInt (σ24.1 110 3)) = 0 → (W_M_log_b138  1 (σ24.1 110 3) (σ24.1 110 3) σ24 Q)) ∧ (¬ (Int32.toInt (σ24.1 110 3)) = 0 → ((-2147483648 ≤ (Int32.toInt (σ24.1 110 3)) - 1 ∧ (Int32.toInt (σ24.1 110 3)) - 1 ≤ 2147483647) ∧ ∀ r26 : Int32, r26.toInt = (Int32.toInt (σ24.1 110 3)) - 1 → (∃ n27 : Nat, Int32.toInt r26 = (n27 : Int) ∧ n27 < 300 ∧ (W_M_log_b138  (σ24.1 113 n27) (σ24.1 110 3) (σ24.1 110 3) σ24 Q)))))))))))))))))))))))))))))
theorem sF_M_log {E : xV} {σ : zS} {K : zKt} {a1 : Int32} {a2 : Int32} {a3 : Int32} {a4 : Int32} {a5 : Int32} {Q : Unit → zS → Prop} (h : W_M_log a1 a2 a3 a4 a5 σ Q) (k : ∀ v s, Q v s → K none s) : Cz E Y_M_log [.ref 110, .int a1, .int a2, .int a3, .int a4, .int a5] σ K := by
  refine z_entry (by decide) (fun a => by rw [sl_len]; exact Nat.le_of_ble_eq_true rfl) rfl ?_
  unfold W_M_log at h
  refine z_aload_n (f := 0) (i := 0) (q := 0) (pc' := 1) ⟨by decide +kernel, rfl⟩ rfl rfl ?_
  refine w_geti (k := 110) (j := 3) (idx := 413) (pc' := 4) yfxe_13_413 ykfa_110_3 ⟨by decide +kernel, rfl⟩ ?_
  refine z_sipush (i := 300) (v := 300) (pc' := 7) ⟨by decide +kernel, rfl⟩ (by decide) ?_
  refine z_icmp_ge (off := 145) (tgt := 152) (pc' := 10) ⟨by decide +kernel, by decide, rfl⟩ (fun h1 => ?_) (fun h1 => ?_)
  · have h := h.1 (qi_ge_t rfl (by decide) h1)
    exact z_vret rfl (by decide +kernel) (k _ _ h)
  · have h := h.2 (qi_ge_f rfl (by decide) h1)
    refine z_aload_n (f := 0) (i := 0) (q := 0) (pc' := 11) ⟨by decide +kernel, rfl⟩ rfl rfl ?_
    refine w_getr (k := 110) (j := 4) (idx := 13) (pc' := 14) yfxe_13_13 ykfa_110_4 ⟨by decide +kernel, rfl⟩ ?_
    refine z_bipush (i := 6) (v := 6) (pc' := 16) ⟨by decide +kernel, rfl⟩ (by decide) ?_
    refine z_aload_n (f := 0) (i := 0) (q := 0) (pc' := 17) ⟨by decide +kernel, rfl⟩ rfl rfl ?_
    refine w_geti (k := 110) (j := 3) (idx := 413) (pc' := 20) yfxe_13_413 ykfa_110_3 ⟨by decide +kernel, rfl⟩ ?_
    refine z_imul (pc' := 21) ⟨by decide +kernel, rfl⟩ ?_
    obtain ⟨hb2, h⟩ := h
    have h := h (6 * (σ.1 110 3)) (im_ok (by decide) rfl hb2)
    generalize (6 * (σ.1 110 3)) = r2 at h ⊢
    refine z_iload_n (f := 1) (i := 1) (q := 1) (pc' := 22) ⟨by decide +kernel, rfl⟩ rfl rfl ?_
    obtain ⟨n3, hi3, hz3, h⟩ := h
    refine w_iast (k := 112) (n := n3) (pc' := 23) ykaa_112 (hi3) (hz3) ⟨by decide +kernel, rfl⟩ ?_
    generalize hs4 : zI σ 112 n3 a1 = σ4
    have h := h σ4 hs4
    refine z_aload_n (f := 0) (i := 0) (q := 0) (pc' := 24) ⟨by decide +kernel, rfl⟩ rfl rfl ?_
    refine w_getr (k := 110) (j := 4) (idx := 13) (pc' := 27) yfxe_13_13 ykfa_110_4 ⟨by decide +kernel, rfl⟩ ?_
    refine z_bipush (i := 6) (v := 6) (pc' := 29) ⟨by decide +kernel, rfl⟩ (by decide) ?_
    refine z_aload_n (f := 0) (i := 0) (q := 0) (pc' := 30) ⟨by decide +kernel, rfl⟩ rfl rfl ?_
    refine w_geti (k := 110) (j := 3) (idx := 413) (pc' := 33) yfxe_13_413 ykfa_110_3 ⟨by decide +kernel, rfl⟩ ?_
    refine z_imul (pc' := 34) ⟨by decide +kernel, rfl⟩ ?_
    obtain ⟨hb5, h⟩ := h
    have h := h (6 * (σ4.1 110 3)) (im_ok (by decide) rfl hb5)
    generalize (6 * (σ4.1 110 3)) = r5 at h ⊢
    refine z_iconst (i := 1) (v := 1) (pc' := 35) ⟨by decide +kernel, rfl⟩ (by decide) ?_
    refine z_iadd (pc' := 36) ⟨by decide +kernel, rfl⟩ ?_
    obtain ⟨hb6, h⟩ := h
    have h := h (r5 + 1) (ia_ok rfl (by decide) hb6)
    generalize (r5 + 1) = r6 at h ⊢
    refine z_aload_n (f := 0) (i := 0) (q := 0) (pc' := 37) ⟨by decide +kernel, rfl⟩ rfl rfl ?_
    refine w_geti (k := 110) (j := 0) (idx := 403) (pc' := 40) yfxe_13_403 ykfa_110_0 ⟨by decide +kernel, rfl⟩ ?_
    obtain ⟨n7, hi7, hz7, h⟩ := h
    refine w_iast (k := 112) (n := n7) (pc' := 41) ykaa_112 (hi7) (hz7) ⟨by decide +kernel, rfl⟩ ?_
    generalize hs8 : zI σ4 112 n7 (σ4.1 110 0) = σ8
    have h := h σ8 hs8
    refine z_aload_n (f := 0) (i := 0) (q := 0) (pc' := 42) ⟨by decide +kernel, rfl⟩ rfl rfl ?_
    refine w_getr (k := 110) (j := 4) (idx := 13) (pc' := 45) yfxe_13_13 ykfa_110_4 ⟨by decide +kernel, rfl⟩ ?_
    refine z_bipush (i := 6) (v := 6) (pc' := 47) ⟨by decide +kernel, rfl⟩ (by decide) ?_
    refine z_aload_n (f := 0) (i := 0) (q := 0) (pc' := 48) ⟨by decide +kernel, rfl⟩ rfl rfl ?_
    refine w_geti (k := 110) (j := 3) (idx := 413) (pc' := 51) yfxe_13_413 ykfa_110_3 ⟨by decide +kernel, rfl⟩ ?_
    refine z_imul (pc' := 52) ⟨by decide +kernel, rfl⟩ ?_
    obtain ⟨hb9, h⟩ := h
    have h := h (6 * (σ8.1 110 3)) (im_ok (by decide) rfl hb9)
    generalize (6 * (σ8.1 110 3)) = r9 at h ⊢
    refine z_iconst (i := 2) (v := 2) (pc' := 53) ⟨by decide +kernel, rfl⟩ (by decide) ?_
    refine z_iadd (pc' := 54) ⟨by decide +kernel, rfl⟩ ?_
    obtain ⟨hb10, h⟩ := h
    have h := h (r9 + 2) (ia_ok rfl (by decide) hb10)
    generalize (r9 + 2) = r10 at h ⊢
    refine z_iload_n (f := 2) (i := 2) (q := 2) (pc' := 55) ⟨by decide +kernel, rfl⟩ rfl rfl ?_
    obtain ⟨n11, hi11, hz11, h⟩ := h
    refine w_iast (k := 112) (n := n11) (pc' := 56) ykaa_112 (hi11) (hz11) ⟨by decide +kernel, rfl⟩ ?_
    generalize hs12 : zI σ8 112 n11 a2 = σ12
    have h := h σ12 hs12
    refine z_aload_n (f := 0) (i := 0) (q := 0) (pc' := 57) ⟨by decide +kernel, rfl⟩ rfl rfl ?_
    refine w_getr (k := 110) (j := 4) (idx := 13) (pc' := 60) yfxe_13_13 ykfa_110_4 ⟨by decide +kernel, rfl⟩ ?_
    refine z_bipush (i := 6) (v := 6) (pc' := 62) ⟨by decide +kernel, rfl⟩ (by decide) ?_
    refine z_aload_n (f := 0) (i := 0) (q := 0) (pc' := 63) ⟨by decide +kernel, rfl⟩ rfl rfl ?_
    refine w_geti (k := 110) (j := 3) (idx := 413) (pc' := 66) yfxe_13_413 ykfa_110_3 ⟨by decide +kernel, rfl⟩ ?_
    refine z_imul (pc' := 67) ⟨by decide +kernel, rfl⟩ ?_
    obtain ⟨hb13, h⟩ := h
    have h := h (6 * (σ12.1 110 3)) (im_ok (by decide) rfl hb13)
    generalize (6 * (σ12.1 110 3)) = r13 at h ⊢
    refine z_iconst (i := 3) (v := 3) (pc' := 68) ⟨by decide +kernel, rfl⟩ (by decide) ?_
    refine z_iadd (pc' := 69) ⟨by decide +kernel, rfl⟩ ?_
    obtain ⟨hb14, h⟩ := h
    have h := h (r13 + 3) (ia_ok rfl (by decide) hb14)
    generalize (r13 + 3) = r14 at h ⊢
    refine z_iload_n (f := 3) (i := 3) (q := 3) (pc' := 70) ⟨by decide +kernel, rfl⟩ rfl rfl ?_
    obtain ⟨n15, hi15, hz15, h⟩ := h
    refine w_iast (k := 112) (n := n15) (pc' := 71) ykaa_112 (hi15) (hz15) ⟨by decide +kernel, rfl⟩ ?_
    generalize hs16 : zI σ12 112 n15 a3 = σ16
    have h := h σ16 hs16
    refine z_aload_n (f := 0) (i := 0) (q := 0) (pc' := 72) ⟨by decide +kernel, rfl⟩ rfl rfl ?_
    refine w_getr (k := 110) (j := 4) (idx := 13) (pc' := 75) yfxe_13_13 ykfa_110_4 ⟨by decide +kernel, rfl⟩ ?_
    refine z_bipush (i := 6) (v := 6) (pc' := 77) ⟨by decide +kernel, rfl⟩ (by decide) ?_
    refine z_aload_n (f := 0) (i := 0) (q := 0) (pc' := 78) ⟨by decide +kernel, rfl⟩ rfl rfl ?_
    refine w_geti (k := 110) (j := 3) (idx := 413) (pc' := 81) yfxe_13_413 ykfa_110_3 ⟨by decide +kernel, rfl⟩ ?_
    refine z_imul (pc' := 82) ⟨by decide +kernel, rfl⟩ ?_
    obtain ⟨hb17, h⟩ := h
    have h := h (6 * (σ16.1 110 3)) (im_ok (by decide) rfl hb17)
    generalize (6 * (σ16.1 110 3)) = r17 at h ⊢
    refine z_iconst (i := 4) (v := 4) (pc' := 83) ⟨by decide +kernel, rfl⟩ (by decide) ?_
    refine z_iadd (pc' := 84) ⟨by decide +kernel, rfl⟩ ?_
    obtain ⟨hb18, h⟩ := h
    have h := h (r17 + 4) (ia_ok rfl (by decide) hb18)
    generalize (r17 + 4) = r18 at h ⊢
    refine z_iload (i := 4) (q := 4) (pc' := 86) ⟨by decide +kernel, rfl⟩ rfl ?_
    obtain ⟨n19, hi19, hz19, h⟩ := h
    refine w_iast (k := 112) (n := n19) (pc' := 87) ykaa_112 (hi19) (hz19) ⟨by decide +kernel, rfl⟩ ?_
    generalize hs20 : zI σ16 112 n19 a4 = σ20
    have h := h σ20 hs20
    refine z_aload_n (f := 0) (i := 0) (q := 0) (pc' := 88) ⟨by decide +kernel, rfl⟩ rfl rfl ?_
    refine w_getr (k := 110) (j := 4) (idx := 13) (pc' := 91) yfxe_13_13 ykfa_110_4 ⟨by decide +kernel, rfl⟩ ?_
    refine z_bipush (i := 6) (v := 6) (pc' := 93) ⟨by decide +kernel, rfl⟩ (by decide) ?_
    refine z_aload_n (f := 0) (i := 0) (q := 0) (pc' := 94) ⟨by decide +kernel, rfl⟩ rfl rfl ?_
    refine w_geti (k := 110) (j := 3) (idx := 413) (pc' := 97) yfxe_13_413 ykfa_110_3 ⟨by decide +kernel, rfl⟩ ?_
    refine z_imul (pc' := 98) ⟨by decide +kernel, rfl⟩ ?_
    obtain ⟨hb21, h⟩ := h
    have h := h (6 * (σ20.1 110 3)) (im_ok (by decide) rfl hb21)
    generalize (6 * (σ20.1 110 3)) = r21 at h ⊢
    refine z_iconst (i := 5) (v := 5) (pc' := 99) ⟨by decide +kernel, rfl⟩ (by decide) ?_
    refine z_iadd (pc' := 100) ⟨by decide +kernel, rfl⟩ ?_
    obtain ⟨hb22, h⟩ := h
    have h := h (r21 + 5) (ia_ok rfl (by decide) hb22)
    generalize (r21 + 5) = r22 at h ⊢
    refine z_iload (i := 5) (q := 5) (pc' := 102) ⟨by decide +kernel, rfl⟩ rfl ?_
    obtain ⟨n23, hi23, hz23, h⟩ := h
    refine w_iast (k := 112) (n := n23) (pc' := 103) ykaa_112 (hi23) (hz23) ⟨by decide +kernel, rfl⟩ ?_
    generalize hs24 : zI σ20 112 n23 a5 = σ24
    have h := h σ24 hs24
    refine z_aload_n (f := 0) (i := 0) (q := 0) (pc' := 104) ⟨by decide +kernel, rfl⟩ rfl rfl ?_
    refine w_getr (k := 110) (j := 5) (idx := 16) (pc' := 107) yfxe_13_16 ykfa_110_5 ⟨by decide +kernel, rfl⟩ ?_
    refine z_aload_n (f := 0) (i := 0) (q := 0) (pc' := 108) ⟨by decide +kernel, rfl⟩ rfl rfl ?_
    refine w_geti (k := 110) (j := 3) (idx := 413) (pc' := 111) yfxe_13_413 ykfa_110_3 ⟨by decide +kernel, rfl⟩ ?_
    refine z_aload_n (f := 0) (i := 0) (q := 0) (pc' := 112) ⟨by decide +kernel, rfl⟩ rfl rfl ?_
    refine z_aload_n (f := 0) (i := 0) (q := 0) (pc' := 113) ⟨by decide +kernel, rfl⟩ rfl rfl ?_
    refine w_geti (k := 110) (j := 3) (idx := 413) (pc' := 116) yfxe_13_413 ykfa_110_3 ⟨by decide +kernel, rfl⟩ ?_
    refine z_aload_n (f := 0) (i := 0) (q := 0) (pc' := 117) ⟨by decide +kernel, rfl⟩ rfl rfl ?_
    refine w_geti (k := 110) (j := 3) (idx := 413) (pc' := 120) yfxe_13_413 ykfa_110_3 ⟨by decide +kernel, rfl⟩ ?_
    refine z_if_ne (off := 7) (tgt := 127) (pc' := 123) ⟨by decide +kernel, by decide, rfl⟩ (fun h25 => ?_) (fun h25 => ?_)
    · have h := h.2 (qi_ne_t rfl (by decide) h25)
      refine z_aload_n (f := 0) (i := 0) (q := 0) (pc' := 128) ⟨by decide +kernel, rfl⟩ rfl rfl ?_
      refine w_getr (k := 110) (j := 5) (idx := 16) (pc' := 131) yfxe_13_16 ykfa_110_5 ⟨by decide +kernel, rfl⟩ ?_
      refine z_aload_n (f := 0) (i := 0) (q := 0) (pc' := 132) ⟨by decide +kernel, rfl⟩ rfl rfl ?_
      refine w_geti (k := 110) (j := 3) (idx := 413) (pc' := 135) yfxe_13_413 ykfa_110_3 ⟨by decide +kernel, rfl⟩ ?_
      refine z_iconst (i := 1) (v := 1) (pc' := 136) ⟨by decide +kernel, rfl⟩ (by decide) ?_
      refine z_isub (pc' := 137) ⟨by decide +kernel, rfl⟩ ?_
      obtain ⟨hb26, h⟩ := h
      have h := h ((σ24.1 110 3) - 1) (is_ok rfl (by decide) hb26)
      generalize ((σ24.1 110 3) - 1) = r26 at h ⊢
      obtain ⟨n27, hi27, hz27, h⟩ := h
      refine w_iald (k := 113) (n := n27) (pc' := 138) ykaa_113 (hi27) (hz27) ⟨by decide +kernel, rfl⟩ ?_
      refine z_sub [0] rfl ?_
      exact sb_M_log_138  k h
    · have h := h.1 (qi_ne_f rfl (by decide) h25)
      refine z_iconst (i := 1) (v := 1) (pc' := 124) ⟨by decide +kernel, rfl⟩ (by decide) ?_
      refine z_goto (off := 14) (tgt := 138) (pc' := 127) ⟨by decide +kernel, by decide, rfl⟩ ?_
      refine z_sub [0] rfl ?_
      exact sb_M_log_138  k h
noncomputable def W_M_inForce (a1 : Int32) (σ : zS) (Q : Int32 → zS → Prop) : Prop := W_M_isPolicy a1 σ (fun v1 σ1 => ((Int32.toInt v1) = 0 → (Q (-1) σ1)) ∧ (¬ (Int32.toInt v1) = 0 → (((Int32.toInt (σ1.1 110 71)) = 40 → (Q (-3) σ1)) ∧ (¬ (Int32.toInt (σ1.1 110 71)) = 40 → (∃ n4 : Nat, Int32.toInt (σ1.1 110 71) = (n4 : Int) ∧ n4 < 40 ∧ (∀ σ5 : zS, zI σ1 154 n4 (σ1.1 110 0) = σ5 → (∃ n6 : Nat, Int32.toInt (σ5.1 110 71) = (n6 : Int) ∧ n6 < 40 ∧ (∀ σ7 : zS, zI σ5 155 n6 a1 = σ7 → ((-2147483648 ≤ (Int32.toInt (σ7.1 110 71)) + 1 ∧ (Int32.toInt (σ7.1 110 71)) + 1 ≤ 2147483647) ∧ ∀ r8 : Int32, r8.toInt = (Int32.toInt (σ7.1 110 71)) + 1 → (∀ σ9 : zS, zI σ7 110 71 r8 = σ9 → (W_M_log 1 a1 0 0 1 σ9 (fun _ σ10 => Q 1 σ10))))))))))))
theorem sF_M_inForce {E : xV} {σ : zS} {K : zKt} {a1 : Int32} {Q : Int32 → zS → Prop} (h : W_M_inForce a1 σ Q) (k : ∀ v s, Q v s → K (some (.int v)) s) : Cz E Y_M_inForce [.ref 110, .int a1] σ K := by
  refine z_entry (by decide) (fun a => by rw [sl_len]; exact Nat.le_of_ble_eq_true rfl) rfl ?_
  unfold W_M_inForce at h
  refine z_aload_n (f := 0) (i := 0) (q := 0) (pc' := 1) ⟨by decide +kernel, rfl⟩ rfl rfl ?_
  refine z_iload_n (f := 1) (i := 1) (q := 1) (pc' := 2) ⟨by decide +kernel, rfl⟩ rfl rfl ?_
  refine w_invV (Z := Y_M_isPolicy) (idx := 652) (kb := 110) (As := [.int a1]) (rest := []) (pc' := 5) cl_13_652 rfl ⟨rfl, rfl⟩ ykfa_110_0 rfl ⟨⟨by decide, by decide⟩, rfl, rfl⟩ ⟨by decide +kernel, rfl⟩ rfl rfl (Nat.le_of_ble_eq_true rfl) rfl rfl ?_
  refine sF_M_isPolicy h (fun v1 σ1 h => ?_)
  show Wz E Y_M_inForce 5 [(0, .ref 110), (1, .int a1)] [.int v1] σ1 K
  refine z_if_ne (off := 5) (tgt := 10) (pc' := 8) ⟨by decide +kernel, by decide, rfl⟩ (fun h2 => ?_) (fun h2 => ?_)
  · have h := h.2 (qi_ne_t rfl (by decide) h2)
    refine z_aload_n (f := 0) (i := 0) (q := 0) (pc' := 11) ⟨by decide +kernel, rfl⟩ rfl rfl ?_
    refine w_geti (k := 110) (j := 71) (idx := 724) (pc' := 14) yfxe_13_724 ykfa_110_71 ⟨by decide +kernel, rfl⟩ ?_
    refine z_bipush (i := 40) (v := 40) (pc' := 16) ⟨by decide +kernel, rfl⟩ (by decide) ?_
    refine z_icmp_ne (off := 6) (tgt := 22) (pc' := 19) ⟨by decide +kernel, by decide, rfl⟩ (fun h3 => ?_) (fun h3 => ?_)
    · have h := h.2 (qi_ne_t rfl (by decide) h3)
      refine z_aload_n (f := 0) (i := 0) (q := 0) (pc' := 23) ⟨by decide +kernel, rfl⟩ rfl rfl ?_
      refine w_getr (k := 110) (j := 72) (idx := 145) (pc' := 26) yfxe_13_145 ykfa_110_72 ⟨by decide +kernel, rfl⟩ ?_
      refine z_aload_n (f := 0) (i := 0) (q := 0) (pc' := 27) ⟨by decide +kernel, rfl⟩ rfl rfl ?_
      refine w_geti (k := 110) (j := 71) (idx := 724) (pc' := 30) yfxe_13_724 ykfa_110_71 ⟨by decide +kernel, rfl⟩ ?_
      refine z_aload_n (f := 0) (i := 0) (q := 0) (pc' := 31) ⟨by decide +kernel, rfl⟩ rfl rfl ?_
      refine w_geti (k := 110) (j := 0) (idx := 403) (pc' := 34) yfxe_13_403 ykfa_110_0 ⟨by decide +kernel, rfl⟩ ?_
      obtain ⟨n4, hi4, hz4, h⟩ := h
      refine w_iast (k := 154) (n := n4) (pc' := 35) ykaa_154 (hi4) (hz4) ⟨by decide +kernel, rfl⟩ ?_
      generalize hs5 : zI σ1 154 n4 (σ1.1 110 0) = σ5
      have h := h σ5 hs5
      refine z_aload_n (f := 0) (i := 0) (q := 0) (pc' := 36) ⟨by decide +kernel, rfl⟩ rfl rfl ?_
      refine w_getr (k := 110) (j := 73) (idx := 148) (pc' := 39) yfxe_13_148 ykfa_110_73 ⟨by decide +kernel, rfl⟩ ?_
      refine z_aload_n (f := 0) (i := 0) (q := 0) (pc' := 40) ⟨by decide +kernel, rfl⟩ rfl rfl ?_
      refine w_geti (k := 110) (j := 71) (idx := 724) (pc' := 43) yfxe_13_724 ykfa_110_71 ⟨by decide +kernel, rfl⟩ ?_
      refine z_iload_n (f := 1) (i := 1) (q := 1) (pc' := 44) ⟨by decide +kernel, rfl⟩ rfl rfl ?_
      obtain ⟨n6, hi6, hz6, h⟩ := h
      refine w_iast (k := 155) (n := n6) (pc' := 45) ykaa_155 (hi6) (hz6) ⟨by decide +kernel, rfl⟩ ?_
      generalize hs7 : zI σ5 155 n6 a1 = σ7
      have h := h σ7 hs7
      refine z_aload_n (f := 0) (i := 0) (q := 0) (pc' := 46) ⟨by decide +kernel, rfl⟩ rfl rfl ?_
      refine z_dupr (pc' := 47) ⟨by decide +kernel, rfl⟩ ?_
      refine w_geti (k := 110) (j := 71) (idx := 724) (pc' := 50) yfxe_13_724 ykfa_110_71 ⟨by decide +kernel, rfl⟩ ?_
      refine z_iconst (i := 1) (v := 1) (pc' := 51) ⟨by decide +kernel, rfl⟩ (by decide) ?_
      refine z_iadd (pc' := 52) ⟨by decide +kernel, rfl⟩ ?_
      obtain ⟨hb8, h⟩ := h
      have h := h ((σ7.1 110 71) + 1) (ia_ok rfl (by decide) hb8)
      generalize ((σ7.1 110 71) + 1) = r8 at h ⊢
      refine w_puti (k := 110) (j := 71) (idx := 724) (pc' := 55) yfxi_13_724 ykfa_110_71 ⟨by decide +kernel, rfl⟩ ?_
      generalize hs9 : zI σ7 110 71 r8 = σ9
      have h := h σ9 hs9
      refine z_aload_n (f := 0) (i := 0) (q := 0) (pc' := 56) ⟨by decide +kernel, rfl⟩ rfl rfl ?_
      refine z_iconst (i := 1) (v := 1) (pc' := 57) ⟨by decide +kernel, rfl⟩ (by decide) ?_
      refine z_iload_n (f := 1) (i := 1) (q := 1) (pc' := 58) ⟨by decide +kernel, rfl⟩ rfl rfl ?_
      refine z_iconst (i := 0) (v := 0) (pc' := 59) ⟨by decide +kernel, rfl⟩ (by decide) ?_
      refine z_iconst (i := 0) (v := 0) (pc' := 60) ⟨by decide +kernel, rfl⟩ (by decide) ?_
      refine z_iconst (i := 1) (v := 1) (pc' := 61) ⟨by decide +kernel, rfl⟩ (by decide) ?_
      refine w_invV (Z := Y_M_log) (idx := 727) (kb := 110) (As := [.int 1, .int a1, .int 0, .int 0, .int 1]) (rest := []) (pc' := 64) cl_13_727 rfl ⟨rfl, rfl⟩ ykfa_110_0 rfl ⟨⟨by decide, by decide⟩, rfl, rfl⟩ ⟨by decide +kernel, rfl⟩ rfl rfl (Nat.le_of_ble_eq_true rfl) rfl rfl ?_
      refine sF_M_log h (fun _ σ10 h => ?_)
      show Wz E Y_M_inForce 64 [(0, .ref 110), (1, .int a1)] [] σ10 K
      refine z_iconst (i := 1) (v := 1) (pc' := 65) ⟨by decide +kernel, rfl⟩ (by decide) ?_
      exact z_iret (ty := .int) rfl (by rfl) (by decide +kernel) (k _ _ h)
    · have h := h.1 (qi_ne_f rfl (by decide) h3)
      refine z_bipush (i := (-3)) (v := (-3)) (pc' := 21) ⟨by decide +kernel, rfl⟩ (by decide) ?_
      exact z_iret (ty := .int) rfl (by rfl) (by decide +kernel) (k _ _ h)
  · have h := h.1 (qi_ne_f rfl (by decide) h2)
    refine z_iconst (i := (-1)) (v := (-1)) (pc' := 9) ⟨by decide +kernel, rfl⟩ (by decide) ?_
    exact z_iret (ty := .int) rfl (by rfl) (by decide +kernel) (k _ _ h)
noncomputable def W_M_ask (a1 : Int32) (a2 : Int32) (a3 : Int32) (σ : zS) (Q : Int32 → zS → Prop) : Prop := W_M_isPerson a1 σ (fun v1 σ1 => ((Int32.toInt v1) = 0 → (Q (-1) σ1)) ∧ (¬ (Int32.toInt v1) = 0 → (∀ r3 : Int64, r3.toInt = (Int32.toInt a2) → (W_M_in r3 0 5 σ1 (fun v4 σ4 => ((Int32.toInt v4) = 0 → (Q (-1) σ4)) ∧ (¬ (Int32.toInt v4) = 0 → (W_M_isHere a3 σ4 (fun v6 σ6 => ((Int32.toInt v6) = 0 → (Q (-1) σ6)) ∧ (¬ (Int32.toInt v6) = 0 → (W_M_forceAt (σ6.1 110 0) σ6 (fun v8 σ8 => W_M_reaches a1 (σ8.1 110 0) (σ8.1 110 0) σ8 (fun _ σ9 => W_M_judge v8 a1 a2 a3 (σ9.1 110 0) σ9 (fun _ σ10 => W_M_keeps v8 σ10 (fun v11 σ11 => W_M_log 0 a1 a2 a3 v11 σ11 (fun _ σ12 => Q v11 σ12)))))))))))))))
theorem sF_M_ask {E : xV} {σ : zS} {K : zKt} {a1 : Int32} {a2 : Int32} {a3 : Int32} {Q : Int32 → zS → Prop} (h : W_M_ask a1 a2 a3 σ Q) (k : ∀ v s, Q v s → K (some (.int v)) s) : Cz E Y_M_ask [.ref 110, .int a1, .int a2, .int a3] σ K := by
  refine z_entry (by decide) (fun a => by rw [sl_len]; exact Nat.le_of_ble_eq_true rfl) rfl ?_
  unfold W_M_ask at h
  refine z_aload_n (f := 0) (i := 0) (q := 0) (pc' := 1) ⟨by decide +kernel, rfl⟩ rfl rfl ?_
  refine z_iload_n (f := 1) (i := 1) (q := 1) (pc' := 2) ⟨by decide +kernel, rfl⟩ rfl rfl ?_
  refine w_invV (Z := Y_M_isPerson) (idx := 444) (kb := 110) (As := [.int a1]) (rest := []) (pc' := 5) cl_13_444 rfl ⟨rfl, rfl⟩ ykfa_110_0 rfl ⟨⟨by decide, by decide⟩, rfl, rfl⟩ ⟨by decide +kernel, rfl⟩ rfl rfl (Nat.le_of_ble_eq_true rfl) rfl rfl ?_
  refine sF_M_isPerson h (fun v1 σ1 h => ?_)
  show Wz E Y_M_ask 5 [(0, .ref 110), (1, .int a1), (2, .int a2), (3, .int a3)] [.int v1] σ1 K
  refine z_if_eq (off := 23) (tgt := 28) (pc' := 8) ⟨by decide +kernel, by decide, rfl⟩ (fun h2 => ?_) (fun h2 => ?_)
  · have h := h.1 (qi_eq_t rfl (by decide) h2)
    refine z_iconst (i := (-1)) (v := (-1)) (pc' := 29) ⟨by decide +kernel, rfl⟩ (by decide) ?_
    exact z_iret (ty := .int) rfl (by rfl) (by decide +kernel) (k _ _ h)
  · have h := h.2 (qi_eq_f rfl (by decide) h2)
    refine z_iload_n (f := 2) (i := 2) (q := 2) (pc' := 9) ⟨by decide +kernel, rfl⟩ rfl rfl ?_
    refine z_i2l (v := (Int32.toInt64 a2)) (pc' := 10) ⟨by decide +kernel, rfl⟩ rfl ?_
    have h := h (Int32.toInt64 a2) (Int32.toInt_toInt64 _)
    generalize (Int32.toInt64 a2) = r3 at h ⊢
    refine z_lconst (i := 0) (v := 0) (pc' := 11) ⟨by decide +kernel, rfl⟩ (by decide) ?_
    refine z_ldc2 (i := 421) (v := 5) (pc' := 14) ⟨by decide +kernel, rfl⟩ k_10_175 ?_
    refine w_invS (Z := Y_M_in) (idx := 333) (As := [.long r3, .long 0, .long 5]) (rest := []) (pc' := 17) cl_13_333 rfl ⟨rfl, rfl⟩ ⟨⟨by decide, by decide⟩, rfl, rfl⟩ ⟨by decide +kernel, rfl⟩ rfl rfl (Nat.le_of_ble_eq_true rfl) rfl rfl ?_
    refine sF_M_in h (fun v4 σ4 h => ?_)
    show Wz E Y_M_ask 17 [(0, .ref 110), (1, .int a1), (2, .int a2), (3, .int a3)] [.int v4] σ4 K
    refine z_if_eq (off := 11) (tgt := 28) (pc' := 20) ⟨by decide +kernel, by decide, rfl⟩ (fun h5 => ?_) (fun h5 => ?_)
    · have h := h.1 (qi_eq_t rfl (by decide) h5)
      refine z_iconst (i := (-1)) (v := (-1)) (pc' := 29) ⟨by decide +kernel, rfl⟩ (by decide) ?_
      exact z_iret (ty := .int) rfl (by rfl) (by decide +kernel) (k _ _ h)
    · have h := h.2 (qi_eq_f rfl (by decide) h5)
      refine z_aload_n (f := 0) (i := 0) (q := 0) (pc' := 21) ⟨by decide +kernel, rfl⟩ rfl rfl ?_
      refine z_iload_n (f := 3) (i := 3) (q := 3) (pc' := 22) ⟨by decide +kernel, rfl⟩ rfl rfl ?_
      refine w_invV (Z := Y_M_isHere) (idx := 479) (kb := 110) (As := [.int a3]) (rest := []) (pc' := 25) cl_13_479 rfl ⟨rfl, rfl⟩ ykfa_110_0 rfl ⟨⟨by decide, by decide⟩, rfl, rfl⟩ ⟨by decide +kernel, rfl⟩ rfl rfl (Nat.le_of_ble_eq_true rfl) rfl rfl ?_
      refine sF_M_isHere h (fun v6 σ6 h => ?_)
      show Wz E Y_M_ask 25 [(0, .ref 110), (1, .int a1), (2, .int a2), (3, .int a3)] [.int v6] σ6 K
      refine z_if_ne (off := 5) (tgt := 30) (pc' := 28) ⟨by decide +kernel, by decide, rfl⟩ (fun h7 => ?_) (fun h7 => ?_)
      · have h := h.2 (qi_ne_t rfl (by decide) h7)
        refine z_aload_n (f := 0) (i := 0) (q := 0) (pc' := 31) ⟨by decide +kernel, rfl⟩ rfl rfl ?_
        refine z_aload_n (f := 0) (i := 0) (q := 0) (pc' := 32) ⟨by decide +kernel, rfl⟩ rfl rfl ?_
        refine w_geti (k := 110) (j := 0) (idx := 403) (pc' := 35) yfxe_13_403 ykfa_110_0 ⟨by decide +kernel, rfl⟩ ?_
        refine w_invV (Z := Y_M_forceAt) (idx := 730) (kb := 110) (As := [.int (σ6.1 110 0)]) (rest := []) (pc' := 38) cl_13_730 rfl ⟨rfl, rfl⟩ ykfa_110_0 rfl ⟨⟨by decide, by decide⟩, rfl, rfl⟩ ⟨by decide +kernel, rfl⟩ rfl rfl (Nat.le_of_ble_eq_true rfl) rfl rfl ?_
        refine sF_M_forceAt h (fun v8 σ8 h => ?_)
        show Wz E Y_M_ask 38 [(0, .ref 110), (1, .int a1), (2, .int a2), (3, .int a3)] [.int v8] σ8 K
        refine z_istore (i := 4) (pc' := 40) ⟨by decide +kernel, rfl⟩ (by decide) rfl ?_
        show Wz E Y_M_ask 40 [(4, .int v8), (0, .ref 110), (1, .int a1), (2, .int a2), (3, .int a3)] [] σ8 K
        refine z_aload_n (f := 0) (i := 0) (q := 1) (pc' := 41) ⟨by decide +kernel, rfl⟩ rfl rfl ?_
        refine z_iload_n (f := 1) (i := 1) (q := 2) (pc' := 42) ⟨by decide +kernel, rfl⟩ rfl rfl ?_
        refine z_aload_n (f := 0) (i := 0) (q := 1) (pc' := 43) ⟨by decide +kernel, rfl⟩ rfl rfl ?_
        refine w_geti (k := 110) (j := 0) (idx := 403) (pc' := 46) yfxe_13_403 ykfa_110_0 ⟨by decide +kernel, rfl⟩ ?_
        refine z_aload_n (f := 0) (i := 0) (q := 1) (pc' := 47) ⟨by decide +kernel, rfl⟩ rfl rfl ?_
        refine w_geti (k := 110) (j := 0) (idx := 403) (pc' := 50) yfxe_13_403 ykfa_110_0 ⟨by decide +kernel, rfl⟩ ?_
        refine w_invV (Z := Y_M_reaches) (idx := 440) (kb := 110) (As := [.int a1, .int (σ8.1 110 0), .int (σ8.1 110 0)]) (rest := []) (pc' := 53) cl_13_440 rfl ⟨rfl, rfl⟩ ykfa_110_0 rfl ⟨⟨by decide, by decide⟩, rfl, rfl⟩ ⟨by decide +kernel, rfl⟩ rfl rfl (Nat.le_of_ble_eq_true rfl) rfl rfl ?_
        refine sF_M_reaches h (fun _ σ9 h => ?_)
        show Wz E Y_M_ask 53 [(4, .int v8), (0, .ref 110), (1, .int a1), (2, .int a2), (3, .int a3)] [] σ9 K
        refine z_aload_n (f := 0) (i := 0) (q := 1) (pc' := 54) ⟨by decide +kernel, rfl⟩ rfl rfl ?_
        refine z_iload (i := 4) (q := 0) (pc' := 56) ⟨by decide +kernel, rfl⟩ rfl ?_
        refine z_iload_n (f := 1) (i := 1) (q := 2) (pc' := 57) ⟨by decide +kernel, rfl⟩ rfl rfl ?_
        refine z_iload_n (f := 2) (i := 2) (q := 3) (pc' := 58) ⟨by decide +kernel, rfl⟩ rfl rfl ?_
        refine z_iload_n (f := 3) (i := 3) (q := 4) (pc' := 59) ⟨by decide +kernel, rfl⟩ rfl rfl ?_
        refine z_aload_n (f := 0) (i := 0) (q := 1) (pc' := 60) ⟨by decide +kernel, rfl⟩ rfl rfl ?_
        refine w_geti (k := 110) (j := 0) (idx := 403) (pc' := 63) yfxe_13_403 ykfa_110_0 ⟨by decide +kernel, rfl⟩ ?_
        refine w_invV (Z := Y_M_judge) (idx := 733) (kb := 110) (As := [.int v8, .int a1, .int a2, .int a3, .int (σ9.1 110 0)]) (rest := []) (pc' := 66) cl_13_733 rfl ⟨rfl, rfl⟩ ykfa_110_0 rfl ⟨⟨by decide, by decide⟩, rfl, rfl⟩ ⟨by decide +kernel, rfl⟩ rfl rfl (Nat.le_of_ble_eq_true rfl) rfl rfl ?_
        refine sF_M_judge h (fun _ σ10 h => ?_)
        show Wz E Y_M_ask 66 [(4, .int v8), (0, .ref 110), (1, .int a1), (2, .int a2), (3, .int a3)] [] σ10 K
        refine z_aload_n (f := 0) (i := 0) (q := 1) (pc' := 67) ⟨by decide +kernel, rfl⟩ rfl rfl ?_
        refine z_iload (i := 4) (q := 0) (pc' := 69) ⟨by decide +kernel, rfl⟩ rfl ?_
        refine w_invV (Z := Y_M_keeps) (idx := 736) (kb := 110) (As := [.int v8]) (rest := []) (pc' := 72) cl_13_736 rfl ⟨rfl, rfl⟩ ykfa_110_0 rfl ⟨⟨by decide, by decide⟩, rfl, rfl⟩ ⟨by decide +kernel, rfl⟩ rfl rfl (Nat.le_of_ble_eq_true rfl) rfl rfl ?_
        refine sF_M_keeps h (fun v11 σ11 h => ?_)
        show Wz E Y_M_ask 72 [(4, .int v8), (0, .ref 110), (1, .int a1), (2, .int a2), (3, .int a3)] [.int v11] σ11 K
        refine z_istore (i := 5) (pc' := 74) ⟨by decide +kernel, rfl⟩ (by decide) rfl ?_
        show Wz E Y_M_ask 74 [(5, .int v11), (4, .int v8), (0, .ref 110), (1, .int a1), (2, .int a2), (3, .int a3)] [] σ11 K
        refine z_aload_n (f := 0) (i := 0) (q := 2) (pc' := 75) ⟨by decide +kernel, rfl⟩ rfl rfl ?_
        refine z_iconst (i := 0) (v := 0) (pc' := 76) ⟨by decide +kernel, rfl⟩ (by decide) ?_
        refine z_iload_n (f := 1) (i := 1) (q := 3) (pc' := 77) ⟨by decide +kernel, rfl⟩ rfl rfl ?_
        refine z_iload_n (f := 2) (i := 2) (q := 4) (pc' := 78) ⟨by decide +kernel, rfl⟩ rfl rfl ?_
        refine z_iload_n (f := 3) (i := 3) (q := 5) (pc' := 79) ⟨by decide +kernel, rfl⟩ rfl rfl ?_
        refine z_iload (i := 5) (q := 0) (pc' := 81) ⟨by decide +kernel, rfl⟩ rfl ?_
        refine w_invV (Z := Y_M_log) (idx := 727) (kb := 110) (As := [.int 0, .int a1, .int a2, .int a3, .int v11]) (rest := []) (pc' := 84) cl_13_727 rfl ⟨rfl, rfl⟩ ykfa_110_0 rfl ⟨⟨by decide, by decide⟩, rfl, rfl⟩ ⟨by decide +kernel, rfl⟩ rfl rfl (Nat.le_of_ble_eq_true rfl) rfl rfl ?_
        refine sF_M_log h (fun _ σ12 h => ?_)
        show Wz E Y_M_ask 84 [(5, .int v11), (4, .int v8), (0, .ref 110), (1, .int a1), (2, .int a2), (3, .int a3)] [] σ12 K
        refine z_iload (i := 5) (q := 0) (pc' := 86) ⟨by decide +kernel, rfl⟩ rfl ?_
        exact z_iret (ty := .int) rfl (by rfl) (by decide +kernel) (k _ _ h)
      · have h := h.1 (qi_ne_f rfl (by decide) h7)
        refine z_iconst (i := (-1)) (v := (-1)) (pc' := 29) ⟨by decide +kernel, rfl⟩ (by decide) ?_
        exact z_iret (ty := .int) rfl (by rfl) (by decide +kernel) (k _ _ h)
noncomputable def W_M_asked (a1 : Int32) (a2 : Int32) (a3 : Int32) (a4 : Int32) (a5 : Int32) (σ : zS) (Q : Int32 → zS → Prop) : Prop := W_M_isPolicy a1 σ (fun v1 σ1 => ((Int32.toInt v1) = 0 → (Q (-1) σ1)) ∧ (¬ (Int32.toInt v1) = 0 → (W_M_isPerson a2 σ1 (fun v3 σ3 => ((Int32.toInt v3) = 0 → (Q (-1) σ3)) ∧ (¬ (Int32.toInt v3) = 0 → (∀ r5 : Int64, r5.toInt = (Int32.toInt a3) → (W_M_in r5 0 5 σ3 (fun v6 σ6 => ((Int32.toInt v6) = 0 → (Q (-1) σ6)) ∧ (¬ (Int32.toInt v6) = 0 → (W_M_isHere a4 σ6 (fun v8 σ8 => ((Int32.toInt v8) = 0 → (Q (-1) σ8)) ∧ (¬ (Int32.toInt v8) = 0 → (W_M_isMoment a5 σ8 (fun v10 σ10 => ((Int32.toInt v10) = 0 → (Q (-1) σ10)) ∧ (¬ (Int32.toInt v10) = 0 → (W_M_reaches a2 a5 (σ10.1 110 0) σ10 (fun _ σ12 => W_M_judge a1 a2 a3 a4 a5 σ12 (fun _ σ13 => W_M_keeps a1 σ13 (fun v14 σ14 => Q v14 σ14)))))))))))))))))))
noncomputable def WB_M_may_54 (F54 : Int32 → Int32 → Int32 → Int32 → Int32 → Int32 → zS → (Int32 → zS → Prop) → Prop) (x1 : Int32) (x2 : Int32) (x3 : Int32) (x4 : Int32) (x5 : Int32) (x6 : Int32) (σ : zS) (Q : Int32 → zS → Prop) : Prop := ((Int32.toInt (σ.1 110 20)) ≤ (Int32.toInt x6) → (Q (-4) σ)) ∧ (¬ (Int32.toInt (σ.1 110 20)) ≤ (Int32.toInt x6) → (∃ n2 : Nat, Int32.toInt x6 = (n2 : Int) ∧ n2 < 40 ∧ (((Int32.toInt (σ.1 128 n2)) = 0 → (W_M_judge x1 x2 x3 x6 (σ.1 110 0) σ (fun _ σ5 => ((Int32.toInt (σ5.1 110 65)) = 1 → (((Int32.toInt x5) = (Int32.toInt x4) → (Q x6 σ5)) ∧ (¬ (Int32.toInt x5) = (Int32.toInt x4) → ((-2147483648 ≤ (Int32.toInt x5) + 1 ∧ (Int32.toInt x5) + 1 ≤ 2147483647) ∧ ∀ r9 : Int32, r9.toInt = (Int32.toInt x5) + 1 → ((-2147483648 ≤ (Int32.toInt x6) + 1 ∧ (Int32.toInt x6) + 1 ≤ 2147483647) ∧ ∀ r10 : Int32, r10.toInt = (Int32.toInt x6) + 1 → (F54 x1 x2 x3 x4 r9 r10 σ5 Q)))))) ∧ (¬ (Int32.toInt (σ5.1 110 65)) = 1 → ((-2147483648 ≤ (Int32.toInt x6) + 1 ∧ (Int32.toInt x6) + 1 ≤ 2147483647) ∧ ∀ r7 : Int32, r7.toInt = (Int32.toInt x6) + 1 → (F54 x1 x2 x3 x4 x5 r7 σ5 Q)))))) ∧ (¬ (Int32.toInt (σ.1 128 n2)) = 0 → ((-2147483648 ≤ (Int32.toInt x6) + 1 ∧ (Int32.toInt x6) + 1 ≤ 2147483647) ∧ ∀ r4 : Int32, r4.toInt = (Int32.toInt x6) + 1 → (F54 x1 x2 x3 x4 x5 r4 σ Q))))))
noncomputable def WL_M_may : Nat → (Int32 → Int32 → Int32 → Int32 → Int32 → Int32 → zS → (Int32 → zS → Prop) → Prop)
  | 0 => fun _ _ _ _ _ _ _ _ => False
  | n + 1 => WB_M_may_54 (WL_M_may n)
theorem wl_M_may_54 {n : Nat} {x1 : Int32} {x2 : Int32} {x3 : Int32} {x4 : Int32} {x5 : Int32} {x6 : Int32} {σ : zS} {Q : Int32 → zS → Prop} (h : WB_M_may_54 (WL_M_may n) x1 x2 x3 x4 x5 x6 σ Q) : (WL_M_may (n + 1)) x1 x2 x3 x4 x5 x6 σ Q := h
noncomputable def W_M_may (a1 : Int32) (a2 : Int32) (a3 : Int32) (a4 : Int32) (σ : zS) (Q : Int32 → zS → Prop) : Prop := W_M_isPolicy a1 σ (fun v1 σ1 => ((Int32.toInt v1) = 0 → (Q (-1) σ1)) ∧ (¬ (Int32.toInt v1) = 0 → (W_M_isPerson a2 σ1 (fun v3 σ3 => ((Int32.toInt v3) = 0 → (Q (-1) σ3)) ∧ (¬ (Int32.toInt v3) = 0 → (∀ r5 : Int64, r5.toInt = (Int32.toInt a3) → (W_M_in r5 0 5 σ3 (fun v6 σ6 => ((Int32.toInt v6) = 0 → (Q (-1) σ6)) ∧ (¬ (Int32.toInt v6) = 0 → ((0 ≤ (Int32.toInt a4) → (W_M_reaches a2 (σ6.1 110 0) (σ6.1 110 0) σ6 (fun _ σ9 => (WL_M_may fuF) a1 a2 a3 a4 0 0 σ9 Q))) ∧ (¬ 0 ≤ (Int32.toInt a4) → (Q (-1) σ6))))))))))))
noncomputable def WB_M_whoAt_6 (F6 : Int32 → Int32 → Int32 → Int32 → Int32 → Int32 → Int32 → zS → (Int32 → zS → Prop) → Prop) (x1 : Int32) (x2 : Int32) (x3 : Int32) (x4 : Int32) (x5 : Int32) (x6 : Int32) (x7 : Int32) (σ : zS) (Q : Int32 → zS → Prop) : Prop := ((Int32.toInt (σ.1 110 6)) ≤ (Int32.toInt x7) → (Q (-4) σ)) ∧ (¬ (Int32.toInt (σ.1 110 6)) ≤ (Int32.toInt x7) → (W_M_reaches x7 x4 (σ.1 110 0) σ (fun _ σ2 => W_M_judge x1 x7 x2 x3 x4 σ2 (fun _ σ3 => ((Int32.toInt (σ3.1 110 65)) = 1 → (((Int32.toInt x6) = (Int32.toInt x5) → (Q x7 σ3)) ∧ (¬ (Int32.toInt x6) = (Int32.toInt x5) → ((-2147483648 ≤ (Int32.toInt x6) + 1 ∧ (Int32.toInt x6) + 1 ≤ 2147483647) ∧ ∀ r7 : Int32, r7.toInt = (Int32.toInt x6) + 1 → ((-2147483648 ≤ (Int32.toInt x7) + 1 ∧ (Int32.toInt x7) + 1 ≤ 2147483647) ∧ ∀ r8 : Int32, r8.toInt = (Int32.toInt x7) + 1 → (F6 x1 x2 x3 x4 x5 r7 r8 σ3 Q)))))) ∧ (¬ (Int32.toInt (σ3.1 110 65)) = 1 → ((-2147483648 ≤ (Int32.toInt x7) + 1 ∧ (Int32.toInt x7) + 1 ≤ 2147483647) ∧ ∀ r5 : Int32, r5.toInt = (Int32.toInt x7) + 1 → (F6 x1 x2 x3 x4 x5 x6 r5 σ3 Q)))))))
noncomputable def WL_M_whoAt : Nat → (Int32 → Int32 → Int32 → Int32 → Int32 → Int32 → Int32 → zS → (Int32 → zS → Prop) → Prop)
  | 0 => fun _ _ _ _ _ _ _ _ _ => False
  | n + 1 => WB_M_whoAt_6 (WL_M_whoAt n)
theorem wl_M_whoAt_6 {n : Nat} {x1 : Int32} {x2 : Int32} {x3 : Int32} {x4 : Int32} {x5 : Int32} {x6 : Int32} {x7 : Int32} {σ : zS} {Q : Int32 → zS → Prop} (h : WB_M_whoAt_6 (WL_M_whoAt n) x1 x2 x3 x4 x5 x6 x7 σ Q) : (WL_M_whoAt (n + 1)) x1 x2 x3 x4 x5 x6 x7 σ Q := h
noncomputable def W_M_whoAt (a1 : Int32) (a2 : Int32) (a3 : Int32) (a4 : Int32) (a5 : Int32) (σ : zS) (Q : Int32 → zS → Prop) : Prop := (WL_M_whoAt fuF) a1 a2 a3 a4 a5 0 0 σ Q
noncomputable def W_M_who (a1 : Int32) (a2 : Int32) (a3 : Int32) (a4 : Int32) (σ : zS) (Q : Int32 → zS → Prop) : Prop := W_M_isPolicy a1 σ (fun v1 σ1 => ((Int32.toInt v1) = 0 → (Q (-1) σ1)) ∧ (¬ (Int32.toInt v1) = 0 → (∀ r3 : Int64, r3.toInt = (Int32.toInt a2) → (W_M_in r3 0 5 σ1 (fun v4 σ4 => ((Int32.toInt v4) = 0 → (Q (-1) σ4)) ∧ (¬ (Int32.toInt v4) = 0 → (W_M_isHere a3 σ4 (fun v6 σ6 => ((Int32.toInt v6) = 0 → (Q (-1) σ6)) ∧ (¬ (Int32.toInt v6) = 0 → ((0 ≤ (Int32.toInt a4) → (W_M_whoAt a1 a2 a3 (σ6.1 110 0) a4 σ6 (fun v9 σ9 => Q v9 σ9))) ∧ (¬ 0 ≤ (Int32.toInt a4) → (Q (-1) σ6))))))))))))
noncomputable def W_M_could (a1 : Int32) (a2 : Int32) (a3 : Int32) (a4 : Int32) (σ : zS) (Q : Int32 → zS → Prop) : Prop := ∀ r1 : Int64, r1.toInt = (Int32.toInt a1) → (W_M_in r1 0 5 σ (fun v2 σ2 => ((Int32.toInt v2) = 0 → (Q (-1) σ2)) ∧ (¬ (Int32.toInt v2) = 0 → (W_M_isHere a2 σ2 (fun v4 σ4 => ((Int32.toInt v4) = 0 → (Q (-1) σ4)) ∧ (¬ (Int32.toInt v4) = 0 → (∀ r6 : Int64, r6.toInt = (Int32.toInt a3) → (∀ r7 : Int64, r7.toInt = (Int32.toInt (σ4.1 110 0)) → (W_M_in r6 0 r7 σ4 (fun v8 σ8 => ((Int32.toInt v8) = 0 → (Q (-1) σ8)) ∧ (¬ (Int32.toInt v8) = 0 → ((0 ≤ (Int32.toInt a4) → (W_M_forceAt a3 σ8 (fun v11 σ11 => W_M_whoAt v11 a1 a2 a3 a4 σ11 (fun v12 σ12 => Q v12 σ12)))) ∧ (¬ 0 ≤ (Int32.toInt a4) → (Q (-1) σ8))))))))))))))
noncomputable def W_M_compare_b249 (F50 : Int32 → Int32 → Int32 → Int32 → zS → (Int32 → zS → Prop) → Prop) (F91 : Int32 → Int32 → Int32 → Int32 → zS → (Int32 → zS → Prop) → Prop) (F117 : Int32 → Int32 → Int32 → Int32 → Int32 → zS → (Int32 → zS → Prop) → Prop) (F127 : Int32 → Int32 → Int32 → Int32 → Int32 → Int32 → zS → (Int32 → zS → Prop) → Prop) (x1 : Int32) (x2 : Int32) (x3 : Int32) (x4 : Int32) (x5 : Int32) (x6 : Int32) (x7 : Int32) (y0 : Int32) (y1 : Int32) (y2 : Int32) (σ : zS) (Q : Int32 → zS → Prop) : Prop := (-2147483648 ≤ (Int32.toInt y1) + (Int32.toInt y0) ∧ (Int32.toInt y1) + (Int32.toInt y0) ≤ 2147483647) ∧ ∀ r1 : Int32, r1.toInt = (Int32.toInt y1) + (Int32.toInt y0) → (∃ n2 : Nat, Int32.toInt y2 = (n2 : Int) ∧ n2 < 6 ∧ (∀ σ3 : zS, zI σ 156 n2 r1 = σ3 → (((Int32.toInt x7) = (Int32.toInt (σ3.1 110 65)) → ((-2147483648 ≤ (Int32.toInt x6) + 1 ∧ (Int32.toInt x6) + 1 ≤ 2147483647) ∧ ∀ r5 : Int32, r5.toInt = (Int32.toInt x6) + 1 → (F127 x1 x2 x3 x4 x5 r5 σ3 Q))) ∧ (¬ (Int32.toInt x7) = (Int32.toInt (σ3.1 110 65)) → (((Int32.toInt x3) = 0 → (∀ σ9 : zS, zI σ3 156 2 x4 = σ9 → (∀ σ10 : zS, zI σ9 156 3 x5 = σ10 → (∀ σ11 : zS, zI σ10 156 4 x6 = σ11 → ((-2147483648 ≤ (Int32.toInt x3) + 1 ∧ (Int32.toInt x3) + 1 ≤ 2147483647) ∧ ∀ r12 : Int32, r12.toInt = (Int32.toInt x3) + 1 → ((-2147483648 ≤ (Int32.toInt x6) + 1 ∧ (Int32.toInt x6) + 1 ≤ 2147483647) ∧ ∀ r13 : Int32, r13.toInt = (Int32.toInt x6) + 1 → (F127 x1 x2 r12 x4 x5 r13 σ11 Q))))))) ∧ (¬ (Int32.toInt x3) = 0 → ((-2147483648 ≤ (Int32.toInt x3) + 1 ∧ (Int32.toInt x3) + 1 ≤ 2147483647) ∧ ∀ r7 : Int32, r7.toInt = (Int32.toInt x3) + 1 → ((-2147483648 ≤ (Int32.toInt x6) + 1 ∧ (Int32.toInt x6) + 1 ≤ 2147483647) ∧ ∀ r8 : Int32, r8.toInt = (Int32.toInt x6) + 1 → (F127 x1 x2 r7 x4 x5 r8 σ3 Q)))))))))
noncomputable def W_M_compare_b221 (F50 : Int32 → Int32 → Int32 → Int32 → zS → (Int32 → zS → Prop) → Prop) (F91 : Int32 → Int32 → Int32 → Int32 → zS → (Int32 → zS → Prop) → Prop) (F117 : Int32 → Int32 → Int32 → Int32 → Int32 → zS → (Int32 → zS → Prop) → Prop) (F127 : Int32 → Int32 → Int32 → Int32 → Int32 → Int32 → zS → (Int32 → zS → Prop) → Prop) (x1 : Int32) (x2 : Int32) (x3 : Int32) (x4 : Int32) (x5 : Int32) (x6 : Int32) (x7 : Int32) (y0 : Int32) (y1 : Int32) (y2 : Int32) (σ : zS) (Q : Int32 → zS → Prop) : Prop := (-2147483648 ≤ (Int32.toInt y1) + (Int32.toInt y0) ∧ (Int32.toInt y1) + (Int32.toInt y0) ≤ 2147483647) ∧ ∀ r1 : Int32, r1.toInt = (Int32.toInt y1) + (Int32.toInt y0) → (∃ n2 : Nat, Int32.toInt y2 = (n2 : Int) ∧ n2 < 6 ∧ (∀ σ3 : zS, zI σ 156 n2 r1 = σ3 → (((Int32.toInt x7) = 1 → (((Int32.toInt (σ3.1 110 65)) = 1 → (W_M_compare_b249 F50 F91 F117 F127 x1 x2 x3 x4 x5 x6 x7 0 (σ3.1 156 1) 1 σ3 Q)) ∧ (¬ (Int32.toInt (σ3.1 110 65)) = 1 → (W_M_compare_b249 F50 F91 F117 F127 x1 x2 x3 x4 x5 x6 x7 1 (σ3.1 156 1) 1 σ3 Q)))) ∧ (¬ (Int32.toInt x7) = 1 → (W_M_compare_b249 F50 F91 F117 F127 x1 x2 x3 x4 x5 x6 x7 0 (σ3.1 156 1) 1 σ3 Q)))))
noncomputable def WB_M_compare_50 (F50 : Int32 → Int32 → Int32 → Int32 → zS → (Int32 → zS → Prop) → Prop) (F91 : Int32 → Int32 → Int32 → Int32 → zS → (Int32 → zS → Prop) → Prop) (F117 : Int32 → Int32 → Int32 → Int32 → Int32 → zS → (Int32 → zS → Prop) → Prop) (F127 : Int32 → Int32 → Int32 → Int32 → Int32 → Int32 → zS → (Int32 → zS → Prop) → Prop) (x1 : Int32) (x2 : Int32) (x3 : Int32) (x4 : Int32) (σ : zS) (Q : Int32 → zS → Prop) : Prop := (6 ≤ (Int32.toInt x4) → (F91 x1 x2 x3 0 σ Q)) ∧ (¬ 6 ≤ (Int32.toInt x4) → (((Int32.toInt x4) ≤ 1 → (∃ n3 : Nat, Int32.toInt x4 = (n3 : Int) ∧ n3 < 6 ∧ (∀ σ4 : zS, zI σ 156 n3 0 = σ4 → ((-2147483648 ≤ (Int32.toInt x4) + 1 ∧ (Int32.toInt x4) + 1 ≤ 2147483647) ∧ ∀ r5 : Int32, r5.toInt = (Int32.toInt x4) + 1 → (F50 x1 x2 x3 r5 σ4 Q))))) ∧ (¬ (Int32.toInt x4) ≤ 1 → ((5 ≤ (Int32.toInt x4) → (∃ n7 : Nat, Int32.toInt x4 = (n7 : Int) ∧ n7 < 6 ∧ (∀ σ8 : zS, zI σ 156 n7 0 = σ8 → ((-2147483648 ≤ (Int32.toInt x4) + 1 ∧ (Int32.toInt x4) + 1 ≤ 2147483647) ∧ ∀ r9 : Int32, r9.toInt = (Int32.toInt x4) + 1 → (F50 x1 x2 x3 r9 σ8 Q))))) ∧ (¬ 5 ≤ (Int32.toInt x4) → (∃ n10 : Nat, Int32.toInt x4 = (n10 : Int) ∧ n10 < 6 ∧ (∀ σ11 : zS, zI σ 156 n10 (-4) = σ11 → ((-2147483648 ≤ (Int32.toInt x4) + 1 ∧ (Int32.toInt x4) + 1 ≤ 2147483647) ∧ ∀ r12 : Int32, r12.toInt = (Int32.toInt x4) + 1 → (F50 x1 x2 x3 r12 σ11 Q)))))))))
noncomputable def WB_M_compare_91 (F50 : Int32 → Int32 → Int32 → Int32 → zS → (Int32 → zS → Prop) → Prop) (F91 : Int32 → Int32 → Int32 → Int32 → zS → (Int32 → zS → Prop) → Prop) (F117 : Int32 → Int32 → Int32 → Int32 → Int32 → zS → (Int32 → zS → Prop) → Prop) (F127 : Int32 → Int32 → Int32 → Int32 → Int32 → Int32 → zS → (Int32 → zS → Prop) → Prop) (x1 : Int32) (x2 : Int32) (x3 : Int32) (x4 : Int32) (σ : zS) (Q : Int32 → zS → Prop) : Prop := ((Int32.toInt (σ.1 110 6)) ≤ (Int32.toInt x4) → (Q x3 σ)) ∧ (¬ (Int32.toInt (σ.1 110 6)) ≤ (Int32.toInt x4) → (W_M_reaches x4 (σ.1 110 0) (σ.1 110 0) σ (fun _ σ2 => F117 x1 x2 x3 x4 0 σ2 Q)))
noncomputable def WB_M_compare_117 (F50 : Int32 → Int32 → Int32 → Int32 → zS → (Int32 → zS → Prop) → Prop) (F91 : Int32 → Int32 → Int32 → Int32 → zS → (Int32 → zS → Prop) → Prop) (F117 : Int32 → Int32 → Int32 → Int32 → Int32 → zS → (Int32 → zS → Prop) → Prop) (F127 : Int32 → Int32 → Int32 → Int32 → Int32 → Int32 → zS → (Int32 → zS → Prop) → Prop) (x1 : Int32) (x2 : Int32) (x3 : Int32) (x4 : Int32) (x5 : Int32) (σ : zS) (Q : Int32 → zS → Prop) : Prop := (6 ≤ (Int32.toInt x5) → ((-2147483648 ≤ (Int32.toInt x4) + 1 ∧ (Int32.toInt x4) + 1 ≤ 2147483647) ∧ ∀ r2 : Int32, r2.toInt = (Int32.toInt x4) + 1 → (F91 x1 x2 x3 r2 σ Q))) ∧ (¬ 6 ≤ (Int32.toInt x5) → (F127 x1 x2 x3 x4 x5 0 σ Q))
noncomputable def WB_M_compare_127 (F50 : Int32 → Int32 → Int32 → Int32 → zS → (Int32 → zS → Prop) → Prop) (F91 : Int32 → Int32 → Int32 → Int32 → zS → (Int32 → zS → Prop) → Prop) (F117 : Int32 → Int32 → Int32 → Int32 → Int32 → zS → (Int32 → zS → Prop) → Prop) (F127 : Int32 → Int32 → Int32 → Int32 → Int32 → Int32 → zS → (Int32 → zS → Prop) → Prop) (x1 : Int32) (x2 : Int32) (x3 : Int32) (x4 : Int32) (x5 : Int32) (x6 : Int32) (σ : zS) (Q : Int32 → zS → Prop) : Prop := ((Int32.toInt (σ.1 110 20)) ≤ (Int32.toInt x6) → ((-2147483648 ≤ (Int32.toInt x5) + 1 ∧ (Int32.toInt x5) + 1 ≤ 2147483647) ∧ ∀ r2 : Int32, r2.toInt = (Int32.toInt x5) + 1 → (F117 x1 x2 x3 x4 r2 σ Q))) ∧ (¬ (Int32.toInt (σ.1 110 20)) ≤ (Int32.toInt x6) → (∃ n3 : Nat, Int32.toInt x6 = (n3 : Int) ∧ n3 < 40 ∧ (((Int32.toInt (σ.1 128 n3)) = 0 → (W_M_judge x1 x4 x5 x6 (σ.1 110 0) σ (fun _ σ5 => W_M_judge x2 x4 x5 x6 (σ5.1 110 0) σ5 (fun _ σ6 => (-2147483648 ≤ (Int32.toInt (σ6.1 156 5)) + 1 ∧ (Int32.toInt (σ6.1 156 5)) + 1 ≤ 2147483647) ∧ ∀ r7 : Int32, r7.toInt = (Int32.toInt (σ6.1 156 5)) + 1 → (∀ σ8 : zS, zI σ6 156 5 r7 = σ8 → (((Int32.toInt (σ8.1 110 65)) = 1 → (((Int32.toInt (σ5.1 110 65)) = 1 → (W_M_compare_b221 F50 F91 F117 F127 x1 x2 x3 x4 x5 x6 (σ5.1 110 65) 0 (σ8.1 156 0) 0 σ8 Q)) ∧ (¬ (Int32.toInt (σ5.1 110 65)) = 1 → (W_M_compare_b221 F50 F91 F117 F127 x1 x2 x3 x4 x5 x6 (σ5.1 110 65) 1 (σ8.1 156 0) 0 σ8 Q)))) ∧ (¬ (Int32.toInt (σ8.1 110 65)) = 1 → (W_M_compare_b221 F50 F91 F117 F127 x1 x2 x3 x4 x5 x6 (σ5.1 110 65) 0 (σ8.1 156 0) 0 σ8 Q)))))))) ∧ (¬ (Int32.toInt (σ.1 128 n3)) = 0 → ((-2147483648 ≤ (Int32.toInt x6) + 1 ∧ (Int32.toInt x6) + 1 ≤ 2147483647) ∧ ∀ r11 : Int32, r11.toInt = (Int32.toInt x6) + 1 → (F127 x1 x2 x3 x4 x5 r11 σ Q))))))
noncomputable def WL_M_compare : Nat → (Int32 → Int32 → Int32 → Int32 → zS → (Int32 → zS → Prop) → Prop) × (Int32 → Int32 → Int32 → Int32 → zS → (Int32 → zS → Prop) → Prop) × (Int32 → Int32 → Int32 → Int32 → Int32 → zS → (Int32 → zS → Prop) → Prop) × (Int32 → Int32 → Int32 → Int32 → Int32 → Int32 → zS → (Int32 → zS → Prop) → Prop)
  | 0 => (fun _ _ _ _ _ _ => False, (fun _ _ _ _ _ _ => False, (fun _ _ _ _ _ _ _ => False, fun _ _ _ _ _ _ _ _ => False)))
  | n + 1 => (WB_M_compare_50 (WL_M_compare n).1 (WL_M_compare n).2.1 (WL_M_compare n).2.2.1 (WL_M_compare n).2.2.2, (WB_M_compare_91 (WL_M_compare n).1 (WL_M_compare n).2.1 (WL_M_compare n).2.2.1 (WL_M_compare n).2.2.2, (WB_M_compare_117 (WL_M_compare n).1 (WL_M_compare n).2.1 (WL_M_compare n).2.2.1 (WL_M_compare n).2.2.2, WB_M_compare_127 (WL_M_compare n).1 (WL_M_compare n).2.1 (WL_M_compare n).2.2.1 (WL_M_compare n).2.2.2)))
theorem wl_M_compare_50 {n : Nat} {x1 : Int32} {x2 : Int32} {x3 : Int32} {x4 : Int32} {σ : zS} {Q : Int32 → zS → Prop} (h : WB_M_compare_50 (WL_M_compare n).1 (WL_M_compare n).2.1 (WL_M_compare n).2.2.1 (WL_M_compare n).2.2.2 x1 x2 x3 x4 σ Q) : (WL_M_compare (n + 1)).1 x1 x2 x3 x4 σ Q := h
theorem wl_M_compare_91 {n : Nat} {x1 : Int32} {x2 : Int32} {x3 : Int32} {x4 : Int32} {σ : zS} {Q : Int32 → zS → Prop} (h : WB_M_compare_91 (WL_M_compare n).1 (WL_M_compare n).2.1 (WL_M_compare n).2.2.1 (WL_M_compare n).2.2.2 x1 x2 x3 x4 σ Q) : (WL_M_compare (n + 1)).2.1 x1 x2 x3 x4 σ Q := h
theorem wl_M_compare_117 {n : Nat} {x1 : Int32} {x2 : Int32} {x3 : Int32} {x4 : Int32} {x5 : Int32} {σ : zS} {Q : Int32 → zS → Prop} (h : WB_M_compare_117 (WL_M_compare n).1 (WL_M_compare n).2.1 (WL_M_compare n).2.2.1 (WL_M_compare n).2.2.2 x1 x2 x3 x4 x5 σ Q) : (WL_M_compare (n + 1)).2.2.1 x1 x2 x3 x4 x5 σ Q := h
theorem wl_M_compare_127 {n : Nat} {x1 : Int32} {x2 : Int32} {x3 : Int32} {x4 : Int32} {x5 : Int32} {x6 : Int32} {σ : zS} {Q : Int32 → zS → Prop} (h : WB_M_compare_127 (WL_M_compare n).1 (WL_M_compare n).2.1 (WL_M_compare n).2.2.1 (WL_M_compare n).2.2.2 x1 x2 x3 x4 x5 x6 σ Q) : (WL_M_compare (n + 1)).2.2.2 x1 x2 x3 x4 x5 x6 σ Q := h
noncomputable def W_M_compare (a1 : Int32) (a2 : Int32) (σ : zS) (Q : Int32 → zS → Prop) : Prop := W_M_isPolicy a1 σ (fun v1 σ1 => ((Int32.toInt v1) = 0 → (Q (-1) σ1)) ∧ (¬ (Int32.toInt v1) = 0 → (W_M_isPolicy a2 σ1 (fun v3 σ3 => ((Int32.toInt v3) = 0 → (Q (-1) σ3)) ∧ (¬ (Int32.toInt v3) = 0 → (((Int32.toInt (σ3.1 110 75)) = 20 → (Q (-3) σ3)) ∧ (¬ (Int32.toInt (σ3.1 110 75)) = 20 → ((-2147483648 ≤ (Int32.toInt (σ3.1 110 75)) + 1 ∧ (Int32.toInt (σ3.1 110 75)) + 1 ≤ 2147483647) ∧ ∀ r6 : Int32, r6.toInt = (Int32.toInt (σ3.1 110 75)) + 1 → (∀ σ7 : zS, zI σ3 110 75 r6 = σ7 → (∀ σ8 : zS, zI σ7 110 74 1 = σ8 → ((WL_M_compare fuF).1 a1 a2 0 0 σ8 Q)))))))))))
noncomputable def W_M_compared (a1 : Int32) (σ : zS) (Q : Int32 → zS → Prop) : Prop := ∀ r1 : Int64, r1.toInt = (Int32.toInt a1) → (W_M_in r1 0 5 σ (fun v2 σ2 => ((Int32.toInt v2) = 0 → (Q (-1) σ2)) ∧ (¬ (Int32.toInt v2) = 0 → (((Int32.toInt (σ2.1 110 74)) = 0 → (Q (-2) σ2)) ∧ (¬ (Int32.toInt (σ2.1 110 74)) = 0 → (∃ n5 : Nat, Int32.toInt a1 = (n5 : Int) ∧ n5 < 6 ∧ (Q (σ2.1 156 n5) σ2)))))))
noncomputable def WB_M_decides_55 (F55 : Int32 → Int32 → Int32 → Int32 → zS → (Int32 → zS → Prop) → Prop) (F81 : Int32 → Int32 → Int32 → Int32 → Int32 → zS → (Int32 → zS → Prop) → Prop) (F91 : Int32 → Int32 → Int32 → Int32 → Int32 → Int32 → zS → (Int32 → zS → Prop) → Prop) (x1 : Int32) (x2 : Int32) (x3 : Int32) (x4 : Int32) (σ : zS) (Q : Int32 → zS → Prop) : Prop := ((Int32.toInt (σ.1 110 6)) ≤ (Int32.toInt x4) → (Q x3 σ)) ∧ (¬ (Int32.toInt (σ.1 110 6)) ≤ (Int32.toInt x4) → (W_M_reaches x4 (σ.1 110 0) (σ.1 110 0) σ (fun _ σ2 => F81 x1 x2 x3 x4 0 σ2 Q)))
noncomputable def WB_M_decides_81 (F55 : Int32 → Int32 → Int32 → Int32 → zS → (Int32 → zS → Prop) → Prop) (F81 : Int32 → Int32 → Int32 → Int32 → Int32 → zS → (Int32 → zS → Prop) → Prop) (F91 : Int32 → Int32 → Int32 → Int32 → Int32 → Int32 → zS → (Int32 → zS → Prop) → Prop) (x1 : Int32) (x2 : Int32) (x3 : Int32) (x4 : Int32) (x5 : Int32) (σ : zS) (Q : Int32 → zS → Prop) : Prop := (6 ≤ (Int32.toInt x5) → ((-2147483648 ≤ (Int32.toInt x4) + 1 ∧ (Int32.toInt x4) + 1 ≤ 2147483647) ∧ ∀ r2 : Int32, r2.toInt = (Int32.toInt x4) + 1 → (F55 x1 x2 x3 r2 σ Q))) ∧ (¬ 6 ≤ (Int32.toInt x5) → (F91 x1 x2 x3 x4 x5 0 σ Q))
noncomputable def WB_M_decides_91 (F55 : Int32 → Int32 → Int32 → Int32 → zS → (Int32 → zS → Prop) → Prop) (F81 : Int32 → Int32 → Int32 → Int32 → Int32 → zS → (Int32 → zS → Prop) → Prop) (F91 : Int32 → Int32 → Int32 → Int32 → Int32 → Int32 → zS → (Int32 → zS → Prop) → Prop) (x1 : Int32) (x2 : Int32) (x3 : Int32) (x4 : Int32) (x5 : Int32) (x6 : Int32) (σ : zS) (Q : Int32 → zS → Prop) : Prop := ((Int32.toInt (σ.1 110 20)) ≤ (Int32.toInt x6) → ((-2147483648 ≤ (Int32.toInt x5) + 1 ∧ (Int32.toInt x5) + 1 ≤ 2147483647) ∧ ∀ r2 : Int32, r2.toInt = (Int32.toInt x5) + 1 → (F81 x1 x2 x3 x4 r2 σ Q))) ∧ (¬ (Int32.toInt (σ.1 110 20)) ≤ (Int32.toInt x6) → (∃ n3 : Nat, Int32.toInt x6 = (n3 : Int) ∧ n3 < 40 ∧ (((Int32.toInt (σ.1 128 n3)) = 0 → (W_M_judge x1 x4 x5 x6 (σ.1 110 0) σ (fun _ σ6 => ((Int32.toInt (σ6.1 110 66)) = (Int32.toInt x2) → ((-2147483648 ≤ (Int32.toInt x3) + 1 ∧ (Int32.toInt x3) + 1 ≤ 2147483647) ∧ ∀ r10 : Int32, r10.toInt = (Int32.toInt x3) + 1 → ((-2147483648 ≤ (Int32.toInt x6) + 1 ∧ (Int32.toInt x6) + 1 ≤ 2147483647) ∧ ∀ r11 : Int32, r11.toInt = (Int32.toInt x6) + 1 → (F91 x1 x2 r10 x4 x5 r11 σ6 Q)))) ∧ (¬ (Int32.toInt (σ6.1 110 66)) = (Int32.toInt x2) → ((-2147483648 ≤ (Int32.toInt x3) + 0 ∧ (Int32.toInt x3) + 0 ≤ 2147483647) ∧ ∀ r8 : Int32, r8.toInt = (Int32.toInt x3) + 0 → ((-2147483648 ≤ (Int32.toInt x6) + 1 ∧ (Int32.toInt x6) + 1 ≤ 2147483647) ∧ ∀ r9 : Int32, r9.toInt = (Int32.toInt x6) + 1 → (F91 x1 x2 r8 x4 x5 r9 σ6 Q))))))) ∧ (¬ (Int32.toInt (σ.1 128 n3)) = 0 → ((-2147483648 ≤ (Int32.toInt x6) + 1 ∧ (Int32.toInt x6) + 1 ≤ 2147483647) ∧ ∀ r5 : Int32, r5.toInt = (Int32.toInt x6) + 1 → (F91 x1 x2 x3 x4 x5 r5 σ Q))))))
noncomputable def WL_M_decides : Nat → (Int32 → Int32 → Int32 → Int32 → zS → (Int32 → zS → Prop) → Prop) × (Int32 → Int32 → Int32 → Int32 → Int32 → zS → (Int32 → zS → Prop) → Prop) × (Int32 → Int32 → Int32 → Int32 → Int32 → Int32 → zS → (Int32 → zS → Prop) → Prop)
  | 0 => (fun _ _ _ _ _ _ => False, (fun _ _ _ _ _ _ _ => False, fun _ _ _ _ _ _ _ _ => False))
  | n + 1 => (WB_M_decides_55 (WL_M_decides n).1 (WL_M_decides n).2.1 (WL_M_decides n).2.2, (WB_M_decides_81 (WL_M_decides n).1 (WL_M_decides n).2.1 (WL_M_decides n).2.2, WB_M_decides_91 (WL_M_decides n).1 (WL_M_decides n).2.1 (WL_M_decides n).2.2))
theorem wl_M_decides_55 {n : Nat} {x1 : Int32} {x2 : Int32} {x3 : Int32} {x4 : Int32} {σ : zS} {Q : Int32 → zS → Prop} (h : WB_M_decides_55 (WL_M_decides n).1 (WL_M_decides n).2.1 (WL_M_decides n).2.2 x1 x2 x3 x4 σ Q) : (WL_M_decides (n + 1)).1 x1 x2 x3 x4 σ Q := h
theorem wl_M_decides_81 {n : Nat} {x1 : Int32} {x2 : Int32} {x3 : Int32} {x4 : Int32} {x5 : Int32} {σ : zS} {Q : Int32 → zS → Prop} (h : WB_M_decides_81 (WL_M_decides n).1 (WL_M_decides n).2.1 (WL_M_decides n).2.2 x1 x2 x3 x4 x5 σ Q) : (WL_M_decides (n + 1)).2.1 x1 x2 x3 x4 x5 σ Q := h
theorem wl_M_decides_91 {n : Nat} {x1 : Int32} {x2 : Int32} {x3 : Int32} {x4 : Int32} {x5 : Int32} {x6 : Int32} {σ : zS} {Q : Int32 → zS → Prop} (h : WB_M_decides_91 (WL_M_decides n).1 (WL_M_decides n).2.1 (WL_M_decides n).2.2 x1 x2 x3 x4 x5 x6 σ Q) : (WL_M_decides (n + 1)).2.2 x1 x2 x3 x4 x5 x6 σ Q := h
noncomputable def W_M_decides (a1 : Int32) (a2 : Int32) (σ : zS) (Q : Int32 → zS → Prop) : Prop := W_M_isPolicy a1 σ (fun v1 σ1 => ((Int32.toInt v1) = 0 → (Q (-1) σ1)) ∧ (¬ (Int32.toInt v1) = 0 → (∀ r3 : Int64, r3.toInt = (Int32.toInt a2) → (∃ n4 : Nat, Int32.toInt a1 = (n4 : Int) ∧ n4 < 8 ∧ ((-2147483648 ≤ (Int32.toInt (σ1.1 131 n4)) - 1 ∧ (Int32.toInt (σ1.1 131 n4)) - 1 ≤ 2147483647) ∧ ∀ r5 : Int32, r5.toInt = (Int32.toInt (σ1.1 131 n4)) - 1 → (∀ r6 : Int64, r6.toInt = (Int32.toInt r5) → (W_M_in r3 0 r6 σ1 (fun v7 σ7 => ((Int32.toInt v7) = 0 → (Q (-1) σ7)) ∧ (¬ (Int32.toInt v7) = 0 → (((Int32.toInt (σ7.1 110 75)) = 20 → (Q (-3) σ7)) ∧ (¬ (Int32.toInt (σ7.1 110 75)) = 20 → ((-2147483648 ≤ (Int32.toInt (σ7.1 110 75)) + 1 ∧ (Int32.toInt (σ7.1 110 75)) + 1 ≤ 2147483647) ∧ ∀ r10 : Int32, r10.toInt = (Int32.toInt (σ7.1 110 75)) + 1 → (∀ σ11 : zS, zI σ7 110 75 r10 = σ11 → ((WL_M_decides fuF).1 a1 a2 0 0 σ11 Q))))))))))))))
noncomputable def W_H_logged (a1 : Int32) (a2 : Int32) (σ : zS) (Q : Int32 → zS → Prop) : Prop := ((Int32.toInt a1) = (-1) → (Q (σ.1 0 7) σ)) ∧ (¬ (Int32.toInt a1) = (-1) → (W_H_isAmong a1 (σ.1 0 7) σ (fun v2 σ2 => ((Int32.toInt v2) = 0 → (Q (-1) σ2)) ∧ (¬ (Int32.toInt v2) = 0 → (W_H_isAmong a2 7 σ2 (fun v4 σ4 => ((Int32.toInt v4) = 0 → (Q (-1) σ4)) ∧ (¬ (Int32.toInt v4) = 0 → ((-2147483648 ≤ (Int32.toInt a1) * 7 ∧ (Int32.toInt a1) * 7 ≤ 2147483647) ∧ ∀ r6 : Int32, r6.toInt = (Int32.toInt a1) * 7 → ((-2147483648 ≤ (Int32.toInt r6) + (Int32.toInt a2) ∧ (Int32.toInt r6) + (Int32.toInt a2) ≤ 2147483647) ∧ ∀ r7 : Int32, r7.toInt = (Int32.toInt r6) + (Int32.toInt a2) → (∃ n8 : Nat, Int32.toInt r7 = (n8 : Int) ∧ n8 < 2100 ∧ (Q (σ4.1 4 n8) σ4)))))))))))
theorem sF_H_logged {E : xV} {σ : zS} {K : zKt} {a1 : Int32} {a2 : Int32} {Q : Int32 → zS → Prop} (h : W_H_logged a1 a2 σ Q) (k : ∀ v s, Q v s → K (some (.int v)) s) : Cz E Y_H_logged [.ref 0, .int a1, .int a2] σ K := by
  refine z_entry (by decide) (fun a => by rw [sl_len]; exact Nat.le_of_ble_eq_true rfl) rfl ?_
  unfold W_H_logged at h
  refine z_iload_n (f := 1) (i := 1) (q := 1) (pc' := 1) ⟨by decide +kernel, rfl⟩ rfl rfl ?_
  refine z_iconst (i := (-1)) (v := (-1)) (pc' := 2) ⟨by decide +kernel, rfl⟩ (by decide) ?_
  refine z_icmp_ne (off := 8) (tgt := 10) (pc' := 5) ⟨by decide +kernel, by decide, rfl⟩ (fun h1 => ?_) (fun h1 => ?_)
  · have h := h.2 (qi_ne_t rfl (by decide) h1)
    refine z_iload_n (f := 1) (i := 1) (q := 1) (pc' := 11) ⟨by decide +kernel, rfl⟩ rfl rfl ?_
    refine z_aload_n (f := 0) (i := 0) (q := 0) (pc' := 12) ⟨by decide +kernel, rfl⟩ rfl rfl ?_
    refine w_geti (k := 0) (j := 7) (idx := 556) (pc' := 15) yfxe_1_556 ykfa_0_7 ⟨by decide +kernel, rfl⟩ ?_
    refine w_invS (Z := Y_H_isAmong) (idx := 136) (As := [.int a1, .int (σ.1 0 7)]) (rest := []) (pc' := 18) cl_1_136 rfl ⟨rfl, rfl⟩ ⟨⟨by decide, by decide⟩, rfl, rfl⟩ ⟨by decide +kernel, rfl⟩ rfl rfl (Nat.le_of_ble_eq_true rfl) rfl rfl ?_
    refine sF_H_isAmong h (fun v2 σ2 h => ?_)
    show Wz E Y_H_logged 18 [(0, .ref 0), (1, .int a1), (2, .int a2)] [.int v2] σ2 K
    refine z_if_eq (off := 12) (tgt := 30) (pc' := 21) ⟨by decide +kernel, by decide, rfl⟩ (fun h3 => ?_) (fun h3 => ?_)
    · have h := h.1 (qi_eq_t rfl (by decide) h3)
      refine z_iconst (i := (-1)) (v := (-1)) (pc' := 31) ⟨by decide +kernel, rfl⟩ (by decide) ?_
      exact z_iret (ty := .int) rfl (by rfl) (by decide +kernel) (k _ _ h)
    · have h := h.2 (qi_eq_f rfl (by decide) h3)
      refine z_iload_n (f := 2) (i := 2) (q := 2) (pc' := 22) ⟨by decide +kernel, rfl⟩ rfl rfl ?_
      refine z_bipush (i := 7) (v := 7) (pc' := 24) ⟨by decide +kernel, rfl⟩ (by decide) ?_
      refine w_invS (Z := Y_H_isAmong) (idx := 136) (As := [.int a2, .int 7]) (rest := []) (pc' := 27) cl_1_136 rfl ⟨rfl, rfl⟩ ⟨⟨by decide, by decide⟩, rfl, rfl⟩ ⟨by decide +kernel, rfl⟩ rfl rfl (Nat.le_of_ble_eq_true rfl) rfl rfl ?_
      refine sF_H_isAmong h (fun v4 σ4 h => ?_)
      show Wz E Y_H_logged 27 [(0, .ref 0), (1, .int a1), (2, .int a2)] [.int v4] σ4 K
      refine z_if_ne (off := 5) (tgt := 32) (pc' := 30) ⟨by decide +kernel, by decide, rfl⟩ (fun h5 => ?_) (fun h5 => ?_)
      · have h := h.2 (qi_ne_t rfl (by decide) h5)
        refine z_aload_n (f := 0) (i := 0) (q := 0) (pc' := 33) ⟨by decide +kernel, rfl⟩ rfl rfl ?_
        refine w_getr (k := 0) (j := 6) (idx := 19) (pc' := 36) yfxe_1_19 ykfa_0_6 ⟨by decide +kernel, rfl⟩ ?_
        refine z_iload_n (f := 1) (i := 1) (q := 1) (pc' := 37) ⟨by decide +kernel, rfl⟩ rfl rfl ?_
        refine z_bipush (i := 7) (v := 7) (pc' := 39) ⟨by decide +kernel, rfl⟩ (by decide) ?_
        refine z_imul (pc' := 40) ⟨by decide +kernel, rfl⟩ ?_
        obtain ⟨hb6, h⟩ := h
        have h := h (a1 * 7) (im_ok rfl (by decide) hb6)
        generalize (a1 * 7) = r6 at h ⊢
        refine z_iload_n (f := 2) (i := 2) (q := 2) (pc' := 41) ⟨by decide +kernel, rfl⟩ rfl rfl ?_
        refine z_iadd (pc' := 42) ⟨by decide +kernel, rfl⟩ ?_
        obtain ⟨hb7, h⟩ := h
        have h := h (r6 + a2) (ia_ok rfl rfl hb7)
        generalize (r6 + a2) = r7 at h ⊢
        obtain ⟨n8, hi8, hz8, h⟩ := h
        refine w_iald (k := 4) (n := n8) (pc' := 43) ykaa_4 (hi8) (hz8) ⟨by decide +kernel, rfl⟩ ?_
        exact z_iret (ty := .int) rfl (by rfl) (by decide +kernel) (k _ _ h)
      · have h := h.1 (qi_ne_f rfl (by decide) h5)
        refine z_iconst (i := (-1)) (v := (-1)) (pc' := 31) ⟨by decide +kernel, rfl⟩ (by decide) ?_
        exact z_iret (ty := .int) rfl (by rfl) (by decide +kernel) (k _ _ h)
  · have h := h.1 (qi_ne_f rfl (by decide) h1)
    refine z_aload_n (f := 0) (i := 0) (q := 0) (pc' := 6) ⟨by decide +kernel, rfl⟩ rfl rfl ?_
    refine w_geti (k := 0) (j := 7) (idx := 556) (pc' := 9) yfxe_1_556 ykfa_0_7 ⟨by decide +kernel, rfl⟩ ?_
    exact z_iret (ty := .int) rfl (by rfl) (by decide +kernel) (k _ _ h)
noncomputable def W_H_forge (a1 : Int32) (a2 : Int32) (a3 : Int32) (σ : zS) (Q : Int32 → zS → Prop) : Prop := W_H_isAmong a1 (σ.1 0 7) σ (fun v1 σ1 => ((Int32.toInt v1) = 0 → (Q (-1) σ1)) ∧ (¬ (Int32.toInt v1) = 0 → (W_H_isAmong a2 6 σ1 (fun v3 σ3 => ((Int32.toInt v3) = 0 → (Q (-1) σ3)) ∧ (¬ (Int32.toInt v3) = 0 → ((-2147483648 ≤ (Int32.toInt a1) * 7 ∧ (Int32.toInt a1) * 7 ≤ 2147483647) ∧ ∀ r5 : Int32, r5.toInt = (Int32.toInt a1) * 7 → ((-2147483648 ≤ (Int32.toInt r5) + (Int32.toInt a2) ∧ (Int32.toInt r5) + (Int32.toInt a2) ≤ 2147483647) ∧ ∀ r6 : Int32, r6.toInt = (Int32.toInt r5) + (Int32.toInt a2) → (∃ n7 : Nat, Int32.toInt r6 = (n7 : Int) ∧ n7 < 2100 ∧ ((-2147483648 ≤ (Int32.toInt a1) * 7 ∧ (Int32.toInt a1) * 7 ≤ 2147483647) ∧ ∀ r8 : Int32, r8.toInt = (Int32.toInt a1) * 7 → ((-2147483648 ≤ (Int32.toInt r8) + (Int32.toInt a2) ∧ (Int32.toInt r8) + (Int32.toInt a2) ≤ 2147483647) ∧ ∀ r9 : Int32, r9.toInt = (Int32.toInt r8) + (Int32.toInt a2) → (∃ n10 : Nat, Int32.toInt r9 = (n10 : Int) ∧ n10 < 2100 ∧ (∀ σ11 : zS, zI σ3 4 n10 a3 = σ11 → (Q (σ3.1 4 n7) σ11)))))))))))))
theorem sF_H_forge {E : xV} {σ : zS} {K : zKt} {a1 : Int32} {a2 : Int32} {a3 : Int32} {Q : Int32 → zS → Prop} (h : W_H_forge a1 a2 a3 σ Q) (k : ∀ v s, Q v s → K (some (.int v)) s) : Cz E Y_H_forge [.ref 0, .int a1, .int a2, .int a3] σ K := by
  refine z_entry (by decide) (fun a => by rw [sl_len]; exact Nat.le_of_ble_eq_true rfl) rfl ?_
  unfold W_H_forge at h
  refine z_iload_n (f := 1) (i := 1) (q := 1) (pc' := 1) ⟨by decide +kernel, rfl⟩ rfl rfl ?_
  refine z_aload_n (f := 0) (i := 0) (q := 0) (pc' := 2) ⟨by decide +kernel, rfl⟩ rfl rfl ?_
  refine w_geti (k := 0) (j := 7) (idx := 556) (pc' := 5) yfxe_1_556 ykfa_0_7 ⟨by decide +kernel, rfl⟩ ?_
  refine w_invS (Z := Y_H_isAmong) (idx := 136) (As := [.int a1, .int (σ.1 0 7)]) (rest := []) (pc' := 8) cl_1_136 rfl ⟨rfl, rfl⟩ ⟨⟨by decide, by decide⟩, rfl, rfl⟩ ⟨by decide +kernel, rfl⟩ rfl rfl (Nat.le_of_ble_eq_true rfl) rfl rfl ?_
  refine sF_H_isAmong h (fun v1 σ1 h => ?_)
  show Wz E Y_H_forge 8 [(0, .ref 0), (1, .int a1), (2, .int a2), (3, .int a3)] [.int v1] σ1 K
  refine z_if_eq (off := 12) (tgt := 20) (pc' := 11) ⟨by decide +kernel, by decide, rfl⟩ (fun h2 => ?_) (fun h2 => ?_)
  · have h := h.1 (qi_eq_t rfl (by decide) h2)
    refine z_iconst (i := (-1)) (v := (-1)) (pc' := 21) ⟨by decide +kernel, rfl⟩ (by decide) ?_
    exact z_iret (ty := .int) rfl (by rfl) (by decide +kernel) (k _ _ h)
  · have h := h.2 (qi_eq_f rfl (by decide) h2)
    refine z_iload_n (f := 2) (i := 2) (q := 2) (pc' := 12) ⟨by decide +kernel, rfl⟩ rfl rfl ?_
    refine z_bipush (i := 6) (v := 6) (pc' := 14) ⟨by decide +kernel, rfl⟩ (by decide) ?_
    refine w_invS (Z := Y_H_isAmong) (idx := 136) (As := [.int a2, .int 6]) (rest := []) (pc' := 17) cl_1_136 rfl ⟨rfl, rfl⟩ ⟨⟨by decide, by decide⟩, rfl, rfl⟩ ⟨by decide +kernel, rfl⟩ rfl rfl (Nat.le_of_ble_eq_true rfl) rfl rfl ?_
    refine sF_H_isAmong h (fun v3 σ3 h => ?_)
    show Wz E Y_H_forge 17 [(0, .ref 0), (1, .int a1), (2, .int a2), (3, .int a3)] [.int v3] σ3 K
    refine z_if_ne (off := 5) (tgt := 22) (pc' := 20) ⟨by decide +kernel, by decide, rfl⟩ (fun h4 => ?_) (fun h4 => ?_)
    · have h := h.2 (qi_ne_t rfl (by decide) h4)
      refine z_aload_n (f := 0) (i := 0) (q := 0) (pc' := 23) ⟨by decide +kernel, rfl⟩ rfl rfl ?_
      refine w_getr (k := 0) (j := 6) (idx := 19) (pc' := 26) yfxe_1_19 ykfa_0_6 ⟨by decide +kernel, rfl⟩ ?_
      refine z_iload_n (f := 1) (i := 1) (q := 1) (pc' := 27) ⟨by decide +kernel, rfl⟩ rfl rfl ?_
      refine z_bipush (i := 7) (v := 7) (pc' := 29) ⟨by decide +kernel, rfl⟩ (by decide) ?_
      refine z_imul (pc' := 30) ⟨by decide +kernel, rfl⟩ ?_
      obtain ⟨hb5, h⟩ := h
      have h := h (a1 * 7) (im_ok rfl (by decide) hb5)
      generalize (a1 * 7) = r5 at h ⊢
      refine z_iload_n (f := 2) (i := 2) (q := 2) (pc' := 31) ⟨by decide +kernel, rfl⟩ rfl rfl ?_
      refine z_iadd (pc' := 32) ⟨by decide +kernel, rfl⟩ ?_
      obtain ⟨hb6, h⟩ := h
      have h := h (r5 + a2) (ia_ok rfl rfl hb6)
      generalize (r5 + a2) = r6 at h ⊢
      obtain ⟨n7, hi7, hz7, h⟩ := h
      refine w_iald (k := 4) (n := n7) (pc' := 33) ykaa_4 (hi7) (hz7) ⟨by decide +kernel, rfl⟩ ?_
      refine z_istore (i := 4) (pc' := 35) ⟨by decide +kernel, rfl⟩ (by decide) rfl ?_
      show Wz E Y_H_forge 35 [(4, .int (σ3.1 4 n7)), (0, .ref 0), (1, .int a1), (2, .int a2), (3, .int a3)] [] σ3 K
      refine z_aload_n (f := 0) (i := 0) (q := 1) (pc' := 36) ⟨by decide +kernel, rfl⟩ rfl rfl ?_
      refine w_getr (k := 0) (j := 6) (idx := 19) (pc' := 39) yfxe_1_19 ykfa_0_6 ⟨by decide +kernel, rfl⟩ ?_
      refine z_iload_n (f := 1) (i := 1) (q := 2) (pc' := 40) ⟨by decide +kernel, rfl⟩ rfl rfl ?_
      refine z_bipush (i := 7) (v := 7) (pc' := 42) ⟨by decide +kernel, rfl⟩ (by decide) ?_
      refine z_imul (pc' := 43) ⟨by decide +kernel, rfl⟩ ?_
      obtain ⟨hb8, h⟩ := h
      have h := h (a1 * 7) (im_ok rfl (by decide) hb8)
      generalize (a1 * 7) = r8 at h ⊢
      refine z_iload_n (f := 2) (i := 2) (q := 3) (pc' := 44) ⟨by decide +kernel, rfl⟩ rfl rfl ?_
      refine z_iadd (pc' := 45) ⟨by decide +kernel, rfl⟩ ?_
      obtain ⟨hb9, h⟩ := h
      have h := h (r8 + a2) (ia_ok rfl rfl hb9)
      generalize (r8 + a2) = r9 at h ⊢
      refine z_iload_n (f := 3) (i := 3) (q := 4) (pc' := 46) ⟨by decide +kernel, rfl⟩ rfl rfl ?_
      obtain ⟨n10, hi10, hz10, h⟩ := h
      refine w_iast (k := 4) (n := n10) (pc' := 47) ykaa_4 (hi10) (hz10) ⟨by decide +kernel, rfl⟩ ?_
      generalize hs11 : zI σ3 4 n10 a3 = σ11
      have h := h σ11 hs11
      refine z_iload (i := 4) (q := 0) (pc' := 49) ⟨by decide +kernel, rfl⟩ rfl ?_
      exact z_iret (ty := .int) rfl (by rfl) (by decide +kernel) (k _ _ h)
    · have h := h.1 (qi_ne_f rfl (by decide) h4)
      refine z_iconst (i := (-1)) (v := (-1)) (pc' := 21) ⟨by decide +kernel, rfl⟩ (by decide) ?_
      exact z_iret (ty := .int) rfl (by rfl) (by decide +kernel) (k _ _ h)
noncomputable def WB_H_wrong_2 (F2 : Int32 → zS → (Int32 → zS → Prop) → Prop) (x1 : Int32) (σ : zS) (Q : Int32 → zS → Prop) : Prop := ((Int32.toInt (σ.1 0 7)) ≤ (Int32.toInt x1) → (Q (-4) σ)) ∧ (¬ (Int32.toInt (σ.1 0 7)) ≤ (Int32.toInt x1) → ((-2147483648 ≤ (Int32.toInt x1) * 7 ∧ (Int32.toInt x1) * 7 ≤ 2147483647) ∧ ∀ r2 : Int32, r2.toInt = (Int32.toInt x1) * 7 → ((-2147483648 ≤ (Int32.toInt r2) + 6 ∧ (Int32.toInt r2) + 6 ≤ 2147483647) ∧ ∀ r3 : Int32, r3.toInt = (Int32.toInt r2) + 6 → (∃ n4 : Nat, Int32.toInt r3 = (n4 : Int) ∧ n4 < 2100 ∧ (W_H_sumAhead x1 σ (fun v5 σ5 => W_H_sumBehind v5 x1 σ5 (fun v6 σ6 => ((Int32.toInt (σ.1 4 n4)) = (Int32.toInt v6) → ((-2147483648 ≤ (Int32.toInt x1) + 1 ∧ (Int32.toInt x1) + 1 ≤ 2147483647) ∧ ∀ r8 : Int32, r8.toInt = (Int32.toInt x1) + 1 → (F2 r8 σ6 Q))) ∧ (¬ (Int32.toInt (σ.1 4 n4)) = (Int32.toInt v6) → (Q x1 σ6)))))))))
noncomputable def WL_H_wrong : Nat → (Int32 → zS → (Int32 → zS → Prop) → Prop)
  | 0 => fun _ _ _ => False
  | n + 1 => WB_H_wrong_2 (WL_H_wrong n)
theorem wl_H_wrong_2 {n : Nat} {x1 : Int32} {σ : zS} {Q : Int32 → zS → Prop} (h : WB_H_wrong_2 (WL_H_wrong n) x1 σ Q) : (WL_H_wrong (n + 1)) x1 σ Q := h
noncomputable def W_H_wrong  (σ : zS) (Q : Int32 → zS → Prop) : Prop := (WL_H_wrong fuF) 0 σ Q
noncomputable def WB_H_sealed_19 (F19 : Int32 → Int32 → Int32 → Int32 → zS → (Int32 → zS → Prop) → Prop) (x1 : Int32) (x2 : Int32) (x3 : Int32) (x4 : Int32) (σ : zS) (Q : Int32 → zS → Prop) : Prop := ((Int32.toInt x1) ≤ (Int32.toInt x4) → (((Int32.toInt x3) = (Int32.toInt x2) → (Q 1 σ)) ∧ (¬ (Int32.toInt x3) = (Int32.toInt x2) → (Q 0 σ)))) ∧ (¬ (Int32.toInt x1) ≤ (Int32.toInt x4) → (W_H_sumBehind x3 x4 σ (fun v3 σ3 => (-2147483648 ≤ (Int32.toInt x4) + 1 ∧ (Int32.toInt x4) + 1 ≤ 2147483647) ∧ ∀ r4 : Int32, r4.toInt = (Int32.toInt x4) + 1 → (F19 x1 x2 v3 r4 σ3 Q))))
noncomputable def WL_H_sealed : Nat → (Int32 → Int32 → Int32 → Int32 → zS → (Int32 → zS → Prop) → Prop)
  | 0 => fun _ _ _ _ _ _ => False
  | n + 1 => WB_H_sealed_19 (WL_H_sealed n)
theorem wl_H_sealed_19 {n : Nat} {x1 : Int32} {x2 : Int32} {x3 : Int32} {x4 : Int32} {σ : zS} {Q : Int32 → zS → Prop} (h : WB_H_sealed_19 (WL_H_sealed n) x1 x2 x3 x4 σ Q) : (WL_H_sealed (n + 1)) x1 x2 x3 x4 σ Q := h
noncomputable def W_H_sealed (a1 : Int32) (a2 : Int32) (σ : zS) (Q : Int32 → zS → Prop) : Prop := ((Int32.toInt a1) < 0 → (Q (-1) σ)) ∧ (¬ (Int32.toInt a1) < 0 → (((Int32.toInt a1) ≤ (Int32.toInt (σ.1 0 7)) → ((WL_H_sealed fuF) a1 a2 1 0 σ Q)) ∧ (¬ (Int32.toInt a1) ≤ (Int32.toInt (σ.1 0 7)) → (Q (-1) σ))))
noncomputable def W_M_logged (a1 : Int32) (a2 : Int32) (σ : zS) (Q : Int32 → zS → Prop) : Prop := ((Int32.toInt a1) = (-1) → (Q (σ.1 110 3) σ)) ∧ (¬ (Int32.toInt a1) = (-1) → (∀ r2 : Int64, r2.toInt = (Int32.toInt a1) → ((-2147483648 ≤ (Int32.toInt (σ.1 110 3)) - 1 ∧ (Int32.toInt (σ.1 110 3)) - 1 ≤ 2147483647) ∧ ∀ r3 : Int32, r3.toInt = (Int32.toInt (σ.1 110 3)) - 1 → (∀ r4 : Int64, r4.toInt = (Int32.toInt r3) → (W_M_in r2 0 r4 σ (fun v5 σ5 => ((Int32.toInt v5) = 0 → (Q (-1) σ5)) ∧ (¬ (Int32.toInt v5) = 0 → (∀ r7 : Int64, r7.toInt = (Int32.toInt a2) → (W_M_in r7 0 6 σ5 (fun v8 σ8 => ((Int32.toInt v8) = 0 → (Q (-1) σ8)) ∧ (¬ (Int32.toInt v8) = 0 → (((Int32.toInt a2) = 6 → (∃ n14 : Nat, Int32.toInt a1 = (n14 : Int) ∧ n14 < 300 ∧ (Q (σ8.1 113 n14) σ8))) ∧ (¬ (Int32.toInt a2) = 6 → ((-2147483648 ≤ 6 * (Int32.toInt a1) ∧ 6 * (Int32.toInt a1) ≤ 2147483647) ∧ ∀ r11 : Int32, r11.toInt = 6 * (Int32.toInt a1) → ((-2147483648 ≤ (Int32.toInt r11) + (Int32.toInt a2) ∧ (Int32.toInt r11) + (Int32.toInt a2) ≤ 2147483647) ∧ ∀ r12 : Int32, r12.toInt = (Int32.toInt r11) + (Int32.toInt a2) → (∃ n13 : Nat, Int32.toInt r12 = (n13 : Int) ∧ n13 < 1800 ∧ (Q (σ8.1 112 n13) σ8)))))))))))))))))
theorem sF_M_logged {E : xV} {σ : zS} {K : zKt} {a1 : Int32} {a2 : Int32} {Q : Int32 → zS → Prop} (h : W_M_logged a1 a2 σ Q) (k : ∀ v s, Q v s → K (some (.int v)) s) : Cz E Y_M_logged [.ref 110, .int a1, .int a2] σ K := by
  refine z_entry (by decide) (fun a => by rw [sl_len]; exact Nat.le_of_ble_eq_true rfl) rfl ?_
  unfold W_M_logged at h
  refine z_iload_n (f := 1) (i := 1) (q := 1) (pc' := 1) ⟨by decide +kernel, rfl⟩ rfl rfl ?_
  refine z_iconst (i := (-1)) (v := (-1)) (pc' := 2) ⟨by decide +kernel, rfl⟩ (by decide) ?_
  refine z_icmp_ne (off := 8) (tgt := 10) (pc' := 5) ⟨by decide +kernel, by decide, rfl⟩ (fun h1 => ?_) (fun h1 => ?_)
  · have h := h.2 (qi_ne_t rfl (by decide) h1)
    refine z_iload_n (f := 1) (i := 1) (q := 1) (pc' := 11) ⟨by decide +kernel, rfl⟩ rfl rfl ?_
    refine z_i2l (v := (Int32.toInt64 a1)) (pc' := 12) ⟨by decide +kernel, rfl⟩ rfl ?_
    have h := h (Int32.toInt64 a1) (Int32.toInt_toInt64 _)
    generalize (Int32.toInt64 a1) = r2 at h ⊢
    refine z_lconst (i := 0) (v := 0) (pc' := 13) ⟨by decide +kernel, rfl⟩ (by decide) ?_
    refine z_aload_n (f := 0) (i := 0) (q := 0) (pc' := 14) ⟨by decide +kernel, rfl⟩ rfl rfl ?_
    refine w_geti (k := 110) (j := 3) (idx := 413) (pc' := 17) yfxe_13_413 ykfa_110_3 ⟨by decide +kernel, rfl⟩ ?_
    refine z_iconst (i := 1) (v := 1) (pc' := 18) ⟨by decide +kernel, rfl⟩ (by decide) ?_
    refine z_isub (pc' := 19) ⟨by decide +kernel, rfl⟩ ?_
    obtain ⟨hb3, h⟩ := h
    have h := h ((σ.1 110 3) - 1) (is_ok rfl (by decide) hb3)
    generalize ((σ.1 110 3) - 1) = r3 at h ⊢
    refine z_i2l (v := (Int32.toInt64 r3)) (pc' := 20) ⟨by decide +kernel, rfl⟩ rfl ?_
    have h := h (Int32.toInt64 r3) (Int32.toInt_toInt64 _)
    generalize (Int32.toInt64 r3) = r4 at h ⊢
    refine w_invS (Z := Y_M_in) (idx := 333) (As := [.long r2, .long 0, .long r4]) (rest := []) (pc' := 23) cl_13_333 rfl ⟨rfl, rfl⟩ ⟨⟨by decide, by decide⟩, rfl, rfl⟩ ⟨by decide +kernel, rfl⟩ rfl rfl (Nat.le_of_ble_eq_true rfl) rfl rfl ?_
    refine sF_M_in h (fun v5 σ5 h => ?_)
    show Wz E Y_M_logged 23 [(0, .ref 110), (1, .int a1), (2, .int a2)] [.int v5] σ5 K
    refine z_if_eq (off := 15) (tgt := 38) (pc' := 26) ⟨by decide +kernel, by decide, rfl⟩ (fun h6 => ?_) (fun h6 => ?_)
    · have h := h.1 (qi_eq_t rfl (by decide) h6)
      refine z_iconst (i := (-1)) (v := (-1)) (pc' := 39) ⟨by decide +kernel, rfl⟩ (by decide) ?_
      exact z_iret (ty := .int) rfl (by rfl) (by decide +kernel) (k _ _ h)
    · have h := h.2 (qi_eq_f rfl (by decide) h6)
      refine z_iload_n (f := 2) (i := 2) (q := 2) (pc' := 27) ⟨by decide +kernel, rfl⟩ rfl rfl ?_
      refine z_i2l (v := (Int32.toInt64 a2)) (pc' := 28) ⟨by decide +kernel, rfl⟩ rfl ?_
      have h := h (Int32.toInt64 a2) (Int32.toInt_toInt64 _)
      generalize (Int32.toInt64 a2) = r7 at h ⊢
      refine z_lconst (i := 0) (v := 0) (pc' := 29) ⟨by decide +kernel, rfl⟩ (by decide) ?_
      refine z_ldc2 (i := 419) (v := 6) (pc' := 32) ⟨by decide +kernel, rfl⟩ k_10_170 ?_
      refine w_invS (Z := Y_M_in) (idx := 333) (As := [.long r7, .long 0, .long 6]) (rest := []) (pc' := 35) cl_13_333 rfl ⟨rfl, rfl⟩ ⟨⟨by decide, by decide⟩, rfl, rfl⟩ ⟨by decide +kernel, rfl⟩ rfl rfl (Nat.le_of_ble_eq_true rfl) rfl rfl ?_
      refine sF_M_in h (fun v8 σ8 h => ?_)
      show Wz E Y_M_logged 35 [(0, .ref 110), (1, .int a1), (2, .int a2)] [.int v8] σ8 K
      refine z_if_ne (off := 5) (tgt := 40) (pc' := 38) ⟨by decide +kernel, by decide, rfl⟩ (fun h9 => ?_) (fun h9 => ?_)
      · have h := h.2 (qi_ne_t rfl (by decide) h9)
        refine z_iload_n (f := 2) (i := 2) (q := 2) (pc' := 41) ⟨by decide +kernel, rfl⟩ rfl rfl ?_
        refine z_bipush (i := 6) (v := 6) (pc' := 43) ⟨by decide +kernel, rfl⟩ (by decide) ?_
        refine z_icmp_ne (off := 12) (tgt := 55) (pc' := 46) ⟨by decide +kernel, by decide, rfl⟩ (fun h10 => ?_) (fun h10 => ?_)
        · have h := h.2 (qi_ne_t rfl (by decide) h10)
          refine z_aload_n (f := 0) (i := 0) (q := 0) (pc' := 56) ⟨by decide +kernel, rfl⟩ rfl rfl ?_
          refine w_getr (k := 110) (j := 4) (idx := 13) (pc' := 59) yfxe_13_13 ykfa_110_4 ⟨by decide +kernel, rfl⟩ ?_
          refine z_bipush (i := 6) (v := 6) (pc' := 61) ⟨by decide +kernel, rfl⟩ (by decide) ?_
          refine z_iload_n (f := 1) (i := 1) (q := 1) (pc' := 62) ⟨by decide +kernel, rfl⟩ rfl rfl ?_
          refine z_imul (pc' := 63) ⟨by decide +kernel, rfl⟩ ?_
          obtain ⟨hb11, h⟩ := h
          have h := h (6 * a1) (im_ok (by decide) rfl hb11)
          generalize (6 * a1) = r11 at h ⊢
          refine z_iload_n (f := 2) (i := 2) (q := 2) (pc' := 64) ⟨by decide +kernel, rfl⟩ rfl rfl ?_
          refine z_iadd (pc' := 65) ⟨by decide +kernel, rfl⟩ ?_
          obtain ⟨hb12, h⟩ := h
          have h := h (r11 + a2) (ia_ok rfl rfl hb12)
          generalize (r11 + a2) = r12 at h ⊢
          obtain ⟨n13, hi13, hz13, h⟩ := h
          refine w_iald (k := 112) (n := n13) (pc' := 66) ykaa_112 (hi13) (hz13) ⟨by decide +kernel, rfl⟩ ?_
          exact z_iret (ty := .int) rfl (by rfl) (by decide +kernel) (k _ _ h)
        · have h := h.1 (qi_ne_f rfl (by decide) h10)
          refine z_aload_n (f := 0) (i := 0) (q := 0) (pc' := 47) ⟨by decide +kernel, rfl⟩ rfl rfl ?_
          refine w_getr (k := 110) (j := 5) (idx := 16) (pc' := 50) yfxe_13_16 ykfa_110_5 ⟨by decide +kernel, rfl⟩ ?_
          refine z_iload_n (f := 1) (i := 1) (q := 1) (pc' := 51) ⟨by decide +kernel, rfl⟩ rfl rfl ?_
          obtain ⟨n14, hi14, hz14, h⟩ := h
          refine w_iald (k := 113) (n := n14) (pc' := 52) ykaa_113 (hi14) (hz14) ⟨by decide +kernel, rfl⟩ ?_
          refine z_goto (off := 14) (tgt := 66) (pc' := 55) ⟨by decide +kernel, by decide, rfl⟩ ?_
          exact z_iret (ty := .int) rfl (by rfl) (by decide +kernel) (k _ _ h)
      · have h := h.1 (qi_ne_f rfl (by decide) h9)
        refine z_iconst (i := (-1)) (v := (-1)) (pc' := 39) ⟨by decide +kernel, rfl⟩ (by decide) ?_
        exact z_iret (ty := .int) rfl (by rfl) (by decide +kernel) (k _ _ h)
  · have h := h.1 (qi_ne_f rfl (by decide) h1)
    refine z_aload_n (f := 0) (i := 0) (q := 0) (pc' := 6) ⟨by decide +kernel, rfl⟩ rfl rfl ?_
    refine w_geti (k := 110) (j := 3) (idx := 413) (pc' := 9) yfxe_13_413 ykfa_110_3 ⟨by decide +kernel, rfl⟩ ?_
    exact z_iret (ty := .int) rfl (by rfl) (by decide +kernel) (k _ _ h)
noncomputable def W_M_forge (a1 : Int32) (a2 : Int32) (a3 : Int32) (σ : zS) (Q : Int32 → zS → Prop) : Prop := ∀ r1 : Int64, r1.toInt = (Int32.toInt a1) → ((-2147483648 ≤ (Int32.toInt (σ.1 110 3)) - 1 ∧ (Int32.toInt (σ.1 110 3)) - 1 ≤ 2147483647) ∧ ∀ r2 : Int32, r2.toInt = (Int32.toInt (σ.1 110 3)) - 1 → (∀ r3 : Int64, r3.toInt = (Int32.toInt r2) → (W_M_in r1 0 r3 σ (fun v4 σ4 => ((Int32.toInt v4) = 0 → (Q (-1) σ4)) ∧ (¬ (Int32.toInt v4) = 0 → (∀ r6 : Int64, r6.toInt = (Int32.toInt a2) → (W_M_in r6 0 5 σ4 (fun v7 σ7 => ((Int32.toInt v7) = 0 → (Q (-1) σ7)) ∧ (¬ (Int32.toInt v7) = 0 → ((-2147483648 ≤ 6 * (Int32.toInt a1) ∧ 6 * (Int32.toInt a1) ≤ 2147483647) ∧ ∀ r9 : Int32, r9.toInt = 6 * (Int32.toInt a1) → ((-2147483648 ≤ (Int32.toInt r9) + (Int32.toInt a2) ∧ (Int32.toInt r9) + (Int32.toInt a2) ≤ 2147483647) ∧ ∀ r10 : Int32, r10.toInt = (Int32.toInt r9) + (Int32.toInt a2) → (∃ n11 : Nat, Int32.toInt r10 = (n11 : Int) ∧ n11 < 1800 ∧ ((-2147483648 ≤ 6 * (Int32.toInt a1) ∧ 6 * (Int32.toInt a1) ≤ 2147483647) ∧ ∀ r12 : Int32, r12.toInt = 6 * (Int32.toInt a1) → ((-2147483648 ≤ (Int32.toInt r12) + (Int32.toInt a2) ∧ (Int32.toInt r12) + (Int32.toInt a2) ≤ 2147483647) ∧ ∀ r13 : Int32, r13.toInt = (Int32.toInt r12) + (Int32.toInt a2) → (∃ n14 : Nat, Int32.toInt r13 = (n14 : Int) ∧ n14 < 1800 ∧ (∀ σ15 : zS, zI σ7 112 n14 a3 = σ15 → (Q (σ7.1 112 n11) σ15)))))))))))))))))
theorem sF_M_forge {E : xV} {σ : zS} {K : zKt} {a1 : Int32} {a2 : Int32} {a3 : Int32} {Q : Int32 → zS → Prop} (h : W_M_forge a1 a2 a3 σ Q) (k : ∀ v s, Q v s → K (some (.int v)) s) : Cz E Y_M_forge [.ref 110, .int a1, .int a2, .int a3] σ K := by
  refine z_entry (by decide) (fun a => by rw [sl_len]; exact Nat.le_of_ble_eq_true rfl) rfl ?_
  unfold W_M_forge at h
  refine z_iload_n (f := 1) (i := 1) (q := 1) (pc' := 1) ⟨by decide +kernel, rfl⟩ rfl rfl ?_
  refine z_i2l (v := (Int32.toInt64 a1)) (pc' := 2) ⟨by decide +kernel, rfl⟩ rfl ?_
  have h := h (Int32.toInt64 a1) (Int32.toInt_toInt64 _)
  generalize (Int32.toInt64 a1) = r1 at h ⊢
  refine z_lconst (i := 0) (v := 0) (pc' := 3) ⟨by decide +kernel, rfl⟩ (by decide) ?_
  refine z_aload_n (f := 0) (i := 0) (q := 0) (pc' := 4) ⟨by decide +kernel, rfl⟩ rfl rfl ?_
  refine w_geti (k := 110) (j := 3) (idx := 413) (pc' := 7) yfxe_13_413 ykfa_110_3 ⟨by decide +kernel, rfl⟩ ?_
  refine z_iconst (i := 1) (v := 1) (pc' := 8) ⟨by decide +kernel, rfl⟩ (by decide) ?_
  refine z_isub (pc' := 9) ⟨by decide +kernel, rfl⟩ ?_
  obtain ⟨hb2, h⟩ := h
  have h := h ((σ.1 110 3) - 1) (is_ok rfl (by decide) hb2)
  generalize ((σ.1 110 3) - 1) = r2 at h ⊢
  refine z_i2l (v := (Int32.toInt64 r2)) (pc' := 10) ⟨by decide +kernel, rfl⟩ rfl ?_
  have h := h (Int32.toInt64 r2) (Int32.toInt_toInt64 _)
  generalize (Int32.toInt64 r2) = r3 at h ⊢
  refine w_invS (Z := Y_M_in) (idx := 333) (As := [.long r1, .long 0, .long r3]) (rest := []) (pc' := 13) cl_13_333 rfl ⟨rfl, rfl⟩ ⟨⟨by decide, by decide⟩, rfl, rfl⟩ ⟨by decide +kernel, rfl⟩ rfl rfl (Nat.le_of_ble_eq_true rfl) rfl rfl ?_
  refine sF_M_in h (fun v4 σ4 h => ?_)
  show Wz E Y_M_forge 13 [(0, .ref 110), (1, .int a1), (2, .int a2), (3, .int a3)] [.int v4] σ4 K
  refine z_if_eq (off := 15) (tgt := 28) (pc' := 16) ⟨by decide +kernel, by decide, rfl⟩ (fun h5 => ?_) (fun h5 => ?_)
  · have h := h.1 (qi_eq_t rfl (by decide) h5)
    refine z_iconst (i := (-1)) (v := (-1)) (pc' := 29) ⟨by decide +kernel, rfl⟩ (by decide) ?_
    exact z_iret (ty := .int) rfl (by rfl) (by decide +kernel) (k _ _ h)
  · have h := h.2 (qi_eq_f rfl (by decide) h5)
    refine z_iload_n (f := 2) (i := 2) (q := 2) (pc' := 17) ⟨by decide +kernel, rfl⟩ rfl rfl ?_
    refine z_i2l (v := (Int32.toInt64 a2)) (pc' := 18) ⟨by decide +kernel, rfl⟩ rfl ?_
    have h := h (Int32.toInt64 a2) (Int32.toInt_toInt64 _)
    generalize (Int32.toInt64 a2) = r6 at h ⊢
    refine z_lconst (i := 0) (v := 0) (pc' := 19) ⟨by decide +kernel, rfl⟩ (by decide) ?_
    refine z_ldc2 (i := 421) (v := 5) (pc' := 22) ⟨by decide +kernel, rfl⟩ k_10_175 ?_
    refine w_invS (Z := Y_M_in) (idx := 333) (As := [.long r6, .long 0, .long 5]) (rest := []) (pc' := 25) cl_13_333 rfl ⟨rfl, rfl⟩ ⟨⟨by decide, by decide⟩, rfl, rfl⟩ ⟨by decide +kernel, rfl⟩ rfl rfl (Nat.le_of_ble_eq_true rfl) rfl rfl ?_
    refine sF_M_in h (fun v7 σ7 h => ?_)
    show Wz E Y_M_forge 25 [(0, .ref 110), (1, .int a1), (2, .int a2), (3, .int a3)] [.int v7] σ7 K
    refine z_if_ne (off := 5) (tgt := 30) (pc' := 28) ⟨by decide +kernel, by decide, rfl⟩ (fun h8 => ?_) (fun h8 => ?_)
    · have h := h.2 (qi_ne_t rfl (by decide) h8)
      refine z_aload_n (f := 0) (i := 0) (q := 0) (pc' := 31) ⟨by decide +kernel, rfl⟩ rfl rfl ?_
      refine w_getr (k := 110) (j := 4) (idx := 13) (pc' := 34) yfxe_13_13 ykfa_110_4 ⟨by decide +kernel, rfl⟩ ?_
      refine z_bipush (i := 6) (v := 6) (pc' := 36) ⟨by decide +kernel, rfl⟩ (by decide) ?_
      refine z_iload_n (f := 1) (i := 1) (q := 1) (pc' := 37) ⟨by decide +kernel, rfl⟩ rfl rfl ?_
      refine z_imul (pc' := 38) ⟨by decide +kernel, rfl⟩ ?_
      obtain ⟨hb9, h⟩ := h
      have h := h (6 * a1) (im_ok (by decide) rfl hb9)
      generalize (6 * a1) = r9 at h ⊢
      refine z_iload_n (f := 2) (i := 2) (q := 2) (pc' := 39) ⟨by decide +kernel, rfl⟩ rfl rfl ?_
      refine z_iadd (pc' := 40) ⟨by decide +kernel, rfl⟩ ?_
      obtain ⟨hb10, h⟩ := h
      have h := h (r9 + a2) (ia_ok rfl rfl hb10)
      generalize (r9 + a2) = r10 at h ⊢
      obtain ⟨n11, hi11, hz11, h⟩ := h
      refine w_iald (k := 112) (n := n11) (pc' := 41) ykaa_112 (hi11) (hz11) ⟨by decide +kernel, rfl⟩ ?_
      refine z_istore (i := 4) (pc' := 43) ⟨by decide +kernel, rfl⟩ (by decide) rfl ?_
      show Wz E Y_M_forge 43 [(4, .int (σ7.1 112 n11)), (0, .ref 110), (1, .int a1), (2, .int a2), (3, .int a3)] [] σ7 K
      refine z_aload_n (f := 0) (i := 0) (q := 1) (pc' := 44) ⟨by decide +kernel, rfl⟩ rfl rfl ?_
      refine w_getr (k := 110) (j := 4) (idx := 13) (pc' := 47) yfxe_13_13 ykfa_110_4 ⟨by decide +kernel, rfl⟩ ?_
      refine z_bipush (i := 6) (v := 6) (pc' := 49) ⟨by decide +kernel, rfl⟩ (by decide) ?_
      refine z_iload_n (f := 1) (i := 1) (q := 2) (pc' := 50) ⟨by decide +kernel, rfl⟩ rfl rfl ?_
      refine z_imul (pc' := 51) ⟨by decide +kernel, rfl⟩ ?_
      obtain ⟨hb12, h⟩ := h
      have h := h (6 * a1) (im_ok (by decide) rfl hb12)
      generalize (6 * a1) = r12 at h ⊢
      refine z_iload_n (f := 2) (i := 2) (q := 3) (pc' := 52) ⟨by decide +kernel, rfl⟩ rfl rfl ?_
      refine z_iadd (pc' := 53) ⟨by decide +kernel, rfl⟩ ?_
      obtain ⟨hb13, h⟩ := h
      have h := h (r12 + a2) (ia_ok rfl rfl hb13)
      generalize (r12 + a2) = r13 at h ⊢
      refine z_iload_n (f := 3) (i := 3) (q := 4) (pc' := 54) ⟨by decide +kernel, rfl⟩ rfl rfl ?_
      obtain ⟨n14, hi14, hz14, h⟩ := h
      refine w_iast (k := 112) (n := n14) (pc' := 55) ykaa_112 (hi14) (hz14) ⟨by decide +kernel, rfl⟩ ?_
      generalize hs15 : zI σ7 112 n14 a3 = σ15
      have h := h σ15 hs15
      refine z_iload (i := 4) (q := 0) (pc' := 57) ⟨by decide +kernel, rfl⟩ rfl ?_
      exact z_iret (ty := .int) rfl (by rfl) (by decide +kernel) (k _ _ h)
    · have h := h.1 (qi_ne_f rfl (by decide) h8)
      refine z_iconst (i := (-1)) (v := (-1)) (pc' := 29) ⟨by decide +kernel, rfl⟩ (by decide) ?_
      exact z_iret (ty := .int) rfl (by rfl) (by decide +kernel) (k _ _ h)

end
