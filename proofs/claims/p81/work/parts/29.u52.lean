section
noncomputable def WB_M_wrong_2 (F2 : Int32 → zS → (Int32 → zS → Prop) → Prop) (x1 : Int32) (σ : zS) (Q : Int32 → zS → Prop) : Prop := ((Int32.toInt (σ.1 110 3)) ≤ (Int32.toInt x1) → (Q (-4) σ)) ∧ (¬ (Int32.toInt (σ.1 110 3)) ≤ (Int32.toInt x1) → (∃ n2 : Nat, Int32.toInt x1 = (n2 : Int) ∧ n2 < 300 ∧ (((Int32.toInt x1) = 0 → (W_M_sumOf x1 1 σ (fun v9 σ9 => ((Int32.toInt (σ.1 113 n2)) = (Int32.toInt v9) → ((-2147483648 ≤ (Int32.toInt x1) + 1 ∧ (Int32.toInt x1) + 1 ≤ 2147483647) ∧ ∀ r11 : Int32, r11.toInt = (Int32.toInt x1) + 1 → (F2 r11 σ9 Q))) ∧ (¬ (Int32.toInt (σ.1 113 n2)) = (Int32.toInt v9) → (Q x1 σ9))))) ∧ (¬ (Int32.toInt x1) = 0 → ((-2147483648 ≤ (Int32.toInt x1) - 1 ∧ (Int32.toInt x1) - 1 ≤ 2147483647) ∧ ∀ r4 : Int32, r4.toInt = (Int32.toInt x1) - 1 → (∃ n5 : Nat, Int32.toInt r4 = (n5 : Int) ∧ n5 < 300 ∧ (W_M_sumOf x1 (σ.1 113 n5) σ (fun v6 σ6 => ((Int32.toInt (σ.1 113 n2)) = (Int32.toInt v6) → ((-2147483648 ≤ (Int32.toInt x1) + 1 ∧ (Int32.toInt x1) + 1 ≤ 2147483647) ∧ ∀ r8 : Int32, r8.toInt = (Int32.toInt x1) + 1 → (F2 r8 σ6 Q))) ∧ (¬ (Int32.toInt (σ.1 113 n2)) = (Int32.toInt v6) → (Q x1 σ6))))))))))
noncomputable def WL_M_wrong : Nat → (Int32 → zS → (Int32 → zS → Prop) → Prop)
  | 0 => fun _ _ _ => False
  | n + 1 => WB_M_wrong_2 (WL_M_wrong n)
theorem wl_M_wrong_2 {n : Nat} {x1 : Int32} {σ : zS} {Q : Int32 → zS → Prop} (h : WB_M_wrong_2 (WL_M_wrong n) x1 σ Q) : (WL_M_wrong (n + 1)) x1 σ Q := h
noncomputable def W_M_wrong  (σ : zS) (Q : Int32 → zS → Prop) : Prop := (WL_M_wrong fuF) 0 σ Q
noncomputable def WB_M_sealed_21 (F21 : Int32 → Int32 → Int32 → Int32 → zS → (Int32 → zS → Prop) → Prop) (x1 : Int32) (x2 : Int32) (x3 : Int32) (x4 : Int32) (σ : zS) (Q : Int32 → zS → Prop) : Prop := ((Int32.toInt x1) ≤ (Int32.toInt x4) → (((Int32.toInt x3) = (Int32.toInt x2) → (Q 1 σ)) ∧ (¬ (Int32.toInt x3) = (Int32.toInt x2) → (Q 0 σ)))) ∧ (¬ (Int32.toInt x1) ≤ (Int32.toInt x4) → (W_M_sumOf x4 x3 σ (fun v3 σ3 => (-2147483648 ≤ (Int32.toInt x4) + 1 ∧ (Int32.toInt x4) + 1 ≤ 2147483647) ∧ ∀ r4 : Int32, r4.toInt = (Int32.toInt x4) + 1 → (F21 x1 x2 v3 r4 σ3 Q))))
noncomputable def WL_M_sealed : Nat → (Int32 → Int32 → Int32 → Int32 → zS → (Int32 → zS → Prop) → Prop)
  | 0 => fun _ _ _ _ _ _ => False
  | n + 1 => WB_M_sealed_21 (WL_M_sealed n)
theorem wl_M_sealed_21 {n : Nat} {x1 : Int32} {x2 : Int32} {x3 : Int32} {x4 : Int32} {σ : zS} {Q : Int32 → zS → Prop} (h : WB_M_sealed_21 (WL_M_sealed n) x1 x2 x3 x4 σ Q) : (WL_M_sealed (n + 1)) x1 x2 x3 x4 σ Q := h
noncomputable def W_M_sealed (a1 : Int32) (a2 : Int32) (σ : zS) (Q : Int32 → zS → Prop) : Prop := ∀ r1 : Int64, r1.toInt = (Int32.toInt a1) → (∀ r2 : Int64, r2.toInt = (Int32.toInt (σ.1 110 3)) → (W_M_in r1 0 r2 σ (fun v3 σ3 => ((Int32.toInt v3) = 0 → (Q (-1) σ3)) ∧ (¬ (Int32.toInt v3) = 0 → ((WL_M_sealed fuF) a1 a2 1 0 σ3 Q)))))
noncomputable def W_H_tick (a1 : Int32) (σ : zS) (Q : Int32 → zS → Prop) : Prop := ((Int32.toInt a1) < 0 → (Q (-1) σ)) ∧ (¬ (Int32.toInt a1) < 0 → (((Int32.toInt a1) ≤ 1000000 → ((-2147483648 ≤ (Int32.toInt (σ.1 0 2)) + (Int32.toInt a1) ∧ (Int32.toInt (σ.1 0 2)) + (Int32.toInt a1) ≤ 2147483647) ∧ ∀ r3 : Int32, r3.toInt = (Int32.toInt (σ.1 0 2)) + (Int32.toInt a1) → (((Int32.toInt r3) ≤ 1000000000 → ((-2147483648 ≤ (Int32.toInt (σ.1 0 2)) + (Int32.toInt a1) ∧ (Int32.toInt (σ.1 0 2)) + (Int32.toInt a1) ≤ 2147483647) ∧ ∀ r5 : Int32, r5.toInt = (Int32.toInt (σ.1 0 2)) + (Int32.toInt a1) → (∀ σ6 : zS, zI σ 0 2 r5 = σ6 → (Q (σ6.1 0 2) σ6)))) ∧ (¬ (Int32.toInt r3) ≤ 1000000000 → (Q (-2) σ))))) ∧ (¬ (Int32.toInt a1) ≤ 1000000 → (Q (-1) σ))))
theorem sF_H_tick {E : xV} {σ : zS} {K : zKt} {a1 : Int32} {Q : Int32 → zS → Prop} (h : W_H_tick a1 σ Q) (k : ∀ v s, Q v s → K (some (.int v)) s) : Cz E Y_H_tick [.ref 0, .int a1] σ K := by
  refine z_entry (by decide) (fun a => by rw [sl_len]; exact Nat.le_of_ble_eq_true rfl) rfl ?_
  unfold W_H_tick at h
  refine z_iload_n (f := 1) (i := 1) (q := 1) (pc' := 1) ⟨by decide +kernel, rfl⟩ rfl rfl ?_
  refine z_if_lt (off := 9) (tgt := 10) (pc' := 4) ⟨by decide +kernel, by decide, rfl⟩ (fun h1 => ?_) (fun h1 => ?_)
  · have h := h.1 (qi_lt_t rfl (by decide) h1)
    refine z_iconst (i := (-1)) (v := (-1)) (pc' := 11) ⟨by decide +kernel, rfl⟩ (by decide) ?_
    exact z_iret (ty := .int) rfl (by rfl) (by decide +kernel) (k _ _ h)
  · have h := h.2 (qi_lt_f rfl (by decide) h1)
    refine z_iload_n (f := 1) (i := 1) (q := 1) (pc' := 5) ⟨by decide +kernel, rfl⟩ rfl rfl ?_
    refine z_ldc (i := 104) (v := 1000000) (pc' := 7) ⟨by decide +kernel, rfl⟩ k_3_124 ?_
    refine z_icmp_le (off := 5) (tgt := 12) (pc' := 10) ⟨by decide +kernel, by decide, rfl⟩ (fun h2 => ?_) (fun h2 => ?_)
    · have h := h.1 (qi_le_t rfl (by decide) h2)
      refine z_aload_n (f := 0) (i := 0) (q := 0) (pc' := 13) ⟨by decide +kernel, rfl⟩ rfl rfl ?_
      refine w_geti (k := 0) (j := 2) (idx := 105) (pc' := 16) yfxe_1_105 ykfa_0_2 ⟨by decide +kernel, rfl⟩ ?_
      refine z_iload_n (f := 1) (i := 1) (q := 1) (pc' := 17) ⟨by decide +kernel, rfl⟩ rfl rfl ?_
      refine z_iadd (pc' := 18) ⟨by decide +kernel, rfl⟩ ?_
      obtain ⟨hb3, h⟩ := h
      have h := h ((σ.1 0 2) + a1) (ia_ok rfl rfl hb3)
      generalize ((σ.1 0 2) + a1) = r3 at h ⊢
      refine z_ldc (i := 108) (v := 1000000000) (pc' := 20) ⟨by decide +kernel, rfl⟩ k_3_125 ?_
      refine z_icmp_le (off := 6) (tgt := 26) (pc' := 23) ⟨by decide +kernel, by decide, rfl⟩ (fun h4 => ?_) (fun h4 => ?_)
      · have h := h.1 (qi_le_t rfl (by decide) h4)
        refine z_aload_n (f := 0) (i := 0) (q := 0) (pc' := 27) ⟨by decide +kernel, rfl⟩ rfl rfl ?_
        refine z_dupr (pc' := 28) ⟨by decide +kernel, rfl⟩ ?_
        refine w_geti (k := 0) (j := 2) (idx := 105) (pc' := 31) yfxe_1_105 ykfa_0_2 ⟨by decide +kernel, rfl⟩ ?_
        refine z_iload_n (f := 1) (i := 1) (q := 1) (pc' := 32) ⟨by decide +kernel, rfl⟩ rfl rfl ?_
        refine z_iadd (pc' := 33) ⟨by decide +kernel, rfl⟩ ?_
        obtain ⟨hb5, h⟩ := h
        have h := h ((σ.1 0 2) + a1) (ia_ok rfl rfl hb5)
        generalize ((σ.1 0 2) + a1) = r5 at h ⊢
        refine w_puti (k := 0) (j := 2) (idx := 105) (pc' := 36) yfxi_1_105 ykfa_0_2 ⟨by decide +kernel, rfl⟩ ?_
        generalize hs6 : zI σ 0 2 r5 = σ6
        have h := h σ6 hs6
        refine z_aload_n (f := 0) (i := 0) (q := 0) (pc' := 37) ⟨by decide +kernel, rfl⟩ rfl rfl ?_
        refine w_geti (k := 0) (j := 2) (idx := 105) (pc' := 40) yfxe_1_105 ykfa_0_2 ⟨by decide +kernel, rfl⟩ ?_
        exact z_iret (ty := .int) rfl (by rfl) (by decide +kernel) (k _ _ h)
      · have h := h.2 (qi_le_f rfl (by decide) h4)
        refine z_bipush (i := (-2)) (v := (-2)) (pc' := 25) ⟨by decide +kernel, rfl⟩ (by decide) ?_
        exact z_iret (ty := .int) rfl (by rfl) (by decide +kernel) (k _ _ h)
    · have h := h.2 (qi_le_f rfl (by decide) h2)
      refine z_iconst (i := (-1)) (v := (-1)) (pc' := 11) ⟨by decide +kernel, rfl⟩ (by decide) ?_
      exact z_iret (ty := .int) rfl (by rfl) (by decide +kernel) (k _ _ h)
noncomputable def W_M_tick (a1 : Int32) (σ : zS) (Q : Int32 → zS → Prop) : Prop := ∀ r1 : Int64, r1.toInt = (Int32.toInt a1) → (W_M_in r1 0 1000000 σ (fun v2 σ2 => ((Int32.toInt v2) = 0 → (Q (-1) σ2)) ∧ (¬ (Int32.toInt v2) = 0 → ((-2147483648 ≤ (Int32.toInt (σ2.1 110 0)) + (Int32.toInt a1) ∧ (Int32.toInt (σ2.1 110 0)) + (Int32.toInt a1) ≤ 2147483647) ∧ ∀ r4 : Int32, r4.toInt = (Int32.toInt (σ2.1 110 0)) + (Int32.toInt a1) → (((Int32.toInt r4) ≤ 1000000000 → ((-2147483648 ≤ (Int32.toInt (σ2.1 110 0)) + (Int32.toInt a1) ∧ (Int32.toInt (σ2.1 110 0)) + (Int32.toInt a1) ≤ 2147483647) ∧ ∀ r6 : Int32, r6.toInt = (Int32.toInt (σ2.1 110 0)) + (Int32.toInt a1) → (∀ σ7 : zS, zI σ2 110 0 r6 = σ7 → (Q (σ7.1 110 0) σ7)))) ∧ (¬ (Int32.toInt r4) ≤ 1000000000 → (Q (-2) σ2)))))))
theorem sF_M_tick {E : xV} {σ : zS} {K : zKt} {a1 : Int32} {Q : Int32 → zS → Prop} (h : W_M_tick a1 σ Q) (k : ∀ v s, Q v s → K (some (.int v)) s) : Cz E Y_M_tick [.ref 110, .int a1] σ K := by
  refine z_entry (by decide) (fun a => by rw [sl_len]; exact Nat.le_of_ble_eq_true rfl) rfl ?_
  unfold W_M_tick at h
  refine z_iload_n (f := 1) (i := 1) (q := 1) (pc' := 1) ⟨by decide +kernel, rfl⟩ rfl rfl ?_
  refine z_i2l (v := (Int32.toInt64 a1)) (pc' := 2) ⟨by decide +kernel, rfl⟩ rfl ?_
  have h := h (Int32.toInt64 a1) (Int32.toInt_toInt64 _)
  generalize (Int32.toInt64 a1) = r1 at h ⊢
  refine z_lconst (i := 0) (v := 0) (pc' := 3) ⟨by decide +kernel, rfl⟩ (by decide) ?_
  refine z_ldc2 (i := 401) (v := 1000000) (pc' := 6) ⟨by decide +kernel, rfl⟩ k_10_164 ?_
  refine w_invS (Z := Y_M_in) (idx := 333) (As := [.long r1, .long 0, .long 1000000]) (rest := []) (pc' := 9) cl_13_333 rfl ⟨rfl, rfl⟩ ⟨⟨by decide, by decide⟩, rfl, rfl⟩ ⟨by decide +kernel, rfl⟩ rfl rfl (Nat.le_of_ble_eq_true rfl) rfl rfl ?_
  refine sF_M_in h (fun v2 σ2 h => ?_)
  show Wz E Y_M_tick 9 [(0, .ref 110), (1, .int a1)] [.int v2] σ2 K
  refine z_if_ne (off := 5) (tgt := 14) (pc' := 12) ⟨by decide +kernel, by decide, rfl⟩ (fun h3 => ?_) (fun h3 => ?_)
  · have h := h.2 (qi_ne_t rfl (by decide) h3)
    refine z_aload_n (f := 0) (i := 0) (q := 0) (pc' := 15) ⟨by decide +kernel, rfl⟩ rfl rfl ?_
    refine w_geti (k := 110) (j := 0) (idx := 403) (pc' := 18) yfxe_13_403 ykfa_110_0 ⟨by decide +kernel, rfl⟩ ?_
    refine z_iload_n (f := 1) (i := 1) (q := 1) (pc' := 19) ⟨by decide +kernel, rfl⟩ rfl rfl ?_
    refine z_iadd (pc' := 20) ⟨by decide +kernel, rfl⟩ ?_
    obtain ⟨hb4, h⟩ := h
    have h := h ((σ2.1 110 0) + a1) (ia_ok rfl rfl hb4)
    generalize ((σ2.1 110 0) + a1) = r4 at h ⊢
    refine z_ldcw (i := 406) (v := 1000000000) (pc' := 23) ⟨by decide +kernel, rfl⟩ k_10_165 ?_
    refine z_icmp_le (off := 6) (tgt := 29) (pc' := 26) ⟨by decide +kernel, by decide, rfl⟩ (fun h5 => ?_) (fun h5 => ?_)
    · have h := h.1 (qi_le_t rfl (by decide) h5)
      refine z_aload_n (f := 0) (i := 0) (q := 0) (pc' := 30) ⟨by decide +kernel, rfl⟩ rfl rfl ?_
      refine z_dupr (pc' := 31) ⟨by decide +kernel, rfl⟩ ?_
      refine w_geti (k := 110) (j := 0) (idx := 403) (pc' := 34) yfxe_13_403 ykfa_110_0 ⟨by decide +kernel, rfl⟩ ?_
      refine z_iload_n (f := 1) (i := 1) (q := 1) (pc' := 35) ⟨by decide +kernel, rfl⟩ rfl rfl ?_
      refine z_iadd (pc' := 36) ⟨by decide +kernel, rfl⟩ ?_
      obtain ⟨hb6, h⟩ := h
      have h := h ((σ2.1 110 0) + a1) (ia_ok rfl rfl hb6)
      generalize ((σ2.1 110 0) + a1) = r6 at h ⊢
      refine w_puti (k := 110) (j := 0) (idx := 403) (pc' := 39) yfxi_13_403 ykfa_110_0 ⟨by decide +kernel, rfl⟩ ?_
      generalize hs7 : zI σ2 110 0 r6 = σ7
      have h := h σ7 hs7
      refine z_aload_n (f := 0) (i := 0) (q := 0) (pc' := 40) ⟨by decide +kernel, rfl⟩ rfl rfl ?_
      refine w_geti (k := 110) (j := 0) (idx := 403) (pc' := 43) yfxe_13_403 ykfa_110_0 ⟨by decide +kernel, rfl⟩ ?_
      exact z_iret (ty := .int) rfl (by rfl) (by decide +kernel) (k _ _ h)
    · have h := h.2 (qi_le_f rfl (by decide) h5)
      refine z_bipush (i := (-2)) (v := (-2)) (pc' := 28) ⟨by decide +kernel, rfl⟩ (by decide) ?_
      exact z_iret (ty := .int) rfl (by rfl) (by decide +kernel) (k _ _ h)
  · have h := h.1 (qi_ne_f rfl (by decide) h3)
    refine z_iconst (i := (-1)) (v := (-1)) (pc' := 13) ⟨by decide +kernel, rfl⟩ (by decide) ?_
    exact z_iret (ty := .int) rfl (by rfl) (by decide +kernel) (k _ _ h)

end
