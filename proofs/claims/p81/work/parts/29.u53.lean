section
noncomputable def W_Wh_slotOfPerson (a0 : Int32) (a1 : Int32) (σ : zS) (Q : Int32 → zS → Prop) : Prop := (-2147483648 ≤ (Int32.toInt a0) * 8 ∧ (Int32.toInt a0) * 8 ≤ 2147483647) ∧ ∀ r1 : Int32, r1.toInt = (Int32.toInt a0) * 8 → ((-2147483648 ≤ (Int32.toInt r1) + (Int32.toInt a1) ∧ (Int32.toInt r1) + (Int32.toInt a1) ≤ 2147483647) ∧ ∀ r2 : Int32, r2.toInt = (Int32.toInt r1) + (Int32.toInt a1) → (Q r2 σ))
theorem sF_Wh_slotOfPerson {E : xV} {σ : zS} {K : zKt} {a0 : Int32} {a1 : Int32} {Q : Int32 → zS → Prop} (h : W_Wh_slotOfPerson a0 a1 σ Q) (k : ∀ v s, Q v s → K (some (.int v)) s) : Cz E Y_Wh_slotOfPerson [.int a0, .int a1] σ K := by
  refine z_entry (by decide) (fun a => by rw [sl_len]; exact Nat.le_of_ble_eq_true rfl) rfl ?_
  unfold W_Wh_slotOfPerson at h
  refine z_iload_n (f := 0) (i := 0) (q := 0) (pc' := 1) ⟨by decide +kernel, rfl⟩ rfl rfl ?_
  refine z_bipush (i := 8) (v := 8) (pc' := 3) ⟨by decide +kernel, rfl⟩ (by decide) ?_
  refine z_imul (pc' := 4) ⟨by decide +kernel, rfl⟩ ?_
  obtain ⟨hb1, h⟩ := h
  have h := h (a0 * 8) (im_ok rfl (by decide) hb1)
  generalize (a0 * 8) = r1 at h ⊢
  refine z_iload_n (f := 1) (i := 1) (q := 1) (pc' := 5) ⟨by decide +kernel, rfl⟩ rfl rfl ?_
  refine z_iadd (pc' := 6) ⟨by decide +kernel, rfl⟩ ?_
  obtain ⟨hb2, h⟩ := h
  have h := h (r1 + a1) (ia_ok rfl rfl hb2)
  generalize (r1 + a1) = r2 at h ⊢
  exact z_iret (ty := .int) rfl (by rfl) (by decide +kernel) (k _ _ h)
noncomputable def W_Wh_slotOfThing (a0 : Int32) (a1 : Int32) (σ : zS) (Q : Int32 → zS → Prop) : Prop := (-2147483648 ≤ 20 + (Int32.toInt a0) ∧ 20 + (Int32.toInt a0) ≤ 2147483647) ∧ ∀ r1 : Int32, r1.toInt = 20 + (Int32.toInt a0) → ((-2147483648 ≤ (Int32.toInt r1) * 8 ∧ (Int32.toInt r1) * 8 ≤ 2147483647) ∧ ∀ r2 : Int32, r2.toInt = (Int32.toInt r1) * 8 → ((-2147483648 ≤ (Int32.toInt r2) + (Int32.toInt a1) ∧ (Int32.toInt r2) + (Int32.toInt a1) ≤ 2147483647) ∧ ∀ r3 : Int32, r3.toInt = (Int32.toInt r2) + (Int32.toInt a1) → (Q r3 σ)))
theorem sF_Wh_slotOfThing {E : xV} {σ : zS} {K : zKt} {a0 : Int32} {a1 : Int32} {Q : Int32 → zS → Prop} (h : W_Wh_slotOfThing a0 a1 σ Q) (k : ∀ v s, Q v s → K (some (.int v)) s) : Cz E Y_Wh_slotOfThing [.int a0, .int a1] σ K := by
  refine z_entry (by decide) (fun a => by rw [sl_len]; exact Nat.le_of_ble_eq_true rfl) rfl ?_
  unfold W_Wh_slotOfThing at h
  refine z_bipush (i := 20) (v := 20) (pc' := 2) ⟨by decide +kernel, rfl⟩ (by decide) ?_
  refine z_iload_n (f := 0) (i := 0) (q := 0) (pc' := 3) ⟨by decide +kernel, rfl⟩ rfl rfl ?_
  refine z_iadd (pc' := 4) ⟨by decide +kernel, rfl⟩ ?_
  obtain ⟨hb1, h⟩ := h
  have h := h (20 + a0) (ia_ok (by decide) rfl hb1)
  generalize (20 + a0) = r1 at h ⊢
  refine z_bipush (i := 8) (v := 8) (pc' := 6) ⟨by decide +kernel, rfl⟩ (by decide) ?_
  refine z_imul (pc' := 7) ⟨by decide +kernel, rfl⟩ ?_
  obtain ⟨hb2, h⟩ := h
  have h := h (r1 * 8) (im_ok rfl (by decide) hb2)
  generalize (r1 * 8) = r2 at h ⊢
  refine z_iload_n (f := 1) (i := 1) (q := 1) (pc' := 8) ⟨by decide +kernel, rfl⟩ rfl rfl ?_
  refine z_iadd (pc' := 9) ⟨by decide +kernel, rfl⟩ ?_
  obtain ⟨hb3, h⟩ := h
  have h := h (r2 + a1) (ia_ok rfl rfl hb3)
  generalize (r2 + a1) = r3 at h ⊢
  exact z_iret (ty := .int) rfl (by rfl) (by decide +kernel) (k _ _ h)
noncomputable def W_H_slotOf (a1 : Int32) (a2 : Int32) (σ : zS) (Q : Int32 → zS → Prop) : Prop := W_H_isAmong a2 8 σ (fun v1 σ1 => ((Int32.toInt v1) = 0 → (Q (-4) σ1)) ∧ (¬ (Int32.toInt v1) = 0 → (W_Wh_isPerson a1 σ1 (fun v3 σ3 => ((Int32.toInt v3) = 0 → (((Int32.toInt a1) < 100 → (Q (-4) σ3)) ∧ (¬ (Int32.toInt a1) < 100 → ((-2147483648 ≤ (Int32.toInt a1) - 100 ∧ (Int32.toInt a1) - 100 ≤ 2147483647) ∧ ∀ r6 : Int32, r6.toInt = (Int32.toInt a1) - 100 → (W_Th_isThere r6 σ3 (fun v7 σ7 => ((Int32.toInt v7) = 0 → (Q (-4) σ7)) ∧ (¬ (Int32.toInt v7) = 0 → ((-2147483648 ≤ (Int32.toInt a1) - 100 ∧ (Int32.toInt a1) - 100 ≤ 2147483647) ∧ ∀ r9 : Int32, r9.toInt = (Int32.toInt a1) - 100 → (W_Wh_slotOfThing r9 a2 σ7 (fun v10 σ10 => Q v10 σ10)))))))))) ∧ (¬ (Int32.toInt v3) = 0 → (W_Wh_slotOfPerson a1 a2 σ3 (fun v11 σ11 => Q v11 σ11)))))))
theorem sF_H_slotOf {E : xV} {σ : zS} {K : zKt} {a1 : Int32} {a2 : Int32} {Q : Int32 → zS → Prop} (h : W_H_slotOf a1 a2 σ Q) (k : ∀ v s, Q v s → K (some (.int v)) s) : Cz E Y_H_slotOf [.ref 0, .int a1, .int a2] σ K := by
  refine z_entry (by decide) (fun a => by rw [sl_len]; exact Nat.le_of_ble_eq_true rfl) rfl ?_
  unfold W_H_slotOf at h
  refine z_iload_n (f := 2) (i := 2) (q := 2) (pc' := 1) ⟨by decide +kernel, rfl⟩ rfl rfl ?_
  refine z_bipush (i := 8) (v := 8) (pc' := 3) ⟨by decide +kernel, rfl⟩ (by decide) ?_
  refine w_invS (Z := Y_H_isAmong) (idx := 136) (As := [.int a2, .int 8]) (rest := []) (pc' := 6) cl_1_136 rfl ⟨rfl, rfl⟩ ⟨⟨by decide, by decide⟩, rfl, rfl⟩ ⟨by decide +kernel, rfl⟩ rfl rfl (Nat.le_of_ble_eq_true rfl) rfl rfl ?_
  refine sF_H_isAmong h (fun v1 σ1 h => ?_)
  show Wz E Y_H_slotOf 6 [(0, .ref 0), (1, .int a1), (2, .int a2)] [.int v1] σ1 K
  refine z_if_ne (off := 6) (tgt := 12) (pc' := 9) ⟨by decide +kernel, by decide, rfl⟩ (fun h2 => ?_) (fun h2 => ?_)
  · have h := h.2 (qi_ne_t rfl (by decide) h2)
    refine z_aload_n (f := 0) (i := 0) (q := 0) (pc' := 13) ⟨by decide +kernel, rfl⟩ rfl rfl ?_
    refine w_getr (k := 0) (j := 8) (idx := 25) (pc' := 16) yfxe_1_25 ykfa_0_8 ⟨by decide +kernel, rfl⟩ ?_
    refine z_iload_n (f := 1) (i := 1) (q := 1) (pc' := 17) ⟨by decide +kernel, rfl⟩ rfl rfl ?_
    refine w_invV (Z := Y_Wh_isPerson) (idx := 146) (kb := 5) (As := [.int a1]) (rest := []) (pc' := 20) cl_1_146 rfl ⟨rfl, rfl⟩ ykfa_5_0 rfl ⟨⟨by decide, by decide⟩, rfl, rfl⟩ ⟨by decide +kernel, rfl⟩ rfl rfl (Nat.le_of_ble_eq_true rfl) rfl rfl ?_
    refine sF_Wh_isPerson h (fun v3 σ3 h => ?_)
    show Wz E Y_H_slotOf 20 [(0, .ref 0), (1, .int a1), (2, .int a2)] [.int v3] σ3 K
    refine z_if_eq (off := 9) (tgt := 29) (pc' := 23) ⟨by decide +kernel, by decide, rfl⟩ (fun h4 => ?_) (fun h4 => ?_)
    · have h := h.1 (qi_eq_t rfl (by decide) h4)
      refine z_iload_n (f := 1) (i := 1) (q := 1) (pc' := 30) ⟨by decide +kernel, rfl⟩ rfl rfl ?_
      refine z_bipush (i := 100) (v := 100) (pc' := 32) ⟨by decide +kernel, rfl⟩ (by decide) ?_
      refine z_icmp_lt (off := 26) (tgt := 58) (pc' := 35) ⟨by decide +kernel, by decide, rfl⟩ (fun h5 => ?_) (fun h5 => ?_)
      · have h := h.1 (qi_lt_t rfl (by decide) h5)
        refine z_bipush (i := (-4)) (v := (-4)) (pc' := 60) ⟨by decide +kernel, rfl⟩ (by decide) ?_
        exact z_iret (ty := .int) rfl (by rfl) (by decide +kernel) (k _ _ h)
      · have h := h.2 (qi_lt_f rfl (by decide) h5)
        refine z_aload_n (f := 0) (i := 0) (q := 0) (pc' := 36) ⟨by decide +kernel, rfl⟩ rfl rfl ?_
        refine w_getr (k := 0) (j := 9) (idx := 32) (pc' := 39) yfxe_1_32 ykfa_0_9 ⟨by decide +kernel, rfl⟩ ?_
        refine z_iload_n (f := 1) (i := 1) (q := 1) (pc' := 40) ⟨by decide +kernel, rfl⟩ rfl rfl ?_
        refine z_bipush (i := 100) (v := 100) (pc' := 42) ⟨by decide +kernel, rfl⟩ (by decide) ?_
        refine z_isub (pc' := 43) ⟨by decide +kernel, rfl⟩ ?_
        obtain ⟨hb6, h⟩ := h
        have h := h (a1 - 100) (is_ok rfl (by decide) hb6)
        generalize (a1 - 100) = r6 at h ⊢
        refine w_invV (Z := Y_Th_isThere) (idx := 160) (kb := 10) (As := [.int r6]) (rest := []) (pc' := 46) cl_1_160 rfl ⟨rfl, rfl⟩ ykfa_10_0 rfl ⟨⟨by decide, by decide⟩, rfl, rfl⟩ ⟨by decide +kernel, rfl⟩ rfl rfl (Nat.le_of_ble_eq_true rfl) rfl rfl ?_
        refine sF_Th_isThere h (fun v7 σ7 h => ?_)
        show Wz E Y_H_slotOf 46 [(0, .ref 0), (1, .int a1), (2, .int a2)] [.int v7] σ7 K
        refine z_if_eq (off := 12) (tgt := 58) (pc' := 49) ⟨by decide +kernel, by decide, rfl⟩ (fun h8 => ?_) (fun h8 => ?_)
        · have h := h.1 (qi_eq_t rfl (by decide) h8)
          refine z_bipush (i := (-4)) (v := (-4)) (pc' := 60) ⟨by decide +kernel, rfl⟩ (by decide) ?_
          exact z_iret (ty := .int) rfl (by rfl) (by decide +kernel) (k _ _ h)
        · have h := h.2 (qi_eq_f rfl (by decide) h8)
          refine z_iload_n (f := 1) (i := 1) (q := 1) (pc' := 50) ⟨by decide +kernel, rfl⟩ rfl rfl ?_
          refine z_bipush (i := 100) (v := 100) (pc' := 52) ⟨by decide +kernel, rfl⟩ (by decide) ?_
          refine z_isub (pc' := 53) ⟨by decide +kernel, rfl⟩ ?_
          obtain ⟨hb9, h⟩ := h
          have h := h (a1 - 100) (is_ok rfl (by decide) hb9)
          generalize (a1 - 100) = r9 at h ⊢
          refine z_iload_n (f := 2) (i := 2) (q := 2) (pc' := 54) ⟨by decide +kernel, rfl⟩ rfl rfl ?_
          refine w_invS (Z := Y_Wh_slotOfThing) (idx := 163) (As := [.int r9, .int a2]) (rest := []) (pc' := 57) cl_1_163 rfl ⟨rfl, rfl⟩ ⟨⟨by decide, by decide⟩, rfl, rfl⟩ ⟨by decide +kernel, rfl⟩ rfl rfl (Nat.le_of_ble_eq_true rfl) rfl rfl ?_
          refine sF_Wh_slotOfThing h (fun v10 σ10 h => ?_)
          show Wz E Y_H_slotOf 57 [(0, .ref 0), (1, .int a1), (2, .int a2)] [.int v10] σ10 K
          exact z_iret (ty := .int) rfl (by rfl) (by decide +kernel) (k _ _ h)
    · have h := h.2 (qi_eq_f rfl (by decide) h4)
      refine z_iload_n (f := 1) (i := 1) (q := 1) (pc' := 24) ⟨by decide +kernel, rfl⟩ rfl rfl ?_
      refine z_iload_n (f := 2) (i := 2) (q := 2) (pc' := 25) ⟨by decide +kernel, rfl⟩ rfl rfl ?_
      refine w_invS (Z := Y_Wh_slotOfPerson) (idx := 156) (As := [.int a1, .int a2]) (rest := []) (pc' := 28) cl_1_156 rfl ⟨rfl, rfl⟩ ⟨⟨by decide, by decide⟩, rfl, rfl⟩ ⟨by decide +kernel, rfl⟩ rfl rfl (Nat.le_of_ble_eq_true rfl) rfl rfl ?_
      refine sF_Wh_slotOfPerson h (fun v11 σ11 h => ?_)
      show Wz E Y_H_slotOf 28 [(0, .ref 0), (1, .int a1), (2, .int a2)] [.int v11] σ11 K
      exact z_iret (ty := .int) rfl (by rfl) (by decide +kernel) (k _ _ h)
  · have h := h.1 (qi_ne_f rfl (by decide) h2)
    refine z_bipush (i := (-4)) (v := (-4)) (pc' := 11) ⟨by decide +kernel, rfl⟩ (by decide) ?_
    exact z_iret (ty := .int) rfl (by rfl) (by decide +kernel) (k _ _ h)
noncomputable def WB_Wh_setFeature_17 (F17 : Int32 → Int32 → zS → (Unit → zS → Prop) → Prop) (x1 : Int32) (x4 : Int32) (σ : zS) (Q : Unit → zS → Prop) : Prop := (20 ≤ (Int32.toInt x4) → (Q () σ)) ∧ (¬ 20 ≤ (Int32.toInt x4) → ((-2147483648 ≤ (Int32.toInt x1) * 20 ∧ (Int32.toInt x1) * 20 ≤ 2147483647) ∧ ∀ r2 : Int32, r2.toInt = (Int32.toInt x1) * 20 → ((-2147483648 ≤ (Int32.toInt r2) + (Int32.toInt x4) ∧ (Int32.toInt r2) + (Int32.toInt x4) ≤ 2147483647) ∧ ∀ r3 : Int32, r3.toInt = (Int32.toInt r2) + (Int32.toInt x4) → (∃ n4 : Nat, Int32.toInt r3 = (n4 : Int) ∧ n4 < 9600 ∧ (∀ σ5 : zS, zJ σ 9 n4 0 = σ5 → ((-2147483648 ≤ (Int32.toInt x4) + 1 ∧ (Int32.toInt x4) + 1 ≤ 2147483647) ∧ ∀ r6 : Int32, r6.toInt = (Int32.toInt x4) + 1 → (F17 x1 r6 σ5 Q)))))))
theorem sh_Wh_setFeature_17 {E : xV} {σ : zS} {K : zKt} {F17 : Int32 → Int32 → zS → (Unit → zS → Prop) → Prop} {x1 : Int32} {x4 : Int32} {Q : Unit → zS → Prop} (f17 : ∀ (x1 : Int32) (x4 : Int32) (σ : zS), F17 x1 x4 σ Q → Wz E Y_Wh_setFeature 17 [(0, .ref 5), (1, .int x1), (4, .int x4)] [] σ K) (k : ∀ v s, Q v s → K none s) (h : WB_Wh_setFeature_17 F17 x1 x4 σ Q) : Wz E Y_Wh_setFeature 17 [(0, .ref 5), (1, .int x1), (4, .int x4)] [] σ K := by
  unfold WB_Wh_setFeature_17 at h
  refine z_iload (i := 4) (q := 2) (pc' := 19) ⟨by decide +kernel, rfl⟩ rfl ?_
  refine z_bipush (i := 20) (v := 20) (pc' := 21) ⟨by decide +kernel, rfl⟩ (by decide) ?_
  refine z_icmp_ge (off := 22) (tgt := 43) (pc' := 24) ⟨by decide +kernel, by decide, rfl⟩ (fun h1 => ?_) (fun h1 => ?_)
  · have h := h.1 (qi_ge_t rfl (by decide) h1)
    exact z_vret rfl (by decide +kernel) (k _ _ h)
  · have h := h.2 (qi_ge_f rfl (by decide) h1)
    refine z_aload_n (f := 0) (i := 0) (q := 0) (pc' := 25) ⟨by decide +kernel, rfl⟩ rfl rfl ?_
    refine w_getr (k := 5) (j := 6) (idx := 23) (pc' := 28) yfxe_11_23 ykfa_5_6 ⟨by decide +kernel, rfl⟩ ?_
    refine z_iload_n (f := 1) (i := 1) (q := 1) (pc' := 29) ⟨by decide +kernel, rfl⟩ rfl rfl ?_
    refine z_bipush (i := 20) (v := 20) (pc' := 31) ⟨by decide +kernel, rfl⟩ (by decide) ?_
    refine z_imul (pc' := 32) ⟨by decide +kernel, rfl⟩ ?_
    obtain ⟨hb2, h⟩ := h
    have h := h (x1 * 20) (im_ok rfl (by decide) hb2)
    generalize (x1 * 20) = r2 at h ⊢
    refine z_iload (i := 4) (q := 2) (pc' := 34) ⟨by decide +kernel, rfl⟩ rfl ?_
    refine z_iadd (pc' := 35) ⟨by decide +kernel, rfl⟩ ?_
    obtain ⟨hb3, h⟩ := h
    have h := h (r2 + x4) (ia_ok rfl rfl hb3)
    generalize (r2 + x4) = r3 at h ⊢
    refine z_lconst (i := 0) (v := 0) (pc' := 36) ⟨by decide +kernel, rfl⟩ (by decide) ?_
    obtain ⟨n4, hi4, hz4, h⟩ := h
    refine w_last (k := 9) (n := n4) (pc' := 37) ykaa_9 (hi4) (hz4) ⟨by decide +kernel, rfl⟩ ?_
    generalize hs5 : zJ σ 9 n4 0 = σ5
    have h := h σ5 hs5
    refine z_iinc (i := 4) (z := 1) (q := 2) (pc' := 40) ⟨by decide +kernel, rfl⟩ rfl rfl (by decide) rfl ?_
    show Wz E Y_Wh_setFeature 40 [(4, .int (x4 + Int32.ofInt 1)), (0, .ref 5), (1, .int x1)] [] σ5 K
    obtain ⟨hb6, h⟩ := h
    have h := h (x4 + Int32.ofInt 1) (ia_ok rfl (by decide) hb6)
    generalize (x4 + Int32.ofInt 1) = r6 at h ⊢
    refine z_goto (off := (-23)) (tgt := 17) (pc' := 43) ⟨by decide +kernel, by decide, rfl⟩ ?_
    refine z_sub [1, 2, 0] rfl ?_
    exact f17 _ _ _ h
noncomputable def WL_Wh_setFeature : Nat → (Int32 → Int32 → zS → (Unit → zS → Prop) → Prop)
  | 0 => fun _ _ _ _ => False
  | n + 1 => WB_Wh_setFeature_17 (WL_Wh_setFeature n)
theorem wl_Wh_setFeature_17 {n : Nat} {x1 : Int32} {x4 : Int32} {σ : zS} {Q : Unit → zS → Prop} (h : WB_Wh_setFeature_17 (WL_Wh_setFeature n) x1 x4 σ Q) : (WL_Wh_setFeature (n + 1)) x1 x4 σ Q := h
theorem sl_Wh_setFeature {E : xV} {K : zKt} {Q : Unit → zS → Prop} (k : ∀ v s, Q v s → K none s) : ∀ n, (∀ (x1 : Int32) (x4 : Int32) (σ : zS), (WL_Wh_setFeature n) x1 x4 σ Q → Wz E Y_Wh_setFeature 17 [(0, .ref 5), (1, .int x1), (4, .int x4)] [] σ K)
  | 0 => fun _ _ _ h => h.elim
  | n + 1 => by
    have i := sl_Wh_setFeature (E := E)  k n
    exact fun _ _ _ h => sh_Wh_setFeature_17 i k h
noncomputable def W_Wh_setFeature (a1 : Int32) (a2 : Int32) (a3 : Int32) (σ : zS) (Q : Unit → zS → Prop) : Prop := ∃ n1 : Nat, Int32.toInt a1 = (n1 : Int) ∧ n1 < 480 ∧ (∀ σ2 : zS, zI σ 7 n1 a2 = σ2 → (∀ σ3 : zS, zI σ2 8 n1 a3 = σ3 → ((WL_Wh_setFeature fuF) a1 0 σ3 Q)))
theorem sF_Wh_setFeature {E : xV} {σ : zS} {K : zKt} {a1 : Int32} {a2 : Int32} {a3 : Int32} {Q : Unit → zS → Prop} (h : W_Wh_setFeature a1 a2 a3 σ Q) (k : ∀ v s, Q v s → K none s) : Cz E Y_Wh_setFeature [.ref 5, .int a1, .int a2, .int a3] σ K := by
  refine z_entry (by decide) (fun a => by rw [sl_len]; exact Nat.le_of_ble_eq_true rfl) rfl ?_
  unfold W_Wh_setFeature at h
  refine z_aload_n (f := 0) (i := 0) (q := 0) (pc' := 1) ⟨by decide +kernel, rfl⟩ rfl rfl ?_
  refine w_getr (k := 5) (j := 4) (idx := 17) (pc' := 4) yfxe_11_17 ykfa_5_4 ⟨by decide +kernel, rfl⟩ ?_
  refine z_iload_n (f := 1) (i := 1) (q := 1) (pc' := 5) ⟨by decide +kernel, rfl⟩ rfl rfl ?_
  refine z_iload_n (f := 2) (i := 2) (q := 2) (pc' := 6) ⟨by decide +kernel, rfl⟩ rfl rfl ?_
  obtain ⟨n1, hi1, hz1, h⟩ := h
  refine w_iast (k := 7) (n := n1) (pc' := 7) ykaa_7 (hi1) (hz1) ⟨by decide +kernel, rfl⟩ ?_
  generalize hs2 : zI σ 7 n1 a2 = σ2
  have h := h σ2 hs2
  refine z_aload_n (f := 0) (i := 0) (q := 0) (pc' := 8) ⟨by decide +kernel, rfl⟩ rfl rfl ?_
  refine w_getr (k := 5) (j := 5) (idx := 20) (pc' := 11) yfxe_11_20 ykfa_5_5 ⟨by decide +kernel, rfl⟩ ?_
  refine z_iload_n (f := 1) (i := 1) (q := 1) (pc' := 12) ⟨by decide +kernel, rfl⟩ rfl rfl ?_
  refine z_iload_n (f := 3) (i := 3) (q := 3) (pc' := 13) ⟨by decide +kernel, rfl⟩ rfl rfl ?_
  refine w_iast (k := 8) (n := n1) (pc' := 14) ykaa_8 (hi1) (hz1) ⟨by decide +kernel, rfl⟩ ?_
  generalize hs3 : zI σ2 8 n1 a3 = σ3
  have h := h σ3 hs3
  refine z_iconst (i := 0) (v := 0) (pc' := 15) ⟨by decide +kernel, rfl⟩ (by decide) ?_
  refine z_istore (i := 4) (pc' := 17) ⟨by decide +kernel, rfl⟩ (by decide) rfl ?_
  show Wz E Y_Wh_setFeature 17 [(4, .int 0), (0, .ref 5), (1, .int a1), (2, .int a2), (3, .int a3)] [] σ3 K
  refine z_sub [1, 2, 0] rfl ?_
  exact (sl_Wh_setFeature k fuF) _ _ _ h
noncomputable def W_Wh_hasItems (a1 : Int32) (a2 : Int32) (a3 : Int32) (σ : zS) (Q : Int32 → zS → Prop) : Prop := ((Int32.toInt a2) < 0 → (Q 0 σ)) ∧ (¬ (Int32.toInt a2) < 0 → (((Int32.toInt a3) < 0 → (Q 0 σ)) ∧ (¬ (Int32.toInt a3) < 0 → (∃ n3 : Nat, Int32.toInt a1 = (n3 : Int) ∧ n3 < 480 ∧ (((Int32.toInt (σ.1 8 n3)) < (Int32.toInt a2) → (Q 0 σ)) ∧ (¬ (Int32.toInt (σ.1 8 n3)) < (Int32.toInt a2) → ((-2147483648 ≤ (Int32.toInt (σ.1 8 n3)) - (Int32.toInt a2) ∧ (Int32.toInt (σ.1 8 n3)) - (Int32.toInt a2) ≤ 2147483647) ∧ ∀ r5 : Int32, r5.toInt = (Int32.toInt (σ.1 8 n3)) - (Int32.toInt a2) → (((Int32.toInt r5) < (Int32.toInt a3) → (Q 0 σ)) ∧ (¬ (Int32.toInt r5) < (Int32.toInt a3) → (Q 1 σ))))))))))
theorem sF_Wh_hasItems {E : xV} {σ : zS} {K : zKt} {a1 : Int32} {a2 : Int32} {a3 : Int32} {Q : Int32 → zS → Prop} (h : W_Wh_hasItems a1 a2 a3 σ Q) (k : ∀ v s, Q v s → K (some (.int v)) s) : Cz E Y_Wh_hasItems [.ref 5, .int a1, .int a2, .int a3] σ K := by
  refine z_entry (by decide) (fun a => by rw [sl_len]; exact Nat.le_of_ble_eq_true rfl) rfl ?_
  unfold W_Wh_hasItems at h
  refine z_iload_n (f := 2) (i := 2) (q := 2) (pc' := 1) ⟨by decide +kernel, rfl⟩ rfl rfl ?_
  refine z_if_lt (off := 33) (tgt := 34) (pc' := 4) ⟨by decide +kernel, by decide, rfl⟩ (fun h1 => ?_) (fun h1 => ?_)
  · have h := h.1 (qi_lt_t rfl (by decide) h1)
    refine z_iconst (i := 0) (v := 0) (pc' := 35) ⟨by decide +kernel, rfl⟩ (by decide) ?_
    exact z_iret (ty := .boolean) rfl (by rfl) (by decide +kernel) (k _ _ h)
  · have h := h.2 (qi_lt_f rfl (by decide) h1)
    refine z_iload_n (f := 3) (i := 3) (q := 3) (pc' := 5) ⟨by decide +kernel, rfl⟩ rfl rfl ?_
    refine z_if_lt (off := 29) (tgt := 34) (pc' := 8) ⟨by decide +kernel, by decide, rfl⟩ (fun h2 => ?_) (fun h2 => ?_)
    · have h := h.1 (qi_lt_t rfl (by decide) h2)
      refine z_iconst (i := 0) (v := 0) (pc' := 35) ⟨by decide +kernel, rfl⟩ (by decide) ?_
      exact z_iret (ty := .boolean) rfl (by rfl) (by decide +kernel) (k _ _ h)
    · have h := h.2 (qi_lt_f rfl (by decide) h2)
      refine z_iload_n (f := 2) (i := 2) (q := 2) (pc' := 9) ⟨by decide +kernel, rfl⟩ rfl rfl ?_
      refine z_aload_n (f := 0) (i := 0) (q := 0) (pc' := 10) ⟨by decide +kernel, rfl⟩ rfl rfl ?_
      refine w_getr (k := 5) (j := 5) (idx := 20) (pc' := 13) yfxe_11_20 ykfa_5_5 ⟨by decide +kernel, rfl⟩ ?_
      refine z_iload_n (f := 1) (i := 1) (q := 1) (pc' := 14) ⟨by decide +kernel, rfl⟩ rfl rfl ?_
      obtain ⟨n3, hi3, hz3, h⟩ := h
      refine w_iald (k := 8) (n := n3) (pc' := 15) ykaa_8 (hi3) (hz3) ⟨by decide +kernel, rfl⟩ ?_
      refine z_icmp_gt (off := 19) (tgt := 34) (pc' := 18) ⟨by decide +kernel, by decide, rfl⟩ (fun h4 => ?_) (fun h4 => ?_)
      · have h := h.1 (qi_gt_t rfl rfl h4)
        refine z_iconst (i := 0) (v := 0) (pc' := 35) ⟨by decide +kernel, rfl⟩ (by decide) ?_
        exact z_iret (ty := .boolean) rfl (by rfl) (by decide +kernel) (k _ _ h)
      · have h := h.2 (qi_gt_f rfl rfl h4)
        refine z_iload_n (f := 3) (i := 3) (q := 3) (pc' := 19) ⟨by decide +kernel, rfl⟩ rfl rfl ?_
        refine z_aload_n (f := 0) (i := 0) (q := 0) (pc' := 20) ⟨by decide +kernel, rfl⟩ rfl rfl ?_
        refine w_getr (k := 5) (j := 5) (idx := 20) (pc' := 23) yfxe_11_20 ykfa_5_5 ⟨by decide +kernel, rfl⟩ ?_
        refine z_iload_n (f := 1) (i := 1) (q := 1) (pc' := 24) ⟨by decide +kernel, rfl⟩ rfl rfl ?_
        refine w_iald (k := 8) (n := n3) (pc' := 25) ykaa_8 (hi3) (hz3) ⟨by decide +kernel, rfl⟩ ?_
        refine z_iload_n (f := 2) (i := 2) (q := 2) (pc' := 26) ⟨by decide +kernel, rfl⟩ rfl rfl ?_
        refine z_isub (pc' := 27) ⟨by decide +kernel, rfl⟩ ?_
        obtain ⟨hb5, h⟩ := h
        have h := h ((σ.1 8 n3) - a2) (is_ok rfl rfl hb5)
        generalize ((σ.1 8 n3) - a2) = r5 at h ⊢
        refine z_icmp_gt (off := 7) (tgt := 34) (pc' := 30) ⟨by decide +kernel, by decide, rfl⟩ (fun h6 => ?_) (fun h6 => ?_)
        · have h := h.1 (qi_gt_t rfl rfl h6)
          refine z_iconst (i := 0) (v := 0) (pc' := 35) ⟨by decide +kernel, rfl⟩ (by decide) ?_
          exact z_iret (ty := .boolean) rfl (by rfl) (by decide +kernel) (k _ _ h)
        · have h := h.2 (qi_gt_f rfl rfl h6)
          refine z_iconst (i := 1) (v := 1) (pc' := 31) ⟨by decide +kernel, rfl⟩ (by decide) ?_
          refine z_goto (off := 4) (tgt := 35) (pc' := 34) ⟨by decide +kernel, by decide, rfl⟩ ?_
          exact z_iret (ty := .boolean) rfl (by rfl) (by decide +kernel) (k _ _ h)
noncomputable def W_Re_isNoNumber (a0 : Int64) (σ : zS) (Q : Int32 → zS → Prop) : Prop := ((Int64.toInt (a0 &&& 9223372036854775807)) ≤ 9218868437227405312 → (Q 0 σ)) ∧ (¬ (Int64.toInt (a0 &&& 9223372036854775807)) ≤ 9218868437227405312 → (Q 1 σ))
theorem sF_Re_isNoNumber {E : xV} {σ : zS} {K : zKt} {a0 : Int64} {Q : Int32 → zS → Prop} (h : W_Re_isNoNumber a0 σ Q) (k : ∀ v s, Q v s → K (some (.int v)) s) : Cz E Y_Re_isNoNumber [.long a0] σ K := by
  refine z_entry (by decide) (fun a => by rw [sl_len]; exact Nat.le_of_ble_eq_true rfl) rfl ?_
  unfold W_Re_isNoNumber at h
  refine z_lload_n (f := 0) (i := 0) (q := 0) (pc' := 1) ⟨by decide +kernel, rfl⟩ rfl rfl ?_
  refine z_ldc2 (i := 9) (v := 9223372036854775807) (pc' := 4) ⟨by decide +kernel, rfl⟩ k_3_236 ?_
  refine z_land (pc' := 5) ⟨by decide +kernel, rfl⟩ ?_
  refine z_ldc2 (i := 11) (v := 9218868437227405312) (pc' := 8) ⟨by decide +kernel, rfl⟩ k_3_237 ?_
  refine z_lcmp (pc' := 9) ⟨by decide +kernel, rfl⟩ ?_
  refine z_if_le (off := 7) (tgt := 16) (pc' := 12) ⟨by decide +kernel, by decide, rfl⟩ (fun h1 => ?_) (fun h1 => ?_)
  · have h := h.1 (qk_le_t rfl (by decide) h1)
    refine z_iconst (i := 0) (v := 0) (pc' := 17) ⟨by decide +kernel, rfl⟩ (by decide) ?_
    exact z_iret (ty := .boolean) rfl (by rfl) (by decide +kernel) (k _ _ h)
  · have h := h.2 (qk_le_f rfl (by decide) h1)
    refine z_iconst (i := 1) (v := 1) (pc' := 13) ⟨by decide +kernel, rfl⟩ (by decide) ?_
    refine z_goto (off := 4) (tgt := 17) (pc' := 16) ⟨by decide +kernel, by decide, rfl⟩ ?_
    exact z_iret (ty := .boolean) rfl (by rfl) (by decide +kernel) (k _ _ h)
noncomputable def W_Wh_setItem_b43 (x1 : Int32) (x2 : Int32) (x5 : Int64) (σ : zS) (Q : Unit → zS → Prop) : Prop := (-2147483648 ≤ (Int32.toInt x1) * 20 ∧ (Int32.toInt x1) * 20 ≤ 2147483647) ∧ ∀ r1 : Int32, r1.toInt = (Int32.toInt x1) * 20 → ((-2147483648 ≤ (Int32.toInt r1) + (Int32.toInt x2) ∧ (Int32.toInt r1) + (Int32.toInt x2) ≤ 2147483647) ∧ ∀ r2 : Int32, r2.toInt = (Int32.toInt r1) + (Int32.toInt x2) → (∃ n3 : Nat, Int32.toInt r2 = (n3 : Int) ∧ n3 < 9600 ∧ (∀ σ4 : zS, zJ σ 9 n3 x5 = σ4 → (Q () σ4))))
theorem sb_Wh_setItem_43 {E : xV} {σ : zS} {K : zKt} {x1 : Int32} {x2 : Int32} {x5 : Int64} {Q : Unit → zS → Prop} (k : ∀ v s, Q v s → K none s) (h : W_Wh_setItem_b43 x1 x2 x5 σ Q) : Wz E Y_Wh_setItem 43 [(0, .ref 5), (1, .int x1), (2, .int x2), (5, .long x5)] [] σ K := by
  unfold W_Wh_setItem_b43 at h
  refine z_aload_n (f := 0) (i := 0) (q := 0) (pc' := 44) ⟨by decide +kernel, rfl⟩ rfl rfl ?_
  refine w_getr (k := 5) (j := 6) (idx := 23) (pc' := 47) yfxe_11_23 ykfa_5_6 ⟨by decide +kernel, rfl⟩ ?_
  refine z_iload_n (f := 1) (i := 1) (q := 1) (pc' := 48) ⟨by decide +kernel, rfl⟩ rfl rfl ?_
  refine z_bipush (i := 20) (v := 20) (pc' := 50) ⟨by decide +kernel, rfl⟩ (by decide) ?_
  refine z_imul (pc' := 51) ⟨by decide +kernel, rfl⟩ ?_
  obtain ⟨hb1, h⟩ := h
  have h := h (x1 * 20) (im_ok rfl (by decide) hb1)
  generalize (x1 * 20) = r1 at h ⊢
  refine z_iload_n (f := 2) (i := 2) (q := 2) (pc' := 52) ⟨by decide +kernel, rfl⟩ rfl rfl ?_
  refine z_iadd (pc' := 53) ⟨by decide +kernel, rfl⟩ ?_
  obtain ⟨hb2, h⟩ := h
  have h := h (r1 + x2) (ia_ok rfl rfl hb2)
  generalize (r1 + x2) = r2 at h ⊢
  refine z_lload (i := 5) (q := 3) (pc' := 55) ⟨by decide +kernel, rfl⟩ rfl ?_
  obtain ⟨n3, hi3, hz3, h⟩ := h
  refine w_last (k := 9) (n := n3) (pc' := 56) ykaa_9 (hi3) (hz3) ⟨by decide +kernel, rfl⟩ ?_
  generalize hs4 : zJ σ 9 n3 x5 = σ4
  have h := h σ4 hs4
  exact z_vret rfl (by decide +kernel) (k _ _ h)
noncomputable def W_Wh_setItem (a1 : Int32) (a2 : Int32) (a3 : Int64) (σ : zS) (Q : Unit → zS → Prop) : Prop := ∃ n1 : Nat, Int32.toInt a1 = (n1 : Int) ∧ n1 < 480 ∧ (((Int32.toInt (σ.1 7 n1)) = 3 → (∀ r6 : Int64, r6.toInt = (Int32.toInt (Int64.toInt32 a3)) → (W_Wh_setItem_b43  a1 a2 r6 σ Q))) ∧ (¬ (Int32.toInt (σ.1 7 n1)) = 3 → (((Int32.toInt (σ.1 7 n1)) = 2 → (W_Re_isNoNumber a3 σ (fun v4 σ4 => ((Int32.toInt v4) = 0 → (W_Wh_setItem_b43  a1 a2 a3 σ4 Q)) ∧ (¬ (Int32.toInt v4) = 0 → (W_Wh_setItem_b43  a1 a2 9221120237041090560 σ4 Q))))) ∧ (¬ (Int32.toInt (σ.1 7 n1)) = 2 → (W_Wh_setItem_b43  a1 a2 a3 σ Q)))))
theorem sF_Wh_setItem {E : xV} {σ : zS} {K : zKt} {a1 : Int32} {a2 : Int32} {a3 : Int64} {Q : Unit → zS → Prop} (h : W_Wh_setItem a1 a2 a3 σ Q) (k : ∀ v s, Q v s → K none s) : Cz E Y_Wh_setItem [.ref 5, .int a1, .int a2, .long a3] σ K := by
  refine z_entry (by decide) (fun a => by rw [sl_len]; exact Nat.le_of_ble_eq_true rfl) rfl ?_
  unfold W_Wh_setItem at h
  refine z_lload_n (f := 3) (i := 3) (q := 3) (pc' := 1) ⟨by decide +kernel, rfl⟩ rfl rfl ?_
  refine z_lstore (i := 5) (pc' := 3) ⟨by decide +kernel, rfl⟩ (by decide) rfl ?_
  show Wz E Y_Wh_setItem 3 [(5, .long a3), (0, .ref 5), (1, .int a1), (2, .int a2), (3, .long a3)] [] σ K
  refine z_aload_n (f := 0) (i := 0) (q := 1) (pc' := 4) ⟨by decide +kernel, rfl⟩ rfl rfl ?_
  refine w_getr (k := 5) (j := 4) (idx := 17) (pc' := 7) yfxe_11_17 ykfa_5_4 ⟨by decide +kernel, rfl⟩ ?_
  refine z_iload_n (f := 1) (i := 1) (q := 2) (pc' := 8) ⟨by decide +kernel, rfl⟩ rfl rfl ?_
  obtain ⟨n1, hi1, hz1, h⟩ := h
  refine w_iald (k := 7) (n := n1) (pc' := 9) ykaa_7 (hi1) (hz1) ⟨by decide +kernel, rfl⟩ ?_
  refine z_iconst (i := 3) (v := 3) (pc' := 10) ⟨by decide +kernel, rfl⟩ (by decide) ?_
  refine z_icmp_ne (off := 11) (tgt := 21) (pc' := 13) ⟨by decide +kernel, by decide, rfl⟩ (fun h2 => ?_) (fun h2 => ?_)
  · have h := h.2 (qi_ne_t rfl (by decide) h2)
    refine z_aload_n (f := 0) (i := 0) (q := 1) (pc' := 22) ⟨by decide +kernel, rfl⟩ rfl rfl ?_
    refine w_getr (k := 5) (j := 4) (idx := 17) (pc' := 25) yfxe_11_17 ykfa_5_4 ⟨by decide +kernel, rfl⟩ ?_
    refine z_iload_n (f := 1) (i := 1) (q := 2) (pc' := 26) ⟨by decide +kernel, rfl⟩ rfl rfl ?_
    refine w_iald (k := 7) (n := n1) (pc' := 27) ykaa_7 (hi1) (hz1) ⟨by decide +kernel, rfl⟩ ?_
    refine z_iconst (i := 2) (v := 2) (pc' := 28) ⟨by decide +kernel, rfl⟩ (by decide) ?_
    refine z_icmp_ne (off := 15) (tgt := 43) (pc' := 31) ⟨by decide +kernel, by decide, rfl⟩ (fun h3 => ?_) (fun h3 => ?_)
    · have h := h.2 (qi_ne_t rfl (by decide) h3)
      refine z_sub [1, 2, 3, 0] rfl ?_
      exact sb_Wh_setItem_43  k h
    · have h := h.1 (qi_ne_f rfl (by decide) h3)
      refine z_lload_n (f := 3) (i := 3) (q := 4) (pc' := 32) ⟨by decide +kernel, rfl⟩ rfl rfl ?_
      refine w_invS (Z := Y_Re_isNoNumber) (idx := 63) (As := [.long a3]) (rest := []) (pc' := 35) cl_11_63 rfl ⟨rfl, rfl⟩ ⟨⟨by decide, by decide⟩, rfl, rfl⟩ ⟨by decide +kernel, rfl⟩ rfl rfl (Nat.le_of_ble_eq_true rfl) rfl rfl ?_
      refine sF_Re_isNoNumber h (fun v4 σ4 h => ?_)
      show Wz E Y_Wh_setItem 35 [(5, .long a3), (0, .ref 5), (1, .int a1), (2, .int a2), (3, .long a3)] [.int v4] σ4 K
      refine z_if_eq (off := 8) (tgt := 43) (pc' := 38) ⟨by decide +kernel, by decide, rfl⟩ (fun h5 => ?_) (fun h5 => ?_)
      · have h := h.1 (qi_eq_t rfl (by decide) h5)
        refine z_sub [1, 2, 3, 0] rfl ?_
        exact sb_Wh_setItem_43  k h
      · have h := h.2 (qi_eq_f rfl (by decide) h5)
        refine z_ldc2 (i := 69) (v := 9221120237041090560) (pc' := 41) ⟨by decide +kernel, rfl⟩ k_3_238 ?_
        refine z_lstore (i := 5) (pc' := 43) ⟨by decide +kernel, rfl⟩ (by decide) rfl ?_
        show Wz E Y_Wh_setItem 43 [(5, .long 9221120237041090560), (0, .ref 5), (1, .int a1), (2, .int a2), (3, .long a3)] [] σ4 K
        refine z_sub [1, 2, 3, 0] rfl ?_
        exact sb_Wh_setItem_43  k h
  · have h := h.1 (qi_ne_f rfl (by decide) h2)
    refine z_lload_n (f := 3) (i := 3) (q := 4) (pc' := 14) ⟨by decide +kernel, rfl⟩ rfl rfl ?_
    refine z_l2i (pc' := 15) ⟨by decide +kernel, rfl⟩ rfl ?_
    refine z_i2l (v := (Int32.toInt64 (Int64.toInt32 a3))) (pc' := 16) ⟨by decide +kernel, rfl⟩ rfl ?_
    have h := h (Int32.toInt64 (Int64.toInt32 a3)) (Int32.toInt_toInt64 _)
    generalize (Int32.toInt64 (Int64.toInt32 a3)) = r6 at h ⊢
    refine z_lstore (i := 5) (pc' := 18) ⟨by decide +kernel, rfl⟩ (by decide) rfl ?_
    show Wz E Y_Wh_setItem 18 [(5, .long r6), (0, .ref 5), (1, .int a1), (2, .int a2), (3, .long a3)] [] σ K
    refine z_goto (off := 25) (tgt := 43) (pc' := 21) ⟨by decide +kernel, by decide, rfl⟩ ?_
    refine z_sub [1, 2, 3, 0] rfl ?_
    exact sb_Wh_setItem_43  k h
noncomputable def W_H_feature_b36 (x3 : Int32) (x5 : Int32) (y0 : Int32) (σ : zS) (Q : Int32 → zS → Prop) : Prop := ((Int32.toInt y0) ≤ 20 → ((0 ≤ (Int32.toInt y0) → (W_Wh_setFeature x5 x3 y0 σ (fun _ σ3 => Q y0 σ3))) ∧ (¬ 0 ≤ (Int32.toInt y0) → (Q (-13) σ)))) ∧ (¬ (Int32.toInt y0) ≤ 20 → (Q (-1) σ))
theorem sb_H_feature_36 {E : xV} {σ : zS} {K : zKt} {x3 : Int32} {x5 : Int32} {y0 : Int32} {Q : Int32 → zS → Prop} (k : ∀ v s, Q v s → K (some (.int v)) s) (h : W_H_feature_b36 x3 x5 y0 σ Q) : Wz E Y_H_feature 36 [(0, .ref 0), (3, .int x3), (5, .int x5)] [.int y0] σ K := by
  unfold W_H_feature_b36 at h
  refine z_istore (i := 6) (pc' := 38) ⟨by decide +kernel, rfl⟩ (by decide) rfl ?_
  show Wz E Y_H_feature 38 [(6, .int y0), (0, .ref 0), (3, .int x3), (5, .int x5)] [] σ K
  refine z_iload (i := 6) (q := 0) (pc' := 40) ⟨by decide +kernel, rfl⟩ rfl ?_
  refine z_bipush (i := 20) (v := 20) (pc' := 42) ⟨by decide +kernel, rfl⟩ (by decide) ?_
  refine z_icmp_le (off := 5) (tgt := 47) (pc' := 45) ⟨by decide +kernel, by decide, rfl⟩ (fun h1 => ?_) (fun h1 => ?_)
  · have h := h.1 (qi_le_t rfl (by decide) h1)
    refine z_iload (i := 6) (q := 0) (pc' := 49) ⟨by decide +kernel, rfl⟩ rfl ?_
    refine z_if_ge (off := 6) (tgt := 55) (pc' := 52) ⟨by decide +kernel, by decide, rfl⟩ (fun h2 => ?_) (fun h2 => ?_)
    · have h := h.1 (qi_ge_t rfl (by decide) h2)
      refine z_aload_n (f := 0) (i := 0) (q := 1) (pc' := 56) ⟨by decide +kernel, rfl⟩ rfl rfl ?_
      refine w_getr (k := 0) (j := 8) (idx := 25) (pc' := 59) yfxe_1_25 ykfa_0_8 ⟨by decide +kernel, rfl⟩ ?_
      refine z_iload (i := 5) (q := 3) (pc' := 61) ⟨by decide +kernel, rfl⟩ rfl ?_
      refine z_iload_n (f := 3) (i := 3) (q := 2) (pc' := 62) ⟨by decide +kernel, rfl⟩ rfl rfl ?_
      refine z_iload (i := 6) (q := 0) (pc' := 64) ⟨by decide +kernel, rfl⟩ rfl ?_
      refine w_invV (Z := Y_Wh_setFeature) (idx := 169) (kb := 5) (As := [.int x5, .int x3, .int y0]) (rest := []) (pc' := 67) cl_1_169 rfl ⟨rfl, rfl⟩ ykfa_5_0 rfl ⟨⟨by decide, by decide⟩, rfl, rfl⟩ ⟨by decide +kernel, rfl⟩ rfl rfl (Nat.le_of_ble_eq_true rfl) rfl rfl ?_
      refine sF_Wh_setFeature h (fun _ σ3 h => ?_)
      show Wz E Y_H_feature 67 [(6, .int y0), (0, .ref 0), (3, .int x3), (5, .int x5)] [] σ3 K
      refine z_iload (i := 6) (q := 0) (pc' := 69) ⟨by decide +kernel, rfl⟩ rfl ?_
      exact z_iret (ty := .int) rfl (by rfl) (by decide +kernel) (k _ _ h)
    · have h := h.2 (qi_ge_f rfl (by decide) h2)
      refine z_bipush (i := (-13)) (v := (-13)) (pc' := 54) ⟨by decide +kernel, rfl⟩ (by decide) ?_
      exact z_iret (ty := .int) rfl (by rfl) (by decide +kernel) (k _ _ h)
  · have h := h.2 (qi_le_f rfl (by decide) h1)
    refine z_iconst (i := (-1)) (v := (-1)) (pc' := 46) ⟨by decide +kernel, rfl⟩ (by decide) ?_
    exact z_iret (ty := .int) rfl (by rfl) (by decide +kernel) (k _ _ h)
noncomputable def W_H_feature (a1 : Int32) (a2 : Int32) (a3 : Int32) (a4 : Int32) (σ : zS) (Q : Int32 → zS → Prop) : Prop := W_H_slotOf a1 a2 σ (fun v1 σ1 => ((Int32.toInt v1) = (-4) → (Q (-1) σ1)) ∧ (¬ (Int32.toInt v1) = (-4) → (((Int32.toInt a3) < 0 → (Q (-1) σ1)) ∧ (¬ (Int32.toInt a3) < 0 → (((Int32.toInt a3) ≤ 3 → (((Int32.toInt a3) = 0 → (W_H_feature_b36  a3 v1 0 σ1 Q)) ∧ (¬ (Int32.toInt a3) = 0 → (W_H_feature_b36  a3 v1 a4 σ1 Q)))) ∧ (¬ (Int32.toInt a3) ≤ 3 → (Q (-1) σ1)))))))
theorem sF_H_feature {E : xV} {σ : zS} {K : zKt} {a1 : Int32} {a2 : Int32} {a3 : Int32} {a4 : Int32} {Q : Int32 → zS → Prop} (h : W_H_feature a1 a2 a3 a4 σ Q) (k : ∀ v s, Q v s → K (some (.int v)) s) : Cz E Y_H_feature [.ref 0, .int a1, .int a2, .int a3, .int a4] σ K := by
  refine z_entry (by decide) (fun a => by rw [sl_len]; exact Nat.le_of_ble_eq_true rfl) rfl ?_
  unfold W_H_feature at h
  refine z_aload_n (f := 0) (i := 0) (q := 0) (pc' := 1) ⟨by decide +kernel, rfl⟩ rfl rfl ?_
  refine z_iload_n (f := 1) (i := 1) (q := 1) (pc' := 2) ⟨by decide +kernel, rfl⟩ rfl rfl ?_
  refine z_iload_n (f := 2) (i := 2) (q := 2) (pc' := 3) ⟨by decide +kernel, rfl⟩ rfl rfl ?_
  refine w_invV (Z := Y_H_slotOf) (idx := 166) (kb := 0) (As := [.int a1, .int a2]) (rest := []) (pc' := 6) cl_1_166 rfl ⟨rfl, rfl⟩ ykfa_0_0 rfl ⟨⟨by decide, by decide⟩, rfl, rfl⟩ ⟨by decide +kernel, rfl⟩ rfl rfl (Nat.le_of_ble_eq_true rfl) rfl rfl ?_
  refine sF_H_slotOf h (fun v1 σ1 h => ?_)
  show Wz E Y_H_feature 6 [(0, .ref 0), (1, .int a1), (2, .int a2), (3, .int a3), (4, .int a4)] [.int v1] σ1 K
  refine z_istore (i := 5) (pc' := 8) ⟨by decide +kernel, rfl⟩ (by decide) rfl ?_
  show Wz E Y_H_feature 8 [(5, .int v1), (0, .ref 0), (1, .int a1), (2, .int a2), (3, .int a3), (4, .int a4)] [] σ1 K
  refine z_iload (i := 5) (q := 0) (pc' := 10) ⟨by decide +kernel, rfl⟩ rfl ?_
  refine z_bipush (i := (-4)) (v := (-4)) (pc' := 12) ⟨by decide +kernel, rfl⟩ (by decide) ?_
  refine z_icmp_eq (off := 12) (tgt := 24) (pc' := 15) ⟨by decide +kernel, by decide, rfl⟩ (fun h2 => ?_) (fun h2 => ?_)
  · have h := h.1 (qi_eq_t rfl (by decide) h2)
    refine z_iconst (i := (-1)) (v := (-1)) (pc' := 25) ⟨by decide +kernel, rfl⟩ (by decide) ?_
    exact z_iret (ty := .int) rfl (by rfl) (by decide +kernel) (k _ _ h)
  · have h := h.2 (qi_eq_f rfl (by decide) h2)
    refine z_iload_n (f := 3) (i := 3) (q := 4) (pc' := 16) ⟨by decide +kernel, rfl⟩ rfl rfl ?_
    refine z_if_lt (off := 8) (tgt := 24) (pc' := 19) ⟨by decide +kernel, by decide, rfl⟩ (fun h3 => ?_) (fun h3 => ?_)
    · have h := h.1 (qi_lt_t rfl (by decide) h3)
      refine z_iconst (i := (-1)) (v := (-1)) (pc' := 25) ⟨by decide +kernel, rfl⟩ (by decide) ?_
      exact z_iret (ty := .int) rfl (by rfl) (by decide +kernel) (k _ _ h)
    · have h := h.2 (qi_lt_f rfl (by decide) h3)
      refine z_iload_n (f := 3) (i := 3) (q := 4) (pc' := 20) ⟨by decide +kernel, rfl⟩ rfl rfl ?_
      refine z_iconst (i := 3) (v := 3) (pc' := 21) ⟨by decide +kernel, rfl⟩ (by decide) ?_
      refine z_icmp_le (off := 5) (tgt := 26) (pc' := 24) ⟨by decide +kernel, by decide, rfl⟩ (fun h4 => ?_) (fun h4 => ?_)
      · have h := h.1 (qi_le_t rfl (by decide) h4)
        refine z_iload_n (f := 3) (i := 3) (q := 4) (pc' := 27) ⟨by decide +kernel, rfl⟩ rfl rfl ?_
        refine z_if_ne (off := 7) (tgt := 34) (pc' := 30) ⟨by decide +kernel, by decide, rfl⟩ (fun h5 => ?_) (fun h5 => ?_)
        · have h := h.2 (qi_ne_t rfl (by decide) h5)
          refine z_iload (i := 4) (q := 5) (pc' := 36) ⟨by decide +kernel, rfl⟩ rfl ?_
          refine z_sub [1, 4, 0] rfl ?_
          exact sb_H_feature_36  k h
        · have h := h.1 (qi_ne_f rfl (by decide) h5)
          refine z_iconst (i := 0) (v := 0) (pc' := 31) ⟨by decide +kernel, rfl⟩ (by decide) ?_
          refine z_goto (off := 5) (tgt := 36) (pc' := 34) ⟨by decide +kernel, by decide, rfl⟩ ?_
          refine z_sub [1, 4, 0] rfl ?_
          exact sb_H_feature_36  k h
      · have h := h.2 (qi_le_f rfl (by decide) h4)
        refine z_iconst (i := (-1)) (v := (-1)) (pc' := 25) ⟨by decide +kernel, rfl⟩ (by decide) ?_
        exact z_iret (ty := .int) rfl (by rfl) (by decide +kernel) (k _ _ h)
noncomputable def W_H_item (a1 : Int32) (a2 : Int32) (a3 : Int32) (a4 : Int64) (σ : zS) (Q : Int32 → zS → Prop) : Prop := W_H_slotOf a1 a2 σ (fun v1 σ1 => ((Int32.toInt v1) = (-4) → (Q (-1) σ1)) ∧ (¬ (Int32.toInt v1) = (-4) → (∃ n3 : Nat, Int32.toInt v1 = (n3 : Int) ∧ n3 < 480 ∧ (((Int32.toInt (σ1.1 7 n3)) = 0 → (Q (-11) σ1)) ∧ (¬ (Int32.toInt (σ1.1 7 n3)) = 0 → (W_H_isAmong a3 (σ1.1 8 n3) σ1 (fun v5 σ5 => ((Int32.toInt v5) = 0 → (Q (-12) σ5)) ∧ (¬ (Int32.toInt v5) = 0 → (W_Wh_setItem v1 a3 a4 σ5 (fun _ σ7 => Q 1 σ7))))))))))
theorem sF_H_item {E : xV} {σ : zS} {K : zKt} {a1 : Int32} {a2 : Int32} {a3 : Int32} {a4 : Int64} {Q : Int32 → zS → Prop} (h : W_H_item a1 a2 a3 a4 σ Q) (k : ∀ v s, Q v s → K (some (.int v)) s) : Cz E Y_H_item [.ref 0, .int a1, .int a2, .int a3, .long a4] σ K := by
  refine z_entry (by decide) (fun a => by rw [sl_len]; exact Nat.le_of_ble_eq_true rfl) rfl ?_
  unfold W_H_item at h
  refine z_aload_n (f := 0) (i := 0) (q := 0) (pc' := 1) ⟨by decide +kernel, rfl⟩ rfl rfl ?_
  refine z_iload_n (f := 1) (i := 1) (q := 1) (pc' := 2) ⟨by decide +kernel, rfl⟩ rfl rfl ?_
  refine z_iload_n (f := 2) (i := 2) (q := 2) (pc' := 3) ⟨by decide +kernel, rfl⟩ rfl rfl ?_
  refine w_invV (Z := Y_H_slotOf) (idx := 166) (kb := 0) (As := [.int a1, .int a2]) (rest := []) (pc' := 6) cl_1_166 rfl ⟨rfl, rfl⟩ ykfa_0_0 rfl ⟨⟨by decide, by decide⟩, rfl, rfl⟩ ⟨by decide +kernel, rfl⟩ rfl rfl (Nat.le_of_ble_eq_true rfl) rfl rfl ?_
  refine sF_H_slotOf h (fun v1 σ1 h => ?_)
  show Wz E Y_H_item 6 [(0, .ref 0), (1, .int a1), (2, .int a2), (3, .int a3), (4, .long a4)] [.int v1] σ1 K
  refine z_istore (i := 6) (pc' := 8) ⟨by decide +kernel, rfl⟩ (by decide) rfl ?_
  show Wz E Y_H_item 8 [(6, .int v1), (0, .ref 0), (1, .int a1), (2, .int a2), (3, .int a3), (4, .long a4)] [] σ1 K
  refine z_iload (i := 6) (q := 0) (pc' := 10) ⟨by decide +kernel, rfl⟩ rfl ?_
  refine z_bipush (i := (-4)) (v := (-4)) (pc' := 12) ⟨by decide +kernel, rfl⟩ (by decide) ?_
  refine z_icmp_ne (off := 5) (tgt := 17) (pc' := 15) ⟨by decide +kernel, by decide, rfl⟩ (fun h2 => ?_) (fun h2 => ?_)
  · have h := h.2 (qi_ne_t rfl (by decide) h2)
    refine z_aload_n (f := 0) (i := 0) (q := 1) (pc' := 18) ⟨by decide +kernel, rfl⟩ rfl rfl ?_
    refine w_getr (k := 0) (j := 8) (idx := 25) (pc' := 21) yfxe_1_25 ykfa_0_8 ⟨by decide +kernel, rfl⟩ ?_
    refine w_getr (k := 5) (j := 4) (idx := 173) (pc' := 24) yfxe_1_173 ykfa_5_4 ⟨by decide +kernel, rfl⟩ ?_
    refine z_iload (i := 6) (q := 0) (pc' := 26) ⟨by decide +kernel, rfl⟩ rfl ?_
    obtain ⟨n3, hi3, hz3, h⟩ := h
    refine w_iald (k := 7) (n := n3) (pc' := 27) ykaa_7 (hi3) (hz3) ⟨by decide +kernel, rfl⟩ ?_
    refine z_if_ne (off := 6) (tgt := 33) (pc' := 30) ⟨by decide +kernel, by decide, rfl⟩ (fun h4 => ?_) (fun h4 => ?_)
    · have h := h.2 (qi_ne_t rfl (by decide) h4)
      refine z_iload_n (f := 3) (i := 3) (q := 4) (pc' := 34) ⟨by decide +kernel, rfl⟩ rfl rfl ?_
      refine z_aload_n (f := 0) (i := 0) (q := 1) (pc' := 35) ⟨by decide +kernel, rfl⟩ rfl rfl ?_
      refine w_getr (k := 0) (j := 8) (idx := 25) (pc' := 38) yfxe_1_25 ykfa_0_8 ⟨by decide +kernel, rfl⟩ ?_
      refine w_getr (k := 5) (j := 5) (idx := 176) (pc' := 41) yfxe_1_176 ykfa_5_5 ⟨by decide +kernel, rfl⟩ ?_
      refine z_iload (i := 6) (q := 0) (pc' := 43) ⟨by decide +kernel, rfl⟩ rfl ?_
      refine w_iald (k := 8) (n := n3) (pc' := 44) ykaa_8 (hi3) (hz3) ⟨by decide +kernel, rfl⟩ ?_
      refine w_invS (Z := Y_H_isAmong) (idx := 136) (As := [.int a3, .int (σ1.1 8 n3)]) (rest := []) (pc' := 47) cl_1_136 rfl ⟨rfl, rfl⟩ ⟨⟨by decide, by decide⟩, rfl, rfl⟩ ⟨by decide +kernel, rfl⟩ rfl rfl (Nat.le_of_ble_eq_true rfl) rfl rfl ?_
      refine sF_H_isAmong h (fun v5 σ5 h => ?_)
      show Wz E Y_H_item 47 [(6, .int v1), (0, .ref 0), (1, .int a1), (2, .int a2), (3, .int a3), (4, .long a4)] [.int v5] σ5 K
      refine z_if_ne (off := 6) (tgt := 53) (pc' := 50) ⟨by decide +kernel, by decide, rfl⟩ (fun h6 => ?_) (fun h6 => ?_)
      · have h := h.2 (qi_ne_t rfl (by decide) h6)
        refine z_aload_n (f := 0) (i := 0) (q := 1) (pc' := 54) ⟨by decide +kernel, rfl⟩ rfl rfl ?_
        refine w_getr (k := 0) (j := 8) (idx := 25) (pc' := 57) yfxe_1_25 ykfa_0_8 ⟨by decide +kernel, rfl⟩ ?_
        refine z_iload (i := 6) (q := 0) (pc' := 59) ⟨by decide +kernel, rfl⟩ rfl ?_
        refine z_iload_n (f := 3) (i := 3) (q := 4) (pc' := 60) ⟨by decide +kernel, rfl⟩ rfl rfl ?_
        refine z_lload (i := 4) (q := 5) (pc' := 62) ⟨by decide +kernel, rfl⟩ rfl ?_
        refine w_invV (Z := Y_Wh_setItem) (idx := 179) (kb := 5) (As := [.int v1, .int a3, .long a4]) (rest := []) (pc' := 65) cl_1_179 rfl ⟨rfl, rfl⟩ ykfa_5_0 rfl ⟨⟨by decide, by decide⟩, rfl, rfl⟩ ⟨by decide +kernel, rfl⟩ rfl rfl (Nat.le_of_ble_eq_true rfl) rfl rfl ?_
        refine sF_Wh_setItem h (fun _ σ7 h => ?_)
        show Wz E Y_H_item 65 [(6, .int v1), (0, .ref 0), (1, .int a1), (2, .int a2), (3, .int a3), (4, .long a4)] [] σ7 K
        refine z_iconst (i := 1) (v := 1) (pc' := 66) ⟨by decide +kernel, rfl⟩ (by decide) ?_
        exact z_iret (ty := .int) rfl (by rfl) (by decide +kernel) (k _ _ h)
      · have h := h.1 (qi_ne_f rfl (by decide) h6)
        refine z_bipush (i := (-12)) (v := (-12)) (pc' := 52) ⟨by decide +kernel, rfl⟩ (by decide) ?_
        exact z_iret (ty := .int) rfl (by rfl) (by decide +kernel) (k _ _ h)
    · have h := h.1 (qi_ne_f rfl (by decide) h4)
      refine z_bipush (i := (-11)) (v := (-11)) (pc' := 32) ⟨by decide +kernel, rfl⟩ (by decide) ?_
      exact z_iret (ty := .int) rfl (by rfl) (by decide +kernel) (k _ _ h)
  · have h := h.1 (qi_ne_f rfl (by decide) h2)
    refine z_iconst (i := (-1)) (v := (-1)) (pc' := 16) ⟨by decide +kernel, rfl⟩ (by decide) ?_
    exact z_iret (ty := .int) rfl (by rfl) (by decide +kernel) (k _ _ h)
noncomputable def W_H_copy (a1 : Int32) (a2 : Int32) (a3 : Int32) (a4 : Int32) (a5 : Int32) (a6 : Int32) (a7 : Int32) (σ : zS) (Q : Int32 → zS → Prop) : Prop := W_H_slotOf a1 a2 σ (fun v1 σ1 => W_H_slotOf a4 a5 σ1 (fun v2 σ2 => ((Int32.toInt v1) = (-4) → (Q (-1) σ2)) ∧ (¬ (Int32.toInt v1) = (-4) → (((Int32.toInt v2) = (-4) → (Q (-1) σ2)) ∧ (¬ (Int32.toInt v2) = (-4) → (∃ n5 : Nat, Int32.toInt v1 = (n5 : Int) ∧ n5 < 480 ∧ (((Int32.toInt (σ2.1 7 n5)) = 0 → (Q (-11) σ2)) ∧ (¬ (Int32.toInt (σ2.1 7 n5)) = 0 → (∃ n7 : Nat, Int32.toInt v2 = (n7 : Int) ∧ n7 < 480 ∧ (((Int32.toInt (σ2.1 7 n7)) = 0 → (Q (-11) σ2)) ∧ (¬ (Int32.toInt (σ2.1 7 n7)) = 0 → (((Int32.toInt (σ2.1 7 n5)) = (Int32.toInt (σ2.1 7 n7)) → (W_Wh_hasItems v1 a3 a7 σ2 (fun v10 σ10 => ((Int32.toInt v10) = 0 → (Q (-12) σ10)) ∧ (¬ (Int32.toInt v10) = 0 → (W_Wh_hasItems v2 a6 a7 σ10 (fun v12 σ12 => ((Int32.toInt v12) = 0 → (Q (-12) σ12)) ∧ (¬ (Int32.toInt v12) = 0 → ((-2147483648 ≤ (Int32.toInt v1) * 20 ∧ (Int32.toInt v1) * 20 ≤ 2147483647) ∧ ∀ r14 : Int32, r14.toInt = (Int32.toInt v1) * 20 → ((-2147483648 ≤ (Int32.toInt r14) + (Int32.toInt a3) ∧ (Int32.toInt r14) + (Int32.toInt a3) ≤ 2147483647) ∧ ∀ r15 : Int32, r15.toInt = (Int32.toInt r14) + (Int32.toInt a3) → ((-2147483648 ≤ (Int32.toInt v2) * 20 ∧ (Int32.toInt v2) * 20 ≤ 2147483647) ∧ ∀ r16 : Int32, r16.toInt = (Int32.toInt v2) * 20 → ((-2147483648 ≤ (Int32.toInt r16) + (Int32.toInt a6) ∧ (Int32.toInt r16) + (Int32.toInt a6) ≤ 2147483647) ∧ ∀ r17 : Int32, r17.toInt = (Int32.toInt r16) + (Int32.toInt a6) → (∃ n19 : Nat, Int32.toInt r15 = (n19 : Int) ∧ (∃ n20 : Nat, Int32.toInt r17 = (n20 : Int) ∧ (∃ n21 : Nat, Int32.toInt a7 = (n21 : Int) ∧ ((n19 + n21 ≤ 9600 ∧ n20 + n21 ≤ 9600) ∧ (∀ σ23 : zS, zJr σ12 9 (va_cpy (σ12.2 9) (σ12.2 9) n19 n20 n21) = σ23 → (Q a7 σ23))))))))))))))))) ∧ (¬ (Int32.toInt (σ2.1 7 n5)) = (Int32.toInt (σ2.1 7 n7)) → (Q (-14) σ2))))))))))))))
theorem sF_H_copy {E : xV} {σ : zS} {K : zKt} {a1 : Int32} {a2 : Int32} {a3 : Int32} {a4 : Int32} {a5 : Int32} {a6 : Int32} {a7 : Int32} {Q : Int32 → zS → Prop} (h : W_H_copy a1 a2 a3 a4 a5 a6 a7 σ Q) (k : ∀ v s, Q v s → K (some (.int v)) s) : Cz E Y_H_copy [.ref 0, .int a1, .int a2, .int a3, .int a4, .int a5, .int a6, .int a7] σ K := by
  refine z_entry (by decide) (fun a => by rw [sl_len]; exact Nat.le_of_ble_eq_true rfl) rfl ?_
  unfold W_H_copy at h
  refine z_aload_n (f := 0) (i := 0) (q := 0) (pc' := 1) ⟨by decide +kernel, rfl⟩ rfl rfl ?_
  refine z_iload_n (f := 1) (i := 1) (q := 1) (pc' := 2) ⟨by decide +kernel, rfl⟩ rfl rfl ?_
  refine z_iload_n (f := 2) (i := 2) (q := 2) (pc' := 3) ⟨by decide +kernel, rfl⟩ rfl rfl ?_
  refine w_invV (Z := Y_H_slotOf) (idx := 166) (kb := 0) (As := [.int a1, .int a2]) (rest := []) (pc' := 6) cl_1_166 rfl ⟨rfl, rfl⟩ ykfa_0_0 rfl ⟨⟨by decide, by decide⟩, rfl, rfl⟩ ⟨by decide +kernel, rfl⟩ rfl rfl (Nat.le_of_ble_eq_true rfl) rfl rfl ?_
  refine sF_H_slotOf h (fun v1 σ1 h => ?_)
  show Wz E Y_H_copy 6 [(0, .ref 0), (1, .int a1), (2, .int a2), (3, .int a3), (4, .int a4), (5, .int a5), (6, .int a6), (7, .int a7)] [.int v1] σ1 K
  refine z_istore (i := 8) (pc' := 8) ⟨by decide +kernel, rfl⟩ (by decide) rfl ?_
  show Wz E Y_H_copy 8 [(8, .int v1), (0, .ref 0), (1, .int a1), (2, .int a2), (3, .int a3), (4, .int a4), (5, .int a5), (6, .int a6), (7, .int a7)] [] σ1 K
  refine z_aload_n (f := 0) (i := 0) (q := 1) (pc' := 9) ⟨by decide +kernel, rfl⟩ rfl rfl ?_
  refine z_iload (i := 4) (q := 5) (pc' := 11) ⟨by decide +kernel, rfl⟩ rfl ?_
  refine z_iload (i := 5) (q := 6) (pc' := 13) ⟨by decide +kernel, rfl⟩ rfl ?_
  refine w_invV (Z := Y_H_slotOf) (idx := 166) (kb := 0) (As := [.int a4, .int a5]) (rest := []) (pc' := 16) cl_1_166 rfl ⟨rfl, rfl⟩ ykfa_0_0 rfl ⟨⟨by decide, by decide⟩, rfl, rfl⟩ ⟨by decide +kernel, rfl⟩ rfl rfl (Nat.le_of_ble_eq_true rfl) rfl rfl ?_
  refine sF_H_slotOf h (fun v2 σ2 h => ?_)
  show Wz E Y_H_copy 16 [(8, .int v1), (0, .ref 0), (1, .int a1), (2, .int a2), (3, .int a3), (4, .int a4), (5, .int a5), (6, .int a6), (7, .int a7)] [.int v2] σ2 K
  refine z_istore (i := 9) (pc' := 18) ⟨by decide +kernel, rfl⟩ (by decide) rfl ?_
  show Wz E Y_H_copy 18 [(9, .int v2), (8, .int v1), (0, .ref 0), (1, .int a1), (2, .int a2), (3, .int a3), (4, .int a4), (5, .int a5), (6, .int a6), (7, .int a7)] [] σ2 K
  refine z_iload (i := 8) (q := 1) (pc' := 20) ⟨by decide +kernel, rfl⟩ rfl ?_
  refine z_bipush (i := (-4)) (v := (-4)) (pc' := 22) ⟨by decide +kernel, rfl⟩ (by decide) ?_
  refine z_icmp_eq (off := 10) (tgt := 32) (pc' := 25) ⟨by decide +kernel, by decide, rfl⟩ (fun h3 => ?_) (fun h3 => ?_)
  · have h := h.1 (qi_eq_t rfl (by decide) h3)
    refine z_iconst (i := (-1)) (v := (-1)) (pc' := 33) ⟨by decide +kernel, rfl⟩ (by decide) ?_
    exact z_iret (ty := .int) rfl (by rfl) (by decide +kernel) (k _ _ h)
  · have h := h.2 (qi_eq_f rfl (by decide) h3)
    refine z_iload (i := 9) (q := 0) (pc' := 27) ⟨by decide +kernel, rfl⟩ rfl ?_
    refine z_bipush (i := (-4)) (v := (-4)) (pc' := 29) ⟨by decide +kernel, rfl⟩ (by decide) ?_
    refine z_icmp_ne (off := 5) (tgt := 34) (pc' := 32) ⟨by decide +kernel, by decide, rfl⟩ (fun h4 => ?_) (fun h4 => ?_)
    · have h := h.2 (qi_ne_t rfl (by decide) h4)
      refine z_aload_n (f := 0) (i := 0) (q := 2) (pc' := 35) ⟨by decide +kernel, rfl⟩ rfl rfl ?_
      refine w_getr (k := 0) (j := 8) (idx := 25) (pc' := 38) yfxe_1_25 ykfa_0_8 ⟨by decide +kernel, rfl⟩ ?_
      refine w_getr (k := 5) (j := 4) (idx := 173) (pc' := 41) yfxe_1_173 ykfa_5_4 ⟨by decide +kernel, rfl⟩ ?_
      refine z_iload (i := 8) (q := 1) (pc' := 43) ⟨by decide +kernel, rfl⟩ rfl ?_
      obtain ⟨n5, hi5, hz5, h⟩ := h
      refine w_iald (k := 7) (n := n5) (pc' := 44) ykaa_7 (hi5) (hz5) ⟨by decide +kernel, rfl⟩ ?_
      refine z_if_eq (off := 16) (tgt := 60) (pc' := 47) ⟨by decide +kernel, by decide, rfl⟩ (fun h6 => ?_) (fun h6 => ?_)
      · have h := h.1 (qi_eq_t rfl (by decide) h6)
        refine z_bipush (i := (-11)) (v := (-11)) (pc' := 62) ⟨by decide +kernel, rfl⟩ (by decide) ?_
        exact z_iret (ty := .int) rfl (by rfl) (by decide +kernel) (k _ _ h)
      · have h := h.2 (qi_eq_f rfl (by decide) h6)
        refine z_aload_n (f := 0) (i := 0) (q := 2) (pc' := 48) ⟨by decide +kernel, rfl⟩ rfl rfl ?_
        refine w_getr (k := 0) (j := 8) (idx := 25) (pc' := 51) yfxe_1_25 ykfa_0_8 ⟨by decide +kernel, rfl⟩ ?_
        refine w_getr (k := 5) (j := 4) (idx := 173) (pc' := 54) yfxe_1_173 ykfa_5_4 ⟨by decide +kernel, rfl⟩ ?_
        refine z_iload (i := 9) (q := 0) (pc' := 56) ⟨by decide +kernel, rfl⟩ rfl ?_
        obtain ⟨n7, hi7, hz7, h⟩ := h
        refine w_iald (k := 7) (n := n7) (pc' := 57) ykaa_7 (hi7) (hz7) ⟨by decide +kernel, rfl⟩ ?_
        refine z_if_ne (off := 6) (tgt := 63) (pc' := 60) ⟨by decide +kernel, by decide, rfl⟩ (fun h8 => ?_) (fun h8 => ?_)
        · have h := h.2 (qi_ne_t rfl (by decide) h8)
          refine z_aload_n (f := 0) (i := 0) (q := 2) (pc' := 64) ⟨by decide +kernel, rfl⟩ rfl rfl ?_
          refine w_getr (k := 0) (j := 8) (idx := 25) (pc' := 67) yfxe_1_25 ykfa_0_8 ⟨by decide +kernel, rfl⟩ ?_
          refine w_getr (k := 5) (j := 4) (idx := 173) (pc' := 70) yfxe_1_173 ykfa_5_4 ⟨by decide +kernel, rfl⟩ ?_
          refine z_iload (i := 8) (q := 1) (pc' := 72) ⟨by decide +kernel, rfl⟩ rfl ?_
          refine w_iald (k := 7) (n := n5) (pc' := 73) ykaa_7 (hi5) (hz5) ⟨by decide +kernel, rfl⟩ ?_
          refine z_aload_n (f := 0) (i := 0) (q := 2) (pc' := 74) ⟨by decide +kernel, rfl⟩ rfl rfl ?_
          refine w_getr (k := 0) (j := 8) (idx := 25) (pc' := 77) yfxe_1_25 ykfa_0_8 ⟨by decide +kernel, rfl⟩ ?_
          refine w_getr (k := 5) (j := 4) (idx := 173) (pc' := 80) yfxe_1_173 ykfa_5_4 ⟨by decide +kernel, rfl⟩ ?_
          refine z_iload (i := 9) (q := 0) (pc' := 82) ⟨by decide +kernel, rfl⟩ rfl ?_
          refine w_iald (k := 7) (n := n7) (pc' := 83) ykaa_7 (hi7) (hz7) ⟨by decide +kernel, rfl⟩ ?_
          refine z_icmp_eq (off := 6) (tgt := 89) (pc' := 86) ⟨by decide +kernel, by decide, rfl⟩ (fun h9 => ?_) (fun h9 => ?_)
          · have h := h.1 (qi_eq_t rfl rfl h9)
            refine z_aload_n (f := 0) (i := 0) (q := 2) (pc' := 90) ⟨by decide +kernel, rfl⟩ rfl rfl ?_
            refine w_getr (k := 0) (j := 8) (idx := 25) (pc' := 93) yfxe_1_25 ykfa_0_8 ⟨by decide +kernel, rfl⟩ ?_
            refine z_iload (i := 8) (q := 1) (pc' := 95) ⟨by decide +kernel, rfl⟩ rfl ?_
            refine z_iload_n (f := 3) (i := 3) (q := 5) (pc' := 96) ⟨by decide +kernel, rfl⟩ rfl rfl ?_
            refine z_iload (i := 7) (q := 9) (pc' := 98) ⟨by decide +kernel, rfl⟩ rfl ?_
            refine w_invV (Z := Y_Wh_hasItems) (idx := 195) (kb := 5) (As := [.int v1, .int a3, .int a7]) (rest := []) (pc' := 101) cl_1_195 rfl ⟨rfl, rfl⟩ ykfa_5_0 rfl ⟨⟨by decide, by decide⟩, rfl, rfl⟩ ⟨by decide +kernel, rfl⟩ rfl rfl (Nat.le_of_ble_eq_true rfl) rfl rfl ?_
            refine sF_Wh_hasItems h (fun v10 σ10 h => ?_)
            show Wz E Y_H_copy 101 [(9, .int v2), (8, .int v1), (0, .ref 0), (1, .int a1), (2, .int a2), (3, .int a3), (4, .int a4), (5, .int a5), (6, .int a6), (7, .int a7)] [.int v10] σ10 K
            refine z_if_eq (off := 19) (tgt := 120) (pc' := 104) ⟨by decide +kernel, by decide, rfl⟩ (fun h11 => ?_) (fun h11 => ?_)
            · have h := h.1 (qi_eq_t rfl (by decide) h11)
              refine z_bipush (i := (-12)) (v := (-12)) (pc' := 122) ⟨by decide +kernel, rfl⟩ (by decide) ?_
              exact z_iret (ty := .int) rfl (by rfl) (by decide +kernel) (k _ _ h)
            · have h := h.2 (qi_eq_f rfl (by decide) h11)
              refine z_aload_n (f := 0) (i := 0) (q := 2) (pc' := 105) ⟨by decide +kernel, rfl⟩ rfl rfl ?_
              refine w_getr (k := 0) (j := 8) (idx := 25) (pc' := 108) yfxe_1_25 ykfa_0_8 ⟨by decide +kernel, rfl⟩ ?_
              refine z_iload (i := 9) (q := 0) (pc' := 110) ⟨by decide +kernel, rfl⟩ rfl ?_
              refine z_iload (i := 6) (q := 8) (pc' := 112) ⟨by decide +kernel, rfl⟩ rfl ?_
              refine z_iload (i := 7) (q := 9) (pc' := 114) ⟨by decide +kernel, rfl⟩ rfl ?_
              refine w_invV (Z := Y_Wh_hasItems) (idx := 195) (kb := 5) (As := [.int v2, .int a6, .int a7]) (rest := []) (pc' := 117) cl_1_195 rfl ⟨rfl, rfl⟩ ykfa_5_0 rfl ⟨⟨by decide, by decide⟩, rfl, rfl⟩ ⟨by decide +kernel, rfl⟩ rfl rfl (Nat.le_of_ble_eq_true rfl) rfl rfl ?_
              refine sF_Wh_hasItems h (fun v12 σ12 h => ?_)
              show Wz E Y_H_copy 117 [(9, .int v2), (8, .int v1), (0, .ref 0), (1, .int a1), (2, .int a2), (3, .int a3), (4, .int a4), (5, .int a5), (6, .int a6), (7, .int a7)] [.int v12] σ12 K
              refine z_if_ne (off := 6) (tgt := 123) (pc' := 120) ⟨by decide +kernel, by decide, rfl⟩ (fun h13 => ?_) (fun h13 => ?_)
              · have h := h.2 (qi_ne_t rfl (by decide) h13)
                refine z_aload_n (f := 0) (i := 0) (q := 2) (pc' := 124) ⟨by decide +kernel, rfl⟩ rfl rfl ?_
                refine w_getr (k := 0) (j := 8) (idx := 25) (pc' := 127) yfxe_1_25 ykfa_0_8 ⟨by decide +kernel, rfl⟩ ?_
                refine w_getr (k := 5) (j := 6) (idx := 191) (pc' := 130) yfxe_1_191 ykfa_5_6 ⟨by decide +kernel, rfl⟩ ?_
                refine z_iload (i := 8) (q := 1) (pc' := 132) ⟨by decide +kernel, rfl⟩ rfl ?_
                refine z_bipush (i := 20) (v := 20) (pc' := 134) ⟨by decide +kernel, rfl⟩ (by decide) ?_
                refine z_imul (pc' := 135) ⟨by decide +kernel, rfl⟩ ?_
                obtain ⟨hb14, h⟩ := h
                have h := h (v1 * 20) (im_ok rfl (by decide) hb14)
                generalize (v1 * 20) = r14 at h ⊢
                refine z_iload_n (f := 3) (i := 3) (q := 5) (pc' := 136) ⟨by decide +kernel, rfl⟩ rfl rfl ?_
                refine z_iadd (pc' := 137) ⟨by decide +kernel, rfl⟩ ?_
                obtain ⟨hb15, h⟩ := h
                have h := h (r14 + a3) (ia_ok rfl rfl hb15)
                generalize (r14 + a3) = r15 at h ⊢
                refine z_aload_n (f := 0) (i := 0) (q := 2) (pc' := 138) ⟨by decide +kernel, rfl⟩ rfl rfl ?_
                refine w_getr (k := 0) (j := 8) (idx := 25) (pc' := 141) yfxe_1_25 ykfa_0_8 ⟨by decide +kernel, rfl⟩ ?_
                refine w_getr (k := 5) (j := 6) (idx := 191) (pc' := 144) yfxe_1_191 ykfa_5_6 ⟨by decide +kernel, rfl⟩ ?_
                refine z_iload (i := 9) (q := 0) (pc' := 146) ⟨by decide +kernel, rfl⟩ rfl ?_
                refine z_bipush (i := 20) (v := 20) (pc' := 148) ⟨by decide +kernel, rfl⟩ (by decide) ?_
                refine z_imul (pc' := 149) ⟨by decide +kernel, rfl⟩ ?_
                obtain ⟨hb16, h⟩ := h
                have h := h (v2 * 20) (im_ok rfl (by decide) hb16)
                generalize (v2 * 20) = r16 at h ⊢
                refine z_iload (i := 6) (q := 8) (pc' := 151) ⟨by decide +kernel, rfl⟩ rfl ?_
                refine z_iadd (pc' := 152) ⟨by decide +kernel, rfl⟩ ?_
                obtain ⟨hb17, h⟩ := h
                have h := h (r16 + a6) (ia_ok rfl rfl hb17)
                generalize (r16 + a6) = r17 at h ⊢
                refine z_iload (i := 7) (q := 9) (pc' := 154) ⟨by decide +kernel, rfl⟩ rfl ?_
                obtain ⟨n19, hi19, h⟩ := h
                obtain ⟨n20, hi20, h⟩ := h
                obtain ⟨n21, hi21, h⟩ := h
                obtain ⟨hg22, h⟩ := h
                refine w_copyl (m := 35) (idx := 199) (k0 := 9) (k1 := 9) (a := n19) (b := n20) (c := n21) (pc' := 157) rfl (by decide) (by decide +kernel) ykaa_9 ykaa_9 (hi19) (hi20) (hi21) hg22 (by decide) (by decide) (Nat.le_of_ble_eq_true rfl) ⟨by decide +kernel, rfl⟩ ?_
                generalize hs23 : zJr σ12 9 (va_cpy (σ12.2 9) (σ12.2 9) n19 n20 n21) = σ23
                have h := h σ23 hs23
                refine z_iload (i := 7) (q := 9) (pc' := 159) ⟨by decide +kernel, rfl⟩ rfl ?_
                exact z_iret (ty := .int) rfl (by rfl) (by decide +kernel) (k _ _ h)
              · have h := h.1 (qi_ne_f rfl (by decide) h13)
                refine z_bipush (i := (-12)) (v := (-12)) (pc' := 122) ⟨by decide +kernel, rfl⟩ (by decide) ?_
                exact z_iret (ty := .int) rfl (by rfl) (by decide +kernel) (k _ _ h)
          · have h := h.2 (qi_eq_f rfl rfl h9)
            refine z_bipush (i := (-14)) (v := (-14)) (pc' := 88) ⟨by decide +kernel, rfl⟩ (by decide) ?_
            exact z_iret (ty := .int) rfl (by rfl) (by decide +kernel) (k _ _ h)
        · have h := h.1 (qi_ne_f rfl (by decide) h8)
          refine z_bipush (i := (-11)) (v := (-11)) (pc' := 62) ⟨by decide +kernel, rfl⟩ (by decide) ?_
          exact z_iret (ty := .int) rfl (by rfl) (by decide +kernel) (k _ _ h)
    · have h := h.1 (qi_ne_f rfl (by decide) h4)
      refine z_iconst (i := (-1)) (v := (-1)) (pc' := 33) ⟨by decide +kernel, rfl⟩ (by decide) ?_
      exact z_iret (ty := .int) rfl (by rfl) (by decide +kernel) (k _ _ h)
noncomputable def WB_Th_closeHolds_2 (F2 : Int32 → zS → (Unit → zS → Prop) → Prop) (F32 : Int32 → zS → (Unit → zS → Prop) → Prop) (F40 : Int32 → Int32 → zS → (Unit → zS → Prop) → Prop) (x1 : Int32) (σ : zS) (Q : Unit → zS → Prop) : Prop := (6 ≤ (Int32.toInt x1) → (F32 0 σ Q)) ∧ (¬ 6 ≤ (Int32.toInt x1) → (∃ n2 : Nat, Int32.toInt x1 = (n2 : Int) ∧ n2 < 6 ∧ (∀ σ3 : zS, zI σ 16 n2 ((σ.1 15 n2) ||| (1 <<< (x1 &&& 31))) = σ3 → ((-2147483648 ≤ (Int32.toInt x1) + 1 ∧ (Int32.toInt x1) + 1 ≤ 2147483647) ∧ ∀ r4 : Int32, r4.toInt = (Int32.toInt x1) + 1 → (F2 r4 σ3 Q)))))
theorem sh_Th_closeHolds_2 {E : xV} {σ : zS} {K : zKt} {F2 : Int32 → zS → (Unit → zS → Prop) → Prop} {F32 : Int32 → zS → (Unit → zS → Prop) → Prop} {F40 : Int32 → Int32 → zS → (Unit → zS → Prop) → Prop} {x1 : Int32} {Q : Unit → zS → Prop} (f2 : ∀ (x1 : Int32) (σ : zS), F2 x1 σ Q → Wz E Y_Th_closeHolds 2 [(0, .ref 10), (1, .int x1)] [] σ K) (f32 : ∀ (x1 : Int32) (σ : zS), F32 x1 σ Q → Wz E Y_Th_closeHolds 32 [(0, .ref 10), (1, .int x1)] [] σ K) (f40 : ∀ (x1 : Int32) (x2 : Int32) (σ : zS), F40 x1 x2 σ Q → Wz E Y_Th_closeHolds 40 [(0, .ref 10), (1, .int x1), (2, .int x2)] [] σ K) (k : ∀ v s, Q v s → K none s) (h : WB_Th_closeHolds_2 F2 F32 F40 x1 σ Q) : Wz E Y_Th_closeHolds 2 [(0, .ref 10), (1, .int x1)] [] σ K := by
  unfold WB_Th_closeHolds_2 at h
  refine z_iload_n (f := 1) (i := 1) (q := 1) (pc' := 3) ⟨by decide +kernel, rfl⟩ rfl rfl ?_
  refine z_bipush (i := 6) (v := 6) (pc' := 5) ⟨by decide +kernel, rfl⟩ (by decide) ?_
  refine z_icmp_ge (off := 25) (tgt := 30) (pc' := 8) ⟨by decide +kernel, by decide, rfl⟩ (fun h1 => ?_) (fun h1 => ?_)
  · have h := h.1 (qi_ge_t rfl (by decide) h1)
    refine z_iconst (i := 0) (v := 0) (pc' := 31) ⟨by decide +kernel, rfl⟩ (by decide) ?_
    refine z_istore_n (f := 1) (i := 1) (pc' := 32) ⟨by decide +kernel, rfl⟩ rfl (by decide) rfl ?_
    show Wz E Y_Th_closeHolds 32 [(1, .int 0), (0, .ref 10)] [] σ K
    refine z_sub [1, 0] rfl ?_
    exact f32 _ _ h
  · have h := h.2 (qi_ge_f rfl (by decide) h1)
    refine z_aload_n (f := 0) (i := 0) (q := 0) (pc' := 9) ⟨by decide +kernel, rfl⟩ rfl rfl ?_
    refine w_getr (k := 10) (j := 6) (idx := 28) (pc' := 12) yfxe_10_28 ykfa_10_6 ⟨by decide +kernel, rfl⟩ ?_
    refine z_iload_n (f := 1) (i := 1) (q := 1) (pc' := 13) ⟨by decide +kernel, rfl⟩ rfl rfl ?_
    refine z_aload_n (f := 0) (i := 0) (q := 0) (pc' := 14) ⟨by decide +kernel, rfl⟩ rfl rfl ?_
    refine w_getr (k := 10) (j := 5) (idx := 25) (pc' := 17) yfxe_10_25 ykfa_10_5 ⟨by decide +kernel, rfl⟩ ?_
    refine z_iload_n (f := 1) (i := 1) (q := 1) (pc' := 18) ⟨by decide +kernel, rfl⟩ rfl rfl ?_
    obtain ⟨n2, hi2, hz2, h⟩ := h
    refine w_iald (k := 15) (n := n2) (pc' := 19) ykaa_15 (hi2) (hz2) ⟨by decide +kernel, rfl⟩ ?_
    refine z_iconst (i := 1) (v := 1) (pc' := 20) ⟨by decide +kernel, rfl⟩ (by decide) ?_
    refine z_iload_n (f := 1) (i := 1) (q := 1) (pc' := 21) ⟨by decide +kernel, rfl⟩ rfl rfl ?_
    refine z_ishl (pc' := 22) ⟨by decide +kernel, rfl⟩ ?_
    refine z_ior (pc' := 23) ⟨by decide +kernel, rfl⟩ ?_
    refine w_iast (k := 16) (n := n2) (pc' := 24) ykaa_16 (hi2) (hz2) ⟨by decide +kernel, rfl⟩ ?_
    generalize hs3 : zI σ 16 n2 ((σ.1 15 n2) ||| (1 <<< (x1 &&& 31))) = σ3
    have h := h σ3 hs3
    refine z_iinc (i := 1) (z := 1) (q := 1) (pc' := 27) ⟨by decide +kernel, rfl⟩ rfl rfl (by decide) rfl ?_
    show Wz E Y_Th_closeHolds 27 [(1, .int (x1 + Int32.ofInt 1)), (0, .ref 10)] [] σ3 K
    obtain ⟨hb4, h⟩ := h
    have h := h (x1 + Int32.ofInt 1) (ia_ok rfl (by decide) hb4)
    generalize (x1 + Int32.ofInt 1) = r4 at h ⊢
    refine z_goto (off := (-25)) (tgt := 2) (pc' := 30) ⟨by decide +kernel, by decide, rfl⟩ ?_
    refine z_sub [1, 0] rfl ?_
    exact f2 _ _ h
noncomputable def WB_Th_closeHolds_32 (F2 : Int32 → zS → (Unit → zS → Prop) → Prop) (F32 : Int32 → zS → (Unit → zS → Prop) → Prop) (F40 : Int32 → Int32 → zS → (Unit → zS → Prop) → Prop) (x1 : Int32) (σ : zS) (Q : Unit → zS → Prop) : Prop := (6 ≤ (Int32.toInt x1) → (Q () σ)) ∧ (¬ 6 ≤ (Int32.toInt x1) → (F40 x1 0 σ Q))
theorem sh_Th_closeHolds_32 {E : xV} {σ : zS} {K : zKt} {F2 : Int32 → zS → (Unit → zS → Prop) → Prop} {F32 : Int32 → zS → (Unit → zS → Prop) → Prop} {F40 : Int32 → Int32 → zS → (Unit → zS → Prop) → Prop} {x1 : Int32} {Q : Unit → zS → Prop} (f2 : ∀ (x1 : Int32) (σ : zS), F2 x1 σ Q → Wz E Y_Th_closeHolds 2 [(0, .ref 10), (1, .int x1)] [] σ K) (f32 : ∀ (x1 : Int32) (σ : zS), F32 x1 σ Q → Wz E Y_Th_closeHolds 32 [(0, .ref 10), (1, .int x1)] [] σ K) (f40 : ∀ (x1 : Int32) (x2 : Int32) (σ : zS), F40 x1 x2 σ Q → Wz E Y_Th_closeHolds 40 [(0, .ref 10), (1, .int x1), (2, .int x2)] [] σ K) (k : ∀ v s, Q v s → K none s) (h : WB_Th_closeHolds_32 F2 F32 F40 x1 σ Q) : Wz E Y_Th_closeHolds 32 [(0, .ref 10), (1, .int x1)] [] σ K := by
  unfold WB_Th_closeHolds_32 at h
  refine z_iload_n (f := 1) (i := 1) (q := 1) (pc' := 33) ⟨by decide +kernel, rfl⟩ rfl rfl ?_
  refine z_bipush (i := 6) (v := 6) (pc' := 35) ⟨by decide +kernel, rfl⟩ (by decide) ?_
  refine z_icmp_ge (off := 52) (tgt := 87) (pc' := 38) ⟨by decide +kernel, by decide, rfl⟩ (fun h1 => ?_) (fun h1 => ?_)
  · have h := h.1 (qi_ge_t rfl (by decide) h1)
    exact z_vret rfl (by decide +kernel) (k _ _ h)
  · have h := h.2 (qi_ge_f rfl (by decide) h1)
    refine z_iconst (i := 0) (v := 0) (pc' := 39) ⟨by decide +kernel, rfl⟩ (by decide) ?_
    refine z_istore_n (f := 2) (i := 2) (pc' := 40) ⟨by decide +kernel, rfl⟩ rfl (by decide) rfl ?_
    show Wz E Y_Th_closeHolds 40 [(2, .int 0), (0, .ref 10), (1, .int x1)] [] σ K
    refine z_sub [1, 2, 0] rfl ?_
    exact f40 _ _ _ h
noncomputable def WB_Th_closeHolds_40 (F2 : Int32 → zS → (Unit → zS → Prop) → Prop) (F32 : Int32 → zS → (Unit → zS → Prop) → Prop) (F40 : Int32 → Int32 → zS → (Unit → zS → Prop) → Prop) (x1 : Int32) (x2 : Int32) (σ : zS) (Q : Unit → zS → Prop) : Prop := (6 ≤ (Int32.toInt x2) → ((-2147483648 ≤ (Int32.toInt x1) + 1 ∧ (Int32.toInt x1) + 1 ≤ 2147483647) ∧ ∀ r2 : Int32, r2.toInt = (Int32.toInt x1) + 1 → (F32 r2 σ Q))) ∧ (¬ 6 ≤ (Int32.toInt x2) → (∃ n3 : Nat, Int32.toInt x2 = (n3 : Int) ∧ n3 < 6 ∧ (((Int32.toInt (((σ.1 16 n3) >>> (x1 &&& 31)) &&& 1)) = 1 → (∃ n6 : Nat, Int32.toInt x1 = (n6 : Int) ∧ n6 < 6 ∧ (∀ σ7 : zS, zI σ 16 n3 ((σ.1 16 n3) ||| (σ.1 16 n6)) = σ7 → ((-2147483648 ≤ (Int32.toInt x2) + 1 ∧ (Int32.toInt x2) + 1 ≤ 2147483647) ∧ ∀ r8 : Int32, r8.toInt = (Int32.toInt x2) + 1 → (F40 x1 r8 σ7 Q))))) ∧ (¬ (Int32.toInt (((σ.1 16 n3) >>> (x1 &&& 31)) &&& 1)) = 1 → ((-2147483648 ≤ (Int32.toInt x2) + 1 ∧ (Int32.toInt x2) + 1 ≤ 2147483647) ∧ ∀ r5 : Int32, r5.toInt = (Int32.toInt x2) + 1 → (F40 x1 r5 σ Q))))))
theorem sh_Th_closeHolds_40 {E : xV} {σ : zS} {K : zKt} {F2 : Int32 → zS → (Unit → zS → Prop) → Prop} {F32 : Int32 → zS → (Unit → zS → Prop) → Prop} {F40 : Int32 → Int32 → zS → (Unit → zS → Prop) → Prop} {x1 : Int32} {x2 : Int32} {Q : Unit → zS → Prop} (f2 : ∀ (x1 : Int32) (σ : zS), F2 x1 σ Q → Wz E Y_Th_closeHolds 2 [(0, .ref 10), (1, .int x1)] [] σ K) (f32 : ∀ (x1 : Int32) (σ : zS), F32 x1 σ Q → Wz E Y_Th_closeHolds 32 [(0, .ref 10), (1, .int x1)] [] σ K) (f40 : ∀ (x1 : Int32) (x2 : Int32) (σ : zS), F40 x1 x2 σ Q → Wz E Y_Th_closeHolds 40 [(0, .ref 10), (1, .int x1), (2, .int x2)] [] σ K) (k : ∀ v s, Q v s → K none s) (h : WB_Th_closeHolds_40 F2 F32 F40 x1 x2 σ Q) : Wz E Y_Th_closeHolds 40 [(0, .ref 10), (1, .int x1), (2, .int x2)] [] σ K := by
  unfold WB_Th_closeHolds_40 at h
  refine z_iload_n (f := 2) (i := 2) (q := 2) (pc' := 41) ⟨by decide +kernel, rfl⟩ rfl rfl ?_
  refine z_bipush (i := 6) (v := 6) (pc' := 43) ⟨by decide +kernel, rfl⟩ (by decide) ?_
  refine z_icmp_ge (off := 38) (tgt := 81) (pc' := 46) ⟨by decide +kernel, by decide, rfl⟩ (fun h1 => ?_) (fun h1 => ?_)
  · have h := h.1 (qi_ge_t rfl (by decide) h1)
    refine z_iinc (i := 1) (z := 1) (q := 1) (pc' := 84) ⟨by decide +kernel, rfl⟩ rfl rfl (by decide) rfl ?_
    show Wz E Y_Th_closeHolds 84 [(1, .int (x1 + Int32.ofInt 1)), (0, .ref 10), (2, .int x2)] [] σ K
    obtain ⟨hb2, h⟩ := h
    have h := h (x1 + Int32.ofInt 1) (ia_ok rfl (by decide) hb2)
    generalize (x1 + Int32.ofInt 1) = r2 at h ⊢
    refine z_goto (off := (-52)) (tgt := 32) (pc' := 87) ⟨by decide +kernel, by decide, rfl⟩ ?_
    refine z_sub [1, 0] rfl ?_
    exact f32 _ _ h
  · have h := h.2 (qi_ge_f rfl (by decide) h1)
    refine z_aload_n (f := 0) (i := 0) (q := 0) (pc' := 47) ⟨by decide +kernel, rfl⟩ rfl rfl ?_
    refine w_getr (k := 10) (j := 6) (idx := 28) (pc' := 50) yfxe_10_28 ykfa_10_6 ⟨by decide +kernel, rfl⟩ ?_
    refine z_iload_n (f := 2) (i := 2) (q := 2) (pc' := 51) ⟨by decide +kernel, rfl⟩ rfl rfl ?_
    obtain ⟨n3, hi3, hz3, h⟩ := h
    refine w_iald (k := 16) (n := n3) (pc' := 52) ykaa_16 (hi3) (hz3) ⟨by decide +kernel, rfl⟩ ?_
    refine z_iload_n (f := 1) (i := 1) (q := 1) (pc' := 53) ⟨by decide +kernel, rfl⟩ rfl rfl ?_
    refine z_ishr (pc' := 54) ⟨by decide +kernel, rfl⟩ ?_
    refine z_iconst (i := 1) (v := 1) (pc' := 55) ⟨by decide +kernel, rfl⟩ (by decide) ?_
    refine z_iand (pc' := 56) ⟨by decide +kernel, rfl⟩ ?_
    refine z_iconst (i := 1) (v := 1) (pc' := 57) ⟨by decide +kernel, rfl⟩ (by decide) ?_
    refine z_icmp_ne (off := 18) (tgt := 75) (pc' := 60) ⟨by decide +kernel, by decide, rfl⟩ (fun h4 => ?_) (fun h4 => ?_)
    · have h := h.2 (qi_ne_t rfl (by decide) h4)
      refine z_iinc (i := 2) (z := 1) (q := 2) (pc' := 78) ⟨by decide +kernel, rfl⟩ rfl rfl (by decide) rfl ?_
      show Wz E Y_Th_closeHolds 78 [(2, .int (x2 + Int32.ofInt 1)), (0, .ref 10), (1, .int x1)] [] σ K
      obtain ⟨hb5, h⟩ := h
      have h := h (x2 + Int32.ofInt 1) (ia_ok rfl (by decide) hb5)
      generalize (x2 + Int32.ofInt 1) = r5 at h ⊢
      refine z_goto (off := (-38)) (tgt := 40) (pc' := 81) ⟨by decide +kernel, by decide, rfl⟩ ?_
      refine z_sub [1, 2, 0] rfl ?_
      exact f40 _ _ _ h
    · have h := h.1 (qi_ne_f rfl (by decide) h4)
      refine z_aload_n (f := 0) (i := 0) (q := 0) (pc' := 61) ⟨by decide +kernel, rfl⟩ rfl rfl ?_
      refine w_getr (k := 10) (j := 6) (idx := 28) (pc' := 64) yfxe_10_28 ykfa_10_6 ⟨by decide +kernel, rfl⟩ ?_
      refine z_iload_n (f := 2) (i := 2) (q := 2) (pc' := 65) ⟨by decide +kernel, rfl⟩ rfl rfl ?_
      refine z_dup2ir (pc' := 66) ⟨by decide +kernel, rfl⟩ ?_
      refine w_iald (k := 16) (n := n3) (pc' := 67) ykaa_16 (hi3) (hz3) ⟨by decide +kernel, rfl⟩ ?_
      refine z_aload_n (f := 0) (i := 0) (q := 0) (pc' := 68) ⟨by decide +kernel, rfl⟩ rfl rfl ?_
      refine w_getr (k := 10) (j := 6) (idx := 28) (pc' := 71) yfxe_10_28 ykfa_10_6 ⟨by decide +kernel, rfl⟩ ?_
      refine z_iload_n (f := 1) (i := 1) (q := 1) (pc' := 72) ⟨by decide +kernel, rfl⟩ rfl rfl ?_
      obtain ⟨n6, hi6, hz6, h⟩ := h
      refine w_iald (k := 16) (n := n6) (pc' := 73) ykaa_16 (hi6) (hz6) ⟨by decide +kernel, rfl⟩ ?_
      refine z_ior (pc' := 74) ⟨by decide +kernel, rfl⟩ ?_
      refine w_iast (k := 16) (n := n3) (pc' := 75) ykaa_16 (hi3) (hz3) ⟨by decide +kernel, rfl⟩ ?_
      generalize hs7 : zI σ 16 n3 ((σ.1 16 n3) ||| (σ.1 16 n6)) = σ7
      have h := h σ7 hs7
      refine z_iinc (i := 2) (z := 1) (q := 2) (pc' := 78) ⟨by decide +kernel, rfl⟩ rfl rfl (by decide) rfl ?_
      show Wz E Y_Th_closeHolds 78 [(2, .int (x2 + Int32.ofInt 1)), (0, .ref 10), (1, .int x1)] [] σ7 K
      obtain ⟨hb8, h⟩ := h
      have h := h (x2 + Int32.ofInt 1) (ia_ok rfl (by decide) hb8)
      generalize (x2 + Int32.ofInt 1) = r8 at h ⊢
      refine z_goto (off := (-38)) (tgt := 40) (pc' := 81) ⟨by decide +kernel, by decide, rfl⟩ ?_
      refine z_sub [1, 2, 0] rfl ?_
      exact f40 _ _ _ h
noncomputable def WL_Th_closeHolds : Nat → (Int32 → zS → (Unit → zS → Prop) → Prop) × (Int32 → zS → (Unit → zS → Prop) → Prop) × (Int32 → Int32 → zS → (Unit → zS → Prop) → Prop)
  | 0 => (fun _ _ _ => False, (fun _ _ _ => False, fun _ _ _ _ => False))
  | n + 1 => (WB_Th_closeHolds_2 (WL_Th_closeHolds n).1 (WL_Th_closeHolds n).2.1 (WL_Th_closeHolds n).2.2, (WB_Th_closeHolds_32 (WL_Th_closeHolds n).1 (WL_Th_closeHolds n).2.1 (WL_Th_closeHolds n).2.2, WB_Th_closeHolds_40 (WL_Th_closeHolds n).1 (WL_Th_closeHolds n).2.1 (WL_Th_closeHolds n).2.2))
theorem wl_Th_closeHolds_2 {n : Nat} {x1 : Int32} {σ : zS} {Q : Unit → zS → Prop} (h : WB_Th_closeHolds_2 (WL_Th_closeHolds n).1 (WL_Th_closeHolds n).2.1 (WL_Th_closeHolds n).2.2 x1 σ Q) : (WL_Th_closeHolds (n + 1)).1 x1 σ Q := h
theorem wl_Th_closeHolds_32 {n : Nat} {x1 : Int32} {σ : zS} {Q : Unit → zS → Prop} (h : WB_Th_closeHolds_32 (WL_Th_closeHolds n).1 (WL_Th_closeHolds n).2.1 (WL_Th_closeHolds n).2.2 x1 σ Q) : (WL_Th_closeHolds (n + 1)).2.1 x1 σ Q := h
theorem wl_Th_closeHolds_40 {n : Nat} {x1 : Int32} {x2 : Int32} {σ : zS} {Q : Unit → zS → Prop} (h : WB_Th_closeHolds_40 (WL_Th_closeHolds n).1 (WL_Th_closeHolds n).2.1 (WL_Th_closeHolds n).2.2 x1 x2 σ Q) : (WL_Th_closeHolds (n + 1)).2.2 x1 x2 σ Q := h
theorem sl_Th_closeHolds {E : xV} {K : zKt} {Q : Unit → zS → Prop} (k : ∀ v s, Q v s → K none s) : ∀ n, (∀ (x1 : Int32) (σ : zS), (WL_Th_closeHolds n).1 x1 σ Q → Wz E Y_Th_closeHolds 2 [(0, .ref 10), (1, .int x1)] [] σ K) ∧ (∀ (x1 : Int32) (σ : zS), (WL_Th_closeHolds n).2.1 x1 σ Q → Wz E Y_Th_closeHolds 32 [(0, .ref 10), (1, .int x1)] [] σ K) ∧ (∀ (x1 : Int32) (x2 : Int32) (σ : zS), (WL_Th_closeHolds n).2.2 x1 x2 σ Q → Wz E Y_Th_closeHolds 40 [(0, .ref 10), (1, .int x1), (2, .int x2)] [] σ K)
  | 0 => ⟨fun _ _ h => h.elim, fun _ _ h => h.elim, fun _ _ _ h => h.elim⟩
  | n + 1 => by
    have i := sl_Th_closeHolds (E := E)  k n
    exact ⟨fun _ _ h => sh_Th_closeHolds_2 i.1 i.2.1 i.2.2 k h, fun _ _ h => sh_Th_closeHolds_32 i.1 i.2.1 i.2.2 k h, fun _ _ _ h => sh_Th_closeHolds_40 i.1 i.2.1 i.2.2 k h⟩
noncomputable def W_Th_closeHolds  (σ : zS) (Q : Unit → zS → Prop) : Prop := (WL_Th_closeHolds fuF).1 0 σ Q
theorem sF_Th_closeHolds {E : xV} {σ : zS} {K : zKt}  {Q : Unit → zS → Prop} (h : W_Th_closeHolds  σ Q) (k : ∀ v s, Q v s → K none s) : Cz E Y_Th_closeHolds [.ref 10] σ K := by
  refine z_entry (by decide) (fun a => by rw [sl_len]; exact Nat.le_of_ble_eq_true rfl) rfl ?_
  unfold W_Th_closeHolds at h
  refine z_iconst (i := 0) (v := 0) (pc' := 1) ⟨by decide +kernel, rfl⟩ (by decide) ?_
  refine z_istore_n (f := 1) (i := 1) (pc' := 2) ⟨by decide +kernel, rfl⟩ rfl (by decide) rfl ?_
  show Wz E Y_Th_closeHolds 2 [(1, .int 0), (0, .ref 10)] [] σ K
  refine z_sub [1, 0] rfl ?_
  exact (sl_Th_closeHolds k fuF).1 _ _ h
noncomputable def W_Th_tellHolds_b55 (x3 : Int32) (x4 : Int32) (y0 : Int32) (y1 : Int32) (σ : zS) (Q : Int32 → zS → Prop) : Prop := ∃ n1 : Nat, Int32.toInt y1 = (n1 : Int) ∧ n1 < 6 ∧ (∀ σ2 : zS, zI σ 15 n1 y0 = σ2 → (W_Th_closeHolds  σ2 (fun _ σ3 => ((Int32.toInt x4) = (Int32.toInt x3) → (Q 0 σ3)) ∧ (¬ (Int32.toInt x4) = (Int32.toInt x3) → (Q 1 σ3)))))
theorem sb_Th_tellHolds_55 {E : xV} {σ : zS} {K : zKt} {x3 : Int32} {x4 : Int32} {y0 : Int32} {y1 : Int32} {Q : Int32 → zS → Prop} (k : ∀ v s, Q v s → K (some (.int v)) s) (h : W_Th_tellHolds_b55 x3 x4 y0 y1 σ Q) : Wz E Y_Th_tellHolds 55 [(0, .ref 10), (3, .int x3), (4, .int x4)] [.int y0, .int y1, .ref 15] σ K := by
  unfold W_Th_tellHolds_b55 at h
  obtain ⟨n1, hi1, hz1, h⟩ := h
  refine w_iast (k := 15) (n := n1) (pc' := 56) ykaa_15 (hi1) (hz1) ⟨by decide +kernel, rfl⟩ ?_
  generalize hs2 : zI σ 15 n1 y0 = σ2
  have h := h σ2 hs2
  refine z_aload_n (f := 0) (i := 0) (q := 0) (pc' := 57) ⟨by decide +kernel, rfl⟩ rfl rfl ?_
  refine w_invV (Z := Y_Th_closeHolds) (idx := 35) (kb := 10) (As := []) (rest := []) (pc' := 60) cl_10_35 rfl ⟨rfl, rfl⟩ ykfa_10_0 rfl ⟨⟨by decide, by decide⟩, rfl, rfl⟩ ⟨by decide +kernel, rfl⟩ rfl rfl (Nat.le_of_ble_eq_true rfl) rfl rfl ?_
  refine sF_Th_closeHolds h (fun _ σ3 h => ?_)
  show Wz E Y_Th_tellHolds 60 [(0, .ref 10), (3, .int x3), (4, .int x4)] [] σ3 K
  refine z_iload (i := 4) (q := 2) (pc' := 62) ⟨by decide +kernel, rfl⟩ rfl ?_
  refine z_iload_n (f := 3) (i := 3) (q := 1) (pc' := 63) ⟨by decide +kernel, rfl⟩ rfl rfl ?_
  refine z_icmp_eq (off := 7) (tgt := 70) (pc' := 66) ⟨by decide +kernel, by decide, rfl⟩ (fun h4 => ?_) (fun h4 => ?_)
  · have h := h.1 (qi_eq_t rfl rfl h4)
    refine z_iconst (i := 0) (v := 0) (pc' := 71) ⟨by decide +kernel, rfl⟩ (by decide) ?_
    exact z_iret (ty := .boolean) rfl (by rfl) (by decide +kernel) (k _ _ h)
  · have h := h.2 (qi_eq_f rfl rfl h4)
    refine z_iconst (i := 1) (v := 1) (pc' := 67) ⟨by decide +kernel, rfl⟩ (by decide) ?_
    refine z_goto (off := 4) (tgt := 71) (pc' := 70) ⟨by decide +kernel, by decide, rfl⟩ ?_
    exact z_iret (ty := .boolean) rfl (by rfl) (by decide +kernel) (k _ _ h)
noncomputable def W_Th_tellHolds_b19 (x1 : Int32) (x2 : Int32) (x3 : Int32) (y0 : Int32) (σ : zS) (Q : Int32 → zS → Prop) : Prop := ((Int32.toInt x3) = 0 → (∃ n2 : Nat, Int32.toInt x1 = (n2 : Int) ∧ n2 < 6 ∧ (W_Th_tellHolds_b55  x3 y0 ((σ.1 15 n2) &&& ((1 <<< (x2 &&& 31)) ^^^ (-1))) x1 σ Q))) ∧ (¬ (Int32.toInt x3) = 0 → (∃ n3 : Nat, Int32.toInt x1 = (n3 : Int) ∧ n3 < 6 ∧ (W_Th_tellHolds_b55  x3 y0 ((σ.1 15 n3) ||| (1 <<< (x2 &&& 31))) x1 σ Q)))
theorem sb_Th_tellHolds_19 {E : xV} {σ : zS} {K : zKt} {x1 : Int32} {x2 : Int32} {x3 : Int32} {y0 : Int32} {Q : Int32 → zS → Prop} (k : ∀ v s, Q v s → K (some (.int v)) s) (h : W_Th_tellHolds_b19 x1 x2 x3 y0 σ Q) : Wz E Y_Th_tellHolds 19 [(0, .ref 10), (1, .int x1), (2, .int x2), (3, .int x3)] [.int y0] σ K := by
  unfold W_Th_tellHolds_b19 at h
  refine z_istore (i := 4) (pc' := 21) ⟨by decide +kernel, rfl⟩ (by decide) rfl ?_
  show Wz E Y_Th_tellHolds 21 [(4, .int y0), (0, .ref 10), (1, .int x1), (2, .int x2), (3, .int x3)] [] σ K
  refine z_aload_n (f := 0) (i := 0) (q := 1) (pc' := 22) ⟨by decide +kernel, rfl⟩ rfl rfl ?_
  refine w_getr (k := 10) (j := 5) (idx := 25) (pc' := 25) yfxe_10_25 ykfa_10_5 ⟨by decide +kernel, rfl⟩ ?_
  refine z_iload_n (f := 1) (i := 1) (q := 2) (pc' := 26) ⟨by decide +kernel, rfl⟩ rfl rfl ?_
  refine z_iload_n (f := 3) (i := 3) (q := 4) (pc' := 27) ⟨by decide +kernel, rfl⟩ rfl rfl ?_
  refine z_if_eq (off := 16) (tgt := 43) (pc' := 30) ⟨by decide +kernel, by decide, rfl⟩ (fun h1 => ?_) (fun h1 => ?_)
  · have h := h.1 (qi_eq_t rfl (by decide) h1)
    refine z_aload_n (f := 0) (i := 0) (q := 1) (pc' := 44) ⟨by decide +kernel, rfl⟩ rfl rfl ?_
    refine w_getr (k := 10) (j := 5) (idx := 25) (pc' := 47) yfxe_10_25 ykfa_10_5 ⟨by decide +kernel, rfl⟩ ?_
    refine z_iload_n (f := 1) (i := 1) (q := 2) (pc' := 48) ⟨by decide +kernel, rfl⟩ rfl rfl ?_
    obtain ⟨n2, hi2, hz2, h⟩ := h
    refine w_iald (k := 15) (n := n2) (pc' := 49) ykaa_15 (hi2) (hz2) ⟨by decide +kernel, rfl⟩ ?_
    refine z_iconst (i := 1) (v := 1) (pc' := 50) ⟨by decide +kernel, rfl⟩ (by decide) ?_
    refine z_iload_n (f := 2) (i := 2) (q := 3) (pc' := 51) ⟨by decide +kernel, rfl⟩ rfl rfl ?_
    refine z_ishl (pc' := 52) ⟨by decide +kernel, rfl⟩ ?_
    refine z_iconst (i := (-1)) (v := (-1)) (pc' := 53) ⟨by decide +kernel, rfl⟩ (by decide) ?_
    refine z_ixor (pc' := 54) ⟨by decide +kernel, rfl⟩ ?_
    refine z_iand (pc' := 55) ⟨by decide +kernel, rfl⟩ ?_
    refine z_sub [1, 4, 0] rfl ?_
    exact sb_Th_tellHolds_55  k h
  · have h := h.2 (qi_eq_f rfl (by decide) h1)
    refine z_aload_n (f := 0) (i := 0) (q := 1) (pc' := 31) ⟨by decide +kernel, rfl⟩ rfl rfl ?_
    refine w_getr (k := 10) (j := 5) (idx := 25) (pc' := 34) yfxe_10_25 ykfa_10_5 ⟨by decide +kernel, rfl⟩ ?_
    refine z_iload_n (f := 1) (i := 1) (q := 2) (pc' := 35) ⟨by decide +kernel, rfl⟩ rfl rfl ?_
    obtain ⟨n3, hi3, hz3, h⟩ := h
    refine w_iald (k := 15) (n := n3) (pc' := 36) ykaa_15 (hi3) (hz3) ⟨by decide +kernel, rfl⟩ ?_
    refine z_iconst (i := 1) (v := 1) (pc' := 37) ⟨by decide +kernel, rfl⟩ (by decide) ?_
    refine z_iload_n (f := 2) (i := 2) (q := 3) (pc' := 38) ⟨by decide +kernel, rfl⟩ rfl rfl ?_
    refine z_ishl (pc' := 39) ⟨by decide +kernel, rfl⟩ ?_
    refine z_ior (pc' := 40) ⟨by decide +kernel, rfl⟩ ?_
    refine z_goto (off := 15) (tgt := 55) (pc' := 43) ⟨by decide +kernel, by decide, rfl⟩ ?_
    refine z_sub [1, 4, 0] rfl ?_
    exact sb_Th_tellHolds_55  k h
noncomputable def W_Th_tellHolds (a1 : Int32) (a2 : Int32) (a3 : Int32) (σ : zS) (Q : Int32 → zS → Prop) : Prop := ∃ n1 : Nat, Int32.toInt a1 = (n1 : Int) ∧ n1 < 6 ∧ (((Int32.toInt (((σ.1 15 n1) >>> (a2 &&& 31)) &&& 1)) = 1 → (W_Th_tellHolds_b19  a1 a2 a3 1 σ Q)) ∧ (¬ (Int32.toInt (((σ.1 15 n1) >>> (a2 &&& 31)) &&& 1)) = 1 → (W_Th_tellHolds_b19  a1 a2 a3 0 σ Q)))
theorem sF_Th_tellHolds {E : xV} {σ : zS} {K : zKt} {a1 : Int32} {a2 : Int32} {a3 : Int32} {Q : Int32 → zS → Prop} (h : W_Th_tellHolds a1 a2 a3 σ Q) (k : ∀ v s, Q v s → K (some (.int v)) s) : Cz E Y_Th_tellHolds [.ref 10, .int a1, .int a2, .int a3] σ K := by
  refine z_entry (by decide) (fun a => by rw [sl_len]; exact Nat.le_of_ble_eq_true rfl) rfl ?_
  unfold W_Th_tellHolds at h
  refine z_aload_n (f := 0) (i := 0) (q := 0) (pc' := 1) ⟨by decide +kernel, rfl⟩ rfl rfl ?_
  refine w_getr (k := 10) (j := 5) (idx := 25) (pc' := 4) yfxe_10_25 ykfa_10_5 ⟨by decide +kernel, rfl⟩ ?_
  refine z_iload_n (f := 1) (i := 1) (q := 1) (pc' := 5) ⟨by decide +kernel, rfl⟩ rfl rfl ?_
  obtain ⟨n1, hi1, hz1, h⟩ := h
  refine w_iald (k := 15) (n := n1) (pc' := 6) ykaa_15 (hi1) (hz1) ⟨by decide +kernel, rfl⟩ ?_
  refine z_iload_n (f := 2) (i := 2) (q := 2) (pc' := 7) ⟨by decide +kernel, rfl⟩ rfl rfl ?_
  refine z_ishr (pc' := 8) ⟨by decide +kernel, rfl⟩ ?_
  refine z_iconst (i := 1) (v := 1) (pc' := 9) ⟨by decide +kernel, rfl⟩ (by decide) ?_
  refine z_iand (pc' := 10) ⟨by decide +kernel, rfl⟩ ?_
  refine z_iconst (i := 1) (v := 1) (pc' := 11) ⟨by decide +kernel, rfl⟩ (by decide) ?_
  refine z_icmp_ne (off := 7) (tgt := 18) (pc' := 14) ⟨by decide +kernel, by decide, rfl⟩ (fun h2 => ?_) (fun h2 => ?_)
  · have h := h.2 (qi_ne_t rfl (by decide) h2)
    refine z_iconst (i := 0) (v := 0) (pc' := 19) ⟨by decide +kernel, rfl⟩ (by decide) ?_
    refine z_sub [0, 1, 2, 3] rfl ?_
    exact sb_Th_tellHolds_19  k h
  · have h := h.1 (qi_ne_f rfl (by decide) h2)
    refine z_iconst (i := 1) (v := 1) (pc' := 15) ⟨by decide +kernel, rfl⟩ (by decide) ?_
    refine z_goto (off := 4) (tgt := 19) (pc' := 18) ⟨by decide +kernel, by decide, rfl⟩ ?_
    refine z_sub [0, 1, 2, 3] rfl ?_
    exact sb_Th_tellHolds_19  k h
noncomputable def W_H_holds (a1 : Int32) (a2 : Int32) (a3 : Int32) (σ : zS) (Q : Int32 → zS → Prop) : Prop := W_H_isAct a1 σ (fun v1 σ1 => ((Int32.toInt v1) = 0 → (Q (-1) σ1)) ∧ (¬ (Int32.toInt v1) = 0 → (W_H_isAct a2 σ1 (fun v3 σ3 => ((Int32.toInt v3) = 0 → (Q (-1) σ3)) ∧ (¬ (Int32.toInt v3) = 0 → (((Int32.toInt a1) = (Int32.toInt a2) → (Q (-1) σ3)) ∧ (¬ (Int32.toInt a1) = (Int32.toInt a2) → (W_Th_tellHolds a1 a2 a3 σ3 (fun v6 σ6 => ((Int32.toInt v6) = 0 → (Q 0 σ6)) ∧ (¬ (Int32.toInt v6) = 0 → (Q 1 σ6)))))))))))
theorem sF_H_holds {E : xV} {σ : zS} {K : zKt} {a1 : Int32} {a2 : Int32} {a3 : Int32} {Q : Int32 → zS → Prop} (h : W_H_holds a1 a2 a3 σ Q) (k : ∀ v s, Q v s → K (some (.int v)) s) : Cz E Y_H_holds [.ref 0, .int a1, .int a2, .int a3] σ K := by
  refine z_entry (by decide) (fun a => by rw [sl_len]; exact Nat.le_of_ble_eq_true rfl) rfl ?_
  unfold W_H_holds at h
  refine z_iload_n (f := 1) (i := 1) (q := 1) (pc' := 1) ⟨by decide +kernel, rfl⟩ rfl rfl ?_
  refine w_invS (Z := Y_H_isAct) (idx := 236) (As := [.int a1]) (rest := []) (pc' := 4) cl_1_236 rfl ⟨rfl, rfl⟩ ⟨⟨by decide, by decide⟩, rfl, rfl⟩ ⟨by decide +kernel, rfl⟩ rfl rfl (Nat.le_of_ble_eq_true rfl) rfl rfl ?_
  refine sF_H_isAct h (fun v1 σ1 h => ?_)
  show Wz E Y_H_holds 4 [(0, .ref 0), (1, .int a1), (2, .int a2), (3, .int a3)] [.int v1] σ1 K
  refine z_if_eq (off := 15) (tgt := 19) (pc' := 7) ⟨by decide +kernel, by decide, rfl⟩ (fun h2 => ?_) (fun h2 => ?_)
  · have h := h.1 (qi_eq_t rfl (by decide) h2)
    refine z_iconst (i := (-1)) (v := (-1)) (pc' := 20) ⟨by decide +kernel, rfl⟩ (by decide) ?_
    exact z_iret (ty := .int) rfl (by rfl) (by decide +kernel) (k _ _ h)
  · have h := h.2 (qi_eq_f rfl (by decide) h2)
    refine z_iload_n (f := 2) (i := 2) (q := 2) (pc' := 8) ⟨by decide +kernel, rfl⟩ rfl rfl ?_
    refine w_invS (Z := Y_H_isAct) (idx := 236) (As := [.int a2]) (rest := []) (pc' := 11) cl_1_236 rfl ⟨rfl, rfl⟩ ⟨⟨by decide, by decide⟩, rfl, rfl⟩ ⟨by decide +kernel, rfl⟩ rfl rfl (Nat.le_of_ble_eq_true rfl) rfl rfl ?_
    refine sF_H_isAct h (fun v3 σ3 h => ?_)
    show Wz E Y_H_holds 11 [(0, .ref 0), (1, .int a1), (2, .int a2), (3, .int a3)] [.int v3] σ3 K
    refine z_if_eq (off := 8) (tgt := 19) (pc' := 14) ⟨by decide +kernel, by decide, rfl⟩ (fun h4 => ?_) (fun h4 => ?_)
    · have h := h.1 (qi_eq_t rfl (by decide) h4)
      refine z_iconst (i := (-1)) (v := (-1)) (pc' := 20) ⟨by decide +kernel, rfl⟩ (by decide) ?_
      exact z_iret (ty := .int) rfl (by rfl) (by decide +kernel) (k _ _ h)
    · have h := h.2 (qi_eq_f rfl (by decide) h4)
      refine z_iload_n (f := 1) (i := 1) (q := 1) (pc' := 15) ⟨by decide +kernel, rfl⟩ rfl rfl ?_
      refine z_iload_n (f := 2) (i := 2) (q := 2) (pc' := 16) ⟨by decide +kernel, rfl⟩ rfl rfl ?_
      refine z_icmp_ne (off := 5) (tgt := 21) (pc' := 19) ⟨by decide +kernel, by decide, rfl⟩ (fun h5 => ?_) (fun h5 => ?_)
      · have h := h.2 (qi_ne_t rfl rfl h5)
        refine z_aload_n (f := 0) (i := 0) (q := 0) (pc' := 22) ⟨by decide +kernel, rfl⟩ rfl rfl ?_
        refine w_getr (k := 0) (j := 9) (idx := 32) (pc' := 25) yfxe_1_32 ykfa_0_9 ⟨by decide +kernel, rfl⟩ ?_
        refine z_iload_n (f := 1) (i := 1) (q := 1) (pc' := 26) ⟨by decide +kernel, rfl⟩ rfl rfl ?_
        refine z_iload_n (f := 2) (i := 2) (q := 2) (pc' := 27) ⟨by decide +kernel, rfl⟩ rfl rfl ?_
        refine z_iload_n (f := 3) (i := 3) (q := 3) (pc' := 28) ⟨by decide +kernel, rfl⟩ rfl rfl ?_
        refine w_invV (Z := Y_Th_tellHolds) (idx := 239) (kb := 10) (As := [.int a1, .int a2, .int a3]) (rest := []) (pc' := 31) cl_1_239 rfl ⟨rfl, rfl⟩ ykfa_10_0 rfl ⟨⟨by decide, by decide⟩, rfl, rfl⟩ ⟨by decide +kernel, rfl⟩ rfl rfl (Nat.le_of_ble_eq_true rfl) rfl rfl ?_
        refine sF_Th_tellHolds h (fun v6 σ6 h => ?_)
        show Wz E Y_H_holds 31 [(0, .ref 0), (1, .int a1), (2, .int a2), (3, .int a3)] [.int v6] σ6 K
        refine z_if_eq (off := 7) (tgt := 38) (pc' := 34) ⟨by decide +kernel, by decide, rfl⟩ (fun h7 => ?_) (fun h7 => ?_)
        · have h := h.1 (qi_eq_t rfl (by decide) h7)
          refine z_iconst (i := 0) (v := 0) (pc' := 39) ⟨by decide +kernel, rfl⟩ (by decide) ?_
          exact z_iret (ty := .int) rfl (by rfl) (by decide +kernel) (k _ _ h)
        · have h := h.2 (qi_eq_f rfl (by decide) h7)
          refine z_iconst (i := 1) (v := 1) (pc' := 35) ⟨by decide +kernel, rfl⟩ (by decide) ?_
          refine z_goto (off := 4) (tgt := 39) (pc' := 38) ⟨by decide +kernel, by decide, rfl⟩ ?_
          exact z_iret (ty := .int) rfl (by rfl) (by decide +kernel) (k _ _ h)
      · have h := h.1 (qi_ne_f rfl rfl h5)
        refine z_iconst (i := (-1)) (v := (-1)) (pc' := 20) ⟨by decide +kernel, rfl⟩ (by decide) ?_
        exact z_iret (ty := .int) rfl (by rfl) (by decide +kernel) (k _ _ h)
noncomputable def WB_H_feed_33 (F33 : Int64 → Int32 → zS → (Int32 → zS → Prop) → Prop) (x2 : Int64) (x4 : Int32) (σ : zS) (Q : Int32 → zS → Prop) : Prop := ((Int32.toInt x4) < 0 → (Q (σ.1 0 1) σ)) ∧ (¬ (Int32.toInt x4) < 0 → ((-2147483648 ≤ 8 * (Int32.toInt x4) ∧ 8 * (Int32.toInt x4) ≤ 2147483647) ∧ ∀ r2 : Int32, r2.toInt = 8 * (Int32.toInt x4) → (∃ n3 : Nat, Int32.toInt (σ.1 0 1) = (n3 : Int) ∧ n3 < 1200 ∧ (∀ σ4 : zS, zI σ 1 n3 ((Int64.toInt32 ((Int64.toUInt64 x2 >>> (Int64.toUInt64 (Int32.toInt64 r2) &&& Int64.toUInt64 63)).toInt64)) &&& 255) = σ4 → ((-2147483648 ≤ (Int32.toInt (σ4.1 0 1)) + 1 ∧ (Int32.toInt (σ4.1 0 1)) + 1 ≤ 2147483647) ∧ ∀ r5 : Int32, r5.toInt = (Int32.toInt (σ4.1 0 1)) + 1 → (∀ σ6 : zS, zI σ4 0 1 r5 = σ6 → ((-2147483648 ≤ (Int32.toInt x4) + (-1) ∧ (Int32.toInt x4) + (-1) ≤ 2147483647) ∧ ∀ r7 : Int32, r7.toInt = (Int32.toInt x4) + (-1) → (F33 x2 r7 σ6 Q))))))))
theorem sh_H_feed_33 {E : xV} {σ : zS} {K : zKt} {F33 : Int64 → Int32 → zS → (Int32 → zS → Prop) → Prop} {x2 : Int64} {x4 : Int32} {Q : Int32 → zS → Prop} (f33 : ∀ (x2 : Int64) (x4 : Int32) (σ : zS), F33 x2 x4 σ Q → Wz E Y_H_feed 33 [(0, .ref 0), (2, .long x2), (4, .int x4)] [] σ K) (k : ∀ v s, Q v s → K (some (.int v)) s) (h : WB_H_feed_33 F33 x2 x4 σ Q) : Wz E Y_H_feed 33 [(0, .ref 0), (2, .long x2), (4, .int x4)] [] σ K := by
  unfold WB_H_feed_33 at h
  refine z_iload (i := 4) (q := 2) (pc' := 35) ⟨by decide +kernel, rfl⟩ rfl ?_
  refine z_if_lt (off := 40) (tgt := 75) (pc' := 38) ⟨by decide +kernel, by decide, rfl⟩ (fun h1 => ?_) (fun h1 => ?_)
  · have h := h.1 (qi_lt_t rfl (by decide) h1)
    refine z_aload_n (f := 0) (i := 0) (q := 0) (pc' := 76) ⟨by decide +kernel, rfl⟩ rfl rfl ?_
    refine w_geti (k := 0) (j := 1) (idx := 100) (pc' := 79) yfxe_1_100 ykfa_0_1 ⟨by decide +kernel, rfl⟩ ?_
    exact z_iret (ty := .int) rfl (by rfl) (by decide +kernel) (k _ _ h)
  · have h := h.2 (qi_lt_f rfl (by decide) h1)
    refine z_aload_n (f := 0) (i := 0) (q := 0) (pc' := 39) ⟨by decide +kernel, rfl⟩ rfl rfl ?_
    refine w_getr (k := 0) (j := 0) (idx := 9) (pc' := 42) yfxe_1_9 ykfa_0_0 ⟨by decide +kernel, rfl⟩ ?_
    refine z_aload_n (f := 0) (i := 0) (q := 0) (pc' := 43) ⟨by decide +kernel, rfl⟩ rfl rfl ?_
    refine w_geti (k := 0) (j := 1) (idx := 100) (pc' := 46) yfxe_1_100 ykfa_0_1 ⟨by decide +kernel, rfl⟩ ?_
    refine z_lload_n (f := 2) (i := 2) (q := 1) (pc' := 47) ⟨by decide +kernel, rfl⟩ rfl rfl ?_
    refine z_bipush (i := 8) (v := 8) (pc' := 49) ⟨by decide +kernel, rfl⟩ (by decide) ?_
    refine z_iload (i := 4) (q := 2) (pc' := 51) ⟨by decide +kernel, rfl⟩ rfl ?_
    refine z_imul (pc' := 52) ⟨by decide +kernel, rfl⟩ ?_
    obtain ⟨hb2, h⟩ := h
    have h := h (8 * x4) (im_ok (by decide) rfl hb2)
    generalize (8 * x4) = r2 at h ⊢
    refine z_lushr (v := ((Int64.toUInt64 x2 >>> (Int64.toUInt64 (Int32.toInt64 r2) &&& Int64.toUInt64 63)).toInt64)) (pc' := 53) ⟨by decide +kernel, rfl⟩ rfl ?_
    refine z_l2i (pc' := 54) ⟨by decide +kernel, rfl⟩ rfl ?_
    refine z_sipush (i := 255) (v := 255) (pc' := 57) ⟨by decide +kernel, rfl⟩ (by decide) ?_
    refine z_iand (pc' := 58) ⟨by decide +kernel, rfl⟩ ?_
    obtain ⟨n3, hi3, hz3, h⟩ := h
    refine w_iast (k := 1) (n := n3) (pc' := 59) ykaa_1 (hi3) (hz3) ⟨by decide +kernel, rfl⟩ ?_
    generalize hs4 : zI σ 1 n3 ((Int64.toInt32 ((Int64.toUInt64 x2 >>> (Int64.toUInt64 (Int32.toInt64 r2) &&& Int64.toUInt64 63)).toInt64)) &&& 255) = σ4
    have h := h σ4 hs4
    refine z_aload_n (f := 0) (i := 0) (q := 0) (pc' := 60) ⟨by decide +kernel, rfl⟩ rfl rfl ?_
    refine z_dupr (pc' := 61) ⟨by decide +kernel, rfl⟩ ?_
    refine w_geti (k := 0) (j := 1) (idx := 100) (pc' := 64) yfxe_1_100 ykfa_0_1 ⟨by decide +kernel, rfl⟩ ?_
    refine z_iconst (i := 1) (v := 1) (pc' := 65) ⟨by decide +kernel, rfl⟩ (by decide) ?_
    refine z_iadd (pc' := 66) ⟨by decide +kernel, rfl⟩ ?_
    obtain ⟨hb5, h⟩ := h
    have h := h ((σ4.1 0 1) + 1) (ia_ok rfl (by decide) hb5)
    generalize ((σ4.1 0 1) + 1) = r5 at h ⊢
    refine w_puti (k := 0) (j := 1) (idx := 100) (pc' := 69) yfxi_1_100 ykfa_0_1 ⟨by decide +kernel, rfl⟩ ?_
    generalize hs6 : zI σ4 0 1 r5 = σ6
    have h := h σ6 hs6
    refine z_iinc (i := 4) (z := (-1)) (q := 2) (pc' := 72) ⟨by decide +kernel, rfl⟩ rfl rfl (by decide) rfl ?_
    show Wz E Y_H_feed 72 [(4, .int (x4 + Int32.ofInt (-1))), (0, .ref 0), (2, .long x2)] [] σ6 K
    obtain ⟨hb7, h⟩ := h
    have h := h (x4 + Int32.ofInt (-1)) (ia_ok rfl (by decide) hb7)
    generalize (x4 + Int32.ofInt (-1)) = r7 at h ⊢
    refine z_goto (off := (-39)) (tgt := 33) (pc' := 75) ⟨by decide +kernel, by decide, rfl⟩ ?_
    refine z_sub [1, 2, 0] rfl ?_
    exact f33 _ _ _ h
noncomputable def WL_H_feed : Nat → (Int64 → Int32 → zS → (Int32 → zS → Prop) → Prop)
  | 0 => fun _ _ _ _ => False
  | n + 1 => WB_H_feed_33 (WL_H_feed n)
theorem wl_H_feed_33 {n : Nat} {x2 : Int64} {x4 : Int32} {σ : zS} {Q : Int32 → zS → Prop} (h : WB_H_feed_33 (WL_H_feed n) x2 x4 σ Q) : (WL_H_feed (n + 1)) x2 x4 σ Q := h
theorem sl_H_feed {E : xV} {K : zKt} {Q : Int32 → zS → Prop} (k : ∀ v s, Q v s → K (some (.int v)) s) : ∀ n, (∀ (x2 : Int64) (x4 : Int32) (σ : zS), (WL_H_feed n) x2 x4 σ Q → Wz E Y_H_feed 33 [(0, .ref 0), (2, .long x2), (4, .int x4)] [] σ K)
  | 0 => fun _ _ _ h => h.elim
  | n + 1 => by
    have i := sl_H_feed (E := E)  k n
    exact fun _ _ _ h => sh_H_feed_33 i k h
noncomputable def W_H_feed (a1 : Int32) (a2 : Int64) (σ : zS) (Q : Int32 → zS → Prop) : Prop := ((Int32.toInt a1) < 1 → (Q (-1) σ)) ∧ (¬ (Int32.toInt a1) < 1 → (((Int32.toInt a1) ≤ 8 → ((-2147483648 ≤ (Int32.toInt (σ.1 0 1)) + (Int32.toInt a1) ∧ (Int32.toInt (σ.1 0 1)) + (Int32.toInt a1) ≤ 2147483647) ∧ ∀ r3 : Int32, r3.toInt = (Int32.toInt (σ.1 0 1)) + (Int32.toInt a1) → (((Int32.toInt r3) ≤ 1200 → ((-2147483648 ≤ (Int32.toInt a1) - 1 ∧ (Int32.toInt a1) - 1 ≤ 2147483647) ∧ ∀ r5 : Int32, r5.toInt = (Int32.toInt a1) - 1 → ((WL_H_feed fuF) a2 r5 σ Q))) ∧ (¬ (Int32.toInt r3) ≤ 1200 → (Q (-3) σ))))) ∧ (¬ (Int32.toInt a1) ≤ 8 → (Q (-1) σ))))
theorem sF_H_feed {E : xV} {σ : zS} {K : zKt} {a1 : Int32} {a2 : Int64} {Q : Int32 → zS → Prop} (h : W_H_feed a1 a2 σ Q) (k : ∀ v s, Q v s → K (some (.int v)) s) : Cz E Y_H_feed [.ref 0, .int a1, .long a2] σ K := by
  refine z_entry (by decide) (fun a => by rw [sl_len]; exact Nat.le_of_ble_eq_true rfl) rfl ?_
  unfold W_H_feed at h
  refine z_iload_n (f := 1) (i := 1) (q := 1) (pc' := 1) ⟨by decide +kernel, rfl⟩ rfl rfl ?_
  refine z_iconst (i := 1) (v := 1) (pc' := 2) ⟨by decide +kernel, rfl⟩ (by decide) ?_
  refine z_icmp_lt (off := 9) (tgt := 11) (pc' := 5) ⟨by decide +kernel, by decide, rfl⟩ (fun h1 => ?_) (fun h1 => ?_)
  · have h := h.1 (qi_lt_t rfl (by decide) h1)
    refine z_iconst (i := (-1)) (v := (-1)) (pc' := 12) ⟨by decide +kernel, rfl⟩ (by decide) ?_
    exact z_iret (ty := .int) rfl (by rfl) (by decide +kernel) (k _ _ h)
  · have h := h.2 (qi_lt_f rfl (by decide) h1)
    refine z_iload_n (f := 1) (i := 1) (q := 1) (pc' := 6) ⟨by decide +kernel, rfl⟩ rfl rfl ?_
    refine z_bipush (i := 8) (v := 8) (pc' := 8) ⟨by decide +kernel, rfl⟩ (by decide) ?_
    refine z_icmp_le (off := 5) (tgt := 13) (pc' := 11) ⟨by decide +kernel, by decide, rfl⟩ (fun h2 => ?_) (fun h2 => ?_)
    · have h := h.1 (qi_le_t rfl (by decide) h2)
      refine z_aload_n (f := 0) (i := 0) (q := 0) (pc' := 14) ⟨by decide +kernel, rfl⟩ rfl rfl ?_
      refine w_geti (k := 0) (j := 1) (idx := 100) (pc' := 17) yfxe_1_100 ykfa_0_1 ⟨by decide +kernel, rfl⟩ ?_
      refine z_iload_n (f := 1) (i := 1) (q := 1) (pc' := 18) ⟨by decide +kernel, rfl⟩ rfl rfl ?_
      refine z_iadd (pc' := 19) ⟨by decide +kernel, rfl⟩ ?_
      obtain ⟨hb3, h⟩ := h
      have h := h ((σ.1 0 1) + a1) (ia_ok rfl rfl hb3)
      generalize ((σ.1 0 1) + a1) = r3 at h ⊢
      refine z_sipush (i := 1200) (v := 1200) (pc' := 22) ⟨by decide +kernel, rfl⟩ (by decide) ?_
      refine z_icmp_le (off := 6) (tgt := 28) (pc' := 25) ⟨by decide +kernel, by decide, rfl⟩ (fun h4 => ?_) (fun h4 => ?_)
      · have h := h.1 (qi_le_t rfl (by decide) h4)
        refine z_iload_n (f := 1) (i := 1) (q := 1) (pc' := 29) ⟨by decide +kernel, rfl⟩ rfl rfl ?_
        refine z_iconst (i := 1) (v := 1) (pc' := 30) ⟨by decide +kernel, rfl⟩ (by decide) ?_
        refine z_isub (pc' := 31) ⟨by decide +kernel, rfl⟩ ?_
        obtain ⟨hb5, h⟩ := h
        have h := h (a1 - 1) (is_ok rfl (by decide) hb5)
        generalize (a1 - 1) = r5 at h ⊢
        refine z_istore (i := 4) (pc' := 33) ⟨by decide +kernel, rfl⟩ (by decide) rfl ?_
        show Wz E Y_H_feed 33 [(4, .int r5), (0, .ref 0), (1, .int a1), (2, .long a2)] [] σ K
        refine z_sub [1, 3, 0] rfl ?_
        exact (sl_H_feed k fuF) _ _ _ h
      · have h := h.2 (qi_le_f rfl (by decide) h4)
        refine z_bipush (i := (-3)) (v := (-3)) (pc' := 27) ⟨by decide +kernel, rfl⟩ (by decide) ?_
        exact z_iret (ty := .int) rfl (by rfl) (by decide +kernel) (k _ _ h)
    · have h := h.2 (qi_le_f rfl (by decide) h2)
      refine z_iconst (i := (-1)) (v := (-1)) (pc' := 12) ⟨by decide +kernel, rfl⟩ (by decide) ?_
      exact z_iret (ty := .int) rfl (by rfl) (by decide +kernel) (k _ _ h)

end
