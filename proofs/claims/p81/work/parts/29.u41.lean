section
noncomputable def W_M_isRule (a1 : Int32) (σ : zS) (Q : Int32 → zS → Prop) : Prop := W_M_isEffect a1 σ (fun v1 σ1 => ((Int32.toInt v1) = 0 → (Q 0 σ1)) ∧ (¬ (Int32.toInt v1) = 0 → (W_M_token  σ1 (fun _ σ3 => W_M_isWho a1 σ3 (fun v4 σ4 => ((Int32.toInt v4) = 0 → (Q 0 σ4)) ∧ (¬ (Int32.toInt v4) = 0 → (W_M_token  σ4 (fun _ σ6 => W_M_isAct a1 σ6 (fun v7 σ7 => ((Int32.toInt v7) = 0 → (Q 0 σ7)) ∧ (¬ (Int32.toInt v7) = 0 → (W_M_token  σ7 (fun _ σ9 => W_M_isRuleThing a1 σ9 (fun v10 σ10 => ((Int32.toInt v10) = 0 → (Q 0 σ10)) ∧ (¬ (Int32.toInt v10) = 0 → (∃ n12 : Nat, Int32.toInt a1 = (n12 : Int) ∧ n12 < 240 ∧ (∀ σ13 : zS, zI σ10 139 n12 (σ10.1 110 46) = σ13 → (W_M_isWord 105 102 0 0 0 σ13 (fun v14 σ14 => ((Int32.toInt v14) = 0 → (W_M_isRule_b93  a1 σ14 Q)) ∧ (¬ (Int32.toInt v14) = 0 → (W_M_token  σ14 (fun _ σ16 => W_M_condition  σ16 (fun _ σ17 => ((Int32.toInt (σ17.1 110 58)) < 0 → (W_M_isRule_b93  a1 σ17 Q)) ∧ (¬ (Int32.toInt (σ17.1 110 58)) < 0 → (Q 0 σ17))))))))))))))))))))))))
theorem sF_M_isRule {E : xV} {σ : zS} {K : zKt} {a1 : Int32} {Q : Int32 → zS → Prop} (h : W_M_isRule a1 σ Q) (k : ∀ v s, Q v s → K (some (.int v)) s) : Cz E Y_M_isRule [.ref 110, .int a1] σ K := by
  refine z_entry (by decide) (fun a => by rw [sl_len]; exact Nat.le_of_ble_eq_true rfl) rfl ?_
  unfold W_M_isRule at h
  refine z_aload_n (f := 0) (i := 0) (q := 0) (pc' := 1) ⟨by decide +kernel, rfl⟩ rfl rfl ?_
  refine z_iload_n (f := 1) (i := 1) (q := 1) (pc' := 2) ⟨by decide +kernel, rfl⟩ rfl rfl ?_
  refine w_invV (Z := Y_M_isEffect) (idx := 631) (kb := 110) (As := [.int a1]) (rest := []) (pc' := 5) cl_13_631 rfl ⟨rfl, rfl⟩ ykfa_110_0 rfl ⟨⟨by decide, by decide⟩, rfl, rfl⟩ ⟨by decide +kernel, rfl⟩ rfl rfl (Nat.le_of_ble_eq_true rfl) rfl rfl ?_
  refine sF_M_isEffect h (fun v1 σ1 h => ?_)
  show Wz E Y_M_isRule 5 [(0, .ref 110), (1, .int a1)] [.int v1] σ1 K
  refine z_if_ne (off := 5) (tgt := 10) (pc' := 8) ⟨by decide +kernel, by decide, rfl⟩ (fun h2 => ?_) (fun h2 => ?_)
  · have h := h.2 (qi_ne_t rfl (by decide) h2)
    refine z_aload_n (f := 0) (i := 0) (q := 0) (pc' := 11) ⟨by decide +kernel, rfl⟩ rfl rfl ?_
    refine w_invV (Z := Y_M_token) (idx := 566) (kb := 110) (As := []) (rest := []) (pc' := 14) cl_13_566 rfl ⟨rfl, rfl⟩ ykfa_110_0 rfl ⟨⟨by decide, by decide⟩, rfl, rfl⟩ ⟨by decide +kernel, rfl⟩ rfl rfl (Nat.le_of_ble_eq_true rfl) rfl rfl ?_
    refine sF_M_token h (fun _ σ3 h => ?_)
    show Wz E Y_M_isRule 14 [(0, .ref 110), (1, .int a1)] [] σ3 K
    refine z_aload_n (f := 0) (i := 0) (q := 0) (pc' := 15) ⟨by decide +kernel, rfl⟩ rfl rfl ?_
    refine z_iload_n (f := 1) (i := 1) (q := 1) (pc' := 16) ⟨by decide +kernel, rfl⟩ rfl rfl ?_
    refine w_invV (Z := Y_M_isWho) (idx := 634) (kb := 110) (As := [.int a1]) (rest := []) (pc' := 19) cl_13_634 rfl ⟨rfl, rfl⟩ ykfa_110_0 rfl ⟨⟨by decide, by decide⟩, rfl, rfl⟩ ⟨by decide +kernel, rfl⟩ rfl rfl (Nat.le_of_ble_eq_true rfl) rfl rfl ?_
    refine sF_M_isWho h (fun v4 σ4 h => ?_)
    show Wz E Y_M_isRule 19 [(0, .ref 110), (1, .int a1)] [.int v4] σ4 K
    refine z_if_ne (off := 5) (tgt := 24) (pc' := 22) ⟨by decide +kernel, by decide, rfl⟩ (fun h5 => ?_) (fun h5 => ?_)
    · have h := h.2 (qi_ne_t rfl (by decide) h5)
      refine z_aload_n (f := 0) (i := 0) (q := 0) (pc' := 25) ⟨by decide +kernel, rfl⟩ rfl rfl ?_
      refine w_invV (Z := Y_M_token) (idx := 566) (kb := 110) (As := []) (rest := []) (pc' := 28) cl_13_566 rfl ⟨rfl, rfl⟩ ykfa_110_0 rfl ⟨⟨by decide, by decide⟩, rfl, rfl⟩ ⟨by decide +kernel, rfl⟩ rfl rfl (Nat.le_of_ble_eq_true rfl) rfl rfl ?_
      refine sF_M_token h (fun _ σ6 h => ?_)
      show Wz E Y_M_isRule 28 [(0, .ref 110), (1, .int a1)] [] σ6 K
      refine z_aload_n (f := 0) (i := 0) (q := 0) (pc' := 29) ⟨by decide +kernel, rfl⟩ rfl rfl ?_
      refine z_iload_n (f := 1) (i := 1) (q := 1) (pc' := 30) ⟨by decide +kernel, rfl⟩ rfl rfl ?_
      refine w_invV (Z := Y_M_isAct) (idx := 637) (kb := 110) (As := [.int a1]) (rest := []) (pc' := 33) cl_13_637 rfl ⟨rfl, rfl⟩ ykfa_110_0 rfl ⟨⟨by decide, by decide⟩, rfl, rfl⟩ ⟨by decide +kernel, rfl⟩ rfl rfl (Nat.le_of_ble_eq_true rfl) rfl rfl ?_
      refine sF_M_isAct h (fun v7 σ7 h => ?_)
      show Wz E Y_M_isRule 33 [(0, .ref 110), (1, .int a1)] [.int v7] σ7 K
      refine z_if_ne (off := 5) (tgt := 38) (pc' := 36) ⟨by decide +kernel, by decide, rfl⟩ (fun h8 => ?_) (fun h8 => ?_)
      · have h := h.2 (qi_ne_t rfl (by decide) h8)
        refine z_aload_n (f := 0) (i := 0) (q := 0) (pc' := 39) ⟨by decide +kernel, rfl⟩ rfl rfl ?_
        refine w_invV (Z := Y_M_token) (idx := 566) (kb := 110) (As := []) (rest := []) (pc' := 42) cl_13_566 rfl ⟨rfl, rfl⟩ ykfa_110_0 rfl ⟨⟨by decide, by decide⟩, rfl, rfl⟩ ⟨by decide +kernel, rfl⟩ rfl rfl (Nat.le_of_ble_eq_true rfl) rfl rfl ?_
        refine sF_M_token h (fun _ σ9 h => ?_)
        show Wz E Y_M_isRule 42 [(0, .ref 110), (1, .int a1)] [] σ9 K
        refine z_aload_n (f := 0) (i := 0) (q := 0) (pc' := 43) ⟨by decide +kernel, rfl⟩ rfl rfl ?_
        refine z_iload_n (f := 1) (i := 1) (q := 1) (pc' := 44) ⟨by decide +kernel, rfl⟩ rfl rfl ?_
        refine w_invV (Z := Y_M_isRuleThing) (idx := 640) (kb := 110) (As := [.int a1]) (rest := []) (pc' := 47) cl_13_640 rfl ⟨rfl, rfl⟩ ykfa_110_0 rfl ⟨⟨by decide, by decide⟩, rfl, rfl⟩ ⟨by decide +kernel, rfl⟩ rfl rfl (Nat.le_of_ble_eq_true rfl) rfl rfl ?_
        refine sF_M_isRuleThing h (fun v10 σ10 h => ?_)
        show Wz E Y_M_isRule 47 [(0, .ref 110), (1, .int a1)] [.int v10] σ10 K
        refine z_if_ne (off := 5) (tgt := 52) (pc' := 50) ⟨by decide +kernel, by decide, rfl⟩ (fun h11 => ?_) (fun h11 => ?_)
        · have h := h.2 (qi_ne_t rfl (by decide) h11)
          refine z_aload_n (f := 0) (i := 0) (q := 0) (pc' := 53) ⟨by decide +kernel, rfl⟩ rfl rfl ?_
          refine w_getr (k := 110) (j := 42) (idx := 100) (pc' := 56) yfxe_13_100 ykfa_110_42 ⟨by decide +kernel, rfl⟩ ?_
          refine z_iload_n (f := 1) (i := 1) (q := 1) (pc' := 57) ⟨by decide +kernel, rfl⟩ rfl rfl ?_
          refine z_aload_n (f := 0) (i := 0) (q := 0) (pc' := 58) ⟨by decide +kernel, rfl⟩ rfl rfl ?_
          refine w_geti (k := 110) (j := 46) (idx := 543) (pc' := 61) yfxe_13_543 ykfa_110_46 ⟨by decide +kernel, rfl⟩ ?_
          obtain ⟨n12, hi12, hz12, h⟩ := h
          refine w_iast (k := 139) (n := n12) (pc' := 62) ykaa_139 (hi12) (hz12) ⟨by decide +kernel, rfl⟩ ?_
          generalize hs13 : zI σ10 139 n12 (σ10.1 110 46) = σ13
          have h := h σ13 hs13
          refine z_aload_n (f := 0) (i := 0) (q := 0) (pc' := 63) ⟨by decide +kernel, rfl⟩ rfl rfl ?_
          refine z_bipush (i := 105) (v := 105) (pc' := 65) ⟨by decide +kernel, rfl⟩ (by decide) ?_
          refine z_bipush (i := 102) (v := 102) (pc' := 67) ⟨by decide +kernel, rfl⟩ (by decide) ?_
          refine z_iconst (i := 0) (v := 0) (pc' := 68) ⟨by decide +kernel, rfl⟩ (by decide) ?_
          refine z_iconst (i := 0) (v := 0) (pc' := 69) ⟨by decide +kernel, rfl⟩ (by decide) ?_
          refine z_iconst (i := 0) (v := 0) (pc' := 70) ⟨by decide +kernel, rfl⟩ (by decide) ?_
          refine w_invV (Z := Y_M_isWord) (idx := 562) (kb := 110) (As := [.int 105, .int 102, .int 0, .int 0, .int 0]) (rest := []) (pc' := 73) cl_13_562 rfl ⟨rfl, rfl⟩ ykfa_110_0 rfl ⟨⟨by decide, by decide⟩, rfl, rfl⟩ ⟨by decide +kernel, rfl⟩ rfl rfl (Nat.le_of_ble_eq_true rfl) rfl rfl ?_
          refine sF_M_isWord h (fun v14 σ14 h => ?_)
          show Wz E Y_M_isRule 73 [(0, .ref 110), (1, .int a1)] [.int v14] σ14 K
          refine z_if_eq (off := 20) (tgt := 93) (pc' := 76) ⟨by decide +kernel, by decide, rfl⟩ (fun h15 => ?_) (fun h15 => ?_)
          · have h := h.1 (qi_eq_t rfl (by decide) h15)
            refine z_sub [0, 1] rfl ?_
            exact sb_M_isRule_93  k h
          · have h := h.2 (qi_eq_f rfl (by decide) h15)
            refine z_aload_n (f := 0) (i := 0) (q := 0) (pc' := 77) ⟨by decide +kernel, rfl⟩ rfl rfl ?_
            refine w_invV (Z := Y_M_token) (idx := 566) (kb := 110) (As := []) (rest := []) (pc' := 80) cl_13_566 rfl ⟨rfl, rfl⟩ ykfa_110_0 rfl ⟨⟨by decide, by decide⟩, rfl, rfl⟩ ⟨by decide +kernel, rfl⟩ rfl rfl (Nat.le_of_ble_eq_true rfl) rfl rfl ?_
            refine sF_M_token h (fun _ σ16 h => ?_)
            show Wz E Y_M_isRule 80 [(0, .ref 110), (1, .int a1)] [] σ16 K
            refine z_aload_n (f := 0) (i := 0) (q := 0) (pc' := 81) ⟨by decide +kernel, rfl⟩ rfl rfl ?_
            refine w_invV (Z := Y_M_condition) (idx := 643) (kb := 110) (As := []) (rest := []) (pc' := 84) cl_13_643 rfl ⟨rfl, rfl⟩ ykfa_110_0 rfl ⟨⟨by decide, by decide⟩, rfl, rfl⟩ ⟨by decide +kernel, rfl⟩ rfl rfl (Nat.le_of_ble_eq_true rfl) rfl rfl ?_
            refine sF_M_condition h (fun _ σ17 h => ?_)
            show Wz E Y_M_isRule 84 [(0, .ref 110), (1, .int a1)] [] σ17 K
            refine z_aload_n (f := 0) (i := 0) (q := 0) (pc' := 85) ⟨by decide +kernel, rfl⟩ rfl rfl ?_
            refine w_geti (k := 110) (j := 58) (idx := 559) (pc' := 88) yfxe_13_559 ykfa_110_58 ⟨by decide +kernel, rfl⟩ ?_
            refine z_if_lt (off := 5) (tgt := 93) (pc' := 91) ⟨by decide +kernel, by decide, rfl⟩ (fun h18 => ?_) (fun h18 => ?_)
            · have h := h.1 (qi_lt_t rfl (by decide) h18)
              refine z_sub [0, 1] rfl ?_
              exact sb_M_isRule_93  k h
            · have h := h.2 (qi_lt_f rfl (by decide) h18)
              refine z_iconst (i := 0) (v := 0) (pc' := 92) ⟨by decide +kernel, rfl⟩ (by decide) ?_
              exact z_iret (ty := .boolean) rfl (by rfl) (by decide +kernel) (k _ _ h)
        · have h := h.1 (qi_ne_f rfl (by decide) h11)
          refine z_iconst (i := 0) (v := 0) (pc' := 51) ⟨by decide +kernel, rfl⟩ (by decide) ?_
          exact z_iret (ty := .boolean) rfl (by rfl) (by decide +kernel) (k _ _ h)
      · have h := h.1 (qi_ne_f rfl (by decide) h8)
        refine z_iconst (i := 0) (v := 0) (pc' := 37) ⟨by decide +kernel, rfl⟩ (by decide) ?_
        exact z_iret (ty := .boolean) rfl (by rfl) (by decide +kernel) (k _ _ h)
    · have h := h.1 (qi_ne_f rfl (by decide) h5)
      refine z_iconst (i := 0) (v := 0) (pc' := 23) ⟨by decide +kernel, rfl⟩ (by decide) ?_
      exact z_iret (ty := .boolean) rfl (by rfl) (by decide +kernel) (k _ _ h)
  · have h := h.1 (qi_ne_f rfl (by decide) h2)
    refine z_iconst (i := 0) (v := 0) (pc' := 9) ⟨by decide +kernel, rfl⟩ (by decide) ?_
    exact z_iret (ty := .boolean) rfl (by rfl) (by decide +kernel) (k _ _ h)
noncomputable def WB_M_begins_30 (F30 : Int32 → zS → (Unit → zS → Prop) → Prop) (x1 : Int32) (σ : zS) (Q : Unit → zS → Prop) : Prop := (5 ≤ (Int32.toInt x1) → (∀ σ2 : zS, zI σ 129 6 1 = σ2 → (Q () σ2))) ∧ (¬ 5 ≤ (Int32.toInt x1) → ((-2147483648 ≤ 30 + (Int32.toInt x1) ∧ 30 + (Int32.toInt x1) ≤ 2147483647) ∧ ∀ r3 : Int32, r3.toInt = 30 + (Int32.toInt x1) → (∃ n4 : Nat, Int32.toInt r3 = (n4 : Int) ∧ n4 < 36 ∧ (∀ σ5 : zS, zI σ 129 n4 1 = σ5 → ((-2147483648 ≤ (Int32.toInt x1) + 1 ∧ (Int32.toInt x1) + 1 ≤ 2147483647) ∧ ∀ r6 : Int32, r6.toInt = (Int32.toInt x1) + 1 → (F30 r6 σ5 Q))))))
theorem sh_M_begins_30 {E : xV} {σ : zS} {K : zKt} {F30 : Int32 → zS → (Unit → zS → Prop) → Prop} {x1 : Int32} {Q : Unit → zS → Prop} (f30 : ∀ (x1 : Int32) (σ : zS), F30 x1 σ Q → Wz E Y_M_begins 30 [(0, .ref 110), (1, .int x1)] [] σ K) (k : ∀ v s, Q v s → K none s) (h : WB_M_begins_30 F30 x1 σ Q) : Wz E Y_M_begins 30 [(0, .ref 110), (1, .int x1)] [] σ K := by
  unfold WB_M_begins_30 at h
  refine z_iload_n (f := 1) (i := 1) (q := 1) (pc' := 31) ⟨by decide +kernel, rfl⟩ rfl rfl ?_
  refine z_iconst (i := 5) (v := 5) (pc' := 32) ⟨by decide +kernel, rfl⟩ (by decide) ?_
  refine z_icmp_ge (off := 19) (tgt := 51) (pc' := 35) ⟨by decide +kernel, by decide, rfl⟩ (fun h1 => ?_) (fun h1 => ?_)
  · have h := h.1 (qi_ge_t rfl (by decide) h1)
    refine z_aload_n (f := 0) (i := 0) (q := 0) (pc' := 52) ⟨by decide +kernel, rfl⟩ rfl rfl ?_
    refine w_getr (k := 110) (j := 25) (idx := 70) (pc' := 55) yfxe_13_70 ykfa_110_25 ⟨by decide +kernel, rfl⟩ ?_
    refine z_bipush (i := 6) (v := 6) (pc' := 57) ⟨by decide +kernel, rfl⟩ (by decide) ?_
    refine z_iconst (i := 1) (v := 1) (pc' := 58) ⟨by decide +kernel, rfl⟩ (by decide) ?_
    refine w_zast (k := 129) (n := 6) (pc' := 59) ykaa_129 (by decide) (by decide) (by decide) ⟨by decide +kernel, rfl⟩ ?_
    generalize hs2 : zI σ 129 6 1 = σ2
    have h := h σ2 hs2
    exact z_vret rfl (by decide +kernel) (k _ _ h)
  · have h := h.2 (qi_ge_f rfl (by decide) h1)
    refine z_aload_n (f := 0) (i := 0) (q := 0) (pc' := 36) ⟨by decide +kernel, rfl⟩ rfl rfl ?_
    refine w_getr (k := 110) (j := 25) (idx := 70) (pc' := 39) yfxe_13_70 ykfa_110_25 ⟨by decide +kernel, rfl⟩ ?_
    refine z_bipush (i := 30) (v := 30) (pc' := 41) ⟨by decide +kernel, rfl⟩ (by decide) ?_
    refine z_iload_n (f := 1) (i := 1) (q := 1) (pc' := 42) ⟨by decide +kernel, rfl⟩ rfl rfl ?_
    refine z_iadd (pc' := 43) ⟨by decide +kernel, rfl⟩ ?_
    obtain ⟨hb3, h⟩ := h
    have h := h (30 + x1) (ia_ok (by decide) rfl hb3)
    generalize (30 + x1) = r3 at h ⊢
    refine z_iconst (i := 1) (v := 1) (pc' := 44) ⟨by decide +kernel, rfl⟩ (by decide) ?_
    obtain ⟨n4, hi4, hz4, h⟩ := h
    refine w_zast (k := 129) (n := n4) (pc' := 45) ykaa_129 (hi4) (hz4) (by decide) ⟨by decide +kernel, rfl⟩ ?_
    generalize hs5 : zI σ 129 n4 1 = σ5
    have h := h σ5 hs5
    refine z_iinc (i := 1) (z := 1) (q := 1) (pc' := 48) ⟨by decide +kernel, rfl⟩ rfl rfl (by decide) rfl ?_
    show Wz E Y_M_begins 48 [(1, .int (x1 + Int32.ofInt 1)), (0, .ref 110)] [] σ5 K
    obtain ⟨hb6, h⟩ := h
    have h := h (x1 + Int32.ofInt 1) (ia_ok rfl (by decide) hb6)
    generalize (x1 + Int32.ofInt 1) = r6 at h ⊢
    refine z_goto (off := (-18)) (tgt := 30) (pc' := 51) ⟨by decide +kernel, by decide, rfl⟩ ?_
    refine z_sub [1, 0] rfl ?_
    exact f30 _ _ h
noncomputable def WL_M_begins : Nat → (Int32 → zS → (Unit → zS → Prop) → Prop)
  | 0 => fun _ _ _ => False
  | n + 1 => WB_M_begins_30 (WL_M_begins n)
theorem wl_M_begins_30 {n : Nat} {x1 : Int32} {σ : zS} {Q : Unit → zS → Prop} (h : WB_M_begins_30 (WL_M_begins n) x1 σ Q) : (WL_M_begins (n + 1)) x1 σ Q := h
theorem sl_M_begins {E : xV} {K : zKt} {Q : Unit → zS → Prop} (k : ∀ v s, Q v s → K none s) : ∀ n, (∀ (x1 : Int32) (σ : zS), (WL_M_begins n) x1 σ Q → Wz E Y_M_begins 30 [(0, .ref 110), (1, .int x1)] [] σ K)
  | 0 => fun _ _ h => h.elim
  | n + 1 => by
    have i := sl_M_begins (E := E)  k n
    exact fun _ _ h => sh_M_begins_30 i k h
noncomputable def W_M_begins  (σ : zS) (Q : Unit → zS → Prop) : Prop := ((Int32.toInt (σ.1 110 26)) = 0 → (∀ σ2 : zS, zI σ 110 26 1 = σ2 → (∀ σ3 : zS, zI σ2 125 0 (-4) = σ3 → (∀ σ4 : zS, zI σ3 126 0 (-4) = σ4 → ((WL_M_begins fuF) 0 σ4 Q))))) ∧ (¬ (Int32.toInt (σ.1 110 26)) = 0 → (Q () σ))
theorem sF_M_begins {E : xV} {σ : zS} {K : zKt}  {Q : Unit → zS → Prop} (h : W_M_begins  σ Q) (k : ∀ v s, Q v s → K none s) : Cz E Y_M_begins [.ref 110] σ K := by
  refine z_entry (by decide) (fun a => by rw [sl_len]; exact Nat.le_of_ble_eq_true rfl) rfl ?_
  unfold W_M_begins at h
  refine z_aload_n (f := 0) (i := 0) (q := 0) (pc' := 1) ⟨by decide +kernel, rfl⟩ rfl rfl ?_
  refine w_geti (k := 110) (j := 26) (idx := 472) (pc' := 4) yfxe_13_472 ykfa_110_26 ⟨by decide +kernel, rfl⟩ ?_
  refine z_if_ne (off := 55) (tgt := 59) (pc' := 7) ⟨by decide +kernel, by decide, rfl⟩ (fun h1 => ?_) (fun h1 => ?_)
  · have h := h.2 (qi_ne_t rfl (by decide) h1)
    exact z_vret rfl (by decide +kernel) (k _ _ h)
  · have h := h.1 (qi_ne_f rfl (by decide) h1)
    refine z_aload_n (f := 0) (i := 0) (q := 0) (pc' := 8) ⟨by decide +kernel, rfl⟩ rfl rfl ?_
    refine z_iconst (i := 1) (v := 1) (pc' := 9) ⟨by decide +kernel, rfl⟩ (by decide) ?_
    refine w_putz (k := 110) (j := 26) (idx := 472) (pc' := 12) yfxz_13_472 ykfa_110_26 (by decide) ⟨by decide +kernel, rfl⟩ ?_
    generalize hs2 : zI σ 110 26 1 = σ2
    have h := h σ2 hs2
    refine z_aload_n (f := 0) (i := 0) (q := 0) (pc' := 13) ⟨by decide +kernel, rfl⟩ rfl rfl ?_
    refine w_getr (k := 110) (j := 21) (idx := 58) (pc' := 16) yfxe_13_58 ykfa_110_21 ⟨by decide +kernel, rfl⟩ ?_
    refine z_iconst (i := 0) (v := 0) (pc' := 17) ⟨by decide +kernel, rfl⟩ (by decide) ?_
    refine z_bipush (i := (-4)) (v := (-4)) (pc' := 19) ⟨by decide +kernel, rfl⟩ (by decide) ?_
    refine w_iast (k := 125) (n := 0) (pc' := 20) ykaa_125 (by decide) (by decide) ⟨by decide +kernel, rfl⟩ ?_
    generalize hs3 : zI σ2 125 0 (-4) = σ3
    have h := h σ3 hs3
    refine z_aload_n (f := 0) (i := 0) (q := 0) (pc' := 21) ⟨by decide +kernel, rfl⟩ rfl rfl ?_
    refine w_getr (k := 110) (j := 22) (idx := 61) (pc' := 24) yfxe_13_61 ykfa_110_22 ⟨by decide +kernel, rfl⟩ ?_
    refine z_iconst (i := 0) (v := 0) (pc' := 25) ⟨by decide +kernel, rfl⟩ (by decide) ?_
    refine z_bipush (i := (-4)) (v := (-4)) (pc' := 27) ⟨by decide +kernel, rfl⟩ (by decide) ?_
    refine w_iast (k := 126) (n := 0) (pc' := 28) ykaa_126 (by decide) (by decide) ⟨by decide +kernel, rfl⟩ ?_
    generalize hs4 : zI σ3 126 0 (-4) = σ4
    have h := h σ4 hs4
    refine z_iconst (i := 0) (v := 0) (pc' := 29) ⟨by decide +kernel, rfl⟩ (by decide) ?_
    refine z_istore_n (f := 1) (i := 1) (pc' := 30) ⟨by decide +kernel, rfl⟩ rfl (by decide) rfl ?_
    show Wz E Y_M_begins 30 [(1, .int 0), (0, .ref 110)] [] σ4 K
    refine z_sub [1, 0] rfl ?_
    exact (sl_M_begins k fuF) _ _ h
noncomputable def W_M_policy_b144 (F60 : Int32 → Int32 → Int32 → zS → (Int32 → zS → Prop) → Prop) (x1 : Int32) (x2 : Int32) (x3 : Int32) (σ : zS) (Q : Int32 → zS → Prop) : Prop := ((Int32.toInt x3) = 0 → (F60 x1 x2 x3 σ Q)) ∧ (¬ (Int32.toInt x3) = 0 → (W_M_token  σ (fun _ σ2 => F60 x1 x2 x3 σ2 Q)))
theorem sb_M_policy_144 {E : xV} {σ : zS} {K : zKt} {F60 : Int32 → Int32 → Int32 → zS → (Int32 → zS → Prop) → Prop} {x1 : Int32} {x2 : Int32} {x3 : Int32} {Q : Int32 → zS → Prop} (f60 : ∀ (x1 : Int32) (x2 : Int32) (x3 : Int32) (σ : zS), F60 x1 x2 x3 σ Q → Wz E Y_M_policy 60 [(0, .ref 110), (1, .int x1), (2, .int x2), (3, .int x3)] [] σ K) (k : ∀ v s, Q v s → K (some (.int v)) s) (h : W_M_policy_b144 F60 x1 x2 x3 σ Q) : Wz E Y_M_policy 144 [(0, .ref 110), (1, .int x1), (2, .int x2), (3, .int x3)] [] σ K := by
  unfold W_M_policy_b144 at h
  refine z_iload_n (f := 3) (i := 3) (q := 3) (pc' := 145) ⟨by decide +kernel, rfl⟩ rfl rfl ?_
  refine z_if_eq (off := (-85)) (tgt := 60) (pc' := 148) ⟨by decide +kernel, by decide, rfl⟩ (fun h1 => ?_) (fun h1 => ?_)
  · have h := h.1 (qi_eq_t rfl (by decide) h1)
    refine z_sub [0, 1, 2, 3] rfl ?_
    exact f60 _ _ _ _ h
  · have h := h.2 (qi_eq_f rfl (by decide) h1)
    refine z_aload_n (f := 0) (i := 0) (q := 0) (pc' := 149) ⟨by decide +kernel, rfl⟩ rfl rfl ?_
    refine w_invV (Z := Y_M_token) (idx := 566) (kb := 110) (As := []) (rest := []) (pc' := 152) cl_13_566 rfl ⟨rfl, rfl⟩ ykfa_110_0 rfl ⟨⟨by decide, by decide⟩, rfl, rfl⟩ ⟨by decide +kernel, rfl⟩ rfl rfl (Nat.le_of_ble_eq_true rfl) rfl rfl ?_
    refine sF_M_token h (fun _ σ2 h => ?_)
    show Wz E Y_M_policy 152 [(0, .ref 110), (1, .int x1), (2, .int x2), (3, .int x3)] [] σ2 K
    refine z_goto (off := (-92)) (tgt := 60) (pc' := 155) ⟨by decide +kernel, by decide, rfl⟩ ?_
    refine z_sub [0, 1, 2, 3] rfl ?_
    exact f60 _ _ _ _ h
noncomputable def W_M_policy_b119 (F60 : Int32 → Int32 → Int32 → zS → (Int32 → zS → Prop) → Prop) (x1 : Int32) (x2 : Int32) (y0 : Int32) (σ : zS) (Q : Int32 → zS → Prop) : Prop := ((Int32.toInt y0) = 0 → (W_M_policy_b144 F60 x1 x2 y0 σ Q)) ∧ (¬ (Int32.toInt y0) = 0 → (W_M_isSign 59 σ (fun v2 σ2 => ((Int32.toInt v2) = 0 → (∀ σ4 : zS, zI σ2 110 58 (σ2.1 110 29) = σ4 → (F60 x1 x2 y0 σ4 Q))) ∧ (¬ (Int32.toInt v2) = 0 → (W_M_policy_b144 F60 x1 x2 y0 σ2 Q)))))
theorem sb_M_policy_119 {E : xV} {σ : zS} {K : zKt} {F60 : Int32 → Int32 → Int32 → zS → (Int32 → zS → Prop) → Prop} {x1 : Int32} {x2 : Int32} {y0 : Int32} {Q : Int32 → zS → Prop} (f60 : ∀ (x1 : Int32) (x2 : Int32) (x3 : Int32) (σ : zS), F60 x1 x2 x3 σ Q → Wz E Y_M_policy 60 [(0, .ref 110), (1, .int x1), (2, .int x2), (3, .int x3)] [] σ K) (k : ∀ v s, Q v s → K (some (.int v)) s) (h : W_M_policy_b119 F60 x1 x2 y0 σ Q) : Wz E Y_M_policy 119 [(0, .ref 110), (1, .int x1), (2, .int x2)] [.int y0] σ K := by
  unfold W_M_policy_b119 at h
  refine z_istore_n (f := 3) (i := 3) (pc' := 120) ⟨by decide +kernel, rfl⟩ rfl (by decide) rfl ?_
  show Wz E Y_M_policy 120 [(3, .int y0), (0, .ref 110), (1, .int x1), (2, .int x2)] [] σ K
  refine z_iload_n (f := 3) (i := 3) (q := 0) (pc' := 121) ⟨by decide +kernel, rfl⟩ rfl rfl ?_
  refine z_if_eq (off := 23) (tgt := 144) (pc' := 124) ⟨by decide +kernel, by decide, rfl⟩ (fun h1 => ?_) (fun h1 => ?_)
  · have h := h.1 (qi_eq_t rfl (by decide) h1)
    refine z_sub [1, 2, 3, 0] rfl ?_
    exact sb_M_policy_144 f60 k h
  · have h := h.2 (qi_eq_f rfl (by decide) h1)
    refine z_aload_n (f := 0) (i := 0) (q := 1) (pc' := 125) ⟨by decide +kernel, rfl⟩ rfl rfl ?_
    refine z_bipush (i := 59) (v := 59) (pc' := 127) ⟨by decide +kernel, rfl⟩ (by decide) ?_
    refine w_invV (Z := Y_M_isSign) (idx := 569) (kb := 110) (As := [.int 59]) (rest := []) (pc' := 130) cl_13_569 rfl ⟨rfl, rfl⟩ ykfa_110_0 rfl ⟨⟨by decide, by decide⟩, rfl, rfl⟩ ⟨by decide +kernel, rfl⟩ rfl rfl (Nat.le_of_ble_eq_true rfl) rfl rfl ?_
    refine sF_M_isSign h (fun v2 σ2 h => ?_)
    show Wz E Y_M_policy 130 [(3, .int y0), (0, .ref 110), (1, .int x1), (2, .int x2)] [.int v2] σ2 K
    refine z_if_ne (off := 14) (tgt := 144) (pc' := 133) ⟨by decide +kernel, by decide, rfl⟩ (fun h3 => ?_) (fun h3 => ?_)
    · have h := h.2 (qi_ne_t rfl (by decide) h3)
      refine z_sub [1, 2, 3, 0] rfl ?_
      exact sb_M_policy_144 f60 k h
    · have h := h.1 (qi_ne_f rfl (by decide) h3)
      refine z_aload_n (f := 0) (i := 0) (q := 1) (pc' := 134) ⟨by decide +kernel, rfl⟩ rfl rfl ?_
      refine z_aload_n (f := 0) (i := 0) (q := 1) (pc' := 135) ⟨by decide +kernel, rfl⟩ rfl rfl ?_
      refine w_geti (k := 110) (j := 29) (idx := 504) (pc' := 138) yfxe_13_504 ykfa_110_29 ⟨by decide +kernel, rfl⟩ ?_
      refine w_puti (k := 110) (j := 58) (idx := 559) (pc' := 141) yfxi_13_559 ykfa_110_58 ⟨by decide +kernel, rfl⟩ ?_
      generalize hs4 : zI σ2 110 58 (σ2.1 110 29) = σ4
      have h := h σ4 hs4
      refine z_goto (off := (-81)) (tgt := 60) (pc' := 144) ⟨by decide +kernel, by decide, rfl⟩ ?_
      refine z_sub [1, 2, 3, 0] rfl ?_
      exact f60 _ _ _ _ h
noncomputable def W_M_policy_b155 (F60 : Int32 → Int32 → Int32 → zS → (Int32 → zS → Prop) → Prop) (x1 : Int32) (x2 : Int32) (σ : zS) (Q : Int32 → zS → Prop) : Prop := ∀ σ1 : zS, zI σ 110 1 0 = σ1 → (((Int32.toInt (σ1.1 110 58)) < 0 → (∃ n3 : Nat, Int32.toInt (σ1.1 110 32) = (n3 : Int) ∧ n3 < 8 ∧ (∀ σ4 : zS, zI σ1 130 n3 x1 = σ4 → (∃ n5 : Nat, Int32.toInt (σ4.1 110 32) = (n5 : Int) ∧ n5 < 8 ∧ (∀ σ6 : zS, zI σ4 131 n5 x2 = σ6 → ((-2147483648 ≤ (Int32.toInt (σ6.1 110 32)) + 1 ∧ (Int32.toInt (σ6.1 110 32)) + 1 ≤ 2147483647) ∧ ∀ r7 : Int32, r7.toInt = (Int32.toInt (σ6.1 110 32)) + 1 → (∀ σ8 : zS, zI σ6 110 32 r7 = σ8 → ((-2147483648 ≤ (Int32.toInt (σ8.1 110 32)) - 1 ∧ (Int32.toInt (σ8.1 110 32)) - 1 ≤ 2147483647) ∧ ∀ r9 : Int32, r9.toInt = (Int32.toInt (σ8.1 110 32)) - 1 → (Q r9 σ8))))))))) ∧ (¬ (Int32.toInt (σ1.1 110 58)) < 0 → ((-2147483648 ≤ (-10) - (Int32.toInt (σ1.1 110 58)) ∧ (-10) - (Int32.toInt (σ1.1 110 58)) ≤ 2147483647) ∧ ∀ r10 : Int32, r10.toInt = (-10) - (Int32.toInt (σ1.1 110 58)) → (Q r10 σ1))))
theorem sb_M_policy_155 {E : xV} {σ : zS} {K : zKt} {F60 : Int32 → Int32 → Int32 → zS → (Int32 → zS → Prop) → Prop} {x1 : Int32} {x2 : Int32} {Q : Int32 → zS → Prop} (f60 : ∀ (x1 : Int32) (x2 : Int32) (x3 : Int32) (σ : zS), F60 x1 x2 x3 σ Q → Wz E Y_M_policy 60 [(0, .ref 110), (1, .int x1), (2, .int x2), (3, .int x3)] [] σ K) (k : ∀ v s, Q v s → K (some (.int v)) s) (h : W_M_policy_b155 F60 x1 x2 σ Q) : Wz E Y_M_policy 155 [(0, .ref 110), (1, .int x1), (2, .int x2)] [] σ K := by
  unfold W_M_policy_b155 at h
  refine z_aload_n (f := 0) (i := 0) (q := 0) (pc' := 156) ⟨by decide +kernel, rfl⟩ rfl rfl ?_
  refine z_iconst (i := 0) (v := 0) (pc' := 157) ⟨by decide +kernel, rfl⟩ (by decide) ?_
  refine w_puti (k := 110) (j := 1) (idx := 396) (pc' := 160) yfxi_13_396 ykfa_110_1 ⟨by decide +kernel, rfl⟩ ?_
  generalize hs1 : zI σ 110 1 0 = σ1
  have h := h σ1 hs1
  refine z_aload_n (f := 0) (i := 0) (q := 0) (pc' := 161) ⟨by decide +kernel, rfl⟩ rfl rfl ?_
  refine w_geti (k := 110) (j := 58) (idx := 559) (pc' := 164) yfxe_13_559 ykfa_110_58 ⟨by decide +kernel, rfl⟩ ?_
  refine z_if_lt (off := 11) (tgt := 175) (pc' := 167) ⟨by decide +kernel, by decide, rfl⟩ (fun h2 => ?_) (fun h2 => ?_)
  · have h := h.1 (qi_lt_t rfl (by decide) h2)
    refine z_aload_n (f := 0) (i := 0) (q := 0) (pc' := 176) ⟨by decide +kernel, rfl⟩ rfl rfl ?_
    refine w_getr (k := 110) (j := 33) (idx := 73) (pc' := 179) yfxe_13_73 ykfa_110_33 ⟨by decide +kernel, rfl⟩ ?_
    refine z_aload_n (f := 0) (i := 0) (q := 0) (pc' := 180) ⟨by decide +kernel, rfl⟩ rfl rfl ?_
    refine w_geti (k := 110) (j := 32) (idx := 646) (pc' := 183) yfxe_13_646 ykfa_110_32 ⟨by decide +kernel, rfl⟩ ?_
    refine z_iload_n (f := 1) (i := 1) (q := 1) (pc' := 184) ⟨by decide +kernel, rfl⟩ rfl rfl ?_
    obtain ⟨n3, hi3, hz3, h⟩ := h
    refine w_iast (k := 130) (n := n3) (pc' := 185) ykaa_130 (hi3) (hz3) ⟨by decide +kernel, rfl⟩ ?_
    generalize hs4 : zI σ1 130 n3 x1 = σ4
    have h := h σ4 hs4
    refine z_aload_n (f := 0) (i := 0) (q := 0) (pc' := 186) ⟨by decide +kernel, rfl⟩ rfl rfl ?_
    refine w_getr (k := 110) (j := 34) (idx := 76) (pc' := 189) yfxe_13_76 ykfa_110_34 ⟨by decide +kernel, rfl⟩ ?_
    refine z_aload_n (f := 0) (i := 0) (q := 0) (pc' := 190) ⟨by decide +kernel, rfl⟩ rfl rfl ?_
    refine w_geti (k := 110) (j := 32) (idx := 646) (pc' := 193) yfxe_13_646 ykfa_110_32 ⟨by decide +kernel, rfl⟩ ?_
    refine z_iload_n (f := 2) (i := 2) (q := 2) (pc' := 194) ⟨by decide +kernel, rfl⟩ rfl rfl ?_
    obtain ⟨n5, hi5, hz5, h⟩ := h
    refine w_iast (k := 131) (n := n5) (pc' := 195) ykaa_131 (hi5) (hz5) ⟨by decide +kernel, rfl⟩ ?_
    generalize hs6 : zI σ4 131 n5 x2 = σ6
    have h := h σ6 hs6
    refine z_aload_n (f := 0) (i := 0) (q := 0) (pc' := 196) ⟨by decide +kernel, rfl⟩ rfl rfl ?_
    refine z_dupr (pc' := 197) ⟨by decide +kernel, rfl⟩ ?_
    refine w_geti (k := 110) (j := 32) (idx := 646) (pc' := 200) yfxe_13_646 ykfa_110_32 ⟨by decide +kernel, rfl⟩ ?_
    refine z_iconst (i := 1) (v := 1) (pc' := 201) ⟨by decide +kernel, rfl⟩ (by decide) ?_
    refine z_iadd (pc' := 202) ⟨by decide +kernel, rfl⟩ ?_
    obtain ⟨hb7, h⟩ := h
    have h := h ((σ6.1 110 32) + 1) (ia_ok rfl (by decide) hb7)
    generalize ((σ6.1 110 32) + 1) = r7 at h ⊢
    refine w_puti (k := 110) (j := 32) (idx := 646) (pc' := 205) yfxi_13_646 ykfa_110_32 ⟨by decide +kernel, rfl⟩ ?_
    generalize hs8 : zI σ6 110 32 r7 = σ8
    have h := h σ8 hs8
    refine z_aload_n (f := 0) (i := 0) (q := 0) (pc' := 206) ⟨by decide +kernel, rfl⟩ rfl rfl ?_
    refine w_geti (k := 110) (j := 32) (idx := 646) (pc' := 209) yfxe_13_646 ykfa_110_32 ⟨by decide +kernel, rfl⟩ ?_
    refine z_iconst (i := 1) (v := 1) (pc' := 210) ⟨by decide +kernel, rfl⟩ (by decide) ?_
    refine z_isub (pc' := 211) ⟨by decide +kernel, rfl⟩ ?_
    obtain ⟨hb9, h⟩ := h
    have h := h ((σ8.1 110 32) - 1) (is_ok rfl (by decide) hb9)
    generalize ((σ8.1 110 32) - 1) = r9 at h ⊢
    exact z_iret (ty := .int) rfl (by rfl) (by decide +kernel) (k _ _ h)
  · have h := h.2 (qi_lt_f rfl (by decide) h2)
    refine z_bipush (i := (-10)) (v := (-10)) (pc' := 169) ⟨by decide +kernel, rfl⟩ (by decide) ?_
    refine z_aload_n (f := 0) (i := 0) (q := 0) (pc' := 170) ⟨by decide +kernel, rfl⟩ rfl rfl ?_
    refine w_geti (k := 110) (j := 58) (idx := 559) (pc' := 173) yfxe_13_559 ykfa_110_58 ⟨by decide +kernel, rfl⟩ ?_
    refine z_isub (pc' := 174) ⟨by decide +kernel, rfl⟩ ?_
    obtain ⟨hb10, h⟩ := h
    have h := h ((-10) - (σ1.1 110 58)) (is_ok (by decide) rfl hb10)
    generalize ((-10) - (σ1.1 110 58)) = r10 at h ⊢
    exact z_iret (ty := .int) rfl (by rfl) (by decide +kernel) (k _ _ h)
noncomputable def WB_M_policy_60 (F60 : Int32 → Int32 → Int32 → zS → (Int32 → zS → Prop) → Prop) (x1 : Int32) (x2 : Int32) (x3 : Int32) (σ : zS) (Q : Int32 → zS → Prop) : Prop := ((Int32.toInt x3) = 0 → (W_M_policy_b155 F60 x1 x2 σ Q)) ∧ (¬ (Int32.toInt x3) = 0 → ((0 ≤ (Int32.toInt (σ.1 110 58)) → (W_M_policy_b155 F60 x1 x2 σ Q)) ∧ (¬ 0 ≤ (Int32.toInt (σ.1 110 58)) → (((Int32.toInt x2) = 30 → (∀ σ10 : zS, zI σ 110 58 (σ.1 110 29) = σ10 → (F60 x1 x2 x3 σ10 Q))) ∧ (¬ (Int32.toInt x2) = 30 → ((-2147483648 ≤ 30 * (Int32.toInt (σ.1 110 32)) ∧ 30 * (Int32.toInt (σ.1 110 32)) ≤ 2147483647) ∧ ∀ r4 : Int32, r4.toInt = 30 * (Int32.toInt (σ.1 110 32)) → ((-2147483648 ≤ (Int32.toInt r4) + (Int32.toInt x2) ∧ (Int32.toInt r4) + (Int32.toInt x2) ≤ 2147483647) ∧ ∀ r5 : Int32, r5.toInt = (Int32.toInt r4) + (Int32.toInt x2) → (W_M_isRule r5 σ (fun v6 σ6 => ((Int32.toInt v6) = 0 → (F60 x1 x2 x3 σ6 Q)) ∧ (¬ (Int32.toInt v6) = 0 → ((-2147483648 ≤ (Int32.toInt x2) + 1 ∧ (Int32.toInt x2) + 1 ≤ 2147483647) ∧ ∀ r8 : Int32, r8.toInt = (Int32.toInt x2) + 1 → (((Int32.toInt (σ6.1 110 28)) = 0 → (W_M_policy_b119 F60 x1 r8 0 σ6 Q)) ∧ (¬ (Int32.toInt (σ6.1 110 28)) = 0 → (W_M_policy_b119 F60 x1 r8 1 σ6 Q))))))))))))))
theorem sh_M_policy_60 {E : xV} {σ : zS} {K : zKt} {F60 : Int32 → Int32 → Int32 → zS → (Int32 → zS → Prop) → Prop} {x1 : Int32} {x2 : Int32} {x3 : Int32} {Q : Int32 → zS → Prop} (f60 : ∀ (x1 : Int32) (x2 : Int32) (x3 : Int32) (σ : zS), F60 x1 x2 x3 σ Q → Wz E Y_M_policy 60 [(0, .ref 110), (1, .int x1), (2, .int x2), (3, .int x3)] [] σ K) (k : ∀ v s, Q v s → K (some (.int v)) s) (h : WB_M_policy_60 F60 x1 x2 x3 σ Q) : Wz E Y_M_policy 60 [(0, .ref 110), (1, .int x1), (2, .int x2), (3, .int x3)] [] σ K := by
  unfold WB_M_policy_60 at h
  refine z_iload_n (f := 3) (i := 3) (q := 3) (pc' := 61) ⟨by decide +kernel, rfl⟩ rfl rfl ?_
  refine z_if_eq (off := 94) (tgt := 155) (pc' := 64) ⟨by decide +kernel, by decide, rfl⟩ (fun h1 => ?_) (fun h1 => ?_)
  · have h := h.1 (qi_eq_t rfl (by decide) h1)
    refine z_sub [0, 1, 2] rfl ?_
    exact sb_M_policy_155 f60 k h
  · have h := h.2 (qi_eq_f rfl (by decide) h1)
    refine z_aload_n (f := 0) (i := 0) (q := 0) (pc' := 65) ⟨by decide +kernel, rfl⟩ rfl rfl ?_
    refine w_geti (k := 110) (j := 58) (idx := 559) (pc' := 68) yfxe_13_559 ykfa_110_58 ⟨by decide +kernel, rfl⟩ ?_
    refine z_if_ge (off := 87) (tgt := 155) (pc' := 71) ⟨by decide +kernel, by decide, rfl⟩ (fun h2 => ?_) (fun h2 => ?_)
    · have h := h.1 (qi_ge_t rfl (by decide) h2)
      refine z_sub [0, 1, 2] rfl ?_
      exact sb_M_policy_155 f60 k h
    · have h := h.2 (qi_ge_f rfl (by decide) h2)
      refine z_iload_n (f := 2) (i := 2) (q := 2) (pc' := 72) ⟨by decide +kernel, rfl⟩ rfl rfl ?_
      refine z_bipush (i := 30) (v := 30) (pc' := 74) ⟨by decide +kernel, rfl⟩ (by decide) ?_
      refine z_icmp_ne (off := 14) (tgt := 88) (pc' := 77) ⟨by decide +kernel, by decide, rfl⟩ (fun h3 => ?_) (fun h3 => ?_)
      · have h := h.2 (qi_ne_t rfl (by decide) h3)
        refine z_aload_n (f := 0) (i := 0) (q := 0) (pc' := 89) ⟨by decide +kernel, rfl⟩ rfl rfl ?_
        refine z_bipush (i := 30) (v := 30) (pc' := 91) ⟨by decide +kernel, rfl⟩ (by decide) ?_
        refine z_aload_n (f := 0) (i := 0) (q := 0) (pc' := 92) ⟨by decide +kernel, rfl⟩ rfl rfl ?_
        refine w_geti (k := 110) (j := 32) (idx := 646) (pc' := 95) yfxe_13_646 ykfa_110_32 ⟨by decide +kernel, rfl⟩ ?_
        refine z_imul (pc' := 96) ⟨by decide +kernel, rfl⟩ ?_
        obtain ⟨hb4, h⟩ := h
        have h := h (30 * (σ.1 110 32)) (im_ok (by decide) rfl hb4)
        generalize (30 * (σ.1 110 32)) = r4 at h ⊢
        refine z_iload_n (f := 2) (i := 2) (q := 2) (pc' := 97) ⟨by decide +kernel, rfl⟩ rfl rfl ?_
        refine z_iadd (pc' := 98) ⟨by decide +kernel, rfl⟩ ?_
        obtain ⟨hb5, h⟩ := h
        have h := h (r4 + x2) (ia_ok rfl rfl hb5)
        generalize (r4 + x2) = r5 at h ⊢
        refine w_invV (Z := Y_M_isRule) (idx := 649) (kb := 110) (As := [.int r5]) (rest := []) (pc' := 101) cl_13_649 rfl ⟨rfl, rfl⟩ ykfa_110_0 rfl ⟨⟨by decide, by decide⟩, rfl, rfl⟩ ⟨by decide +kernel, rfl⟩ rfl rfl (Nat.le_of_ble_eq_true rfl) rfl rfl ?_
        refine sF_M_isRule h (fun v6 σ6 h => ?_)
        show Wz E Y_M_policy 101 [(0, .ref 110), (1, .int x1), (2, .int x2), (3, .int x3)] [.int v6] σ6 K
        refine z_if_eq (off := (-41)) (tgt := 60) (pc' := 104) ⟨by decide +kernel, by decide, rfl⟩ (fun h7 => ?_) (fun h7 => ?_)
        · have h := h.1 (qi_eq_t rfl (by decide) h7)
          refine z_sub [0, 1, 2, 3] rfl ?_
          exact f60 _ _ _ _ h
        · have h := h.2 (qi_eq_f rfl (by decide) h7)
          refine z_iinc (i := 2) (z := 1) (q := 2) (pc' := 107) ⟨by decide +kernel, rfl⟩ rfl rfl (by decide) rfl ?_
          show Wz E Y_M_policy 107 [(2, .int (x2 + Int32.ofInt 1)), (0, .ref 110), (1, .int x1), (3, .int x3)] [] σ6 K
          obtain ⟨hb8, h⟩ := h
          have h := h (x2 + Int32.ofInt 1) (ia_ok rfl (by decide) hb8)
          generalize (x2 + Int32.ofInt 1) = r8 at h ⊢
          refine z_aload_n (f := 0) (i := 0) (q := 1) (pc' := 108) ⟨by decide +kernel, rfl⟩ rfl rfl ?_
          refine w_geti (k := 110) (j := 28) (idx := 511) (pc' := 111) yfxe_13_511 ykfa_110_28 ⟨by decide +kernel, rfl⟩ ?_
          refine z_if_eq (off := 7) (tgt := 118) (pc' := 114) ⟨by decide +kernel, by decide, rfl⟩ (fun h9 => ?_) (fun h9 => ?_)
          · have h := h.1 (qi_eq_t rfl (by decide) h9)
            refine z_iconst (i := 0) (v := 0) (pc' := 119) ⟨by decide +kernel, rfl⟩ (by decide) ?_
            refine z_sub [1, 2, 0] rfl ?_
            exact sb_M_policy_119 f60 k h
          · have h := h.2 (qi_eq_f rfl (by decide) h9)
            refine z_iconst (i := 1) (v := 1) (pc' := 115) ⟨by decide +kernel, rfl⟩ (by decide) ?_
            refine z_goto (off := 4) (tgt := 119) (pc' := 118) ⟨by decide +kernel, by decide, rfl⟩ ?_
            refine z_sub [1, 2, 0] rfl ?_
            exact sb_M_policy_119 f60 k h
      · have h := h.1 (qi_ne_f rfl (by decide) h3)
        refine z_aload_n (f := 0) (i := 0) (q := 0) (pc' := 78) ⟨by decide +kernel, rfl⟩ rfl rfl ?_
        refine z_aload_n (f := 0) (i := 0) (q := 0) (pc' := 79) ⟨by decide +kernel, rfl⟩ rfl rfl ?_
        refine w_geti (k := 110) (j := 29) (idx := 504) (pc' := 82) yfxe_13_504 ykfa_110_29 ⟨by decide +kernel, rfl⟩ ?_
        refine w_puti (k := 110) (j := 58) (idx := 559) (pc' := 85) yfxi_13_559 ykfa_110_58 ⟨by decide +kernel, rfl⟩ ?_
        generalize hs10 : zI σ 110 58 (σ.1 110 29) = σ10
        have h := h σ10 hs10
        refine z_goto (off := (-25)) (tgt := 60) (pc' := 88) ⟨by decide +kernel, by decide, rfl⟩ ?_
        refine z_sub [0, 1, 2, 3] rfl ?_
        exact f60 _ _ _ _ h
noncomputable def WL_M_policy : Nat → (Int32 → Int32 → Int32 → zS → (Int32 → zS → Prop) → Prop)
  | 0 => fun _ _ _ _ _ => False
  | n + 1 => WB_M_policy_60 (WL_M_policy n)
theorem wl_M_policy_60 {n : Nat} {x1 : Int32} {x2 : Int32} {x3 : Int32} {σ : zS} {Q : Int32 → zS → Prop} (h : WB_M_policy_60 (WL_M_policy n) x1 x2 x3 σ Q) : (WL_M_policy (n + 1)) x1 x2 x3 σ Q := h
theorem sl_M_policy {E : xV} {K : zKt} {Q : Int32 → zS → Prop} (k : ∀ v s, Q v s → K (some (.int v)) s) : ∀ n, (∀ (x1 : Int32) (x2 : Int32) (x3 : Int32) (σ : zS), (WL_M_policy n) x1 x2 x3 σ Q → Wz E Y_M_policy 60 [(0, .ref 110), (1, .int x1), (2, .int x2), (3, .int x3)] [] σ K)
  | 0 => fun _ _ _ _ h => h.elim
  | n + 1 => by
    have i := sl_M_policy (E := E)  k n
    exact fun _ _ _ _ h => sh_M_policy_60 i k h
noncomputable def W_M_policy (a1 : Int32) (σ : zS) (Q : Int32 → zS → Prop) : Prop := W_M_begins  σ (fun _ σ1 => ∀ r2 : Int64, r2.toInt = (Int32.toInt a1) → (W_M_in r2 0 3 σ1 (fun v3 σ3 => ((Int32.toInt v3) = 0 → (Q (-1) σ3)) ∧ (¬ (Int32.toInt v3) = 0 → (((Int32.toInt (σ3.1 110 32)) = 8 → (Q (-3) σ3)) ∧ (¬ (Int32.toInt (σ3.1 110 32)) = 8 → (∀ σ6 : zS, zI σ3 110 27 0 = σ6 → (∀ σ7 : zS, zI σ6 110 58 (-1) = σ7 → ((-2147483648 ≤ 1300 * (Int32.toInt (σ7.1 110 32)) ∧ 1300 * (Int32.toInt (σ7.1 110 32)) ≤ 2147483647) ∧ ∀ r8 : Int32, r8.toInt = 1300 * (Int32.toInt (σ7.1 110 32)) → (∀ σ9 : zS, zI σ7 110 46 r8 = σ9 → (W_M_token  σ9 (fun _ σ10 => (WL_M_policy fuF) a1 0 1 σ10 Q))))))))))))
theorem sF_M_policy {E : xV} {σ : zS} {K : zKt} {a1 : Int32} {Q : Int32 → zS → Prop} (h : W_M_policy a1 σ Q) (k : ∀ v s, Q v s → K (some (.int v)) s) : Cz E Y_M_policy [.ref 110, .int a1] σ K := by
  refine z_entry (by decide) (fun a => by rw [sl_len]; exact Nat.le_of_ble_eq_true rfl) rfl ?_
  unfold W_M_policy at h
  refine z_aload_n (f := 0) (i := 0) (q := 0) (pc' := 1) ⟨by decide +kernel, rfl⟩ rfl rfl ?_
  refine w_invV (Z := Y_M_begins) (idx := 476) (kb := 110) (As := []) (rest := []) (pc' := 4) cl_13_476 rfl ⟨rfl, rfl⟩ ykfa_110_0 rfl ⟨⟨by decide, by decide⟩, rfl, rfl⟩ ⟨by decide +kernel, rfl⟩ rfl rfl (Nat.le_of_ble_eq_true rfl) rfl rfl ?_
  refine sF_M_begins h (fun _ σ1 h => ?_)
  show Wz E Y_M_policy 4 [(0, .ref 110), (1, .int a1)] [] σ1 K
  refine z_iload_n (f := 1) (i := 1) (q := 1) (pc' := 5) ⟨by decide +kernel, rfl⟩ rfl rfl ?_
  refine z_i2l (v := (Int32.toInt64 a1)) (pc' := 6) ⟨by decide +kernel, rfl⟩ rfl ?_
  have h := h (Int32.toInt64 a1) (Int32.toInt_toInt64 _)
  generalize (Int32.toInt64 a1) = r2 at h ⊢
  refine z_lconst (i := 0) (v := 0) (pc' := 7) ⟨by decide +kernel, rfl⟩ (by decide) ?_
  refine z_ldc2 (i := 365) (v := 3) (pc' := 10) ⟨by decide +kernel, rfl⟩ k_11_18 ?_
  refine w_invS (Z := Y_M_in) (idx := 333) (As := [.long r2, .long 0, .long 3]) (rest := []) (pc' := 13) cl_13_333 rfl ⟨rfl, rfl⟩ ⟨⟨by decide, by decide⟩, rfl, rfl⟩ ⟨by decide +kernel, rfl⟩ rfl rfl (Nat.le_of_ble_eq_true rfl) rfl rfl ?_
  refine sF_M_in h (fun v3 σ3 h => ?_)
  show Wz E Y_M_policy 13 [(0, .ref 110), (1, .int a1)] [.int v3] σ3 K
  refine z_if_ne (off := 5) (tgt := 18) (pc' := 16) ⟨by decide +kernel, by decide, rfl⟩ (fun h4 => ?_) (fun h4 => ?_)
  · have h := h.2 (qi_ne_t rfl (by decide) h4)
    refine z_aload_n (f := 0) (i := 0) (q := 0) (pc' := 19) ⟨by decide +kernel, rfl⟩ rfl rfl ?_
    refine w_geti (k := 110) (j := 32) (idx := 646) (pc' := 22) yfxe_13_646 ykfa_110_32 ⟨by decide +kernel, rfl⟩ ?_
    refine z_bipush (i := 8) (v := 8) (pc' := 24) ⟨by decide +kernel, rfl⟩ (by decide) ?_
    refine z_icmp_ne (off := 6) (tgt := 30) (pc' := 27) ⟨by decide +kernel, by decide, rfl⟩ (fun h5 => ?_) (fun h5 => ?_)
    · have h := h.2 (qi_ne_t rfl (by decide) h5)
      refine z_aload_n (f := 0) (i := 0) (q := 0) (pc' := 31) ⟨by decide +kernel, rfl⟩ rfl rfl ?_
      refine z_iconst (i := 0) (v := 0) (pc' := 32) ⟨by decide +kernel, rfl⟩ (by decide) ?_
      refine w_puti (k := 110) (j := 27) (idx := 498) (pc' := 35) yfxi_13_498 ykfa_110_27 ⟨by decide +kernel, rfl⟩ ?_
      generalize hs6 : zI σ3 110 27 0 = σ6
      have h := h σ6 hs6
      refine z_aload_n (f := 0) (i := 0) (q := 0) (pc' := 36) ⟨by decide +kernel, rfl⟩ rfl rfl ?_
      refine z_iconst (i := (-1)) (v := (-1)) (pc' := 37) ⟨by decide +kernel, rfl⟩ (by decide) ?_
      refine w_puti (k := 110) (j := 58) (idx := 559) (pc' := 40) yfxi_13_559 ykfa_110_58 ⟨by decide +kernel, rfl⟩ ?_
      generalize hs7 : zI σ6 110 58 (-1) = σ7
      have h := h σ7 hs7
      refine z_aload_n (f := 0) (i := 0) (q := 0) (pc' := 41) ⟨by decide +kernel, rfl⟩ rfl rfl ?_
      refine z_sipush (i := 1300) (v := 1300) (pc' := 44) ⟨by decide +kernel, rfl⟩ (by decide) ?_
      refine z_aload_n (f := 0) (i := 0) (q := 0) (pc' := 45) ⟨by decide +kernel, rfl⟩ rfl rfl ?_
      refine w_geti (k := 110) (j := 32) (idx := 646) (pc' := 48) yfxe_13_646 ykfa_110_32 ⟨by decide +kernel, rfl⟩ ?_
      refine z_imul (pc' := 49) ⟨by decide +kernel, rfl⟩ ?_
      obtain ⟨hb8, h⟩ := h
      have h := h (1300 * (σ7.1 110 32)) (im_ok (by decide) rfl hb8)
      generalize (1300 * (σ7.1 110 32)) = r8 at h ⊢
      refine w_puti (k := 110) (j := 46) (idx := 543) (pc' := 52) yfxi_13_543 ykfa_110_46 ⟨by decide +kernel, rfl⟩ ?_
      generalize hs9 : zI σ7 110 46 r8 = σ9
      have h := h σ9 hs9
      refine z_iconst (i := 0) (v := 0) (pc' := 53) ⟨by decide +kernel, rfl⟩ (by decide) ?_
      refine z_istore_n (f := 2) (i := 2) (pc' := 54) ⟨by decide +kernel, rfl⟩ rfl (by decide) rfl ?_
      show Wz E Y_M_policy 54 [(2, .int 0), (0, .ref 110), (1, .int a1)] [] σ9 K
      refine z_iconst (i := 1) (v := 1) (pc' := 55) ⟨by decide +kernel, rfl⟩ (by decide) ?_
      refine z_istore_n (f := 3) (i := 3) (pc' := 56) ⟨by decide +kernel, rfl⟩ rfl (by decide) rfl ?_
      show Wz E Y_M_policy 56 [(3, .int 1), (2, .int 0), (0, .ref 110), (1, .int a1)] [] σ9 K
      refine z_aload_n (f := 0) (i := 0) (q := 2) (pc' := 57) ⟨by decide +kernel, rfl⟩ rfl rfl ?_
      refine w_invV (Z := Y_M_token) (idx := 566) (kb := 110) (As := []) (rest := []) (pc' := 60) cl_13_566 rfl ⟨rfl, rfl⟩ ykfa_110_0 rfl ⟨⟨by decide, by decide⟩, rfl, rfl⟩ ⟨by decide +kernel, rfl⟩ rfl rfl (Nat.le_of_ble_eq_true rfl) rfl rfl ?_
      refine sF_M_token h (fun _ σ10 h => ?_)
      show Wz E Y_M_policy 60 [(3, .int 1), (2, .int 0), (0, .ref 110), (1, .int a1)] [] σ10 K
      refine z_sub [2, 3, 1, 0] rfl ?_
      exact (sl_M_policy k fuF) _ _ _ _ h
    · have h := h.1 (qi_ne_f rfl (by decide) h5)
      refine z_bipush (i := (-3)) (v := (-3)) (pc' := 29) ⟨by decide +kernel, rfl⟩ (by decide) ?_
      exact z_iret (ty := .int) rfl (by rfl) (by decide +kernel) (k _ _ h)
  · have h := h.1 (qi_ne_f rfl (by decide) h4)
    refine z_iconst (i := (-1)) (v := (-1)) (pc' := 17) ⟨by decide +kernel, rfl⟩ (by decide) ?_
    exact z_iret (ty := .int) rfl (by rfl) (by decide +kernel) (k _ _ h)

end
