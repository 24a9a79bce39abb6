section
noncomputable def W_M_goesOn_b37 (x1 : Int32) (y0 : Int32) (σ : zS) (Q : Int32 → zS → Prop) : Prop := ((Int32.toInt (σ.1 110 28)) = 4 → (W_M_reckoning (σ.1 110 30) σ (fun v2 σ2 => ((Int32.toInt v2) < 0 → (W_M_goesOn_b105  x1 y0 σ2 Q)) ∧ (¬ (Int32.toInt v2) < 0 → (((Int32.toInt x1) = 0 → (W_M_goesOn_b105  x1 y0 σ2 Q)) ∧ (¬ (Int32.toInt x1) = 0 → (W_M_reckoning (σ2.1 110 30) σ2 (fun v5 σ5 => (10 ≤ (Int32.toInt v5) → (W_M_goesOn_b78  6 σ5 Q)) ∧ (¬ 10 ≤ (Int32.toInt v5) → (W_M_goesOn_b78  5 σ5 Q)))))))))) ∧ (¬ (Int32.toInt (σ.1 110 28)) = 4 → (W_M_goesOn_b105  x1 y0 σ Q))
theorem sb_M_goesOn_37 {E : xV} {σ : zS} {K : zKt} {x1 : Int32} {y0 : Int32} {Q : Int32 → zS → Prop} (k : ∀ v s, Q v s → K (some (.int v)) s) (h : W_M_goesOn_b37 x1 y0 σ Q) : Wz E Y_M_goesOn 37 [(0, .ref 110), (1, .int x1)] [.int y0] σ K := by
  unfold W_M_goesOn_b37 at h
  refine z_istore_n (f := 2) (i := 2) (pc' := 38) ⟨by decide +kernel, rfl⟩ rfl (by decide) rfl ?_
  show Wz E Y_M_goesOn 38 [(2, .int y0), (0, .ref 110), (1, .int x1)] [] σ K
  refine z_aload_n (f := 0) (i := 0) (q := 1) (pc' := 39) ⟨by decide +kernel, rfl⟩ rfl rfl ?_
  refine w_geti (k := 110) (j := 28) (idx := 511) (pc' := 42) yfxe_13_511 ykfa_110_28 ⟨by decide +kernel, rfl⟩ ?_
  refine z_iconst (i := 4) (v := 4) (pc' := 43) ⟨by decide +kernel, rfl⟩ (by decide) ?_
  refine z_icmp_ne (off := 62) (tgt := 105) (pc' := 46) ⟨by decide +kernel, by decide, rfl⟩ (fun h1 => ?_) (fun h1 => ?_)
  · have h := h.2 (qi_ne_t rfl (by decide) h1)
    refine z_sub [1, 2, 0] rfl ?_
    exact sb_M_goesOn_105  k h
  · have h := h.1 (qi_ne_f rfl (by decide) h1)
    refine z_aload_n (f := 0) (i := 0) (q := 1) (pc' := 47) ⟨by decide +kernel, rfl⟩ rfl rfl ?_
    refine w_geti (k := 110) (j := 30) (idx := 540) (pc' := 50) yfxe_13_540 ykfa_110_30 ⟨by decide +kernel, rfl⟩ ?_
    refine w_invS (Z := Y_M_reckoning) (idx := 607) (As := [.int (σ.1 110 30)]) (rest := []) (pc' := 53) cl_13_607 rfl ⟨rfl, rfl⟩ ⟨⟨by decide, by decide⟩, rfl, rfl⟩ ⟨by decide +kernel, rfl⟩ rfl rfl (Nat.le_of_ble_eq_true rfl) rfl rfl ?_
    refine sF_M_reckoning h (fun v2 σ2 h => ?_)
    show Wz E Y_M_goesOn 53 [(2, .int y0), (0, .ref 110), (1, .int x1)] [.int v2] σ2 K
    refine z_if_lt (off := 52) (tgt := 105) (pc' := 56) ⟨by decide +kernel, by decide, rfl⟩ (fun h3 => ?_) (fun h3 => ?_)
    · have h := h.1 (qi_lt_t rfl (by decide) h3)
      refine z_sub [1, 2, 0] rfl ?_
      exact sb_M_goesOn_105  k h
    · have h := h.2 (qi_lt_f rfl (by decide) h3)
      refine z_iload_n (f := 1) (i := 1) (q := 2) (pc' := 57) ⟨by decide +kernel, rfl⟩ rfl rfl ?_
      refine z_if_eq (off := 48) (tgt := 105) (pc' := 60) ⟨by decide +kernel, by decide, rfl⟩ (fun h4 => ?_) (fun h4 => ?_)
      · have h := h.1 (qi_eq_t rfl (by decide) h4)
        refine z_sub [1, 2, 0] rfl ?_
        exact sb_M_goesOn_105  k h
      · have h := h.2 (qi_eq_f rfl (by decide) h4)
        refine z_aload_n (f := 0) (i := 0) (q := 1) (pc' := 61) ⟨by decide +kernel, rfl⟩ rfl rfl ?_
        refine w_geti (k := 110) (j := 30) (idx := 540) (pc' := 64) yfxe_13_540 ykfa_110_30 ⟨by decide +kernel, rfl⟩ ?_
        refine w_invS (Z := Y_M_reckoning) (idx := 607) (As := [.int (σ2.1 110 30)]) (rest := []) (pc' := 67) cl_13_607 rfl ⟨rfl, rfl⟩ ⟨⟨by decide, by decide⟩, rfl, rfl⟩ ⟨by decide +kernel, rfl⟩ rfl rfl (Nat.le_of_ble_eq_true rfl) rfl rfl ?_
        refine sF_M_reckoning h (fun v5 σ5 h => ?_)
        show Wz E Y_M_goesOn 67 [(2, .int y0), (0, .ref 110), (1, .int x1)] [.int v5] σ5 K
        refine z_bipush (i := 10) (v := 10) (pc' := 69) ⟨by decide +kernel, rfl⟩ (by decide) ?_
        refine z_icmp_ge (off := 7) (tgt := 76) (pc' := 72) ⟨by decide +kernel, by decide, rfl⟩ (fun h6 => ?_) (fun h6 => ?_)
        · have h := h.1 (qi_ge_t rfl (by decide) h6)
          refine z_bipush (i := 6) (v := 6) (pc' := 78) ⟨by decide +kernel, rfl⟩ (by decide) ?_
          refine z_sub [1] rfl ?_
          exact sb_M_goesOn_78  k h
        · have h := h.2 (qi_ge_f rfl (by decide) h6)
          refine z_iconst (i := 5) (v := 5) (pc' := 73) ⟨by decide +kernel, rfl⟩ (by decide) ?_
          refine z_goto (off := 5) (tgt := 78) (pc' := 76) ⟨by decide +kernel, by decide, rfl⟩ ?_
          refine z_sub [1] rfl ?_
          exact sb_M_goesOn_78  k h
noncomputable def W_M_goesOn_b18 (y0 : Int32) (σ : zS) (Q : Int32 → zS → Prop) : Prop := ∃ n1 : Nat, Int32.toInt (σ.1 110 52) = (n1 : Int) ∧ n1 < 24 ∧ ((2 ≤ (Int32.toInt (σ.1 143 n1)) → (W_M_goesOn_b37  y0 0 σ Q)) ∧ (¬ 2 ≤ (Int32.toInt (σ.1 143 n1)) → (W_M_goesOn_b37  y0 1 σ Q)))
theorem sb_M_goesOn_18 {E : xV} {σ : zS} {K : zKt} {y0 : Int32} {Q : Int32 → zS → Prop} (k : ∀ v s, Q v s → K (some (.int v)) s) (h : W_M_goesOn_b18 y0 σ Q) : Wz E Y_M_goesOn 18 [(0, .ref 110)] [.int y0] σ K := by
  unfold W_M_goesOn_b18 at h
  refine z_istore_n (f := 1) (i := 1) (pc' := 19) ⟨by decide +kernel, rfl⟩ rfl (by decide) rfl ?_
  show Wz E Y_M_goesOn 19 [(1, .int y0), (0, .ref 110)] [] σ K
  refine z_aload_n (f := 0) (i := 0) (q := 1) (pc' := 20) ⟨by decide +kernel, rfl⟩ rfl rfl ?_
  refine w_getr (k := 110) (j := 47) (idx := 112) (pc' := 23) yfxe_13_112 ykfa_110_47 ⟨by decide +kernel, rfl⟩ ?_
  refine z_aload_n (f := 0) (i := 0) (q := 1) (pc' := 24) ⟨by decide +kernel, rfl⟩ rfl rfl ?_
  refine w_geti (k := 110) (j := 52) (idx := 549) (pc' := 27) yfxe_13_549 ykfa_110_52 ⟨by decide +kernel, rfl⟩ ?_
  obtain ⟨n1, hi1, hz1, h⟩ := h
  refine w_iald (k := 143) (n := n1) (pc' := 28) ykaa_143 (hi1) (hz1) ⟨by decide +kernel, rfl⟩ ?_
  refine z_iconst (i := 2) (v := 2) (pc' := 29) ⟨by decide +kernel, rfl⟩ (by decide) ?_
  refine z_icmp_ge (off := 7) (tgt := 36) (pc' := 32) ⟨by decide +kernel, by decide, rfl⟩ (fun h2 => ?_) (fun h2 => ?_)
  · have h := h.1 (qi_ge_t rfl (by decide) h2)
    refine z_iconst (i := 0) (v := 0) (pc' := 37) ⟨by decide +kernel, rfl⟩ (by decide) ?_
    refine z_sub [1, 0] rfl ?_
    exact sb_M_goesOn_37  k h
  · have h := h.2 (qi_ge_f rfl (by decide) h2)
    refine z_iconst (i := 1) (v := 1) (pc' := 33) ⟨by decide +kernel, rfl⟩ (by decide) ?_
    refine z_goto (off := 4) (tgt := 37) (pc' := 36) ⟨by decide +kernel, by decide, rfl⟩ ?_
    refine z_sub [1, 0] rfl ?_
    exact sb_M_goesOn_37  k h
noncomputable def W_M_goesOn  (σ : zS) (Q : Int32 → zS → Prop) : Prop := ∃ n1 : Nat, Int32.toInt (σ.1 110 52) = (n1 : Int) ∧ n1 < 24 ∧ (((Int32.toInt (σ.1 145 n1)) = 2 → (W_M_goesOn_b18  0 σ Q)) ∧ (¬ (Int32.toInt (σ.1 145 n1)) = 2 → (W_M_goesOn_b18  1 σ Q)))
theorem sF_M_goesOn {E : xV} {σ : zS} {K : zKt}  {Q : Int32 → zS → Prop} (h : W_M_goesOn  σ Q) (k : ∀ v s, Q v s → K (some (.int v)) s) : Cz E Y_M_goesOn [.ref 110] σ K := by
  refine z_entry (by decide) (fun a => by rw [sl_len]; exact Nat.le_of_ble_eq_true rfl) rfl ?_
  unfold W_M_goesOn at h
  refine z_aload_n (f := 0) (i := 0) (q := 0) (pc' := 1) ⟨by decide +kernel, rfl⟩ rfl rfl ?_
  refine w_getr (k := 110) (j := 49) (idx := 118) (pc' := 4) yfxe_13_118 ykfa_110_49 ⟨by decide +kernel, rfl⟩ ?_
  refine z_aload_n (f := 0) (i := 0) (q := 0) (pc' := 5) ⟨by decide +kernel, rfl⟩ rfl rfl ?_
  refine w_geti (k := 110) (j := 52) (idx := 549) (pc' := 8) yfxe_13_549 ykfa_110_52 ⟨by decide +kernel, rfl⟩ ?_
  obtain ⟨n1, hi1, hz1, h⟩ := h
  refine w_iald (k := 145) (n := n1) (pc' := 9) ykaa_145 (hi1) (hz1) ⟨by decide +kernel, rfl⟩ ?_
  refine z_iconst (i := 2) (v := 2) (pc' := 10) ⟨by decide +kernel, rfl⟩ (by decide) ?_
  refine z_icmp_eq (off := 7) (tgt := 17) (pc' := 13) ⟨by decide +kernel, by decide, rfl⟩ (fun h2 => ?_) (fun h2 => ?_)
  · have h := h.1 (qi_eq_t rfl (by decide) h2)
    refine z_iconst (i := 0) (v := 0) (pc' := 18) ⟨by decide +kernel, rfl⟩ (by decide) ?_
    refine z_sub [0] rfl ?_
    exact sb_M_goesOn_18  k h
  · have h := h.2 (qi_eq_f rfl (by decide) h2)
    refine z_iconst (i := 1) (v := 1) (pc' := 14) ⟨by decide +kernel, rfl⟩ (by decide) ?_
    refine z_goto (off := 4) (tgt := 18) (pc' := 17) ⟨by decide +kernel, by decide, rfl⟩ ?_
    refine z_sub [0] rfl ?_
    exact sb_M_goesOn_18  k h
noncomputable def W_M_condition_b85 (F55 : Int32 → zS → (Unit → zS → Prop) → Prop) (x1 : Int32) (σ : zS) (Q : Unit → zS → Prop) : Prop := ((Int32.toInt x1) = 0 → (F55 x1 σ Q)) ∧ (¬ (Int32.toInt x1) = 0 → ((0 ≤ (Int32.toInt (σ.1 110 58)) → (F55 x1 σ Q)) ∧ (¬ 0 ≤ (Int32.toInt (σ.1 110 58)) → (W_M_token  σ (fun _ σ3 => F55 x1 σ3 Q)))))
theorem sb_M_condition_85 {E : xV} {σ : zS} {K : zKt} {F55 : Int32 → zS → (Unit → zS → Prop) → Prop} {x1 : Int32} {Q : Unit → zS → Prop} (f55 : ∀ (x1 : Int32) (σ : zS), F55 x1 σ Q → Wz E Y_M_condition 55 [(0, .ref 110), (1, .int x1)] [] σ K) (k : ∀ v s, Q v s → K none s) (h : W_M_condition_b85 F55 x1 σ Q) : Wz E Y_M_condition 85 [(0, .ref 110), (1, .int x1)] [] σ K := by
  unfold W_M_condition_b85 at h
  refine z_iload_n (f := 1) (i := 1) (q := 1) (pc' := 86) ⟨by decide +kernel, rfl⟩ rfl rfl ?_
  refine z_if_eq (off := (-31)) (tgt := 55) (pc' := 89) ⟨by decide +kernel, by decide, rfl⟩ (fun h1 => ?_) (fun h1 => ?_)
  · have h := h.1 (qi_eq_t rfl (by decide) h1)
    refine z_sub [0, 1] rfl ?_
    exact f55 _ _ h
  · have h := h.2 (qi_eq_f rfl (by decide) h1)
    refine z_aload_n (f := 0) (i := 0) (q := 0) (pc' := 90) ⟨by decide +kernel, rfl⟩ rfl rfl ?_
    refine w_geti (k := 110) (j := 58) (idx := 559) (pc' := 93) yfxe_13_559 ykfa_110_58 ⟨by decide +kernel, rfl⟩ ?_
    refine z_if_ge (off := (-38)) (tgt := 55) (pc' := 96) ⟨by decide +kernel, by decide, rfl⟩ (fun h2 => ?_) (fun h2 => ?_)
    · have h := h.1 (qi_ge_t rfl (by decide) h2)
      refine z_sub [0, 1] rfl ?_
      exact f55 _ _ h
    · have h := h.2 (qi_ge_f rfl (by decide) h2)
      refine z_aload_n (f := 0) (i := 0) (q := 0) (pc' := 97) ⟨by decide +kernel, rfl⟩ rfl rfl ?_
      refine w_invV (Z := Y_M_token) (idx := 566) (kb := 110) (As := []) (rest := []) (pc' := 100) cl_13_566 rfl ⟨rfl, rfl⟩ ykfa_110_0 rfl ⟨⟨by decide, by decide⟩, rfl, rfl⟩ ⟨by decide +kernel, rfl⟩ rfl rfl (Nat.le_of_ble_eq_true rfl) rfl rfl ?_
      refine sF_M_token h (fun _ σ3 h => ?_)
      show Wz E Y_M_condition 100 [(0, .ref 110), (1, .int x1)] [] σ3 K
      refine z_goto (off := (-45)) (tgt := 55) (pc' := 103) ⟨by decide +kernel, by decide, rfl⟩ ?_
      refine z_sub [0, 1] rfl ?_
      exact f55 _ _ h
noncomputable def W_M_condition_b103 (F55 : Int32 → zS → (Unit → zS → Prop) → Prop)  (σ : zS) (Q : Unit → zS → Prop) : Prop := (0 ≤ (Int32.toInt (σ.1 110 58)) → (Q () σ)) ∧ (¬ 0 ≤ (Int32.toInt (σ.1 110 58)) → (W_M_reduce 0 σ (fun _ σ2 => Q () σ2)))
theorem sb_M_condition_103 {E : xV} {σ : zS} {K : zKt} {F55 : Int32 → zS → (Unit → zS → Prop) → Prop}  {Q : Unit → zS → Prop} (f55 : ∀ (x1 : Int32) (σ : zS), F55 x1 σ Q → Wz E Y_M_condition 55 [(0, .ref 110), (1, .int x1)] [] σ K) (k : ∀ v s, Q v s → K none s) (h : W_M_condition_b103 F55  σ Q) : Wz E Y_M_condition 103 [(0, .ref 110)] [] σ K := by
  unfold W_M_condition_b103 at h
  refine z_aload_n (f := 0) (i := 0) (q := 0) (pc' := 104) ⟨by decide +kernel, rfl⟩ rfl rfl ?_
  refine w_geti (k := 110) (j := 58) (idx := 559) (pc' := 107) yfxe_13_559 ykfa_110_58 ⟨by decide +kernel, rfl⟩ ?_
  refine z_if_ge (off := 8) (tgt := 115) (pc' := 110) ⟨by decide +kernel, by decide, rfl⟩ (fun h1 => ?_) (fun h1 => ?_)
  · have h := h.1 (qi_ge_t rfl (by decide) h1)
    exact z_vret rfl (by decide +kernel) (k _ _ h)
  · have h := h.2 (qi_ge_f rfl (by decide) h1)
    refine z_aload_n (f := 0) (i := 0) (q := 0) (pc' := 111) ⟨by decide +kernel, rfl⟩ rfl rfl ?_
    refine z_iconst (i := 0) (v := 0) (pc' := 112) ⟨by decide +kernel, rfl⟩ (by decide) ?_
    refine w_invV (Z := Y_M_reduce) (idx := 579) (kb := 110) (As := [.int 0]) (rest := []) (pc' := 115) cl_13_579 rfl ⟨rfl, rfl⟩ ykfa_110_0 rfl ⟨⟨by decide, by decide⟩, rfl, rfl⟩ ⟨by decide +kernel, rfl⟩ rfl rfl (Nat.le_of_ble_eq_true rfl) rfl rfl ?_
    refine sF_M_reduce h (fun _ σ2 h => ?_)
    show Wz E Y_M_condition 115 [(0, .ref 110)] [] σ2 K
    exact z_vret rfl (by decide +kernel) (k _ _ h)
noncomputable def WB_M_condition_55 (F55 : Int32 → zS → (Unit → zS → Prop) → Prop) (x1 : Int32) (σ : zS) (Q : Unit → zS → Prop) : Prop := ((Int32.toInt x1) = 0 → (W_M_condition_b103 F55  σ Q)) ∧ (¬ (Int32.toInt x1) = 0 → ((0 ≤ (Int32.toInt (σ.1 110 58)) → (W_M_condition_b103 F55  σ Q)) ∧ (¬ 0 ≤ (Int32.toInt (σ.1 110 58)) → (((Int32.toInt (σ.1 110 61)) = 0 → (W_M_goesOn  σ (fun v4 σ4 => W_M_condition_b85 F55 v4 σ4 Q))) ∧ (¬ (Int32.toInt (σ.1 110 61)) = 0 → (W_M_wanted  σ (fun _ σ5 => W_M_condition_b85 F55 x1 σ5 Q)))))))
theorem sh_M_condition_55 {E : xV} {σ : zS} {K : zKt} {F55 : Int32 → zS → (Unit → zS → Prop) → Prop} {x1 : Int32} {Q : Unit → zS → Prop} (f55 : ∀ (x1 : Int32) (σ : zS), F55 x1 σ Q → Wz E Y_M_condition 55 [(0, .ref 110), (1, .int x1)] [] σ K) (k : ∀ v s, Q v s → K none s) (h : WB_M_condition_55 F55 x1 σ Q) : Wz E Y_M_condition 55 [(0, .ref 110), (1, .int x1)] [] σ K := by
  unfold WB_M_condition_55 at h
  refine z_iload_n (f := 1) (i := 1) (q := 1) (pc' := 56) ⟨by decide +kernel, rfl⟩ rfl rfl ?_
  refine z_if_eq (off := 47) (tgt := 103) (pc' := 59) ⟨by decide +kernel, by decide, rfl⟩ (fun h1 => ?_) (fun h1 => ?_)
  · have h := h.1 (qi_eq_t rfl (by decide) h1)
    refine z_sub [0] rfl ?_
    exact sb_M_condition_103 f55 k h
  · have h := h.2 (qi_eq_f rfl (by decide) h1)
    refine z_aload_n (f := 0) (i := 0) (q := 0) (pc' := 60) ⟨by decide +kernel, rfl⟩ rfl rfl ?_
    refine w_geti (k := 110) (j := 58) (idx := 559) (pc' := 63) yfxe_13_559 ykfa_110_58 ⟨by decide +kernel, rfl⟩ ?_
    refine z_if_ge (off := 40) (tgt := 103) (pc' := 66) ⟨by decide +kernel, by decide, rfl⟩ (fun h2 => ?_) (fun h2 => ?_)
    · have h := h.1 (qi_ge_t rfl (by decide) h2)
      refine z_sub [0] rfl ?_
      exact sb_M_condition_103 f55 k h
    · have h := h.2 (qi_ge_f rfl (by decide) h2)
      refine z_aload_n (f := 0) (i := 0) (q := 0) (pc' := 67) ⟨by decide +kernel, rfl⟩ rfl rfl ?_
      refine w_geti (k := 110) (j := 61) (idx := 582) (pc' := 70) yfxe_13_582 ykfa_110_61 ⟨by decide +kernel, rfl⟩ ?_
      refine z_if_eq (off := 10) (tgt := 80) (pc' := 73) ⟨by decide +kernel, by decide, rfl⟩ (fun h3 => ?_) (fun h3 => ?_)
      · have h := h.1 (qi_eq_t rfl (by decide) h3)
        refine z_aload_n (f := 0) (i := 0) (q := 0) (pc' := 81) ⟨by decide +kernel, rfl⟩ rfl rfl ?_
        refine w_invV (Z := Y_M_goesOn) (idx := 622) (kb := 110) (As := []) (rest := []) (pc' := 84) cl_13_622 rfl ⟨rfl, rfl⟩ ykfa_110_0 rfl ⟨⟨by decide, by decide⟩, rfl, rfl⟩ ⟨by decide +kernel, rfl⟩ rfl rfl (Nat.le_of_ble_eq_true rfl) rfl rfl ?_
        refine sF_M_goesOn h (fun v4 σ4 h => ?_)
        show Wz E Y_M_condition 84 [(0, .ref 110), (1, .int x1)] [.int v4] σ4 K
        refine z_istore_n (f := 1) (i := 1) (pc' := 85) ⟨by decide +kernel, rfl⟩ rfl (by decide) rfl ?_
        show Wz E Y_M_condition 85 [(1, .int v4), (0, .ref 110)] [] σ4 K
        refine z_sub [1, 0] rfl ?_
        exact sb_M_condition_85 f55 k h
      · have h := h.2 (qi_eq_f rfl (by decide) h3)
        refine z_aload_n (f := 0) (i := 0) (q := 0) (pc' := 74) ⟨by decide +kernel, rfl⟩ rfl rfl ?_
        refine w_invV (Z := Y_M_wanted) (idx := 619) (kb := 110) (As := []) (rest := []) (pc' := 77) cl_13_619 rfl ⟨rfl, rfl⟩ ykfa_110_0 rfl ⟨⟨by decide, by decide⟩, rfl, rfl⟩ ⟨by decide +kernel, rfl⟩ rfl rfl (Nat.le_of_ble_eq_true rfl) rfl rfl ?_
        refine sF_M_wanted h (fun _ σ5 h => ?_)
        show Wz E Y_M_condition 77 [(0, .ref 110), (1, .int x1)] [] σ5 K
        refine z_goto (off := 8) (tgt := 85) (pc' := 80) ⟨by decide +kernel, by decide, rfl⟩ ?_
        refine z_sub [0, 1] rfl ?_
        exact sb_M_condition_85 f55 k h
noncomputable def WL_M_condition : Nat → (Int32 → zS → (Unit → zS → Prop) → Prop)
  | 0 => fun _ _ _ => False
  | n + 1 => WB_M_condition_55 (WL_M_condition n)
theorem wl_M_condition_55 {n : Nat} {x1 : Int32} {σ : zS} {Q : Unit → zS → Prop} (h : WB_M_condition_55 (WL_M_condition n) x1 σ Q) : (WL_M_condition (n + 1)) x1 σ Q := h
theorem sl_M_condition {E : xV} {K : zKt} {Q : Unit → zS → Prop} (k : ∀ v s, Q v s → K none s) : ∀ n, (∀ (x1 : Int32) (σ : zS), (WL_M_condition n) x1 σ Q → Wz E Y_M_condition 55 [(0, .ref 110), (1, .int x1)] [] σ K)
  | 0 => fun _ _ h => h.elim
  | n + 1 => by
    have i := sl_M_condition (E := E)  k n
    exact fun _ _ h => sh_M_condition_55 i k h
noncomputable def W_M_condition  (σ : zS) (Q : Unit → zS → Prop) : Prop := ∀ σ1 : zS, zI σ 110 52 0 = σ1 → (∀ σ2 : zS, zI σ1 143 0 0 = σ2 → (∀ σ3 : zS, zI σ2 144 0 1 = σ3 → (∀ σ4 : zS, zI σ3 145 0 0 = σ4 → (∀ σ5 : zS, zI σ4 146 0 0 = σ5 → (∀ σ6 : zS, zI σ5 110 56 0 = σ6 → (∀ σ7 : zS, zI σ6 110 57 0 = σ7 → (∀ σ8 : zS, zI σ7 110 61 1 = σ8 → (∀ σ9 : zS, zI σ8 110 60 1 = σ9 → ((WL_M_condition fuF) 1 σ9 Q)))))))))
theorem sF_M_condition {E : xV} {σ : zS} {K : zKt}  {Q : Unit → zS → Prop} (h : W_M_condition  σ Q) (k : ∀ v s, Q v s → K none s) : Cz E Y_M_condition [.ref 110] σ K := by
  refine z_entry (by decide) (fun a => by rw [sl_len]; exact Nat.le_of_ble_eq_true rfl) rfl ?_
  unfold W_M_condition at h
  refine z_aload_n (f := 0) (i := 0) (q := 0) (pc' := 1) ⟨by decide +kernel, rfl⟩ rfl rfl ?_
  refine z_iconst (i := 0) (v := 0) (pc' := 2) ⟨by decide +kernel, rfl⟩ (by decide) ?_
  refine w_puti (k := 110) (j := 52) (idx := 549) (pc' := 5) yfxi_13_549 ykfa_110_52 ⟨by decide +kernel, rfl⟩ ?_
  generalize hs1 : zI σ 110 52 0 = σ1
  have h := h σ1 hs1
  refine z_aload_n (f := 0) (i := 0) (q := 0) (pc' := 6) ⟨by decide +kernel, rfl⟩ rfl rfl ?_
  refine w_getr (k := 110) (j := 47) (idx := 112) (pc' := 9) yfxe_13_112 ykfa_110_47 ⟨by decide +kernel, rfl⟩ ?_
  refine z_iconst (i := 0) (v := 0) (pc' := 10) ⟨by decide +kernel, rfl⟩ (by decide) ?_
  refine z_iconst (i := 0) (v := 0) (pc' := 11) ⟨by decide +kernel, rfl⟩ (by decide) ?_
  refine w_iast (k := 143) (n := 0) (pc' := 12) ykaa_143 (by decide) (by decide) ⟨by decide +kernel, rfl⟩ ?_
  generalize hs2 : zI σ1 143 0 0 = σ2
  have h := h σ2 hs2
  refine z_aload_n (f := 0) (i := 0) (q := 0) (pc' := 13) ⟨by decide +kernel, rfl⟩ rfl rfl ?_
  refine w_getr (k := 110) (j := 48) (idx := 115) (pc' := 16) yfxe_13_115 ykfa_110_48 ⟨by decide +kernel, rfl⟩ ?_
  refine z_iconst (i := 0) (v := 0) (pc' := 17) ⟨by decide +kernel, rfl⟩ (by decide) ?_
  refine z_iconst (i := 1) (v := 1) (pc' := 18) ⟨by decide +kernel, rfl⟩ (by decide) ?_
  refine w_zast (k := 144) (n := 0) (pc' := 19) ykaa_144 (by decide) (by decide) (by decide) ⟨by decide +kernel, rfl⟩ ?_
  generalize hs3 : zI σ2 144 0 1 = σ3
  have h := h σ3 hs3
  refine z_aload_n (f := 0) (i := 0) (q := 0) (pc' := 20) ⟨by decide +kernel, rfl⟩ rfl rfl ?_
  refine w_getr (k := 110) (j := 49) (idx := 118) (pc' := 23) yfxe_13_118 ykfa_110_49 ⟨by decide +kernel, rfl⟩ ?_
  refine z_iconst (i := 0) (v := 0) (pc' := 24) ⟨by decide +kernel, rfl⟩ (by decide) ?_
  refine z_iconst (i := 0) (v := 0) (pc' := 25) ⟨by decide +kernel, rfl⟩ (by decide) ?_
  refine w_iast (k := 145) (n := 0) (pc' := 26) ykaa_145 (by decide) (by decide) ⟨by decide +kernel, rfl⟩ ?_
  generalize hs4 : zI σ3 145 0 0 = σ4
  have h := h σ4 hs4
  refine z_aload_n (f := 0) (i := 0) (q := 0) (pc' := 27) ⟨by decide +kernel, rfl⟩ rfl rfl ?_
  refine w_getr (k := 110) (j := 50) (idx := 121) (pc' := 30) yfxe_13_121 ykfa_110_50 ⟨by decide +kernel, rfl⟩ ?_
  refine z_iconst (i := 0) (v := 0) (pc' := 31) ⟨by decide +kernel, rfl⟩ (by decide) ?_
  refine z_iconst (i := 0) (v := 0) (pc' := 32) ⟨by decide +kernel, rfl⟩ (by decide) ?_
  refine w_iast (k := 146) (n := 0) (pc' := 33) ykaa_146 (by decide) (by decide) ⟨by decide +kernel, rfl⟩ ?_
  generalize hs5 : zI σ4 146 0 0 = σ5
  have h := h σ5 hs5
  refine z_aload_n (f := 0) (i := 0) (q := 0) (pc' := 34) ⟨by decide +kernel, rfl⟩ rfl rfl ?_
  refine z_iconst (i := 0) (v := 0) (pc' := 35) ⟨by decide +kernel, rfl⟩ (by decide) ?_
  refine w_puti (k := 110) (j := 56) (idx := 546) (pc' := 38) yfxi_13_546 ykfa_110_56 ⟨by decide +kernel, rfl⟩ ?_
  generalize hs6 : zI σ5 110 56 0 = σ6
  have h := h σ6 hs6
  refine z_aload_n (f := 0) (i := 0) (q := 0) (pc' := 39) ⟨by decide +kernel, rfl⟩ rfl rfl ?_
  refine z_iconst (i := 0) (v := 0) (pc' := 40) ⟨by decide +kernel, rfl⟩ (by decide) ?_
  refine w_puti (k := 110) (j := 57) (idx := 556) (pc' := 43) yfxi_13_556 ykfa_110_57 ⟨by decide +kernel, rfl⟩ ?_
  generalize hs7 : zI σ6 110 57 0 = σ7
  have h := h σ7 hs7
  refine z_aload_n (f := 0) (i := 0) (q := 0) (pc' := 44) ⟨by decide +kernel, rfl⟩ rfl rfl ?_
  refine z_iconst (i := 1) (v := 1) (pc' := 45) ⟨by decide +kernel, rfl⟩ (by decide) ?_
  refine w_putz (k := 110) (j := 61) (idx := 582) (pc' := 48) yfxz_13_582 ykfa_110_61 (by decide) ⟨by decide +kernel, rfl⟩ ?_
  generalize hs8 : zI σ7 110 61 1 = σ8
  have h := h σ8 hs8
  refine z_aload_n (f := 0) (i := 0) (q := 0) (pc' := 49) ⟨by decide +kernel, rfl⟩ rfl rfl ?_
  refine z_iconst (i := 1) (v := 1) (pc' := 50) ⟨by decide +kernel, rfl⟩ (by decide) ?_
  refine w_putz (k := 110) (j := 60) (idx := 585) (pc' := 53) yfxz_13_585 ykfa_110_60 (by decide) ⟨by decide +kernel, rfl⟩ ?_
  generalize hs9 : zI σ8 110 60 1 = σ9
  have h := h σ9 hs9
  refine z_iconst (i := 1) (v := 1) (pc' := 54) ⟨by decide +kernel, rfl⟩ (by decide) ?_
  refine z_istore_n (f := 1) (i := 1) (pc' := 55) ⟨by decide +kernel, rfl⟩ rfl (by decide) rfl ?_
  show Wz E Y_M_condition 55 [(1, .int 1), (0, .ref 110)] [] σ9 K
  refine z_sub [1, 0] rfl ?_
  exact (sl_M_condition k fuF) _ _ h
noncomputable def W_M_fails  (σ : zS) (Q : Int32 → zS → Prop) : Prop := ∀ σ1 : zS, zI σ 110 58 (σ.1 110 29) = σ1 → (Q 0 σ1)
theorem sF_M_fails {E : xV} {σ : zS} {K : zKt}  {Q : Int32 → zS → Prop} (h : W_M_fails  σ Q) (k : ∀ v s, Q v s → K (some (.int v)) s) : Cz E Y_M_fails [.ref 110] σ K := by
  refine z_entry (by decide) (fun a => by rw [sl_len]; exact Nat.le_of_ble_eq_true rfl) rfl ?_
  unfold W_M_fails at h
  refine z_aload_n (f := 0) (i := 0) (q := 0) (pc' := 1) ⟨by decide +kernel, rfl⟩ rfl rfl ?_
  refine z_aload_n (f := 0) (i := 0) (q := 0) (pc' := 2) ⟨by decide +kernel, rfl⟩ rfl rfl ?_
  refine w_geti (k := 110) (j := 29) (idx := 504) (pc' := 5) yfxe_13_504 ykfa_110_29 ⟨by decide +kernel, rfl⟩ ?_
  refine w_puti (k := 110) (j := 58) (idx := 559) (pc' := 8) yfxi_13_559 ykfa_110_58 ⟨by decide +kernel, rfl⟩ ?_
  generalize hs1 : zI σ 110 58 (σ.1 110 29) = σ1
  have h := h σ1 hs1
  refine z_iconst (i := 0) (v := 0) (pc' := 9) ⟨by decide +kernel, rfl⟩ (by decide) ?_
  exact z_iret (ty := .boolean) rfl (by rfl) (by decide +kernel) (k _ _ h)
noncomputable def W_M_isEffect_b64 (x1 : Int32) (y0 : Int32) (y1 : Int32) (σ : zS) (Q : Int32 → zS → Prop) : Prop := ∃ n1 : Nat, Int32.toInt y1 = (n1 : Int) ∧ n1 < 240 ∧ (∀ σ2 : zS, zI σ 132 n1 y0 = σ2 → (∃ n3 : Nat, Int32.toInt x1 = (n3 : Int) ∧ n3 < 240 ∧ ((0 ≤ (Int32.toInt (σ2.1 132 n3)) → (Q 1 σ2)) ∧ (¬ 0 ≤ (Int32.toInt (σ2.1 132 n3)) → (W_M_fails  σ2 (fun v5 σ5 => ((Int32.toInt v5) = 0 → (Q 0 σ5)) ∧ (¬ (Int32.toInt v5) = 0 → (Q 1 σ5))))))))
theorem sb_M_isEffect_64 {E : xV} {σ : zS} {K : zKt} {x1 : Int32} {y0 : Int32} {y1 : Int32} {Q : Int32 → zS → Prop} (k : ∀ v s, Q v s → K (some (.int v)) s) (h : W_M_isEffect_b64 x1 y0 y1 σ Q) : Wz E Y_M_isEffect 64 [(0, .ref 110), (1, .int x1)] [.int y0, .int y1, .ref 132] σ K := by
  unfold W_M_isEffect_b64 at h
  obtain ⟨n1, hi1, hz1, h⟩ := h
  refine w_iast (k := 132) (n := n1) (pc' := 65) ykaa_132 (hi1) (hz1) ⟨by decide +kernel, rfl⟩ ?_
  generalize hs2 : zI σ 132 n1 y0 = σ2
  have h := h σ2 hs2
  refine z_aload_n (f := 0) (i := 0) (q := 0) (pc' := 66) ⟨by decide +kernel, rfl⟩ rfl rfl ?_
  refine w_getr (k := 110) (j := 35) (idx := 79) (pc' := 69) yfxe_13_79 ykfa_110_35 ⟨by decide +kernel, rfl⟩ ?_
  refine z_iload_n (f := 1) (i := 1) (q := 1) (pc' := 70) ⟨by decide +kernel, rfl⟩ rfl rfl ?_
  obtain ⟨n3, hi3, hz3, h⟩ := h
  refine w_iald (k := 132) (n := n3) (pc' := 71) ykaa_132 (hi3) (hz3) ⟨by decide +kernel, rfl⟩ ?_
  refine z_if_ge (off := 10) (tgt := 81) (pc' := 74) ⟨by decide +kernel, by decide, rfl⟩ (fun h4 => ?_) (fun h4 => ?_)
  · have h := h.1 (qi_ge_t rfl (by decide) h4)
    refine z_iconst (i := 1) (v := 1) (pc' := 82) ⟨by decide +kernel, rfl⟩ (by decide) ?_
    refine z_goto (off := 4) (tgt := 86) (pc' := 85) ⟨by decide +kernel, by decide, rfl⟩ ?_
    exact z_iret (ty := .boolean) rfl (by rfl) (by decide +kernel) (k _ _ h)
  · have h := h.2 (qi_ge_f rfl (by decide) h4)
    refine z_aload_n (f := 0) (i := 0) (q := 0) (pc' := 75) ⟨by decide +kernel, rfl⟩ rfl rfl ?_
    refine w_invV (Z := Y_M_fails) (idx := 625) (kb := 110) (As := []) (rest := []) (pc' := 78) cl_13_625 rfl ⟨rfl, rfl⟩ ykfa_110_0 rfl ⟨⟨by decide, by decide⟩, rfl, rfl⟩ ⟨by decide +kernel, rfl⟩ rfl rfl (Nat.le_of_ble_eq_true rfl) rfl rfl ?_
    refine sF_M_fails h (fun v5 σ5 h => ?_)
    show Wz E Y_M_isEffect 78 [(0, .ref 110), (1, .int x1)] [.int v5] σ5 K
    refine z_if_eq (off := 7) (tgt := 85) (pc' := 81) ⟨by decide +kernel, by decide, rfl⟩ (fun h6 => ?_) (fun h6 => ?_)
    · have h := h.1 (qi_eq_t rfl (by decide) h6)
      refine z_iconst (i := 0) (v := 0) (pc' := 86) ⟨by decide +kernel, rfl⟩ (by decide) ?_
      exact z_iret (ty := .boolean) rfl (by rfl) (by decide +kernel) (k _ _ h)
    · have h := h.2 (qi_eq_f rfl (by decide) h6)
      refine z_iconst (i := 1) (v := 1) (pc' := 82) ⟨by decide +kernel, rfl⟩ (by decide) ?_
      refine z_goto (off := 4) (tgt := 86) (pc' := 85) ⟨by decide +kernel, by decide, rfl⟩ ?_
      exact z_iret (ty := .boolean) rfl (by rfl) (by decide +kernel) (k _ _ h)
noncomputable def W_M_isEffect (a1 : Int32) (σ : zS) (Q : Int32 → zS → Prop) : Prop := W_M_isWord 110 111 0 0 0 σ (fun v1 σ1 => ((Int32.toInt v1) = 0 → (W_M_isWord 121 101 115 0 0 σ1 (fun v3 σ3 => ((Int32.toInt v3) = 0 → (W_M_isWord 109 97 121 98 101 σ3 (fun v5 σ5 => ((Int32.toInt v5) = 0 → (W_M_isEffect_b64  a1 (-1) a1 σ5 Q)) ∧ (¬ (Int32.toInt v5) = 0 → (W_M_isEffect_b64  a1 2 a1 σ5 Q))))) ∧ (¬ (Int32.toInt v3) = 0 → (W_M_isEffect_b64  a1 1 a1 σ3 Q))))) ∧ (¬ (Int32.toInt v1) = 0 → (W_M_isEffect_b64  a1 0 a1 σ1 Q)))
theorem sF_M_isEffect {E : xV} {σ : zS} {K : zKt} {a1 : Int32} {Q : Int32 → zS → Prop} (h : W_M_isEffect a1 σ Q) (k : ∀ v s, Q v s → K (some (.int v)) s) : Cz E Y_M_isEffect [.ref 110, .int a1] σ K := by
  refine z_entry (by decide) (fun a => by rw [sl_len]; exact Nat.le_of_ble_eq_true rfl) rfl ?_
  unfold W_M_isEffect at h
  refine z_aload_n (f := 0) (i := 0) (q := 0) (pc' := 1) ⟨by decide +kernel, rfl⟩ rfl rfl ?_
  refine w_getr (k := 110) (j := 35) (idx := 79) (pc' := 4) yfxe_13_79 ykfa_110_35 ⟨by decide +kernel, rfl⟩ ?_
  refine z_iload_n (f := 1) (i := 1) (q := 1) (pc' := 5) ⟨by decide +kernel, rfl⟩ rfl rfl ?_
  refine z_aload_n (f := 0) (i := 0) (q := 0) (pc' := 6) ⟨by decide +kernel, rfl⟩ rfl rfl ?_
  refine z_bipush (i := 110) (v := 110) (pc' := 8) ⟨by decide +kernel, rfl⟩ (by decide) ?_
  refine z_bipush (i := 111) (v := 111) (pc' := 10) ⟨by decide +kernel, rfl⟩ (by decide) ?_
  refine z_iconst (i := 0) (v := 0) (pc' := 11) ⟨by decide +kernel, rfl⟩ (by decide) ?_
  refine z_iconst (i := 0) (v := 0) (pc' := 12) ⟨by decide +kernel, rfl⟩ (by decide) ?_
  refine z_iconst (i := 0) (v := 0) (pc' := 13) ⟨by decide +kernel, rfl⟩ (by decide) ?_
  refine w_invV (Z := Y_M_isWord) (idx := 562) (kb := 110) (As := [.int 110, .int 111, .int 0, .int 0, .int 0]) (rest := [.int a1, .ref 132]) (pc' := 16) cl_13_562 rfl ⟨rfl, rfl⟩ ykfa_110_0 rfl ⟨⟨by decide, by decide⟩, rfl, rfl⟩ ⟨by decide +kernel, rfl⟩ rfl rfl (Nat.le_of_ble_eq_true rfl) rfl rfl ?_
  refine sF_M_isWord h (fun v1 σ1 h => ?_)
  show Wz E Y_M_isEffect 16 [(0, .ref 110), (1, .int a1)] [.int v1, .int a1, .ref 132] σ1 K
  refine z_if_eq (off := 7) (tgt := 23) (pc' := 19) ⟨by decide +kernel, by decide, rfl⟩ (fun h2 => ?_) (fun h2 => ?_)
  · have h := h.1 (qi_eq_t rfl (by decide) h2)
    refine z_aload_n (f := 0) (i := 0) (q := 0) (pc' := 24) ⟨by decide +kernel, rfl⟩ rfl rfl ?_
    refine z_bipush (i := 121) (v := 121) (pc' := 26) ⟨by decide +kernel, rfl⟩ (by decide) ?_
    refine z_bipush (i := 101) (v := 101) (pc' := 28) ⟨by decide +kernel, rfl⟩ (by decide) ?_
    refine z_bipush (i := 115) (v := 115) (pc' := 30) ⟨by decide +kernel, rfl⟩ (by decide) ?_
    refine z_iconst (i := 0) (v := 0) (pc' := 31) ⟨by decide +kernel, rfl⟩ (by decide) ?_
    refine z_iconst (i := 0) (v := 0) (pc' := 32) ⟨by decide +kernel, rfl⟩ (by decide) ?_
    refine w_invV (Z := Y_M_isWord) (idx := 562) (kb := 110) (As := [.int 121, .int 101, .int 115, .int 0, .int 0]) (rest := [.int a1, .ref 132]) (pc' := 35) cl_13_562 rfl ⟨rfl, rfl⟩ ykfa_110_0 rfl ⟨⟨by decide, by decide⟩, rfl, rfl⟩ ⟨by decide +kernel, rfl⟩ rfl rfl (Nat.le_of_ble_eq_true rfl) rfl rfl ?_
    refine sF_M_isWord h (fun v3 σ3 h => ?_)
    show Wz E Y_M_isEffect 35 [(0, .ref 110), (1, .int a1)] [.int v3, .int a1, .ref 132] σ3 K
    refine z_if_eq (off := 7) (tgt := 42) (pc' := 38) ⟨by decide +kernel, by decide, rfl⟩ (fun h4 => ?_) (fun h4 => ?_)
    · have h := h.1 (qi_eq_t rfl (by decide) h4)
      refine z_aload_n (f := 0) (i := 0) (q := 0) (pc' := 43) ⟨by decide +kernel, rfl⟩ rfl rfl ?_
      refine z_bipush (i := 109) (v := 109) (pc' := 45) ⟨by decide +kernel, rfl⟩ (by decide) ?_
      refine z_bipush (i := 97) (v := 97) (pc' := 47) ⟨by decide +kernel, rfl⟩ (by decide) ?_
      refine z_bipush (i := 121) (v := 121) (pc' := 49) ⟨by decide +kernel, rfl⟩ (by decide) ?_
      refine z_bipush (i := 98) (v := 98) (pc' := 51) ⟨by decide +kernel, rfl⟩ (by decide) ?_
      refine z_bipush (i := 101) (v := 101) (pc' := 53) ⟨by decide +kernel, rfl⟩ (by decide) ?_
      refine w_invV (Z := Y_M_isWord) (idx := 562) (kb := 110) (As := [.int 109, .int 97, .int 121, .int 98, .int 101]) (rest := [.int a1, .ref 132]) (pc' := 56) cl_13_562 rfl ⟨rfl, rfl⟩ ykfa_110_0 rfl ⟨⟨by decide, by decide⟩, rfl, rfl⟩ ⟨by decide +kernel, rfl⟩ rfl rfl (Nat.le_of_ble_eq_true rfl) rfl rfl ?_
      refine sF_M_isWord h (fun v5 σ5 h => ?_)
      show Wz E Y_M_isEffect 56 [(0, .ref 110), (1, .int a1)] [.int v5, .int a1, .ref 132] σ5 K
      refine z_if_eq (off := 7) (tgt := 63) (pc' := 59) ⟨by decide +kernel, by decide, rfl⟩ (fun h6 => ?_) (fun h6 => ?_)
      · have h := h.1 (qi_eq_t rfl (by decide) h6)
        refine z_iconst (i := (-1)) (v := (-1)) (pc' := 64) ⟨by decide +kernel, rfl⟩ (by decide) ?_
        refine z_sub [0, 1] rfl ?_
        exact sb_M_isEffect_64  k h
      · have h := h.2 (qi_eq_f rfl (by decide) h6)
        refine z_iconst (i := 2) (v := 2) (pc' := 60) ⟨by decide +kernel, rfl⟩ (by decide) ?_
        refine z_goto (off := 4) (tgt := 64) (pc' := 63) ⟨by decide +kernel, by decide, rfl⟩ ?_
        refine z_sub [0, 1] rfl ?_
        exact sb_M_isEffect_64  k h
    · have h := h.2 (qi_eq_f rfl (by decide) h4)
      refine z_iconst (i := 1) (v := 1) (pc' := 39) ⟨by decide +kernel, rfl⟩ (by decide) ?_
      refine z_goto (off := 25) (tgt := 64) (pc' := 42) ⟨by decide +kernel, by decide, rfl⟩ ?_
      refine z_sub [0, 1] rfl ?_
      exact sb_M_isEffect_64  k h
  · have h := h.2 (qi_eq_f rfl (by decide) h2)
    refine z_iconst (i := 0) (v := 0) (pc' := 20) ⟨by decide +kernel, rfl⟩ (by decide) ?_
    refine z_goto (off := 44) (tgt := 64) (pc' := 23) ⟨by decide +kernel, by decide, rfl⟩ ?_
    refine z_sub [0, 1] rfl ?_
    exact sb_M_isEffect_64  k h
noncomputable def W_M_isPerson (a1 : Int32) (σ : zS) (Q : Int32 → zS → Prop) : Prop := ∀ r1 : Int64, r1.toInt = (Int32.toInt a1) → ((-2147483648 ≤ (Int32.toInt (σ.1 110 6)) - 1 ∧ (Int32.toInt (σ.1 110 6)) - 1 ≤ 2147483647) ∧ ∀ r2 : Int32, r2.toInt = (Int32.toInt (σ.1 110 6)) - 1 → (∀ r3 : Int64, r3.toInt = (Int32.toInt r2) → (W_M_in r1 0 r3 σ (fun v4 σ4 => (v4 = 0 ∨ v4 = 1) ∧ (Q v4 σ4)))))
theorem sF_M_isPerson {E : xV} {σ : zS} {K : zKt} {a1 : Int32} {Q : Int32 → zS → Prop} (h : W_M_isPerson a1 σ Q) (k : ∀ v s, Q v s → K (some (.int v)) s) : Cz E Y_M_isPerson [.ref 110, .int a1] σ K := by
  refine z_entry (by decide) (fun a => by rw [sl_len]; exact Nat.le_of_ble_eq_true rfl) rfl ?_
  unfold W_M_isPerson at h
  refine z_iload_n (f := 1) (i := 1) (q := 1) (pc' := 1) ⟨by decide +kernel, rfl⟩ rfl rfl ?_
  refine z_i2l (v := (Int32.toInt64 a1)) (pc' := 2) ⟨by decide +kernel, rfl⟩ rfl ?_
  have h := h (Int32.toInt64 a1) (Int32.toInt_toInt64 _)
  generalize (Int32.toInt64 a1) = r1 at h ⊢
  refine z_lconst (i := 0) (v := 0) (pc' := 3) ⟨by decide +kernel, rfl⟩ (by decide) ?_
  refine z_aload_n (f := 0) (i := 0) (q := 0) (pc' := 4) ⟨by decide +kernel, rfl⟩ rfl rfl ?_
  refine w_geti (k := 110) (j := 6) (idx := 423) (pc' := 7) yfxe_13_423 ykfa_110_6 ⟨by decide +kernel, rfl⟩ ?_
  refine z_iconst (i := 1) (v := 1) (pc' := 8) ⟨by decide +kernel, rfl⟩ (by decide) ?_
  refine z_isub (pc' := 9) ⟨by decide +kernel, rfl⟩ ?_
  obtain ⟨hb2, h⟩ := h
  have h := h ((σ.1 110 6) - 1) (is_ok rfl (by decide) hb2)
  generalize ((σ.1 110 6) - 1) = r2 at h ⊢
  refine z_i2l (v := (Int32.toInt64 r2)) (pc' := 10) ⟨by decide +kernel, rfl⟩ rfl ?_
  have h := h (Int32.toInt64 r2) (Int32.toInt_toInt64 _)
  generalize (Int32.toInt64 r2) = r3 at h ⊢
  refine w_invS (Z := Y_M_in) (idx := 333) (As := [.long r1, .long 0, .long r3]) (rest := []) (pc' := 13) cl_13_333 rfl ⟨rfl, rfl⟩ ⟨⟨by decide, by decide⟩, rfl, rfl⟩ ⟨by decide +kernel, rfl⟩ rfl rfl (Nat.le_of_ble_eq_true rfl) rfl rfl ?_
  refine sF_M_in h (fun v4 σ4 h => ?_)
  show Wz E Y_M_isPerson 13 [(0, .ref 110), (1, .int a1)] [.int v4] σ4 K
  obtain ⟨hg5, h⟩ := h
  exact z_iret (ty := .boolean) rfl (j_bool hg5).1 (by decide +kernel) (k _ _ h)
noncomputable def W_M_isGroup (a1 : Int32) (σ : zS) (Q : Int32 → zS → Prop) : Prop := ∀ r1 : Int64, r1.toInt = (Int32.toInt a1) → ((-2147483648 ≤ (Int32.toInt (σ.1 110 7)) - 1 ∧ (Int32.toInt (σ.1 110 7)) - 1 ≤ 2147483647) ∧ ∀ r2 : Int32, r2.toInt = (Int32.toInt (σ.1 110 7)) - 1 → (∀ r3 : Int64, r3.toInt = (Int32.toInt r2) → (W_M_in r1 0 r3 σ (fun v4 σ4 => (v4 = 0 ∨ v4 = 1) ∧ (Q v4 σ4)))))
theorem sF_M_isGroup {E : xV} {σ : zS} {K : zKt} {a1 : Int32} {Q : Int32 → zS → Prop} (h : W_M_isGroup a1 σ Q) (k : ∀ v s, Q v s → K (some (.int v)) s) : Cz E Y_M_isGroup [.ref 110, .int a1] σ K := by
  refine z_entry (by decide) (fun a => by rw [sl_len]; exact Nat.le_of_ble_eq_true rfl) rfl ?_
  unfold W_M_isGroup at h
  refine z_iload_n (f := 1) (i := 1) (q := 1) (pc' := 1) ⟨by decide +kernel, rfl⟩ rfl rfl ?_
  refine z_i2l (v := (Int32.toInt64 a1)) (pc' := 2) ⟨by decide +kernel, rfl⟩ rfl ?_
  have h := h (Int32.toInt64 a1) (Int32.toInt_toInt64 _)
  generalize (Int32.toInt64 a1) = r1 at h ⊢
  refine z_lconst (i := 0) (v := 0) (pc' := 3) ⟨by decide +kernel, rfl⟩ (by decide) ?_
  refine z_aload_n (f := 0) (i := 0) (q := 0) (pc' := 4) ⟨by decide +kernel, rfl⟩ rfl rfl ?_
  refine w_geti (k := 110) (j := 7) (idx := 426) (pc' := 7) yfxe_13_426 ykfa_110_7 ⟨by decide +kernel, rfl⟩ ?_
  refine z_iconst (i := 1) (v := 1) (pc' := 8) ⟨by decide +kernel, rfl⟩ (by decide) ?_
  refine z_isub (pc' := 9) ⟨by decide +kernel, rfl⟩ ?_
  obtain ⟨hb2, h⟩ := h
  have h := h ((σ.1 110 7) - 1) (is_ok rfl (by decide) hb2)
  generalize ((σ.1 110 7) - 1) = r2 at h ⊢
  refine z_i2l (v := (Int32.toInt64 r2)) (pc' := 10) ⟨by decide +kernel, rfl⟩ rfl ?_
  have h := h (Int32.toInt64 r2) (Int32.toInt_toInt64 _)
  generalize (Int32.toInt64 r2) = r3 at h ⊢
  refine w_invS (Z := Y_M_in) (idx := 333) (As := [.long r1, .long 0, .long r3]) (rest := []) (pc' := 13) cl_13_333 rfl ⟨rfl, rfl⟩ ⟨⟨by decide, by decide⟩, rfl, rfl⟩ ⟨by decide +kernel, rfl⟩ rfl rfl (Nat.le_of_ble_eq_true rfl) rfl rfl ?_
  refine sF_M_in h (fun v4 σ4 h => ?_)
  show Wz E Y_M_isGroup 13 [(0, .ref 110), (1, .int a1)] [.int v4] σ4 K
  obtain ⟨hg5, h⟩ := h
  exact z_iret (ty := .boolean) rfl (j_bool hg5).1 (by decide +kernel) (k _ _ h)
noncomputable def W_M_isWho_b125 (x1 : Int32) (σ : zS) (Q : Int32 → zS → Prop) : Prop := ∃ n1 : Nat, Int32.toInt x1 = (n1 : Int) ∧ n1 < 240 ∧ ((0 ≤ (Int32.toInt (σ.1 133 n1)) → (Q 1 σ)) ∧ (¬ 0 ≤ (Int32.toInt (σ.1 133 n1)) → (W_M_fails  σ (fun v3 σ3 => ((Int32.toInt v3) = 0 → (Q 0 σ3)) ∧ (¬ (Int32.toInt v3) = 0 → (Q 1 σ3))))))
theorem sb_M_isWho_125 {E : xV} {σ : zS} {K : zKt} {x1 : Int32} {Q : Int32 → zS → Prop} (k : ∀ v s, Q v s → K (some (.int v)) s) (h : W_M_isWho_b125 x1 σ Q) : Wz E Y_M_isWho 125 [(0, .ref 110), (1, .int x1)] [] σ K := by
  unfold W_M_isWho_b125 at h
  refine z_aload_n (f := 0) (i := 0) (q := 0) (pc' := 126) ⟨by decide +kernel, rfl⟩ rfl rfl ?_
  refine w_getr (k := 110) (j := 36) (idx := 82) (pc' := 129) yfxe_13_82 ykfa_110_36 ⟨by decide +kernel, rfl⟩ ?_
  refine z_iload_n (f := 1) (i := 1) (q := 1) (pc' := 130) ⟨by decide +kernel, rfl⟩ rfl rfl ?_
  obtain ⟨n1, hi1, hz1, h⟩ := h
  refine w_iald (k := 133) (n := n1) (pc' := 131) ykaa_133 (hi1) (hz1) ⟨by decide +kernel, rfl⟩ ?_
  refine z_if_ge (off := 10) (tgt := 141) (pc' := 134) ⟨by decide +kernel, by decide, rfl⟩ (fun h2 => ?_) (fun h2 => ?_)
  · have h := h.1 (qi_ge_t rfl (by decide) h2)
    refine z_iconst (i := 1) (v := 1) (pc' := 142) ⟨by decide +kernel, rfl⟩ (by decide) ?_
    refine z_goto (off := 4) (tgt := 146) (pc' := 145) ⟨by decide +kernel, by decide, rfl⟩ ?_
    exact z_iret (ty := .boolean) rfl (by rfl) (by decide +kernel) (k _ _ h)
  · have h := h.2 (qi_ge_f rfl (by decide) h2)
    refine z_aload_n (f := 0) (i := 0) (q := 0) (pc' := 135) ⟨by decide +kernel, rfl⟩ rfl rfl ?_
    refine w_invV (Z := Y_M_fails) (idx := 625) (kb := 110) (As := []) (rest := []) (pc' := 138) cl_13_625 rfl ⟨rfl, rfl⟩ ykfa_110_0 rfl ⟨⟨by decide, by decide⟩, rfl, rfl⟩ ⟨by decide +kernel, rfl⟩ rfl rfl (Nat.le_of_ble_eq_true rfl) rfl rfl ?_
    refine sF_M_fails h (fun v3 σ3 h => ?_)
    show Wz E Y_M_isWho 138 [(0, .ref 110), (1, .int x1)] [.int v3] σ3 K
    refine z_if_eq (off := 7) (tgt := 145) (pc' := 141) ⟨by decide +kernel, by decide, rfl⟩ (fun h4 => ?_) (fun h4 => ?_)
    · have h := h.1 (qi_eq_t rfl (by decide) h4)
      refine z_iconst (i := 0) (v := 0) (pc' := 146) ⟨by decide +kernel, rfl⟩ (by decide) ?_
      exact z_iret (ty := .boolean) rfl (by rfl) (by decide +kernel) (k _ _ h)
    · have h := h.2 (qi_eq_f rfl (by decide) h4)
      refine z_iconst (i := 1) (v := 1) (pc' := 142) ⟨by decide +kernel, rfl⟩ (by decide) ?_
      refine z_goto (off := 4) (tgt := 146) (pc' := 145) ⟨by decide +kernel, by decide, rfl⟩ ?_
      exact z_iret (ty := .boolean) rfl (by rfl) (by decide +kernel) (k _ _ h)
noncomputable def W_M_isWho_b105 (x1 : Int32) (x2 : Int32) (x3 : Int32) (y0 : Int32) (y1 : Int32) (σ : zS) (Q : Int32 → zS → Prop) : Prop := ∃ n1 : Nat, Int32.toInt y1 = (n1 : Int) ∧ n1 < 240 ∧ (∀ σ2 : zS, zI σ 133 n1 y0 = σ2 → (W_M_isPerson x2 σ2 (fun v3 σ3 => ((Int32.toInt v3) = 0 → (∃ n5 : Nat, Int32.toInt x1 = (n5 : Int) ∧ n5 < 240 ∧ (∀ σ6 : zS, zI σ3 134 n5 x3 = σ6 → (W_M_isWho_b125  x1 σ6 Q)))) ∧ (¬ (Int32.toInt v3) = 0 → (∃ n7 : Nat, Int32.toInt x1 = (n7 : Int) ∧ n7 < 240 ∧ (∀ σ8 : zS, zI σ3 134 n7 x2 = σ8 → (W_M_isWho_b125  x1 σ8 Q)))))))
theorem sb_M_isWho_105 {E : xV} {σ : zS} {K : zKt} {x1 : Int32} {x2 : Int32} {x3 : Int32} {y0 : Int32} {y1 : Int32} {Q : Int32 → zS → Prop} (k : ∀ v s, Q v s → K (some (.int v)) s) (h : W_M_isWho_b105 x1 x2 x3 y0 y1 σ Q) : Wz E Y_M_isWho 105 [(0, .ref 110), (1, .int x1), (2, .int x2), (3, .int x3)] [.int y0, .int y1, .ref 133] σ K := by
  unfold W_M_isWho_b105 at h
  obtain ⟨n1, hi1, hz1, h⟩ := h
  refine w_iast (k := 133) (n := n1) (pc' := 106) ykaa_133 (hi1) (hz1) ⟨by decide +kernel, rfl⟩ ?_
  generalize hs2 : zI σ 133 n1 y0 = σ2
  have h := h σ2 hs2
  refine z_aload_n (f := 0) (i := 0) (q := 0) (pc' := 107) ⟨by decide +kernel, rfl⟩ rfl rfl ?_
  refine w_getr (k := 110) (j := 37) (idx := 85) (pc' := 110) yfxe_13_85 ykfa_110_37 ⟨by decide +kernel, rfl⟩ ?_
  refine z_iload_n (f := 1) (i := 1) (q := 1) (pc' := 111) ⟨by decide +kernel, rfl⟩ rfl rfl ?_
  refine z_aload_n (f := 0) (i := 0) (q := 0) (pc' := 112) ⟨by decide +kernel, rfl⟩ rfl rfl ?_
  refine z_iload_n (f := 2) (i := 2) (q := 2) (pc' := 113) ⟨by decide +kernel, rfl⟩ rfl rfl ?_
  refine w_invV (Z := Y_M_isPerson) (idx := 444) (kb := 110) (As := [.int x2]) (rest := [.int x1, .ref 134]) (pc' := 116) cl_13_444 rfl ⟨rfl, rfl⟩ ykfa_110_0 rfl ⟨⟨by decide, by decide⟩, rfl, rfl⟩ ⟨by decide +kernel, rfl⟩ rfl rfl (Nat.le_of_ble_eq_true rfl) rfl rfl ?_
  refine sF_M_isPerson h (fun v3 σ3 h => ?_)
  show Wz E Y_M_isWho 116 [(0, .ref 110), (1, .int x1), (2, .int x2), (3, .int x3)] [.int v3, .int x1, .ref 134] σ3 K
  refine z_if_eq (off := 7) (tgt := 123) (pc' := 119) ⟨by decide +kernel, by decide, rfl⟩ (fun h4 => ?_) (fun h4 => ?_)
  · have h := h.1 (qi_eq_t rfl (by decide) h4)
    refine z_iload_n (f := 3) (i := 3) (q := 3) (pc' := 124) ⟨by decide +kernel, rfl⟩ rfl rfl ?_
    obtain ⟨n5, hi5, hz5, h⟩ := h
    refine w_iast (k := 134) (n := n5) (pc' := 125) ykaa_134 (hi5) (hz5) ⟨by decide +kernel, rfl⟩ ?_
    generalize hs6 : zI σ3 134 n5 x3 = σ6
    have h := h σ6 hs6
    refine z_sub [0, 1] rfl ?_
    exact sb_M_isWho_125  k h
  · have h := h.2 (qi_eq_f rfl (by decide) h4)
    refine z_iload_n (f := 2) (i := 2) (q := 2) (pc' := 120) ⟨by decide +kernel, rfl⟩ rfl rfl ?_
    refine z_goto (off := 4) (tgt := 124) (pc' := 123) ⟨by decide +kernel, by decide, rfl⟩ ?_
    obtain ⟨n7, hi7, hz7, h⟩ := h
    refine w_iast (k := 134) (n := n7) (pc' := 125) ykaa_134 (hi7) (hz7) ⟨by decide +kernel, rfl⟩ ?_
    generalize hs8 : zI σ3 134 n7 x2 = σ8
    have h := h σ8 hs8
    refine z_sub [0, 1] rfl ?_
    exact sb_M_isWho_125  k h
noncomputable def W_M_isWho_b44 (x1 : Int32) (y0 : Int32) (y1 : Int32) (σ : zS) (Q : Int32 → zS → Prop) : Prop := ∃ n1 : Nat, Int32.toInt y1 = (n1 : Int) ∧ n1 < 240 ∧ (∀ σ2 : zS, zI σ 133 n1 y0 = σ2 → (∃ n3 : Nat, Int32.toInt x1 = (n3 : Int) ∧ n3 < 240 ∧ (∀ σ4 : zS, zI σ2 134 n3 0 = σ4 → ((0 ≤ (Int32.toInt (σ4.1 133 n3)) → (W_M_isWho_b125  x1 σ4 Q)) ∧ (¬ 0 ≤ (Int32.toInt (σ4.1 133 n3)) → (W_M_numbered 112 σ4 (fun v6 σ6 => W_M_numbered 103 σ6 (fun v7 σ7 => W_M_isPerson v6 σ7 (fun v8 σ8 => ((Int32.toInt v8) = 0 → (W_M_isGroup v7 σ8 (fun v10 σ10 => ((Int32.toInt v10) = 0 → (W_M_isWho_b105  x1 v6 v7 (-1) x1 σ10 Q)) ∧ (¬ (Int32.toInt v10) = 0 → (W_M_isWho_b105  x1 v6 v7 1 x1 σ10 Q))))) ∧ (¬ (Int32.toInt v8) = 0 → (W_M_isWho_b105  x1 v6 v7 3 x1 σ8 Q)))))))))))
theorem sb_M_isWho_44 {E : xV} {σ : zS} {K : zKt} {x1 : Int32} {y0 : Int32} {y1 : Int32} {Q : Int32 → zS → Prop} (k : ∀ v s, Q v s → K (some (.int v)) s) (h : W_M_isWho_b44 x1 y0 y1 σ Q) : Wz E Y_M_isWho 44 [(0, .ref 110), (1, .int x1)] [.int y0, .int y1, .ref 133] σ K := by
  unfold W_M_isWho_b44 at h
  obtain ⟨n1, hi1, hz1, h⟩ := h
  refine w_iast (k := 133) (n := n1) (pc' := 45) ykaa_133 (hi1) (hz1) ⟨by decide +kernel, rfl⟩ ?_
  generalize hs2 : zI σ 133 n1 y0 = σ2
  have h := h σ2 hs2
  refine z_aload_n (f := 0) (i := 0) (q := 0) (pc' := 46) ⟨by decide +kernel, rfl⟩ rfl rfl ?_
  refine w_getr (k := 110) (j := 37) (idx := 85) (pc' := 49) yfxe_13_85 ykfa_110_37 ⟨by decide +kernel, rfl⟩ ?_
  refine z_iload_n (f := 1) (i := 1) (q := 1) (pc' := 50) ⟨by decide +kernel, rfl⟩ rfl rfl ?_
  refine z_iconst (i := 0) (v := 0) (pc' := 51) ⟨by decide +kernel, rfl⟩ (by decide) ?_
  obtain ⟨n3, hi3, hz3, h⟩ := h
  refine w_iast (k := 134) (n := n3) (pc' := 52) ykaa_134 (hi3) (hz3) ⟨by decide +kernel, rfl⟩ ?_
  generalize hs4 : zI σ2 134 n3 0 = σ4
  have h := h σ4 hs4
  refine z_aload_n (f := 0) (i := 0) (q := 0) (pc' := 53) ⟨by decide +kernel, rfl⟩ rfl rfl ?_
  refine w_getr (k := 110) (j := 36) (idx := 82) (pc' := 56) yfxe_13_82 ykfa_110_36 ⟨by decide +kernel, rfl⟩ ?_
  refine z_iload_n (f := 1) (i := 1) (q := 1) (pc' := 57) ⟨by decide +kernel, rfl⟩ rfl rfl ?_
  refine w_iald (k := 133) (n := n3) (pc' := 58) ykaa_133 (hi3) (hz3) ⟨by decide +kernel, rfl⟩ ?_
  refine z_if_ge (off := 67) (tgt := 125) (pc' := 61) ⟨by decide +kernel, by decide, rfl⟩ (fun h5 => ?_) (fun h5 => ?_)
  · have h := h.1 (qi_ge_t rfl (by decide) h5)
    refine z_sub [0, 1] rfl ?_
    exact sb_M_isWho_125  k h
  · have h := h.2 (qi_ge_f rfl (by decide) h5)
    refine z_aload_n (f := 0) (i := 0) (q := 0) (pc' := 62) ⟨by decide +kernel, rfl⟩ rfl rfl ?_
    refine z_bipush (i := 112) (v := 112) (pc' := 64) ⟨by decide +kernel, rfl⟩ (by decide) ?_
    refine w_invV (Z := Y_M_numbered) (idx := 628) (kb := 110) (As := [.int 112]) (rest := []) (pc' := 67) cl_13_628 rfl ⟨rfl, rfl⟩ ykfa_110_0 rfl ⟨⟨by decide, by decide⟩, rfl, rfl⟩ ⟨by decide +kernel, rfl⟩ rfl rfl (Nat.le_of_ble_eq_true rfl) rfl rfl ?_
    refine sF_M_numbered h (fun v6 σ6 h => ?_)
    show Wz E Y_M_isWho 67 [(0, .ref 110), (1, .int x1)] [.int v6] σ6 K
    refine z_istore_n (f := 2) (i := 2) (pc' := 68) ⟨by decide +kernel, rfl⟩ rfl (by decide) rfl ?_
    show Wz E Y_M_isWho 68 [(2, .int v6), (0, .ref 110), (1, .int x1)] [] σ6 K
    refine z_aload_n (f := 0) (i := 0) (q := 1) (pc' := 69) ⟨by decide +kernel, rfl⟩ rfl rfl ?_
    refine z_bipush (i := 103) (v := 103) (pc' := 71) ⟨by decide +kernel, rfl⟩ (by decide) ?_
    refine w_invV (Z := Y_M_numbered) (idx := 628) (kb := 110) (As := [.int 103]) (rest := []) (pc' := 74) cl_13_628 rfl ⟨rfl, rfl⟩ ykfa_110_0 rfl ⟨⟨by decide, by decide⟩, rfl, rfl⟩ ⟨by decide +kernel, rfl⟩ rfl rfl (Nat.le_of_ble_eq_true rfl) rfl rfl ?_
    refine sF_M_numbered h (fun v7 σ7 h => ?_)
    show Wz E Y_M_isWho 74 [(2, .int v6), (0, .ref 110), (1, .int x1)] [.int v7] σ7 K
    refine z_istore_n (f := 3) (i := 3) (pc' := 75) ⟨by decide +kernel, rfl⟩ rfl (by decide) rfl ?_
    show Wz E Y_M_isWho 75 [(3, .int v7), (2, .int v6), (0, .ref 110), (1, .int x1)] [] σ7 K
    refine z_aload_n (f := 0) (i := 0) (q := 2) (pc' := 76) ⟨by decide +kernel, rfl⟩ rfl rfl ?_
    refine w_getr (k := 110) (j := 36) (idx := 82) (pc' := 79) yfxe_13_82 ykfa_110_36 ⟨by decide +kernel, rfl⟩ ?_
    refine z_iload_n (f := 1) (i := 1) (q := 3) (pc' := 80) ⟨by decide +kernel, rfl⟩ rfl rfl ?_
    refine z_aload_n (f := 0) (i := 0) (q := 2) (pc' := 81) ⟨by decide +kernel, rfl⟩ rfl rfl ?_
    refine z_iload_n (f := 2) (i := 2) (q := 1) (pc' := 82) ⟨by decide +kernel, rfl⟩ rfl rfl ?_
    refine w_invV (Z := Y_M_isPerson) (idx := 444) (kb := 110) (As := [.int v6]) (rest := [.int x1, .ref 133]) (pc' := 85) cl_13_444 rfl ⟨rfl, rfl⟩ ykfa_110_0 rfl ⟨⟨by decide, by decide⟩, rfl, rfl⟩ ⟨by decide +kernel, rfl⟩ rfl rfl (Nat.le_of_ble_eq_true rfl) rfl rfl ?_
    refine sF_M_isPerson h (fun v8 σ8 h => ?_)
    show Wz E Y_M_isWho 85 [(3, .int v7), (2, .int v6), (0, .ref 110), (1, .int x1)] [.int v8, .int x1, .ref 133] σ8 K
    refine z_if_eq (off := 7) (tgt := 92) (pc' := 88) ⟨by decide +kernel, by decide, rfl⟩ (fun h9 => ?_) (fun h9 => ?_)
    · have h := h.1 (qi_eq_t rfl (by decide) h9)
      refine z_aload_n (f := 0) (i := 0) (q := 2) (pc' := 93) ⟨by decide +kernel, rfl⟩ rfl rfl ?_
      refine z_iload_n (f := 3) (i := 3) (q := 0) (pc' := 94) ⟨by decide +kernel, rfl⟩ rfl rfl ?_
      refine w_invV (Z := Y_M_isGroup) (idx := 448) (kb := 110) (As := [.int v7]) (rest := [.int x1, .ref 133]) (pc' := 97) cl_13_448 rfl ⟨rfl, rfl⟩ ykfa_110_0 rfl ⟨⟨by decide, by decide⟩, rfl, rfl⟩ ⟨by decide +kernel, rfl⟩ rfl rfl (Nat.le_of_ble_eq_true rfl) rfl rfl ?_
      refine sF_M_isGroup h (fun v10 σ10 h => ?_)
      show Wz E Y_M_isWho 97 [(3, .int v7), (2, .int v6), (0, .ref 110), (1, .int x1)] [.int v10, .int x1, .ref 133] σ10 K
      refine z_if_eq (off := 7) (tgt := 104) (pc' := 100) ⟨by decide +kernel, by decide, rfl⟩ (fun h11 => ?_) (fun h11 => ?_)
      · have h := h.1 (qi_eq_t rfl (by decide) h11)
        refine z_iconst (i := (-1)) (v := (-1)) (pc' := 105) ⟨by decide +kernel, rfl⟩ (by decide) ?_
        refine z_sub [2, 3, 1, 0] rfl ?_
        exact sb_M_isWho_105  k h
      · have h := h.2 (qi_eq_f rfl (by decide) h11)
        refine z_iconst (i := 1) (v := 1) (pc' := 101) ⟨by decide +kernel, rfl⟩ (by decide) ?_
        refine z_goto (off := 4) (tgt := 105) (pc' := 104) ⟨by decide +kernel, by decide, rfl⟩ ?_
        refine z_sub [2, 3, 1, 0] rfl ?_
        exact sb_M_isWho_105  k h
    · have h := h.2 (qi_eq_f rfl (by decide) h9)
      refine z_iconst (i := 3) (v := 3) (pc' := 89) ⟨by decide +kernel, rfl⟩ (by decide) ?_
      refine z_goto (off := 16) (tgt := 105) (pc' := 92) ⟨by decide +kernel, by decide, rfl⟩ ?_
      refine z_sub [2, 3, 1, 0] rfl ?_
      exact sb_M_isWho_105  k h
noncomputable def W_M_isWho (a1 : Int32) (σ : zS) (Q : Int32 → zS → Prop) : Prop := W_M_isWord 97 110 121 0 0 σ (fun v1 σ1 => ((Int32.toInt v1) = 0 → (W_M_isWord 111 119 110 0 0 σ1 (fun v3 σ3 => ((Int32.toInt v3) = 0 → (W_M_isWho_b44  a1 (-1) a1 σ3 Q)) ∧ (¬ (Int32.toInt v3) = 0 → (W_M_isWho_b44  a1 2 a1 σ3 Q))))) ∧ (¬ (Int32.toInt v1) = 0 → (W_M_isWho_b44  a1 0 a1 σ1 Q)))
theorem sF_M_isWho {E : xV} {σ : zS} {K : zKt} {a1 : Int32} {Q : Int32 → zS → Prop} (h : W_M_isWho a1 σ Q) (k : ∀ v s, Q v s → K (some (.int v)) s) : Cz E Y_M_isWho [.ref 110, .int a1] σ K := by
  refine z_entry (by decide) (fun a => by rw [sl_len]; exact Nat.le_of_ble_eq_true rfl) rfl ?_
  unfold W_M_isWho at h
  refine z_aload_n (f := 0) (i := 0) (q := 0) (pc' := 1) ⟨by decide +kernel, rfl⟩ rfl rfl ?_
  refine w_getr (k := 110) (j := 36) (idx := 82) (pc' := 4) yfxe_13_82 ykfa_110_36 ⟨by decide +kernel, rfl⟩ ?_
  refine z_iload_n (f := 1) (i := 1) (q := 1) (pc' := 5) ⟨by decide +kernel, rfl⟩ rfl rfl ?_
  refine z_aload_n (f := 0) (i := 0) (q := 0) (pc' := 6) ⟨by decide +kernel, rfl⟩ rfl rfl ?_
  refine z_bipush (i := 97) (v := 97) (pc' := 8) ⟨by decide +kernel, rfl⟩ (by decide) ?_
  refine z_bipush (i := 110) (v := 110) (pc' := 10) ⟨by decide +kernel, rfl⟩ (by decide) ?_
  refine z_bipush (i := 121) (v := 121) (pc' := 12) ⟨by decide +kernel, rfl⟩ (by decide) ?_
  refine z_iconst (i := 0) (v := 0) (pc' := 13) ⟨by decide +kernel, rfl⟩ (by decide) ?_
  refine z_iconst (i := 0) (v := 0) (pc' := 14) ⟨by decide +kernel, rfl⟩ (by decide) ?_
  refine w_invV (Z := Y_M_isWord) (idx := 562) (kb := 110) (As := [.int 97, .int 110, .int 121, .int 0, .int 0]) (rest := [.int a1, .ref 133]) (pc' := 17) cl_13_562 rfl ⟨rfl, rfl⟩ ykfa_110_0 rfl ⟨⟨by decide, by decide⟩, rfl, rfl⟩ ⟨by decide +kernel, rfl⟩ rfl rfl (Nat.le_of_ble_eq_true rfl) rfl rfl ?_
  refine sF_M_isWord h (fun v1 σ1 h => ?_)
  show Wz E Y_M_isWho 17 [(0, .ref 110), (1, .int a1)] [.int v1, .int a1, .ref 133] σ1 K
  refine z_if_eq (off := 7) (tgt := 24) (pc' := 20) ⟨by decide +kernel, by decide, rfl⟩ (fun h2 => ?_) (fun h2 => ?_)
  · have h := h.1 (qi_eq_t rfl (by decide) h2)
    refine z_aload_n (f := 0) (i := 0) (q := 0) (pc' := 25) ⟨by decide +kernel, rfl⟩ rfl rfl ?_
    refine z_bipush (i := 111) (v := 111) (pc' := 27) ⟨by decide +kernel, rfl⟩ (by decide) ?_
    refine z_bipush (i := 119) (v := 119) (pc' := 29) ⟨by decide +kernel, rfl⟩ (by decide) ?_
    refine z_bipush (i := 110) (v := 110) (pc' := 31) ⟨by decide +kernel, rfl⟩ (by decide) ?_
    refine z_iconst (i := 0) (v := 0) (pc' := 32) ⟨by decide +kernel, rfl⟩ (by decide) ?_
    refine z_iconst (i := 0) (v := 0) (pc' := 33) ⟨by decide +kernel, rfl⟩ (by decide) ?_
    refine w_invV (Z := Y_M_isWord) (idx := 562) (kb := 110) (As := [.int 111, .int 119, .int 110, .int 0, .int 0]) (rest := [.int a1, .ref 133]) (pc' := 36) cl_13_562 rfl ⟨rfl, rfl⟩ ykfa_110_0 rfl ⟨⟨by decide, by decide⟩, rfl, rfl⟩ ⟨by decide +kernel, rfl⟩ rfl rfl (Nat.le_of_ble_eq_true rfl) rfl rfl ?_
    refine sF_M_isWord h (fun v3 σ3 h => ?_)
    show Wz E Y_M_isWho 36 [(0, .ref 110), (1, .int a1)] [.int v3, .int a1, .ref 133] σ3 K
    refine z_if_eq (off := 7) (tgt := 43) (pc' := 39) ⟨by decide +kernel, by decide, rfl⟩ (fun h4 => ?_) (fun h4 => ?_)
    · have h := h.1 (qi_eq_t rfl (by decide) h4)
      refine z_iconst (i := (-1)) (v := (-1)) (pc' := 44) ⟨by decide +kernel, rfl⟩ (by decide) ?_
      refine z_sub [0, 1] rfl ?_
      exact sb_M_isWho_44  k h
    · have h := h.2 (qi_eq_f rfl (by decide) h4)
      refine z_iconst (i := 2) (v := 2) (pc' := 40) ⟨by decide +kernel, rfl⟩ (by decide) ?_
      refine z_goto (off := 4) (tgt := 44) (pc' := 43) ⟨by decide +kernel, by decide, rfl⟩ ?_
      refine z_sub [0, 1] rfl ?_
      exact sb_M_isWho_44  k h
  · have h := h.2 (qi_eq_f rfl (by decide) h2)
    refine z_iconst (i := 0) (v := 0) (pc' := 21) ⟨by decide +kernel, rfl⟩ (by decide) ?_
    refine z_goto (off := 23) (tgt := 44) (pc' := 24) ⟨by decide +kernel, by decide, rfl⟩ ?_
    refine z_sub [0, 1] rfl ?_
    exact sb_M_isWho_44  k h
noncomputable def W_M_isAct_b128 (x1 : Int32) (y0 : Int32) (y1 : Int32) (σ : zS) (Q : Int32 → zS → Prop) : Prop := ∃ n1 : Nat, Int32.toInt y1 = (n1 : Int) ∧ n1 < 240 ∧ (∀ σ2 : zS, zI σ 135 n1 y0 = σ2 → (∃ n3 : Nat, Int32.toInt x1 = (n3 : Int) ∧ n3 < 240 ∧ ((0 ≤ (Int32.toInt (σ2.1 135 n3)) → (Q 1 σ2)) ∧ (¬ 0 ≤ (Int32.toInt (σ2.1 135 n3)) → (W_M_fails  σ2 (fun v5 σ5 => ((Int32.toInt v5) = 0 → (Q 0 σ5)) ∧ (¬ (Int32.toInt v5) = 0 → (Q 1 σ5))))))))
theorem sb_M_isAct_128 {E : xV} {σ : zS} {K : zKt} {x1 : Int32} {y0 : Int32} {y1 : Int32} {Q : Int32 → zS → Prop} (k : ∀ v s, Q v s → K (some (.int v)) s) (h : W_M_isAct_b128 x1 y0 y1 σ Q) : Wz E Y_M_isAct 128 [(0, .ref 110), (1, .int x1)] [.int y0, .int y1, .ref 135] σ K := by
  unfold W_M_isAct_b128 at h
  obtain ⟨n1, hi1, hz1, h⟩ := h
  refine w_iast (k := 135) (n := n1) (pc' := 129) ykaa_135 (hi1) (hz1) ⟨by decide +kernel, rfl⟩ ?_
  generalize hs2 : zI σ 135 n1 y0 = σ2
  have h := h σ2 hs2
  refine z_aload_n (f := 0) (i := 0) (q := 0) (pc' := 130) ⟨by decide +kernel, rfl⟩ rfl rfl ?_
  refine w_getr (k := 110) (j := 38) (idx := 88) (pc' := 133) yfxe_13_88 ykfa_110_38 ⟨by decide +kernel, rfl⟩ ?_
  refine z_iload_n (f := 1) (i := 1) (q := 1) (pc' := 134) ⟨by decide +kernel, rfl⟩ rfl rfl ?_
  obtain ⟨n3, hi3, hz3, h⟩ := h
  refine w_iald (k := 135) (n := n3) (pc' := 135) ykaa_135 (hi3) (hz3) ⟨by decide +kernel, rfl⟩ ?_
  refine z_if_ge (off := 10) (tgt := 145) (pc' := 138) ⟨by decide +kernel, by decide, rfl⟩ (fun h4 => ?_) (fun h4 => ?_)
  · have h := h.1 (qi_ge_t rfl (by decide) h4)
    refine z_iconst (i := 1) (v := 1) (pc' := 146) ⟨by decide +kernel, rfl⟩ (by decide) ?_
    refine z_goto (off := 4) (tgt := 150) (pc' := 149) ⟨by decide +kernel, by decide, rfl⟩ ?_
    exact z_iret (ty := .boolean) rfl (by rfl) (by decide +kernel) (k _ _ h)
  · have h := h.2 (qi_ge_f rfl (by decide) h4)
    refine z_aload_n (f := 0) (i := 0) (q := 0) (pc' := 139) ⟨by decide +kernel, rfl⟩ rfl rfl ?_
    refine w_invV (Z := Y_M_fails) (idx := 625) (kb := 110) (As := []) (rest := []) (pc' := 142) cl_13_625 rfl ⟨rfl, rfl⟩ ykfa_110_0 rfl ⟨⟨by decide, by decide⟩, rfl, rfl⟩ ⟨by decide +kernel, rfl⟩ rfl rfl (Nat.le_of_ble_eq_true rfl) rfl rfl ?_
    refine sF_M_fails h (fun v5 σ5 h => ?_)
    show Wz E Y_M_isAct 142 [(0, .ref 110), (1, .int x1)] [.int v5] σ5 K
    refine z_if_eq (off := 7) (tgt := 149) (pc' := 145) ⟨by decide +kernel, by decide, rfl⟩ (fun h6 => ?_) (fun h6 => ?_)
    · have h := h.1 (qi_eq_t rfl (by decide) h6)
      refine z_iconst (i := 0) (v := 0) (pc' := 150) ⟨by decide +kernel, rfl⟩ (by decide) ?_
      exact z_iret (ty := .boolean) rfl (by rfl) (by decide +kernel) (k _ _ h)
    · have h := h.2 (qi_eq_f rfl (by decide) h6)
      refine z_iconst (i := 1) (v := 1) (pc' := 146) ⟨by decide +kernel, rfl⟩ (by decide) ?_
      refine z_goto (off := 4) (tgt := 150) (pc' := 149) ⟨by decide +kernel, by decide, rfl⟩ ?_
      exact z_iret (ty := .boolean) rfl (by rfl) (by decide +kernel) (k _ _ h)
noncomputable def W_M_isAct (a1 : Int32) (σ : zS) (Q : Int32 → zS → Prop) : Prop := W_M_isWord 97 108 108 0 0 σ (fun v1 σ1 => ((Int32.toInt v1) = 0 → (W_M_isWord 114 0 0 0 0 σ1 (fun v3 σ3 => ((Int32.toInt v3) = 0 → (W_M_isWord 119 0 0 0 0 σ3 (fun v5 σ5 => ((Int32.toInt v5) = 0 → (W_M_isWord 120 0 0 0 0 σ5 (fun v7 σ7 => ((Int32.toInt v7) = 0 → (W_M_isWord 100 0 0 0 0 σ7 (fun v9 σ9 => ((Int32.toInt v9) = 0 → (W_M_isWord 103 0 0 0 0 σ9 (fun v11 σ11 => ((Int32.toInt v11) = 0 → (W_M_isWord 111 0 0 0 0 σ11 (fun v13 σ13 => ((Int32.toInt v13) = 0 → (W_M_isAct_b128  a1 (-1) a1 σ13 Q)) ∧ (¬ (Int32.toInt v13) = 0 → (W_M_isAct_b128  a1 5 a1 σ13 Q))))) ∧ (¬ (Int32.toInt v11) = 0 → (W_M_isAct_b128  a1 4 a1 σ11 Q))))) ∧ (¬ (Int32.toInt v9) = 0 → (W_M_isAct_b128  a1 3 a1 σ9 Q))))) ∧ (¬ (Int32.toInt v7) = 0 → (W_M_isAct_b128  a1 2 a1 σ7 Q))))) ∧ (¬ (Int32.toInt v5) = 0 → (W_M_isAct_b128  a1 1 a1 σ5 Q))))) ∧ (¬ (Int32.toInt v3) = 0 → (W_M_isAct_b128  a1 0 a1 σ3 Q))))) ∧ (¬ (Int32.toInt v1) = 0 → (W_M_isAct_b128  a1 6 a1 σ1 Q)))
theorem sF_M_isAct {E : xV} {σ : zS} {K : zKt} {a1 : Int32} {Q : Int32 → zS → Prop} (h : W_M_isAct a1 σ Q) (k : ∀ v s, Q v s → K (some (.int v)) s) : Cz E Y_M_isAct [.ref 110, .int a1] σ K := by
  refine z_entry (by decide) (fun a => by rw [sl_len]; exact Nat.le_of_ble_eq_true rfl) rfl ?_
  unfold W_M_isAct at h
  refine z_aload_n (f := 0) (i := 0) (q := 0) (pc' := 1) ⟨by decide +kernel, rfl⟩ rfl rfl ?_
  refine w_getr (k := 110) (j := 38) (idx := 88) (pc' := 4) yfxe_13_88 ykfa_110_38 ⟨by decide +kernel, rfl⟩ ?_
  refine z_iload_n (f := 1) (i := 1) (q := 1) (pc' := 5) ⟨by decide +kernel, rfl⟩ rfl rfl ?_
  refine z_aload_n (f := 0) (i := 0) (q := 0) (pc' := 6) ⟨by decide +kernel, rfl⟩ rfl rfl ?_
  refine z_bipush (i := 97) (v := 97) (pc' := 8) ⟨by decide +kernel, rfl⟩ (by decide) ?_
  refine z_bipush (i := 108) (v := 108) (pc' := 10) ⟨by decide +kernel, rfl⟩ (by decide) ?_
  refine z_bipush (i := 108) (v := 108) (pc' := 12) ⟨by decide +kernel, rfl⟩ (by decide) ?_
  refine z_iconst (i := 0) (v := 0) (pc' := 13) ⟨by decide +kernel, rfl⟩ (by decide) ?_
  refine z_iconst (i := 0) (v := 0) (pc' := 14) ⟨by decide +kernel, rfl⟩ (by decide) ?_
  refine w_invV (Z := Y_M_isWord) (idx := 562) (kb := 110) (As := [.int 97, .int 108, .int 108, .int 0, .int 0]) (rest := [.int a1, .ref 135]) (pc' := 17) cl_13_562 rfl ⟨rfl, rfl⟩ ykfa_110_0 rfl ⟨⟨by decide, by decide⟩, rfl, rfl⟩ ⟨by decide +kernel, rfl⟩ rfl rfl (Nat.le_of_ble_eq_true rfl) rfl rfl ?_
  refine sF_M_isWord h (fun v1 σ1 h => ?_)
  show Wz E Y_M_isAct 17 [(0, .ref 110), (1, .int a1)] [.int v1, .int a1, .ref 135] σ1 K
  refine z_if_eq (off := 8) (tgt := 25) (pc' := 20) ⟨by decide +kernel, by decide, rfl⟩ (fun h2 => ?_) (fun h2 => ?_)
  · have h := h.1 (qi_eq_t rfl (by decide) h2)
    refine z_aload_n (f := 0) (i := 0) (q := 0) (pc' := 26) ⟨by decide +kernel, rfl⟩ rfl rfl ?_
    refine z_bipush (i := 114) (v := 114) (pc' := 28) ⟨by decide +kernel, rfl⟩ (by decide) ?_
    refine z_iconst (i := 0) (v := 0) (pc' := 29) ⟨by decide +kernel, rfl⟩ (by decide) ?_
    refine z_iconst (i := 0) (v := 0) (pc' := 30) ⟨by decide +kernel, rfl⟩ (by decide) ?_
    refine z_iconst (i := 0) (v := 0) (pc' := 31) ⟨by decide +kernel, rfl⟩ (by decide) ?_
    refine z_iconst (i := 0) (v := 0) (pc' := 32) ⟨by decide +kernel, rfl⟩ (by decide) ?_
    refine w_invV (Z := Y_M_isWord) (idx := 562) (kb := 110) (As := [.int 114, .int 0, .int 0, .int 0, .int 0]) (rest := [.int a1, .ref 135]) (pc' := 35) cl_13_562 rfl ⟨rfl, rfl⟩ ykfa_110_0 rfl ⟨⟨by decide, by decide⟩, rfl, rfl⟩ ⟨by decide +kernel, rfl⟩ rfl rfl (Nat.le_of_ble_eq_true rfl) rfl rfl ?_
    refine sF_M_isWord h (fun v3 σ3 h => ?_)
    show Wz E Y_M_isAct 35 [(0, .ref 110), (1, .int a1)] [.int v3, .int a1, .ref 135] σ3 K
    refine z_if_eq (off := 7) (tgt := 42) (pc' := 38) ⟨by decide +kernel, by decide, rfl⟩ (fun h4 => ?_) (fun h4 => ?_)
    · have h := h.1 (qi_eq_t rfl (by decide) h4)
      refine z_aload_n (f := 0) (i := 0) (q := 0) (pc' := 43) ⟨by decide +kernel, rfl⟩ rfl rfl ?_
      refine z_bipush (i := 119) (v := 119) (pc' := 45) ⟨by decide +kernel, rfl⟩ (by decide) ?_
      refine z_iconst (i := 0) (v := 0) (pc' := 46) ⟨by decide +kernel, rfl⟩ (by decide) ?_
      refine z_iconst (i := 0) (v := 0) (pc' := 47) ⟨by decide +kernel, rfl⟩ (by decide) ?_
      refine z_iconst (i := 0) (v := 0) (pc' := 48) ⟨by decide +kernel, rfl⟩ (by decide) ?_
      refine z_iconst (i := 0) (v := 0) (pc' := 49) ⟨by decide +kernel, rfl⟩ (by decide) ?_
      refine w_invV (Z := Y_M_isWord) (idx := 562) (kb := 110) (As := [.int 119, .int 0, .int 0, .int 0, .int 0]) (rest := [.int a1, .ref 135]) (pc' := 52) cl_13_562 rfl ⟨rfl, rfl⟩ ykfa_110_0 rfl ⟨⟨by decide, by decide⟩, rfl, rfl⟩ ⟨by decide +kernel, rfl⟩ rfl rfl (Nat.le_of_ble_eq_true rfl) rfl rfl ?_
      refine sF_M_isWord h (fun v5 σ5 h => ?_)
      show Wz E Y_M_isAct 52 [(0, .ref 110), (1, .int a1)] [.int v5, .int a1, .ref 135] σ5 K
      refine z_if_eq (off := 7) (tgt := 59) (pc' := 55) ⟨by decide +kernel, by decide, rfl⟩ (fun h6 => ?_) (fun h6 => ?_)
      · have h := h.1 (qi_eq_t rfl (by decide) h6)
        refine z_aload_n (f := 0) (i := 0) (q := 0) (pc' := 60) ⟨by decide +kernel, rfl⟩ rfl rfl ?_
        refine z_bipush (i := 120) (v := 120) (pc' := 62) ⟨by decide +kernel, rfl⟩ (by decide) ?_
        refine z_iconst (i := 0) (v := 0) (pc' := 63) ⟨by decide +kernel, rfl⟩ (by decide) ?_
        refine z_iconst (i := 0) (v := 0) (pc' := 64) ⟨by decide +kernel, rfl⟩ (by decide) ?_
        refine z_iconst (i := 0) (v := 0) (pc' := 65) ⟨by decide +kernel, rfl⟩ (by decide) ?_
        refine z_iconst (i := 0) (v := 0) (pc' := 66) ⟨by decide +kernel, rfl⟩ (by decide) ?_
        refine w_invV (Z := Y_M_isWord) (idx := 562) (kb := 110) (As := [.int 120, .int 0, .int 0, .int 0, .int 0]) (rest := [.int a1, .ref 135]) (pc' := 69) cl_13_562 rfl ⟨rfl, rfl⟩ ykfa_110_0 rfl ⟨⟨by decide, by decide⟩, rfl, rfl⟩ ⟨by decide +kernel, rfl⟩ rfl rfl (Nat.le_of_ble_eq_true rfl) rfl rfl ?_
        refine sF_M_isWord h (fun v7 σ7 h => ?_)
        show Wz E Y_M_isAct 69 [(0, .ref 110), (1, .int a1)] [.int v7, .int a1, .ref 135] σ7 K
        refine z_if_eq (off := 7) (tgt := 76) (pc' := 72) ⟨by decide +kernel, by decide, rfl⟩ (fun h8 => ?_) (fun h8 => ?_)
        · have h := h.1 (qi_eq_t rfl (by decide) h8)
          refine z_aload_n (f := 0) (i := 0) (q := 0) (pc' := 77) ⟨by decide +kernel, rfl⟩ rfl rfl ?_
          refine z_bipush (i := 100) (v := 100) (pc' := 79) ⟨by decide +kernel, rfl⟩ (by decide) ?_
          refine z_iconst (i := 0) (v := 0) (pc' := 80) ⟨by decide +kernel, rfl⟩ (by decide) ?_
          refine z_iconst (i := 0) (v := 0) (pc' := 81) ⟨by decide +kernel, rfl⟩ (by decide) ?_
          refine z_iconst (i := 0) (v := 0) (pc' := 82) ⟨by decide +kernel, rfl⟩ (by decide) ?_
          refine z_iconst (i := 0) (v := 0) (pc' := 83) ⟨by decide +kernel, rfl⟩ (by decide) ?_
          refine w_invV (Z := Y_M_isWord) (idx := 562) (kb := 110) (As := [.int 100, .int 0, .int 0, .int 0, .int 0]) (rest := [.int a1, .ref 135]) (pc' := 86) cl_13_562 rfl ⟨rfl, rfl⟩ ykfa_110_0 rfl ⟨⟨by decide, by decide⟩, rfl, rfl⟩ ⟨by decide +kernel, rfl⟩ rfl rfl (Nat.le_of_ble_eq_true rfl) rfl rfl ?_
          refine sF_M_isWord h (fun v9 σ9 h => ?_)
          show Wz E Y_M_isAct 86 [(0, .ref 110), (1, .int a1)] [.int v9, .int a1, .ref 135] σ9 K
          refine z_if_eq (off := 7) (tgt := 93) (pc' := 89) ⟨by decide +kernel, by decide, rfl⟩ (fun h10 => ?_) (fun h10 => ?_)
          · have h := h.1 (qi_eq_t rfl (by decide) h10)
            refine z_aload_n (f := 0) (i := 0) (q := 0) (pc' := 94) ⟨by decide +kernel, rfl⟩ rfl rfl ?_
            refine z_bipush (i := 103) (v := 103) (pc' := 96) ⟨by decide +kernel, rfl⟩ (by decide) ?_
            refine z_iconst (i := 0) (v := 0) (pc' := 97) ⟨by decide +kernel, rfl⟩ (by decide) ?_
            refine z_iconst (i := 0) (v := 0) (pc' := 98) ⟨by decide +kernel, rfl⟩ (by decide) ?_
            refine z_iconst (i := 0) (v := 0) (pc' := 99) ⟨by decide +kernel, rfl⟩ (by decide) ?_
            refine z_iconst (i := 0) (v := 0) (pc' := 100) ⟨by decide +kernel, rfl⟩ (by decide) ?_
            refine w_invV (Z := Y_M_isWord) (idx := 562) (kb := 110) (As := [.int 103, .int 0, .int 0, .int 0, .int 0]) (rest := [.int a1, .ref 135]) (pc' := 103) cl_13_562 rfl ⟨rfl, rfl⟩ ykfa_110_0 rfl ⟨⟨by decide, by decide⟩, rfl, rfl⟩ ⟨by decide +kernel, rfl⟩ rfl rfl (Nat.le_of_ble_eq_true rfl) rfl rfl ?_
            refine sF_M_isWord h (fun v11 σ11 h => ?_)
            show Wz E Y_M_isAct 103 [(0, .ref 110), (1, .int a1)] [.int v11, .int a1, .ref 135] σ11 K
            refine z_if_eq (off := 7) (tgt := 110) (pc' := 106) ⟨by decide +kernel, by decide, rfl⟩ (fun h12 => ?_) (fun h12 => ?_)
            · have h := h.1 (qi_eq_t rfl (by decide) h12)
              refine z_aload_n (f := 0) (i := 0) (q := 0) (pc' := 111) ⟨by decide +kernel, rfl⟩ rfl rfl ?_
              refine z_bipush (i := 111) (v := 111) (pc' := 113) ⟨by decide +kernel, rfl⟩ (by decide) ?_
              refine z_iconst (i := 0) (v := 0) (pc' := 114) ⟨by decide +kernel, rfl⟩ (by decide) ?_
              refine z_iconst (i := 0) (v := 0) (pc' := 115) ⟨by decide +kernel, rfl⟩ (by decide) ?_
              refine z_iconst (i := 0) (v := 0) (pc' := 116) ⟨by decide +kernel, rfl⟩ (by decide) ?_
              refine z_iconst (i := 0) (v := 0) (pc' := 117) ⟨by decide +kernel, rfl⟩ (by decide) ?_
              refine w_invV (Z := Y_M_isWord) (idx := 562) (kb := 110) (As := [.int 111, .int 0, .int 0, .int 0, .int 0]) (rest := [.int a1, .ref 135]) (pc' := 120) cl_13_562 rfl ⟨rfl, rfl⟩ ykfa_110_0 rfl ⟨⟨by decide, by decide⟩, rfl, rfl⟩ ⟨by decide +kernel, rfl⟩ rfl rfl (Nat.le_of_ble_eq_true rfl) rfl rfl ?_
              refine sF_M_isWord h (fun v13 σ13 h => ?_)
              show Wz E Y_M_isAct 120 [(0, .ref 110), (1, .int a1)] [.int v13, .int a1, .ref 135] σ13 K
              refine z_if_eq (off := 7) (tgt := 127) (pc' := 123) ⟨by decide +kernel, by decide, rfl⟩ (fun h14 => ?_) (fun h14 => ?_)
              · have h := h.1 (qi_eq_t rfl (by decide) h14)
                refine z_iconst (i := (-1)) (v := (-1)) (pc' := 128) ⟨by decide +kernel, rfl⟩ (by decide) ?_
                refine z_sub [0, 1] rfl ?_
                exact sb_M_isAct_128  k h
              · have h := h.2 (qi_eq_f rfl (by decide) h14)
                refine z_iconst (i := 5) (v := 5) (pc' := 124) ⟨by decide +kernel, rfl⟩ (by decide) ?_
                refine z_goto (off := 4) (tgt := 128) (pc' := 127) ⟨by decide +kernel, by decide, rfl⟩ ?_
                refine z_sub [0, 1] rfl ?_
                exact sb_M_isAct_128  k h
            · have h := h.2 (qi_eq_f rfl (by decide) h12)
              refine z_iconst (i := 4) (v := 4) (pc' := 107) ⟨by decide +kernel, rfl⟩ (by decide) ?_
              refine z_goto (off := 21) (tgt := 128) (pc' := 110) ⟨by decide +kernel, by decide, rfl⟩ ?_
              refine z_sub [0, 1] rfl ?_
              exact sb_M_isAct_128  k h
          · have h := h.2 (qi_eq_f rfl (by decide) h10)
            refine z_iconst (i := 3) (v := 3) (pc' := 90) ⟨by decide +kernel, rfl⟩ (by decide) ?_
            refine z_goto (off := 38) (tgt := 128) (pc' := 93) ⟨by decide +kernel, by decide, rfl⟩ ?_
            refine z_sub [0, 1] rfl ?_
            exact sb_M_isAct_128  k h
        · have h := h.2 (qi_eq_f rfl (by decide) h8)
          refine z_iconst (i := 2) (v := 2) (pc' := 73) ⟨by decide +kernel, rfl⟩ (by decide) ?_
          refine z_goto (off := 55) (tgt := 128) (pc' := 76) ⟨by decide +kernel, by decide, rfl⟩ ?_
          refine z_sub [0, 1] rfl ?_
          exact sb_M_isAct_128  k h
      · have h := h.2 (qi_eq_f rfl (by decide) h6)
        refine z_iconst (i := 1) (v := 1) (pc' := 56) ⟨by decide +kernel, rfl⟩ (by decide) ?_
        refine z_goto (off := 72) (tgt := 128) (pc' := 59) ⟨by decide +kernel, by decide, rfl⟩ ?_
        refine z_sub [0, 1] rfl ?_
        exact sb_M_isAct_128  k h
    · have h := h.2 (qi_eq_f rfl (by decide) h4)
      refine z_iconst (i := 0) (v := 0) (pc' := 39) ⟨by decide +kernel, rfl⟩ (by decide) ?_
      refine z_goto (off := 89) (tgt := 128) (pc' := 42) ⟨by decide +kernel, by decide, rfl⟩ ?_
      refine z_sub [0, 1] rfl ?_
      exact sb_M_isAct_128  k h
  · have h := h.2 (qi_eq_f rfl (by decide) h2)
    refine z_bipush (i := 6) (v := 6) (pc' := 22) ⟨by decide +kernel, rfl⟩ (by decide) ?_
    refine z_goto (off := 106) (tgt := 128) (pc' := 25) ⟨by decide +kernel, by decide, rfl⟩ ?_
    refine z_sub [0, 1] rfl ?_
    exact sb_M_isAct_128  k h
noncomputable def W_M_isThing (a1 : Int32) (σ : zS) (Q : Int32 → zS → Prop) : Prop := ∀ r1 : Int64, r1.toInt = (Int32.toInt a1) → ((-2147483648 ≤ (Int32.toInt (σ.1 110 20)) - 1 ∧ (Int32.toInt (σ.1 110 20)) - 1 ≤ 2147483647) ∧ ∀ r2 : Int32, r2.toInt = (Int32.toInt (σ.1 110 20)) - 1 → (∀ r3 : Int64, r3.toInt = (Int32.toInt r2) → (W_M_in r1 0 r3 σ (fun v4 σ4 => (v4 = 0 ∨ v4 = 1) ∧ (Q v4 σ4)))))
theorem sF_M_isThing {E : xV} {σ : zS} {K : zKt} {a1 : Int32} {Q : Int32 → zS → Prop} (h : W_M_isThing a1 σ Q) (k : ∀ v s, Q v s → K (some (.int v)) s) : Cz E Y_M_isThing [.ref 110, .int a1] σ K := by
  refine z_entry (by decide) (fun a => by rw [sl_len]; exact Nat.le_of_ble_eq_true rfl) rfl ?_
  unfold W_M_isThing at h
  refine z_iload_n (f := 1) (i := 1) (q := 1) (pc' := 1) ⟨by decide +kernel, rfl⟩ rfl rfl ?_
  refine z_i2l (v := (Int32.toInt64 a1)) (pc' := 2) ⟨by decide +kernel, rfl⟩ rfl ?_
  have h := h (Int32.toInt64 a1) (Int32.toInt_toInt64 _)
  generalize (Int32.toInt64 a1) = r1 at h ⊢
  refine z_lconst (i := 0) (v := 0) (pc' := 3) ⟨by decide +kernel, rfl⟩ (by decide) ?_
  refine z_aload_n (f := 0) (i := 0) (q := 0) (pc' := 4) ⟨by decide +kernel, rfl⟩ rfl rfl ?_
  refine w_geti (k := 110) (j := 20) (idx := 54) (pc' := 7) yfxe_13_54 ykfa_110_20 ⟨by decide +kernel, rfl⟩ ?_
  refine z_iconst (i := 1) (v := 1) (pc' := 8) ⟨by decide +kernel, rfl⟩ (by decide) ?_
  refine z_isub (pc' := 9) ⟨by decide +kernel, rfl⟩ ?_
  obtain ⟨hb2, h⟩ := h
  have h := h ((σ.1 110 20) - 1) (is_ok rfl (by decide) hb2)
  generalize ((σ.1 110 20) - 1) = r2 at h ⊢
  refine z_i2l (v := (Int32.toInt64 r2)) (pc' := 10) ⟨by decide +kernel, rfl⟩ rfl ?_
  have h := h (Int32.toInt64 r2) (Int32.toInt_toInt64 _)
  generalize (Int32.toInt64 r2) = r3 at h ⊢
  refine w_invS (Z := Y_M_in) (idx := 333) (As := [.long r1, .long 0, .long r3]) (rest := []) (pc' := 13) cl_13_333 rfl ⟨rfl, rfl⟩ ⟨⟨by decide, by decide⟩, rfl, rfl⟩ ⟨by decide +kernel, rfl⟩ rfl rfl (Nat.le_of_ble_eq_true rfl) rfl rfl ?_
  refine sF_M_in h (fun v4 σ4 h => ?_)
  show Wz E Y_M_isThing 13 [(0, .ref 110), (1, .int a1)] [.int v4] σ4 K
  obtain ⟨hg5, h⟩ := h
  exact z_iret (ty := .boolean) rfl (j_bool hg5).1 (by decide +kernel) (k _ _ h)
noncomputable def W_M_isHere (a1 : Int32) (σ : zS) (Q : Int32 → zS → Prop) : Prop := W_M_isThing a1 σ (fun v1 σ1 => ((Int32.toInt v1) = 0 → (Q 0 σ1)) ∧ (¬ (Int32.toInt v1) = 0 → (∃ n3 : Nat, Int32.toInt a1 = (n3 : Int) ∧ n3 < 40 ∧ (((Int32.toInt (σ1.1 128 n3)) = 0 → (Q 1 σ1)) ∧ (¬ (Int32.toInt (σ1.1 128 n3)) = 0 → (Q 0 σ1))))))
theorem sF_M_isHere {E : xV} {σ : zS} {K : zKt} {a1 : Int32} {Q : Int32 → zS → Prop} (h : W_M_isHere a1 σ Q) (k : ∀ v s, Q v s → K (some (.int v)) s) : Cz E Y_M_isHere [.ref 110, .int a1] σ K := by
  refine z_entry (by decide) (fun a => by rw [sl_len]; exact Nat.le_of_ble_eq_true rfl) rfl ?_
  unfold W_M_isHere at h
  refine z_aload_n (f := 0) (i := 0) (q := 0) (pc' := 1) ⟨by decide +kernel, rfl⟩ rfl rfl ?_
  refine z_iload_n (f := 1) (i := 1) (q := 1) (pc' := 2) ⟨by decide +kernel, rfl⟩ rfl rfl ?_
  refine w_invV (Z := Y_M_isThing) (idx := 458) (kb := 110) (As := [.int a1]) (rest := []) (pc' := 5) cl_13_458 rfl ⟨rfl, rfl⟩ ykfa_110_0 rfl ⟨⟨by decide, by decide⟩, rfl, rfl⟩ ⟨by decide +kernel, rfl⟩ rfl rfl (Nat.le_of_ble_eq_true rfl) rfl rfl ?_
  refine sF_M_isThing h (fun v1 σ1 h => ?_)
  show Wz E Y_M_isHere 5 [(0, .ref 110), (1, .int a1)] [.int v1] σ1 K
  refine z_if_eq (off := 16) (tgt := 21) (pc' := 8) ⟨by decide +kernel, by decide, rfl⟩ (fun h2 => ?_) (fun h2 => ?_)
  · have h := h.1 (qi_eq_t rfl (by decide) h2)
    refine z_iconst (i := 0) (v := 0) (pc' := 22) ⟨by decide +kernel, rfl⟩ (by decide) ?_
    exact z_iret (ty := .boolean) rfl (by rfl) (by decide +kernel) (k _ _ h)
  · have h := h.2 (qi_eq_f rfl (by decide) h2)
    refine z_aload_n (f := 0) (i := 0) (q := 0) (pc' := 9) ⟨by decide +kernel, rfl⟩ rfl rfl ?_
    refine w_getr (k := 110) (j := 24) (idx := 67) (pc' := 12) yfxe_13_67 ykfa_110_24 ⟨by decide +kernel, rfl⟩ ?_
    refine z_iload_n (f := 1) (i := 1) (q := 1) (pc' := 13) ⟨by decide +kernel, rfl⟩ rfl rfl ?_
    obtain ⟨n3, hi3, hz3, h⟩ := h
    refine w_zald (k := 128) (n := n3) (pc' := 14) ykaa_128 (hi3) (hz3) ⟨by decide +kernel, rfl⟩ ?_
    refine z_if_ne (off := 7) (tgt := 21) (pc' := 17) ⟨by decide +kernel, by decide, rfl⟩ (fun h4 => ?_) (fun h4 => ?_)
    · have h := h.2 (qi_ne_t rfl (by decide) h4)
      refine z_iconst (i := 0) (v := 0) (pc' := 22) ⟨by decide +kernel, rfl⟩ (by decide) ?_
      exact z_iret (ty := .boolean) rfl (by rfl) (by decide +kernel) (k _ _ h)
    · have h := h.1 (qi_ne_f rfl (by decide) h4)
      refine z_iconst (i := 1) (v := 1) (pc' := 18) ⟨by decide +kernel, rfl⟩ (by decide) ?_
      refine z_goto (off := 4) (tgt := 22) (pc' := 21) ⟨by decide +kernel, by decide, rfl⟩ ?_
      exact z_iret (ty := .boolean) rfl (by rfl) (by decide +kernel) (k _ _ h)
noncomputable def W_M_isRuleThing_b55 (x1 : Int32) (y0 : Int32) (y1 : Int32) (σ : zS) (Q : Int32 → zS → Prop) : Prop := ∃ n1 : Nat, Int32.toInt y1 = (n1 : Int) ∧ n1 < 240 ∧ (∀ σ2 : zS, zI σ 136 n1 y0 = σ2 → (∃ n3 : Nat, Int32.toInt x1 = (n3 : Int) ∧ n3 < 240 ∧ ((0 ≤ (Int32.toInt (σ2.1 136 n3)) → (W_M_token  σ2 (fun _ σ5 => ((Int32.toInt (σ5.1 136 n3)) = 1 → (W_M_isSign 47 σ5 (fun v7 σ7 => ((Int32.toInt v7) = 0 → (Q 1 σ7)) ∧ (¬ (Int32.toInt v7) = 0 → (∀ σ9 : zS, zI σ7 136 n3 2 = σ9 → (W_M_token  σ9 (fun _ σ10 => Q 1 σ10))))))) ∧ (¬ (Int32.toInt (σ5.1 136 n3)) = 1 → (Q 1 σ5))))) ∧ (¬ 0 ≤ (Int32.toInt (σ2.1 136 n3)) → (W_M_fails  σ2 (fun v11 σ11 => (v11 = 0 ∨ v11 = 1) ∧ (Q v11 σ11)))))))
theorem sb_M_isRuleThing_55 {E : xV} {σ : zS} {K : zKt} {x1 : Int32} {y0 : Int32} {y1 : Int32} {Q : Int32 → zS → Prop} (k : ∀ v s, Q v s → K (some (.int v)) s) (h : W_M_isRuleThing_b55 x1 y0 y1 σ Q) : Wz E Y_M_isRuleThing 55 [(0, .ref 110), (1, .int x1)] [.int y0, .int y1, .ref 136] σ K := by
  unfold W_M_isRuleThing_b55 at h
  obtain ⟨n1, hi1, hz1, h⟩ := h
  refine w_iast (k := 136) (n := n1) (pc' := 56) ykaa_136 (hi1) (hz1) ⟨by decide +kernel, rfl⟩ ?_
  generalize hs2 : zI σ 136 n1 y0 = σ2
  have h := h σ2 hs2
  refine z_aload_n (f := 0) (i := 0) (q := 0) (pc' := 57) ⟨by decide +kernel, rfl⟩ rfl rfl ?_
  refine w_getr (k := 110) (j := 39) (idx := 91) (pc' := 60) yfxe_13_91 ykfa_110_39 ⟨by decide +kernel, rfl⟩ ?_
  refine z_iload_n (f := 1) (i := 1) (q := 1) (pc' := 61) ⟨by decide +kernel, rfl⟩ rfl rfl ?_
  obtain ⟨n3, hi3, hz3, h⟩ := h
  refine w_iald (k := 136) (n := n3) (pc' := 62) ykaa_136 (hi3) (hz3) ⟨by decide +kernel, rfl⟩ ?_
  refine z_if_ge (off := 8) (tgt := 70) (pc' := 65) ⟨by decide +kernel, by decide, rfl⟩ (fun h4 => ?_) (fun h4 => ?_)
  · have h := h.1 (qi_ge_t rfl (by decide) h4)
    refine z_aload_n (f := 0) (i := 0) (q := 0) (pc' := 71) ⟨by decide +kernel, rfl⟩ rfl rfl ?_
    refine w_invV (Z := Y_M_token) (idx := 566) (kb := 110) (As := []) (rest := []) (pc' := 74) cl_13_566 rfl ⟨rfl, rfl⟩ ykfa_110_0 rfl ⟨⟨by decide, by decide⟩, rfl, rfl⟩ ⟨by decide +kernel, rfl⟩ rfl rfl (Nat.le_of_ble_eq_true rfl) rfl rfl ?_
    refine sF_M_token h (fun _ σ5 h => ?_)
    show Wz E Y_M_isRuleThing 74 [(0, .ref 110), (1, .int x1)] [] σ5 K
    refine z_aload_n (f := 0) (i := 0) (q := 0) (pc' := 75) ⟨by decide +kernel, rfl⟩ rfl rfl ?_
    refine w_getr (k := 110) (j := 39) (idx := 91) (pc' := 78) yfxe_13_91 ykfa_110_39 ⟨by decide +kernel, rfl⟩ ?_
    refine z_iload_n (f := 1) (i := 1) (q := 1) (pc' := 79) ⟨by decide +kernel, rfl⟩ rfl rfl ?_
    refine w_iald (k := 136) (n := n3) (pc' := 80) ykaa_136 (hi3) (hz3) ⟨by decide +kernel, rfl⟩ ?_
    refine z_iconst (i := 1) (v := 1) (pc' := 81) ⟨by decide +kernel, rfl⟩ (by decide) ?_
    refine z_icmp_ne (off := 23) (tgt := 104) (pc' := 84) ⟨by decide +kernel, by decide, rfl⟩ (fun h6 => ?_) (fun h6 => ?_)
    · have h := h.2 (qi_ne_t rfl (by decide) h6)
      refine z_iconst (i := 1) (v := 1) (pc' := 105) ⟨by decide +kernel, rfl⟩ (by decide) ?_
      exact z_iret (ty := .boolean) rfl (by rfl) (by decide +kernel) (k _ _ h)
    · have h := h.1 (qi_ne_f rfl (by decide) h6)
      refine z_aload_n (f := 0) (i := 0) (q := 0) (pc' := 85) ⟨by decide +kernel, rfl⟩ rfl rfl ?_
      refine z_bipush (i := 47) (v := 47) (pc' := 87) ⟨by decide +kernel, rfl⟩ (by decide) ?_
      refine w_invV (Z := Y_M_isSign) (idx := 569) (kb := 110) (As := [.int 47]) (rest := []) (pc' := 90) cl_13_569 rfl ⟨rfl, rfl⟩ ykfa_110_0 rfl ⟨⟨by decide, by decide⟩, rfl, rfl⟩ ⟨by decide +kernel, rfl⟩ rfl rfl (Nat.le_of_ble_eq_true rfl) rfl rfl ?_
      refine sF_M_isSign h (fun v7 σ7 h => ?_)
      show Wz E Y_M_isRuleThing 90 [(0, .ref 110), (1, .int x1)] [.int v7] σ7 K
      refine z_if_eq (off := 14) (tgt := 104) (pc' := 93) ⟨by decide +kernel, by decide, rfl⟩ (fun h8 => ?_) (fun h8 => ?_)
      · have h := h.1 (qi_eq_t rfl (by decide) h8)
        refine z_iconst (i := 1) (v := 1) (pc' := 105) ⟨by decide +kernel, rfl⟩ (by decide) ?_
        exact z_iret (ty := .boolean) rfl (by rfl) (by decide +kernel) (k _ _ h)
      · have h := h.2 (qi_eq_f rfl (by decide) h8)
        refine z_aload_n (f := 0) (i := 0) (q := 0) (pc' := 94) ⟨by decide +kernel, rfl⟩ rfl rfl ?_
        refine w_getr (k := 110) (j := 39) (idx := 91) (pc' := 97) yfxe_13_91 ykfa_110_39 ⟨by decide +kernel, rfl⟩ ?_
        refine z_iload_n (f := 1) (i := 1) (q := 1) (pc' := 98) ⟨by decide +kernel, rfl⟩ rfl rfl ?_
        refine z_iconst (i := 2) (v := 2) (pc' := 99) ⟨by decide +kernel, rfl⟩ (by decide) ?_
        refine w_iast (k := 136) (n := n3) (pc' := 100) ykaa_136 (hi3) (hz3) ⟨by decide +kernel, rfl⟩ ?_
        generalize hs9 : zI σ7 136 n3 2 = σ9
        have h := h σ9 hs9
        refine z_aload_n (f := 0) (i := 0) (q := 0) (pc' := 101) ⟨by decide +kernel, rfl⟩ rfl rfl ?_
        refine w_invV (Z := Y_M_token) (idx := 566) (kb := 110) (As := []) (rest := []) (pc' := 104) cl_13_566 rfl ⟨rfl, rfl⟩ ykfa_110_0 rfl ⟨⟨by decide, by decide⟩, rfl, rfl⟩ ⟨by decide +kernel, rfl⟩ rfl rfl (Nat.le_of_ble_eq_true rfl) rfl rfl ?_
        refine sF_M_token h (fun _ σ10 h => ?_)
        show Wz E Y_M_isRuleThing 104 [(0, .ref 110), (1, .int x1)] [] σ10 K
        refine z_iconst (i := 1) (v := 1) (pc' := 105) ⟨by decide +kernel, rfl⟩ (by decide) ?_
        exact z_iret (ty := .boolean) rfl (by rfl) (by decide +kernel) (k _ _ h)
  · have h := h.2 (qi_ge_f rfl (by decide) h4)
    refine z_aload_n (f := 0) (i := 0) (q := 0) (pc' := 66) ⟨by decide +kernel, rfl⟩ rfl rfl ?_
    refine w_invV (Z := Y_M_fails) (idx := 625) (kb := 110) (As := []) (rest := []) (pc' := 69) cl_13_625 rfl ⟨rfl, rfl⟩ ykfa_110_0 rfl ⟨⟨by decide, by decide⟩, rfl, rfl⟩ ⟨by decide +kernel, rfl⟩ rfl rfl (Nat.le_of_ble_eq_true rfl) rfl rfl ?_
    refine sF_M_fails h (fun v11 σ11 h => ?_)
    show Wz E Y_M_isRuleThing 69 [(0, .ref 110), (1, .int x1)] [.int v11] σ11 K
    obtain ⟨hg12, h⟩ := h
    exact z_iret (ty := .boolean) rfl (j_bool hg12).1 (by decide +kernel) (k _ _ h)
noncomputable def W_M_isRuleThing (a1 : Int32) (σ : zS) (Q : Int32 → zS → Prop) : Prop := W_M_numbered 116 σ (fun v1 σ1 => ∃ n2 : Nat, Int32.toInt a1 = (n2 : Int) ∧ n2 < 240 ∧ (∀ σ3 : zS, zI σ1 137 n2 v1 = σ3 → (W_M_isWord 97 110 121 0 0 σ3 (fun v4 σ4 => ((Int32.toInt v4) = 0 → (((Int32.toInt v1) < 0 → (W_M_isRuleThing_b55  a1 (-1) a1 σ4 Q)) ∧ (¬ (Int32.toInt v1) < 0 → (W_M_isHere v1 σ4 (fun v7 σ7 => ((Int32.toInt v7) = 0 → (W_M_isRuleThing_b55  a1 (-1) a1 σ7 Q)) ∧ (¬ (Int32.toInt v7) = 0 → (W_M_isRuleThing_b55  a1 1 a1 σ7 Q))))))) ∧ (¬ (Int32.toInt v4) = 0 → (W_M_isRuleThing_b55  a1 0 a1 σ4 Q))))))
theorem sF_M_isRuleThing {E : xV} {σ : zS} {K : zKt} {a1 : Int32} {Q : Int32 → zS → Prop} (h : W_M_isRuleThing a1 σ Q) (k : ∀ v s, Q v s → K (some (.int v)) s) : Cz E Y_M_isRuleThing [.ref 110, .int a1] σ K := by
  refine z_entry (by decide) (fun a => by rw [sl_len]; exact Nat.le_of_ble_eq_true rfl) rfl ?_
  unfold W_M_isRuleThing at h
  refine z_aload_n (f := 0) (i := 0) (q := 0) (pc' := 1) ⟨by decide +kernel, rfl⟩ rfl rfl ?_
  refine z_bipush (i := 116) (v := 116) (pc' := 3) ⟨by decide +kernel, rfl⟩ (by decide) ?_
  refine w_invV (Z := Y_M_numbered) (idx := 628) (kb := 110) (As := [.int 116]) (rest := []) (pc' := 6) cl_13_628 rfl ⟨rfl, rfl⟩ ykfa_110_0 rfl ⟨⟨by decide, by decide⟩, rfl, rfl⟩ ⟨by decide +kernel, rfl⟩ rfl rfl (Nat.le_of_ble_eq_true rfl) rfl rfl ?_
  refine sF_M_numbered h (fun v1 σ1 h => ?_)
  show Wz E Y_M_isRuleThing 6 [(0, .ref 110), (1, .int a1)] [.int v1] σ1 K
  refine z_istore_n (f := 2) (i := 2) (pc' := 7) ⟨by decide +kernel, rfl⟩ rfl (by decide) rfl ?_
  show Wz E Y_M_isRuleThing 7 [(2, .int v1), (0, .ref 110), (1, .int a1)] [] σ1 K
  refine z_aload_n (f := 0) (i := 0) (q := 1) (pc' := 8) ⟨by decide +kernel, rfl⟩ rfl rfl ?_
  refine w_getr (k := 110) (j := 40) (idx := 94) (pc' := 11) yfxe_13_94 ykfa_110_40 ⟨by decide +kernel, rfl⟩ ?_
  refine z_iload_n (f := 1) (i := 1) (q := 2) (pc' := 12) ⟨by decide +kernel, rfl⟩ rfl rfl ?_
  refine z_iload_n (f := 2) (i := 2) (q := 0) (pc' := 13) ⟨by decide +kernel, rfl⟩ rfl rfl ?_
  obtain ⟨n2, hi2, hz2, h⟩ := h
  refine w_iast (k := 137) (n := n2) (pc' := 14) ykaa_137 (hi2) (hz2) ⟨by decide +kernel, rfl⟩ ?_
  generalize hs3 : zI σ1 137 n2 v1 = σ3
  have h := h σ3 hs3
  refine z_aload_n (f := 0) (i := 0) (q := 1) (pc' := 15) ⟨by decide +kernel, rfl⟩ rfl rfl ?_
  refine w_getr (k := 110) (j := 39) (idx := 91) (pc' := 18) yfxe_13_91 ykfa_110_39 ⟨by decide +kernel, rfl⟩ ?_
  refine z_iload_n (f := 1) (i := 1) (q := 2) (pc' := 19) ⟨by decide +kernel, rfl⟩ rfl rfl ?_
  refine z_aload_n (f := 0) (i := 0) (q := 1) (pc' := 20) ⟨by decide +kernel, rfl⟩ rfl rfl ?_
  refine z_bipush (i := 97) (v := 97) (pc' := 22) ⟨by decide +kernel, rfl⟩ (by decide) ?_
  refine z_bipush (i := 110) (v := 110) (pc' := 24) ⟨by decide +kernel, rfl⟩ (by decide) ?_
  refine z_bipush (i := 121) (v := 121) (pc' := 26) ⟨by decide +kernel, rfl⟩ (by decide) ?_
  refine z_iconst (i := 0) (v := 0) (pc' := 27) ⟨by decide +kernel, rfl⟩ (by decide) ?_
  refine z_iconst (i := 0) (v := 0) (pc' := 28) ⟨by decide +kernel, rfl⟩ (by decide) ?_
  refine w_invV (Z := Y_M_isWord) (idx := 562) (kb := 110) (As := [.int 97, .int 110, .int 121, .int 0, .int 0]) (rest := [.int a1, .ref 136]) (pc' := 31) cl_13_562 rfl ⟨rfl, rfl⟩ ykfa_110_0 rfl ⟨⟨by decide, by decide⟩, rfl, rfl⟩ ⟨by decide +kernel, rfl⟩ rfl rfl (Nat.le_of_ble_eq_true rfl) rfl rfl ?_
  refine sF_M_isWord h (fun v4 σ4 h => ?_)
  show Wz E Y_M_isRuleThing 31 [(2, .int v1), (0, .ref 110), (1, .int a1)] [.int v4, .int a1, .ref 136] σ4 K
  refine z_if_eq (off := 7) (tgt := 38) (pc' := 34) ⟨by decide +kernel, by decide, rfl⟩ (fun h5 => ?_) (fun h5 => ?_)
  · have h := h.1 (qi_eq_t rfl (by decide) h5)
    refine z_iload_n (f := 2) (i := 2) (q := 0) (pc' := 39) ⟨by decide +kernel, rfl⟩ rfl rfl ?_
    refine z_if_lt (off := 15) (tgt := 54) (pc' := 42) ⟨by decide +kernel, by decide, rfl⟩ (fun h6 => ?_) (fun h6 => ?_)
    · have h := h.1 (qi_lt_t rfl (by decide) h6)
      refine z_iconst (i := (-1)) (v := (-1)) (pc' := 55) ⟨by decide +kernel, rfl⟩ (by decide) ?_
      refine z_sub [1, 2] rfl ?_
      exact sb_M_isRuleThing_55  k h
    · have h := h.2 (qi_lt_f rfl (by decide) h6)
      refine z_aload_n (f := 0) (i := 0) (q := 1) (pc' := 43) ⟨by decide +kernel, rfl⟩ rfl rfl ?_
      refine z_iload_n (f := 2) (i := 2) (q := 0) (pc' := 44) ⟨by decide +kernel, rfl⟩ rfl rfl ?_
      refine w_invV (Z := Y_M_isHere) (idx := 479) (kb := 110) (As := [.int v1]) (rest := [.int a1, .ref 136]) (pc' := 47) cl_13_479 rfl ⟨rfl, rfl⟩ ykfa_110_0 rfl ⟨⟨by decide, by decide⟩, rfl, rfl⟩ ⟨by decide +kernel, rfl⟩ rfl rfl (Nat.le_of_ble_eq_true rfl) rfl rfl ?_
      refine sF_M_isHere h (fun v7 σ7 h => ?_)
      show Wz E Y_M_isRuleThing 47 [(2, .int v1), (0, .ref 110), (1, .int a1)] [.int v7, .int a1, .ref 136] σ7 K
      refine z_if_eq (off := 7) (tgt := 54) (pc' := 50) ⟨by decide +kernel, by decide, rfl⟩ (fun h8 => ?_) (fun h8 => ?_)
      · have h := h.1 (qi_eq_t rfl (by decide) h8)
        refine z_iconst (i := (-1)) (v := (-1)) (pc' := 55) ⟨by decide +kernel, rfl⟩ (by decide) ?_
        refine z_sub [1, 2] rfl ?_
        exact sb_M_isRuleThing_55  k h
      · have h := h.2 (qi_eq_f rfl (by decide) h8)
        refine z_iconst (i := 1) (v := 1) (pc' := 51) ⟨by decide +kernel, rfl⟩ (by decide) ?_
        refine z_goto (off := 4) (tgt := 55) (pc' := 54) ⟨by decide +kernel, by decide, rfl⟩ ?_
        refine z_sub [1, 2] rfl ?_
        exact sb_M_isRuleThing_55  k h
  · have h := h.2 (qi_eq_f rfl (by decide) h5)
    refine z_iconst (i := 0) (v := 0) (pc' := 35) ⟨by decide +kernel, rfl⟩ (by decide) ?_
    refine z_goto (off := 20) (tgt := 55) (pc' := 38) ⟨by decide +kernel, by decide, rfl⟩ ?_
    refine z_sub [1, 2] rfl ?_
    exact sb_M_isRuleThing_55  k h
noncomputable def W_M_isRule_b93 (x1 : Int32) (σ : zS) (Q : Int32 → zS → Prop) : Prop := ∃ n1 : Nat, Int32.toInt x1 = (n1 : Int) ∧ n1 < 240 ∧ (∀ σ2 : zS, zI σ 140 n1 (σ.1 110 46) = σ2 → (∀ σ3 : zS, zI σ2 138 n1 0 = σ3 → (W_M_isWord 109 117 115 116 0 σ3 (fun v4 σ4 => ((Int32.toInt v4) = 0 → (Q 1 σ4)) ∧ (¬ (Int32.toInt v4) = 0 → (W_M_token  σ4 (fun _ σ6 => ((Int32.toInt (σ6.1 110 28)) = 2 → ((1 ≤ (Int64.toInt (σ6.2 110 31)) → ((-2147483648 ≤ (Int64.toInt (σ6.2 110 31)) ∧ (Int64.toInt (σ6.2 110 31)) ≤ 2147483647) ∧ ∀ r11 : Int32, r11.toInt = (Int64.toInt (σ6.2 110 31)) → (∀ σ12 : zS, zI σ6 138 n1 r11 = σ12 → (W_M_token  σ12 (fun _ σ13 => Q 1 σ13))))) ∧ (¬ 1 ≤ (Int64.toInt (σ6.2 110 31)) → (W_M_fails  σ6 (fun v14 σ14 => (v14 = 0 ∨ v14 = 1) ∧ (Q v14 σ14)))))) ∧ (¬ (Int32.toInt (σ6.1 110 28)) = 2 → (W_M_fails  σ6 (fun v8 σ8 => (v8 = 0 ∨ v8 = 1) ∧ (Q v8 σ8)))))))))))
theorem sb_M_isRule_93 {E : xV} {σ : zS} {K : zKt} {x1 : Int32} {Q : Int32 → zS → Prop} (k : ∀ v s, Q v s → K (some (.int v)) s) (h : W_M_isRule_b93 x1 σ Q) : Wz E Y_M_isRule 93 [(0, .ref 110), (1, .int x1)] [] σ K := by
  unfold W_M_isRule_b93 at h
  refine z_aload_n (f := 0) (i := 0) (q := 0) (pc' := 94) ⟨by decide +kernel, rfl⟩ rfl rfl ?_
  refine w_getr (k := 110) (j := 43) (idx := 103) (pc' := 97) yfxe_13_103 ykfa_110_43 ⟨by decide +kernel, rfl⟩ ?_
  refine z_iload_n (f := 1) (i := 1) (q := 1) (pc' := 98) ⟨by decide +kernel, rfl⟩ rfl rfl ?_
  refine z_aload_n (f := 0) (i := 0) (q := 0) (pc' := 99) ⟨by decide +kernel, rfl⟩ rfl rfl ?_
  refine w_geti (k := 110) (j := 46) (idx := 543) (pc' := 102) yfxe_13_543 ykfa_110_46 ⟨by decide +kernel, rfl⟩ ?_
  obtain ⟨n1, hi1, hz1, h⟩ := h
  refine w_iast (k := 140) (n := n1) (pc' := 103) ykaa_140 (hi1) (hz1) ⟨by decide +kernel, rfl⟩ ?_
  generalize hs2 : zI σ 140 n1 (σ.1 110 46) = σ2
  have h := h σ2 hs2
  refine z_aload_n (f := 0) (i := 0) (q := 0) (pc' := 104) ⟨by decide +kernel, rfl⟩ rfl rfl ?_
  refine w_getr (k := 110) (j := 41) (idx := 97) (pc' := 107) yfxe_13_97 ykfa_110_41 ⟨by decide +kernel, rfl⟩ ?_
  refine z_iload_n (f := 1) (i := 1) (q := 1) (pc' := 108) ⟨by decide +kernel, rfl⟩ rfl rfl ?_
  refine z_iconst (i := 0) (v := 0) (pc' := 109) ⟨by decide +kernel, rfl⟩ (by decide) ?_
  refine w_iast (k := 138) (n := n1) (pc' := 110) ykaa_138 (hi1) (hz1) ⟨by decide +kernel, rfl⟩ ?_
  generalize hs3 : zI σ2 138 n1 0 = σ3
  have h := h σ3 hs3
  refine z_aload_n (f := 0) (i := 0) (q := 0) (pc' := 111) ⟨by decide +kernel, rfl⟩ rfl rfl ?_
  refine z_bipush (i := 109) (v := 109) (pc' := 113) ⟨by decide +kernel, rfl⟩ (by decide) ?_
  refine z_bipush (i := 117) (v := 117) (pc' := 115) ⟨by decide +kernel, rfl⟩ (by decide) ?_
  refine z_bipush (i := 115) (v := 115) (pc' := 117) ⟨by decide +kernel, rfl⟩ (by decide) ?_
  refine z_bipush (i := 116) (v := 116) (pc' := 119) ⟨by decide +kernel, rfl⟩ (by decide) ?_
  refine z_iconst (i := 0) (v := 0) (pc' := 120) ⟨by decide +kernel, rfl⟩ (by decide) ?_
  refine w_invV (Z := Y_M_isWord) (idx := 562) (kb := 110) (As := [.int 109, .int 117, .int 115, .int 116, .int 0]) (rest := []) (pc' := 123) cl_13_562 rfl ⟨rfl, rfl⟩ ykfa_110_0 rfl ⟨⟨by decide, by decide⟩, rfl, rfl⟩ ⟨by decide +kernel, rfl⟩ rfl rfl (Nat.le_of_ble_eq_true rfl) rfl rfl ?_
  refine sF_M_isWord h (fun v4 σ4 h => ?_)
  show Wz E Y_M_isRule 123 [(0, .ref 110), (1, .int x1)] [.int v4] σ4 K
  refine z_if_eq (off := 44) (tgt := 167) (pc' := 126) ⟨by decide +kernel, by decide, rfl⟩ (fun h5 => ?_) (fun h5 => ?_)
  · have h := h.1 (qi_eq_t rfl (by decide) h5)
    refine z_iconst (i := 1) (v := 1) (pc' := 168) ⟨by decide +kernel, rfl⟩ (by decide) ?_
    exact z_iret (ty := .boolean) rfl (by rfl) (by decide +kernel) (k _ _ h)
  · have h := h.2 (qi_eq_f rfl (by decide) h5)
    refine z_aload_n (f := 0) (i := 0) (q := 0) (pc' := 127) ⟨by decide +kernel, rfl⟩ rfl rfl ?_
    refine w_invV (Z := Y_M_token) (idx := 566) (kb := 110) (As := []) (rest := []) (pc' := 130) cl_13_566 rfl ⟨rfl, rfl⟩ ykfa_110_0 rfl ⟨⟨by decide, by decide⟩, rfl, rfl⟩ ⟨by decide +kernel, rfl⟩ rfl rfl (Nat.le_of_ble_eq_true rfl) rfl rfl ?_
    refine sF_M_token h (fun _ σ6 h => ?_)
    show Wz E Y_M_isRule 130 [(0, .ref 110), (1, .int x1)] [] σ6 K
    refine z_aload_n (f := 0) (i := 0) (q := 0) (pc' := 131) ⟨by decide +kernel, rfl⟩ rfl rfl ?_
    refine w_geti (k := 110) (j := 28) (idx := 511) (pc' := 134) yfxe_13_511 ykfa_110_28 ⟨by decide +kernel, rfl⟩ ?_
    refine z_iconst (i := 2) (v := 2) (pc' := 135) ⟨by decide +kernel, rfl⟩ (by decide) ?_
    refine z_icmp_ne (off := 12) (tgt := 147) (pc' := 138) ⟨by decide +kernel, by decide, rfl⟩ (fun h7 => ?_) (fun h7 => ?_)
    · have h := h.2 (qi_ne_t rfl (by decide) h7)
      refine z_aload_n (f := 0) (i := 0) (q := 0) (pc' := 148) ⟨by decide +kernel, rfl⟩ rfl rfl ?_
      refine w_invV (Z := Y_M_fails) (idx := 625) (kb := 110) (As := []) (rest := []) (pc' := 151) cl_13_625 rfl ⟨rfl, rfl⟩ ykfa_110_0 rfl ⟨⟨by decide, by decide⟩, rfl, rfl⟩ ⟨by decide +kernel, rfl⟩ rfl rfl (Nat.le_of_ble_eq_true rfl) rfl rfl ?_
      refine sF_M_fails h (fun v8 σ8 h => ?_)
      show Wz E Y_M_isRule 151 [(0, .ref 110), (1, .int x1)] [.int v8] σ8 K
      obtain ⟨hg9, h⟩ := h
      exact z_iret (ty := .boolean) rfl (j_bool hg9).1 (by decide +kernel) (k _ _ h)
    · have h := h.1 (qi_ne_f rfl (by decide) h7)
      refine z_aload_n (f := 0) (i := 0) (q := 0) (pc' := 139) ⟨by decide +kernel, rfl⟩ rfl rfl ?_
      refine w_getj (k := 110) (j := 31) (idx := 507) (pc' := 142) yfxe_13_507 ykfa_110_31 ⟨by decide +kernel, rfl⟩ ?_
      refine z_lconst (i := 1) (v := 1) (pc' := 143) ⟨by decide +kernel, rfl⟩ (by decide) ?_
      refine z_lcmp (pc' := 144) ⟨by decide +kernel, rfl⟩ ?_
      refine z_if_ge (off := 8) (tgt := 152) (pc' := 147) ⟨by decide +kernel, by decide, rfl⟩ (fun h10 => ?_) (fun h10 => ?_)
      · have h := h.1 (qk_ge_t rfl (by decide) h10)
        refine z_aload_n (f := 0) (i := 0) (q := 0) (pc' := 153) ⟨by decide +kernel, rfl⟩ rfl rfl ?_
        refine w_getr (k := 110) (j := 41) (idx := 97) (pc' := 156) yfxe_13_97 ykfa_110_41 ⟨by decide +kernel, rfl⟩ ?_
        refine z_iload_n (f := 1) (i := 1) (q := 1) (pc' := 157) ⟨by decide +kernel, rfl⟩ rfl rfl ?_
        refine z_aload_n (f := 0) (i := 0) (q := 0) (pc' := 158) ⟨by decide +kernel, rfl⟩ rfl rfl ?_
        refine w_getj (k := 110) (j := 31) (idx := 507) (pc' := 161) yfxe_13_507 ykfa_110_31 ⟨by decide +kernel, rfl⟩ ?_
        refine z_l2i (pc' := 162) ⟨by decide +kernel, rfl⟩ rfl ?_
        obtain ⟨hb11, h⟩ := h
        have h := h (Int64.toInt32 (σ6.2 110 31)) (li_ok hb11)
        generalize (Int64.toInt32 (σ6.2 110 31)) = r11 at h ⊢
        refine w_iast (k := 138) (n := n1) (pc' := 163) ykaa_138 (hi1) (hz1) ⟨by decide +kernel, rfl⟩ ?_
        generalize hs12 : zI σ6 138 n1 r11 = σ12
        have h := h σ12 hs12
        refine z_aload_n (f := 0) (i := 0) (q := 0) (pc' := 164) ⟨by decide +kernel, rfl⟩ rfl rfl ?_
        refine w_invV (Z := Y_M_token) (idx := 566) (kb := 110) (As := []) (rest := []) (pc' := 167) cl_13_566 rfl ⟨rfl, rfl⟩ ykfa_110_0 rfl ⟨⟨by decide, by decide⟩, rfl, rfl⟩ ⟨by decide +kernel, rfl⟩ rfl rfl (Nat.le_of_ble_eq_true rfl) rfl rfl ?_
        refine sF_M_token h (fun _ σ13 h => ?_)
        show Wz E Y_M_isRule 167 [(0, .ref 110), (1, .int x1)] [] σ13 K
        refine z_iconst (i := 1) (v := 1) (pc' := 168) ⟨by decide +kernel, rfl⟩ (by decide) ?_
        exact z_iret (ty := .boolean) rfl (by rfl) (by decide +kernel) (k _ _ h)
      · have h := h.2 (qk_ge_f rfl (by decide) h10)
        refine z_aload_n (f := 0) (i := 0) (q := 0) (pc' := 148) ⟨by decide +kernel, rfl⟩ rfl rfl ?_
        refine w_invV (Z := Y_M_fails) (idx := 625) (kb := 110) (As := []) (rest := []) (pc' := 151) cl_13_625 rfl ⟨rfl, rfl⟩ ykfa_110_0 rfl ⟨⟨by decide, by decide⟩, rfl, rfl⟩ ⟨by decide +kernel, rfl⟩ rfl rfl (Nat.le_of_ble_eq_true rfl) rfl rfl ?_
        refine sF_M_fails h (fun v14 σ14 h => ?_)
        show Wz E Y_M_isRule 151 [(0, .ref 110), (1, .int x1)] [.int v14] σ14 K
        obtain ⟨hg15, h⟩ := h
        exact z_iret (ty := .boolean) rfl (j_bool hg15).1 (by decide +kernel) (k _ _ h)

end
