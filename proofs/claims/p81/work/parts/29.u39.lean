section
noncomputable def W_M_wanted_b50  (σ : zS) (Q : Unit → zS → Prop) : Prop := ((Int32.toInt (σ.1 110 60)) = 0 → (W_M_wanted_b129   σ Q)) ∧ (¬ (Int32.toInt (σ.1 110 60)) = 0 → (W_M_isWord 107 110 111 119 110 σ (fun v2 σ2 => ((Int32.toInt v2) = 0 → (W_M_wanted_b129   σ2 Q)) ∧ (¬ (Int32.toInt v2) = 0 → (W_M_token  σ2 (fun _ σ4 => W_M_isFeature  σ4 (fun v5 σ5 => ((Int32.toInt v5) = 0 → (Q () σ5)) ∧ (¬ (Int32.toInt v5) = 0 → (∀ r7 : Int64, r7.toInt = (Int32.toInt (σ5.1 110 59)) → (W_M_emit 15 r7 σ5 (fun _ σ8 => ∃ n9 : Nat, Int32.toInt (σ8.1 110 52) = (n9 : Int) ∧ n9 < 24 ∧ (∀ σ10 : zS, zI σ8 144 n9 1 = σ10 → (∃ n11 : Nat, Int32.toInt (σ10.1 110 52) = (n11 : Int) ∧ n11 < 24 ∧ (∀ σ12 : zS, zI σ10 145 n11 2 = σ12 → (∀ σ13 : zS, zI σ12 110 61 0 = σ13 → (∀ σ14 : zS, zI σ13 110 60 0 = σ14 → (Q () σ14)))))))))))))))))
theorem sb_M_wanted_50 {E : xV} {σ : zS} {K : zKt}  {Q : Unit → zS → Prop} (k : ∀ v s, Q v s → K none s) (h : W_M_wanted_b50  σ Q) : Wz E Y_M_wanted 50 [(0, .ref 110)] [] σ K := by
  unfold W_M_wanted_b50 at h
  refine z_aload_n (f := 0) (i := 0) (q := 0) (pc' := 51) ⟨by decide +kernel, rfl⟩ rfl rfl ?_
  refine w_geti (k := 110) (j := 60) (idx := 585) (pc' := 54) yfxe_13_585 ykfa_110_60 ⟨by decide +kernel, rfl⟩ ?_
  refine z_if_eq (off := 75) (tgt := 129) (pc' := 57) ⟨by decide +kernel, by decide, rfl⟩ (fun h1 => ?_) (fun h1 => ?_)
  · have h := h.1 (qi_eq_t rfl (by decide) h1)
    refine z_sub [0] rfl ?_
    exact sb_M_wanted_129  k h
  · have h := h.2 (qi_eq_f rfl (by decide) h1)
    refine z_aload_n (f := 0) (i := 0) (q := 0) (pc' := 58) ⟨by decide +kernel, rfl⟩ rfl rfl ?_
    refine z_bipush (i := 107) (v := 107) (pc' := 60) ⟨by decide +kernel, rfl⟩ (by decide) ?_
    refine z_bipush (i := 110) (v := 110) (pc' := 62) ⟨by decide +kernel, rfl⟩ (by decide) ?_
    refine z_bipush (i := 111) (v := 111) (pc' := 64) ⟨by decide +kernel, rfl⟩ (by decide) ?_
    refine z_bipush (i := 119) (v := 119) (pc' := 66) ⟨by decide +kernel, rfl⟩ (by decide) ?_
    refine z_bipush (i := 110) (v := 110) (pc' := 68) ⟨by decide +kernel, rfl⟩ (by decide) ?_
    refine w_invV (Z := Y_M_isWord) (idx := 562) (kb := 110) (As := [.int 107, .int 110, .int 111, .int 119, .int 110]) (rest := []) (pc' := 71) cl_13_562 rfl ⟨rfl, rfl⟩ ykfa_110_0 rfl ⟨⟨by decide, by decide⟩, rfl, rfl⟩ ⟨by decide +kernel, rfl⟩ rfl rfl (Nat.le_of_ble_eq_true rfl) rfl rfl ?_
    refine sF_M_isWord h (fun v2 σ2 h => ?_)
    show Wz E Y_M_wanted 71 [(0, .ref 110)] [.int v2] σ2 K
    refine z_if_eq (off := 58) (tgt := 129) (pc' := 74) ⟨by decide +kernel, by decide, rfl⟩ (fun h3 => ?_) (fun h3 => ?_)
    · have h := h.1 (qi_eq_t rfl (by decide) h3)
      refine z_sub [0] rfl ?_
      exact sb_M_wanted_129  k h
    · have h := h.2 (qi_eq_f rfl (by decide) h3)
      refine z_aload_n (f := 0) (i := 0) (q := 0) (pc' := 75) ⟨by decide +kernel, rfl⟩ rfl rfl ?_
      refine w_invV (Z := Y_M_token) (idx := 566) (kb := 110) (As := []) (rest := []) (pc' := 78) cl_13_566 rfl ⟨rfl, rfl⟩ ykfa_110_0 rfl ⟨⟨by decide, by decide⟩, rfl, rfl⟩ ⟨by decide +kernel, rfl⟩ rfl rfl (Nat.le_of_ble_eq_true rfl) rfl rfl ?_
      refine sF_M_token h (fun _ σ4 h => ?_)
      show Wz E Y_M_wanted 78 [(0, .ref 110)] [] σ4 K
      refine z_aload_n (f := 0) (i := 0) (q := 0) (pc' := 79) ⟨by decide +kernel, rfl⟩ rfl rfl ?_
      refine w_invV (Z := Y_M_isFeature) (idx := 595) (kb := 110) (As := []) (rest := []) (pc' := 82) cl_13_595 rfl ⟨rfl, rfl⟩ ykfa_110_0 rfl ⟨⟨by decide, by decide⟩, rfl, rfl⟩ ⟨by decide +kernel, rfl⟩ rfl rfl (Nat.le_of_ble_eq_true rfl) rfl rfl ?_
      refine sF_M_isFeature h (fun v5 σ5 h => ?_)
      show Wz E Y_M_wanted 82 [(0, .ref 110)] [.int v5] σ5 K
      refine z_if_eq (off := 278) (tgt := 360) (pc' := 85) ⟨by decide +kernel, by decide, rfl⟩ (fun h6 => ?_) (fun h6 => ?_)
      · have h := h.1 (qi_eq_t rfl (by decide) h6)
        exact z_vret rfl (by decide +kernel) (k _ _ h)
      · have h := h.2 (qi_eq_f rfl (by decide) h6)
        refine z_aload_n (f := 0) (i := 0) (q := 0) (pc' := 86) ⟨by decide +kernel, rfl⟩ rfl rfl ?_
        refine z_bipush (i := 15) (v := 15) (pc' := 88) ⟨by decide +kernel, rfl⟩ (by decide) ?_
        refine z_aload_n (f := 0) (i := 0) (q := 0) (pc' := 89) ⟨by decide +kernel, rfl⟩ rfl rfl ?_
        refine w_geti (k := 110) (j := 59) (idx := 576) (pc' := 92) yfxe_13_576 ykfa_110_59 ⟨by decide +kernel, rfl⟩ ?_
        refine z_i2l (v := (Int32.toInt64 (σ5.1 110 59))) (pc' := 93) ⟨by decide +kernel, rfl⟩ rfl ?_
        have h := h (Int32.toInt64 (σ5.1 110 59)) (Int32.toInt_toInt64 _)
        generalize (Int32.toInt64 (σ5.1 110 59)) = r7 at h ⊢
        refine w_invV (Z := Y_M_emit) (idx := 552) (kb := 110) (As := [.int 15, .long r7]) (rest := []) (pc' := 96) cl_13_552 rfl ⟨rfl, rfl⟩ ykfa_110_0 rfl ⟨⟨by decide, by decide⟩, rfl, rfl⟩ ⟨by decide +kernel, rfl⟩ rfl rfl (Nat.le_of_ble_eq_true rfl) rfl rfl ?_
        refine sF_M_emit h (fun _ σ8 h => ?_)
        show Wz E Y_M_wanted 96 [(0, .ref 110)] [] σ8 K
        refine z_aload_n (f := 0) (i := 0) (q := 0) (pc' := 97) ⟨by decide +kernel, rfl⟩ rfl rfl ?_
        refine w_getr (k := 110) (j := 48) (idx := 115) (pc' := 100) yfxe_13_115 ykfa_110_48 ⟨by decide +kernel, rfl⟩ ?_
        refine z_aload_n (f := 0) (i := 0) (q := 0) (pc' := 101) ⟨by decide +kernel, rfl⟩ rfl rfl ?_
        refine w_geti (k := 110) (j := 52) (idx := 549) (pc' := 104) yfxe_13_549 ykfa_110_52 ⟨by decide +kernel, rfl⟩ ?_
        refine z_iconst (i := 1) (v := 1) (pc' := 105) ⟨by decide +kernel, rfl⟩ (by decide) ?_
        obtain ⟨n9, hi9, hz9, h⟩ := h
        refine w_zast (k := 144) (n := n9) (pc' := 106) ykaa_144 (hi9) (hz9) (by decide) ⟨by decide +kernel, rfl⟩ ?_
        generalize hs10 : zI σ8 144 n9 1 = σ10
        have h := h σ10 hs10
        refine z_aload_n (f := 0) (i := 0) (q := 0) (pc' := 107) ⟨by decide +kernel, rfl⟩ rfl rfl ?_
        refine w_getr (k := 110) (j := 49) (idx := 118) (pc' := 110) yfxe_13_118 ykfa_110_49 ⟨by decide +kernel, rfl⟩ ?_
        refine z_aload_n (f := 0) (i := 0) (q := 0) (pc' := 111) ⟨by decide +kernel, rfl⟩ rfl rfl ?_
        refine w_geti (k := 110) (j := 52) (idx := 549) (pc' := 114) yfxe_13_549 ykfa_110_52 ⟨by decide +kernel, rfl⟩ ?_
        refine z_iconst (i := 2) (v := 2) (pc' := 115) ⟨by decide +kernel, rfl⟩ (by decide) ?_
        obtain ⟨n11, hi11, hz11, h⟩ := h
        refine w_iast (k := 145) (n := n11) (pc' := 116) ykaa_145 (hi11) (hz11) ⟨by decide +kernel, rfl⟩ ?_
        generalize hs12 : zI σ10 145 n11 2 = σ12
        have h := h σ12 hs12
        refine z_aload_n (f := 0) (i := 0) (q := 0) (pc' := 117) ⟨by decide +kernel, rfl⟩ rfl rfl ?_
        refine z_iconst (i := 0) (v := 0) (pc' := 118) ⟨by decide +kernel, rfl⟩ (by decide) ?_
        refine w_putz (k := 110) (j := 61) (idx := 582) (pc' := 121) yfxz_13_582 ykfa_110_61 (by decide) ⟨by decide +kernel, rfl⟩ ?_
        generalize hs13 : zI σ12 110 61 0 = σ13
        have h := h σ13 hs13
        refine z_aload_n (f := 0) (i := 0) (q := 0) (pc' := 122) ⟨by decide +kernel, rfl⟩ rfl rfl ?_
        refine z_iconst (i := 0) (v := 0) (pc' := 123) ⟨by decide +kernel, rfl⟩ (by decide) ?_
        refine w_putz (k := 110) (j := 60) (idx := 585) (pc' := 126) yfxz_13_585 ykfa_110_60 (by decide) ⟨by decide +kernel, rfl⟩ ?_
        generalize hs14 : zI σ13 110 60 0 = σ14
        have h := h σ14 hs14
        refine z_goto (off := 234) (tgt := 360) (pc' := 129) ⟨by decide +kernel, by decide, rfl⟩ ?_
        exact z_vret rfl (by decide +kernel) (k _ _ h)
noncomputable def W_M_wanted  (σ : zS) (Q : Unit → zS → Prop) : Prop := ((Int32.toInt (σ.1 110 60)) = 0 → (W_M_wanted_b50   σ Q)) ∧ (¬ (Int32.toInt (σ.1 110 60)) = 0 → (W_M_isWord 110 111 116 0 0 σ (fun v2 σ2 => ((Int32.toInt v2) = 0 → (W_M_wanted_b50   σ2 Q)) ∧ (¬ (Int32.toInt v2) = 0 → (W_M_deeper  σ2 (fun v4 σ4 => ((Int32.toInt v4) = 0 → (Q () σ4)) ∧ (¬ (Int32.toInt v4) = 0 → (W_M_holdBack 16 3 0 σ4 (fun _ σ6 => ∃ n7 : Nat, Int32.toInt (σ6.1 110 52) = (n7 : Int) ∧ n7 < 24 ∧ (∀ σ8 : zS, zI σ6 144 n7 1 = σ8 → (Q () σ8)))))))))))
theorem sF_M_wanted {E : xV} {σ : zS} {K : zKt}  {Q : Unit → zS → Prop} (h : W_M_wanted  σ Q) (k : ∀ v s, Q v s → K none s) : Cz E Y_M_wanted [.ref 110] σ K := by
  refine z_entry (by decide) (fun a => by rw [sl_len]; exact Nat.le_of_ble_eq_true rfl) rfl ?_
  unfold W_M_wanted at h
  refine z_aload_n (f := 0) (i := 0) (q := 0) (pc' := 1) ⟨by decide +kernel, rfl⟩ rfl rfl ?_
  refine w_geti (k := 110) (j := 60) (idx := 585) (pc' := 4) yfxe_13_585 ykfa_110_60 ⟨by decide +kernel, rfl⟩ ?_
  refine z_if_eq (off := 46) (tgt := 50) (pc' := 7) ⟨by decide +kernel, by decide, rfl⟩ (fun h1 => ?_) (fun h1 => ?_)
  · have h := h.1 (qi_eq_t rfl (by decide) h1)
    refine z_sub [0] rfl ?_
    exact sb_M_wanted_50  k h
  · have h := h.2 (qi_eq_f rfl (by decide) h1)
    refine z_aload_n (f := 0) (i := 0) (q := 0) (pc' := 8) ⟨by decide +kernel, rfl⟩ rfl rfl ?_
    refine z_bipush (i := 110) (v := 110) (pc' := 10) ⟨by decide +kernel, rfl⟩ (by decide) ?_
    refine z_bipush (i := 111) (v := 111) (pc' := 12) ⟨by decide +kernel, rfl⟩ (by decide) ?_
    refine z_bipush (i := 116) (v := 116) (pc' := 14) ⟨by decide +kernel, rfl⟩ (by decide) ?_
    refine z_iconst (i := 0) (v := 0) (pc' := 15) ⟨by decide +kernel, rfl⟩ (by decide) ?_
    refine z_iconst (i := 0) (v := 0) (pc' := 16) ⟨by decide +kernel, rfl⟩ (by decide) ?_
    refine w_invV (Z := Y_M_isWord) (idx := 562) (kb := 110) (As := [.int 110, .int 111, .int 116, .int 0, .int 0]) (rest := []) (pc' := 19) cl_13_562 rfl ⟨rfl, rfl⟩ ykfa_110_0 rfl ⟨⟨by decide, by decide⟩, rfl, rfl⟩ ⟨by decide +kernel, rfl⟩ rfl rfl (Nat.le_of_ble_eq_true rfl) rfl rfl ?_
    refine sF_M_isWord h (fun v2 σ2 h => ?_)
    show Wz E Y_M_wanted 19 [(0, .ref 110)] [.int v2] σ2 K
    refine z_if_eq (off := 31) (tgt := 50) (pc' := 22) ⟨by decide +kernel, by decide, rfl⟩ (fun h3 => ?_) (fun h3 => ?_)
    · have h := h.1 (qi_eq_t rfl (by decide) h3)
      refine z_sub [0] rfl ?_
      exact sb_M_wanted_50  k h
    · have h := h.2 (qi_eq_f rfl (by decide) h3)
      refine z_aload_n (f := 0) (i := 0) (q := 0) (pc' := 23) ⟨by decide +kernel, rfl⟩ rfl rfl ?_
      refine w_invV (Z := Y_M_deeper) (idx := 588) (kb := 110) (As := []) (rest := []) (pc' := 26) cl_13_588 rfl ⟨rfl, rfl⟩ ykfa_110_0 rfl ⟨⟨by decide, by decide⟩, rfl, rfl⟩ ⟨by decide +kernel, rfl⟩ rfl rfl (Nat.le_of_ble_eq_true rfl) rfl rfl ?_
      refine sF_M_deeper h (fun v4 σ4 h => ?_)
      show Wz E Y_M_wanted 26 [(0, .ref 110)] [.int v4] σ4 K
      refine z_if_eq (off := 334) (tgt := 360) (pc' := 29) ⟨by decide +kernel, by decide, rfl⟩ (fun h5 => ?_) (fun h5 => ?_)
      · have h := h.1 (qi_eq_t rfl (by decide) h5)
        exact z_vret rfl (by decide +kernel) (k _ _ h)
      · have h := h.2 (qi_eq_f rfl (by decide) h5)
        refine z_aload_n (f := 0) (i := 0) (q := 0) (pc' := 30) ⟨by decide +kernel, rfl⟩ rfl rfl ?_
        refine z_bipush (i := 16) (v := 16) (pc' := 32) ⟨by decide +kernel, rfl⟩ (by decide) ?_
        refine z_iconst (i := 3) (v := 3) (pc' := 33) ⟨by decide +kernel, rfl⟩ (by decide) ?_
        refine z_iconst (i := 0) (v := 0) (pc' := 34) ⟨by decide +kernel, rfl⟩ (by decide) ?_
        refine w_invV (Z := Y_M_holdBack) (idx := 592) (kb := 110) (As := [.int 16, .int 3, .int 0]) (rest := []) (pc' := 37) cl_13_592 rfl ⟨rfl, rfl⟩ ykfa_110_0 rfl ⟨⟨by decide, by decide⟩, rfl, rfl⟩ ⟨by decide +kernel, rfl⟩ rfl rfl (Nat.le_of_ble_eq_true rfl) rfl rfl ?_
        refine sF_M_holdBack h (fun _ σ6 h => ?_)
        show Wz E Y_M_wanted 37 [(0, .ref 110)] [] σ6 K
        refine z_aload_n (f := 0) (i := 0) (q := 0) (pc' := 38) ⟨by decide +kernel, rfl⟩ rfl rfl ?_
        refine w_getr (k := 110) (j := 48) (idx := 115) (pc' := 41) yfxe_13_115 ykfa_110_48 ⟨by decide +kernel, rfl⟩ ?_
        refine z_aload_n (f := 0) (i := 0) (q := 0) (pc' := 42) ⟨by decide +kernel, rfl⟩ rfl rfl ?_
        refine w_geti (k := 110) (j := 52) (idx := 549) (pc' := 45) yfxe_13_549 ykfa_110_52 ⟨by decide +kernel, rfl⟩ ?_
        refine z_iconst (i := 1) (v := 1) (pc' := 46) ⟨by decide +kernel, rfl⟩ (by decide) ?_
        obtain ⟨n7, hi7, hz7, h⟩ := h
        refine w_zast (k := 144) (n := n7) (pc' := 47) ykaa_144 (hi7) (hz7) (by decide) ⟨by decide +kernel, rfl⟩ ?_
        generalize hs8 : zI σ6 144 n7 1 = σ8
        have h := h σ8 hs8
        refine z_goto (off := 313) (tgt := 360) (pc' := 50) ⟨by decide +kernel, by decide, rfl⟩ ?_
        exact z_vret rfl (by decide +kernel) (k _ _ h)
noncomputable def W_M_comparison (a0 : Int32) (σ : zS) (Q : Int32 → zS → Prop) : Prop := ((Int32.toInt a0) = 60 → (Q 0 σ)) ∧ (¬ (Int32.toInt a0) = 60 → (((Int32.toInt a0) = 300 → (Q 1 σ)) ∧ (¬ (Int32.toInt a0) = 300 → (((Int32.toInt a0) = 61 → (Q 2 σ)) ∧ (¬ (Int32.toInt a0) = 61 → (((Int32.toInt a0) = 302 → (Q 3 σ)) ∧ (¬ (Int32.toInt a0) = 302 → (((Int32.toInt a0) = 301 → (Q 4 σ)) ∧ (¬ (Int32.toInt a0) = 301 → (((Int32.toInt a0) = 62 → (Q 5 σ)) ∧ (¬ (Int32.toInt a0) = 62 → (Q (-1) σ))))))))))))
theorem sF_M_comparison {E : xV} {σ : zS} {K : zKt} {a0 : Int32} {Q : Int32 → zS → Prop} (h : W_M_comparison a0 σ Q) (k : ∀ v s, Q v s → K (some (.int v)) s) : Cz E Y_M_comparison [.int a0] σ K := by
  refine z_entry (by decide) (fun a => by rw [sl_len]; exact Nat.le_of_ble_eq_true rfl) rfl ?_
  unfold W_M_comparison at h
  refine z_iload_n (f := 0) (i := 0) (q := 0) (pc' := 1) ⟨by decide +kernel, rfl⟩ rfl rfl ?_
  refine z_bipush (i := 60) (v := 60) (pc' := 3) ⟨by decide +kernel, rfl⟩ (by decide) ?_
  refine z_icmp_ne (off := 7) (tgt := 10) (pc' := 6) ⟨by decide +kernel, by decide, rfl⟩ (fun h1 => ?_) (fun h1 => ?_)
  · have h := h.2 (qi_ne_t rfl (by decide) h1)
    refine z_iload_n (f := 0) (i := 0) (q := 0) (pc' := 11) ⟨by decide +kernel, rfl⟩ rfl rfl ?_
    refine z_sipush (i := 300) (v := 300) (pc' := 14) ⟨by decide +kernel, rfl⟩ (by decide) ?_
    refine z_icmp_ne (off := 7) (tgt := 21) (pc' := 17) ⟨by decide +kernel, by decide, rfl⟩ (fun h2 => ?_) (fun h2 => ?_)
    · have h := h.2 (qi_ne_t rfl (by decide) h2)
      refine z_iload_n (f := 0) (i := 0) (q := 0) (pc' := 22) ⟨by decide +kernel, rfl⟩ rfl rfl ?_
      refine z_bipush (i := 61) (v := 61) (pc' := 24) ⟨by decide +kernel, rfl⟩ (by decide) ?_
      refine z_icmp_ne (off := 7) (tgt := 31) (pc' := 27) ⟨by decide +kernel, by decide, rfl⟩ (fun h3 => ?_) (fun h3 => ?_)
      · have h := h.2 (qi_ne_t rfl (by decide) h3)
        refine z_iload_n (f := 0) (i := 0) (q := 0) (pc' := 32) ⟨by decide +kernel, rfl⟩ rfl rfl ?_
        refine z_sipush (i := 302) (v := 302) (pc' := 35) ⟨by decide +kernel, rfl⟩ (by decide) ?_
        refine z_icmp_ne (off := 7) (tgt := 42) (pc' := 38) ⟨by decide +kernel, by decide, rfl⟩ (fun h4 => ?_) (fun h4 => ?_)
        · have h := h.2 (qi_ne_t rfl (by decide) h4)
          refine z_iload_n (f := 0) (i := 0) (q := 0) (pc' := 43) ⟨by decide +kernel, rfl⟩ rfl rfl ?_
          refine z_sipush (i := 301) (v := 301) (pc' := 46) ⟨by decide +kernel, rfl⟩ (by decide) ?_
          refine z_icmp_ne (off := 7) (tgt := 53) (pc' := 49) ⟨by decide +kernel, by decide, rfl⟩ (fun h5 => ?_) (fun h5 => ?_)
          · have h := h.2 (qi_ne_t rfl (by decide) h5)
            refine z_iload_n (f := 0) (i := 0) (q := 0) (pc' := 54) ⟨by decide +kernel, rfl⟩ rfl rfl ?_
            refine z_bipush (i := 62) (v := 62) (pc' := 56) ⟨by decide +kernel, rfl⟩ (by decide) ?_
            refine z_icmp_ne (off := 7) (tgt := 63) (pc' := 59) ⟨by decide +kernel, by decide, rfl⟩ (fun h6 => ?_) (fun h6 => ?_)
            · have h := h.2 (qi_ne_t rfl (by decide) h6)
              refine z_iconst (i := (-1)) (v := (-1)) (pc' := 64) ⟨by decide +kernel, rfl⟩ (by decide) ?_
              exact z_iret (ty := .int) rfl (by rfl) (by decide +kernel) (k _ _ h)
            · have h := h.1 (qi_ne_f rfl (by decide) h6)
              refine z_iconst (i := 5) (v := 5) (pc' := 60) ⟨by decide +kernel, rfl⟩ (by decide) ?_
              refine z_goto (off := 4) (tgt := 64) (pc' := 63) ⟨by decide +kernel, by decide, rfl⟩ ?_
              exact z_iret (ty := .int) rfl (by rfl) (by decide +kernel) (k _ _ h)
          · have h := h.1 (qi_ne_f rfl (by decide) h5)
            refine z_iconst (i := 4) (v := 4) (pc' := 50) ⟨by decide +kernel, rfl⟩ (by decide) ?_
            refine z_goto (off := 14) (tgt := 64) (pc' := 53) ⟨by decide +kernel, by decide, rfl⟩ ?_
            exact z_iret (ty := .int) rfl (by rfl) (by decide +kernel) (k _ _ h)
        · have h := h.1 (qi_ne_f rfl (by decide) h4)
          refine z_iconst (i := 3) (v := 3) (pc' := 39) ⟨by decide +kernel, rfl⟩ (by decide) ?_
          refine z_goto (off := 25) (tgt := 64) (pc' := 42) ⟨by decide +kernel, by decide, rfl⟩ ?_
          exact z_iret (ty := .int) rfl (by rfl) (by decide +kernel) (k _ _ h)
      · have h := h.1 (qi_ne_f rfl (by decide) h3)
        refine z_iconst (i := 2) (v := 2) (pc' := 28) ⟨by decide +kernel, rfl⟩ (by decide) ?_
        refine z_goto (off := 36) (tgt := 64) (pc' := 31) ⟨by decide +kernel, by decide, rfl⟩ ?_
        exact z_iret (ty := .int) rfl (by rfl) (by decide +kernel) (k _ _ h)
    · have h := h.1 (qi_ne_f rfl (by decide) h2)
      refine z_iconst (i := 1) (v := 1) (pc' := 18) ⟨by decide +kernel, rfl⟩ (by decide) ?_
      refine z_goto (off := 46) (tgt := 64) (pc' := 21) ⟨by decide +kernel, by decide, rfl⟩ ?_
      exact z_iret (ty := .int) rfl (by rfl) (by decide +kernel) (k _ _ h)
  · have h := h.1 (qi_ne_f rfl (by decide) h1)
    refine z_iconst (i := 0) (v := 0) (pc' := 7) ⟨by decide +kernel, rfl⟩ (by decide) ?_
    refine z_goto (off := 57) (tgt := 64) (pc' := 10) ⟨by decide +kernel, by decide, rfl⟩ ?_
    exact z_iret (ty := .int) rfl (by rfl) (by decide +kernel) (k _ _ h)
noncomputable def W_M_reckoning (a0 : Int32) (σ : zS) (Q : Int32 → zS → Prop) : Prop := ((Int32.toInt a0) = 43 → (Q 8 σ)) ∧ (¬ (Int32.toInt a0) = 43 → (((Int32.toInt a0) = 45 → (Q 9 σ)) ∧ (¬ (Int32.toInt a0) = 45 → (((Int32.toInt a0) = 42 → (Q 10 σ)) ∧ (¬ (Int32.toInt a0) = 42 → (((Int32.toInt a0) = 47 → (Q 11 σ)) ∧ (¬ (Int32.toInt a0) = 47 → (((Int32.toInt a0) = 37 → (Q 12 σ)) ∧ (¬ (Int32.toInt a0) = 37 → (Q (-1) σ))))))))))
theorem sF_M_reckoning {E : xV} {σ : zS} {K : zKt} {a0 : Int32} {Q : Int32 → zS → Prop} (h : W_M_reckoning a0 σ Q) (k : ∀ v s, Q v s → K (some (.int v)) s) : Cz E Y_M_reckoning [.int a0] σ K := by
  refine z_entry (by decide) (fun a => by rw [sl_len]; exact Nat.le_of_ble_eq_true rfl) rfl ?_
  unfold W_M_reckoning at h
  refine z_iload_n (f := 0) (i := 0) (q := 0) (pc' := 1) ⟨by decide +kernel, rfl⟩ rfl rfl ?_
  refine z_bipush (i := 43) (v := 43) (pc' := 3) ⟨by decide +kernel, rfl⟩ (by decide) ?_
  refine z_icmp_ne (off := 8) (tgt := 11) (pc' := 6) ⟨by decide +kernel, by decide, rfl⟩ (fun h1 => ?_) (fun h1 => ?_)
  · have h := h.2 (qi_ne_t rfl (by decide) h1)
    refine z_iload_n (f := 0) (i := 0) (q := 0) (pc' := 12) ⟨by decide +kernel, rfl⟩ rfl rfl ?_
    refine z_bipush (i := 45) (v := 45) (pc' := 14) ⟨by decide +kernel, rfl⟩ (by decide) ?_
    refine z_icmp_ne (off := 8) (tgt := 22) (pc' := 17) ⟨by decide +kernel, by decide, rfl⟩ (fun h2 => ?_) (fun h2 => ?_)
    · have h := h.2 (qi_ne_t rfl (by decide) h2)
      refine z_iload_n (f := 0) (i := 0) (q := 0) (pc' := 23) ⟨by decide +kernel, rfl⟩ rfl rfl ?_
      refine z_bipush (i := 42) (v := 42) (pc' := 25) ⟨by decide +kernel, rfl⟩ (by decide) ?_
      refine z_icmp_ne (off := 8) (tgt := 33) (pc' := 28) ⟨by decide +kernel, by decide, rfl⟩ (fun h3 => ?_) (fun h3 => ?_)
      · have h := h.2 (qi_ne_t rfl (by decide) h3)
        refine z_iload_n (f := 0) (i := 0) (q := 0) (pc' := 34) ⟨by decide +kernel, rfl⟩ rfl rfl ?_
        refine z_bipush (i := 47) (v := 47) (pc' := 36) ⟨by decide +kernel, rfl⟩ (by decide) ?_
        refine z_icmp_ne (off := 8) (tgt := 44) (pc' := 39) ⟨by decide +kernel, by decide, rfl⟩ (fun h4 => ?_) (fun h4 => ?_)
        · have h := h.2 (qi_ne_t rfl (by decide) h4)
          refine z_iload_n (f := 0) (i := 0) (q := 0) (pc' := 45) ⟨by decide +kernel, rfl⟩ rfl rfl ?_
          refine z_bipush (i := 37) (v := 37) (pc' := 47) ⟨by decide +kernel, rfl⟩ (by decide) ?_
          refine z_icmp_ne (off := 8) (tgt := 55) (pc' := 50) ⟨by decide +kernel, by decide, rfl⟩ (fun h5 => ?_) (fun h5 => ?_)
          · have h := h.2 (qi_ne_t rfl (by decide) h5)
            refine z_iconst (i := (-1)) (v := (-1)) (pc' := 56) ⟨by decide +kernel, rfl⟩ (by decide) ?_
            exact z_iret (ty := .int) rfl (by rfl) (by decide +kernel) (k _ _ h)
          · have h := h.1 (qi_ne_f rfl (by decide) h5)
            refine z_bipush (i := 12) (v := 12) (pc' := 52) ⟨by decide +kernel, rfl⟩ (by decide) ?_
            refine z_goto (off := 4) (tgt := 56) (pc' := 55) ⟨by decide +kernel, by decide, rfl⟩ ?_
            exact z_iret (ty := .int) rfl (by rfl) (by decide +kernel) (k _ _ h)
        · have h := h.1 (qi_ne_f rfl (by decide) h4)
          refine z_bipush (i := 11) (v := 11) (pc' := 41) ⟨by decide +kernel, rfl⟩ (by decide) ?_
          refine z_goto (off := 15) (tgt := 56) (pc' := 44) ⟨by decide +kernel, by decide, rfl⟩ ?_
          exact z_iret (ty := .int) rfl (by rfl) (by decide +kernel) (k _ _ h)
      · have h := h.1 (qi_ne_f rfl (by decide) h3)
        refine z_bipush (i := 10) (v := 10) (pc' := 30) ⟨by decide +kernel, rfl⟩ (by decide) ?_
        refine z_goto (off := 26) (tgt := 56) (pc' := 33) ⟨by decide +kernel, by decide, rfl⟩ ?_
        exact z_iret (ty := .int) rfl (by rfl) (by decide +kernel) (k _ _ h)
    · have h := h.1 (qi_ne_f rfl (by decide) h2)
      refine z_bipush (i := 9) (v := 9) (pc' := 19) ⟨by decide +kernel, rfl⟩ (by decide) ?_
      refine z_goto (off := 37) (tgt := 56) (pc' := 22) ⟨by decide +kernel, by decide, rfl⟩ ?_
      exact z_iret (ty := .int) rfl (by rfl) (by decide +kernel) (k _ _ h)
  · have h := h.1 (qi_ne_f rfl (by decide) h1)
    refine z_bipush (i := 8) (v := 8) (pc' := 8) ⟨by decide +kernel, rfl⟩ (by decide) ?_
    refine z_goto (off := 48) (tgt := 56) (pc' := 11) ⟨by decide +kernel, by decide, rfl⟩ ?_
    exact z_iret (ty := .int) rfl (by rfl) (by decide +kernel) (k _ _ h)
noncomputable def W_M_closes  (σ : zS) (Q : Int32 → zS → Prop) : Prop := ∃ n1 : Nat, Int32.toInt (σ.1 110 52) = (n1 : Int) ∧ n1 < 24 ∧ (((Int32.toInt (σ.1 143 n1)) = 2 → (Q 1 σ)) ∧ (¬ (Int32.toInt (σ.1 143 n1)) = 2 → (((Int32.toInt (σ.1 143 n1)) = 1 → ((0 < (Int32.toInt (σ.1 145 n1)) → (Q 1 σ)) ∧ (¬ 0 < (Int32.toInt (σ.1 145 n1)) → (((Int32.toInt (σ.1 144 n1)) = 0 → (Q 1 σ)) ∧ (¬ (Int32.toInt (σ.1 144 n1)) = 0 → (Q 0 σ)))))) ∧ (¬ (Int32.toInt (σ.1 143 n1)) = 1 → (Q 0 σ)))))
theorem sF_M_closes {E : xV} {σ : zS} {K : zKt}  {Q : Int32 → zS → Prop} (h : W_M_closes  σ Q) (k : ∀ v s, Q v s → K (some (.int v)) s) : Cz E Y_M_closes [.ref 110] σ K := by
  refine z_entry (by decide) (fun a => by rw [sl_len]; exact Nat.le_of_ble_eq_true rfl) rfl ?_
  unfold W_M_closes at h
  refine z_aload_n (f := 0) (i := 0) (q := 0) (pc' := 1) ⟨by decide +kernel, rfl⟩ rfl rfl ?_
  refine w_getr (k := 110) (j := 47) (idx := 112) (pc' := 4) yfxe_13_112 ykfa_110_47 ⟨by decide +kernel, rfl⟩ ?_
  refine z_aload_n (f := 0) (i := 0) (q := 0) (pc' := 5) ⟨by decide +kernel, rfl⟩ rfl rfl ?_
  refine w_geti (k := 110) (j := 52) (idx := 549) (pc' := 8) yfxe_13_549 ykfa_110_52 ⟨by decide +kernel, rfl⟩ ?_
  obtain ⟨n1, hi1, hz1, h⟩ := h
  refine w_iald (k := 143) (n := n1) (pc' := 9) ykaa_143 (hi1) (hz1) ⟨by decide +kernel, rfl⟩ ?_
  refine z_iconst (i := 2) (v := 2) (pc' := 10) ⟨by decide +kernel, rfl⟩ (by decide) ?_
  refine z_icmp_eq (off := 40) (tgt := 50) (pc' := 13) ⟨by decide +kernel, by decide, rfl⟩ (fun h2 => ?_) (fun h2 => ?_)
  · have h := h.1 (qi_eq_t rfl (by decide) h2)
    refine z_iconst (i := 1) (v := 1) (pc' := 51) ⟨by decide +kernel, rfl⟩ (by decide) ?_
    refine z_goto (off := 4) (tgt := 55) (pc' := 54) ⟨by decide +kernel, by decide, rfl⟩ ?_
    exact z_iret (ty := .boolean) rfl (by rfl) (by decide +kernel) (k _ _ h)
  · have h := h.2 (qi_eq_f rfl (by decide) h2)
    refine z_aload_n (f := 0) (i := 0) (q := 0) (pc' := 14) ⟨by decide +kernel, rfl⟩ rfl rfl ?_
    refine w_getr (k := 110) (j := 47) (idx := 112) (pc' := 17) yfxe_13_112 ykfa_110_47 ⟨by decide +kernel, rfl⟩ ?_
    refine z_aload_n (f := 0) (i := 0) (q := 0) (pc' := 18) ⟨by decide +kernel, rfl⟩ rfl rfl ?_
    refine w_geti (k := 110) (j := 52) (idx := 549) (pc' := 21) yfxe_13_549 ykfa_110_52 ⟨by decide +kernel, rfl⟩ ?_
    refine w_iald (k := 143) (n := n1) (pc' := 22) ykaa_143 (hi1) (hz1) ⟨by decide +kernel, rfl⟩ ?_
    refine z_iconst (i := 1) (v := 1) (pc' := 23) ⟨by decide +kernel, rfl⟩ (by decide) ?_
    refine z_icmp_ne (off := 31) (tgt := 54) (pc' := 26) ⟨by decide +kernel, by decide, rfl⟩ (fun h3 => ?_) (fun h3 => ?_)
    · have h := h.2 (qi_ne_t rfl (by decide) h3)
      refine z_iconst (i := 0) (v := 0) (pc' := 55) ⟨by decide +kernel, rfl⟩ (by decide) ?_
      exact z_iret (ty := .boolean) rfl (by rfl) (by decide +kernel) (k _ _ h)
    · have h := h.1 (qi_ne_f rfl (by decide) h3)
      refine z_aload_n (f := 0) (i := 0) (q := 0) (pc' := 27) ⟨by decide +kernel, rfl⟩ rfl rfl ?_
      refine w_getr (k := 110) (j := 49) (idx := 118) (pc' := 30) yfxe_13_118 ykfa_110_49 ⟨by decide +kernel, rfl⟩ ?_
      refine z_aload_n (f := 0) (i := 0) (q := 0) (pc' := 31) ⟨by decide +kernel, rfl⟩ rfl rfl ?_
      refine w_geti (k := 110) (j := 52) (idx := 549) (pc' := 34) yfxe_13_549 ykfa_110_52 ⟨by decide +kernel, rfl⟩ ?_
      refine w_iald (k := 145) (n := n1) (pc' := 35) ykaa_145 (hi1) (hz1) ⟨by decide +kernel, rfl⟩ ?_
      refine z_if_gt (off := 15) (tgt := 50) (pc' := 38) ⟨by decide +kernel, by decide, rfl⟩ (fun h4 => ?_) (fun h4 => ?_)
      · have h := h.1 (qi_gt_t rfl (by decide) h4)
        refine z_iconst (i := 1) (v := 1) (pc' := 51) ⟨by decide +kernel, rfl⟩ (by decide) ?_
        refine z_goto (off := 4) (tgt := 55) (pc' := 54) ⟨by decide +kernel, by decide, rfl⟩ ?_
        exact z_iret (ty := .boolean) rfl (by rfl) (by decide +kernel) (k _ _ h)
      · have h := h.2 (qi_gt_f rfl (by decide) h4)
        refine z_aload_n (f := 0) (i := 0) (q := 0) (pc' := 39) ⟨by decide +kernel, rfl⟩ rfl rfl ?_
        refine w_getr (k := 110) (j := 48) (idx := 115) (pc' := 42) yfxe_13_115 ykfa_110_48 ⟨by decide +kernel, rfl⟩ ?_
        refine z_aload_n (f := 0) (i := 0) (q := 0) (pc' := 43) ⟨by decide +kernel, rfl⟩ rfl rfl ?_
        refine w_geti (k := 110) (j := 52) (idx := 549) (pc' := 46) yfxe_13_549 ykfa_110_52 ⟨by decide +kernel, rfl⟩ ?_
        refine w_zald (k := 144) (n := n1) (pc' := 47) ykaa_144 (hi1) (hz1) ⟨by decide +kernel, rfl⟩ ?_
        refine z_if_ne (off := 7) (tgt := 54) (pc' := 50) ⟨by decide +kernel, by decide, rfl⟩ (fun h5 => ?_) (fun h5 => ?_)
        · have h := h.2 (qi_ne_t rfl (by decide) h5)
          refine z_iconst (i := 0) (v := 0) (pc' := 55) ⟨by decide +kernel, rfl⟩ (by decide) ?_
          exact z_iret (ty := .boolean) rfl (by rfl) (by decide +kernel) (k _ _ h)
        · have h := h.1 (qi_ne_f rfl (by decide) h5)
          refine z_iconst (i := 1) (v := 1) (pc' := 51) ⟨by decide +kernel, rfl⟩ (by decide) ?_
          refine z_goto (off := 4) (tgt := 55) (pc' := 54) ⟨by decide +kernel, by decide, rfl⟩ ?_
          exact z_iret (ty := .boolean) rfl (by rfl) (by decide +kernel) (k _ _ h)
noncomputable def W_M_closed_b64 (x1 : Int32) (σ : zS) (Q : Unit → zS → Prop) : Prop := (-2147483648 ≤ (Int32.toInt (σ.1 110 52)) - 1 ∧ (Int32.toInt (σ.1 110 52)) - 1 ≤ 2147483647) ∧ ∀ r1 : Int32, r1.toInt = (Int32.toInt (σ.1 110 52)) - 1 → (∀ σ2 : zS, zI σ 110 52 r1 = σ2 → ((-2147483648 ≤ (Int32.toInt (σ2.1 110 57)) - 1 ∧ (Int32.toInt (σ2.1 110 57)) - 1 ≤ 2147483647) ∧ ∀ r3 : Int32, r3.toInt = (Int32.toInt (σ2.1 110 57)) - 1 → (∀ σ4 : zS, zI σ2 110 57 r3 = σ4 → (((Int32.toInt x1) = 0 → (W_M_valueDone  σ4 (fun _ σ6 => Q () σ6))) ∧ (¬ (Int32.toInt x1) = 0 → (∃ n7 : Nat, Int32.toInt (σ4.1 110 52) = (n7 : Int) ∧ n7 < 24 ∧ (∀ σ8 : zS, zI σ4 145 n7 2 = σ8 → (∃ n9 : Nat, Int32.toInt (σ8.1 110 52) = (n9 : Int) ∧ n9 < 24 ∧ (∀ σ10 : zS, zI σ8 144 n9 1 = σ10 → (∀ σ11 : zS, zI σ10 110 61 0 = σ11 → (∀ σ12 : zS, zI σ11 110 60 0 = σ12 → (Q () σ12))))))))))))
theorem sb_M_closed_64 {E : xV} {σ : zS} {K : zKt} {x1 : Int32} {Q : Unit → zS → Prop} (k : ∀ v s, Q v s → K none s) (h : W_M_closed_b64 x1 σ Q) : Wz E Y_M_closed 64 [(0, .ref 110), (1, .int x1)] [] σ K := by
  unfold W_M_closed_b64 at h
  refine z_aload_n (f := 0) (i := 0) (q := 0) (pc' := 65) ⟨by decide +kernel, rfl⟩ rfl rfl ?_
  refine z_dupr (pc' := 66) ⟨by decide +kernel, rfl⟩ ?_
  refine w_geti (k := 110) (j := 52) (idx := 549) (pc' := 69) yfxe_13_549 ykfa_110_52 ⟨by decide +kernel, rfl⟩ ?_
  refine z_iconst (i := 1) (v := 1) (pc' := 70) ⟨by decide +kernel, rfl⟩ (by decide) ?_
  refine z_isub (pc' := 71) ⟨by decide +kernel, rfl⟩ ?_
  obtain ⟨hb1, h⟩ := h
  have h := h ((σ.1 110 52) - 1) (is_ok rfl (by decide) hb1)
  generalize ((σ.1 110 52) - 1) = r1 at h ⊢
  refine w_puti (k := 110) (j := 52) (idx := 549) (pc' := 74) yfxi_13_549 ykfa_110_52 ⟨by decide +kernel, rfl⟩ ?_
  generalize hs2 : zI σ 110 52 r1 = σ2
  have h := h σ2 hs2
  refine z_aload_n (f := 0) (i := 0) (q := 0) (pc' := 75) ⟨by decide +kernel, rfl⟩ rfl rfl ?_
  refine z_dupr (pc' := 76) ⟨by decide +kernel, rfl⟩ ?_
  refine w_geti (k := 110) (j := 57) (idx := 556) (pc' := 79) yfxe_13_556 ykfa_110_57 ⟨by decide +kernel, rfl⟩ ?_
  refine z_iconst (i := 1) (v := 1) (pc' := 80) ⟨by decide +kernel, rfl⟩ (by decide) ?_
  refine z_isub (pc' := 81) ⟨by decide +kernel, rfl⟩ ?_
  obtain ⟨hb3, h⟩ := h
  have h := h ((σ2.1 110 57) - 1) (is_ok rfl (by decide) hb3)
  generalize ((σ2.1 110 57) - 1) = r3 at h ⊢
  refine w_puti (k := 110) (j := 57) (idx := 556) (pc' := 84) yfxi_13_556 ykfa_110_57 ⟨by decide +kernel, rfl⟩ ?_
  generalize hs4 : zI σ2 110 57 r3 = σ4
  have h := h σ4 hs4
  refine z_iload_n (f := 1) (i := 1) (q := 1) (pc' := 85) ⟨by decide +kernel, rfl⟩ rfl rfl ?_
  refine z_if_eq (off := 36) (tgt := 121) (pc' := 88) ⟨by decide +kernel, by decide, rfl⟩ (fun h5 => ?_) (fun h5 => ?_)
  · have h := h.1 (qi_eq_t rfl (by decide) h5)
    refine z_aload_n (f := 0) (i := 0) (q := 0) (pc' := 122) ⟨by decide +kernel, rfl⟩ rfl rfl ?_
    refine w_invV (Z := Y_M_valueDone) (idx := 601) (kb := 110) (As := []) (rest := []) (pc' := 125) cl_13_601 rfl ⟨rfl, rfl⟩ ykfa_110_0 rfl ⟨⟨by decide, by decide⟩, rfl, rfl⟩ ⟨by decide +kernel, rfl⟩ rfl rfl (Nat.le_of_ble_eq_true rfl) rfl rfl ?_
    refine sF_M_valueDone h (fun _ σ6 h => ?_)
    show Wz E Y_M_closed 125 [(0, .ref 110), (1, .int x1)] [] σ6 K
    exact z_vret rfl (by decide +kernel) (k _ _ h)
  · have h := h.2 (qi_eq_f rfl (by decide) h5)
    refine z_aload_n (f := 0) (i := 0) (q := 0) (pc' := 89) ⟨by decide +kernel, rfl⟩ rfl rfl ?_
    refine w_getr (k := 110) (j := 49) (idx := 118) (pc' := 92) yfxe_13_118 ykfa_110_49 ⟨by decide +kernel, rfl⟩ ?_
    refine z_aload_n (f := 0) (i := 0) (q := 0) (pc' := 93) ⟨by decide +kernel, rfl⟩ rfl rfl ?_
    refine w_geti (k := 110) (j := 52) (idx := 549) (pc' := 96) yfxe_13_549 ykfa_110_52 ⟨by decide +kernel, rfl⟩ ?_
    refine z_iconst (i := 2) (v := 2) (pc' := 97) ⟨by decide +kernel, rfl⟩ (by decide) ?_
    obtain ⟨n7, hi7, hz7, h⟩ := h
    refine w_iast (k := 145) (n := n7) (pc' := 98) ykaa_145 (hi7) (hz7) ⟨by decide +kernel, rfl⟩ ?_
    generalize hs8 : zI σ4 145 n7 2 = σ8
    have h := h σ8 hs8
    refine z_aload_n (f := 0) (i := 0) (q := 0) (pc' := 99) ⟨by decide +kernel, rfl⟩ rfl rfl ?_
    refine w_getr (k := 110) (j := 48) (idx := 115) (pc' := 102) yfxe_13_115 ykfa_110_48 ⟨by decide +kernel, rfl⟩ ?_
    refine z_aload_n (f := 0) (i := 0) (q := 0) (pc' := 103) ⟨by decide +kernel, rfl⟩ rfl rfl ?_
    refine w_geti (k := 110) (j := 52) (idx := 549) (pc' := 106) yfxe_13_549 ykfa_110_52 ⟨by decide +kernel, rfl⟩ ?_
    refine z_iconst (i := 1) (v := 1) (pc' := 107) ⟨by decide +kernel, rfl⟩ (by decide) ?_
    obtain ⟨n9, hi9, hz9, h⟩ := h
    refine w_zast (k := 144) (n := n9) (pc' := 108) ykaa_144 (hi9) (hz9) (by decide) ⟨by decide +kernel, rfl⟩ ?_
    generalize hs10 : zI σ8 144 n9 1 = σ10
    have h := h σ10 hs10
    refine z_aload_n (f := 0) (i := 0) (q := 0) (pc' := 109) ⟨by decide +kernel, rfl⟩ rfl rfl ?_
    refine z_iconst (i := 0) (v := 0) (pc' := 110) ⟨by decide +kernel, rfl⟩ (by decide) ?_
    refine w_putz (k := 110) (j := 61) (idx := 582) (pc' := 113) yfxz_13_582 ykfa_110_61 (by decide) ⟨by decide +kernel, rfl⟩ ?_
    generalize hs11 : zI σ10 110 61 0 = σ11
    have h := h σ11 hs11
    refine z_aload_n (f := 0) (i := 0) (q := 0) (pc' := 114) ⟨by decide +kernel, rfl⟩ rfl rfl ?_
    refine z_iconst (i := 0) (v := 0) (pc' := 115) ⟨by decide +kernel, rfl⟩ (by decide) ?_
    refine w_putz (k := 110) (j := 60) (idx := 585) (pc' := 118) yfxz_13_585 ykfa_110_60 (by decide) ⟨by decide +kernel, rfl⟩ ?_
    generalize hs12 : zI σ11 110 60 0 = σ12
    have h := h σ12 hs12
    refine z_goto (off := 7) (tgt := 125) (pc' := 121) ⟨by decide +kernel, by decide, rfl⟩ ?_
    exact z_vret rfl (by decide +kernel) (k _ _ h)
noncomputable def W_M_closed_b35 (y0 : Int32) (σ : zS) (Q : Unit → zS → Prop) : Prop := ∃ n1 : Nat, Int32.toInt (σ.1 110 52) = (n1 : Int) ∧ n1 < 24 ∧ (((Int32.toInt (σ.1 143 n1)) = 3 → (∀ r3 : Int64, r3.toInt = (Int32.toInt (σ.1 147 n1)) → (W_M_emit 5 r3 σ (fun _ σ4 => W_M_closed_b64  y0 σ4 Q)))) ∧ (¬ (Int32.toInt (σ.1 143 n1)) = 3 → (W_M_closed_b64  y0 σ Q)))
theorem sb_M_closed_35 {E : xV} {σ : zS} {K : zKt} {y0 : Int32} {Q : Unit → zS → Prop} (k : ∀ v s, Q v s → K none s) (h : W_M_closed_b35 y0 σ Q) : Wz E Y_M_closed 35 [(0, .ref 110)] [.int y0] σ K := by
  unfold W_M_closed_b35 at h
  refine z_istore_n (f := 1) (i := 1) (pc' := 36) ⟨by decide +kernel, rfl⟩ rfl (by decide) rfl ?_
  show Wz E Y_M_closed 36 [(1, .int y0), (0, .ref 110)] [] σ K
  refine z_aload_n (f := 0) (i := 0) (q := 1) (pc' := 37) ⟨by decide +kernel, rfl⟩ rfl rfl ?_
  refine w_getr (k := 110) (j := 47) (idx := 112) (pc' := 40) yfxe_13_112 ykfa_110_47 ⟨by decide +kernel, rfl⟩ ?_
  refine z_aload_n (f := 0) (i := 0) (q := 1) (pc' := 41) ⟨by decide +kernel, rfl⟩ rfl rfl ?_
  refine w_geti (k := 110) (j := 52) (idx := 549) (pc' := 44) yfxe_13_549 ykfa_110_52 ⟨by decide +kernel, rfl⟩ ?_
  obtain ⟨n1, hi1, hz1, h⟩ := h
  refine w_iald (k := 143) (n := n1) (pc' := 45) ykaa_143 (hi1) (hz1) ⟨by decide +kernel, rfl⟩ ?_
  refine z_iconst (i := 3) (v := 3) (pc' := 46) ⟨by decide +kernel, rfl⟩ (by decide) ?_
  refine z_icmp_ne (off := 18) (tgt := 64) (pc' := 49) ⟨by decide +kernel, by decide, rfl⟩ (fun h2 => ?_) (fun h2 => ?_)
  · have h := h.2 (qi_ne_t rfl (by decide) h2)
    refine z_sub [1, 0] rfl ?_
    exact sb_M_closed_64  k h
  · have h := h.1 (qi_ne_f rfl (by decide) h2)
    refine z_aload_n (f := 0) (i := 0) (q := 1) (pc' := 50) ⟨by decide +kernel, rfl⟩ rfl rfl ?_
    refine z_iconst (i := 5) (v := 5) (pc' := 51) ⟨by decide +kernel, rfl⟩ (by decide) ?_
    refine z_aload_n (f := 0) (i := 0) (q := 1) (pc' := 52) ⟨by decide +kernel, rfl⟩ rfl rfl ?_
    refine w_getr (k := 110) (j := 51) (idx := 124) (pc' := 55) yfxe_13_124 ykfa_110_51 ⟨by decide +kernel, rfl⟩ ?_
    refine z_aload_n (f := 0) (i := 0) (q := 1) (pc' := 56) ⟨by decide +kernel, rfl⟩ rfl rfl ?_
    refine w_geti (k := 110) (j := 52) (idx := 549) (pc' := 59) yfxe_13_549 ykfa_110_52 ⟨by decide +kernel, rfl⟩ ?_
    refine w_iald (k := 147) (n := n1) (pc' := 60) ykaa_147 (hi1) (hz1) ⟨by decide +kernel, rfl⟩ ?_
    refine z_i2l (v := (Int32.toInt64 (σ.1 147 n1))) (pc' := 61) ⟨by decide +kernel, rfl⟩ rfl ?_
    have h := h (Int32.toInt64 (σ.1 147 n1)) (Int32.toInt_toInt64 _)
    generalize (Int32.toInt64 (σ.1 147 n1)) = r3 at h ⊢
    refine w_invV (Z := Y_M_emit) (idx := 552) (kb := 110) (As := [.int 5, .long r3]) (rest := []) (pc' := 64) cl_13_552 rfl ⟨rfl, rfl⟩ ykfa_110_0 rfl ⟨⟨by decide, by decide⟩, rfl, rfl⟩ ⟨by decide +kernel, rfl⟩ rfl rfl (Nat.le_of_ble_eq_true rfl) rfl rfl ?_
    refine sF_M_emit h (fun _ σ4 h => ?_)
    show Wz E Y_M_closed 64 [(1, .int y0), (0, .ref 110)] [] σ4 K
    refine z_sub [1, 0] rfl ?_
    exact sb_M_closed_64  k h
noncomputable def W_M_closed  (σ : zS) (Q : Unit → zS → Prop) : Prop := W_M_reduce 0 σ (fun _ σ1 => ∃ n2 : Nat, Int32.toInt (σ1.1 110 52) = (n2 : Int) ∧ n2 < 24 ∧ (((Int32.toInt (σ1.1 143 n2)) = 1 → (((Int32.toInt (σ1.1 145 n2)) ≤ 0 → (W_M_closed_b35  0 σ1 Q)) ∧ (¬ (Int32.toInt (σ1.1 145 n2)) ≤ 0 → (W_M_closed_b35  1 σ1 Q)))) ∧ (¬ (Int32.toInt (σ1.1 143 n2)) = 1 → (W_M_closed_b35  0 σ1 Q))))
theorem sF_M_closed {E : xV} {σ : zS} {K : zKt}  {Q : Unit → zS → Prop} (h : W_M_closed  σ Q) (k : ∀ v s, Q v s → K none s) : Cz E Y_M_closed [.ref 110] σ K := by
  refine z_entry (by decide) (fun a => by rw [sl_len]; exact Nat.le_of_ble_eq_true rfl) rfl ?_
  unfold W_M_closed at h
  refine z_aload_n (f := 0) (i := 0) (q := 0) (pc' := 1) ⟨by decide +kernel, rfl⟩ rfl rfl ?_
  refine z_iconst (i := 0) (v := 0) (pc' := 2) ⟨by decide +kernel, rfl⟩ (by decide) ?_
  refine w_invV (Z := Y_M_reduce) (idx := 579) (kb := 110) (As := [.int 0]) (rest := []) (pc' := 5) cl_13_579 rfl ⟨rfl, rfl⟩ ykfa_110_0 rfl ⟨⟨by decide, by decide⟩, rfl, rfl⟩ ⟨by decide +kernel, rfl⟩ rfl rfl (Nat.le_of_ble_eq_true rfl) rfl rfl ?_
  refine sF_M_reduce h (fun _ σ1 h => ?_)
  show Wz E Y_M_closed 5 [(0, .ref 110)] [] σ1 K
  refine z_aload_n (f := 0) (i := 0) (q := 0) (pc' := 6) ⟨by decide +kernel, rfl⟩ rfl rfl ?_
  refine w_getr (k := 110) (j := 47) (idx := 112) (pc' := 9) yfxe_13_112 ykfa_110_47 ⟨by decide +kernel, rfl⟩ ?_
  refine z_aload_n (f := 0) (i := 0) (q := 0) (pc' := 10) ⟨by decide +kernel, rfl⟩ rfl rfl ?_
  refine w_geti (k := 110) (j := 52) (idx := 549) (pc' := 13) yfxe_13_549 ykfa_110_52 ⟨by decide +kernel, rfl⟩ ?_
  obtain ⟨n2, hi2, hz2, h⟩ := h
  refine w_iald (k := 143) (n := n2) (pc' := 14) ykaa_143 (hi2) (hz2) ⟨by decide +kernel, rfl⟩ ?_
  refine z_iconst (i := 1) (v := 1) (pc' := 15) ⟨by decide +kernel, rfl⟩ (by decide) ?_
  refine z_icmp_ne (off := 19) (tgt := 34) (pc' := 18) ⟨by decide +kernel, by decide, rfl⟩ (fun h3 => ?_) (fun h3 => ?_)
  · have h := h.2 (qi_ne_t rfl (by decide) h3)
    refine z_iconst (i := 0) (v := 0) (pc' := 35) ⟨by decide +kernel, rfl⟩ (by decide) ?_
    refine z_sub [0] rfl ?_
    exact sb_M_closed_35  k h
  · have h := h.1 (qi_ne_f rfl (by decide) h3)
    refine z_aload_n (f := 0) (i := 0) (q := 0) (pc' := 19) ⟨by decide +kernel, rfl⟩ rfl rfl ?_
    refine w_getr (k := 110) (j := 49) (idx := 118) (pc' := 22) yfxe_13_118 ykfa_110_49 ⟨by decide +kernel, rfl⟩ ?_
    refine z_aload_n (f := 0) (i := 0) (q := 0) (pc' := 23) ⟨by decide +kernel, rfl⟩ rfl rfl ?_
    refine w_geti (k := 110) (j := 52) (idx := 549) (pc' := 26) yfxe_13_549 ykfa_110_52 ⟨by decide +kernel, rfl⟩ ?_
    refine w_iald (k := 145) (n := n2) (pc' := 27) ykaa_145 (hi2) (hz2) ⟨by decide +kernel, rfl⟩ ?_
    refine z_if_le (off := 7) (tgt := 34) (pc' := 30) ⟨by decide +kernel, by decide, rfl⟩ (fun h4 => ?_) (fun h4 => ?_)
    · have h := h.1 (qi_le_t rfl (by decide) h4)
      refine z_iconst (i := 0) (v := 0) (pc' := 35) ⟨by decide +kernel, rfl⟩ (by decide) ?_
      refine z_sub [0] rfl ?_
      exact sb_M_closed_35  k h
    · have h := h.2 (qi_le_f rfl (by decide) h4)
      refine z_iconst (i := 1) (v := 1) (pc' := 31) ⟨by decide +kernel, rfl⟩ (by decide) ?_
      refine z_goto (off := 4) (tgt := 35) (pc' := 34) ⟨by decide +kernel, by decide, rfl⟩ ?_
      refine z_sub [0] rfl ?_
      exact sb_M_closed_35  k h
noncomputable def W_M_goesOn_b78 (y0 : Int32) (σ : zS) (Q : Int32 → zS → Prop) : Prop := W_M_reduce y0 σ (fun _ σ1 => W_M_reckoning (σ1.1 110 30) σ1 (fun v2 σ2 => W_M_holdBack v2 y0 0 σ2 (fun _ σ3 => ∀ σ4 : zS, zI σ3 110 61 1 = σ4 → ((0 ≤ (Int32.toInt (σ4.1 110 58)) → (Q 0 σ4)) ∧ (¬ 0 ≤ (Int32.toInt (σ4.1 110 58)) → (Q 1 σ4))))))
theorem sb_M_goesOn_78 {E : xV} {σ : zS} {K : zKt} {y0 : Int32} {Q : Int32 → zS → Prop} (k : ∀ v s, Q v s → K (some (.int v)) s) (h : W_M_goesOn_b78 y0 σ Q) : Wz E Y_M_goesOn 78 [(0, .ref 110)] [.int y0] σ K := by
  unfold W_M_goesOn_b78 at h
  refine z_istore_n (f := 3) (i := 3) (pc' := 79) ⟨by decide +kernel, rfl⟩ rfl (by decide) rfl ?_
  show Wz E Y_M_goesOn 79 [(3, .int y0), (0, .ref 110)] [] σ K
  refine z_aload_n (f := 0) (i := 0) (q := 1) (pc' := 80) ⟨by decide +kernel, rfl⟩ rfl rfl ?_
  refine z_iload_n (f := 3) (i := 3) (q := 0) (pc' := 81) ⟨by decide +kernel, rfl⟩ rfl rfl ?_
  refine w_invV (Z := Y_M_reduce) (idx := 579) (kb := 110) (As := [.int y0]) (rest := []) (pc' := 84) cl_13_579 rfl ⟨rfl, rfl⟩ ykfa_110_0 rfl ⟨⟨by decide, by decide⟩, rfl, rfl⟩ ⟨by decide +kernel, rfl⟩ rfl rfl (Nat.le_of_ble_eq_true rfl) rfl rfl ?_
  refine sF_M_reduce h (fun _ σ1 h => ?_)
  show Wz E Y_M_goesOn 84 [(3, .int y0), (0, .ref 110)] [] σ1 K
  refine z_aload_n (f := 0) (i := 0) (q := 1) (pc' := 85) ⟨by decide +kernel, rfl⟩ rfl rfl ?_
  refine z_aload_n (f := 0) (i := 0) (q := 1) (pc' := 86) ⟨by decide +kernel, rfl⟩ rfl rfl ?_
  refine w_geti (k := 110) (j := 30) (idx := 540) (pc' := 89) yfxe_13_540 ykfa_110_30 ⟨by decide +kernel, rfl⟩ ?_
  refine w_invS (Z := Y_M_reckoning) (idx := 607) (As := [.int (σ1.1 110 30)]) (rest := [.ref 110]) (pc' := 92) cl_13_607 rfl ⟨rfl, rfl⟩ ⟨⟨by decide, by decide⟩, rfl, rfl⟩ ⟨by decide +kernel, rfl⟩ rfl rfl (Nat.le_of_ble_eq_true rfl) rfl rfl ?_
  refine sF_M_reckoning h (fun v2 σ2 h => ?_)
  show Wz E Y_M_goesOn 92 [(3, .int y0), (0, .ref 110)] [.int v2, .ref 110] σ2 K
  refine z_iload_n (f := 3) (i := 3) (q := 0) (pc' := 93) ⟨by decide +kernel, rfl⟩ rfl rfl ?_
  refine z_iconst (i := 0) (v := 0) (pc' := 94) ⟨by decide +kernel, rfl⟩ (by decide) ?_
  refine w_invV (Z := Y_M_holdBack) (idx := 592) (kb := 110) (As := [.int v2, .int y0, .int 0]) (rest := []) (pc' := 97) cl_13_592 rfl ⟨rfl, rfl⟩ ykfa_110_0 rfl ⟨⟨by decide, by decide⟩, rfl, rfl⟩ ⟨by decide +kernel, rfl⟩ rfl rfl (Nat.le_of_ble_eq_true rfl) rfl rfl ?_
  refine sF_M_holdBack h (fun _ σ3 h => ?_)
  show Wz E Y_M_goesOn 97 [(3, .int y0), (0, .ref 110)] [] σ3 K
  refine z_aload_n (f := 0) (i := 0) (q := 1) (pc' := 98) ⟨by decide +kernel, rfl⟩ rfl rfl ?_
  refine z_iconst (i := 1) (v := 1) (pc' := 99) ⟨by decide +kernel, rfl⟩ (by decide) ?_
  refine w_putz (k := 110) (j := 61) (idx := 582) (pc' := 102) yfxz_13_582 ykfa_110_61 (by decide) ⟨by decide +kernel, rfl⟩ ?_
  generalize hs4 : zI σ3 110 61 1 = σ4
  have h := h σ4 hs4
  refine z_goto (off := 414) (tgt := 516) (pc' := 105) ⟨by decide +kernel, by decide, rfl⟩ ?_
  refine z_aload_n (f := 0) (i := 0) (q := 1) (pc' := 517) ⟨by decide +kernel, rfl⟩ rfl rfl ?_
  refine w_geti (k := 110) (j := 58) (idx := 559) (pc' := 520) yfxe_13_559 ykfa_110_58 ⟨by decide +kernel, rfl⟩ ?_
  refine z_if_ge (off := 7) (tgt := 527) (pc' := 523) ⟨by decide +kernel, by decide, rfl⟩ (fun h5 => ?_) (fun h5 => ?_)
  · have h := h.1 (qi_ge_t rfl (by decide) h5)
    refine z_iconst (i := 0) (v := 0) (pc' := 528) ⟨by decide +kernel, rfl⟩ (by decide) ?_
    exact z_iret (ty := .boolean) rfl (by rfl) (by decide +kernel) (k _ _ h)
  · have h := h.2 (qi_ge_f rfl (by decide) h5)
    refine z_iconst (i := 1) (v := 1) (pc' := 524) ⟨by decide +kernel, rfl⟩ (by decide) ?_
    refine z_goto (off := 4) (tgt := 528) (pc' := 527) ⟨by decide +kernel, by decide, rfl⟩ ?_
    exact z_iret (ty := .boolean) rfl (by rfl) (by decide +kernel) (k _ _ h)
noncomputable def W_M_goesOn_b366 (y0 : Int32) (y1 : Int32) (σ : zS) (Q : Int32 → zS → Prop) : Prop := W_M_holdBack y1 y0 0 σ (fun _ σ1 => ∃ n2 : Nat, Int32.toInt (σ1.1 110 52) = (n2 : Int) ∧ n2 < 24 ∧ (∀ σ3 : zS, zI σ1 145 n2 0 = σ3 → (∃ n4 : Nat, Int32.toInt (σ3.1 110 52) = (n4 : Int) ∧ n4 < 24 ∧ (∀ σ5 : zS, zI σ3 144 n4 1 = σ5 → (∀ σ6 : zS, zI σ5 110 61 1 = σ6 → (∀ σ7 : zS, zI σ6 110 60 1 = σ7 → ((0 ≤ (Int32.toInt (σ7.1 110 58)) → (Q 0 σ7)) ∧ (¬ 0 ≤ (Int32.toInt (σ7.1 110 58)) → (Q 1 σ7)))))))))
theorem sb_M_goesOn_366 {E : xV} {σ : zS} {K : zKt} {y0 : Int32} {y1 : Int32} {Q : Int32 → zS → Prop} (k : ∀ v s, Q v s → K (some (.int v)) s) (h : W_M_goesOn_b366 y0 y1 σ Q) : Wz E Y_M_goesOn 366 [(0, .ref 110)] [.int y0, .int y1, .ref 110] σ K := by
  unfold W_M_goesOn_b366 at h
  refine z_iconst (i := 0) (v := 0) (pc' := 367) ⟨by decide +kernel, rfl⟩ (by decide) ?_
  refine w_invV (Z := Y_M_holdBack) (idx := 592) (kb := 110) (As := [.int y1, .int y0, .int 0]) (rest := []) (pc' := 370) cl_13_592 rfl ⟨rfl, rfl⟩ ykfa_110_0 rfl ⟨⟨by decide, by decide⟩, rfl, rfl⟩ ⟨by decide +kernel, rfl⟩ rfl rfl (Nat.le_of_ble_eq_true rfl) rfl rfl ?_
  refine sF_M_holdBack h (fun _ σ1 h => ?_)
  show Wz E Y_M_goesOn 370 [(0, .ref 110)] [] σ1 K
  refine z_aload_n (f := 0) (i := 0) (q := 0) (pc' := 371) ⟨by decide +kernel, rfl⟩ rfl rfl ?_
  refine w_getr (k := 110) (j := 49) (idx := 118) (pc' := 374) yfxe_13_118 ykfa_110_49 ⟨by decide +kernel, rfl⟩ ?_
  refine z_aload_n (f := 0) (i := 0) (q := 0) (pc' := 375) ⟨by decide +kernel, rfl⟩ rfl rfl ?_
  refine w_geti (k := 110) (j := 52) (idx := 549) (pc' := 378) yfxe_13_549 ykfa_110_52 ⟨by decide +kernel, rfl⟩ ?_
  refine z_iconst (i := 0) (v := 0) (pc' := 379) ⟨by decide +kernel, rfl⟩ (by decide) ?_
  obtain ⟨n2, hi2, hz2, h⟩ := h
  refine w_iast (k := 145) (n := n2) (pc' := 380) ykaa_145 (hi2) (hz2) ⟨by decide +kernel, rfl⟩ ?_
  generalize hs3 : zI σ1 145 n2 0 = σ3
  have h := h σ3 hs3
  refine z_aload_n (f := 0) (i := 0) (q := 0) (pc' := 381) ⟨by decide +kernel, rfl⟩ rfl rfl ?_
  refine w_getr (k := 110) (j := 48) (idx := 115) (pc' := 384) yfxe_13_115 ykfa_110_48 ⟨by decide +kernel, rfl⟩ ?_
  refine z_aload_n (f := 0) (i := 0) (q := 0) (pc' := 385) ⟨by decide +kernel, rfl⟩ rfl rfl ?_
  refine w_geti (k := 110) (j := 52) (idx := 549) (pc' := 388) yfxe_13_549 ykfa_110_52 ⟨by decide +kernel, rfl⟩ ?_
  refine z_iconst (i := 1) (v := 1) (pc' := 389) ⟨by decide +kernel, rfl⟩ (by decide) ?_
  obtain ⟨n4, hi4, hz4, h⟩ := h
  refine w_zast (k := 144) (n := n4) (pc' := 390) ykaa_144 (hi4) (hz4) (by decide) ⟨by decide +kernel, rfl⟩ ?_
  generalize hs5 : zI σ3 144 n4 1 = σ5
  have h := h σ5 hs5
  refine z_aload_n (f := 0) (i := 0) (q := 0) (pc' := 391) ⟨by decide +kernel, rfl⟩ rfl rfl ?_
  refine z_iconst (i := 1) (v := 1) (pc' := 392) ⟨by decide +kernel, rfl⟩ (by decide) ?_
  refine w_putz (k := 110) (j := 61) (idx := 582) (pc' := 395) yfxz_13_582 ykfa_110_61 (by decide) ⟨by decide +kernel, rfl⟩ ?_
  generalize hs6 : zI σ5 110 61 1 = σ6
  have h := h σ6 hs6
  refine z_aload_n (f := 0) (i := 0) (q := 0) (pc' := 396) ⟨by decide +kernel, rfl⟩ rfl rfl ?_
  refine z_iconst (i := 1) (v := 1) (pc' := 397) ⟨by decide +kernel, rfl⟩ (by decide) ?_
  refine w_putz (k := 110) (j := 60) (idx := 585) (pc' := 400) yfxz_13_585 ykfa_110_60 (by decide) ⟨by decide +kernel, rfl⟩ ?_
  generalize hs7 : zI σ6 110 60 1 = σ7
  have h := h σ7 hs7
  refine z_goto (off := 116) (tgt := 516) (pc' := 403) ⟨by decide +kernel, by decide, rfl⟩ ?_
  refine z_aload_n (f := 0) (i := 0) (q := 0) (pc' := 517) ⟨by decide +kernel, rfl⟩ rfl rfl ?_
  refine w_geti (k := 110) (j := 58) (idx := 559) (pc' := 520) yfxe_13_559 ykfa_110_58 ⟨by decide +kernel, rfl⟩ ?_
  refine z_if_ge (off := 7) (tgt := 527) (pc' := 523) ⟨by decide +kernel, by decide, rfl⟩ (fun h8 => ?_) (fun h8 => ?_)
  · have h := h.1 (qi_ge_t rfl (by decide) h8)
    refine z_iconst (i := 0) (v := 0) (pc' := 528) ⟨by decide +kernel, rfl⟩ (by decide) ?_
    exact z_iret (ty := .boolean) rfl (by rfl) (by decide +kernel) (k _ _ h)
  · have h := h.2 (qi_ge_f rfl (by decide) h8)
    refine z_iconst (i := 1) (v := 1) (pc' := 524) ⟨by decide +kernel, rfl⟩ (by decide) ?_
    refine z_goto (off := 4) (tgt := 528) (pc' := 527) ⟨by decide +kernel, by decide, rfl⟩ ?_
    exact z_iret (ty := .boolean) rfl (by rfl) (by decide +kernel) (k _ _ h)
noncomputable def W_M_goesOn_b342 (x3 : Int32) (y0 : Int32) (σ : zS) (Q : Int32 → zS → Prop) : Prop := W_M_reduce y0 σ (fun _ σ1 => ((Int32.toInt x3) = 0 → (((Int32.toInt x3) = 0 → (W_M_goesOn_b366  1 18 σ1 Q)) ∧ (¬ (Int32.toInt x3) = 0 → (W_M_goesOn_b366  2 18 σ1 Q)))) ∧ (¬ (Int32.toInt x3) = 0 → (((Int32.toInt x3) = 0 → (W_M_goesOn_b366  1 17 σ1 Q)) ∧ (¬ (Int32.toInt x3) = 0 → (W_M_goesOn_b366  2 17 σ1 Q)))))
theorem sb_M_goesOn_342 {E : xV} {σ : zS} {K : zKt} {x3 : Int32} {y0 : Int32} {Q : Int32 → zS → Prop} (k : ∀ v s, Q v s → K (some (.int v)) s) (h : W_M_goesOn_b342 x3 y0 σ Q) : Wz E Y_M_goesOn 342 [(0, .ref 110), (3, .int x3)] [.int y0, .ref 110] σ K := by
  unfold W_M_goesOn_b342 at h
  refine w_invV (Z := Y_M_reduce) (idx := 579) (kb := 110) (As := [.int y0]) (rest := []) (pc' := 345) cl_13_579 rfl ⟨rfl, rfl⟩ ykfa_110_0 rfl ⟨⟨by decide, by decide⟩, rfl, rfl⟩ ⟨by decide +kernel, rfl⟩ rfl rfl (Nat.le_of_ble_eq_true rfl) rfl rfl ?_
  refine sF_M_reduce h (fun _ σ1 h => ?_)
  show Wz E Y_M_goesOn 345 [(0, .ref 110), (3, .int x3)] [] σ1 K
  refine z_aload_n (f := 0) (i := 0) (q := 0) (pc' := 346) ⟨by decide +kernel, rfl⟩ rfl rfl ?_
  refine z_iload_n (f := 3) (i := 3) (q := 1) (pc' := 347) ⟨by decide +kernel, rfl⟩ rfl rfl ?_
  refine z_if_eq (off := 8) (tgt := 355) (pc' := 350) ⟨by decide +kernel, by decide, rfl⟩ (fun h2 => ?_) (fun h2 => ?_)
  · have h := h.1 (qi_eq_t rfl (by decide) h2)
    refine z_bipush (i := 18) (v := 18) (pc' := 357) ⟨by decide +kernel, rfl⟩ (by decide) ?_
    refine z_iload_n (f := 3) (i := 3) (q := 1) (pc' := 358) ⟨by decide +kernel, rfl⟩ rfl rfl ?_
    refine z_if_eq (off := 7) (tgt := 365) (pc' := 361) ⟨by decide +kernel, by decide, rfl⟩ (fun h3 => ?_) (fun h3 => ?_)
    · have h := h.1 (qi_eq_t rfl (by decide) h3)
      refine z_iconst (i := 1) (v := 1) (pc' := 366) ⟨by decide +kernel, rfl⟩ (by decide) ?_
      refine z_sub [0] rfl ?_
      exact sb_M_goesOn_366  k h
    · have h := h.2 (qi_eq_f rfl (by decide) h3)
      refine z_iconst (i := 2) (v := 2) (pc' := 362) ⟨by decide +kernel, rfl⟩ (by decide) ?_
      refine z_goto (off := 4) (tgt := 366) (pc' := 365) ⟨by decide +kernel, by decide, rfl⟩ ?_
      refine z_sub [0] rfl ?_
      exact sb_M_goesOn_366  k h
  · have h := h.2 (qi_eq_f rfl (by decide) h2)
    refine z_bipush (i := 17) (v := 17) (pc' := 352) ⟨by decide +kernel, rfl⟩ (by decide) ?_
    refine z_goto (off := 5) (tgt := 357) (pc' := 355) ⟨by decide +kernel, by decide, rfl⟩ ?_
    refine z_iload_n (f := 3) (i := 3) (q := 1) (pc' := 358) ⟨by decide +kernel, rfl⟩ rfl rfl ?_
    refine z_if_eq (off := 7) (tgt := 365) (pc' := 361) ⟨by decide +kernel, by decide, rfl⟩ (fun h4 => ?_) (fun h4 => ?_)
    · have h := h.1 (qi_eq_t rfl (by decide) h4)
      refine z_iconst (i := 1) (v := 1) (pc' := 366) ⟨by decide +kernel, rfl⟩ (by decide) ?_
      refine z_sub [0] rfl ?_
      exact sb_M_goesOn_366  k h
    · have h := h.2 (qi_eq_f rfl (by decide) h4)
      refine z_iconst (i := 2) (v := 2) (pc' := 362) ⟨by decide +kernel, rfl⟩ (by decide) ?_
      refine z_goto (off := 4) (tgt := 366) (pc' := 365) ⟨by decide +kernel, by decide, rfl⟩ ?_
      refine z_sub [0] rfl ?_
      exact sb_M_goesOn_366  k h
noncomputable def W_M_goesOn_b441  (σ : zS) (Q : Int32 → zS → Prop) : Prop := W_M_closed  σ (fun _ σ1 => (0 ≤ (Int32.toInt (σ1.1 110 58)) → (Q 0 σ1)) ∧ (¬ 0 ≤ (Int32.toInt (σ1.1 110 58)) → (Q 1 σ1)))
theorem sb_M_goesOn_441 {E : xV} {σ : zS} {K : zKt}  {Q : Int32 → zS → Prop} (k : ∀ v s, Q v s → K (some (.int v)) s) (h : W_M_goesOn_b441  σ Q) : Wz E Y_M_goesOn 441 [(0, .ref 110)] [] σ K := by
  unfold W_M_goesOn_b441 at h
  refine z_aload_n (f := 0) (i := 0) (q := 0) (pc' := 442) ⟨by decide +kernel, rfl⟩ rfl rfl ?_
  refine w_invV (Z := Y_M_closed) (idx := 616) (kb := 110) (As := []) (rest := []) (pc' := 445) cl_13_616 rfl ⟨rfl, rfl⟩ ykfa_110_0 rfl ⟨⟨by decide, by decide⟩, rfl, rfl⟩ ⟨by decide +kernel, rfl⟩ rfl rfl (Nat.le_of_ble_eq_true rfl) rfl rfl ?_
  refine sF_M_closed h (fun _ σ1 h => ?_)
  show Wz E Y_M_goesOn 445 [(0, .ref 110)] [] σ1 K
  refine z_goto (off := 71) (tgt := 516) (pc' := 448) ⟨by decide +kernel, by decide, rfl⟩ ?_
  refine z_aload_n (f := 0) (i := 0) (q := 0) (pc' := 517) ⟨by decide +kernel, rfl⟩ rfl rfl ?_
  refine w_geti (k := 110) (j := 58) (idx := 559) (pc' := 520) yfxe_13_559 ykfa_110_58 ⟨by decide +kernel, rfl⟩ ?_
  refine z_if_ge (off := 7) (tgt := 527) (pc' := 523) ⟨by decide +kernel, by decide, rfl⟩ (fun h2 => ?_) (fun h2 => ?_)
  · have h := h.1 (qi_ge_t rfl (by decide) h2)
    refine z_iconst (i := 0) (v := 0) (pc' := 528) ⟨by decide +kernel, rfl⟩ (by decide) ?_
    exact z_iret (ty := .boolean) rfl (by rfl) (by decide +kernel) (k _ _ h)
  · have h := h.2 (qi_ge_f rfl (by decide) h2)
    refine z_iconst (i := 1) (v := 1) (pc' := 524) ⟨by decide +kernel, rfl⟩ (by decide) ?_
    refine z_goto (off := 4) (tgt := 528) (pc' := 527) ⟨by decide +kernel, by decide, rfl⟩ ?_
    exact z_iret (ty := .boolean) rfl (by rfl) (by decide +kernel) (k _ _ h)
noncomputable def W_M_goesOn_b501 (y0 : Int32) (σ : zS) (Q : Int32 → zS → Prop) : Prop := ((Int32.toInt y0) = 0 → (∀ σ2 : zS, zI σ 110 58 (σ.1 110 29) = σ2 → (Q 0 σ2))) ∧ (¬ (Int32.toInt y0) = 0 → (Q 0 σ))
theorem sb_M_goesOn_501 {E : xV} {σ : zS} {K : zKt} {y0 : Int32} {Q : Int32 → zS → Prop} (k : ∀ v s, Q v s → K (some (.int v)) s) (h : W_M_goesOn_b501 y0 σ Q) : Wz E Y_M_goesOn 501 [(0, .ref 110)] [.int y0] σ K := by
  unfold W_M_goesOn_b501 at h
  refine z_istore_n (f := 3) (i := 3) (pc' := 502) ⟨by decide +kernel, rfl⟩ rfl (by decide) rfl ?_
  show Wz E Y_M_goesOn 502 [(3, .int y0), (0, .ref 110)] [] σ K
  refine z_iload_n (f := 3) (i := 3) (q := 0) (pc' := 503) ⟨by decide +kernel, rfl⟩ rfl rfl ?_
  refine z_if_ne (off := 11) (tgt := 514) (pc' := 506) ⟨by decide +kernel, by decide, rfl⟩ (fun h1 => ?_) (fun h1 => ?_)
  · have h := h.2 (qi_ne_t rfl (by decide) h1)
    refine z_iconst (i := 0) (v := 0) (pc' := 515) ⟨by decide +kernel, rfl⟩ (by decide) ?_
    exact z_iret (ty := .boolean) rfl (by rfl) (by decide +kernel) (k _ _ h)
  · have h := h.1 (qi_ne_f rfl (by decide) h1)
    refine z_aload_n (f := 0) (i := 0) (q := 1) (pc' := 507) ⟨by decide +kernel, rfl⟩ rfl rfl ?_
    refine z_aload_n (f := 0) (i := 0) (q := 1) (pc' := 508) ⟨by decide +kernel, rfl⟩ rfl rfl ?_
    refine w_geti (k := 110) (j := 29) (idx := 504) (pc' := 511) yfxe_13_504 ykfa_110_29 ⟨by decide +kernel, rfl⟩ ?_
    refine w_puti (k := 110) (j := 58) (idx := 559) (pc' := 514) yfxi_13_559 ykfa_110_58 ⟨by decide +kernel, rfl⟩ ?_
    generalize hs2 : zI σ 110 58 (σ.1 110 29) = σ2
    have h := h σ2 hs2
    refine z_iconst (i := 0) (v := 0) (pc' := 515) ⟨by decide +kernel, rfl⟩ (by decide) ?_
    exact z_iret (ty := .boolean) rfl (by rfl) (by decide +kernel) (k _ _ h)
noncomputable def W_M_goesOn_b448  (σ : zS) (Q : Int32 → zS → Prop) : Prop := ((Int32.toInt (σ.1 110 52)) = 0 → (((Int32.toInt (σ.1 145 0)) ≤ 0 → (W_M_goesOn_b501  0 σ Q)) ∧ (¬ (Int32.toInt (σ.1 145 0)) ≤ 0 → (((Int32.toInt (σ.1 110 28)) = 0 → (W_M_goesOn_b501  1 σ Q)) ∧ (¬ (Int32.toInt (σ.1 110 28)) = 0 → (W_M_isSign 59 σ (fun v4 σ4 => ((Int32.toInt v4) = 0 → (W_M_isWord 109 117 115 116 0 σ4 (fun v6 σ6 => ((Int32.toInt v6) = 0 → (W_M_goesOn_b501  0 σ6 Q)) ∧ (¬ (Int32.toInt v6) = 0 → (W_M_goesOn_b501  1 σ6 Q))))) ∧ (¬ (Int32.toInt v4) = 0 → (W_M_goesOn_b501  1 σ4 Q))))))))) ∧ (¬ (Int32.toInt (σ.1 110 52)) = 0 → (W_M_goesOn_b501  0 σ Q))
theorem sb_M_goesOn_448 {E : xV} {σ : zS} {K : zKt}  {Q : Int32 → zS → Prop} (k : ∀ v s, Q v s → K (some (.int v)) s) (h : W_M_goesOn_b448  σ Q) : Wz E Y_M_goesOn 448 [(0, .ref 110)] [] σ K := by
  unfold W_M_goesOn_b448 at h
  refine z_aload_n (f := 0) (i := 0) (q := 0) (pc' := 449) ⟨by decide +kernel, rfl⟩ rfl rfl ?_
  refine w_geti (k := 110) (j := 52) (idx := 549) (pc' := 452) yfxe_13_549 ykfa_110_52 ⟨by decide +kernel, rfl⟩ ?_
  refine z_if_ne (off := 48) (tgt := 500) (pc' := 455) ⟨by decide +kernel, by decide, rfl⟩ (fun h1 => ?_) (fun h1 => ?_)
  · have h := h.2 (qi_ne_t rfl (by decide) h1)
    refine z_iconst (i := 0) (v := 0) (pc' := 501) ⟨by decide +kernel, rfl⟩ (by decide) ?_
    refine z_sub [0] rfl ?_
    exact sb_M_goesOn_501  k h
  · have h := h.1 (qi_ne_f rfl (by decide) h1)
    refine z_aload_n (f := 0) (i := 0) (q := 0) (pc' := 456) ⟨by decide +kernel, rfl⟩ rfl rfl ?_
    refine w_getr (k := 110) (j := 49) (idx := 118) (pc' := 459) yfxe_13_118 ykfa_110_49 ⟨by decide +kernel, rfl⟩ ?_
    refine z_iconst (i := 0) (v := 0) (pc' := 460) ⟨by decide +kernel, rfl⟩ (by decide) ?_
    refine w_iald (k := 145) (n := 0) (pc' := 461) ykaa_145 (by decide) (by decide) ⟨by decide +kernel, rfl⟩ ?_
    refine z_if_le (off := 39) (tgt := 500) (pc' := 464) ⟨by decide +kernel, by decide, rfl⟩ (fun h2 => ?_) (fun h2 => ?_)
    · have h := h.1 (qi_le_t rfl (by decide) h2)
      refine z_iconst (i := 0) (v := 0) (pc' := 501) ⟨by decide +kernel, rfl⟩ (by decide) ?_
      refine z_sub [0] rfl ?_
      exact sb_M_goesOn_501  k h
    · have h := h.2 (qi_le_f rfl (by decide) h2)
      refine z_aload_n (f := 0) (i := 0) (q := 0) (pc' := 465) ⟨by decide +kernel, rfl⟩ rfl rfl ?_
      refine w_geti (k := 110) (j := 28) (idx := 511) (pc' := 468) yfxe_13_511 ykfa_110_28 ⟨by decide +kernel, rfl⟩ ?_
      refine z_if_eq (off := 28) (tgt := 496) (pc' := 471) ⟨by decide +kernel, by decide, rfl⟩ (fun h3 => ?_) (fun h3 => ?_)
      · have h := h.1 (qi_eq_t rfl (by decide) h3)
        refine z_iconst (i := 1) (v := 1) (pc' := 497) ⟨by decide +kernel, rfl⟩ (by decide) ?_
        refine z_goto (off := 4) (tgt := 501) (pc' := 500) ⟨by decide +kernel, by decide, rfl⟩ ?_
        refine z_sub [0] rfl ?_
        exact sb_M_goesOn_501  k h
      · have h := h.2 (qi_eq_f rfl (by decide) h3)
        refine z_aload_n (f := 0) (i := 0) (q := 0) (pc' := 472) ⟨by decide +kernel, rfl⟩ rfl rfl ?_
        refine z_bipush (i := 59) (v := 59) (pc' := 474) ⟨by decide +kernel, rfl⟩ (by decide) ?_
        refine w_invV (Z := Y_M_isSign) (idx := 569) (kb := 110) (As := [.int 59]) (rest := []) (pc' := 477) cl_13_569 rfl ⟨rfl, rfl⟩ ykfa_110_0 rfl ⟨⟨by decide, by decide⟩, rfl, rfl⟩ ⟨by decide +kernel, rfl⟩ rfl rfl (Nat.le_of_ble_eq_true rfl) rfl rfl ?_
        refine sF_M_isSign h (fun v4 σ4 h => ?_)
        show Wz E Y_M_goesOn 477 [(0, .ref 110)] [.int v4] σ4 K
        refine z_if_ne (off := 19) (tgt := 496) (pc' := 480) ⟨by decide +kernel, by decide, rfl⟩ (fun h5 => ?_) (fun h5 => ?_)
        · have h := h.2 (qi_ne_t rfl (by decide) h5)
          refine z_iconst (i := 1) (v := 1) (pc' := 497) ⟨by decide +kernel, rfl⟩ (by decide) ?_
          refine z_goto (off := 4) (tgt := 501) (pc' := 500) ⟨by decide +kernel, by decide, rfl⟩ ?_
          refine z_sub [0] rfl ?_
          exact sb_M_goesOn_501  k h
        · have h := h.1 (qi_ne_f rfl (by decide) h5)
          refine z_aload_n (f := 0) (i := 0) (q := 0) (pc' := 481) ⟨by decide +kernel, rfl⟩ rfl rfl ?_
          refine z_bipush (i := 109) (v := 109) (pc' := 483) ⟨by decide +kernel, rfl⟩ (by decide) ?_
          refine z_bipush (i := 117) (v := 117) (pc' := 485) ⟨by decide +kernel, rfl⟩ (by decide) ?_
          refine z_bipush (i := 115) (v := 115) (pc' := 487) ⟨by decide +kernel, rfl⟩ (by decide) ?_
          refine z_bipush (i := 116) (v := 116) (pc' := 489) ⟨by decide +kernel, rfl⟩ (by decide) ?_
          refine z_iconst (i := 0) (v := 0) (pc' := 490) ⟨by decide +kernel, rfl⟩ (by decide) ?_
          refine w_invV (Z := Y_M_isWord) (idx := 562) (kb := 110) (As := [.int 109, .int 117, .int 115, .int 116, .int 0]) (rest := []) (pc' := 493) cl_13_562 rfl ⟨rfl, rfl⟩ ykfa_110_0 rfl ⟨⟨by decide, by decide⟩, rfl, rfl⟩ ⟨by decide +kernel, rfl⟩ rfl rfl (Nat.le_of_ble_eq_true rfl) rfl rfl ?_
          refine sF_M_isWord h (fun v6 σ6 h => ?_)
          show Wz E Y_M_goesOn 493 [(0, .ref 110)] [.int v6] σ6 K
          refine z_if_eq (off := 7) (tgt := 500) (pc' := 496) ⟨by decide +kernel, by decide, rfl⟩ (fun h7 => ?_) (fun h7 => ?_)
          · have h := h.1 (qi_eq_t rfl (by decide) h7)
            refine z_iconst (i := 0) (v := 0) (pc' := 501) ⟨by decide +kernel, rfl⟩ (by decide) ?_
            refine z_sub [0] rfl ?_
            exact sb_M_goesOn_501  k h
          · have h := h.2 (qi_eq_f rfl (by decide) h7)
            refine z_iconst (i := 1) (v := 1) (pc' := 497) ⟨by decide +kernel, rfl⟩ (by decide) ?_
            refine z_goto (off := 4) (tgt := 501) (pc' := 500) ⟨by decide +kernel, by decide, rfl⟩ ?_
            refine z_sub [0] rfl ?_
            exact sb_M_goesOn_501  k h
noncomputable def W_M_goesOn_b419  (σ : zS) (Q : Int32 → zS → Prop) : Prop := W_M_isSign 93 σ (fun v1 σ1 => ((Int32.toInt v1) = 0 → (W_M_goesOn_b448   σ1 Q)) ∧ (¬ (Int32.toInt v1) = 0 → (∃ n3 : Nat, Int32.toInt (σ1.1 110 52) = (n3 : Int) ∧ n3 < 24 ∧ (((Int32.toInt (σ1.1 143 n3)) = 3 → (W_M_goesOn_b441   σ1 Q)) ∧ (¬ (Int32.toInt (σ1.1 143 n3)) = 3 → (W_M_goesOn_b448   σ1 Q))))))
theorem sb_M_goesOn_419 {E : xV} {σ : zS} {K : zKt}  {Q : Int32 → zS → Prop} (k : ∀ v s, Q v s → K (some (.int v)) s) (h : W_M_goesOn_b419  σ Q) : Wz E Y_M_goesOn 419 [(0, .ref 110)] [] σ K := by
  unfold W_M_goesOn_b419 at h
  refine z_aload_n (f := 0) (i := 0) (q := 0) (pc' := 420) ⟨by decide +kernel, rfl⟩ rfl rfl ?_
  refine z_bipush (i := 93) (v := 93) (pc' := 422) ⟨by decide +kernel, rfl⟩ (by decide) ?_
  refine w_invV (Z := Y_M_isSign) (idx := 569) (kb := 110) (As := [.int 93]) (rest := []) (pc' := 425) cl_13_569 rfl ⟨rfl, rfl⟩ ykfa_110_0 rfl ⟨⟨by decide, by decide⟩, rfl, rfl⟩ ⟨by decide +kernel, rfl⟩ rfl rfl (Nat.le_of_ble_eq_true rfl) rfl rfl ?_
  refine sF_M_isSign h (fun v1 σ1 h => ?_)
  show Wz E Y_M_goesOn 425 [(0, .ref 110)] [.int v1] σ1 K
  refine z_if_eq (off := 23) (tgt := 448) (pc' := 428) ⟨by decide +kernel, by decide, rfl⟩ (fun h2 => ?_) (fun h2 => ?_)
  · have h := h.1 (qi_eq_t rfl (by decide) h2)
    refine z_sub [0] rfl ?_
    exact sb_M_goesOn_448  k h
  · have h := h.2 (qi_eq_f rfl (by decide) h2)
    refine z_aload_n (f := 0) (i := 0) (q := 0) (pc' := 429) ⟨by decide +kernel, rfl⟩ rfl rfl ?_
    refine w_getr (k := 110) (j := 47) (idx := 112) (pc' := 432) yfxe_13_112 ykfa_110_47 ⟨by decide +kernel, rfl⟩ ?_
    refine z_aload_n (f := 0) (i := 0) (q := 0) (pc' := 433) ⟨by decide +kernel, rfl⟩ rfl rfl ?_
    refine w_geti (k := 110) (j := 52) (idx := 549) (pc' := 436) yfxe_13_549 ykfa_110_52 ⟨by decide +kernel, rfl⟩ ?_
    obtain ⟨n3, hi3, hz3, h⟩ := h
    refine w_iald (k := 143) (n := n3) (pc' := 437) ykaa_143 (hi3) (hz3) ⟨by decide +kernel, rfl⟩ ?_
    refine z_iconst (i := 3) (v := 3) (pc' := 438) ⟨by decide +kernel, rfl⟩ (by decide) ?_
    refine z_icmp_ne (off := 10) (tgt := 448) (pc' := 441) ⟨by decide +kernel, by decide, rfl⟩ (fun h4 => ?_) (fun h4 => ?_)
    · have h := h.2 (qi_ne_t rfl (by decide) h4)
      refine z_sub [0] rfl ?_
      exact sb_M_goesOn_448  k h
    · have h := h.1 (qi_ne_f rfl (by decide) h4)
      refine z_sub [0] rfl ?_
      exact sb_M_goesOn_441  k h
noncomputable def W_M_goesOn_b403  (σ : zS) (Q : Int32 → zS → Prop) : Prop := W_M_isSign 41 σ (fun v1 σ1 => ((Int32.toInt v1) = 0 → (W_M_goesOn_b419   σ1 Q)) ∧ (¬ (Int32.toInt v1) = 0 → (W_M_closes  σ1 (fun v3 σ3 => ((Int32.toInt v3) = 0 → (W_M_goesOn_b419   σ3 Q)) ∧ (¬ (Int32.toInt v3) = 0 → (W_M_goesOn_b441   σ3 Q))))))
theorem sb_M_goesOn_403 {E : xV} {σ : zS} {K : zKt}  {Q : Int32 → zS → Prop} (k : ∀ v s, Q v s → K (some (.int v)) s) (h : W_M_goesOn_b403  σ Q) : Wz E Y_M_goesOn 403 [(0, .ref 110)] [] σ K := by
  unfold W_M_goesOn_b403 at h
  refine z_aload_n (f := 0) (i := 0) (q := 0) (pc' := 404) ⟨by decide +kernel, rfl⟩ rfl rfl ?_
  refine z_bipush (i := 41) (v := 41) (pc' := 406) ⟨by decide +kernel, rfl⟩ (by decide) ?_
  refine w_invV (Z := Y_M_isSign) (idx := 569) (kb := 110) (As := [.int 41]) (rest := []) (pc' := 409) cl_13_569 rfl ⟨rfl, rfl⟩ ykfa_110_0 rfl ⟨⟨by decide, by decide⟩, rfl, rfl⟩ ⟨by decide +kernel, rfl⟩ rfl rfl (Nat.le_of_ble_eq_true rfl) rfl rfl ?_
  refine sF_M_isSign h (fun v1 σ1 h => ?_)
  show Wz E Y_M_goesOn 409 [(0, .ref 110)] [.int v1] σ1 K
  refine z_if_eq (off := 10) (tgt := 419) (pc' := 412) ⟨by decide +kernel, by decide, rfl⟩ (fun h2 => ?_) (fun h2 => ?_)
  · have h := h.1 (qi_eq_t rfl (by decide) h2)
    refine z_sub [0] rfl ?_
    exact sb_M_goesOn_419  k h
  · have h := h.2 (qi_eq_f rfl (by decide) h2)
    refine z_aload_n (f := 0) (i := 0) (q := 0) (pc' := 413) ⟨by decide +kernel, rfl⟩ rfl rfl ?_
    refine w_invV (Z := Y_M_closes) (idx := 613) (kb := 110) (As := []) (rest := []) (pc' := 416) cl_13_613 rfl ⟨rfl, rfl⟩ ykfa_110_0 rfl ⟨⟨by decide, by decide⟩, rfl, rfl⟩ ⟨by decide +kernel, rfl⟩ rfl rfl (Nat.le_of_ble_eq_true rfl) rfl rfl ?_
    refine sF_M_closes h (fun v3 σ3 h => ?_)
    show Wz E Y_M_goesOn 416 [(0, .ref 110)] [.int v3] σ3 K
    refine z_if_ne (off := 25) (tgt := 441) (pc' := 419) ⟨by decide +kernel, by decide, rfl⟩ (fun h4 => ?_) (fun h4 => ?_)
    · have h := h.2 (qi_ne_t rfl (by decide) h4)
      refine z_sub [0] rfl ?_
      exact sb_M_goesOn_441  k h
    · have h := h.1 (qi_ne_f rfl (by decide) h4)
      refine z_sub [0] rfl ?_
      exact sb_M_goesOn_419  k h
noncomputable def W_M_goesOn_b303 (x2 : Int32) (σ : zS) (Q : Int32 → zS → Prop) : Prop := ((Int32.toInt x2) = 0 → (W_M_goesOn_b403   σ Q)) ∧ (¬ (Int32.toInt x2) = 0 → (∃ n2 : Nat, Int32.toInt (σ.1 110 52) = (n2 : Int) ∧ n2 < 24 ∧ (((Int32.toInt (σ.1 145 n2)) ≤ 0 → (W_M_goesOn_b403   σ Q)) ∧ (¬ (Int32.toInt (σ.1 145 n2)) ≤ 0 → (W_M_isWord 97 110 100 0 0 σ (fun v4 σ4 => ((Int32.toInt v4) = 0 → (W_M_goesOn_b342  v4 1 σ4 Q)) ∧ (¬ (Int32.toInt v4) = 0 → (W_M_goesOn_b342  v4 2 σ4 Q))))))))
theorem sb_M_goesOn_303 {E : xV} {σ : zS} {K : zKt} {x2 : Int32} {Q : Int32 → zS → Prop} (k : ∀ v s, Q v s → K (some (.int v)) s) (h : W_M_goesOn_b303 x2 σ Q) : Wz E Y_M_goesOn 303 [(0, .ref 110), (2, .int x2)] [] σ K := by
  unfold W_M_goesOn_b303 at h
  refine z_iload_n (f := 2) (i := 2) (q := 1) (pc' := 304) ⟨by decide +kernel, rfl⟩ rfl rfl ?_
  refine z_if_eq (off := 99) (tgt := 403) (pc' := 307) ⟨by decide +kernel, by decide, rfl⟩ (fun h1 => ?_) (fun h1 => ?_)
  · have h := h.1 (qi_eq_t rfl (by decide) h1)
    refine z_sub [0] rfl ?_
    exact sb_M_goesOn_403  k h
  · have h := h.2 (qi_eq_f rfl (by decide) h1)
    refine z_aload_n (f := 0) (i := 0) (q := 0) (pc' := 308) ⟨by decide +kernel, rfl⟩ rfl rfl ?_
    refine w_getr (k := 110) (j := 49) (idx := 118) (pc' := 311) yfxe_13_118 ykfa_110_49 ⟨by decide +kernel, rfl⟩ ?_
    refine z_aload_n (f := 0) (i := 0) (q := 0) (pc' := 312) ⟨by decide +kernel, rfl⟩ rfl rfl ?_
    refine w_geti (k := 110) (j := 52) (idx := 549) (pc' := 315) yfxe_13_549 ykfa_110_52 ⟨by decide +kernel, rfl⟩ ?_
    obtain ⟨n2, hi2, hz2, h⟩ := h
    refine w_iald (k := 145) (n := n2) (pc' := 316) ykaa_145 (hi2) (hz2) ⟨by decide +kernel, rfl⟩ ?_
    refine z_if_le (off := 87) (tgt := 403) (pc' := 319) ⟨by decide +kernel, by decide, rfl⟩ (fun h3 => ?_) (fun h3 => ?_)
    · have h := h.1 (qi_le_t rfl (by decide) h3)
      refine z_sub [0] rfl ?_
      exact sb_M_goesOn_403  k h
    · have h := h.2 (qi_le_f rfl (by decide) h3)
      refine z_aload_n (f := 0) (i := 0) (q := 0) (pc' := 320) ⟨by decide +kernel, rfl⟩ rfl rfl ?_
      refine z_bipush (i := 97) (v := 97) (pc' := 322) ⟨by decide +kernel, rfl⟩ (by decide) ?_
      refine z_bipush (i := 110) (v := 110) (pc' := 324) ⟨by decide +kernel, rfl⟩ (by decide) ?_
      refine z_bipush (i := 100) (v := 100) (pc' := 326) ⟨by decide +kernel, rfl⟩ (by decide) ?_
      refine z_iconst (i := 0) (v := 0) (pc' := 327) ⟨by decide +kernel, rfl⟩ (by decide) ?_
      refine z_iconst (i := 0) (v := 0) (pc' := 328) ⟨by decide +kernel, rfl⟩ (by decide) ?_
      refine w_invV (Z := Y_M_isWord) (idx := 562) (kb := 110) (As := [.int 97, .int 110, .int 100, .int 0, .int 0]) (rest := []) (pc' := 331) cl_13_562 rfl ⟨rfl, rfl⟩ ykfa_110_0 rfl ⟨⟨by decide, by decide⟩, rfl, rfl⟩ ⟨by decide +kernel, rfl⟩ rfl rfl (Nat.le_of_ble_eq_true rfl) rfl rfl ?_
      refine sF_M_isWord h (fun v4 σ4 h => ?_)
      show Wz E Y_M_goesOn 331 [(0, .ref 110), (2, .int x2)] [.int v4] σ4 K
      refine z_istore_n (f := 3) (i := 3) (pc' := 332) ⟨by decide +kernel, rfl⟩ rfl (by decide) rfl ?_
      show Wz E Y_M_goesOn 332 [(3, .int v4), (0, .ref 110), (2, .int x2)] [] σ4 K
      refine z_aload_n (f := 0) (i := 0) (q := 1) (pc' := 333) ⟨by decide +kernel, rfl⟩ rfl rfl ?_
      refine z_iload_n (f := 3) (i := 3) (q := 0) (pc' := 334) ⟨by decide +kernel, rfl⟩ rfl rfl ?_
      refine z_if_eq (off := 7) (tgt := 341) (pc' := 337) ⟨by decide +kernel, by decide, rfl⟩ (fun h5 => ?_) (fun h5 => ?_)
      · have h := h.1 (qi_eq_t rfl (by decide) h5)
        refine z_iconst (i := 1) (v := 1) (pc' := 342) ⟨by decide +kernel, rfl⟩ (by decide) ?_
        refine z_sub [1, 0] rfl ?_
        exact sb_M_goesOn_342  k h
      · have h := h.2 (qi_eq_f rfl (by decide) h5)
        refine z_iconst (i := 2) (v := 2) (pc' := 338) ⟨by decide +kernel, rfl⟩ (by decide) ?_
        refine z_goto (off := 4) (tgt := 342) (pc' := 341) ⟨by decide +kernel, by decide, rfl⟩ ?_
        refine z_sub [1, 0] rfl ?_
        exact sb_M_goesOn_342  k h
noncomputable def W_M_goesOn_b274 (x2 : Int32) (σ : zS) (Q : Int32 → zS → Prop) : Prop := W_M_isWord 97 110 100 0 0 σ (fun v1 σ1 => ((Int32.toInt v1) = 0 → (W_M_isWord 111 114 0 0 0 σ1 (fun v3 σ3 => ((Int32.toInt v3) = 0 → (W_M_goesOn_b403   σ3 Q)) ∧ (¬ (Int32.toInt v3) = 0 → (W_M_goesOn_b303  x2 σ3 Q))))) ∧ (¬ (Int32.toInt v1) = 0 → (W_M_goesOn_b303  x2 σ1 Q)))
theorem sb_M_goesOn_274 {E : xV} {σ : zS} {K : zKt} {x2 : Int32} {Q : Int32 → zS → Prop} (k : ∀ v s, Q v s → K (some (.int v)) s) (h : W_M_goesOn_b274 x2 σ Q) : Wz E Y_M_goesOn 274 [(0, .ref 110), (2, .int x2)] [] σ K := by
  unfold W_M_goesOn_b274 at h
  refine z_aload_n (f := 0) (i := 0) (q := 0) (pc' := 275) ⟨by decide +kernel, rfl⟩ rfl rfl ?_
  refine z_bipush (i := 97) (v := 97) (pc' := 277) ⟨by decide +kernel, rfl⟩ (by decide) ?_
  refine z_bipush (i := 110) (v := 110) (pc' := 279) ⟨by decide +kernel, rfl⟩ (by decide) ?_
  refine z_bipush (i := 100) (v := 100) (pc' := 281) ⟨by decide +kernel, rfl⟩ (by decide) ?_
  refine z_iconst (i := 0) (v := 0) (pc' := 282) ⟨by decide +kernel, rfl⟩ (by decide) ?_
  refine z_iconst (i := 0) (v := 0) (pc' := 283) ⟨by decide +kernel, rfl⟩ (by decide) ?_
  refine w_invV (Z := Y_M_isWord) (idx := 562) (kb := 110) (As := [.int 97, .int 110, .int 100, .int 0, .int 0]) (rest := []) (pc' := 286) cl_13_562 rfl ⟨rfl, rfl⟩ ykfa_110_0 rfl ⟨⟨by decide, by decide⟩, rfl, rfl⟩ ⟨by decide +kernel, rfl⟩ rfl rfl (Nat.le_of_ble_eq_true rfl) rfl rfl ?_
  refine sF_M_isWord h (fun v1 σ1 h => ?_)
  show Wz E Y_M_goesOn 286 [(0, .ref 110), (2, .int x2)] [.int v1] σ1 K
  refine z_if_ne (off := 17) (tgt := 303) (pc' := 289) ⟨by decide +kernel, by decide, rfl⟩ (fun h2 => ?_) (fun h2 => ?_)
  · have h := h.2 (qi_ne_t rfl (by decide) h2)
    refine z_sub [0, 1] rfl ?_
    exact sb_M_goesOn_303  k h
  · have h := h.1 (qi_ne_f rfl (by decide) h2)
    refine z_aload_n (f := 0) (i := 0) (q := 0) (pc' := 290) ⟨by decide +kernel, rfl⟩ rfl rfl ?_
    refine z_bipush (i := 111) (v := 111) (pc' := 292) ⟨by decide +kernel, rfl⟩ (by decide) ?_
    refine z_bipush (i := 114) (v := 114) (pc' := 294) ⟨by decide +kernel, rfl⟩ (by decide) ?_
    refine z_iconst (i := 0) (v := 0) (pc' := 295) ⟨by decide +kernel, rfl⟩ (by decide) ?_
    refine z_iconst (i := 0) (v := 0) (pc' := 296) ⟨by decide +kernel, rfl⟩ (by decide) ?_
    refine z_iconst (i := 0) (v := 0) (pc' := 297) ⟨by decide +kernel, rfl⟩ (by decide) ?_
    refine w_invV (Z := Y_M_isWord) (idx := 562) (kb := 110) (As := [.int 111, .int 114, .int 0, .int 0, .int 0]) (rest := []) (pc' := 300) cl_13_562 rfl ⟨rfl, rfl⟩ ykfa_110_0 rfl ⟨⟨by decide, by decide⟩, rfl, rfl⟩ ⟨by decide +kernel, rfl⟩ rfl rfl (Nat.le_of_ble_eq_true rfl) rfl rfl ?_
    refine sF_M_isWord h (fun v3 σ3 h => ?_)
    show Wz E Y_M_goesOn 300 [(0, .ref 110), (2, .int x2)] [.int v3] σ3 K
    refine z_if_eq (off := 103) (tgt := 403) (pc' := 303) ⟨by decide +kernel, by decide, rfl⟩ (fun h4 => ?_) (fun h4 => ?_)
    · have h := h.1 (qi_eq_t rfl (by decide) h4)
      refine z_sub [0] rfl ?_
      exact sb_M_goesOn_403  k h
    · have h := h.2 (qi_eq_f rfl (by decide) h4)
      refine z_sub [0, 1] rfl ?_
      exact sb_M_goesOn_303  k h
noncomputable def W_M_goesOn_b190 (x1 : Int32) (x2 : Int32) (σ : zS) (Q : Int32 → zS → Prop) : Prop := W_M_isWord 105 110 0 0 0 σ (fun v1 σ1 => ((Int32.toInt v1) = 0 → (W_M_goesOn_b274  x2 σ1 Q)) ∧ (¬ (Int32.toInt v1) = 0 → (((Int32.toInt x1) = 0 → (W_M_goesOn_b274  x2 σ1 Q)) ∧ (¬ (Int32.toInt x1) = 0 → (((Int32.toInt x2) = 0 → (W_M_goesOn_b274  x2 σ1 Q)) ∧ (¬ (Int32.toInt x2) = 0 → (∃ n5 : Nat, Int32.toInt (σ1.1 110 52) = (n5 : Int) ∧ n5 < 24 ∧ (((Int32.toInt (σ1.1 145 n5)) = 0 → (W_M_reduce 5 σ1 (fun _ σ7 => W_M_token  σ7 (fun _ σ8 => W_M_isFeature  σ8 (fun v9 σ9 => ((Int32.toInt v9) = 0 → ((0 ≤ (Int32.toInt (σ9.1 110 58)) → (Q 0 σ9)) ∧ (¬ 0 ≤ (Int32.toInt (σ9.1 110 58)) → (Q 1 σ9)))) ∧ (¬ (Int32.toInt v9) = 0 → (∀ r12 : Int64, r12.toInt = (Int32.toInt (σ9.1 110 59)) → (W_M_emit 14 r12 σ9 (fun _ σ13 => ∃ n14 : Nat, Int32.toInt (σ13.1 110 52) = (n14 : Int) ∧ n14 < 24 ∧ (∀ σ15 : zS, zI σ13 145 n14 2 = σ15 → (∃ n16 : Nat, Int32.toInt (σ15.1 110 52) = (n16 : Int) ∧ n16 < 24 ∧ (∀ σ17 : zS, zI σ15 144 n16 1 = σ17 → ((0 ≤ (Int32.toInt (σ17.1 110 58)) → (Q 0 σ17)) ∧ (¬ 0 ≤ (Int32.toInt (σ17.1 110 58)) → (Q 1 σ17))))))))))))))) ∧ (¬ (Int32.toInt (σ1.1 145 n5)) = 0 → (W_M_goesOn_b274  x2 σ1 Q))))))))))
theorem sb_M_goesOn_190 {E : xV} {σ : zS} {K : zKt} {x1 : Int32} {x2 : Int32} {Q : Int32 → zS → Prop} (k : ∀ v s, Q v s → K (some (.int v)) s) (h : W_M_goesOn_b190 x1 x2 σ Q) : Wz E Y_M_goesOn 190 [(0, .ref 110), (1, .int x1), (2, .int x2)] [] σ K := by
  unfold W_M_goesOn_b190 at h
  refine z_aload_n (f := 0) (i := 0) (q := 0) (pc' := 191) ⟨by decide +kernel, rfl⟩ rfl rfl ?_
  refine z_bipush (i := 105) (v := 105) (pc' := 193) ⟨by decide +kernel, rfl⟩ (by decide) ?_
  refine z_bipush (i := 110) (v := 110) (pc' := 195) ⟨by decide +kernel, rfl⟩ (by decide) ?_
  refine z_iconst (i := 0) (v := 0) (pc' := 196) ⟨by decide +kernel, rfl⟩ (by decide) ?_
  refine z_iconst (i := 0) (v := 0) (pc' := 197) ⟨by decide +kernel, rfl⟩ (by decide) ?_
  refine z_iconst (i := 0) (v := 0) (pc' := 198) ⟨by decide +kernel, rfl⟩ (by decide) ?_
  refine w_invV (Z := Y_M_isWord) (idx := 562) (kb := 110) (As := [.int 105, .int 110, .int 0, .int 0, .int 0]) (rest := []) (pc' := 201) cl_13_562 rfl ⟨rfl, rfl⟩ ykfa_110_0 rfl ⟨⟨by decide, by decide⟩, rfl, rfl⟩ ⟨by decide +kernel, rfl⟩ rfl rfl (Nat.le_of_ble_eq_true rfl) rfl rfl ?_
  refine sF_M_isWord h (fun v1 σ1 h => ?_)
  show Wz E Y_M_goesOn 201 [(0, .ref 110), (1, .int x1), (2, .int x2)] [.int v1] σ1 K
  refine z_if_eq (off := 73) (tgt := 274) (pc' := 204) ⟨by decide +kernel, by decide, rfl⟩ (fun h2 => ?_) (fun h2 => ?_)
  · have h := h.1 (qi_eq_t rfl (by decide) h2)
    refine z_sub [0, 2] rfl ?_
    exact sb_M_goesOn_274  k h
  · have h := h.2 (qi_eq_f rfl (by decide) h2)
    refine z_iload_n (f := 1) (i := 1) (q := 1) (pc' := 205) ⟨by decide +kernel, rfl⟩ rfl rfl ?_
    refine z_if_eq (off := 69) (tgt := 274) (pc' := 208) ⟨by decide +kernel, by decide, rfl⟩ (fun h3 => ?_) (fun h3 => ?_)
    · have h := h.1 (qi_eq_t rfl (by decide) h3)
      refine z_sub [0, 2] rfl ?_
      exact sb_M_goesOn_274  k h
    · have h := h.2 (qi_eq_f rfl (by decide) h3)
      refine z_iload_n (f := 2) (i := 2) (q := 2) (pc' := 209) ⟨by decide +kernel, rfl⟩ rfl rfl ?_
      refine z_if_eq (off := 65) (tgt := 274) (pc' := 212) ⟨by decide +kernel, by decide, rfl⟩ (fun h4 => ?_) (fun h4 => ?_)
      · have h := h.1 (qi_eq_t rfl (by decide) h4)
        refine z_sub [0, 2] rfl ?_
        exact sb_M_goesOn_274  k h
      · have h := h.2 (qi_eq_f rfl (by decide) h4)
        refine z_aload_n (f := 0) (i := 0) (q := 0) (pc' := 213) ⟨by decide +kernel, rfl⟩ rfl rfl ?_
        refine w_getr (k := 110) (j := 49) (idx := 118) (pc' := 216) yfxe_13_118 ykfa_110_49 ⟨by decide +kernel, rfl⟩ ?_
        refine z_aload_n (f := 0) (i := 0) (q := 0) (pc' := 217) ⟨by decide +kernel, rfl⟩ rfl rfl ?_
        refine w_geti (k := 110) (j := 52) (idx := 549) (pc' := 220) yfxe_13_549 ykfa_110_52 ⟨by decide +kernel, rfl⟩ ?_
        obtain ⟨n5, hi5, hz5, h⟩ := h
        refine w_iald (k := 145) (n := n5) (pc' := 221) ykaa_145 (hi5) (hz5) ⟨by decide +kernel, rfl⟩ ?_
        refine z_if_ne (off := 53) (tgt := 274) (pc' := 224) ⟨by decide +kernel, by decide, rfl⟩ (fun h6 => ?_) (fun h6 => ?_)
        · have h := h.2 (qi_ne_t rfl (by decide) h6)
          refine z_sub [0, 2] rfl ?_
          exact sb_M_goesOn_274  k h
        · have h := h.1 (qi_ne_f rfl (by decide) h6)
          refine z_aload_n (f := 0) (i := 0) (q := 0) (pc' := 225) ⟨by decide +kernel, rfl⟩ rfl rfl ?_
          refine z_iconst (i := 5) (v := 5) (pc' := 226) ⟨by decide +kernel, rfl⟩ (by decide) ?_
          refine w_invV (Z := Y_M_reduce) (idx := 579) (kb := 110) (As := [.int 5]) (rest := []) (pc' := 229) cl_13_579 rfl ⟨rfl, rfl⟩ ykfa_110_0 rfl ⟨⟨by decide, by decide⟩, rfl, rfl⟩ ⟨by decide +kernel, rfl⟩ rfl rfl (Nat.le_of_ble_eq_true rfl) rfl rfl ?_
          refine sF_M_reduce h (fun _ σ7 h => ?_)
          show Wz E Y_M_goesOn 229 [(0, .ref 110), (1, .int x1), (2, .int x2)] [] σ7 K
          refine z_aload_n (f := 0) (i := 0) (q := 0) (pc' := 230) ⟨by decide +kernel, rfl⟩ rfl rfl ?_
          refine w_invV (Z := Y_M_token) (idx := 566) (kb := 110) (As := []) (rest := []) (pc' := 233) cl_13_566 rfl ⟨rfl, rfl⟩ ykfa_110_0 rfl ⟨⟨by decide, by decide⟩, rfl, rfl⟩ ⟨by decide +kernel, rfl⟩ rfl rfl (Nat.le_of_ble_eq_true rfl) rfl rfl ?_
          refine sF_M_token h (fun _ σ8 h => ?_)
          show Wz E Y_M_goesOn 233 [(0, .ref 110), (1, .int x1), (2, .int x2)] [] σ8 K
          refine z_aload_n (f := 0) (i := 0) (q := 0) (pc' := 234) ⟨by decide +kernel, rfl⟩ rfl rfl ?_
          refine w_invV (Z := Y_M_isFeature) (idx := 595) (kb := 110) (As := []) (rest := []) (pc' := 237) cl_13_595 rfl ⟨rfl, rfl⟩ ykfa_110_0 rfl ⟨⟨by decide, by decide⟩, rfl, rfl⟩ ⟨by decide +kernel, rfl⟩ rfl rfl (Nat.le_of_ble_eq_true rfl) rfl rfl ?_
          refine sF_M_isFeature h (fun v9 σ9 h => ?_)
          show Wz E Y_M_goesOn 237 [(0, .ref 110), (1, .int x1), (2, .int x2)] [.int v9] σ9 K
          refine z_if_eq (off := 279) (tgt := 516) (pc' := 240) ⟨by decide +kernel, by decide, rfl⟩ (fun h10 => ?_) (fun h10 => ?_)
          · have h := h.1 (qi_eq_t rfl (by decide) h10)
            refine z_aload_n (f := 0) (i := 0) (q := 0) (pc' := 517) ⟨by decide +kernel, rfl⟩ rfl rfl ?_
            refine w_geti (k := 110) (j := 58) (idx := 559) (pc' := 520) yfxe_13_559 ykfa_110_58 ⟨by decide +kernel, rfl⟩ ?_
            refine z_if_ge (off := 7) (tgt := 527) (pc' := 523) ⟨by decide +kernel, by decide, rfl⟩ (fun h11 => ?_) (fun h11 => ?_)
            · have h := h.1 (qi_ge_t rfl (by decide) h11)
              refine z_iconst (i := 0) (v := 0) (pc' := 528) ⟨by decide +kernel, rfl⟩ (by decide) ?_
              exact z_iret (ty := .boolean) rfl (by rfl) (by decide +kernel) (k _ _ h)
            · have h := h.2 (qi_ge_f rfl (by decide) h11)
              refine z_iconst (i := 1) (v := 1) (pc' := 524) ⟨by decide +kernel, rfl⟩ (by decide) ?_
              refine z_goto (off := 4) (tgt := 528) (pc' := 527) ⟨by decide +kernel, by decide, rfl⟩ ?_
              exact z_iret (ty := .boolean) rfl (by rfl) (by decide +kernel) (k _ _ h)
          · have h := h.2 (qi_eq_f rfl (by decide) h10)
            refine z_aload_n (f := 0) (i := 0) (q := 0) (pc' := 241) ⟨by decide +kernel, rfl⟩ rfl rfl ?_
            refine z_bipush (i := 14) (v := 14) (pc' := 243) ⟨by decide +kernel, rfl⟩ (by decide) ?_
            refine z_aload_n (f := 0) (i := 0) (q := 0) (pc' := 244) ⟨by decide +kernel, rfl⟩ rfl rfl ?_
            refine w_geti (k := 110) (j := 59) (idx := 576) (pc' := 247) yfxe_13_576 ykfa_110_59 ⟨by decide +kernel, rfl⟩ ?_
            refine z_i2l (v := (Int32.toInt64 (σ9.1 110 59))) (pc' := 248) ⟨by decide +kernel, rfl⟩ rfl ?_
            have h := h (Int32.toInt64 (σ9.1 110 59)) (Int32.toInt_toInt64 _)
            generalize (Int32.toInt64 (σ9.1 110 59)) = r12 at h ⊢
            refine w_invV (Z := Y_M_emit) (idx := 552) (kb := 110) (As := [.int 14, .long r12]) (rest := []) (pc' := 251) cl_13_552 rfl ⟨rfl, rfl⟩ ykfa_110_0 rfl ⟨⟨by decide, by decide⟩, rfl, rfl⟩ ⟨by decide +kernel, rfl⟩ rfl rfl (Nat.le_of_ble_eq_true rfl) rfl rfl ?_
            refine sF_M_emit h (fun _ σ13 h => ?_)
            show Wz E Y_M_goesOn 251 [(0, .ref 110), (1, .int x1), (2, .int x2)] [] σ13 K
            refine z_aload_n (f := 0) (i := 0) (q := 0) (pc' := 252) ⟨by decide +kernel, rfl⟩ rfl rfl ?_
            refine w_getr (k := 110) (j := 49) (idx := 118) (pc' := 255) yfxe_13_118 ykfa_110_49 ⟨by decide +kernel, rfl⟩ ?_
            refine z_aload_n (f := 0) (i := 0) (q := 0) (pc' := 256) ⟨by decide +kernel, rfl⟩ rfl rfl ?_
            refine w_geti (k := 110) (j := 52) (idx := 549) (pc' := 259) yfxe_13_549 ykfa_110_52 ⟨by decide +kernel, rfl⟩ ?_
            refine z_iconst (i := 2) (v := 2) (pc' := 260) ⟨by decide +kernel, rfl⟩ (by decide) ?_
            obtain ⟨n14, hi14, hz14, h⟩ := h
            refine w_iast (k := 145) (n := n14) (pc' := 261) ykaa_145 (hi14) (hz14) ⟨by decide +kernel, rfl⟩ ?_
            generalize hs15 : zI σ13 145 n14 2 = σ15
            have h := h σ15 hs15
            refine z_aload_n (f := 0) (i := 0) (q := 0) (pc' := 262) ⟨by decide +kernel, rfl⟩ rfl rfl ?_
            refine w_getr (k := 110) (j := 48) (idx := 115) (pc' := 265) yfxe_13_115 ykfa_110_48 ⟨by decide +kernel, rfl⟩ ?_
            refine z_aload_n (f := 0) (i := 0) (q := 0) (pc' := 266) ⟨by decide +kernel, rfl⟩ rfl rfl ?_
            refine w_geti (k := 110) (j := 52) (idx := 549) (pc' := 269) yfxe_13_549 ykfa_110_52 ⟨by decide +kernel, rfl⟩ ?_
            refine z_iconst (i := 1) (v := 1) (pc' := 270) ⟨by decide +kernel, rfl⟩ (by decide) ?_
            obtain ⟨n16, hi16, hz16, h⟩ := h
            refine w_zast (k := 144) (n := n16) (pc' := 271) ykaa_144 (hi16) (hz16) (by decide) ⟨by decide +kernel, rfl⟩ ?_
            generalize hs17 : zI σ15 144 n16 1 = σ17
            have h := h σ17 hs17
            refine z_goto (off := 245) (tgt := 516) (pc' := 274) ⟨by decide +kernel, by decide, rfl⟩ ?_
            refine z_aload_n (f := 0) (i := 0) (q := 0) (pc' := 517) ⟨by decide +kernel, rfl⟩ rfl rfl ?_
            refine w_geti (k := 110) (j := 58) (idx := 559) (pc' := 520) yfxe_13_559 ykfa_110_58 ⟨by decide +kernel, rfl⟩ ?_
            refine z_if_ge (off := 7) (tgt := 527) (pc' := 523) ⟨by decide +kernel, by decide, rfl⟩ (fun h18 => ?_) (fun h18 => ?_)
            · have h := h.1 (qi_ge_t rfl (by decide) h18)
              refine z_iconst (i := 0) (v := 0) (pc' := 528) ⟨by decide +kernel, rfl⟩ (by decide) ?_
              exact z_iret (ty := .boolean) rfl (by rfl) (by decide +kernel) (k _ _ h)
            · have h := h.2 (qi_ge_f rfl (by decide) h18)
              refine z_iconst (i := 1) (v := 1) (pc' := 524) ⟨by decide +kernel, rfl⟩ (by decide) ?_
              refine z_goto (off := 4) (tgt := 528) (pc' := 527) ⟨by decide +kernel, by decide, rfl⟩ ?_
              exact z_iret (ty := .boolean) rfl (by rfl) (by decide +kernel) (k _ _ h)
noncomputable def W_M_goesOn_b105 (x1 : Int32) (x2 : Int32) (σ : zS) (Q : Int32 → zS → Prop) : Prop := ((Int32.toInt (σ.1 110 28)) = 4 → (W_M_comparison (σ.1 110 30) σ (fun v2 σ2 => ((Int32.toInt v2) < 0 → (W_M_goesOn_b190  x1 x2 σ2 Q)) ∧ (¬ (Int32.toInt v2) < 0 → (((Int32.toInt x1) = 0 → (W_M_goesOn_b190  x1 x2 σ2 Q)) ∧ (¬ (Int32.toInt x1) = 0 → (((Int32.toInt x2) = 0 → (W_M_goesOn_b190  x1 x2 σ2 Q)) ∧ (¬ (Int32.toInt x2) = 0 → (∃ n6 : Nat, Int32.toInt (σ2.1 110 52) = (n6 : Int) ∧ n6 < 24 ∧ (((Int32.toInt (σ2.1 145 n6)) = 0 → (W_M_reduce 5 σ2 (fun _ σ8 => W_M_comparison (σ8.1 110 30) σ8 (fun v9 σ9 => W_M_holdBack 13 4 v9 σ9 (fun _ σ10 => ∃ n11 : Nat, Int32.toInt (σ10.1 110 52) = (n11 : Int) ∧ n11 < 24 ∧ (∀ σ12 : zS, zI σ10 145 n11 1 = σ12 → (∃ n13 : Nat, Int32.toInt (σ12.1 110 52) = (n13 : Int) ∧ n13 < 24 ∧ (∀ σ14 : zS, zI σ12 144 n13 1 = σ14 → (∀ σ15 : zS, zI σ14 110 61 1 = σ15 → ((0 ≤ (Int32.toInt (σ15.1 110 58)) → (Q 0 σ15)) ∧ (¬ 0 ≤ (Int32.toInt (σ15.1 110 58)) → (Q 1 σ15)))))))))))) ∧ (¬ (Int32.toInt (σ2.1 145 n6)) = 0 → (W_M_goesOn_b190  x1 x2 σ2 Q)))))))))))) ∧ (¬ (Int32.toInt (σ.1 110 28)) = 4 → (W_M_goesOn_b190  x1 x2 σ Q))
theorem sb_M_goesOn_105 {E : xV} {σ : zS} {K : zKt} {x1 : Int32} {x2 : Int32} {Q : Int32 → zS → Prop} (k : ∀ v s, Q v s → K (some (.int v)) s) (h : W_M_goesOn_b105 x1 x2 σ Q) : Wz E Y_M_goesOn 105 [(0, .ref 110), (1, .int x1), (2, .int x2)] [] σ K := by
  unfold W_M_goesOn_b105 at h
  refine z_aload_n (f := 0) (i := 0) (q := 0) (pc' := 106) ⟨by decide +kernel, rfl⟩ rfl rfl ?_
  refine w_geti (k := 110) (j := 28) (idx := 511) (pc' := 109) yfxe_13_511 ykfa_110_28 ⟨by decide +kernel, rfl⟩ ?_
  refine z_iconst (i := 4) (v := 4) (pc' := 110) ⟨by decide +kernel, rfl⟩ (by decide) ?_
  refine z_icmp_ne (off := 80) (tgt := 190) (pc' := 113) ⟨by decide +kernel, by decide, rfl⟩ (fun h1 => ?_) (fun h1 => ?_)
  · have h := h.2 (qi_ne_t rfl (by decide) h1)
    refine z_sub [0, 1, 2] rfl ?_
    exact sb_M_goesOn_190  k h
  · have h := h.1 (qi_ne_f rfl (by decide) h1)
    refine z_aload_n (f := 0) (i := 0) (q := 0) (pc' := 114) ⟨by decide +kernel, rfl⟩ rfl rfl ?_
    refine w_geti (k := 110) (j := 30) (idx := 540) (pc' := 117) yfxe_13_540 ykfa_110_30 ⟨by decide +kernel, rfl⟩ ?_
    refine w_invS (Z := Y_M_comparison) (idx := 610) (As := [.int (σ.1 110 30)]) (rest := []) (pc' := 120) cl_13_610 rfl ⟨rfl, rfl⟩ ⟨⟨by decide, by decide⟩, rfl, rfl⟩ ⟨by decide +kernel, rfl⟩ rfl rfl (Nat.le_of_ble_eq_true rfl) rfl rfl ?_
    refine sF_M_comparison h (fun v2 σ2 h => ?_)
    show Wz E Y_M_goesOn 120 [(0, .ref 110), (1, .int x1), (2, .int x2)] [.int v2] σ2 K
    refine z_if_lt (off := 70) (tgt := 190) (pc' := 123) ⟨by decide +kernel, by decide, rfl⟩ (fun h3 => ?_) (fun h3 => ?_)
    · have h := h.1 (qi_lt_t rfl (by decide) h3)
      refine z_sub [0, 1, 2] rfl ?_
      exact sb_M_goesOn_190  k h
    · have h := h.2 (qi_lt_f rfl (by decide) h3)
      refine z_iload_n (f := 1) (i := 1) (q := 1) (pc' := 124) ⟨by decide +kernel, rfl⟩ rfl rfl ?_
      refine z_if_eq (off := 66) (tgt := 190) (pc' := 127) ⟨by decide +kernel, by decide, rfl⟩ (fun h4 => ?_) (fun h4 => ?_)
      · have h := h.1 (qi_eq_t rfl (by decide) h4)
        refine z_sub [0, 1, 2] rfl ?_
        exact sb_M_goesOn_190  k h
      · have h := h.2 (qi_eq_f rfl (by decide) h4)
        refine z_iload_n (f := 2) (i := 2) (q := 2) (pc' := 128) ⟨by decide +kernel, rfl⟩ rfl rfl ?_
        refine z_if_eq (off := 62) (tgt := 190) (pc' := 131) ⟨by decide +kernel, by decide, rfl⟩ (fun h5 => ?_) (fun h5 => ?_)
        · have h := h.1 (qi_eq_t rfl (by decide) h5)
          refine z_sub [0, 1, 2] rfl ?_
          exact sb_M_goesOn_190  k h
        · have h := h.2 (qi_eq_f rfl (by decide) h5)
          refine z_aload_n (f := 0) (i := 0) (q := 0) (pc' := 132) ⟨by decide +kernel, rfl⟩ rfl rfl ?_
          refine w_getr (k := 110) (j := 49) (idx := 118) (pc' := 135) yfxe_13_118 ykfa_110_49 ⟨by decide +kernel, rfl⟩ ?_
          refine z_aload_n (f := 0) (i := 0) (q := 0) (pc' := 136) ⟨by decide +kernel, rfl⟩ rfl rfl ?_
          refine w_geti (k := 110) (j := 52) (idx := 549) (pc' := 139) yfxe_13_549 ykfa_110_52 ⟨by decide +kernel, rfl⟩ ?_
          obtain ⟨n6, hi6, hz6, h⟩ := h
          refine w_iald (k := 145) (n := n6) (pc' := 140) ykaa_145 (hi6) (hz6) ⟨by decide +kernel, rfl⟩ ?_
          refine z_if_ne (off := 50) (tgt := 190) (pc' := 143) ⟨by decide +kernel, by decide, rfl⟩ (fun h7 => ?_) (fun h7 => ?_)
          · have h := h.2 (qi_ne_t rfl (by decide) h7)
            refine z_sub [0, 1, 2] rfl ?_
            exact sb_M_goesOn_190  k h
          · have h := h.1 (qi_ne_f rfl (by decide) h7)
            refine z_aload_n (f := 0) (i := 0) (q := 0) (pc' := 144) ⟨by decide +kernel, rfl⟩ rfl rfl ?_
            refine z_iconst (i := 5) (v := 5) (pc' := 145) ⟨by decide +kernel, rfl⟩ (by decide) ?_
            refine w_invV (Z := Y_M_reduce) (idx := 579) (kb := 110) (As := [.int 5]) (rest := []) (pc' := 148) cl_13_579 rfl ⟨rfl, rfl⟩ ykfa_110_0 rfl ⟨⟨by decide, by decide⟩, rfl, rfl⟩ ⟨by decide +kernel, rfl⟩ rfl rfl (Nat.le_of_ble_eq_true rfl) rfl rfl ?_
            refine sF_M_reduce h (fun _ σ8 h => ?_)
            show Wz E Y_M_goesOn 148 [(0, .ref 110), (1, .int x1), (2, .int x2)] [] σ8 K
            refine z_aload_n (f := 0) (i := 0) (q := 0) (pc' := 149) ⟨by decide +kernel, rfl⟩ rfl rfl ?_
            refine z_bipush (i := 13) (v := 13) (pc' := 151) ⟨by decide +kernel, rfl⟩ (by decide) ?_
            refine z_iconst (i := 4) (v := 4) (pc' := 152) ⟨by decide +kernel, rfl⟩ (by decide) ?_
            refine z_aload_n (f := 0) (i := 0) (q := 0) (pc' := 153) ⟨by decide +kernel, rfl⟩ rfl rfl ?_
            refine w_geti (k := 110) (j := 30) (idx := 540) (pc' := 156) yfxe_13_540 ykfa_110_30 ⟨by decide +kernel, rfl⟩ ?_
            refine w_invS (Z := Y_M_comparison) (idx := 610) (As := [.int (σ8.1 110 30)]) (rest := [.int 4, .int 13, .ref 110]) (pc' := 159) cl_13_610 rfl ⟨rfl, rfl⟩ ⟨⟨by decide, by decide⟩, rfl, rfl⟩ ⟨by decide +kernel, rfl⟩ rfl rfl (Nat.le_of_ble_eq_true rfl) rfl rfl ?_
            refine sF_M_comparison h (fun v9 σ9 h => ?_)
            show Wz E Y_M_goesOn 159 [(0, .ref 110), (1, .int x1), (2, .int x2)] [.int v9, .int 4, .int 13, .ref 110] σ9 K
            refine w_invV (Z := Y_M_holdBack) (idx := 592) (kb := 110) (As := [.int 13, .int 4, .int v9]) (rest := []) (pc' := 162) cl_13_592 rfl ⟨rfl, rfl⟩ ykfa_110_0 rfl ⟨⟨by decide, by decide⟩, rfl, rfl⟩ ⟨by decide +kernel, rfl⟩ rfl rfl (Nat.le_of_ble_eq_true rfl) rfl rfl ?_
            refine sF_M_holdBack h (fun _ σ10 h => ?_)
            show Wz E Y_M_goesOn 162 [(0, .ref 110), (1, .int x1), (2, .int x2)] [] σ10 K
            refine z_aload_n (f := 0) (i := 0) (q := 0) (pc' := 163) ⟨by decide +kernel, rfl⟩ rfl rfl ?_
            refine w_getr (k := 110) (j := 49) (idx := 118) (pc' := 166) yfxe_13_118 ykfa_110_49 ⟨by decide +kernel, rfl⟩ ?_
            refine z_aload_n (f := 0) (i := 0) (q := 0) (pc' := 167) ⟨by decide +kernel, rfl⟩ rfl rfl ?_
            refine w_geti (k := 110) (j := 52) (idx := 549) (pc' := 170) yfxe_13_549 ykfa_110_52 ⟨by decide +kernel, rfl⟩ ?_
            refine z_iconst (i := 1) (v := 1) (pc' := 171) ⟨by decide +kernel, rfl⟩ (by decide) ?_
            obtain ⟨n11, hi11, hz11, h⟩ := h
            refine w_iast (k := 145) (n := n11) (pc' := 172) ykaa_145 (hi11) (hz11) ⟨by decide +kernel, rfl⟩ ?_
            generalize hs12 : zI σ10 145 n11 1 = σ12
            have h := h σ12 hs12
            refine z_aload_n (f := 0) (i := 0) (q := 0) (pc' := 173) ⟨by decide +kernel, rfl⟩ rfl rfl ?_
            refine w_getr (k := 110) (j := 48) (idx := 115) (pc' := 176) yfxe_13_115 ykfa_110_48 ⟨by decide +kernel, rfl⟩ ?_
            refine z_aload_n (f := 0) (i := 0) (q := 0) (pc' := 177) ⟨by decide +kernel, rfl⟩ rfl rfl ?_
            refine w_geti (k := 110) (j := 52) (idx := 549) (pc' := 180) yfxe_13_549 ykfa_110_52 ⟨by decide +kernel, rfl⟩ ?_
            refine z_iconst (i := 1) (v := 1) (pc' := 181) ⟨by decide +kernel, rfl⟩ (by decide) ?_
            obtain ⟨n13, hi13, hz13, h⟩ := h
            refine w_zast (k := 144) (n := n13) (pc' := 182) ykaa_144 (hi13) (hz13) (by decide) ⟨by decide +kernel, rfl⟩ ?_
            generalize hs14 : zI σ12 144 n13 1 = σ14
            have h := h σ14 hs14
            refine z_aload_n (f := 0) (i := 0) (q := 0) (pc' := 183) ⟨by decide +kernel, rfl⟩ rfl rfl ?_
            refine z_iconst (i := 1) (v := 1) (pc' := 184) ⟨by decide +kernel, rfl⟩ (by decide) ?_
            refine w_putz (k := 110) (j := 61) (idx := 582) (pc' := 187) yfxz_13_582 ykfa_110_61 (by decide) ⟨by decide +kernel, rfl⟩ ?_
            generalize hs15 : zI σ14 110 61 1 = σ15
            have h := h σ15 hs15
            refine z_goto (off := 329) (tgt := 516) (pc' := 190) ⟨by decide +kernel, by decide, rfl⟩ ?_
            refine z_aload_n (f := 0) (i := 0) (q := 0) (pc' := 517) ⟨by decide +kernel, rfl⟩ rfl rfl ?_
            refine w_geti (k := 110) (j := 58) (idx := 559) (pc' := 520) yfxe_13_559 ykfa_110_58 ⟨by decide +kernel, rfl⟩ ?_
            refine z_if_ge (off := 7) (tgt := 527) (pc' := 523) ⟨by decide +kernel, by decide, rfl⟩ (fun h16 => ?_) (fun h16 => ?_)
            · have h := h.1 (qi_ge_t rfl (by decide) h16)
              refine z_iconst (i := 0) (v := 0) (pc' := 528) ⟨by decide +kernel, rfl⟩ (by decide) ?_
              exact z_iret (ty := .boolean) rfl (by rfl) (by decide +kernel) (k _ _ h)
            · have h := h.2 (qi_ge_f rfl (by decide) h16)
              refine z_iconst (i := 1) (v := 1) (pc' := 524) ⟨by decide +kernel, rfl⟩ (by decide) ?_
              refine z_goto (off := 4) (tgt := 528) (pc' := 527) ⟨by decide +kernel, by decide, rfl⟩ ?_
              exact z_iret (ty := .boolean) rfl (by rfl) (by decide +kernel) (k _ _ h)

end
