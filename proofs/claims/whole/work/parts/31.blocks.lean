theorem b_H_feed_0 {E : xV} {σ : zS} {K : zKt} (x1 : Int32) (x2 : Int64) (h1 : (x1 < 1) → Wz E Y_H_feed 11 [(0, .ref 0), (1, .int x1), (2, .long x2)] [] σ K) (h2 : (¬ x1 < 1) → (x1 ≤ 8) → (((σ.1 0 1) + x1) ≤ 1200) → Wz E Y_H_feed 33 [(0, .ref 0), (1, .int x1), (2, .long x2), (4, .int (x1 - 1))] [] σ K) (h3 : (¬ x1 < 1) → (x1 ≤ 8) → (¬ ((σ.1 0 1) + x1) ≤ 1200) → K (some (.int (-3))) σ) (h4 : (¬ x1 < 1) → (¬ x1 ≤ 8) → Wz E Y_H_feed 11 [(0, .ref 0), (1, .int x1), (2, .long x2)] [] σ K) : Wz E Y_H_feed 0 [(0, .ref 0), (1, .int x1), (2, .long x2)] [] σ K := by
  refine z_iload_n (q := 1) d_H_feed_0 rfl rfl ?_
  refine z_iconst (v := 1) d_H_feed_1 (by decide) ?_
  refine z_icmp_lt (tgt := 11) d_H_feed_2 (fun c1 => ?_) (fun c1 => ?_)
  · exact h1 c1
  · refine z_iload_n (q := 1) d_H_feed_5 rfl rfl ?_
    refine z_bipush (v := 8) d_H_feed_6 (by decide) ?_
    refine z_icmp_le (tgt := 13) d_H_feed_8 (fun c2 => ?_) (fun c2 => ?_)
    · refine z_aload_n (q := 0) d_H_feed_13 rfl rfl ?_
      refine g_H_100 rfl d_H_feed_14 ?_
      refine z_iload_n (q := 1) d_H_feed_17 rfl rfl ?_
      refine z_iadd d_H_feed_18 ?_
      refine z_sipush (v := 1200) d_H_feed_19 (by decide) ?_
      refine z_icmp_le (tgt := 28) d_H_feed_22 (fun c3 => ?_) (fun c3 => ?_)
      · refine z_iload_n (q := 1) d_H_feed_28 rfl rfl ?_
        refine z_iconst (v := 1) d_H_feed_29 (by decide) ?_
        refine z_isub d_H_feed_30 ?_
        refine z_istore (lv' := [(4, .int (x1 - 1)), (0, .ref 0), (1, .int x1), (2, .long x2)]) d_H_feed_31 (by decide) rfl ?_
        refine z_sub [1, 2, 3, 0] rfl ?_
        exact h2 c1 c2 c3
      · refine z_bipush (v := (-3)) d_H_feed_25 (by decide) ?_
        exact z_iret rfl rfl d_H_feed_27 (h3 c1 c2 c3)
    · exact h4 c1 c2
theorem b_H_feed_11 {E : xV} {σ : zS} {K : zKt} (x1 : Int32) (x2 : Int64) (h1 : K (some (.int (-1))) σ) : Wz E Y_H_feed 11 [(0, .ref 0), (1, .int x1), (2, .long x2)] [] σ K := by
  refine z_iconst (v := (-1)) d_H_feed_11 (by decide) ?_
  exact z_iret rfl rfl d_H_feed_12 (h1)
theorem b_H_feed_33 {E : xV} {σ : zS} {K : zKt} (x1 : Int32) (x2 : Int64) (x4 : Int32) (h1 : (x4 < 0) → K (some (.int (σ.1 0 1))) σ) (h2 : (¬ x4 < 0) → vp_in (σ.1 0 1) 1200) (h3 : (¬ x4 < 0) → Wz E Y_H_feed 33 [(0, .ref 0), (1, .int x1), (2, .long x2), (4, .int (x4 + (-1)))] [] (zI (zI σ 1 (σ.1 0 1).toNatClampNeg ((Int64.toInt32 (j_lushr x2 (8 * x4))) &&& 255)) 0 1 (((zI σ 1 (σ.1 0 1).toNatClampNeg ((Int64.toInt32 (j_lushr x2 (8 * x4))) &&& 255)).1 0 1) + 1)) K) : Wz E Y_H_feed 33 [(0, .ref 0), (1, .int x1), (2, .long x2), (4, .int x4)] [] σ K := by
  refine z_iload (q := 3) d_H_feed_33 rfl ?_
  refine z_if_lt (tgt := 75) d_H_feed_35 (fun c1 => ?_) (fun c1 => ?_)
  · refine z_aload_n (q := 0) d_H_feed_75 rfl rfl ?_
    refine g_H_100 rfl d_H_feed_76 ?_
    exact z_iret rfl rfl d_H_feed_79 (h1 c1)
  · refine z_aload_n (q := 0) d_H_feed_38 rfl rfl ?_
    refine g_H_9 rfl d_H_feed_39 ?_
    refine z_aload_n (q := 0) d_H_feed_42 rfl rfl ?_
    refine g_H_100 rfl d_H_feed_43 ?_
    refine z_lload_n (q := 2) d_H_feed_46 rfl rfl ?_
    refine z_bipush (v := 8) d_H_feed_47 (by decide) ?_
    refine z_iload (q := 3) d_H_feed_49 rfl ?_
    refine z_imul d_H_feed_51 ?_
    refine z_lushr (v := (j_lushr x2 (8 * x4))) d_H_feed_52 rfl ?_
    refine z_l2i (v := (Int64.toInt32 (j_lushr x2 (8 * x4)))) d_H_feed_53 rfl ?_
    refine z_sipush (v := 255) d_H_feed_54 (by decide) ?_
    refine z_iand d_H_feed_57 ?_
    refine z_iast (k := 1) (z := 1200) (by decide) rfl (h2 c1) d_H_feed_58 ?_
    refine z_aload_n (q := 0) d_H_feed_59 rfl rfl ?_
    refine z_dupr d_H_feed_60 ?_
    refine g_H_100 rfl d_H_feed_61 ?_
    refine z_iconst (v := 1) d_H_feed_64 (by decide) ?_
    refine z_iadd d_H_feed_65 ?_
    refine p_H_100 rfl d_H_feed_66 ?_
    refine z_iinc (q := 3) (v := (x4 + (-1))) (lv' := [(4, .int (x4 + (-1))), (0, .ref 0), (1, .int x1), (2, .long x2)]) d_H_feed_69 rfl (j_inc rfl) (by decide) rfl ?_
    refine z_goto (tgt := 33) d_H_feed_72 ?_
    refine z_sub [1, 2, 3, 0] rfl ?_
    exact h3 c1
theorem b_H_cut_0 {E : xV} {σ : zS} {K : zKt} (x1 : Int32) (h1 : (x1 < 0) → Wz E Y_H_cut 12 [(0, .ref 0), (1, .int x1)] [] σ K) (h2 : (¬ x1 < 0) → (x1 ≤ (σ.1 0 1)) → K (some (.int ((σ.1 0 1) - x1))) (zI σ 0 1 x1)) (h3 : (¬ x1 < 0) → (¬ x1 ≤ (σ.1 0 1)) → Wz E Y_H_cut 12 [(0, .ref 0), (1, .int x1)] [] σ K) : Wz E Y_H_cut 0 [(0, .ref 0), (1, .int x1)] [] σ K := by
  refine z_iload_n (q := 1) d_H_cut_0 rfl rfl ?_
  refine z_if_lt (tgt := 12) d_H_cut_1 (fun c1 => ?_) (fun c1 => ?_)
  · exact h1 c1
  · refine z_iload_n (q := 1) d_H_cut_4 rfl rfl ?_
    refine z_aload_n (q := 0) d_H_cut_5 rfl rfl ?_
    refine g_H_100 rfl d_H_cut_6 ?_
    refine z_icmp_le (tgt := 14) d_H_cut_9 (fun c2 => ?_) (fun c2 => ?_)
    · refine z_aload_n (q := 0) d_H_cut_14 rfl rfl ?_
      refine g_H_100 rfl d_H_cut_15 ?_
      refine z_iload_n (q := 1) d_H_cut_18 rfl rfl ?_
      refine z_isub d_H_cut_19 ?_
      refine z_istore_n (lv' := [(2, .int ((σ.1 0 1) - x1)), (0, .ref 0), (1, .int x1)]) d_H_cut_20 rfl (by decide) rfl ?_
      refine z_aload_n (q := 1) d_H_cut_21 rfl rfl ?_
      refine z_iload_n (q := 2) d_H_cut_22 rfl rfl ?_
      refine p_H_100 rfl d_H_cut_23 ?_
      refine z_iload_n (q := 0) d_H_cut_26 rfl rfl ?_
      exact z_iret rfl rfl d_H_cut_27 (h2 c1 c2)
    · exact h3 c1 c2
theorem b_H_cut_12 {E : xV} {σ : zS} {K : zKt} (x1 : Int32) (h1 : K (some (.int (-1))) σ) : Wz E Y_H_cut 12 [(0, .ref 0), (1, .int x1)] [] σ K := by
  refine z_iconst (v := (-1)) d_H_cut_12 (by decide) ?_
  exact z_iret rfl rfl d_H_cut_13 (h1)
theorem b_H_tick_0 {E : xV} {σ : zS} {K : zKt} (x1 : Int32) (h1 : (x1 < 0) → Wz E Y_H_tick 10 [(0, .ref 0), (1, .int x1)] [] σ K) (h2 : (¬ x1 < 0) → (x1 ≤ 1000000) → (((σ.1 0 2) + x1) ≤ 1000000000) → K (some (.int ((zI σ 0 2 ((σ.1 0 2) + x1)).1 0 2))) (zI σ 0 2 ((σ.1 0 2) + x1))) (h3 : (¬ x1 < 0) → (x1 ≤ 1000000) → (¬ ((σ.1 0 2) + x1) ≤ 1000000000) → K (some (.int (-2))) σ) (h4 : (¬ x1 < 0) → (¬ x1 ≤ 1000000) → Wz E Y_H_tick 10 [(0, .ref 0), (1, .int x1)] [] σ K) : Wz E Y_H_tick 0 [(0, .ref 0), (1, .int x1)] [] σ K := by
  refine z_iload_n (q := 1) d_H_tick_0 rfl rfl ?_
  refine z_if_lt (tgt := 10) d_H_tick_1 (fun c1 => ?_) (fun c1 => ?_)
  · exact h1 c1
  · refine z_iload_n (q := 1) d_H_tick_4 rfl rfl ?_
    refine z_ldc (v := 1000000) d_H_tick_5 k_3_124 ?_
    refine z_icmp_le (tgt := 12) d_H_tick_7 (fun c2 => ?_) (fun c2 => ?_)
    · refine z_aload_n (q := 0) d_H_tick_12 rfl rfl ?_
      refine g_H_105 rfl d_H_tick_13 ?_
      refine z_iload_n (q := 1) d_H_tick_16 rfl rfl ?_
      refine z_iadd d_H_tick_17 ?_
      refine z_ldc (v := 1000000000) d_H_tick_18 k_3_125 ?_
      refine z_icmp_le (tgt := 26) d_H_tick_20 (fun c3 => ?_) (fun c3 => ?_)
      · refine z_aload_n (q := 0) d_H_tick_26 rfl rfl ?_
        refine z_dupr d_H_tick_27 ?_
        refine g_H_105 rfl d_H_tick_28 ?_
        refine z_iload_n (q := 1) d_H_tick_31 rfl rfl ?_
        refine z_iadd d_H_tick_32 ?_
        refine p_H_105 rfl d_H_tick_33 ?_
        refine z_aload_n (q := 0) d_H_tick_36 rfl rfl ?_
        refine g_H_105 rfl d_H_tick_37 ?_
        exact z_iret rfl rfl d_H_tick_40 (h2 c1 c2 c3)
      · refine z_bipush (v := (-2)) d_H_tick_23 (by decide) ?_
        exact z_iret rfl rfl d_H_tick_25 (h3 c1 c2 c3)
    · exact h4 c1 c2
theorem b_H_tick_10 {E : xV} {σ : zS} {K : zKt} (x1 : Int32) (h1 : K (some (.int (-1))) σ) : Wz E Y_H_tick 10 [(0, .ref 0), (1, .int x1)] [] σ K := by
  refine z_iconst (v := (-1)) d_H_tick_10 (by decide) ?_
  exact z_iret rfl rfl d_H_tick_11 (h1)
theorem b_H_isMoment_0 {E : xV} {σ : zS} {K : zKt} (x0 : Int32) (h1 : (x0 < 0) → Wz E Y_H_isMoment 14 [(0, .int x0)] [] σ K) (h2 : (¬ x0 < 0) → (1000000000 < x0) → Wz E Y_H_isMoment 14 [(0, .int x0)] [] σ K) (h3 : (¬ x0 < 0) → (¬ 1000000000 < x0) → Wz E Y_H_isMoment 15 [(0, .int x0)] [.int 1] σ K) : Wz E Y_H_isMoment 0 [(0, .int x0)] [] σ K := by
  refine z_iload_n (q := 0) d_H_isMoment_0 rfl rfl ?_
  refine z_if_lt (tgt := 14) d_H_isMoment_1 (fun c1 => ?_) (fun c1 => ?_)
  · exact h1 c1
  · refine z_iload_n (q := 0) d_H_isMoment_4 rfl rfl ?_
    refine z_ldc (v := 1000000000) d_H_isMoment_5 k_3_125 ?_
    refine z_icmp_gt (tgt := 14) d_H_isMoment_7 (fun c2 => ?_) (fun c2 => ?_)
    · exact h2 c1 c2
    · refine z_iconst (v := 1) d_H_isMoment_10 (by decide) ?_
      refine z_goto (tgt := 15) d_H_isMoment_11 ?_
      exact h3 c1 c2
theorem b_H_isMoment_14 {E : xV} {σ : zS} {K : zKt} (x0 : Int32) (h1 : Wz E Y_H_isMoment 15 [(0, .int x0)] [.int 0] σ K) : Wz E Y_H_isMoment 14 [(0, .int x0)] [] σ K := by
  refine z_iconst (v := 0) d_H_isMoment_14 (by decide) ?_
  exact h1
theorem b_H_isMoment_15 {E : xV} {σ : zS} {K : zKt} (x0 : Int32) (s0 : Int32) (h1 : narrow .boolean (.int s0) = .int s0) (h2 : K (some (.int s0)) σ) : Wz E Y_H_isMoment 15 [(0, .int x0)] [.int s0] σ K := by
  exact z_iret rfl (h1) d_H_isMoment_15 (h2)
theorem b_H_person_0 {E : xV} {σ : zS} {K : zKt}  (h1 : ((σ.1 5 0) < 20) → K (some (.int (((zI σ 5 0 ((σ.1 5 0) + 1)).1 5 0) - 1))) (zI σ 5 0 ((σ.1 5 0) + 1))) (h2 : (¬ (σ.1 5 0) < 20) → K (some (.int (-3))) σ) : Wz E Y_H_person 0 [(0, .ref 0)] [] σ K := by
  refine z_aload_n (q := 0) d_H_person_0 rfl rfl ?_
  refine g_H_25 rfl d_H_person_1 ?_
  refine g_H_109 rfl d_H_person_4 ?_
  refine z_bipush (v := 20) d_H_person_7 (by decide) ?_
  refine z_icmp_lt (tgt := 15) d_H_person_9 (fun c1 => ?_) (fun c1 => ?_)
  · refine z_aload_n (q := 0) d_H_person_15 rfl rfl ?_
    refine g_H_25 rfl d_H_person_16 ?_
    refine z_dupr d_H_person_19 ?_
    refine g_H_109 rfl d_H_person_20 ?_
    refine z_iconst (v := 1) d_H_person_23 (by decide) ?_
    refine z_iadd d_H_person_24 ?_
    refine p_H_109 rfl d_H_person_25 ?_
    refine z_aload_n (q := 0) d_H_person_28 rfl rfl ?_
    refine g_H_25 rfl d_H_person_29 ?_
    refine g_H_109 rfl d_H_person_32 ?_
    refine z_iconst (v := 1) d_H_person_35 (by decide) ?_
    refine z_isub d_H_person_36 ?_
    exact z_iret rfl rfl d_H_person_37 (h1 c1)
  · refine z_bipush (v := (-3)) d_H_person_12 (by decide) ?_
    exact z_iret rfl rfl d_H_person_14 (h2 c1)
theorem b_H_belongs_0 {E : xV} {σ : zS} {K : zKt} (x1 : Int32) (x2 : Int32) (x3 : Int32) (x4 : Int32) (h1 : Cz E Y_Wh_isPerson [.ref 5, .int x1] σ (fun v τ => Wz E Y_H_belongs 8 [(0, .ref 0), (1, .int x1), (2, .int x2), (3, .int x3), (4, .int x4)] (v.toList ++ []) τ K)) : Wz E Y_H_belongs 0 [(0, .ref 0), (1, .int x1), (2, .int x2), (3, .int x3), (4, .int x4)] [] σ K := by
  refine z_aload_n (q := 0) d_H_belongs_0 rfl rfl ?_
  refine g_H_25 rfl d_H_belongs_1 ?_
  refine z_iload_n (q := 1) d_H_belongs_4 rfl rfl ?_
  exact i_H_146 rfl ⟨⟨Nat.le_of_ble_eq_true rfl, Nat.le_of_ble_eq_true rfl⟩, rfl, rfl⟩ d_H_belongs_5 (Nat.le_of_ble_eq_true rfl) rfl rfl (h1)
theorem b_H_belongs_8 {E : xV} {σ : zS} {K : zKt} (x1 : Int32) (x2 : Int32) (x3 : Int32) (x4 : Int32) (s0 : Int32) (h1 : (s0 = 0) → Wz E Y_H_belongs 37 [(0, .ref 0), (1, .int x1), (2, .int x2), (3, .int x3), (4, .int x4)] [] σ K) (h2 : (¬ s0 = 0) → Cz E Y_Wh_isGroup [.ref 5, .int x2] σ (fun v τ => Wz E Y_H_belongs 19 [(0, .ref 0), (1, .int x1), (2, .int x2), (3, .int x3), (4, .int x4)] (v.toList ++ []) τ K)) : Wz E Y_H_belongs 8 [(0, .ref 0), (1, .int x1), (2, .int x2), (3, .int x3), (4, .int x4)] [.int s0] σ K := by
  refine z_if_eq (tgt := 37) d_H_belongs_8 (fun c1 => ?_) (fun c1 => ?_)
  · exact h1 c1
  · refine z_aload_n (q := 0) d_H_belongs_11 rfl rfl ?_
    refine g_H_25 rfl d_H_belongs_12 ?_
    refine z_iload_n (q := 2) d_H_belongs_15 rfl rfl ?_
    exact i_H_119 rfl ⟨⟨Nat.le_of_ble_eq_true rfl, Nat.le_of_ble_eq_true rfl⟩, rfl, rfl⟩ d_H_belongs_16 (Nat.le_of_ble_eq_true rfl) rfl rfl (h2 c1)
theorem b_H_belongs_19 {E : xV} {σ : zS} {K : zKt} (x1 : Int32) (x2 : Int32) (x3 : Int32) (x4 : Int32) (s0 : Int32) (h1 : (s0 = 0) → Wz E Y_H_belongs 37 [(0, .ref 0), (1, .int x1), (2, .int x2), (3, .int x3), (4, .int x4)] [] σ K) (h2 : (¬ s0 = 0) → Cz E Y_H_isMoment [.int x3] σ (fun v τ => Wz E Y_H_belongs 26 [(0, .ref 0), (1, .int x1), (2, .int x2), (3, .int x3), (4, .int x4)] (v.toList ++ []) τ K)) : Wz E Y_H_belongs 19 [(0, .ref 0), (1, .int x1), (2, .int x2), (3, .int x3), (4, .int x4)] [.int s0] σ K := by
  refine z_if_eq (tgt := 37) d_H_belongs_19 (fun c1 => ?_) (fun c1 => ?_)
  · exact h1 c1
  · refine z_iload_n (q := 3) d_H_belongs_22 rfl rfl ?_
    exact i_H_122 rfl ⟨⟨Nat.le_of_ble_eq_true rfl, Nat.le_of_ble_eq_true rfl⟩, rfl, rfl⟩ d_H_belongs_23 (Nat.le_of_ble_eq_true rfl) rfl rfl (h2 c1)
theorem b_H_belongs_26 {E : xV} {σ : zS} {K : zKt} (x1 : Int32) (x2 : Int32) (x3 : Int32) (x4 : Int32) (s0 : Int32) (h1 : (s0 = 0) → Wz E Y_H_belongs 37 [(0, .ref 0), (1, .int x1), (2, .int x2), (3, .int x3), (4, .int x4)] [] σ K) (h2 : (¬ s0 = 0) → Cz E Y_H_isMoment [.int x4] σ (fun v τ => Wz E Y_H_belongs 34 [(0, .ref 0), (1, .int x1), (2, .int x2), (3, .int x3), (4, .int x4)] (v.toList ++ []) τ K)) : Wz E Y_H_belongs 26 [(0, .ref 0), (1, .int x1), (2, .int x2), (3, .int x3), (4, .int x4)] [.int s0] σ K := by
  refine z_if_eq (tgt := 37) d_H_belongs_26 (fun c1 => ?_) (fun c1 => ?_)
  · exact h1 c1
  · refine z_iload (q := 4) d_H_belongs_29 rfl ?_
    exact i_H_122 rfl ⟨⟨Nat.le_of_ble_eq_true rfl, Nat.le_of_ble_eq_true rfl⟩, rfl, rfl⟩ d_H_belongs_31 (Nat.le_of_ble_eq_true rfl) rfl rfl (h2 c1)
theorem b_H_belongs_34 {E : xV} {σ : zS} {K : zKt} (x1 : Int32) (x2 : Int32) (x3 : Int32) (x4 : Int32) (s0 : Int32) (h1 : (¬ s0 = 0) → Cz E Y_Wh_groupsOf [.ref 5, .int x1, .int x3, .int x4] σ (fun v τ => Wz E Y_H_belongs 50 [(0, .ref 0), (1, .int x1), (2, .int x2), (3, .int x3), (4, .int x4)] (v.toList ++ []) τ K)) (h2 : (s0 = 0) → Wz E Y_H_belongs 37 [(0, .ref 0), (1, .int x1), (2, .int x2), (3, .int x3), (4, .int x4)] [] σ K) : Wz E Y_H_belongs 34 [(0, .ref 0), (1, .int x1), (2, .int x2), (3, .int x3), (4, .int x4)] [.int s0] σ K := by
  refine z_if_ne (tgt := 39) d_H_belongs_34 (fun c1 => ?_) (fun c1 => ?_)
  · refine z_aload_n (q := 0) d_H_belongs_39 rfl rfl ?_
    refine g_H_25 rfl d_H_belongs_40 ?_
    refine z_iload_n (q := 1) d_H_belongs_43 rfl rfl ?_
    refine z_iload_n (q := 3) d_H_belongs_44 rfl rfl ?_
    refine z_iload (q := 4) d_H_belongs_45 rfl ?_
    exact i_H_149 rfl ⟨⟨Nat.le_of_ble_eq_true rfl, Nat.le_of_ble_eq_true rfl⟩, rfl, rfl⟩ d_H_belongs_47 (Nat.le_of_ble_eq_true rfl) rfl rfl (h1 c1)
  · exact h2 c1
theorem b_H_belongs_37 {E : xV} {σ : zS} {K : zKt} (x1 : Int32) (x2 : Int32) (x3 : Int32) (x4 : Int32) (h1 : K (some (.int (-1))) σ) : Wz E Y_H_belongs 37 [(0, .ref 0), (1, .int x1), (2, .int x2), (3, .int x3), (4, .int x4)] [] σ K := by
  refine z_iconst (v := (-1)) d_H_belongs_37 (by decide) ?_
  exact z_iret rfl rfl d_H_belongs_38 (h1)
theorem b_H_belongs_50 {E : xV} {σ : zS} {K : zKt} (x1 : Int32) (x2 : Int32) (x3 : Int32) (x4 : Int32) (s0 : Int32) (h1 : K (some (.int ((s0 >>> (x2 &&& 31)) &&& 1))) σ) : Wz E Y_H_belongs 50 [(0, .ref 0), (1, .int x1), (2, .int x2), (3, .int x3), (4, .int x4)] [.int s0] σ K := by
  refine z_iload_n (q := 2) d_H_belongs_50 rfl rfl ?_
  refine z_ishr d_H_belongs_51 ?_
  refine z_iconst (v := 1) d_H_belongs_52 (by decide) ?_
  refine z_iand d_H_belongs_53 ?_
  exact z_iret rfl rfl d_H_belongs_54 (h1)
theorem b_Wh_isPerson_0 {E : xV} {σ : zS} {K : zKt} (x1 : Int32) (h1 : (x1 < 0) → Wz E Y_Wh_isPerson 16 [(0, .ref 5), (1, .int x1)] [] σ K) (h2 : (¬ x1 < 0) → ((σ.1 5 0) ≤ x1) → Wz E Y_Wh_isPerson 16 [(0, .ref 5), (1, .int x1)] [] σ K) (h3 : (¬ x1 < 0) → (¬ (σ.1 5 0) ≤ x1) → Wz E Y_Wh_isPerson 17 [(0, .ref 5), (1, .int x1)] [.int 1] σ K) : Wz E Y_Wh_isPerson 0 [(0, .ref 5), (1, .int x1)] [] σ K := by
  refine z_iload_n (q := 1) d_Wh_isPerson_0 rfl rfl ?_
  refine z_if_lt (tgt := 16) d_Wh_isPerson_1 (fun c1 => ?_) (fun c1 => ?_)
  · exact h1 c1
  · refine z_iload_n (q := 1) d_Wh_isPerson_4 rfl rfl ?_
    refine z_aload_n (q := 0) d_Wh_isPerson_5 rfl rfl ?_
    refine g_Wh_27 rfl d_Wh_isPerson_6 ?_
    refine z_icmp_ge (tgt := 16) d_Wh_isPerson_9 (fun c2 => ?_) (fun c2 => ?_)
    · exact h2 c1 c2
    · refine z_iconst (v := 1) d_Wh_isPerson_12 (by decide) ?_
      refine z_goto (tgt := 17) d_Wh_isPerson_13 ?_
      exact h3 c1 c2
theorem b_Wh_isPerson_16 {E : xV} {σ : zS} {K : zKt} (x1 : Int32) (h1 : Wz E Y_Wh_isPerson 17 [(0, .ref 5), (1, .int x1)] [.int 0] σ K) : Wz E Y_Wh_isPerson 16 [(0, .ref 5), (1, .int x1)] [] σ K := by
  refine z_iconst (v := 0) d_Wh_isPerson_16 (by decide) ?_
  exact h1
theorem b_Wh_isPerson_17 {E : xV} {σ : zS} {K : zKt} (x1 : Int32) (s0 : Int32) (h1 : narrow .boolean (.int s0) = .int s0) (h2 : K (some (.int s0)) σ) : Wz E Y_Wh_isPerson 17 [(0, .ref 5), (1, .int x1)] [.int s0] σ K := by
  exact z_iret rfl (h1) d_Wh_isPerson_17 (h2)
theorem b_Wh_isGroup_0 {E : xV} {σ : zS} {K : zKt} (x1 : Int32) (h1 : (x1 < 0) → Wz E Y_Wh_isGroup 16 [(0, .ref 5), (1, .int x1)] [] σ K) (h2 : (¬ x1 < 0) → ((σ.1 5 1) ≤ x1) → Wz E Y_Wh_isGroup 16 [(0, .ref 5), (1, .int x1)] [] σ K) (h3 : (¬ x1 < 0) → (¬ (σ.1 5 1) ≤ x1) → Wz E Y_Wh_isGroup 17 [(0, .ref 5), (1, .int x1)] [.int 1] σ K) : Wz E Y_Wh_isGroup 0 [(0, .ref 5), (1, .int x1)] [] σ K := by
  refine z_iload_n (q := 1) d_Wh_isGroup_0 rfl rfl ?_
  refine z_if_lt (tgt := 16) d_Wh_isGroup_1 (fun c1 => ?_) (fun c1 => ?_)
  · exact h1 c1
  · refine z_iload_n (q := 1) d_Wh_isGroup_4 rfl rfl ?_
    refine z_aload_n (q := 0) d_Wh_isGroup_5 rfl rfl ?_
    refine g_Wh_31 rfl d_Wh_isGroup_6 ?_
    refine z_icmp_ge (tgt := 16) d_Wh_isGroup_9 (fun c2 => ?_) (fun c2 => ?_)
    · exact h2 c1 c2
    · refine z_iconst (v := 1) d_Wh_isGroup_12 (by decide) ?_
      refine z_goto (tgt := 17) d_Wh_isGroup_13 ?_
      exact h3 c1 c2
theorem b_Wh_isGroup_16 {E : xV} {σ : zS} {K : zKt} (x1 : Int32) (h1 : Wz E Y_Wh_isGroup 17 [(0, .ref 5), (1, .int x1)] [.int 0] σ K) : Wz E Y_Wh_isGroup 16 [(0, .ref 5), (1, .int x1)] [] σ K := by
  refine z_iconst (v := 0) d_Wh_isGroup_16 (by decide) ?_
  exact h1
theorem b_Wh_isGroup_17 {E : xV} {σ : zS} {K : zKt} (x1 : Int32) (s0 : Int32) (h1 : narrow .boolean (.int s0) = .int s0) (h2 : K (some (.int s0)) σ) : Wz E Y_Wh_isGroup 17 [(0, .ref 5), (1, .int x1)] [.int s0] σ K := by
  exact z_iret rfl (h1) d_Wh_isGroup_17 (h2)
theorem b_Wh_isMember_0 {E : xV} {σ : zS} {K : zKt} (x1 : Int32) (h1 : Cz E Y_Wh_isPerson [.ref 5, .int x1] σ (fun v τ => Wz E Y_Wh_isMember 5 [(0, .ref 5), (1, .int x1)] (v.toList ++ []) τ K)) : Wz E Y_Wh_isMember 0 [(0, .ref 5), (1, .int x1)] [] σ K := by
  refine z_aload_n (q := 0) d_Wh_isMember_0 rfl rfl ?_
  refine z_iload_n (q := 1) d_Wh_isMember_1 rfl rfl ?_
  exact i_Wh_34 rfl ⟨⟨Nat.le_of_ble_eq_true rfl, Nat.le_of_ble_eq_true rfl⟩, rfl, rfl⟩ d_Wh_isMember_2 (Nat.le_of_ble_eq_true rfl) rfl rfl (h1)
theorem b_Wh_isMember_5 {E : xV} {σ : zS} {K : zKt} (x1 : Int32) (s0 : Int32) (h1 : (¬ s0 = 0) → Wz E Y_Wh_isMember 25 [(0, .ref 5), (1, .int x1)] [] σ K) (h2 : (s0 = 0) → (x1 < 100) → Wz E Y_Wh_isMember 29 [(0, .ref 5), (1, .int x1)] [] σ K) (h3 : (s0 = 0) → (¬ x1 < 100) → Cz E Y_Wh_isGroup [.ref 5, .int (x1 - 100)] σ (fun v τ => Wz E Y_Wh_isMember 22 [(0, .ref 5), (1, .int x1)] (v.toList ++ []) τ K)) : Wz E Y_Wh_isMember 5 [(0, .ref 5), (1, .int x1)] [.int s0] σ K := by
  refine z_if_ne (tgt := 25) d_Wh_isMember_5 (fun c1 => ?_) (fun c1 => ?_)
  · exact h1 c1
  · refine z_iload_n (q := 1) d_Wh_isMember_8 rfl rfl ?_
    refine z_bipush (v := 100) d_Wh_isMember_9 (by decide) ?_
    refine z_icmp_lt (tgt := 29) d_Wh_isMember_11 (fun c2 => ?_) (fun c2 => ?_)
    · exact h2 c1 c2
    · refine z_aload_n (q := 0) d_Wh_isMember_14 rfl rfl ?_
      refine z_iload_n (q := 1) d_Wh_isMember_15 rfl rfl ?_
      refine z_bipush (v := 100) d_Wh_isMember_16 (by decide) ?_
      refine z_isub d_Wh_isMember_18 ?_
      exact i_Wh_38 rfl ⟨⟨Nat.le_of_ble_eq_true rfl, Nat.le_of_ble_eq_true rfl⟩, rfl, rfl⟩ d_Wh_isMember_19 (Nat.le_of_ble_eq_true rfl) rfl rfl (h3 c1 c2)
theorem b_Wh_isMember_22 {E : xV} {σ : zS} {K : zKt} (x1 : Int32) (s0 : Int32) (h1 : (s0 = 0) → Wz E Y_Wh_isMember 29 [(0, .ref 5), (1, .int x1)] [] σ K) (h2 : (¬ s0 = 0) → Wz E Y_Wh_isMember 25 [(0, .ref 5), (1, .int x1)] [] σ K) : Wz E Y_Wh_isMember 22 [(0, .ref 5), (1, .int x1)] [.int s0] σ K := by
  refine z_if_eq (tgt := 29) d_Wh_isMember_22 (fun c1 => ?_) (fun c1 => ?_)
  · exact h1 c1
  · exact h2 c1
theorem b_Wh_isMember_25 {E : xV} {σ : zS} {K : zKt} (x1 : Int32) (h1 : Wz E Y_Wh_isMember 30 [(0, .ref 5), (1, .int x1)] [.int 1] σ K) : Wz E Y_Wh_isMember 25 [(0, .ref 5), (1, .int x1)] [] σ K := by
  refine z_iconst (v := 1) d_Wh_isMember_25 (by decide) ?_
  refine z_goto (tgt := 30) d_Wh_isMember_26 ?_
  exact h1
theorem b_Wh_isMember_29 {E : xV} {σ : zS} {K : zKt} (x1 : Int32) (h1 : Wz E Y_Wh_isMember 30 [(0, .ref 5), (1, .int x1)] [.int 0] σ K) : Wz E Y_Wh_isMember 29 [(0, .ref 5), (1, .int x1)] [] σ K := by
  refine z_iconst (v := 0) d_Wh_isMember_29 (by decide) ?_
  exact h1
theorem b_Wh_isMember_30 {E : xV} {σ : zS} {K : zKt} (x1 : Int32) (s0 : Int32) (h1 : narrow .boolean (.int s0) = .int s0) (h2 : K (some (.int s0)) σ) : Wz E Y_Wh_isMember 30 [(0, .ref 5), (1, .int x1)] [.int s0] σ K := by
  exact z_iret rfl (h1) d_Wh_isMember_30 (h2)
theorem b_Wh_addRow_0 {E : xV} {σ : zS} {K : zKt} (x1 : Int32) (x2 : Int32) (x3 : Int32) (x4 : Int32) (x5 : Int32) (h1 : vp_in (((σ.1 5 2) * 6) + 0) 1206) (h2 : vp_in (((σ.1 5 2) * 6) + 1) 1206) (h3 : vp_in (((σ.1 5 2) * 6) + 2) 1206) (h4 : vp_in (((σ.1 5 2) * 6) + 3) 1206) (h5 : vp_in (((σ.1 5 2) * 6) + 4) 1206) (h6 : vp_in (((σ.1 5 2) * 6) + 5) 1206) (h7 : K (some (.int (((zI (zI (zI (zI (zI (zI (zI σ 6 (((σ.1 5 2) * 6) + 0).toNatClampNeg x1) 6 (((σ.1 5 2) * 6) + 1).toNatClampNeg x2) 6 (((σ.1 5 2) * 6) + 2).toNatClampNeg x3) 6 (((σ.1 5 2) * 6) + 3).toNatClampNeg x4) 6 (((σ.1 5 2) * 6) + 4).toNatClampNeg x5) 6 (((σ.1 5 2) * 6) + 5).toNatClampNeg (-4)) 5 2 (((zI (zI (zI (zI (zI (zI σ 6 (((σ.1 5 2) * 6) + 0).toNatClampNeg x1) 6 (((σ.1 5 2) * 6) + 1).toNatClampNeg x2) 6 (((σ.1 5 2) * 6) + 2).toNatClampNeg x3) 6 (((σ.1 5 2) * 6) + 3).toNatClampNeg x4) 6 (((σ.1 5 2) * 6) + 4).toNatClampNeg x5) 6 (((σ.1 5 2) * 6) + 5).toNatClampNeg (-4)).1 5 2) + 1)).1 5 2) - 1))) (zI (zI (zI (zI (zI (zI (zI σ 6 (((σ.1 5 2) * 6) + 0).toNatClampNeg x1) 6 (((σ.1 5 2) * 6) + 1).toNatClampNeg x2) 6 (((σ.1 5 2) * 6) + 2).toNatClampNeg x3) 6 (((σ.1 5 2) * 6) + 3).toNatClampNeg x4) 6 (((σ.1 5 2) * 6) + 4).toNatClampNeg x5) 6 (((σ.1 5 2) * 6) + 5).toNatClampNeg (-4)) 5 2 (((zI (zI (zI (zI (zI (zI σ 6 (((σ.1 5 2) * 6) + 0).toNatClampNeg x1) 6 (((σ.1 5 2) * 6) + 1).toNatClampNeg x2) 6 (((σ.1 5 2) * 6) + 2).toNatClampNeg x3) 6 (((σ.1 5 2) * 6) + 3).toNatClampNeg x4) 6 (((σ.1 5 2) * 6) + 4).toNatClampNeg x5) 6 (((σ.1 5 2) * 6) + 5).toNatClampNeg (-4)).1 5 2) + 1))) : Wz E Y_Wh_addRow 0 [(0, .ref 5), (1, .int x1), (2, .int x2), (3, .int x3), (4, .int x4), (5, .int x5)] [] σ K := by
  refine z_aload_n (q := 0) d_Wh_addRow_0 rfl rfl ?_
  refine g_Wh_41 rfl d_Wh_addRow_1 ?_
  refine z_bipush (v := 6) d_Wh_addRow_4 (by decide) ?_
  refine z_imul d_Wh_addRow_6 ?_
  refine z_istore (lv' := [(6, .int ((σ.1 5 2) * 6)), (0, .ref 5), (1, .int x1), (2, .int x2), (3, .int x3), (4, .int x4), (5, .int x5)]) d_Wh_addRow_7 (by decide) rfl ?_
  refine z_aload_n (q := 1) d_Wh_addRow_9 rfl rfl ?_
  refine g_Wh_13 rfl d_Wh_addRow_10 ?_
  refine z_iload (q := 0) d_Wh_addRow_13 rfl ?_
  refine z_iconst (v := 0) d_Wh_addRow_15 (by decide) ?_
  refine z_iadd d_Wh_addRow_16 ?_
  refine z_iload_n (q := 2) d_Wh_addRow_17 rfl rfl ?_
  refine z_iast (k := 6) (z := 1206) (by decide) rfl (h1) d_Wh_addRow_18 ?_
  refine z_aload_n (q := 1) d_Wh_addRow_19 rfl rfl ?_
  refine g_Wh_13 rfl d_Wh_addRow_20 ?_
  refine z_iload (q := 0) d_Wh_addRow_23 rfl ?_
  refine z_iconst (v := 1) d_Wh_addRow_25 (by decide) ?_
  refine z_iadd d_Wh_addRow_26 ?_
  refine z_iload_n (q := 3) d_Wh_addRow_27 rfl rfl ?_
  refine z_iast (k := 6) (z := 1206) (by decide) rfl (h2) d_Wh_addRow_28 ?_
  refine z_aload_n (q := 1) d_Wh_addRow_29 rfl rfl ?_
  refine g_Wh_13 rfl d_Wh_addRow_30 ?_
  refine z_iload (q := 0) d_Wh_addRow_33 rfl ?_
  refine z_iconst (v := 2) d_Wh_addRow_35 (by decide) ?_
  refine z_iadd d_Wh_addRow_36 ?_
  refine z_iload_n (q := 4) d_Wh_addRow_37 rfl rfl ?_
  refine z_iast (k := 6) (z := 1206) (by decide) rfl (h3) d_Wh_addRow_38 ?_
  refine z_aload_n (q := 1) d_Wh_addRow_39 rfl rfl ?_
  refine g_Wh_13 rfl d_Wh_addRow_40 ?_
  refine z_iload (q := 0) d_Wh_addRow_43 rfl ?_
  refine z_iconst (v := 3) d_Wh_addRow_45 (by decide) ?_
  refine z_iadd d_Wh_addRow_46 ?_
  refine z_iload (q := 5) d_Wh_addRow_47 rfl ?_
  refine z_iast (k := 6) (z := 1206) (by decide) rfl (h4) d_Wh_addRow_49 ?_
  refine z_aload_n (q := 1) d_Wh_addRow_50 rfl rfl ?_
  refine g_Wh_13 rfl d_Wh_addRow_51 ?_
  refine z_iload (q := 0) d_Wh_addRow_54 rfl ?_
  refine z_iconst (v := 4) d_Wh_addRow_56 (by decide) ?_
  refine z_iadd d_Wh_addRow_57 ?_
  refine z_iload (q := 6) d_Wh_addRow_58 rfl ?_
  refine z_iast (k := 6) (z := 1206) (by decide) rfl (h5) d_Wh_addRow_60 ?_
  refine z_aload_n (q := 1) d_Wh_addRow_61 rfl rfl ?_
  refine g_Wh_13 rfl d_Wh_addRow_62 ?_
  refine z_iload (q := 0) d_Wh_addRow_65 rfl ?_
  refine z_iconst (v := 5) d_Wh_addRow_67 (by decide) ?_
  refine z_iadd d_Wh_addRow_68 ?_
  refine z_bipush (v := (-4)) d_Wh_addRow_69 (by decide) ?_
  refine z_iast (k := 6) (z := 1206) (by decide) rfl (h6) d_Wh_addRow_71 ?_
  refine z_aload_n (q := 1) d_Wh_addRow_72 rfl rfl ?_
  refine z_dupr d_Wh_addRow_73 ?_
  refine g_Wh_41 rfl d_Wh_addRow_74 ?_
  refine z_iconst (v := 1) d_Wh_addRow_77 (by decide) ?_
  refine z_iadd d_Wh_addRow_78 ?_
  refine p_Wh_41 rfl d_Wh_addRow_79 ?_
  refine z_aload_n (q := 1) d_Wh_addRow_82 rfl rfl ?_
  refine g_Wh_41 rfl d_Wh_addRow_83 ?_
  refine z_iconst (v := 1) d_Wh_addRow_86 (by decide) ?_
  refine z_isub d_Wh_addRow_87 ?_
  exact z_iret rfl rfl d_Wh_addRow_88 (h7)
theorem b_Wh_isLasting_0 {E : xV} {σ : zS} {K : zKt} (x1 : Int32) (h1 : vp_in ((x1 * 6) + 5) 1206) (h2 : (¬ (σ.1 6 ((x1 * 6) + 5).toNatClampNeg) = (-4)) → Wz E Y_Wh_isLasting 21 [(0, .ref 5), (1, .int x1)] [.int 0] σ K) (h3 : ((σ.1 6 ((x1 * 6) + 5).toNatClampNeg) = (-4)) → Wz E Y_Wh_isLasting 21 [(0, .ref 5), (1, .int x1)] [.int 1] σ K) : Wz E Y_Wh_isLasting 0 [(0, .ref 5), (1, .int x1)] [] σ K := by
  refine z_aload_n (q := 0) d_Wh_isLasting_0 rfl rfl ?_
  refine g_Wh_13 rfl d_Wh_isLasting_1 ?_
  refine z_iload_n (q := 1) d_Wh_isLasting_4 rfl rfl ?_
  refine z_bipush (v := 6) d_Wh_isLasting_5 (by decide) ?_
  refine z_imul d_Wh_isLasting_7 ?_
  refine z_iconst (v := 5) d_Wh_isLasting_8 (by decide) ?_
  refine z_iadd d_Wh_isLasting_9 ?_
  refine z_iald (k := 6) (z := 1206) (by decide) rfl (h1) d_Wh_isLasting_10 ?_
  refine z_bipush (v := (-4)) d_Wh_isLasting_11 (by decide) ?_
  refine z_icmp_ne (tgt := 20) d_Wh_isLasting_13 (fun c1 => ?_) (fun c1 => ?_)
  · refine z_iconst (v := 0) d_Wh_isLasting_20 (by decide) ?_
    exact h2 c1
  · refine z_iconst (v := 1) d_Wh_isLasting_16 (by decide) ?_
    refine z_goto (tgt := 21) d_Wh_isLasting_17 ?_
    exact h3 c1
theorem b_Wh_isLasting_21 {E : xV} {σ : zS} {K : zKt} (x1 : Int32) (s0 : Int32) (h1 : narrow .boolean (.int s0) = .int s0) (h2 : K (some (.int s0)) σ) : Wz E Y_Wh_isLasting 21 [(0, .ref 5), (1, .int x1)] [.int s0] σ K := by
  exact z_iret rfl (h1) d_Wh_isLasting_21 (h2)
theorem b_Wh_endRow_0 {E : xV} {σ : zS} {K : zKt} (x1 : Int32) (x2 : Int32) (h1 : vp_in ((x1 * 6) + 5) 1206) (h2 : K none (zI σ 6 ((x1 * 6) + 5).toNatClampNeg x2)) : Wz E Y_Wh_endRow 0 [(0, .ref 5), (1, .int x1), (2, .int x2)] [] σ K := by
  refine z_aload_n (q := 0) d_Wh_endRow_0 rfl rfl ?_
  refine g_Wh_13 rfl d_Wh_endRow_1 ?_
  refine z_iload_n (q := 1) d_Wh_endRow_4 rfl rfl ?_
  refine z_bipush (v := 6) d_Wh_endRow_5 (by decide) ?_
  refine z_imul d_Wh_endRow_7 ?_
  refine z_iconst (v := 5) d_Wh_endRow_8 (by decide) ?_
  refine z_iadd d_Wh_endRow_9 ?_
  refine z_iload_n (q := 2) d_Wh_endRow_10 rfl rfl ?_
  refine z_iast (k := 6) (z := 1206) (by decide) rfl (h1) d_Wh_endRow_11 ?_
  exact z_vret rfl d_Wh_endRow_12 (h2)
theorem b_Wh_endRows_0 {E : xV} {σ : zS} {K : zKt} (x1 : Int32) (x2 : Int32) (x3 : Int32) (h1 : Wz E Y_Wh_endRows 6 [(0, .ref 5), (1, .int x1), (2, .int x2), (3, .int x3), (4, .int 0), (5, .int 0)] [] σ K) : Wz E Y_Wh_endRows 0 [(0, .ref 5), (1, .int x1), (2, .int x2), (3, .int x3)] [] σ K := by
  refine z_iconst (v := 0) d_Wh_endRows_0 (by decide) ?_
  refine z_istore (lv' := [(4, .int 0), (0, .ref 5), (1, .int x1), (2, .int x2), (3, .int x3)]) d_Wh_endRows_1 (by decide) rfl ?_
  refine z_iconst (v := 0) d_Wh_endRows_3 (by decide) ?_
  refine z_istore (lv' := [(5, .int 0), (4, .int 0), (0, .ref 5), (1, .int x1), (2, .int x2), (3, .int x3)]) d_Wh_endRows_4 (by decide) rfl ?_
  refine z_sub [2, 3, 4, 5, 1, 0] rfl ?_
  exact h1
theorem b_Wh_endRows_6 {E : xV} {σ : zS} {K : zKt} (x1 : Int32) (x2 : Int32) (x3 : Int32) (x4 : Int32) (x5 : Int32) (h1 : ((σ.1 5 2) ≤ x5) → K (some (.int x4)) σ) (h2 : (¬ (σ.1 5 2) ≤ x5) → vp_in ((x5 * 6) + 0) 1206) (h3 : (¬ (σ.1 5 2) ≤ x5) → (¬ (σ.1 6 ((x5 * 6) + 0).toNatClampNeg) = x1) → Wz E Y_Wh_endRows 67 [(0, .ref 5), (1, .int x1), (2, .int x2), (3, .int x3), (4, .int x4), (5, .int x5), (6, .int (x5 * 6))] [] σ K) (h4 : (¬ (σ.1 5 2) ≤ x5) → ((σ.1 6 ((x5 * 6) + 0).toNatClampNeg) = x1) → vp_in ((x5 * 6) + 1) 1206) (h5 : (¬ (σ.1 5 2) ≤ x5) → ((σ.1 6 ((x5 * 6) + 0).toNatClampNeg) = x1) → (¬ (σ.1 6 ((x5 * 6) + 1).toNatClampNeg) = x2) → Wz E Y_Wh_endRows 67 [(0, .ref 5), (1, .int x1), (2, .int x2), (3, .int x3), (4, .int x4), (5, .int x5), (6, .int (x5 * 6))] [] σ K) (h6 : (¬ (σ.1 5 2) ≤ x5) → ((σ.1 6 ((x5 * 6) + 0).toNatClampNeg) = x1) → ((σ.1 6 ((x5 * 6) + 1).toNatClampNeg) = x2) → Cz E Y_Wh_isLasting [.ref 5, .int x5] σ (fun v τ => Wz E Y_Wh_endRows 54 [(0, .ref 5), (1, .int x1), (2, .int x2), (3, .int x3), (4, .int x4), (5, .int x5), (6, .int (x5 * 6))] (v.toList ++ []) τ K)) : Wz E Y_Wh_endRows 6 [(0, .ref 5), (1, .int x1), (2, .int x2), (3, .int x3), (4, .int x4), (5, .int x5)] [] σ K := by
  refine z_iload (q := 5) d_Wh_endRows_6 rfl ?_
  refine z_aload_n (q := 0) d_Wh_endRows_8 rfl rfl ?_
  refine g_Wh_41 rfl d_Wh_endRows_9 ?_
  refine z_icmp_ge (tgt := 73) d_Wh_endRows_12 (fun c1 => ?_) (fun c1 => ?_)
  · refine z_iload (q := 4) d_Wh_endRows_73 rfl ?_
    exact z_iret rfl rfl d_Wh_endRows_75 (h1 c1)
  · refine z_iload (q := 5) d_Wh_endRows_15 rfl ?_
    refine z_bipush (v := 6) d_Wh_endRows_17 (by decide) ?_
    refine z_imul d_Wh_endRows_19 ?_
    refine z_istore (lv' := [(6, .int (x5 * 6)), (0, .ref 5), (1, .int x1), (2, .int x2), (3, .int x3), (4, .int x4), (5, .int x5)]) d_Wh_endRows_20 (by decide) rfl ?_
    refine z_aload_n (q := 1) d_Wh_endRows_22 rfl rfl ?_
    refine g_Wh_13 rfl d_Wh_endRows_23 ?_
    refine z_iload (q := 0) d_Wh_endRows_26 rfl ?_
    refine z_iconst (v := 0) d_Wh_endRows_28 (by decide) ?_
    refine z_iadd d_Wh_endRows_29 ?_
    refine z_iald (k := 6) (z := 1206) (by decide) rfl (h2 c1) d_Wh_endRows_30 ?_
    refine z_iload_n (q := 2) d_Wh_endRows_31 rfl rfl ?_
    refine z_icmp_ne (tgt := 67) d_Wh_endRows_32 (fun c2 => ?_) (fun c2 => ?_)
    · refine z_sub [1, 2, 3, 4, 5, 6, 0] rfl ?_
      exact h3 c1 c2
    · refine z_aload_n (q := 1) d_Wh_endRows_35 rfl rfl ?_
      refine g_Wh_13 rfl d_Wh_endRows_36 ?_
      refine z_iload (q := 0) d_Wh_endRows_39 rfl ?_
      refine z_iconst (v := 1) d_Wh_endRows_41 (by decide) ?_
      refine z_iadd d_Wh_endRows_42 ?_
      refine z_iald (k := 6) (z := 1206) (by decide) rfl (h4 c1 c2) d_Wh_endRows_43 ?_
      refine z_iload_n (q := 3) d_Wh_endRows_44 rfl rfl ?_
      refine z_icmp_ne (tgt := 67) d_Wh_endRows_45 (fun c3 => ?_) (fun c3 => ?_)
      · refine z_sub [1, 2, 3, 4, 5, 6, 0] rfl ?_
        exact h5 c1 c2 c3
      · refine z_aload_n (q := 1) d_Wh_endRows_48 rfl rfl ?_
        refine z_iload (q := 6) d_Wh_endRows_49 rfl ?_
        refine z_sub [1, 2, 3, 4, 5, 6, 0] rfl ?_
        exact i_Wh_44 rfl ⟨⟨Nat.le_of_ble_eq_true rfl, Nat.le_of_ble_eq_true rfl⟩, rfl, rfl⟩ d_Wh_endRows_51 (Nat.le_of_ble_eq_true rfl) rfl rfl (h6 c1 c2 c3)
theorem b_Wh_endRows_54 {E : xV} {σ : zS} {K : zKt} (x1 : Int32) (x2 : Int32) (x3 : Int32) (x4 : Int32) (x5 : Int32) (x6 : Int32) (s0 : Int32) (h1 : (s0 = 0) → Wz E Y_Wh_endRows 67 [(0, .ref 5), (1, .int x1), (2, .int x2), (3, .int x3), (4, .int x4), (5, .int x5), (6, .int x6)] [] σ K) (h2 : (¬ s0 = 0) → Cz E Y_Wh_endRow [.ref 5, .int x5, .int x3] σ (fun v τ => Wz E Y_Wh_endRows 64 [(0, .ref 5), (1, .int x1), (2, .int x2), (3, .int x3), (4, .int x4), (5, .int x5), (6, .int x6)] (v.toList ++ []) τ K)) : Wz E Y_Wh_endRows 54 [(0, .ref 5), (1, .int x1), (2, .int x2), (3, .int x3), (4, .int x4), (5, .int x5), (6, .int x6)] [.int s0] σ K := by
  refine z_if_eq (tgt := 67) d_Wh_endRows_54 (fun c1 => ?_) (fun c1 => ?_)
  · exact h1 c1
  · refine z_aload_n (q := 0) d_Wh_endRows_57 rfl rfl ?_
    refine z_iload (q := 5) d_Wh_endRows_58 rfl ?_
    refine z_iload_n (q := 3) d_Wh_endRows_60 rfl rfl ?_
    exact i_Wh_47 rfl ⟨⟨Nat.le_of_ble_eq_true rfl, Nat.le_of_ble_eq_true rfl⟩, rfl, rfl⟩ d_Wh_endRows_61 (Nat.le_of_ble_eq_true rfl) rfl rfl (h2 c1)
theorem b_Wh_endRows_64 {E : xV} {σ : zS} {K : zKt} (x1 : Int32) (x2 : Int32) (x3 : Int32) (x4 : Int32) (x5 : Int32) (x6 : Int32) (h1 : Wz E Y_Wh_endRows 67 [(0, .ref 5), (1, .int x1), (2, .int x2), (3, .int x3), (4, .int (x4 + 1)), (5, .int x5), (6, .int x6)] [] σ K) : Wz E Y_Wh_endRows 64 [(0, .ref 5), (1, .int x1), (2, .int x2), (3, .int x3), (4, .int x4), (5, .int x5), (6, .int x6)] [] σ K := by
  refine z_iinc (q := 4) (v := (x4 + 1)) (lv' := [(4, .int (x4 + 1)), (0, .ref 5), (1, .int x1), (2, .int x2), (3, .int x3), (5, .int x5), (6, .int x6)]) d_Wh_endRows_64 rfl (j_inc rfl) (by decide) rfl ?_
  refine z_sub [1, 2, 3, 4, 0, 5, 6] rfl ?_
  exact h1
theorem b_Wh_endRows_67 {E : xV} {σ : zS} {K : zKt} (x1 : Int32) (x2 : Int32) (x3 : Int32) (x4 : Int32) (x5 : Int32) (x6 : Int32) (h1 : Wz E Y_Wh_endRows 6 [(0, .ref 5), (1, .int x1), (2, .int x2), (3, .int x3), (4, .int x4), (5, .int (x5 + 1))] [] σ K) : Wz E Y_Wh_endRows 67 [(0, .ref 5), (1, .int x1), (2, .int x2), (3, .int x3), (4, .int x4), (5, .int x5), (6, .int x6)] [] σ K := by
  refine z_iinc (q := 5) (v := (x5 + 1)) (lv' := [(5, .int (x5 + 1)), (0, .ref 5), (1, .int x1), (2, .int x2), (3, .int x3), (4, .int x4), (6, .int x6)]) d_Wh_endRows_67 rfl (j_inc rfl) (by decide) rfl ?_
  refine z_goto (tgt := 6) d_Wh_endRows_70 ?_
  refine z_sub [1, 2, 3, 4, 5, 0] rfl ?_
  exact h1
theorem b_Wh_counts_0 {E : xV} {σ : zS} {K : zKt} (x1 : Int32) (x2 : Int32) (x3 : Int32) (h1 : (¬ x2 = (-1)) → vp_in ((x1 * 6) + 2) 1206) (h2 : (¬ x2 = (-1)) → (x2 < (σ.1 6 ((x1 * 6) + 2).toNatClampNeg)) → Wz E Y_Wh_counts 47 [(0, .ref 5), (1, .int x1), (2, .int x2), (3, .int x3), (4, .int (x1 * 6))] [] σ K) (h3 : (¬ x2 = (-1)) → (¬ x2 < (σ.1 6 ((x1 * 6) + 2).toNatClampNeg)) → vp_in ((x1 * 6) + 3) 1206) (h4 : (¬ x2 = (-1)) → (¬ x2 < (σ.1 6 ((x1 * 6) + 2).toNatClampNeg)) → ((σ.1 6 ((x1 * 6) + 3).toNatClampNeg) ≤ x2) → Wz E Y_Wh_counts 47 [(0, .ref 5), (1, .int x1), (2, .int x2), (3, .int x3), (4, .int (x1 * 6))] [] σ K) (h5 : (¬ x2 = (-1)) → (¬ x2 < (σ.1 6 ((x1 * 6) + 2).toNatClampNeg)) → (¬ (σ.1 6 ((x1 * 6) + 3).toNatClampNeg) ≤ x2) → Wz E Y_Wh_counts 48 [(0, .ref 5), (1, .int x1), (2, .int x2), (3, .int x3), (4, .int (x1 * 6))] [.int 1] σ K) (h6 : (x2 = (-1)) → Cz E Y_Wh_isLasting [.ref 5, .int x1] σ (fun v τ => Wz E Y_Wh_counts 10 [(0, .ref 5), (1, .int x1), (2, .int x2), (3, .int x3)] (v.toList ++ []) τ K)) : Wz E Y_Wh_counts 0 [(0, .ref 5), (1, .int x1), (2, .int x2), (3, .int x3)] [] σ K := by
  refine z_iload_n (q := 2) d_Wh_counts_0 rfl rfl ?_
  refine z_iconst (v := (-1)) d_Wh_counts_1 (by decide) ?_
  refine z_icmp_ne (tgt := 11) d_Wh_counts_2 (fun c1 => ?_) (fun c1 => ?_)
  · refine z_iload_n (q := 1) d_Wh_counts_11 rfl rfl ?_
    refine z_bipush (v := 6) d_Wh_counts_12 (by decide) ?_
    refine z_imul d_Wh_counts_14 ?_
    refine z_istore (lv' := [(4, .int (x1 * 6)), (0, .ref 5), (1, .int x1), (2, .int x2), (3, .int x3)]) d_Wh_counts_15 (by decide) rfl ?_
    refine z_aload_n (q := 1) d_Wh_counts_17 rfl rfl ?_
    refine g_Wh_13 rfl d_Wh_counts_18 ?_
    refine z_iload (q := 0) d_Wh_counts_21 rfl ?_
    refine z_iconst (v := 2) d_Wh_counts_23 (by decide) ?_
    refine z_iadd d_Wh_counts_24 ?_
    refine z_iald (k := 6) (z := 1206) (by decide) rfl (h1 c1) d_Wh_counts_25 ?_
    refine z_iload_n (q := 3) d_Wh_counts_26 rfl rfl ?_
    refine z_icmp_gt (tgt := 47) d_Wh_counts_27 (fun c2 => ?_) (fun c2 => ?_)
    · refine z_sub [1, 2, 3, 4, 0] rfl ?_
      exact h2 c1 c2
    · refine z_iload_n (q := 3) d_Wh_counts_30 rfl rfl ?_
      refine z_aload_n (q := 1) d_Wh_counts_31 rfl rfl ?_
      refine g_Wh_13 rfl d_Wh_counts_32 ?_
      refine z_iload (q := 0) d_Wh_counts_35 rfl ?_
      refine z_iconst (v := 3) d_Wh_counts_37 (by decide) ?_
      refine z_iadd d_Wh_counts_38 ?_
      refine z_iald (k := 6) (z := 1206) (by decide) rfl (h3 c1 c2) d_Wh_counts_39 ?_
      refine z_icmp_ge (tgt := 47) d_Wh_counts_40 (fun c3 => ?_) (fun c3 => ?_)
      · refine z_sub [1, 2, 3, 4, 0] rfl ?_
        exact h4 c1 c2 c3
      · refine z_iconst (v := 1) d_Wh_counts_43 (by decide) ?_
        refine z_goto (tgt := 48) d_Wh_counts_44 ?_
        refine z_sub [1, 2, 3, 4, 0] rfl ?_
        exact h5 c1 c2 c3
  · refine z_aload_n (q := 0) d_Wh_counts_5 rfl rfl ?_
    refine z_iload_n (q := 1) d_Wh_counts_6 rfl rfl ?_
    exact i_Wh_44 rfl ⟨⟨Nat.le_of_ble_eq_true rfl, Nat.le_of_ble_eq_true rfl⟩, rfl, rfl⟩ d_Wh_counts_7 (Nat.le_of_ble_eq_true rfl) rfl rfl (h6 c1)
theorem b_Wh_counts_10 {E : xV} {σ : zS} {K : zKt} (x1 : Int32) (x2 : Int32) (x3 : Int32) (s0 : Int32) (h1 : narrow .boolean (.int s0) = .int s0) (h2 : K (some (.int s0)) σ) : Wz E Y_Wh_counts 10 [(0, .ref 5), (1, .int x1), (2, .int x2), (3, .int x3)] [.int s0] σ K := by
  exact z_iret rfl (h1) d_Wh_counts_10 (h2)
theorem b_Wh_counts_47 {E : xV} {σ : zS} {K : zKt} (x1 : Int32) (x2 : Int32) (x3 : Int32) (x4 : Int32) (h1 : Wz E Y_Wh_counts 48 [(0, .ref 5), (1, .int x1), (2, .int x2), (3, .int x3), (4, .int x4)] [.int 0] σ K) : Wz E Y_Wh_counts 47 [(0, .ref 5), (1, .int x1), (2, .int x2), (3, .int x3), (4, .int x4)] [] σ K := by
  refine z_iconst (v := 0) d_Wh_counts_47 (by decide) ?_
  exact h1
theorem b_Wh_counts_48 {E : xV} {σ : zS} {K : zKt} (x1 : Int32) (x2 : Int32) (x3 : Int32) (x4 : Int32) (s0 : Int32) (h1 : (s0 = 0) → Wz E Y_Wh_counts 93 [(0, .ref 5), (1, .int x1), (2, .int x2), (3, .int x3), (4, .int x4), (5, .int s0)] [] σ K) (h2 : (¬ s0 = 0) → vp_in (x4 + 4) 1206) (h3 : (¬ s0 = 0) → (x3 < (σ.1 6 (x4 + 4).toNatClampNeg)) → Wz E Y_Wh_counts 93 [(0, .ref 5), (1, .int x1), (2, .int x2), (3, .int x3), (4, .int x4), (5, .int s0)] [] σ K) (h4 : (¬ s0 = 0) → (¬ x3 < (σ.1 6 (x4 + 4).toNatClampNeg)) → Cz E Y_Wh_isLasting [.ref 5, .int x1] σ (fun v τ => Wz E Y_Wh_counts 73 [(0, .ref 5), (1, .int x1), (2, .int x2), (3, .int x3), (4, .int x4), (5, .int s0)] (v.toList ++ []) τ K)) : Wz E Y_Wh_counts 48 [(0, .ref 5), (1, .int x1), (2, .int x2), (3, .int x3), (4, .int x4)] [.int s0] σ K := by
  refine z_istore (lv' := [(5, .int s0), (0, .ref 5), (1, .int x1), (2, .int x2), (3, .int x3), (4, .int x4)]) d_Wh_counts_48 (by decide) rfl ?_
  refine z_iload (q := 0) d_Wh_counts_50 rfl ?_
  refine z_if_eq (tgt := 93) d_Wh_counts_52 (fun c1 => ?_) (fun c1 => ?_)
  · refine z_sub [1, 2, 3, 4, 5, 0] rfl ?_
    exact h1 c1
  · refine z_aload_n (q := 1) d_Wh_counts_55 rfl rfl ?_
    refine g_Wh_13 rfl d_Wh_counts_56 ?_
    refine z_iload (q := 5) d_Wh_counts_59 rfl ?_
    refine z_iconst (v := 4) d_Wh_counts_61 (by decide) ?_
    refine z_iadd d_Wh_counts_62 ?_
    refine z_iald (k := 6) (z := 1206) (by decide) rfl (h2 c1) d_Wh_counts_63 ?_
    refine z_iload_n (q := 4) d_Wh_counts_64 rfl rfl ?_
    refine z_icmp_gt (tgt := 93) d_Wh_counts_65 (fun c2 => ?_) (fun c2 => ?_)
    · refine z_sub [1, 2, 3, 4, 5, 0] rfl ?_
      exact h3 c1 c2
    · refine z_aload_n (q := 1) d_Wh_counts_68 rfl rfl ?_
      refine z_iload_n (q := 2) d_Wh_counts_69 rfl rfl ?_
      refine z_sub [1, 2, 3, 4, 5, 0] rfl ?_
      exact i_Wh_44 rfl ⟨⟨Nat.le_of_ble_eq_true rfl, Nat.le_of_ble_eq_true rfl⟩, rfl, rfl⟩ d_Wh_counts_70 (Nat.le_of_ble_eq_true rfl) rfl rfl (h4 c1 c2)
theorem b_Wh_counts_73 {E : xV} {σ : zS} {K : zKt} (x1 : Int32) (x2 : Int32) (x3 : Int32) (x4 : Int32) (x5 : Int32) (s0 : Int32) (h1 : (¬ s0 = 0) → Wz E Y_Wh_counts 89 [(0, .ref 5), (1, .int x1), (2, .int x2), (3, .int x3), (4, .int x4), (5, .int x5)] [] σ K) (h2 : (s0 = 0) → vp_in (x4 + 5) 1206) (h3 : (s0 = 0) → ((σ.1 6 (x4 + 5).toNatClampNeg) ≤ x3) → Wz E Y_Wh_counts 93 [(0, .ref 5), (1, .int x1), (2, .int x2), (3, .int x3), (4, .int x4), (5, .int x5)] [] σ K) (h4 : (s0 = 0) → (¬ (σ.1 6 (x4 + 5).toNatClampNeg) ≤ x3) → Wz E Y_Wh_counts 89 [(0, .ref 5), (1, .int x1), (2, .int x2), (3, .int x3), (4, .int x4), (5, .int x5)] [] σ K) : Wz E Y_Wh_counts 73 [(0, .ref 5), (1, .int x1), (2, .int x2), (3, .int x3), (4, .int x4), (5, .int x5)] [.int s0] σ K := by
  refine z_if_ne (tgt := 89) d_Wh_counts_73 (fun c1 => ?_) (fun c1 => ?_)
  · exact h1 c1
  · refine z_iload_n (q := 3) d_Wh_counts_76 rfl rfl ?_
    refine z_aload_n (q := 0) d_Wh_counts_77 rfl rfl ?_
    refine g_Wh_13 rfl d_Wh_counts_78 ?_
    refine z_iload (q := 4) d_Wh_counts_81 rfl ?_
    refine z_iconst (v := 5) d_Wh_counts_83 (by decide) ?_
    refine z_iadd d_Wh_counts_84 ?_
    refine z_iald (k := 6) (z := 1206) (by decide) rfl (h2 c1) d_Wh_counts_85 ?_
    refine z_icmp_ge (tgt := 93) d_Wh_counts_86 (fun c2 => ?_) (fun c2 => ?_)
    · exact h3 c1 c2
    · exact h4 c1 c2
theorem b_Wh_counts_89 {E : xV} {σ : zS} {K : zKt} (x1 : Int32) (x2 : Int32) (x3 : Int32) (x4 : Int32) (x5 : Int32) (h1 : Wz E Y_Wh_counts 94 [(0, .ref 5), (1, .int x1), (2, .int x2), (3, .int x3), (4, .int x4), (5, .int x5)] [.int 1] σ K) : Wz E Y_Wh_counts 89 [(0, .ref 5), (1, .int x1), (2, .int x2), (3, .int x3), (4, .int x4), (5, .int x5)] [] σ K := by
  refine z_iconst (v := 1) d_Wh_counts_89 (by decide) ?_
  refine z_goto (tgt := 94) d_Wh_counts_90 ?_
  exact h1
theorem b_Wh_counts_93 {E : xV} {σ : zS} {K : zKt} (x1 : Int32) (x2 : Int32) (x3 : Int32) (x4 : Int32) (x5 : Int32) (h1 : Wz E Y_Wh_counts 94 [(0, .ref 5), (1, .int x1), (2, .int x2), (3, .int x3), (4, .int x4), (5, .int x5)] [.int 0] σ K) : Wz E Y_Wh_counts 93 [(0, .ref 5), (1, .int x1), (2, .int x2), (3, .int x3), (4, .int x4), (5, .int x5)] [] σ K := by
  refine z_iconst (v := 0) d_Wh_counts_93 (by decide) ?_
  exact h1
theorem b_Wh_counts_94 {E : xV} {σ : zS} {K : zKt} (x1 : Int32) (x2 : Int32) (x3 : Int32) (x4 : Int32) (x5 : Int32) (s0 : Int32) (h1 : narrow .boolean (.int s0) = .int s0) (h2 : K (some (.int s0)) σ) : Wz E Y_Wh_counts 94 [(0, .ref 5), (1, .int x1), (2, .int x2), (3, .int x3), (4, .int x4), (5, .int x5)] [.int s0] σ K := by
  exact z_iret rfl (h1) d_Wh_counts_94 (h2)
theorem b_Wh_groupsOf_0 {E : xV} {σ : zS} {K : zKt} (x1 : Int32) (x2 : Int32) (x3 : Int32) (h1 : Wz E Y_Wh_groupsOf 6 [(0, .ref 5), (1, .int x1), (2, .int x2), (3, .int x3), (4, .int 0), (5, .int 0)] [] σ K) : Wz E Y_Wh_groupsOf 0 [(0, .ref 5), (1, .int x1), (2, .int x2), (3, .int x3)] [] σ K := by
  refine z_iconst (v := 0) d_Wh_groupsOf_0 (by decide) ?_
  refine z_istore (lv' := [(4, .int 0), (0, .ref 5), (1, .int x1), (2, .int x2), (3, .int x3)]) d_Wh_groupsOf_1 (by decide) rfl ?_
  refine z_iconst (v := 0) d_Wh_groupsOf_3 (by decide) ?_
  refine z_istore (lv' := [(5, .int 0), (4, .int 0), (0, .ref 5), (1, .int x1), (2, .int x2), (3, .int x3)]) d_Wh_groupsOf_4 (by decide) rfl ?_
  refine z_sub [2, 3, 4, 5, 1, 0] rfl ?_
  exact h1
theorem b_Wh_groupsOf_6 {E : xV} {σ : zS} {K : zKt} (x1 : Int32) (x2 : Int32) (x3 : Int32) (x4 : Int32) (x5 : Int32) (h1 : ((σ.1 5 2) ≤ x5) → (¬ x4 = 0) → Cz E Y_Wh_reachedFrom [.ref 5, .int x4, .int x2, .int x3] σ (fun v τ => Wz E Y_Wh_groupsOf 84 [(0, .ref 5), (1, .int x1), (2, .int x2), (3, .int x3), (4, .int x4), (5, .int x5)] (v.toList ++ []) τ K)) (h2 : ((σ.1 5 2) ≤ x5) → (x4 = 0) → Wz E Y_Wh_groupsOf 84 [(0, .ref 5), (1, .int x1), (2, .int x2), (3, .int x3), (4, .int x4), (5, .int x5)] [.int 0] σ K) (h3 : (¬ (σ.1 5 2) ≤ x5) → vp_in ((x5 * 6) + 0) 1206) (h4 : (¬ (σ.1 5 2) ≤ x5) → (¬ (σ.1 6 ((x5 * 6) + 0).toNatClampNeg) = x1) → Wz E Y_Wh_groupsOf 61 [(0, .ref 5), (1, .int x1), (2, .int x2), (3, .int x3), (4, .int x4), (5, .int x5)] [] σ K) (h5 : (¬ (σ.1 5 2) ≤ x5) → ((σ.1 6 ((x5 * 6) + 0).toNatClampNeg) = x1) → Cz E Y_Wh_counts [.ref 5, .int x5, .int x2, .int x3] σ (fun v τ => Wz E Y_Wh_groupsOf 39 [(0, .ref 5), (1, .int x1), (2, .int x2), (3, .int x3), (4, .int x4), (5, .int x5)] (v.toList ++ []) τ K)) : Wz E Y_Wh_groupsOf 6 [(0, .ref 5), (1, .int x1), (2, .int x2), (3, .int x3), (4, .int x4), (5, .int x5)] [] σ K := by
  refine z_iload (q := 5) d_Wh_groupsOf_6 rfl ?_
  refine z_aload_n (q := 0) d_Wh_groupsOf_8 rfl rfl ?_
  refine g_Wh_41 rfl d_Wh_groupsOf_9 ?_
  refine z_icmp_ge (tgt := 67) d_Wh_groupsOf_12 (fun c1 => ?_) (fun c1 => ?_)
  · refine z_iload (q := 4) d_Wh_groupsOf_67 rfl ?_
    refine z_if_ne (tgt := 76) d_Wh_groupsOf_69 (fun c2 => ?_) (fun c2 => ?_)
    · refine z_aload_n (q := 0) d_Wh_groupsOf_76 rfl rfl ?_
      refine z_iload (q := 4) d_Wh_groupsOf_77 rfl ?_
      refine z_iload_n (q := 2) d_Wh_groupsOf_79 rfl rfl ?_
      refine z_iload_n (q := 3) d_Wh_groupsOf_80 rfl rfl ?_
      exact i_Wh_55 rfl ⟨⟨Nat.le_of_ble_eq_true rfl, Nat.le_of_ble_eq_true rfl⟩, rfl, rfl⟩ d_Wh_groupsOf_81 (Nat.le_of_ble_eq_true rfl) rfl rfl (h1 c1 c2)
    · refine z_iconst (v := 0) d_Wh_groupsOf_72 (by decide) ?_
      refine z_goto (tgt := 84) d_Wh_groupsOf_73 ?_
      exact h2 c1 c2
  · refine z_aload_n (q := 0) d_Wh_groupsOf_15 rfl rfl ?_
    refine g_Wh_13 rfl d_Wh_groupsOf_16 ?_
    refine z_iload (q := 5) d_Wh_groupsOf_19 rfl ?_
    refine z_bipush (v := 6) d_Wh_groupsOf_21 (by decide) ?_
    refine z_imul d_Wh_groupsOf_23 ?_
    refine z_iconst (v := 0) d_Wh_groupsOf_24 (by decide) ?_
    refine z_iadd d_Wh_groupsOf_25 ?_
    refine z_iald (k := 6) (z := 1206) (by decide) rfl (h3 c1) d_Wh_groupsOf_26 ?_
    refine z_iload_n (q := 1) d_Wh_groupsOf_27 rfl rfl ?_
    refine z_icmp_ne (tgt := 61) d_Wh_groupsOf_28 (fun c3 => ?_) (fun c3 => ?_)
    · exact h4 c1 c3
    · refine z_aload_n (q := 0) d_Wh_groupsOf_31 rfl rfl ?_
      refine z_iload (q := 5) d_Wh_groupsOf_32 rfl ?_
      refine z_iload_n (q := 2) d_Wh_groupsOf_34 rfl rfl ?_
      refine z_iload_n (q := 3) d_Wh_groupsOf_35 rfl rfl ?_
      exact i_Wh_51 rfl ⟨⟨Nat.le_of_ble_eq_true rfl, Nat.le_of_ble_eq_true rfl⟩, rfl, rfl⟩ d_Wh_groupsOf_36 (Nat.le_of_ble_eq_true rfl) rfl rfl (h5 c1 c3)
theorem b_Wh_groupsOf_39 {E : xV} {σ : zS} {K : zKt} (x1 : Int32) (x2 : Int32) (x3 : Int32) (x4 : Int32) (x5 : Int32) (s0 : Int32) (h1 : (s0 = 0) → Wz E Y_Wh_groupsOf 61 [(0, .ref 5), (1, .int x1), (2, .int x2), (3, .int x3), (4, .int x4), (5, .int x5)] [] σ K) (h2 : (¬ s0 = 0) → vp_in ((x5 * 6) + 1) 1206) (h3 : (¬ s0 = 0) → Wz E Y_Wh_groupsOf 61 [(0, .ref 5), (1, .int x1), (2, .int x2), (3, .int x3), (4, .int (x4 ||| (1 <<< ((σ.1 6 ((x5 * 6) + 1).toNatClampNeg) &&& 31)))), (5, .int x5)] [] σ K) : Wz E Y_Wh_groupsOf 39 [(0, .ref 5), (1, .int x1), (2, .int x2), (3, .int x3), (4, .int x4), (5, .int x5)] [.int s0] σ K := by
  refine z_if_eq (tgt := 61) d_Wh_groupsOf_39 (fun c1 => ?_) (fun c1 => ?_)
  · exact h1 c1
  · refine z_iload (q := 4) d_Wh_groupsOf_42 rfl ?_
    refine z_iconst (v := 1) d_Wh_groupsOf_44 (by decide) ?_
    refine z_aload_n (q := 0) d_Wh_groupsOf_45 rfl rfl ?_
    refine g_Wh_13 rfl d_Wh_groupsOf_46 ?_
    refine z_iload (q := 5) d_Wh_groupsOf_49 rfl ?_
    refine z_bipush (v := 6) d_Wh_groupsOf_51 (by decide) ?_
    refine z_imul d_Wh_groupsOf_53 ?_
    refine z_iconst (v := 1) d_Wh_groupsOf_54 (by decide) ?_
    refine z_iadd d_Wh_groupsOf_55 ?_
    refine z_iald (k := 6) (z := 1206) (by decide) rfl (h2 c1) d_Wh_groupsOf_56 ?_
    refine z_ishl d_Wh_groupsOf_57 ?_
    refine z_ior d_Wh_groupsOf_58 ?_
    refine z_istore (lv' := [(4, .int (x4 ||| (1 <<< ((σ.1 6 ((x5 * 6) + 1).toNatClampNeg) &&& 31)))), (0, .ref 5), (1, .int x1), (2, .int x2), (3, .int x3), (5, .int x5)]) d_Wh_groupsOf_59 (by decide) rfl ?_
    refine z_sub [1, 2, 3, 4, 0, 5] rfl ?_
    exact h3 c1
theorem b_Wh_groupsOf_61 {E : xV} {σ : zS} {K : zKt} (x1 : Int32) (x2 : Int32) (x3 : Int32) (x4 : Int32) (x5 : Int32) (h1 : Wz E Y_Wh_groupsOf 6 [(0, .ref 5), (1, .int x1), (2, .int x2), (3, .int x3), (4, .int x4), (5, .int (x5 + 1))] [] σ K) : Wz E Y_Wh_groupsOf 61 [(0, .ref 5), (1, .int x1), (2, .int x2), (3, .int x3), (4, .int x4), (5, .int x5)] [] σ K := by
  refine z_iinc (q := 5) (v := (x5 + 1)) (lv' := [(5, .int (x5 + 1)), (0, .ref 5), (1, .int x1), (2, .int x2), (3, .int x3), (4, .int x4)]) d_Wh_groupsOf_61 rfl (j_inc rfl) (by decide) rfl ?_
  refine z_goto (tgt := 6) d_Wh_groupsOf_64 ?_
  refine z_sub [1, 2, 3, 4, 5, 0] rfl ?_
  exact h1
theorem b_Wh_groupsOf_84 {E : xV} {σ : zS} {K : zKt} (x1 : Int32) (x2 : Int32) (x3 : Int32) (x4 : Int32) (x5 : Int32) (s0 : Int32) (h1 : K (some (.int s0)) σ) : Wz E Y_Wh_groupsOf 84 [(0, .ref 5), (1, .int x1), (2, .int x2), (3, .int x3), (4, .int x4), (5, .int x5)] [.int s0] σ K := by
  exact z_iret rfl rfl d_Wh_groupsOf_84 (h1)
theorem b_Wh_reachedFrom_0 {E : xV} {σ : zS} {K : zKt} (x1 : Int32) (x2 : Int32) (x3 : Int32) (h1 : Wz E Y_Wh_reachedFrom 6 [(0, .ref 5), (1, .int x1), (2, .int x2), (3, .int x3), (4, .int x1), (5, .int 0)] [] σ K) : Wz E Y_Wh_reachedFrom 0 [(0, .ref 5), (1, .int x1), (2, .int x2), (3, .int x3)] [] σ K := by
  refine z_iload_n (q := 1) d_Wh_reachedFrom_0 rfl rfl ?_
  refine z_istore (lv' := [(4, .int x1), (0, .ref 5), (1, .int x1), (2, .int x2), (3, .int x3)]) d_Wh_reachedFrom_1 (by decide) rfl ?_
  refine z_iconst (v := 0) d_Wh_reachedFrom_3 (by decide) ?_
  refine z_istore (lv' := [(5, .int 0), (4, .int x1), (0, .ref 5), (1, .int x1), (2, .int x2), (3, .int x3)]) d_Wh_reachedFrom_4 (by decide) rfl ?_
  refine z_sub [2, 3, 4, 5, 1, 0] rfl ?_
  exact h1
theorem b_Wh_reachedFrom_6 {E : xV} {σ : zS} {K : zKt} (x1 : Int32) (x2 : Int32) (x3 : Int32) (x4 : Int32) (x5 : Int32) (h1 : (16 ≤ x5) → Wz E Y_Wh_reachedFrom 92 [(0, .ref 5), (1, .int x1), (2, .int x2), (3, .int x3), (4, .int x4), (5, .int x5)] [] σ K) (h2 : (¬ 16 ≤ x5) → Wz E Y_Wh_reachedFrom 20 [(0, .ref 5), (1, .int x1), (2, .int x2), (3, .int x3), (4, .int x4), (5, .int x5), (6, .int x4), (7, .int 0)] [] σ K) : Wz E Y_Wh_reachedFrom 6 [(0, .ref 5), (1, .int x1), (2, .int x2), (3, .int x3), (4, .int x4), (5, .int x5)] [] σ K := by
  refine z_iload (q := 5) d_Wh_reachedFrom_6 rfl ?_
  refine z_bipush (v := 16) d_Wh_reachedFrom_8 (by decide) ?_
  refine z_icmp_ge (tgt := 92) d_Wh_reachedFrom_10 (fun c1 => ?_) (fun c1 => ?_)
  · exact h1 c1
  · refine z_iload (q := 4) d_Wh_reachedFrom_13 rfl ?_
    refine z_istore (lv' := [(6, .int x4), (0, .ref 5), (1, .int x1), (2, .int x2), (3, .int x3), (4, .int x4), (5, .int x5)]) d_Wh_reachedFrom_15 (by decide) rfl ?_
    refine z_iconst (v := 0) d_Wh_reachedFrom_17 (by decide) ?_
    refine z_istore (lv' := [(7, .int 0), (6, .int x4), (0, .ref 5), (1, .int x1), (2, .int x2), (3, .int x3), (4, .int x4), (5, .int x5)]) d_Wh_reachedFrom_18 (by decide) rfl ?_
    refine z_sub [2, 3, 4, 5, 6, 7, 1, 0] rfl ?_
    exact h2 c1
theorem b_Wh_reachedFrom_20 {E : xV} {σ : zS} {K : zKt} (x1 : Int32) (x2 : Int32) (x3 : Int32) (x4 : Int32) (x5 : Int32) (x6 : Int32) (x7 : Int32) (h1 : ((σ.1 5 2) ≤ x7) → (¬ x4 = x6) → Wz E Y_Wh_reachedFrom 6 [(0, .ref 5), (1, .int x1), (2, .int x2), (3, .int x3), (4, .int x4), (5, .int (x5 + 1))] [] σ K) (h2 : ((σ.1 5 2) ≤ x7) → (x4 = x6) → Wz E Y_Wh_reachedFrom 92 [(0, .ref 5), (1, .int x1), (2, .int x2), (3, .int x3), (4, .int x4), (5, .int x5)] [] σ K) (h3 : (¬ (σ.1 5 2) ≤ x7) → Cz E Y_Wh_isFromAmong [.ref 5, .int x7, .int x4] σ (fun v τ => Wz E Y_Wh_reachedFrom 37 [(0, .ref 5), (1, .int x1), (2, .int x2), (3, .int x3), (4, .int x4), (5, .int x5), (6, .int x6), (7, .int x7)] (v.toList ++ []) τ K)) : Wz E Y_Wh_reachedFrom 20 [(0, .ref 5), (1, .int x1), (2, .int x2), (3, .int x3), (4, .int x4), (5, .int x5), (6, .int x6), (7, .int x7)] [] σ K := by
  refine z_iload (q := 7) d_Wh_reachedFrom_20 rfl ?_
  refine z_aload_n (q := 0) d_Wh_reachedFrom_22 rfl rfl ?_
  refine g_Wh_41 rfl d_Wh_reachedFrom_23 ?_
  refine z_icmp_ge (tgt := 76) d_Wh_reachedFrom_26 (fun c1 => ?_) (fun c1 => ?_)
  · refine z_iload (q := 4) d_Wh_reachedFrom_76 rfl ?_
    refine z_iload (q := 6) d_Wh_reachedFrom_78 rfl ?_
    refine z_icmp_ne (tgt := 86) d_Wh_reachedFrom_80 (fun c2 => ?_) (fun c2 => ?_)
    · refine z_iinc (q := 5) (v := (x5 + 1)) (lv' := [(5, .int (x5 + 1)), (0, .ref 5), (1, .int x1), (2, .int x2), (3, .int x3), (4, .int x4), (6, .int x6), (7, .int x7)]) d_Wh_reachedFrom_86 rfl (j_inc rfl) (by decide) rfl ?_
      refine z_goto (tgt := 6) d_Wh_reachedFrom_89 ?_
      refine z_sub [1, 2, 3, 4, 5, 0] rfl ?_
      exact h1 c1 c2
    · refine z_goto (tgt := 92) d_Wh_reachedFrom_83 ?_
      refine z_sub [0, 1, 2, 3, 4, 5] rfl ?_
      exact h2 c1 c2
  · refine z_aload_n (q := 0) d_Wh_reachedFrom_29 rfl rfl ?_
    refine z_iload (q := 7) d_Wh_reachedFrom_30 rfl ?_
    refine z_iload (q := 4) d_Wh_reachedFrom_32 rfl ?_
    exact i_Wh_59 rfl ⟨⟨Nat.le_of_ble_eq_true rfl, Nat.le_of_ble_eq_true rfl⟩, rfl, rfl⟩ d_Wh_reachedFrom_34 (Nat.le_of_ble_eq_true rfl) rfl rfl (h3 c1)
theorem b_Wh_reachedFrom_37 {E : xV} {σ : zS} {K : zKt} (x1 : Int32) (x2 : Int32) (x3 : Int32) (x4 : Int32) (x5 : Int32) (x6 : Int32) (x7 : Int32) (s0 : Int32) (h1 : (s0 = 0) → Wz E Y_Wh_reachedFrom 70 [(0, .ref 5), (1, .int x1), (2, .int x2), (3, .int x3), (4, .int x4), (5, .int x5), (6, .int x6), (7, .int x7)] [] σ K) (h2 : (¬ s0 = 0) → Cz E Y_Wh_counts [.ref 5, .int x7, .int x2, .int x3] σ (fun v τ => Wz E Y_Wh_reachedFrom 48 [(0, .ref 5), (1, .int x1), (2, .int x2), (3, .int x3), (4, .int x4), (5, .int x5), (6, .int x6), (7, .int x7)] (v.toList ++ []) τ K)) : Wz E Y_Wh_reachedFrom 37 [(0, .ref 5), (1, .int x1), (2, .int x2), (3, .int x3), (4, .int x4), (5, .int x5), (6, .int x6), (7, .int x7)] [.int s0] σ K := by
  refine z_if_eq (tgt := 70) d_Wh_reachedFrom_37 (fun c1 => ?_) (fun c1 => ?_)
  · exact h1 c1
  · refine z_aload_n (q := 0) d_Wh_reachedFrom_40 rfl rfl ?_
    refine z_iload (q := 7) d_Wh_reachedFrom_41 rfl ?_
    refine z_iload_n (q := 2) d_Wh_reachedFrom_43 rfl rfl ?_
    refine z_iload_n (q := 3) d_Wh_reachedFrom_44 rfl rfl ?_
    exact i_Wh_51 rfl ⟨⟨Nat.le_of_ble_eq_true rfl, Nat.le_of_ble_eq_true rfl⟩, rfl, rfl⟩ d_Wh_reachedFrom_45 (Nat.le_of_ble_eq_true rfl) rfl rfl (h2 c1)
theorem b_Wh_reachedFrom_48 {E : xV} {σ : zS} {K : zKt} (x1 : Int32) (x2 : Int32) (x3 : Int32) (x4 : Int32) (x5 : Int32) (x6 : Int32) (x7 : Int32) (s0 : Int32) (h1 : (s0 = 0) → Wz E Y_Wh_reachedFrom 70 [(0, .ref 5), (1, .int x1), (2, .int x2), (3, .int x3), (4, .int x4), (5, .int x5), (6, .int x6), (7, .int x7)] [] σ K) (h2 : (¬ s0 = 0) → vp_in ((x7 * 6) + 1) 1206) (h3 : (¬ s0 = 0) → Wz E Y_Wh_reachedFrom 70 [(0, .ref 5), (1, .int x1), (2, .int x2), (3, .int x3), (4, .int (x4 ||| (1 <<< ((σ.1 6 ((x7 * 6) + 1).toNatClampNeg) &&& 31)))), (5, .int x5), (6, .int x6), (7, .int x7)] [] σ K) : Wz E Y_Wh_reachedFrom 48 [(0, .ref 5), (1, .int x1), (2, .int x2), (3, .int x3), (4, .int x4), (5, .int x5), (6, .int x6), (7, .int x7)] [.int s0] σ K := by
  refine z_if_eq (tgt := 70) d_Wh_reachedFrom_48 (fun c1 => ?_) (fun c1 => ?_)
  · exact h1 c1
  · refine z_iload (q := 4) d_Wh_reachedFrom_51 rfl ?_
    refine z_iconst (v := 1) d_Wh_reachedFrom_53 (by decide) ?_
    refine z_aload_n (q := 0) d_Wh_reachedFrom_54 rfl rfl ?_
    refine g_Wh_13 rfl d_Wh_reachedFrom_55 ?_
    refine z_iload (q := 7) d_Wh_reachedFrom_58 rfl ?_
    refine z_bipush (v := 6) d_Wh_reachedFrom_60 (by decide) ?_
    refine z_imul d_Wh_reachedFrom_62 ?_
    refine z_iconst (v := 1) d_Wh_reachedFrom_63 (by decide) ?_
    refine z_iadd d_Wh_reachedFrom_64 ?_
    refine z_iald (k := 6) (z := 1206) (by decide) rfl (h2 c1) d_Wh_reachedFrom_65 ?_
    refine z_ishl d_Wh_reachedFrom_66 ?_
    refine z_ior d_Wh_reachedFrom_67 ?_
    refine z_istore (lv' := [(4, .int (x4 ||| (1 <<< ((σ.1 6 ((x7 * 6) + 1).toNatClampNeg) &&& 31)))), (0, .ref 5), (1, .int x1), (2, .int x2), (3, .int x3), (5, .int x5), (6, .int x6), (7, .int x7)]) d_Wh_reachedFrom_68 (by decide) rfl ?_
    refine z_sub [1, 2, 3, 4, 0, 5, 6, 7] rfl ?_
    exact h3 c1
theorem b_Wh_reachedFrom_70 {E : xV} {σ : zS} {K : zKt} (x1 : Int32) (x2 : Int32) (x3 : Int32) (x4 : Int32) (x5 : Int32) (x6 : Int32) (x7 : Int32) (h1 : Wz E Y_Wh_reachedFrom 20 [(0, .ref 5), (1, .int x1), (2, .int x2), (3, .int x3), (4, .int x4), (5, .int x5), (6, .int x6), (7, .int (x7 + 1))] [] σ K) : Wz E Y_Wh_reachedFrom 70 [(0, .ref 5), (1, .int x1), (2, .int x2), (3, .int x3), (4, .int x4), (5, .int x5), (6, .int x6), (7, .int x7)] [] σ K := by
  refine z_iinc (q := 7) (v := (x7 + 1)) (lv' := [(7, .int (x7 + 1)), (0, .ref 5), (1, .int x1), (2, .int x2), (3, .int x3), (4, .int x4), (5, .int x5), (6, .int x6)]) d_Wh_reachedFrom_70 rfl (j_inc rfl) (by decide) rfl ?_
  refine z_goto (tgt := 20) d_Wh_reachedFrom_73 ?_
  refine z_sub [1, 2, 3, 4, 5, 6, 7, 0] rfl ?_
  exact h1
theorem b_Wh_reachedFrom_92 {E : xV} {σ : zS} {K : zKt} (x1 : Int32) (x2 : Int32) (x3 : Int32) (x4 : Int32) (x5 : Int32) (h1 : K (some (.int x4)) σ) : Wz E Y_Wh_reachedFrom 92 [(0, .ref 5), (1, .int x1), (2, .int x2), (3, .int x3), (4, .int x4), (5, .int x5)] [] σ K := by
  refine z_iload (q := 4) d_Wh_reachedFrom_92 rfl ?_
  exact z_iret rfl rfl d_Wh_reachedFrom_94 (h1)
theorem b_Wh_isFromAmong_0 {E : xV} {σ : zS} {K : zKt} (x1 : Int32) (x2 : Int32) (h1 : vp_in ((x1 * 6) + 0) 1206) (h2 : ((σ.1 6 ((x1 * 6) + 0).toNatClampNeg) < 100) → Wz E Y_Wh_isFromAmong 34 [(0, .ref 5), (1, .int x1), (2, .int x2), (3, .int (σ.1 6 ((x1 * 6) + 0).toNatClampNeg))] [] σ K) (h3 : (¬ (σ.1 6 ((x1 * 6) + 0).toNatClampNeg) < 100) → (¬ ((x2 >>> (((σ.1 6 ((x1 * 6) + 0).toNatClampNeg) - 100) &&& 31)) &&& 1) = 1) → Wz E Y_Wh_isFromAmong 34 [(0, .ref 5), (1, .int x1), (2, .int x2), (3, .int (σ.1 6 ((x1 * 6) + 0).toNatClampNeg))] [] σ K) (h4 : (¬ (σ.1 6 ((x1 * 6) + 0).toNatClampNeg) < 100) → (((x2 >>> (((σ.1 6 ((x1 * 6) + 0).toNatClampNeg) - 100) &&& 31)) &&& 1) = 1) → Wz E Y_Wh_isFromAmong 35 [(0, .ref 5), (1, .int x1), (2, .int x2), (3, .int (σ.1 6 ((x1 * 6) + 0).toNatClampNeg))] [.int 1] σ K) : Wz E Y_Wh_isFromAmong 0 [(0, .ref 5), (1, .int x1), (2, .int x2)] [] σ K := by
  refine z_aload_n (q := 0) d_Wh_isFromAmong_0 rfl rfl ?_
  refine g_Wh_13 rfl d_Wh_isFromAmong_1 ?_
  refine z_iload_n (q := 1) d_Wh_isFromAmong_4 rfl rfl ?_
  refine z_bipush (v := 6) d_Wh_isFromAmong_5 (by decide) ?_
  refine z_imul d_Wh_isFromAmong_7 ?_
  refine z_iconst (v := 0) d_Wh_isFromAmong_8 (by decide) ?_
  refine z_iadd d_Wh_isFromAmong_9 ?_
  refine z_iald (k := 6) (z := 1206) (by decide) rfl (h1) d_Wh_isFromAmong_10 ?_
  refine z_istore_n (lv' := [(3, .int (σ.1 6 ((x1 * 6) + 0).toNatClampNeg)), (0, .ref 5), (1, .int x1), (2, .int x2)]) d_Wh_isFromAmong_11 rfl (by decide) rfl ?_
  refine z_iload_n (q := 0) d_Wh_isFromAmong_12 rfl rfl ?_
  refine z_bipush (v := 100) d_Wh_isFromAmong_13 (by decide) ?_
  refine z_icmp_lt (tgt := 34) d_Wh_isFromAmong_15 (fun c1 => ?_) (fun c1 => ?_)
  · refine z_sub [1, 2, 3, 0] rfl ?_
    exact h2 c1
  · refine z_iload_n (q := 3) d_Wh_isFromAmong_18 rfl rfl ?_
    refine z_iload_n (q := 0) d_Wh_isFromAmong_19 rfl rfl ?_
    refine z_bipush (v := 100) d_Wh_isFromAmong_20 (by decide) ?_
    refine z_isub d_Wh_isFromAmong_22 ?_
    refine z_ishr d_Wh_isFromAmong_23 ?_
    refine z_iconst (v := 1) d_Wh_isFromAmong_24 (by decide) ?_
    refine z_iand d_Wh_isFromAmong_25 ?_
    refine z_iconst (v := 1) d_Wh_isFromAmong_26 (by decide) ?_
    refine z_icmp_ne (tgt := 34) d_Wh_isFromAmong_27 (fun c2 => ?_) (fun c2 => ?_)
    · refine z_sub [1, 2, 3, 0] rfl ?_
      exact h3 c1 c2
    · refine z_iconst (v := 1) d_Wh_isFromAmong_30 (by decide) ?_
      refine z_goto (tgt := 35) d_Wh_isFromAmong_31 ?_
      refine z_sub [1, 2, 3, 0] rfl ?_
      exact h4 c1 c2
theorem b_Wh_isFromAmong_34 {E : xV} {σ : zS} {K : zKt} (x1 : Int32) (x2 : Int32) (x3 : Int32) (h1 : Wz E Y_Wh_isFromAmong 35 [(0, .ref 5), (1, .int x1), (2, .int x2), (3, .int x3)] [.int 0] σ K) : Wz E Y_Wh_isFromAmong 34 [(0, .ref 5), (1, .int x1), (2, .int x2), (3, .int x3)] [] σ K := by
  refine z_iconst (v := 0) d_Wh_isFromAmong_34 (by decide) ?_
  exact h1
theorem b_Wh_isFromAmong_35 {E : xV} {σ : zS} {K : zKt} (x1 : Int32) (x2 : Int32) (x3 : Int32) (s0 : Int32) (h1 : narrow .boolean (.int s0) = .int s0) (h2 : K (some (.int s0)) σ) : Wz E Y_Wh_isFromAmong 35 [(0, .ref 5), (1, .int x1), (2, .int x2), (3, .int x3)] [.int s0] σ K := by
  exact z_iret rfl (h1) d_Wh_isFromAmong_35 (h2)
theorem b_Wh_wouldRing_0 {E : xV} {σ : zS} {K : zKt} (x1 : Int32) (x2 : Int32) (h1 : (x1 < 100) → Wz E Y_Wh_wouldRing 30 [(0, .ref 5), (1, .int x1), (2, .int x2)] [] σ K) (h2 : (¬ x1 < 100) → Cz E Y_Wh_reachedFrom [.ref 5, .int (1 <<< (x2 &&& 31)), .int (-1), .int (-1)] σ (fun v τ => Wz E Y_Wh_wouldRing 15 [(0, .ref 5), (1, .int x1), (2, .int x2)] (v.toList ++ []) τ K)) : Wz E Y_Wh_wouldRing 0 [(0, .ref 5), (1, .int x1), (2, .int x2)] [] σ K := by
  refine z_iload_n (q := 1) d_Wh_wouldRing_0 rfl rfl ?_
  refine z_bipush (v := 100) d_Wh_wouldRing_1 (by decide) ?_
  refine z_icmp_lt (tgt := 30) d_Wh_wouldRing_3 (fun c1 => ?_) (fun c1 => ?_)
  · exact h1 c1
  · refine z_aload_n (q := 0) d_Wh_wouldRing_6 rfl rfl ?_
    refine z_iconst (v := 1) d_Wh_wouldRing_7 (by decide) ?_
    refine z_iload_n (q := 2) d_Wh_wouldRing_8 rfl rfl ?_
    refine z_ishl d_Wh_wouldRing_9 ?_
    refine z_iconst (v := (-1)) d_Wh_wouldRing_10 (by decide) ?_
    refine z_iconst (v := (-1)) d_Wh_wouldRing_11 (by decide) ?_
    exact i_Wh_55 rfl ⟨⟨Nat.le_of_ble_eq_true rfl, Nat.le_of_ble_eq_true rfl⟩, rfl, rfl⟩ d_Wh_wouldRing_12 (Nat.le_of_ble_eq_true rfl) rfl rfl (h2 c1)
theorem b_Wh_wouldRing_15 {E : xV} {σ : zS} {K : zKt} (x1 : Int32) (x2 : Int32) (s0 : Int32) (h1 : (¬ ((s0 >>> ((x1 - 100) &&& 31)) &&& 1) = 1) → Wz E Y_Wh_wouldRing 30 [(0, .ref 5), (1, .int x1), (2, .int x2)] [] σ K) (h2 : (((s0 >>> ((x1 - 100) &&& 31)) &&& 1) = 1) → Wz E Y_Wh_wouldRing 31 [(0, .ref 5), (1, .int x1), (2, .int x2)] [.int 1] σ K) : Wz E Y_Wh_wouldRing 15 [(0, .ref 5), (1, .int x1), (2, .int x2)] [.int s0] σ K := by
  refine z_iload_n (q := 1) d_Wh_wouldRing_15 rfl rfl ?_
  refine z_bipush (v := 100) d_Wh_wouldRing_16 (by decide) ?_
  refine z_isub d_Wh_wouldRing_18 ?_
  refine z_ishr d_Wh_wouldRing_19 ?_
  refine z_iconst (v := 1) d_Wh_wouldRing_20 (by decide) ?_
  refine z_iand d_Wh_wouldRing_21 ?_
  refine z_iconst (v := 1) d_Wh_wouldRing_22 (by decide) ?_
  refine z_icmp_ne (tgt := 30) d_Wh_wouldRing_23 (fun c1 => ?_) (fun c1 => ?_)
  · exact h1 c1
  · refine z_iconst (v := 1) d_Wh_wouldRing_26 (by decide) ?_
    refine z_goto (tgt := 31) d_Wh_wouldRing_27 ?_
    exact h2 c1
theorem b_Wh_wouldRing_30 {E : xV} {σ : zS} {K : zKt} (x1 : Int32) (x2 : Int32) (h1 : Wz E Y_Wh_wouldRing 31 [(0, .ref 5), (1, .int x1), (2, .int x2)] [.int 0] σ K) : Wz E Y_Wh_wouldRing 30 [(0, .ref 5), (1, .int x1), (2, .int x2)] [] σ K := by
  refine z_iconst (v := 0) d_Wh_wouldRing_30 (by decide) ?_
  exact h1
theorem b_Wh_wouldRing_31 {E : xV} {σ : zS} {K : zKt} (x1 : Int32) (x2 : Int32) (s0 : Int32) (h1 : narrow .boolean (.int s0) = .int s0) (h2 : K (some (.int s0)) σ) : Wz E Y_Wh_wouldRing 31 [(0, .ref 5), (1, .int x1), (2, .int x2)] [.int s0] σ K := by
  exact z_iret rfl (h1) d_Wh_wouldRing_31 (h2)
theorem b_Wh_slotOfPerson_0 {E : xV} {σ : zS} {K : zKt} (x0 : Int32) (x1 : Int32) (h1 : K (some (.int ((x0 * 8) + x1))) σ) : Wz E Y_Wh_slotOfPerson 0 [(0, .int x0), (1, .int x1)] [] σ K := by
  refine z_iload_n (q := 0) d_Wh_slotOfPerson_0 rfl rfl ?_
  refine z_bipush (v := 8) d_Wh_slotOfPerson_1 (by decide) ?_
  refine z_imul d_Wh_slotOfPerson_3 ?_
  refine z_iload_n (q := 1) d_Wh_slotOfPerson_4 rfl rfl ?_
  refine z_iadd d_Wh_slotOfPerson_5 ?_
  exact z_iret rfl rfl d_Wh_slotOfPerson_6 (h1)
theorem b_Wh_slotOfThing_0 {E : xV} {σ : zS} {K : zKt} (x0 : Int32) (x1 : Int32) (h1 : K (some (.int (((20 + x0) * 8) + x1))) σ) : Wz E Y_Wh_slotOfThing 0 [(0, .int x0), (1, .int x1)] [] σ K := by
  refine z_bipush (v := 20) d_Wh_slotOfThing_0 (by decide) ?_
  refine z_iload_n (q := 0) d_Wh_slotOfThing_2 rfl rfl ?_
  refine z_iadd d_Wh_slotOfThing_3 ?_
  refine z_bipush (v := 8) d_Wh_slotOfThing_4 (by decide) ?_
  refine z_imul d_Wh_slotOfThing_6 ?_
  refine z_iload_n (q := 1) d_Wh_slotOfThing_7 rfl rfl ?_
  refine z_iadd d_Wh_slotOfThing_8 ?_
  exact z_iret rfl rfl d_Wh_slotOfThing_9 (h1)
theorem b_Wh_setFeature_0 {E : xV} {σ : zS} {K : zKt} (x1 : Int32) (x2 : Int32) (x3 : Int32) (h1 : vp_in x1 480) (h2 : vp_in x1 480) (h3 : Wz E Y_Wh_setFeature 17 [(0, .ref 5), (1, .int x1), (2, .int x2), (3, .int x3), (4, .int 0)] [] (zI (zI σ 7 x1.toNatClampNeg x2) 8 x1.toNatClampNeg x3) K) : Wz E Y_Wh_setFeature 0 [(0, .ref 5), (1, .int x1), (2, .int x2), (3, .int x3)] [] σ K := by
  refine z_aload_n (q := 0) d_Wh_setFeature_0 rfl rfl ?_
  refine g_Wh_17 rfl d_Wh_setFeature_1 ?_
  refine z_iload_n (q := 1) d_Wh_setFeature_4 rfl rfl ?_
  refine z_iload_n (q := 2) d_Wh_setFeature_5 rfl rfl ?_
  refine z_iast (k := 7) (z := 480) (by decide) rfl (h1) d_Wh_setFeature_6 ?_
  refine z_aload_n (q := 0) d_Wh_setFeature_7 rfl rfl ?_
  refine g_Wh_20 rfl d_Wh_setFeature_8 ?_
  refine z_iload_n (q := 1) d_Wh_setFeature_11 rfl rfl ?_
  refine z_iload_n (q := 3) d_Wh_setFeature_12 rfl rfl ?_
  refine z_iast (k := 8) (z := 480) (by decide) rfl (h2) d_Wh_setFeature_13 ?_
  refine z_iconst (v := 0) d_Wh_setFeature_14 (by decide) ?_
  refine z_istore (lv' := [(4, .int 0), (0, .ref 5), (1, .int x1), (2, .int x2), (3, .int x3)]) d_Wh_setFeature_15 (by decide) rfl ?_
  refine z_sub [1, 2, 3, 4, 0] rfl ?_
  exact h3
theorem b_Wh_setFeature_17 {E : xV} {σ : zS} {K : zKt} (x1 : Int32) (x2 : Int32) (x3 : Int32) (x4 : Int32) (h1 : (20 ≤ x4) → K none σ) (h2 : (¬ 20 ≤ x4) → vp_in ((x1 * 20) + x4) 9600) (h3 : (¬ 20 ≤ x4) → Wz E Y_Wh_setFeature 17 [(0, .ref 5), (1, .int x1), (2, .int x2), (3, .int x3), (4, .int (x4 + 1))] [] (zJ σ 9 ((x1 * 20) + x4).toNatClampNeg 0) K) : Wz E Y_Wh_setFeature 17 [(0, .ref 5), (1, .int x1), (2, .int x2), (3, .int x3), (4, .int x4)] [] σ K := by
  refine z_iload (q := 4) d_Wh_setFeature_17 rfl ?_
  refine z_bipush (v := 20) d_Wh_setFeature_19 (by decide) ?_
  refine z_icmp_ge (tgt := 43) d_Wh_setFeature_21 (fun c1 => ?_) (fun c1 => ?_)
  · exact z_vret rfl d_Wh_setFeature_43 (h1 c1)
  · refine z_aload_n (q := 0) d_Wh_setFeature_24 rfl rfl ?_
    refine g_Wh_23 rfl d_Wh_setFeature_25 ?_
    refine z_iload_n (q := 1) d_Wh_setFeature_28 rfl rfl ?_
    refine z_bipush (v := 20) d_Wh_setFeature_29 (by decide) ?_
    refine z_imul d_Wh_setFeature_31 ?_
    refine z_iload (q := 4) d_Wh_setFeature_32 rfl ?_
    refine z_iadd d_Wh_setFeature_34 ?_
    refine z_lconst (v := 0) d_Wh_setFeature_35 (by decide) ?_
    refine z_last (k := 9) (z := 9600) (by decide) rfl (h2 c1) d_Wh_setFeature_36 ?_
    refine z_iinc (q := 4) (v := (x4 + 1)) (lv' := [(4, .int (x4 + 1)), (0, .ref 5), (1, .int x1), (2, .int x2), (3, .int x3)]) d_Wh_setFeature_37 rfl (j_inc rfl) (by decide) rfl ?_
    refine z_goto (tgt := 17) d_Wh_setFeature_40 ?_
    refine z_sub [1, 2, 3, 4, 0] rfl ?_
    exact h3 c1
theorem b_Wh_setItem_0 {E : xV} {σ : zS} {K : zKt} (x1 : Int32) (x2 : Int32) (x3 : Int64) (h1 : vp_in x1 480) (h2 : (¬ (σ.1 7 x1.toNatClampNeg) = 3) → vp_in x1 480) (h3 : (¬ (σ.1 7 x1.toNatClampNeg) = 3) → (¬ (σ.1 7 x1.toNatClampNeg) = 2) → Wz E Y_Wh_setItem 43 [(0, .ref 5), (1, .int x1), (2, .int x2), (3, .long x3), (5, .long x3)] [] σ K) (h4 : (¬ (σ.1 7 x1.toNatClampNeg) = 3) → ((σ.1 7 x1.toNatClampNeg) = 2) → Cz E Y_Re_isNoNumber [.long x3] σ (fun v τ => Wz E Y_Wh_setItem 35 [(0, .ref 5), (1, .int x1), (2, .int x2), (3, .long x3), (5, .long x3)] (v.toList ++ []) τ K)) (h5 : ((σ.1 7 x1.toNatClampNeg) = 3) → Wz E Y_Wh_setItem 43 [(0, .ref 5), (1, .int x1), (2, .int x2), (3, .long x3), (5, .long (Int32.toInt64 (Int64.toInt32 x3)))] [] σ K) : Wz E Y_Wh_setItem 0 [(0, .ref 5), (1, .int x1), (2, .int x2), (3, .long x3)] [] σ K := by
  refine z_lload_n (q := 3) d_Wh_setItem_0 rfl rfl ?_
  refine z_lstore (lv' := [(5, .long x3), (0, .ref 5), (1, .int x1), (2, .int x2), (3, .long x3)]) d_Wh_setItem_1 (by decide) rfl ?_
  refine z_aload_n (q := 1) d_Wh_setItem_3 rfl rfl ?_
  refine g_Wh_17 rfl d_Wh_setItem_4 ?_
  refine z_iload_n (q := 2) d_Wh_setItem_7 rfl rfl ?_
  refine z_iald (k := 7) (z := 480) (by decide) rfl (h1) d_Wh_setItem_8 ?_
  refine z_iconst (v := 3) d_Wh_setItem_9 (by decide) ?_
  refine z_icmp_ne (tgt := 21) d_Wh_setItem_10 (fun c1 => ?_) (fun c1 => ?_)
  · refine z_aload_n (q := 1) d_Wh_setItem_21 rfl rfl ?_
    refine g_Wh_17 rfl d_Wh_setItem_22 ?_
    refine z_iload_n (q := 2) d_Wh_setItem_25 rfl rfl ?_
    refine z_iald (k := 7) (z := 480) (by decide) rfl (h2 c1) d_Wh_setItem_26 ?_
    refine z_iconst (v := 2) d_Wh_setItem_27 (by decide) ?_
    refine z_icmp_ne (tgt := 43) d_Wh_setItem_28 (fun c2 => ?_) (fun c2 => ?_)
    · refine z_sub [1, 2, 3, 4, 0] rfl ?_
      exact h3 c1 c2
    · refine z_lload_n (q := 4) d_Wh_setItem_31 rfl rfl ?_
      refine z_sub [1, 2, 3, 4, 0] rfl ?_
      exact i_Wh_63 rfl ⟨⟨Nat.le_of_ble_eq_true rfl, Nat.le_of_ble_eq_true rfl⟩, rfl, rfl⟩ d_Wh_setItem_32 (Nat.le_of_ble_eq_true rfl) rfl rfl (h4 c1 c2)
  · refine z_lload_n (q := 4) d_Wh_setItem_13 rfl rfl ?_
    refine z_l2i (v := (Int64.toInt32 x3)) d_Wh_setItem_14 rfl ?_
    refine z_i2l (v := (Int32.toInt64 (Int64.toInt32 x3))) d_Wh_setItem_15 rfl ?_
    refine z_lstore (lv' := [(5, .long (Int32.toInt64 (Int64.toInt32 x3))), (0, .ref 5), (1, .int x1), (2, .int x2), (3, .long x3)]) d_Wh_setItem_16 (by decide) rfl ?_
    refine z_goto (tgt := 43) d_Wh_setItem_18 ?_
    refine z_sub [1, 2, 3, 4, 0] rfl ?_
    exact h5 c1
theorem b_Wh_setItem_35 {E : xV} {σ : zS} {K : zKt} (x1 : Int32) (x2 : Int32) (x3 : Int64) (x5 : Int64) (s0 : Int32) (h1 : (s0 = 0) → Wz E Y_Wh_setItem 43 [(0, .ref 5), (1, .int x1), (2, .int x2), (3, .long x3), (5, .long x5)] [] σ K) (h2 : (¬ s0 = 0) → Wz E Y_Wh_setItem 43 [(0, .ref 5), (1, .int x1), (2, .int x2), (3, .long x3), (5, .long 9221120237041090560)] [] σ K) : Wz E Y_Wh_setItem 35 [(0, .ref 5), (1, .int x1), (2, .int x2), (3, .long x3), (5, .long x5)] [.int s0] σ K := by
  refine z_if_eq (tgt := 43) d_Wh_setItem_35 (fun c1 => ?_) (fun c1 => ?_)
  · exact h1 c1
  · refine z_ldc2 (v := 9221120237041090560) d_Wh_setItem_38 k_3_238 ?_
    refine z_lstore (lv' := [(5, .long 9221120237041090560), (0, .ref 5), (1, .int x1), (2, .int x2), (3, .long x3)]) d_Wh_setItem_41 (by decide) rfl ?_
    refine z_sub [1, 2, 3, 4, 0] rfl ?_
    exact h2 c1
theorem b_Wh_setItem_43 {E : xV} {σ : zS} {K : zKt} (x1 : Int32) (x2 : Int32) (x3 : Int64) (x5 : Int64) (h1 : vp_in ((x1 * 20) + x2) 9600) (h2 : K none (zJ σ 9 ((x1 * 20) + x2).toNatClampNeg x5)) : Wz E Y_Wh_setItem 43 [(0, .ref 5), (1, .int x1), (2, .int x2), (3, .long x3), (5, .long x5)] [] σ K := by
  refine z_aload_n (q := 0) d_Wh_setItem_43 rfl rfl ?_
  refine g_Wh_23 rfl d_Wh_setItem_44 ?_
  refine z_iload_n (q := 1) d_Wh_setItem_47 rfl rfl ?_
  refine z_bipush (v := 20) d_Wh_setItem_48 (by decide) ?_
  refine z_imul d_Wh_setItem_50 ?_
  refine z_iload_n (q := 2) d_Wh_setItem_51 rfl rfl ?_
  refine z_iadd d_Wh_setItem_52 ?_
  refine z_lload (q := 4) d_Wh_setItem_53 rfl ?_
  refine z_last (k := 9) (z := 9600) (by decide) rfl (h1) d_Wh_setItem_55 ?_
  exact z_vret rfl d_Wh_setItem_56 (h2)
theorem b_Wh_hasItems_0 {E : xV} {σ : zS} {K : zKt} (x1 : Int32) (x2 : Int32) (x3 : Int32) (h1 : (x2 < 0) → Wz E Y_Wh_hasItems 34 [(0, .ref 5), (1, .int x1), (2, .int x2), (3, .int x3)] [] σ K) (h2 : (¬ x2 < 0) → (x3 < 0) → Wz E Y_Wh_hasItems 34 [(0, .ref 5), (1, .int x1), (2, .int x2), (3, .int x3)] [] σ K) (h3 : (¬ x2 < 0) → (¬ x3 < 0) → vp_in x1 480) (h4 : (¬ x2 < 0) → (¬ x3 < 0) → ((σ.1 8 x1.toNatClampNeg) < x2) → Wz E Y_Wh_hasItems 34 [(0, .ref 5), (1, .int x1), (2, .int x2), (3, .int x3)] [] σ K) (h5 : (¬ x2 < 0) → (¬ x3 < 0) → (¬ (σ.1 8 x1.toNatClampNeg) < x2) → vp_in x1 480) (h6 : (¬ x2 < 0) → (¬ x3 < 0) → (¬ (σ.1 8 x1.toNatClampNeg) < x2) → (((σ.1 8 x1.toNatClampNeg) - x2) < x3) → Wz E Y_Wh_hasItems 34 [(0, .ref 5), (1, .int x1), (2, .int x2), (3, .int x3)] [] σ K) (h7 : (¬ x2 < 0) → (¬ x3 < 0) → (¬ (σ.1 8 x1.toNatClampNeg) < x2) → (¬ ((σ.1 8 x1.toNatClampNeg) - x2) < x3) → Wz E Y_Wh_hasItems 35 [(0, .ref 5), (1, .int x1), (2, .int x2), (3, .int x3)] [.int 1] σ K) : Wz E Y_Wh_hasItems 0 [(0, .ref 5), (1, .int x1), (2, .int x2), (3, .int x3)] [] σ K := by
  refine z_iload_n (q := 2) d_Wh_hasItems_0 rfl rfl ?_
  refine z_if_lt (tgt := 34) d_Wh_hasItems_1 (fun c1 => ?_) (fun c1 => ?_)
  · exact h1 c1
  · refine z_iload_n (q := 3) d_Wh_hasItems_4 rfl rfl ?_
    refine z_if_lt (tgt := 34) d_Wh_hasItems_5 (fun c2 => ?_) (fun c2 => ?_)
    · exact h2 c1 c2
    · refine z_iload_n (q := 2) d_Wh_hasItems_8 rfl rfl ?_
      refine z_aload_n (q := 0) d_Wh_hasItems_9 rfl rfl ?_
      refine g_Wh_20 rfl d_Wh_hasItems_10 ?_
      refine z_iload_n (q := 1) d_Wh_hasItems_13 rfl rfl ?_
      refine z_iald (k := 8) (z := 480) (by decide) rfl (h3 c1 c2) d_Wh_hasItems_14 ?_
      refine z_icmp_gt (tgt := 34) d_Wh_hasItems_15 (fun c3 => ?_) (fun c3 => ?_)
      · exact h4 c1 c2 c3
      · refine z_iload_n (q := 3) d_Wh_hasItems_18 rfl rfl ?_
        refine z_aload_n (q := 0) d_Wh_hasItems_19 rfl rfl ?_
        refine g_Wh_20 rfl d_Wh_hasItems_20 ?_
        refine z_iload_n (q := 1) d_Wh_hasItems_23 rfl rfl ?_
        refine z_iald (k := 8) (z := 480) (by decide) rfl (h5 c1 c2 c3) d_Wh_hasItems_24 ?_
        refine z_iload_n (q := 2) d_Wh_hasItems_25 rfl rfl ?_
        refine z_isub d_Wh_hasItems_26 ?_
        refine z_icmp_gt (tgt := 34) d_Wh_hasItems_27 (fun c4 => ?_) (fun c4 => ?_)
        · exact h6 c1 c2 c3 c4
        · refine z_iconst (v := 1) d_Wh_hasItems_30 (by decide) ?_
          refine z_goto (tgt := 35) d_Wh_hasItems_31 ?_
          exact h7 c1 c2 c3 c4
theorem b_Wh_hasItems_34 {E : xV} {σ : zS} {K : zKt} (x1 : Int32) (x2 : Int32) (x3 : Int32) (h1 : Wz E Y_Wh_hasItems 35 [(0, .ref 5), (1, .int x1), (2, .int x2), (3, .int x3)] [.int 0] σ K) : Wz E Y_Wh_hasItems 34 [(0, .ref 5), (1, .int x1), (2, .int x2), (3, .int x3)] [] σ K := by
  refine z_iconst (v := 0) d_Wh_hasItems_34 (by decide) ?_
  exact h1
theorem b_Wh_hasItems_35 {E : xV} {σ : zS} {K : zKt} (x1 : Int32) (x2 : Int32) (x3 : Int32) (s0 : Int32) (h1 : narrow .boolean (.int s0) = .int s0) (h2 : K (some (.int s0)) σ) : Wz E Y_Wh_hasItems 35 [(0, .ref 5), (1, .int x1), (2, .int x2), (3, .int x3)] [.int s0] σ K := by
  exact z_iret rfl (h1) d_Wh_hasItems_35 (h2)
theorem b_Wh_hasMark_0 {E : xV} {σ : zS} {K : zKt} (x1 : Int32) (x2 : Int64) (h1 : Wz E Y_Wh_hasMark 3 [(0, .ref 5), (1, .int x1), (2, .long x2), (4, .int 0)] [] σ K) : Wz E Y_Wh_hasMark 0 [(0, .ref 5), (1, .int x1), (2, .long x2)] [] σ K := by
  refine z_iconst (v := 0) d_Wh_hasMark_0 (by decide) ?_
  refine z_istore (lv' := [(4, .int 0), (0, .ref 5), (1, .int x1), (2, .long x2)]) d_Wh_hasMark_1 (by decide) rfl ?_
  refine z_sub [1, 2, 3, 0] rfl ?_
  exact h1
theorem b_Wh_hasMark_3 {E : xV} {σ : zS} {K : zKt} (x1 : Int32) (x2 : Int64) (x4 : Int32) (h1 : vp_in x1 480) (h2 : ((σ.1 8 x1.toNatClampNeg) ≤ x4) → K (some (.int 0)) σ) (h3 : (¬ (σ.1 8 x1.toNatClampNeg) ≤ x4) → vp_in ((x1 * 20) + x4) 9600) (h4 : (¬ (σ.1 8 x1.toNatClampNeg) ≤ x4) → (¬ (lg_cmp (σ.2 9 ((x1 * 20) + x4).toNatClampNeg) x2) = 0) → Wz E Y_Wh_hasMark 3 [(0, .ref 5), (1, .int x1), (2, .long x2), (4, .int (x4 + 1))] [] σ K) (h5 : (¬ (σ.1 8 x1.toNatClampNeg) ≤ x4) → ((lg_cmp (σ.2 9 ((x1 * 20) + x4).toNatClampNeg) x2) = 0) → K (some (.int 1)) σ) : Wz E Y_Wh_hasMark 3 [(0, .ref 5), (1, .int x1), (2, .long x2), (4, .int x4)] [] σ K := by
  refine z_iload (q := 3) d_Wh_hasMark_3 rfl ?_
  refine z_aload_n (q := 0) d_Wh_hasMark_5 rfl rfl ?_
  refine g_Wh_20 rfl d_Wh_hasMark_6 ?_
  refine z_iload_n (q := 1) d_Wh_hasMark_9 rfl rfl ?_
  refine z_iald (k := 8) (z := 480) (by decide) rfl (h1) d_Wh_hasMark_10 ?_
  refine z_icmp_ge (tgt := 39) d_Wh_hasMark_11 (fun c1 => ?_) (fun c1 => ?_)
  · refine z_iconst (v := 0) d_Wh_hasMark_39 (by decide) ?_
    exact z_iret rfl rfl d_Wh_hasMark_40 (h2 c1)
  · refine z_aload_n (q := 0) d_Wh_hasMark_14 rfl rfl ?_
    refine g_Wh_23 rfl d_Wh_hasMark_15 ?_
    refine z_iload_n (q := 1) d_Wh_hasMark_18 rfl rfl ?_
    refine z_bipush (v := 20) d_Wh_hasMark_19 (by decide) ?_
    refine z_imul d_Wh_hasMark_21 ?_
    refine z_iload (q := 3) d_Wh_hasMark_22 rfl ?_
    refine z_iadd d_Wh_hasMark_24 ?_
    refine z_lald (k := 9) (z := 9600) (by decide) rfl (h3 c1) d_Wh_hasMark_25 ?_
    refine z_lload_n (q := 2) d_Wh_hasMark_26 rfl rfl ?_
    refine z_lcmp d_Wh_hasMark_27 ?_
    refine z_if_ne (tgt := 33) d_Wh_hasMark_28 (fun c2 => ?_) (fun c2 => ?_)
    · refine z_iinc (q := 3) (v := (x4 + 1)) (lv' := [(4, .int (x4 + 1)), (0, .ref 5), (1, .int x1), (2, .long x2)]) d_Wh_hasMark_33 rfl (j_inc rfl) (by decide) rfl ?_
      refine z_goto (tgt := 3) d_Wh_hasMark_36 ?_
      refine z_sub [1, 2, 3, 0] rfl ?_
      exact h4 c1 c2
    · refine z_iconst (v := 1) d_Wh_hasMark_31 (by decide) ?_
      exact z_iret rfl rfl d_Wh_hasMark_32 (h5 c1 c2)
