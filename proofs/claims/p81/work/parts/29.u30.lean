section
noncomputable def W_Po_splitNumber_b161 (F15 : Int32 → Int64 → Int64 → Int32 → Int32 → Int32 → zS → (Int32 → zS → Prop) → Prop) (x1 : Int32) (x2 : Int64) (x4 : Int64) (x6 : Int32) (x7 : Int32) (x8 : Int32) (y0 : Int32) (σ : zS) (Q : Int32 → zS → Prop) : Prop := (9 < (Int32.toInt x8) → (W_Po_splitNumber_b177 F15 x1 x6 σ Q)) ∧ (¬ 9 < (Int32.toInt x8) → (((Int32.toInt y0) ≤ 6 → (((Int32.toInt x7) = (-4) → (W_Po_addToken 2 x1 x2 σ (fun _ σ8 => Q x6 σ8))) ∧ (¬ (Int32.toInt x7) = (-4) → (W_Re_ofWhole x2 σ (fun v4 σ4 => W_Re_ofWhole x4 σ4 (fun v5 σ5 => W_Re_over v4 v5 σ5 (fun v6 σ6 => W_Po_addToken 3 x1 v6 σ6 (fun _ σ7 => Q x6 σ7)))))))) ∧ (¬ (Int32.toInt y0) ≤ 6 → (W_Po_splitNumber_b177 F15 x1 x6 σ Q))))
theorem sb_Po_splitNumber_161 {E : xV} {σ : zS} {K : zKt} {F15 : Int32 → Int64 → Int64 → Int32 → Int32 → Int32 → zS → (Int32 → zS → Prop) → Prop} {x1 : Int32} {x2 : Int64} {x4 : Int64} {x6 : Int32} {x7 : Int32} {x8 : Int32} {y0 : Int32} {Q : Int32 → zS → Prop} (f15 : ∀ (x1 : Int32) (x2 : Int64) (x4 : Int64) (x6 : Int32) (x7 : Int32) (x8 : Int32) (σ : zS), F15 x1 x2 x4 x6 x7 x8 σ Q → Wz E Y_Po_splitNumber 15 [(0, .ref 17), (1, .int x1), (2, .long x2), (4, .long x4), (6, .int x6), (7, .int x7), (8, .int x8)] [] σ K) (k : ∀ v s, Q v s → K (some (.int v)) s) (h : W_Po_splitNumber_b161 F15 x1 x2 x4 x6 x7 x8 y0 σ Q) : Wz E Y_Po_splitNumber 161 [(0, .ref 17), (1, .int x1), (2, .long x2), (4, .long x4), (6, .int x6), (7, .int x7), (8, .int x8)] [.int y0] σ K := by
  unfold W_Po_splitNumber_b161 at h
  refine z_istore (i := 9) (pc' := 163) ⟨by decide +kernel, rfl⟩ (by decide) rfl ?_
  show Wz E Y_Po_splitNumber 163 [(9, .int y0), (0, .ref 17), (1, .int x1), (2, .long x2), (4, .long x4), (6, .int x6), (7, .int x7), (8, .int x8)] [] σ K
  refine z_iload (i := 8) (q := 7) (pc' := 165) ⟨by decide +kernel, rfl⟩ rfl ?_
  refine z_bipush (i := 9) (v := 9) (pc' := 167) ⟨by decide +kernel, rfl⟩ (by decide) ?_
  refine z_icmp_gt (off := 10) (tgt := 177) (pc' := 170) ⟨by decide +kernel, by decide, rfl⟩ (fun h1 => ?_) (fun h1 => ?_)
  · have h := h.1 (qi_gt_t rfl (by decide) h1)
    refine z_sub [1, 2, 5] rfl ?_
    exact sb_Po_splitNumber_177 f15 k h
  · have h := h.2 (qi_gt_f rfl (by decide) h1)
    refine z_iload (i := 9) (q := 0) (pc' := 172) ⟨by decide +kernel, rfl⟩ rfl ?_
    refine z_bipush (i := 6) (v := 6) (pc' := 174) ⟨by decide +kernel, rfl⟩ (by decide) ?_
    refine z_icmp_le (off := 13) (tgt := 187) (pc' := 177) ⟨by decide +kernel, by decide, rfl⟩ (fun h2 => ?_) (fun h2 => ?_)
    · have h := h.1 (qi_le_t rfl (by decide) h2)
      refine z_iload (i := 7) (q := 6) (pc' := 189) ⟨by decide +kernel, rfl⟩ rfl ?_
      refine z_bipush (i := (-4)) (v := (-4)) (pc' := 191) ⟨by decide +kernel, rfl⟩ (by decide) ?_
      refine z_icmp_ne (off := 13) (tgt := 204) (pc' := 194) ⟨by decide +kernel, by decide, rfl⟩ (fun h3 => ?_) (fun h3 => ?_)
      · have h := h.2 (qi_ne_t rfl (by decide) h3)
        refine z_aload_n (f := 0) (i := 0) (q := 1) (pc' := 205) ⟨by decide +kernel, rfl⟩ rfl rfl ?_
        refine z_iconst (i := 3) (v := 3) (pc' := 206) ⟨by decide +kernel, rfl⟩ (by decide) ?_
        refine z_iload_n (f := 1) (i := 1) (q := 2) (pc' := 207) ⟨by decide +kernel, rfl⟩ rfl rfl ?_
        refine z_lload_n (f := 2) (i := 2) (q := 3) (pc' := 208) ⟨by decide +kernel, rfl⟩ rfl rfl ?_
        refine w_invS (Z := Y_Re_ofWhole) (idx := 120) (As := [.long x2]) (rest := [.int x1, .int 3, .ref 17]) (pc' := 211) cl_7_120 rfl ⟨rfl, rfl⟩ ⟨⟨by decide, by decide⟩, rfl, rfl⟩ ⟨by decide +kernel, rfl⟩ rfl rfl (Nat.le_of_ble_eq_true rfl) rfl rfl ?_
        refine sF_Re_ofWhole h (fun v4 σ4 h => ?_)
        show Wz E Y_Po_splitNumber 211 [(9, .int y0), (0, .ref 17), (1, .int x1), (2, .long x2), (4, .long x4), (6, .int x6), (7, .int x7), (8, .int x8)] [.long v4, .int x1, .int 3, .ref 17] σ4 K
        refine z_lload (i := 4) (q := 4) (pc' := 213) ⟨by decide +kernel, rfl⟩ rfl ?_
        refine w_invS (Z := Y_Re_ofWhole) (idx := 120) (As := [.long x4]) (rest := [.long v4, .int x1, .int 3, .ref 17]) (pc' := 216) cl_7_120 rfl ⟨rfl, rfl⟩ ⟨⟨by decide, by decide⟩, rfl, rfl⟩ ⟨by decide +kernel, rfl⟩ rfl rfl (Nat.le_of_ble_eq_true rfl) rfl rfl ?_
        refine sF_Re_ofWhole h (fun v5 σ5 h => ?_)
        show Wz E Y_Po_splitNumber 216 [(9, .int y0), (0, .ref 17), (1, .int x1), (2, .long x2), (4, .long x4), (6, .int x6), (7, .int x7), (8, .int x8)] [.long v5, .long v4, .int x1, .int 3, .ref 17] σ5 K
        refine w_invS (Z := Y_Re_over) (idx := 126) (As := [.long v4, .long v5]) (rest := [.int x1, .int 3, .ref 17]) (pc' := 219) cl_7_126 rfl ⟨rfl, rfl⟩ ⟨⟨by decide, by decide⟩, rfl, rfl⟩ ⟨by decide +kernel, rfl⟩ rfl rfl (Nat.le_of_ble_eq_true rfl) rfl rfl ?_
        refine sF_Re_over h (fun v6 σ6 h => ?_)
        show Wz E Y_Po_splitNumber 219 [(9, .int y0), (0, .ref 17), (1, .int x1), (2, .long x2), (4, .long x4), (6, .int x6), (7, .int x7), (8, .int x8)] [.long v6, .int x1, .int 3, .ref 17] σ6 K
        refine w_invV (Z := Y_Po_addToken) (idx := 93) (kb := 17) (As := [.int 3, .int x1, .long v6]) (rest := []) (pc' := 222) cl_7_93 rfl ⟨rfl, rfl⟩ ykfa_17_0 rfl ⟨⟨by decide, by decide⟩, rfl, rfl⟩ ⟨by decide +kernel, rfl⟩ rfl rfl (Nat.le_of_ble_eq_true rfl) rfl rfl ?_
        refine sF_Po_addToken h (fun _ σ7 h => ?_)
        show Wz E Y_Po_splitNumber 222 [(9, .int y0), (0, .ref 17), (1, .int x1), (2, .long x2), (4, .long x4), (6, .int x6), (7, .int x7), (8, .int x8)] [] σ7 K
        refine z_iload (i := 6) (q := 5) (pc' := 224) ⟨by decide +kernel, rfl⟩ rfl ?_
        exact z_iret (ty := .int) rfl (by rfl) (by decide +kernel) (k _ _ h)
      · have h := h.1 (qi_ne_f rfl (by decide) h3)
        refine z_aload_n (f := 0) (i := 0) (q := 1) (pc' := 195) ⟨by decide +kernel, rfl⟩ rfl rfl ?_
        refine z_iconst (i := 2) (v := 2) (pc' := 196) ⟨by decide +kernel, rfl⟩ (by decide) ?_
        refine z_iload_n (f := 1) (i := 1) (q := 2) (pc' := 197) ⟨by decide +kernel, rfl⟩ rfl rfl ?_
        refine z_lload_n (f := 2) (i := 2) (q := 3) (pc' := 198) ⟨by decide +kernel, rfl⟩ rfl rfl ?_
        refine w_invV (Z := Y_Po_addToken) (idx := 93) (kb := 17) (As := [.int 2, .int x1, .long x2]) (rest := []) (pc' := 201) cl_7_93 rfl ⟨rfl, rfl⟩ ykfa_17_0 rfl ⟨⟨by decide, by decide⟩, rfl, rfl⟩ ⟨by decide +kernel, rfl⟩ rfl rfl (Nat.le_of_ble_eq_true rfl) rfl rfl ?_
        refine sF_Po_addToken h (fun _ σ8 h => ?_)
        show Wz E Y_Po_splitNumber 201 [(9, .int y0), (0, .ref 17), (1, .int x1), (2, .long x2), (4, .long x4), (6, .int x6), (7, .int x7), (8, .int x8)] [] σ8 K
        refine z_goto (off := 21) (tgt := 222) (pc' := 204) ⟨by decide +kernel, by decide, rfl⟩ ?_
        refine z_iload (i := 6) (q := 5) (pc' := 224) ⟨by decide +kernel, rfl⟩ rfl ?_
        exact z_iret (ty := .int) rfl (by rfl) (by decide +kernel) (k _ _ h)
    · have h := h.2 (qi_le_f rfl (by decide) h2)
      refine z_sub [1, 2, 5] rfl ?_
      exact sb_Po_splitNumber_177 f15 k h
noncomputable def W_Po_splitNumber_b139 (F15 : Int32 → Int64 → Int64 → Int32 → Int32 → Int32 → zS → (Int32 → zS → Prop) → Prop) (x1 : Int32) (x2 : Int64) (x4 : Int64) (x6 : Int32) (x7 : Int32) (y0 : Int32) (σ : zS) (Q : Int32 → zS → Prop) : Prop := (-2147483648 ≤ (Int32.toInt y0) - (Int32.toInt x1) ∧ (Int32.toInt y0) - (Int32.toInt x1) ≤ 2147483647) ∧ ∀ r1 : Int32, r1.toInt = (Int32.toInt y0) - (Int32.toInt x1) → (((Int32.toInt x7) = (-4) → (W_Po_splitNumber_b161 F15 x1 x2 x4 x6 x7 r1 0 σ Q)) ∧ (¬ (Int32.toInt x7) = (-4) → ((-2147483648 ≤ (Int32.toInt x6) - (Int32.toInt x7) ∧ (Int32.toInt x6) - (Int32.toInt x7) ≤ 2147483647) ∧ ∀ r3 : Int32, r3.toInt = (Int32.toInt x6) - (Int32.toInt x7) → ((-2147483648 ≤ (Int32.toInt r3) - 1 ∧ (Int32.toInt r3) - 1 ≤ 2147483647) ∧ ∀ r4 : Int32, r4.toInt = (Int32.toInt r3) - 1 → (W_Po_splitNumber_b161 F15 x1 x2 x4 x6 x7 r1 r4 σ Q)))))
theorem sb_Po_splitNumber_139 {E : xV} {σ : zS} {K : zKt} {F15 : Int32 → Int64 → Int64 → Int32 → Int32 → Int32 → zS → (Int32 → zS → Prop) → Prop} {x1 : Int32} {x2 : Int64} {x4 : Int64} {x6 : Int32} {x7 : Int32} {y0 : Int32} {Q : Int32 → zS → Prop} (f15 : ∀ (x1 : Int32) (x2 : Int64) (x4 : Int64) (x6 : Int32) (x7 : Int32) (x8 : Int32) (σ : zS), F15 x1 x2 x4 x6 x7 x8 σ Q → Wz E Y_Po_splitNumber 15 [(0, .ref 17), (1, .int x1), (2, .long x2), (4, .long x4), (6, .int x6), (7, .int x7), (8, .int x8)] [] σ K) (k : ∀ v s, Q v s → K (some (.int v)) s) (h : W_Po_splitNumber_b139 F15 x1 x2 x4 x6 x7 y0 σ Q) : Wz E Y_Po_splitNumber 139 [(0, .ref 17), (1, .int x1), (2, .long x2), (4, .long x4), (6, .int x6), (7, .int x7)] [.int y0] σ K := by
  unfold W_Po_splitNumber_b139 at h
  refine z_iload_n (f := 1) (i := 1) (q := 1) (pc' := 140) ⟨by decide +kernel, rfl⟩ rfl rfl ?_
  refine z_isub (pc' := 141) ⟨by decide +kernel, rfl⟩ ?_
  obtain ⟨hb1, h⟩ := h
  have h := h (y0 - x1) (is_ok rfl rfl hb1)
  generalize (y0 - x1) = r1 at h ⊢
  refine z_istore (i := 8) (pc' := 143) ⟨by decide +kernel, rfl⟩ (by decide) rfl ?_
  show Wz E Y_Po_splitNumber 143 [(8, .int r1), (0, .ref 17), (1, .int x1), (2, .long x2), (4, .long x4), (6, .int x6), (7, .int x7)] [] σ K
  refine z_iload (i := 7) (q := 6) (pc' := 145) ⟨by decide +kernel, rfl⟩ rfl ?_
  refine z_bipush (i := (-4)) (v := (-4)) (pc' := 147) ⟨by decide +kernel, rfl⟩ (by decide) ?_
  refine z_icmp_ne (off := 7) (tgt := 154) (pc' := 150) ⟨by decide +kernel, by decide, rfl⟩ (fun h2 => ?_) (fun h2 => ?_)
  · have h := h.2 (qi_ne_t rfl (by decide) h2)
    refine z_iload (i := 6) (q := 5) (pc' := 156) ⟨by decide +kernel, rfl⟩ rfl ?_
    refine z_iload (i := 7) (q := 6) (pc' := 158) ⟨by decide +kernel, rfl⟩ rfl ?_
    refine z_isub (pc' := 159) ⟨by decide +kernel, rfl⟩ ?_
    obtain ⟨hb3, h⟩ := h
    have h := h (x6 - x7) (is_ok rfl rfl hb3)
    generalize (x6 - x7) = r3 at h ⊢
    refine z_iconst (i := 1) (v := 1) (pc' := 160) ⟨by decide +kernel, rfl⟩ (by decide) ?_
    refine z_isub (pc' := 161) ⟨by decide +kernel, rfl⟩ ?_
    obtain ⟨hb4, h⟩ := h
    have h := h (r3 - 1) (is_ok rfl (by decide) hb4)
    generalize (r3 - 1) = r4 at h ⊢
    refine z_sub [1, 2, 3, 4, 5, 6, 0] rfl ?_
    exact sb_Po_splitNumber_161 f15 k h
  · have h := h.1 (qi_ne_f rfl (by decide) h2)
    refine z_iconst (i := 0) (v := 0) (pc' := 151) ⟨by decide +kernel, rfl⟩ (by decide) ?_
    refine z_goto (off := 10) (tgt := 161) (pc' := 154) ⟨by decide +kernel, by decide, rfl⟩ ?_
    refine z_sub [1, 2, 3, 4, 5, 6, 0] rfl ?_
    exact sb_Po_splitNumber_161 f15 k h
noncomputable def WB_Po_splitNumber_15 (F15 : Int32 → Int64 → Int64 → Int32 → Int32 → Int32 → zS → (Int32 → zS → Prop) → Prop) (x1 : Int32) (x2 : Int64) (x4 : Int64) (x6 : Int32) (x7 : Int32) (x8 : Int32) (σ : zS) (Q : Int32 → zS → Prop) : Prop := (1200 ≤ (Int32.toInt x8) → (((Int32.toInt x7) = (-4) → (W_Po_splitNumber_b139 F15 x1 x2 x4 x6 x7 x6 σ Q)) ∧ (¬ (Int32.toInt x7) = (-4) → (W_Po_splitNumber_b139 F15 x1 x2 x4 x6 x7 x7 σ Q)))) ∧ (¬ 1200 ≤ (Int32.toInt x8) → (W_Po_isFigure x6 σ (fun v3 σ3 => ((Int32.toInt v3) = 0 → (((Int32.toInt x7) = (-4) → (((Int32.toInt (σ3.1 17 9)) ≤ (Int32.toInt x6) → (((Int32.toInt x7) = (-4) → (W_Po_splitNumber_b139 F15 x1 x2 x4 x6 x7 x6 σ3 Q)) ∧ (¬ (Int32.toInt x7) = (-4) → (W_Po_splitNumber_b139 F15 x1 x2 x4 x6 x7 x7 σ3 Q)))) ∧ (¬ (Int32.toInt (σ3.1 17 9)) ≤ (Int32.toInt x6) → (∃ n9 : Nat, Int32.toInt x6 = (n9 : Int) ∧ n9 < 1200 ∧ (((Int32.toInt (σ3.1 23 n9)) = 46 → ((-2147483648 ≤ (Int32.toInt x6) + 1 ∧ (Int32.toInt x6) + 1 ≤ 2147483647) ∧ ∀ r12 : Int32, r12.toInt = (Int32.toInt x6) + 1 → (W_Po_isFigure r12 σ3 (fun v13 σ13 => ((Int32.toInt v13) = 0 → (((Int32.toInt x7) = (-4) → (W_Po_splitNumber_b139 F15 x1 x2 x4 x6 x7 x6 σ13 Q)) ∧ (¬ (Int32.toInt x7) = (-4) → (W_Po_splitNumber_b139 F15 x1 x2 x4 x6 x7 x7 σ13 Q)))) ∧ (¬ (Int32.toInt v13) = 0 → ((-2147483648 ≤ (Int32.toInt x6) + 1 ∧ (Int32.toInt x6) + 1 ≤ 2147483647) ∧ ∀ r16 : Int32, r16.toInt = (Int32.toInt x6) + 1 → ((-2147483648 ≤ (Int32.toInt x8) + 1 ∧ (Int32.toInt x8) + 1 ≤ 2147483647) ∧ ∀ r17 : Int32, r17.toInt = (Int32.toInt x8) + 1 → (F15 x1 x2 x4 r16 x6 r17 σ13 Q)))))))) ∧ (¬ (Int32.toInt (σ3.1 23 n9)) = 46 → (((Int32.toInt x7) = (-4) → (W_Po_splitNumber_b139 F15 x1 x2 x4 x6 x7 x6 σ3 Q)) ∧ (¬ (Int32.toInt x7) = (-4) → (W_Po_splitNumber_b139 F15 x1 x2 x4 x6 x7 x7 σ3 Q))))))))) ∧ (¬ (Int32.toInt x7) = (-4) → (((Int32.toInt x7) = (-4) → (W_Po_splitNumber_b139 F15 x1 x2 x4 x6 x7 x6 σ3 Q)) ∧ (¬ (Int32.toInt x7) = (-4) → (W_Po_splitNumber_b139 F15 x1 x2 x4 x6 x7 x7 σ3 Q)))))) ∧ (¬ (Int32.toInt v3) = 0 → (∃ n18 : Nat, Int32.toInt x6 = (n18 : Int) ∧ n18 < 1200 ∧ (∀ r19 : Int64, r19.toInt = (Int32.toInt (σ3.1 23 n18)) → (((Int32.toInt x7) = (-4) → ((-2147483648 ≤ (Int32.toInt x6) + 1 ∧ (Int32.toInt x6) + 1 ≤ 2147483647) ∧ ∀ r23 : Int32, r23.toInt = (Int32.toInt x6) + 1 → ((-2147483648 ≤ (Int32.toInt x8) + 1 ∧ (Int32.toInt x8) + 1 ≤ 2147483647) ∧ ∀ r24 : Int32, r24.toInt = (Int32.toInt x8) + 1 → (F15 x1 (((x2 * 10) + r19) - 48) 1 r23 x7 r24 σ3 Q)))) ∧ (¬ (Int32.toInt x7) = (-4) → ((-2147483648 ≤ (Int32.toInt x6) + 1 ∧ (Int32.toInt x6) + 1 ≤ 2147483647) ∧ ∀ r21 : Int32, r21.toInt = (Int32.toInt x6) + 1 → ((-2147483648 ≤ (Int32.toInt x8) + 1 ∧ (Int32.toInt x8) + 1 ≤ 2147483647) ∧ ∀ r22 : Int32, r22.toInt = (Int32.toInt x8) + 1 → (F15 x1 (((x2 * 10) + r19) - 48) (x4 * 10) r21 x7 r22 σ3 Q)))))))))))
theorem sh_Po_splitNumber_15 {E : xV} {σ : zS} {K : zKt} {F15 : Int32 → Int64 → Int64 → Int32 → Int32 → Int32 → zS → (Int32 → zS → Prop) → Prop} {x1 : Int32} {x2 : Int64} {x4 : Int64} {x6 : Int32} {x7 : Int32} {x8 : Int32} {Q : Int32 → zS → Prop} (f15 : ∀ (x1 : Int32) (x2 : Int64) (x4 : Int64) (x6 : Int32) (x7 : Int32) (x8 : Int32) (σ : zS), F15 x1 x2 x4 x6 x7 x8 σ Q → Wz E Y_Po_splitNumber 15 [(0, .ref 17), (1, .int x1), (2, .long x2), (4, .long x4), (6, .int x6), (7, .int x7), (8, .int x8)] [] σ K) (k : ∀ v s, Q v s → K (some (.int v)) s) (h : WB_Po_splitNumber_15 F15 x1 x2 x4 x6 x7 x8 σ Q) : Wz E Y_Po_splitNumber 15 [(0, .ref 17), (1, .int x1), (2, .long x2), (4, .long x4), (6, .int x6), (7, .int x7), (8, .int x8)] [] σ K := by
  unfold WB_Po_splitNumber_15 at h
  refine z_iload (i := 8) (q := 6) (pc' := 17) ⟨by decide +kernel, rfl⟩ rfl ?_
  refine z_sipush (i := 1200) (v := 1200) (pc' := 20) ⟨by decide +kernel, rfl⟩ (by decide) ?_
  refine z_icmp_ge (off := 105) (tgt := 125) (pc' := 23) ⟨by decide +kernel, by decide, rfl⟩ (fun h1 => ?_) (fun h1 => ?_)
  · have h := h.1 (qi_ge_t rfl (by decide) h1)
    refine z_iload (i := 7) (q := 5) (pc' := 127) ⟨by decide +kernel, rfl⟩ rfl ?_
    refine z_bipush (i := (-4)) (v := (-4)) (pc' := 129) ⟨by decide +kernel, rfl⟩ (by decide) ?_
    refine z_icmp_ne (off := 8) (tgt := 137) (pc' := 132) ⟨by decide +kernel, by decide, rfl⟩ (fun h2 => ?_) (fun h2 => ?_)
    · have h := h.2 (qi_ne_t rfl (by decide) h2)
      refine z_iload (i := 7) (q := 5) (pc' := 139) ⟨by decide +kernel, rfl⟩ rfl ?_
      refine z_sub [0, 1, 2, 3, 4, 5] rfl ?_
      exact sb_Po_splitNumber_139 f15 k h
    · have h := h.1 (qi_ne_f rfl (by decide) h2)
      refine z_iload (i := 6) (q := 4) (pc' := 134) ⟨by decide +kernel, rfl⟩ rfl ?_
      refine z_goto (off := 5) (tgt := 139) (pc' := 137) ⟨by decide +kernel, by decide, rfl⟩ ?_
      refine z_sub [0, 1, 2, 3, 4, 5] rfl ?_
      exact sb_Po_splitNumber_139 f15 k h
  · have h := h.2 (qi_ge_f rfl (by decide) h1)
    refine z_aload_n (f := 0) (i := 0) (q := 0) (pc' := 24) ⟨by decide +kernel, rfl⟩ rfl rfl ?_
    refine z_iload (i := 6) (q := 4) (pc' := 26) ⟨by decide +kernel, rfl⟩ rfl ?_
    refine w_invV (Z := Y_Po_isFigure) (idx := 97) (kb := 17) (As := [.int x6]) (rest := []) (pc' := 29) cl_7_97 rfl ⟨rfl, rfl⟩ ykfa_17_0 rfl ⟨⟨by decide, by decide⟩, rfl, rfl⟩ ⟨by decide +kernel, rfl⟩ rfl rfl (Nat.le_of_ble_eq_true rfl) rfl rfl ?_
    refine sF_Po_isFigure h (fun v3 σ3 h => ?_)
    show Wz E Y_Po_splitNumber 29 [(0, .ref 17), (1, .int x1), (2, .long x2), (4, .long x4), (6, .int x6), (7, .int x7), (8, .int x8)] [.int v3] σ3 K
    refine z_if_eq (off := 44) (tgt := 73) (pc' := 32) ⟨by decide +kernel, by decide, rfl⟩ (fun h4 => ?_) (fun h4 => ?_)
    · have h := h.1 (qi_eq_t rfl (by decide) h4)
      refine z_iload (i := 7) (q := 5) (pc' := 75) ⟨by decide +kernel, rfl⟩ rfl ?_
      refine z_bipush (i := (-4)) (v := (-4)) (pc' := 77) ⟨by decide +kernel, rfl⟩ (by decide) ?_
      refine z_icmp_ne (off := 48) (tgt := 125) (pc' := 80) ⟨by decide +kernel, by decide, rfl⟩ (fun h5 => ?_) (fun h5 => ?_)
      · have h := h.2 (qi_ne_t rfl (by decide) h5)
        refine z_iload (i := 7) (q := 5) (pc' := 127) ⟨by decide +kernel, rfl⟩ rfl ?_
        refine z_bipush (i := (-4)) (v := (-4)) (pc' := 129) ⟨by decide +kernel, rfl⟩ (by decide) ?_
        refine z_icmp_ne (off := 8) (tgt := 137) (pc' := 132) ⟨by decide +kernel, by decide, rfl⟩ (fun h6 => ?_) (fun h6 => ?_)
        · have h := h.2 (qi_ne_t rfl (by decide) h6)
          refine z_iload (i := 7) (q := 5) (pc' := 139) ⟨by decide +kernel, rfl⟩ rfl ?_
          refine z_sub [0, 1, 2, 3, 4, 5] rfl ?_
          exact sb_Po_splitNumber_139 f15 k h
        · have h := h.1 (qi_ne_f rfl (by decide) h6)
          refine z_iload (i := 6) (q := 4) (pc' := 134) ⟨by decide +kernel, rfl⟩ rfl ?_
          refine z_goto (off := 5) (tgt := 139) (pc' := 137) ⟨by decide +kernel, by decide, rfl⟩ ?_
          refine z_sub [0, 1, 2, 3, 4, 5] rfl ?_
          exact sb_Po_splitNumber_139 f15 k h
      · have h := h.1 (qi_ne_f rfl (by decide) h5)
        refine z_iload (i := 6) (q := 4) (pc' := 82) ⟨by decide +kernel, rfl⟩ rfl ?_
        refine z_aload_n (f := 0) (i := 0) (q := 0) (pc' := 83) ⟨by decide +kernel, rfl⟩ rfl rfl ?_
        refine w_geti (k := 17) (j := 9) (idx := 56) (pc' := 86) yfxe_7_56 ykfa_17_9 ⟨by decide +kernel, rfl⟩ ?_
        refine z_icmp_ge (off := 39) (tgt := 125) (pc' := 89) ⟨by decide +kernel, by decide, rfl⟩ (fun h7 => ?_) (fun h7 => ?_)
        · have h := h.1 (qi_ge_t rfl rfl h7)
          refine z_iload (i := 7) (q := 5) (pc' := 127) ⟨by decide +kernel, rfl⟩ rfl ?_
          refine z_bipush (i := (-4)) (v := (-4)) (pc' := 129) ⟨by decide +kernel, rfl⟩ (by decide) ?_
          refine z_icmp_ne (off := 8) (tgt := 137) (pc' := 132) ⟨by decide +kernel, by decide, rfl⟩ (fun h8 => ?_) (fun h8 => ?_)
          · have h := h.2 (qi_ne_t rfl (by decide) h8)
            refine z_iload (i := 7) (q := 5) (pc' := 139) ⟨by decide +kernel, rfl⟩ rfl ?_
            refine z_sub [0, 1, 2, 3, 4, 5] rfl ?_
            exact sb_Po_splitNumber_139 f15 k h
          · have h := h.1 (qi_ne_f rfl (by decide) h8)
            refine z_iload (i := 6) (q := 4) (pc' := 134) ⟨by decide +kernel, rfl⟩ rfl ?_
            refine z_goto (off := 5) (tgt := 139) (pc' := 137) ⟨by decide +kernel, by decide, rfl⟩ ?_
            refine z_sub [0, 1, 2, 3, 4, 5] rfl ?_
            exact sb_Po_splitNumber_139 f15 k h
        · have h := h.2 (qi_ge_f rfl rfl h7)
          refine z_aload_n (f := 0) (i := 0) (q := 0) (pc' := 90) ⟨by decide +kernel, rfl⟩ rfl rfl ?_
          refine w_getr (k := 17) (j := 8) (idx := 38) (pc' := 93) yfxe_7_38 ykfa_17_8 ⟨by decide +kernel, rfl⟩ ?_
          refine z_iload (i := 6) (q := 4) (pc' := 95) ⟨by decide +kernel, rfl⟩ rfl ?_
          obtain ⟨n9, hi9, hz9, h⟩ := h
          refine w_iald (k := 23) (n := n9) (pc' := 96) ykaa_23 (hi9) (hz9) ⟨by decide +kernel, rfl⟩ ?_
          refine z_bipush (i := 46) (v := 46) (pc' := 98) ⟨by decide +kernel, rfl⟩ (by decide) ?_
          refine z_icmp_ne (off := 27) (tgt := 125) (pc' := 101) ⟨by decide +kernel, by decide, rfl⟩ (fun h10 => ?_) (fun h10 => ?_)
          · have h := h.2 (qi_ne_t rfl (by decide) h10)
            refine z_iload (i := 7) (q := 5) (pc' := 127) ⟨by decide +kernel, rfl⟩ rfl ?_
            refine z_bipush (i := (-4)) (v := (-4)) (pc' := 129) ⟨by decide +kernel, rfl⟩ (by decide) ?_
            refine z_icmp_ne (off := 8) (tgt := 137) (pc' := 132) ⟨by decide +kernel, by decide, rfl⟩ (fun h11 => ?_) (fun h11 => ?_)
            · have h := h.2 (qi_ne_t rfl (by decide) h11)
              refine z_iload (i := 7) (q := 5) (pc' := 139) ⟨by decide +kernel, rfl⟩ rfl ?_
              refine z_sub [0, 1, 2, 3, 4, 5] rfl ?_
              exact sb_Po_splitNumber_139 f15 k h
            · have h := h.1 (qi_ne_f rfl (by decide) h11)
              refine z_iload (i := 6) (q := 4) (pc' := 134) ⟨by decide +kernel, rfl⟩ rfl ?_
              refine z_goto (off := 5) (tgt := 139) (pc' := 137) ⟨by decide +kernel, by decide, rfl⟩ ?_
              refine z_sub [0, 1, 2, 3, 4, 5] rfl ?_
              exact sb_Po_splitNumber_139 f15 k h
          · have h := h.1 (qi_ne_f rfl (by decide) h10)
            refine z_aload_n (f := 0) (i := 0) (q := 0) (pc' := 102) ⟨by decide +kernel, rfl⟩ rfl rfl ?_
            refine z_iload (i := 6) (q := 4) (pc' := 104) ⟨by decide +kernel, rfl⟩ rfl ?_
            refine z_iconst (i := 1) (v := 1) (pc' := 105) ⟨by decide +kernel, rfl⟩ (by decide) ?_
            refine z_iadd (pc' := 106) ⟨by decide +kernel, rfl⟩ ?_
            obtain ⟨hb12, h⟩ := h
            have h := h (x6 + 1) (ia_ok rfl (by decide) hb12)
            generalize (x6 + 1) = r12 at h ⊢
            refine w_invV (Z := Y_Po_isFigure) (idx := 97) (kb := 17) (As := [.int r12]) (rest := []) (pc' := 109) cl_7_97 rfl ⟨rfl, rfl⟩ ykfa_17_0 rfl ⟨⟨by decide, by decide⟩, rfl, rfl⟩ ⟨by decide +kernel, rfl⟩ rfl rfl (Nat.le_of_ble_eq_true rfl) rfl rfl ?_
            refine sF_Po_isFigure h (fun v13 σ13 h => ?_)
            show Wz E Y_Po_splitNumber 109 [(0, .ref 17), (1, .int x1), (2, .long x2), (4, .long x4), (6, .int x6), (7, .int x7), (8, .int x8)] [.int v13] σ13 K
            refine z_if_eq (off := 16) (tgt := 125) (pc' := 112) ⟨by decide +kernel, by decide, rfl⟩ (fun h14 => ?_) (fun h14 => ?_)
            · have h := h.1 (qi_eq_t rfl (by decide) h14)
              refine z_iload (i := 7) (q := 5) (pc' := 127) ⟨by decide +kernel, rfl⟩ rfl ?_
              refine z_bipush (i := (-4)) (v := (-4)) (pc' := 129) ⟨by decide +kernel, rfl⟩ (by decide) ?_
              refine z_icmp_ne (off := 8) (tgt := 137) (pc' := 132) ⟨by decide +kernel, by decide, rfl⟩ (fun h15 => ?_) (fun h15 => ?_)
              · have h := h.2 (qi_ne_t rfl (by decide) h15)
                refine z_iload (i := 7) (q := 5) (pc' := 139) ⟨by decide +kernel, rfl⟩ rfl ?_
                refine z_sub [0, 1, 2, 3, 4, 5] rfl ?_
                exact sb_Po_splitNumber_139 f15 k h
              · have h := h.1 (qi_ne_f rfl (by decide) h15)
                refine z_iload (i := 6) (q := 4) (pc' := 134) ⟨by decide +kernel, rfl⟩ rfl ?_
                refine z_goto (off := 5) (tgt := 139) (pc' := 137) ⟨by decide +kernel, by decide, rfl⟩ ?_
                refine z_sub [0, 1, 2, 3, 4, 5] rfl ?_
                exact sb_Po_splitNumber_139 f15 k h
            · have h := h.2 (qi_eq_f rfl (by decide) h14)
              refine z_iload (i := 6) (q := 4) (pc' := 114) ⟨by decide +kernel, rfl⟩ rfl ?_
              refine z_istore (i := 7) (pc' := 116) ⟨by decide +kernel, rfl⟩ (by decide) rfl ?_
              show Wz E Y_Po_splitNumber 116 [(7, .int x6), (0, .ref 17), (1, .int x1), (2, .long x2), (4, .long x4), (6, .int x6), (8, .int x8)] [] σ13 K
              refine z_iinc (i := 6) (z := 1) (q := 5) (pc' := 119) ⟨by decide +kernel, rfl⟩ rfl rfl (by decide) rfl ?_
              show Wz E Y_Po_splitNumber 119 [(6, .int (x6 + Int32.ofInt 1)), (7, .int x6), (0, .ref 17), (1, .int x1), (2, .long x2), (4, .long x4), (8, .int x8)] [] σ13 K
              obtain ⟨hb16, h⟩ := h
              have h := h (x6 + Int32.ofInt 1) (ia_ok rfl (by decide) hb16)
              generalize (x6 + Int32.ofInt 1) = r16 at h ⊢
              refine z_iinc (i := 8) (z := 1) (q := 6) (pc' := 122) ⟨by decide +kernel, rfl⟩ rfl rfl (by decide) rfl ?_
              show Wz E Y_Po_splitNumber 122 [(8, .int (x8 + Int32.ofInt 1)), (6, .int r16), (7, .int x6), (0, .ref 17), (1, .int x1), (2, .long x2), (4, .long x4)] [] σ13 K
              obtain ⟨hb17, h⟩ := h
              have h := h (x8 + Int32.ofInt 1) (ia_ok rfl (by decide) hb17)
              generalize (x8 + Int32.ofInt 1) = r17 at h ⊢
              refine z_goto (off := (-107)) (tgt := 15) (pc' := 125) ⟨by decide +kernel, by decide, rfl⟩ ?_
              refine z_sub [3, 4, 5, 6, 1, 2, 0] rfl ?_
              exact f15 _ _ _ _ _ _ _ h
    · have h := h.2 (qi_eq_f rfl (by decide) h4)
      refine z_lload_n (f := 2) (i := 2) (q := 2) (pc' := 33) ⟨by decide +kernel, rfl⟩ rfl rfl ?_
      refine z_ldc2 (i := 116) (v := 10) (pc' := 36) ⟨by decide +kernel, rfl⟩ k_4_106 ?_
      refine z_lmul (pc' := 37) ⟨by decide +kernel, rfl⟩ ?_
      refine z_aload_n (f := 0) (i := 0) (q := 0) (pc' := 38) ⟨by decide +kernel, rfl⟩ rfl rfl ?_
      refine w_getr (k := 17) (j := 8) (idx := 38) (pc' := 41) yfxe_7_38 ykfa_17_8 ⟨by decide +kernel, rfl⟩ ?_
      refine z_iload (i := 6) (q := 4) (pc' := 43) ⟨by decide +kernel, rfl⟩ rfl ?_
      obtain ⟨n18, hi18, hz18, h⟩ := h
      refine w_iald (k := 23) (n := n18) (pc' := 44) ykaa_23 (hi18) (hz18) ⟨by decide +kernel, rfl⟩ ?_
      refine z_i2l (v := (Int32.toInt64 (σ3.1 23 n18))) (pc' := 45) ⟨by decide +kernel, rfl⟩ rfl ?_
      have h := h (Int32.toInt64 (σ3.1 23 n18)) (Int32.toInt_toInt64 _)
      generalize (Int32.toInt64 (σ3.1 23 n18)) = r19 at h ⊢
      refine z_ladd (pc' := 46) ⟨by decide +kernel, rfl⟩ ?_
      refine z_ldc2 (i := 118) (v := 48) (pc' := 49) ⟨by decide +kernel, rfl⟩ k_4_107 ?_
      refine z_lsub (pc' := 50) ⟨by decide +kernel, rfl⟩ ?_
      refine z_lstore_n (f := 2) (i := 2) (pc' := 51) ⟨by decide +kernel, rfl⟩ rfl (by decide) rfl ?_
      show Wz E Y_Po_splitNumber 51 [(2, .long (((x2 * 10) + r19) - 48)), (0, .ref 17), (1, .int x1), (4, .long x4), (6, .int x6), (7, .int x7), (8, .int x8)] [] σ3 K
      refine z_iload (i := 7) (q := 5) (pc' := 53) ⟨by decide +kernel, rfl⟩ rfl ?_
      refine z_bipush (i := (-4)) (v := (-4)) (pc' := 55) ⟨by decide +kernel, rfl⟩ (by decide) ?_
      refine z_icmp_ne (off := 7) (tgt := 62) (pc' := 58) ⟨by decide +kernel, by decide, rfl⟩ (fun h20 => ?_) (fun h20 => ?_)
      · have h := h.2 (qi_ne_t rfl (by decide) h20)
        refine z_lload (i := 4) (q := 3) (pc' := 64) ⟨by decide +kernel, rfl⟩ rfl ?_
        refine z_ldc2 (i := 116) (v := 10) (pc' := 67) ⟨by decide +kernel, rfl⟩ k_4_106 ?_
        refine z_lmul (pc' := 68) ⟨by decide +kernel, rfl⟩ ?_
        refine z_lstore (i := 4) (pc' := 70) ⟨by decide +kernel, rfl⟩ (by decide) rfl ?_
        show Wz E Y_Po_splitNumber 70 [(4, .long (x4 * 10)), (2, .long (((x2 * 10) + r19) - 48)), (0, .ref 17), (1, .int x1), (6, .int x6), (7, .int x7), (8, .int x8)] [] σ3 K
        refine z_goto (off := 46) (tgt := 116) (pc' := 73) ⟨by decide +kernel, by decide, rfl⟩ ?_
        refine z_iinc (i := 6) (z := 1) (q := 4) (pc' := 119) ⟨by decide +kernel, rfl⟩ rfl rfl (by decide) rfl ?_
        show Wz E Y_Po_splitNumber 119 [(6, .int (x6 + Int32.ofInt 1)), (4, .long (x4 * 10)), (2, .long (((x2 * 10) + r19) - 48)), (0, .ref 17), (1, .int x1), (7, .int x7), (8, .int x8)] [] σ3 K
        obtain ⟨hb21, h⟩ := h
        have h := h (x6 + Int32.ofInt 1) (ia_ok rfl (by decide) hb21)
        generalize (x6 + Int32.ofInt 1) = r21 at h ⊢
        refine z_iinc (i := 8) (z := 1) (q := 6) (pc' := 122) ⟨by decide +kernel, rfl⟩ rfl rfl (by decide) rfl ?_
        show Wz E Y_Po_splitNumber 122 [(8, .int (x8 + Int32.ofInt 1)), (6, .int r21), (4, .long (x4 * 10)), (2, .long (((x2 * 10) + r19) - 48)), (0, .ref 17), (1, .int x1), (7, .int x7)] [] σ3 K
        obtain ⟨hb22, h⟩ := h
        have h := h (x8 + Int32.ofInt 1) (ia_ok rfl (by decide) hb22)
        generalize (x8 + Int32.ofInt 1) = r22 at h ⊢
        refine z_goto (off := (-107)) (tgt := 15) (pc' := 125) ⟨by decide +kernel, by decide, rfl⟩ ?_
        refine z_sub [4, 5, 3, 2, 1, 6, 0] rfl ?_
        exact f15 _ _ _ _ _ _ _ h
      · have h := h.1 (qi_ne_f rfl (by decide) h20)
        refine z_lconst (i := 1) (v := 1) (pc' := 59) ⟨by decide +kernel, rfl⟩ (by decide) ?_
        refine z_goto (off := 9) (tgt := 68) (pc' := 62) ⟨by decide +kernel, by decide, rfl⟩ ?_
        refine z_lstore (i := 4) (pc' := 70) ⟨by decide +kernel, rfl⟩ (by decide) rfl ?_
        show Wz E Y_Po_splitNumber 70 [(4, .long 1), (2, .long (((x2 * 10) + r19) - 48)), (0, .ref 17), (1, .int x1), (6, .int x6), (7, .int x7), (8, .int x8)] [] σ3 K
        refine z_goto (off := 46) (tgt := 116) (pc' := 73) ⟨by decide +kernel, by decide, rfl⟩ ?_
        refine z_iinc (i := 6) (z := 1) (q := 4) (pc' := 119) ⟨by decide +kernel, rfl⟩ rfl rfl (by decide) rfl ?_
        show Wz E Y_Po_splitNumber 119 [(6, .int (x6 + Int32.ofInt 1)), (4, .long 1), (2, .long (((x2 * 10) + r19) - 48)), (0, .ref 17), (1, .int x1), (7, .int x7), (8, .int x8)] [] σ3 K
        obtain ⟨hb23, h⟩ := h
        have h := h (x6 + Int32.ofInt 1) (ia_ok rfl (by decide) hb23)
        generalize (x6 + Int32.ofInt 1) = r23 at h ⊢
        refine z_iinc (i := 8) (z := 1) (q := 6) (pc' := 122) ⟨by decide +kernel, rfl⟩ rfl rfl (by decide) rfl ?_
        show Wz E Y_Po_splitNumber 122 [(8, .int (x8 + Int32.ofInt 1)), (6, .int r23), (4, .long 1), (2, .long (((x2 * 10) + r19) - 48)), (0, .ref 17), (1, .int x1), (7, .int x7)] [] σ3 K
        obtain ⟨hb24, h⟩ := h
        have h := h (x8 + Int32.ofInt 1) (ia_ok rfl (by decide) hb24)
        generalize (x8 + Int32.ofInt 1) = r24 at h ⊢
        refine z_goto (off := (-107)) (tgt := 15) (pc' := 125) ⟨by decide +kernel, by decide, rfl⟩ ?_
        refine z_sub [4, 5, 3, 2, 1, 6, 0] rfl ?_
        exact f15 _ _ _ _ _ _ _ h
noncomputable def WL_Po_splitNumber : Nat → (Int32 → Int64 → Int64 → Int32 → Int32 → Int32 → zS → (Int32 → zS → Prop) → Prop)
  | 0 => fun _ _ _ _ _ _ _ _ => False
  | n + 1 => WB_Po_splitNumber_15 (WL_Po_splitNumber n)
theorem wl_Po_splitNumber_15 {n : Nat} {x1 : Int32} {x2 : Int64} {x4 : Int64} {x6 : Int32} {x7 : Int32} {x8 : Int32} {σ : zS} {Q : Int32 → zS → Prop} (h : WB_Po_splitNumber_15 (WL_Po_splitNumber n) x1 x2 x4 x6 x7 x8 σ Q) : (WL_Po_splitNumber (n + 1)) x1 x2 x4 x6 x7 x8 σ Q := h
theorem sl_Po_splitNumber {E : xV} {K : zKt} {Q : Int32 → zS → Prop} (k : ∀ v s, Q v s → K (some (.int v)) s) : ∀ n, (∀ (x1 : Int32) (x2 : Int64) (x4 : Int64) (x6 : Int32) (x7 : Int32) (x8 : Int32) (σ : zS), (WL_Po_splitNumber n) x1 x2 x4 x6 x7 x8 σ Q → Wz E Y_Po_splitNumber 15 [(0, .ref 17), (1, .int x1), (2, .long x2), (4, .long x4), (6, .int x6), (7, .int x7), (8, .int x8)] [] σ K)
  | 0 => fun _ _ _ _ _ _ _ h => h.elim
  | n + 1 => by
    have i := sl_Po_splitNumber (E := E)  k n
    exact fun _ _ _ _ _ _ _ h => sh_Po_splitNumber_15 i k h
noncomputable def W_Po_splitNumber (a1 : Int32) (σ : zS) (Q : Int32 → zS → Prop) : Prop := (WL_Po_splitNumber fuF) a1 0 1 a1 (-4) 0 σ Q
theorem sF_Po_splitNumber {E : xV} {σ : zS} {K : zKt} {a1 : Int32} {Q : Int32 → zS → Prop} (h : W_Po_splitNumber a1 σ Q) (k : ∀ v s, Q v s → K (some (.int v)) s) : Cz E Y_Po_splitNumber [.ref 17, .int a1] σ K := by
  refine z_entry (by decide) (fun a => by rw [sl_len]; exact Nat.le_of_ble_eq_true rfl) rfl ?_
  unfold W_Po_splitNumber at h
  refine z_lconst (i := 0) (v := 0) (pc' := 1) ⟨by decide +kernel, rfl⟩ (by decide) ?_
  refine z_lstore_n (f := 2) (i := 2) (pc' := 2) ⟨by decide +kernel, rfl⟩ rfl (by decide) rfl ?_
  show Wz E Y_Po_splitNumber 2 [(2, .long 0), (0, .ref 17), (1, .int a1)] [] σ K
  refine z_lconst (i := 1) (v := 1) (pc' := 3) ⟨by decide +kernel, rfl⟩ (by decide) ?_
  refine z_lstore (i := 4) (pc' := 5) ⟨by decide +kernel, rfl⟩ (by decide) rfl ?_
  show Wz E Y_Po_splitNumber 5 [(4, .long 1), (2, .long 0), (0, .ref 17), (1, .int a1)] [] σ K
  refine z_iload_n (f := 1) (i := 1) (q := 3) (pc' := 6) ⟨by decide +kernel, rfl⟩ rfl rfl ?_
  refine z_istore (i := 6) (pc' := 8) ⟨by decide +kernel, rfl⟩ (by decide) rfl ?_
  show Wz E Y_Po_splitNumber 8 [(6, .int a1), (4, .long 1), (2, .long 0), (0, .ref 17), (1, .int a1)] [] σ K
  refine z_bipush (i := (-4)) (v := (-4)) (pc' := 10) ⟨by decide +kernel, rfl⟩ (by decide) ?_
  refine z_istore (i := 7) (pc' := 12) ⟨by decide +kernel, rfl⟩ (by decide) rfl ?_
  show Wz E Y_Po_splitNumber 12 [(7, .int (-4)), (6, .int a1), (4, .long 1), (2, .long 0), (0, .ref 17), (1, .int a1)] [] σ K
  refine z_iconst (i := 0) (v := 0) (pc' := 13) ⟨by decide +kernel, rfl⟩ (by decide) ?_
  refine z_istore (i := 8) (pc' := 15) ⟨by decide +kernel, rfl⟩ (by decide) rfl ?_
  show Wz E Y_Po_splitNumber 15 [(8, .int 0), (7, .int (-4)), (6, .int a1), (4, .long 1), (2, .long 0), (0, .ref 17), (1, .int a1)] [] σ K
  refine z_sub [5, 6, 4, 3, 2, 1, 0] rfl ?_
  exact (sl_Po_splitNumber k fuF) _ _ _ _ _ _ _ h
noncomputable def W_Po_splitOff_b66 (F34 : Int32 → Int32 → Int32 → zS → (Int32 → zS → Prop) → Prop) (x1 : Int32) (x2 : Int32) (σ : zS) (Q : Int32 → zS → Prop) : Prop := ∀ r1 : Int64, r1.toInt = (Int32.toInt x2) → (W_Po_addToken 1 x1 r1 σ (fun _ σ2 => Q x2 σ2))
theorem sb_Po_splitOff_66 {E : xV} {σ : zS} {K : zKt} {F34 : Int32 → Int32 → Int32 → zS → (Int32 → zS → Prop) → Prop} {x1 : Int32} {x2 : Int32} {Q : Int32 → zS → Prop} (f34 : ∀ (x1 : Int32) (x2 : Int32) (x3 : Int32) (σ : zS), F34 x1 x2 x3 σ Q → Wz E Y_Po_splitOff 34 [(0, .ref 17), (1, .int x1), (2, .int x2), (3, .int x3)] [] σ K) (k : ∀ v s, Q v s → K (some (.int v)) s) (h : W_Po_splitOff_b66 F34 x1 x2 σ Q) : Wz E Y_Po_splitOff 66 [(0, .ref 17), (1, .int x1), (2, .int x2)] [] σ K := by
  unfold W_Po_splitOff_b66 at h
  refine z_aload_n (f := 0) (i := 0) (q := 0) (pc' := 67) ⟨by decide +kernel, rfl⟩ rfl rfl ?_
  refine z_iconst (i := 1) (v := 1) (pc' := 68) ⟨by decide +kernel, rfl⟩ (by decide) ?_
  refine z_iload_n (f := 1) (i := 1) (q := 1) (pc' := 69) ⟨by decide +kernel, rfl⟩ rfl rfl ?_
  refine z_iload_n (f := 2) (i := 2) (q := 2) (pc' := 70) ⟨by decide +kernel, rfl⟩ rfl rfl ?_
  refine z_i2l (v := (Int32.toInt64 x2)) (pc' := 71) ⟨by decide +kernel, rfl⟩ rfl ?_
  have h := h (Int32.toInt64 x2) (Int32.toInt_toInt64 _)
  generalize (Int32.toInt64 x2) = r1 at h ⊢
  refine w_invV (Z := Y_Po_addToken) (idx := 93) (kb := 17) (As := [.int 1, .int x1, .long r1]) (rest := []) (pc' := 74) cl_7_93 rfl ⟨rfl, rfl⟩ ykfa_17_0 rfl ⟨⟨by decide, by decide⟩, rfl, rfl⟩ ⟨by decide +kernel, rfl⟩ rfl rfl (Nat.le_of_ble_eq_true rfl) rfl rfl ?_
  refine sF_Po_addToken h (fun _ σ2 h => ?_)
  show Wz E Y_Po_splitOff 74 [(0, .ref 17), (1, .int x1), (2, .int x2)] [] σ2 K
  refine z_iload_n (f := 2) (i := 2) (q := 2) (pc' := 75) ⟨by decide +kernel, rfl⟩ rfl rfl ?_
  exact z_iret (ty := .int) rfl (by rfl) (by decide +kernel) (k _ _ h)
noncomputable def WB_Po_splitOff_34 (F34 : Int32 → Int32 → Int32 → zS → (Int32 → zS → Prop) → Prop) (x1 : Int32) (x2 : Int32) (x3 : Int32) (σ : zS) (Q : Int32 → zS → Prop) : Prop := (1200 ≤ (Int32.toInt x3) → (W_Po_splitOff_b66 F34 x1 x2 σ Q)) ∧ (¬ 1200 ≤ (Int32.toInt x3) → (W_Po_isLetter x2 σ (fun v2 σ2 => ((Int32.toInt v2) = 0 → (W_Po_isFigure x2 σ2 (fun v6 σ6 => ((Int32.toInt v6) = 0 → (W_Po_splitOff_b66 F34 x1 x2 σ6 Q)) ∧ (¬ (Int32.toInt v6) = 0 → ((-2147483648 ≤ (Int32.toInt x2) + 1 ∧ (Int32.toInt x2) + 1 ≤ 2147483647) ∧ ∀ r8 : Int32, r8.toInt = (Int32.toInt x2) + 1 → ((-2147483648 ≤ (Int32.toInt x3) + 1 ∧ (Int32.toInt x3) + 1 ≤ 2147483647) ∧ ∀ r9 : Int32, r9.toInt = (Int32.toInt x3) + 1 → (F34 x1 r8 r9 σ6 Q))))))) ∧ (¬ (Int32.toInt v2) = 0 → ((-2147483648 ≤ (Int32.toInt x2) + 1 ∧ (Int32.toInt x2) + 1 ≤ 2147483647) ∧ ∀ r4 : Int32, r4.toInt = (Int32.toInt x2) + 1 → ((-2147483648 ≤ (Int32.toInt x3) + 1 ∧ (Int32.toInt x3) + 1 ≤ 2147483647) ∧ ∀ r5 : Int32, r5.toInt = (Int32.toInt x3) + 1 → (F34 x1 r4 r5 σ2 Q)))))))
theorem sh_Po_splitOff_34 {E : xV} {σ : zS} {K : zKt} {F34 : Int32 → Int32 → Int32 → zS → (Int32 → zS → Prop) → Prop} {x1 : Int32} {x2 : Int32} {x3 : Int32} {Q : Int32 → zS → Prop} (f34 : ∀ (x1 : Int32) (x2 : Int32) (x3 : Int32) (σ : zS), F34 x1 x2 x3 σ Q → Wz E Y_Po_splitOff 34 [(0, .ref 17), (1, .int x1), (2, .int x2), (3, .int x3)] [] σ K) (k : ∀ v s, Q v s → K (some (.int v)) s) (h : WB_Po_splitOff_34 F34 x1 x2 x3 σ Q) : Wz E Y_Po_splitOff 34 [(0, .ref 17), (1, .int x1), (2, .int x2), (3, .int x3)] [] σ K := by
  unfold WB_Po_splitOff_34 at h
  refine z_iload_n (f := 3) (i := 3) (q := 3) (pc' := 35) ⟨by decide +kernel, rfl⟩ rfl rfl ?_
  refine z_sipush (i := 1200) (v := 1200) (pc' := 38) ⟨by decide +kernel, rfl⟩ (by decide) ?_
  refine z_icmp_ge (off := 28) (tgt := 66) (pc' := 41) ⟨by decide +kernel, by decide, rfl⟩ (fun h1 => ?_) (fun h1 => ?_)
  · have h := h.1 (qi_ge_t rfl (by decide) h1)
    refine z_sub [0, 1, 2] rfl ?_
    exact sb_Po_splitOff_66 f34 k h
  · have h := h.2 (qi_ge_f rfl (by decide) h1)
    refine z_aload_n (f := 0) (i := 0) (q := 0) (pc' := 42) ⟨by decide +kernel, rfl⟩ rfl rfl ?_
    refine z_iload_n (f := 2) (i := 2) (q := 2) (pc' := 43) ⟨by decide +kernel, rfl⟩ rfl rfl ?_
    refine w_invV (Z := Y_Po_isLetter) (idx := 103) (kb := 17) (As := [.int x2]) (rest := []) (pc' := 46) cl_7_103 rfl ⟨rfl, rfl⟩ ykfa_17_0 rfl ⟨⟨by decide, by decide⟩, rfl, rfl⟩ ⟨by decide +kernel, rfl⟩ rfl rfl (Nat.le_of_ble_eq_true rfl) rfl rfl ?_
    refine sF_Po_isLetter h (fun v2 σ2 h => ?_)
    show Wz E Y_Po_splitOff 46 [(0, .ref 17), (1, .int x1), (2, .int x2), (3, .int x3)] [.int v2] σ2 K
    refine z_if_ne (off := 11) (tgt := 57) (pc' := 49) ⟨by decide +kernel, by decide, rfl⟩ (fun h3 => ?_) (fun h3 => ?_)
    · have h := h.2 (qi_ne_t rfl (by decide) h3)
      refine z_iinc (i := 2) (z := 1) (q := 2) (pc' := 60) ⟨by decide +kernel, rfl⟩ rfl rfl (by decide) rfl ?_
      show Wz E Y_Po_splitOff 60 [(2, .int (x2 + Int32.ofInt 1)), (0, .ref 17), (1, .int x1), (3, .int x3)] [] σ2 K
      obtain ⟨hb4, h⟩ := h
      have h := h (x2 + Int32.ofInt 1) (ia_ok rfl (by decide) hb4)
      generalize (x2 + Int32.ofInt 1) = r4 at h ⊢
      refine z_iinc (i := 3) (z := 1) (q := 3) (pc' := 63) ⟨by decide +kernel, rfl⟩ rfl rfl (by decide) rfl ?_
      show Wz E Y_Po_splitOff 63 [(3, .int (x3 + Int32.ofInt 1)), (2, .int r4), (0, .ref 17), (1, .int x1)] [] σ2 K
      obtain ⟨hb5, h⟩ := h
      have h := h (x3 + Int32.ofInt 1) (ia_ok rfl (by decide) hb5)
      generalize (x3 + Int32.ofInt 1) = r5 at h ⊢
      refine z_goto (off := (-29)) (tgt := 34) (pc' := 66) ⟨by decide +kernel, by decide, rfl⟩ ?_
      refine z_sub [2, 3, 1, 0] rfl ?_
      exact f34 _ _ _ _ h
    · have h := h.1 (qi_ne_f rfl (by decide) h3)
      refine z_aload_n (f := 0) (i := 0) (q := 0) (pc' := 50) ⟨by decide +kernel, rfl⟩ rfl rfl ?_
      refine z_iload_n (f := 2) (i := 2) (q := 2) (pc' := 51) ⟨by decide +kernel, rfl⟩ rfl rfl ?_
      refine w_invV (Z := Y_Po_isFigure) (idx := 97) (kb := 17) (As := [.int x2]) (rest := []) (pc' := 54) cl_7_97 rfl ⟨rfl, rfl⟩ ykfa_17_0 rfl ⟨⟨by decide, by decide⟩, rfl, rfl⟩ ⟨by decide +kernel, rfl⟩ rfl rfl (Nat.le_of_ble_eq_true rfl) rfl rfl ?_
      refine sF_Po_isFigure h (fun v6 σ6 h => ?_)
      show Wz E Y_Po_splitOff 54 [(0, .ref 17), (1, .int x1), (2, .int x2), (3, .int x3)] [.int v6] σ6 K
      refine z_if_eq (off := 12) (tgt := 66) (pc' := 57) ⟨by decide +kernel, by decide, rfl⟩ (fun h7 => ?_) (fun h7 => ?_)
      · have h := h.1 (qi_eq_t rfl (by decide) h7)
        refine z_sub [0, 1, 2] rfl ?_
        exact sb_Po_splitOff_66 f34 k h
      · have h := h.2 (qi_eq_f rfl (by decide) h7)
        refine z_iinc (i := 2) (z := 1) (q := 2) (pc' := 60) ⟨by decide +kernel, rfl⟩ rfl rfl (by decide) rfl ?_
        show Wz E Y_Po_splitOff 60 [(2, .int (x2 + Int32.ofInt 1)), (0, .ref 17), (1, .int x1), (3, .int x3)] [] σ6 K
        obtain ⟨hb8, h⟩ := h
        have h := h (x2 + Int32.ofInt 1) (ia_ok rfl (by decide) hb8)
        generalize (x2 + Int32.ofInt 1) = r8 at h ⊢
        refine z_iinc (i := 3) (z := 1) (q := 3) (pc' := 63) ⟨by decide +kernel, rfl⟩ rfl rfl (by decide) rfl ?_
        show Wz E Y_Po_splitOff 63 [(3, .int (x3 + Int32.ofInt 1)), (2, .int r8), (0, .ref 17), (1, .int x1)] [] σ6 K
        obtain ⟨hb9, h⟩ := h
        have h := h (x3 + Int32.ofInt 1) (ia_ok rfl (by decide) hb9)
        generalize (x3 + Int32.ofInt 1) = r9 at h ⊢
        refine z_goto (off := (-29)) (tgt := 34) (pc' := 66) ⟨by decide +kernel, by decide, rfl⟩ ?_
        refine z_sub [2, 3, 1, 0] rfl ?_
        exact f34 _ _ _ _ h
noncomputable def WL_Po_splitOff : Nat → (Int32 → Int32 → Int32 → zS → (Int32 → zS → Prop) → Prop)
  | 0 => fun _ _ _ _ _ => False
  | n + 1 => WB_Po_splitOff_34 (WL_Po_splitOff n)
theorem wl_Po_splitOff_34 {n : Nat} {x1 : Int32} {x2 : Int32} {x3 : Int32} {σ : zS} {Q : Int32 → zS → Prop} (h : WB_Po_splitOff_34 (WL_Po_splitOff n) x1 x2 x3 σ Q) : (WL_Po_splitOff (n + 1)) x1 x2 x3 σ Q := h
theorem sl_Po_splitOff {E : xV} {K : zKt} {Q : Int32 → zS → Prop} (k : ∀ v s, Q v s → K (some (.int v)) s) : ∀ n, (∀ (x1 : Int32) (x2 : Int32) (x3 : Int32) (σ : zS), (WL_Po_splitOff n) x1 x2 x3 σ Q → Wz E Y_Po_splitOff 34 [(0, .ref 17), (1, .int x1), (2, .int x2), (3, .int x3)] [] σ K)
  | 0 => fun _ _ _ _ h => h.elim
  | n + 1 => by
    have i := sl_Po_splitOff (E := E)  k n
    exact fun _ _ _ _ h => sh_Po_splitOff_34 i k h
noncomputable def W_Po_splitOff (a1 : Int32) (σ : zS) (Q : Int32 → zS → Prop) : Prop := W_Po_isFigure a1 σ (fun v1 σ1 => ((Int32.toInt v1) = 0 → (W_Po_isLetter a1 σ1 (fun v3 σ3 => ((Int32.toInt v3) = 0 → (W_Po_splitSign a1 σ3 (fun v6 σ6 => Q v6 σ6))) ∧ (¬ (Int32.toInt v3) = 0 → ((-2147483648 ≤ (Int32.toInt a1) + 1 ∧ (Int32.toInt a1) + 1 ≤ 2147483647) ∧ ∀ r5 : Int32, r5.toInt = (Int32.toInt a1) + 1 → ((WL_Po_splitOff fuF) a1 r5 0 σ3 Q)))))) ∧ (¬ (Int32.toInt v1) = 0 → (W_Po_splitNumber a1 σ1 (fun v7 σ7 => Q v7 σ7))))
theorem sF_Po_splitOff {E : xV} {σ : zS} {K : zKt} {a1 : Int32} {Q : Int32 → zS → Prop} (h : W_Po_splitOff a1 σ Q) (k : ∀ v s, Q v s → K (some (.int v)) s) : Cz E Y_Po_splitOff [.ref 17, .int a1] σ K := by
  refine z_entry (by decide) (fun a => by rw [sl_len]; exact Nat.le_of_ble_eq_true rfl) rfl ?_
  unfold W_Po_splitOff at h
  refine z_aload_n (f := 0) (i := 0) (q := 0) (pc' := 1) ⟨by decide +kernel, rfl⟩ rfl rfl ?_
  refine z_iload_n (f := 1) (i := 1) (q := 1) (pc' := 2) ⟨by decide +kernel, rfl⟩ rfl rfl ?_
  refine w_invV (Z := Y_Po_isFigure) (idx := 97) (kb := 17) (As := [.int a1]) (rest := []) (pc' := 5) cl_7_97 rfl ⟨rfl, rfl⟩ ykfa_17_0 rfl ⟨⟨by decide, by decide⟩, rfl, rfl⟩ ⟨by decide +kernel, rfl⟩ rfl rfl (Nat.le_of_ble_eq_true rfl) rfl rfl ?_
  refine sF_Po_isFigure h (fun v1 σ1 h => ?_)
  show Wz E Y_Po_splitOff 5 [(0, .ref 17), (1, .int a1)] [.int v1] σ1 K
  refine z_if_eq (off := 9) (tgt := 14) (pc' := 8) ⟨by decide +kernel, by decide, rfl⟩ (fun h2 => ?_) (fun h2 => ?_)
  · have h := h.1 (qi_eq_t rfl (by decide) h2)
    refine z_aload_n (f := 0) (i := 0) (q := 0) (pc' := 15) ⟨by decide +kernel, rfl⟩ rfl rfl ?_
    refine z_iload_n (f := 1) (i := 1) (q := 1) (pc' := 16) ⟨by decide +kernel, rfl⟩ rfl rfl ?_
    refine w_invV (Z := Y_Po_isLetter) (idx := 103) (kb := 17) (As := [.int a1]) (rest := []) (pc' := 19) cl_7_103 rfl ⟨rfl, rfl⟩ ykfa_17_0 rfl ⟨⟨by decide, by decide⟩, rfl, rfl⟩ ⟨by decide +kernel, rfl⟩ rfl rfl (Nat.le_of_ble_eq_true rfl) rfl rfl ?_
    refine sF_Po_isLetter h (fun v3 σ3 h => ?_)
    show Wz E Y_Po_splitOff 19 [(0, .ref 17), (1, .int a1)] [.int v3] σ3 K
    refine z_if_ne (off := 9) (tgt := 28) (pc' := 22) ⟨by decide +kernel, by decide, rfl⟩ (fun h4 => ?_) (fun h4 => ?_)
    · have h := h.2 (qi_ne_t rfl (by decide) h4)
      refine z_iload_n (f := 1) (i := 1) (q := 1) (pc' := 29) ⟨by decide +kernel, rfl⟩ rfl rfl ?_
      refine z_iconst (i := 1) (v := 1) (pc' := 30) ⟨by decide +kernel, rfl⟩ (by decide) ?_
      refine z_iadd (pc' := 31) ⟨by decide +kernel, rfl⟩ ?_
      obtain ⟨hb5, h⟩ := h
      have h := h (a1 + 1) (ia_ok rfl (by decide) hb5)
      generalize (a1 + 1) = r5 at h ⊢
      refine z_istore_n (f := 2) (i := 2) (pc' := 32) ⟨by decide +kernel, rfl⟩ rfl (by decide) rfl ?_
      show Wz E Y_Po_splitOff 32 [(2, .int r5), (0, .ref 17), (1, .int a1)] [] σ3 K
      refine z_iconst (i := 0) (v := 0) (pc' := 33) ⟨by decide +kernel, rfl⟩ (by decide) ?_
      refine z_istore_n (f := 3) (i := 3) (pc' := 34) ⟨by decide +kernel, rfl⟩ rfl (by decide) rfl ?_
      show Wz E Y_Po_splitOff 34 [(3, .int 0), (2, .int r5), (0, .ref 17), (1, .int a1)] [] σ3 K
      refine z_sub [2, 3, 1, 0] rfl ?_
      exact (sl_Po_splitOff k fuF) _ _ _ _ h
    · have h := h.1 (qi_ne_f rfl (by decide) h4)
      refine z_aload_n (f := 0) (i := 0) (q := 0) (pc' := 23) ⟨by decide +kernel, rfl⟩ rfl rfl ?_
      refine z_iload_n (f := 1) (i := 1) (q := 1) (pc' := 24) ⟨by decide +kernel, rfl⟩ rfl rfl ?_
      refine w_invV (Z := Y_Po_splitSign) (idx := 106) (kb := 17) (As := [.int a1]) (rest := []) (pc' := 27) cl_7_106 rfl ⟨rfl, rfl⟩ ykfa_17_0 rfl ⟨⟨by decide, by decide⟩, rfl, rfl⟩ ⟨by decide +kernel, rfl⟩ rfl rfl (Nat.le_of_ble_eq_true rfl) rfl rfl ?_
      refine sF_Po_splitSign h (fun v6 σ6 h => ?_)
      show Wz E Y_Po_splitOff 27 [(0, .ref 17), (1, .int a1)] [.int v6] σ6 K
      exact z_iret (ty := .int) rfl (by rfl) (by decide +kernel) (k _ _ h)
  · have h := h.2 (qi_eq_f rfl (by decide) h2)
    refine z_aload_n (f := 0) (i := 0) (q := 0) (pc' := 9) ⟨by decide +kernel, rfl⟩ rfl rfl ?_
    refine z_iload_n (f := 1) (i := 1) (q := 1) (pc' := 10) ⟨by decide +kernel, rfl⟩ rfl rfl ?_
    refine w_invV (Z := Y_Po_splitNumber) (idx := 100) (kb := 17) (As := [.int a1]) (rest := []) (pc' := 13) cl_7_100 rfl ⟨rfl, rfl⟩ ykfa_17_0 rfl ⟨⟨by decide, by decide⟩, rfl, rfl⟩ ⟨by decide +kernel, rfl⟩ rfl rfl (Nat.le_of_ble_eq_true rfl) rfl rfl ?_
    refine sF_Po_splitNumber h (fun v7 σ7 h => ?_)
    show Wz E Y_Po_splitOff 13 [(0, .ref 17), (1, .int a1)] [.int v7] σ7 K
    exact z_iret (ty := .int) rfl (by rfl) (by decide +kernel) (k _ _ h)
noncomputable def W_Po_split_b80 (F9 : Int32 → Int32 → zS → (Unit → zS → Prop) → Prop)  (σ : zS) (Q : Unit → zS → Prop) : Prop := W_Po_addToken 0 (σ.1 17 9) 0 σ (fun _ σ1 => Q () σ1)
theorem sb_Po_split_80 {E : xV} {σ : zS} {K : zKt} {F9 : Int32 → Int32 → zS → (Unit → zS → Prop) → Prop}  {Q : Unit → zS → Prop} (f9 : ∀ (x1 : Int32) (x2 : Int32) (σ : zS), F9 x1 x2 σ Q → Wz E Y_Po_split 9 [(0, .ref 17), (1, .int x1), (2, .int x2)] [] σ K) (k : ∀ v s, Q v s → K none s) (h : W_Po_split_b80 F9  σ Q) : Wz E Y_Po_split 80 [(0, .ref 17)] [] σ K := by
  unfold W_Po_split_b80 at h
  refine z_aload_n (f := 0) (i := 0) (q := 0) (pc' := 81) ⟨by decide +kernel, rfl⟩ rfl rfl ?_
  refine z_iconst (i := 0) (v := 0) (pc' := 82) ⟨by decide +kernel, rfl⟩ (by decide) ?_
  refine z_aload_n (f := 0) (i := 0) (q := 0) (pc' := 83) ⟨by decide +kernel, rfl⟩ rfl rfl ?_
  refine w_geti (k := 17) (j := 9) (idx := 56) (pc' := 86) yfxe_7_56 ykfa_17_9 ⟨by decide +kernel, rfl⟩ ?_
  refine z_lconst (i := 0) (v := 0) (pc' := 87) ⟨by decide +kernel, rfl⟩ (by decide) ?_
  refine w_invV (Z := Y_Po_addToken) (idx := 93) (kb := 17) (As := [.int 0, .int (σ.1 17 9), .long 0]) (rest := []) (pc' := 90) cl_7_93 rfl ⟨rfl, rfl⟩ ykfa_17_0 rfl ⟨⟨by decide, by decide⟩, rfl, rfl⟩ ⟨by decide +kernel, rfl⟩ rfl rfl (Nat.le_of_ble_eq_true rfl) rfl rfl ?_
  refine sF_Po_addToken h (fun _ σ1 h => ?_)
  show Wz E Y_Po_split 90 [(0, .ref 17)] [] σ1 K
  exact z_vret rfl (by decide +kernel) (k _ _ h)
noncomputable def WB_Po_split_9 (F9 : Int32 → Int32 → zS → (Unit → zS → Prop) → Prop) (x1 : Int32) (x2 : Int32) (σ : zS) (Q : Unit → zS → Prop) : Prop := (1200 ≤ (Int32.toInt x2) → (W_Po_split_b80 F9  σ Q)) ∧ (¬ 1200 ≤ (Int32.toInt x2) → (((Int32.toInt (σ.1 17 9)) ≤ (Int32.toInt x1) → (W_Po_split_b80 F9  σ Q)) ∧ (¬ (Int32.toInt (σ.1 17 9)) ≤ (Int32.toInt x1) → (∃ n3 : Nat, Int32.toInt x1 = (n3 : Int) ∧ n3 < 1200 ∧ (((Int32.toInt (σ.1 23 n3)) = 32 → ((-2147483648 ≤ (Int32.toInt x1) + 1 ∧ (Int32.toInt x1) + 1 ≤ 2147483647) ∧ ∀ r5 : Int32, r5.toInt = (Int32.toInt x1) + 1 → ((-2147483648 ≤ (Int32.toInt x2) + 1 ∧ (Int32.toInt x2) + 1 ≤ 2147483647) ∧ ∀ r6 : Int32, r6.toInt = (Int32.toInt x2) + 1 → (F9 r5 r6 σ Q)))) ∧ (¬ (Int32.toInt (σ.1 23 n3)) = 32 → (((Int32.toInt (σ.1 23 n3)) = 10 → ((-2147483648 ≤ (Int32.toInt x1) + 1 ∧ (Int32.toInt x1) + 1 ≤ 2147483647) ∧ ∀ r13 : Int32, r13.toInt = (Int32.toInt x1) + 1 → ((-2147483648 ≤ (Int32.toInt x2) + 1 ∧ (Int32.toInt x2) + 1 ≤ 2147483647) ∧ ∀ r14 : Int32, r14.toInt = (Int32.toInt x2) + 1 → (F9 r13 r14 σ Q)))) ∧ (¬ (Int32.toInt (σ.1 23 n3)) = 10 → (W_Po_splitOff x1 σ (fun v8 σ8 => (-2147483648 ≤ (Int32.toInt (σ8.1 17 13)) - 1 ∧ (Int32.toInt (σ8.1 17 13)) - 1 ≤ 2147483647) ∧ ∀ r9 : Int32, r9.toInt = (Int32.toInt (σ8.1 17 13)) - 1 → (∃ n10 : Nat, Int32.toInt r9 = (n10 : Int) ∧ n10 < 1201 ∧ (((Int32.toInt (σ8.1 24 n10)) = 5 → (Q () σ8)) ∧ (¬ (Int32.toInt (σ8.1 24 n10)) = 5 → ((-2147483648 ≤ (Int32.toInt x2) + 1 ∧ (Int32.toInt x2) + 1 ≤ 2147483647) ∧ ∀ r12 : Int32, r12.toInt = (Int32.toInt x2) + 1 → (F9 v8 r12 σ8 Q)))))))))))))))
theorem sh_Po_split_9 {E : xV} {σ : zS} {K : zKt} {F9 : Int32 → Int32 → zS → (Unit → zS → Prop) → Prop} {x1 : Int32} {x2 : Int32} {Q : Unit → zS → Prop} (f9 : ∀ (x1 : Int32) (x2 : Int32) (σ : zS), F9 x1 x2 σ Q → Wz E Y_Po_split 9 [(0, .ref 17), (1, .int x1), (2, .int x2)] [] σ K) (k : ∀ v s, Q v s → K none s) (h : WB_Po_split_9 F9 x1 x2 σ Q) : Wz E Y_Po_split 9 [(0, .ref 17), (1, .int x1), (2, .int x2)] [] σ K := by
  unfold WB_Po_split_9 at h
  refine z_iload_n (f := 2) (i := 2) (q := 2) (pc' := 10) ⟨by decide +kernel, rfl⟩ rfl rfl ?_
  refine z_sipush (i := 1200) (v := 1200) (pc' := 13) ⟨by decide +kernel, rfl⟩ (by decide) ?_
  refine z_icmp_ge (off := 67) (tgt := 80) (pc' := 16) ⟨by decide +kernel, by decide, rfl⟩ (fun h1 => ?_) (fun h1 => ?_)
  · have h := h.1 (qi_ge_t rfl (by decide) h1)
    refine z_sub [0] rfl ?_
    exact sb_Po_split_80 f9 k h
  · have h := h.2 (qi_ge_f rfl (by decide) h1)
    refine z_iload_n (f := 1) (i := 1) (q := 1) (pc' := 17) ⟨by decide +kernel, rfl⟩ rfl rfl ?_
    refine z_aload_n (f := 0) (i := 0) (q := 0) (pc' := 18) ⟨by decide +kernel, rfl⟩ rfl rfl ?_
    refine w_geti (k := 17) (j := 9) (idx := 56) (pc' := 21) yfxe_7_56 ykfa_17_9 ⟨by decide +kernel, rfl⟩ ?_
    refine z_icmp_ge (off := 59) (tgt := 80) (pc' := 24) ⟨by decide +kernel, by decide, rfl⟩ (fun h2 => ?_) (fun h2 => ?_)
    · have h := h.1 (qi_ge_t rfl rfl h2)
      refine z_sub [0] rfl ?_
      exact sb_Po_split_80 f9 k h
    · have h := h.2 (qi_ge_f rfl rfl h2)
      refine z_aload_n (f := 0) (i := 0) (q := 0) (pc' := 25) ⟨by decide +kernel, rfl⟩ rfl rfl ?_
      refine w_getr (k := 17) (j := 8) (idx := 38) (pc' := 28) yfxe_7_38 ykfa_17_8 ⟨by decide +kernel, rfl⟩ ?_
      refine z_iload_n (f := 1) (i := 1) (q := 1) (pc' := 29) ⟨by decide +kernel, rfl⟩ rfl rfl ?_
      obtain ⟨n3, hi3, hz3, h⟩ := h
      refine w_iald (k := 23) (n := n3) (pc' := 30) ykaa_23 (hi3) (hz3) ⟨by decide +kernel, rfl⟩ ?_
      refine z_bipush (i := 32) (v := 32) (pc' := 32) ⟨by decide +kernel, rfl⟩ (by decide) ?_
      refine z_icmp_eq (off := 14) (tgt := 46) (pc' := 35) ⟨by decide +kernel, by decide, rfl⟩ (fun h4 => ?_) (fun h4 => ?_)
      · have h := h.1 (qi_eq_t rfl (by decide) h4)
        refine z_iinc (i := 1) (z := 1) (q := 1) (pc' := 49) ⟨by decide +kernel, rfl⟩ rfl rfl (by decide) rfl ?_
        show Wz E Y_Po_split 49 [(1, .int (x1 + Int32.ofInt 1)), (0, .ref 17), (2, .int x2)] [] σ K
        obtain ⟨hb5, h⟩ := h
        have h := h (x1 + Int32.ofInt 1) (ia_ok rfl (by decide) hb5)
        generalize (x1 + Int32.ofInt 1) = r5 at h ⊢
        refine z_goto (off := 25) (tgt := 74) (pc' := 52) ⟨by decide +kernel, by decide, rfl⟩ ?_
        refine z_iinc (i := 2) (z := 1) (q := 2) (pc' := 77) ⟨by decide +kernel, rfl⟩ rfl rfl (by decide) rfl ?_
        show Wz E Y_Po_split 77 [(2, .int (x2 + Int32.ofInt 1)), (1, .int r5), (0, .ref 17)] [] σ K
        obtain ⟨hb6, h⟩ := h
        have h := h (x2 + Int32.ofInt 1) (ia_ok rfl (by decide) hb6)
        generalize (x2 + Int32.ofInt 1) = r6 at h ⊢
        refine z_goto (off := (-68)) (tgt := 9) (pc' := 80) ⟨by decide +kernel, by decide, rfl⟩ ?_
        refine z_sub [2, 1, 0] rfl ?_
        exact f9 _ _ _ h
      · have h := h.2 (qi_eq_f rfl (by decide) h4)
        refine z_aload_n (f := 0) (i := 0) (q := 0) (pc' := 36) ⟨by decide +kernel, rfl⟩ rfl rfl ?_
        refine w_getr (k := 17) (j := 8) (idx := 38) (pc' := 39) yfxe_7_38 ykfa_17_8 ⟨by decide +kernel, rfl⟩ ?_
        refine z_iload_n (f := 1) (i := 1) (q := 1) (pc' := 40) ⟨by decide +kernel, rfl⟩ rfl rfl ?_
        refine w_iald (k := 23) (n := n3) (pc' := 41) ykaa_23 (hi3) (hz3) ⟨by decide +kernel, rfl⟩ ?_
        refine z_bipush (i := 10) (v := 10) (pc' := 43) ⟨by decide +kernel, rfl⟩ (by decide) ?_
        refine z_icmp_ne (off := 9) (tgt := 52) (pc' := 46) ⟨by decide +kernel, by decide, rfl⟩ (fun h7 => ?_) (fun h7 => ?_)
        · have h := h.2 (qi_ne_t rfl (by decide) h7)
          refine z_aload_n (f := 0) (i := 0) (q := 0) (pc' := 53) ⟨by decide +kernel, rfl⟩ rfl rfl ?_
          refine z_iload_n (f := 1) (i := 1) (q := 1) (pc' := 54) ⟨by decide +kernel, rfl⟩ rfl rfl ?_
          refine w_invV (Z := Y_Po_splitOff) (idx := 89) (kb := 17) (As := [.int x1]) (rest := []) (pc' := 57) cl_7_89 rfl ⟨rfl, rfl⟩ ykfa_17_0 rfl ⟨⟨by decide, by decide⟩, rfl, rfl⟩ ⟨by decide +kernel, rfl⟩ rfl rfl (Nat.le_of_ble_eq_true rfl) rfl rfl ?_
          refine sF_Po_splitOff h (fun v8 σ8 h => ?_)
          show Wz E Y_Po_split 57 [(0, .ref 17), (1, .int x1), (2, .int x2)] [.int v8] σ8 K
          refine z_istore_n (f := 1) (i := 1) (pc' := 58) ⟨by decide +kernel, rfl⟩ rfl (by decide) rfl ?_
          show Wz E Y_Po_split 58 [(1, .int v8), (0, .ref 17), (2, .int x2)] [] σ8 K
          refine z_aload_n (f := 0) (i := 0) (q := 1) (pc' := 59) ⟨by decide +kernel, rfl⟩ rfl rfl ?_
          refine w_getr (k := 17) (j := 10) (idx := 41) (pc' := 62) yfxe_7_41 ykfa_17_10 ⟨by decide +kernel, rfl⟩ ?_
          refine z_aload_n (f := 0) (i := 0) (q := 1) (pc' := 63) ⟨by decide +kernel, rfl⟩ rfl rfl ?_
          refine w_geti (k := 17) (j := 13) (idx := 86) (pc' := 66) yfxe_7_86 ykfa_17_13 ⟨by decide +kernel, rfl⟩ ?_
          refine z_iconst (i := 1) (v := 1) (pc' := 67) ⟨by decide +kernel, rfl⟩ (by decide) ?_
          refine z_isub (pc' := 68) ⟨by decide +kernel, rfl⟩ ?_
          obtain ⟨hb9, h⟩ := h
          have h := h ((σ8.1 17 13) - 1) (is_ok rfl (by decide) hb9)
          generalize ((σ8.1 17 13) - 1) = r9 at h ⊢
          obtain ⟨n10, hi10, hz10, h⟩ := h
          refine w_iald (k := 24) (n := n10) (pc' := 69) ykaa_24 (hi10) (hz10) ⟨by decide +kernel, rfl⟩ ?_
          refine z_iconst (i := 5) (v := 5) (pc' := 70) ⟨by decide +kernel, rfl⟩ (by decide) ?_
          refine z_icmp_ne (off := 4) (tgt := 74) (pc' := 73) ⟨by decide +kernel, by decide, rfl⟩ (fun h11 => ?_) (fun h11 => ?_)
          · have h := h.2 (qi_ne_t rfl (by decide) h11)
            refine z_iinc (i := 2) (z := 1) (q := 2) (pc' := 77) ⟨by decide +kernel, rfl⟩ rfl rfl (by decide) rfl ?_
            show Wz E Y_Po_split 77 [(2, .int (x2 + Int32.ofInt 1)), (1, .int v8), (0, .ref 17)] [] σ8 K
            obtain ⟨hb12, h⟩ := h
            have h := h (x2 + Int32.ofInt 1) (ia_ok rfl (by decide) hb12)
            generalize (x2 + Int32.ofInt 1) = r12 at h ⊢
            refine z_goto (off := (-68)) (tgt := 9) (pc' := 80) ⟨by decide +kernel, by decide, rfl⟩ ?_
            refine z_sub [2, 1, 0] rfl ?_
            exact f9 _ _ _ h
          · have h := h.1 (qi_ne_f rfl (by decide) h11)
            exact z_vret rfl (by decide +kernel) (k _ _ h)
        · have h := h.1 (qi_ne_f rfl (by decide) h7)
          refine z_iinc (i := 1) (z := 1) (q := 1) (pc' := 49) ⟨by decide +kernel, rfl⟩ rfl rfl (by decide) rfl ?_
          show Wz E Y_Po_split 49 [(1, .int (x1 + Int32.ofInt 1)), (0, .ref 17), (2, .int x2)] [] σ K
          obtain ⟨hb13, h⟩ := h
          have h := h (x1 + Int32.ofInt 1) (ia_ok rfl (by decide) hb13)
          generalize (x1 + Int32.ofInt 1) = r13 at h ⊢
          refine z_goto (off := 25) (tgt := 74) (pc' := 52) ⟨by decide +kernel, by decide, rfl⟩ ?_
          refine z_iinc (i := 2) (z := 1) (q := 2) (pc' := 77) ⟨by decide +kernel, rfl⟩ rfl rfl (by decide) rfl ?_
          show Wz E Y_Po_split 77 [(2, .int (x2 + Int32.ofInt 1)), (1, .int r13), (0, .ref 17)] [] σ K
          obtain ⟨hb14, h⟩ := h
          have h := h (x2 + Int32.ofInt 1) (ia_ok rfl (by decide) hb14)
          generalize (x2 + Int32.ofInt 1) = r14 at h ⊢
          refine z_goto (off := (-68)) (tgt := 9) (pc' := 80) ⟨by decide +kernel, by decide, rfl⟩ ?_
          refine z_sub [2, 1, 0] rfl ?_
          exact f9 _ _ _ h
noncomputable def WL_Po_split : Nat → (Int32 → Int32 → zS → (Unit → zS → Prop) → Prop)
  | 0 => fun _ _ _ _ => False
  | n + 1 => WB_Po_split_9 (WL_Po_split n)
theorem wl_Po_split_9 {n : Nat} {x1 : Int32} {x2 : Int32} {σ : zS} {Q : Unit → zS → Prop} (h : WB_Po_split_9 (WL_Po_split n) x1 x2 σ Q) : (WL_Po_split (n + 1)) x1 x2 σ Q := h
theorem sl_Po_split {E : xV} {K : zKt} {Q : Unit → zS → Prop} (k : ∀ v s, Q v s → K none s) : ∀ n, (∀ (x1 : Int32) (x2 : Int32) (σ : zS), (WL_Po_split n) x1 x2 σ Q → Wz E Y_Po_split 9 [(0, .ref 17), (1, .int x1), (2, .int x2)] [] σ K)
  | 0 => fun _ _ _ h => h.elim
  | n + 1 => by
    have i := sl_Po_split (E := E)  k n
    exact fun _ _ _ h => sh_Po_split_9 i k h
noncomputable def W_Po_split  (σ : zS) (Q : Unit → zS → Prop) : Prop := ∀ σ1 : zS, zI σ 17 13 0 = σ1 → ((WL_Po_split fuF) 0 0 σ1 Q)
theorem sF_Po_split {E : xV} {σ : zS} {K : zKt}  {Q : Unit → zS → Prop} (h : W_Po_split  σ Q) (k : ∀ v s, Q v s → K none s) : Cz E Y_Po_split [.ref 17] σ K := by
  refine z_entry (by decide) (fun a => by rw [sl_len]; exact Nat.le_of_ble_eq_true rfl) rfl ?_
  unfold W_Po_split at h
  refine z_aload_n (f := 0) (i := 0) (q := 0) (pc' := 1) ⟨by decide +kernel, rfl⟩ rfl rfl ?_
  refine z_iconst (i := 0) (v := 0) (pc' := 2) ⟨by decide +kernel, rfl⟩ (by decide) ?_
  refine w_puti (k := 17) (j := 13) (idx := 86) (pc' := 5) yfxi_7_86 ykfa_17_13 ⟨by decide +kernel, rfl⟩ ?_
  generalize hs1 : zI σ 17 13 0 = σ1
  have h := h σ1 hs1
  refine z_iconst (i := 0) (v := 0) (pc' := 6) ⟨by decide +kernel, rfl⟩ (by decide) ?_
  refine z_istore_n (f := 1) (i := 1) (pc' := 7) ⟨by decide +kernel, rfl⟩ rfl (by decide) rfl ?_
  show Wz E Y_Po_split 7 [(1, .int 0), (0, .ref 17)] [] σ1 K
  refine z_iconst (i := 0) (v := 0) (pc' := 8) ⟨by decide +kernel, rfl⟩ (by decide) ?_
  refine z_istore_n (f := 2) (i := 2) (pc' := 9) ⟨by decide +kernel, rfl⟩ rfl (by decide) rfl ?_
  show Wz E Y_Po_split 9 [(2, .int 0), (1, .int 0), (0, .ref 17)] [] σ1 K
  refine z_sub [2, 1, 0] rfl ?_
  exact (sl_Po_split k fuF) _ _ _ h
noncomputable def Ypo : Nat → xY
  | 0 => Y_Po_readTerm
  | 1 => Y_Po_readNested
  | 2 => Y_Po_readItem
  | 3 => Y_Po_readProduct
  | 4 => Y_Po_readSum
  | 5 => Y_Po_readComparisonR
  | 6 => Y_Po_readBothWays
  | 7 => Y_Po_readSuch
  | 8 => Y_Po_readPart
  | _ => Y_Po_readCondition
noncomputable def W_Po_readTerm_b69 (G : Nat → Int32 → zS → (Int32 → zS → Prop) → Prop) (y0 : Int32) (σ : zS) (Q : Int32 → zS → Prop) : Prop := ∃ n1 : Nat, Int32.toInt (σ.1 17 14) = (n1 : Int) ∧ n1 < 1201 ∧ (W_Po_emit y0 (σ.2 26 n1) σ (fun _ σ2 => (-2147483648 ≤ (Int32.toInt (σ2.1 17 14)) + 1 ∧ (Int32.toInt (σ2.1 17 14)) + 1 ≤ 2147483647) ∧ ∀ r3 : Int32, r3.toInt = (Int32.toInt (σ2.1 17 14)) + 1 → (∀ σ4 : zS, zI σ2 17 14 r3 = σ4 → (Q 1 σ4))))
theorem sb_Po_readTerm_69 {E : xV} {R : Nat} {σ : zS} {K : zKt} {G : Nat → Int32 → zS → (Int32 → zS → Prop) → Prop} {y0 : Int32} {Q : Int32 → zS → Prop} (g : ∀ (m : Nat) (d : Int32) (σ : zS) (Q : Int32 → zS → Prop) (K : zKt), G m d σ Q → (∀ v s, Q v s → K (some (.int v)) s) → Cz E (withR (Ypo m) (rmN R)) [.ref 17, .int d] σ K) (k : ∀ v s, Q v s → K (some (.int v)) s) (h : W_Po_readTerm_b69 G y0 σ Q) : Wz E (withR Y_Po_readTerm (rmN (R + 1))) 69 [(0, .ref 17)] [.int y0, .ref 17] σ K := by
  unfold W_Po_readTerm_b69 at h
  refine z_aload_n (f := 0) (i := 0) (q := 0) (pc' := 70) ⟨wR (by decide +kernel), rfl⟩ rfl rfl ?_
  refine w_getr (k := 17) (j := 12) (idx := 47) (pc' := 73) yfxe_7_47 ykfa_17_12 ⟨wR (by decide +kernel), rfl⟩ ?_
  refine z_aload_n (f := 0) (i := 0) (q := 0) (pc' := 74) ⟨wR (by decide +kernel), rfl⟩ rfl rfl ?_
  refine w_geti (k := 17) (j := 14) (idx := 63) (pc' := 77) yfxe_7_63 ykfa_17_14 ⟨wR (by decide +kernel), rfl⟩ ?_
  obtain ⟨n1, hi1, hz1, h⟩ := h
  refine w_lald (k := 26) (n := n1) (pc' := 78) ykaa_26 (hi1) (hz1) ⟨wR (by decide +kernel), rfl⟩ ?_
  refine w_invV (Z := Y_Po_emit) (idx := 211) (kb := 17) (As := [.int y0, .long (σ.2 26 n1)]) (rest := []) (pc' := 81) cl_7_211 rfl ⟨rfl, rfl⟩ ykfa_17_0 rfl (rm_o (by decide) (by decide) ⟨rfl, rfl⟩) ⟨wR (by decide +kernel), rfl⟩ rfl rfl (Nat.le_of_ble_eq_true rfl) rfl rfl ?_
  refine sF_Po_emit h (fun _ σ2 h => ?_)
  show Wz E (withR Y_Po_readTerm (rmN (R + 1))) 81 [(0, .ref 17)] [] σ2 K
  refine z_aload_n (f := 0) (i := 0) (q := 0) (pc' := 82) ⟨wR (by decide +kernel), rfl⟩ rfl rfl ?_
  refine z_dupr (pc' := 83) ⟨wR (by decide +kernel), rfl⟩ ?_
  refine w_geti (k := 17) (j := 14) (idx := 63) (pc' := 86) yfxe_7_63 ykfa_17_14 ⟨wR (by decide +kernel), rfl⟩ ?_
  refine z_iconst (i := 1) (v := 1) (pc' := 87) ⟨wR (by decide +kernel), rfl⟩ (by decide) ?_
  refine z_iadd (pc' := 88) ⟨wR (by decide +kernel), rfl⟩ ?_
  obtain ⟨hb3, h⟩ := h
  have h := h ((σ2.1 17 14) + 1) (ia_ok rfl (by decide) hb3)
  generalize ((σ2.1 17 14) + 1) = r3 at h ⊢
  refine w_puti (k := 17) (j := 14) (idx := 63) (pc' := 91) yfxi_7_63 ykfa_17_14 ⟨wR (by decide +kernel), rfl⟩ ?_
  generalize hs4 : zI σ2 17 14 r3 = σ4
  have h := h σ4 hs4
  refine z_iconst (i := 1) (v := 1) (pc' := 92) ⟨wR (by decide +kernel), rfl⟩ (by decide) ?_
  exact z_iret (ty := .boolean) rfl (by rfl) (wR (by decide +kernel)) (k _ _ h)
noncomputable def W_Po_readTerm_b50 (G : Nat → Int32 → zS → (Int32 → zS → Prop) → Prop)  (σ : zS) (Q : Int32 → zS → Prop) : Prop := ∃ n1 : Nat, Int32.toInt (σ.1 17 14) = (n1 : Int) ∧ n1 < 1201 ∧ (((Int32.toInt (σ.1 24 n1)) = 2 → (W_Po_readTerm_b69 G  0 σ Q)) ∧ (¬ (Int32.toInt (σ.1 24 n1)) = 2 → (W_Po_readTerm_b69 G  1 σ Q)))
theorem sb_Po_readTerm_50 {E : xV} {R : Nat} {σ : zS} {K : zKt} {G : Nat → Int32 → zS → (Int32 → zS → Prop) → Prop}  {Q : Int32 → zS → Prop} (g : ∀ (m : Nat) (d : Int32) (σ : zS) (Q : Int32 → zS → Prop) (K : zKt), G m d σ Q → (∀ v s, Q v s → K (some (.int v)) s) → Cz E (withR (Ypo m) (rmN R)) [.ref 17, .int d] σ K) (k : ∀ v s, Q v s → K (some (.int v)) s) (h : W_Po_readTerm_b50 G  σ Q) : Wz E (withR Y_Po_readTerm (rmN (R + 1))) 50 [(0, .ref 17)] [] σ K := by
  unfold W_Po_readTerm_b50 at h
  refine z_aload_n (f := 0) (i := 0) (q := 0) (pc' := 51) ⟨wR (by decide +kernel), rfl⟩ rfl rfl ?_
  refine z_aload_n (f := 0) (i := 0) (q := 0) (pc' := 52) ⟨wR (by decide +kernel), rfl⟩ rfl rfl ?_
  refine w_getr (k := 17) (j := 10) (idx := 41) (pc' := 55) yfxe_7_41 ykfa_17_10 ⟨wR (by decide +kernel), rfl⟩ ?_
  refine z_aload_n (f := 0) (i := 0) (q := 0) (pc' := 56) ⟨wR (by decide +kernel), rfl⟩ rfl rfl ?_
  refine w_geti (k := 17) (j := 14) (idx := 63) (pc' := 59) yfxe_7_63 ykfa_17_14 ⟨wR (by decide +kernel), rfl⟩ ?_
  obtain ⟨n1, hi1, hz1, h⟩ := h
  refine w_iald (k := 24) (n := n1) (pc' := 60) ykaa_24 (hi1) (hz1) ⟨wR (by decide +kernel), rfl⟩ ?_
  refine z_iconst (i := 2) (v := 2) (pc' := 61) ⟨wR (by decide +kernel), rfl⟩ (by decide) ?_
  refine z_icmp_ne (off := 7) (tgt := 68) (pc' := 64) ⟨wR (by decide +kernel), by decide, rfl⟩ (fun h2 => ?_) (fun h2 => ?_)
  · have h := h.2 (qi_ne_t rfl (by decide) h2)
    refine z_iconst (i := 1) (v := 1) (pc' := 69) ⟨wR (by decide +kernel), rfl⟩ (by decide) ?_
    refine z_sub [0] rfl ?_
    exact sb_Po_readTerm_69 g  k h
  · have h := h.1 (qi_ne_f rfl (by decide) h2)
    refine z_iconst (i := 0) (v := 0) (pc' := 65) ⟨wR (by decide +kernel), rfl⟩ (by decide) ?_
    refine z_goto (off := 4) (tgt := 69) (pc' := 68) ⟨wR (by decide +kernel), by decide, rfl⟩ ?_
    refine z_sub [0] rfl ?_
    exact sb_Po_readTerm_69 g  k h
noncomputable def W_Po_readTerm_b127 (G : Nat → Int32 → zS → (Int32 → zS → Prop) → Prop) (y0 : Int32) (σ : zS) (Q : Int32 → zS → Prop) : Prop := W_Po_emit y0 0 σ (fun _ σ1 => (-2147483648 ≤ (Int32.toInt (σ1.1 17 14)) + 1 ∧ (Int32.toInt (σ1.1 17 14)) + 1 ≤ 2147483647) ∧ ∀ r2 : Int32, r2.toInt = (Int32.toInt (σ1.1 17 14)) + 1 → (∀ σ3 : zS, zI σ1 17 14 r2 = σ3 → (Q 1 σ3)))
theorem sb_Po_readTerm_127 {E : xV} {R : Nat} {σ : zS} {K : zKt} {G : Nat → Int32 → zS → (Int32 → zS → Prop) → Prop} {y0 : Int32} {Q : Int32 → zS → Prop} (g : ∀ (m : Nat) (d : Int32) (σ : zS) (Q : Int32 → zS → Prop) (K : zKt), G m d σ Q → (∀ v s, Q v s → K (some (.int v)) s) → Cz E (withR (Ypo m) (rmN R)) [.ref 17, .int d] σ K) (k : ∀ v s, Q v s → K (some (.int v)) s) (h : W_Po_readTerm_b127 G y0 σ Q) : Wz E (withR Y_Po_readTerm (rmN (R + 1))) 127 [(0, .ref 17)] [.int y0, .ref 17] σ K := by
  unfold W_Po_readTerm_b127 at h
  refine z_lconst (i := 0) (v := 0) (pc' := 128) ⟨wR (by decide +kernel), rfl⟩ (by decide) ?_
  refine w_invV (Z := Y_Po_emit) (idx := 211) (kb := 17) (As := [.int y0, .long 0]) (rest := []) (pc' := 131) cl_7_211 rfl ⟨rfl, rfl⟩ ykfa_17_0 rfl (rm_o (by decide) (by decide) ⟨rfl, rfl⟩) ⟨wR (by decide +kernel), rfl⟩ rfl rfl (Nat.le_of_ble_eq_true rfl) rfl rfl ?_
  refine sF_Po_emit h (fun _ σ1 h => ?_)
  show Wz E (withR Y_Po_readTerm (rmN (R + 1))) 131 [(0, .ref 17)] [] σ1 K
  refine z_aload_n (f := 0) (i := 0) (q := 0) (pc' := 132) ⟨wR (by decide +kernel), rfl⟩ rfl rfl ?_
  refine z_dupr (pc' := 133) ⟨wR (by decide +kernel), rfl⟩ ?_
  refine w_geti (k := 17) (j := 14) (idx := 63) (pc' := 136) yfxe_7_63 ykfa_17_14 ⟨wR (by decide +kernel), rfl⟩ ?_
  refine z_iconst (i := 1) (v := 1) (pc' := 137) ⟨wR (by decide +kernel), rfl⟩ (by decide) ?_
  refine z_iadd (pc' := 138) ⟨wR (by decide +kernel), rfl⟩ ?_
  obtain ⟨hb2, h⟩ := h
  have h := h ((σ1.1 17 14) + 1) (ia_ok rfl (by decide) hb2)
  generalize ((σ1.1 17 14) + 1) = r2 at h ⊢
  refine w_puti (k := 17) (j := 14) (idx := 63) (pc' := 141) yfxi_7_63 ykfa_17_14 ⟨wR (by decide +kernel), rfl⟩ ?_
  generalize hs3 : zI σ1 17 14 r2 = σ3
  have h := h σ3 hs3
  refine z_iconst (i := 1) (v := 1) (pc' := 142) ⟨wR (by decide +kernel), rfl⟩ (by decide) ?_
  exact z_iret (ty := .boolean) rfl (by rfl) (wR (by decide +kernel)) (k _ _ h)
noncomputable def W_Po_readTerm_b112 (G : Nat → Int32 → zS → (Int32 → zS → Prop) → Prop)  (σ : zS) (Q : Int32 → zS → Prop) : Prop := W_Po_isWord 14 σ (fun v1 σ1 => ((Int32.toInt v1) = 0 → (W_Po_readTerm_b127 G  3 σ1 Q)) ∧ (¬ (Int32.toInt v1) = 0 → (W_Po_readTerm_b127 G  2 σ1 Q)))
theorem sb_Po_readTerm_112 {E : xV} {R : Nat} {σ : zS} {K : zKt} {G : Nat → Int32 → zS → (Int32 → zS → Prop) → Prop}  {Q : Int32 → zS → Prop} (g : ∀ (m : Nat) (d : Int32) (σ : zS) (Q : Int32 → zS → Prop) (K : zKt), G m d σ Q → (∀ v s, Q v s → K (some (.int v)) s) → Cz E (withR (Ypo m) (rmN R)) [.ref 17, .int d] σ K) (k : ∀ v s, Q v s → K (some (.int v)) s) (h : W_Po_readTerm_b112 G  σ Q) : Wz E (withR Y_Po_readTerm (rmN (R + 1))) 112 [(0, .ref 17)] [] σ K := by
  unfold W_Po_readTerm_b112 at h
  refine z_aload_n (f := 0) (i := 0) (q := 0) (pc' := 113) ⟨wR (by decide +kernel), rfl⟩ rfl rfl ?_
  refine z_aload_n (f := 0) (i := 0) (q := 0) (pc' := 114) ⟨wR (by decide +kernel), rfl⟩ rfl rfl ?_
  refine z_ldcS (i := 14) (pc' := 116) rfl rfl ⟨wR (by decide +kernel), rfl⟩ ?_
  show Wz E (withR Y_Po_readTerm (rmN (R + 1))) 116 [(0, .ref 17)] (.ref (1000 + 14) :: [.ref 17, .ref 17]) σ K
  refine w_invV (Z := Y_Po_isWord) (idx := 158) (kb := 17) (As := [.ref (1000 + 14)]) (rest := [.ref 17]) (pc' := 119) cl_7_158 rfl ⟨rfl, rfl⟩ ykfa_17_0 rfl (rm_o (by decide) (by decide) ⟨rfl, rfl⟩) ⟨wR (by decide +kernel), rfl⟩ rfl rfl (Nat.le_of_ble_eq_true rfl) rfl rfl ?_
  refine sF_Po_isWord (by decide) h (fun v1 σ1 h => ?_)
  show Wz E (withR Y_Po_readTerm (rmN (R + 1))) 119 [(0, .ref 17)] [.int v1, .ref 17] σ1 K
  refine z_if_eq (off := 7) (tgt := 126) (pc' := 122) ⟨wR (by decide +kernel), by decide, rfl⟩ (fun h2 => ?_) (fun h2 => ?_)
  · have h := h.1 (qi_eq_t rfl (by decide) h2)
    refine z_iconst (i := 3) (v := 3) (pc' := 127) ⟨wR (by decide +kernel), rfl⟩ (by decide) ?_
    refine z_sub [0] rfl ?_
    exact sb_Po_readTerm_127 g  k h
  · have h := h.2 (qi_eq_f rfl (by decide) h2)
    refine z_iconst (i := 2) (v := 2) (pc' := 123) ⟨wR (by decide +kernel), rfl⟩ (by decide) ?_
    refine z_goto (off := 4) (tgt := 127) (pc' := 126) ⟨wR (by decide +kernel), by decide, rfl⟩ ?_
    refine z_sub [0] rfl ?_
    exact sb_Po_readTerm_127 g  k h
noncomputable def W_Po_readTerm (G : Nat → Int32 → zS → (Int32 → zS → Prop) → Prop) (a1 : Int32) (σ : zS) (Q : Int32 → zS → Prop) : Prop := W_Po_isSign 45 σ (fun v1 σ1 => ((Int32.toInt v1) = 0 → (W_Po_isSign 40 σ1 (fun v5 σ5 => ((Int32.toInt v5) = 0 → (∃ n7 : Nat, Int32.toInt (σ5.1 17 14) = (n7 : Int) ∧ n7 < 1201 ∧ (((Int32.toInt (σ5.1 24 n7)) = 2 → (W_Po_readTerm_b50 G   σ5 Q)) ∧ (¬ (Int32.toInt (σ5.1 24 n7)) = 2 → (((Int32.toInt (σ5.1 24 n7)) = 3 → (W_Po_readTerm_b50 G   σ5 Q)) ∧ (¬ (Int32.toInt (σ5.1 24 n7)) = 3 → (W_Po_isWord 14 σ5 (fun v10 σ10 => ((Int32.toInt v10) = 0 → (W_Po_isWord 15 σ10 (fun v12 σ12 => ((Int32.toInt v12) = 0 → (W_Po_isWord 16 σ12 (fun v14 σ14 => ((Int32.toInt v14) = 0 → (G 2 a1 σ14 (fun v16 σ16 => (v16 = 0 ∨ v16 = 1) ∧ (Q v16 σ16)))) ∧ (¬ (Int32.toInt v14) = 0 → ((-2147483648 ≤ (Int32.toInt (σ14.1 17 14)) + 1 ∧ (Int32.toInt (σ14.1 17 14)) + 1 ≤ 2147483647) ∧ ∀ r18 : Int32, r18.toInt = (Int32.toInt (σ14.1 17 14)) + 1 → (∀ σ19 : zS, zI σ14 17 14 r18 = σ19 → (W_Po_readFeature 4 σ19 (fun v20 σ20 => (v20 = 0 ∨ v20 = 1) ∧ (Q v20 σ20))))))))) ∧ (¬ (Int32.toInt v12) = 0 → (W_Po_readTerm_b112 G   σ12 Q))))) ∧ (¬ (Int32.toInt v10) = 0 → (W_Po_readTerm_b112 G   σ10 Q)))))))))) ∧ (¬ (Int32.toInt v5) = 0 → (G 1 a1 σ5 (fun v22 σ22 => (v22 = 0 ∨ v22 = 1) ∧ (Q v22 σ22))))))) ∧ (¬ (Int32.toInt v1) = 0 → (G 1 a1 σ1 (fun v3 σ3 => (v3 = 0 ∨ v3 = 1) ∧ (Q v3 σ3)))))
theorem sF_Po_readTerm {E : xV} {R : Nat} {σ : zS} {K : zKt} {G : Nat → Int32 → zS → (Int32 → zS → Prop) → Prop} {a1 : Int32} {Q : Int32 → zS → Prop} (g : ∀ (m : Nat) (d : Int32) (σ : zS) (Q : Int32 → zS → Prop) (K : zKt), G m d σ Q → (∀ v s, Q v s → K (some (.int v)) s) → Cz E (withR (Ypo m) (rmN R)) [.ref 17, .int d] σ K) (h : W_Po_readTerm G a1 σ Q) (k : ∀ v s, Q v s → K (some (.int v)) s) : Cz E (withR Y_Po_readTerm (rmN (R + 1))) [.ref 17, .int a1] σ K := by
  refine z_entry (show plainName Y_Po_readTerm.1.cls = true by decide) (fun a => by rw [sl_len]; exact Nat.le_of_ble_eq_true rfl) rfl ?_
  unfold W_Po_readTerm at h
  refine z_aload_n (f := 0) (i := 0) (q := 0) (pc' := 1) ⟨wR (by decide +kernel), rfl⟩ rfl rfl ?_
  refine z_bipush (i := 45) (v := 45) (pc' := 3) ⟨wR (by decide +kernel), rfl⟩ (by decide) ?_
  refine w_invV (Z := Y_Po_isSign) (idx := 137) (kb := 17) (As := [.int 45]) (rest := []) (pc' := 6) cl_7_137 rfl ⟨rfl, rfl⟩ ykfa_17_0 rfl (rm_o (by decide) (by decide) ⟨rfl, rfl⟩) ⟨wR (by decide +kernel), rfl⟩ rfl rfl (Nat.le_of_ble_eq_true rfl) rfl rfl ?_
  refine sF_Po_isSign h (fun v1 σ1 h => ?_)
  show Wz E (withR Y_Po_readTerm (rmN (R + 1))) 6 [(0, .ref 17), (1, .int a1)] [.int v1] σ1 K
  refine z_if_ne (off := 12) (tgt := 18) (pc' := 9) ⟨wR (by decide +kernel), by decide, rfl⟩ (fun h2 => ?_) (fun h2 => ?_)
  · have h := h.2 (qi_ne_t rfl (by decide) h2)
    refine z_aload_n (f := 0) (i := 0) (q := 0) (pc' := 19) ⟨wR (by decide +kernel), rfl⟩ rfl rfl ?_
    refine z_iload_n (f := 1) (i := 1) (q := 1) (pc' := 20) ⟨wR (by decide +kernel), rfl⟩ rfl rfl ?_
    refine w_invVR (Z := Y_Po_readNested) (idx := 251) (kb := 17) (As := [.int a1]) (rest := []) (pc' := 23) cl_7_251 rfl ⟨rfl, rfl⟩ ykfa_17_0 rfl (rm_i (by decide)) ⟨wR (by decide +kernel), rfl⟩ rfl rfl (Nat.le_of_ble_eq_true rfl) rfl rfl ?_
    refine g 1 _ _ _ _ h (fun v3 σ3 h => ?_)
    show Wz E (withR Y_Po_readTerm (rmN (R + 1))) 23 [(0, .ref 17), (1, .int a1)] [.int v3] σ3 K
    obtain ⟨hg4, h⟩ := h
    exact z_iret (ty := .boolean) rfl (j_bool hg4).1 (wR (by decide +kernel)) (k _ _ h)
  · have h := h.1 (qi_ne_f rfl (by decide) h2)
    refine z_aload_n (f := 0) (i := 0) (q := 0) (pc' := 10) ⟨wR (by decide +kernel), rfl⟩ rfl rfl ?_
    refine z_bipush (i := 40) (v := 40) (pc' := 12) ⟨wR (by decide +kernel), rfl⟩ (by decide) ?_
    refine w_invV (Z := Y_Po_isSign) (idx := 137) (kb := 17) (As := [.int 40]) (rest := []) (pc' := 15) cl_7_137 rfl ⟨rfl, rfl⟩ ykfa_17_0 rfl (rm_o (by decide) (by decide) ⟨rfl, rfl⟩) ⟨wR (by decide +kernel), rfl⟩ rfl rfl (Nat.le_of_ble_eq_true rfl) rfl rfl ?_
    refine sF_Po_isSign h (fun v5 σ5 h => ?_)
    show Wz E (withR Y_Po_readTerm (rmN (R + 1))) 15 [(0, .ref 17), (1, .int a1)] [.int v5] σ5 K
    refine z_if_eq (off := 9) (tgt := 24) (pc' := 18) ⟨wR (by decide +kernel), by decide, rfl⟩ (fun h6 => ?_) (fun h6 => ?_)
    · have h := h.1 (qi_eq_t rfl (by decide) h6)
      refine z_aload_n (f := 0) (i := 0) (q := 0) (pc' := 25) ⟨wR (by decide +kernel), rfl⟩ rfl rfl ?_
      refine w_getr (k := 17) (j := 10) (idx := 41) (pc' := 28) yfxe_7_41 ykfa_17_10 ⟨wR (by decide +kernel), rfl⟩ ?_
      refine z_aload_n (f := 0) (i := 0) (q := 0) (pc' := 29) ⟨wR (by decide +kernel), rfl⟩ rfl rfl ?_
      refine w_geti (k := 17) (j := 14) (idx := 63) (pc' := 32) yfxe_7_63 ykfa_17_14 ⟨wR (by decide +kernel), rfl⟩ ?_
      obtain ⟨n7, hi7, hz7, h⟩ := h
      refine w_iald (k := 24) (n := n7) (pc' := 33) ykaa_24 (hi7) (hz7) ⟨wR (by decide +kernel), rfl⟩ ?_
      refine z_iconst (i := 2) (v := 2) (pc' := 34) ⟨wR (by decide +kernel), rfl⟩ (by decide) ?_
      refine z_icmp_eq (off := 16) (tgt := 50) (pc' := 37) ⟨wR (by decide +kernel), by decide, rfl⟩ (fun h8 => ?_) (fun h8 => ?_)
      · have h := h.1 (qi_eq_t rfl (by decide) h8)
        refine z_sub [0] rfl ?_
        exact sb_Po_readTerm_50 g  k h
      · have h := h.2 (qi_eq_f rfl (by decide) h8)
        refine z_aload_n (f := 0) (i := 0) (q := 0) (pc' := 38) ⟨wR (by decide +kernel), rfl⟩ rfl rfl ?_
        refine w_getr (k := 17) (j := 10) (idx := 41) (pc' := 41) yfxe_7_41 ykfa_17_10 ⟨wR (by decide +kernel), rfl⟩ ?_
        refine z_aload_n (f := 0) (i := 0) (q := 0) (pc' := 42) ⟨wR (by decide +kernel), rfl⟩ rfl rfl ?_
        refine w_geti (k := 17) (j := 14) (idx := 63) (pc' := 45) yfxe_7_63 ykfa_17_14 ⟨wR (by decide +kernel), rfl⟩ ?_
        refine w_iald (k := 24) (n := n7) (pc' := 46) ykaa_24 (hi7) (hz7) ⟨wR (by decide +kernel), rfl⟩ ?_
        refine z_iconst (i := 3) (v := 3) (pc' := 47) ⟨wR (by decide +kernel), rfl⟩ (by decide) ?_
        refine z_icmp_ne (off := 46) (tgt := 93) (pc' := 50) ⟨wR (by decide +kernel), by decide, rfl⟩ (fun h9 => ?_) (fun h9 => ?_)
        · have h := h.2 (qi_ne_t rfl (by decide) h9)
          refine z_aload_n (f := 0) (i := 0) (q := 0) (pc' := 94) ⟨wR (by decide +kernel), rfl⟩ rfl rfl ?_
          refine z_ldcS (i := 14) (pc' := 96) rfl rfl ⟨wR (by decide +kernel), rfl⟩ ?_
          show Wz E (withR Y_Po_readTerm (rmN (R + 1))) 96 [(0, .ref 17), (1, .int a1)] (.ref (1000 + 14) :: [.ref 17]) σ5 K
          refine w_invV (Z := Y_Po_isWord) (idx := 158) (kb := 17) (As := [.ref (1000 + 14)]) (rest := []) (pc' := 99) cl_7_158 rfl ⟨rfl, rfl⟩ ykfa_17_0 rfl (rm_o (by decide) (by decide) ⟨rfl, rfl⟩) ⟨wR (by decide +kernel), rfl⟩ rfl rfl (Nat.le_of_ble_eq_true rfl) rfl rfl ?_
          refine sF_Po_isWord (by decide) h (fun v10 σ10 h => ?_)
          show Wz E (withR Y_Po_readTerm (rmN (R + 1))) 99 [(0, .ref 17), (1, .int a1)] [.int v10] σ10 K
          refine z_if_ne (off := 13) (tgt := 112) (pc' := 102) ⟨wR (by decide +kernel), by decide, rfl⟩ (fun h11 => ?_) (fun h11 => ?_)
          · have h := h.2 (qi_ne_t rfl (by decide) h11)
            refine z_sub [0] rfl ?_
            exact sb_Po_readTerm_112 g  k h
          · have h := h.1 (qi_ne_f rfl (by decide) h11)
            refine z_aload_n (f := 0) (i := 0) (q := 0) (pc' := 103) ⟨wR (by decide +kernel), rfl⟩ rfl rfl ?_
            refine z_ldcwS (i := 15) (pc' := 106) rfl rfl ⟨wR (by decide +kernel), rfl⟩ ?_
            show Wz E (withR Y_Po_readTerm (rmN (R + 1))) 106 [(0, .ref 17), (1, .int a1)] (.ref (1000 + 15) :: [.ref 17]) σ10 K
            refine w_invV (Z := Y_Po_isWord) (idx := 158) (kb := 17) (As := [.ref (1000 + 15)]) (rest := []) (pc' := 109) cl_7_158 rfl ⟨rfl, rfl⟩ ykfa_17_0 rfl (rm_o (by decide) (by decide) ⟨rfl, rfl⟩) ⟨wR (by decide +kernel), rfl⟩ rfl rfl (Nat.le_of_ble_eq_true rfl) rfl rfl ?_
            refine sF_Po_isWord (by decide) h (fun v12 σ12 h => ?_)
            show Wz E (withR Y_Po_readTerm (rmN (R + 1))) 109 [(0, .ref 17), (1, .int a1)] [.int v12] σ12 K
            refine z_if_eq (off := 34) (tgt := 143) (pc' := 112) ⟨wR (by decide +kernel), by decide, rfl⟩ (fun h13 => ?_) (fun h13 => ?_)
            · have h := h.1 (qi_eq_t rfl (by decide) h13)
              refine z_aload_n (f := 0) (i := 0) (q := 0) (pc' := 144) ⟨wR (by decide +kernel), rfl⟩ rfl rfl ?_
              refine z_ldcwS (i := 16) (pc' := 147) rfl rfl ⟨wR (by decide +kernel), rfl⟩ ?_
              show Wz E (withR Y_Po_readTerm (rmN (R + 1))) 147 [(0, .ref 17), (1, .int a1)] (.ref (1000 + 16) :: [.ref 17]) σ12 K
              refine w_invV (Z := Y_Po_isWord) (idx := 158) (kb := 17) (As := [.ref (1000 + 16)]) (rest := []) (pc' := 150) cl_7_158 rfl ⟨rfl, rfl⟩ ykfa_17_0 rfl (rm_o (by decide) (by decide) ⟨rfl, rfl⟩) ⟨wR (by decide +kernel), rfl⟩ rfl rfl (Nat.le_of_ble_eq_true rfl) rfl rfl ?_
              refine sF_Po_isWord (by decide) h (fun v14 σ14 h => ?_)
              show Wz E (withR Y_Po_readTerm (rmN (R + 1))) 150 [(0, .ref 17), (1, .int a1)] [.int v14] σ14 K
              refine z_if_eq (off := 19) (tgt := 169) (pc' := 153) ⟨wR (by decide +kernel), by decide, rfl⟩ (fun h15 => ?_) (fun h15 => ?_)
              · have h := h.1 (qi_eq_t rfl (by decide) h15)
                refine z_aload_n (f := 0) (i := 0) (q := 0) (pc' := 170) ⟨wR (by decide +kernel), rfl⟩ rfl rfl ?_
                refine z_iload_n (f := 1) (i := 1) (q := 1) (pc' := 171) ⟨wR (by decide +kernel), rfl⟩ rfl rfl ?_
                refine w_invVR (Z := Y_Po_readItem) (idx := 260) (kb := 17) (As := [.int a1]) (rest := []) (pc' := 174) cl_7_260 rfl ⟨rfl, rfl⟩ ykfa_17_0 rfl (rm_i (by decide)) ⟨wR (by decide +kernel), rfl⟩ rfl rfl (Nat.le_of_ble_eq_true rfl) rfl rfl ?_
                refine g 2 _ _ _ _ h (fun v16 σ16 h => ?_)
                show Wz E (withR Y_Po_readTerm (rmN (R + 1))) 174 [(0, .ref 17), (1, .int a1)] [.int v16] σ16 K
                obtain ⟨hg17, h⟩ := h
                exact z_iret (ty := .boolean) rfl (j_bool hg17).1 (wR (by decide +kernel)) (k _ _ h)
              · have h := h.2 (qi_eq_f rfl (by decide) h15)
                refine z_aload_n (f := 0) (i := 0) (q := 0) (pc' := 154) ⟨wR (by decide +kernel), rfl⟩ rfl rfl ?_
                refine z_dupr (pc' := 155) ⟨wR (by decide +kernel), rfl⟩ ?_
                refine w_geti (k := 17) (j := 14) (idx := 63) (pc' := 158) yfxe_7_63 ykfa_17_14 ⟨wR (by decide +kernel), rfl⟩ ?_
                refine z_iconst (i := 1) (v := 1) (pc' := 159) ⟨wR (by decide +kernel), rfl⟩ (by decide) ?_
                refine z_iadd (pc' := 160) ⟨wR (by decide +kernel), rfl⟩ ?_
                obtain ⟨hb18, h⟩ := h
                have h := h ((σ14.1 17 14) + 1) (ia_ok rfl (by decide) hb18)
                generalize ((σ14.1 17 14) + 1) = r18 at h ⊢
                refine w_puti (k := 17) (j := 14) (idx := 63) (pc' := 163) yfxi_7_63 ykfa_17_14 ⟨wR (by decide +kernel), rfl⟩ ?_
                generalize hs19 : zI σ14 17 14 r18 = σ19
                have h := h σ19 hs19
                refine z_aload_n (f := 0) (i := 0) (q := 0) (pc' := 164) ⟨wR (by decide +kernel), rfl⟩ rfl rfl ?_
                refine z_iconst (i := 4) (v := 4) (pc' := 165) ⟨wR (by decide +kernel), rfl⟩ (by decide) ?_
                refine w_invV (Z := Y_Po_readFeature) (idx := 228) (kb := 17) (As := [.int 4]) (rest := []) (pc' := 168) cl_7_228 rfl ⟨rfl, rfl⟩ ykfa_17_0 rfl (rm_o (by decide) (by decide) ⟨rfl, rfl⟩) ⟨wR (by decide +kernel), rfl⟩ rfl rfl (Nat.le_of_ble_eq_true rfl) rfl rfl ?_
                refine sF_Po_readFeature h (fun v20 σ20 h => ?_)
                show Wz E (withR Y_Po_readTerm (rmN (R + 1))) 168 [(0, .ref 17), (1, .int a1)] [.int v20] σ20 K
                obtain ⟨hg21, h⟩ := h
                exact z_iret (ty := .boolean) rfl (j_bool hg21).1 (wR (by decide +kernel)) (k _ _ h)
            · have h := h.2 (qi_eq_f rfl (by decide) h13)
              refine z_sub [0] rfl ?_
              exact sb_Po_readTerm_112 g  k h
        · have h := h.1 (qi_ne_f rfl (by decide) h9)
          refine z_sub [0] rfl ?_
          exact sb_Po_readTerm_50 g  k h
    · have h := h.2 (qi_eq_f rfl (by decide) h6)
      refine z_aload_n (f := 0) (i := 0) (q := 0) (pc' := 19) ⟨wR (by decide +kernel), rfl⟩ rfl rfl ?_
      refine z_iload_n (f := 1) (i := 1) (q := 1) (pc' := 20) ⟨wR (by decide +kernel), rfl⟩ rfl rfl ?_
      refine w_invVR (Z := Y_Po_readNested) (idx := 251) (kb := 17) (As := [.int a1]) (rest := []) (pc' := 23) cl_7_251 rfl ⟨rfl, rfl⟩ ykfa_17_0 rfl (rm_i (by decide)) ⟨wR (by decide +kernel), rfl⟩ rfl rfl (Nat.le_of_ble_eq_true rfl) rfl rfl ?_
      refine g 1 _ _ _ _ h (fun v22 σ22 h => ?_)
      show Wz E (withR Y_Po_readTerm (rmN (R + 1))) 23 [(0, .ref 17), (1, .int a1)] [.int v22] σ22 K
      obtain ⟨hg23, h⟩ := h
      exact z_iret (ty := .boolean) rfl (j_bool hg23).1 (wR (by decide +kernel)) (k _ _ h)
noncomputable def W_Po_readNested (G : Nat → Int32 → zS → (Int32 → zS → Prop) → Prop) (a1 : Int32) (σ : zS) (Q : Int32 → zS → Prop) : Prop := ((Int32.toInt a1) < 20 → (W_Po_isSign 45 σ (fun v2 σ2 => (-2147483648 ≤ (Int32.toInt (σ2.1 17 14)) + 1 ∧ (Int32.toInt (σ2.1 17 14)) + 1 ≤ 2147483647) ∧ ∀ r3 : Int32, r3.toInt = (Int32.toInt (σ2.1 17 14)) + 1 → (∀ σ4 : zS, zI σ2 17 14 r3 = σ4 → (((Int32.toInt v2) = 0 → ((-2147483648 ≤ (Int32.toInt a1) + 1 ∧ (Int32.toInt a1) + 1 ≤ 2147483647) ∧ ∀ r10 : Int32, r10.toInt = (Int32.toInt a1) + 1 → (G 4 r10 σ4 (fun v11 σ11 => ((Int32.toInt v11) = 0 → (Q 0 σ11)) ∧ (¬ (Int32.toInt v11) = 0 → (W_Po_passes 41 σ11 (fun v13 σ13 => ((Int32.toInt v13) = 0 → (Q 0 σ13)) ∧ (¬ (Int32.toInt v13) = 0 → (Q 1 σ13))))))))) ∧ (¬ (Int32.toInt v2) = 0 → ((-2147483648 ≤ (Int32.toInt a1) + 1 ∧ (Int32.toInt a1) + 1 ≤ 2147483647) ∧ ∀ r6 : Int32, r6.toInt = (Int32.toInt a1) + 1 → (G 0 r6 σ4 (fun v7 σ7 => ((Int32.toInt v7) = 0 → (Q 0 σ7)) ∧ (¬ (Int32.toInt v7) = 0 → (W_Po_emit 7 0 σ7 (fun _ σ9 => Q 1 σ9)))))))))))) ∧ (¬ (Int32.toInt a1) < 20 → (W_Po_fail  σ (fun v15 σ15 => (v15 = 0 ∨ v15 = 1) ∧ (Q v15 σ15))))
theorem sF_Po_readNested {E : xV} {R : Nat} {σ : zS} {K : zKt} {G : Nat → Int32 → zS → (Int32 → zS → Prop) → Prop} {a1 : Int32} {Q : Int32 → zS → Prop} (g : ∀ (m : Nat) (d : Int32) (σ : zS) (Q : Int32 → zS → Prop) (K : zKt), G m d σ Q → (∀ v s, Q v s → K (some (.int v)) s) → Cz E (withR (Ypo m) (rmN R)) [.ref 17, .int d] σ K) (h : W_Po_readNested G a1 σ Q) (k : ∀ v s, Q v s → K (some (.int v)) s) : Cz E (withR Y_Po_readNested (rmN (R + 1))) [.ref 17, .int a1] σ K := by
  refine z_entry (show plainName Y_Po_readNested.1.cls = true by decide) (fun a => by rw [sl_len]; exact Nat.le_of_ble_eq_true rfl) rfl ?_
  unfold W_Po_readNested at h
  refine z_iload_n (f := 1) (i := 1) (q := 1) (pc' := 1) ⟨wR (by decide +kernel), rfl⟩ rfl rfl ?_
  refine z_bipush (i := 20) (v := 20) (pc' := 3) ⟨wR (by decide +kernel), rfl⟩ (by decide) ?_
  refine z_icmp_lt (off := 8) (tgt := 11) (pc' := 6) ⟨wR (by decide +kernel), by decide, rfl⟩ (fun h1 => ?_) (fun h1 => ?_)
  · have h := h.1 (qi_lt_t rfl (by decide) h1)
    refine z_aload_n (f := 0) (i := 0) (q := 0) (pc' := 12) ⟨wR (by decide +kernel), rfl⟩ rfl rfl ?_
    refine z_bipush (i := 45) (v := 45) (pc' := 14) ⟨wR (by decide +kernel), rfl⟩ (by decide) ?_
    refine w_invV (Z := Y_Po_isSign) (idx := 137) (kb := 17) (As := [.int 45]) (rest := []) (pc' := 17) cl_7_137 rfl ⟨rfl, rfl⟩ ykfa_17_0 rfl (rm_o (by decide) (by decide) ⟨rfl, rfl⟩) ⟨wR (by decide +kernel), rfl⟩ rfl rfl (Nat.le_of_ble_eq_true rfl) rfl rfl ?_
    refine sF_Po_isSign h (fun v2 σ2 h => ?_)
    show Wz E (withR Y_Po_readNested (rmN (R + 1))) 17 [(0, .ref 17), (1, .int a1)] [.int v2] σ2 K
    refine z_istore_n (f := 2) (i := 2) (pc' := 18) ⟨wR (by decide +kernel), rfl⟩ rfl (wQ (by decide)) rfl ?_
    show Wz E (withR Y_Po_readNested (rmN (R + 1))) 18 [(2, .int v2), (0, .ref 17), (1, .int a1)] [] σ2 K
    refine z_aload_n (f := 0) (i := 0) (q := 1) (pc' := 19) ⟨wR (by decide +kernel), rfl⟩ rfl rfl ?_
    refine z_dupr (pc' := 20) ⟨wR (by decide +kernel), rfl⟩ ?_
    refine w_geti (k := 17) (j := 14) (idx := 63) (pc' := 23) yfxe_7_63 ykfa_17_14 ⟨wR (by decide +kernel), rfl⟩ ?_
    refine z_iconst (i := 1) (v := 1) (pc' := 24) ⟨wR (by decide +kernel), rfl⟩ (by decide) ?_
    refine z_iadd (pc' := 25) ⟨wR (by decide +kernel), rfl⟩ ?_
    obtain ⟨hb3, h⟩ := h
    have h := h ((σ2.1 17 14) + 1) (ia_ok rfl (by decide) hb3)
    generalize ((σ2.1 17 14) + 1) = r3 at h ⊢
    refine w_puti (k := 17) (j := 14) (idx := 63) (pc' := 28) yfxi_7_63 ykfa_17_14 ⟨wR (by decide +kernel), rfl⟩ ?_
    generalize hs4 : zI σ2 17 14 r3 = σ4
    have h := h σ4 hs4
    refine z_iload_n (f := 2) (i := 2) (q := 0) (pc' := 29) ⟨wR (by decide +kernel), rfl⟩ rfl rfl ?_
    refine z_if_ne (off := 28) (tgt := 57) (pc' := 32) ⟨wR (by decide +kernel), by decide, rfl⟩ (fun h5 => ?_) (fun h5 => ?_)
    · have h := h.2 (qi_ne_t rfl (by decide) h5)
      refine z_aload_n (f := 0) (i := 0) (q := 1) (pc' := 58) ⟨wR (by decide +kernel), rfl⟩ rfl rfl ?_
      refine z_iload_n (f := 1) (i := 1) (q := 2) (pc' := 59) ⟨wR (by decide +kernel), rfl⟩ rfl rfl ?_
      refine z_iconst (i := 1) (v := 1) (pc' := 60) ⟨wR (by decide +kernel), rfl⟩ (by decide) ?_
      refine z_iadd (pc' := 61) ⟨wR (by decide +kernel), rfl⟩ ?_
      obtain ⟨hb6, h⟩ := h
      have h := h (a1 + 1) (ia_ok rfl (by decide) hb6)
      generalize (a1 + 1) = r6 at h ⊢
      refine w_invVR (Z := Y_Po_readTerm) (idx := 248) (kb := 17) (As := [.int r6]) (rest := []) (pc' := 64) cl_7_248 rfl ⟨rfl, rfl⟩ ykfa_17_0 rfl (rm_i (by decide)) ⟨wR (by decide +kernel), rfl⟩ rfl rfl (Nat.le_of_ble_eq_true rfl) rfl rfl ?_
      refine g 0 _ _ _ _ h (fun v7 σ7 h => ?_)
      show Wz E (withR Y_Po_readNested (rmN (R + 1))) 64 [(2, .int v2), (0, .ref 17), (1, .int a1)] [.int v7] σ7 K
      refine z_if_ne (off := 5) (tgt := 69) (pc' := 67) ⟨wR (by decide +kernel), by decide, rfl⟩ (fun h8 => ?_) (fun h8 => ?_)
      · have h := h.2 (qi_ne_t rfl (by decide) h8)
        refine z_aload_n (f := 0) (i := 0) (q := 1) (pc' := 70) ⟨wR (by decide +kernel), rfl⟩ rfl rfl ?_
        refine z_bipush (i := 7) (v := 7) (pc' := 72) ⟨wR (by decide +kernel), rfl⟩ (by decide) ?_
        refine z_lconst (i := 0) (v := 0) (pc' := 73) ⟨wR (by decide +kernel), rfl⟩ (by decide) ?_
        refine w_invV (Z := Y_Po_emit) (idx := 211) (kb := 17) (As := [.int 7, .long 0]) (rest := []) (pc' := 76) cl_7_211 rfl ⟨rfl, rfl⟩ ykfa_17_0 rfl (rm_o (by decide) (by decide) ⟨rfl, rfl⟩) ⟨wR (by decide +kernel), rfl⟩ rfl rfl (Nat.le_of_ble_eq_true rfl) rfl rfl ?_
        refine sF_Po_emit h (fun _ σ9 h => ?_)
        show Wz E (withR Y_Po_readNested (rmN (R + 1))) 76 [(2, .int v2), (0, .ref 17), (1, .int a1)] [] σ9 K
        refine z_iconst (i := 1) (v := 1) (pc' := 77) ⟨wR (by decide +kernel), rfl⟩ (by decide) ?_
        exact z_iret (ty := .boolean) rfl (by rfl) (wR (by decide +kernel)) (k _ _ h)
      · have h := h.1 (qi_ne_f rfl (by decide) h8)
        refine z_iconst (i := 0) (v := 0) (pc' := 68) ⟨wR (by decide +kernel), rfl⟩ (by decide) ?_
        exact z_iret (ty := .boolean) rfl (by rfl) (wR (by decide +kernel)) (k _ _ h)
    · have h := h.1 (qi_ne_f rfl (by decide) h5)
      refine z_aload_n (f := 0) (i := 0) (q := 1) (pc' := 33) ⟨wR (by decide +kernel), rfl⟩ rfl rfl ?_
      refine z_iload_n (f := 1) (i := 1) (q := 2) (pc' := 34) ⟨wR (by decide +kernel), rfl⟩ rfl rfl ?_
      refine z_iconst (i := 1) (v := 1) (pc' := 35) ⟨wR (by decide +kernel), rfl⟩ (by decide) ?_
      refine z_iadd (pc' := 36) ⟨wR (by decide +kernel), rfl⟩ ?_
      obtain ⟨hb10, h⟩ := h
      have h := h (a1 + 1) (ia_ok rfl (by decide) hb10)
      generalize (a1 + 1) = r10 at h ⊢
      refine w_invVR (Z := Y_Po_readSum) (idx := 237) (kb := 17) (As := [.int r10]) (rest := []) (pc' := 39) cl_7_237 rfl ⟨rfl, rfl⟩ ykfa_17_0 rfl (rm_i (by decide)) ⟨wR (by decide +kernel), rfl⟩ rfl rfl (Nat.le_of_ble_eq_true rfl) rfl rfl ?_
      refine g 4 _ _ _ _ h (fun v11 σ11 h => ?_)
      show Wz E (withR Y_Po_readNested (rmN (R + 1))) 39 [(2, .int v2), (0, .ref 17), (1, .int a1)] [.int v11] σ11 K
      refine z_if_eq (off := 16) (tgt := 55) (pc' := 42) ⟨wR (by decide +kernel), by decide, rfl⟩ (fun h12 => ?_) (fun h12 => ?_)
      · have h := h.1 (qi_eq_t rfl (by decide) h12)
        refine z_iconst (i := 0) (v := 0) (pc' := 56) ⟨wR (by decide +kernel), rfl⟩ (by decide) ?_
        exact z_iret (ty := .boolean) rfl (by rfl) (wR (by decide +kernel)) (k _ _ h)
      · have h := h.2 (qi_eq_f rfl (by decide) h12)
        refine z_aload_n (f := 0) (i := 0) (q := 1) (pc' := 43) ⟨wR (by decide +kernel), rfl⟩ rfl rfl ?_
        refine z_bipush (i := 41) (v := 41) (pc' := 45) ⟨wR (by decide +kernel), rfl⟩ (by decide) ?_
        refine w_invV (Z := Y_Po_passes) (idx := 83) (kb := 17) (As := [.int 41]) (rest := []) (pc' := 48) cl_7_83 rfl ⟨rfl, rfl⟩ ykfa_17_0 rfl (rm_o (by decide) (by decide) ⟨rfl, rfl⟩) ⟨wR (by decide +kernel), rfl⟩ rfl rfl (Nat.le_of_ble_eq_true rfl) rfl rfl ?_
        refine sF_Po_passes h (fun v13 σ13 h => ?_)
        show Wz E (withR Y_Po_readNested (rmN (R + 1))) 48 [(2, .int v2), (0, .ref 17), (1, .int a1)] [.int v13] σ13 K
        refine z_if_eq (off := 7) (tgt := 55) (pc' := 51) ⟨wR (by decide +kernel), by decide, rfl⟩ (fun h14 => ?_) (fun h14 => ?_)
        · have h := h.1 (qi_eq_t rfl (by decide) h14)
          refine z_iconst (i := 0) (v := 0) (pc' := 56) ⟨wR (by decide +kernel), rfl⟩ (by decide) ?_
          exact z_iret (ty := .boolean) rfl (by rfl) (wR (by decide +kernel)) (k _ _ h)
        · have h := h.2 (qi_eq_f rfl (by decide) h14)
          refine z_iconst (i := 1) (v := 1) (pc' := 52) ⟨wR (by decide +kernel), rfl⟩ (by decide) ?_
          refine z_goto (off := 4) (tgt := 56) (pc' := 55) ⟨wR (by decide +kernel), by decide, rfl⟩ ?_
          exact z_iret (ty := .boolean) rfl (by rfl) (wR (by decide +kernel)) (k _ _ h)
  · have h := h.2 (qi_lt_f rfl (by decide) h1)
    refine z_aload_n (f := 0) (i := 0) (q := 0) (pc' := 7) ⟨wR (by decide +kernel), rfl⟩ rfl rfl ?_
    refine w_invV (Z := Y_Po_fail) (idx := 140) (kb := 17) (As := []) (rest := []) (pc' := 10) cl_7_140 rfl ⟨rfl, rfl⟩ ykfa_17_0 rfl (rm_o (by decide) (by decide) ⟨rfl, rfl⟩) ⟨wR (by decide +kernel), rfl⟩ rfl rfl (Nat.le_of_ble_eq_true rfl) rfl rfl ?_
    refine sF_Po_fail h (fun v15 σ15 h => ?_)
    show Wz E (withR Y_Po_readNested (rmN (R + 1))) 10 [(0, .ref 17), (1, .int a1)] [.int v15] σ15 K
    obtain ⟨hg16, h⟩ := h
    exact z_iret (ty := .boolean) rfl (j_bool hg16).1 (wR (by decide +kernel)) (k _ _ h)
noncomputable def W_Po_readItem (G : Nat → Int32 → zS → (Int32 → zS → Prop) → Prop) (a1 : Int32) (σ : zS) (Q : Int32 → zS → Prop) : Prop := W_Po_readFeature 5 σ (fun v1 σ1 => ((Int32.toInt v1) = 0 → (Q 0 σ1)) ∧ (¬ (Int32.toInt v1) = 0 → (W_Po_isSign 91 σ1 (fun v3 σ3 => ((Int32.toInt v3) = 0 → (Q 1 σ3)) ∧ (¬ (Int32.toInt v3) = 0 → (((Int32.toInt a1) < 20 → (∃ n6 : Nat, Int32.toInt (σ.1 17 15) = (n6 : Int) ∧ n6 < 9600 ∧ (∀ σ7 : zS, zI σ3 17 15 (σ.1 17 15) = σ7 → ((-2147483648 ≤ (Int32.toInt (σ7.1 17 14)) + 1 ∧ (Int32.toInt (σ7.1 17 14)) + 1 ≤ 2147483647) ∧ ∀ r8 : Int32, r8.toInt = (Int32.toInt (σ7.1 17 14)) + 1 → (∀ σ9 : zS, zI σ7 17 14 r8 = σ9 → ((-2147483648 ≤ (Int32.toInt a1) + 1 ∧ (Int32.toInt a1) + 1 ≤ 2147483647) ∧ ∀ r10 : Int32, r10.toInt = (Int32.toInt a1) + 1 → (G 4 r10 σ9 (fun v11 σ11 => ((Int32.toInt v11) = 0 → (Q 0 σ11)) ∧ (¬ (Int32.toInt v11) = 0 → (W_Po_passes 93 σ11 (fun v13 σ13 => ((Int32.toInt v13) = 0 → (Q 0 σ13)) ∧ (¬ (Int32.toInt v13) = 0 → (W_Po_emit 6 (σ3.2 22 n6) σ13 (fun _ σ15 => Q 1 σ15)))))))))))))) ∧ (¬ (Int32.toInt a1) < 20 → (W_Po_fail  σ3 (fun v16 σ16 => (v16 = 0 ∨ v16 = 1) ∧ (Q v16 σ16))))))))))
theorem sF_Po_readItem {E : xV} {R : Nat} {σ : zS} {K : zKt} {G : Nat → Int32 → zS → (Int32 → zS → Prop) → Prop} {a1 : Int32} {Q : Int32 → zS → Prop} (g : ∀ (m : Nat) (d : Int32) (σ : zS) (Q : Int32 → zS → Prop) (K : zKt), G m d σ Q → (∀ v s, Q v s → K (some (.int v)) s) → Cz E (withR (Ypo m) (rmN R)) [.ref 17, .int d] σ K) (h : W_Po_readItem G a1 σ Q) (k : ∀ v s, Q v s → K (some (.int v)) s) : Cz E (withR Y_Po_readItem (rmN (R + 1))) [.ref 17, .int a1] σ K := by
  refine z_entry (show plainName Y_Po_readItem.1.cls = true by decide) (fun a => by rw [sl_len]; exact Nat.le_of_ble_eq_true rfl) rfl ?_
  unfold W_Po_readItem at h
  refine z_aload_n (f := 0) (i := 0) (q := 0) (pc' := 1) ⟨wR (by decide +kernel), rfl⟩ rfl rfl ?_
  refine w_geti (k := 17) (j := 15) (idx := 69) (pc' := 4) yfxe_7_69 ykfa_17_15 ⟨wR (by decide +kernel), rfl⟩ ?_
  refine z_istore_n (f := 2) (i := 2) (pc' := 5) ⟨wR (by decide +kernel), rfl⟩ rfl (wQ (by decide)) rfl ?_
  show Wz E (withR Y_Po_readItem (rmN (R + 1))) 5 [(2, .int (σ.1 17 15)), (0, .ref 17), (1, .int a1)] [] σ K
  refine z_aload_n (f := 0) (i := 0) (q := 1) (pc' := 6) ⟨wR (by decide +kernel), rfl⟩ rfl rfl ?_
  refine z_iconst (i := 5) (v := 5) (pc' := 7) ⟨wR (by decide +kernel), rfl⟩ (by decide) ?_
  refine w_invV (Z := Y_Po_readFeature) (idx := 228) (kb := 17) (As := [.int 5]) (rest := []) (pc' := 10) cl_7_228 rfl ⟨rfl, rfl⟩ ykfa_17_0 rfl (rm_o (by decide) (by decide) ⟨rfl, rfl⟩) ⟨wR (by decide +kernel), rfl⟩ rfl rfl (Nat.le_of_ble_eq_true rfl) rfl rfl ?_
  refine sF_Po_readFeature h (fun v1 σ1 h => ?_)
  show Wz E (withR Y_Po_readItem (rmN (R + 1))) 10 [(2, .int (σ.1 17 15)), (0, .ref 17), (1, .int a1)] [.int v1] σ1 K
  refine z_if_ne (off := 5) (tgt := 15) (pc' := 13) ⟨wR (by decide +kernel), by decide, rfl⟩ (fun h2 => ?_) (fun h2 => ?_)
  · have h := h.2 (qi_ne_t rfl (by decide) h2)
    refine z_aload_n (f := 0) (i := 0) (q := 1) (pc' := 16) ⟨wR (by decide +kernel), rfl⟩ rfl rfl ?_
    refine z_bipush (i := 91) (v := 91) (pc' := 18) ⟨wR (by decide +kernel), rfl⟩ (by decide) ?_
    refine w_invV (Z := Y_Po_isSign) (idx := 137) (kb := 17) (As := [.int 91]) (rest := []) (pc' := 21) cl_7_137 rfl ⟨rfl, rfl⟩ ykfa_17_0 rfl (rm_o (by decide) (by decide) ⟨rfl, rfl⟩) ⟨wR (by decide +kernel), rfl⟩ rfl rfl (Nat.le_of_ble_eq_true rfl) rfl rfl ?_
    refine sF_Po_isSign h (fun v3 σ3 h => ?_)
    show Wz E (withR Y_Po_readItem (rmN (R + 1))) 21 [(2, .int (σ.1 17 15)), (0, .ref 17), (1, .int a1)] [.int v3] σ3 K
    refine z_if_ne (off := 5) (tgt := 26) (pc' := 24) ⟨wR (by decide +kernel), by decide, rfl⟩ (fun h4 => ?_) (fun h4 => ?_)
    · have h := h.2 (qi_ne_t rfl (by decide) h4)
      refine z_iload_n (f := 1) (i := 1) (q := 2) (pc' := 27) ⟨wR (by decide +kernel), rfl⟩ rfl rfl ?_
      refine z_bipush (i := 20) (v := 20) (pc' := 29) ⟨wR (by decide +kernel), rfl⟩ (by decide) ?_
      refine z_icmp_lt (off := 8) (tgt := 37) (pc' := 32) ⟨wR (by decide +kernel), by decide, rfl⟩ (fun h5 => ?_) (fun h5 => ?_)
      · have h := h.1 (qi_lt_t rfl (by decide) h5)
        refine z_aload_n (f := 0) (i := 0) (q := 1) (pc' := 38) ⟨wR (by decide +kernel), rfl⟩ rfl rfl ?_
        refine w_getr (k := 17) (j := 5) (idx := 34) (pc' := 41) yfxe_7_34 ykfa_17_5 ⟨wR (by decide +kernel), rfl⟩ ?_
        refine z_iload_n (f := 2) (i := 2) (q := 0) (pc' := 42) ⟨wR (by decide +kernel), rfl⟩ rfl rfl ?_
        obtain ⟨n6, hi6, hz6, h⟩ := h
        refine w_lald (k := 22) (n := n6) (pc' := 43) ykaa_22 (hi6) (hz6) ⟨wR (by decide +kernel), rfl⟩ ?_
        refine z_lstore_n (f := 3) (i := 3) (pc' := 44) ⟨wR (by decide +kernel), rfl⟩ rfl (wQ (by decide)) rfl ?_
        show Wz E (withR Y_Po_readItem (rmN (R + 1))) 44 [(3, .long (σ3.2 22 n6)), (2, .int (σ.1 17 15)), (0, .ref 17), (1, .int a1)] [] σ3 K
        refine z_aload_n (f := 0) (i := 0) (q := 2) (pc' := 45) ⟨wR (by decide +kernel), rfl⟩ rfl rfl ?_
        refine z_iload_n (f := 2) (i := 2) (q := 1) (pc' := 46) ⟨wR (by decide +kernel), rfl⟩ rfl rfl ?_
        refine w_puti (k := 17) (j := 15) (idx := 69) (pc' := 49) yfxi_7_69 ykfa_17_15 ⟨wR (by decide +kernel), rfl⟩ ?_
        generalize hs7 : zI σ3 17 15 (σ.1 17 15) = σ7
        have h := h σ7 hs7
        refine z_aload_n (f := 0) (i := 0) (q := 2) (pc' := 50) ⟨wR (by decide +kernel), rfl⟩ rfl rfl ?_
        refine z_dupr (pc' := 51) ⟨wR (by decide +kernel), rfl⟩ ?_
        refine w_geti (k := 17) (j := 14) (idx := 63) (pc' := 54) yfxe_7_63 ykfa_17_14 ⟨wR (by decide +kernel), rfl⟩ ?_
        refine z_iconst (i := 1) (v := 1) (pc' := 55) ⟨wR (by decide +kernel), rfl⟩ (by decide) ?_
        refine z_iadd (pc' := 56) ⟨wR (by decide +kernel), rfl⟩ ?_
        obtain ⟨hb8, h⟩ := h
        have h := h ((σ7.1 17 14) + 1) (ia_ok rfl (by decide) hb8)
        generalize ((σ7.1 17 14) + 1) = r8 at h ⊢
        refine w_puti (k := 17) (j := 14) (idx := 63) (pc' := 59) yfxi_7_63 ykfa_17_14 ⟨wR (by decide +kernel), rfl⟩ ?_
        generalize hs9 : zI σ7 17 14 r8 = σ9
        have h := h σ9 hs9
        refine z_aload_n (f := 0) (i := 0) (q := 2) (pc' := 60) ⟨wR (by decide +kernel), rfl⟩ rfl rfl ?_
        refine z_iload_n (f := 1) (i := 1) (q := 3) (pc' := 61) ⟨wR (by decide +kernel), rfl⟩ rfl rfl ?_
        refine z_iconst (i := 1) (v := 1) (pc' := 62) ⟨wR (by decide +kernel), rfl⟩ (by decide) ?_
        refine z_iadd (pc' := 63) ⟨wR (by decide +kernel), rfl⟩ ?_
        obtain ⟨hb10, h⟩ := h
        have h := h (a1 + 1) (ia_ok rfl (by decide) hb10)
        generalize (a1 + 1) = r10 at h ⊢
        refine w_invVR (Z := Y_Po_readSum) (idx := 237) (kb := 17) (As := [.int r10]) (rest := []) (pc' := 66) cl_7_237 rfl ⟨rfl, rfl⟩ ykfa_17_0 rfl (rm_i (by decide)) ⟨wR (by decide +kernel), rfl⟩ rfl rfl (Nat.le_of_ble_eq_true rfl) rfl rfl ?_
        refine g 4 _ _ _ _ h (fun v11 σ11 h => ?_)
        show Wz E (withR Y_Po_readItem (rmN (R + 1))) 66 [(3, .long (σ3.2 22 n6)), (2, .int (σ.1 17 15)), (0, .ref 17), (1, .int a1)] [.int v11] σ11 K
        refine z_if_eq (off := 12) (tgt := 78) (pc' := 69) ⟨wR (by decide +kernel), by decide, rfl⟩ (fun h12 => ?_) (fun h12 => ?_)
        · have h := h.1 (qi_eq_t rfl (by decide) h12)
          refine z_iconst (i := 0) (v := 0) (pc' := 79) ⟨wR (by decide +kernel), rfl⟩ (by decide) ?_
          exact z_iret (ty := .boolean) rfl (by rfl) (wR (by decide +kernel)) (k _ _ h)
        · have h := h.2 (qi_eq_f rfl (by decide) h12)
          refine z_aload_n (f := 0) (i := 0) (q := 2) (pc' := 70) ⟨wR (by decide +kernel), rfl⟩ rfl rfl ?_
          refine z_bipush (i := 93) (v := 93) (pc' := 72) ⟨wR (by decide +kernel), rfl⟩ (by decide) ?_
          refine w_invV (Z := Y_Po_passes) (idx := 83) (kb := 17) (As := [.int 93]) (rest := []) (pc' := 75) cl_7_83 rfl ⟨rfl, rfl⟩ ykfa_17_0 rfl (rm_o (by decide) (by decide) ⟨rfl, rfl⟩) ⟨wR (by decide +kernel), rfl⟩ rfl rfl (Nat.le_of_ble_eq_true rfl) rfl rfl ?_
          refine sF_Po_passes h (fun v13 σ13 h => ?_)
          show Wz E (withR Y_Po_readItem (rmN (R + 1))) 75 [(3, .long (σ3.2 22 n6)), (2, .int (σ.1 17 15)), (0, .ref 17), (1, .int a1)] [.int v13] σ13 K
          refine z_if_ne (off := 5) (tgt := 80) (pc' := 78) ⟨wR (by decide +kernel), by decide, rfl⟩ (fun h14 => ?_) (fun h14 => ?_)
          · have h := h.2 (qi_ne_t rfl (by decide) h14)
            refine z_aload_n (f := 0) (i := 0) (q := 2) (pc' := 81) ⟨wR (by decide +kernel), rfl⟩ rfl rfl ?_
            refine z_bipush (i := 6) (v := 6) (pc' := 83) ⟨wR (by decide +kernel), rfl⟩ (by decide) ?_
            refine z_lload_n (f := 3) (i := 3) (q := 0) (pc' := 84) ⟨wR (by decide +kernel), rfl⟩ rfl rfl ?_
            refine w_invV (Z := Y_Po_emit) (idx := 211) (kb := 17) (As := [.int 6, .long (σ3.2 22 n6)]) (rest := []) (pc' := 87) cl_7_211 rfl ⟨rfl, rfl⟩ ykfa_17_0 rfl (rm_o (by decide) (by decide) ⟨rfl, rfl⟩) ⟨wR (by decide +kernel), rfl⟩ rfl rfl (Nat.le_of_ble_eq_true rfl) rfl rfl ?_
            refine sF_Po_emit h (fun _ σ15 h => ?_)
            show Wz E (withR Y_Po_readItem (rmN (R + 1))) 87 [(3, .long (σ3.2 22 n6)), (2, .int (σ.1 17 15)), (0, .ref 17), (1, .int a1)] [] σ15 K
            refine z_iconst (i := 1) (v := 1) (pc' := 88) ⟨wR (by decide +kernel), rfl⟩ (by decide) ?_
            exact z_iret (ty := .boolean) rfl (by rfl) (wR (by decide +kernel)) (k _ _ h)
          · have h := h.1 (qi_ne_f rfl (by decide) h14)
            refine z_iconst (i := 0) (v := 0) (pc' := 79) ⟨wR (by decide +kernel), rfl⟩ (by decide) ?_
            exact z_iret (ty := .boolean) rfl (by rfl) (wR (by decide +kernel)) (k _ _ h)
      · have h := h.2 (qi_lt_f rfl (by decide) h5)
        refine z_aload_n (f := 0) (i := 0) (q := 1) (pc' := 33) ⟨wR (by decide +kernel), rfl⟩ rfl rfl ?_
        refine w_invV (Z := Y_Po_fail) (idx := 140) (kb := 17) (As := []) (rest := []) (pc' := 36) cl_7_140 rfl ⟨rfl, rfl⟩ ykfa_17_0 rfl (rm_o (by decide) (by decide) ⟨rfl, rfl⟩) ⟨wR (by decide +kernel), rfl⟩ rfl rfl (Nat.le_of_ble_eq_true rfl) rfl rfl ?_
        refine sF_Po_fail h (fun v16 σ16 h => ?_)
        show Wz E (withR Y_Po_readItem (rmN (R + 1))) 36 [(2, .int (σ.1 17 15)), (0, .ref 17), (1, .int a1)] [.int v16] σ16 K
        obtain ⟨hg17, h⟩ := h
        exact z_iret (ty := .boolean) rfl (j_bool hg17).1 (wR (by decide +kernel)) (k _ _ h)
    · have h := h.1 (qi_ne_f rfl (by decide) h4)
      refine z_iconst (i := 1) (v := 1) (pc' := 25) ⟨wR (by decide +kernel), rfl⟩ (by decide) ?_
      exact z_iret (ty := .boolean) rfl (by rfl) (wR (by decide +kernel)) (k _ _ h)
  · have h := h.1 (qi_ne_f rfl (by decide) h2)
    refine z_iconst (i := 0) (v := 0) (pc' := 14) ⟨wR (by decide +kernel), rfl⟩ (by decide) ?_
    exact z_iret (ty := .boolean) rfl (by rfl) (wR (by decide +kernel)) (k _ _ h)

end
