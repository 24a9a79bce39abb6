section
noncomputable def WB_M_token_85 (F0 : zS → (Unit → zS → Prop) → Prop) (F85 : zS → (Unit → zS → Prop) → Prop)  (σ : zS) (Q : Unit → zS → Prop) : Prop := W_M_byteAt (σ.1 110 27) σ (fun v1 σ1 => W_M_isLetter v1 σ1 (fun v2 σ2 => ((Int32.toInt v2) = 0 → (W_M_byteAt (σ2.1 110 27) σ2 (fun v4 σ4 => W_M_isFigure v4 σ4 (fun v5 σ5 => ((Int32.toInt v5) = 0 → (Q () σ5)) ∧ (¬ (Int32.toInt v5) = 0 → (W_M_token_b113 F0 F85  σ5 Q)))))) ∧ (¬ (Int32.toInt v2) = 0 → (W_M_token_b113 F0 F85  σ2 Q))))
theorem sh_M_token_85 {E : xV} {σ : zS} {K : zKt} {F0 : zS → (Unit → zS → Prop) → Prop} {F85 : zS → (Unit → zS → Prop) → Prop}  {Q : Unit → zS → Prop} (f0 : ∀  (σ : zS), F0  σ Q → Wz E Y_M_token 0 [(0, .ref 110)] [] σ K) (f85 : ∀  (σ : zS), F85  σ Q → Wz E Y_M_token 85 [(0, .ref 110)] [] σ K) (k : ∀ v s, Q v s → K none s) (h : WB_M_token_85 F0 F85  σ Q) : Wz E Y_M_token 85 [(0, .ref 110)] [] σ K := by
  unfold WB_M_token_85 at h
  refine z_aload_n (f := 0) (i := 0) (q := 0) (pc' := 86) ⟨by decide +kernel, rfl⟩ rfl rfl ?_
  refine z_aload_n (f := 0) (i := 0) (q := 0) (pc' := 87) ⟨by decide +kernel, rfl⟩ rfl rfl ?_
  refine w_geti (k := 110) (j := 27) (idx := 498) (pc' := 90) yfxe_13_498 ykfa_110_27 ⟨by decide +kernel, rfl⟩ ?_
  refine w_invV (Z := Y_M_byteAt) (idx := 501) (kb := 110) (As := [.int (σ.1 110 27)]) (rest := []) (pc' := 93) cl_13_501 rfl ⟨rfl, rfl⟩ ykfa_110_0 rfl ⟨⟨by decide, by decide⟩, rfl, rfl⟩ ⟨by decide +kernel, rfl⟩ rfl rfl (Nat.le_of_ble_eq_true rfl) rfl rfl ?_
  refine sF_M_byteAt h (fun v1 σ1 h => ?_)
  show Wz E Y_M_token 93 [(0, .ref 110)] [.int v1] σ1 K
  refine w_invS (Z := Y_M_isLetter) (idx := 514) (As := [.int v1]) (rest := []) (pc' := 96) cl_13_514 rfl ⟨rfl, rfl⟩ ⟨⟨by decide, by decide⟩, rfl, rfl⟩ ⟨by decide +kernel, rfl⟩ rfl rfl (Nat.le_of_ble_eq_true rfl) rfl rfl ?_
  refine sF_M_isLetter h (fun v2 σ2 h => ?_)
  show Wz E Y_M_token 96 [(0, .ref 110)] [.int v2] σ2 K
  refine z_if_ne (off := 17) (tgt := 113) (pc' := 99) ⟨by decide +kernel, by decide, rfl⟩ (fun h3 => ?_) (fun h3 => ?_)
  · have h := h.2 (qi_ne_t rfl (by decide) h3)
    refine z_sub [0] rfl ?_
    exact sb_M_token_113 f0 f85 k h
  · have h := h.1 (qi_ne_f rfl (by decide) h3)
    refine z_aload_n (f := 0) (i := 0) (q := 0) (pc' := 100) ⟨by decide +kernel, rfl⟩ rfl rfl ?_
    refine z_aload_n (f := 0) (i := 0) (q := 0) (pc' := 101) ⟨by decide +kernel, rfl⟩ rfl rfl ?_
    refine w_geti (k := 110) (j := 27) (idx := 498) (pc' := 104) yfxe_13_498 ykfa_110_27 ⟨by decide +kernel, rfl⟩ ?_
    refine w_invV (Z := Y_M_byteAt) (idx := 501) (kb := 110) (As := [.int (σ2.1 110 27)]) (rest := []) (pc' := 107) cl_13_501 rfl ⟨rfl, rfl⟩ ykfa_110_0 rfl ⟨⟨by decide, by decide⟩, rfl, rfl⟩ ⟨by decide +kernel, rfl⟩ rfl rfl (Nat.le_of_ble_eq_true rfl) rfl rfl ?_
    refine sF_M_byteAt h (fun v4 σ4 h => ?_)
    show Wz E Y_M_token 107 [(0, .ref 110)] [.int v4] σ4 K
    refine w_invS (Z := Y_M_isFigure) (idx := 517) (As := [.int v4]) (rest := []) (pc' := 110) cl_13_517 rfl ⟨rfl, rfl⟩ ⟨⟨by decide, by decide⟩, rfl, rfl⟩ ⟨by decide +kernel, rfl⟩ rfl rfl (Nat.le_of_ble_eq_true rfl) rfl rfl ?_
    refine sF_M_isFigure h (fun v5 σ5 h => ?_)
    show Wz E Y_M_token 110 [(0, .ref 110)] [.int v5] σ5 K
    refine z_if_eq (off := 77) (tgt := 187) (pc' := 113) ⟨by decide +kernel, by decide, rfl⟩ (fun h6 => ?_) (fun h6 => ?_)
    · have h := h.1 (qi_eq_t rfl (by decide) h6)
      exact z_vret rfl (by decide +kernel) (k _ _ h)
    · have h := h.2 (qi_eq_f rfl (by decide) h6)
      refine z_sub [0] rfl ?_
      exact sb_M_token_113 f0 f85 k h
noncomputable def WL_M_token : Nat → (zS → (Unit → zS → Prop) → Prop) × (zS → (Unit → zS → Prop) → Prop)
  | 0 => (fun _ _ => False, fun _ _ => False)
  | n + 1 => (WB_M_token_0 (WL_M_token n).1 (WL_M_token n).2, WB_M_token_85 (WL_M_token n).1 (WL_M_token n).2)
theorem wl_M_token_0 {n : Nat}  {σ : zS} {Q : Unit → zS → Prop} (h : WB_M_token_0 (WL_M_token n).1 (WL_M_token n).2  σ Q) : (WL_M_token (n + 1)).1  σ Q := h
theorem wl_M_token_85 {n : Nat}  {σ : zS} {Q : Unit → zS → Prop} (h : WB_M_token_85 (WL_M_token n).1 (WL_M_token n).2  σ Q) : (WL_M_token (n + 1)).2  σ Q := h
theorem sl_M_token {E : xV} {K : zKt} {Q : Unit → zS → Prop} (k : ∀ v s, Q v s → K none s) : ∀ n, (∀  (σ : zS), (WL_M_token n).1  σ Q → Wz E Y_M_token 0 [(0, .ref 110)] [] σ K) ∧ (∀  (σ : zS), (WL_M_token n).2  σ Q → Wz E Y_M_token 85 [(0, .ref 110)] [] σ K)
  | 0 => ⟨fun _ h => h.elim, fun _ h => h.elim⟩
  | n + 1 => by
    have i := sl_M_token (E := E)  k n
    exact ⟨fun _ h => sh_M_token_0 i.1 i.2 k h, fun _ h => sh_M_token_85 i.1 i.2 k h⟩
noncomputable def W_M_token  (σ : zS) (Q : Unit → zS → Prop) : Prop := (WL_M_token fuF).1  σ Q
theorem sF_M_token {E : xV} {σ : zS} {K : zKt}  {Q : Unit → zS → Prop} (h : W_M_token  σ Q) (k : ∀ v s, Q v s → K none s) : Cz E Y_M_token [.ref 110] σ K := by
  refine z_entry (by decide) (fun a => by rw [sl_len]; exact Nat.le_of_ble_eq_true rfl) rfl ?_
  unfold W_M_token at h
  refine z_sub [0] rfl ?_
  exact (sl_M_token k fuF).1  _ h
noncomputable def W_M_isSign (a1 : Int32) (σ : zS) (Q : Int32 → zS → Prop) : Prop := ((Int32.toInt (σ.1 110 28)) = 4 → (((Int32.toInt (σ.1 110 30)) = (Int32.toInt a1) → (Q 1 σ)) ∧ (¬ (Int32.toInt (σ.1 110 30)) = (Int32.toInt a1) → (Q 0 σ)))) ∧ (¬ (Int32.toInt (σ.1 110 28)) = 4 → (Q 0 σ))
theorem sF_M_isSign {E : xV} {σ : zS} {K : zKt} {a1 : Int32} {Q : Int32 → zS → Prop} (h : W_M_isSign a1 σ Q) (k : ∀ v s, Q v s → K (some (.int v)) s) : Cz E Y_M_isSign [.ref 110, .int a1] σ K := by
  refine z_entry (by decide) (fun a => by rw [sl_len]; exact Nat.le_of_ble_eq_true rfl) rfl ?_
  unfold W_M_isSign at h
  refine z_aload_n (f := 0) (i := 0) (q := 0) (pc' := 1) ⟨by decide +kernel, rfl⟩ rfl rfl ?_
  refine w_geti (k := 110) (j := 28) (idx := 511) (pc' := 4) yfxe_13_511 ykfa_110_28 ⟨by decide +kernel, rfl⟩ ?_
  refine z_iconst (i := 4) (v := 4) (pc' := 5) ⟨by decide +kernel, rfl⟩ (by decide) ?_
  refine z_icmp_ne (off := 15) (tgt := 20) (pc' := 8) ⟨by decide +kernel, by decide, rfl⟩ (fun h1 => ?_) (fun h1 => ?_)
  · have h := h.2 (qi_ne_t rfl (by decide) h1)
    refine z_iconst (i := 0) (v := 0) (pc' := 21) ⟨by decide +kernel, rfl⟩ (by decide) ?_
    exact z_iret (ty := .boolean) rfl (by rfl) (by decide +kernel) (k _ _ h)
  · have h := h.1 (qi_ne_f rfl (by decide) h1)
    refine z_aload_n (f := 0) (i := 0) (q := 0) (pc' := 9) ⟨by decide +kernel, rfl⟩ rfl rfl ?_
    refine w_geti (k := 110) (j := 30) (idx := 540) (pc' := 12) yfxe_13_540 ykfa_110_30 ⟨by decide +kernel, rfl⟩ ?_
    refine z_iload_n (f := 1) (i := 1) (q := 1) (pc' := 13) ⟨by decide +kernel, rfl⟩ rfl rfl ?_
    refine z_icmp_ne (off := 7) (tgt := 20) (pc' := 16) ⟨by decide +kernel, by decide, rfl⟩ (fun h2 => ?_) (fun h2 => ?_)
    · have h := h.2 (qi_ne_t rfl rfl h2)
      refine z_iconst (i := 0) (v := 0) (pc' := 21) ⟨by decide +kernel, rfl⟩ (by decide) ?_
      exact z_iret (ty := .boolean) rfl (by rfl) (by decide +kernel) (k _ _ h)
    · have h := h.1 (qi_ne_f rfl rfl h2)
      refine z_iconst (i := 1) (v := 1) (pc' := 17) ⟨by decide +kernel, rfl⟩ (by decide) ?_
      refine z_goto (off := 4) (tgt := 21) (pc' := 20) ⟨by decide +kernel, by decide, rfl⟩ ?_
      exact z_iret (ty := .boolean) rfl (by rfl) (by decide +kernel) (k _ _ h)
noncomputable def W_M_isWord_b86 (y0 : Int64) (σ : zS) (Q : Int32 → zS → Prop) : Prop := ((Int32.toInt (σ.1 110 28)) = 1 → (((Int64.toInt (σ.2 110 31)) = (Int64.toInt y0) → (Q 1 σ)) ∧ (¬ (Int64.toInt (σ.2 110 31)) = (Int64.toInt y0) → (Q 0 σ)))) ∧ (¬ (Int32.toInt (σ.1 110 28)) = 1 → (Q 0 σ))
theorem sb_M_isWord_86 {E : xV} {σ : zS} {K : zKt} {y0 : Int64} {Q : Int32 → zS → Prop} (k : ∀ v s, Q v s → K (some (.int v)) s) (h : W_M_isWord_b86 y0 σ Q) : Wz E Y_M_isWord 86 [(0, .ref 110)] [.long y0] σ K := by
  unfold W_M_isWord_b86 at h
  refine z_lstore (i := 6) (pc' := 88) ⟨by decide +kernel, rfl⟩ (by decide) rfl ?_
  show Wz E Y_M_isWord 88 [(6, .long y0), (0, .ref 110)] [] σ K
  refine z_aload_n (f := 0) (i := 0) (q := 1) (pc' := 89) ⟨by decide +kernel, rfl⟩ rfl rfl ?_
  refine w_geti (k := 110) (j := 28) (idx := 511) (pc' := 92) yfxe_13_511 ykfa_110_28 ⟨by decide +kernel, rfl⟩ ?_
  refine z_iconst (i := 1) (v := 1) (pc' := 93) ⟨by decide +kernel, rfl⟩ (by decide) ?_
  refine z_icmp_ne (off := 17) (tgt := 110) (pc' := 96) ⟨by decide +kernel, by decide, rfl⟩ (fun h1 => ?_) (fun h1 => ?_)
  · have h := h.2 (qi_ne_t rfl (by decide) h1)
    refine z_iconst (i := 0) (v := 0) (pc' := 111) ⟨by decide +kernel, rfl⟩ (by decide) ?_
    exact z_iret (ty := .boolean) rfl (by rfl) (by decide +kernel) (k _ _ h)
  · have h := h.1 (qi_ne_f rfl (by decide) h1)
    refine z_aload_n (f := 0) (i := 0) (q := 1) (pc' := 97) ⟨by decide +kernel, rfl⟩ rfl rfl ?_
    refine w_getj (k := 110) (j := 31) (idx := 507) (pc' := 100) yfxe_13_507 ykfa_110_31 ⟨by decide +kernel, rfl⟩ ?_
    refine z_lload (i := 6) (q := 0) (pc' := 102) ⟨by decide +kernel, rfl⟩ rfl ?_
    refine z_lcmp (pc' := 103) ⟨by decide +kernel, rfl⟩ ?_
    refine z_if_ne (off := 7) (tgt := 110) (pc' := 106) ⟨by decide +kernel, by decide, rfl⟩ (fun h2 => ?_) (fun h2 => ?_)
    · have h := h.2 (qk_ne_t rfl rfl h2)
      refine z_iconst (i := 0) (v := 0) (pc' := 111) ⟨by decide +kernel, rfl⟩ (by decide) ?_
      exact z_iret (ty := .boolean) rfl (by rfl) (by decide +kernel) (k _ _ h)
    · have h := h.1 (qk_ne_f rfl rfl h2)
      refine z_iconst (i := 1) (v := 1) (pc' := 107) ⟨by decide +kernel, rfl⟩ (by decide) ?_
      refine z_goto (off := 4) (tgt := 111) (pc' := 110) ⟨by decide +kernel, by decide, rfl⟩ ?_
      exact z_iret (ty := .boolean) rfl (by rfl) (by decide +kernel) (k _ _ h)
noncomputable def W_M_isWord_b64 (x5 : Int32) (y0 : Int64) (σ : zS) (Q : Int32 → zS → Prop) : Prop := ((Int32.toInt x5) = 0 → (W_M_isWord_b86  y0 σ Q)) ∧ (¬ (Int32.toInt x5) = 0 → ((-9223372036854775808 ≤ (Int64.toInt y0) * 256 ∧ (Int64.toInt y0) * 256 ≤ 9223372036854775807) ∧ ∀ r2 : Int64, r2.toInt = (Int64.toInt y0) * 256 → (∀ r3 : Int64, r3.toInt = (Int32.toInt x5) → ((-9223372036854775808 ≤ (Int64.toInt r2) + (Int64.toInt r3) ∧ (Int64.toInt r2) + (Int64.toInt r3) ≤ 9223372036854775807) ∧ ∀ r4 : Int64, r4.toInt = (Int64.toInt r2) + (Int64.toInt r3) → (W_M_isWord_b86  r4 σ Q)))))
theorem sb_M_isWord_64 {E : xV} {σ : zS} {K : zKt} {x5 : Int32} {y0 : Int64} {Q : Int32 → zS → Prop} (k : ∀ v s, Q v s → K (some (.int v)) s) (h : W_M_isWord_b64 x5 y0 σ Q) : Wz E Y_M_isWord 64 [(0, .ref 110), (5, .int x5)] [.long y0] σ K := by
  unfold W_M_isWord_b64 at h
  refine z_lstore (i := 6) (pc' := 66) ⟨by decide +kernel, rfl⟩ (by decide) rfl ?_
  show Wz E Y_M_isWord 66 [(6, .long y0), (0, .ref 110), (5, .int x5)] [] σ K
  refine z_iload (i := 5) (q := 2) (pc' := 68) ⟨by decide +kernel, rfl⟩ rfl ?_
  refine z_if_ne (off := 8) (tgt := 76) (pc' := 71) ⟨by decide +kernel, by decide, rfl⟩ (fun h1 => ?_) (fun h1 => ?_)
  · have h := h.2 (qi_ne_t rfl (by decide) h1)
    refine z_lload (i := 6) (q := 0) (pc' := 78) ⟨by decide +kernel, rfl⟩ rfl ?_
    refine z_ldc2 (i := 520) (v := 256) (pc' := 81) ⟨by decide +kernel, rfl⟩ k_11_116 ?_
    refine z_lmul (pc' := 82) ⟨by decide +kernel, rfl⟩ ?_
    obtain ⟨hb2, h⟩ := h
    have h := h (y0 * 256) (iml_ok rfl (by decide) hb2)
    generalize (y0 * 256) = r2 at h ⊢
    refine z_iload (i := 5) (q := 2) (pc' := 84) ⟨by decide +kernel, rfl⟩ rfl ?_
    refine z_i2l (v := (Int32.toInt64 x5)) (pc' := 85) ⟨by decide +kernel, rfl⟩ rfl ?_
    have h := h (Int32.toInt64 x5) (Int32.toInt_toInt64 _)
    generalize (Int32.toInt64 x5) = r3 at h ⊢
    refine z_ladd (pc' := 86) ⟨by decide +kernel, rfl⟩ ?_
    obtain ⟨hb4, h⟩ := h
    have h := h (r2 + r3) (ial_ok rfl rfl hb4)
    generalize (r2 + r3) = r4 at h ⊢
    refine z_sub [1] rfl ?_
    exact sb_M_isWord_86  k h
  · have h := h.1 (qi_ne_f rfl (by decide) h1)
    refine z_lload (i := 6) (q := 0) (pc' := 73) ⟨by decide +kernel, rfl⟩ rfl ?_
    refine z_goto (off := 13) (tgt := 86) (pc' := 76) ⟨by decide +kernel, by decide, rfl⟩ ?_
    refine z_sub [1] rfl ?_
    exact sb_M_isWord_86  k h
noncomputable def W_M_isWord_b42 (x4 : Int32) (x5 : Int32) (y0 : Int64) (σ : zS) (Q : Int32 → zS → Prop) : Prop := ((Int32.toInt x4) = 0 → (W_M_isWord_b64  x5 y0 σ Q)) ∧ (¬ (Int32.toInt x4) = 0 → ((-9223372036854775808 ≤ (Int64.toInt y0) * 256 ∧ (Int64.toInt y0) * 256 ≤ 9223372036854775807) ∧ ∀ r2 : Int64, r2.toInt = (Int64.toInt y0) * 256 → (∀ r3 : Int64, r3.toInt = (Int32.toInt x4) → ((-9223372036854775808 ≤ (Int64.toInt r2) + (Int64.toInt r3) ∧ (Int64.toInt r2) + (Int64.toInt r3) ≤ 9223372036854775807) ∧ ∀ r4 : Int64, r4.toInt = (Int64.toInt r2) + (Int64.toInt r3) → (W_M_isWord_b64  x5 r4 σ Q)))))
theorem sb_M_isWord_42 {E : xV} {σ : zS} {K : zKt} {x4 : Int32} {x5 : Int32} {y0 : Int64} {Q : Int32 → zS → Prop} (k : ∀ v s, Q v s → K (some (.int v)) s) (h : W_M_isWord_b42 x4 x5 y0 σ Q) : Wz E Y_M_isWord 42 [(0, .ref 110), (4, .int x4), (5, .int x5)] [.long y0] σ K := by
  unfold W_M_isWord_b42 at h
  refine z_lstore (i := 6) (pc' := 44) ⟨by decide +kernel, rfl⟩ (by decide) rfl ?_
  show Wz E Y_M_isWord 44 [(6, .long y0), (0, .ref 110), (4, .int x4), (5, .int x5)] [] σ K
  refine z_iload (i := 4) (q := 2) (pc' := 46) ⟨by decide +kernel, rfl⟩ rfl ?_
  refine z_if_ne (off := 8) (tgt := 54) (pc' := 49) ⟨by decide +kernel, by decide, rfl⟩ (fun h1 => ?_) (fun h1 => ?_)
  · have h := h.2 (qi_ne_t rfl (by decide) h1)
    refine z_lload (i := 6) (q := 0) (pc' := 56) ⟨by decide +kernel, rfl⟩ rfl ?_
    refine z_ldc2 (i := 520) (v := 256) (pc' := 59) ⟨by decide +kernel, rfl⟩ k_11_116 ?_
    refine z_lmul (pc' := 60) ⟨by decide +kernel, rfl⟩ ?_
    obtain ⟨hb2, h⟩ := h
    have h := h (y0 * 256) (iml_ok rfl (by decide) hb2)
    generalize (y0 * 256) = r2 at h ⊢
    refine z_iload (i := 4) (q := 2) (pc' := 62) ⟨by decide +kernel, rfl⟩ rfl ?_
    refine z_i2l (v := (Int32.toInt64 x4)) (pc' := 63) ⟨by decide +kernel, rfl⟩ rfl ?_
    have h := h (Int32.toInt64 x4) (Int32.toInt_toInt64 _)
    generalize (Int32.toInt64 x4) = r3 at h ⊢
    refine z_ladd (pc' := 64) ⟨by decide +kernel, rfl⟩ ?_
    obtain ⟨hb4, h⟩ := h
    have h := h (r2 + r3) (ial_ok rfl rfl hb4)
    generalize (r2 + r3) = r4 at h ⊢
    refine z_sub [1, 3] rfl ?_
    exact sb_M_isWord_64  k h
  · have h := h.1 (qi_ne_f rfl (by decide) h1)
    refine z_lload (i := 6) (q := 0) (pc' := 51) ⟨by decide +kernel, rfl⟩ rfl ?_
    refine z_goto (off := 13) (tgt := 64) (pc' := 54) ⟨by decide +kernel, by decide, rfl⟩ ?_
    refine z_sub [1, 3] rfl ?_
    exact sb_M_isWord_64  k h
noncomputable def W_M_isWord_b22 (x3 : Int32) (x4 : Int32) (x5 : Int32) (y0 : Int64) (σ : zS) (Q : Int32 → zS → Prop) : Prop := ((Int32.toInt x3) = 0 → (W_M_isWord_b42  x4 x5 y0 σ Q)) ∧ (¬ (Int32.toInt x3) = 0 → ((-9223372036854775808 ≤ (Int64.toInt y0) * 256 ∧ (Int64.toInt y0) * 256 ≤ 9223372036854775807) ∧ ∀ r2 : Int64, r2.toInt = (Int64.toInt y0) * 256 → (∀ r3 : Int64, r3.toInt = (Int32.toInt x3) → ((-9223372036854775808 ≤ (Int64.toInt r2) + (Int64.toInt r3) ∧ (Int64.toInt r2) + (Int64.toInt r3) ≤ 9223372036854775807) ∧ ∀ r4 : Int64, r4.toInt = (Int64.toInt r2) + (Int64.toInt r3) → (W_M_isWord_b42  x4 x5 r4 σ Q)))))
theorem sb_M_isWord_22 {E : xV} {σ : zS} {K : zKt} {x3 : Int32} {x4 : Int32} {x5 : Int32} {y0 : Int64} {Q : Int32 → zS → Prop} (k : ∀ v s, Q v s → K (some (.int v)) s) (h : W_M_isWord_b22 x3 x4 x5 y0 σ Q) : Wz E Y_M_isWord 22 [(0, .ref 110), (3, .int x3), (4, .int x4), (5, .int x5)] [.long y0] σ K := by
  unfold W_M_isWord_b22 at h
  refine z_lstore (i := 6) (pc' := 24) ⟨by decide +kernel, rfl⟩ (by decide) rfl ?_
  show Wz E Y_M_isWord 24 [(6, .long y0), (0, .ref 110), (3, .int x3), (4, .int x4), (5, .int x5)] [] σ K
  refine z_iload_n (f := 3) (i := 3) (q := 2) (pc' := 25) ⟨by decide +kernel, rfl⟩ rfl rfl ?_
  refine z_if_ne (off := 8) (tgt := 33) (pc' := 28) ⟨by decide +kernel, by decide, rfl⟩ (fun h1 => ?_) (fun h1 => ?_)
  · have h := h.2 (qi_ne_t rfl (by decide) h1)
    refine z_lload (i := 6) (q := 0) (pc' := 35) ⟨by decide +kernel, rfl⟩ rfl ?_
    refine z_ldc2 (i := 520) (v := 256) (pc' := 38) ⟨by decide +kernel, rfl⟩ k_11_116 ?_
    refine z_lmul (pc' := 39) ⟨by decide +kernel, rfl⟩ ?_
    obtain ⟨hb2, h⟩ := h
    have h := h (y0 * 256) (iml_ok rfl (by decide) hb2)
    generalize (y0 * 256) = r2 at h ⊢
    refine z_iload_n (f := 3) (i := 3) (q := 2) (pc' := 40) ⟨by decide +kernel, rfl⟩ rfl rfl ?_
    refine z_i2l (v := (Int32.toInt64 x3)) (pc' := 41) ⟨by decide +kernel, rfl⟩ rfl ?_
    have h := h (Int32.toInt64 x3) (Int32.toInt_toInt64 _)
    generalize (Int32.toInt64 x3) = r3 at h ⊢
    refine z_ladd (pc' := 42) ⟨by decide +kernel, rfl⟩ ?_
    obtain ⟨hb4, h⟩ := h
    have h := h (r2 + r3) (ial_ok rfl rfl hb4)
    generalize (r2 + r3) = r4 at h ⊢
    refine z_sub [1, 3, 4] rfl ?_
    exact sb_M_isWord_42  k h
  · have h := h.1 (qi_ne_f rfl (by decide) h1)
    refine z_lload (i := 6) (q := 0) (pc' := 30) ⟨by decide +kernel, rfl⟩ rfl ?_
    refine z_goto (off := 12) (tgt := 42) (pc' := 33) ⟨by decide +kernel, by decide, rfl⟩ ?_
    refine z_sub [1, 3, 4] rfl ?_
    exact sb_M_isWord_42  k h
noncomputable def W_M_isWord (a1 : Int32) (a2 : Int32) (a3 : Int32) (a4 : Int32) (a5 : Int32) (σ : zS) (Q : Int32 → zS → Prop) : Prop := ∀ r1 : Int64, r1.toInt = (Int32.toInt a1) → (((Int32.toInt a2) = 0 → (W_M_isWord_b22  a3 a4 a5 r1 σ Q)) ∧ (¬ (Int32.toInt a2) = 0 → ((-9223372036854775808 ≤ (Int64.toInt r1) * 256 ∧ (Int64.toInt r1) * 256 ≤ 9223372036854775807) ∧ ∀ r3 : Int64, r3.toInt = (Int64.toInt r1) * 256 → (∀ r4 : Int64, r4.toInt = (Int32.toInt a2) → ((-9223372036854775808 ≤ (Int64.toInt r3) + (Int64.toInt r4) ∧ (Int64.toInt r3) + (Int64.toInt r4) ≤ 9223372036854775807) ∧ ∀ r5 : Int64, r5.toInt = (Int64.toInt r3) + (Int64.toInt r4) → (W_M_isWord_b22  a3 a4 a5 r5 σ Q))))))
theorem sF_M_isWord {E : xV} {σ : zS} {K : zKt} {a1 : Int32} {a2 : Int32} {a3 : Int32} {a4 : Int32} {a5 : Int32} {Q : Int32 → zS → Prop} (h : W_M_isWord a1 a2 a3 a4 a5 σ Q) (k : ∀ v s, Q v s → K (some (.int v)) s) : Cz E Y_M_isWord [.ref 110, .int a1, .int a2, .int a3, .int a4, .int a5] σ K := by
  refine z_entry (by decide) (fun a => by rw [sl_len]; exact Nat.le_of_ble_eq_true rfl) rfl ?_
  unfold W_M_isWord at h
  refine z_iload_n (f := 1) (i := 1) (q := 1) (pc' := 1) ⟨by decide +kernel, rfl⟩ rfl rfl ?_
  refine z_i2l (v := (Int32.toInt64 a1)) (pc' := 2) ⟨by decide +kernel, rfl⟩ rfl ?_
  have h := h (Int32.toInt64 a1) (Int32.toInt_toInt64 _)
  generalize (Int32.toInt64 a1) = r1 at h ⊢
  refine z_lstore (i := 6) (pc' := 4) ⟨by decide +kernel, rfl⟩ (by decide) rfl ?_
  show Wz E Y_M_isWord 4 [(6, .long r1), (0, .ref 110), (1, .int a1), (2, .int a2), (3, .int a3), (4, .int a4), (5, .int a5)] [] σ K
  refine z_iload_n (f := 2) (i := 2) (q := 3) (pc' := 5) ⟨by decide +kernel, rfl⟩ rfl rfl ?_
  refine z_if_ne (off := 8) (tgt := 13) (pc' := 8) ⟨by decide +kernel, by decide, rfl⟩ (fun h2 => ?_) (fun h2 => ?_)
  · have h := h.2 (qi_ne_t rfl (by decide) h2)
    refine z_lload (i := 6) (q := 0) (pc' := 15) ⟨by decide +kernel, rfl⟩ rfl ?_
    refine z_ldc2 (i := 520) (v := 256) (pc' := 18) ⟨by decide +kernel, rfl⟩ k_11_116 ?_
    refine z_lmul (pc' := 19) ⟨by decide +kernel, rfl⟩ ?_
    obtain ⟨hb3, h⟩ := h
    have h := h (r1 * 256) (iml_ok rfl (by decide) hb3)
    generalize (r1 * 256) = r3 at h ⊢
    refine z_iload_n (f := 2) (i := 2) (q := 3) (pc' := 20) ⟨by decide +kernel, rfl⟩ rfl rfl ?_
    refine z_i2l (v := (Int32.toInt64 a2)) (pc' := 21) ⟨by decide +kernel, rfl⟩ rfl ?_
    have h := h (Int32.toInt64 a2) (Int32.toInt_toInt64 _)
    generalize (Int32.toInt64 a2) = r4 at h ⊢
    refine z_ladd (pc' := 22) ⟨by decide +kernel, rfl⟩ ?_
    obtain ⟨hb5, h⟩ := h
    have h := h (r3 + r4) (ial_ok rfl rfl hb5)
    generalize (r3 + r4) = r5 at h ⊢
    refine z_sub [1, 4, 5, 6] rfl ?_
    exact sb_M_isWord_22  k h
  · have h := h.1 (qi_ne_f rfl (by decide) h2)
    refine z_lload (i := 6) (q := 0) (pc' := 10) ⟨by decide +kernel, rfl⟩ rfl ?_
    refine z_goto (off := 12) (tgt := 22) (pc' := 13) ⟨by decide +kernel, by decide, rfl⟩ ?_
    refine z_sub [1, 4, 5, 6] rfl ?_
    exact sb_M_isWord_22  k h
noncomputable def WB_M_numbered_55 (F55 : Int32 → Int32 → zS → (Int32 → zS → Prop) → Prop) (x3 : Int32) (x4 : Int32) (σ : zS) (Q : Int32 → zS → Prop) : Prop := ((Int32.toInt (σ.1 110 27)) ≤ (Int32.toInt x4) → (Q x3 σ)) ∧ (¬ (Int32.toInt (σ.1 110 27)) ≤ (Int32.toInt x4) → (W_M_byteAt x4 σ (fun v2 σ2 => W_M_isFigure v2 σ2 (fun v3 σ3 => ((Int32.toInt v3) = 0 → (Q (-1) σ3)) ∧ (¬ (Int32.toInt v3) = 0 → ((-2147483648 ≤ (Int32.toInt x3) * 10 ∧ (Int32.toInt x3) * 10 ≤ 2147483647) ∧ ∀ r5 : Int32, r5.toInt = (Int32.toInt x3) * 10 → (W_M_byteAt x4 σ3 (fun v6 σ6 => (-2147483648 ≤ (Int32.toInt r5) + (Int32.toInt v6) ∧ (Int32.toInt r5) + (Int32.toInt v6) ≤ 2147483647) ∧ ∀ r7 : Int32, r7.toInt = (Int32.toInt r5) + (Int32.toInt v6) → ((-2147483648 ≤ (Int32.toInt r7) - 48 ∧ (Int32.toInt r7) - 48 ≤ 2147483647) ∧ ∀ r8 : Int32, r8.toInt = (Int32.toInt r7) - 48 → ((-2147483648 ≤ (Int32.toInt x4) + 1 ∧ (Int32.toInt x4) + 1 ≤ 2147483647) ∧ ∀ r9 : Int32, r9.toInt = (Int32.toInt x4) + 1 → (F55 r8 r9 σ6 Q)))))))))))
theorem sh_M_numbered_55 {E : xV} {σ : zS} {K : zKt} {F55 : Int32 → Int32 → zS → (Int32 → zS → Prop) → Prop} {x3 : Int32} {x4 : Int32} {Q : Int32 → zS → Prop} (f55 : ∀ (x3 : Int32) (x4 : Int32) (σ : zS), F55 x3 x4 σ Q → Wz E Y_M_numbered 55 [(0, .ref 110), (3, .int x3), (4, .int x4)] [] σ K) (k : ∀ v s, Q v s → K (some (.int v)) s) (h : WB_M_numbered_55 F55 x3 x4 σ Q) : Wz E Y_M_numbered 55 [(0, .ref 110), (3, .int x3), (4, .int x4)] [] σ K := by
  unfold WB_M_numbered_55 at h
  refine z_iload (i := 4) (q := 2) (pc' := 57) ⟨by decide +kernel, rfl⟩ rfl ?_
  refine z_aload_n (f := 0) (i := 0) (q := 0) (pc' := 58) ⟨by decide +kernel, rfl⟩ rfl rfl ?_
  refine w_geti (k := 110) (j := 27) (idx := 498) (pc' := 61) yfxe_13_498 ykfa_110_27 ⟨by decide +kernel, rfl⟩ ?_
  refine z_icmp_ge (off := 38) (tgt := 99) (pc' := 64) ⟨by decide +kernel, by decide, rfl⟩ (fun h1 => ?_) (fun h1 => ?_)
  · have h := h.1 (qi_ge_t rfl rfl h1)
    refine z_iload_n (f := 3) (i := 3) (q := 1) (pc' := 100) ⟨by decide +kernel, rfl⟩ rfl rfl ?_
    exact z_iret (ty := .int) rfl (by rfl) (by decide +kernel) (k _ _ h)
  · have h := h.2 (qi_ge_f rfl rfl h1)
    refine z_aload_n (f := 0) (i := 0) (q := 0) (pc' := 65) ⟨by decide +kernel, rfl⟩ rfl rfl ?_
    refine z_iload (i := 4) (q := 2) (pc' := 67) ⟨by decide +kernel, rfl⟩ rfl ?_
    refine w_invV (Z := Y_M_byteAt) (idx := 501) (kb := 110) (As := [.int x4]) (rest := []) (pc' := 70) cl_13_501 rfl ⟨rfl, rfl⟩ ykfa_110_0 rfl ⟨⟨by decide, by decide⟩, rfl, rfl⟩ ⟨by decide +kernel, rfl⟩ rfl rfl (Nat.le_of_ble_eq_true rfl) rfl rfl ?_
    refine sF_M_byteAt h (fun v2 σ2 h => ?_)
    show Wz E Y_M_numbered 70 [(0, .ref 110), (3, .int x3), (4, .int x4)] [.int v2] σ2 K
    refine w_invS (Z := Y_M_isFigure) (idx := 517) (As := [.int v2]) (rest := []) (pc' := 73) cl_13_517 rfl ⟨rfl, rfl⟩ ⟨⟨by decide, by decide⟩, rfl, rfl⟩ ⟨by decide +kernel, rfl⟩ rfl rfl (Nat.le_of_ble_eq_true rfl) rfl rfl ?_
    refine sF_M_isFigure h (fun v3 σ3 h => ?_)
    show Wz E Y_M_numbered 73 [(0, .ref 110), (3, .int x3), (4, .int x4)] [.int v3] σ3 K
    refine z_if_ne (off := 5) (tgt := 78) (pc' := 76) ⟨by decide +kernel, by decide, rfl⟩ (fun h4 => ?_) (fun h4 => ?_)
    · have h := h.2 (qi_ne_t rfl (by decide) h4)
      refine z_iload_n (f := 3) (i := 3) (q := 1) (pc' := 79) ⟨by decide +kernel, rfl⟩ rfl rfl ?_
      refine z_bipush (i := 10) (v := 10) (pc' := 81) ⟨by decide +kernel, rfl⟩ (by decide) ?_
      refine z_imul (pc' := 82) ⟨by decide +kernel, rfl⟩ ?_
      obtain ⟨hb5, h⟩ := h
      have h := h (x3 * 10) (im_ok rfl (by decide) hb5)
      generalize (x3 * 10) = r5 at h ⊢
      refine z_aload_n (f := 0) (i := 0) (q := 0) (pc' := 83) ⟨by decide +kernel, rfl⟩ rfl rfl ?_
      refine z_iload (i := 4) (q := 2) (pc' := 85) ⟨by decide +kernel, rfl⟩ rfl ?_
      refine w_invV (Z := Y_M_byteAt) (idx := 501) (kb := 110) (As := [.int x4]) (rest := [.int r5]) (pc' := 88) cl_13_501 rfl ⟨rfl, rfl⟩ ykfa_110_0 rfl ⟨⟨by decide, by decide⟩, rfl, rfl⟩ ⟨by decide +kernel, rfl⟩ rfl rfl (Nat.le_of_ble_eq_true rfl) rfl rfl ?_
      refine sF_M_byteAt h (fun v6 σ6 h => ?_)
      show Wz E Y_M_numbered 88 [(0, .ref 110), (3, .int x3), (4, .int x4)] [.int v6, .int r5] σ6 K
      refine z_iadd (pc' := 89) ⟨by decide +kernel, rfl⟩ ?_
      obtain ⟨hb7, h⟩ := h
      have h := h (r5 + v6) (ia_ok rfl rfl hb7)
      generalize (r5 + v6) = r7 at h ⊢
      refine z_bipush (i := 48) (v := 48) (pc' := 91) ⟨by decide +kernel, rfl⟩ (by decide) ?_
      refine z_isub (pc' := 92) ⟨by decide +kernel, rfl⟩ ?_
      obtain ⟨hb8, h⟩ := h
      have h := h (r7 - 48) (is_ok rfl (by decide) hb8)
      generalize (r7 - 48) = r8 at h ⊢
      refine z_istore_n (f := 3) (i := 3) (pc' := 93) ⟨by decide +kernel, rfl⟩ rfl (by decide) rfl ?_
      show Wz E Y_M_numbered 93 [(3, .int r8), (0, .ref 110), (4, .int x4)] [] σ6 K
      refine z_iinc (i := 4) (z := 1) (q := 2) (pc' := 96) ⟨by decide +kernel, rfl⟩ rfl rfl (by decide) rfl ?_
      show Wz E Y_M_numbered 96 [(4, .int (x4 + Int32.ofInt 1)), (3, .int r8), (0, .ref 110)] [] σ6 K
      obtain ⟨hb9, h⟩ := h
      have h := h (x4 + Int32.ofInt 1) (ia_ok rfl (by decide) hb9)
      generalize (x4 + Int32.ofInt 1) = r9 at h ⊢
      refine z_goto (off := (-41)) (tgt := 55) (pc' := 99) ⟨by decide +kernel, by decide, rfl⟩ ?_
      refine z_sub [2, 1, 0] rfl ?_
      exact f55 _ _ _ h
    · have h := h.1 (qi_ne_f rfl (by decide) h4)
      refine z_iconst (i := (-1)) (v := (-1)) (pc' := 77) ⟨by decide +kernel, rfl⟩ (by decide) ?_
      exact z_iret (ty := .int) rfl (by rfl) (by decide +kernel) (k _ _ h)
noncomputable def WL_M_numbered : Nat → (Int32 → Int32 → zS → (Int32 → zS → Prop) → Prop)
  | 0 => fun _ _ _ _ => False
  | n + 1 => WB_M_numbered_55 (WL_M_numbered n)
theorem wl_M_numbered_55 {n : Nat} {x3 : Int32} {x4 : Int32} {σ : zS} {Q : Int32 → zS → Prop} (h : WB_M_numbered_55 (WL_M_numbered n) x3 x4 σ Q) : (WL_M_numbered (n + 1)) x3 x4 σ Q := h
theorem sl_M_numbered {E : xV} {K : zKt} {Q : Int32 → zS → Prop} (k : ∀ v s, Q v s → K (some (.int v)) s) : ∀ n, (∀ (x3 : Int32) (x4 : Int32) (σ : zS), (WL_M_numbered n) x3 x4 σ Q → Wz E Y_M_numbered 55 [(0, .ref 110), (3, .int x3), (4, .int x4)] [] σ K)
  | 0 => fun _ _ _ h => h.elim
  | n + 1 => by
    have i := sl_M_numbered (E := E)  k n
    exact fun _ _ _ h => sh_M_numbered_55 i k h
noncomputable def W_M_numbered (a1 : Int32) (σ : zS) (Q : Int32 → zS → Prop) : Prop := (-2147483648 ≤ (Int32.toInt (σ.1 110 27)) - (Int32.toInt (σ.1 110 29)) ∧ (Int32.toInt (σ.1 110 27)) - (Int32.toInt (σ.1 110 29)) ≤ 2147483647) ∧ ∀ r1 : Int32, r1.toInt = (Int32.toInt (σ.1 110 27)) - (Int32.toInt (σ.1 110 29)) → ((-2147483648 ≤ (Int32.toInt r1) - 1 ∧ (Int32.toInt r1) - 1 ≤ 2147483647) ∧ ∀ r2 : Int32, r2.toInt = (Int32.toInt r1) - 1 → (((Int32.toInt (σ.1 110 28)) = 1 → (W_M_byteAt (σ.1 110 29) σ (fun v4 σ4 => ((Int32.toInt v4) = (Int32.toInt a1) → (((Int32.toInt r2) < 1 → (Q (-1) σ4)) ∧ (¬ (Int32.toInt r2) < 1 → (((Int32.toInt r2) ≤ 9 → ((-2147483648 ≤ (Int32.toInt (σ4.1 110 29)) + 1 ∧ (Int32.toInt (σ4.1 110 29)) + 1 ≤ 2147483647) ∧ ∀ r8 : Int32, r8.toInt = (Int32.toInt (σ4.1 110 29)) + 1 → ((WL_M_numbered fuF) 0 r8 σ4 Q))) ∧ (¬ (Int32.toInt r2) ≤ 9 → (Q (-1) σ4)))))) ∧ (¬ (Int32.toInt v4) = (Int32.toInt a1) → (Q (-1) σ4))))) ∧ (¬ (Int32.toInt (σ.1 110 28)) = 1 → (Q (-1) σ))))
theorem sF_M_numbered {E : xV} {σ : zS} {K : zKt} {a1 : Int32} {Q : Int32 → zS → Prop} (h : W_M_numbered a1 σ Q) (k : ∀ v s, Q v s → K (some (.int v)) s) : Cz E Y_M_numbered [.ref 110, .int a1] σ K := by
  refine z_entry (by decide) (fun a => by rw [sl_len]; exact Nat.le_of_ble_eq_true rfl) rfl ?_
  unfold W_M_numbered at h
  refine z_aload_n (f := 0) (i := 0) (q := 0) (pc' := 1) ⟨by decide +kernel, rfl⟩ rfl rfl ?_
  refine w_geti (k := 110) (j := 27) (idx := 498) (pc' := 4) yfxe_13_498 ykfa_110_27 ⟨by decide +kernel, rfl⟩ ?_
  refine z_aload_n (f := 0) (i := 0) (q := 0) (pc' := 5) ⟨by decide +kernel, rfl⟩ rfl rfl ?_
  refine w_geti (k := 110) (j := 29) (idx := 504) (pc' := 8) yfxe_13_504 ykfa_110_29 ⟨by decide +kernel, rfl⟩ ?_
  refine z_isub (pc' := 9) ⟨by decide +kernel, rfl⟩ ?_
  obtain ⟨hb1, h⟩ := h
  have h := h ((σ.1 110 27) - (σ.1 110 29)) (is_ok rfl rfl hb1)
  generalize ((σ.1 110 27) - (σ.1 110 29)) = r1 at h ⊢
  refine z_iconst (i := 1) (v := 1) (pc' := 10) ⟨by decide +kernel, rfl⟩ (by decide) ?_
  refine z_isub (pc' := 11) ⟨by decide +kernel, rfl⟩ ?_
  obtain ⟨hb2, h⟩ := h
  have h := h (r1 - 1) (is_ok rfl (by decide) hb2)
  generalize (r1 - 1) = r2 at h ⊢
  refine z_istore_n (f := 2) (i := 2) (pc' := 12) ⟨by decide +kernel, rfl⟩ rfl (by decide) rfl ?_
  show Wz E Y_M_numbered 12 [(2, .int r2), (0, .ref 110), (1, .int a1)] [] σ K
  refine z_aload_n (f := 0) (i := 0) (q := 1) (pc' := 13) ⟨by decide +kernel, rfl⟩ rfl rfl ?_
  refine w_geti (k := 110) (j := 28) (idx := 511) (pc' := 16) yfxe_13_511 ykfa_110_28 ⟨by decide +kernel, rfl⟩ ?_
  refine z_iconst (i := 1) (v := 1) (pc' := 17) ⟨by decide +kernel, rfl⟩ (by decide) ?_
  refine z_icmp_ne (off := 26) (tgt := 43) (pc' := 20) ⟨by decide +kernel, by decide, rfl⟩ (fun h3 => ?_) (fun h3 => ?_)
  · have h := h.2 (qi_ne_t rfl (by decide) h3)
    refine z_iconst (i := (-1)) (v := (-1)) (pc' := 44) ⟨by decide +kernel, rfl⟩ (by decide) ?_
    exact z_iret (ty := .int) rfl (by rfl) (by decide +kernel) (k _ _ h)
  · have h := h.1 (qi_ne_f rfl (by decide) h3)
    refine z_aload_n (f := 0) (i := 0) (q := 1) (pc' := 21) ⟨by decide +kernel, rfl⟩ rfl rfl ?_
    refine z_aload_n (f := 0) (i := 0) (q := 1) (pc' := 22) ⟨by decide +kernel, rfl⟩ rfl rfl ?_
    refine w_geti (k := 110) (j := 29) (idx := 504) (pc' := 25) yfxe_13_504 ykfa_110_29 ⟨by decide +kernel, rfl⟩ ?_
    refine w_invV (Z := Y_M_byteAt) (idx := 501) (kb := 110) (As := [.int (σ.1 110 29)]) (rest := []) (pc' := 28) cl_13_501 rfl ⟨rfl, rfl⟩ ykfa_110_0 rfl ⟨⟨by decide, by decide⟩, rfl, rfl⟩ ⟨by decide +kernel, rfl⟩ rfl rfl (Nat.le_of_ble_eq_true rfl) rfl rfl ?_
    refine sF_M_byteAt h (fun v4 σ4 h => ?_)
    show Wz E Y_M_numbered 28 [(2, .int r2), (0, .ref 110), (1, .int a1)] [.int v4] σ4 K
    refine z_iload_n (f := 1) (i := 1) (q := 2) (pc' := 29) ⟨by decide +kernel, rfl⟩ rfl rfl ?_
    refine z_icmp_ne (off := 14) (tgt := 43) (pc' := 32) ⟨by decide +kernel, by decide, rfl⟩ (fun h5 => ?_) (fun h5 => ?_)
    · have h := h.2 (qi_ne_t rfl rfl h5)
      refine z_iconst (i := (-1)) (v := (-1)) (pc' := 44) ⟨by decide +kernel, rfl⟩ (by decide) ?_
      exact z_iret (ty := .int) rfl (by rfl) (by decide +kernel) (k _ _ h)
    · have h := h.1 (qi_ne_f rfl rfl h5)
      refine z_iload_n (f := 2) (i := 2) (q := 0) (pc' := 33) ⟨by decide +kernel, rfl⟩ rfl rfl ?_
      refine z_iconst (i := 1) (v := 1) (pc' := 34) ⟨by decide +kernel, rfl⟩ (by decide) ?_
      refine z_icmp_lt (off := 9) (tgt := 43) (pc' := 37) ⟨by decide +kernel, by decide, rfl⟩ (fun h6 => ?_) (fun h6 => ?_)
      · have h := h.1 (qi_lt_t rfl (by decide) h6)
        refine z_iconst (i := (-1)) (v := (-1)) (pc' := 44) ⟨by decide +kernel, rfl⟩ (by decide) ?_
        exact z_iret (ty := .int) rfl (by rfl) (by decide +kernel) (k _ _ h)
      · have h := h.2 (qi_lt_f rfl (by decide) h6)
        refine z_iload_n (f := 2) (i := 2) (q := 0) (pc' := 38) ⟨by decide +kernel, rfl⟩ rfl rfl ?_
        refine z_bipush (i := 9) (v := 9) (pc' := 40) ⟨by decide +kernel, rfl⟩ (by decide) ?_
        refine z_icmp_le (off := 5) (tgt := 45) (pc' := 43) ⟨by decide +kernel, by decide, rfl⟩ (fun h7 => ?_) (fun h7 => ?_)
        · have h := h.1 (qi_le_t rfl (by decide) h7)
          refine z_iconst (i := 0) (v := 0) (pc' := 46) ⟨by decide +kernel, rfl⟩ (by decide) ?_
          refine z_istore_n (f := 3) (i := 3) (pc' := 47) ⟨by decide +kernel, rfl⟩ rfl (by decide) rfl ?_
          show Wz E Y_M_numbered 47 [(3, .int 0), (2, .int r2), (0, .ref 110), (1, .int a1)] [] σ4 K
          refine z_aload_n (f := 0) (i := 0) (q := 2) (pc' := 48) ⟨by decide +kernel, rfl⟩ rfl rfl ?_
          refine w_geti (k := 110) (j := 29) (idx := 504) (pc' := 51) yfxe_13_504 ykfa_110_29 ⟨by decide +kernel, rfl⟩ ?_
          refine z_iconst (i := 1) (v := 1) (pc' := 52) ⟨by decide +kernel, rfl⟩ (by decide) ?_
          refine z_iadd (pc' := 53) ⟨by decide +kernel, rfl⟩ ?_
          obtain ⟨hb8, h⟩ := h
          have h := h ((σ4.1 110 29) + 1) (ia_ok rfl (by decide) hb8)
          generalize ((σ4.1 110 29) + 1) = r8 at h ⊢
          refine z_istore (i := 4) (pc' := 55) ⟨by decide +kernel, rfl⟩ (by decide) rfl ?_
          show Wz E Y_M_numbered 55 [(4, .int r8), (3, .int 0), (2, .int r2), (0, .ref 110), (1, .int a1)] [] σ4 K
          refine z_sub [3, 1, 0] rfl ?_
          exact (sl_M_numbered k fuF) _ _ _ h
        · have h := h.2 (qi_le_f rfl (by decide) h7)
          refine z_iconst (i := (-1)) (v := (-1)) (pc' := 44) ⟨by decide +kernel, rfl⟩ (by decide) ?_
          exact z_iret (ty := .int) rfl (by rfl) (by decide +kernel) (k _ _ h)
noncomputable def W_M_emit (a1 : Int32) (a2 : Int64) (σ : zS) (Q : Unit → zS → Prop) : Prop := ∃ n1 : Nat, Int32.toInt (σ.1 110 46) = (n1 : Int) ∧ n1 < 10400 ∧ (∀ σ2 : zS, zI σ 141 n1 a1 = σ2 → (∃ n3 : Nat, Int32.toInt (σ2.1 110 46) = (n3 : Int) ∧ n3 < 10400 ∧ (∀ σ4 : zS, zJ σ2 142 n3 a2 = σ4 → ((-2147483648 ≤ (Int32.toInt (σ4.1 110 46)) + 1 ∧ (Int32.toInt (σ4.1 110 46)) + 1 ≤ 2147483647) ∧ ∀ r5 : Int32, r5.toInt = (Int32.toInt (σ4.1 110 46)) + 1 → (∀ σ6 : zS, zI σ4 110 46 r5 = σ6 → (Q () σ6))))))
theorem sF_M_emit {E : xV} {σ : zS} {K : zKt} {a1 : Int32} {a2 : Int64} {Q : Unit → zS → Prop} (h : W_M_emit a1 a2 σ Q) (k : ∀ v s, Q v s → K none s) : Cz E Y_M_emit [.ref 110, .int a1, .long a2] σ K := by
  refine z_entry (by decide) (fun a => by rw [sl_len]; exact Nat.le_of_ble_eq_true rfl) rfl ?_
  unfold W_M_emit at h
  refine z_aload_n (f := 0) (i := 0) (q := 0) (pc' := 1) ⟨by decide +kernel, rfl⟩ rfl rfl ?_
  refine w_getr (k := 110) (j := 44) (idx := 106) (pc' := 4) yfxe_13_106 ykfa_110_44 ⟨by decide +kernel, rfl⟩ ?_
  refine z_aload_n (f := 0) (i := 0) (q := 0) (pc' := 5) ⟨by decide +kernel, rfl⟩ rfl rfl ?_
  refine w_geti (k := 110) (j := 46) (idx := 543) (pc' := 8) yfxe_13_543 ykfa_110_46 ⟨by decide +kernel, rfl⟩ ?_
  refine z_iload_n (f := 1) (i := 1) (q := 1) (pc' := 9) ⟨by decide +kernel, rfl⟩ rfl rfl ?_
  obtain ⟨n1, hi1, hz1, h⟩ := h
  refine w_iast (k := 141) (n := n1) (pc' := 10) ykaa_141 (hi1) (hz1) ⟨by decide +kernel, rfl⟩ ?_
  generalize hs2 : zI σ 141 n1 a1 = σ2
  have h := h σ2 hs2
  refine z_aload_n (f := 0) (i := 0) (q := 0) (pc' := 11) ⟨by decide +kernel, rfl⟩ rfl rfl ?_
  refine w_getr (k := 110) (j := 45) (idx := 109) (pc' := 14) yfxe_13_109 ykfa_110_45 ⟨by decide +kernel, rfl⟩ ?_
  refine z_aload_n (f := 0) (i := 0) (q := 0) (pc' := 15) ⟨by decide +kernel, rfl⟩ rfl rfl ?_
  refine w_geti (k := 110) (j := 46) (idx := 543) (pc' := 18) yfxe_13_543 ykfa_110_46 ⟨by decide +kernel, rfl⟩ ?_
  refine z_lload_n (f := 2) (i := 2) (q := 2) (pc' := 19) ⟨by decide +kernel, rfl⟩ rfl rfl ?_
  obtain ⟨n3, hi3, hz3, h⟩ := h
  refine w_last (k := 142) (n := n3) (pc' := 20) ykaa_142 (hi3) (hz3) ⟨by decide +kernel, rfl⟩ ?_
  generalize hs4 : zJ σ2 142 n3 a2 = σ4
  have h := h σ4 hs4
  refine z_aload_n (f := 0) (i := 0) (q := 0) (pc' := 21) ⟨by decide +kernel, rfl⟩ rfl rfl ?_
  refine z_dupr (pc' := 22) ⟨by decide +kernel, rfl⟩ ?_
  refine w_geti (k := 110) (j := 46) (idx := 543) (pc' := 25) yfxe_13_543 ykfa_110_46 ⟨by decide +kernel, rfl⟩ ?_
  refine z_iconst (i := 1) (v := 1) (pc' := 26) ⟨by decide +kernel, rfl⟩ (by decide) ?_
  refine z_iadd (pc' := 27) ⟨by decide +kernel, rfl⟩ ?_
  obtain ⟨hb5, h⟩ := h
  have h := h ((σ4.1 110 46) + 1) (ia_ok rfl (by decide) hb5)
  generalize ((σ4.1 110 46) + 1) = r5 at h ⊢
  refine w_puti (k := 110) (j := 46) (idx := 543) (pc' := 30) yfxi_13_543 ykfa_110_46 ⟨by decide +kernel, rfl⟩ ?_
  generalize hs6 : zI σ4 110 46 r5 = σ6
  have h := h σ6 hs6
  exact z_vret rfl (by decide +kernel) (k _ _ h)
noncomputable def WB_M_reduce_0 (F0 : Int32 → zS → (Unit → zS → Prop) → Prop) (x1 : Int32) (σ : zS) (Q : Unit → zS → Prop) : Prop := ∃ n1 : Nat, Int32.toInt (σ.1 110 52) = (n1 : Int) ∧ n1 < 24 ∧ (((Int32.toInt (σ.1 110 56)) ≤ (Int32.toInt (σ.1 146 n1)) → (Q () σ)) ∧ (¬ (Int32.toInt (σ.1 110 56)) ≤ (Int32.toInt (σ.1 146 n1)) → ((-2147483648 ≤ (Int32.toInt (σ.1 110 56)) - 1 ∧ (Int32.toInt (σ.1 110 56)) - 1 ≤ 2147483647) ∧ ∀ r3 : Int32, r3.toInt = (Int32.toInt (σ.1 110 56)) - 1 → (∃ n4 : Nat, Int32.toInt r3 = (n4 : Int) ∧ n4 < 1300 ∧ (((Int32.toInt (σ.1 149 n4)) < (Int32.toInt x1) → (Q () σ)) ∧ (¬ (Int32.toInt (σ.1 149 n4)) < (Int32.toInt x1) → ((-2147483648 ≤ (Int32.toInt (σ.1 110 56)) - 1 ∧ (Int32.toInt (σ.1 110 56)) - 1 ≤ 2147483647) ∧ ∀ r6 : Int32, r6.toInt = (Int32.toInt (σ.1 110 56)) - 1 → (∀ σ7 : zS, zI σ 110 56 r6 = σ7 → (∃ n8 : Nat, Int32.toInt (σ7.1 110 56) = (n8 : Int) ∧ n8 < 1300 ∧ (∀ r9 : Int64, r9.toInt = (Int32.toInt (σ7.1 150 n8)) → (W_M_emit (σ7.1 148 n8) r9 σ7 (fun _ σ10 => ∃ n11 : Nat, Int32.toInt (σ10.1 110 56) = (n11 : Int) ∧ n11 < 1300 ∧ (((Int32.toInt (σ10.1 148 n11)) = 7 → ((-2147483648 ≤ (Int32.toInt (σ10.1 110 57)) - 1 ∧ (Int32.toInt (σ10.1 110 57)) - 1 ≤ 2147483647) ∧ ∀ r13 : Int32, r13.toInt = (Int32.toInt (σ10.1 110 57)) - 1 → (∀ σ14 : zS, zI σ10 110 57 r13 = σ14 → (F0 x1 σ14 Q)))) ∧ (¬ (Int32.toInt (σ10.1 148 n11)) = 7 → (((Int32.toInt (σ10.1 148 n11)) = 16 → ((-2147483648 ≤ (Int32.toInt (σ10.1 110 57)) - 1 ∧ (Int32.toInt (σ10.1 110 57)) - 1 ≤ 2147483647) ∧ ∀ r18 : Int32, r18.toInt = (Int32.toInt (σ10.1 110 57)) - 1 → (∀ σ19 : zS, zI σ10 110 57 r18 = σ19 → (F0 x1 σ19 Q)))) ∧ (¬ (Int32.toInt (σ10.1 148 n11)) = 16 → ((-2147483648 ≤ (Int32.toInt (σ10.1 110 57)) - 0 ∧ (Int32.toInt (σ10.1 110 57)) - 0 ≤ 2147483647) ∧ ∀ r16 : Int32, r16.toInt = (Int32.toInt (σ10.1 110 57)) - 0 → (∀ σ17 : zS, zI σ10 110 57 r16 = σ17 → (F0 x1 σ17 Q)))))))))))))))))))
theorem sh_M_reduce_0 {E : xV} {σ : zS} {K : zKt} {F0 : Int32 → zS → (Unit → zS → Prop) → Prop} {x1 : Int32} {Q : Unit → zS → Prop} (f0 : ∀ (x1 : Int32) (σ : zS), F0 x1 σ Q → Wz E Y_M_reduce 0 [(0, .ref 110), (1, .int x1)] [] σ K) (k : ∀ v s, Q v s → K none s) (h : WB_M_reduce_0 F0 x1 σ Q) : Wz E Y_M_reduce 0 [(0, .ref 110), (1, .int x1)] [] σ K := by
  unfold WB_M_reduce_0 at h
  refine z_aload_n (f := 0) (i := 0) (q := 0) (pc' := 1) ⟨by decide +kernel, rfl⟩ rfl rfl ?_
  refine w_geti (k := 110) (j := 56) (idx := 546) (pc' := 4) yfxe_13_546 ykfa_110_56 ⟨by decide +kernel, rfl⟩ ?_
  refine z_aload_n (f := 0) (i := 0) (q := 0) (pc' := 5) ⟨by decide +kernel, rfl⟩ rfl rfl ?_
  refine w_getr (k := 110) (j := 50) (idx := 121) (pc' := 8) yfxe_13_121 ykfa_110_50 ⟨by decide +kernel, rfl⟩ ?_
  refine z_aload_n (f := 0) (i := 0) (q := 0) (pc' := 9) ⟨by decide +kernel, rfl⟩ rfl rfl ?_
  refine w_geti (k := 110) (j := 52) (idx := 549) (pc' := 12) yfxe_13_549 ykfa_110_52 ⟨by decide +kernel, rfl⟩ ?_
  obtain ⟨n1, hi1, hz1, h⟩ := h
  refine w_iald (k := 146) (n := n1) (pc' := 13) ykaa_146 (hi1) (hz1) ⟨by decide +kernel, rfl⟩ ?_
  refine z_icmp_le (off := 96) (tgt := 109) (pc' := 16) ⟨by decide +kernel, by decide, rfl⟩ (fun h2 => ?_) (fun h2 => ?_)
  · have h := h.1 (qi_le_t rfl rfl h2)
    exact z_vret rfl (by decide +kernel) (k _ _ h)
  · have h := h.2 (qi_le_f rfl rfl h2)
    refine z_aload_n (f := 0) (i := 0) (q := 0) (pc' := 17) ⟨by decide +kernel, rfl⟩ rfl rfl ?_
    refine w_getr (k := 110) (j := 54) (idx := 130) (pc' := 20) yfxe_13_130 ykfa_110_54 ⟨by decide +kernel, rfl⟩ ?_
    refine z_aload_n (f := 0) (i := 0) (q := 0) (pc' := 21) ⟨by decide +kernel, rfl⟩ rfl rfl ?_
    refine w_geti (k := 110) (j := 56) (idx := 546) (pc' := 24) yfxe_13_546 ykfa_110_56 ⟨by decide +kernel, rfl⟩ ?_
    refine z_iconst (i := 1) (v := 1) (pc' := 25) ⟨by decide +kernel, rfl⟩ (by decide) ?_
    refine z_isub (pc' := 26) ⟨by decide +kernel, rfl⟩ ?_
    obtain ⟨hb3, h⟩ := h
    have h := h ((σ.1 110 56) - 1) (is_ok rfl (by decide) hb3)
    generalize ((σ.1 110 56) - 1) = r3 at h ⊢
    obtain ⟨n4, hi4, hz4, h⟩ := h
    refine w_iald (k := 149) (n := n4) (pc' := 27) ykaa_149 (hi4) (hz4) ⟨by decide +kernel, rfl⟩ ?_
    refine z_iload_n (f := 1) (i := 1) (q := 1) (pc' := 28) ⟨by decide +kernel, rfl⟩ rfl rfl ?_
    refine z_icmp_lt (off := 81) (tgt := 109) (pc' := 31) ⟨by decide +kernel, by decide, rfl⟩ (fun h5 => ?_) (fun h5 => ?_)
    · have h := h.1 (qi_lt_t rfl rfl h5)
      exact z_vret rfl (by decide +kernel) (k _ _ h)
    · have h := h.2 (qi_lt_f rfl rfl h5)
      refine z_aload_n (f := 0) (i := 0) (q := 0) (pc' := 32) ⟨by decide +kernel, rfl⟩ rfl rfl ?_
      refine z_dupr (pc' := 33) ⟨by decide +kernel, rfl⟩ ?_
      refine w_geti (k := 110) (j := 56) (idx := 546) (pc' := 36) yfxe_13_546 ykfa_110_56 ⟨by decide +kernel, rfl⟩ ?_
      refine z_iconst (i := 1) (v := 1) (pc' := 37) ⟨by decide +kernel, rfl⟩ (by decide) ?_
      refine z_isub (pc' := 38) ⟨by decide +kernel, rfl⟩ ?_
      obtain ⟨hb6, h⟩ := h
      have h := h ((σ.1 110 56) - 1) (is_ok rfl (by decide) hb6)
      generalize ((σ.1 110 56) - 1) = r6 at h ⊢
      refine w_puti (k := 110) (j := 56) (idx := 546) (pc' := 41) yfxi_13_546 ykfa_110_56 ⟨by decide +kernel, rfl⟩ ?_
      generalize hs7 : zI σ 110 56 r6 = σ7
      have h := h σ7 hs7
      refine z_aload_n (f := 0) (i := 0) (q := 0) (pc' := 42) ⟨by decide +kernel, rfl⟩ rfl rfl ?_
      refine z_aload_n (f := 0) (i := 0) (q := 0) (pc' := 43) ⟨by decide +kernel, rfl⟩ rfl rfl ?_
      refine w_getr (k := 110) (j := 53) (idx := 127) (pc' := 46) yfxe_13_127 ykfa_110_53 ⟨by decide +kernel, rfl⟩ ?_
      refine z_aload_n (f := 0) (i := 0) (q := 0) (pc' := 47) ⟨by decide +kernel, rfl⟩ rfl rfl ?_
      refine w_geti (k := 110) (j := 56) (idx := 546) (pc' := 50) yfxe_13_546 ykfa_110_56 ⟨by decide +kernel, rfl⟩ ?_
      obtain ⟨n8, hi8, hz8, h⟩ := h
      refine w_iald (k := 148) (n := n8) (pc' := 51) ykaa_148 (hi8) (hz8) ⟨by decide +kernel, rfl⟩ ?_
      refine z_aload_n (f := 0) (i := 0) (q := 0) (pc' := 52) ⟨by decide +kernel, rfl⟩ rfl rfl ?_
      refine w_getr (k := 110) (j := 55) (idx := 133) (pc' := 55) yfxe_13_133 ykfa_110_55 ⟨by decide +kernel, rfl⟩ ?_
      refine z_aload_n (f := 0) (i := 0) (q := 0) (pc' := 56) ⟨by decide +kernel, rfl⟩ rfl rfl ?_
      refine w_geti (k := 110) (j := 56) (idx := 546) (pc' := 59) yfxe_13_546 ykfa_110_56 ⟨by decide +kernel, rfl⟩ ?_
      refine w_iald (k := 150) (n := n8) (pc' := 60) ykaa_150 (hi8) (hz8) ⟨by decide +kernel, rfl⟩ ?_
      refine z_i2l (v := (Int32.toInt64 (σ7.1 150 n8))) (pc' := 61) ⟨by decide +kernel, rfl⟩ rfl ?_
      have h := h (Int32.toInt64 (σ7.1 150 n8)) (Int32.toInt_toInt64 _)
      generalize (Int32.toInt64 (σ7.1 150 n8)) = r9 at h ⊢
      refine w_invV (Z := Y_M_emit) (idx := 552) (kb := 110) (As := [.int (σ7.1 148 n8), .long r9]) (rest := []) (pc' := 64) cl_13_552 rfl ⟨rfl, rfl⟩ ykfa_110_0 rfl ⟨⟨by decide, by decide⟩, rfl, rfl⟩ ⟨by decide +kernel, rfl⟩ rfl rfl (Nat.le_of_ble_eq_true rfl) rfl rfl ?_
      refine sF_M_emit h (fun _ σ10 h => ?_)
      show Wz E Y_M_reduce 64 [(0, .ref 110), (1, .int x1)] [] σ10 K
      refine z_aload_n (f := 0) (i := 0) (q := 0) (pc' := 65) ⟨by decide +kernel, rfl⟩ rfl rfl ?_
      refine z_dupr (pc' := 66) ⟨by decide +kernel, rfl⟩ ?_
      refine w_geti (k := 110) (j := 57) (idx := 556) (pc' := 69) yfxe_13_556 ykfa_110_57 ⟨by decide +kernel, rfl⟩ ?_
      refine z_aload_n (f := 0) (i := 0) (q := 0) (pc' := 70) ⟨by decide +kernel, rfl⟩ rfl rfl ?_
      refine w_getr (k := 110) (j := 53) (idx := 127) (pc' := 73) yfxe_13_127 ykfa_110_53 ⟨by decide +kernel, rfl⟩ ?_
      refine z_aload_n (f := 0) (i := 0) (q := 0) (pc' := 74) ⟨by decide +kernel, rfl⟩ rfl rfl ?_
      refine w_geti (k := 110) (j := 56) (idx := 546) (pc' := 77) yfxe_13_546 ykfa_110_56 ⟨by decide +kernel, rfl⟩ ?_
      obtain ⟨n11, hi11, hz11, h⟩ := h
      refine w_iald (k := 148) (n := n11) (pc' := 78) ykaa_148 (hi11) (hz11) ⟨by decide +kernel, rfl⟩ ?_
      refine z_bipush (i := 7) (v := 7) (pc' := 80) ⟨by decide +kernel, rfl⟩ (by decide) ?_
      refine z_icmp_eq (off := 17) (tgt := 97) (pc' := 83) ⟨by decide +kernel, by decide, rfl⟩ (fun h12 => ?_) (fun h12 => ?_)
      · have h := h.1 (qi_eq_t rfl (by decide) h12)
        refine z_iconst (i := 1) (v := 1) (pc' := 98) ⟨by decide +kernel, rfl⟩ (by decide) ?_
        refine z_goto (off := 4) (tgt := 102) (pc' := 101) ⟨by decide +kernel, by decide, rfl⟩ ?_
        refine z_isub (pc' := 103) ⟨by decide +kernel, rfl⟩ ?_
        obtain ⟨hb13, h⟩ := h
        have h := h ((σ10.1 110 57) - 1) (is_ok rfl (by decide) hb13)
        generalize ((σ10.1 110 57) - 1) = r13 at h ⊢
        refine w_puti (k := 110) (j := 57) (idx := 556) (pc' := 106) yfxi_13_556 ykfa_110_57 ⟨by decide +kernel, rfl⟩ ?_
        generalize hs14 : zI σ10 110 57 r13 = σ14
        have h := h σ14 hs14
        refine z_goto (off := (-106)) (tgt := 0) (pc' := 109) ⟨by decide +kernel, by decide, rfl⟩ ?_
        refine z_sub [0, 1] rfl ?_
        exact f0 _ _ h
      · have h := h.2 (qi_eq_f rfl (by decide) h12)
        refine z_aload_n (f := 0) (i := 0) (q := 0) (pc' := 84) ⟨by decide +kernel, rfl⟩ rfl rfl ?_
        refine w_getr (k := 110) (j := 53) (idx := 127) (pc' := 87) yfxe_13_127 ykfa_110_53 ⟨by decide +kernel, rfl⟩ ?_
        refine z_aload_n (f := 0) (i := 0) (q := 0) (pc' := 88) ⟨by decide +kernel, rfl⟩ rfl rfl ?_
        refine w_geti (k := 110) (j := 56) (idx := 546) (pc' := 91) yfxe_13_546 ykfa_110_56 ⟨by decide +kernel, rfl⟩ ?_
        refine w_iald (k := 148) (n := n11) (pc' := 92) ykaa_148 (hi11) (hz11) ⟨by decide +kernel, rfl⟩ ?_
        refine z_bipush (i := 16) (v := 16) (pc' := 94) ⟨by decide +kernel, rfl⟩ (by decide) ?_
        refine z_icmp_ne (off := 7) (tgt := 101) (pc' := 97) ⟨by decide +kernel, by decide, rfl⟩ (fun h15 => ?_) (fun h15 => ?_)
        · have h := h.2 (qi_ne_t rfl (by decide) h15)
          refine z_iconst (i := 0) (v := 0) (pc' := 102) ⟨by decide +kernel, rfl⟩ (by decide) ?_
          refine z_isub (pc' := 103) ⟨by decide +kernel, rfl⟩ ?_
          obtain ⟨hb16, h⟩ := h
          have h := h ((σ10.1 110 57) - 0) (is_ok rfl (by decide) hb16)
          generalize ((σ10.1 110 57) - 0) = r16 at h ⊢
          refine w_puti (k := 110) (j := 57) (idx := 556) (pc' := 106) yfxi_13_556 ykfa_110_57 ⟨by decide +kernel, rfl⟩ ?_
          generalize hs17 : zI σ10 110 57 r16 = σ17
          have h := h σ17 hs17
          refine z_goto (off := (-106)) (tgt := 0) (pc' := 109) ⟨by decide +kernel, by decide, rfl⟩ ?_
          refine z_sub [0, 1] rfl ?_
          exact f0 _ _ h
        · have h := h.1 (qi_ne_f rfl (by decide) h15)
          refine z_iconst (i := 1) (v := 1) (pc' := 98) ⟨by decide +kernel, rfl⟩ (by decide) ?_
          refine z_goto (off := 4) (tgt := 102) (pc' := 101) ⟨by decide +kernel, by decide, rfl⟩ ?_
          refine z_isub (pc' := 103) ⟨by decide +kernel, rfl⟩ ?_
          obtain ⟨hb18, h⟩ := h
          have h := h ((σ10.1 110 57) - 1) (is_ok rfl (by decide) hb18)
          generalize ((σ10.1 110 57) - 1) = r18 at h ⊢
          refine w_puti (k := 110) (j := 57) (idx := 556) (pc' := 106) yfxi_13_556 ykfa_110_57 ⟨by decide +kernel, rfl⟩ ?_
          generalize hs19 : zI σ10 110 57 r18 = σ19
          have h := h σ19 hs19
          refine z_goto (off := (-106)) (tgt := 0) (pc' := 109) ⟨by decide +kernel, by decide, rfl⟩ ?_
          refine z_sub [0, 1] rfl ?_
          exact f0 _ _ h
noncomputable def WL_M_reduce : Nat → (Int32 → zS → (Unit → zS → Prop) → Prop)
  | 0 => fun _ _ _ => False
  | n + 1 => WB_M_reduce_0 (WL_M_reduce n)
theorem wl_M_reduce_0 {n : Nat} {x1 : Int32} {σ : zS} {Q : Unit → zS → Prop} (h : WB_M_reduce_0 (WL_M_reduce n) x1 σ Q) : (WL_M_reduce (n + 1)) x1 σ Q := h
theorem sl_M_reduce {E : xV} {K : zKt} {Q : Unit → zS → Prop} (k : ∀ v s, Q v s → K none s) : ∀ n, (∀ (x1 : Int32) (σ : zS), (WL_M_reduce n) x1 σ Q → Wz E Y_M_reduce 0 [(0, .ref 110), (1, .int x1)] [] σ K)
  | 0 => fun _ _ h => h.elim
  | n + 1 => by
    have i := sl_M_reduce (E := E)  k n
    exact fun _ _ h => sh_M_reduce_0 i k h
noncomputable def W_M_reduce (a1 : Int32) (σ : zS) (Q : Unit → zS → Prop) : Prop := (WL_M_reduce fuF) a1 σ Q
theorem sF_M_reduce {E : xV} {σ : zS} {K : zKt} {a1 : Int32} {Q : Unit → zS → Prop} (h : W_M_reduce a1 σ Q) (k : ∀ v s, Q v s → K none s) : Cz E Y_M_reduce [.ref 110, .int a1] σ K := by
  refine z_entry (by decide) (fun a => by rw [sl_len]; exact Nat.le_of_ble_eq_true rfl) rfl ?_
  unfold W_M_reduce at h
  refine z_sub [0, 1] rfl ?_
  exact (sl_M_reduce k fuF) _ _ h
noncomputable def W_M_holdBack (a1 : Int32) (a2 : Int32) (a3 : Int32) (σ : zS) (Q : Unit → zS → Prop) : Prop := ∃ n1 : Nat, Int32.toInt (σ.1 110 56) = (n1 : Int) ∧ n1 < 1300 ∧ (∀ σ2 : zS, zI σ 148 n1 a1 = σ2 → (∃ n3 : Nat, Int32.toInt (σ2.1 110 56) = (n3 : Int) ∧ n3 < 1300 ∧ (∀ σ4 : zS, zI σ2 149 n3 a2 = σ4 → (∃ n5 : Nat, Int32.toInt (σ4.1 110 56) = (n5 : Int) ∧ n5 < 1300 ∧ (∀ σ6 : zS, zI σ4 150 n5 a3 = σ6 → ((-2147483648 ≤ (Int32.toInt (σ6.1 110 56)) + 1 ∧ (Int32.toInt (σ6.1 110 56)) + 1 ≤ 2147483647) ∧ ∀ r7 : Int32, r7.toInt = (Int32.toInt (σ6.1 110 56)) + 1 → (∀ σ8 : zS, zI σ6 110 56 r7 = σ8 → (Q () σ8))))))))
theorem sF_M_holdBack {E : xV} {σ : zS} {K : zKt} {a1 : Int32} {a2 : Int32} {a3 : Int32} {Q : Unit → zS → Prop} (h : W_M_holdBack a1 a2 a3 σ Q) (k : ∀ v s, Q v s → K none s) : Cz E Y_M_holdBack [.ref 110, .int a1, .int a2, .int a3] σ K := by
  refine z_entry (by decide) (fun a => by rw [sl_len]; exact Nat.le_of_ble_eq_true rfl) rfl ?_
  unfold W_M_holdBack at h
  refine z_aload_n (f := 0) (i := 0) (q := 0) (pc' := 1) ⟨by decide +kernel, rfl⟩ rfl rfl ?_
  refine w_getr (k := 110) (j := 53) (idx := 127) (pc' := 4) yfxe_13_127 ykfa_110_53 ⟨by decide +kernel, rfl⟩ ?_
  refine z_aload_n (f := 0) (i := 0) (q := 0) (pc' := 5) ⟨by decide +kernel, rfl⟩ rfl rfl ?_
  refine w_geti (k := 110) (j := 56) (idx := 546) (pc' := 8) yfxe_13_546 ykfa_110_56 ⟨by decide +kernel, rfl⟩ ?_
  refine z_iload_n (f := 1) (i := 1) (q := 1) (pc' := 9) ⟨by decide +kernel, rfl⟩ rfl rfl ?_
  obtain ⟨n1, hi1, hz1, h⟩ := h
  refine w_iast (k := 148) (n := n1) (pc' := 10) ykaa_148 (hi1) (hz1) ⟨by decide +kernel, rfl⟩ ?_
  generalize hs2 : zI σ 148 n1 a1 = σ2
  have h := h σ2 hs2
  refine z_aload_n (f := 0) (i := 0) (q := 0) (pc' := 11) ⟨by decide +kernel, rfl⟩ rfl rfl ?_
  refine w_getr (k := 110) (j := 54) (idx := 130) (pc' := 14) yfxe_13_130 ykfa_110_54 ⟨by decide +kernel, rfl⟩ ?_
  refine z_aload_n (f := 0) (i := 0) (q := 0) (pc' := 15) ⟨by decide +kernel, rfl⟩ rfl rfl ?_
  refine w_geti (k := 110) (j := 56) (idx := 546) (pc' := 18) yfxe_13_546 ykfa_110_56 ⟨by decide +kernel, rfl⟩ ?_
  refine z_iload_n (f := 2) (i := 2) (q := 2) (pc' := 19) ⟨by decide +kernel, rfl⟩ rfl rfl ?_
  obtain ⟨n3, hi3, hz3, h⟩ := h
  refine w_iast (k := 149) (n := n3) (pc' := 20) ykaa_149 (hi3) (hz3) ⟨by decide +kernel, rfl⟩ ?_
  generalize hs4 : zI σ2 149 n3 a2 = σ4
  have h := h σ4 hs4
  refine z_aload_n (f := 0) (i := 0) (q := 0) (pc' := 21) ⟨by decide +kernel, rfl⟩ rfl rfl ?_
  refine w_getr (k := 110) (j := 55) (idx := 133) (pc' := 24) yfxe_13_133 ykfa_110_55 ⟨by decide +kernel, rfl⟩ ?_
  refine z_aload_n (f := 0) (i := 0) (q := 0) (pc' := 25) ⟨by decide +kernel, rfl⟩ rfl rfl ?_
  refine w_geti (k := 110) (j := 56) (idx := 546) (pc' := 28) yfxe_13_546 ykfa_110_56 ⟨by decide +kernel, rfl⟩ ?_
  refine z_iload_n (f := 3) (i := 3) (q := 3) (pc' := 29) ⟨by decide +kernel, rfl⟩ rfl rfl ?_
  obtain ⟨n5, hi5, hz5, h⟩ := h
  refine w_iast (k := 150) (n := n5) (pc' := 30) ykaa_150 (hi5) (hz5) ⟨by decide +kernel, rfl⟩ ?_
  generalize hs6 : zI σ4 150 n5 a3 = σ6
  have h := h σ6 hs6
  refine z_aload_n (f := 0) (i := 0) (q := 0) (pc' := 31) ⟨by decide +kernel, rfl⟩ rfl rfl ?_
  refine z_dupr (pc' := 32) ⟨by decide +kernel, rfl⟩ ?_
  refine w_geti (k := 110) (j := 56) (idx := 546) (pc' := 35) yfxe_13_546 ykfa_110_56 ⟨by decide +kernel, rfl⟩ ?_
  refine z_iconst (i := 1) (v := 1) (pc' := 36) ⟨by decide +kernel, rfl⟩ (by decide) ?_
  refine z_iadd (pc' := 37) ⟨by decide +kernel, rfl⟩ ?_
  obtain ⟨hb7, h⟩ := h
  have h := h ((σ6.1 110 56) + 1) (ia_ok rfl (by decide) hb7)
  generalize ((σ6.1 110 56) + 1) = r7 at h ⊢
  refine w_puti (k := 110) (j := 56) (idx := 546) (pc' := 40) yfxi_13_546 ykfa_110_56 ⟨by decide +kernel, rfl⟩ ?_
  generalize hs8 : zI σ6 110 56 r7 = σ8
  have h := h σ8 hs8
  exact z_vret rfl (by decide +kernel) (k _ _ h)
noncomputable def W_M_deeper  (σ : zS) (Q : Int32 → zS → Prop) : Prop := ((Int32.toInt (σ.1 110 57)) = 20 → (∀ σ4 : zS, zI σ 110 58 (σ.1 110 29) = σ4 → (Q 0 σ4))) ∧ (¬ (Int32.toInt (σ.1 110 57)) = 20 → ((-2147483648 ≤ (Int32.toInt (σ.1 110 57)) + 1 ∧ (Int32.toInt (σ.1 110 57)) + 1 ≤ 2147483647) ∧ ∀ r2 : Int32, r2.toInt = (Int32.toInt (σ.1 110 57)) + 1 → (∀ σ3 : zS, zI σ 110 57 r2 = σ3 → (Q 1 σ3))))
theorem sF_M_deeper {E : xV} {σ : zS} {K : zKt}  {Q : Int32 → zS → Prop} (h : W_M_deeper  σ Q) (k : ∀ v s, Q v s → K (some (.int v)) s) : Cz E Y_M_deeper [.ref 110] σ K := by
  refine z_entry (by decide) (fun a => by rw [sl_len]; exact Nat.le_of_ble_eq_true rfl) rfl ?_
  unfold W_M_deeper at h
  refine z_aload_n (f := 0) (i := 0) (q := 0) (pc' := 1) ⟨by decide +kernel, rfl⟩ rfl rfl ?_
  refine w_geti (k := 110) (j := 57) (idx := 556) (pc' := 4) yfxe_13_556 ykfa_110_57 ⟨by decide +kernel, rfl⟩ ?_
  refine z_bipush (i := 20) (v := 20) (pc' := 6) ⟨by decide +kernel, rfl⟩ (by decide) ?_
  refine z_icmp_ne (off := 13) (tgt := 19) (pc' := 9) ⟨by decide +kernel, by decide, rfl⟩ (fun h1 => ?_) (fun h1 => ?_)
  · have h := h.2 (qi_ne_t rfl (by decide) h1)
    refine z_aload_n (f := 0) (i := 0) (q := 0) (pc' := 20) ⟨by decide +kernel, rfl⟩ rfl rfl ?_
    refine z_dupr (pc' := 21) ⟨by decide +kernel, rfl⟩ ?_
    refine w_geti (k := 110) (j := 57) (idx := 556) (pc' := 24) yfxe_13_556 ykfa_110_57 ⟨by decide +kernel, rfl⟩ ?_
    refine z_iconst (i := 1) (v := 1) (pc' := 25) ⟨by decide +kernel, rfl⟩ (by decide) ?_
    refine z_iadd (pc' := 26) ⟨by decide +kernel, rfl⟩ ?_
    obtain ⟨hb2, h⟩ := h
    have h := h ((σ.1 110 57) + 1) (ia_ok rfl (by decide) hb2)
    generalize ((σ.1 110 57) + 1) = r2 at h ⊢
    refine w_puti (k := 110) (j := 57) (idx := 556) (pc' := 29) yfxi_13_556 ykfa_110_57 ⟨by decide +kernel, rfl⟩ ?_
    generalize hs3 : zI σ 110 57 r2 = σ3
    have h := h σ3 hs3
    refine z_iconst (i := 1) (v := 1) (pc' := 30) ⟨by decide +kernel, rfl⟩ (by decide) ?_
    exact z_iret (ty := .boolean) rfl (by rfl) (by decide +kernel) (k _ _ h)
  · have h := h.1 (qi_ne_f rfl (by decide) h1)
    refine z_aload_n (f := 0) (i := 0) (q := 0) (pc' := 10) ⟨by decide +kernel, rfl⟩ rfl rfl ?_
    refine z_aload_n (f := 0) (i := 0) (q := 0) (pc' := 11) ⟨by decide +kernel, rfl⟩ rfl rfl ?_
    refine w_geti (k := 110) (j := 29) (idx := 504) (pc' := 14) yfxe_13_504 ykfa_110_29 ⟨by decide +kernel, rfl⟩ ?_
    refine w_puti (k := 110) (j := 58) (idx := 559) (pc' := 17) yfxi_13_559 ykfa_110_58 ⟨by decide +kernel, rfl⟩ ?_
    generalize hs4 : zI σ 110 58 (σ.1 110 29) = σ4
    have h := h σ4 hs4
    refine z_iconst (i := 0) (v := 0) (pc' := 18) ⟨by decide +kernel, rfl⟩ (by decide) ?_
    exact z_iret (ty := .boolean) rfl (by rfl) (by decide +kernel) (k _ _ h)
noncomputable def W_M_opens (a1 : Int32) (a2 : Int32) (σ : zS) (Q : Unit → zS → Prop) : Prop := (-2147483648 ≤ (Int32.toInt (σ.1 110 52)) + 1 ∧ (Int32.toInt (σ.1 110 52)) + 1 ≤ 2147483647) ∧ ∀ r1 : Int32, r1.toInt = (Int32.toInt (σ.1 110 52)) + 1 → (∀ σ2 : zS, zI σ 110 52 r1 = σ2 → (∃ n3 : Nat, Int32.toInt (σ2.1 110 52) = (n3 : Int) ∧ n3 < 24 ∧ (∀ σ4 : zS, zI σ2 143 n3 a1 = σ4 → (∃ n5 : Nat, Int32.toInt (σ4.1 110 52) = (n5 : Int) ∧ n5 < 24 ∧ (∀ σ6 : zS, zI σ4 144 n5 0 = σ6 → (∃ n7 : Nat, Int32.toInt (σ6.1 110 52) = (n7 : Int) ∧ n7 < 24 ∧ (∀ σ8 : zS, zI σ6 145 n7 0 = σ8 → (∃ n9 : Nat, Int32.toInt (σ8.1 110 52) = (n9 : Int) ∧ n9 < 24 ∧ (∀ σ10 : zS, zI σ8 146 n9 (σ8.1 110 56) = σ10 → (∃ n11 : Nat, Int32.toInt (σ10.1 110 52) = (n11 : Int) ∧ n11 < 24 ∧ (∀ σ12 : zS, zI σ10 147 n11 a2 = σ12 → (Q () σ12))))))))))))
theorem sF_M_opens {E : xV} {σ : zS} {K : zKt} {a1 : Int32} {a2 : Int32} {Q : Unit → zS → Prop} (h : W_M_opens a1 a2 σ Q) (k : ∀ v s, Q v s → K none s) : Cz E Y_M_opens [.ref 110, .int a1, .int a2] σ K := by
  refine z_entry (by decide) (fun a => by rw [sl_len]; exact Nat.le_of_ble_eq_true rfl) rfl ?_
  unfold W_M_opens at h
  refine z_aload_n (f := 0) (i := 0) (q := 0) (pc' := 1) ⟨by decide +kernel, rfl⟩ rfl rfl ?_
  refine z_dupr (pc' := 2) ⟨by decide +kernel, rfl⟩ ?_
  refine w_geti (k := 110) (j := 52) (idx := 549) (pc' := 5) yfxe_13_549 ykfa_110_52 ⟨by decide +kernel, rfl⟩ ?_
  refine z_iconst (i := 1) (v := 1) (pc' := 6) ⟨by decide +kernel, rfl⟩ (by decide) ?_
  refine z_iadd (pc' := 7) ⟨by decide +kernel, rfl⟩ ?_
  obtain ⟨hb1, h⟩ := h
  have h := h ((σ.1 110 52) + 1) (ia_ok rfl (by decide) hb1)
  generalize ((σ.1 110 52) + 1) = r1 at h ⊢
  refine w_puti (k := 110) (j := 52) (idx := 549) (pc' := 10) yfxi_13_549 ykfa_110_52 ⟨by decide +kernel, rfl⟩ ?_
  generalize hs2 : zI σ 110 52 r1 = σ2
  have h := h σ2 hs2
  refine z_aload_n (f := 0) (i := 0) (q := 0) (pc' := 11) ⟨by decide +kernel, rfl⟩ rfl rfl ?_
  refine w_getr (k := 110) (j := 47) (idx := 112) (pc' := 14) yfxe_13_112 ykfa_110_47 ⟨by decide +kernel, rfl⟩ ?_
  refine z_aload_n (f := 0) (i := 0) (q := 0) (pc' := 15) ⟨by decide +kernel, rfl⟩ rfl rfl ?_
  refine w_geti (k := 110) (j := 52) (idx := 549) (pc' := 18) yfxe_13_549 ykfa_110_52 ⟨by decide +kernel, rfl⟩ ?_
  refine z_iload_n (f := 1) (i := 1) (q := 1) (pc' := 19) ⟨by decide +kernel, rfl⟩ rfl rfl ?_
  obtain ⟨n3, hi3, hz3, h⟩ := h
  refine w_iast (k := 143) (n := n3) (pc' := 20) ykaa_143 (hi3) (hz3) ⟨by decide +kernel, rfl⟩ ?_
  generalize hs4 : zI σ2 143 n3 a1 = σ4
  have h := h σ4 hs4
  refine z_aload_n (f := 0) (i := 0) (q := 0) (pc' := 21) ⟨by decide +kernel, rfl⟩ rfl rfl ?_
  refine w_getr (k := 110) (j := 48) (idx := 115) (pc' := 24) yfxe_13_115 ykfa_110_48 ⟨by decide +kernel, rfl⟩ ?_
  refine z_aload_n (f := 0) (i := 0) (q := 0) (pc' := 25) ⟨by decide +kernel, rfl⟩ rfl rfl ?_
  refine w_geti (k := 110) (j := 52) (idx := 549) (pc' := 28) yfxe_13_549 ykfa_110_52 ⟨by decide +kernel, rfl⟩ ?_
  refine z_iconst (i := 0) (v := 0) (pc' := 29) ⟨by decide +kernel, rfl⟩ (by decide) ?_
  obtain ⟨n5, hi5, hz5, h⟩ := h
  refine w_zast (k := 144) (n := n5) (pc' := 30) ykaa_144 (hi5) (hz5) (by decide) ⟨by decide +kernel, rfl⟩ ?_
  generalize hs6 : zI σ4 144 n5 0 = σ6
  have h := h σ6 hs6
  refine z_aload_n (f := 0) (i := 0) (q := 0) (pc' := 31) ⟨by decide +kernel, rfl⟩ rfl rfl ?_
  refine w_getr (k := 110) (j := 49) (idx := 118) (pc' := 34) yfxe_13_118 ykfa_110_49 ⟨by decide +kernel, rfl⟩ ?_
  refine z_aload_n (f := 0) (i := 0) (q := 0) (pc' := 35) ⟨by decide +kernel, rfl⟩ rfl rfl ?_
  refine w_geti (k := 110) (j := 52) (idx := 549) (pc' := 38) yfxe_13_549 ykfa_110_52 ⟨by decide +kernel, rfl⟩ ?_
  refine z_iconst (i := 0) (v := 0) (pc' := 39) ⟨by decide +kernel, rfl⟩ (by decide) ?_
  obtain ⟨n7, hi7, hz7, h⟩ := h
  refine w_iast (k := 145) (n := n7) (pc' := 40) ykaa_145 (hi7) (hz7) ⟨by decide +kernel, rfl⟩ ?_
  generalize hs8 : zI σ6 145 n7 0 = σ8
  have h := h σ8 hs8
  refine z_aload_n (f := 0) (i := 0) (q := 0) (pc' := 41) ⟨by decide +kernel, rfl⟩ rfl rfl ?_
  refine w_getr (k := 110) (j := 50) (idx := 121) (pc' := 44) yfxe_13_121 ykfa_110_50 ⟨by decide +kernel, rfl⟩ ?_
  refine z_aload_n (f := 0) (i := 0) (q := 0) (pc' := 45) ⟨by decide +kernel, rfl⟩ rfl rfl ?_
  refine w_geti (k := 110) (j := 52) (idx := 549) (pc' := 48) yfxe_13_549 ykfa_110_52 ⟨by decide +kernel, rfl⟩ ?_
  refine z_aload_n (f := 0) (i := 0) (q := 0) (pc' := 49) ⟨by decide +kernel, rfl⟩ rfl rfl ?_
  refine w_geti (k := 110) (j := 56) (idx := 546) (pc' := 52) yfxe_13_546 ykfa_110_56 ⟨by decide +kernel, rfl⟩ ?_
  obtain ⟨n9, hi9, hz9, h⟩ := h
  refine w_iast (k := 146) (n := n9) (pc' := 53) ykaa_146 (hi9) (hz9) ⟨by decide +kernel, rfl⟩ ?_
  generalize hs10 : zI σ8 146 n9 (σ8.1 110 56) = σ10
  have h := h σ10 hs10
  refine z_aload_n (f := 0) (i := 0) (q := 0) (pc' := 54) ⟨by decide +kernel, rfl⟩ rfl rfl ?_
  refine w_getr (k := 110) (j := 51) (idx := 124) (pc' := 57) yfxe_13_124 ykfa_110_51 ⟨by decide +kernel, rfl⟩ ?_
  refine z_aload_n (f := 0) (i := 0) (q := 0) (pc' := 58) ⟨by decide +kernel, rfl⟩ rfl rfl ?_
  refine w_geti (k := 110) (j := 52) (idx := 549) (pc' := 61) yfxe_13_549 ykfa_110_52 ⟨by decide +kernel, rfl⟩ ?_
  refine z_iload_n (f := 2) (i := 2) (q := 2) (pc' := 62) ⟨by decide +kernel, rfl⟩ rfl rfl ?_
  obtain ⟨n11, hi11, hz11, h⟩ := h
  refine w_iast (k := 147) (n := n11) (pc' := 63) ykaa_147 (hi11) (hz11) ⟨by decide +kernel, rfl⟩ ?_
  generalize hs12 : zI σ10 147 n11 a2 = σ12
  have h := h σ12 hs12
  exact z_vret rfl (by decide +kernel) (k _ _ h)
noncomputable def W_M_isFeature_b37 (y0 : Int32) (σ : zS) (Q : Int32 → zS → Prop) : Prop := (0 ≤ (Int32.toInt y0) → (W_M_token  σ (fun _ σ2 => W_M_isSign 46 σ2 (fun v3 σ3 => ((Int32.toInt v3) = 0 → (∀ σ17 : zS, zI σ3 110 58 (σ3.1 110 29) = σ17 → (Q 0 σ17))) ∧ (¬ (Int32.toInt v3) = 0 → (W_M_token  σ3 (fun _ σ5 => ((Int32.toInt (σ5.1 110 28)) = 1 → (((Int64.toInt (σ5.2 110 31)) < 97 → (∀ σ9 : zS, zI σ5 110 58 (σ5.1 110 29) = σ9 → (Q 0 σ9))) ∧ (¬ (Int64.toInt (σ5.2 110 31)) < 97 → (((Int64.toInt (σ5.2 110 31)) ≤ 104 → ((-2147483648 ≤ 8 * (Int32.toInt y0) ∧ 8 * (Int32.toInt y0) ≤ 2147483647) ∧ ∀ r11 : Int32, r11.toInt = 8 * (Int32.toInt y0) → ((-2147483648 ≤ (Int64.toInt (σ5.2 110 31)) ∧ (Int64.toInt (σ5.2 110 31)) ≤ 2147483647) ∧ ∀ r12 : Int32, r12.toInt = (Int64.toInt (σ5.2 110 31)) → ((-2147483648 ≤ (Int32.toInt r11) + (Int32.toInt r12) ∧ (Int32.toInt r11) + (Int32.toInt r12) ≤ 2147483647) ∧ ∀ r13 : Int32, r13.toInt = (Int32.toInt r11) + (Int32.toInt r12) → ((-2147483648 ≤ (Int32.toInt r13) - 97 ∧ (Int32.toInt r13) - 97 ≤ 2147483647) ∧ ∀ r14 : Int32, r14.toInt = (Int32.toInt r13) - 97 → (∀ σ15 : zS, zI σ5 110 59 r14 = σ15 → (Q 1 σ15))))))) ∧ (¬ (Int64.toInt (σ5.2 110 31)) ≤ 104 → (∀ σ16 : zS, zI σ5 110 58 (σ5.1 110 29) = σ16 → (Q 0 σ16))))))) ∧ (¬ (Int32.toInt (σ5.1 110 28)) = 1 → (∀ σ7 : zS, zI σ5 110 58 (σ5.1 110 29) = σ7 → (Q 0 σ7)))))))))) ∧ (¬ 0 ≤ (Int32.toInt y0) → (∀ σ18 : zS, zI σ 110 58 (σ.1 110 29) = σ18 → (Q 0 σ18)))
theorem sb_M_isFeature_37 {E : xV} {σ : zS} {K : zKt} {y0 : Int32} {Q : Int32 → zS → Prop} (k : ∀ v s, Q v s → K (some (.int v)) s) (h : W_M_isFeature_b37 y0 σ Q) : Wz E Y_M_isFeature 37 [(0, .ref 110)] [.int y0] σ K := by
  unfold W_M_isFeature_b37 at h
  refine z_istore_n (f := 1) (i := 1) (pc' := 38) ⟨by decide +kernel, rfl⟩ rfl (by decide) rfl ?_
  show Wz E Y_M_isFeature 38 [(1, .int y0), (0, .ref 110)] [] σ K
  refine z_iload_n (f := 1) (i := 1) (q := 0) (pc' := 39) ⟨by decide +kernel, rfl⟩ rfl rfl ?_
  refine z_if_ge (off := 13) (tgt := 52) (pc' := 42) ⟨by decide +kernel, by decide, rfl⟩ (fun h1 => ?_) (fun h1 => ?_)
  · have h := h.1 (qi_ge_t rfl (by decide) h1)
    refine z_aload_n (f := 0) (i := 0) (q := 1) (pc' := 53) ⟨by decide +kernel, rfl⟩ rfl rfl ?_
    refine w_invV (Z := Y_M_token) (idx := 566) (kb := 110) (As := []) (rest := []) (pc' := 56) cl_13_566 rfl ⟨rfl, rfl⟩ ykfa_110_0 rfl ⟨⟨by decide, by decide⟩, rfl, rfl⟩ ⟨by decide +kernel, rfl⟩ rfl rfl (Nat.le_of_ble_eq_true rfl) rfl rfl ?_
    refine sF_M_token h (fun _ σ2 h => ?_)
    show Wz E Y_M_isFeature 56 [(1, .int y0), (0, .ref 110)] [] σ2 K
    refine z_aload_n (f := 0) (i := 0) (q := 1) (pc' := 57) ⟨by decide +kernel, rfl⟩ rfl rfl ?_
    refine z_bipush (i := 46) (v := 46) (pc' := 59) ⟨by decide +kernel, rfl⟩ (by decide) ?_
    refine w_invV (Z := Y_M_isSign) (idx := 569) (kb := 110) (As := [.int 46]) (rest := []) (pc' := 62) cl_13_569 rfl ⟨rfl, rfl⟩ ykfa_110_0 rfl ⟨⟨by decide, by decide⟩, rfl, rfl⟩ ⟨by decide +kernel, rfl⟩ rfl rfl (Nat.le_of_ble_eq_true rfl) rfl rfl ?_
    refine sF_M_isSign h (fun v3 σ3 h => ?_)
    show Wz E Y_M_isFeature 62 [(1, .int y0), (0, .ref 110)] [.int v3] σ3 K
    refine z_if_ne (off := 13) (tgt := 75) (pc' := 65) ⟨by decide +kernel, by decide, rfl⟩ (fun h4 => ?_) (fun h4 => ?_)
    · have h := h.2 (qi_ne_t rfl (by decide) h4)
      refine z_aload_n (f := 0) (i := 0) (q := 1) (pc' := 76) ⟨by decide +kernel, rfl⟩ rfl rfl ?_
      refine w_invV (Z := Y_M_token) (idx := 566) (kb := 110) (As := []) (rest := []) (pc' := 79) cl_13_566 rfl ⟨rfl, rfl⟩ ykfa_110_0 rfl ⟨⟨by decide, by decide⟩, rfl, rfl⟩ ⟨by decide +kernel, rfl⟩ rfl rfl (Nat.le_of_ble_eq_true rfl) rfl rfl ?_
      refine sF_M_token h (fun _ σ5 h => ?_)
      show Wz E Y_M_isFeature 79 [(1, .int y0), (0, .ref 110)] [] σ5 K
      refine z_aload_n (f := 0) (i := 0) (q := 1) (pc' := 80) ⟨by decide +kernel, rfl⟩ rfl rfl ?_
      refine w_geti (k := 110) (j := 28) (idx := 511) (pc' := 83) yfxe_13_511 ykfa_110_28 ⟨by decide +kernel, rfl⟩ ?_
      refine z_iconst (i := 1) (v := 1) (pc' := 84) ⟨by decide +kernel, rfl⟩ (by decide) ?_
      refine z_icmp_ne (off := 25) (tgt := 109) (pc' := 87) ⟨by decide +kernel, by decide, rfl⟩ (fun h6 => ?_) (fun h6 => ?_)
      · have h := h.2 (qi_ne_t rfl (by decide) h6)
        refine z_aload_n (f := 0) (i := 0) (q := 1) (pc' := 110) ⟨by decide +kernel, rfl⟩ rfl rfl ?_
        refine z_aload_n (f := 0) (i := 0) (q := 1) (pc' := 111) ⟨by decide +kernel, rfl⟩ rfl rfl ?_
        refine w_geti (k := 110) (j := 29) (idx := 504) (pc' := 114) yfxe_13_504 ykfa_110_29 ⟨by decide +kernel, rfl⟩ ?_
        refine w_puti (k := 110) (j := 58) (idx := 559) (pc' := 117) yfxi_13_559 ykfa_110_58 ⟨by decide +kernel, rfl⟩ ?_
        generalize hs7 : zI σ5 110 58 (σ5.1 110 29) = σ7
        have h := h σ7 hs7
        refine z_iconst (i := 0) (v := 0) (pc' := 118) ⟨by decide +kernel, rfl⟩ (by decide) ?_
        exact z_iret (ty := .boolean) rfl (by rfl) (by decide +kernel) (k _ _ h)
      · have h := h.1 (qi_ne_f rfl (by decide) h6)
        refine z_aload_n (f := 0) (i := 0) (q := 1) (pc' := 88) ⟨by decide +kernel, rfl⟩ rfl rfl ?_
        refine w_getj (k := 110) (j := 31) (idx := 507) (pc' := 91) yfxe_13_507 ykfa_110_31 ⟨by decide +kernel, rfl⟩ ?_
        refine z_ldc2 (i := 572) (v := 97) (pc' := 94) ⟨by decide +kernel, rfl⟩ k_11_217 ?_
        refine z_lcmp (pc' := 95) ⟨by decide +kernel, rfl⟩ ?_
        refine z_if_lt (off := 14) (tgt := 109) (pc' := 98) ⟨by decide +kernel, by decide, rfl⟩ (fun h8 => ?_) (fun h8 => ?_)
        · have h := h.1 (qk_lt_t rfl (by decide) h8)
          refine z_aload_n (f := 0) (i := 0) (q := 1) (pc' := 110) ⟨by decide +kernel, rfl⟩ rfl rfl ?_
          refine z_aload_n (f := 0) (i := 0) (q := 1) (pc' := 111) ⟨by decide +kernel, rfl⟩ rfl rfl ?_
          refine w_geti (k := 110) (j := 29) (idx := 504) (pc' := 114) yfxe_13_504 ykfa_110_29 ⟨by decide +kernel, rfl⟩ ?_
          refine w_puti (k := 110) (j := 58) (idx := 559) (pc' := 117) yfxi_13_559 ykfa_110_58 ⟨by decide +kernel, rfl⟩ ?_
          generalize hs9 : zI σ5 110 58 (σ5.1 110 29) = σ9
          have h := h σ9 hs9
          refine z_iconst (i := 0) (v := 0) (pc' := 118) ⟨by decide +kernel, rfl⟩ (by decide) ?_
          exact z_iret (ty := .boolean) rfl (by rfl) (by decide +kernel) (k _ _ h)
        · have h := h.2 (qk_lt_f rfl (by decide) h8)
          refine z_aload_n (f := 0) (i := 0) (q := 1) (pc' := 99) ⟨by decide +kernel, rfl⟩ rfl rfl ?_
          refine w_getj (k := 110) (j := 31) (idx := 507) (pc' := 102) yfxe_13_507 ykfa_110_31 ⟨by decide +kernel, rfl⟩ ?_
          refine z_ldc2 (i := 574) (v := 104) (pc' := 105) ⟨by decide +kernel, rfl⟩ k_11_218 ?_
          refine z_lcmp (pc' := 106) ⟨by decide +kernel, rfl⟩ ?_
          refine z_if_le (off := 13) (tgt := 119) (pc' := 109) ⟨by decide +kernel, by decide, rfl⟩ (fun h10 => ?_) (fun h10 => ?_)
          · have h := h.1 (qk_le_t rfl (by decide) h10)
            refine z_aload_n (f := 0) (i := 0) (q := 1) (pc' := 120) ⟨by decide +kernel, rfl⟩ rfl rfl ?_
            refine z_bipush (i := 8) (v := 8) (pc' := 122) ⟨by decide +kernel, rfl⟩ (by decide) ?_
            refine z_iload_n (f := 1) (i := 1) (q := 0) (pc' := 123) ⟨by decide +kernel, rfl⟩ rfl rfl ?_
            refine z_imul (pc' := 124) ⟨by decide +kernel, rfl⟩ ?_
            obtain ⟨hb11, h⟩ := h
            have h := h (8 * y0) (im_ok (by decide) rfl hb11)
            generalize (8 * y0) = r11 at h ⊢
            refine z_aload_n (f := 0) (i := 0) (q := 1) (pc' := 125) ⟨by decide +kernel, rfl⟩ rfl rfl ?_
            refine w_getj (k := 110) (j := 31) (idx := 507) (pc' := 128) yfxe_13_507 ykfa_110_31 ⟨by decide +kernel, rfl⟩ ?_
            refine z_l2i (pc' := 129) ⟨by decide +kernel, rfl⟩ rfl ?_
            obtain ⟨hb12, h⟩ := h
            have h := h (Int64.toInt32 (σ5.2 110 31)) (li_ok hb12)
            generalize (Int64.toInt32 (σ5.2 110 31)) = r12 at h ⊢
            refine z_iadd (pc' := 130) ⟨by decide +kernel, rfl⟩ ?_
            obtain ⟨hb13, h⟩ := h
            have h := h (r11 + r12) (ia_ok rfl rfl hb13)
            generalize (r11 + r12) = r13 at h ⊢
            refine z_bipush (i := 97) (v := 97) (pc' := 132) ⟨by decide +kernel, rfl⟩ (by decide) ?_
            refine z_isub (pc' := 133) ⟨by decide +kernel, rfl⟩ ?_
            obtain ⟨hb14, h⟩ := h
            have h := h (r13 - 97) (is_ok rfl (by decide) hb14)
            generalize (r13 - 97) = r14 at h ⊢
            refine w_puti (k := 110) (j := 59) (idx := 576) (pc' := 136) yfxi_13_576 ykfa_110_59 ⟨by decide +kernel, rfl⟩ ?_
            generalize hs15 : zI σ5 110 59 r14 = σ15
            have h := h σ15 hs15
            refine z_iconst (i := 1) (v := 1) (pc' := 137) ⟨by decide +kernel, rfl⟩ (by decide) ?_
            exact z_iret (ty := .boolean) rfl (by rfl) (by decide +kernel) (k _ _ h)
          · have h := h.2 (qk_le_f rfl (by decide) h10)
            refine z_aload_n (f := 0) (i := 0) (q := 1) (pc' := 110) ⟨by decide +kernel, rfl⟩ rfl rfl ?_
            refine z_aload_n (f := 0) (i := 0) (q := 1) (pc' := 111) ⟨by decide +kernel, rfl⟩ rfl rfl ?_
            refine w_geti (k := 110) (j := 29) (idx := 504) (pc' := 114) yfxe_13_504 ykfa_110_29 ⟨by decide +kernel, rfl⟩ ?_
            refine w_puti (k := 110) (j := 58) (idx := 559) (pc' := 117) yfxi_13_559 ykfa_110_58 ⟨by decide +kernel, rfl⟩ ?_
            generalize hs16 : zI σ5 110 58 (σ5.1 110 29) = σ16
            have h := h σ16 hs16
            refine z_iconst (i := 0) (v := 0) (pc' := 118) ⟨by decide +kernel, rfl⟩ (by decide) ?_
            exact z_iret (ty := .boolean) rfl (by rfl) (by decide +kernel) (k _ _ h)
    · have h := h.1 (qi_ne_f rfl (by decide) h4)
      refine z_aload_n (f := 0) (i := 0) (q := 1) (pc' := 66) ⟨by decide +kernel, rfl⟩ rfl rfl ?_
      refine z_aload_n (f := 0) (i := 0) (q := 1) (pc' := 67) ⟨by decide +kernel, rfl⟩ rfl rfl ?_
      refine w_geti (k := 110) (j := 29) (idx := 504) (pc' := 70) yfxe_13_504 ykfa_110_29 ⟨by decide +kernel, rfl⟩ ?_
      refine w_puti (k := 110) (j := 58) (idx := 559) (pc' := 73) yfxi_13_559 ykfa_110_58 ⟨by decide +kernel, rfl⟩ ?_
      generalize hs17 : zI σ3 110 58 (σ3.1 110 29) = σ17
      have h := h σ17 hs17
      refine z_iconst (i := 0) (v := 0) (pc' := 74) ⟨by decide +kernel, rfl⟩ (by decide) ?_
      exact z_iret (ty := .boolean) rfl (by rfl) (by decide +kernel) (k _ _ h)
  · have h := h.2 (qi_ge_f rfl (by decide) h1)
    refine z_aload_n (f := 0) (i := 0) (q := 1) (pc' := 43) ⟨by decide +kernel, rfl⟩ rfl rfl ?_
    refine z_aload_n (f := 0) (i := 0) (q := 1) (pc' := 44) ⟨by decide +kernel, rfl⟩ rfl rfl ?_
    refine w_geti (k := 110) (j := 29) (idx := 504) (pc' := 47) yfxe_13_504 ykfa_110_29 ⟨by decide +kernel, rfl⟩ ?_
    refine w_puti (k := 110) (j := 58) (idx := 559) (pc' := 50) yfxi_13_559 ykfa_110_58 ⟨by decide +kernel, rfl⟩ ?_
    generalize hs18 : zI σ 110 58 (σ.1 110 29) = σ18
    have h := h σ18 hs18
    refine z_iconst (i := 0) (v := 0) (pc' := 51) ⟨by decide +kernel, rfl⟩ (by decide) ?_
    exact z_iret (ty := .boolean) rfl (by rfl) (by decide +kernel) (k _ _ h)
noncomputable def W_M_isFeature  (σ : zS) (Q : Int32 → zS → Prop) : Prop := W_M_isWord 109 101 0 0 0 σ (fun v1 σ1 => ((Int32.toInt v1) = 0 → (W_M_isWord 105 116 0 0 0 σ1 (fun v3 σ3 => ((Int32.toInt v3) = 0 → (W_M_isFeature_b37  (-1) σ3 Q)) ∧ (¬ (Int32.toInt v3) = 0 → (W_M_isFeature_b37  1 σ3 Q))))) ∧ (¬ (Int32.toInt v1) = 0 → (W_M_isFeature_b37  0 σ1 Q)))
theorem sF_M_isFeature {E : xV} {σ : zS} {K : zKt}  {Q : Int32 → zS → Prop} (h : W_M_isFeature  σ Q) (k : ∀ v s, Q v s → K (some (.int v)) s) : Cz E Y_M_isFeature [.ref 110] σ K := by
  refine z_entry (by decide) (fun a => by rw [sl_len]; exact Nat.le_of_ble_eq_true rfl) rfl ?_
  unfold W_M_isFeature at h
  refine z_aload_n (f := 0) (i := 0) (q := 0) (pc' := 1) ⟨by decide +kernel, rfl⟩ rfl rfl ?_
  refine z_bipush (i := 109) (v := 109) (pc' := 3) ⟨by decide +kernel, rfl⟩ (by decide) ?_
  refine z_bipush (i := 101) (v := 101) (pc' := 5) ⟨by decide +kernel, rfl⟩ (by decide) ?_
  refine z_iconst (i := 0) (v := 0) (pc' := 6) ⟨by decide +kernel, rfl⟩ (by decide) ?_
  refine z_iconst (i := 0) (v := 0) (pc' := 7) ⟨by decide +kernel, rfl⟩ (by decide) ?_
  refine z_iconst (i := 0) (v := 0) (pc' := 8) ⟨by decide +kernel, rfl⟩ (by decide) ?_
  refine w_invV (Z := Y_M_isWord) (idx := 562) (kb := 110) (As := [.int 109, .int 101, .int 0, .int 0, .int 0]) (rest := []) (pc' := 11) cl_13_562 rfl ⟨rfl, rfl⟩ ykfa_110_0 rfl ⟨⟨by decide, by decide⟩, rfl, rfl⟩ ⟨by decide +kernel, rfl⟩ rfl rfl (Nat.le_of_ble_eq_true rfl) rfl rfl ?_
  refine sF_M_isWord h (fun v1 σ1 h => ?_)
  show Wz E Y_M_isFeature 11 [(0, .ref 110)] [.int v1] σ1 K
  refine z_if_eq (off := 7) (tgt := 18) (pc' := 14) ⟨by decide +kernel, by decide, rfl⟩ (fun h2 => ?_) (fun h2 => ?_)
  · have h := h.1 (qi_eq_t rfl (by decide) h2)
    refine z_aload_n (f := 0) (i := 0) (q := 0) (pc' := 19) ⟨by decide +kernel, rfl⟩ rfl rfl ?_
    refine z_bipush (i := 105) (v := 105) (pc' := 21) ⟨by decide +kernel, rfl⟩ (by decide) ?_
    refine z_bipush (i := 116) (v := 116) (pc' := 23) ⟨by decide +kernel, rfl⟩ (by decide) ?_
    refine z_iconst (i := 0) (v := 0) (pc' := 24) ⟨by decide +kernel, rfl⟩ (by decide) ?_
    refine z_iconst (i := 0) (v := 0) (pc' := 25) ⟨by decide +kernel, rfl⟩ (by decide) ?_
    refine z_iconst (i := 0) (v := 0) (pc' := 26) ⟨by decide +kernel, rfl⟩ (by decide) ?_
    refine w_invV (Z := Y_M_isWord) (idx := 562) (kb := 110) (As := [.int 105, .int 116, .int 0, .int 0, .int 0]) (rest := []) (pc' := 29) cl_13_562 rfl ⟨rfl, rfl⟩ ykfa_110_0 rfl ⟨⟨by decide, by decide⟩, rfl, rfl⟩ ⟨by decide +kernel, rfl⟩ rfl rfl (Nat.le_of_ble_eq_true rfl) rfl rfl ?_
    refine sF_M_isWord h (fun v3 σ3 h => ?_)
    show Wz E Y_M_isFeature 29 [(0, .ref 110)] [.int v3] σ3 K
    refine z_if_eq (off := 7) (tgt := 36) (pc' := 32) ⟨by decide +kernel, by decide, rfl⟩ (fun h4 => ?_) (fun h4 => ?_)
    · have h := h.1 (qi_eq_t rfl (by decide) h4)
      refine z_iconst (i := (-1)) (v := (-1)) (pc' := 37) ⟨by decide +kernel, rfl⟩ (by decide) ?_
      refine z_sub [0] rfl ?_
      exact sb_M_isFeature_37  k h
    · have h := h.2 (qi_eq_f rfl (by decide) h4)
      refine z_iconst (i := 1) (v := 1) (pc' := 33) ⟨by decide +kernel, rfl⟩ (by decide) ?_
      refine z_goto (off := 4) (tgt := 37) (pc' := 36) ⟨by decide +kernel, by decide, rfl⟩ ?_
      refine z_sub [0] rfl ?_
      exact sb_M_isFeature_37  k h
  · have h := h.2 (qi_eq_f rfl (by decide) h2)
    refine z_iconst (i := 0) (v := 0) (pc' := 15) ⟨by decide +kernel, rfl⟩ (by decide) ?_
    refine z_goto (off := 22) (tgt := 37) (pc' := 18) ⟨by decide +kernel, by decide, rfl⟩ ?_
    refine z_sub [0] rfl ?_
    exact sb_M_isFeature_37  k h
noncomputable def W_M_valueDone  (σ : zS) (Q : Unit → zS → Prop) : Prop := W_M_reduce 7 σ (fun _ σ1 => ∀ σ2 : zS, zI σ1 110 61 0 = σ2 → (∀ σ3 : zS, zI σ2 110 60 0 = σ3 → (Q () σ3)))
theorem sF_M_valueDone {E : xV} {σ : zS} {K : zKt}  {Q : Unit → zS → Prop} (h : W_M_valueDone  σ Q) (k : ∀ v s, Q v s → K none s) : Cz E Y_M_valueDone [.ref 110] σ K := by
  refine z_entry (by decide) (fun a => by rw [sl_len]; exact Nat.le_of_ble_eq_true rfl) rfl ?_
  unfold W_M_valueDone at h
  refine z_aload_n (f := 0) (i := 0) (q := 0) (pc' := 1) ⟨by decide +kernel, rfl⟩ rfl rfl ?_
  refine z_bipush (i := 7) (v := 7) (pc' := 3) ⟨by decide +kernel, rfl⟩ (by decide) ?_
  refine w_invV (Z := Y_M_reduce) (idx := 579) (kb := 110) (As := [.int 7]) (rest := []) (pc' := 6) cl_13_579 rfl ⟨rfl, rfl⟩ ykfa_110_0 rfl ⟨⟨by decide, by decide⟩, rfl, rfl⟩ ⟨by decide +kernel, rfl⟩ rfl rfl (Nat.le_of_ble_eq_true rfl) rfl rfl ?_
  refine sF_M_reduce h (fun _ σ1 h => ?_)
  show Wz E Y_M_valueDone 6 [(0, .ref 110)] [] σ1 K
  refine z_aload_n (f := 0) (i := 0) (q := 0) (pc' := 7) ⟨by decide +kernel, rfl⟩ rfl rfl ?_
  refine z_iconst (i := 0) (v := 0) (pc' := 8) ⟨by decide +kernel, rfl⟩ (by decide) ?_
  refine w_putz (k := 110) (j := 61) (idx := 582) (pc' := 11) yfxz_13_582 ykfa_110_61 (by decide) ⟨by decide +kernel, rfl⟩ ?_
  generalize hs2 : zI σ1 110 61 0 = σ2
  have h := h σ2 hs2
  refine z_aload_n (f := 0) (i := 0) (q := 0) (pc' := 12) ⟨by decide +kernel, rfl⟩ rfl rfl ?_
  refine z_iconst (i := 0) (v := 0) (pc' := 13) ⟨by decide +kernel, rfl⟩ (by decide) ?_
  refine w_putz (k := 110) (j := 60) (idx := 585) (pc' := 16) yfxz_13_585 ykfa_110_60 (by decide) ⟨by decide +kernel, rfl⟩ ?_
  generalize hs3 : zI σ2 110 60 0 = σ3
  have h := h σ3 hs3
  exact z_vret rfl (by decide +kernel) (k _ _ h)
noncomputable def W_M_featureDone  (σ : zS) (Q : Unit → zS → Prop) : Prop := W_M_token  σ (fun _ σ1 => W_M_isSign 91 σ1 (fun v2 σ2 => ((Int32.toInt v2) = 0 → (∀ σ4 : zS, zI σ2 110 27 (σ.1 110 27) = σ4 → (∀ r5 : Int64, r5.toInt = (Int32.toInt (σ.1 110 59)) → (W_M_emit 4 r5 σ4 (fun _ σ6 => W_M_valueDone  σ6 (fun _ σ7 => Q () σ7)))))) ∧ (¬ (Int32.toInt v2) = 0 → (W_M_deeper  σ2 (fun v8 σ8 => ((Int32.toInt v8) = 0 → (Q () σ8)) ∧ (¬ (Int32.toInt v8) = 0 → (W_M_opens 3 (σ.1 110 59) σ8 (fun _ σ10 => ∀ σ11 : zS, zI σ10 110 60 0 = σ11 → (Q () σ11)))))))))
theorem sF_M_featureDone {E : xV} {σ : zS} {K : zKt}  {Q : Unit → zS → Prop} (h : W_M_featureDone  σ Q) (k : ∀ v s, Q v s → K none s) : Cz E Y_M_featureDone [.ref 110] σ K := by
  refine z_entry (by decide) (fun a => by rw [sl_len]; exact Nat.le_of_ble_eq_true rfl) rfl ?_
  unfold W_M_featureDone at h
  refine z_aload_n (f := 0) (i := 0) (q := 0) (pc' := 1) ⟨by decide +kernel, rfl⟩ rfl rfl ?_
  refine w_geti (k := 110) (j := 27) (idx := 498) (pc' := 4) yfxe_13_498 ykfa_110_27 ⟨by decide +kernel, rfl⟩ ?_
  refine z_istore_n (f := 1) (i := 1) (pc' := 5) ⟨by decide +kernel, rfl⟩ rfl (by decide) rfl ?_
  show Wz E Y_M_featureDone 5 [(1, .int (σ.1 110 27)), (0, .ref 110)] [] σ K
  refine z_aload_n (f := 0) (i := 0) (q := 1) (pc' := 6) ⟨by decide +kernel, rfl⟩ rfl rfl ?_
  refine w_geti (k := 110) (j := 59) (idx := 576) (pc' := 9) yfxe_13_576 ykfa_110_59 ⟨by decide +kernel, rfl⟩ ?_
  refine z_istore_n (f := 2) (i := 2) (pc' := 10) ⟨by decide +kernel, rfl⟩ rfl (by decide) rfl ?_
  show Wz E Y_M_featureDone 10 [(2, .int (σ.1 110 59)), (1, .int (σ.1 110 27)), (0, .ref 110)] [] σ K
  refine z_aload_n (f := 0) (i := 0) (q := 2) (pc' := 11) ⟨by decide +kernel, rfl⟩ rfl rfl ?_
  refine w_invV (Z := Y_M_token) (idx := 566) (kb := 110) (As := []) (rest := []) (pc' := 14) cl_13_566 rfl ⟨rfl, rfl⟩ ykfa_110_0 rfl ⟨⟨by decide, by decide⟩, rfl, rfl⟩ ⟨by decide +kernel, rfl⟩ rfl rfl (Nat.le_of_ble_eq_true rfl) rfl rfl ?_
  refine sF_M_token h (fun _ σ1 h => ?_)
  show Wz E Y_M_featureDone 14 [(2, .int (σ.1 110 59)), (1, .int (σ.1 110 27)), (0, .ref 110)] [] σ1 K
  refine z_aload_n (f := 0) (i := 0) (q := 2) (pc' := 15) ⟨by decide +kernel, rfl⟩ rfl rfl ?_
  refine z_bipush (i := 91) (v := 91) (pc' := 17) ⟨by decide +kernel, rfl⟩ (by decide) ?_
  refine w_invV (Z := Y_M_isSign) (idx := 569) (kb := 110) (As := [.int 91]) (rest := []) (pc' := 20) cl_13_569 rfl ⟨rfl, rfl⟩ ykfa_110_0 rfl ⟨⟨by decide, by decide⟩, rfl, rfl⟩ ⟨by decide +kernel, rfl⟩ rfl rfl (Nat.le_of_ble_eq_true rfl) rfl rfl ?_
  refine sF_M_isSign h (fun v2 σ2 h => ?_)
  show Wz E Y_M_featureDone 20 [(2, .int (σ.1 110 59)), (1, .int (σ.1 110 27)), (0, .ref 110)] [.int v2] σ2 K
  refine z_if_eq (off := 22) (tgt := 42) (pc' := 23) ⟨by decide +kernel, by decide, rfl⟩ (fun h3 => ?_) (fun h3 => ?_)
  · have h := h.1 (qi_eq_t rfl (by decide) h3)
    refine z_aload_n (f := 0) (i := 0) (q := 2) (pc' := 43) ⟨by decide +kernel, rfl⟩ rfl rfl ?_
    refine z_iload_n (f := 1) (i := 1) (q := 1) (pc' := 44) ⟨by decide +kernel, rfl⟩ rfl rfl ?_
    refine w_puti (k := 110) (j := 27) (idx := 498) (pc' := 47) yfxi_13_498 ykfa_110_27 ⟨by decide +kernel, rfl⟩ ?_
    generalize hs4 : zI σ2 110 27 (σ.1 110 27) = σ4
    have h := h σ4 hs4
    refine z_aload_n (f := 0) (i := 0) (q := 2) (pc' := 48) ⟨by decide +kernel, rfl⟩ rfl rfl ?_
    refine z_iconst (i := 4) (v := 4) (pc' := 49) ⟨by decide +kernel, rfl⟩ (by decide) ?_
    refine z_iload_n (f := 2) (i := 2) (q := 0) (pc' := 50) ⟨by decide +kernel, rfl⟩ rfl rfl ?_
    refine z_i2l (v := (Int32.toInt64 (σ.1 110 59))) (pc' := 51) ⟨by decide +kernel, rfl⟩ rfl ?_
    have h := h (Int32.toInt64 (σ.1 110 59)) (Int32.toInt_toInt64 _)
    generalize (Int32.toInt64 (σ.1 110 59)) = r5 at h ⊢
    refine w_invV (Z := Y_M_emit) (idx := 552) (kb := 110) (As := [.int 4, .long r5]) (rest := []) (pc' := 54) cl_13_552 rfl ⟨rfl, rfl⟩ ykfa_110_0 rfl ⟨⟨by decide, by decide⟩, rfl, rfl⟩ ⟨by decide +kernel, rfl⟩ rfl rfl (Nat.le_of_ble_eq_true rfl) rfl rfl ?_
    refine sF_M_emit h (fun _ σ6 h => ?_)
    show Wz E Y_M_featureDone 54 [(2, .int (σ.1 110 59)), (1, .int (σ.1 110 27)), (0, .ref 110)] [] σ6 K
    refine z_aload_n (f := 0) (i := 0) (q := 2) (pc' := 55) ⟨by decide +kernel, rfl⟩ rfl rfl ?_
    refine w_invV (Z := Y_M_valueDone) (idx := 601) (kb := 110) (As := []) (rest := []) (pc' := 58) cl_13_601 rfl ⟨rfl, rfl⟩ ykfa_110_0 rfl ⟨⟨by decide, by decide⟩, rfl, rfl⟩ ⟨by decide +kernel, rfl⟩ rfl rfl (Nat.le_of_ble_eq_true rfl) rfl rfl ?_
    refine sF_M_valueDone h (fun _ σ7 h => ?_)
    show Wz E Y_M_featureDone 58 [(2, .int (σ.1 110 59)), (1, .int (σ.1 110 27)), (0, .ref 110)] [] σ7 K
    exact z_vret rfl (by decide +kernel) (k _ _ h)
  · have h := h.2 (qi_eq_f rfl (by decide) h3)
    refine z_aload_n (f := 0) (i := 0) (q := 2) (pc' := 24) ⟨by decide +kernel, rfl⟩ rfl rfl ?_
    refine w_invV (Z := Y_M_deeper) (idx := 588) (kb := 110) (As := []) (rest := []) (pc' := 27) cl_13_588 rfl ⟨rfl, rfl⟩ ykfa_110_0 rfl ⟨⟨by decide, by decide⟩, rfl, rfl⟩ ⟨by decide +kernel, rfl⟩ rfl rfl (Nat.le_of_ble_eq_true rfl) rfl rfl ?_
    refine sF_M_deeper h (fun v8 σ8 h => ?_)
    show Wz E Y_M_featureDone 27 [(2, .int (σ.1 110 59)), (1, .int (σ.1 110 27)), (0, .ref 110)] [.int v8] σ8 K
    refine z_if_eq (off := 14) (tgt := 41) (pc' := 30) ⟨by decide +kernel, by decide, rfl⟩ (fun h9 => ?_) (fun h9 => ?_)
    · have h := h.1 (qi_eq_t rfl (by decide) h9)
      exact z_vret rfl (by decide +kernel) (k _ _ h)
    · have h := h.2 (qi_eq_f rfl (by decide) h9)
      refine z_aload_n (f := 0) (i := 0) (q := 2) (pc' := 31) ⟨by decide +kernel, rfl⟩ rfl rfl ?_
      refine z_iconst (i := 3) (v := 3) (pc' := 32) ⟨by decide +kernel, rfl⟩ (by decide) ?_
      refine z_iload_n (f := 2) (i := 2) (q := 0) (pc' := 33) ⟨by decide +kernel, rfl⟩ rfl rfl ?_
      refine w_invV (Z := Y_M_opens) (idx := 598) (kb := 110) (As := [.int 3, .int (σ.1 110 59)]) (rest := []) (pc' := 36) cl_13_598 rfl ⟨rfl, rfl⟩ ykfa_110_0 rfl ⟨⟨by decide, by decide⟩, rfl, rfl⟩ ⟨by decide +kernel, rfl⟩ rfl rfl (Nat.le_of_ble_eq_true rfl) rfl rfl ?_
      refine sF_M_opens h (fun _ σ10 h => ?_)
      show Wz E Y_M_featureDone 36 [(2, .int (σ.1 110 59)), (1, .int (σ.1 110 27)), (0, .ref 110)] [] σ10 K
      refine z_aload_n (f := 0) (i := 0) (q := 2) (pc' := 37) ⟨by decide +kernel, rfl⟩ rfl rfl ?_
      refine z_iconst (i := 0) (v := 0) (pc' := 38) ⟨by decide +kernel, rfl⟩ (by decide) ?_
      refine w_putz (k := 110) (j := 60) (idx := 585) (pc' := 41) yfxz_13_585 ykfa_110_60 (by decide) ⟨by decide +kernel, rfl⟩ ?_
      generalize hs11 : zI σ10 110 60 0 = σ11
      have h := h σ11 hs11
      exact z_vret rfl (by decide +kernel) (k _ _ h)
noncomputable def W_M_wanted_b228 (y0 : Int32) (σ : zS) (Q : Unit → zS → Prop) : Prop := W_M_emit y0 (σ.2 110 31) σ (fun _ σ1 => W_M_valueDone  σ1 (fun _ σ2 => Q () σ2))
theorem sb_M_wanted_228 {E : xV} {σ : zS} {K : zKt} {y0 : Int32} {Q : Unit → zS → Prop} (k : ∀ v s, Q v s → K none s) (h : W_M_wanted_b228 y0 σ Q) : Wz E Y_M_wanted 228 [(0, .ref 110)] [.int y0, .ref 110] σ K := by
  unfold W_M_wanted_b228 at h
  refine z_aload_n (f := 0) (i := 0) (q := 0) (pc' := 229) ⟨by decide +kernel, rfl⟩ rfl rfl ?_
  refine w_getj (k := 110) (j := 31) (idx := 507) (pc' := 232) yfxe_13_507 ykfa_110_31 ⟨by decide +kernel, rfl⟩ ?_
  refine w_invV (Z := Y_M_emit) (idx := 552) (kb := 110) (As := [.int y0, .long (σ.2 110 31)]) (rest := []) (pc' := 235) cl_13_552 rfl ⟨rfl, rfl⟩ ykfa_110_0 rfl ⟨⟨by decide, by decide⟩, rfl, rfl⟩ ⟨by decide +kernel, rfl⟩ rfl rfl (Nat.le_of_ble_eq_true rfl) rfl rfl ?_
  refine sF_M_emit h (fun _ σ1 h => ?_)
  show Wz E Y_M_wanted 235 [(0, .ref 110)] [] σ1 K
  refine z_aload_n (f := 0) (i := 0) (q := 0) (pc' := 236) ⟨by decide +kernel, rfl⟩ rfl rfl ?_
  refine w_invV (Z := Y_M_valueDone) (idx := 601) (kb := 110) (As := []) (rest := []) (pc' := 239) cl_13_601 rfl ⟨rfl, rfl⟩ ykfa_110_0 rfl ⟨⟨by decide, by decide⟩, rfl, rfl⟩ ⟨by decide +kernel, rfl⟩ rfl rfl (Nat.le_of_ble_eq_true rfl) rfl rfl ?_
  refine sF_M_valueDone h (fun _ σ2 h => ?_)
  show Wz E Y_M_wanted 239 [(0, .ref 110)] [] σ2 K
  refine z_goto (off := 121) (tgt := 360) (pc' := 242) ⟨by decide +kernel, by decide, rfl⟩ ?_
  exact z_vret rfl (by decide +kernel) (k _ _ h)
noncomputable def W_M_wanted_b214  (σ : zS) (Q : Unit → zS → Prop) : Prop := ((Int32.toInt (σ.1 110 28)) = 2 → (W_M_wanted_b228  0 σ Q)) ∧ (¬ (Int32.toInt (σ.1 110 28)) = 2 → (W_M_wanted_b228  1 σ Q))
theorem sb_M_wanted_214 {E : xV} {σ : zS} {K : zKt}  {Q : Unit → zS → Prop} (k : ∀ v s, Q v s → K none s) (h : W_M_wanted_b214  σ Q) : Wz E Y_M_wanted 214 [(0, .ref 110)] [] σ K := by
  unfold W_M_wanted_b214 at h
  refine z_aload_n (f := 0) (i := 0) (q := 0) (pc' := 215) ⟨by decide +kernel, rfl⟩ rfl rfl ?_
  refine z_aload_n (f := 0) (i := 0) (q := 0) (pc' := 216) ⟨by decide +kernel, rfl⟩ rfl rfl ?_
  refine w_geti (k := 110) (j := 28) (idx := 511) (pc' := 219) yfxe_13_511 ykfa_110_28 ⟨by decide +kernel, rfl⟩ ?_
  refine z_iconst (i := 2) (v := 2) (pc' := 220) ⟨by decide +kernel, rfl⟩ (by decide) ?_
  refine z_icmp_ne (off := 7) (tgt := 227) (pc' := 223) ⟨by decide +kernel, by decide, rfl⟩ (fun h1 => ?_) (fun h1 => ?_)
  · have h := h.2 (qi_ne_t rfl (by decide) h1)
    refine z_iconst (i := 1) (v := 1) (pc' := 228) ⟨by decide +kernel, rfl⟩ (by decide) ?_
    refine z_sub [0] rfl ?_
    exact sb_M_wanted_228  k h
  · have h := h.1 (qi_ne_f rfl (by decide) h1)
    refine z_iconst (i := 0) (v := 0) (pc' := 224) ⟨by decide +kernel, rfl⟩ (by decide) ?_
    refine z_goto (off := 4) (tgt := 228) (pc' := 227) ⟨by decide +kernel, by decide, rfl⟩ ?_
    refine z_sub [0] rfl ?_
    exact sb_M_wanted_228  k h
noncomputable def W_M_wanted_b293 (y0 : Int32) (σ : zS) (Q : Unit → zS → Prop) : Prop := W_M_emit y0 0 σ (fun _ σ1 => W_M_valueDone  σ1 (fun _ σ2 => Q () σ2))
theorem sb_M_wanted_293 {E : xV} {σ : zS} {K : zKt} {y0 : Int32} {Q : Unit → zS → Prop} (k : ∀ v s, Q v s → K none s) (h : W_M_wanted_b293 y0 σ Q) : Wz E Y_M_wanted 293 [(0, .ref 110)] [.int y0, .ref 110] σ K := by
  unfold W_M_wanted_b293 at h
  refine z_lconst (i := 0) (v := 0) (pc' := 294) ⟨by decide +kernel, rfl⟩ (by decide) ?_
  refine w_invV (Z := Y_M_emit) (idx := 552) (kb := 110) (As := [.int y0, .long 0]) (rest := []) (pc' := 297) cl_13_552 rfl ⟨rfl, rfl⟩ ykfa_110_0 rfl ⟨⟨by decide, by decide⟩, rfl, rfl⟩ ⟨by decide +kernel, rfl⟩ rfl rfl (Nat.le_of_ble_eq_true rfl) rfl rfl ?_
  refine sF_M_emit h (fun _ σ1 h => ?_)
  show Wz E Y_M_wanted 297 [(0, .ref 110)] [] σ1 K
  refine z_aload_n (f := 0) (i := 0) (q := 0) (pc' := 298) ⟨by decide +kernel, rfl⟩ rfl rfl ?_
  refine w_invV (Z := Y_M_valueDone) (idx := 601) (kb := 110) (As := []) (rest := []) (pc' := 301) cl_13_601 rfl ⟨rfl, rfl⟩ ykfa_110_0 rfl ⟨⟨by decide, by decide⟩, rfl, rfl⟩ ⟨by decide +kernel, rfl⟩ rfl rfl (Nat.le_of_ble_eq_true rfl) rfl rfl ?_
  refine sF_M_valueDone h (fun _ σ2 h => ?_)
  show Wz E Y_M_wanted 301 [(0, .ref 110)] [] σ2 K
  refine z_goto (off := 59) (tgt := 360) (pc' := 304) ⟨by decide +kernel, by decide, rfl⟩ ?_
  exact z_vret rfl (by decide +kernel) (k _ _ h)
noncomputable def W_M_wanted_b272  (σ : zS) (Q : Unit → zS → Prop) : Prop := W_M_isWord 110 111 119 0 0 σ (fun v1 σ1 => ((Int32.toInt v1) = 0 → (W_M_wanted_b293  3 σ1 Q)) ∧ (¬ (Int32.toInt v1) = 0 → (W_M_wanted_b293  2 σ1 Q)))
theorem sb_M_wanted_272 {E : xV} {σ : zS} {K : zKt}  {Q : Unit → zS → Prop} (k : ∀ v s, Q v s → K none s) (h : W_M_wanted_b272  σ Q) : Wz E Y_M_wanted 272 [(0, .ref 110)] [] σ K := by
  unfold W_M_wanted_b272 at h
  refine z_aload_n (f := 0) (i := 0) (q := 0) (pc' := 273) ⟨by decide +kernel, rfl⟩ rfl rfl ?_
  refine z_aload_n (f := 0) (i := 0) (q := 0) (pc' := 274) ⟨by decide +kernel, rfl⟩ rfl rfl ?_
  refine z_bipush (i := 110) (v := 110) (pc' := 276) ⟨by decide +kernel, rfl⟩ (by decide) ?_
  refine z_bipush (i := 111) (v := 111) (pc' := 278) ⟨by decide +kernel, rfl⟩ (by decide) ?_
  refine z_bipush (i := 119) (v := 119) (pc' := 280) ⟨by decide +kernel, rfl⟩ (by decide) ?_
  refine z_iconst (i := 0) (v := 0) (pc' := 281) ⟨by decide +kernel, rfl⟩ (by decide) ?_
  refine z_iconst (i := 0) (v := 0) (pc' := 282) ⟨by decide +kernel, rfl⟩ (by decide) ?_
  refine w_invV (Z := Y_M_isWord) (idx := 562) (kb := 110) (As := [.int 110, .int 111, .int 119, .int 0, .int 0]) (rest := [.ref 110]) (pc' := 285) cl_13_562 rfl ⟨rfl, rfl⟩ ykfa_110_0 rfl ⟨⟨by decide, by decide⟩, rfl, rfl⟩ ⟨by decide +kernel, rfl⟩ rfl rfl (Nat.le_of_ble_eq_true rfl) rfl rfl ?_
  refine sF_M_isWord h (fun v1 σ1 h => ?_)
  show Wz E Y_M_wanted 285 [(0, .ref 110)] [.int v1, .ref 110] σ1 K
  refine z_if_eq (off := 7) (tgt := 292) (pc' := 288) ⟨by decide +kernel, by decide, rfl⟩ (fun h2 => ?_) (fun h2 => ?_)
  · have h := h.1 (qi_eq_t rfl (by decide) h2)
    refine z_iconst (i := 3) (v := 3) (pc' := 293) ⟨by decide +kernel, rfl⟩ (by decide) ?_
    refine z_sub [0] rfl ?_
    exact sb_M_wanted_293  k h
  · have h := h.2 (qi_eq_f rfl (by decide) h2)
    refine z_iconst (i := 2) (v := 2) (pc' := 289) ⟨by decide +kernel, rfl⟩ (by decide) ?_
    refine z_goto (off := 4) (tgt := 293) (pc' := 292) ⟨by decide +kernel, by decide, rfl⟩ ?_
    refine z_sub [0] rfl ?_
    exact sb_M_wanted_293  k h
noncomputable def W_M_wanted_b129  (σ : zS) (Q : Unit → zS → Prop) : Prop := W_M_isSign 40 σ (fun v1 σ1 => ((Int32.toInt v1) = 0 → (W_M_isSign 45 σ1 (fun v3 σ3 => ((Int32.toInt v3) = 0 → (((Int32.toInt (σ3.1 110 28)) = 2 → (W_M_wanted_b214   σ3 Q)) ∧ (¬ (Int32.toInt (σ3.1 110 28)) = 2 → (((Int32.toInt (σ3.1 110 28)) = 3 → (W_M_wanted_b214   σ3 Q)) ∧ (¬ (Int32.toInt (σ3.1 110 28)) = 3 → (W_M_isWord 110 111 119 0 0 σ3 (fun v7 σ7 => ((Int32.toInt v7) = 0 → (W_M_isWord 97 103 101 0 0 σ7 (fun v9 σ9 => ((Int32.toInt v9) = 0 → (W_M_isWord 115 105 122 101 0 σ9 (fun v11 σ11 => ((Int32.toInt v11) = 0 → (W_M_isFeature  σ11 (fun v13 σ13 => ((Int32.toInt v13) = 0 → (Q () σ13)) ∧ (¬ (Int32.toInt v13) = 0 → (W_M_featureDone  σ13 (fun _ σ15 => Q () σ15)))))) ∧ (¬ (Int32.toInt v11) = 0 → (W_M_token  σ11 (fun _ σ16 => W_M_isFeature  σ16 (fun v17 σ17 => ((Int32.toInt v17) = 0 → (Q () σ17)) ∧ (¬ (Int32.toInt v17) = 0 → (∀ r19 : Int64, r19.toInt = (Int32.toInt (σ17.1 110 59)) → (W_M_emit 6 r19 σ17 (fun _ σ20 => W_M_valueDone  σ20 (fun _ σ21 => Q () σ21)))))))))))) ∧ (¬ (Int32.toInt v9) = 0 → (W_M_wanted_b272   σ9 Q))))) ∧ (¬ (Int32.toInt v7) = 0 → (W_M_wanted_b272   σ7 Q))))))))) ∧ (¬ (Int32.toInt v3) = 0 → (W_M_deeper  σ3 (fun v22 σ22 => ((Int32.toInt v22) = 0 → (Q () σ22)) ∧ (¬ (Int32.toInt v22) = 0 → (W_M_holdBack 7 7 0 σ22 (fun _ σ24 => ∀ σ25 : zS, zI σ24 110 60 0 = σ25 → (Q () σ25)))))))))) ∧ (¬ (Int32.toInt v1) = 0 → (W_M_deeper  σ1 (fun v26 σ26 => ((Int32.toInt v26) = 0 → (Q () σ26)) ∧ (¬ (Int32.toInt v26) = 0 → (((Int32.toInt (σ26.1 110 60)) = 0 → (W_M_opens 2 0 σ26 (fun _ σ29 => Q () σ29))) ∧ (¬ (Int32.toInt (σ26.1 110 60)) = 0 → (W_M_opens 1 0 σ26 (fun _ σ30 => Q () σ30)))))))))
theorem sb_M_wanted_129 {E : xV} {σ : zS} {K : zKt}  {Q : Unit → zS → Prop} (k : ∀ v s, Q v s → K none s) (h : W_M_wanted_b129  σ Q) : Wz E Y_M_wanted 129 [(0, .ref 110)] [] σ K := by
  unfold W_M_wanted_b129 at h
  refine z_aload_n (f := 0) (i := 0) (q := 0) (pc' := 130) ⟨by decide +kernel, rfl⟩ rfl rfl ?_
  refine z_bipush (i := 40) (v := 40) (pc' := 132) ⟨by decide +kernel, rfl⟩ (by decide) ?_
  refine w_invV (Z := Y_M_isSign) (idx := 569) (kb := 110) (As := [.int 40]) (rest := []) (pc' := 135) cl_13_569 rfl ⟨rfl, rfl⟩ ykfa_110_0 rfl ⟨⟨by decide, by decide⟩, rfl, rfl⟩ ⟨by decide +kernel, rfl⟩ rfl rfl (Nat.le_of_ble_eq_true rfl) rfl rfl ?_
  refine sF_M_isSign h (fun v1 σ1 h => ?_)
  show Wz E Y_M_wanted 135 [(0, .ref 110)] [.int v1] σ1 K
  refine z_if_eq (off := 30) (tgt := 165) (pc' := 138) ⟨by decide +kernel, by decide, rfl⟩ (fun h2 => ?_) (fun h2 => ?_)
  · have h := h.1 (qi_eq_t rfl (by decide) h2)
    refine z_aload_n (f := 0) (i := 0) (q := 0) (pc' := 166) ⟨by decide +kernel, rfl⟩ rfl rfl ?_
    refine z_bipush (i := 45) (v := 45) (pc' := 168) ⟨by decide +kernel, rfl⟩ (by decide) ?_
    refine w_invV (Z := Y_M_isSign) (idx := 569) (kb := 110) (As := [.int 45]) (rest := []) (pc' := 171) cl_13_569 rfl ⟨rfl, rfl⟩ ykfa_110_0 rfl ⟨⟨by decide, by decide⟩, rfl, rfl⟩ ⟨by decide +kernel, rfl⟩ rfl rfl (Nat.le_of_ble_eq_true rfl) rfl rfl ?_
    refine sF_M_isSign h (fun v3 σ3 h => ?_)
    show Wz E Y_M_wanted 171 [(0, .ref 110)] [.int v3] σ3 K
    refine z_if_eq (off := 27) (tgt := 198) (pc' := 174) ⟨by decide +kernel, by decide, rfl⟩ (fun h4 => ?_) (fun h4 => ?_)
    · have h := h.1 (qi_eq_t rfl (by decide) h4)
      refine z_aload_n (f := 0) (i := 0) (q := 0) (pc' := 199) ⟨by decide +kernel, rfl⟩ rfl rfl ?_
      refine w_geti (k := 110) (j := 28) (idx := 511) (pc' := 202) yfxe_13_511 ykfa_110_28 ⟨by decide +kernel, rfl⟩ ?_
      refine z_iconst (i := 2) (v := 2) (pc' := 203) ⟨by decide +kernel, rfl⟩ (by decide) ?_
      refine z_icmp_eq (off := 11) (tgt := 214) (pc' := 206) ⟨by decide +kernel, by decide, rfl⟩ (fun h5 => ?_) (fun h5 => ?_)
      · have h := h.1 (qi_eq_t rfl (by decide) h5)
        refine z_sub [0] rfl ?_
        exact sb_M_wanted_214  k h
      · have h := h.2 (qi_eq_f rfl (by decide) h5)
        refine z_aload_n (f := 0) (i := 0) (q := 0) (pc' := 207) ⟨by decide +kernel, rfl⟩ rfl rfl ?_
        refine w_geti (k := 110) (j := 28) (idx := 511) (pc' := 210) yfxe_13_511 ykfa_110_28 ⟨by decide +kernel, rfl⟩ ?_
        refine z_iconst (i := 3) (v := 3) (pc' := 211) ⟨by decide +kernel, rfl⟩ (by decide) ?_
        refine z_icmp_ne (off := 31) (tgt := 242) (pc' := 214) ⟨by decide +kernel, by decide, rfl⟩ (fun h6 => ?_) (fun h6 => ?_)
        · have h := h.2 (qi_ne_t rfl (by decide) h6)
          refine z_aload_n (f := 0) (i := 0) (q := 0) (pc' := 243) ⟨by decide +kernel, rfl⟩ rfl rfl ?_
          refine z_bipush (i := 110) (v := 110) (pc' := 245) ⟨by decide +kernel, rfl⟩ (by decide) ?_
          refine z_bipush (i := 111) (v := 111) (pc' := 247) ⟨by decide +kernel, rfl⟩ (by decide) ?_
          refine z_bipush (i := 119) (v := 119) (pc' := 249) ⟨by decide +kernel, rfl⟩ (by decide) ?_
          refine z_iconst (i := 0) (v := 0) (pc' := 250) ⟨by decide +kernel, rfl⟩ (by decide) ?_
          refine z_iconst (i := 0) (v := 0) (pc' := 251) ⟨by decide +kernel, rfl⟩ (by decide) ?_
          refine w_invV (Z := Y_M_isWord) (idx := 562) (kb := 110) (As := [.int 110, .int 111, .int 119, .int 0, .int 0]) (rest := []) (pc' := 254) cl_13_562 rfl ⟨rfl, rfl⟩ ykfa_110_0 rfl ⟨⟨by decide, by decide⟩, rfl, rfl⟩ ⟨by decide +kernel, rfl⟩ rfl rfl (Nat.le_of_ble_eq_true rfl) rfl rfl ?_
          refine sF_M_isWord h (fun v7 σ7 h => ?_)
          show Wz E Y_M_wanted 254 [(0, .ref 110)] [.int v7] σ7 K
          refine z_if_ne (off := 18) (tgt := 272) (pc' := 257) ⟨by decide +kernel, by decide, rfl⟩ (fun h8 => ?_) (fun h8 => ?_)
          · have h := h.2 (qi_ne_t rfl (by decide) h8)
            refine z_sub [0] rfl ?_
            exact sb_M_wanted_272  k h
          · have h := h.1 (qi_ne_f rfl (by decide) h8)
            refine z_aload_n (f := 0) (i := 0) (q := 0) (pc' := 258) ⟨by decide +kernel, rfl⟩ rfl rfl ?_
            refine z_bipush (i := 97) (v := 97) (pc' := 260) ⟨by decide +kernel, rfl⟩ (by decide) ?_
            refine z_bipush (i := 103) (v := 103) (pc' := 262) ⟨by decide +kernel, rfl⟩ (by decide) ?_
            refine z_bipush (i := 101) (v := 101) (pc' := 264) ⟨by decide +kernel, rfl⟩ (by decide) ?_
            refine z_iconst (i := 0) (v := 0) (pc' := 265) ⟨by decide +kernel, rfl⟩ (by decide) ?_
            refine z_iconst (i := 0) (v := 0) (pc' := 266) ⟨by decide +kernel, rfl⟩ (by decide) ?_
            refine w_invV (Z := Y_M_isWord) (idx := 562) (kb := 110) (As := [.int 97, .int 103, .int 101, .int 0, .int 0]) (rest := []) (pc' := 269) cl_13_562 rfl ⟨rfl, rfl⟩ ykfa_110_0 rfl ⟨⟨by decide, by decide⟩, rfl, rfl⟩ ⟨by decide +kernel, rfl⟩ rfl rfl (Nat.le_of_ble_eq_true rfl) rfl rfl ?_
            refine sF_M_isWord h (fun v9 σ9 h => ?_)
            show Wz E Y_M_wanted 269 [(0, .ref 110)] [.int v9] σ9 K
            refine z_if_eq (off := 35) (tgt := 304) (pc' := 272) ⟨by decide +kernel, by decide, rfl⟩ (fun h10 => ?_) (fun h10 => ?_)
            · have h := h.1 (qi_eq_t rfl (by decide) h10)
              refine z_aload_n (f := 0) (i := 0) (q := 0) (pc' := 305) ⟨by decide +kernel, rfl⟩ rfl rfl ?_
              refine z_bipush (i := 115) (v := 115) (pc' := 307) ⟨by decide +kernel, rfl⟩ (by decide) ?_
              refine z_bipush (i := 105) (v := 105) (pc' := 309) ⟨by decide +kernel, rfl⟩ (by decide) ?_
              refine z_bipush (i := 122) (v := 122) (pc' := 311) ⟨by decide +kernel, rfl⟩ (by decide) ?_
              refine z_bipush (i := 101) (v := 101) (pc' := 313) ⟨by decide +kernel, rfl⟩ (by decide) ?_
              refine z_iconst (i := 0) (v := 0) (pc' := 314) ⟨by decide +kernel, rfl⟩ (by decide) ?_
              refine w_invV (Z := Y_M_isWord) (idx := 562) (kb := 110) (As := [.int 115, .int 105, .int 122, .int 101, .int 0]) (rest := []) (pc' := 317) cl_13_562 rfl ⟨rfl, rfl⟩ ykfa_110_0 rfl ⟨⟨by decide, by decide⟩, rfl, rfl⟩ ⟨by decide +kernel, rfl⟩ rfl rfl (Nat.le_of_ble_eq_true rfl) rfl rfl ?_
              refine sF_M_isWord h (fun v11 σ11 h => ?_)
              show Wz E Y_M_wanted 317 [(0, .ref 110)] [.int v11] σ11 K
              refine z_if_eq (off := 32) (tgt := 349) (pc' := 320) ⟨by decide +kernel, by decide, rfl⟩ (fun h12 => ?_) (fun h12 => ?_)
              · have h := h.1 (qi_eq_t rfl (by decide) h12)
                refine z_aload_n (f := 0) (i := 0) (q := 0) (pc' := 350) ⟨by decide +kernel, rfl⟩ rfl rfl ?_
                refine w_invV (Z := Y_M_isFeature) (idx := 595) (kb := 110) (As := []) (rest := []) (pc' := 353) cl_13_595 rfl ⟨rfl, rfl⟩ ykfa_110_0 rfl ⟨⟨by decide, by decide⟩, rfl, rfl⟩ ⟨by decide +kernel, rfl⟩ rfl rfl (Nat.le_of_ble_eq_true rfl) rfl rfl ?_
                refine sF_M_isFeature h (fun v13 σ13 h => ?_)
                show Wz E Y_M_wanted 353 [(0, .ref 110)] [.int v13] σ13 K
                refine z_if_eq (off := 7) (tgt := 360) (pc' := 356) ⟨by decide +kernel, by decide, rfl⟩ (fun h14 => ?_) (fun h14 => ?_)
                · have h := h.1 (qi_eq_t rfl (by decide) h14)
                  exact z_vret rfl (by decide +kernel) (k _ _ h)
                · have h := h.2 (qi_eq_f rfl (by decide) h14)
                  refine z_aload_n (f := 0) (i := 0) (q := 0) (pc' := 357) ⟨by decide +kernel, rfl⟩ rfl rfl ?_
                  refine w_invV (Z := Y_M_featureDone) (idx := 604) (kb := 110) (As := []) (rest := []) (pc' := 360) cl_13_604 rfl ⟨rfl, rfl⟩ ykfa_110_0 rfl ⟨⟨by decide, by decide⟩, rfl, rfl⟩ ⟨by decide +kernel, rfl⟩ rfl rfl (Nat.le_of_ble_eq_true rfl) rfl rfl ?_
                  refine sF_M_featureDone h (fun _ σ15 h => ?_)
                  show Wz E Y_M_wanted 360 [(0, .ref 110)] [] σ15 K
                  exact z_vret rfl (by decide +kernel) (k _ _ h)
              · have h := h.2 (qi_eq_f rfl (by decide) h12)
                refine z_aload_n (f := 0) (i := 0) (q := 0) (pc' := 321) ⟨by decide +kernel, rfl⟩ rfl rfl ?_
                refine w_invV (Z := Y_M_token) (idx := 566) (kb := 110) (As := []) (rest := []) (pc' := 324) cl_13_566 rfl ⟨rfl, rfl⟩ ykfa_110_0 rfl ⟨⟨by decide, by decide⟩, rfl, rfl⟩ ⟨by decide +kernel, rfl⟩ rfl rfl (Nat.le_of_ble_eq_true rfl) rfl rfl ?_
                refine sF_M_token h (fun _ σ16 h => ?_)
                show Wz E Y_M_wanted 324 [(0, .ref 110)] [] σ16 K
                refine z_aload_n (f := 0) (i := 0) (q := 0) (pc' := 325) ⟨by decide +kernel, rfl⟩ rfl rfl ?_
                refine w_invV (Z := Y_M_isFeature) (idx := 595) (kb := 110) (As := []) (rest := []) (pc' := 328) cl_13_595 rfl ⟨rfl, rfl⟩ ykfa_110_0 rfl ⟨⟨by decide, by decide⟩, rfl, rfl⟩ ⟨by decide +kernel, rfl⟩ rfl rfl (Nat.le_of_ble_eq_true rfl) rfl rfl ?_
                refine sF_M_isFeature h (fun v17 σ17 h => ?_)
                show Wz E Y_M_wanted 328 [(0, .ref 110)] [.int v17] σ17 K
                refine z_if_eq (off := 32) (tgt := 360) (pc' := 331) ⟨by decide +kernel, by decide, rfl⟩ (fun h18 => ?_) (fun h18 => ?_)
                · have h := h.1 (qi_eq_t rfl (by decide) h18)
                  exact z_vret rfl (by decide +kernel) (k _ _ h)
                · have h := h.2 (qi_eq_f rfl (by decide) h18)
                  refine z_aload_n (f := 0) (i := 0) (q := 0) (pc' := 332) ⟨by decide +kernel, rfl⟩ rfl rfl ?_
                  refine z_bipush (i := 6) (v := 6) (pc' := 334) ⟨by decide +kernel, rfl⟩ (by decide) ?_
                  refine z_aload_n (f := 0) (i := 0) (q := 0) (pc' := 335) ⟨by decide +kernel, rfl⟩ rfl rfl ?_
                  refine w_geti (k := 110) (j := 59) (idx := 576) (pc' := 338) yfxe_13_576 ykfa_110_59 ⟨by decide +kernel, rfl⟩ ?_
                  refine z_i2l (v := (Int32.toInt64 (σ17.1 110 59))) (pc' := 339) ⟨by decide +kernel, rfl⟩ rfl ?_
                  have h := h (Int32.toInt64 (σ17.1 110 59)) (Int32.toInt_toInt64 _)
                  generalize (Int32.toInt64 (σ17.1 110 59)) = r19 at h ⊢
                  refine w_invV (Z := Y_M_emit) (idx := 552) (kb := 110) (As := [.int 6, .long r19]) (rest := []) (pc' := 342) cl_13_552 rfl ⟨rfl, rfl⟩ ykfa_110_0 rfl ⟨⟨by decide, by decide⟩, rfl, rfl⟩ ⟨by decide +kernel, rfl⟩ rfl rfl (Nat.le_of_ble_eq_true rfl) rfl rfl ?_
                  refine sF_M_emit h (fun _ σ20 h => ?_)
                  show Wz E Y_M_wanted 342 [(0, .ref 110)] [] σ20 K
                  refine z_aload_n (f := 0) (i := 0) (q := 0) (pc' := 343) ⟨by decide +kernel, rfl⟩ rfl rfl ?_
                  refine w_invV (Z := Y_M_valueDone) (idx := 601) (kb := 110) (As := []) (rest := []) (pc' := 346) cl_13_601 rfl ⟨rfl, rfl⟩ ykfa_110_0 rfl ⟨⟨by decide, by decide⟩, rfl, rfl⟩ ⟨by decide +kernel, rfl⟩ rfl rfl (Nat.le_of_ble_eq_true rfl) rfl rfl ?_
                  refine sF_M_valueDone h (fun _ σ21 h => ?_)
                  show Wz E Y_M_wanted 346 [(0, .ref 110)] [] σ21 K
                  refine z_goto (off := 14) (tgt := 360) (pc' := 349) ⟨by decide +kernel, by decide, rfl⟩ ?_
                  exact z_vret rfl (by decide +kernel) (k _ _ h)
            · have h := h.2 (qi_eq_f rfl (by decide) h10)
              refine z_sub [0] rfl ?_
              exact sb_M_wanted_272  k h
        · have h := h.1 (qi_ne_f rfl (by decide) h6)
          refine z_sub [0] rfl ?_
          exact sb_M_wanted_214  k h
    · have h := h.2 (qi_eq_f rfl (by decide) h4)
      refine z_aload_n (f := 0) (i := 0) (q := 0) (pc' := 175) ⟨by decide +kernel, rfl⟩ rfl rfl ?_
      refine w_invV (Z := Y_M_deeper) (idx := 588) (kb := 110) (As := []) (rest := []) (pc' := 178) cl_13_588 rfl ⟨rfl, rfl⟩ ykfa_110_0 rfl ⟨⟨by decide, by decide⟩, rfl, rfl⟩ ⟨by decide +kernel, rfl⟩ rfl rfl (Nat.le_of_ble_eq_true rfl) rfl rfl ?_
      refine sF_M_deeper h (fun v22 σ22 h => ?_)
      show Wz E Y_M_wanted 178 [(0, .ref 110)] [.int v22] σ22 K
      refine z_if_eq (off := 182) (tgt := 360) (pc' := 181) ⟨by decide +kernel, by decide, rfl⟩ (fun h23 => ?_) (fun h23 => ?_)
      · have h := h.1 (qi_eq_t rfl (by decide) h23)
        exact z_vret rfl (by decide +kernel) (k _ _ h)
      · have h := h.2 (qi_eq_f rfl (by decide) h23)
        refine z_aload_n (f := 0) (i := 0) (q := 0) (pc' := 182) ⟨by decide +kernel, rfl⟩ rfl rfl ?_
        refine z_bipush (i := 7) (v := 7) (pc' := 184) ⟨by decide +kernel, rfl⟩ (by decide) ?_
        refine z_bipush (i := 7) (v := 7) (pc' := 186) ⟨by decide +kernel, rfl⟩ (by decide) ?_
        refine z_iconst (i := 0) (v := 0) (pc' := 187) ⟨by decide +kernel, rfl⟩ (by decide) ?_
        refine w_invV (Z := Y_M_holdBack) (idx := 592) (kb := 110) (As := [.int 7, .int 7, .int 0]) (rest := []) (pc' := 190) cl_13_592 rfl ⟨rfl, rfl⟩ ykfa_110_0 rfl ⟨⟨by decide, by decide⟩, rfl, rfl⟩ ⟨by decide +kernel, rfl⟩ rfl rfl (Nat.le_of_ble_eq_true rfl) rfl rfl ?_
        refine sF_M_holdBack h (fun _ σ24 h => ?_)
        show Wz E Y_M_wanted 190 [(0, .ref 110)] [] σ24 K
        refine z_aload_n (f := 0) (i := 0) (q := 0) (pc' := 191) ⟨by decide +kernel, rfl⟩ rfl rfl ?_
        refine z_iconst (i := 0) (v := 0) (pc' := 192) ⟨by decide +kernel, rfl⟩ (by decide) ?_
        refine w_putz (k := 110) (j := 60) (idx := 585) (pc' := 195) yfxz_13_585 ykfa_110_60 (by decide) ⟨by decide +kernel, rfl⟩ ?_
        generalize hs25 : zI σ24 110 60 0 = σ25
        have h := h σ25 hs25
        refine z_goto (off := 165) (tgt := 360) (pc' := 198) ⟨by decide +kernel, by decide, rfl⟩ ?_
        exact z_vret rfl (by decide +kernel) (k _ _ h)
  · have h := h.2 (qi_eq_f rfl (by decide) h2)
    refine z_aload_n (f := 0) (i := 0) (q := 0) (pc' := 139) ⟨by decide +kernel, rfl⟩ rfl rfl ?_
    refine w_invV (Z := Y_M_deeper) (idx := 588) (kb := 110) (As := []) (rest := []) (pc' := 142) cl_13_588 rfl ⟨rfl, rfl⟩ ykfa_110_0 rfl ⟨⟨by decide, by decide⟩, rfl, rfl⟩ ⟨by decide +kernel, rfl⟩ rfl rfl (Nat.le_of_ble_eq_true rfl) rfl rfl ?_
    refine sF_M_deeper h (fun v26 σ26 h => ?_)
    show Wz E Y_M_wanted 142 [(0, .ref 110)] [.int v26] σ26 K
    refine z_if_eq (off := 218) (tgt := 360) (pc' := 145) ⟨by decide +kernel, by decide, rfl⟩ (fun h27 => ?_) (fun h27 => ?_)
    · have h := h.1 (qi_eq_t rfl (by decide) h27)
      exact z_vret rfl (by decide +kernel) (k _ _ h)
    · have h := h.2 (qi_eq_f rfl (by decide) h27)
      refine z_aload_n (f := 0) (i := 0) (q := 0) (pc' := 146) ⟨by decide +kernel, rfl⟩ rfl rfl ?_
      refine z_aload_n (f := 0) (i := 0) (q := 0) (pc' := 147) ⟨by decide +kernel, rfl⟩ rfl rfl ?_
      refine w_geti (k := 110) (j := 60) (idx := 585) (pc' := 150) yfxe_13_585 ykfa_110_60 ⟨by decide +kernel, rfl⟩ ?_
      refine z_if_eq (off := 7) (tgt := 157) (pc' := 153) ⟨by decide +kernel, by decide, rfl⟩ (fun h28 => ?_) (fun h28 => ?_)
      · have h := h.1 (qi_eq_t rfl (by decide) h28)
        refine z_iconst (i := 2) (v := 2) (pc' := 158) ⟨by decide +kernel, rfl⟩ (by decide) ?_
        refine z_iconst (i := 0) (v := 0) (pc' := 159) ⟨by decide +kernel, rfl⟩ (by decide) ?_
        refine w_invV (Z := Y_M_opens) (idx := 598) (kb := 110) (As := [.int 2, .int 0]) (rest := []) (pc' := 162) cl_13_598 rfl ⟨rfl, rfl⟩ ykfa_110_0 rfl ⟨⟨by decide, by decide⟩, rfl, rfl⟩ ⟨by decide +kernel, rfl⟩ rfl rfl (Nat.le_of_ble_eq_true rfl) rfl rfl ?_
        refine sF_M_opens h (fun _ σ29 h => ?_)
        show Wz E Y_M_wanted 162 [(0, .ref 110)] [] σ29 K
        refine z_goto (off := 198) (tgt := 360) (pc' := 165) ⟨by decide +kernel, by decide, rfl⟩ ?_
        exact z_vret rfl (by decide +kernel) (k _ _ h)
      · have h := h.2 (qi_eq_f rfl (by decide) h28)
        refine z_iconst (i := 1) (v := 1) (pc' := 154) ⟨by decide +kernel, rfl⟩ (by decide) ?_
        refine z_goto (off := 4) (tgt := 158) (pc' := 157) ⟨by decide +kernel, by decide, rfl⟩ ?_
        refine z_iconst (i := 0) (v := 0) (pc' := 159) ⟨by decide +kernel, rfl⟩ (by decide) ?_
        refine w_invV (Z := Y_M_opens) (idx := 598) (kb := 110) (As := [.int 1, .int 0]) (rest := []) (pc' := 162) cl_13_598 rfl ⟨rfl, rfl⟩ ykfa_110_0 rfl ⟨⟨by decide, by decide⟩, rfl, rfl⟩ ⟨by decide +kernel, rfl⟩ rfl rfl (Nat.le_of_ble_eq_true rfl) rfl rfl ?_
        refine sF_M_opens h (fun _ σ30 h => ?_)
        show Wz E Y_M_wanted 162 [(0, .ref 110)] [] σ30 K
        refine z_goto (off := 198) (tgt := 360) (pc' := 165) ⟨by decide +kernel, by decide, rfl⟩ ?_
        exact z_vret rfl (by decide +kernel) (k _ _ h)

end
