noncomputable section
/-! ===== THE READER, 77: writes ===== -/
theorem wr_ne {m : Mt} {k j i : Nat} {x : Int} (h : i ≠ j) : wrM m k j x k i = m k i := by
  show (bif Nat.beq k k && Nat.beq i j then x else m k i) = m k i
  have : Nat.beq i j = false := by
    cases e : Nat.beq i j with
    | false => rfl
    | true => exact absurd (Nat.eq_of_beq_eq_true e) h
  rw [this, Bool.and_false]
  rfl
theorem wr_at {m : Mt} {k j : Nat} {x : Int} : wrM m k j x k j = x := by
  show (bif Nat.beq k k && Nat.beq j j then x else m k j) = x
  rw [Nat.beq_refl, Nat.beq_refl]
  rfl
theorem TKs_w {m m' : Mt} {n : Nat} (ht : tx9 m' = tx9 m) (h : ∀ i, i < n → m' 25 i = m 25 i ∧ m' 24 i = m 24 i ∧ m' 26 i = m 26 i) (hT : TKs m n) : TKs m' n := by
  obtain ⟨h1, h2⟩ := hT
  refine ⟨fun i hi => ?_, fun i hi => ?_⟩
  · obtain ⟨e1, e2, e3⟩ := h i hi
    unfold TK9
    rw [ht, e1, e2, e3]
    exact h1 i hi
  · rw [ht]
    exact h2 i hi
noncomputable def vwX (m : Mt) : Mt := fun k i => bif Nat.beq k 110 then (bif Nat.beq i 1 then m 110 1 else (bif Nat.beq i 6 then m 110 6 else (bif Nat.beq i 7 then m 110 7 else (bif Nat.beq i 20 then m 110 20 else (0))))) else m k i
theorem vwX_e {m : Mt} {j : Nat} {x : Int} (hj : j ≠ 1 ∧ j ≠ 6 ∧ j ≠ 7 ∧ j ≠ 20) : vwX (wrM m 110 j x) = vwX m := by
  have q : ∀ {f : Nat}, j ≠ f → wrM m 110 j x 110 f = m 110 f := fun {f} hf => by
    show (bif Nat.beq 110 110 && Nat.beq f j then x else m 110 f) = m 110 f
    have : Nat.beq f j = false := by
      cases e : Nat.beq f j with
      | false => rfl
      | true => exact absurd (Nat.eq_of_beq_eq_true e).symm hf
    rw [this, Bool.and_false]
    rfl
  obtain ⟨q1, q6, q7, q20⟩ := hj
  funext k i
  unfold vwX
  rw [q q1, q q6, q q7, q q20]
  cases hk : Nat.beq k 110 with
  | true => rfl
  | false =>
    show (bif Nat.beq k 110 && Nat.beq i j then x else m k i) = m k i
    rw [hk]
    rfl
noncomputable def vwY (m : Mt) : Mt := fun k i => bif Nat.beq k 110 then (bif Nat.beq i 1 then m 110 1 else (bif Nat.beq i 6 then m 110 6 else (bif Nat.beq i 7 then m 110 7 else (bif Nat.beq i 20 then m 110 20 else (bif Nat.beq i 27 then m 110 27 else (bif Nat.beq i 28 then m 110 28 else (bif Nat.beq i 29 then m 110 29 else (bif Nat.beq i 30 then m 110 30 else (0))))))))) else m k i
theorem vwY_e {m : Mt} {j : Nat} {x : Int} (hj : j ≠ 1 ∧ j ≠ 6 ∧ j ≠ 7 ∧ j ≠ 20 ∧ j ≠ 27 ∧ j ≠ 28 ∧ j ≠ 29 ∧ j ≠ 30) : vwY (wrM m 110 j x) = vwY m := by
  have q : ∀ {f : Nat}, j ≠ f → wrM m 110 j x 110 f = m 110 f := fun {f} hf => by
    show (bif Nat.beq 110 110 && Nat.beq f j then x else m 110 f) = m 110 f
    have : Nat.beq f j = false := by
      cases e : Nat.beq f j with
      | false => rfl
      | true => exact absurd (Nat.eq_of_beq_eq_true e).symm hf
    rw [this, Bool.and_false]
    rfl
  obtain ⟨q1, q6, q7, q20, q27, q28, q29, q30⟩ := hj
  funext k i
  unfold vwY
  rw [q q1, q q6, q q7, q q20, q q27, q q28, q q29, q q30]
  cases hk : Nat.beq k 110 with
  | true => rfl
  | false =>
    show (bif Nat.beq k 110 && Nat.beq i j then x else m k i) = m k i
    rw [hk]
    rfl
section R77
variable {τ : Tf} {m : Mt} {j : Nat} {x : Int}
theorem dl_cg {m m' : Mt} (h : ∀ i, m' 149 i = m 149 i) {r a : Nat} : ∀ {n : Nat}, dlX m' r a n = dlX m r a n
  | 0 => rfl
  | n + 1 => by
    show (if r ≤ (m' 149 (a + n)).toNat then dlX m' r a n else n + 1) = (if r ≤ (m 149 (a + n)).toNat then dlX m r a n else n + 1)
    rw [h, dl_cg h]
theorem gX_w {τ : Tf} {m m' : Mt} (ht : tx9 m' = tx9 m) (hm : m' 110 1 = m 110 1) (h : ∀ i : Nat, m' 143 i = m 143 i ∧ m' 144 i = m 144 i ∧ m' 145 i = m 145 i ∧ m' 146 i = m 146 i ∧ m' 149 i = m 149 i ∧ m' 148 i = m 148 i) (k : g_X τ m) : g_X τ m' := by
  obtain ⟨h1, h2, h3, h4⟩ := k
  refine ⟨fun a b e0 e1 hw => ?_, fun a b c e0 e1 e2 hw => ?_, fun a1 a2 a3 a4 a5 a6 a7 a8 e0 e1 e2 e3 e4 e5 e6 e7 => ?_, fun a b c e0 e1 e2 => ?_⟩
  · have q := h1 a b e0 e1 hw
    show (0 ≤ b ∧ b ≤ m' 110 1) ∧ ∃ r b', CM9 (tx9 m') b.toNat r ∧ YE9 r a b'
    rw [hm, ht]
    exact q
  · have q := h2 a b c e0 e1 e2 hw
    show ∃ r, CM9 (tx9 m') c.toNat r ∧ YE9 r a b
    rw [ht]
    exact q
  · have q := h3 a1 a2 a3 a4 a5 a6 a7 a8 e0 e1 e2 e3 e4 e5 e6 e7
    exact XS_w q ht hm (fun i _ => ⟨(h i).1, (h i).2.1, (h i).2.2.1, (h i).2.2.2.1⟩) (fun i _ => ⟨(h i).2.2.2.2.1, (h i).2.2.2.2.2⟩) (by rw [(h _).1]) (by rw [(h _).2.1]) (by rw [(h _).2.2.1]) (by rw [(h _).2.2.2.1])
  · show ElX (tx9 m') c b
    rw [ht]
    exact h4 a b c e0 e1 e2
theorem gR_w {τ : Tf} {m m' : Mt} (h : ∀ i : Nat, m' 146 i = m 146 i ∧ m' 149 i = m 149 i ∧ m' 148 i = m 148 i) (k : g_R τ m) : g_R τ m' := by
  obtain ⟨h1, h2, h3, h4, h5, h6, h7⟩ := k
  have hW : ∀ i, m' 149 i = m 149 i := fun i => (h i).2.1
  have ec : ∀ n, cnX m' n = cnX m n := fun n => cn_cg (fun i _ => hW i)
  refine ⟨fun a b e0 e1 => ?_, fun a b c e0 e1 e2 => ?_, fun a b c d e e0 e1 e2 e3 e4 => ?_, fun a b c e0 e1 e2 => ?_, fun a b c e0 e1 e2 => ?_, fun a b c d e f e0 e1 e2 e3 e4 e5 => ?_, fun a b c e0 e1 e2 => ?_⟩
  · rw [(h _).1]; exact h1 a b e0 e1
  · obtain ⟨q1, q2, q3⟩ := h2 a b c e0 e1 e2
    refine ⟨q1, q2, fun i hi => ?_⟩
    rw [(h i).2.1, (h i).2.2]
    exact q3 i hi
  · rw [dl_cg hW]; exact h3 a b c d e e0 e1 e2 e3 e4
  · rw [ec]; exact h4 a b c e0 e1 e2
  · rw [ec]; exact h5 a b c e0 e1 e2
  · rw [dl_cg hW]; exact h6 a b c d e f e0 e1 e2 e3 e4 e5
  · rw [ec]; exact h7 a b c e0 e1 e2
theorem mo_tok (e : vwX (wrM m 110 j x) = vwX m) (h : g_tok τ m) : g_tok τ (wrM m 110 j x) := by
  have h2 : g_tok τ (vwX m) := h
  rw [← e] at h2
  exact h2
theorem mo_sc1 (e : vwX (wrM m 110 j x) = vwX m) (h : g_sc1 τ m) : g_sc1 τ (wrM m 110 j x) := by
  have h2 : g_sc1 τ (vwX m) := h
  rw [← e] at h2
  exact h2
theorem mo_sc2 (e : vwX (wrM m 110 j x) = vwX m) (h : g_sc2 τ m) : g_sc2 τ (wrM m 110 j x) := by
  have h2 : g_sc2 τ (vwX m) := h
  rw [← e] at h2
  exact h2
theorem mo_T (e : vwY (wrM m 110 j x) = vwY m) (h : g_T τ m) : g_T τ (wrM m 110 j x) := by
  have h2 : g_T τ (vwY m) := h
  rw [← e] at h2
  exact h2
theorem mo_I (e : vwX (wrM m 110 j x) = vwX m) (h : g_I τ m) : g_I τ (wrM m 110 j x) := by
  have h2 : g_I τ (vwX m) := h
  rw [← e] at h2
  exact h2
theorem mo_F (e : vwX (wrM m 110 j x) = vwX m) (h : g_F τ m) : g_F τ (wrM m 110 j x) := by
  have h2 : g_F τ (vwX m) := h
  rw [← e] at h2
  exact h2
theorem mo_N (e : vwX (wrM m 110 j x) = vwX m) (h : g_N τ m) : g_N τ (wrM m 110 j x) := by
  have h2 : g_N τ (vwX m) := h
  rw [← e] at h2
  exact h2
theorem mo_Y (e : vwX (wrM m 110 j x) = vwX m) (h : g_Y τ m) : g_Y τ (wrM m 110 j x) := by
  have h2 : g_Y τ (vwX m) := h
  rw [← e] at h2
  exact h2
theorem mo_Z (e : vwX (wrM m 110 j x) = vwX m) (h : g_Z τ m) : g_Z τ (wrM m 110 j x) := by
  have h2 : g_Z τ (vwX m) := h
  rw [← e] at h2
  exact h2
theorem mo_A (e : vwX (wrM m 110 j x) = vwX m) (h : g_A τ m) : g_A τ (wrM m 110 j x) := by
  have h2 : g_A τ (vwX m) := h
  rw [← e] at h2
  exact h2
theorem mo_B (e : vwX (wrM m 110 j x) = vwX m) (h : g_B τ m) : g_B τ (wrM m 110 j x) := by
  have h2 : g_B τ (vwX m) := h
  rw [← e] at h2
  exact h2
theorem mo_C (e : vwX (wrM m 110 j x) = vwX m) (h : g_C τ m) : g_C τ (wrM m 110 j x) := by
  have h2 : g_C τ (vwX m) := h
  rw [← e] at h2
  exact h2
theorem mo_X (e : vwX (wrM m 110 j x) = vwX m) (h : g_X τ m) : g_X τ (wrM m 110 j x) := gX_w (m := m) (m' := wrM m 110 j x) (show tx9 (vwX (wrM m 110 j x)) = tx9 (vwX m) by rw [e]) (show vwX (wrM m 110 j x) 110 1 = vwX m 110 1 by rw [e]) (fun i => ⟨rfl, rfl, rfl, rfl, rfl, rfl⟩) h
theorem mo_R (_e : vwX (wrM m 110 j x) = vwX m) (h : g_R τ m) : g_R τ (wrM m 110 j x) := gR_w (m := m) (m' := wrM m 110 j x) (fun i => ⟨rfl, rfl, rfl⟩) h
theorem mo_f4 (e : vwX (wrM m 110 j x) = vwX m) (h : g_f4 τ m) : g_f4 τ (wrM m 110 j x) := by
  have h2 : g_f4 τ (vwX m) := h
  rw [← e] at h2
  exact h2
theorem mo_0 (e : vwX (wrM m 110 j x) = vwX m) (h : 0 ≤ m 110 1 ∧ m 110 1 ≤ 1200) : 0 ≤ wrM m 110 j x 110 1 ∧ wrM m 110 j x 110 1 ≤ 1200 := by
  have h2 : 0 ≤ vwX m 110 1 ∧ vwX m 110 1 ≤ 1200 := h
  rw [← e] at h2
  exact h2
theorem mo_QZ (e : vwX (wrM m 110 j x) = vwX m) (h : ∀ Q2 Z2 : Int, τ 1128 = some Q2 → τ 1129 = some Z2 → Pl9 m Q2 ∧ Z2 = (sk9 (tx9 m) Q2.toNat : Int)) : ∀ Q2 Z2 : Int, τ 1128 = some Q2 → τ 1129 = some Z2 → Pl9 (wrM m 110 j x) Q2 ∧ Z2 = (sk9 (tx9 (wrM m 110 j x)) Q2.toNat : Int) := by
  have h2 : ∀ Q2 Z2 : Int, τ 1128 = some Q2 → τ 1129 = some Z2 → Pl9 (vwX m) Q2 ∧ Z2 = (sk9 (tx9 (vwX m)) Q2.toNat : Int) := h
  rw [← e] at h2
  exact h2
end R77
noncomputable def wu_z1 : Ru := ([(7, (0, (0, (0, 0))))], ([1199], ([], (false, ([], ([], ([], none)))))))
theorem wk_z1 : WrOk SR 1 wu_z1 := by
  intro τ m g j x hi hc ha hS
  obtain ⟨i0, _⟩ := hi
  have xp : g 0 = (j : Int) := i0
  obtain ⟨a0, _⟩ := ha
  have n1199 : τ 1199 = none := a0
  exact fun h => absurd n1199 h
noncomputable def wu_z23 : Ru := ([(7, (0, (0, (0, 0))))], ([1199], ([], (false, ([], ([], ([], none)))))))
theorem wk_z23 : WrOk SR 23 wu_z23 := by
  intro τ m g j x hi hc ha hS
  obtain ⟨i0, _⟩ := hi
  have xp : g 0 = (j : Int) := i0
  obtain ⟨a0, _⟩ := ha
  have n1199 : τ 1199 = none := a0
  exact fun h => absurd n1199 h
noncomputable def wu_z24 : Ru := ([(7, (0, (0, (0, 0))))], ([1199], ([], (false, ([], ([], ([], none)))))))
theorem wk_z24 : WrOk SR 24 wu_z24 := by
  intro τ m g j x hi hc ha hS
  obtain ⟨i0, _⟩ := hi
  have xp : g 0 = (j : Int) := i0
  obtain ⟨a0, _⟩ := ha
  have n1199 : τ 1199 = none := a0
  exact fun h => absurd n1199 h
noncomputable def wu_k24n : Ru := ([(7, (0, (0, (0, 0))))], ([1101, 1102], ([], (false, ([], ([], ([], none)))))))
theorem wk_k24n : WrOk SR 24 wu_k24n := by
  intro τ m g j x hi hc ha hS
  obtain ⟨i0, _⟩ := hi
  have xp : g 0 = (j : Int) := i0
  obtain ⟨a0, a1, _⟩ := ha
  have n1101 : τ 1101 = none := a0
  have n1102 : τ 1102 = none := a1
  refine fun hM => ?_
  obtain ⟨h0, k_tok, k_sc1, k_sc2, k_T, k_I, k_F, k_N, k_Y, k_Z, k_A, k_B, k_C, k_X, k_R, k_f4⟩ := hS hM
  have k_tok0 := k_tok
  obtain ⟨h_L, h_n, h_nF⟩ := k_tok0
  exact ⟨h0, ⟨h_L, fun _ e0 => no9 n1101 e0, fun _ e0 => no9 n1102 e0⟩, k_sc1, k_sc2, k_T, k_I, k_F, k_N, k_Y, k_Z, k_A, k_B, k_C, gX_w (τ := τ) (m := m) (m' := wrM m 24 j x) rfl rfl (fun i => ⟨rfl, rfl, rfl, rfl, rfl, rfl⟩) k_X, gR_w (τ := τ) (m := m) (m' := wrM m 24 j x) (fun i => ⟨rfl, rfl, rfl⟩) k_R, k_f4⟩
noncomputable def wu_k24a : Ru := ([(7, (0, (0, (0, 0)))), (0, (1101, (0, (0, 0))))], ([1102], ([([(0, (-1)), (1, 1)], 0)], (false, ([], ([], ([], none)))))))
theorem wk_k24a : WrOk SR 24 wu_k24a := by
  intro τ m g j x hi hc ha hS
  obtain ⟨i0, i1, _⟩ := hi
  have xp : g 0 = (j : Int) := i0
  have t1101 : τ 1101 = some (g 1) := i1
  obtain ⟨c0, _⟩ := hc
  have c0 : (-1) * g 0 + 1 * g 1 ≤ 0 := d2 c0
  obtain ⟨a0, _⟩ := ha
  have n1102 : τ 1102 = none := a0
  refine fun hM => ?_
  obtain ⟨h0, k_tok, k_sc1, k_sc2, k_T, k_I, k_F, k_N, k_Y, k_Z, k_A, k_B, k_C, k_X, k_R, k_f4⟩ := hS hM
  have k_tok0 := k_tok
  obtain ⟨h_L, h_n, h_nF⟩ := k_tok0
  exact ⟨h0, ⟨h_L, fun n9 e0 => by
      have en := Option.some.inj (t1101.symm.trans e0)
      obtain ⟨y1, y2⟩ := h_n _ e0
      exact ⟨y1, TKs_w (m := m) (m' := wrM m 24 j x) rfl (fun i hi => ⟨rfl, wr_ne (by omega), rfl⟩) y2⟩, fun _ e0 => no9 n1102 e0⟩, k_sc1, k_sc2, k_T, k_I, k_F, k_N, k_Y, k_Z, k_A, k_B, k_C, gX_w (τ := τ) (m := m) (m' := wrM m 24 j x) rfl rfl (fun i => ⟨rfl, rfl, rfl, rfl, rfl, rfl⟩) k_X, gR_w (τ := τ) (m := m) (m' := wrM m 24 j x) (fun i => ⟨rfl, rfl, rfl⟩) k_R, k_f4⟩
noncomputable def wu_z25 : Ru := ([(7, (0, (0, (0, 0))))], ([1199], ([], (false, ([], ([], ([], none)))))))
theorem wk_z25 : WrOk SR 25 wu_z25 := by
  intro τ m g j x hi hc ha hS
  obtain ⟨i0, _⟩ := hi
  have xp : g 0 = (j : Int) := i0
  obtain ⟨a0, _⟩ := ha
  have n1199 : τ 1199 = none := a0
  exact fun h => absurd n1199 h
noncomputable def wu_k25n : Ru := ([(7, (0, (0, (0, 0))))], ([1101, 1102], ([], (false, ([], ([], ([], none)))))))
theorem wk_k25n : WrOk SR 25 wu_k25n := by
  intro τ m g j x hi hc ha hS
  obtain ⟨i0, _⟩ := hi
  have xp : g 0 = (j : Int) := i0
  obtain ⟨a0, a1, _⟩ := ha
  have n1101 : τ 1101 = none := a0
  have n1102 : τ 1102 = none := a1
  refine fun hM => ?_
  obtain ⟨h0, k_tok, k_sc1, k_sc2, k_T, k_I, k_F, k_N, k_Y, k_Z, k_A, k_B, k_C, k_X, k_R, k_f4⟩ := hS hM
  have k_tok0 := k_tok
  obtain ⟨h_L, h_n, h_nF⟩ := k_tok0
  exact ⟨h0, ⟨h_L, fun _ e0 => no9 n1101 e0, fun _ e0 => no9 n1102 e0⟩, k_sc1, k_sc2, k_T, k_I, k_F, k_N, k_Y, k_Z, k_A, k_B, k_C, gX_w (τ := τ) (m := m) (m' := wrM m 25 j x) rfl rfl (fun i => ⟨rfl, rfl, rfl, rfl, rfl, rfl⟩) k_X, gR_w (τ := τ) (m := m) (m' := wrM m 25 j x) (fun i => ⟨rfl, rfl, rfl⟩) k_R, k_f4⟩
noncomputable def wu_k25a : Ru := ([(7, (0, (0, (0, 0)))), (0, (1101, (0, (0, 0))))], ([1102], ([([(0, (-1)), (1, 1)], 0)], (false, ([], ([], ([], none)))))))
theorem wk_k25a : WrOk SR 25 wu_k25a := by
  intro τ m g j x hi hc ha hS
  obtain ⟨i0, i1, _⟩ := hi
  have xp : g 0 = (j : Int) := i0
  have t1101 : τ 1101 = some (g 1) := i1
  obtain ⟨c0, _⟩ := hc
  have c0 : (-1) * g 0 + 1 * g 1 ≤ 0 := d2 c0
  obtain ⟨a0, _⟩ := ha
  have n1102 : τ 1102 = none := a0
  refine fun hM => ?_
  obtain ⟨h0, k_tok, k_sc1, k_sc2, k_T, k_I, k_F, k_N, k_Y, k_Z, k_A, k_B, k_C, k_X, k_R, k_f4⟩ := hS hM
  have k_tok0 := k_tok
  obtain ⟨h_L, h_n, h_nF⟩ := k_tok0
  exact ⟨h0, ⟨h_L, fun n9 e0 => by
      have en := Option.some.inj (t1101.symm.trans e0)
      obtain ⟨y1, y2⟩ := h_n _ e0
      exact ⟨y1, TKs_w (m := m) (m' := wrM m 25 j x) rfl (fun i hi => ⟨wr_ne (by omega), rfl, rfl⟩) y2⟩, fun _ e0 => no9 n1102 e0⟩, k_sc1, k_sc2, k_T, k_I, k_F, k_N, k_Y, k_Z, k_A, k_B, k_C, gX_w (τ := τ) (m := m) (m' := wrM m 25 j x) rfl rfl (fun i => ⟨rfl, rfl, rfl, rfl, rfl, rfl⟩) k_X, gR_w (τ := τ) (m := m) (m' := wrM m 25 j x) (fun i => ⟨rfl, rfl, rfl⟩) k_R, k_f4⟩
noncomputable def wu_z26 : Ru := ([(7, (0, (0, (0, 0))))], ([1199], ([], (false, ([], ([], ([], none)))))))
theorem wk_z26 : WrOk SR 26 wu_z26 := by
  intro τ m g j x hi hc ha hS
  obtain ⟨i0, _⟩ := hi
  have xp : g 0 = (j : Int) := i0
  obtain ⟨a0, _⟩ := ha
  have n1199 : τ 1199 = none := a0
  exact fun h => absurd n1199 h
noncomputable def wu_k26n : Ru := ([(7, (0, (0, (0, 0))))], ([1101, 1102], ([], (false, ([], ([], ([], none)))))))
theorem wk_k26n : WrOk SR 26 wu_k26n := by
  intro τ m g j x hi hc ha hS
  obtain ⟨i0, _⟩ := hi
  have xp : g 0 = (j : Int) := i0
  obtain ⟨a0, a1, _⟩ := ha
  have n1101 : τ 1101 = none := a0
  have n1102 : τ 1102 = none := a1
  refine fun hM => ?_
  obtain ⟨h0, k_tok, k_sc1, k_sc2, k_T, k_I, k_F, k_N, k_Y, k_Z, k_A, k_B, k_C, k_X, k_R, k_f4⟩ := hS hM
  have k_tok0 := k_tok
  obtain ⟨h_L, h_n, h_nF⟩ := k_tok0
  exact ⟨h0, ⟨h_L, fun _ e0 => no9 n1101 e0, fun _ e0 => no9 n1102 e0⟩, k_sc1, k_sc2, k_T, k_I, k_F, k_N, k_Y, k_Z, k_A, k_B, k_C, gX_w (τ := τ) (m := m) (m' := wrM m 26 j x) rfl rfl (fun i => ⟨rfl, rfl, rfl, rfl, rfl, rfl⟩) k_X, gR_w (τ := τ) (m := m) (m' := wrM m 26 j x) (fun i => ⟨rfl, rfl, rfl⟩) k_R, k_f4⟩
noncomputable def wu_k26a : Ru := ([(7, (0, (0, (0, 0)))), (0, (1101, (0, (0, 0))))], ([1102], ([([(0, (-1)), (1, 1)], 0)], (false, ([], ([], ([], none)))))))
theorem wk_k26a : WrOk SR 26 wu_k26a := by
  intro τ m g j x hi hc ha hS
  obtain ⟨i0, i1, _⟩ := hi
  have xp : g 0 = (j : Int) := i0
  have t1101 : τ 1101 = some (g 1) := i1
  obtain ⟨c0, _⟩ := hc
  have c0 : (-1) * g 0 + 1 * g 1 ≤ 0 := d2 c0
  obtain ⟨a0, _⟩ := ha
  have n1102 : τ 1102 = none := a0
  refine fun hM => ?_
  obtain ⟨h0, k_tok, k_sc1, k_sc2, k_T, k_I, k_F, k_N, k_Y, k_Z, k_A, k_B, k_C, k_X, k_R, k_f4⟩ := hS hM
  have k_tok0 := k_tok
  obtain ⟨h_L, h_n, h_nF⟩ := k_tok0
  exact ⟨h0, ⟨h_L, fun n9 e0 => by
      have en := Option.some.inj (t1101.symm.trans e0)
      obtain ⟨y1, y2⟩ := h_n _ e0
      exact ⟨y1, TKs_w (m := m) (m' := wrM m 26 j x) rfl (fun i hi => ⟨rfl, rfl, wr_ne (by omega)⟩) y2⟩, fun _ e0 => no9 n1102 e0⟩, k_sc1, k_sc2, k_T, k_I, k_F, k_N, k_Y, k_Z, k_A, k_B, k_C, gX_w (τ := τ) (m := m) (m' := wrM m 26 j x) rfl rfl (fun i => ⟨rfl, rfl, rfl, rfl, rfl, rfl⟩) k_X, gR_w (τ := τ) (m := m) (m' := wrM m 26 j x) (fun i => ⟨rfl, rfl, rfl⟩) k_R, k_f4⟩
noncomputable def wu_z111 : Ru := ([(7, (0, (0, (0, 0))))], ([1199], ([], (false, ([], ([], ([], none)))))))
theorem wk_z111 : WrOk SR 111 wu_z111 := by
  intro τ m g j x hi hc ha hS
  obtain ⟨i0, _⟩ := hi
  have xp : g 0 = (j : Int) := i0
  obtain ⟨a0, _⟩ := ha
  have n1199 : τ 1199 = none := a0
  exact fun h => absurd n1199 h
noncomputable def wu_z128 : Ru := ([(7, (0, (0, (0, 0))))], ([1199], ([], (false, ([], ([], ([], none)))))))
theorem wk_z128 : WrOk SR 128 wu_z128 := by
  intro τ m g j x hi hc ha hS
  obtain ⟨i0, _⟩ := hi
  have xp : g 0 = (j : Int) := i0
  obtain ⟨a0, _⟩ := ha
  have n1199 : τ 1199 = none := a0
  exact fun h => absurd n1199 h
noncomputable def wu_z110 : Ru := ([(7, (0, (0, (0, 0))))], ([1199], ([], (false, ([], ([], ([], none)))))))
theorem wk_z110 : WrOk SR 110 wu_z110 := by
  intro τ m g j x hi hc ha hS
  obtain ⟨i0, _⟩ := hi
  have xp : g 0 = (j : Int) := i0
  obtain ⟨a0, _⟩ := ha
  have n1199 : τ 1199 = none := a0
  exact fun h => absurd n1199 h
noncomputable def wu_o0 : Ru := ([(7, (0, (0, (0, 0))))], ([], ([([(0, (-1))], 0), ([(0, 1)], 0)], (false, ([], ([], ([], none)))))))
theorem wk_o0 : WrOk SR 110 wu_o0 := by
  intro τ m g j x hi hc ha hS
  obtain ⟨i0, _⟩ := hi
  have xp : g 0 = (j : Int) := i0
  obtain ⟨c0, c1, _⟩ := hc
  have c0 : (-1) * g 0 ≤ 0 := d1 c0
  have c1 : 1 * g 0 ≤ 0 := d1 c1
  refine fun hM => ?_
  obtain ⟨h0, k_tok, k_sc1, k_sc2, k_T, k_I, k_F, k_N, k_Y, k_Z, k_A, k_B, k_C, k_X, k_R, k_f4⟩ := hS hM
  have e := vwX_e (m := m) (j := j) (x := x) ⟨by omega, by omega, by omega, by omega⟩
  have e2 := vwY_e (m := m) (j := j) (x := x) ⟨by omega, by omega, by omega, by omega, by omega, by omega, by omega, by omega⟩
  exact ⟨mo_0 e h0, mo_tok e k_tok, mo_sc1 e k_sc1, mo_sc2 e k_sc2, mo_T e2 k_T, mo_I e k_I, mo_F e k_F, mo_N e k_N, mo_Y e k_Y, mo_Z e k_Z, mo_A e k_A, mo_B e k_B, mo_C e k_C, mo_X e k_X, mo_R e k_R, mo_f4 e k_f4⟩
noncomputable def wu_o2 : Ru := ([(7, (0, (0, (0, 0))))], ([], ([([(0, (-1))], (-2)), ([(0, 1)], 5)], (false, ([], ([], ([], none)))))))
theorem wk_o2 : WrOk SR 110 wu_o2 := by
  intro τ m g j x hi hc ha hS
  obtain ⟨i0, _⟩ := hi
  have xp : g 0 = (j : Int) := i0
  obtain ⟨c0, c1, _⟩ := hc
  have c0 : (-1) * g 0 ≤ (-2) := d1 c0
  have c1 : 1 * g 0 ≤ 5 := d1 c1
  refine fun hM => ?_
  obtain ⟨h0, k_tok, k_sc1, k_sc2, k_T, k_I, k_F, k_N, k_Y, k_Z, k_A, k_B, k_C, k_X, k_R, k_f4⟩ := hS hM
  have e := vwX_e (m := m) (j := j) (x := x) ⟨by omega, by omega, by omega, by omega⟩
  have e2 := vwY_e (m := m) (j := j) (x := x) ⟨by omega, by omega, by omega, by omega, by omega, by omega, by omega, by omega⟩
  exact ⟨mo_0 e h0, mo_tok e k_tok, mo_sc1 e k_sc1, mo_sc2 e k_sc2, mo_T e2 k_T, mo_I e k_I, mo_F e k_F, mo_N e k_N, mo_Y e k_Y, mo_Z e k_Z, mo_A e k_A, mo_B e k_B, mo_C e k_C, mo_X e k_X, mo_R e k_R, mo_f4 e k_f4⟩
noncomputable def wu_o8 : Ru := ([(7, (0, (0, (0, 0))))], ([], ([([(0, (-1))], (-8)), ([(0, 1)], 19)], (false, ([], ([], ([], none)))))))
theorem wk_o8 : WrOk SR 110 wu_o8 := by
  intro τ m g j x hi hc ha hS
  obtain ⟨i0, _⟩ := hi
  have xp : g 0 = (j : Int) := i0
  obtain ⟨c0, c1, _⟩ := hc
  have c0 : (-1) * g 0 ≤ (-8) := d1 c0
  have c1 : 1 * g 0 ≤ 19 := d1 c1
  refine fun hM => ?_
  obtain ⟨h0, k_tok, k_sc1, k_sc2, k_T, k_I, k_F, k_N, k_Y, k_Z, k_A, k_B, k_C, k_X, k_R, k_f4⟩ := hS hM
  have e := vwX_e (m := m) (j := j) (x := x) ⟨by omega, by omega, by omega, by omega⟩
  have e2 := vwY_e (m := m) (j := j) (x := x) ⟨by omega, by omega, by omega, by omega, by omega, by omega, by omega, by omega⟩
  exact ⟨mo_0 e h0, mo_tok e k_tok, mo_sc1 e k_sc1, mo_sc2 e k_sc2, mo_T e2 k_T, mo_I e k_I, mo_F e k_F, mo_N e k_N, mo_Y e k_Y, mo_Z e k_Z, mo_A e k_A, mo_B e k_B, mo_C e k_C, mo_X e k_X, mo_R e k_R, mo_f4 e k_f4⟩
noncomputable def wu_o21 : Ru := ([(7, (0, (0, (0, 0))))], ([], ([([(0, (-1))], (-21)), ([(0, 1)], 26)], (false, ([], ([], ([], none)))))))
theorem wk_o21 : WrOk SR 110 wu_o21 := by
  intro τ m g j x hi hc ha hS
  obtain ⟨i0, _⟩ := hi
  have xp : g 0 = (j : Int) := i0
  obtain ⟨c0, c1, _⟩ := hc
  have c0 : (-1) * g 0 ≤ (-21) := d1 c0
  have c1 : 1 * g 0 ≤ 26 := d1 c1
  refine fun hM => ?_
  obtain ⟨h0, k_tok, k_sc1, k_sc2, k_T, k_I, k_F, k_N, k_Y, k_Z, k_A, k_B, k_C, k_X, k_R, k_f4⟩ := hS hM
  have e := vwX_e (m := m) (j := j) (x := x) ⟨by omega, by omega, by omega, by omega⟩
  have e2 := vwY_e (m := m) (j := j) (x := x) ⟨by omega, by omega, by omega, by omega, by omega, by omega, by omega, by omega⟩
  exact ⟨mo_0 e h0, mo_tok e k_tok, mo_sc1 e k_sc1, mo_sc2 e k_sc2, mo_T e2 k_T, mo_I e k_I, mo_F e k_F, mo_N e k_N, mo_Y e k_Y, mo_Z e k_Z, mo_A e k_A, mo_B e k_B, mo_C e k_C, mo_X e k_X, mo_R e k_R, mo_f4 e k_f4⟩
noncomputable def wu_o31 : Ru := ([(7, (0, (0, (0, 0))))], ([], ([([(0, (-1))], (-31)), ([(0, 1)], 999)], (false, ([], ([], ([], none)))))))
theorem wk_o31 : WrOk SR 110 wu_o31 := by
  intro τ m g j x hi hc ha hS
  obtain ⟨i0, _⟩ := hi
  have xp : g 0 = (j : Int) := i0
  obtain ⟨c0, c1, _⟩ := hc
  have c0 : (-1) * g 0 ≤ (-31) := d1 c0
  have c1 : 1 * g 0 ≤ 999 := d1 c1
  refine fun hM => ?_
  obtain ⟨h0, k_tok, k_sc1, k_sc2, k_T, k_I, k_F, k_N, k_Y, k_Z, k_A, k_B, k_C, k_X, k_R, k_f4⟩ := hS hM
  have e := vwX_e (m := m) (j := j) (x := x) ⟨by omega, by omega, by omega, by omega⟩
  have e2 := vwY_e (m := m) (j := j) (x := x) ⟨by omega, by omega, by omega, by omega, by omega, by omega, by omega, by omega⟩
  exact ⟨mo_0 e h0, mo_tok e k_tok, mo_sc1 e k_sc1, mo_sc2 e k_sc2, mo_T e2 k_T, mo_I e k_I, mo_F e k_F, mo_N e k_N, mo_Y e k_Y, mo_Z e k_Z, mo_A e k_A, mo_B e k_B, mo_C e k_C, mo_X e k_X, mo_R e k_R, mo_f4 e k_f4⟩
noncomputable def wu_oTok : Ru := ([(7, (0, (0, (0, 0))))], ([1120], ([([(0, (-1))], (-27)), ([(0, 1)], 30)], (false, ([], ([], ([], none)))))))
theorem wk_oTok : WrOk SR 110 wu_oTok := by
  intro τ m g j x hi hc ha hS
  obtain ⟨i0, _⟩ := hi
  have xp : g 0 = (j : Int) := i0
  obtain ⟨c0, c1, _⟩ := hc
  have c0 : (-1) * g 0 ≤ (-27) := d1 c0
  have c1 : 1 * g 0 ≤ 30 := d1 c1
  obtain ⟨a0, _⟩ := ha
  have n1120 : τ 1120 = none := a0
  refine fun hM => ?_
  obtain ⟨h0, k_tok, k_sc1, k_sc2, k_T, k_I, k_F, k_N, k_Y, k_Z, k_A, k_B, k_C, k_X, k_R, k_f4⟩ := hS hM
  have e := vwX_e (m := m) (j := j) (x := x) ⟨by omega, by omega, by omega, by omega⟩
  have k_T0 := k_T
  obtain ⟨h_T, h_TN, h_QZ⟩ := k_T0
  exact ⟨mo_0 e h0, mo_tok e k_tok, mo_sc1 e k_sc1, mo_sc2 e k_sc2, ⟨fun _ e0 => no9 n1120 e0, fun _ _ e0 e1 => no9 n1120 e0, mo_QZ e h_QZ⟩, mo_I e k_I, mo_F e k_F, mo_N e k_N, mo_Y e k_Y, mo_Z e k_Z, mo_A e k_A, mo_B e k_B, mo_C e k_C, mo_X e k_X, mo_R e k_R, mo_f4 e k_f4⟩
noncomputable def wu_z1000 : Ru := ([(7, (0, (0, (0, 0))))], ([1199], ([], (false, ([], ([], ([], none)))))))
theorem wk_z1000 : WrOk SR 1000 wu_z1000 := by
  intro τ m g j x hi hc ha hS
  obtain ⟨i0, _⟩ := hi
  have xp : g 0 = (j : Int) := i0
  obtain ⟨a0, _⟩ := ha
  have n1199 : τ 1199 = none := a0
  exact fun h => absurd n1199 h
noncomputable def wu_oVal : Ru := ([(7, (0, (0, (0, 0))))], ([1120], ([([(0, 1)], 31), ([(0, (-1))], (-31))], (false, ([], ([], ([], none)))))))
theorem wk_oVal : WrOk SR 1000 wu_oVal := by
  intro τ m g j x hi hc ha hS
  obtain ⟨i0, _⟩ := hi
  have xp : g 0 = (j : Int) := i0
  obtain ⟨c0, c1, _⟩ := hc
  have c0 : 1 * g 0 ≤ 31 := d1 c0
  have c1 : (-1) * g 0 ≤ (-31) := d1 c1
  obtain ⟨a0, _⟩ := ha
  have n1120 : τ 1120 = none := a0
  refine fun hM => ?_
  obtain ⟨h0, k_tok, k_sc1, k_sc2, k_T, k_I, k_F, k_N, k_Y, k_Z, k_A, k_B, k_C, k_X, k_R, k_f4⟩ := hS hM
  have k_T0 := k_T
  obtain ⟨h_T, h_TN, h_QZ⟩ := k_T0
  exact ⟨h0, k_tok, k_sc1, k_sc2, ⟨fun _ e0 => no9 n1120 e0, fun _ _ e0 e1 => no9 n1120 e0, h_QZ⟩, k_I, k_F, k_N, k_Y, k_Z, k_A, k_B, k_C, gX_w (τ := τ) (m := m) (m' := wrM m 1000 j x) rfl rfl (fun i => ⟨rfl, rfl, rfl, rfl, rfl, rfl⟩) k_X, gR_w (τ := τ) (m := m) (m' := wrM m 1000 j x) (fun i => ⟨rfl, rfl, rfl⟩) k_R, k_f4⟩
noncomputable def wu_z143 : Ru := ([(7, (0, (0, (0, 0))))], ([1199], ([], (false, ([], ([], ([], none)))))))
theorem wk_z143 : WrOk SR 143 wu_z143 := by
  intro τ m g j x hi hc ha hS
  obtain ⟨i0, _⟩ := hi
  have xp : g 0 = (j : Int) := i0
  obtain ⟨a0, _⟩ := ha
  have n1199 : τ 1199 = none := a0
  exact fun h => absurd n1199 h
noncomputable def wu_g143n : Ru := ([(7, (0, (0, (0, 0))))], ([1173, 1160], ([], (false, ([], ([], ([], none)))))))
theorem wk_g143n : WrOk SR 143 wu_g143n := by
  intro τ m g j x hi hc ha hS
  obtain ⟨i0, _⟩ := hi
  have xp : g 0 = (j : Int) := i0
  obtain ⟨a0, a1, _⟩ := ha
  have n1173 : τ 1173 = none := a0
  have n1160 : τ 1160 = none := a1
  refine fun hM => ?_
  obtain ⟨h0, k_tok, k_sc1, k_sc2, k_T, k_I, k_F, k_N, k_Y, k_Z, k_A, k_B, k_C, k_X, k_R, k_f4⟩ := hS hM
  have k_X0 := k_X
  obtain ⟨h_X0a, h_X0, h_X, h_Xe⟩ := k_X0
  exact ⟨h0, k_tok, k_sc1, k_sc2, k_T, k_I, k_F, k_N, k_Y, k_Z, k_A, k_B, k_C, ⟨h_X0a, h_X0, fun _ _ _ _ _ _ _ _ e0 e1 e2 e3 e4 e5 e6 e7 => no9 n1173 e3, h_Xe⟩, ⟨fun _ _ e0 e1 => no9 n1160 e0, fun _ _ _ e0 e1 e2 => no9 n1160 e0, fun _ _ _ _ _ e0 e1 e2 e3 e4 => no9 n1160 e0, fun _ _ _ e0 e1 e2 => no9 n1160 e0, fun _ _ _ e0 e1 e2 => no9 n1160 e0, fun _ _ _ _ _ _ e0 e1 e2 e3 e4 e5 => no9 n1160 e0, fun _ _ _ e0 e1 e2 => no9 n1160 e0⟩, k_f4⟩
noncomputable def wu_g143a : Ru := ([(7, (0, (0, (0, 0)))), (0, (1175, (0, (0, 0))))], ([1160], ([([(0, (-1)), (1, 1)], (-1))], (false, ([], ([], ([], none)))))))
theorem wk_g143a : WrOk SR 143 wu_g143a := by
  intro τ m g j x hi hc ha hS
  obtain ⟨i0, i1, _⟩ := hi
  have xp : g 0 = (j : Int) := i0
  have t1175 : τ 1175 = some (g 1) := i1
  obtain ⟨c0, _⟩ := hc
  have c0 : (-1) * g 0 + 1 * g 1 ≤ (-1) := d2 c0
  obtain ⟨a0, _⟩ := ha
  have n1160 : τ 1160 = none := a0
  refine fun hM => ?_
  obtain ⟨h0, k_tok, k_sc1, k_sc2, k_T, k_I, k_F, k_N, k_Y, k_Z, k_A, k_B, k_C, k_X, k_R, k_f4⟩ := hS hM
  have k_X0 := k_X
  obtain ⟨h_X0a, h_X0, h_X, h_Xe⟩ := k_X0
  exact ⟨h0, k_tok, k_sc1, k_sc2, k_T, k_I, k_F, k_N, k_Y, k_Z, k_A, k_B, k_C, ⟨h_X0a, h_X0, fun X1 X2 Xp Xw Xs Xo Xv Xd e0 e1 e2 e3 e4 e5 e6 e7 => by
      have eo := Option.some.inj (t1175.symm.trans e5)
      exact XS_w (h_X _ _ _ _ _ _ _ _ e0 e1 e2 e3 e4 e5 e6 e7) rfl rfl (fun i hi => ⟨wr_ne (by omega), rfl, rfl, rfl⟩) (fun i hi => ⟨rfl, rfl⟩) (congrArg _ (wr_ne (by have h9 := (h_X _ _ _ _ _ _ _ _ e0 e1 e2 e3 e4 e5 e6 e7).1.2.1.1; omega))) rfl rfl rfl, h_Xe⟩, ⟨fun _ _ e0 e1 => no9 n1160 e0, fun _ _ _ e0 e1 e2 => no9 n1160 e0, fun _ _ _ _ _ e0 e1 e2 e3 e4 => no9 n1160 e0, fun _ _ _ e0 e1 e2 => no9 n1160 e0, fun _ _ _ e0 e1 e2 => no9 n1160 e0, fun _ _ _ _ _ _ e0 e1 e2 e3 e4 e5 => no9 n1160 e0, fun _ _ _ e0 e1 e2 => no9 n1160 e0⟩, k_f4⟩
noncomputable def wu_g143p : Ru := ([(7, (0, (0, (0, 0)))), (8, (0, (0, (0, 0)))), (0, (1175, (0, (0, 0)))), (0, (1178, (0, (0, 0))))], ([1160], ([([(0, 1), (2, (-1))], 0), ([(0, (-1)), (2, 1)], 0), ([(1, 1), (3, (-1))], 0), ([(1, (-1)), (3, 1)], 0)], (false, ([], ([], ([(1178, none)], none)))))))
theorem wk_g143p : WrOk SR 143 wu_g143p := by
  intro τ m g j x hi hc ha hS
  obtain ⟨i0, i1, i2, i3, _⟩ := hi
  have xp : g 0 = (j : Int) := i0
  have xv : g 1 = x := i1
  have t1175 : τ 1175 = some (g 2) := i2
  have t1178 : τ 1178 = some (g 3) := i3
  obtain ⟨c0, c1, c2, c3, _⟩ := hc
  have c0 : 1 * g 0 + (-1) * g 2 ≤ 0 := d2 c0
  have c1 : (-1) * g 0 + 1 * g 2 ≤ 0 := d2 c1
  have c2 : 1 * g 1 + (-1) * g 3 ≤ 0 := d2 c2
  have c3 : (-1) * g 1 + 1 * g 3 ≤ 0 := d2 c3
  obtain ⟨a0, _⟩ := ha
  have n1160 : τ 1160 = none := a0
  refine fun hM => ?_
  obtain ⟨h0, k_tok, k_sc1, k_sc2, k_T, k_I, k_F, k_N, k_Y, k_Z, k_A, k_B, k_C, k_X, k_R, k_f4⟩ := hS hM
  have k_X0 := k_X
  obtain ⟨h_X0a, h_X0, h_X, h_Xe⟩ := k_X0
  exact ⟨h0, k_tok, k_sc1, k_sc2, k_T, k_I, k_F, k_N, k_Y, k_Z, k_A, k_B, k_C, ⟨h_X0a, h_X0, fun X1 X2 Xp Xw Xs Xo Xv Xd e0 e1 e2 e3 e4 e5 e6 e7 => by
      have eo := Option.some.inj (t1175.symm.trans e5)
      have h9 := h_X _ _ _ _ _ _ _ _ e0 e1 e2 e3 e4 e5 e6 e7
      have h8 := h9.1.2.1.1
      rw [t1178] at h9
      have ej : Xo.toNat = j := by omega
      exact XS_w h9 rfl rfl (fun i hi => ⟨wr_ne (by omega), rfl, rfl, rfl⟩) (fun i hi => ⟨rfl, rfl⟩) (by show wrM m 143 j x 143 Xo.toNat = g 3; rw [ej, wr_at]; omega) rfl rfl rfl, h_Xe⟩, ⟨fun _ _ e0 e1 => no9 n1160 e0, fun _ _ _ e0 e1 e2 => no9 n1160 e0, fun _ _ _ _ _ e0 e1 e2 e3 e4 => no9 n1160 e0, fun _ _ _ e0 e1 e2 => no9 n1160 e0, fun _ _ _ e0 e1 e2 => no9 n1160 e0, fun _ _ _ _ _ _ e0 e1 e2 e3 e4 e5 => no9 n1160 e0, fun _ _ _ e0 e1 e2 => no9 n1160 e0⟩, k_f4⟩
noncomputable def wu_z144 : Ru := ([(7, (0, (0, (0, 0))))], ([1199], ([], (false, ([], ([], ([], none)))))))
theorem wk_z144 : WrOk SR 144 wu_z144 := by
  intro τ m g j x hi hc ha hS
  obtain ⟨i0, _⟩ := hi
  have xp : g 0 = (j : Int) := i0
  obtain ⟨a0, _⟩ := ha
  have n1199 : τ 1199 = none := a0
  exact fun h => absurd n1199 h
noncomputable def wu_g144n : Ru := ([(7, (0, (0, (0, 0))))], ([1173, 1160], ([], (false, ([], ([], ([], none)))))))
theorem wk_g144n : WrOk SR 144 wu_g144n := by
  intro τ m g j x hi hc ha hS
  obtain ⟨i0, _⟩ := hi
  have xp : g 0 = (j : Int) := i0
  obtain ⟨a0, a1, _⟩ := ha
  have n1173 : τ 1173 = none := a0
  have n1160 : τ 1160 = none := a1
  refine fun hM => ?_
  obtain ⟨h0, k_tok, k_sc1, k_sc2, k_T, k_I, k_F, k_N, k_Y, k_Z, k_A, k_B, k_C, k_X, k_R, k_f4⟩ := hS hM
  have k_X0 := k_X
  obtain ⟨h_X0a, h_X0, h_X, h_Xe⟩ := k_X0
  exact ⟨h0, k_tok, k_sc1, k_sc2, k_T, k_I, k_F, k_N, k_Y, k_Z, k_A, k_B, k_C, ⟨h_X0a, h_X0, fun _ _ _ _ _ _ _ _ e0 e1 e2 e3 e4 e5 e6 e7 => no9 n1173 e3, h_Xe⟩, ⟨fun _ _ e0 e1 => no9 n1160 e0, fun _ _ _ e0 e1 e2 => no9 n1160 e0, fun _ _ _ _ _ e0 e1 e2 e3 e4 => no9 n1160 e0, fun _ _ _ e0 e1 e2 => no9 n1160 e0, fun _ _ _ e0 e1 e2 => no9 n1160 e0, fun _ _ _ _ _ _ e0 e1 e2 e3 e4 e5 => no9 n1160 e0, fun _ _ _ e0 e1 e2 => no9 n1160 e0⟩, k_f4⟩
noncomputable def wu_g144a : Ru := ([(7, (0, (0, (0, 0)))), (0, (1175, (0, (0, 0))))], ([1160], ([([(0, (-1)), (1, 1)], (-1))], (false, ([], ([], ([], none)))))))
theorem wk_g144a : WrOk SR 144 wu_g144a := by
  intro τ m g j x hi hc ha hS
  obtain ⟨i0, i1, _⟩ := hi
  have xp : g 0 = (j : Int) := i0
  have t1175 : τ 1175 = some (g 1) := i1
  obtain ⟨c0, _⟩ := hc
  have c0 : (-1) * g 0 + 1 * g 1 ≤ (-1) := d2 c0
  obtain ⟨a0, _⟩ := ha
  have n1160 : τ 1160 = none := a0
  refine fun hM => ?_
  obtain ⟨h0, k_tok, k_sc1, k_sc2, k_T, k_I, k_F, k_N, k_Y, k_Z, k_A, k_B, k_C, k_X, k_R, k_f4⟩ := hS hM
  have k_X0 := k_X
  obtain ⟨h_X0a, h_X0, h_X, h_Xe⟩ := k_X0
  exact ⟨h0, k_tok, k_sc1, k_sc2, k_T, k_I, k_F, k_N, k_Y, k_Z, k_A, k_B, k_C, ⟨h_X0a, h_X0, fun X1 X2 Xp Xw Xs Xo Xv Xd e0 e1 e2 e3 e4 e5 e6 e7 => by
      have eo := Option.some.inj (t1175.symm.trans e5)
      exact XS_w (h_X _ _ _ _ _ _ _ _ e0 e1 e2 e3 e4 e5 e6 e7) rfl rfl (fun i hi => ⟨rfl, wr_ne (by omega), rfl, rfl⟩) (fun i hi => ⟨rfl, rfl⟩) rfl (congrArg _ (wr_ne (by have h9 := (h_X _ _ _ _ _ _ _ _ e0 e1 e2 e3 e4 e5 e6 e7).1.2.1.1; omega))) rfl rfl, h_Xe⟩, ⟨fun _ _ e0 e1 => no9 n1160 e0, fun _ _ _ e0 e1 e2 => no9 n1160 e0, fun _ _ _ _ _ e0 e1 e2 e3 e4 => no9 n1160 e0, fun _ _ _ e0 e1 e2 => no9 n1160 e0, fun _ _ _ e0 e1 e2 => no9 n1160 e0, fun _ _ _ _ _ _ e0 e1 e2 e3 e4 e5 => no9 n1160 e0, fun _ _ _ e0 e1 e2 => no9 n1160 e0⟩, k_f4⟩
noncomputable def wu_g144p : Ru := ([(7, (0, (0, (0, 0)))), (8, (0, (0, (0, 0)))), (0, (1175, (0, (0, 0)))), (0, (1179, (0, (0, 0))))], ([1160], ([([(0, 1), (2, (-1))], 0), ([(0, (-1)), (2, 1)], 0), ([(1, 1), (3, (-1))], 0), ([(1, (-1)), (3, 1)], 0)], (false, ([], ([], ([(1179, none)], none)))))))
theorem wk_g144p : WrOk SR 144 wu_g144p := by
  intro τ m g j x hi hc ha hS
  obtain ⟨i0, i1, i2, i3, _⟩ := hi
  have xp : g 0 = (j : Int) := i0
  have xv : g 1 = x := i1
  have t1175 : τ 1175 = some (g 2) := i2
  have t1179 : τ 1179 = some (g 3) := i3
  obtain ⟨c0, c1, c2, c3, _⟩ := hc
  have c0 : 1 * g 0 + (-1) * g 2 ≤ 0 := d2 c0
  have c1 : (-1) * g 0 + 1 * g 2 ≤ 0 := d2 c1
  have c2 : 1 * g 1 + (-1) * g 3 ≤ 0 := d2 c2
  have c3 : (-1) * g 1 + 1 * g 3 ≤ 0 := d2 c3
  obtain ⟨a0, _⟩ := ha
  have n1160 : τ 1160 = none := a0
  refine fun hM => ?_
  obtain ⟨h0, k_tok, k_sc1, k_sc2, k_T, k_I, k_F, k_N, k_Y, k_Z, k_A, k_B, k_C, k_X, k_R, k_f4⟩ := hS hM
  have k_X0 := k_X
  obtain ⟨h_X0a, h_X0, h_X, h_Xe⟩ := k_X0
  exact ⟨h0, k_tok, k_sc1, k_sc2, k_T, k_I, k_F, k_N, k_Y, k_Z, k_A, k_B, k_C, ⟨h_X0a, h_X0, fun X1 X2 Xp Xw Xs Xo Xv Xd e0 e1 e2 e3 e4 e5 e6 e7 => by
      have eo := Option.some.inj (t1175.symm.trans e5)
      have h9 := h_X _ _ _ _ _ _ _ _ e0 e1 e2 e3 e4 e5 e6 e7
      have h8 := h9.1.2.1.1
      rw [t1179] at h9
      have ej : Xo.toNat = j := by omega
      exact XS_w h9 rfl rfl (fun i hi => ⟨rfl, wr_ne (by omega), rfl, rfl⟩) (fun i hi => ⟨rfl, rfl⟩) rfl (by show wrM m 144 j x 144 Xo.toNat = g 3; rw [ej, wr_at]; omega) rfl rfl, h_Xe⟩, ⟨fun _ _ e0 e1 => no9 n1160 e0, fun _ _ _ e0 e1 e2 => no9 n1160 e0, fun _ _ _ _ _ e0 e1 e2 e3 e4 => no9 n1160 e0, fun _ _ _ e0 e1 e2 => no9 n1160 e0, fun _ _ _ e0 e1 e2 => no9 n1160 e0, fun _ _ _ _ _ _ e0 e1 e2 e3 e4 e5 => no9 n1160 e0, fun _ _ _ e0 e1 e2 => no9 n1160 e0⟩, k_f4⟩
noncomputable def wu_z145 : Ru := ([(7, (0, (0, (0, 0))))], ([1199], ([], (false, ([], ([], ([], none)))))))
theorem wk_z145 : WrOk SR 145 wu_z145 := by
  intro τ m g j x hi hc ha hS
  obtain ⟨i0, _⟩ := hi
  have xp : g 0 = (j : Int) := i0
  obtain ⟨a0, _⟩ := ha
  have n1199 : τ 1199 = none := a0
  exact fun h => absurd n1199 h
noncomputable def wu_g145n : Ru := ([(7, (0, (0, (0, 0))))], ([1173, 1160], ([], (false, ([], ([], ([], none)))))))
theorem wk_g145n : WrOk SR 145 wu_g145n := by
  intro τ m g j x hi hc ha hS
  obtain ⟨i0, _⟩ := hi
  have xp : g 0 = (j : Int) := i0
  obtain ⟨a0, a1, _⟩ := ha
  have n1173 : τ 1173 = none := a0
  have n1160 : τ 1160 = none := a1
  refine fun hM => ?_
  obtain ⟨h0, k_tok, k_sc1, k_sc2, k_T, k_I, k_F, k_N, k_Y, k_Z, k_A, k_B, k_C, k_X, k_R, k_f4⟩ := hS hM
  have k_X0 := k_X
  obtain ⟨h_X0a, h_X0, h_X, h_Xe⟩ := k_X0
  exact ⟨h0, k_tok, k_sc1, k_sc2, k_T, k_I, k_F, k_N, k_Y, k_Z, k_A, k_B, k_C, ⟨h_X0a, h_X0, fun _ _ _ _ _ _ _ _ e0 e1 e2 e3 e4 e5 e6 e7 => no9 n1173 e3, h_Xe⟩, ⟨fun _ _ e0 e1 => no9 n1160 e0, fun _ _ _ e0 e1 e2 => no9 n1160 e0, fun _ _ _ _ _ e0 e1 e2 e3 e4 => no9 n1160 e0, fun _ _ _ e0 e1 e2 => no9 n1160 e0, fun _ _ _ e0 e1 e2 => no9 n1160 e0, fun _ _ _ _ _ _ e0 e1 e2 e3 e4 e5 => no9 n1160 e0, fun _ _ _ e0 e1 e2 => no9 n1160 e0⟩, k_f4⟩
noncomputable def wu_g145a : Ru := ([(7, (0, (0, (0, 0)))), (0, (1175, (0, (0, 0))))], ([1160], ([([(0, (-1)), (1, 1)], (-1))], (false, ([], ([], ([], none)))))))
theorem wk_g145a : WrOk SR 145 wu_g145a := by
  intro τ m g j x hi hc ha hS
  obtain ⟨i0, i1, _⟩ := hi
  have xp : g 0 = (j : Int) := i0
  have t1175 : τ 1175 = some (g 1) := i1
  obtain ⟨c0, _⟩ := hc
  have c0 : (-1) * g 0 + 1 * g 1 ≤ (-1) := d2 c0
  obtain ⟨a0, _⟩ := ha
  have n1160 : τ 1160 = none := a0
  refine fun hM => ?_
  obtain ⟨h0, k_tok, k_sc1, k_sc2, k_T, k_I, k_F, k_N, k_Y, k_Z, k_A, k_B, k_C, k_X, k_R, k_f4⟩ := hS hM
  have k_X0 := k_X
  obtain ⟨h_X0a, h_X0, h_X, h_Xe⟩ := k_X0
  exact ⟨h0, k_tok, k_sc1, k_sc2, k_T, k_I, k_F, k_N, k_Y, k_Z, k_A, k_B, k_C, ⟨h_X0a, h_X0, fun X1 X2 Xp Xw Xs Xo Xv Xd e0 e1 e2 e3 e4 e5 e6 e7 => by
      have eo := Option.some.inj (t1175.symm.trans e5)
      exact XS_w (h_X _ _ _ _ _ _ _ _ e0 e1 e2 e3 e4 e5 e6 e7) rfl rfl (fun i hi => ⟨rfl, rfl, wr_ne (by omega), rfl⟩) (fun i hi => ⟨rfl, rfl⟩) rfl rfl (congrArg _ (wr_ne (by have h9 := (h_X _ _ _ _ _ _ _ _ e0 e1 e2 e3 e4 e5 e6 e7).1.2.1.1; omega))) rfl, h_Xe⟩, ⟨fun _ _ e0 e1 => no9 n1160 e0, fun _ _ _ e0 e1 e2 => no9 n1160 e0, fun _ _ _ _ _ e0 e1 e2 e3 e4 => no9 n1160 e0, fun _ _ _ e0 e1 e2 => no9 n1160 e0, fun _ _ _ e0 e1 e2 => no9 n1160 e0, fun _ _ _ _ _ _ e0 e1 e2 e3 e4 e5 => no9 n1160 e0, fun _ _ _ e0 e1 e2 => no9 n1160 e0⟩, k_f4⟩
noncomputable def wu_g145p : Ru := ([(7, (0, (0, (0, 0)))), (8, (0, (0, (0, 0)))), (0, (1175, (0, (0, 0)))), (0, (1180, (0, (0, 0))))], ([1160], ([([(0, 1), (2, (-1))], 0), ([(0, (-1)), (2, 1)], 0), ([(1, 1), (3, (-1))], 0), ([(1, (-1)), (3, 1)], 0)], (false, ([], ([], ([(1180, none)], none)))))))
theorem wk_g145p : WrOk SR 145 wu_g145p := by
  intro τ m g j x hi hc ha hS
  obtain ⟨i0, i1, i2, i3, _⟩ := hi
  have xp : g 0 = (j : Int) := i0
  have xv : g 1 = x := i1
  have t1175 : τ 1175 = some (g 2) := i2
  have t1180 : τ 1180 = some (g 3) := i3
  obtain ⟨c0, c1, c2, c3, _⟩ := hc
  have c0 : 1 * g 0 + (-1) * g 2 ≤ 0 := d2 c0
  have c1 : (-1) * g 0 + 1 * g 2 ≤ 0 := d2 c1
  have c2 : 1 * g 1 + (-1) * g 3 ≤ 0 := d2 c2
  have c3 : (-1) * g 1 + 1 * g 3 ≤ 0 := d2 c3
  obtain ⟨a0, _⟩ := ha
  have n1160 : τ 1160 = none := a0
  refine fun hM => ?_
  obtain ⟨h0, k_tok, k_sc1, k_sc2, k_T, k_I, k_F, k_N, k_Y, k_Z, k_A, k_B, k_C, k_X, k_R, k_f4⟩ := hS hM
  have k_X0 := k_X
  obtain ⟨h_X0a, h_X0, h_X, h_Xe⟩ := k_X0
  exact ⟨h0, k_tok, k_sc1, k_sc2, k_T, k_I, k_F, k_N, k_Y, k_Z, k_A, k_B, k_C, ⟨h_X0a, h_X0, fun X1 X2 Xp Xw Xs Xo Xv Xd e0 e1 e2 e3 e4 e5 e6 e7 => by
      have eo := Option.some.inj (t1175.symm.trans e5)
      have h9 := h_X _ _ _ _ _ _ _ _ e0 e1 e2 e3 e4 e5 e6 e7
      have h8 := h9.1.2.1.1
      rw [t1180] at h9
      have ej : Xo.toNat = j := by omega
      exact XS_w h9 rfl rfl (fun i hi => ⟨rfl, rfl, wr_ne (by omega), rfl⟩) (fun i hi => ⟨rfl, rfl⟩) rfl rfl (by show wrM m 145 j x 145 Xo.toNat = g 3; rw [ej, wr_at]; omega) rfl, h_Xe⟩, ⟨fun _ _ e0 e1 => no9 n1160 e0, fun _ _ _ e0 e1 e2 => no9 n1160 e0, fun _ _ _ _ _ e0 e1 e2 e3 e4 => no9 n1160 e0, fun _ _ _ e0 e1 e2 => no9 n1160 e0, fun _ _ _ e0 e1 e2 => no9 n1160 e0, fun _ _ _ _ _ _ e0 e1 e2 e3 e4 e5 => no9 n1160 e0, fun _ _ _ e0 e1 e2 => no9 n1160 e0⟩, k_f4⟩
noncomputable def wu_z146 : Ru := ([(7, (0, (0, (0, 0))))], ([1199], ([], (false, ([], ([], ([], none)))))))
theorem wk_z146 : WrOk SR 146 wu_z146 := by
  intro τ m g j x hi hc ha hS
  obtain ⟨i0, _⟩ := hi
  have xp : g 0 = (j : Int) := i0
  obtain ⟨a0, _⟩ := ha
  have n1199 : τ 1199 = none := a0
  exact fun h => absurd n1199 h
noncomputable def wu_g146n : Ru := ([(7, (0, (0, (0, 0))))], ([1173, 1160], ([], (false, ([], ([], ([], none)))))))
theorem wk_g146n : WrOk SR 146 wu_g146n := by
  intro τ m g j x hi hc ha hS
  obtain ⟨i0, _⟩ := hi
  have xp : g 0 = (j : Int) := i0
  obtain ⟨a0, a1, _⟩ := ha
  have n1173 : τ 1173 = none := a0
  have n1160 : τ 1160 = none := a1
  refine fun hM => ?_
  obtain ⟨h0, k_tok, k_sc1, k_sc2, k_T, k_I, k_F, k_N, k_Y, k_Z, k_A, k_B, k_C, k_X, k_R, k_f4⟩ := hS hM
  have k_X0 := k_X
  obtain ⟨h_X0a, h_X0, h_X, h_Xe⟩ := k_X0
  exact ⟨h0, k_tok, k_sc1, k_sc2, k_T, k_I, k_F, k_N, k_Y, k_Z, k_A, k_B, k_C, ⟨h_X0a, h_X0, fun _ _ _ _ _ _ _ _ e0 e1 e2 e3 e4 e5 e6 e7 => no9 n1173 e3, h_Xe⟩, ⟨fun _ _ e0 e1 => no9 n1160 e0, fun _ _ _ e0 e1 e2 => no9 n1160 e0, fun _ _ _ _ _ e0 e1 e2 e3 e4 => no9 n1160 e0, fun _ _ _ e0 e1 e2 => no9 n1160 e0, fun _ _ _ e0 e1 e2 => no9 n1160 e0, fun _ _ _ _ _ _ e0 e1 e2 e3 e4 e5 => no9 n1160 e0, fun _ _ _ e0 e1 e2 => no9 n1160 e0⟩, k_f4⟩
noncomputable def wu_g146a : Ru := ([(7, (0, (0, (0, 0)))), (0, (1175, (0, (0, 0))))], ([1160], ([([(0, (-1)), (1, 1)], (-1))], (false, ([], ([], ([], none)))))))
theorem wk_g146a : WrOk SR 146 wu_g146a := by
  intro τ m g j x hi hc ha hS
  obtain ⟨i0, i1, _⟩ := hi
  have xp : g 0 = (j : Int) := i0
  have t1175 : τ 1175 = some (g 1) := i1
  obtain ⟨c0, _⟩ := hc
  have c0 : (-1) * g 0 + 1 * g 1 ≤ (-1) := d2 c0
  obtain ⟨a0, _⟩ := ha
  have n1160 : τ 1160 = none := a0
  refine fun hM => ?_
  obtain ⟨h0, k_tok, k_sc1, k_sc2, k_T, k_I, k_F, k_N, k_Y, k_Z, k_A, k_B, k_C, k_X, k_R, k_f4⟩ := hS hM
  have k_X0 := k_X
  obtain ⟨h_X0a, h_X0, h_X, h_Xe⟩ := k_X0
  exact ⟨h0, k_tok, k_sc1, k_sc2, k_T, k_I, k_F, k_N, k_Y, k_Z, k_A, k_B, k_C, ⟨h_X0a, h_X0, fun X1 X2 Xp Xw Xs Xo Xv Xd e0 e1 e2 e3 e4 e5 e6 e7 => by
      have eo := Option.some.inj (t1175.symm.trans e5)
      exact XS_w (h_X _ _ _ _ _ _ _ _ e0 e1 e2 e3 e4 e5 e6 e7) rfl rfl (fun i hi => ⟨rfl, rfl, rfl, wr_ne (by omega)⟩) (fun i hi => ⟨rfl, rfl⟩) rfl rfl rfl (congrArg _ (wr_ne (by have h9 := (h_X _ _ _ _ _ _ _ _ e0 e1 e2 e3 e4 e5 e6 e7).1.2.1.1; omega))), h_Xe⟩, ⟨fun _ _ e0 e1 => no9 n1160 e0, fun _ _ _ e0 e1 e2 => no9 n1160 e0, fun _ _ _ _ _ e0 e1 e2 e3 e4 => no9 n1160 e0, fun _ _ _ e0 e1 e2 => no9 n1160 e0, fun _ _ _ e0 e1 e2 => no9 n1160 e0, fun _ _ _ _ _ _ e0 e1 e2 e3 e4 e5 => no9 n1160 e0, fun _ _ _ e0 e1 e2 => no9 n1160 e0⟩, k_f4⟩
noncomputable def wu_g146p : Ru := ([(7, (0, (0, (0, 0)))), (8, (0, (0, (0, 0)))), (0, (1175, (0, (0, 0)))), (0, (1181, (0, (0, 0))))], ([1160], ([([(0, 1), (2, (-1))], 0), ([(0, (-1)), (2, 1)], 0), ([(1, 1), (3, (-1))], 0), ([(1, (-1)), (3, 1)], 0)], (false, ([], ([], ([(1181, none)], none)))))))
theorem wk_g146p : WrOk SR 146 wu_g146p := by
  intro τ m g j x hi hc ha hS
  obtain ⟨i0, i1, i2, i3, _⟩ := hi
  have xp : g 0 = (j : Int) := i0
  have xv : g 1 = x := i1
  have t1175 : τ 1175 = some (g 2) := i2
  have t1181 : τ 1181 = some (g 3) := i3
  obtain ⟨c0, c1, c2, c3, _⟩ := hc
  have c0 : 1 * g 0 + (-1) * g 2 ≤ 0 := d2 c0
  have c1 : (-1) * g 0 + 1 * g 2 ≤ 0 := d2 c1
  have c2 : 1 * g 1 + (-1) * g 3 ≤ 0 := d2 c2
  have c3 : (-1) * g 1 + 1 * g 3 ≤ 0 := d2 c3
  obtain ⟨a0, _⟩ := ha
  have n1160 : τ 1160 = none := a0
  refine fun hM => ?_
  obtain ⟨h0, k_tok, k_sc1, k_sc2, k_T, k_I, k_F, k_N, k_Y, k_Z, k_A, k_B, k_C, k_X, k_R, k_f4⟩ := hS hM
  have k_X0 := k_X
  obtain ⟨h_X0a, h_X0, h_X, h_Xe⟩ := k_X0
  exact ⟨h0, k_tok, k_sc1, k_sc2, k_T, k_I, k_F, k_N, k_Y, k_Z, k_A, k_B, k_C, ⟨h_X0a, h_X0, fun X1 X2 Xp Xw Xs Xo Xv Xd e0 e1 e2 e3 e4 e5 e6 e7 => by
      have eo := Option.some.inj (t1175.symm.trans e5)
      have h9 := h_X _ _ _ _ _ _ _ _ e0 e1 e2 e3 e4 e5 e6 e7
      have h8 := h9.1.2.1.1
      rw [t1181] at h9
      have ej : Xo.toNat = j := by omega
      exact XS_w h9 rfl rfl (fun i hi => ⟨rfl, rfl, rfl, wr_ne (by omega)⟩) (fun i hi => ⟨rfl, rfl⟩) rfl rfl rfl (by show wrM m 146 j x 146 Xo.toNat = g 3; rw [ej, wr_at]; omega), h_Xe⟩, ⟨fun _ _ e0 e1 => no9 n1160 e0, fun _ _ _ e0 e1 e2 => no9 n1160 e0, fun _ _ _ _ _ e0 e1 e2 e3 e4 => no9 n1160 e0, fun _ _ _ e0 e1 e2 => no9 n1160 e0, fun _ _ _ e0 e1 e2 => no9 n1160 e0, fun _ _ _ _ _ _ e0 e1 e2 e3 e4 e5 => no9 n1160 e0, fun _ _ _ e0 e1 e2 => no9 n1160 e0⟩, k_f4⟩
noncomputable def wu_z148 : Ru := ([(7, (0, (0, (0, 0))))], ([1199], ([], (false, ([], ([], ([], none)))))))
theorem wk_z148 : WrOk SR 148 wu_z148 := by
  intro τ m g j x hi hc ha hS
  obtain ⟨i0, _⟩ := hi
  have xp : g 0 = (j : Int) := i0
  obtain ⟨a0, _⟩ := ha
  have n1199 : τ 1199 = none := a0
  exact fun h => absurd n1199 h
noncomputable def wu_wcn : Ru := ([(7, (0, (0, (0, 0))))], ([1173, 1160], ([], (false, ([], ([], ([], none)))))))
theorem wk_wcn : WrOk SR 148 wu_wcn := by
  intro τ m g j x hi hc ha hS
  obtain ⟨i0, _⟩ := hi
  have xp : g 0 = (j : Int) := i0
  obtain ⟨a0, a1, _⟩ := ha
  have n1173 : τ 1173 = none := a0
  have n1160 : τ 1160 = none := a1
  refine fun hM => ?_
  obtain ⟨h0, k_tok, k_sc1, k_sc2, k_T, k_I, k_F, k_N, k_Y, k_Z, k_A, k_B, k_C, k_X, k_R, k_f4⟩ := hS hM
  have k_X0 := k_X
  obtain ⟨h_X0a, h_X0, h_X, h_Xe⟩ := k_X0
  exact ⟨h0, k_tok, k_sc1, k_sc2, k_T, k_I, k_F, k_N, k_Y, k_Z, k_A, k_B, k_C, ⟨h_X0a, h_X0, fun _ _ _ _ _ _ _ _ e0 e1 e2 e3 e4 e5 e6 e7 => no9 n1173 e3, h_Xe⟩, ⟨fun _ _ e0 e1 => no9 n1160 e0, fun _ _ _ e0 e1 e2 => no9 n1160 e0, fun _ _ _ _ _ e0 e1 e2 e3 e4 => no9 n1160 e0, fun _ _ _ e0 e1 e2 => no9 n1160 e0, fun _ _ _ e0 e1 e2 => no9 n1160 e0, fun _ _ _ _ _ _ e0 e1 e2 e3 e4 e5 => no9 n1160 e0, fun _ _ _ e0 e1 e2 => no9 n1160 e0⟩, k_f4⟩
noncomputable def wu_wca : Ru := ([(7, (0, (0, (0, 0)))), (0, (1176, (0, (0, 0))))], ([1160], ([([(0, (-1)), (1, 1)], 0)], (false, ([], ([], ([], none)))))))
theorem wk_wca : WrOk SR 148 wu_wca := by
  intro τ m g j x hi hc ha hS
  obtain ⟨i0, i1, _⟩ := hi
  have xp : g 0 = (j : Int) := i0
  have t1176 : τ 1176 = some (g 1) := i1
  obtain ⟨c0, _⟩ := hc
  have c0 : (-1) * g 0 + 1 * g 1 ≤ 0 := d2 c0
  obtain ⟨a0, _⟩ := ha
  have n1160 : τ 1160 = none := a0
  refine fun hM => ?_
  obtain ⟨h0, k_tok, k_sc1, k_sc2, k_T, k_I, k_F, k_N, k_Y, k_Z, k_A, k_B, k_C, k_X, k_R, k_f4⟩ := hS hM
  have k_X0 := k_X
  obtain ⟨h_X0a, h_X0, h_X, h_Xe⟩ := k_X0
  exact ⟨h0, k_tok, k_sc1, k_sc2, k_T, k_I, k_F, k_N, k_Y, k_Z, k_A, k_B, k_C, ⟨h_X0a, h_X0, fun X1 X2 Xp Xw Xs Xo Xv Xd e0 e1 e2 e3 e4 e5 e6 e7 => by
      have ev := Option.some.inj (t1176.symm.trans e6)
      exact XS_w (h_X _ _ _ _ _ _ _ _ e0 e1 e2 e3 e4 e5 e6 e7) rfl rfl (fun i hi => ⟨rfl, rfl, rfl, rfl⟩) (fun i hi => ⟨rfl, wr_ne (by omega)⟩) rfl rfl rfl rfl, h_Xe⟩, ⟨fun _ _ e0 e1 => no9 n1160 e0, fun _ _ _ e0 e1 e2 => no9 n1160 e0, fun _ _ _ _ _ e0 e1 e2 e3 e4 => no9 n1160 e0, fun _ _ _ e0 e1 e2 => no9 n1160 e0, fun _ _ _ e0 e1 e2 => no9 n1160 e0, fun _ _ _ _ _ _ e0 e1 e2 e3 e4 e5 => no9 n1160 e0, fun _ _ _ e0 e1 e2 => no9 n1160 e0⟩, k_f4⟩
noncomputable def wu_wcp : Ru := ([(7, (0, (0, (0, 0)))), (8, (0, (0, (0, 0)))), (0, (1176, (0, (0, 0)))), (0, (1182, (0, (0, 0))))], ([1160], ([([(0, 1), (2, (-1))], (-1)), ([(0, (-1)), (2, 1)], 1)], (false, ([], ([], ([], none)))))))
theorem wk_wcp : WrOk SR 148 wu_wcp := by
  intro τ m g j x hi hc ha hS
  obtain ⟨i0, i1, i2, i3, _⟩ := hi
  have xp : g 0 = (j : Int) := i0
  have xv : g 1 = x := i1
  have t1176 : τ 1176 = some (g 2) := i2
  have t1182 : τ 1182 = some (g 3) := i3
  obtain ⟨c0, c1, _⟩ := hc
  have c0 : 1 * g 0 + (-1) * g 2 ≤ (-1) := d2 c0
  have c1 : (-1) * g 0 + 1 * g 2 ≤ 1 := d2 c1
  obtain ⟨a0, _⟩ := ha
  have n1160 : τ 1160 = none := a0
  refine fun hM => ?_
  obtain ⟨h0, k_tok, k_sc1, k_sc2, k_T, k_I, k_F, k_N, k_Y, k_Z, k_A, k_B, k_C, k_X, k_R, k_f4⟩ := hS hM
  have k_X0 := k_X
  obtain ⟨h_X0a, h_X0, h_X, h_Xe⟩ := k_X0
  exact ⟨h0, k_tok, k_sc1, k_sc2, k_T, k_I, k_F, k_N, k_Y, k_Z, k_A, k_B, k_C, ⟨h_X0a, h_X0, fun X1 X2 Xp Xw Xs Xo Xv Xd e0 e1 e2 e3 e4 e5 e6 e7 => by
      have ev := Option.some.inj (t1176.symm.trans e6)
      have h9 := h_X _ _ _ _ _ _ _ _ e0 e1 e2 e3 e4 e5 e6 e7
      rw [t1182] at h9
      show XSt (wrM m 148 j x) (τ 1178) (τ 1179) (τ 1180) (τ 1181) (τ 1182) X1 X2 Xp Xw Xs Xo Xv Xd
      rw [t1182]
      exact XS_w h9 rfl rfl (fun i hi => ⟨rfl, rfl, rfl, rfl⟩) (fun i hi => ⟨rfl, wr_ne (by have hi : (i : Int) < Xv - ((1 : Nat) : Int) := hi; omega)⟩) rfl rfl rfl rfl, h_Xe⟩, ⟨fun _ _ e0 e1 => no9 n1160 e0, fun _ _ _ e0 e1 e2 => no9 n1160 e0, fun _ _ _ _ _ e0 e1 e2 e3 e4 => no9 n1160 e0, fun _ _ _ e0 e1 e2 => no9 n1160 e0, fun _ _ _ e0 e1 e2 => no9 n1160 e0, fun _ _ _ _ _ _ e0 e1 e2 e3 e4 e5 => no9 n1160 e0, fun _ _ _ e0 e1 e2 => no9 n1160 e0⟩, k_f4⟩
noncomputable def wu_z149 : Ru := ([(7, (0, (0, (0, 0))))], ([1199], ([], (false, ([], ([], ([], none)))))))
theorem wk_z149 : WrOk SR 149 wu_z149 := by
  intro τ m g j x hi hc ha hS
  obtain ⟨i0, _⟩ := hi
  have xp : g 0 = (j : Int) := i0
  obtain ⟨a0, _⟩ := ha
  have n1199 : τ 1199 = none := a0
  exact fun h => absurd n1199 h
noncomputable def wu_wrn : Ru := ([(7, (0, (0, (0, 0))))], ([1173, 1160], ([], (false, ([], ([], ([], none)))))))
theorem wk_wrn : WrOk SR 149 wu_wrn := by
  intro τ m g j x hi hc ha hS
  obtain ⟨i0, _⟩ := hi
  have xp : g 0 = (j : Int) := i0
  obtain ⟨a0, a1, _⟩ := ha
  have n1173 : τ 1173 = none := a0
  have n1160 : τ 1160 = none := a1
  refine fun hM => ?_
  obtain ⟨h0, k_tok, k_sc1, k_sc2, k_T, k_I, k_F, k_N, k_Y, k_Z, k_A, k_B, k_C, k_X, k_R, k_f4⟩ := hS hM
  have k_X0 := k_X
  obtain ⟨h_X0a, h_X0, h_X, h_Xe⟩ := k_X0
  exact ⟨h0, k_tok, k_sc1, k_sc2, k_T, k_I, k_F, k_N, k_Y, k_Z, k_A, k_B, k_C, ⟨h_X0a, h_X0, fun _ _ _ _ _ _ _ _ e0 e1 e2 e3 e4 e5 e6 e7 => no9 n1173 e3, h_Xe⟩, ⟨fun _ _ e0 e1 => no9 n1160 e0, fun _ _ _ e0 e1 e2 => no9 n1160 e0, fun _ _ _ _ _ e0 e1 e2 e3 e4 => no9 n1160 e0, fun _ _ _ e0 e1 e2 => no9 n1160 e0, fun _ _ _ e0 e1 e2 => no9 n1160 e0, fun _ _ _ _ _ _ e0 e1 e2 e3 e4 e5 => no9 n1160 e0, fun _ _ _ e0 e1 e2 => no9 n1160 e0⟩, k_f4⟩
noncomputable def wu_wra : Ru := ([(7, (0, (0, (0, 0)))), (0, (1176, (0, (0, 0))))], ([1160], ([([(0, (-1)), (1, 1)], 0)], (false, ([], ([], ([], none)))))))
theorem wk_wra : WrOk SR 149 wu_wra := by
  intro τ m g j x hi hc ha hS
  obtain ⟨i0, i1, _⟩ := hi
  have xp : g 0 = (j : Int) := i0
  have t1176 : τ 1176 = some (g 1) := i1
  obtain ⟨c0, _⟩ := hc
  have c0 : (-1) * g 0 + 1 * g 1 ≤ 0 := d2 c0
  obtain ⟨a0, _⟩ := ha
  have n1160 : τ 1160 = none := a0
  refine fun hM => ?_
  obtain ⟨h0, k_tok, k_sc1, k_sc2, k_T, k_I, k_F, k_N, k_Y, k_Z, k_A, k_B, k_C, k_X, k_R, k_f4⟩ := hS hM
  have k_X0 := k_X
  obtain ⟨h_X0a, h_X0, h_X, h_Xe⟩ := k_X0
  exact ⟨h0, k_tok, k_sc1, k_sc2, k_T, k_I, k_F, k_N, k_Y, k_Z, k_A, k_B, k_C, ⟨h_X0a, h_X0, fun X1 X2 Xp Xw Xs Xo Xv Xd e0 e1 e2 e3 e4 e5 e6 e7 => by
      have ev := Option.some.inj (t1176.symm.trans e6)
      exact XS_w (h_X _ _ _ _ _ _ _ _ e0 e1 e2 e3 e4 e5 e6 e7) rfl rfl (fun i hi => ⟨rfl, rfl, rfl, rfl⟩) (fun i hi => ⟨wr_ne (by omega), rfl⟩) rfl rfl rfl rfl, h_Xe⟩, ⟨fun _ _ e0 e1 => no9 n1160 e0, fun _ _ _ e0 e1 e2 => no9 n1160 e0, fun _ _ _ _ _ e0 e1 e2 e3 e4 => no9 n1160 e0, fun _ _ _ e0 e1 e2 => no9 n1160 e0, fun _ _ _ e0 e1 e2 => no9 n1160 e0, fun _ _ _ _ _ _ e0 e1 e2 e3 e4 e5 => no9 n1160 e0, fun _ _ _ e0 e1 e2 => no9 n1160 e0⟩, k_f4⟩
noncomputable def wu_wrp3 : Ru := ([(7, (0, (0, (0, 0)))), (8, (0, (0, (0, 0)))), (0, (1176, (0, (0, 0)))), (0, (1182, (0, (0, 0)))), (6, (148, (0, (0, 0))))], ([1160], ([([(0, 1), (2, (-1))], (-1)), ([(0, (-1)), (2, 1)], 1), ([(1, 1), (3, (-1))], 0), ([(1, (-1)), (3, 1)], 0), ([(1, 1)], 3), ([(1, (-1))], (-3)), ([(4, 1)], 16), ([(4, (-1))], (-16))], (false, ([], ([], ([(1182, none)], none)))))))
theorem wk_wrp3 : WrOk SR 149 wu_wrp3 := by
  intro τ m g j x hi hc ha hS
  obtain ⟨i0, i1, i2, i3, i4, _⟩ := hi
  have xp : g 0 = (j : Int) := i0
  have xv : g 1 = x := i1
  have t1176 : τ 1176 = some (g 2) := i2
  have t1182 : τ 1182 = some (g 3) := i3
  obtain ⟨jcc, ucc, vcc⟩ : ∃ j : Nat, g 0 = (j : Int) ∧ g 4 = m 148 j := i4
  obtain ⟨c0, c1, c2, c3, c4, c5, c6, c7, _⟩ := hc
  have c0 : 1 * g 0 + (-1) * g 2 ≤ (-1) := d2 c0
  have c1 : (-1) * g 0 + 1 * g 2 ≤ 1 := d2 c1
  have c2 : 1 * g 1 + (-1) * g 3 ≤ 0 := d2 c2
  have c3 : (-1) * g 1 + 1 * g 3 ≤ 0 := d2 c3
  have c4 : 1 * g 1 ≤ 3 := d1 c4
  have c5 : (-1) * g 1 ≤ (-3) := d1 c5
  have c6 : 1 * g 4 ≤ 16 := d1 c6
  have c7 : (-1) * g 4 ≤ (-16) := d1 c7
  obtain ⟨a0, _⟩ := ha
  have n1160 : τ 1160 = none := a0
  refine fun hM => ?_
  obtain ⟨h0, k_tok, k_sc1, k_sc2, k_T, k_I, k_F, k_N, k_Y, k_Z, k_A, k_B, k_C, k_X, k_R, k_f4⟩ := hS hM
  have k_X0 := k_X
  obtain ⟨h_X0a, h_X0, h_X, h_Xe⟩ := k_X0
  exact ⟨h0, k_tok, k_sc1, k_sc2, k_T, k_I, k_F, k_N, k_Y, k_Z, k_A, k_B, k_C, ⟨h_X0a, h_X0, fun X1 X2 Xp Xw Xs Xo Xv Xd e0 e1 e2 e3 e4 e5 e6 e7 => by
      have ev := Option.some.inj (t1176.symm.trans e6)
      have h9 := h_X _ _ _ _ _ _ _ _ e0 e1 e2 e3 e4 e5 e6 e7
      rw [t1182] at h9
      have h8 : ((1 : Nat) : Int) ≤ Xv := h9.1.2.1.2.1
      have ej : Xv.toNat - 1 = j := by omega
      have e9 : wrM m 149 j x 149 (Xv.toNat - 1) = x := by rw [ej, wr_at]
      have e8 : wrM m 149 j x 148 (Xv.toNat - 1) = g 4 := by
        show m 148 (Xv.toNat - 1) = _
        rw [ej, show j = jcc by omega]
        exact vcc.symm
      exact XS_r h9 rfl rfl (fun i hi => ⟨rfl, rfl, rfl, rfl⟩) (fun i hi => ⟨wr_ne (by omega), rfl⟩) (e9.trans (by omega)) (by rw [e9, e8]; exact ⟨by omega, fun z => (by omega), fun z => (by omega), fun z => ⟨by omega, by omega⟩⟩), h_Xe⟩, ⟨fun _ _ e0 e1 => no9 n1160 e0, fun _ _ _ e0 e1 e2 => no9 n1160 e0, fun _ _ _ _ _ e0 e1 e2 e3 e4 => no9 n1160 e0, fun _ _ _ e0 e1 e2 => no9 n1160 e0, fun _ _ _ e0 e1 e2 => no9 n1160 e0, fun _ _ _ _ _ _ e0 e1 e2 e3 e4 e5 => no9 n1160 e0, fun _ _ _ e0 e1 e2 => no9 n1160 e0⟩, k_f4⟩
noncomputable def wu_wrp7 : Ru := ([(7, (0, (0, (0, 0)))), (8, (0, (0, (0, 0)))), (0, (1176, (0, (0, 0)))), (0, (1182, (0, (0, 0)))), (6, (148, (0, (0, 0))))], ([1160], ([([(0, 1), (2, (-1))], (-1)), ([(0, (-1)), (2, 1)], 1), ([(1, 1), (3, (-1))], 0), ([(1, (-1)), (3, 1)], 0), ([(1, 1)], 7), ([(1, (-1))], (-7)), ([(4, 1)], 7), ([(4, (-1))], (-7))], (false, ([], ([], ([(1182, none)], none)))))))
theorem wk_wrp7 : WrOk SR 149 wu_wrp7 := by
  intro τ m g j x hi hc ha hS
  obtain ⟨i0, i1, i2, i3, i4, _⟩ := hi
  have xp : g 0 = (j : Int) := i0
  have xv : g 1 = x := i1
  have t1176 : τ 1176 = some (g 2) := i2
  have t1182 : τ 1182 = some (g 3) := i3
  obtain ⟨jcc, ucc, vcc⟩ : ∃ j : Nat, g 0 = (j : Int) ∧ g 4 = m 148 j := i4
  obtain ⟨c0, c1, c2, c3, c4, c5, c6, c7, _⟩ := hc
  have c0 : 1 * g 0 + (-1) * g 2 ≤ (-1) := d2 c0
  have c1 : (-1) * g 0 + 1 * g 2 ≤ 1 := d2 c1
  have c2 : 1 * g 1 + (-1) * g 3 ≤ 0 := d2 c2
  have c3 : (-1) * g 1 + 1 * g 3 ≤ 0 := d2 c3
  have c4 : 1 * g 1 ≤ 7 := d1 c4
  have c5 : (-1) * g 1 ≤ (-7) := d1 c5
  have c6 : 1 * g 4 ≤ 7 := d1 c6
  have c7 : (-1) * g 4 ≤ (-7) := d1 c7
  obtain ⟨a0, _⟩ := ha
  have n1160 : τ 1160 = none := a0
  refine fun hM => ?_
  obtain ⟨h0, k_tok, k_sc1, k_sc2, k_T, k_I, k_F, k_N, k_Y, k_Z, k_A, k_B, k_C, k_X, k_R, k_f4⟩ := hS hM
  have k_X0 := k_X
  obtain ⟨h_X0a, h_X0, h_X, h_Xe⟩ := k_X0
  exact ⟨h0, k_tok, k_sc1, k_sc2, k_T, k_I, k_F, k_N, k_Y, k_Z, k_A, k_B, k_C, ⟨h_X0a, h_X0, fun X1 X2 Xp Xw Xs Xo Xv Xd e0 e1 e2 e3 e4 e5 e6 e7 => by
      have ev := Option.some.inj (t1176.symm.trans e6)
      have h9 := h_X _ _ _ _ _ _ _ _ e0 e1 e2 e3 e4 e5 e6 e7
      rw [t1182] at h9
      have h8 : ((1 : Nat) : Int) ≤ Xv := h9.1.2.1.2.1
      have ej : Xv.toNat - 1 = j := by omega
      have e9 : wrM m 149 j x 149 (Xv.toNat - 1) = x := by rw [ej, wr_at]
      have e8 : wrM m 149 j x 148 (Xv.toNat - 1) = g 4 := by
        show m 148 (Xv.toNat - 1) = _
        rw [ej, show j = jcc by omega]
        exact vcc.symm
      exact XS_r h9 rfl rfl (fun i hi => ⟨rfl, rfl, rfl, rfl⟩) (fun i hi => ⟨wr_ne (by omega), rfl⟩) (e9.trans (by omega)) (by rw [e9, e8]; exact ⟨by omega, fun z => (by omega), fun z => (by omega), fun z => ⟨by omega, by omega⟩⟩), h_Xe⟩, ⟨fun _ _ e0 e1 => no9 n1160 e0, fun _ _ _ e0 e1 e2 => no9 n1160 e0, fun _ _ _ _ _ e0 e1 e2 e3 e4 => no9 n1160 e0, fun _ _ _ e0 e1 e2 => no9 n1160 e0, fun _ _ _ e0 e1 e2 => no9 n1160 e0, fun _ _ _ _ _ _ e0 e1 e2 e3 e4 e5 => no9 n1160 e0, fun _ _ _ e0 e1 e2 => no9 n1160 e0⟩, k_f4⟩
noncomputable def wu_wrpa : Ru := ([(7, (0, (0, (0, 0)))), (8, (0, (0, (0, 0)))), (0, (1176, (0, (0, 0)))), (0, (1182, (0, (0, 0)))), (6, (148, (0, (0, 0))))], ([1160], ([([(0, 1), (2, (-1))], (-1)), ([(0, (-1)), (2, 1)], 1), ([(1, 1), (3, (-1))], 0), ([(1, (-1)), (3, 1)], 0), ([(1, (-1))], (-4)), ([(1, 1)], 6), ([(4, (-1))], (-8)), ([(4, 1)], 13)], (false, ([], ([], ([(1182, none)], none)))))))
theorem wk_wrpa : WrOk SR 149 wu_wrpa := by
  intro τ m g j x hi hc ha hS
  obtain ⟨i0, i1, i2, i3, i4, _⟩ := hi
  have xp : g 0 = (j : Int) := i0
  have xv : g 1 = x := i1
  have t1176 : τ 1176 = some (g 2) := i2
  have t1182 : τ 1182 = some (g 3) := i3
  obtain ⟨jcc, ucc, vcc⟩ : ∃ j : Nat, g 0 = (j : Int) ∧ g 4 = m 148 j := i4
  obtain ⟨c0, c1, c2, c3, c4, c5, c6, c7, _⟩ := hc
  have c0 : 1 * g 0 + (-1) * g 2 ≤ (-1) := d2 c0
  have c1 : (-1) * g 0 + 1 * g 2 ≤ 1 := d2 c1
  have c2 : 1 * g 1 + (-1) * g 3 ≤ 0 := d2 c2
  have c3 : (-1) * g 1 + 1 * g 3 ≤ 0 := d2 c3
  have c4 : (-1) * g 1 ≤ (-4) := d1 c4
  have c5 : 1 * g 1 ≤ 6 := d1 c5
  have c6 : (-1) * g 4 ≤ (-8) := d1 c6
  have c7 : 1 * g 4 ≤ 13 := d1 c7
  obtain ⟨a0, _⟩ := ha
  have n1160 : τ 1160 = none := a0
  refine fun hM => ?_
  obtain ⟨h0, k_tok, k_sc1, k_sc2, k_T, k_I, k_F, k_N, k_Y, k_Z, k_A, k_B, k_C, k_X, k_R, k_f4⟩ := hS hM
  have k_X0 := k_X
  obtain ⟨h_X0a, h_X0, h_X, h_Xe⟩ := k_X0
  exact ⟨h0, k_tok, k_sc1, k_sc2, k_T, k_I, k_F, k_N, k_Y, k_Z, k_A, k_B, k_C, ⟨h_X0a, h_X0, fun X1 X2 Xp Xw Xs Xo Xv Xd e0 e1 e2 e3 e4 e5 e6 e7 => by
      have ev := Option.some.inj (t1176.symm.trans e6)
      have h9 := h_X _ _ _ _ _ _ _ _ e0 e1 e2 e3 e4 e5 e6 e7
      rw [t1182] at h9
      have h8 : ((1 : Nat) : Int) ≤ Xv := h9.1.2.1.2.1
      have ej : Xv.toNat - 1 = j := by omega
      have e9 : wrM m 149 j x 149 (Xv.toNat - 1) = x := by rw [ej, wr_at]
      have e8 : wrM m 149 j x 148 (Xv.toNat - 1) = g 4 := by
        show m 148 (Xv.toNat - 1) = _
        rw [ej, show j = jcc by omega]
        exact vcc.symm
      exact XS_r h9 rfl rfl (fun i hi => ⟨rfl, rfl, rfl, rfl⟩) (fun i hi => ⟨wr_ne (by omega), rfl⟩) (e9.trans (by omega)) (by rw [e9, e8]; exact ⟨by omega, fun z => (by omega), fun z => (by omega), fun z => ⟨by omega, by omega⟩⟩), h_Xe⟩, ⟨fun _ _ e0 e1 => no9 n1160 e0, fun _ _ _ e0 e1 e2 => no9 n1160 e0, fun _ _ _ _ _ e0 e1 e2 e3 e4 => no9 n1160 e0, fun _ _ _ e0 e1 e2 => no9 n1160 e0, fun _ _ _ e0 e1 e2 => no9 n1160 e0, fun _ _ _ _ _ _ e0 e1 e2 e3 e4 e5 => no9 n1160 e0, fun _ _ _ e0 e1 e2 => no9 n1160 e0⟩, k_f4⟩
noncomputable def wu_wrpb : Ru := ([(7, (0, (0, (0, 0)))), (8, (0, (0, (0, 0)))), (0, (1176, (0, (0, 0)))), (0, (1182, (0, (0, 0)))), (6, (148, (0, (0, 0))))], ([1160], ([([(0, 1), (2, (-1))], (-1)), ([(0, (-1)), (2, 1)], 1), ([(1, 1), (3, (-1))], 0), ([(1, (-1)), (3, 1)], 0), ([(1, (-1))], (-1)), ([(1, 1)], 2), ([(4, (-1))], (-17))], (false, ([], ([], ([(1182, none)], none)))))))
theorem wk_wrpb : WrOk SR 149 wu_wrpb := by
  intro τ m g j x hi hc ha hS
  obtain ⟨i0, i1, i2, i3, i4, _⟩ := hi
  have xp : g 0 = (j : Int) := i0
  have xv : g 1 = x := i1
  have t1176 : τ 1176 = some (g 2) := i2
  have t1182 : τ 1182 = some (g 3) := i3
  obtain ⟨jcc, ucc, vcc⟩ : ∃ j : Nat, g 0 = (j : Int) ∧ g 4 = m 148 j := i4
  obtain ⟨c0, c1, c2, c3, c4, c5, c6, _⟩ := hc
  have c0 : 1 * g 0 + (-1) * g 2 ≤ (-1) := d2 c0
  have c1 : (-1) * g 0 + 1 * g 2 ≤ 1 := d2 c1
  have c2 : 1 * g 1 + (-1) * g 3 ≤ 0 := d2 c2
  have c3 : (-1) * g 1 + 1 * g 3 ≤ 0 := d2 c3
  have c4 : (-1) * g 1 ≤ (-1) := d1 c4
  have c5 : 1 * g 1 ≤ 2 := d1 c5
  have c6 : (-1) * g 4 ≤ (-17) := d1 c6
  obtain ⟨a0, _⟩ := ha
  have n1160 : τ 1160 = none := a0
  refine fun hM => ?_
  obtain ⟨h0, k_tok, k_sc1, k_sc2, k_T, k_I, k_F, k_N, k_Y, k_Z, k_A, k_B, k_C, k_X, k_R, k_f4⟩ := hS hM
  have k_X0 := k_X
  obtain ⟨h_X0a, h_X0, h_X, h_Xe⟩ := k_X0
  exact ⟨h0, k_tok, k_sc1, k_sc2, k_T, k_I, k_F, k_N, k_Y, k_Z, k_A, k_B, k_C, ⟨h_X0a, h_X0, fun X1 X2 Xp Xw Xs Xo Xv Xd e0 e1 e2 e3 e4 e5 e6 e7 => by
      have ev := Option.some.inj (t1176.symm.trans e6)
      have h9 := h_X _ _ _ _ _ _ _ _ e0 e1 e2 e3 e4 e5 e6 e7
      rw [t1182] at h9
      have h8 : ((1 : Nat) : Int) ≤ Xv := h9.1.2.1.2.1
      have ej : Xv.toNat - 1 = j := by omega
      have e9 : wrM m 149 j x 149 (Xv.toNat - 1) = x := by rw [ej, wr_at]
      have e8 : wrM m 149 j x 148 (Xv.toNat - 1) = g 4 := by
        show m 148 (Xv.toNat - 1) = _
        rw [ej, show j = jcc by omega]
        exact vcc.symm
      exact XS_r h9 rfl rfl (fun i hi => ⟨rfl, rfl, rfl, rfl⟩) (fun i hi => ⟨wr_ne (by omega), rfl⟩) (e9.trans (by omega)) (by rw [e9, e8]; exact ⟨by omega, fun z => (by omega), fun z => (by omega), fun z => ⟨by omega, by omega⟩⟩), h_Xe⟩, ⟨fun _ _ e0 e1 => no9 n1160 e0, fun _ _ _ e0 e1 e2 => no9 n1160 e0, fun _ _ _ _ _ e0 e1 e2 e3 e4 => no9 n1160 e0, fun _ _ _ e0 e1 e2 => no9 n1160 e0, fun _ _ _ e0 e1 e2 => no9 n1160 e0, fun _ _ _ _ _ _ e0 e1 e2 e3 e4 e5 => no9 n1160 e0, fun _ _ _ e0 e1 e2 => no9 n1160 e0⟩, k_f4⟩
noncomputable def wu_z17 : Ru := ([(7, (0, (0, (0, 0))))], ([1199], ([], (false, ([], ([], ([], none)))))))
theorem wk_z17 : WrOk SR 17 wu_z17 := by
  intro τ m g j x hi hc ha hS
  obtain ⟨i0, _⟩ := hi
  have xp : g 0 = (j : Int) := i0
  obtain ⟨a0, _⟩ := ha
  have n1199 : τ 1199 = none := a0
  exact fun h => absurd n1199 h
noncomputable def wu_po : Ru := ([(7, (0, (0, (0, 0))))], ([], ([], (false, ([], ([], ([], none)))))))
theorem wk_po : WrOk SR 17 wu_po := by
  intro τ m g j x hi hc ha hS
  obtain ⟨i0, _⟩ := hi
  have xp : g 0 = (j : Int) := i0
  refine fun hM => ?_
  obtain ⟨h0, k_tok, k_sc1, k_sc2, k_T, k_I, k_F, k_N, k_Y, k_Z, k_A, k_B, k_C, k_X, k_R, k_f4⟩ := hS hM
  exact ⟨h0, k_tok, k_sc1, k_sc2, k_T, k_I, k_F, k_N, k_Y, k_Z, k_A, k_B, k_C, gX_w (τ := τ) (m := m) (m' := wrM m 17 j x) rfl rfl (fun i => ⟨rfl, rfl, rfl, rfl, rfl, rfl⟩) k_X, gR_w (τ := τ) (m := m) (m' := wrM m 17 j x) (fun i => ⟨rfl, rfl, rfl⟩) k_R, k_f4⟩
end
