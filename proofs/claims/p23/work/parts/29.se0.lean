noncomputable section
/-! ===== THE READER, 75: rules ===== -/
noncomputable def ru_txq9 : Ru := ([(0, (1199, (0, (0, 0)))), (0, (1100, (0, (0, 0)))), (0, (1103, (0, (0, 0)))), (9, (23, (2, (1, 0))))], ([], ([([(2, (-1))], 0), ([(1, (-1)), (2, 1)], (-1))], (false, ([], ([(111, (2, 3))], ([], none)))))))
theorem rk_txq9 : RuOk SR ru_txq9 := by
  intro τ m g hi hc ha hS
  obtain ⟨i0, i1, i2, i3, _⟩ := hi
  have t1199 : τ 1199 = some (g 0) := i0
  have t1100 : τ 1100 = some (g 1) := i1
  have t1103 : τ 1103 = some (g 2) := i2
  obtain ⟨jb, ub, vb⟩ : ∃ j : Nat, 1 * g 2 + 0 = (j : Int) ∧ g 3 = m 23 j := i3
  obtain ⟨c0, c1, _⟩ := hc
  have c0 : (-1) * g 2 ≤ 0 := d1 c0
  have c1 : (-1) * g 1 + 1 * g 2 ≤ (-1) := d2 c1
  obtain ⟨h0, k_tok, k_sc1, k_sc2, k_T, k_I, k_F, k_N, k_Y, k_Z, k_A, k_B, k_C, k_X, k_R, k_f4⟩ := hS (by rw [t1199]; exact fun e => by cases e)
  have k_tok0 := k_tok
  obtain ⟨h_L, h_n, h_nF⟩ := k_tok0
  exact ⟨rfl, trivial, ⟨⟨jb, (show g 2 = (jb : Int) by omega), vb.trans ((h_L _ t1100).2 jb (by omega))⟩, trivial⟩, fun _ => ⟨h0, k_tok, k_sc1, k_sc2, k_T, k_I, k_F, k_N, k_Y, k_Z, k_A, k_B, k_C, k_X, k_R, k_f4⟩⟩
noncomputable def ru_txs9 : Ru := ([(0, (1199, (0, (0, 0)))), (0, (1100, (0, (0, 0)))), (0, (1105, (0, (0, 0)))), (9, (23, (2, (1, 0))))], ([], ([([(2, (-1))], 0), ([(1, (-1)), (2, 1)], (-1))], (false, ([], ([(111, (2, 3))], ([], none)))))))
theorem rk_txs9 : RuOk SR ru_txs9 := by
  intro τ m g hi hc ha hS
  obtain ⟨i0, i1, i2, i3, _⟩ := hi
  have t1199 : τ 1199 = some (g 0) := i0
  have t1100 : τ 1100 = some (g 1) := i1
  have t1105 : τ 1105 = some (g 2) := i2
  obtain ⟨jb, ub, vb⟩ : ∃ j : Nat, 1 * g 2 + 0 = (j : Int) ∧ g 3 = m 23 j := i3
  obtain ⟨c0, c1, _⟩ := hc
  have c0 : (-1) * g 2 ≤ 0 := d1 c0
  have c1 : (-1) * g 1 + 1 * g 2 ≤ (-1) := d2 c1
  obtain ⟨h0, k_tok, k_sc1, k_sc2, k_T, k_I, k_F, k_N, k_Y, k_Z, k_A, k_B, k_C, k_X, k_R, k_f4⟩ := hS (by rw [t1199]; exact fun e => by cases e)
  have k_tok0 := k_tok
  obtain ⟨h_L, h_n, h_nF⟩ := k_tok0
  exact ⟨rfl, trivial, ⟨⟨jb, (show g 2 = (jb : Int) by omega), vb.trans ((h_L _ t1100).2 jb (by omega))⟩, trivial⟩, fun _ => ⟨h0, k_tok, k_sc1, k_sc2, k_T, k_I, k_F, k_N, k_Y, k_Z, k_A, k_B, k_C, k_X, k_R, k_f4⟩⟩
noncomputable def ru_txw9 : Ru := ([(0, (1199, (0, (0, 0)))), (0, (1100, (0, (0, 0)))), (0, (1109, (0, (0, 0)))), (9, (23, (2, (1, 0))))], ([], ([([(2, (-1))], 0), ([(1, (-1)), (2, 1)], (-1))], (false, ([], ([(111, (2, 3))], ([], none)))))))
theorem rk_txw9 : RuOk SR ru_txw9 := by
  intro τ m g hi hc ha hS
  obtain ⟨i0, i1, i2, i3, _⟩ := hi
  have t1199 : τ 1199 = some (g 0) := i0
  have t1100 : τ 1100 = some (g 1) := i1
  have t1109 : τ 1109 = some (g 2) := i2
  obtain ⟨jb, ub, vb⟩ : ∃ j : Nat, 1 * g 2 + 0 = (j : Int) ∧ g 3 = m 23 j := i3
  obtain ⟨c0, c1, _⟩ := hc
  have c0 : (-1) * g 2 ≤ 0 := d1 c0
  have c1 : (-1) * g 1 + 1 * g 2 ≤ (-1) := d2 c1
  obtain ⟨h0, k_tok, k_sc1, k_sc2, k_T, k_I, k_F, k_N, k_Y, k_Z, k_A, k_B, k_C, k_X, k_R, k_f4⟩ := hS (by rw [t1199]; exact fun e => by cases e)
  have k_tok0 := k_tok
  obtain ⟨h_L, h_n, h_nF⟩ := k_tok0
  exact ⟨rfl, trivial, ⟨⟨jb, (show g 2 = (jb : Int) by omega), vb.trans ((h_L _ t1100).2 jb (by omega))⟩, trivial⟩, fun _ => ⟨h0, k_tok, k_sc1, k_sc2, k_T, k_I, k_F, k_N, k_Y, k_Z, k_A, k_B, k_C, k_X, k_R, k_f4⟩⟩
noncomputable def ru_txf9 : Ru := ([(0, (1199, (0, (0, 0)))), (0, (1100, (0, (0, 0)))), (0, (1111, (0, (0, 0)))), (9, (23, (2, (1, 0))))], ([], ([([(2, (-1))], 0), ([(1, (-1)), (2, 1)], (-1))], (false, ([], ([(111, (2, 3))], ([], none)))))))
theorem rk_txf9 : RuOk SR ru_txf9 := by
  intro τ m g hi hc ha hS
  obtain ⟨i0, i1, i2, i3, _⟩ := hi
  have t1199 : τ 1199 = some (g 0) := i0
  have t1100 : τ 1100 = some (g 1) := i1
  have t1111 : τ 1111 = some (g 2) := i2
  obtain ⟨jb, ub, vb⟩ : ∃ j : Nat, 1 * g 2 + 0 = (j : Int) ∧ g 3 = m 23 j := i3
  obtain ⟨c0, c1, _⟩ := hc
  have c0 : (-1) * g 2 ≤ 0 := d1 c0
  have c1 : (-1) * g 1 + 1 * g 2 ≤ (-1) := d2 c1
  obtain ⟨h0, k_tok, k_sc1, k_sc2, k_T, k_I, k_F, k_N, k_Y, k_Z, k_A, k_B, k_C, k_X, k_R, k_f4⟩ := hS (by rw [t1199]; exact fun e => by cases e)
  have k_tok0 := k_tok
  obtain ⟨h_L, h_n, h_nF⟩ := k_tok0
  exact ⟨rfl, trivial, ⟨⟨jb, (show g 2 = (jb : Int) by omega), vb.trans ((h_L _ t1100).2 jb (by omega))⟩, trivial⟩, fun _ => ⟨h0, k_tok, k_sc1, k_sc2, k_T, k_I, k_F, k_N, k_Y, k_Z, k_A, k_B, k_C, k_X, k_R, k_f4⟩⟩
noncomputable def ru_txg9 : Ru := ([(0, (1199, (0, (0, 0)))), (0, (1100, (0, (0, 0)))), (0, (1114, (0, (0, 0)))), (9, (23, (2, (1, 0))))], ([], ([([(2, (-1))], 0), ([(1, (-1)), (2, 1)], (-1))], (false, ([], ([(111, (2, 3))], ([], none)))))))
theorem rk_txg9 : RuOk SR ru_txg9 := by
  intro τ m g hi hc ha hS
  obtain ⟨i0, i1, i2, i3, _⟩ := hi
  have t1199 : τ 1199 = some (g 0) := i0
  have t1100 : τ 1100 = some (g 1) := i1
  have t1114 : τ 1114 = some (g 2) := i2
  obtain ⟨jb, ub, vb⟩ : ∃ j : Nat, 1 * g 2 + 0 = (j : Int) ∧ g 3 = m 23 j := i3
  obtain ⟨c0, c1, _⟩ := hc
  have c0 : (-1) * g 2 ≤ 0 := d1 c0
  have c1 : (-1) * g 1 + 1 * g 2 ≤ (-1) := d2 c1
  obtain ⟨h0, k_tok, k_sc1, k_sc2, k_T, k_I, k_F, k_N, k_Y, k_Z, k_A, k_B, k_C, k_X, k_R, k_f4⟩ := hS (by rw [t1199]; exact fun e => by cases e)
  have k_tok0 := k_tok
  obtain ⟨h_L, h_n, h_nF⟩ := k_tok0
  exact ⟨rfl, trivial, ⟨⟨jb, (show g 2 = (jb : Int) by omega), vb.trans ((h_L _ t1100).2 jb (by omega))⟩, trivial⟩, fun _ => ⟨h0, k_tok, k_sc1, k_sc2, k_T, k_I, k_F, k_N, k_Y, k_Z, k_A, k_B, k_C, k_X, k_R, k_f4⟩⟩
noncomputable def ru_tys9 : Ru := ([(0, (1199, (0, (0, 0)))), (0, (1100, (0, (0, 0)))), (0, (1105, (0, (0, 0)))), (9, (23, (2, (1, 1)))), (10, (0, (2, (1, 0))))], ([], ([([(2, (-1))], 0), ([(1, (-1)), (2, 1)], (-2))], (false, ([], ([(111, (4, 3))], ([], none)))))))
theorem rk_tys9 : RuOk SR ru_tys9 := by
  intro τ m g hi hc ha hS
  obtain ⟨i0, i1, i2, i3, i4, _⟩ := hi
  have t1199 : τ 1199 = some (g 0) := i0
  have t1100 : τ 1100 = some (g 1) := i1
  have t1105 : τ 1105 = some (g 2) := i2
  obtain ⟨jb, ub, vb⟩ : ∃ j : Nat, 1 * g 2 + 1 = (j : Int) ∧ g 3 = m 23 j := i3
  have xt1 : g 4 = g 2 + 1 := i4
  obtain ⟨c0, c1, _⟩ := hc
  have c0 : (-1) * g 2 ≤ 0 := d1 c0
  have c1 : (-1) * g 1 + 1 * g 2 ≤ (-2) := d2 c1
  obtain ⟨h0, k_tok, k_sc1, k_sc2, k_T, k_I, k_F, k_N, k_Y, k_Z, k_A, k_B, k_C, k_X, k_R, k_f4⟩ := hS (by rw [t1199]; exact fun e => by cases e)
  have k_tok0 := k_tok
  obtain ⟨h_L, h_n, h_nF⟩ := k_tok0
  exact ⟨rfl, trivial, ⟨⟨jb, (show g 4 = (jb : Int) by omega), vb.trans ((h_L _ t1100).2 jb (by omega))⟩, trivial⟩, fun _ => ⟨h0, k_tok, k_sc1, k_sc2, k_T, k_I, k_F, k_N, k_Y, k_Z, k_A, k_B, k_C, k_X, k_R, k_f4⟩⟩
noncomputable def ru_tyf9 : Ru := ([(0, (1199, (0, (0, 0)))), (0, (1100, (0, (0, 0)))), (0, (1111, (0, (0, 0)))), (9, (23, (2, (1, 1)))), (10, (0, (2, (1, 0))))], ([], ([([(2, (-1))], 0), ([(1, (-1)), (2, 1)], (-2))], (false, ([], ([(111, (4, 3))], ([], none)))))))
theorem rk_tyf9 : RuOk SR ru_tyf9 := by
  intro τ m g hi hc ha hS
  obtain ⟨i0, i1, i2, i3, i4, _⟩ := hi
  have t1199 : τ 1199 = some (g 0) := i0
  have t1100 : τ 1100 = some (g 1) := i1
  have t1111 : τ 1111 = some (g 2) := i2
  obtain ⟨jb, ub, vb⟩ : ∃ j : Nat, 1 * g 2 + 1 = (j : Int) ∧ g 3 = m 23 j := i3
  have xt1 : g 4 = g 2 + 1 := i4
  obtain ⟨c0, c1, _⟩ := hc
  have c0 : (-1) * g 2 ≤ 0 := d1 c0
  have c1 : (-1) * g 1 + 1 * g 2 ≤ (-2) := d2 c1
  obtain ⟨h0, k_tok, k_sc1, k_sc2, k_T, k_I, k_F, k_N, k_Y, k_Z, k_A, k_B, k_C, k_X, k_R, k_f4⟩ := hS (by rw [t1199]; exact fun e => by cases e)
  have k_tok0 := k_tok
  obtain ⟨h_L, h_n, h_nF⟩ := k_tok0
  exact ⟨rfl, trivial, ⟨⟨jb, (show g 4 = (jb : Int) by omega), vb.trans ((h_L _ t1100).2 jb (by omega))⟩, trivial⟩, fun _ => ⟨h0, k_tok, k_sc1, k_sc2, k_T, k_I, k_F, k_N, k_Y, k_Z, k_A, k_B, k_C, k_X, k_R, k_f4⟩⟩
noncomputable def ru_bl32 : Ru := ([(0, (1199, (0, (0, 0)))), (0, (1103, (0, (0, 0)))), (0, (1104, (0, (0, 0)))), (9, (111, (1, (1, 0)))), (5, (110, (1, (0, 0))))], ([], ([([(1, (-1))], 0), ([(1, 1), (4, (-1))], (-1)), ([(3, 1)], 32), ([(3, (-1))], (-32))], (false, ([], ([], ([(1103, some (1, 1))], none)))))))
theorem rk_bl32 : RuOk SR ru_bl32 := by
  intro τ m g hi hc ha hS
  obtain ⟨i0, i1, i2, i3, i4, _⟩ := hi
  have t1199 : τ 1199 = some (g 0) := i0
  have t1103 : τ 1103 = some (g 1) := i1
  have t1104 : τ 1104 = some (g 2) := i2
  obtain ⟨jb, ub, vb⟩ : ∃ j : Nat, 1 * g 1 + 0 = (j : Int) ∧ g 3 = m 111 j := i3
  have xL : g 4 = m 110 1 := i4
  obtain ⟨c0, c1, c2, c3, _⟩ := hc
  have c0 : (-1) * g 1 ≤ 0 := d1 c0
  have c1 : 1 * g 1 + (-1) * g 4 ≤ (-1) := d2 c1
  have c2 : 1 * g 3 ≤ 32 := d1 c2
  have c3 : (-1) * g 3 ≤ (-32) := d1 c3
  obtain ⟨h0, k_tok, k_sc1, k_sc2, k_T, k_I, k_F, k_N, k_Y, k_Z, k_A, k_B, k_C, k_X, k_R, k_f4⟩ := hS (by rw [t1199]; exact fun e => by cases e)
  have k_sc10 := k_sc1
  obtain ⟨h_qz, h_nz, h_s, h_ns, h_nE⟩ := k_sc10
  obtain ⟨⟨hq1, hq2⟩, hq3⟩ := h_qz _ _ t1103 t1104
  exact ⟨rfl, trivial, trivial, fun _ => ⟨h0, k_tok, ⟨fun q9 z9 e0 e1 => by
      have e0 : g 1 + 1 = q9 := Option.some.inj e0
      subst e0
      have e1 : g 2 = z9 := Option.some.inj (t1104.symm.trans e1)
      subst e1
      refine ⟨⟨by omega, by omega⟩, ?_⟩
      rw [show (g 1 + 1).toNat = (g 1).toNat + 1 by omega, ← sk_t (by omega) (Or.inl (by rw [show (g 1).toNat = jb by omega]; omega))]
      exact hq3, h_nz, h_s, h_ns, h_nE⟩, k_sc2, k_T, k_I, k_F, k_N, k_Y, k_Z, k_A, k_B, k_C, k_X, k_R, k_f4⟩⟩
noncomputable def ru_bl10 : Ru := ([(0, (1199, (0, (0, 0)))), (0, (1103, (0, (0, 0)))), (0, (1104, (0, (0, 0)))), (9, (111, (1, (1, 0)))), (5, (110, (1, (0, 0))))], ([], ([([(1, (-1))], 0), ([(1, 1), (4, (-1))], (-1)), ([(3, 1)], 10), ([(3, (-1))], (-10))], (false, ([], ([], ([(1103, some (1, 1))], none)))))))
theorem rk_bl10 : RuOk SR ru_bl10 := by
  intro τ m g hi hc ha hS
  obtain ⟨i0, i1, i2, i3, i4, _⟩ := hi
  have t1199 : τ 1199 = some (g 0) := i0
  have t1103 : τ 1103 = some (g 1) := i1
  have t1104 : τ 1104 = some (g 2) := i2
  obtain ⟨jb, ub, vb⟩ : ∃ j : Nat, 1 * g 1 + 0 = (j : Int) ∧ g 3 = m 111 j := i3
  have xL : g 4 = m 110 1 := i4
  obtain ⟨c0, c1, c2, c3, _⟩ := hc
  have c0 : (-1) * g 1 ≤ 0 := d1 c0
  have c1 : 1 * g 1 + (-1) * g 4 ≤ (-1) := d2 c1
  have c2 : 1 * g 3 ≤ 10 := d1 c2
  have c3 : (-1) * g 3 ≤ (-10) := d1 c3
  obtain ⟨h0, k_tok, k_sc1, k_sc2, k_T, k_I, k_F, k_N, k_Y, k_Z, k_A, k_B, k_C, k_X, k_R, k_f4⟩ := hS (by rw [t1199]; exact fun e => by cases e)
  have k_sc10 := k_sc1
  obtain ⟨h_qz, h_nz, h_s, h_ns, h_nE⟩ := k_sc10
  obtain ⟨⟨hq1, hq2⟩, hq3⟩ := h_qz _ _ t1103 t1104
  exact ⟨rfl, trivial, trivial, fun _ => ⟨h0, k_tok, ⟨fun q9 z9 e0 e1 => by
      have e0 : g 1 + 1 = q9 := Option.some.inj e0
      subst e0
      have e1 : g 2 = z9 := Option.some.inj (t1104.symm.trans e1)
      subst e1
      refine ⟨⟨by omega, by omega⟩, ?_⟩
      rw [show (g 1 + 1).toNat = (g 1).toNat + 1 by omega, ← sk_t (by omega) (Or.inr (by rw [show (g 1).toNat = jb by omega]; omega))]
      exact hq3, h_nz, h_s, h_ns, h_nE⟩, k_sc2, k_T, k_I, k_F, k_N, k_Y, k_Z, k_A, k_B, k_C, k_X, k_R, k_f4⟩⟩
noncomputable def ru_skA : Ru := ([(0, (1199, (0, (0, 0)))), (0, (1103, (0, (0, 0)))), (0, (1104, (0, (0, 0)))), (9, (111, (1, (1, 0)))), (5, (110, (1, (0, 0))))], ([1105, 1106, 1107, 1108, 1109, 1110, 1111, 1112, 1113, 1114, 1115], ([([(1, (-1))], 0), ([(1, 1), (4, (-1))], (-1)), ([(3, 1)], 9)], (false, ([([(1, (-1)), (2, 1)], 0), ([(1, 1), (2, (-1))], 0)], ([], ([(1105, some (2, 0)), (1103, none), (1104, none)], none)))))))
theorem rk_skA : RuOk SR ru_skA := by
  intro τ m g hi hc ha hS
  obtain ⟨i0, i1, i2, i3, i4, _⟩ := hi
  have t1199 : τ 1199 = some (g 0) := i0
  have t1103 : τ 1103 = some (g 1) := i1
  have t1104 : τ 1104 = some (g 2) := i2
  obtain ⟨jb, ub, vb⟩ : ∃ j : Nat, 1 * g 1 + 0 = (j : Int) ∧ g 3 = m 111 j := i3
  have xL : g 4 = m 110 1 := i4
  obtain ⟨c0, c1, c2, _⟩ := hc
  have c0 : (-1) * g 1 ≤ 0 := d1 c0
  have c1 : 1 * g 1 + (-1) * g 4 ≤ (-1) := d2 c1
  have c2 : 1 * g 3 ≤ 9 := d1 c2
  obtain ⟨a0, a1, a2, a3, a4, a5, a6, a7, a8, a9, a10, _⟩ := ha
  have n1105 : τ 1105 = none := a0
  have n1106 : τ 1106 = none := a1
  have n1107 : τ 1107 = none := a2
  have n1108 : τ 1108 = none := a3
  have n1109 : τ 1109 = none := a4
  have n1110 : τ 1110 = none := a5
  have n1111 : τ 1111 = none := a6
  have n1112 : τ 1112 = none := a7
  have n1113 : τ 1113 = none := a8
  have n1114 : τ 1114 = none := a9
  have n1115 : τ 1115 = none := a10
  obtain ⟨h0, k_tok, k_sc1, k_sc2, k_T, k_I, k_F, k_N, k_Y, k_Z, k_A, k_B, k_C, k_X, k_R, k_f4⟩ := hS (by rw [t1199]; exact fun e => by cases e)
  have k_sc10 := k_sc1
  obtain ⟨h_qz, h_nz, h_s, h_ns, h_nE⟩ := k_sc10
  have k_sc20 := k_sc2
  obtain ⟨h_ske, h_skv, h_sku, h_sw, h_swm, h_swu, h_sf, h_sg⟩ := k_sc20
  obtain ⟨⟨hq1, hq2⟩, hq3⟩ := h_qz _ _ t1103 t1104
  rw [sk_f (p := (g 1).toNat) (by rw [by_m (by omega), show (g 1).toNat = jb by omega]; exact ⟨by omega, by omega⟩)] at hq3
  exact ⟨rfl, ⟨f2 (by omega), f2 (by omega), trivial⟩, trivial, fun _ => ⟨h0, k_tok, ⟨fun _ _ e0 e1 => no9 (o := none) rfl e0, fun _ _ e0 e1 => no9 (o := none) rfl e1, fun s9 e0 => by
      have e0 : g 2 + 0 = s9 := Option.some.inj e0
      subst e0
      exact ⟨by omega, by omega⟩, fun n9 s9 e0 e1 => by
      have e1 : g 2 + 0 = s9 := Option.some.inj e1
      subst e1
      have y := h_nz _ _ e0 t1104
      exact ⟨by omega, y.2⟩, h_nE⟩, ⟨fun _ _ _ e0 e1 e2 => no9 n1107 e1, fun _ _ _ e0 e1 e2 => no9 n1107 e1, fun _ _ _ e0 e1 e2 => no9 n1107 e1, fun _ _ e0 e1 => no9 n1109 e1, fun _ _ _ e0 e1 e2 => no9 n1109 e1, fun _ _ _ e0 e1 e2 => no9 n1109 e1, fun _ _ _ _ e0 e1 e2 e3 => no9 n1111 e1, fun _ _ _ _ e0 e1 e2 e3 => no9 n1113 e1⟩, k_T, k_I, k_F, k_N, k_Y, k_Z, k_A, k_B, k_C, k_X, k_R, k_f4⟩⟩
noncomputable def ru_skB : Ru := ([(0, (1199, (0, (0, 0)))), (0, (1103, (0, (0, 0)))), (0, (1104, (0, (0, 0)))), (9, (111, (1, (1, 0)))), (5, (110, (1, (0, 0))))], ([1105, 1106, 1107, 1108, 1109, 1110, 1111, 1112, 1113, 1114, 1115], ([([(1, (-1))], 0), ([(1, 1), (4, (-1))], (-1)), ([(3, (-1))], (-11)), ([(3, 1)], 31)], (false, ([([(1, (-1)), (2, 1)], 0), ([(1, 1), (2, (-1))], 0)], ([], ([(1105, some (2, 0)), (1103, none), (1104, none)], none)))))))
theorem rk_skB : RuOk SR ru_skB := by
  intro τ m g hi hc ha hS
  obtain ⟨i0, i1, i2, i3, i4, _⟩ := hi
  have t1199 : τ 1199 = some (g 0) := i0
  have t1103 : τ 1103 = some (g 1) := i1
  have t1104 : τ 1104 = some (g 2) := i2
  obtain ⟨jb, ub, vb⟩ : ∃ j : Nat, 1 * g 1 + 0 = (j : Int) ∧ g 3 = m 111 j := i3
  have xL : g 4 = m 110 1 := i4
  obtain ⟨c0, c1, c2, c3, _⟩ := hc
  have c0 : (-1) * g 1 ≤ 0 := d1 c0
  have c1 : 1 * g 1 + (-1) * g 4 ≤ (-1) := d2 c1
  have c2 : (-1) * g 3 ≤ (-11) := d1 c2
  have c3 : 1 * g 3 ≤ 31 := d1 c3
  obtain ⟨a0, a1, a2, a3, a4, a5, a6, a7, a8, a9, a10, _⟩ := ha
  have n1105 : τ 1105 = none := a0
  have n1106 : τ 1106 = none := a1
  have n1107 : τ 1107 = none := a2
  have n1108 : τ 1108 = none := a3
  have n1109 : τ 1109 = none := a4
  have n1110 : τ 1110 = none := a5
  have n1111 : τ 1111 = none := a6
  have n1112 : τ 1112 = none := a7
  have n1113 : τ 1113 = none := a8
  have n1114 : τ 1114 = none := a9
  have n1115 : τ 1115 = none := a10
  obtain ⟨h0, k_tok, k_sc1, k_sc2, k_T, k_I, k_F, k_N, k_Y, k_Z, k_A, k_B, k_C, k_X, k_R, k_f4⟩ := hS (by rw [t1199]; exact fun e => by cases e)
  have k_sc10 := k_sc1
  obtain ⟨h_qz, h_nz, h_s, h_ns, h_nE⟩ := k_sc10
  have k_sc20 := k_sc2
  obtain ⟨h_ske, h_skv, h_sku, h_sw, h_swm, h_swu, h_sf, h_sg⟩ := k_sc20
  obtain ⟨⟨hq1, hq2⟩, hq3⟩ := h_qz _ _ t1103 t1104
  rw [sk_f (p := (g 1).toNat) (by rw [by_m (by omega), show (g 1).toNat = jb by omega]; exact ⟨by omega, by omega⟩)] at hq3
  exact ⟨rfl, ⟨f2 (by omega), f2 (by omega), trivial⟩, trivial, fun _ => ⟨h0, k_tok, ⟨fun _ _ e0 e1 => no9 (o := none) rfl e0, fun _ _ e0 e1 => no9 (o := none) rfl e1, fun s9 e0 => by
      have e0 : g 2 + 0 = s9 := Option.some.inj e0
      subst e0
      exact ⟨by omega, by omega⟩, fun n9 s9 e0 e1 => by
      have e1 : g 2 + 0 = s9 := Option.some.inj e1
      subst e1
      have y := h_nz _ _ e0 t1104
      exact ⟨by omega, y.2⟩, h_nE⟩, ⟨fun _ _ _ e0 e1 e2 => no9 n1107 e1, fun _ _ _ e0 e1 e2 => no9 n1107 e1, fun _ _ _ e0 e1 e2 => no9 n1107 e1, fun _ _ e0 e1 => no9 n1109 e1, fun _ _ _ e0 e1 e2 => no9 n1109 e1, fun _ _ _ e0 e1 e2 => no9 n1109 e1, fun _ _ _ _ e0 e1 e2 e3 => no9 n1111 e1, fun _ _ _ _ e0 e1 e2 e3 => no9 n1113 e1⟩, k_T, k_I, k_F, k_N, k_Y, k_Z, k_A, k_B, k_C, k_X, k_R, k_f4⟩⟩
noncomputable def ru_skC : Ru := ([(0, (1199, (0, (0, 0)))), (0, (1103, (0, (0, 0)))), (0, (1104, (0, (0, 0)))), (9, (111, (1, (1, 0)))), (5, (110, (1, (0, 0))))], ([1105, 1106, 1107, 1108, 1109, 1110, 1111, 1112, 1113, 1114, 1115], ([([(1, (-1))], 0), ([(1, 1), (4, (-1))], (-1)), ([(3, (-1))], (-33))], (false, ([([(1, (-1)), (2, 1)], 0), ([(1, 1), (2, (-1))], 0)], ([], ([(1105, some (2, 0)), (1103, none), (1104, none)], none)))))))
theorem rk_skC : RuOk SR ru_skC := by
  intro τ m g hi hc ha hS
  obtain ⟨i0, i1, i2, i3, i4, _⟩ := hi
  have t1199 : τ 1199 = some (g 0) := i0
  have t1103 : τ 1103 = some (g 1) := i1
  have t1104 : τ 1104 = some (g 2) := i2
  obtain ⟨jb, ub, vb⟩ : ∃ j : Nat, 1 * g 1 + 0 = (j : Int) ∧ g 3 = m 111 j := i3
  have xL : g 4 = m 110 1 := i4
  obtain ⟨c0, c1, c2, _⟩ := hc
  have c0 : (-1) * g 1 ≤ 0 := d1 c0
  have c1 : 1 * g 1 + (-1) * g 4 ≤ (-1) := d2 c1
  have c2 : (-1) * g 3 ≤ (-33) := d1 c2
  obtain ⟨a0, a1, a2, a3, a4, a5, a6, a7, a8, a9, a10, _⟩ := ha
  have n1105 : τ 1105 = none := a0
  have n1106 : τ 1106 = none := a1
  have n1107 : τ 1107 = none := a2
  have n1108 : τ 1108 = none := a3
  have n1109 : τ 1109 = none := a4
  have n1110 : τ 1110 = none := a5
  have n1111 : τ 1111 = none := a6
  have n1112 : τ 1112 = none := a7
  have n1113 : τ 1113 = none := a8
  have n1114 : τ 1114 = none := a9
  have n1115 : τ 1115 = none := a10
  obtain ⟨h0, k_tok, k_sc1, k_sc2, k_T, k_I, k_F, k_N, k_Y, k_Z, k_A, k_B, k_C, k_X, k_R, k_f4⟩ := hS (by rw [t1199]; exact fun e => by cases e)
  have k_sc10 := k_sc1
  obtain ⟨h_qz, h_nz, h_s, h_ns, h_nE⟩ := k_sc10
  have k_sc20 := k_sc2
  obtain ⟨h_ske, h_skv, h_sku, h_sw, h_swm, h_swu, h_sf, h_sg⟩ := k_sc20
  obtain ⟨⟨hq1, hq2⟩, hq3⟩ := h_qz _ _ t1103 t1104
  rw [sk_f (p := (g 1).toNat) (by rw [by_m (by omega), show (g 1).toNat = jb by omega]; exact ⟨by omega, by omega⟩)] at hq3
  exact ⟨rfl, ⟨f2 (by omega), f2 (by omega), trivial⟩, trivial, fun _ => ⟨h0, k_tok, ⟨fun _ _ e0 e1 => no9 (o := none) rfl e0, fun _ _ e0 e1 => no9 (o := none) rfl e1, fun s9 e0 => by
      have e0 : g 2 + 0 = s9 := Option.some.inj e0
      subst e0
      exact ⟨by omega, by omega⟩, fun n9 s9 e0 e1 => by
      have e1 : g 2 + 0 = s9 := Option.some.inj e1
      subst e1
      have y := h_nz _ _ e0 t1104
      exact ⟨by omega, y.2⟩, h_nE⟩, ⟨fun _ _ _ e0 e1 e2 => no9 n1107 e1, fun _ _ _ e0 e1 e2 => no9 n1107 e1, fun _ _ _ e0 e1 e2 => no9 n1107 e1, fun _ _ e0 e1 => no9 n1109 e1, fun _ _ _ e0 e1 e2 => no9 n1109 e1, fun _ _ _ e0 e1 e2 => no9 n1109 e1, fun _ _ _ _ e0 e1 e2 e3 => no9 n1111 e1, fun _ _ _ _ e0 e1 e2 e3 => no9 n1113 e1⟩, k_T, k_I, k_F, k_N, k_Y, k_Z, k_A, k_B, k_C, k_X, k_R, k_f4⟩⟩
noncomputable def ru_skE : Ru := ([(0, (1199, (0, (0, 0)))), (0, (1103, (0, (0, 0)))), (0, (1104, (0, (0, 0)))), (5, (110, (1, (0, 0))))], ([1105, 1106, 1107, 1108, 1109, 1110, 1111, 1112, 1113, 1114, 1115], ([([(1, (-1)), (3, 1)], 0), ([(1, (-1))], 0)], (false, ([([(1, (-1)), (2, 1)], 0), ([(1, 1), (2, (-1))], 0)], ([], ([(1105, some (2, 0)), (1103, none), (1104, none)], none)))))))
theorem rk_skE : RuOk SR ru_skE := by
  intro τ m g hi hc ha hS
  obtain ⟨i0, i1, i2, i3, _⟩ := hi
  have t1199 : τ 1199 = some (g 0) := i0
  have t1103 : τ 1103 = some (g 1) := i1
  have t1104 : τ 1104 = some (g 2) := i2
  have xL : g 3 = m 110 1 := i3
  obtain ⟨c0, c1, _⟩ := hc
  have c0 : (-1) * g 1 + 1 * g 3 ≤ 0 := d2 c0
  have c1 : (-1) * g 1 ≤ 0 := d1 c1
  obtain ⟨a0, a1, a2, a3, a4, a5, a6, a7, a8, a9, a10, _⟩ := ha
  have n1105 : τ 1105 = none := a0
  have n1106 : τ 1106 = none := a1
  have n1107 : τ 1107 = none := a2
  have n1108 : τ 1108 = none := a3
  have n1109 : τ 1109 = none := a4
  have n1110 : τ 1110 = none := a5
  have n1111 : τ 1111 = none := a6
  have n1112 : τ 1112 = none := a7
  have n1113 : τ 1113 = none := a8
  have n1114 : τ 1114 = none := a9
  have n1115 : τ 1115 = none := a10
  obtain ⟨h0, k_tok, k_sc1, k_sc2, k_T, k_I, k_F, k_N, k_Y, k_Z, k_A, k_B, k_C, k_X, k_R, k_f4⟩ := hS (by rw [t1199]; exact fun e => by cases e)
  have k_sc10 := k_sc1
  obtain ⟨h_qz, h_nz, h_s, h_ns, h_nE⟩ := k_sc10
  have k_sc20 := k_sc2
  obtain ⟨h_ske, h_skv, h_sku, h_sw, h_swm, h_swu, h_sf, h_sg⟩ := k_sc20
  obtain ⟨⟨hq1, hq2⟩, hq3⟩ := h_qz _ _ t1103 t1104
  rw [sk_f (p := (g 1).toNat) (by rw [by_e (by omega)]; exact ⟨by decide, by decide⟩)] at hq3
  exact ⟨rfl, ⟨f2 (by omega), f2 (by omega), trivial⟩, trivial, fun _ => ⟨h0, k_tok, ⟨fun _ _ e0 e1 => no9 (o := none) rfl e0, fun _ _ e0 e1 => no9 (o := none) rfl e1, fun s9 e0 => by
      have e0 : g 2 + 0 = s9 := Option.some.inj e0
      subst e0
      exact ⟨by omega, by omega⟩, fun n9 s9 e0 e1 => by
      have e1 : g 2 + 0 = s9 := Option.some.inj e1
      subst e1
      have y := h_nz _ _ e0 t1104
      exact ⟨by omega, y.2⟩, h_nE⟩, ⟨fun _ _ _ e0 e1 e2 => no9 n1107 e1, fun _ _ _ e0 e1 e2 => no9 n1107 e1, fun _ _ _ e0 e1 e2 => no9 n1107 e1, fun _ _ e0 e1 => no9 n1109 e1, fun _ _ _ e0 e1 e2 => no9 n1109 e1, fun _ _ _ e0 e1 e2 => no9 n1109 e1, fun _ _ _ _ e0 e1 e2 e3 => no9 n1111 e1, fun _ _ _ _ e0 e1 e2 e3 => no9 n1113 e1⟩, k_T, k_I, k_F, k_N, k_Y, k_Z, k_A, k_B, k_C, k_X, k_R, k_f4⟩⟩
noncomputable def ru_sk0 : Ru := ([(0, (1199, (0, (0, 0)))), (5, (110, (27, (0, 0)))), (5, (110, (1, (0, 0))))], ([1101, 1103, 1104, 1105, 1106, 1107, 1108, 1109, 1110, 1111, 1112, 1113, 1114, 1115], ([([(1, (-1))], 0), ([(1, 1), (2, (-1))], 0)], (false, ([], ([], ([(1103, some (1, 0)), (1120, none)], some (1104, (0, 1200)))))))))
theorem rk_sk0 : RuOk SR ru_sk0 := by
  intro τ m g hi hc ha hS
  obtain ⟨i0, i1, i2, _⟩ := hi
  have t1199 : τ 1199 = some (g 0) := i0
  have xq : g 1 = m 110 27 := i1
  have xL : g 2 = m 110 1 := i2
  obtain ⟨c0, c1, _⟩ := hc
  have c0 : (-1) * g 1 ≤ 0 := d1 c0
  have c1 : 1 * g 1 + (-1) * g 2 ≤ 0 := d2 c1
  obtain ⟨a0, a1, a2, a3, a4, a5, a6, a7, a8, a9, a10, a11, a12, a13, _⟩ := ha
  have n1101 : τ 1101 = none := a0
  have n1103 : τ 1103 = none := a1
  have n1104 : τ 1104 = none := a2
  have n1105 : τ 1105 = none := a3
  have n1106 : τ 1106 = none := a4
  have n1107 : τ 1107 = none := a5
  have n1108 : τ 1108 = none := a6
  have n1109 : τ 1109 = none := a7
  have n1110 : τ 1110 = none := a8
  have n1111 : τ 1111 = none := a9
  have n1112 : τ 1112 = none := a10
  have n1113 : τ 1113 = none := a11
  have n1114 : τ 1114 = none := a12
  have n1115 : τ 1115 = none := a13
  obtain ⟨h0, k_tok, k_sc1, k_sc2, k_T, k_I, k_F, k_N, k_Y, k_Z, k_A, k_B, k_C, k_X, k_R, k_f4⟩ := hS (by rw [t1199]; exact fun e => by cases e)
  have k_sc10 := k_sc1
  obtain ⟨h_qz, h_nz, h_s, h_ns, h_nE⟩ := k_sc10
  have k_T0 := k_T
  obtain ⟨h_T, h_TN, h_QZ⟩ := k_T0
  obtain ⟨x0, hx0⟩ : ∃ x0 : Int, x0 = (sk9 (tx9 m) (g 1).toNat : Int) := ⟨_, rfl⟩
  have x1 : 0 ≤ x0 := by omega
  have x2 : x0 ≤ 1200 := by
    have := sk_L (m := m) (p := (g 1).toNat) (by omega) h0.2
    omega
  exact ⟨rfl, trivial, trivial, x0, x1, x2, fun _ => ⟨h0, k_tok, ⟨fun q9 z9 e0 e1 => by
      have e0 : g 1 + 0 = q9 := Option.some.inj e0
      subst e0
      have e1 : x0 = z9 := Option.some.inj e1
      subst e1
      rw [Int.add_zero]
      exact ⟨⟨by omega, by omega⟩, hx0⟩, fun _ _ e0 e1 => no9 n1101 e0, h_s, h_ns, h_nE⟩, k_sc2, ⟨fun _ e0 => no9 (o := none) rfl e0, fun _ _ e0 e1 => no9 (o := none) rfl e0, h_QZ⟩, k_I, k_F, k_N, k_Y, k_Z, k_A, k_B, k_C, k_X, k_R, k_f4⟩⟩
noncomputable def ru_tokE : Ru := ([(0, (1199, (0, (0, 0)))), (0, (1105, (0, (0, 0)))), (5, (110, (1, (0, 0)))), (4, (0, (0, (0, 0))))], ([1106, 1107, 1108, 1109, 1110, 1111, 1112, 1113, 1114, 1115], ([([(1, (-1)), (2, 1)], 0)], (false, ([], ([], ([(1107, some (3, 0)), (1106, some (1, 0))], none)))))))
theorem rk_tokE : RuOk SR ru_tokE := by
  intro τ m g hi hc ha hS
  obtain ⟨i0, i1, i2, i3, _⟩ := hi
  have t1199 : τ 1199 = some (g 0) := i0
  have t1105 : τ 1105 = some (g 1) := i1
  have xL : g 2 = m 110 1 := i2
  have xo : g 3 = 0 := i3
  obtain ⟨c0, _⟩ := hc
  have c0 : (-1) * g 1 + 1 * g 2 ≤ 0 := d2 c0
  obtain ⟨a0, a1, a2, a3, a4, a5, a6, a7, a8, a9, _⟩ := ha
  have n1106 : τ 1106 = none := a0
  have n1107 : τ 1107 = none := a1
  have n1108 : τ 1108 = none := a2
  have n1109 : τ 1109 = none := a3
  have n1110 : τ 1110 = none := a4
  have n1111 : τ 1111 = none := a5
  have n1112 : τ 1112 = none := a6
  have n1113 : τ 1113 = none := a7
  have n1114 : τ 1114 = none := a8
  have n1115 : τ 1115 = none := a9
  obtain ⟨h0, k_tok, k_sc1, k_sc2, k_T, k_I, k_F, k_N, k_Y, k_Z, k_A, k_B, k_C, k_X, k_R, k_f4⟩ := hS (by rw [t1199]; exact fun e => by cases e)
  have k_sc10 := k_sc1
  obtain ⟨h_qz, h_nz, h_s, h_ns, h_nE⟩ := k_sc10
  have k_sc20 := k_sc2
  obtain ⟨h_ske, h_skv, h_sku, h_sw, h_swm, h_swu, h_sf, h_sg⟩ := k_sc20
  have hs := h_s _ t1105
  obtain ⟨k1, k2⟩ := kd_e (X := tx9 m) (p := (g 1).toNat) (by rw [by_e (by omega)]; decide)
  exact ⟨rfl, trivial, trivial, fun _ => ⟨h0, k_tok, k_sc1, ⟨fun s9 k9 e9 e0 e1 e2 => by
      have e0 : g 1 = s9 := Option.some.inj (t1105.symm.trans e0)
      subst e0
      have e1 : g 3 + 0 = k9 := Option.some.inj e1
      subst e1
      have e2 : g 1 + 0 = e9 := Option.some.inj e2
      subst e2
      rw [k1, k2]
      exact ⟨by omega, by omega⟩, fun _ _ _ e0 e1 e2 => no9 n1108 e2, fun _ _ _ e0 e1 e2 => no9 n1110 e2, h_sw, h_swm, h_swu, h_sf, h_sg⟩, k_T, k_I, k_F, k_N, k_Y, k_Z, k_A, k_B, k_C, k_X, k_R, k_f4⟩⟩
noncomputable def ru_wS : Ru := ([(0, (1199, (0, (0, 0)))), (0, (1105, (0, (0, 0)))), (9, (111, (1, (1, 0)))), (5, (110, (1, (0, 0)))), (4, (0, (0, (0, 0))))], ([1106, 1107, 1108, 1109, 1110, 1111, 1112, 1113, 1114, 1115], ([([(1, (-1))], 0), ([(1, 1), (3, (-1))], (-1)), ([(2, (-1))], (-97)), ([(2, 1)], 122)], (false, ([], ([], ([(1109, some (1, 0)), (1115, some (4, 0)), (1110, some (4, 0))], none)))))))
theorem rk_wS : RuOk SR ru_wS := by
  intro τ m g hi hc ha hS
  obtain ⟨i0, i1, i2, i3, i4, _⟩ := hi
  have t1199 : τ 1199 = some (g 0) := i0
  have t1105 : τ 1105 = some (g 1) := i1
  obtain ⟨jb, ub, vb⟩ : ∃ j : Nat, 1 * g 1 + 0 = (j : Int) ∧ g 2 = m 111 j := i2
  have xL : g 3 = m 110 1 := i3
  have xo : g 4 = 0 := i4
  obtain ⟨c0, c1, c2, c3, _⟩ := hc
  have c0 : (-1) * g 1 ≤ 0 := d1 c0
  have c1 : 1 * g 1 + (-1) * g 3 ≤ (-1) := d2 c1
  have c2 : (-1) * g 2 ≤ (-97) := d1 c2
  have c3 : 1 * g 2 ≤ 122 := d1 c3
  obtain ⟨a0, a1, a2, a3, a4, a5, a6, a7, a8, a9, _⟩ := ha
  have n1106 : τ 1106 = none := a0
  have n1107 : τ 1107 = none := a1
  have n1108 : τ 1108 = none := a2
  have n1109 : τ 1109 = none := a3
  have n1110 : τ 1110 = none := a4
  have n1111 : τ 1111 = none := a5
  have n1112 : τ 1112 = none := a6
  have n1113 : τ 1113 = none := a7
  have n1114 : τ 1114 = none := a8
  have n1115 : τ 1115 = none := a9
  obtain ⟨h0, k_tok, k_sc1, k_sc2, k_T, k_I, k_F, k_N, k_Y, k_Z, k_A, k_B, k_C, k_X, k_R, k_f4⟩ := hS (by rw [t1199]; exact fun e => by cases e)
  have k_sc10 := k_sc1
  obtain ⟨h_qz, h_nz, h_s, h_ns, h_nE⟩ := k_sc10
  have k_sc20 := k_sc2
  obtain ⟨h_ske, h_skv, h_sku, h_sw, h_swm, h_swu, h_sf, h_sg⟩ := k_sc20
  exact ⟨rfl, trivial, trivial, fun _ => ⟨h0, k_tok, k_sc1, ⟨h_ske, h_skv, fun _ _ _ e0 e1 e2 => no9 n1107 e1, fun s9 w9 e0 e1 => by
      have e0 : g 1 = s9 := Option.some.inj (t1105.symm.trans e0)
      subst e0
      have e1 : g 1 + 0 = w9 := Option.some.inj e1
      subst e1
      rw [Int.add_zero]
      exact ⟨⟨by omega, by omega⟩, le_m (by omega) (by rw [show (g 1).toNat = jb by omega]; omega) (by rw [show (g 1).toNat = jb by omega]; omega), rfl⟩, fun s9 w9 m9 e0 e1 e2 => by
      have e0 : g 1 = s9 := Option.some.inj (t1105.symm.trans e0)
      subst e0
      have e1 : g 1 + 0 = w9 := Option.some.inj e1
      subst e1
      have e2 : g 4 + 0 = m9 := Option.some.inj e2
      subst e2
      omega, fun s9 w9 u9 e0 e1 e2 => by
      have e0 : g 1 = s9 := Option.some.inj (t1105.symm.trans e0)
      subst e0
      have e1 : g 1 + 0 = w9 := Option.some.inj e1
      subst e1
      have e2 : g 4 + 0 = u9 := Option.some.inj e2
      subst e2
      rw [show g 1 + 0 = g 1 by omega, show g 4 + 0 = 0 by omega]
      rfl, fun _ _ _ _ e0 e1 e2 e3 => no9 n1111 e1, fun _ _ _ _ e0 e1 e2 e3 => no9 n1113 e1⟩, k_T, k_I, k_F, k_N, k_Y, k_Z, k_A, k_B, k_C, k_X, k_R, k_f4⟩⟩
noncomputable def ru_wSl : Ru := ([(0, (1199, (0, (0, 0)))), (0, (1105, (0, (0, 0)))), (9, (111, (1, (1, 0)))), (5, (110, (1, (0, 0)))), (4, (0, (0, (0, 0)))), (9, (1000, (4, (0, 31))))], ([1106, 1107, 1108, 1109, 1110, 1111, 1112, 1113, 1114, 1115], ([([(1, (-1))], 0), ([(1, 1), (3, (-1))], (-1)), ([(2, (-1))], (-97)), ([(2, 1)], 122), ([(5, 1)], 0), ([(5, (-1))], 0)], (false, ([], ([], ([(1109, some (1, 0)), (1115, some (4, 0)), (1110, some (5, 0))], none)))))))
theorem rk_wSl : RuOk SR ru_wSl := by
  intro τ m g hi hc ha hS
  obtain ⟨i0, i1, i2, i3, i4, i5, _⟩ := hi
  have t1199 : τ 1199 = some (g 0) := i0
  have t1105 : τ 1105 = some (g 1) := i1
  obtain ⟨jb, ub, vb⟩ : ∃ j : Nat, 1 * g 1 + 0 = (j : Int) ∧ g 2 = m 111 j := i2
  have xL : g 3 = m 110 1 := i3
  have xo : g 4 = 0 := i4
  obtain ⟨jv, uv, vv⟩ : ∃ j : Nat, 0 * g 4 + 31 = (j : Int) ∧ g 5 = m 1000 j := i5
  obtain ⟨c0, c1, c2, c3, c4, c5, _⟩ := hc
  have c0 : (-1) * g 1 ≤ 0 := d1 c0
  have c1 : 1 * g 1 + (-1) * g 3 ≤ (-1) := d2 c1
  have c2 : (-1) * g 2 ≤ (-97) := d1 c2
  have c3 : 1 * g 2 ≤ 122 := d1 c3
  have c4 : 1 * g 5 ≤ 0 := d1 c4
  have c5 : (-1) * g 5 ≤ 0 := d1 c5
  obtain ⟨a0, a1, a2, a3, a4, a5, a6, a7, a8, a9, _⟩ := ha
  have n1106 : τ 1106 = none := a0
  have n1107 : τ 1107 = none := a1
  have n1108 : τ 1108 = none := a2
  have n1109 : τ 1109 = none := a3
  have n1110 : τ 1110 = none := a4
  have n1111 : τ 1111 = none := a5
  have n1112 : τ 1112 = none := a6
  have n1113 : τ 1113 = none := a7
  have n1114 : τ 1114 = none := a8
  have n1115 : τ 1115 = none := a9
  obtain ⟨h0, k_tok, k_sc1, k_sc2, k_T, k_I, k_F, k_N, k_Y, k_Z, k_A, k_B, k_C, k_X, k_R, k_f4⟩ := hS (by rw [t1199]; exact fun e => by cases e)
  have k_sc10 := k_sc1
  obtain ⟨h_qz, h_nz, h_s, h_ns, h_nE⟩ := k_sc10
  have k_sc20 := k_sc2
  obtain ⟨h_ske, h_skv, h_sku, h_sw, h_swm, h_swu, h_sf, h_sg⟩ := k_sc20
  exact ⟨rfl, trivial, trivial, fun _ => ⟨h0, k_tok, k_sc1, ⟨h_ske, h_skv, fun _ _ _ e0 e1 e2 => no9 n1107 e1, fun s9 w9 e0 e1 => by
      have e0 : g 1 = s9 := Option.some.inj (t1105.symm.trans e0)
      subst e0
      have e1 : g 1 + 0 = w9 := Option.some.inj e1
      subst e1
      rw [Int.add_zero]
      exact ⟨⟨by omega, by omega⟩, le_m (by omega) (by rw [show (g 1).toNat = jb by omega]; omega) (by rw [show (g 1).toNat = jb by omega]; omega), rfl⟩, fun s9 w9 m9 e0 e1 e2 => by
      have e0 : g 1 = s9 := Option.some.inj (t1105.symm.trans e0)
      subst e0
      have e1 : g 1 + 0 = w9 := Option.some.inj e1
      subst e1
      have e2 : g 4 + 0 = m9 := Option.some.inj e2
      subst e2
      omega, fun s9 w9 u9 e0 e1 e2 => by
      have e0 : g 1 = s9 := Option.some.inj (t1105.symm.trans e0)
      subst e0
      have e1 : g 1 + 0 = w9 := Option.some.inj e1
      subst e1
      have e2 : g 5 + 0 = u9 := Option.some.inj e2
      subst e2
      rw [show g 1 + 0 = g 1 by omega, show g 5 + 0 = 0 by omega]
      rfl, fun _ _ _ _ e0 e1 e2 e3 => no9 n1111 e1, fun _ _ _ _ e0 e1 e2 e3 => no9 n1113 e1⟩, k_T, k_I, k_F, k_N, k_Y, k_Z, k_A, k_B, k_C, k_X, k_R, k_f4⟩⟩
noncomputable def ru_wNl : Ru := ([(0, (1199, (0, (0, 0)))), (0, (1105, (0, (0, 0)))), (0, (1109, (0, (0, 0)))), (9, (111, (2, (1, 0)))), (5, (110, (1, (0, 0))))], ([1115, 1110], ([([(2, (-1))], 0), ([(2, 1), (4, (-1))], (-1)), ([(3, (-1))], (-97)), ([(3, 1)], 122)], (false, ([], ([], ([(1109, some (2, 1))], none)))))))
theorem rk_wNl : RuOk SR ru_wNl := by
  intro τ m g hi hc ha hS
  obtain ⟨i0, i1, i2, i3, i4, _⟩ := hi
  have t1199 : τ 1199 = some (g 0) := i0
  have t1105 : τ 1105 = some (g 1) := i1
  have t1109 : τ 1109 = some (g 2) := i2
  obtain ⟨jb, ub, vb⟩ : ∃ j : Nat, 1 * g 2 + 0 = (j : Int) ∧ g 3 = m 111 j := i3
  have xL : g 4 = m 110 1 := i4
  obtain ⟨c0, c1, c2, c3, _⟩ := hc
  have c0 : (-1) * g 2 ≤ 0 := d1 c0
  have c1 : 1 * g 2 + (-1) * g 4 ≤ (-1) := d2 c1
  have c2 : (-1) * g 3 ≤ (-97) := d1 c2
  have c3 : 1 * g 3 ≤ 122 := d1 c3
  obtain ⟨a0, a1, _⟩ := ha
  have n1115 : τ 1115 = none := a0
  have n1110 : τ 1110 = none := a1
  obtain ⟨h0, k_tok, k_sc1, k_sc2, k_T, k_I, k_F, k_N, k_Y, k_Z, k_A, k_B, k_C, k_X, k_R, k_f4⟩ := hS (by rw [t1199]; exact fun e => by cases e)
  have k_sc10 := k_sc1
  obtain ⟨h_qz, h_nz, h_s, h_ns, h_nE⟩ := k_sc10
  have k_sc20 := k_sc2
  obtain ⟨h_ske, h_skv, h_sku, h_sw, h_swm, h_swu, h_sf, h_sg⟩ := k_sc20
  obtain ⟨⟨hw1, hw2⟩, hw3, hw4⟩ := h_sw _ _ t1105 t1109
  have hs := h_s _ t1105
  have hal := al_m (m := m) (p := (g 2).toNat) (by omega) (by rw [show (g 2).toNat = jb by omega]; omega)
  exact ⟨rfl, trivial, trivial, fun _ => ⟨h0, k_tok, k_sc1, ⟨h_ske, h_skv, h_sku, fun s9 w9 e0 e1 => by
      have e0 : g 1 = s9 := Option.some.inj (t1105.symm.trans e0)
      subst e0
      have e1 : g 2 + 1 = w9 := Option.some.inj e1
      subst e1
      refine ⟨⟨by omega, by omega⟩, hw3, ?_⟩
      rw [show (g 2 + 1).toNat = (g 2).toNat + 1 by omega, ← hw4]
      exact (wh_t (show (g 2).toNat < (m 110 1).toNat by omega) hal).symm, fun _ _ _ e0 e1 e2 => no9 n1115 e2, fun _ _ _ e0 e1 e2 => no9 n1110 e2, h_sf, h_sg⟩, k_T, k_I, k_F, k_N, k_Y, k_Z, k_A, k_B, k_C, k_X, k_R, k_f4⟩⟩
noncomputable def ru_wVl : Ru := ([(0, (1199, (0, (0, 0)))), (0, (1105, (0, (0, 0)))), (0, (1109, (0, (0, 0)))), (9, (111, (2, (1, 0)))), (5, (110, (1, (0, 0)))), (0, (1115, (0, (0, 0)))), (0, (1110, (0, (0, 0)))), (4, (0, (0, (0, 0)))), (9, (1000, (7, (0, 31))))], ([1107, 1111, 1114], ([([(2, (-1))], 0), ([(2, 1), (4, (-1))], (-1)), ([(3, (-1))], (-97)), ([(3, 1)], 122), ([(5, 1)], 7), ([(3, (-1)), (6, (-256)), (8, 1)], 0), ([(3, 1), (6, 256), (8, (-1))], 0)], (false, ([], ([], ([(1109, some (2, 1)), (1115, some (5, 1)), (1110, some (8, 0))], none)))))))
theorem rk_wVl : RuOk SR ru_wVl := by
  intro τ m g hi hc ha hS
  obtain ⟨i0, i1, i2, i3, i4, i5, i6, i7, i8, _⟩ := hi
  have t1199 : τ 1199 = some (g 0) := i0
  have t1105 : τ 1105 = some (g 1) := i1
  have t1109 : τ 1109 = some (g 2) := i2
  obtain ⟨jb, ub, vb⟩ : ∃ j : Nat, 1 * g 2 + 0 = (j : Int) ∧ g 3 = m 111 j := i3
  have xL : g 4 = m 110 1 := i4
  have t1115 : τ 1115 = some (g 5) := i5
  have t1110 : τ 1110 = some (g 6) := i6
  have xo : g 7 = 0 := i7
  obtain ⟨jv, uv, vv⟩ : ∃ j : Nat, 0 * g 7 + 31 = (j : Int) ∧ g 8 = m 1000 j := i8
  obtain ⟨c0, c1, c2, c3, c4, c5, c6, _⟩ := hc
  have c0 : (-1) * g 2 ≤ 0 := d1 c0
  have c1 : 1 * g 2 + (-1) * g 4 ≤ (-1) := d2 c1
  have c2 : (-1) * g 3 ≤ (-97) := d1 c2
  have c3 : 1 * g 3 ≤ 122 := d1 c3
  have c4 : 1 * g 5 ≤ 7 := d1 c4
  have c5 : (-1) * g 3 + (-256) * g 6 + 1 * g 8 ≤ 0 := d3 c5
  have c6 : 1 * g 3 + 256 * g 6 + (-1) * g 8 ≤ 0 := d3 c6
  obtain ⟨a0, a1, a2, _⟩ := ha
  have n1107 : τ 1107 = none := a0
  have n1111 : τ 1111 = none := a1
  have n1114 : τ 1114 = none := a2
  obtain ⟨h0, k_tok, k_sc1, k_sc2, k_T, k_I, k_F, k_N, k_Y, k_Z, k_A, k_B, k_C, k_X, k_R, k_f4⟩ := hS (by rw [t1199]; exact fun e => by cases e)
  have k_sc10 := k_sc1
  obtain ⟨h_qz, h_nz, h_s, h_ns, h_nE⟩ := k_sc10
  have k_sc20 := k_sc2
  obtain ⟨h_ske, h_skv, h_sku, h_sw, h_swm, h_swu, h_sf, h_sg⟩ := k_sc20
  obtain ⟨⟨hw1, hw2⟩, hw3, hw4⟩ := h_sw _ _ t1105 t1109
  have hs := h_s _ t1105
  have hal := al_m (m := m) (p := (g 2).toNat) (by omega) (by rw [show (g 2).toNat = jb by omega]; omega)
  have hwm := h_swm _ _ _ t1105 t1109 t1115
  have hwu := h_swu _ _ _ t1105 t1109 t1110
  have hL : (g 2).toNat < (tx9 m).2 := (show (g 2).toNat < (m 110 1).toNat by omega)
  rw [vb_t hL hal] at hwu
  exact ⟨rfl, trivial, trivial, fun _ => ⟨h0, k_tok, k_sc1, ⟨h_ske, h_skv, fun _ _ _ e0 e1 e2 => no9 n1107 e1, fun s9 w9 e0 e1 => by
      have e0 : g 1 = s9 := Option.some.inj (t1105.symm.trans e0)
      subst e0
      have e1 : g 2 + 1 = w9 := Option.some.inj e1
      subst e1
      refine ⟨⟨by omega, by omega⟩, hw3, ?_⟩
      rw [show (g 2 + 1).toNat = (g 2).toNat + 1 by omega, ← hw4]
      exact (wh_t (show (g 2).toNat < (m 110 1).toNat by omega) hal).symm, fun s9 w9 m9 e0 e1 e2 => by
      have e0 : g 1 = s9 := Option.some.inj (t1105.symm.trans e0)
      subst e0
      have e1 : g 2 + 1 = w9 := Option.some.inj e1
      subst e1
      have e2 : g 5 + 1 = m9 := Option.some.inj e2
      subst e2
      omega, fun s9 w9 u9 e0 e1 e2 => by
      have e0 : g 1 = s9 := Option.some.inj (t1105.symm.trans e0)
      subst e0
      have e1 : g 2 + 1 = w9 := Option.some.inj e1
      subst e1
      have e2 : g 8 + 0 = u9 := Option.some.inj e2
      subst e2
      unfold wg9 at hwu
      rw [if_pos (by omega), by_m (by omega), show (g 2).toNat = jb by omega] at hwu
      rw [show (g 2 + 1).toNat = (g 2).toNat + 1 by omega, ← hwu, show (g 2).toNat = jb by omega, show g 8 + 0 = g 6 * 256 + m 111 jb by omega]
      rfl, fun _ _ _ _ e0 e1 e2 e3 => no9 n1111 e1, fun _ _ _ _ e0 e1 e2 e3 => no9 n1114 e2⟩, k_T, k_I, k_F, k_N, k_Y, k_Z, k_A, k_B, k_C, k_X, k_R, k_f4⟩⟩
noncomputable def ru_wWl : Ru := ([(0, (1199, (0, (0, 0)))), (0, (1105, (0, (0, 0)))), (0, (1109, (0, (0, 0)))), (9, (111, (2, (1, 0)))), (5, (110, (1, (0, 0)))), (0, (1115, (0, (0, 0)))), (0, (1110, (0, (0, 0)))), (4, (0, (0, (0, 0)))), (9, (1000, (7, (0, 31))))], ([1107, 1111, 1114], ([([(2, (-1))], 0), ([(2, 1), (4, (-1))], (-1)), ([(3, (-1))], (-97)), ([(3, 1)], 122), ([(5, (-1))], (-8)), ([(8, 1)], (-1)), ([(8, (-1))], 1)], (false, ([], ([], ([(1109, some (2, 1)), (1115, some (5, 1)), (1110, some (8, 0))], none)))))))
theorem rk_wWl : RuOk SR ru_wWl := by
  intro τ m g hi hc ha hS
  obtain ⟨i0, i1, i2, i3, i4, i5, i6, i7, i8, _⟩ := hi
  have t1199 : τ 1199 = some (g 0) := i0
  have t1105 : τ 1105 = some (g 1) := i1
  have t1109 : τ 1109 = some (g 2) := i2
  obtain ⟨jb, ub, vb⟩ : ∃ j : Nat, 1 * g 2 + 0 = (j : Int) ∧ g 3 = m 111 j := i3
  have xL : g 4 = m 110 1 := i4
  have t1115 : τ 1115 = some (g 5) := i5
  have t1110 : τ 1110 = some (g 6) := i6
  have xo : g 7 = 0 := i7
  obtain ⟨jv, uv, vv⟩ : ∃ j : Nat, 0 * g 7 + 31 = (j : Int) ∧ g 8 = m 1000 j := i8
  obtain ⟨c0, c1, c2, c3, c4, c5, c6, _⟩ := hc
  have c0 : (-1) * g 2 ≤ 0 := d1 c0
  have c1 : 1 * g 2 + (-1) * g 4 ≤ (-1) := d2 c1
  have c2 : (-1) * g 3 ≤ (-97) := d1 c2
  have c3 : 1 * g 3 ≤ 122 := d1 c3
  have c4 : (-1) * g 5 ≤ (-8) := d1 c4
  have c5 : 1 * g 8 ≤ (-1) := d1 c5
  have c6 : (-1) * g 8 ≤ 1 := d1 c6
  obtain ⟨a0, a1, a2, _⟩ := ha
  have n1107 : τ 1107 = none := a0
  have n1111 : τ 1111 = none := a1
  have n1114 : τ 1114 = none := a2
  obtain ⟨h0, k_tok, k_sc1, k_sc2, k_T, k_I, k_F, k_N, k_Y, k_Z, k_A, k_B, k_C, k_X, k_R, k_f4⟩ := hS (by rw [t1199]; exact fun e => by cases e)
  have k_sc10 := k_sc1
  obtain ⟨h_qz, h_nz, h_s, h_ns, h_nE⟩ := k_sc10
  have k_sc20 := k_sc2
  obtain ⟨h_ske, h_skv, h_sku, h_sw, h_swm, h_swu, h_sf, h_sg⟩ := k_sc20
  obtain ⟨⟨hw1, hw2⟩, hw3, hw4⟩ := h_sw _ _ t1105 t1109
  have hs := h_s _ t1105
  have hal := al_m (m := m) (p := (g 2).toNat) (by omega) (by rw [show (g 2).toNat = jb by omega]; omega)
  have hwm := h_swm _ _ _ t1105 t1109 t1115
  have hwu := h_swu _ _ _ t1105 t1109 t1110
  have hL : (g 2).toNat < (tx9 m).2 := (show (g 2).toNat < (m 110 1).toNat by omega)
  rw [vb_t hL hal] at hwu
  exact ⟨rfl, trivial, trivial, fun _ => ⟨h0, k_tok, k_sc1, ⟨h_ske, h_skv, fun _ _ _ e0 e1 e2 => no9 n1107 e1, fun s9 w9 e0 e1 => by
      have e0 : g 1 = s9 := Option.some.inj (t1105.symm.trans e0)
      subst e0
      have e1 : g 2 + 1 = w9 := Option.some.inj e1
      subst e1
      refine ⟨⟨by omega, by omega⟩, hw3, ?_⟩
      rw [show (g 2 + 1).toNat = (g 2).toNat + 1 by omega, ← hw4]
      exact (wh_t (show (g 2).toNat < (m 110 1).toNat by omega) hal).symm, fun s9 w9 m9 e0 e1 e2 => by
      have e0 : g 1 = s9 := Option.some.inj (t1105.symm.trans e0)
      subst e0
      have e1 : g 2 + 1 = w9 := Option.some.inj e1
      subst e1
      have e2 : g 5 + 1 = m9 := Option.some.inj e2
      subst e2
      omega, fun s9 w9 u9 e0 e1 e2 => by
      have e0 : g 1 = s9 := Option.some.inj (t1105.symm.trans e0)
      subst e0
      have e1 : g 2 + 1 = w9 := Option.some.inj e1
      subst e1
      have e2 : g 8 + 0 = u9 := Option.some.inj e2
      subst e2
      unfold wg9 at hwu
      rw [if_neg (by omega)] at hwu
      rw [show (g 2 + 1).toNat = (g 2).toNat + 1 by omega, ← hwu, show g 8 + 0 = -1 by omega]
      rfl, fun _ _ _ _ e0 e1 e2 e3 => no9 n1111 e1, fun _ _ _ _ e0 e1 e2 e3 => no9 n1114 e2⟩, k_T, k_I, k_F, k_N, k_Y, k_Z, k_A, k_B, k_C, k_X, k_R, k_f4⟩⟩
noncomputable def ru_wNf : Ru := ([(0, (1199, (0, (0, 0)))), (0, (1105, (0, (0, 0)))), (0, (1109, (0, (0, 0)))), (9, (111, (2, (1, 0)))), (5, (110, (1, (0, 0))))], ([1115, 1110], ([([(2, (-1))], 0), ([(2, 1), (4, (-1))], (-1)), ([(3, (-1))], (-48)), ([(3, 1)], 57)], (false, ([], ([], ([(1109, some (2, 1))], none)))))))
theorem rk_wNf : RuOk SR ru_wNf := by
  intro τ m g hi hc ha hS
  obtain ⟨i0, i1, i2, i3, i4, _⟩ := hi
  have t1199 : τ 1199 = some (g 0) := i0
  have t1105 : τ 1105 = some (g 1) := i1
  have t1109 : τ 1109 = some (g 2) := i2
  obtain ⟨jb, ub, vb⟩ : ∃ j : Nat, 1 * g 2 + 0 = (j : Int) ∧ g 3 = m 111 j := i3
  have xL : g 4 = m 110 1 := i4
  obtain ⟨c0, c1, c2, c3, _⟩ := hc
  have c0 : (-1) * g 2 ≤ 0 := d1 c0
  have c1 : 1 * g 2 + (-1) * g 4 ≤ (-1) := d2 c1
  have c2 : (-1) * g 3 ≤ (-48) := d1 c2
  have c3 : 1 * g 3 ≤ 57 := d1 c3
  obtain ⟨a0, a1, _⟩ := ha
  have n1115 : τ 1115 = none := a0
  have n1110 : τ 1110 = none := a1
  obtain ⟨h0, k_tok, k_sc1, k_sc2, k_T, k_I, k_F, k_N, k_Y, k_Z, k_A, k_B, k_C, k_X, k_R, k_f4⟩ := hS (by rw [t1199]; exact fun e => by cases e)
  have k_sc10 := k_sc1
  obtain ⟨h_qz, h_nz, h_s, h_ns, h_nE⟩ := k_sc10
  have k_sc20 := k_sc2
  obtain ⟨h_ske, h_skv, h_sku, h_sw, h_swm, h_swu, h_sf, h_sg⟩ := k_sc20
  obtain ⟨⟨hw1, hw2⟩, hw3, hw4⟩ := h_sw _ _ t1105 t1109
  have hs := h_s _ t1105
  have hal := al_m (m := m) (p := (g 2).toNat) (by omega) (by rw [show (g 2).toNat = jb by omega]; omega)
  exact ⟨rfl, trivial, trivial, fun _ => ⟨h0, k_tok, k_sc1, ⟨h_ske, h_skv, h_sku, fun s9 w9 e0 e1 => by
      have e0 : g 1 = s9 := Option.some.inj (t1105.symm.trans e0)
      subst e0
      have e1 : g 2 + 1 = w9 := Option.some.inj e1
      subst e1
      refine ⟨⟨by omega, by omega⟩, hw3, ?_⟩
      rw [show (g 2 + 1).toNat = (g 2).toNat + 1 by omega, ← hw4]
      exact (wh_t (show (g 2).toNat < (m 110 1).toNat by omega) hal).symm, fun _ _ _ e0 e1 e2 => no9 n1115 e2, fun _ _ _ e0 e1 e2 => no9 n1110 e2, h_sf, h_sg⟩, k_T, k_I, k_F, k_N, k_Y, k_Z, k_A, k_B, k_C, k_X, k_R, k_f4⟩⟩
noncomputable def ru_wVf : Ru := ([(0, (1199, (0, (0, 0)))), (0, (1105, (0, (0, 0)))), (0, (1109, (0, (0, 0)))), (9, (111, (2, (1, 0)))), (5, (110, (1, (0, 0)))), (0, (1115, (0, (0, 0)))), (0, (1110, (0, (0, 0)))), (4, (0, (0, (0, 0)))), (9, (1000, (7, (0, 31))))], ([1107, 1111, 1114], ([([(2, (-1))], 0), ([(2, 1), (4, (-1))], (-1)), ([(3, (-1))], (-48)), ([(3, 1)], 57), ([(5, 1)], 7), ([(3, (-1)), (6, (-256)), (8, 1)], 0), ([(3, 1), (6, 256), (8, (-1))], 0)], (false, ([], ([], ([(1109, some (2, 1)), (1115, some (5, 1)), (1110, some (8, 0))], none)))))))
theorem rk_wVf : RuOk SR ru_wVf := by
  intro τ m g hi hc ha hS
  obtain ⟨i0, i1, i2, i3, i4, i5, i6, i7, i8, _⟩ := hi
  have t1199 : τ 1199 = some (g 0) := i0
  have t1105 : τ 1105 = some (g 1) := i1
  have t1109 : τ 1109 = some (g 2) := i2
  obtain ⟨jb, ub, vb⟩ : ∃ j : Nat, 1 * g 2 + 0 = (j : Int) ∧ g 3 = m 111 j := i3
  have xL : g 4 = m 110 1 := i4
  have t1115 : τ 1115 = some (g 5) := i5
  have t1110 : τ 1110 = some (g 6) := i6
  have xo : g 7 = 0 := i7
  obtain ⟨jv, uv, vv⟩ : ∃ j : Nat, 0 * g 7 + 31 = (j : Int) ∧ g 8 = m 1000 j := i8
  obtain ⟨c0, c1, c2, c3, c4, c5, c6, _⟩ := hc
  have c0 : (-1) * g 2 ≤ 0 := d1 c0
  have c1 : 1 * g 2 + (-1) * g 4 ≤ (-1) := d2 c1
  have c2 : (-1) * g 3 ≤ (-48) := d1 c2
  have c3 : 1 * g 3 ≤ 57 := d1 c3
  have c4 : 1 * g 5 ≤ 7 := d1 c4
  have c5 : (-1) * g 3 + (-256) * g 6 + 1 * g 8 ≤ 0 := d3 c5
  have c6 : 1 * g 3 + 256 * g 6 + (-1) * g 8 ≤ 0 := d3 c6
  obtain ⟨a0, a1, a2, _⟩ := ha
  have n1107 : τ 1107 = none := a0
  have n1111 : τ 1111 = none := a1
  have n1114 : τ 1114 = none := a2
  obtain ⟨h0, k_tok, k_sc1, k_sc2, k_T, k_I, k_F, k_N, k_Y, k_Z, k_A, k_B, k_C, k_X, k_R, k_f4⟩ := hS (by rw [t1199]; exact fun e => by cases e)
  have k_sc10 := k_sc1
  obtain ⟨h_qz, h_nz, h_s, h_ns, h_nE⟩ := k_sc10
  have k_sc20 := k_sc2
  obtain ⟨h_ske, h_skv, h_sku, h_sw, h_swm, h_swu, h_sf, h_sg⟩ := k_sc20
  obtain ⟨⟨hw1, hw2⟩, hw3, hw4⟩ := h_sw _ _ t1105 t1109
  have hs := h_s _ t1105
  have hal := al_m (m := m) (p := (g 2).toNat) (by omega) (by rw [show (g 2).toNat = jb by omega]; omega)
  have hwm := h_swm _ _ _ t1105 t1109 t1115
  have hwu := h_swu _ _ _ t1105 t1109 t1110
  have hL : (g 2).toNat < (tx9 m).2 := (show (g 2).toNat < (m 110 1).toNat by omega)
  rw [vb_t hL hal] at hwu
  exact ⟨rfl, trivial, trivial, fun _ => ⟨h0, k_tok, k_sc1, ⟨h_ske, h_skv, fun _ _ _ e0 e1 e2 => no9 n1107 e1, fun s9 w9 e0 e1 => by
      have e0 : g 1 = s9 := Option.some.inj (t1105.symm.trans e0)
      subst e0
      have e1 : g 2 + 1 = w9 := Option.some.inj e1
      subst e1
      refine ⟨⟨by omega, by omega⟩, hw3, ?_⟩
      rw [show (g 2 + 1).toNat = (g 2).toNat + 1 by omega, ← hw4]
      exact (wh_t (show (g 2).toNat < (m 110 1).toNat by omega) hal).symm, fun s9 w9 m9 e0 e1 e2 => by
      have e0 : g 1 = s9 := Option.some.inj (t1105.symm.trans e0)
      subst e0
      have e1 : g 2 + 1 = w9 := Option.some.inj e1
      subst e1
      have e2 : g 5 + 1 = m9 := Option.some.inj e2
      subst e2
      omega, fun s9 w9 u9 e0 e1 e2 => by
      have e0 : g 1 = s9 := Option.some.inj (t1105.symm.trans e0)
      subst e0
      have e1 : g 2 + 1 = w9 := Option.some.inj e1
      subst e1
      have e2 : g 8 + 0 = u9 := Option.some.inj e2
      subst e2
      unfold wg9 at hwu
      rw [if_pos (by omega), by_m (by omega), show (g 2).toNat = jb by omega] at hwu
      rw [show (g 2 + 1).toNat = (g 2).toNat + 1 by omega, ← hwu, show (g 2).toNat = jb by omega, show g 8 + 0 = g 6 * 256 + m 111 jb by omega]
      rfl, fun _ _ _ _ e0 e1 e2 e3 => no9 n1111 e1, fun _ _ _ _ e0 e1 e2 e3 => no9 n1114 e2⟩, k_T, k_I, k_F, k_N, k_Y, k_Z, k_A, k_B, k_C, k_X, k_R, k_f4⟩⟩
noncomputable def ru_wWf : Ru := ([(0, (1199, (0, (0, 0)))), (0, (1105, (0, (0, 0)))), (0, (1109, (0, (0, 0)))), (9, (111, (2, (1, 0)))), (5, (110, (1, (0, 0)))), (0, (1115, (0, (0, 0)))), (0, (1110, (0, (0, 0)))), (4, (0, (0, (0, 0)))), (9, (1000, (7, (0, 31))))], ([1107, 1111, 1114], ([([(2, (-1))], 0), ([(2, 1), (4, (-1))], (-1)), ([(3, (-1))], (-48)), ([(3, 1)], 57), ([(5, (-1))], (-8)), ([(8, 1)], (-1)), ([(8, (-1))], 1)], (false, ([], ([], ([(1109, some (2, 1)), (1115, some (5, 1)), (1110, some (8, 0))], none)))))))
theorem rk_wWf : RuOk SR ru_wWf := by
  intro τ m g hi hc ha hS
  obtain ⟨i0, i1, i2, i3, i4, i5, i6, i7, i8, _⟩ := hi
  have t1199 : τ 1199 = some (g 0) := i0
  have t1105 : τ 1105 = some (g 1) := i1
  have t1109 : τ 1109 = some (g 2) := i2
  obtain ⟨jb, ub, vb⟩ : ∃ j : Nat, 1 * g 2 + 0 = (j : Int) ∧ g 3 = m 111 j := i3
  have xL : g 4 = m 110 1 := i4
  have t1115 : τ 1115 = some (g 5) := i5
  have t1110 : τ 1110 = some (g 6) := i6
  have xo : g 7 = 0 := i7
  obtain ⟨jv, uv, vv⟩ : ∃ j : Nat, 0 * g 7 + 31 = (j : Int) ∧ g 8 = m 1000 j := i8
  obtain ⟨c0, c1, c2, c3, c4, c5, c6, _⟩ := hc
  have c0 : (-1) * g 2 ≤ 0 := d1 c0
  have c1 : 1 * g 2 + (-1) * g 4 ≤ (-1) := d2 c1
  have c2 : (-1) * g 3 ≤ (-48) := d1 c2
  have c3 : 1 * g 3 ≤ 57 := d1 c3
  have c4 : (-1) * g 5 ≤ (-8) := d1 c4
  have c5 : 1 * g 8 ≤ (-1) := d1 c5
  have c6 : (-1) * g 8 ≤ 1 := d1 c6
  obtain ⟨a0, a1, a2, _⟩ := ha
  have n1107 : τ 1107 = none := a0
  have n1111 : τ 1111 = none := a1
  have n1114 : τ 1114 = none := a2
  obtain ⟨h0, k_tok, k_sc1, k_sc2, k_T, k_I, k_F, k_N, k_Y, k_Z, k_A, k_B, k_C, k_X, k_R, k_f4⟩ := hS (by rw [t1199]; exact fun e => by cases e)
  have k_sc10 := k_sc1
  obtain ⟨h_qz, h_nz, h_s, h_ns, h_nE⟩ := k_sc10
  have k_sc20 := k_sc2
  obtain ⟨h_ske, h_skv, h_sku, h_sw, h_swm, h_swu, h_sf, h_sg⟩ := k_sc20
  obtain ⟨⟨hw1, hw2⟩, hw3, hw4⟩ := h_sw _ _ t1105 t1109
  have hs := h_s _ t1105
  have hal := al_m (m := m) (p := (g 2).toNat) (by omega) (by rw [show (g 2).toNat = jb by omega]; omega)
  have hwm := h_swm _ _ _ t1105 t1109 t1115
  have hwu := h_swu _ _ _ t1105 t1109 t1110
  have hL : (g 2).toNat < (tx9 m).2 := (show (g 2).toNat < (m 110 1).toNat by omega)
  rw [vb_t hL hal] at hwu
  exact ⟨rfl, trivial, trivial, fun _ => ⟨h0, k_tok, k_sc1, ⟨h_ske, h_skv, fun _ _ _ e0 e1 e2 => no9 n1107 e1, fun s9 w9 e0 e1 => by
      have e0 : g 1 = s9 := Option.some.inj (t1105.symm.trans e0)
      subst e0
      have e1 : g 2 + 1 = w9 := Option.some.inj e1
      subst e1
      refine ⟨⟨by omega, by omega⟩, hw3, ?_⟩
      rw [show (g 2 + 1).toNat = (g 2).toNat + 1 by omega, ← hw4]
      exact (wh_t (show (g 2).toNat < (m 110 1).toNat by omega) hal).symm, fun s9 w9 m9 e0 e1 e2 => by
      have e0 : g 1 = s9 := Option.some.inj (t1105.symm.trans e0)
      subst e0
      have e1 : g 2 + 1 = w9 := Option.some.inj e1
      subst e1
      have e2 : g 5 + 1 = m9 := Option.some.inj e2
      subst e2
      omega, fun s9 w9 u9 e0 e1 e2 => by
      have e0 : g 1 = s9 := Option.some.inj (t1105.symm.trans e0)
      subst e0
      have e1 : g 2 + 1 = w9 := Option.some.inj e1
      subst e1
      have e2 : g 8 + 0 = u9 := Option.some.inj e2
      subst e2
      unfold wg9 at hwu
      rw [if_neg (by omega)] at hwu
      rw [show (g 2 + 1).toNat = (g 2).toNat + 1 by omega, ← hwu, show g 8 + 0 = -1 by omega]
      rfl, fun _ _ _ _ e0 e1 e2 e3 => no9 n1111 e1, fun _ _ _ _ e0 e1 e2 e3 => no9 n1114 e2⟩, k_T, k_I, k_F, k_N, k_Y, k_Z, k_A, k_B, k_C, k_X, k_R, k_f4⟩⟩
noncomputable def ru_wH : Ru := ([(0, (1199, (0, (0, 0)))), (0, (1109, (0, (0, 0))))], ([], ([], (false, ([], ([], ([(1115, none), (1110, none)], none)))))))
theorem rk_wH : RuOk SR ru_wH := by
  intro τ m g hi hc ha hS
  obtain ⟨i0, i1, _⟩ := hi
  have t1199 : τ 1199 = some (g 0) := i0
  have t1109 : τ 1109 = some (g 1) := i1
  obtain ⟨h0, k_tok, k_sc1, k_sc2, k_T, k_I, k_F, k_N, k_Y, k_Z, k_A, k_B, k_C, k_X, k_R, k_f4⟩ := hS (by rw [t1199]; exact fun e => by cases e)
  have k_sc20 := k_sc2
  obtain ⟨h_ske, h_skv, h_sku, h_sw, h_swm, h_swu, h_sf, h_sg⟩ := k_sc20
  exact ⟨rfl, trivial, trivial, fun _ => ⟨h0, k_tok, k_sc1, ⟨h_ske, h_skv, fun _ _ _ e0 e1 e2 => no9 (o := none) rfl e2, h_sw, fun _ _ _ e0 e1 e2 => no9 (o := none) rfl e2, fun _ _ _ e0 e1 e2 => no9 (o := none) rfl e2, fun _ _ _ _ e0 e1 e2 e3 => no9 (o := none) rfl e2, fun _ _ _ _ e0 e1 e2 e3 => no9 (o := none) rfl e3⟩, k_T, k_I, k_F, k_N, k_Y, k_Z, k_A, k_B, k_C, k_X, k_R, k_f4⟩⟩
noncomputable def ru_wE1 : Ru := ([(0, (1199, (0, (0, 0)))), (0, (1105, (0, (0, 0)))), (0, (1109, (0, (0, 0)))), (5, (110, (1, (0, 0)))), (4, (0, (0, (1, 0))))], ([1107, 1106, 1108], ([([(2, (-1)), (3, 1)], 0)], (false, ([], ([], ([(1107, some (4, 0)), (1106, some (2, 0)), (1109, none)], none)))))))
theorem rk_wE1 : RuOk SR ru_wE1 := by
  intro τ m g hi hc ha hS
  obtain ⟨i0, i1, i2, i3, i4, _⟩ := hi
  have t1199 : τ 1199 = some (g 0) := i0
  have t1105 : τ 1105 = some (g 1) := i1
  have t1109 : τ 1109 = some (g 2) := i2
  have xL : g 3 = m 110 1 := i3
  have xone : g 4 = 1 := i4
  obtain ⟨c0, _⟩ := hc
  have c0 : (-1) * g 2 + 1 * g 3 ≤ 0 := d2 c0
  obtain ⟨a0, a1, a2, _⟩ := ha
  have n1107 : τ 1107 = none := a0
  have n1106 : τ 1106 = none := a1
  have n1108 : τ 1108 = none := a2
  obtain ⟨h0, k_tok, k_sc1, k_sc2, k_T, k_I, k_F, k_N, k_Y, k_Z, k_A, k_B, k_C, k_X, k_R, k_f4⟩ := hS (by rw [t1199]; exact fun e => by cases e)
  have k_sc10 := k_sc1
  obtain ⟨h_qz, h_nz, h_s, h_ns, h_nE⟩ := k_sc10
  have k_sc20 := k_sc2
  obtain ⟨h_ske, h_skv, h_sku, h_sw, h_swm, h_swu, h_sf, h_sg⟩ := k_sc20
  obtain ⟨⟨hw1, hw2⟩, hw3, hw4⟩ := h_sw _ _ t1105 t1109
  have hs := h_s _ t1105
  have hal := al_n (X := tx9 m) (p := (g 2).toNat) (by rw [by_e (by omega)]; exact Or.inl (by decide))
  have he : we9 (tx9 m) (g 2).toNat = (g 2).toNat := wh_f hal
  obtain ⟨k1, k2⟩ := kd_w hw3
  rw [he] at hw4
  exact ⟨rfl, trivial, trivial, fun _ => ⟨h0, k_tok, k_sc1, ⟨fun s9 k9 e9 e0 e1 e2 => by
      have e0 : g 1 = s9 := Option.some.inj (t1105.symm.trans e0)
      subst e0
      have e1 : g 4 + 0 = k9 := Option.some.inj e1
      subst e1
      have e2 : g 2 + 0 = e9 := Option.some.inj e2
      subst e2
      rw [k1, k2, ← hw4]
      exact ⟨by omega, by omega⟩, fun _ _ _ e0 e1 e2 => no9 n1108 e2, fun s9 k9 u9 e0 e1 e2 => by
      have e0 : g 1 = s9 := Option.some.inj (t1105.symm.trans e0)
      subst e0
      have e1 : g 4 + 0 = k9 := Option.some.inj e1
      subst e1
      intro z
      have y := h_swu _ _ _ t1105 t1109 e2
      rw [vb_f hal] at y
      exact y, fun _ _ e0 e1 => no9 (o := none) rfl e1, fun _ _ _ e0 e1 e2 => no9 (o := none) rfl e1, fun _ _ _ e0 e1 e2 => no9 (o := none) rfl e1, h_sf, h_sg⟩, k_T, k_I, k_F, k_N, k_Y, k_Z, k_A, k_B, k_C, k_X, k_R, k_f4⟩⟩
noncomputable def ru_wE2 : Ru := ([(0, (1199, (0, (0, 0)))), (0, (1105, (0, (0, 0)))), (0, (1109, (0, (0, 0)))), (9, (111, (2, (1, 0)))), (5, (110, (1, (0, 0)))), (4, (0, (0, (1, 0))))], ([1107, 1106, 1108], ([([(2, (-1))], 0), ([(2, 1), (4, (-1))], (-1)), ([(3, 1)], 47)], (false, ([], ([], ([(1107, some (5, 0)), (1106, some (2, 0)), (1109, none)], none)))))))
theorem rk_wE2 : RuOk SR ru_wE2 := by
  intro τ m g hi hc ha hS
  obtain ⟨i0, i1, i2, i3, i4, i5, _⟩ := hi
  have t1199 : τ 1199 = some (g 0) := i0
  have t1105 : τ 1105 = some (g 1) := i1
  have t1109 : τ 1109 = some (g 2) := i2
  obtain ⟨jb, ub, vb⟩ : ∃ j : Nat, 1 * g 2 + 0 = (j : Int) ∧ g 3 = m 111 j := i3
  have xL : g 4 = m 110 1 := i4
  have xone : g 5 = 1 := i5
  obtain ⟨c0, c1, c2, _⟩ := hc
  have c0 : (-1) * g 2 ≤ 0 := d1 c0
  have c1 : 1 * g 2 + (-1) * g 4 ≤ (-1) := d2 c1
  have c2 : 1 * g 3 ≤ 47 := d1 c2
  obtain ⟨a0, a1, a2, _⟩ := ha
  have n1107 : τ 1107 = none := a0
  have n1106 : τ 1106 = none := a1
  have n1108 : τ 1108 = none := a2
  obtain ⟨h0, k_tok, k_sc1, k_sc2, k_T, k_I, k_F, k_N, k_Y, k_Z, k_A, k_B, k_C, k_X, k_R, k_f4⟩ := hS (by rw [t1199]; exact fun e => by cases e)
  have k_sc10 := k_sc1
  obtain ⟨h_qz, h_nz, h_s, h_ns, h_nE⟩ := k_sc10
  have k_sc20 := k_sc2
  obtain ⟨h_ske, h_skv, h_sku, h_sw, h_swm, h_swu, h_sf, h_sg⟩ := k_sc20
  obtain ⟨⟨hw1, hw2⟩, hw3, hw4⟩ := h_sw _ _ t1105 t1109
  have hs := h_s _ t1105
  have hal := al_n (X := tx9 m) (p := (g 2).toNat) (by rw [by_m (by omega), show (g 2).toNat = jb by omega]; omega)
  have he : we9 (tx9 m) (g 2).toNat = (g 2).toNat := wh_f hal
  obtain ⟨k1, k2⟩ := kd_w hw3
  rw [he] at hw4
  exact ⟨rfl, trivial, trivial, fun _ => ⟨h0, k_tok, k_sc1, ⟨fun s9 k9 e9 e0 e1 e2 => by
      have e0 : g 1 = s9 := Option.some.inj (t1105.symm.trans e0)
      subst e0
      have e1 : g 5 + 0 = k9 := Option.some.inj e1
      subst e1
      have e2 : g 2 + 0 = e9 := Option.some.inj e2
      subst e2
      rw [k1, k2, ← hw4]
      exact ⟨by omega, by omega⟩, fun _ _ _ e0 e1 e2 => no9 n1108 e2, fun s9 k9 u9 e0 e1 e2 => by
      have e0 : g 1 = s9 := Option.some.inj (t1105.symm.trans e0)
      subst e0
      have e1 : g 5 + 0 = k9 := Option.some.inj e1
      subst e1
      intro z
      have y := h_swu _ _ _ t1105 t1109 e2
      rw [vb_f hal] at y
      exact y, fun _ _ e0 e1 => no9 (o := none) rfl e1, fun _ _ _ e0 e1 e2 => no9 (o := none) rfl e1, fun _ _ _ e0 e1 e2 => no9 (o := none) rfl e1, h_sf, h_sg⟩, k_T, k_I, k_F, k_N, k_Y, k_Z, k_A, k_B, k_C, k_X, k_R, k_f4⟩⟩
noncomputable def ru_wE3 : Ru := ([(0, (1199, (0, (0, 0)))), (0, (1105, (0, (0, 0)))), (0, (1109, (0, (0, 0)))), (9, (111, (2, (1, 0)))), (5, (110, (1, (0, 0)))), (4, (0, (0, (1, 0))))], ([1107, 1106, 1108], ([([(2, (-1))], 0), ([(2, 1), (4, (-1))], (-1)), ([(3, (-1))], (-58)), ([(3, 1)], 96)], (false, ([], ([], ([(1107, some (5, 0)), (1106, some (2, 0)), (1109, none)], none)))))))
theorem rk_wE3 : RuOk SR ru_wE3 := by
  intro τ m g hi hc ha hS
  obtain ⟨i0, i1, i2, i3, i4, i5, _⟩ := hi
  have t1199 : τ 1199 = some (g 0) := i0
  have t1105 : τ 1105 = some (g 1) := i1
  have t1109 : τ 1109 = some (g 2) := i2
  obtain ⟨jb, ub, vb⟩ : ∃ j : Nat, 1 * g 2 + 0 = (j : Int) ∧ g 3 = m 111 j := i3
  have xL : g 4 = m 110 1 := i4
  have xone : g 5 = 1 := i5
  obtain ⟨c0, c1, c2, c3, _⟩ := hc
  have c0 : (-1) * g 2 ≤ 0 := d1 c0
  have c1 : 1 * g 2 + (-1) * g 4 ≤ (-1) := d2 c1
  have c2 : (-1) * g 3 ≤ (-58) := d1 c2
  have c3 : 1 * g 3 ≤ 96 := d1 c3
  obtain ⟨a0, a1, a2, _⟩ := ha
  have n1107 : τ 1107 = none := a0
  have n1106 : τ 1106 = none := a1
  have n1108 : τ 1108 = none := a2
  obtain ⟨h0, k_tok, k_sc1, k_sc2, k_T, k_I, k_F, k_N, k_Y, k_Z, k_A, k_B, k_C, k_X, k_R, k_f4⟩ := hS (by rw [t1199]; exact fun e => by cases e)
  have k_sc10 := k_sc1
  obtain ⟨h_qz, h_nz, h_s, h_ns, h_nE⟩ := k_sc10
  have k_sc20 := k_sc2
  obtain ⟨h_ske, h_skv, h_sku, h_sw, h_swm, h_swu, h_sf, h_sg⟩ := k_sc20
  obtain ⟨⟨hw1, hw2⟩, hw3, hw4⟩ := h_sw _ _ t1105 t1109
  have hs := h_s _ t1105
  have hal := al_n (X := tx9 m) (p := (g 2).toNat) (by rw [by_m (by omega), show (g 2).toNat = jb by omega]; omega)
  have he : we9 (tx9 m) (g 2).toNat = (g 2).toNat := wh_f hal
  obtain ⟨k1, k2⟩ := kd_w hw3
  rw [he] at hw4
  exact ⟨rfl, trivial, trivial, fun _ => ⟨h0, k_tok, k_sc1, ⟨fun s9 k9 e9 e0 e1 e2 => by
      have e0 : g 1 = s9 := Option.some.inj (t1105.symm.trans e0)
      subst e0
      have e1 : g 5 + 0 = k9 := Option.some.inj e1
      subst e1
      have e2 : g 2 + 0 = e9 := Option.some.inj e2
      subst e2
      rw [k1, k2, ← hw4]
      exact ⟨by omega, by omega⟩, fun _ _ _ e0 e1 e2 => no9 n1108 e2, fun s9 k9 u9 e0 e1 e2 => by
      have e0 : g 1 = s9 := Option.some.inj (t1105.symm.trans e0)
      subst e0
      have e1 : g 5 + 0 = k9 := Option.some.inj e1
      subst e1
      intro z
      have y := h_swu _ _ _ t1105 t1109 e2
      rw [vb_f hal] at y
      exact y, fun _ _ e0 e1 => no9 (o := none) rfl e1, fun _ _ _ e0 e1 e2 => no9 (o := none) rfl e1, fun _ _ _ e0 e1 e2 => no9 (o := none) rfl e1, h_sf, h_sg⟩, k_T, k_I, k_F, k_N, k_Y, k_Z, k_A, k_B, k_C, k_X, k_R, k_f4⟩⟩
noncomputable def ru_wE4 : Ru := ([(0, (1199, (0, (0, 0)))), (0, (1105, (0, (0, 0)))), (0, (1109, (0, (0, 0)))), (9, (111, (2, (1, 0)))), (5, (110, (1, (0, 0)))), (4, (0, (0, (1, 0))))], ([1107, 1106, 1108], ([([(2, (-1))], 0), ([(2, 1), (4, (-1))], (-1)), ([(3, (-1))], (-123))], (false, ([], ([], ([(1107, some (5, 0)), (1106, some (2, 0)), (1109, none)], none)))))))
theorem rk_wE4 : RuOk SR ru_wE4 := by
  intro τ m g hi hc ha hS
  obtain ⟨i0, i1, i2, i3, i4, i5, _⟩ := hi
  have t1199 : τ 1199 = some (g 0) := i0
  have t1105 : τ 1105 = some (g 1) := i1
  have t1109 : τ 1109 = some (g 2) := i2
  obtain ⟨jb, ub, vb⟩ : ∃ j : Nat, 1 * g 2 + 0 = (j : Int) ∧ g 3 = m 111 j := i3
  have xL : g 4 = m 110 1 := i4
  have xone : g 5 = 1 := i5
  obtain ⟨c0, c1, c2, _⟩ := hc
  have c0 : (-1) * g 2 ≤ 0 := d1 c0
  have c1 : 1 * g 2 + (-1) * g 4 ≤ (-1) := d2 c1
  have c2 : (-1) * g 3 ≤ (-123) := d1 c2
  obtain ⟨a0, a1, a2, _⟩ := ha
  have n1107 : τ 1107 = none := a0
  have n1106 : τ 1106 = none := a1
  have n1108 : τ 1108 = none := a2
  obtain ⟨h0, k_tok, k_sc1, k_sc2, k_T, k_I, k_F, k_N, k_Y, k_Z, k_A, k_B, k_C, k_X, k_R, k_f4⟩ := hS (by rw [t1199]; exact fun e => by cases e)
  have k_sc10 := k_sc1
  obtain ⟨h_qz, h_nz, h_s, h_ns, h_nE⟩ := k_sc10
  have k_sc20 := k_sc2
  obtain ⟨h_ske, h_skv, h_sku, h_sw, h_swm, h_swu, h_sf, h_sg⟩ := k_sc20
  obtain ⟨⟨hw1, hw2⟩, hw3, hw4⟩ := h_sw _ _ t1105 t1109
  have hs := h_s _ t1105
  have hal := al_n (X := tx9 m) (p := (g 2).toNat) (by rw [by_m (by omega), show (g 2).toNat = jb by omega]; omega)
  have he : we9 (tx9 m) (g 2).toNat = (g 2).toNat := wh_f hal
  obtain ⟨k1, k2⟩ := kd_w hw3
  rw [he] at hw4
  exact ⟨rfl, trivial, trivial, fun _ => ⟨h0, k_tok, k_sc1, ⟨fun s9 k9 e9 e0 e1 e2 => by
      have e0 : g 1 = s9 := Option.some.inj (t1105.symm.trans e0)
      subst e0
      have e1 : g 5 + 0 = k9 := Option.some.inj e1
      subst e1
      have e2 : g 2 + 0 = e9 := Option.some.inj e2
      subst e2
      rw [k1, k2, ← hw4]
      exact ⟨by omega, by omega⟩, fun _ _ _ e0 e1 e2 => no9 n1108 e2, fun s9 k9 u9 e0 e1 e2 => by
      have e0 : g 1 = s9 := Option.some.inj (t1105.symm.trans e0)
      subst e0
      have e1 : g 5 + 0 = k9 := Option.some.inj e1
      subst e1
      intro z
      have y := h_swu _ _ _ t1105 t1109 e2
      rw [vb_f hal] at y
      exact y, fun _ _ e0 e1 => no9 (o := none) rfl e1, fun _ _ _ e0 e1 e2 => no9 (o := none) rfl e1, fun _ _ _ e0 e1 e2 => no9 (o := none) rfl e1, h_sf, h_sg⟩, k_T, k_I, k_F, k_N, k_Y, k_Z, k_A, k_B, k_C, k_X, k_R, k_f4⟩⟩
noncomputable def ru_fS : Ru := ([(0, (1199, (0, (0, 0)))), (0, (1105, (0, (0, 0)))), (9, (111, (1, (1, 0)))), (5, (110, (1, (0, 0)))), (4, (0, (0, (0, 0)))), (16, (0, (0, (0, 0))))], ([1106, 1107, 1108, 1109, 1110, 1111, 1112, 1113, 1114, 1115], ([([(1, (-1))], 0), ([(1, 1), (3, (-1))], (-1)), ([(2, (-1))], (-48)), ([(2, 1)], 57)], (false, ([], ([], ([(1111, some (1, 0)), (1115, some (4, 0)), (1112, some (5, 0))], none)))))))
theorem rk_fS : RuOk SR ru_fS := by
  intro τ m g hi hc ha hS
  obtain ⟨i0, i1, i2, i3, i4, i5, _⟩ := hi
  have t1199 : τ 1199 = some (g 0) := i0
  have t1105 : τ 1105 = some (g 1) := i1
  obtain ⟨jb, ub, vb⟩ : ∃ j : Nat, 1 * g 1 + 0 = (j : Int) ∧ g 2 = m 111 j := i2
  have xL : g 3 = m 110 1 := i3
  have xo : g 4 = 0 := i4
  have xol : g 5 = 0 := i5
  obtain ⟨c0, c1, c2, c3, _⟩ := hc
  have c0 : (-1) * g 1 ≤ 0 := d1 c0
  have c1 : 1 * g 1 + (-1) * g 3 ≤ (-1) := d2 c1
  have c2 : (-1) * g 2 ≤ (-48) := d1 c2
  have c3 : 1 * g 2 ≤ 57 := d1 c3
  obtain ⟨a0, a1, a2, a3, a4, a5, a6, a7, a8, a9, _⟩ := ha
  have n1106 : τ 1106 = none := a0
  have n1107 : τ 1107 = none := a1
  have n1108 : τ 1108 = none := a2
  have n1109 : τ 1109 = none := a3
  have n1110 : τ 1110 = none := a4
  have n1111 : τ 1111 = none := a5
  have n1112 : τ 1112 = none := a6
  have n1113 : τ 1113 = none := a7
  have n1114 : τ 1114 = none := a8
  have n1115 : τ 1115 = none := a9
  obtain ⟨h0, k_tok, k_sc1, k_sc2, k_T, k_I, k_F, k_N, k_Y, k_Z, k_A, k_B, k_C, k_X, k_R, k_f4⟩ := hS (by rw [t1199]; exact fun e => by cases e)
  have k_sc10 := k_sc1
  obtain ⟨h_qz, h_nz, h_s, h_ns, h_nE⟩ := k_sc10
  have k_sc20 := k_sc2
  obtain ⟨h_ske, h_skv, h_sku, h_sw, h_swm, h_swu, h_sf, h_sg⟩ := k_sc20
  have hs := h_s _ t1105
  exact ⟨rfl, trivial, trivial, fun _ => ⟨h0, k_tok, k_sc1, ⟨h_ske, h_skv, h_sku, h_sw, fun _ _ _ e0 e1 e2 => no9 n1109 e1, h_swu, fun s9 f9 m9 y9 e0 e1 e2 e3 => by
      have e0 : g 1 = s9 := Option.some.inj (t1105.symm.trans e0)
      subst e0
      have e1 : g 1 + 0 = f9 := Option.some.inj e1
      subst e1
      have e2 : g 4 + 0 = m9 := Option.some.inj e2
      subst e2
      have e3 : g 5 + 0 = y9 := Option.some.inj e3
      subst e3
      rw [Int.add_zero, show g 5 + 0 = 0 by omega]
      exact ⟨⟨⟨by omega, by omega⟩, by omega⟩, fi_m (by omega) (by rw [show (g 1).toNat = jb by omega]; omega) (by rw [show (g 1).toNat = jb by omega]; omega), rfl, rfl⟩, fun _ _ _ _ e0 e1 e2 e3 => no9 n1113 e1⟩, k_T, k_I, k_F, k_N, k_Y, k_Z, k_A, k_B, k_C, k_X, k_R, k_f4⟩⟩
noncomputable def ru_fSl : Ru := ([(0, (1199, (0, (0, 0)))), (0, (1105, (0, (0, 0)))), (9, (111, (1, (1, 0)))), (5, (110, (1, (0, 0)))), (4, (0, (0, (0, 0)))), (9, (1000, (4, (0, 31))))], ([1106, 1107, 1108, 1109, 1110, 1111, 1112, 1113, 1114, 1115], ([([(1, (-1))], 0), ([(1, 1), (3, (-1))], (-1)), ([(2, (-1))], (-48)), ([(2, 1)], 57), ([(5, 1)], 0), ([(5, (-1))], 0)], (false, ([], ([], ([(1111, some (1, 0)), (1115, some (4, 0)), (1112, some (5, 0))], none)))))))
theorem rk_fSl : RuOk SR ru_fSl := by
  intro τ m g hi hc ha hS
  obtain ⟨i0, i1, i2, i3, i4, i5, _⟩ := hi
  have t1199 : τ 1199 = some (g 0) := i0
  have t1105 : τ 1105 = some (g 1) := i1
  obtain ⟨jb, ub, vb⟩ : ∃ j : Nat, 1 * g 1 + 0 = (j : Int) ∧ g 2 = m 111 j := i2
  have xL : g 3 = m 110 1 := i3
  have xo : g 4 = 0 := i4
  obtain ⟨jv, uv, vv⟩ : ∃ j : Nat, 0 * g 4 + 31 = (j : Int) ∧ g 5 = m 1000 j := i5
  obtain ⟨c0, c1, c2, c3, c4, c5, _⟩ := hc
  have c0 : (-1) * g 1 ≤ 0 := d1 c0
  have c1 : 1 * g 1 + (-1) * g 3 ≤ (-1) := d2 c1
  have c2 : (-1) * g 2 ≤ (-48) := d1 c2
  have c3 : 1 * g 2 ≤ 57 := d1 c3
  have c4 : 1 * g 5 ≤ 0 := d1 c4
  have c5 : (-1) * g 5 ≤ 0 := d1 c5
  obtain ⟨a0, a1, a2, a3, a4, a5, a6, a7, a8, a9, _⟩ := ha
  have n1106 : τ 1106 = none := a0
  have n1107 : τ 1107 = none := a1
  have n1108 : τ 1108 = none := a2
  have n1109 : τ 1109 = none := a3
  have n1110 : τ 1110 = none := a4
  have n1111 : τ 1111 = none := a5
  have n1112 : τ 1112 = none := a6
  have n1113 : τ 1113 = none := a7
  have n1114 : τ 1114 = none := a8
  have n1115 : τ 1115 = none := a9
  obtain ⟨h0, k_tok, k_sc1, k_sc2, k_T, k_I, k_F, k_N, k_Y, k_Z, k_A, k_B, k_C, k_X, k_R, k_f4⟩ := hS (by rw [t1199]; exact fun e => by cases e)
  have k_sc10 := k_sc1
  obtain ⟨h_qz, h_nz, h_s, h_ns, h_nE⟩ := k_sc10
  have k_sc20 := k_sc2
  obtain ⟨h_ske, h_skv, h_sku, h_sw, h_swm, h_swu, h_sf, h_sg⟩ := k_sc20
  have hs := h_s _ t1105
  exact ⟨rfl, trivial, trivial, fun _ => ⟨h0, k_tok, k_sc1, ⟨h_ske, h_skv, h_sku, h_sw, fun _ _ _ e0 e1 e2 => no9 n1109 e1, h_swu, fun s9 f9 m9 y9 e0 e1 e2 e3 => by
      have e0 : g 1 = s9 := Option.some.inj (t1105.symm.trans e0)
      subst e0
      have e1 : g 1 + 0 = f9 := Option.some.inj e1
      subst e1
      have e2 : g 4 + 0 = m9 := Option.some.inj e2
      subst e2
      have e3 : g 5 + 0 = y9 := Option.some.inj e3
      subst e3
      rw [Int.add_zero, show g 5 + 0 = 0 by omega]
      exact ⟨⟨⟨by omega, by omega⟩, by omega⟩, fi_m (by omega) (by rw [show (g 1).toNat = jb by omega]; omega) (by rw [show (g 1).toNat = jb by omega]; omega), rfl, rfl⟩, fun _ _ _ _ e0 e1 e2 e3 => no9 n1113 e1⟩, k_T, k_I, k_F, k_N, k_Y, k_Z, k_A, k_B, k_C, k_X, k_R, k_f4⟩⟩
noncomputable def ru_fNh : Ru := ([(0, (1199, (0, (0, 0)))), (0, (1105, (0, (0, 0)))), (0, (1111, (0, (0, 0)))), (0, (1115, (0, (0, 0)))), (0, (1112, (0, (0, 0)))), (9, (111, (2, (1, 0)))), (5, (110, (1, (0, 0)))), (13, (2, (0, (0, 0))))], ([1114, 1109], ([([(2, (-1))], 0), ([(2, 1), (6, (-1))], (-1)), ([(5, (-1))], (-48)), ([(5, 1)], 57), ([(3, 1)], 8), ([(4, (-10)), (5, (-1)), (7, 1)], (-48)), ([(4, 10), (5, 1), (7, (-1))], 48)], (false, ([], ([], ([(1111, some (2, 1)), (1115, some (3, 1)), (1112, some (7, 0))], none)))))))
theorem rk_fNh : RuOk SR ru_fNh := by
  intro τ m g hi hc ha hS
  obtain ⟨i0, i1, i2, i3, i4, i5, i6, i7, _⟩ := hi
  have t1199 : τ 1199 = some (g 0) := i0
  have t1105 : τ 1105 = some (g 1) := i1
  have t1111 : τ 1111 = some (g 2) := i2
  have t1115 : τ 1115 = some (g 3) := i3
  have t1112 : τ 1112 = some (g 4) := i4
  obtain ⟨jb, ub, vb⟩ : ∃ j : Nat, 1 * g 2 + 0 = (j : Int) ∧ g 5 = m 111 j := i5
  have xL : g 6 = m 110 1 := i6
  obtain ⟨c0, c1, c2, c3, c4, c5, c6, _⟩ := hc
  have c0 : (-1) * g 2 ≤ 0 := d1 c0
  have c1 : 1 * g 2 + (-1) * g 6 ≤ (-1) := d2 c1
  have c2 : (-1) * g 5 ≤ (-48) := d1 c2
  have c3 : 1 * g 5 ≤ 57 := d1 c3
  have c4 : 1 * g 3 ≤ 8 := d1 c4
  have c5 : (-10) * g 4 + (-1) * g 5 + 1 * g 7 ≤ (-48) := d3 c5
  have c6 : 10 * g 4 + 1 * g 5 + (-1) * g 7 ≤ 48 := d3 c6
  obtain ⟨a0, a1, _⟩ := ha
  have n1114 : τ 1114 = none := a0
  have n1109 : τ 1109 = none := a1
  obtain ⟨h0, k_tok, k_sc1, k_sc2, k_T, k_I, k_F, k_N, k_Y, k_Z, k_A, k_B, k_C, k_X, k_R, k_f4⟩ := hS (by rw [t1199]; exact fun e => by cases e)
  have k_sc10 := k_sc1
  obtain ⟨h_qz, h_nz, h_s, h_ns, h_nE⟩ := k_sc10
  have k_sc20 := k_sc2
  obtain ⟨h_ske, h_skv, h_sku, h_sw, h_swm, h_swu, h_sf, h_sg⟩ := k_sc20
  obtain ⟨⟨⟨hf1, hf2⟩, hf3⟩, hf4, hf5, hf6⟩ := h_sf _ _ _ _ t1105 t1111 t1115 t1112
  have hs := h_s _ t1105
  have hfi := fi_m (m := m) (p := (g 2).toNat) (by omega) (by rw [show (g 2).toNat = jb by omega]; omega) (by rw [show (g 2).toNat = jb by omega]; omega)
  have hL : (g 2).toNat < (tx9 m).2 := (show (g 2).toNat < (m 110 1).toNat by omega)
  exact ⟨rfl, trivial, trivial, fun _ => ⟨h0, k_tok, k_sc1, ⟨h_ske, h_skv, h_sku, h_sw, fun _ _ _ e0 e1 e2 => no9 n1109 e1, h_swu, fun s9 f9 m9 y9 e0 e1 e2 e3 => by
      have e0 : g 1 = s9 := Option.some.inj (t1105.symm.trans e0)
      subst e0
      have e1 : g 2 + 1 = f9 := Option.some.inj e1
      subst e1
      have e2 : g 3 + 1 = m9 := Option.some.inj e2
      subst e2
      have e3 : g 7 + 0 = y9 := Option.some.inj e3
      subst e3
      refine ⟨⟨⟨by omega, by omega⟩, by omega⟩, hf4, ?_, ?_⟩
      · rw [show (g 2 + 1).toNat = (g 2).toNat + 1 by omega, ← hf5]
        exact (wh_t hL hfi).symm
      · rw [show (g 2 + 1).toNat = (g 2).toNat + 1 by omega, ← hf6, vb_t hL hfi]
        unfold ng9
        rw [if_pos (by omega), by_m (by omega), show (g 2).toNat = jb by omega, show g 7 + 0 = g 4 * 10 + m 111 jb - 48 by omega], fun _ _ _ _ e0 e1 e2 e3 => no9 n1114 e2⟩, k_T, k_I, k_F, k_N, k_Y, k_Z, k_A, k_B, k_C, k_X, k_R, k_f4⟩⟩
noncomputable def ru_fNm : Ru := ([(0, (1199, (0, (0, 0)))), (0, (1105, (0, (0, 0)))), (0, (1111, (0, (0, 0)))), (0, (1115, (0, (0, 0)))), (0, (1112, (0, (0, 0)))), (9, (111, (2, (1, 0)))), (5, (110, (1, (0, 0)))), (4, (0, (0, (0, 0)))), (9, (1000, (7, (0, 31))))], ([1114, 1109], ([([(2, (-1))], 0), ([(2, 1), (6, (-1))], (-1)), ([(5, (-1))], (-48)), ([(5, 1)], 57), ([(3, 1)], 8), ([(4, (-10)), (5, (-1)), (8, 1)], (-48)), ([(4, 10), (5, 1), (8, (-1))], 48)], (false, ([], ([], ([(1111, some (2, 1)), (1115, some (3, 1)), (1112, some (8, 0))], none)))))))
theorem rk_fNm : RuOk SR ru_fNm := by
  intro τ m g hi hc ha hS
  obtain ⟨i0, i1, i2, i3, i4, i5, i6, i7, i8, _⟩ := hi
  have t1199 : τ 1199 = some (g 0) := i0
  have t1105 : τ 1105 = some (g 1) := i1
  have t1111 : τ 1111 = some (g 2) := i2
  have t1115 : τ 1115 = some (g 3) := i3
  have t1112 : τ 1112 = some (g 4) := i4
  obtain ⟨jb, ub, vb⟩ : ∃ j : Nat, 1 * g 2 + 0 = (j : Int) ∧ g 5 = m 111 j := i5
  have xL : g 6 = m 110 1 := i6
  have xo : g 7 = 0 := i7
  obtain ⟨jv, uv, vv⟩ : ∃ j : Nat, 0 * g 7 + 31 = (j : Int) ∧ g 8 = m 1000 j := i8
  obtain ⟨c0, c1, c2, c3, c4, c5, c6, _⟩ := hc
  have c0 : (-1) * g 2 ≤ 0 := d1 c0
  have c1 : 1 * g 2 + (-1) * g 6 ≤ (-1) := d2 c1
  have c2 : (-1) * g 5 ≤ (-48) := d1 c2
  have c3 : 1 * g 5 ≤ 57 := d1 c3
  have c4 : 1 * g 3 ≤ 8 := d1 c4
  have c5 : (-10) * g 4 + (-1) * g 5 + 1 * g 8 ≤ (-48) := d3 c5
  have c6 : 10 * g 4 + 1 * g 5 + (-1) * g 8 ≤ 48 := d3 c6
  obtain ⟨a0, a1, _⟩ := ha
  have n1114 : τ 1114 = none := a0
  have n1109 : τ 1109 = none := a1
  obtain ⟨h0, k_tok, k_sc1, k_sc2, k_T, k_I, k_F, k_N, k_Y, k_Z, k_A, k_B, k_C, k_X, k_R, k_f4⟩ := hS (by rw [t1199]; exact fun e => by cases e)
  have k_sc10 := k_sc1
  obtain ⟨h_qz, h_nz, h_s, h_ns, h_nE⟩ := k_sc10
  have k_sc20 := k_sc2
  obtain ⟨h_ske, h_skv, h_sku, h_sw, h_swm, h_swu, h_sf, h_sg⟩ := k_sc20
  obtain ⟨⟨⟨hf1, hf2⟩, hf3⟩, hf4, hf5, hf6⟩ := h_sf _ _ _ _ t1105 t1111 t1115 t1112
  have hs := h_s _ t1105
  have hfi := fi_m (m := m) (p := (g 2).toNat) (by omega) (by rw [show (g 2).toNat = jb by omega]; omega) (by rw [show (g 2).toNat = jb by omega]; omega)
  have hL : (g 2).toNat < (tx9 m).2 := (show (g 2).toNat < (m 110 1).toNat by omega)
  exact ⟨rfl, trivial, trivial, fun _ => ⟨h0, k_tok, k_sc1, ⟨h_ske, h_skv, h_sku, h_sw, fun _ _ _ e0 e1 e2 => no9 n1109 e1, h_swu, fun s9 f9 m9 y9 e0 e1 e2 e3 => by
      have e0 : g 1 = s9 := Option.some.inj (t1105.symm.trans e0)
      subst e0
      have e1 : g 2 + 1 = f9 := Option.some.inj e1
      subst e1
      have e2 : g 3 + 1 = m9 := Option.some.inj e2
      subst e2
      have e3 : g 8 + 0 = y9 := Option.some.inj e3
      subst e3
      refine ⟨⟨⟨by omega, by omega⟩, by omega⟩, hf4, ?_, ?_⟩
      · rw [show (g 2 + 1).toNat = (g 2).toNat + 1 by omega, ← hf5]
        exact (wh_t hL hfi).symm
      · rw [show (g 2 + 1).toNat = (g 2).toNat + 1 by omega, ← hf6, vb_t hL hfi]
        unfold ng9
        rw [if_pos (by omega), by_m (by omega), show (g 2).toNat = jb by omega, show g 8 + 0 = g 4 * 10 + m 111 jb - 48 by omega], fun _ _ _ _ e0 e1 e2 e3 => no9 n1114 e2⟩, k_T, k_I, k_F, k_N, k_Y, k_Z, k_A, k_B, k_C, k_X, k_R, k_f4⟩⟩
noncomputable def ru_fM : Ru := ([(0, (1199, (0, (0, 0)))), (0, (1105, (0, (0, 0)))), (0, (1111, (0, (0, 0)))), (0, (1115, (0, (0, 0)))), (0, (1112, (0, (0, 0)))), (9, (111, (2, (1, 0)))), (5, (110, (1, (0, 0))))], ([1114, 1109], ([([(2, (-1))], 0), ([(2, 1), (6, (-1))], (-1)), ([(5, (-1))], (-48)), ([(5, 1)], 57), ([(3, (-1))], (-9))], (false, ([], ([], ([(1111, some (2, 1)), (1115, some (3, 1))], none)))))))
theorem rk_fM : RuOk SR ru_fM := by
  intro τ m g hi hc ha hS
  obtain ⟨i0, i1, i2, i3, i4, i5, i6, _⟩ := hi
  have t1199 : τ 1199 = some (g 0) := i0
  have t1105 : τ 1105 = some (g 1) := i1
  have t1111 : τ 1111 = some (g 2) := i2
  have t1115 : τ 1115 = some (g 3) := i3
  have t1112 : τ 1112 = some (g 4) := i4
  obtain ⟨jb, ub, vb⟩ : ∃ j : Nat, 1 * g 2 + 0 = (j : Int) ∧ g 5 = m 111 j := i5
  have xL : g 6 = m 110 1 := i6
  obtain ⟨c0, c1, c2, c3, c4, _⟩ := hc
  have c0 : (-1) * g 2 ≤ 0 := d1 c0
  have c1 : 1 * g 2 + (-1) * g 6 ≤ (-1) := d2 c1
  have c2 : (-1) * g 5 ≤ (-48) := d1 c2
  have c3 : 1 * g 5 ≤ 57 := d1 c3
  have c4 : (-1) * g 3 ≤ (-9) := d1 c4
  obtain ⟨a0, a1, _⟩ := ha
  have n1114 : τ 1114 = none := a0
  have n1109 : τ 1109 = none := a1
  obtain ⟨h0, k_tok, k_sc1, k_sc2, k_T, k_I, k_F, k_N, k_Y, k_Z, k_A, k_B, k_C, k_X, k_R, k_f4⟩ := hS (by rw [t1199]; exact fun e => by cases e)
  have k_sc10 := k_sc1
  obtain ⟨h_qz, h_nz, h_s, h_ns, h_nE⟩ := k_sc10
  have k_sc20 := k_sc2
  obtain ⟨h_ske, h_skv, h_sku, h_sw, h_swm, h_swu, h_sf, h_sg⟩ := k_sc20
  obtain ⟨⟨⟨hf1, hf2⟩, hf3⟩, hf4, hf5, hf6⟩ := h_sf _ _ _ _ t1105 t1111 t1115 t1112
  have hs := h_s _ t1105
  have hfi := fi_m (m := m) (p := (g 2).toNat) (by omega) (by rw [show (g 2).toNat = jb by omega]; omega) (by rw [show (g 2).toNat = jb by omega]; omega)
  have hL : (g 2).toNat < (tx9 m).2 := (show (g 2).toNat < (m 110 1).toNat by omega)
  exact ⟨rfl, trivial, trivial, fun _ => ⟨h0, k_tok, k_sc1, ⟨h_ske, h_skv, h_sku, h_sw, fun _ _ _ e0 e1 e2 => no9 n1109 e1, h_swu, fun s9 f9 m9 y9 e0 e1 e2 e3 => by
      have e0 : g 1 = s9 := Option.some.inj (t1105.symm.trans e0)
      subst e0
      have e1 : g 2 + 1 = f9 := Option.some.inj e1
      subst e1
      have e2 : g 3 + 1 = m9 := Option.some.inj e2
      subst e2
      have e3 : g 4 = y9 := Option.some.inj (t1112.symm.trans e3)
      subst e3
      refine ⟨⟨⟨by omega, by omega⟩, by omega⟩, hf4, ?_, ?_⟩
      · rw [show (g 2 + 1).toNat = (g 2).toNat + 1 by omega, ← hf5]
        exact (wh_t hL hfi).symm
      · rw [show (g 2 + 1).toNat = (g 2).toNat + 1 by omega, ← hf6, vb_t hL hfi]
        unfold ng9
        rw [if_neg (by omega)], fun _ _ _ _ e0 e1 e2 e3 => no9 n1114 e2⟩, k_T, k_I, k_F, k_N, k_Y, k_Z, k_A, k_B, k_C, k_X, k_R, k_f4⟩⟩
noncomputable def ru_fE1 : Ru := ([(0, (1199, (0, (0, 0)))), (0, (1105, (0, (0, 0)))), (0, (1111, (0, (0, 0)))), (0, (1115, (0, (0, 0)))), (0, (1112, (0, (0, 0)))), (5, (110, (1, (0, 0)))), (4, (0, (0, (2, 0)))), (4, (0, (0, (5, 0))))], ([1114, 1107, 1106, 1108, 1110], ([([(2, (-1)), (5, 1)], 0), ([(3, 1)], 9)], (false, ([], ([], ([(1107, some (6, 0)), (1106, some (2, 0)), (1108, some (4, 0)), (1111, none), (1112, none), (1115, none)], none)))))))
theorem rk_fE1 : RuOk SR ru_fE1 := by
  intro τ m g hi hc ha hS
  obtain ⟨i0, i1, i2, i3, i4, i5, i6, i7, _⟩ := hi
  have t1199 : τ 1199 = some (g 0) := i0
  have t1105 : τ 1105 = some (g 1) := i1
  have t1111 : τ 1111 = some (g 2) := i2
  have t1115 : τ 1115 = some (g 3) := i3
  have t1112 : τ 1112 = some (g 4) := i4
  have xL : g 5 = m 110 1 := i5
  have xtwo : g 6 = 2 := i6
  have xfive : g 7 = 5 := i7
  obtain ⟨c0, c1, _⟩ := hc
  have c0 : (-1) * g 2 + 1 * g 5 ≤ 0 := d2 c0
  have c1 : 1 * g 3 ≤ 9 := d1 c1
  obtain ⟨a0, a1, a2, a3, a4, _⟩ := ha
  have n1114 : τ 1114 = none := a0
  have n1107 : τ 1107 = none := a1
  have n1106 : τ 1106 = none := a2
  have n1108 : τ 1108 = none := a3
  have n1110 : τ 1110 = none := a4
  obtain ⟨h0, k_tok, k_sc1, k_sc2, k_T, k_I, k_F, k_N, k_Y, k_Z, k_A, k_B, k_C, k_X, k_R, k_f4⟩ := hS (by rw [t1199]; exact fun e => by cases e)
  have k_sc10 := k_sc1
  obtain ⟨h_qz, h_nz, h_s, h_ns, h_nE⟩ := k_sc10
  have k_sc20 := k_sc2
  obtain ⟨h_ske, h_skv, h_sku, h_sw, h_swm, h_swu, h_sf, h_sg⟩ := k_sc20
  obtain ⟨⟨⟨hf1, hf2⟩, hf3⟩, hf4, hf5, hf6⟩ := h_sf _ _ _ _ t1105 t1111 t1115 t1112
  have hs := h_s _ t1105
  have hfn := fi_n (X := tx9 m) (p := (g 2).toNat) (by rw [by_e (by omega)]; exact Or.inl (by decide))
  have hfe : fe9 (tx9 m) (g 2).toNat = (g 2).toNat := wh_f hfn
  have hpt := pt_n (X := tx9 m) (e := (g 2).toNat) (Or.inl (by rw [by_e (by omega)]; decide))
  rw [hfe] at hf5
  rw [vb_f hfn] at hf6
  obtain ⟨k1, k2⟩ := kd_f hf4
  rw [← hf5, hpt] at k1 k2
  rw [decide_eq_false (by omega)] at k1
  simp only [cond_true, cond_false] at k1 k2
  exact ⟨rfl, trivial, trivial, fun _ => ⟨h0, k_tok, k_sc1, ⟨fun s9 k9 e9 e0 e1 e2 => by
      have e0 : g 1 = s9 := Option.some.inj (t1105.symm.trans e0)
      subst e0
      have e1 : g 6 + 0 = k9 := Option.some.inj e1
      subst e1
      have e2 : g 2 + 0 = e9 := Option.some.inj e2
      subst e2
      rw [k1, k2]
      exact ⟨by omega, by omega⟩, fun s9 k9 v9 e0 e1 e2 => by
      have e0 : g 1 = s9 := Option.some.inj (t1105.symm.trans e0)
      subst e0
      have e1 : g 6 + 0 = k9 := Option.some.inj e1
      subst e1
      have e2 : g 4 + 0 = v9 := Option.some.inj e2
      subst e2
      refine ⟨fun _ => ?_, fun z => by omega⟩
      rw [Int.add_zero]
      exact hf6, fun _ _ _ e0 e1 e2 => no9 n1110 e2, h_sw, fun _ _ _ e0 e1 e2 => no9 (o := none) rfl e2, h_swu, fun _ _ _ _ e0 e1 e2 e3 => no9 (o := none) rfl e1, fun _ _ _ _ e0 e1 e2 e3 => no9 (o := none) rfl e3⟩, k_T, k_I, k_F, k_N, k_Y, k_Z, k_A, k_B, k_C, k_X, k_R, k_f4⟩⟩
noncomputable def ru_fX1 : Ru := ([(0, (1199, (0, (0, 0)))), (0, (1105, (0, (0, 0)))), (0, (1111, (0, (0, 0)))), (0, (1115, (0, (0, 0)))), (0, (1112, (0, (0, 0)))), (5, (110, (1, (0, 0)))), (4, (0, (0, (2, 0)))), (4, (0, (0, (5, 0))))], ([1114, 1107, 1106, 1108, 1110], ([([(2, (-1)), (5, 1)], 0), ([(3, (-1))], (-10))], (false, ([], ([], ([(1107, some (7, 0)), (1106, some (2, 0)), (1111, none), (1112, none), (1115, none)], none)))))))
theorem rk_fX1 : RuOk SR ru_fX1 := by
  intro τ m g hi hc ha hS
  obtain ⟨i0, i1, i2, i3, i4, i5, i6, i7, _⟩ := hi
  have t1199 : τ 1199 = some (g 0) := i0
  have t1105 : τ 1105 = some (g 1) := i1
  have t1111 : τ 1111 = some (g 2) := i2
  have t1115 : τ 1115 = some (g 3) := i3
  have t1112 : τ 1112 = some (g 4) := i4
  have xL : g 5 = m 110 1 := i5
  have xtwo : g 6 = 2 := i6
  have xfive : g 7 = 5 := i7
  obtain ⟨c0, c1, _⟩ := hc
  have c0 : (-1) * g 2 + 1 * g 5 ≤ 0 := d2 c0
  have c1 : (-1) * g 3 ≤ (-10) := d1 c1
  obtain ⟨a0, a1, a2, a3, a4, _⟩ := ha
  have n1114 : τ 1114 = none := a0
  have n1107 : τ 1107 = none := a1
  have n1106 : τ 1106 = none := a2
  have n1108 : τ 1108 = none := a3
  have n1110 : τ 1110 = none := a4
  obtain ⟨h0, k_tok, k_sc1, k_sc2, k_T, k_I, k_F, k_N, k_Y, k_Z, k_A, k_B, k_C, k_X, k_R, k_f4⟩ := hS (by rw [t1199]; exact fun e => by cases e)
  have k_sc10 := k_sc1
  obtain ⟨h_qz, h_nz, h_s, h_ns, h_nE⟩ := k_sc10
  have k_sc20 := k_sc2
  obtain ⟨h_ske, h_skv, h_sku, h_sw, h_swm, h_swu, h_sf, h_sg⟩ := k_sc20
  obtain ⟨⟨⟨hf1, hf2⟩, hf3⟩, hf4, hf5, hf6⟩ := h_sf _ _ _ _ t1105 t1111 t1115 t1112
  have hs := h_s _ t1105
  have hfn := fi_n (X := tx9 m) (p := (g 2).toNat) (by rw [by_e (by omega)]; exact Or.inl (by decide))
  have hfe : fe9 (tx9 m) (g 2).toNat = (g 2).toNat := wh_f hfn
  have hpt := pt_n (X := tx9 m) (e := (g 2).toNat) (Or.inl (by rw [by_e (by omega)]; decide))
  rw [hfe] at hf5
  rw [vb_f hfn] at hf6
  obtain ⟨k1, k2⟩ := kd_f hf4
  rw [← hf5, hpt] at k1 k2
  rw [decide_eq_true (by omega)] at k1
  simp only [cond_true, cond_false] at k1 k2
  exact ⟨rfl, trivial, trivial, fun _ => ⟨h0, k_tok, k_sc1, ⟨fun s9 k9 e9 e0 e1 e2 => by
      have e0 : g 1 = s9 := Option.some.inj (t1105.symm.trans e0)
      subst e0
      have e1 : g 7 + 0 = k9 := Option.some.inj e1
      subst e1
      have e2 : g 2 + 0 = e9 := Option.some.inj e2
      subst e2
      rw [k1, k2]
      exact ⟨by omega, by omega⟩, fun _ _ _ e0 e1 e2 => no9 n1108 e2, fun _ _ _ e0 e1 e2 => no9 n1110 e2, h_sw, fun _ _ _ e0 e1 e2 => no9 (o := none) rfl e2, h_swu, fun _ _ _ _ e0 e1 e2 e3 => no9 (o := none) rfl e1, fun _ _ _ _ e0 e1 e2 e3 => no9 (o := none) rfl e3⟩, k_T, k_I, k_F, k_N, k_Y, k_Z, k_A, k_B, k_C, k_X, k_R, k_f4⟩⟩
noncomputable def ru_fE2 : Ru := ([(0, (1199, (0, (0, 0)))), (0, (1105, (0, (0, 0)))), (0, (1111, (0, (0, 0)))), (0, (1115, (0, (0, 0)))), (0, (1112, (0, (0, 0)))), (5, (110, (1, (0, 0)))), (4, (0, (0, (2, 0)))), (4, (0, (0, (5, 0)))), (9, (111, (2, (1, 0))))], ([1114, 1107, 1106, 1108, 1110], ([([(2, (-1))], 0), ([(2, 1), (5, (-1))], (-1)), ([(8, (-1))], (-58)), ([(3, 1)], 9)], (false, ([], ([], ([(1107, some (6, 0)), (1106, some (2, 0)), (1108, some (4, 0)), (1111, none), (1112, none), (1115, none)], none)))))))
theorem rk_fE2 : RuOk SR ru_fE2 := by
  intro τ m g hi hc ha hS
  obtain ⟨i0, i1, i2, i3, i4, i5, i6, i7, i8, _⟩ := hi
  have t1199 : τ 1199 = some (g 0) := i0
  have t1105 : τ 1105 = some (g 1) := i1
  have t1111 : τ 1111 = some (g 2) := i2
  have t1115 : τ 1115 = some (g 3) := i3
  have t1112 : τ 1112 = some (g 4) := i4
  have xL : g 5 = m 110 1 := i5
  have xtwo : g 6 = 2 := i6
  have xfive : g 7 = 5 := i7
  obtain ⟨jb, ub, vb⟩ : ∃ j : Nat, 1 * g 2 + 0 = (j : Int) ∧ g 8 = m 111 j := i8
  obtain ⟨c0, c1, c2, c3, _⟩ := hc
  have c0 : (-1) * g 2 ≤ 0 := d1 c0
  have c1 : 1 * g 2 + (-1) * g 5 ≤ (-1) := d2 c1
  have c2 : (-1) * g 8 ≤ (-58) := d1 c2
  have c3 : 1 * g 3 ≤ 9 := d1 c3
  obtain ⟨a0, a1, a2, a3, a4, _⟩ := ha
  have n1114 : τ 1114 = none := a0
  have n1107 : τ 1107 = none := a1
  have n1106 : τ 1106 = none := a2
  have n1108 : τ 1108 = none := a3
  have n1110 : τ 1110 = none := a4
  obtain ⟨h0, k_tok, k_sc1, k_sc2, k_T, k_I, k_F, k_N, k_Y, k_Z, k_A, k_B, k_C, k_X, k_R, k_f4⟩ := hS (by rw [t1199]; exact fun e => by cases e)
  have k_sc10 := k_sc1
  obtain ⟨h_qz, h_nz, h_s, h_ns, h_nE⟩ := k_sc10
  have k_sc20 := k_sc2
  obtain ⟨h_ske, h_skv, h_sku, h_sw, h_swm, h_swu, h_sf, h_sg⟩ := k_sc20
  obtain ⟨⟨⟨hf1, hf2⟩, hf3⟩, hf4, hf5, hf6⟩ := h_sf _ _ _ _ t1105 t1111 t1115 t1112
  have hs := h_s _ t1105
  have hfn := fi_n (X := tx9 m) (p := (g 2).toNat) (by rw [by_m (by omega), show (g 2).toNat = jb by omega]; omega)
  have hfe : fe9 (tx9 m) (g 2).toNat = (g 2).toNat := wh_f hfn
  have hpt := pt_n (X := tx9 m) (e := (g 2).toNat) (Or.inl (by rw [by_m (by omega), show (g 2).toNat = jb by omega]; omega))
  rw [hfe] at hf5
  rw [vb_f hfn] at hf6
  obtain ⟨k1, k2⟩ := kd_f hf4
  rw [← hf5, hpt] at k1 k2
  rw [decide_eq_false (by omega)] at k1
  simp only [cond_true, cond_false] at k1 k2
  exact ⟨rfl, trivial, trivial, fun _ => ⟨h0, k_tok, k_sc1, ⟨fun s9 k9 e9 e0 e1 e2 => by
      have e0 : g 1 = s9 := Option.some.inj (t1105.symm.trans e0)
      subst e0
      have e1 : g 6 + 0 = k9 := Option.some.inj e1
      subst e1
      have e2 : g 2 + 0 = e9 := Option.some.inj e2
      subst e2
      rw [k1, k2]
      exact ⟨by omega, by omega⟩, fun s9 k9 v9 e0 e1 e2 => by
      have e0 : g 1 = s9 := Option.some.inj (t1105.symm.trans e0)
      subst e0
      have e1 : g 6 + 0 = k9 := Option.some.inj e1
      subst e1
      have e2 : g 4 + 0 = v9 := Option.some.inj e2
      subst e2
      refine ⟨fun _ => ?_, fun z => by omega⟩
      rw [Int.add_zero]
      exact hf6, fun _ _ _ e0 e1 e2 => no9 n1110 e2, h_sw, fun _ _ _ e0 e1 e2 => no9 (o := none) rfl e2, h_swu, fun _ _ _ _ e0 e1 e2 e3 => no9 (o := none) rfl e1, fun _ _ _ _ e0 e1 e2 e3 => no9 (o := none) rfl e3⟩, k_T, k_I, k_F, k_N, k_Y, k_Z, k_A, k_B, k_C, k_X, k_R, k_f4⟩⟩
noncomputable def ru_fX2 : Ru := ([(0, (1199, (0, (0, 0)))), (0, (1105, (0, (0, 0)))), (0, (1111, (0, (0, 0)))), (0, (1115, (0, (0, 0)))), (0, (1112, (0, (0, 0)))), (5, (110, (1, (0, 0)))), (4, (0, (0, (2, 0)))), (4, (0, (0, (5, 0)))), (9, (111, (2, (1, 0))))], ([1114, 1107, 1106, 1108, 1110], ([([(2, (-1))], 0), ([(2, 1), (5, (-1))], (-1)), ([(8, (-1))], (-58)), ([(3, (-1))], (-10))], (false, ([], ([], ([(1107, some (7, 0)), (1106, some (2, 0)), (1111, none), (1112, none), (1115, none)], none)))))))
theorem rk_fX2 : RuOk SR ru_fX2 := by
  intro τ m g hi hc ha hS
  obtain ⟨i0, i1, i2, i3, i4, i5, i6, i7, i8, _⟩ := hi
  have t1199 : τ 1199 = some (g 0) := i0
  have t1105 : τ 1105 = some (g 1) := i1
  have t1111 : τ 1111 = some (g 2) := i2
  have t1115 : τ 1115 = some (g 3) := i3
  have t1112 : τ 1112 = some (g 4) := i4
  have xL : g 5 = m 110 1 := i5
  have xtwo : g 6 = 2 := i6
  have xfive : g 7 = 5 := i7
  obtain ⟨jb, ub, vb⟩ : ∃ j : Nat, 1 * g 2 + 0 = (j : Int) ∧ g 8 = m 111 j := i8
  obtain ⟨c0, c1, c2, c3, _⟩ := hc
  have c0 : (-1) * g 2 ≤ 0 := d1 c0
  have c1 : 1 * g 2 + (-1) * g 5 ≤ (-1) := d2 c1
  have c2 : (-1) * g 8 ≤ (-58) := d1 c2
  have c3 : (-1) * g 3 ≤ (-10) := d1 c3
  obtain ⟨a0, a1, a2, a3, a4, _⟩ := ha
  have n1114 : τ 1114 = none := a0
  have n1107 : τ 1107 = none := a1
  have n1106 : τ 1106 = none := a2
  have n1108 : τ 1108 = none := a3
  have n1110 : τ 1110 = none := a4
  obtain ⟨h0, k_tok, k_sc1, k_sc2, k_T, k_I, k_F, k_N, k_Y, k_Z, k_A, k_B, k_C, k_X, k_R, k_f4⟩ := hS (by rw [t1199]; exact fun e => by cases e)
  have k_sc10 := k_sc1
  obtain ⟨h_qz, h_nz, h_s, h_ns, h_nE⟩ := k_sc10
  have k_sc20 := k_sc2
  obtain ⟨h_ske, h_skv, h_sku, h_sw, h_swm, h_swu, h_sf, h_sg⟩ := k_sc20
  obtain ⟨⟨⟨hf1, hf2⟩, hf3⟩, hf4, hf5, hf6⟩ := h_sf _ _ _ _ t1105 t1111 t1115 t1112
  have hs := h_s _ t1105
  have hfn := fi_n (X := tx9 m) (p := (g 2).toNat) (by rw [by_m (by omega), show (g 2).toNat = jb by omega]; omega)
  have hfe : fe9 (tx9 m) (g 2).toNat = (g 2).toNat := wh_f hfn
  have hpt := pt_n (X := tx9 m) (e := (g 2).toNat) (Or.inl (by rw [by_m (by omega), show (g 2).toNat = jb by omega]; omega))
  rw [hfe] at hf5
  rw [vb_f hfn] at hf6
  obtain ⟨k1, k2⟩ := kd_f hf4
  rw [← hf5, hpt] at k1 k2
  rw [decide_eq_true (by omega)] at k1
  simp only [cond_true, cond_false] at k1 k2
  exact ⟨rfl, trivial, trivial, fun _ => ⟨h0, k_tok, k_sc1, ⟨fun s9 k9 e9 e0 e1 e2 => by
      have e0 : g 1 = s9 := Option.some.inj (t1105.symm.trans e0)
      subst e0
      have e1 : g 7 + 0 = k9 := Option.some.inj e1
      subst e1
      have e2 : g 2 + 0 = e9 := Option.some.inj e2
      subst e2
      rw [k1, k2]
      exact ⟨by omega, by omega⟩, fun _ _ _ e0 e1 e2 => no9 n1108 e2, fun _ _ _ e0 e1 e2 => no9 n1110 e2, h_sw, fun _ _ _ e0 e1 e2 => no9 (o := none) rfl e2, h_swu, fun _ _ _ _ e0 e1 e2 e3 => no9 (o := none) rfl e1, fun _ _ _ _ e0 e1 e2 e3 => no9 (o := none) rfl e3⟩, k_T, k_I, k_F, k_N, k_Y, k_Z, k_A, k_B, k_C, k_X, k_R, k_f4⟩⟩
noncomputable def ru_fE3 : Ru := ([(0, (1199, (0, (0, 0)))), (0, (1105, (0, (0, 0)))), (0, (1111, (0, (0, 0)))), (0, (1115, (0, (0, 0)))), (0, (1112, (0, (0, 0)))), (5, (110, (1, (0, 0)))), (4, (0, (0, (2, 0)))), (4, (0, (0, (5, 0)))), (9, (111, (2, (1, 0))))], ([1114, 1107, 1106, 1108, 1110], ([([(2, (-1))], 0), ([(2, 1), (5, (-1))], (-1)), ([(8, 1)], 45), ([(3, 1)], 9)], (false, ([], ([], ([(1107, some (6, 0)), (1106, some (2, 0)), (1108, some (4, 0)), (1111, none), (1112, none), (1115, none)], none)))))))
theorem rk_fE3 : RuOk SR ru_fE3 := by
  intro τ m g hi hc ha hS
  obtain ⟨i0, i1, i2, i3, i4, i5, i6, i7, i8, _⟩ := hi
  have t1199 : τ 1199 = some (g 0) := i0
  have t1105 : τ 1105 = some (g 1) := i1
  have t1111 : τ 1111 = some (g 2) := i2
  have t1115 : τ 1115 = some (g 3) := i3
  have t1112 : τ 1112 = some (g 4) := i4
  have xL : g 5 = m 110 1 := i5
  have xtwo : g 6 = 2 := i6
  have xfive : g 7 = 5 := i7
  obtain ⟨jb, ub, vb⟩ : ∃ j : Nat, 1 * g 2 + 0 = (j : Int) ∧ g 8 = m 111 j := i8
  obtain ⟨c0, c1, c2, c3, _⟩ := hc
  have c0 : (-1) * g 2 ≤ 0 := d1 c0
  have c1 : 1 * g 2 + (-1) * g 5 ≤ (-1) := d2 c1
  have c2 : 1 * g 8 ≤ 45 := d1 c2
  have c3 : 1 * g 3 ≤ 9 := d1 c3
  obtain ⟨a0, a1, a2, a3, a4, _⟩ := ha
  have n1114 : τ 1114 = none := a0
  have n1107 : τ 1107 = none := a1
  have n1106 : τ 1106 = none := a2
  have n1108 : τ 1108 = none := a3
  have n1110 : τ 1110 = none := a4
  obtain ⟨h0, k_tok, k_sc1, k_sc2, k_T, k_I, k_F, k_N, k_Y, k_Z, k_A, k_B, k_C, k_X, k_R, k_f4⟩ := hS (by rw [t1199]; exact fun e => by cases e)
  have k_sc10 := k_sc1
  obtain ⟨h_qz, h_nz, h_s, h_ns, h_nE⟩ := k_sc10
  have k_sc20 := k_sc2
  obtain ⟨h_ske, h_skv, h_sku, h_sw, h_swm, h_swu, h_sf, h_sg⟩ := k_sc20
  obtain ⟨⟨⟨hf1, hf2⟩, hf3⟩, hf4, hf5, hf6⟩ := h_sf _ _ _ _ t1105 t1111 t1115 t1112
  have hs := h_s _ t1105
  have hfn := fi_n (X := tx9 m) (p := (g 2).toNat) (by rw [by_m (by omega), show (g 2).toNat = jb by omega]; omega)
  have hfe : fe9 (tx9 m) (g 2).toNat = (g 2).toNat := wh_f hfn
  have hpt := pt_n (X := tx9 m) (e := (g 2).toNat) (Or.inl (by rw [by_m (by omega), show (g 2).toNat = jb by omega]; omega))
  rw [hfe] at hf5
  rw [vb_f hfn] at hf6
  obtain ⟨k1, k2⟩ := kd_f hf4
  rw [← hf5, hpt] at k1 k2
  rw [decide_eq_false (by omega)] at k1
  simp only [cond_true, cond_false] at k1 k2
  exact ⟨rfl, trivial, trivial, fun _ => ⟨h0, k_tok, k_sc1, ⟨fun s9 k9 e9 e0 e1 e2 => by
      have e0 : g 1 = s9 := Option.some.inj (t1105.symm.trans e0)
      subst e0
      have e1 : g 6 + 0 = k9 := Option.some.inj e1
      subst e1
      have e2 : g 2 + 0 = e9 := Option.some.inj e2
      subst e2
      rw [k1, k2]
      exact ⟨by omega, by omega⟩, fun s9 k9 v9 e0 e1 e2 => by
      have e0 : g 1 = s9 := Option.some.inj (t1105.symm.trans e0)
      subst e0
      have e1 : g 6 + 0 = k9 := Option.some.inj e1
      subst e1
      have e2 : g 4 + 0 = v9 := Option.some.inj e2
      subst e2
      refine ⟨fun _ => ?_, fun z => by omega⟩
      rw [Int.add_zero]
      exact hf6, fun _ _ _ e0 e1 e2 => no9 n1110 e2, h_sw, fun _ _ _ e0 e1 e2 => no9 (o := none) rfl e2, h_swu, fun _ _ _ _ e0 e1 e2 e3 => no9 (o := none) rfl e1, fun _ _ _ _ e0 e1 e2 e3 => no9 (o := none) rfl e3⟩, k_T, k_I, k_F, k_N, k_Y, k_Z, k_A, k_B, k_C, k_X, k_R, k_f4⟩⟩
noncomputable def ru_fX3 : Ru := ([(0, (1199, (0, (0, 0)))), (0, (1105, (0, (0, 0)))), (0, (1111, (0, (0, 0)))), (0, (1115, (0, (0, 0)))), (0, (1112, (0, (0, 0)))), (5, (110, (1, (0, 0)))), (4, (0, (0, (2, 0)))), (4, (0, (0, (5, 0)))), (9, (111, (2, (1, 0))))], ([1114, 1107, 1106, 1108, 1110], ([([(2, (-1))], 0), ([(2, 1), (5, (-1))], (-1)), ([(8, 1)], 45), ([(3, (-1))], (-10))], (false, ([], ([], ([(1107, some (7, 0)), (1106, some (2, 0)), (1111, none), (1112, none), (1115, none)], none)))))))
theorem rk_fX3 : RuOk SR ru_fX3 := by
  intro τ m g hi hc ha hS
  obtain ⟨i0, i1, i2, i3, i4, i5, i6, i7, i8, _⟩ := hi
  have t1199 : τ 1199 = some (g 0) := i0
  have t1105 : τ 1105 = some (g 1) := i1
  have t1111 : τ 1111 = some (g 2) := i2
  have t1115 : τ 1115 = some (g 3) := i3
  have t1112 : τ 1112 = some (g 4) := i4
  have xL : g 5 = m 110 1 := i5
  have xtwo : g 6 = 2 := i6
  have xfive : g 7 = 5 := i7
  obtain ⟨jb, ub, vb⟩ : ∃ j : Nat, 1 * g 2 + 0 = (j : Int) ∧ g 8 = m 111 j := i8
  obtain ⟨c0, c1, c2, c3, _⟩ := hc
  have c0 : (-1) * g 2 ≤ 0 := d1 c0
  have c1 : 1 * g 2 + (-1) * g 5 ≤ (-1) := d2 c1
  have c2 : 1 * g 8 ≤ 45 := d1 c2
  have c3 : (-1) * g 3 ≤ (-10) := d1 c3
  obtain ⟨a0, a1, a2, a3, a4, _⟩ := ha
  have n1114 : τ 1114 = none := a0
  have n1107 : τ 1107 = none := a1
  have n1106 : τ 1106 = none := a2
  have n1108 : τ 1108 = none := a3
  have n1110 : τ 1110 = none := a4
  obtain ⟨h0, k_tok, k_sc1, k_sc2, k_T, k_I, k_F, k_N, k_Y, k_Z, k_A, k_B, k_C, k_X, k_R, k_f4⟩ := hS (by rw [t1199]; exact fun e => by cases e)
  have k_sc10 := k_sc1
  obtain ⟨h_qz, h_nz, h_s, h_ns, h_nE⟩ := k_sc10
  have k_sc20 := k_sc2
  obtain ⟨h_ske, h_skv, h_sku, h_sw, h_swm, h_swu, h_sf, h_sg⟩ := k_sc20
  obtain ⟨⟨⟨hf1, hf2⟩, hf3⟩, hf4, hf5, hf6⟩ := h_sf _ _ _ _ t1105 t1111 t1115 t1112
  have hs := h_s _ t1105
  have hfn := fi_n (X := tx9 m) (p := (g 2).toNat) (by rw [by_m (by omega), show (g 2).toNat = jb by omega]; omega)
  have hfe : fe9 (tx9 m) (g 2).toNat = (g 2).toNat := wh_f hfn
  have hpt := pt_n (X := tx9 m) (e := (g 2).toNat) (Or.inl (by rw [by_m (by omega), show (g 2).toNat = jb by omega]; omega))
  rw [hfe] at hf5
  rw [vb_f hfn] at hf6
  obtain ⟨k1, k2⟩ := kd_f hf4
  rw [← hf5, hpt] at k1 k2
  rw [decide_eq_true (by omega)] at k1
  simp only [cond_true, cond_false] at k1 k2
  exact ⟨rfl, trivial, trivial, fun _ => ⟨h0, k_tok, k_sc1, ⟨fun s9 k9 e9 e0 e1 e2 => by
      have e0 : g 1 = s9 := Option.some.inj (t1105.symm.trans e0)
      subst e0
      have e1 : g 7 + 0 = k9 := Option.some.inj e1
      subst e1
      have e2 : g 2 + 0 = e9 := Option.some.inj e2
      subst e2
      rw [k1, k2]
      exact ⟨by omega, by omega⟩, fun _ _ _ e0 e1 e2 => no9 n1108 e2, fun _ _ _ e0 e1 e2 => no9 n1110 e2, h_sw, fun _ _ _ e0 e1 e2 => no9 (o := none) rfl e2, h_swu, fun _ _ _ _ e0 e1 e2 e3 => no9 (o := none) rfl e1, fun _ _ _ _ e0 e1 e2 e3 => no9 (o := none) rfl e3⟩, k_T, k_I, k_F, k_N, k_Y, k_Z, k_A, k_B, k_C, k_X, k_R, k_f4⟩⟩
noncomputable def ru_fE4 : Ru := ([(0, (1199, (0, (0, 0)))), (0, (1105, (0, (0, 0)))), (0, (1111, (0, (0, 0)))), (0, (1115, (0, (0, 0)))), (0, (1112, (0, (0, 0)))), (5, (110, (1, (0, 0)))), (4, (0, (0, (2, 0)))), (4, (0, (0, (5, 0)))), (9, (111, (2, (1, 0))))], ([1114, 1107, 1106, 1108, 1110], ([([(2, (-1))], 0), ([(2, 1), (5, (-1))], (-1)), ([(8, 1)], 47), ([(8, (-1))], (-47)), ([(3, 1)], 9)], (false, ([], ([], ([(1107, some (6, 0)), (1106, some (2, 0)), (1108, some (4, 0)), (1111, none), (1112, none), (1115, none)], none)))))))
theorem rk_fE4 : RuOk SR ru_fE4 := by
  intro τ m g hi hc ha hS
  obtain ⟨i0, i1, i2, i3, i4, i5, i6, i7, i8, _⟩ := hi
  have t1199 : τ 1199 = some (g 0) := i0
  have t1105 : τ 1105 = some (g 1) := i1
  have t1111 : τ 1111 = some (g 2) := i2
  have t1115 : τ 1115 = some (g 3) := i3
  have t1112 : τ 1112 = some (g 4) := i4
  have xL : g 5 = m 110 1 := i5
  have xtwo : g 6 = 2 := i6
  have xfive : g 7 = 5 := i7
  obtain ⟨jb, ub, vb⟩ : ∃ j : Nat, 1 * g 2 + 0 = (j : Int) ∧ g 8 = m 111 j := i8
  obtain ⟨c0, c1, c2, c3, c4, _⟩ := hc
  have c0 : (-1) * g 2 ≤ 0 := d1 c0
  have c1 : 1 * g 2 + (-1) * g 5 ≤ (-1) := d2 c1
  have c2 : 1 * g 8 ≤ 47 := d1 c2
  have c3 : (-1) * g 8 ≤ (-47) := d1 c3
  have c4 : 1 * g 3 ≤ 9 := d1 c4
  obtain ⟨a0, a1, a2, a3, a4, _⟩ := ha
  have n1114 : τ 1114 = none := a0
  have n1107 : τ 1107 = none := a1
  have n1106 : τ 1106 = none := a2
  have n1108 : τ 1108 = none := a3
  have n1110 : τ 1110 = none := a4
  obtain ⟨h0, k_tok, k_sc1, k_sc2, k_T, k_I, k_F, k_N, k_Y, k_Z, k_A, k_B, k_C, k_X, k_R, k_f4⟩ := hS (by rw [t1199]; exact fun e => by cases e)
  have k_sc10 := k_sc1
  obtain ⟨h_qz, h_nz, h_s, h_ns, h_nE⟩ := k_sc10
  have k_sc20 := k_sc2
  obtain ⟨h_ske, h_skv, h_sku, h_sw, h_swm, h_swu, h_sf, h_sg⟩ := k_sc20
  obtain ⟨⟨⟨hf1, hf2⟩, hf3⟩, hf4, hf5, hf6⟩ := h_sf _ _ _ _ t1105 t1111 t1115 t1112
  have hs := h_s _ t1105
  have hfn := fi_n (X := tx9 m) (p := (g 2).toNat) (by rw [by_m (by omega), show (g 2).toNat = jb by omega]; omega)
  have hfe : fe9 (tx9 m) (g 2).toNat = (g 2).toNat := wh_f hfn
  have hpt := pt_n (X := tx9 m) (e := (g 2).toNat) (Or.inl (by rw [by_m (by omega), show (g 2).toNat = jb by omega]; omega))
  rw [hfe] at hf5
  rw [vb_f hfn] at hf6
  obtain ⟨k1, k2⟩ := kd_f hf4
  rw [← hf5, hpt] at k1 k2
  rw [decide_eq_false (by omega)] at k1
  simp only [cond_true, cond_false] at k1 k2
  exact ⟨rfl, trivial, trivial, fun _ => ⟨h0, k_tok, k_sc1, ⟨fun s9 k9 e9 e0 e1 e2 => by
      have e0 : g 1 = s9 := Option.some.inj (t1105.symm.trans e0)
      subst e0
      have e1 : g 6 + 0 = k9 := Option.some.inj e1
      subst e1
      have e2 : g 2 + 0 = e9 := Option.some.inj e2
      subst e2
      rw [k1, k2]
      exact ⟨by omega, by omega⟩, fun s9 k9 v9 e0 e1 e2 => by
      have e0 : g 1 = s9 := Option.some.inj (t1105.symm.trans e0)
      subst e0
      have e1 : g 6 + 0 = k9 := Option.some.inj e1
      subst e1
      have e2 : g 4 + 0 = v9 := Option.some.inj e2
      subst e2
      refine ⟨fun _ => ?_, fun z => by omega⟩
      rw [Int.add_zero]
      exact hf6, fun _ _ _ e0 e1 e2 => no9 n1110 e2, h_sw, fun _ _ _ e0 e1 e2 => no9 (o := none) rfl e2, h_swu, fun _ _ _ _ e0 e1 e2 e3 => no9 (o := none) rfl e1, fun _ _ _ _ e0 e1 e2 e3 => no9 (o := none) rfl e3⟩, k_T, k_I, k_F, k_N, k_Y, k_Z, k_A, k_B, k_C, k_X, k_R, k_f4⟩⟩
noncomputable def ru_fX4 : Ru := ([(0, (1199, (0, (0, 0)))), (0, (1105, (0, (0, 0)))), (0, (1111, (0, (0, 0)))), (0, (1115, (0, (0, 0)))), (0, (1112, (0, (0, 0)))), (5, (110, (1, (0, 0)))), (4, (0, (0, (2, 0)))), (4, (0, (0, (5, 0)))), (9, (111, (2, (1, 0))))], ([1114, 1107, 1106, 1108, 1110], ([([(2, (-1))], 0), ([(2, 1), (5, (-1))], (-1)), ([(8, 1)], 47), ([(8, (-1))], (-47)), ([(3, (-1))], (-10))], (false, ([], ([], ([(1107, some (7, 0)), (1106, some (2, 0)), (1111, none), (1112, none), (1115, none)], none)))))))
theorem rk_fX4 : RuOk SR ru_fX4 := by
  intro τ m g hi hc ha hS
  obtain ⟨i0, i1, i2, i3, i4, i5, i6, i7, i8, _⟩ := hi
  have t1199 : τ 1199 = some (g 0) := i0
  have t1105 : τ 1105 = some (g 1) := i1
  have t1111 : τ 1111 = some (g 2) := i2
  have t1115 : τ 1115 = some (g 3) := i3
  have t1112 : τ 1112 = some (g 4) := i4
  have xL : g 5 = m 110 1 := i5
  have xtwo : g 6 = 2 := i6
  have xfive : g 7 = 5 := i7
  obtain ⟨jb, ub, vb⟩ : ∃ j : Nat, 1 * g 2 + 0 = (j : Int) ∧ g 8 = m 111 j := i8
  obtain ⟨c0, c1, c2, c3, c4, _⟩ := hc
  have c0 : (-1) * g 2 ≤ 0 := d1 c0
  have c1 : 1 * g 2 + (-1) * g 5 ≤ (-1) := d2 c1
  have c2 : 1 * g 8 ≤ 47 := d1 c2
  have c3 : (-1) * g 8 ≤ (-47) := d1 c3
  have c4 : (-1) * g 3 ≤ (-10) := d1 c4
  obtain ⟨a0, a1, a2, a3, a4, _⟩ := ha
  have n1114 : τ 1114 = none := a0
  have n1107 : τ 1107 = none := a1
  have n1106 : τ 1106 = none := a2
  have n1108 : τ 1108 = none := a3
  have n1110 : τ 1110 = none := a4
  obtain ⟨h0, k_tok, k_sc1, k_sc2, k_T, k_I, k_F, k_N, k_Y, k_Z, k_A, k_B, k_C, k_X, k_R, k_f4⟩ := hS (by rw [t1199]; exact fun e => by cases e)
  have k_sc10 := k_sc1
  obtain ⟨h_qz, h_nz, h_s, h_ns, h_nE⟩ := k_sc10
  have k_sc20 := k_sc2
  obtain ⟨h_ske, h_skv, h_sku, h_sw, h_swm, h_swu, h_sf, h_sg⟩ := k_sc20
  obtain ⟨⟨⟨hf1, hf2⟩, hf3⟩, hf4, hf5, hf6⟩ := h_sf _ _ _ _ t1105 t1111 t1115 t1112
  have hs := h_s _ t1105
  have hfn := fi_n (X := tx9 m) (p := (g 2).toNat) (by rw [by_m (by omega), show (g 2).toNat = jb by omega]; omega)
  have hfe : fe9 (tx9 m) (g 2).toNat = (g 2).toNat := wh_f hfn
  have hpt := pt_n (X := tx9 m) (e := (g 2).toNat) (Or.inl (by rw [by_m (by omega), show (g 2).toNat = jb by omega]; omega))
  rw [hfe] at hf5
  rw [vb_f hfn] at hf6
  obtain ⟨k1, k2⟩ := kd_f hf4
  rw [← hf5, hpt] at k1 k2
  rw [decide_eq_true (by omega)] at k1
  simp only [cond_true, cond_false] at k1 k2
  exact ⟨rfl, trivial, trivial, fun _ => ⟨h0, k_tok, k_sc1, ⟨fun s9 k9 e9 e0 e1 e2 => by
      have e0 : g 1 = s9 := Option.some.inj (t1105.symm.trans e0)
      subst e0
      have e1 : g 7 + 0 = k9 := Option.some.inj e1
      subst e1
      have e2 : g 2 + 0 = e9 := Option.some.inj e2
      subst e2
      rw [k1, k2]
      exact ⟨by omega, by omega⟩, fun _ _ _ e0 e1 e2 => no9 n1108 e2, fun _ _ _ e0 e1 e2 => no9 n1110 e2, h_sw, fun _ _ _ e0 e1 e2 => no9 (o := none) rfl e2, h_swu, fun _ _ _ _ e0 e1 e2 e3 => no9 (o := none) rfl e1, fun _ _ _ _ e0 e1 e2 e3 => no9 (o := none) rfl e3⟩, k_T, k_I, k_F, k_N, k_Y, k_Z, k_A, k_B, k_C, k_X, k_R, k_f4⟩⟩
noncomputable def ru_fE5 : Ru := ([(0, (1199, (0, (0, 0)))), (0, (1105, (0, (0, 0)))), (0, (1111, (0, (0, 0)))), (0, (1115, (0, (0, 0)))), (0, (1112, (0, (0, 0)))), (5, (110, (1, (0, 0)))), (4, (0, (0, (2, 0)))), (4, (0, (0, (5, 0)))), (9, (111, (2, (1, 0)))), (9, (111, (2, (1, 1))))], ([1114, 1107, 1106, 1108, 1110], ([([(2, (-1))], 0), ([(2, 1), (5, (-1))], (-1)), ([(8, 1)], 46), ([(8, (-1))], (-46)), ([(2, 1), (5, (-1))], (-2)), ([(9, 1)], 47), ([(3, 1)], 9)], (false, ([], ([], ([(1107, some (6, 0)), (1106, some (2, 0)), (1108, some (4, 0)), (1111, none), (1112, none), (1115, none)], none)))))))
theorem rk_fE5 : RuOk SR ru_fE5 := by
  intro τ m g hi hc ha hS
  obtain ⟨i0, i1, i2, i3, i4, i5, i6, i7, i8, i9, _⟩ := hi
  have t1199 : τ 1199 = some (g 0) := i0
  have t1105 : τ 1105 = some (g 1) := i1
  have t1111 : τ 1111 = some (g 2) := i2
  have t1115 : τ 1115 = some (g 3) := i3
  have t1112 : τ 1112 = some (g 4) := i4
  have xL : g 5 = m 110 1 := i5
  have xtwo : g 6 = 2 := i6
  have xfive : g 7 = 5 := i7
  obtain ⟨jb, ub, vb⟩ : ∃ j : Nat, 1 * g 2 + 0 = (j : Int) ∧ g 8 = m 111 j := i8
  obtain ⟨jd, ud, vd⟩ : ∃ j : Nat, 1 * g 2 + 1 = (j : Int) ∧ g 9 = m 111 j := i9
  obtain ⟨c0, c1, c2, c3, c4, c5, c6, _⟩ := hc
  have c0 : (-1) * g 2 ≤ 0 := d1 c0
  have c1 : 1 * g 2 + (-1) * g 5 ≤ (-1) := d2 c1
  have c2 : 1 * g 8 ≤ 46 := d1 c2
  have c3 : (-1) * g 8 ≤ (-46) := d1 c3
  have c4 : 1 * g 2 + (-1) * g 5 ≤ (-2) := d2 c4
  have c5 : 1 * g 9 ≤ 47 := d1 c5
  have c6 : 1 * g 3 ≤ 9 := d1 c6
  obtain ⟨a0, a1, a2, a3, a4, _⟩ := ha
  have n1114 : τ 1114 = none := a0
  have n1107 : τ 1107 = none := a1
  have n1106 : τ 1106 = none := a2
  have n1108 : τ 1108 = none := a3
  have n1110 : τ 1110 = none := a4
  obtain ⟨h0, k_tok, k_sc1, k_sc2, k_T, k_I, k_F, k_N, k_Y, k_Z, k_A, k_B, k_C, k_X, k_R, k_f4⟩ := hS (by rw [t1199]; exact fun e => by cases e)
  have k_sc10 := k_sc1
  obtain ⟨h_qz, h_nz, h_s, h_ns, h_nE⟩ := k_sc10
  have k_sc20 := k_sc2
  obtain ⟨h_ske, h_skv, h_sku, h_sw, h_swm, h_swu, h_sf, h_sg⟩ := k_sc20
  obtain ⟨⟨⟨hf1, hf2⟩, hf3⟩, hf4, hf5, hf6⟩ := h_sf _ _ _ _ t1105 t1111 t1115 t1112
  have hs := h_s _ t1105
  have hfn := fi_n (X := tx9 m) (p := (g 2).toNat) (by rw [by_m (by omega), show (g 2).toNat = jb by omega]; omega)
  have hfe : fe9 (tx9 m) (g 2).toNat = (g 2).toNat := wh_f hfn
  have hpt := pt_n (X := tx9 m) (e := (g 2).toNat) (Or.inr (fi_n (by rw [by_m (by omega), show (g 2).toNat + 1 = jd by omega]; omega)))
  rw [hfe] at hf5
  rw [vb_f hfn] at hf6
  obtain ⟨k1, k2⟩ := kd_f hf4
  rw [← hf5, hpt] at k1 k2
  rw [decide_eq_false (by omega)] at k1
  simp only [cond_true, cond_false] at k1 k2
  exact ⟨rfl, trivial, trivial, fun _ => ⟨h0, k_tok, k_sc1, ⟨fun s9 k9 e9 e0 e1 e2 => by
      have e0 : g 1 = s9 := Option.some.inj (t1105.symm.trans e0)
      subst e0
      have e1 : g 6 + 0 = k9 := Option.some.inj e1
      subst e1
      have e2 : g 2 + 0 = e9 := Option.some.inj e2
      subst e2
      rw [k1, k2]
      exact ⟨by omega, by omega⟩, fun s9 k9 v9 e0 e1 e2 => by
      have e0 : g 1 = s9 := Option.some.inj (t1105.symm.trans e0)
      subst e0
      have e1 : g 6 + 0 = k9 := Option.some.inj e1
      subst e1
      have e2 : g 4 + 0 = v9 := Option.some.inj e2
      subst e2
      refine ⟨fun _ => ?_, fun z => by omega⟩
      rw [Int.add_zero]
      exact hf6, fun _ _ _ e0 e1 e2 => no9 n1110 e2, h_sw, fun _ _ _ e0 e1 e2 => no9 (o := none) rfl e2, h_swu, fun _ _ _ _ e0 e1 e2 e3 => no9 (o := none) rfl e1, fun _ _ _ _ e0 e1 e2 e3 => no9 (o := none) rfl e3⟩, k_T, k_I, k_F, k_N, k_Y, k_Z, k_A, k_B, k_C, k_X, k_R, k_f4⟩⟩
noncomputable def ru_fX5 : Ru := ([(0, (1199, (0, (0, 0)))), (0, (1105, (0, (0, 0)))), (0, (1111, (0, (0, 0)))), (0, (1115, (0, (0, 0)))), (0, (1112, (0, (0, 0)))), (5, (110, (1, (0, 0)))), (4, (0, (0, (2, 0)))), (4, (0, (0, (5, 0)))), (9, (111, (2, (1, 0)))), (9, (111, (2, (1, 1))))], ([1114, 1107, 1106, 1108, 1110], ([([(2, (-1))], 0), ([(2, 1), (5, (-1))], (-1)), ([(8, 1)], 46), ([(8, (-1))], (-46)), ([(2, 1), (5, (-1))], (-2)), ([(9, 1)], 47), ([(3, (-1))], (-10))], (false, ([], ([], ([(1107, some (7, 0)), (1106, some (2, 0)), (1111, none), (1112, none), (1115, none)], none)))))))
theorem rk_fX5 : RuOk SR ru_fX5 := by
  intro τ m g hi hc ha hS
  obtain ⟨i0, i1, i2, i3, i4, i5, i6, i7, i8, i9, _⟩ := hi
  have t1199 : τ 1199 = some (g 0) := i0
  have t1105 : τ 1105 = some (g 1) := i1
  have t1111 : τ 1111 = some (g 2) := i2
  have t1115 : τ 1115 = some (g 3) := i3
  have t1112 : τ 1112 = some (g 4) := i4
  have xL : g 5 = m 110 1 := i5
  have xtwo : g 6 = 2 := i6
  have xfive : g 7 = 5 := i7
  obtain ⟨jb, ub, vb⟩ : ∃ j : Nat, 1 * g 2 + 0 = (j : Int) ∧ g 8 = m 111 j := i8
  obtain ⟨jd, ud, vd⟩ : ∃ j : Nat, 1 * g 2 + 1 = (j : Int) ∧ g 9 = m 111 j := i9
  obtain ⟨c0, c1, c2, c3, c4, c5, c6, _⟩ := hc
  have c0 : (-1) * g 2 ≤ 0 := d1 c0
  have c1 : 1 * g 2 + (-1) * g 5 ≤ (-1) := d2 c1
  have c2 : 1 * g 8 ≤ 46 := d1 c2
  have c3 : (-1) * g 8 ≤ (-46) := d1 c3
  have c4 : 1 * g 2 + (-1) * g 5 ≤ (-2) := d2 c4
  have c5 : 1 * g 9 ≤ 47 := d1 c5
  have c6 : (-1) * g 3 ≤ (-10) := d1 c6
  obtain ⟨a0, a1, a2, a3, a4, _⟩ := ha
  have n1114 : τ 1114 = none := a0
  have n1107 : τ 1107 = none := a1
  have n1106 : τ 1106 = none := a2
  have n1108 : τ 1108 = none := a3
  have n1110 : τ 1110 = none := a4
  obtain ⟨h0, k_tok, k_sc1, k_sc2, k_T, k_I, k_F, k_N, k_Y, k_Z, k_A, k_B, k_C, k_X, k_R, k_f4⟩ := hS (by rw [t1199]; exact fun e => by cases e)
  have k_sc10 := k_sc1
  obtain ⟨h_qz, h_nz, h_s, h_ns, h_nE⟩ := k_sc10
  have k_sc20 := k_sc2
  obtain ⟨h_ske, h_skv, h_sku, h_sw, h_swm, h_swu, h_sf, h_sg⟩ := k_sc20
  obtain ⟨⟨⟨hf1, hf2⟩, hf3⟩, hf4, hf5, hf6⟩ := h_sf _ _ _ _ t1105 t1111 t1115 t1112
  have hs := h_s _ t1105
  have hfn := fi_n (X := tx9 m) (p := (g 2).toNat) (by rw [by_m (by omega), show (g 2).toNat = jb by omega]; omega)
  have hfe : fe9 (tx9 m) (g 2).toNat = (g 2).toNat := wh_f hfn
  have hpt := pt_n (X := tx9 m) (e := (g 2).toNat) (Or.inr (fi_n (by rw [by_m (by omega), show (g 2).toNat + 1 = jd by omega]; omega)))
  rw [hfe] at hf5
  rw [vb_f hfn] at hf6
  obtain ⟨k1, k2⟩ := kd_f hf4
  rw [← hf5, hpt] at k1 k2
  rw [decide_eq_true (by omega)] at k1
  simp only [cond_true, cond_false] at k1 k2
  exact ⟨rfl, trivial, trivial, fun _ => ⟨h0, k_tok, k_sc1, ⟨fun s9 k9 e9 e0 e1 e2 => by
      have e0 : g 1 = s9 := Option.some.inj (t1105.symm.trans e0)
      subst e0
      have e1 : g 7 + 0 = k9 := Option.some.inj e1
      subst e1
      have e2 : g 2 + 0 = e9 := Option.some.inj e2
      subst e2
      rw [k1, k2]
      exact ⟨by omega, by omega⟩, fun _ _ _ e0 e1 e2 => no9 n1108 e2, fun _ _ _ e0 e1 e2 => no9 n1110 e2, h_sw, fun _ _ _ e0 e1 e2 => no9 (o := none) rfl e2, h_swu, fun _ _ _ _ e0 e1 e2 e3 => no9 (o := none) rfl e1, fun _ _ _ _ e0 e1 e2 e3 => no9 (o := none) rfl e3⟩, k_T, k_I, k_F, k_N, k_Y, k_Z, k_A, k_B, k_C, k_X, k_R, k_f4⟩⟩
noncomputable def ru_fE6 : Ru := ([(0, (1199, (0, (0, 0)))), (0, (1105, (0, (0, 0)))), (0, (1111, (0, (0, 0)))), (0, (1115, (0, (0, 0)))), (0, (1112, (0, (0, 0)))), (5, (110, (1, (0, 0)))), (4, (0, (0, (2, 0)))), (4, (0, (0, (5, 0)))), (9, (111, (2, (1, 0)))), (9, (111, (2, (1, 1))))], ([1114, 1107, 1106, 1108, 1110], ([([(2, (-1))], 0), ([(2, 1), (5, (-1))], (-1)), ([(8, 1)], 46), ([(8, (-1))], (-46)), ([(2, 1), (5, (-1))], (-2)), ([(9, (-1))], (-58)), ([(3, 1)], 9)], (false, ([], ([], ([(1107, some (6, 0)), (1106, some (2, 0)), (1108, some (4, 0)), (1111, none), (1112, none), (1115, none)], none)))))))
theorem rk_fE6 : RuOk SR ru_fE6 := by
  intro τ m g hi hc ha hS
  obtain ⟨i0, i1, i2, i3, i4, i5, i6, i7, i8, i9, _⟩ := hi
  have t1199 : τ 1199 = some (g 0) := i0
  have t1105 : τ 1105 = some (g 1) := i1
  have t1111 : τ 1111 = some (g 2) := i2
  have t1115 : τ 1115 = some (g 3) := i3
  have t1112 : τ 1112 = some (g 4) := i4
  have xL : g 5 = m 110 1 := i5
  have xtwo : g 6 = 2 := i6
  have xfive : g 7 = 5 := i7
  obtain ⟨jb, ub, vb⟩ : ∃ j : Nat, 1 * g 2 + 0 = (j : Int) ∧ g 8 = m 111 j := i8
  obtain ⟨jd, ud, vd⟩ : ∃ j : Nat, 1 * g 2 + 1 = (j : Int) ∧ g 9 = m 111 j := i9
  obtain ⟨c0, c1, c2, c3, c4, c5, c6, _⟩ := hc
  have c0 : (-1) * g 2 ≤ 0 := d1 c0
  have c1 : 1 * g 2 + (-1) * g 5 ≤ (-1) := d2 c1
  have c2 : 1 * g 8 ≤ 46 := d1 c2
  have c3 : (-1) * g 8 ≤ (-46) := d1 c3
  have c4 : 1 * g 2 + (-1) * g 5 ≤ (-2) := d2 c4
  have c5 : (-1) * g 9 ≤ (-58) := d1 c5
  have c6 : 1 * g 3 ≤ 9 := d1 c6
  obtain ⟨a0, a1, a2, a3, a4, _⟩ := ha
  have n1114 : τ 1114 = none := a0
  have n1107 : τ 1107 = none := a1
  have n1106 : τ 1106 = none := a2
  have n1108 : τ 1108 = none := a3
  have n1110 : τ 1110 = none := a4
  obtain ⟨h0, k_tok, k_sc1, k_sc2, k_T, k_I, k_F, k_N, k_Y, k_Z, k_A, k_B, k_C, k_X, k_R, k_f4⟩ := hS (by rw [t1199]; exact fun e => by cases e)
  have k_sc10 := k_sc1
  obtain ⟨h_qz, h_nz, h_s, h_ns, h_nE⟩ := k_sc10
  have k_sc20 := k_sc2
  obtain ⟨h_ske, h_skv, h_sku, h_sw, h_swm, h_swu, h_sf, h_sg⟩ := k_sc20
  obtain ⟨⟨⟨hf1, hf2⟩, hf3⟩, hf4, hf5, hf6⟩ := h_sf _ _ _ _ t1105 t1111 t1115 t1112
  have hs := h_s _ t1105
  have hfn := fi_n (X := tx9 m) (p := (g 2).toNat) (by rw [by_m (by omega), show (g 2).toNat = jb by omega]; omega)
  have hfe : fe9 (tx9 m) (g 2).toNat = (g 2).toNat := wh_f hfn
  have hpt := pt_n (X := tx9 m) (e := (g 2).toNat) (Or.inr (fi_n (by rw [by_m (by omega), show (g 2).toNat + 1 = jd by omega]; omega)))
  rw [hfe] at hf5
  rw [vb_f hfn] at hf6
  obtain ⟨k1, k2⟩ := kd_f hf4
  rw [← hf5, hpt] at k1 k2
  rw [decide_eq_false (by omega)] at k1
  simp only [cond_true, cond_false] at k1 k2
  exact ⟨rfl, trivial, trivial, fun _ => ⟨h0, k_tok, k_sc1, ⟨fun s9 k9 e9 e0 e1 e2 => by
      have e0 : g 1 = s9 := Option.some.inj (t1105.symm.trans e0)
      subst e0
      have e1 : g 6 + 0 = k9 := Option.some.inj e1
      subst e1
      have e2 : g 2 + 0 = e9 := Option.some.inj e2
      subst e2
      rw [k1, k2]
      exact ⟨by omega, by omega⟩, fun s9 k9 v9 e0 e1 e2 => by
      have e0 : g 1 = s9 := Option.some.inj (t1105.symm.trans e0)
      subst e0
      have e1 : g 6 + 0 = k9 := Option.some.inj e1
      subst e1
      have e2 : g 4 + 0 = v9 := Option.some.inj e2
      subst e2
      refine ⟨fun _ => ?_, fun z => by omega⟩
      rw [Int.add_zero]
      exact hf6, fun _ _ _ e0 e1 e2 => no9 n1110 e2, h_sw, fun _ _ _ e0 e1 e2 => no9 (o := none) rfl e2, h_swu, fun _ _ _ _ e0 e1 e2 e3 => no9 (o := none) rfl e1, fun _ _ _ _ e0 e1 e2 e3 => no9 (o := none) rfl e3⟩, k_T, k_I, k_F, k_N, k_Y, k_Z, k_A, k_B, k_C, k_X, k_R, k_f4⟩⟩
noncomputable def ru_fX6 : Ru := ([(0, (1199, (0, (0, 0)))), (0, (1105, (0, (0, 0)))), (0, (1111, (0, (0, 0)))), (0, (1115, (0, (0, 0)))), (0, (1112, (0, (0, 0)))), (5, (110, (1, (0, 0)))), (4, (0, (0, (2, 0)))), (4, (0, (0, (5, 0)))), (9, (111, (2, (1, 0)))), (9, (111, (2, (1, 1))))], ([1114, 1107, 1106, 1108, 1110], ([([(2, (-1))], 0), ([(2, 1), (5, (-1))], (-1)), ([(8, 1)], 46), ([(8, (-1))], (-46)), ([(2, 1), (5, (-1))], (-2)), ([(9, (-1))], (-58)), ([(3, (-1))], (-10))], (false, ([], ([], ([(1107, some (7, 0)), (1106, some (2, 0)), (1111, none), (1112, none), (1115, none)], none)))))))
theorem rk_fX6 : RuOk SR ru_fX6 := by
  intro τ m g hi hc ha hS
  obtain ⟨i0, i1, i2, i3, i4, i5, i6, i7, i8, i9, _⟩ := hi
  have t1199 : τ 1199 = some (g 0) := i0
  have t1105 : τ 1105 = some (g 1) := i1
  have t1111 : τ 1111 = some (g 2) := i2
  have t1115 : τ 1115 = some (g 3) := i3
  have t1112 : τ 1112 = some (g 4) := i4
  have xL : g 5 = m 110 1 := i5
  have xtwo : g 6 = 2 := i6
  have xfive : g 7 = 5 := i7
  obtain ⟨jb, ub, vb⟩ : ∃ j : Nat, 1 * g 2 + 0 = (j : Int) ∧ g 8 = m 111 j := i8
  obtain ⟨jd, ud, vd⟩ : ∃ j : Nat, 1 * g 2 + 1 = (j : Int) ∧ g 9 = m 111 j := i9
  obtain ⟨c0, c1, c2, c3, c4, c5, c6, _⟩ := hc
  have c0 : (-1) * g 2 ≤ 0 := d1 c0
  have c1 : 1 * g 2 + (-1) * g 5 ≤ (-1) := d2 c1
  have c2 : 1 * g 8 ≤ 46 := d1 c2
  have c3 : (-1) * g 8 ≤ (-46) := d1 c3
  have c4 : 1 * g 2 + (-1) * g 5 ≤ (-2) := d2 c4
  have c5 : (-1) * g 9 ≤ (-58) := d1 c5
  have c6 : (-1) * g 3 ≤ (-10) := d1 c6
  obtain ⟨a0, a1, a2, a3, a4, _⟩ := ha
  have n1114 : τ 1114 = none := a0
  have n1107 : τ 1107 = none := a1
  have n1106 : τ 1106 = none := a2
  have n1108 : τ 1108 = none := a3
  have n1110 : τ 1110 = none := a4
  obtain ⟨h0, k_tok, k_sc1, k_sc2, k_T, k_I, k_F, k_N, k_Y, k_Z, k_A, k_B, k_C, k_X, k_R, k_f4⟩ := hS (by rw [t1199]; exact fun e => by cases e)
  have k_sc10 := k_sc1
  obtain ⟨h_qz, h_nz, h_s, h_ns, h_nE⟩ := k_sc10
  have k_sc20 := k_sc2
  obtain ⟨h_ske, h_skv, h_sku, h_sw, h_swm, h_swu, h_sf, h_sg⟩ := k_sc20
  obtain ⟨⟨⟨hf1, hf2⟩, hf3⟩, hf4, hf5, hf6⟩ := h_sf _ _ _ _ t1105 t1111 t1115 t1112
  have hs := h_s _ t1105
  have hfn := fi_n (X := tx9 m) (p := (g 2).toNat) (by rw [by_m (by omega), show (g 2).toNat = jb by omega]; omega)
  have hfe : fe9 (tx9 m) (g 2).toNat = (g 2).toNat := wh_f hfn
  have hpt := pt_n (X := tx9 m) (e := (g 2).toNat) (Or.inr (fi_n (by rw [by_m (by omega), show (g 2).toNat + 1 = jd by omega]; omega)))
  rw [hfe] at hf5
  rw [vb_f hfn] at hf6
  obtain ⟨k1, k2⟩ := kd_f hf4
  rw [← hf5, hpt] at k1 k2
  rw [decide_eq_true (by omega)] at k1
  simp only [cond_true, cond_false] at k1 k2
  exact ⟨rfl, trivial, trivial, fun _ => ⟨h0, k_tok, k_sc1, ⟨fun s9 k9 e9 e0 e1 e2 => by
      have e0 : g 1 = s9 := Option.some.inj (t1105.symm.trans e0)
      subst e0
      have e1 : g 7 + 0 = k9 := Option.some.inj e1
      subst e1
      have e2 : g 2 + 0 = e9 := Option.some.inj e2
      subst e2
      rw [k1, k2]
      exact ⟨by omega, by omega⟩, fun _ _ _ e0 e1 e2 => no9 n1108 e2, fun _ _ _ e0 e1 e2 => no9 n1110 e2, h_sw, fun _ _ _ e0 e1 e2 => no9 (o := none) rfl e2, h_swu, fun _ _ _ _ e0 e1 e2 e3 => no9 (o := none) rfl e1, fun _ _ _ _ e0 e1 e2 e3 => no9 (o := none) rfl e3⟩, k_T, k_I, k_F, k_N, k_Y, k_Z, k_A, k_B, k_C, k_X, k_R, k_f4⟩⟩
noncomputable def ru_fE7 : Ru := ([(0, (1199, (0, (0, 0)))), (0, (1105, (0, (0, 0)))), (0, (1111, (0, (0, 0)))), (0, (1115, (0, (0, 0)))), (0, (1112, (0, (0, 0)))), (5, (110, (1, (0, 0)))), (4, (0, (0, (2, 0)))), (4, (0, (0, (5, 0)))), (9, (111, (2, (1, 0))))], ([1114, 1107, 1106, 1108, 1110], ([([(2, (-1))], 0), ([(2, 1), (5, (-1))], (-1)), ([(8, 1)], 46), ([(8, (-1))], (-46)), ([(2, (-1)), (5, 1)], 1), ([(3, 1)], 9)], (false, ([], ([], ([(1107, some (6, 0)), (1106, some (2, 0)), (1108, some (4, 0)), (1111, none), (1112, none), (1115, none)], none)))))))
theorem rk_fE7 : RuOk SR ru_fE7 := by
  intro τ m g hi hc ha hS
  obtain ⟨i0, i1, i2, i3, i4, i5, i6, i7, i8, _⟩ := hi
  have t1199 : τ 1199 = some (g 0) := i0
  have t1105 : τ 1105 = some (g 1) := i1
  have t1111 : τ 1111 = some (g 2) := i2
  have t1115 : τ 1115 = some (g 3) := i3
  have t1112 : τ 1112 = some (g 4) := i4
  have xL : g 5 = m 110 1 := i5
  have xtwo : g 6 = 2 := i6
  have xfive : g 7 = 5 := i7
  obtain ⟨jb, ub, vb⟩ : ∃ j : Nat, 1 * g 2 + 0 = (j : Int) ∧ g 8 = m 111 j := i8
  obtain ⟨c0, c1, c2, c3, c4, c5, _⟩ := hc
  have c0 : (-1) * g 2 ≤ 0 := d1 c0
  have c1 : 1 * g 2 + (-1) * g 5 ≤ (-1) := d2 c1
  have c2 : 1 * g 8 ≤ 46 := d1 c2
  have c3 : (-1) * g 8 ≤ (-46) := d1 c3
  have c4 : (-1) * g 2 + 1 * g 5 ≤ 1 := d2 c4
  have c5 : 1 * g 3 ≤ 9 := d1 c5
  obtain ⟨a0, a1, a2, a3, a4, _⟩ := ha
  have n1114 : τ 1114 = none := a0
  have n1107 : τ 1107 = none := a1
  have n1106 : τ 1106 = none := a2
  have n1108 : τ 1108 = none := a3
  have n1110 : τ 1110 = none := a4
  obtain ⟨h0, k_tok, k_sc1, k_sc2, k_T, k_I, k_F, k_N, k_Y, k_Z, k_A, k_B, k_C, k_X, k_R, k_f4⟩ := hS (by rw [t1199]; exact fun e => by cases e)
  have k_sc10 := k_sc1
  obtain ⟨h_qz, h_nz, h_s, h_ns, h_nE⟩ := k_sc10
  have k_sc20 := k_sc2
  obtain ⟨h_ske, h_skv, h_sku, h_sw, h_swm, h_swu, h_sf, h_sg⟩ := k_sc20
  obtain ⟨⟨⟨hf1, hf2⟩, hf3⟩, hf4, hf5, hf6⟩ := h_sf _ _ _ _ t1105 t1111 t1115 t1112
  have hs := h_s _ t1105
  have hfn := fi_n (X := tx9 m) (p := (g 2).toNat) (by rw [by_m (by omega), show (g 2).toNat = jb by omega]; omega)
  have hfe : fe9 (tx9 m) (g 2).toNat = (g 2).toNat := wh_f hfn
  have hpt := pt_n (X := tx9 m) (e := (g 2).toNat) (Or.inr (fi_n (by rw [by_e (by omega)]; exact Or.inl (by decide))))
  rw [hfe] at hf5
  rw [vb_f hfn] at hf6
  obtain ⟨k1, k2⟩ := kd_f hf4
  rw [← hf5, hpt] at k1 k2
  rw [decide_eq_false (by omega)] at k1
  simp only [cond_true, cond_false] at k1 k2
  exact ⟨rfl, trivial, trivial, fun _ => ⟨h0, k_tok, k_sc1, ⟨fun s9 k9 e9 e0 e1 e2 => by
      have e0 : g 1 = s9 := Option.some.inj (t1105.symm.trans e0)
      subst e0
      have e1 : g 6 + 0 = k9 := Option.some.inj e1
      subst e1
      have e2 : g 2 + 0 = e9 := Option.some.inj e2
      subst e2
      rw [k1, k2]
      exact ⟨by omega, by omega⟩, fun s9 k9 v9 e0 e1 e2 => by
      have e0 : g 1 = s9 := Option.some.inj (t1105.symm.trans e0)
      subst e0
      have e1 : g 6 + 0 = k9 := Option.some.inj e1
      subst e1
      have e2 : g 4 + 0 = v9 := Option.some.inj e2
      subst e2
      refine ⟨fun _ => ?_, fun z => by omega⟩
      rw [Int.add_zero]
      exact hf6, fun _ _ _ e0 e1 e2 => no9 n1110 e2, h_sw, fun _ _ _ e0 e1 e2 => no9 (o := none) rfl e2, h_swu, fun _ _ _ _ e0 e1 e2 e3 => no9 (o := none) rfl e1, fun _ _ _ _ e0 e1 e2 e3 => no9 (o := none) rfl e3⟩, k_T, k_I, k_F, k_N, k_Y, k_Z, k_A, k_B, k_C, k_X, k_R, k_f4⟩⟩
noncomputable def ru_fX7 : Ru := ([(0, (1199, (0, (0, 0)))), (0, (1105, (0, (0, 0)))), (0, (1111, (0, (0, 0)))), (0, (1115, (0, (0, 0)))), (0, (1112, (0, (0, 0)))), (5, (110, (1, (0, 0)))), (4, (0, (0, (2, 0)))), (4, (0, (0, (5, 0)))), (9, (111, (2, (1, 0))))], ([1114, 1107, 1106, 1108, 1110], ([([(2, (-1))], 0), ([(2, 1), (5, (-1))], (-1)), ([(8, 1)], 46), ([(8, (-1))], (-46)), ([(2, (-1)), (5, 1)], 1), ([(3, (-1))], (-10))], (false, ([], ([], ([(1107, some (7, 0)), (1106, some (2, 0)), (1111, none), (1112, none), (1115, none)], none)))))))
theorem rk_fX7 : RuOk SR ru_fX7 := by
  intro τ m g hi hc ha hS
  obtain ⟨i0, i1, i2, i3, i4, i5, i6, i7, i8, _⟩ := hi
  have t1199 : τ 1199 = some (g 0) := i0
  have t1105 : τ 1105 = some (g 1) := i1
  have t1111 : τ 1111 = some (g 2) := i2
  have t1115 : τ 1115 = some (g 3) := i3
  have t1112 : τ 1112 = some (g 4) := i4
  have xL : g 5 = m 110 1 := i5
  have xtwo : g 6 = 2 := i6
  have xfive : g 7 = 5 := i7
  obtain ⟨jb, ub, vb⟩ : ∃ j : Nat, 1 * g 2 + 0 = (j : Int) ∧ g 8 = m 111 j := i8
  obtain ⟨c0, c1, c2, c3, c4, c5, _⟩ := hc
  have c0 : (-1) * g 2 ≤ 0 := d1 c0
  have c1 : 1 * g 2 + (-1) * g 5 ≤ (-1) := d2 c1
  have c2 : 1 * g 8 ≤ 46 := d1 c2
  have c3 : (-1) * g 8 ≤ (-46) := d1 c3
  have c4 : (-1) * g 2 + 1 * g 5 ≤ 1 := d2 c4
  have c5 : (-1) * g 3 ≤ (-10) := d1 c5
  obtain ⟨a0, a1, a2, a3, a4, _⟩ := ha
  have n1114 : τ 1114 = none := a0
  have n1107 : τ 1107 = none := a1
  have n1106 : τ 1106 = none := a2
  have n1108 : τ 1108 = none := a3
  have n1110 : τ 1110 = none := a4
  obtain ⟨h0, k_tok, k_sc1, k_sc2, k_T, k_I, k_F, k_N, k_Y, k_Z, k_A, k_B, k_C, k_X, k_R, k_f4⟩ := hS (by rw [t1199]; exact fun e => by cases e)
  have k_sc10 := k_sc1
  obtain ⟨h_qz, h_nz, h_s, h_ns, h_nE⟩ := k_sc10
  have k_sc20 := k_sc2
  obtain ⟨h_ske, h_skv, h_sku, h_sw, h_swm, h_swu, h_sf, h_sg⟩ := k_sc20
  obtain ⟨⟨⟨hf1, hf2⟩, hf3⟩, hf4, hf5, hf6⟩ := h_sf _ _ _ _ t1105 t1111 t1115 t1112
  have hs := h_s _ t1105
  have hfn := fi_n (X := tx9 m) (p := (g 2).toNat) (by rw [by_m (by omega), show (g 2).toNat = jb by omega]; omega)
  have hfe : fe9 (tx9 m) (g 2).toNat = (g 2).toNat := wh_f hfn
  have hpt := pt_n (X := tx9 m) (e := (g 2).toNat) (Or.inr (fi_n (by rw [by_e (by omega)]; exact Or.inl (by decide))))
  rw [hfe] at hf5
  rw [vb_f hfn] at hf6
  obtain ⟨k1, k2⟩ := kd_f hf4
  rw [← hf5, hpt] at k1 k2
  rw [decide_eq_true (by omega)] at k1
  simp only [cond_true, cond_false] at k1 k2
  exact ⟨rfl, trivial, trivial, fun _ => ⟨h0, k_tok, k_sc1, ⟨fun s9 k9 e9 e0 e1 e2 => by
      have e0 : g 1 = s9 := Option.some.inj (t1105.symm.trans e0)
      subst e0
      have e1 : g 7 + 0 = k9 := Option.some.inj e1
      subst e1
      have e2 : g 2 + 0 = e9 := Option.some.inj e2
      subst e2
      rw [k1, k2]
      exact ⟨by omega, by omega⟩, fun _ _ _ e0 e1 e2 => no9 n1108 e2, fun _ _ _ e0 e1 e2 => no9 n1110 e2, h_sw, fun _ _ _ e0 e1 e2 => no9 (o := none) rfl e2, h_swu, fun _ _ _ _ e0 e1 e2 e3 => no9 (o := none) rfl e1, fun _ _ _ _ e0 e1 e2 e3 => no9 (o := none) rfl e3⟩, k_T, k_I, k_F, k_N, k_Y, k_Z, k_A, k_B, k_C, k_X, k_R, k_f4⟩⟩
noncomputable def ru_fP : Ru := ([(0, (1199, (0, (0, 0)))), (0, (1105, (0, (0, 0)))), (0, (1111, (0, (0, 0)))), (0, (1115, (0, (0, 0)))), (0, (1112, (0, (0, 0)))), (5, (110, (1, (0, 0)))), (4, (0, (0, (2, 0)))), (4, (0, (0, (5, 0)))), (9, (111, (2, (1, 0)))), (9, (111, (2, (1, 1))))], ([1114, 1113], ([([(2, (-1))], 0), ([(2, 1), (5, (-1))], (-1)), ([(8, 1)], 46), ([(8, (-1))], (-46)), ([(2, 1), (5, (-1))], (-2)), ([(9, (-1))], (-48)), ([(9, 1)], 57)], (false, ([], ([], ([(1113, some (2, 0)), (1114, some (2, 1)), (1111, none), (1112, none)], none)))))))
theorem rk_fP : RuOk SR ru_fP := by
  intro τ m g hi hc ha hS
  obtain ⟨i0, i1, i2, i3, i4, i5, i6, i7, i8, i9, _⟩ := hi
  have t1199 : τ 1199 = some (g 0) := i0
  have t1105 : τ 1105 = some (g 1) := i1
  have t1111 : τ 1111 = some (g 2) := i2
  have t1115 : τ 1115 = some (g 3) := i3
  have t1112 : τ 1112 = some (g 4) := i4
  have xL : g 5 = m 110 1 := i5
  have xtwo : g 6 = 2 := i6
  have xfive : g 7 = 5 := i7
  obtain ⟨jb, ub, vb⟩ : ∃ j : Nat, 1 * g 2 + 0 = (j : Int) ∧ g 8 = m 111 j := i8
  obtain ⟨jd, ud, vd⟩ : ∃ j : Nat, 1 * g 2 + 1 = (j : Int) ∧ g 9 = m 111 j := i9
  obtain ⟨c0, c1, c2, c3, c4, c5, c6, _⟩ := hc
  have c0 : (-1) * g 2 ≤ 0 := d1 c0
  have c1 : 1 * g 2 + (-1) * g 5 ≤ (-1) := d2 c1
  have c2 : 1 * g 8 ≤ 46 := d1 c2
  have c3 : (-1) * g 8 ≤ (-46) := d1 c3
  have c4 : 1 * g 2 + (-1) * g 5 ≤ (-2) := d2 c4
  have c5 : (-1) * g 9 ≤ (-48) := d1 c5
  have c6 : 1 * g 9 ≤ 57 := d1 c6
  obtain ⟨a0, a1, _⟩ := ha
  have n1114 : τ 1114 = none := a0
  have n1113 : τ 1113 = none := a1
  obtain ⟨h0, k_tok, k_sc1, k_sc2, k_T, k_I, k_F, k_N, k_Y, k_Z, k_A, k_B, k_C, k_X, k_R, k_f4⟩ := hS (by rw [t1199]; exact fun e => by cases e)
  have k_sc10 := k_sc1
  obtain ⟨h_qz, h_nz, h_s, h_ns, h_nE⟩ := k_sc10
  have k_sc20 := k_sc2
  obtain ⟨h_ske, h_skv, h_sku, h_sw, h_swm, h_swu, h_sf, h_sg⟩ := k_sc20
  obtain ⟨⟨⟨hf1, hf2⟩, hf3⟩, hf4, hf5, hf6⟩ := h_sf _ _ _ _ t1105 t1111 t1115 t1112
  have hs := h_s _ t1105
  have hfn := fi_n (X := tx9 m) (p := (g 2).toNat) (by rw [by_m (by omega), show (g 2).toNat = jb by omega]; omega)
  have hfe : fe9 (tx9 m) (g 2).toNat = (g 2).toNat := wh_f hfn
  rw [hfe] at hf5
  have hpt := pt_y (X := tx9 m) (e := (g 2).toNat) (by rw [by_m (by omega), show (g 2).toNat = jb by omega]; omega) (by have hd := fi_m (m := m) (p := jd) (by omega) (by omega) (by omega); rw [show (g 2).toNat + 1 = jd by omega]; exact hd)
  exact ⟨rfl, trivial, trivial, fun _ => ⟨h0, k_tok, k_sc1, ⟨h_ske, h_skv, h_sku, h_sw, h_swm, h_swu, fun _ _ _ _ e0 e1 e2 e3 => no9 (o := none) rfl e1, fun s9 h9 g9 m9 e0 e1 e2 e3 => by
      have e0 : g 1 = s9 := Option.some.inj (t1105.symm.trans e0)
      subst e0
      have e1 : g 2 + 0 = h9 := Option.some.inj e1
      subst e1
      have e2 : g 2 + 1 = g9 := Option.some.inj e2
      subst e2
      have e3 : g 3 = m9 := Option.some.inj (t1115.symm.trans e3)
      subst e3
      rw [Int.add_zero, show (g 2 + 1).toNat = (g 2).toNat + 1 by omega]
      exact ⟨⟨⟨by omega, by omega⟩, by omega, by omega⟩, hf4, hpt, rfl⟩⟩, k_T, k_I, k_F, k_N, k_Y, k_Z, k_A, k_B, k_C, k_X, k_R, k_f4⟩⟩
noncomputable def ru_gN : Ru := ([(0, (1199, (0, (0, 0)))), (0, (1105, (0, (0, 0)))), (0, (1113, (0, (0, 0)))), (0, (1114, (0, (0, 0)))), (0, (1115, (0, (0, 0)))), (5, (110, (1, (0, 0)))), (9, (111, (3, (1, 0))))], ([], ([([(3, (-1))], 0), ([(3, 1), (5, (-1))], (-1)), ([(6, (-1))], (-48)), ([(6, 1)], 57)], (false, ([], ([], ([(1114, some (3, 1))], none)))))))
theorem rk_gN : RuOk SR ru_gN := by
  intro τ m g hi hc ha hS
  obtain ⟨i0, i1, i2, i3, i4, i5, i6, _⟩ := hi
  have t1199 : τ 1199 = some (g 0) := i0
  have t1105 : τ 1105 = some (g 1) := i1
  have t1113 : τ 1113 = some (g 2) := i2
  have t1114 : τ 1114 = some (g 3) := i3
  have t1115 : τ 1115 = some (g 4) := i4
  have xL : g 5 = m 110 1 := i5
  obtain ⟨jb, ub, vb⟩ : ∃ j : Nat, 1 * g 3 + 0 = (j : Int) ∧ g 6 = m 111 j := i6
  obtain ⟨c0, c1, c2, c3, _⟩ := hc
  have c0 : (-1) * g 3 ≤ 0 := d1 c0
  have c1 : 1 * g 3 + (-1) * g 5 ≤ (-1) := d2 c1
  have c2 : (-1) * g 6 ≤ (-48) := d1 c2
  have c3 : 1 * g 6 ≤ 57 := d1 c3
  obtain ⟨h0, k_tok, k_sc1, k_sc2, k_T, k_I, k_F, k_N, k_Y, k_Z, k_A, k_B, k_C, k_X, k_R, k_f4⟩ := hS (by rw [t1199]; exact fun e => by cases e)
  have k_sc10 := k_sc1
  obtain ⟨h_qz, h_nz, h_s, h_ns, h_nE⟩ := k_sc10
  have k_sc20 := k_sc2
  obtain ⟨h_ske, h_skv, h_sku, h_sw, h_swm, h_swu, h_sf, h_sg⟩ := k_sc20
  obtain ⟨⟨⟨hg1, hg2⟩, hg3, hg4⟩, hg5, hg6, hg7⟩ := h_sg _ _ _ _ t1105 t1113 t1114 t1115
  have hs := h_s _ t1105
  have hfi := fi_m (m := m) (p := (g 3).toNat) (by omega) (by rw [show (g 3).toNat = jb by omega]; omega) (by rw [show (g 3).toNat = jb by omega]; omega)
  have hL : (g 3).toNat < (tx9 m).2 := (show (g 3).toNat < (m 110 1).toNat by omega)
  exact ⟨rfl, trivial, trivial, fun _ => ⟨h0, k_tok, k_sc1, ⟨h_ske, h_skv, h_sku, h_sw, h_swm, h_swu, h_sf, fun s9 h9 g9 m9 e0 e1 e2 e3 => by
      have e0 : g 1 = s9 := Option.some.inj (t1105.symm.trans e0)
      subst e0
      have e1 : g 2 = h9 := Option.some.inj (t1113.symm.trans e1)
      subst e1
      have e2 : g 3 + 1 = g9 := Option.some.inj e2
      subst e2
      have e3 : g 4 = m9 := Option.some.inj (t1115.symm.trans e3)
      subst e3
      rw [show (g 3 + 1).toNat = (g 3).toNat + 1 by omega]
      refine ⟨⟨⟨hg1, hg2⟩, by omega, by omega⟩, hg5, hg6, ?_⟩
      rw [← hg7]
      exact (wh_t hL hfi).symm⟩, k_T, k_I, k_F, k_N, k_Y, k_Z, k_A, k_B, k_C, k_X, k_R, k_f4⟩⟩
noncomputable def ru_gE1A : Ru := ([(0, (1199, (0, (0, 0)))), (0, (1105, (0, (0, 0)))), (0, (1113, (0, (0, 0)))), (0, (1114, (0, (0, 0)))), (0, (1115, (0, (0, 0)))), (5, (110, (1, (0, 0)))), (4, (0, (0, (3, 0)))), (4, (0, (0, (5, 0))))], ([1107, 1106, 1108, 1110], ([([(3, (-1)), (5, 1)], 0), ([(4, 1)], 9), ([(2, (-1)), (3, 1)], 7)], (false, ([], ([], ([(1107, some (6, 0)), (1106, some (3, 0)), (1113, none), (1114, none), (1115, none)], none)))))))
theorem rk_gE1A : RuOk SR ru_gE1A := by
  intro τ m g hi hc ha hS
  obtain ⟨i0, i1, i2, i3, i4, i5, i6, i7, _⟩ := hi
  have t1199 : τ 1199 = some (g 0) := i0
  have t1105 : τ 1105 = some (g 1) := i1
  have t1113 : τ 1113 = some (g 2) := i2
  have t1114 : τ 1114 = some (g 3) := i3
  have t1115 : τ 1115 = some (g 4) := i4
  have xL : g 5 = m 110 1 := i5
  have xthree : g 6 = 3 := i6
  have xfive : g 7 = 5 := i7
  obtain ⟨c0, c1, c2, _⟩ := hc
  have c0 : (-1) * g 3 + 1 * g 5 ≤ 0 := d2 c0
  have c1 : 1 * g 4 ≤ 9 := d1 c1
  have c2 : (-1) * g 2 + 1 * g 3 ≤ 7 := d2 c2
  obtain ⟨a0, a1, a2, a3, _⟩ := ha
  have n1107 : τ 1107 = none := a0
  have n1106 : τ 1106 = none := a1
  have n1108 : τ 1108 = none := a2
  have n1110 : τ 1110 = none := a3
  obtain ⟨h0, k_tok, k_sc1, k_sc2, k_T, k_I, k_F, k_N, k_Y, k_Z, k_A, k_B, k_C, k_X, k_R, k_f4⟩ := hS (by rw [t1199]; exact fun e => by cases e)
  have k_sc10 := k_sc1
  obtain ⟨h_qz, h_nz, h_s, h_ns, h_nE⟩ := k_sc10
  have k_sc20 := k_sc2
  obtain ⟨h_ske, h_skv, h_sku, h_sw, h_swm, h_swu, h_sf, h_sg⟩ := k_sc20
  obtain ⟨⟨⟨hg1, hg2⟩, hg3, hg4⟩, hg5, hg6, hg7⟩ := h_sg _ _ _ _ t1105 t1113 t1114 t1115
  have hs := h_s _ t1105
  have hfn := fi_n (X := tx9 m) (p := (g 3).toNat) (by rw [by_e (by omega)]; exact Or.inl (by decide))
  have hfe : fe9 (tx9 m) (g 3).toNat = (g 3).toNat := wh_f hfn
  rw [hfe] at hg7
  have eh : fe9 (tx9 m) (g 1).toNat = (g 2).toNat := by omega
  obtain ⟨k1, k2⟩ := kd_f hg5
  rw [eh, hg6, ← hg7] at k1 k2
  rw [decide_eq_false (by omega), decide_eq_false (by omega)] at k1
  simp only [cond_true, cond_false] at k1 k2
  exact ⟨rfl, trivial, trivial, fun _ => ⟨h0, k_tok, k_sc1, ⟨fun s9 k9 e9 e0 e1 e2 => by
      have e0 : g 1 = s9 := Option.some.inj (t1105.symm.trans e0)
      subst e0
      have e1 : g 6 + 0 = k9 := Option.some.inj e1
      subst e1
      have e2 : g 3 + 0 = e9 := Option.some.inj e2
      subst e2
      rw [k1, k2]
      exact ⟨by omega, by omega⟩, fun _ _ _ e0 e1 e2 => no9 n1108 e2, fun _ _ _ e0 e1 e2 => no9 n1110 e2, h_sw, fun _ _ _ e0 e1 e2 => no9 (o := none) rfl e2, h_swu, fun _ _ _ _ e0 e1 e2 e3 => no9 (o := none) rfl e2, fun _ _ _ _ e0 e1 e2 e3 => no9 (o := none) rfl e1⟩, k_T, k_I, k_F, k_N, k_Y, k_Z, k_A, k_B, k_C, k_X, k_R, k_f4⟩⟩
noncomputable def ru_gE1B : Ru := ([(0, (1199, (0, (0, 0)))), (0, (1105, (0, (0, 0)))), (0, (1113, (0, (0, 0)))), (0, (1114, (0, (0, 0)))), (0, (1115, (0, (0, 0)))), (5, (110, (1, (0, 0)))), (4, (0, (0, (3, 0)))), (4, (0, (0, (5, 0))))], ([1107, 1106, 1108, 1110], ([([(3, (-1)), (5, 1)], 0), ([(4, 1)], 9), ([(2, 1), (3, (-1))], (-8))], (false, ([], ([], ([(1107, some (7, 0)), (1106, some (3, 0)), (1113, none), (1114, none), (1115, none)], none)))))))
theorem rk_gE1B : RuOk SR ru_gE1B := by
  intro τ m g hi hc ha hS
  obtain ⟨i0, i1, i2, i3, i4, i5, i6, i7, _⟩ := hi
  have t1199 : τ 1199 = some (g 0) := i0
  have t1105 : τ 1105 = some (g 1) := i1
  have t1113 : τ 1113 = some (g 2) := i2
  have t1114 : τ 1114 = some (g 3) := i3
  have t1115 : τ 1115 = some (g 4) := i4
  have xL : g 5 = m 110 1 := i5
  have xthree : g 6 = 3 := i6
  have xfive : g 7 = 5 := i7
  obtain ⟨c0, c1, c2, _⟩ := hc
  have c0 : (-1) * g 3 + 1 * g 5 ≤ 0 := d2 c0
  have c1 : 1 * g 4 ≤ 9 := d1 c1
  have c2 : 1 * g 2 + (-1) * g 3 ≤ (-8) := d2 c2
  obtain ⟨a0, a1, a2, a3, _⟩ := ha
  have n1107 : τ 1107 = none := a0
  have n1106 : τ 1106 = none := a1
  have n1108 : τ 1108 = none := a2
  have n1110 : τ 1110 = none := a3
  obtain ⟨h0, k_tok, k_sc1, k_sc2, k_T, k_I, k_F, k_N, k_Y, k_Z, k_A, k_B, k_C, k_X, k_R, k_f4⟩ := hS (by rw [t1199]; exact fun e => by cases e)
  have k_sc10 := k_sc1
  obtain ⟨h_qz, h_nz, h_s, h_ns, h_nE⟩ := k_sc10
  have k_sc20 := k_sc2
  obtain ⟨h_ske, h_skv, h_sku, h_sw, h_swm, h_swu, h_sf, h_sg⟩ := k_sc20
  obtain ⟨⟨⟨hg1, hg2⟩, hg3, hg4⟩, hg5, hg6, hg7⟩ := h_sg _ _ _ _ t1105 t1113 t1114 t1115
  have hs := h_s _ t1105
  have hfn := fi_n (X := tx9 m) (p := (g 3).toNat) (by rw [by_e (by omega)]; exact Or.inl (by decide))
  have hfe : fe9 (tx9 m) (g 3).toNat = (g 3).toNat := wh_f hfn
  rw [hfe] at hg7
  have eh : fe9 (tx9 m) (g 1).toNat = (g 2).toNat := by omega
  obtain ⟨k1, k2⟩ := kd_f hg5
  rw [eh, hg6, ← hg7] at k1 k2
  rw [decide_eq_false (by omega), decide_eq_true (by omega)] at k1
  simp only [cond_true, cond_false] at k1 k2
  exact ⟨rfl, trivial, trivial, fun _ => ⟨h0, k_tok, k_sc1, ⟨fun s9 k9 e9 e0 e1 e2 => by
      have e0 : g 1 = s9 := Option.some.inj (t1105.symm.trans e0)
      subst e0
      have e1 : g 7 + 0 = k9 := Option.some.inj e1
      subst e1
      have e2 : g 3 + 0 = e9 := Option.some.inj e2
      subst e2
      rw [k1, k2]
      exact ⟨by omega, by omega⟩, fun _ _ _ e0 e1 e2 => no9 n1108 e2, fun _ _ _ e0 e1 e2 => no9 n1110 e2, h_sw, fun _ _ _ e0 e1 e2 => no9 (o := none) rfl e2, h_swu, fun _ _ _ _ e0 e1 e2 e3 => no9 (o := none) rfl e2, fun _ _ _ _ e0 e1 e2 e3 => no9 (o := none) rfl e1⟩, k_T, k_I, k_F, k_N, k_Y, k_Z, k_A, k_B, k_C, k_X, k_R, k_f4⟩⟩
noncomputable def ru_gE1C : Ru := ([(0, (1199, (0, (0, 0)))), (0, (1105, (0, (0, 0)))), (0, (1113, (0, (0, 0)))), (0, (1114, (0, (0, 0)))), (0, (1115, (0, (0, 0)))), (5, (110, (1, (0, 0)))), (4, (0, (0, (3, 0)))), (4, (0, (0, (5, 0))))], ([1107, 1106, 1108, 1110], ([([(3, (-1)), (5, 1)], 0), ([(4, (-1))], (-10))], (false, ([], ([], ([(1107, some (7, 0)), (1106, some (3, 0)), (1113, none), (1114, none), (1115, none)], none)))))))
theorem rk_gE1C : RuOk SR ru_gE1C := by
  intro τ m g hi hc ha hS
  obtain ⟨i0, i1, i2, i3, i4, i5, i6, i7, _⟩ := hi
  have t1199 : τ 1199 = some (g 0) := i0
  have t1105 : τ 1105 = some (g 1) := i1
  have t1113 : τ 1113 = some (g 2) := i2
  have t1114 : τ 1114 = some (g 3) := i3
  have t1115 : τ 1115 = some (g 4) := i4
  have xL : g 5 = m 110 1 := i5
  have xthree : g 6 = 3 := i6
  have xfive : g 7 = 5 := i7
  obtain ⟨c0, c1, _⟩ := hc
  have c0 : (-1) * g 3 + 1 * g 5 ≤ 0 := d2 c0
  have c1 : (-1) * g 4 ≤ (-10) := d1 c1
  obtain ⟨a0, a1, a2, a3, _⟩ := ha
  have n1107 : τ 1107 = none := a0
  have n1106 : τ 1106 = none := a1
  have n1108 : τ 1108 = none := a2
  have n1110 : τ 1110 = none := a3
  obtain ⟨h0, k_tok, k_sc1, k_sc2, k_T, k_I, k_F, k_N, k_Y, k_Z, k_A, k_B, k_C, k_X, k_R, k_f4⟩ := hS (by rw [t1199]; exact fun e => by cases e)
  have k_sc10 := k_sc1
  obtain ⟨h_qz, h_nz, h_s, h_ns, h_nE⟩ := k_sc10
  have k_sc20 := k_sc2
  obtain ⟨h_ske, h_skv, h_sku, h_sw, h_swm, h_swu, h_sf, h_sg⟩ := k_sc20
  obtain ⟨⟨⟨hg1, hg2⟩, hg3, hg4⟩, hg5, hg6, hg7⟩ := h_sg _ _ _ _ t1105 t1113 t1114 t1115
  have hs := h_s _ t1105
  have hfn := fi_n (X := tx9 m) (p := (g 3).toNat) (by rw [by_e (by omega)]; exact Or.inl (by decide))
  have hfe : fe9 (tx9 m) (g 3).toNat = (g 3).toNat := wh_f hfn
  rw [hfe] at hg7
  have eh : fe9 (tx9 m) (g 1).toNat = (g 2).toNat := by omega
  obtain ⟨k1, k2⟩ := kd_f hg5
  rw [eh, hg6, ← hg7] at k1 k2
  rw [decide_eq_true (by omega)] at k1
  simp only [cond_true, cond_false] at k1 k2
  exact ⟨rfl, trivial, trivial, fun _ => ⟨h0, k_tok, k_sc1, ⟨fun s9 k9 e9 e0 e1 e2 => by
      have e0 : g 1 = s9 := Option.some.inj (t1105.symm.trans e0)
      subst e0
      have e1 : g 7 + 0 = k9 := Option.some.inj e1
      subst e1
      have e2 : g 3 + 0 = e9 := Option.some.inj e2
      subst e2
      rw [k1, k2]
      exact ⟨by omega, by omega⟩, fun _ _ _ e0 e1 e2 => no9 n1108 e2, fun _ _ _ e0 e1 e2 => no9 n1110 e2, h_sw, fun _ _ _ e0 e1 e2 => no9 (o := none) rfl e2, h_swu, fun _ _ _ _ e0 e1 e2 e3 => no9 (o := none) rfl e2, fun _ _ _ _ e0 e1 e2 e3 => no9 (o := none) rfl e1⟩, k_T, k_I, k_F, k_N, k_Y, k_Z, k_A, k_B, k_C, k_X, k_R, k_f4⟩⟩
noncomputable def ru_gE2A : Ru := ([(0, (1199, (0, (0, 0)))), (0, (1105, (0, (0, 0)))), (0, (1113, (0, (0, 0)))), (0, (1114, (0, (0, 0)))), (0, (1115, (0, (0, 0)))), (5, (110, (1, (0, 0)))), (9, (111, (3, (1, 0)))), (4, (0, (0, (3, 0)))), (4, (0, (0, (5, 0))))], ([1107, 1106, 1108, 1110], ([([(3, (-1))], 0), ([(3, 1), (5, (-1))], (-1)), ([(6, 1)], 47), ([(4, 1)], 9), ([(2, (-1)), (3, 1)], 7)], (false, ([], ([], ([(1107, some (7, 0)), (1106, some (3, 0)), (1113, none), (1114, none), (1115, none)], none)))))))
theorem rk_gE2A : RuOk SR ru_gE2A := by
  intro τ m g hi hc ha hS
  obtain ⟨i0, i1, i2, i3, i4, i5, i6, i7, i8, _⟩ := hi
  have t1199 : τ 1199 = some (g 0) := i0
  have t1105 : τ 1105 = some (g 1) := i1
  have t1113 : τ 1113 = some (g 2) := i2
  have t1114 : τ 1114 = some (g 3) := i3
  have t1115 : τ 1115 = some (g 4) := i4
  have xL : g 5 = m 110 1 := i5
  obtain ⟨jb, ub, vb⟩ : ∃ j : Nat, 1 * g 3 + 0 = (j : Int) ∧ g 6 = m 111 j := i6
  have xthree : g 7 = 3 := i7
  have xfive : g 8 = 5 := i8
  obtain ⟨c0, c1, c2, c3, c4, _⟩ := hc
  have c0 : (-1) * g 3 ≤ 0 := d1 c0
  have c1 : 1 * g 3 + (-1) * g 5 ≤ (-1) := d2 c1
  have c2 : 1 * g 6 ≤ 47 := d1 c2
  have c3 : 1 * g 4 ≤ 9 := d1 c3
  have c4 : (-1) * g 2 + 1 * g 3 ≤ 7 := d2 c4
  obtain ⟨a0, a1, a2, a3, _⟩ := ha
  have n1107 : τ 1107 = none := a0
  have n1106 : τ 1106 = none := a1
  have n1108 : τ 1108 = none := a2
  have n1110 : τ 1110 = none := a3
  obtain ⟨h0, k_tok, k_sc1, k_sc2, k_T, k_I, k_F, k_N, k_Y, k_Z, k_A, k_B, k_C, k_X, k_R, k_f4⟩ := hS (by rw [t1199]; exact fun e => by cases e)
  have k_sc10 := k_sc1
  obtain ⟨h_qz, h_nz, h_s, h_ns, h_nE⟩ := k_sc10
  have k_sc20 := k_sc2
  obtain ⟨h_ske, h_skv, h_sku, h_sw, h_swm, h_swu, h_sf, h_sg⟩ := k_sc20
  obtain ⟨⟨⟨hg1, hg2⟩, hg3, hg4⟩, hg5, hg6, hg7⟩ := h_sg _ _ _ _ t1105 t1113 t1114 t1115
  have hs := h_s _ t1105
  have hfn := fi_n (X := tx9 m) (p := (g 3).toNat) (by rw [by_m (by omega), show (g 3).toNat = jb by omega]; omega)
  have hfe : fe9 (tx9 m) (g 3).toNat = (g 3).toNat := wh_f hfn
  rw [hfe] at hg7
  have eh : fe9 (tx9 m) (g 1).toNat = (g 2).toNat := by omega
  obtain ⟨k1, k2⟩ := kd_f hg5
  rw [eh, hg6, ← hg7] at k1 k2
  rw [decide_eq_false (by omega), decide_eq_false (by omega)] at k1
  simp only [cond_true, cond_false] at k1 k2
  exact ⟨rfl, trivial, trivial, fun _ => ⟨h0, k_tok, k_sc1, ⟨fun s9 k9 e9 e0 e1 e2 => by
      have e0 : g 1 = s9 := Option.some.inj (t1105.symm.trans e0)
      subst e0
      have e1 : g 7 + 0 = k9 := Option.some.inj e1
      subst e1
      have e2 : g 3 + 0 = e9 := Option.some.inj e2
      subst e2
      rw [k1, k2]
      exact ⟨by omega, by omega⟩, fun _ _ _ e0 e1 e2 => no9 n1108 e2, fun _ _ _ e0 e1 e2 => no9 n1110 e2, h_sw, fun _ _ _ e0 e1 e2 => no9 (o := none) rfl e2, h_swu, fun _ _ _ _ e0 e1 e2 e3 => no9 (o := none) rfl e2, fun _ _ _ _ e0 e1 e2 e3 => no9 (o := none) rfl e1⟩, k_T, k_I, k_F, k_N, k_Y, k_Z, k_A, k_B, k_C, k_X, k_R, k_f4⟩⟩
noncomputable def ru_gE2B : Ru := ([(0, (1199, (0, (0, 0)))), (0, (1105, (0, (0, 0)))), (0, (1113, (0, (0, 0)))), (0, (1114, (0, (0, 0)))), (0, (1115, (0, (0, 0)))), (5, (110, (1, (0, 0)))), (9, (111, (3, (1, 0)))), (4, (0, (0, (3, 0)))), (4, (0, (0, (5, 0))))], ([1107, 1106, 1108, 1110], ([([(3, (-1))], 0), ([(3, 1), (5, (-1))], (-1)), ([(6, 1)], 47), ([(4, 1)], 9), ([(2, 1), (3, (-1))], (-8))], (false, ([], ([], ([(1107, some (8, 0)), (1106, some (3, 0)), (1113, none), (1114, none), (1115, none)], none)))))))
theorem rk_gE2B : RuOk SR ru_gE2B := by
  intro τ m g hi hc ha hS
  obtain ⟨i0, i1, i2, i3, i4, i5, i6, i7, i8, _⟩ := hi
  have t1199 : τ 1199 = some (g 0) := i0
  have t1105 : τ 1105 = some (g 1) := i1
  have t1113 : τ 1113 = some (g 2) := i2
  have t1114 : τ 1114 = some (g 3) := i3
  have t1115 : τ 1115 = some (g 4) := i4
  have xL : g 5 = m 110 1 := i5
  obtain ⟨jb, ub, vb⟩ : ∃ j : Nat, 1 * g 3 + 0 = (j : Int) ∧ g 6 = m 111 j := i6
  have xthree : g 7 = 3 := i7
  have xfive : g 8 = 5 := i8
  obtain ⟨c0, c1, c2, c3, c4, _⟩ := hc
  have c0 : (-1) * g 3 ≤ 0 := d1 c0
  have c1 : 1 * g 3 + (-1) * g 5 ≤ (-1) := d2 c1
  have c2 : 1 * g 6 ≤ 47 := d1 c2
  have c3 : 1 * g 4 ≤ 9 := d1 c3
  have c4 : 1 * g 2 + (-1) * g 3 ≤ (-8) := d2 c4
  obtain ⟨a0, a1, a2, a3, _⟩ := ha
  have n1107 : τ 1107 = none := a0
  have n1106 : τ 1106 = none := a1
  have n1108 : τ 1108 = none := a2
  have n1110 : τ 1110 = none := a3
  obtain ⟨h0, k_tok, k_sc1, k_sc2, k_T, k_I, k_F, k_N, k_Y, k_Z, k_A, k_B, k_C, k_X, k_R, k_f4⟩ := hS (by rw [t1199]; exact fun e => by cases e)
  have k_sc10 := k_sc1
  obtain ⟨h_qz, h_nz, h_s, h_ns, h_nE⟩ := k_sc10
  have k_sc20 := k_sc2
  obtain ⟨h_ske, h_skv, h_sku, h_sw, h_swm, h_swu, h_sf, h_sg⟩ := k_sc20
  obtain ⟨⟨⟨hg1, hg2⟩, hg3, hg4⟩, hg5, hg6, hg7⟩ := h_sg _ _ _ _ t1105 t1113 t1114 t1115
  have hs := h_s _ t1105
  have hfn := fi_n (X := tx9 m) (p := (g 3).toNat) (by rw [by_m (by omega), show (g 3).toNat = jb by omega]; omega)
  have hfe : fe9 (tx9 m) (g 3).toNat = (g 3).toNat := wh_f hfn
  rw [hfe] at hg7
  have eh : fe9 (tx9 m) (g 1).toNat = (g 2).toNat := by omega
  obtain ⟨k1, k2⟩ := kd_f hg5
  rw [eh, hg6, ← hg7] at k1 k2
  rw [decide_eq_false (by omega), decide_eq_true (by omega)] at k1
  simp only [cond_true, cond_false] at k1 k2
  exact ⟨rfl, trivial, trivial, fun _ => ⟨h0, k_tok, k_sc1, ⟨fun s9 k9 e9 e0 e1 e2 => by
      have e0 : g 1 = s9 := Option.some.inj (t1105.symm.trans e0)
      subst e0
      have e1 : g 8 + 0 = k9 := Option.some.inj e1
      subst e1
      have e2 : g 3 + 0 = e9 := Option.some.inj e2
      subst e2
      rw [k1, k2]
      exact ⟨by omega, by omega⟩, fun _ _ _ e0 e1 e2 => no9 n1108 e2, fun _ _ _ e0 e1 e2 => no9 n1110 e2, h_sw, fun _ _ _ e0 e1 e2 => no9 (o := none) rfl e2, h_swu, fun _ _ _ _ e0 e1 e2 e3 => no9 (o := none) rfl e2, fun _ _ _ _ e0 e1 e2 e3 => no9 (o := none) rfl e1⟩, k_T, k_I, k_F, k_N, k_Y, k_Z, k_A, k_B, k_C, k_X, k_R, k_f4⟩⟩
noncomputable def ru_gE2C : Ru := ([(0, (1199, (0, (0, 0)))), (0, (1105, (0, (0, 0)))), (0, (1113, (0, (0, 0)))), (0, (1114, (0, (0, 0)))), (0, (1115, (0, (0, 0)))), (5, (110, (1, (0, 0)))), (9, (111, (3, (1, 0)))), (4, (0, (0, (3, 0)))), (4, (0, (0, (5, 0))))], ([1107, 1106, 1108, 1110], ([([(3, (-1))], 0), ([(3, 1), (5, (-1))], (-1)), ([(6, 1)], 47), ([(4, (-1))], (-10))], (false, ([], ([], ([(1107, some (8, 0)), (1106, some (3, 0)), (1113, none), (1114, none), (1115, none)], none)))))))
theorem rk_gE2C : RuOk SR ru_gE2C := by
  intro τ m g hi hc ha hS
  obtain ⟨i0, i1, i2, i3, i4, i5, i6, i7, i8, _⟩ := hi
  have t1199 : τ 1199 = some (g 0) := i0
  have t1105 : τ 1105 = some (g 1) := i1
  have t1113 : τ 1113 = some (g 2) := i2
  have t1114 : τ 1114 = some (g 3) := i3
  have t1115 : τ 1115 = some (g 4) := i4
  have xL : g 5 = m 110 1 := i5
  obtain ⟨jb, ub, vb⟩ : ∃ j : Nat, 1 * g 3 + 0 = (j : Int) ∧ g 6 = m 111 j := i6
  have xthree : g 7 = 3 := i7
  have xfive : g 8 = 5 := i8
  obtain ⟨c0, c1, c2, c3, _⟩ := hc
  have c0 : (-1) * g 3 ≤ 0 := d1 c0
  have c1 : 1 * g 3 + (-1) * g 5 ≤ (-1) := d2 c1
  have c2 : 1 * g 6 ≤ 47 := d1 c2
  have c3 : (-1) * g 4 ≤ (-10) := d1 c3
  obtain ⟨a0, a1, a2, a3, _⟩ := ha
  have n1107 : τ 1107 = none := a0
  have n1106 : τ 1106 = none := a1
  have n1108 : τ 1108 = none := a2
  have n1110 : τ 1110 = none := a3
  obtain ⟨h0, k_tok, k_sc1, k_sc2, k_T, k_I, k_F, k_N, k_Y, k_Z, k_A, k_B, k_C, k_X, k_R, k_f4⟩ := hS (by rw [t1199]; exact fun e => by cases e)
  have k_sc10 := k_sc1
  obtain ⟨h_qz, h_nz, h_s, h_ns, h_nE⟩ := k_sc10
  have k_sc20 := k_sc2
  obtain ⟨h_ske, h_skv, h_sku, h_sw, h_swm, h_swu, h_sf, h_sg⟩ := k_sc20
  obtain ⟨⟨⟨hg1, hg2⟩, hg3, hg4⟩, hg5, hg6, hg7⟩ := h_sg _ _ _ _ t1105 t1113 t1114 t1115
  have hs := h_s _ t1105
  have hfn := fi_n (X := tx9 m) (p := (g 3).toNat) (by rw [by_m (by omega), show (g 3).toNat = jb by omega]; omega)
  have hfe : fe9 (tx9 m) (g 3).toNat = (g 3).toNat := wh_f hfn
  rw [hfe] at hg7
  have eh : fe9 (tx9 m) (g 1).toNat = (g 2).toNat := by omega
  obtain ⟨k1, k2⟩ := kd_f hg5
  rw [eh, hg6, ← hg7] at k1 k2
  rw [decide_eq_true (by omega)] at k1
  simp only [cond_true, cond_false] at k1 k2
  exact ⟨rfl, trivial, trivial, fun _ => ⟨h0, k_tok, k_sc1, ⟨fun s9 k9 e9 e0 e1 e2 => by
      have e0 : g 1 = s9 := Option.some.inj (t1105.symm.trans e0)
      subst e0
      have e1 : g 8 + 0 = k9 := Option.some.inj e1
      subst e1
      have e2 : g 3 + 0 = e9 := Option.some.inj e2
      subst e2
      rw [k1, k2]
      exact ⟨by omega, by omega⟩, fun _ _ _ e0 e1 e2 => no9 n1108 e2, fun _ _ _ e0 e1 e2 => no9 n1110 e2, h_sw, fun _ _ _ e0 e1 e2 => no9 (o := none) rfl e2, h_swu, fun _ _ _ _ e0 e1 e2 e3 => no9 (o := none) rfl e2, fun _ _ _ _ e0 e1 e2 e3 => no9 (o := none) rfl e1⟩, k_T, k_I, k_F, k_N, k_Y, k_Z, k_A, k_B, k_C, k_X, k_R, k_f4⟩⟩
noncomputable def ru_gE3A : Ru := ([(0, (1199, (0, (0, 0)))), (0, (1105, (0, (0, 0)))), (0, (1113, (0, (0, 0)))), (0, (1114, (0, (0, 0)))), (0, (1115, (0, (0, 0)))), (5, (110, (1, (0, 0)))), (9, (111, (3, (1, 0)))), (4, (0, (0, (3, 0)))), (4, (0, (0, (5, 0))))], ([1107, 1106, 1108, 1110], ([([(3, (-1))], 0), ([(3, 1), (5, (-1))], (-1)), ([(6, (-1))], (-58)), ([(4, 1)], 9), ([(2, (-1)), (3, 1)], 7)], (false, ([], ([], ([(1107, some (7, 0)), (1106, some (3, 0)), (1113, none), (1114, none), (1115, none)], none)))))))
theorem rk_gE3A : RuOk SR ru_gE3A := by
  intro τ m g hi hc ha hS
  obtain ⟨i0, i1, i2, i3, i4, i5, i6, i7, i8, _⟩ := hi
  have t1199 : τ 1199 = some (g 0) := i0
  have t1105 : τ 1105 = some (g 1) := i1
  have t1113 : τ 1113 = some (g 2) := i2
  have t1114 : τ 1114 = some (g 3) := i3
  have t1115 : τ 1115 = some (g 4) := i4
  have xL : g 5 = m 110 1 := i5
  obtain ⟨jb, ub, vb⟩ : ∃ j : Nat, 1 * g 3 + 0 = (j : Int) ∧ g 6 = m 111 j := i6
  have xthree : g 7 = 3 := i7
  have xfive : g 8 = 5 := i8
  obtain ⟨c0, c1, c2, c3, c4, _⟩ := hc
  have c0 : (-1) * g 3 ≤ 0 := d1 c0
  have c1 : 1 * g 3 + (-1) * g 5 ≤ (-1) := d2 c1
  have c2 : (-1) * g 6 ≤ (-58) := d1 c2
  have c3 : 1 * g 4 ≤ 9 := d1 c3
  have c4 : (-1) * g 2 + 1 * g 3 ≤ 7 := d2 c4
  obtain ⟨a0, a1, a2, a3, _⟩ := ha
  have n1107 : τ 1107 = none := a0
  have n1106 : τ 1106 = none := a1
  have n1108 : τ 1108 = none := a2
  have n1110 : τ 1110 = none := a3
  obtain ⟨h0, k_tok, k_sc1, k_sc2, k_T, k_I, k_F, k_N, k_Y, k_Z, k_A, k_B, k_C, k_X, k_R, k_f4⟩ := hS (by rw [t1199]; exact fun e => by cases e)
  have k_sc10 := k_sc1
  obtain ⟨h_qz, h_nz, h_s, h_ns, h_nE⟩ := k_sc10
  have k_sc20 := k_sc2
  obtain ⟨h_ske, h_skv, h_sku, h_sw, h_swm, h_swu, h_sf, h_sg⟩ := k_sc20
  obtain ⟨⟨⟨hg1, hg2⟩, hg3, hg4⟩, hg5, hg6, hg7⟩ := h_sg _ _ _ _ t1105 t1113 t1114 t1115
  have hs := h_s _ t1105
  have hfn := fi_n (X := tx9 m) (p := (g 3).toNat) (by rw [by_m (by omega), show (g 3).toNat = jb by omega]; omega)
  have hfe : fe9 (tx9 m) (g 3).toNat = (g 3).toNat := wh_f hfn
  rw [hfe] at hg7
  have eh : fe9 (tx9 m) (g 1).toNat = (g 2).toNat := by omega
  obtain ⟨k1, k2⟩ := kd_f hg5
  rw [eh, hg6, ← hg7] at k1 k2
  rw [decide_eq_false (by omega), decide_eq_false (by omega)] at k1
  simp only [cond_true, cond_false] at k1 k2
  exact ⟨rfl, trivial, trivial, fun _ => ⟨h0, k_tok, k_sc1, ⟨fun s9 k9 e9 e0 e1 e2 => by
      have e0 : g 1 = s9 := Option.some.inj (t1105.symm.trans e0)
      subst e0
      have e1 : g 7 + 0 = k9 := Option.some.inj e1
      subst e1
      have e2 : g 3 + 0 = e9 := Option.some.inj e2
      subst e2
      rw [k1, k2]
      exact ⟨by omega, by omega⟩, fun _ _ _ e0 e1 e2 => no9 n1108 e2, fun _ _ _ e0 e1 e2 => no9 n1110 e2, h_sw, fun _ _ _ e0 e1 e2 => no9 (o := none) rfl e2, h_swu, fun _ _ _ _ e0 e1 e2 e3 => no9 (o := none) rfl e2, fun _ _ _ _ e0 e1 e2 e3 => no9 (o := none) rfl e1⟩, k_T, k_I, k_F, k_N, k_Y, k_Z, k_A, k_B, k_C, k_X, k_R, k_f4⟩⟩
noncomputable def ru_gE3B : Ru := ([(0, (1199, (0, (0, 0)))), (0, (1105, (0, (0, 0)))), (0, (1113, (0, (0, 0)))), (0, (1114, (0, (0, 0)))), (0, (1115, (0, (0, 0)))), (5, (110, (1, (0, 0)))), (9, (111, (3, (1, 0)))), (4, (0, (0, (3, 0)))), (4, (0, (0, (5, 0))))], ([1107, 1106, 1108, 1110], ([([(3, (-1))], 0), ([(3, 1), (5, (-1))], (-1)), ([(6, (-1))], (-58)), ([(4, 1)], 9), ([(2, 1), (3, (-1))], (-8))], (false, ([], ([], ([(1107, some (8, 0)), (1106, some (3, 0)), (1113, none), (1114, none), (1115, none)], none)))))))
theorem rk_gE3B : RuOk SR ru_gE3B := by
  intro τ m g hi hc ha hS
  obtain ⟨i0, i1, i2, i3, i4, i5, i6, i7, i8, _⟩ := hi
  have t1199 : τ 1199 = some (g 0) := i0
  have t1105 : τ 1105 = some (g 1) := i1
  have t1113 : τ 1113 = some (g 2) := i2
  have t1114 : τ 1114 = some (g 3) := i3
  have t1115 : τ 1115 = some (g 4) := i4
  have xL : g 5 = m 110 1 := i5
  obtain ⟨jb, ub, vb⟩ : ∃ j : Nat, 1 * g 3 + 0 = (j : Int) ∧ g 6 = m 111 j := i6
  have xthree : g 7 = 3 := i7
  have xfive : g 8 = 5 := i8
  obtain ⟨c0, c1, c2, c3, c4, _⟩ := hc
  have c0 : (-1) * g 3 ≤ 0 := d1 c0
  have c1 : 1 * g 3 + (-1) * g 5 ≤ (-1) := d2 c1
  have c2 : (-1) * g 6 ≤ (-58) := d1 c2
  have c3 : 1 * g 4 ≤ 9 := d1 c3
  have c4 : 1 * g 2 + (-1) * g 3 ≤ (-8) := d2 c4
  obtain ⟨a0, a1, a2, a3, _⟩ := ha
  have n1107 : τ 1107 = none := a0
  have n1106 : τ 1106 = none := a1
  have n1108 : τ 1108 = none := a2
  have n1110 : τ 1110 = none := a3
  obtain ⟨h0, k_tok, k_sc1, k_sc2, k_T, k_I, k_F, k_N, k_Y, k_Z, k_A, k_B, k_C, k_X, k_R, k_f4⟩ := hS (by rw [t1199]; exact fun e => by cases e)
  have k_sc10 := k_sc1
  obtain ⟨h_qz, h_nz, h_s, h_ns, h_nE⟩ := k_sc10
  have k_sc20 := k_sc2
  obtain ⟨h_ske, h_skv, h_sku, h_sw, h_swm, h_swu, h_sf, h_sg⟩ := k_sc20
  obtain ⟨⟨⟨hg1, hg2⟩, hg3, hg4⟩, hg5, hg6, hg7⟩ := h_sg _ _ _ _ t1105 t1113 t1114 t1115
  have hs := h_s _ t1105
  have hfn := fi_n (X := tx9 m) (p := (g 3).toNat) (by rw [by_m (by omega), show (g 3).toNat = jb by omega]; omega)
  have hfe : fe9 (tx9 m) (g 3).toNat = (g 3).toNat := wh_f hfn
  rw [hfe] at hg7
  have eh : fe9 (tx9 m) (g 1).toNat = (g 2).toNat := by omega
  obtain ⟨k1, k2⟩ := kd_f hg5
  rw [eh, hg6, ← hg7] at k1 k2
  rw [decide_eq_false (by omega), decide_eq_true (by omega)] at k1
  simp only [cond_true, cond_false] at k1 k2
  exact ⟨rfl, trivial, trivial, fun _ => ⟨h0, k_tok, k_sc1, ⟨fun s9 k9 e9 e0 e1 e2 => by
      have e0 : g 1 = s9 := Option.some.inj (t1105.symm.trans e0)
      subst e0
      have e1 : g 8 + 0 = k9 := Option.some.inj e1
      subst e1
      have e2 : g 3 + 0 = e9 := Option.some.inj e2
      subst e2
      rw [k1, k2]
      exact ⟨by omega, by omega⟩, fun _ _ _ e0 e1 e2 => no9 n1108 e2, fun _ _ _ e0 e1 e2 => no9 n1110 e2, h_sw, fun _ _ _ e0 e1 e2 => no9 (o := none) rfl e2, h_swu, fun _ _ _ _ e0 e1 e2 e3 => no9 (o := none) rfl e2, fun _ _ _ _ e0 e1 e2 e3 => no9 (o := none) rfl e1⟩, k_T, k_I, k_F, k_N, k_Y, k_Z, k_A, k_B, k_C, k_X, k_R, k_f4⟩⟩
noncomputable def ru_gE3C : Ru := ([(0, (1199, (0, (0, 0)))), (0, (1105, (0, (0, 0)))), (0, (1113, (0, (0, 0)))), (0, (1114, (0, (0, 0)))), (0, (1115, (0, (0, 0)))), (5, (110, (1, (0, 0)))), (9, (111, (3, (1, 0)))), (4, (0, (0, (3, 0)))), (4, (0, (0, (5, 0))))], ([1107, 1106, 1108, 1110], ([([(3, (-1))], 0), ([(3, 1), (5, (-1))], (-1)), ([(6, (-1))], (-58)), ([(4, (-1))], (-10))], (false, ([], ([], ([(1107, some (8, 0)), (1106, some (3, 0)), (1113, none), (1114, none), (1115, none)], none)))))))
theorem rk_gE3C : RuOk SR ru_gE3C := by
  intro τ m g hi hc ha hS
  obtain ⟨i0, i1, i2, i3, i4, i5, i6, i7, i8, _⟩ := hi
  have t1199 : τ 1199 = some (g 0) := i0
  have t1105 : τ 1105 = some (g 1) := i1
  have t1113 : τ 1113 = some (g 2) := i2
  have t1114 : τ 1114 = some (g 3) := i3
  have t1115 : τ 1115 = some (g 4) := i4
  have xL : g 5 = m 110 1 := i5
  obtain ⟨jb, ub, vb⟩ : ∃ j : Nat, 1 * g 3 + 0 = (j : Int) ∧ g 6 = m 111 j := i6
  have xthree : g 7 = 3 := i7
  have xfive : g 8 = 5 := i8
  obtain ⟨c0, c1, c2, c3, _⟩ := hc
  have c0 : (-1) * g 3 ≤ 0 := d1 c0
  have c1 : 1 * g 3 + (-1) * g 5 ≤ (-1) := d2 c1
  have c2 : (-1) * g 6 ≤ (-58) := d1 c2
  have c3 : (-1) * g 4 ≤ (-10) := d1 c3
  obtain ⟨a0, a1, a2, a3, _⟩ := ha
  have n1107 : τ 1107 = none := a0
  have n1106 : τ 1106 = none := a1
  have n1108 : τ 1108 = none := a2
  have n1110 : τ 1110 = none := a3
  obtain ⟨h0, k_tok, k_sc1, k_sc2, k_T, k_I, k_F, k_N, k_Y, k_Z, k_A, k_B, k_C, k_X, k_R, k_f4⟩ := hS (by rw [t1199]; exact fun e => by cases e)
  have k_sc10 := k_sc1
  obtain ⟨h_qz, h_nz, h_s, h_ns, h_nE⟩ := k_sc10
  have k_sc20 := k_sc2
  obtain ⟨h_ske, h_skv, h_sku, h_sw, h_swm, h_swu, h_sf, h_sg⟩ := k_sc20
  obtain ⟨⟨⟨hg1, hg2⟩, hg3, hg4⟩, hg5, hg6, hg7⟩ := h_sg _ _ _ _ t1105 t1113 t1114 t1115
  have hs := h_s _ t1105
  have hfn := fi_n (X := tx9 m) (p := (g 3).toNat) (by rw [by_m (by omega), show (g 3).toNat = jb by omega]; omega)
  have hfe : fe9 (tx9 m) (g 3).toNat = (g 3).toNat := wh_f hfn
  rw [hfe] at hg7
  have eh : fe9 (tx9 m) (g 1).toNat = (g 2).toNat := by omega
  obtain ⟨k1, k2⟩ := kd_f hg5
  rw [eh, hg6, ← hg7] at k1 k2
  rw [decide_eq_true (by omega)] at k1
  simp only [cond_true, cond_false] at k1 k2
  exact ⟨rfl, trivial, trivial, fun _ => ⟨h0, k_tok, k_sc1, ⟨fun s9 k9 e9 e0 e1 e2 => by
      have e0 : g 1 = s9 := Option.some.inj (t1105.symm.trans e0)
      subst e0
      have e1 : g 8 + 0 = k9 := Option.some.inj e1
      subst e1
      have e2 : g 3 + 0 = e9 := Option.some.inj e2
      subst e2
      rw [k1, k2]
      exact ⟨by omega, by omega⟩, fun _ _ _ e0 e1 e2 => no9 n1108 e2, fun _ _ _ e0 e1 e2 => no9 n1110 e2, h_sw, fun _ _ _ e0 e1 e2 => no9 (o := none) rfl e2, h_swu, fun _ _ _ _ e0 e1 e2 e3 => no9 (o := none) rfl e2, fun _ _ _ _ e0 e1 e2 e3 => no9 (o := none) rfl e1⟩, k_T, k_I, k_F, k_N, k_Y, k_Z, k_A, k_B, k_C, k_X, k_R, k_f4⟩⟩
noncomputable def ru_sga : Ru := ([(0, (1199, (0, (0, 0)))), (0, (1105, (0, (0, 0)))), (9, (111, (1, (1, 0)))), (5, (110, (1, (0, 0)))), (4, (0, (0, (4, 0)))), (12, (0, (2, (0, 0))))], ([1106, 1107, 1108, 1109, 1110, 1111, 1112, 1113, 1114, 1115], ([([(1, (-1))], 0), ([(1, 1), (3, (-1))], (-1)), ([(2, 1)], 59), ([(5, (-1))], (-4))], (false, ([], ([], ([(1107, some (4, 0)), (1106, some (1, 1)), (1108, some (5, 0))], none)))))))
theorem rk_sga : RuOk SR ru_sga := by
  intro τ m g hi hc ha hS
  obtain ⟨i0, i1, i2, i3, i4, i5, _⟩ := hi
  have t1199 : τ 1199 = some (g 0) := i0
  have t1105 : τ 1105 = some (g 1) := i1
  obtain ⟨jb, ub, vb⟩ : ∃ j : Nat, 1 * g 1 + 0 = (j : Int) ∧ g 2 = m 111 j := i2
  have xL : g 3 = m 110 1 := i3
  have xfour : g 4 = 4 := i4
  have xc : g 5 = tb9 0 (g 2) := i5
  obtain ⟨c0, c1, c2, c3, _⟩ := hc
  have c0 : (-1) * g 1 ≤ 0 := d1 c0
  have c1 : 1 * g 1 + (-1) * g 3 ≤ (-1) := d2 c1
  have c2 : 1 * g 2 ≤ 59 := d1 c2
  have c3 : (-1) * g 5 ≤ (-4) := d1 c3
  obtain ⟨a0, a1, a2, a3, a4, a5, a6, a7, a8, a9, _⟩ := ha
  have n1106 : τ 1106 = none := a0
  have n1107 : τ 1107 = none := a1
  have n1108 : τ 1108 = none := a2
  have n1109 : τ 1109 = none := a3
  have n1110 : τ 1110 = none := a4
  have n1111 : τ 1111 = none := a5
  have n1112 : τ 1112 = none := a6
  have n1113 : τ 1113 = none := a7
  have n1114 : τ 1114 = none := a8
  have n1115 : τ 1115 = none := a9
  obtain ⟨h0, k_tok, k_sc1, k_sc2, k_T, k_I, k_F, k_N, k_Y, k_Z, k_A, k_B, k_C, k_X, k_R, k_f4⟩ := hS (by rw [t1199]; exact fun e => by cases e)
  have k_sc10 := k_sc1
  obtain ⟨h_qz, h_nz, h_s, h_ns, h_nE⟩ := k_sc10
  have k_sc20 := k_sc2
  obtain ⟨h_ske, h_skv, h_sku, h_sw, h_swm, h_swu, h_sf, h_sg⟩ := k_sc20
  have hs := h_s _ t1105
  have hby : by9 (tx9 m) (g 1).toNat = g 2 := by rw [by_m (by omega), show (g 1).toNat = jb by omega]; exact vb.symm
  obtain ⟨k1, k2, k3⟩ := sg_1 hby (by omega) (pr_n (by omega))
  exact ⟨rfl, trivial, trivial, fun _ => ⟨h0, k_tok, k_sc1, ⟨fun s9 k9 e9 e0 e1 e2 => by
      have e0 : g 1 = s9 := Option.some.inj (t1105.symm.trans e0)
      subst e0
      have e1 : g 4 + 0 = k9 := Option.some.inj e1
      subst e1
      have e2 : g 1 + 1 = e9 := Option.some.inj e2
      subst e2
      rw [k1, k2]
      exact ⟨by omega, by omega⟩, fun s9 k9 v9 e0 e1 e2 => by
      have e0 : g 1 = s9 := Option.some.inj (t1105.symm.trans e0)
      subst e0
      have e1 : g 4 + 0 = k9 := Option.some.inj e1
      subst e1
      have e2 : g 5 + 0 = v9 := Option.some.inj e2
      subst e2
      exact ⟨fun z => by omega, fun z => by omega⟩, fun _ _ _ e0 e1 e2 => no9 n1110 e2, h_sw, h_swm, h_swu, h_sf, h_sg⟩, k_T, k_I, k_F, k_N, k_Y, k_Z, k_A, k_B, k_C, k_X, k_R, k_f4⟩⟩
noncomputable def ru_sgb : Ru := ([(0, (1199, (0, (0, 0)))), (0, (1105, (0, (0, 0)))), (9, (111, (1, (1, 0)))), (5, (110, (1, (0, 0)))), (4, (0, (0, (4, 0)))), (12, (0, (2, (0, 0))))], ([1106, 1107, 1108, 1109, 1110, 1111, 1112, 1113, 1114, 1115], ([([(1, (-1))], 0), ([(1, 1), (3, (-1))], (-1)), ([(2, 1)], 61), ([(2, (-1))], (-61)), ([(5, (-1))], (-4))], (false, ([], ([], ([(1107, some (4, 0)), (1106, some (1, 1)), (1108, some (5, 0))], none)))))))
theorem rk_sgb : RuOk SR ru_sgb := by
  intro τ m g hi hc ha hS
  obtain ⟨i0, i1, i2, i3, i4, i5, _⟩ := hi
  have t1199 : τ 1199 = some (g 0) := i0
  have t1105 : τ 1105 = some (g 1) := i1
  obtain ⟨jb, ub, vb⟩ : ∃ j : Nat, 1 * g 1 + 0 = (j : Int) ∧ g 2 = m 111 j := i2
  have xL : g 3 = m 110 1 := i3
  have xfour : g 4 = 4 := i4
  have xc : g 5 = tb9 0 (g 2) := i5
  obtain ⟨c0, c1, c2, c3, c4, _⟩ := hc
  have c0 : (-1) * g 1 ≤ 0 := d1 c0
  have c1 : 1 * g 1 + (-1) * g 3 ≤ (-1) := d2 c1
  have c2 : 1 * g 2 ≤ 61 := d1 c2
  have c3 : (-1) * g 2 ≤ (-61) := d1 c3
  have c4 : (-1) * g 5 ≤ (-4) := d1 c4
  obtain ⟨a0, a1, a2, a3, a4, a5, a6, a7, a8, a9, _⟩ := ha
  have n1106 : τ 1106 = none := a0
  have n1107 : τ 1107 = none := a1
  have n1108 : τ 1108 = none := a2
  have n1109 : τ 1109 = none := a3
  have n1110 : τ 1110 = none := a4
  have n1111 : τ 1111 = none := a5
  have n1112 : τ 1112 = none := a6
  have n1113 : τ 1113 = none := a7
  have n1114 : τ 1114 = none := a8
  have n1115 : τ 1115 = none := a9
  obtain ⟨h0, k_tok, k_sc1, k_sc2, k_T, k_I, k_F, k_N, k_Y, k_Z, k_A, k_B, k_C, k_X, k_R, k_f4⟩ := hS (by rw [t1199]; exact fun e => by cases e)
  have k_sc10 := k_sc1
  obtain ⟨h_qz, h_nz, h_s, h_ns, h_nE⟩ := k_sc10
  have k_sc20 := k_sc2
  obtain ⟨h_ske, h_skv, h_sku, h_sw, h_swm, h_swu, h_sf, h_sg⟩ := k_sc20
  have hs := h_s _ t1105
  have hby : by9 (tx9 m) (g 1).toNat = g 2 := by rw [by_m (by omega), show (g 1).toNat = jb by omega]; exact vb.symm
  obtain ⟨k1, k2, k3⟩ := sg_1 hby (by omega) (pr_n (by omega))
  exact ⟨rfl, trivial, trivial, fun _ => ⟨h0, k_tok, k_sc1, ⟨fun s9 k9 e9 e0 e1 e2 => by
      have e0 : g 1 = s9 := Option.some.inj (t1105.symm.trans e0)
      subst e0
      have e1 : g 4 + 0 = k9 := Option.some.inj e1
      subst e1
      have e2 : g 1 + 1 = e9 := Option.some.inj e2
      subst e2
      rw [k1, k2]
      exact ⟨by omega, by omega⟩, fun s9 k9 v9 e0 e1 e2 => by
      have e0 : g 1 = s9 := Option.some.inj (t1105.symm.trans e0)
      subst e0
      have e1 : g 4 + 0 = k9 := Option.some.inj e1
      subst e1
      have e2 : g 5 + 0 = v9 := Option.some.inj e2
      subst e2
      exact ⟨fun z => by omega, fun z => by omega⟩, fun _ _ _ e0 e1 e2 => no9 n1110 e2, h_sw, h_swm, h_swu, h_sf, h_sg⟩, k_T, k_I, k_F, k_N, k_Y, k_Z, k_A, k_B, k_C, k_X, k_R, k_f4⟩⟩
end
