noncomputable section
/-! ===== THE READER, 75: rules ===== -/
noncomputable def ru_sgc : Ru := ([(0, (1199, (0, (0, 0)))), (0, (1105, (0, (0, 0)))), (9, (111, (1, (1, 0)))), (5, (110, (1, (0, 0)))), (4, (0, (0, (4, 0)))), (12, (0, (2, (0, 0))))], ([1106, 1107, 1108, 1109, 1110, 1111, 1112, 1113, 1114, 1115], ([([(1, (-1))], 0), ([(1, 1), (3, (-1))], (-1)), ([(2, (-1))], (-63)), ([(5, (-1))], (-4))], (false, ([], ([], ([(1107, some (4, 0)), (1106, some (1, 1)), (1108, some (5, 0))], none)))))))
theorem rk_sgc : RuOk SR ru_sgc := by
  intro τ m g hi hc ha hS
  obtain ⟨i0, i1, i2, i3, i4, i5, _⟩ := hi
  have t1199 : τ 1199 = some (g 0) := i0
  have t1105 : τ 1105 = some (g 1) := i1
  obtain ⟨jb, ub, vb⟩ : ∃ j : Nat, 1 * g 1 + 0 = (j : Int) ∧ g 2 = m 111 j := i2
  have xL : g 3 = m 110 1 := i3
  have xfour : g 4 = 4 := i4
  have xc : g 5 = tb9 0 (g 2) := i5
  obtain ⟨c0, c1, c2, c3, _⟩ := hc
  have c0 : (-1) * g 1 ≤ 0 := d1 c0
  have c1 : 1 * g 1 + (-1) * g 3 ≤ (-1) := d2 c1
  have c2 : (-1) * g 2 ≤ (-63) := d1 c2
  have c3 : (-1) * g 5 ≤ (-4) := d1 c3
  obtain ⟨a0, a1, a2, a3, a4, a5, a6, a7, a8, a9, _⟩ := ha
  have n1106 : τ 1106 = none := a0
  have n1107 : τ 1107 = none := a1
  have n1108 : τ 1108 = none := a2
  have n1109 : τ 1109 = none := a3
  have n1110 : τ 1110 = none := a4
  have n1111 : τ 1111 = none := a5
  have n1112 : τ 1112 = none := a6
  have n1113 : τ 1113 = none := a7
  have n1114 : τ 1114 = none := a8
  have n1115 : τ 1115 = none := a9
  obtain ⟨h0, k_tok, k_sc1, k_sc2, k_T, k_I, k_F, k_N, k_Y, k_Z, k_A, k_B, k_C, k_X, k_R, k_f4⟩ := hS (by rw [t1199]; exact fun e => by cases e)
  have k_sc10 := k_sc1
  obtain ⟨h_qz, h_nz, h_s, h_ns, h_nE⟩ := k_sc10
  have k_sc20 := k_sc2
  obtain ⟨h_ske, h_skv, h_sku, h_sw, h_swm, h_swu, h_sf, h_sg⟩ := k_sc20
  have hs := h_s _ t1105
  have hby : by9 (tx9 m) (g 1).toNat = g 2 := by rw [by_m (by omega), show (g 1).toNat = jb by omega]; exact vb.symm
  obtain ⟨k1, k2, k3⟩ := sg_1 hby (by omega) (pr_n (by omega))
  exact ⟨rfl, trivial, trivial, fun _ => ⟨h0, k_tok, k_sc1, ⟨fun s9 k9 e9 e0 e1 e2 => by
      have e0 : g 1 = s9 := Option.some.inj (t1105.symm.trans e0)
      subst e0
      have e1 : g 4 + 0 = k9 := Option.some.inj e1
      subst e1
      have e2 : g 1 + 1 = e9 := Option.some.inj e2
      subst e2
      rw [k1, k2]
      exact ⟨by omega, by omega⟩, fun s9 k9 v9 e0 e1 e2 => by
      have e0 : g 1 = s9 := Option.some.inj (t1105.symm.trans e0)
      subst e0
      have e1 : g 4 + 0 = k9 := Option.some.inj e1
      subst e1
      have e2 : g 5 + 0 = v9 := Option.some.inj e2
      subst e2
      exact ⟨fun z => by omega, fun z => by omega⟩, fun _ _ _ e0 e1 e2 => no9 n1110 e2, h_sw, h_swm, h_swu, h_sf, h_sg⟩, k_T, k_I, k_F, k_N, k_Y, k_Z, k_A, k_B, k_C, k_X, k_R, k_f4⟩⟩
noncomputable def ru_sgd : Ru := ([(0, (1199, (0, (0, 0)))), (0, (1105, (0, (0, 0)))), (9, (111, (1, (1, 0)))), (5, (110, (1, (0, 0)))), (4, (0, (0, (4, 0)))), (12, (0, (2, (0, 0)))), (9, (111, (1, (1, 1))))], ([1106, 1107, 1108, 1109, 1110, 1111, 1112, 1113, 1114, 1115], ([([(1, (-1))], 0), ([(1, 1), (3, (-1))], (-1)), ([(2, 1)], 60), ([(2, (-1))], (-60)), ([(1, 1), (3, (-1))], (-2)), ([(6, 1)], 60), ([(5, (-1))], (-4))], (false, ([], ([], ([(1107, some (4, 0)), (1106, some (1, 1)), (1108, some (5, 0))], none)))))))
theorem rk_sgd : RuOk SR ru_sgd := by
  intro τ m g hi hc ha hS
  obtain ⟨i0, i1, i2, i3, i4, i5, i6, _⟩ := hi
  have t1199 : τ 1199 = some (g 0) := i0
  have t1105 : τ 1105 = some (g 1) := i1
  obtain ⟨jb, ub, vb⟩ : ∃ j : Nat, 1 * g 1 + 0 = (j : Int) ∧ g 2 = m 111 j := i2
  have xL : g 3 = m 110 1 := i3
  have xfour : g 4 = 4 := i4
  have xc : g 5 = tb9 0 (g 2) := i5
  obtain ⟨jd, ud, vd⟩ : ∃ j : Nat, 1 * g 1 + 1 = (j : Int) ∧ g 6 = m 111 j := i6
  obtain ⟨c0, c1, c2, c3, c4, c5, c6, _⟩ := hc
  have c0 : (-1) * g 1 ≤ 0 := d1 c0
  have c1 : 1 * g 1 + (-1) * g 3 ≤ (-1) := d2 c1
  have c2 : 1 * g 2 ≤ 60 := d1 c2
  have c3 : (-1) * g 2 ≤ (-60) := d1 c3
  have c4 : 1 * g 1 + (-1) * g 3 ≤ (-2) := d2 c4
  have c5 : 1 * g 6 ≤ 60 := d1 c5
  have c6 : (-1) * g 5 ≤ (-4) := d1 c6
  obtain ⟨a0, a1, a2, a3, a4, a5, a6, a7, a8, a9, _⟩ := ha
  have n1106 : τ 1106 = none := a0
  have n1107 : τ 1107 = none := a1
  have n1108 : τ 1108 = none := a2
  have n1109 : τ 1109 = none := a3
  have n1110 : τ 1110 = none := a4
  have n1111 : τ 1111 = none := a5
  have n1112 : τ 1112 = none := a6
  have n1113 : τ 1113 = none := a7
  have n1114 : τ 1114 = none := a8
  have n1115 : τ 1115 = none := a9
  obtain ⟨h0, k_tok, k_sc1, k_sc2, k_T, k_I, k_F, k_N, k_Y, k_Z, k_A, k_B, k_C, k_X, k_R, k_f4⟩ := hS (by rw [t1199]; exact fun e => by cases e)
  have k_sc10 := k_sc1
  obtain ⟨h_qz, h_nz, h_s, h_ns, h_nE⟩ := k_sc10
  have k_sc20 := k_sc2
  obtain ⟨h_ske, h_skv, h_sku, h_sw, h_swm, h_swu, h_sf, h_sg⟩ := k_sc20
  have hs := h_s _ t1105
  have hby : by9 (tx9 m) (g 1).toNat = g 2 := by rw [by_m (by omega), show (g 1).toNat = jb by omega]; exact vb.symm
  have hd1 : by9 (tx9 m) ((g 1).toNat + 1) = g 6 := by rw [by_m (by omega), show (g 1).toNat + 1 = jd by omega]; exact vd.symm
  obtain ⟨k1, k2, k3⟩ := sg_1 hby (by omega) (pr_n (by omega))
  exact ⟨rfl, trivial, trivial, fun _ => ⟨h0, k_tok, k_sc1, ⟨fun s9 k9 e9 e0 e1 e2 => by
      have e0 : g 1 = s9 := Option.some.inj (t1105.symm.trans e0)
      subst e0
      have e1 : g 4 + 0 = k9 := Option.some.inj e1
      subst e1
      have e2 : g 1 + 1 = e9 := Option.some.inj e2
      subst e2
      rw [k1, k2]
      exact ⟨by omega, by omega⟩, fun s9 k9 v9 e0 e1 e2 => by
      have e0 : g 1 = s9 := Option.some.inj (t1105.symm.trans e0)
      subst e0
      have e1 : g 4 + 0 = k9 := Option.some.inj e1
      subst e1
      have e2 : g 5 + 0 = v9 := Option.some.inj e2
      subst e2
      exact ⟨fun z => by omega, fun z => by omega⟩, fun _ _ _ e0 e1 e2 => no9 n1110 e2, h_sw, h_swm, h_swu, h_sf, h_sg⟩, k_T, k_I, k_F, k_N, k_Y, k_Z, k_A, k_B, k_C, k_X, k_R, k_f4⟩⟩
noncomputable def ru_sge : Ru := ([(0, (1199, (0, (0, 0)))), (0, (1105, (0, (0, 0)))), (9, (111, (1, (1, 0)))), (5, (110, (1, (0, 0)))), (4, (0, (0, (4, 0)))), (12, (0, (2, (0, 0)))), (9, (111, (1, (1, 1))))], ([1106, 1107, 1108, 1109, 1110, 1111, 1112, 1113, 1114, 1115], ([([(1, (-1))], 0), ([(1, 1), (3, (-1))], (-1)), ([(2, 1)], 60), ([(2, (-1))], (-60)), ([(1, 1), (3, (-1))], (-2)), ([(6, (-1))], (-63)), ([(5, (-1))], (-4))], (false, ([], ([], ([(1107, some (4, 0)), (1106, some (1, 1)), (1108, some (5, 0))], none)))))))
theorem rk_sge : RuOk SR ru_sge := by
  intro τ m g hi hc ha hS
  obtain ⟨i0, i1, i2, i3, i4, i5, i6, _⟩ := hi
  have t1199 : τ 1199 = some (g 0) := i0
  have t1105 : τ 1105 = some (g 1) := i1
  obtain ⟨jb, ub, vb⟩ : ∃ j : Nat, 1 * g 1 + 0 = (j : Int) ∧ g 2 = m 111 j := i2
  have xL : g 3 = m 110 1 := i3
  have xfour : g 4 = 4 := i4
  have xc : g 5 = tb9 0 (g 2) := i5
  obtain ⟨jd, ud, vd⟩ : ∃ j : Nat, 1 * g 1 + 1 = (j : Int) ∧ g 6 = m 111 j := i6
  obtain ⟨c0, c1, c2, c3, c4, c5, c6, _⟩ := hc
  have c0 : (-1) * g 1 ≤ 0 := d1 c0
  have c1 : 1 * g 1 + (-1) * g 3 ≤ (-1) := d2 c1
  have c2 : 1 * g 2 ≤ 60 := d1 c2
  have c3 : (-1) * g 2 ≤ (-60) := d1 c3
  have c4 : 1 * g 1 + (-1) * g 3 ≤ (-2) := d2 c4
  have c5 : (-1) * g 6 ≤ (-63) := d1 c5
  have c6 : (-1) * g 5 ≤ (-4) := d1 c6
  obtain ⟨a0, a1, a2, a3, a4, a5, a6, a7, a8, a9, _⟩ := ha
  have n1106 : τ 1106 = none := a0
  have n1107 : τ 1107 = none := a1
  have n1108 : τ 1108 = none := a2
  have n1109 : τ 1109 = none := a3
  have n1110 : τ 1110 = none := a4
  have n1111 : τ 1111 = none := a5
  have n1112 : τ 1112 = none := a6
  have n1113 : τ 1113 = none := a7
  have n1114 : τ 1114 = none := a8
  have n1115 : τ 1115 = none := a9
  obtain ⟨h0, k_tok, k_sc1, k_sc2, k_T, k_I, k_F, k_N, k_Y, k_Z, k_A, k_B, k_C, k_X, k_R, k_f4⟩ := hS (by rw [t1199]; exact fun e => by cases e)
  have k_sc10 := k_sc1
  obtain ⟨h_qz, h_nz, h_s, h_ns, h_nE⟩ := k_sc10
  have k_sc20 := k_sc2
  obtain ⟨h_ske, h_skv, h_sku, h_sw, h_swm, h_swu, h_sf, h_sg⟩ := k_sc20
  have hs := h_s _ t1105
  have hby : by9 (tx9 m) (g 1).toNat = g 2 := by rw [by_m (by omega), show (g 1).toNat = jb by omega]; exact vb.symm
  have hd1 : by9 (tx9 m) ((g 1).toNat + 1) = g 6 := by rw [by_m (by omega), show (g 1).toNat + 1 = jd by omega]; exact vd.symm
  obtain ⟨k1, k2, k3⟩ := sg_1 hby (by omega) (pr_n (by omega))
  exact ⟨rfl, trivial, trivial, fun _ => ⟨h0, k_tok, k_sc1, ⟨fun s9 k9 e9 e0 e1 e2 => by
      have e0 : g 1 = s9 := Option.some.inj (t1105.symm.trans e0)
      subst e0
      have e1 : g 4 + 0 = k9 := Option.some.inj e1
      subst e1
      have e2 : g 1 + 1 = e9 := Option.some.inj e2
      subst e2
      rw [k1, k2]
      exact ⟨by omega, by omega⟩, fun s9 k9 v9 e0 e1 e2 => by
      have e0 : g 1 = s9 := Option.some.inj (t1105.symm.trans e0)
      subst e0
      have e1 : g 4 + 0 = k9 := Option.some.inj e1
      subst e1
      have e2 : g 5 + 0 = v9 := Option.some.inj e2
      subst e2
      exact ⟨fun z => by omega, fun z => by omega⟩, fun _ _ _ e0 e1 e2 => no9 n1110 e2, h_sw, h_swm, h_swu, h_sf, h_sg⟩, k_T, k_I, k_F, k_N, k_Y, k_Z, k_A, k_B, k_C, k_X, k_R, k_f4⟩⟩
noncomputable def ru_sgf : Ru := ([(0, (1199, (0, (0, 0)))), (0, (1105, (0, (0, 0)))), (9, (111, (1, (1, 0)))), (5, (110, (1, (0, 0)))), (4, (0, (0, (4, 0)))), (12, (0, (2, (0, 0))))], ([1106, 1107, 1108, 1109, 1110, 1111, 1112, 1113, 1114, 1115], ([([(1, (-1))], 0), ([(1, 1), (3, (-1))], (-1)), ([(2, 1)], 60), ([(2, (-1))], (-60)), ([(1, (-1)), (3, 1)], 1), ([(5, (-1))], (-4))], (false, ([], ([], ([(1107, some (4, 0)), (1106, some (1, 1)), (1108, some (5, 0))], none)))))))
theorem rk_sgf : RuOk SR ru_sgf := by
  intro τ m g hi hc ha hS
  obtain ⟨i0, i1, i2, i3, i4, i5, _⟩ := hi
  have t1199 : τ 1199 = some (g 0) := i0
  have t1105 : τ 1105 = some (g 1) := i1
  obtain ⟨jb, ub, vb⟩ : ∃ j : Nat, 1 * g 1 + 0 = (j : Int) ∧ g 2 = m 111 j := i2
  have xL : g 3 = m 110 1 := i3
  have xfour : g 4 = 4 := i4
  have xc : g 5 = tb9 0 (g 2) := i5
  obtain ⟨c0, c1, c2, c3, c4, c5, _⟩ := hc
  have c0 : (-1) * g 1 ≤ 0 := d1 c0
  have c1 : 1 * g 1 + (-1) * g 3 ≤ (-1) := d2 c1
  have c2 : 1 * g 2 ≤ 60 := d1 c2
  have c3 : (-1) * g 2 ≤ (-60) := d1 c3
  have c4 : (-1) * g 1 + 1 * g 3 ≤ 1 := d2 c4
  have c5 : (-1) * g 5 ≤ (-4) := d1 c5
  obtain ⟨a0, a1, a2, a3, a4, a5, a6, a7, a8, a9, _⟩ := ha
  have n1106 : τ 1106 = none := a0
  have n1107 : τ 1107 = none := a1
  have n1108 : τ 1108 = none := a2
  have n1109 : τ 1109 = none := a3
  have n1110 : τ 1110 = none := a4
  have n1111 : τ 1111 = none := a5
  have n1112 : τ 1112 = none := a6
  have n1113 : τ 1113 = none := a7
  have n1114 : τ 1114 = none := a8
  have n1115 : τ 1115 = none := a9
  obtain ⟨h0, k_tok, k_sc1, k_sc2, k_T, k_I, k_F, k_N, k_Y, k_Z, k_A, k_B, k_C, k_X, k_R, k_f4⟩ := hS (by rw [t1199]; exact fun e => by cases e)
  have k_sc10 := k_sc1
  obtain ⟨h_qz, h_nz, h_s, h_ns, h_nE⟩ := k_sc10
  have k_sc20 := k_sc2
  obtain ⟨h_ske, h_skv, h_sku, h_sw, h_swm, h_swu, h_sf, h_sg⟩ := k_sc20
  have hs := h_s _ t1105
  have hby : by9 (tx9 m) (g 1).toNat = g 2 := by rw [by_m (by omega), show (g 1).toNat = jb by omega]; exact vb.symm
  have hd1 : by9 (tx9 m) ((g 1).toNat + 1) = -1 := by_e (by omega)
  obtain ⟨k1, k2, k3⟩ := sg_1 hby (by omega) (pr_n (by omega))
  exact ⟨rfl, trivial, trivial, fun _ => ⟨h0, k_tok, k_sc1, ⟨fun s9 k9 e9 e0 e1 e2 => by
      have e0 : g 1 = s9 := Option.some.inj (t1105.symm.trans e0)
      subst e0
      have e1 : g 4 + 0 = k9 := Option.some.inj e1
      subst e1
      have e2 : g 1 + 1 = e9 := Option.some.inj e2
      subst e2
      rw [k1, k2]
      exact ⟨by omega, by omega⟩, fun s9 k9 v9 e0 e1 e2 => by
      have e0 : g 1 = s9 := Option.some.inj (t1105.symm.trans e0)
      subst e0
      have e1 : g 4 + 0 = k9 := Option.some.inj e1
      subst e1
      have e2 : g 5 + 0 = v9 := Option.some.inj e2
      subst e2
      exact ⟨fun z => by omega, fun z => by omega⟩, fun _ _ _ e0 e1 e2 => no9 n1110 e2, h_sw, h_swm, h_swu, h_sf, h_sg⟩, k_T, k_I, k_F, k_N, k_Y, k_Z, k_A, k_B, k_C, k_X, k_R, k_f4⟩⟩
noncomputable def ru_sgg : Ru := ([(0, (1199, (0, (0, 0)))), (0, (1105, (0, (0, 0)))), (9, (111, (1, (1, 0)))), (5, (110, (1, (0, 0)))), (4, (0, (0, (4, 0)))), (12, (0, (2, (0, 0)))), (9, (111, (1, (1, 1))))], ([1106, 1107, 1108, 1109, 1110, 1111, 1112, 1113, 1114, 1115], ([([(1, (-1))], 0), ([(1, 1), (3, (-1))], (-1)), ([(2, 1)], 62), ([(2, (-1))], (-62)), ([(1, 1), (3, (-1))], (-2)), ([(6, 1)], 60), ([(5, (-1))], (-4))], (false, ([], ([], ([(1107, some (4, 0)), (1106, some (1, 1)), (1108, some (5, 0))], none)))))))
theorem rk_sgg : RuOk SR ru_sgg := by
  intro τ m g hi hc ha hS
  obtain ⟨i0, i1, i2, i3, i4, i5, i6, _⟩ := hi
  have t1199 : τ 1199 = some (g 0) := i0
  have t1105 : τ 1105 = some (g 1) := i1
  obtain ⟨jb, ub, vb⟩ : ∃ j : Nat, 1 * g 1 + 0 = (j : Int) ∧ g 2 = m 111 j := i2
  have xL : g 3 = m 110 1 := i3
  have xfour : g 4 = 4 := i4
  have xc : g 5 = tb9 0 (g 2) := i5
  obtain ⟨jd, ud, vd⟩ : ∃ j : Nat, 1 * g 1 + 1 = (j : Int) ∧ g 6 = m 111 j := i6
  obtain ⟨c0, c1, c2, c3, c4, c5, c6, _⟩ := hc
  have c0 : (-1) * g 1 ≤ 0 := d1 c0
  have c1 : 1 * g 1 + (-1) * g 3 ≤ (-1) := d2 c1
  have c2 : 1 * g 2 ≤ 62 := d1 c2
  have c3 : (-1) * g 2 ≤ (-62) := d1 c3
  have c4 : 1 * g 1 + (-1) * g 3 ≤ (-2) := d2 c4
  have c5 : 1 * g 6 ≤ 60 := d1 c5
  have c6 : (-1) * g 5 ≤ (-4) := d1 c6
  obtain ⟨a0, a1, a2, a3, a4, a5, a6, a7, a8, a9, _⟩ := ha
  have n1106 : τ 1106 = none := a0
  have n1107 : τ 1107 = none := a1
  have n1108 : τ 1108 = none := a2
  have n1109 : τ 1109 = none := a3
  have n1110 : τ 1110 = none := a4
  have n1111 : τ 1111 = none := a5
  have n1112 : τ 1112 = none := a6
  have n1113 : τ 1113 = none := a7
  have n1114 : τ 1114 = none := a8
  have n1115 : τ 1115 = none := a9
  obtain ⟨h0, k_tok, k_sc1, k_sc2, k_T, k_I, k_F, k_N, k_Y, k_Z, k_A, k_B, k_C, k_X, k_R, k_f4⟩ := hS (by rw [t1199]; exact fun e => by cases e)
  have k_sc10 := k_sc1
  obtain ⟨h_qz, h_nz, h_s, h_ns, h_nE⟩ := k_sc10
  have k_sc20 := k_sc2
  obtain ⟨h_ske, h_skv, h_sku, h_sw, h_swm, h_swu, h_sf, h_sg⟩ := k_sc20
  have hs := h_s _ t1105
  have hby : by9 (tx9 m) (g 1).toNat = g 2 := by rw [by_m (by omega), show (g 1).toNat = jb by omega]; exact vb.symm
  have hd1 : by9 (tx9 m) ((g 1).toNat + 1) = g 6 := by rw [by_m (by omega), show (g 1).toNat + 1 = jd by omega]; exact vd.symm
  obtain ⟨k1, k2, k3⟩ := sg_1 hby (by omega) (pr_n (by omega))
  exact ⟨rfl, trivial, trivial, fun _ => ⟨h0, k_tok, k_sc1, ⟨fun s9 k9 e9 e0 e1 e2 => by
      have e0 : g 1 = s9 := Option.some.inj (t1105.symm.trans e0)
      subst e0
      have e1 : g 4 + 0 = k9 := Option.some.inj e1
      subst e1
      have e2 : g 1 + 1 = e9 := Option.some.inj e2
      subst e2
      rw [k1, k2]
      exact ⟨by omega, by omega⟩, fun s9 k9 v9 e0 e1 e2 => by
      have e0 : g 1 = s9 := Option.some.inj (t1105.symm.trans e0)
      subst e0
      have e1 : g 4 + 0 = k9 := Option.some.inj e1
      subst e1
      have e2 : g 5 + 0 = v9 := Option.some.inj e2
      subst e2
      exact ⟨fun z => by omega, fun z => by omega⟩, fun _ _ _ e0 e1 e2 => no9 n1110 e2, h_sw, h_swm, h_swu, h_sf, h_sg⟩, k_T, k_I, k_F, k_N, k_Y, k_Z, k_A, k_B, k_C, k_X, k_R, k_f4⟩⟩
noncomputable def ru_sgh : Ru := ([(0, (1199, (0, (0, 0)))), (0, (1105, (0, (0, 0)))), (9, (111, (1, (1, 0)))), (5, (110, (1, (0, 0)))), (4, (0, (0, (4, 0)))), (12, (0, (2, (0, 0)))), (9, (111, (1, (1, 1))))], ([1106, 1107, 1108, 1109, 1110, 1111, 1112, 1113, 1114, 1115], ([([(1, (-1))], 0), ([(1, 1), (3, (-1))], (-1)), ([(2, 1)], 62), ([(2, (-1))], (-62)), ([(1, 1), (3, (-1))], (-2)), ([(6, (-1))], (-62)), ([(5, (-1))], (-4))], (false, ([], ([], ([(1107, some (4, 0)), (1106, some (1, 1)), (1108, some (5, 0))], none)))))))
theorem rk_sgh : RuOk SR ru_sgh := by
  intro τ m g hi hc ha hS
  obtain ⟨i0, i1, i2, i3, i4, i5, i6, _⟩ := hi
  have t1199 : τ 1199 = some (g 0) := i0
  have t1105 : τ 1105 = some (g 1) := i1
  obtain ⟨jb, ub, vb⟩ : ∃ j : Nat, 1 * g 1 + 0 = (j : Int) ∧ g 2 = m 111 j := i2
  have xL : g 3 = m 110 1 := i3
  have xfour : g 4 = 4 := i4
  have xc : g 5 = tb9 0 (g 2) := i5
  obtain ⟨jd, ud, vd⟩ : ∃ j : Nat, 1 * g 1 + 1 = (j : Int) ∧ g 6 = m 111 j := i6
  obtain ⟨c0, c1, c2, c3, c4, c5, c6, _⟩ := hc
  have c0 : (-1) * g 1 ≤ 0 := d1 c0
  have c1 : 1 * g 1 + (-1) * g 3 ≤ (-1) := d2 c1
  have c2 : 1 * g 2 ≤ 62 := d1 c2
  have c3 : (-1) * g 2 ≤ (-62) := d1 c3
  have c4 : 1 * g 1 + (-1) * g 3 ≤ (-2) := d2 c4
  have c5 : (-1) * g 6 ≤ (-62) := d1 c5
  have c6 : (-1) * g 5 ≤ (-4) := d1 c6
  obtain ⟨a0, a1, a2, a3, a4, a5, a6, a7, a8, a9, _⟩ := ha
  have n1106 : τ 1106 = none := a0
  have n1107 : τ 1107 = none := a1
  have n1108 : τ 1108 = none := a2
  have n1109 : τ 1109 = none := a3
  have n1110 : τ 1110 = none := a4
  have n1111 : τ 1111 = none := a5
  have n1112 : τ 1112 = none := a6
  have n1113 : τ 1113 = none := a7
  have n1114 : τ 1114 = none := a8
  have n1115 : τ 1115 = none := a9
  obtain ⟨h0, k_tok, k_sc1, k_sc2, k_T, k_I, k_F, k_N, k_Y, k_Z, k_A, k_B, k_C, k_X, k_R, k_f4⟩ := hS (by rw [t1199]; exact fun e => by cases e)
  have k_sc10 := k_sc1
  obtain ⟨h_qz, h_nz, h_s, h_ns, h_nE⟩ := k_sc10
  have k_sc20 := k_sc2
  obtain ⟨h_ske, h_skv, h_sku, h_sw, h_swm, h_swu, h_sf, h_sg⟩ := k_sc20
  have hs := h_s _ t1105
  have hby : by9 (tx9 m) (g 1).toNat = g 2 := by rw [by_m (by omega), show (g 1).toNat = jb by omega]; exact vb.symm
  have hd1 : by9 (tx9 m) ((g 1).toNat + 1) = g 6 := by rw [by_m (by omega), show (g 1).toNat + 1 = jd by omega]; exact vd.symm
  obtain ⟨k1, k2, k3⟩ := sg_1 hby (by omega) (pr_n (by omega))
  exact ⟨rfl, trivial, trivial, fun _ => ⟨h0, k_tok, k_sc1, ⟨fun s9 k9 e9 e0 e1 e2 => by
      have e0 : g 1 = s9 := Option.some.inj (t1105.symm.trans e0)
      subst e0
      have e1 : g 4 + 0 = k9 := Option.some.inj e1
      subst e1
      have e2 : g 1 + 1 = e9 := Option.some.inj e2
      subst e2
      rw [k1, k2]
      exact ⟨by omega, by omega⟩, fun s9 k9 v9 e0 e1 e2 => by
      have e0 : g 1 = s9 := Option.some.inj (t1105.symm.trans e0)
      subst e0
      have e1 : g 4 + 0 = k9 := Option.some.inj e1
      subst e1
      have e2 : g 5 + 0 = v9 := Option.some.inj e2
      subst e2
      exact ⟨fun z => by omega, fun z => by omega⟩, fun _ _ _ e0 e1 e2 => no9 n1110 e2, h_sw, h_swm, h_swu, h_sf, h_sg⟩, k_T, k_I, k_F, k_N, k_Y, k_Z, k_A, k_B, k_C, k_X, k_R, k_f4⟩⟩
noncomputable def ru_sgi : Ru := ([(0, (1199, (0, (0, 0)))), (0, (1105, (0, (0, 0)))), (9, (111, (1, (1, 0)))), (5, (110, (1, (0, 0)))), (4, (0, (0, (4, 0)))), (12, (0, (2, (0, 0))))], ([1106, 1107, 1108, 1109, 1110, 1111, 1112, 1113, 1114, 1115], ([([(1, (-1))], 0), ([(1, 1), (3, (-1))], (-1)), ([(2, 1)], 62), ([(2, (-1))], (-62)), ([(1, (-1)), (3, 1)], 1), ([(5, (-1))], (-4))], (false, ([], ([], ([(1107, some (4, 0)), (1106, some (1, 1)), (1108, some (5, 0))], none)))))))
theorem rk_sgi : RuOk SR ru_sgi := by
  intro τ m g hi hc ha hS
  obtain ⟨i0, i1, i2, i3, i4, i5, _⟩ := hi
  have t1199 : τ 1199 = some (g 0) := i0
  have t1105 : τ 1105 = some (g 1) := i1
  obtain ⟨jb, ub, vb⟩ : ∃ j : Nat, 1 * g 1 + 0 = (j : Int) ∧ g 2 = m 111 j := i2
  have xL : g 3 = m 110 1 := i3
  have xfour : g 4 = 4 := i4
  have xc : g 5 = tb9 0 (g 2) := i5
  obtain ⟨c0, c1, c2, c3, c4, c5, _⟩ := hc
  have c0 : (-1) * g 1 ≤ 0 := d1 c0
  have c1 : 1 * g 1 + (-1) * g 3 ≤ (-1) := d2 c1
  have c2 : 1 * g 2 ≤ 62 := d1 c2
  have c3 : (-1) * g 2 ≤ (-62) := d1 c3
  have c4 : (-1) * g 1 + 1 * g 3 ≤ 1 := d2 c4
  have c5 : (-1) * g 5 ≤ (-4) := d1 c5
  obtain ⟨a0, a1, a2, a3, a4, a5, a6, a7, a8, a9, _⟩ := ha
  have n1106 : τ 1106 = none := a0
  have n1107 : τ 1107 = none := a1
  have n1108 : τ 1108 = none := a2
  have n1109 : τ 1109 = none := a3
  have n1110 : τ 1110 = none := a4
  have n1111 : τ 1111 = none := a5
  have n1112 : τ 1112 = none := a6
  have n1113 : τ 1113 = none := a7
  have n1114 : τ 1114 = none := a8
  have n1115 : τ 1115 = none := a9
  obtain ⟨h0, k_tok, k_sc1, k_sc2, k_T, k_I, k_F, k_N, k_Y, k_Z, k_A, k_B, k_C, k_X, k_R, k_f4⟩ := hS (by rw [t1199]; exact fun e => by cases e)
  have k_sc10 := k_sc1
  obtain ⟨h_qz, h_nz, h_s, h_ns, h_nE⟩ := k_sc10
  have k_sc20 := k_sc2
  obtain ⟨h_ske, h_skv, h_sku, h_sw, h_swm, h_swu, h_sf, h_sg⟩ := k_sc20
  have hs := h_s _ t1105
  have hby : by9 (tx9 m) (g 1).toNat = g 2 := by rw [by_m (by omega), show (g 1).toNat = jb by omega]; exact vb.symm
  have hd1 : by9 (tx9 m) ((g 1).toNat + 1) = -1 := by_e (by omega)
  obtain ⟨k1, k2, k3⟩ := sg_1 hby (by omega) (pr_n (by omega))
  exact ⟨rfl, trivial, trivial, fun _ => ⟨h0, k_tok, k_sc1, ⟨fun s9 k9 e9 e0 e1 e2 => by
      have e0 : g 1 = s9 := Option.some.inj (t1105.symm.trans e0)
      subst e0
      have e1 : g 4 + 0 = k9 := Option.some.inj e1
      subst e1
      have e2 : g 1 + 1 = e9 := Option.some.inj e2
      subst e2
      rw [k1, k2]
      exact ⟨by omega, by omega⟩, fun s9 k9 v9 e0 e1 e2 => by
      have e0 : g 1 = s9 := Option.some.inj (t1105.symm.trans e0)
      subst e0
      have e1 : g 4 + 0 = k9 := Option.some.inj e1
      subst e1
      have e2 : g 5 + 0 = v9 := Option.some.inj e2
      subst e2
      exact ⟨fun z => by omega, fun z => by omega⟩, fun _ _ _ e0 e1 e2 => no9 n1110 e2, h_sw, h_swm, h_swu, h_sf, h_sg⟩, k_T, k_I, k_F, k_N, k_Y, k_Z, k_A, k_B, k_C, k_X, k_R, k_f4⟩⟩
noncomputable def ru_sp14 : Ru := ([(0, (1199, (0, (0, 0)))), (0, (1105, (0, (0, 0)))), (9, (111, (1, (1, 0)))), (5, (110, (1, (0, 0)))), (4, (0, (0, (4, 0)))), (9, (111, (1, (1, 1)))), (4, (0, (0, (14, 0))))], ([1106, 1107, 1108, 1109, 1110, 1111, 1112, 1113, 1114, 1115], ([([(1, (-1))], 0), ([(1, 1), (3, (-1))], (-1)), ([(2, 1)], 60), ([(2, (-1))], (-60)), ([(1, 1), (3, (-1))], (-2)), ([(5, 1)], 61), ([(5, (-1))], (-61))], (false, ([], ([], ([(1107, some (4, 0)), (1106, some (1, 2)), (1108, some (6, 0))], none)))))))
theorem rk_sp14 : RuOk SR ru_sp14 := by
  intro τ m g hi hc ha hS
  obtain ⟨i0, i1, i2, i3, i4, i5, i6, _⟩ := hi
  have t1199 : τ 1199 = some (g 0) := i0
  have t1105 : τ 1105 = some (g 1) := i1
  obtain ⟨jb, ub, vb⟩ : ∃ j : Nat, 1 * g 1 + 0 = (j : Int) ∧ g 2 = m 111 j := i2
  have xL : g 3 = m 110 1 := i3
  have xfour : g 4 = 4 := i4
  obtain ⟨jd, ud, vd⟩ : ∃ j : Nat, 1 * g 1 + 1 = (j : Int) ∧ g 5 = m 111 j := i5
  have xc : g 6 = 14 := i6
  obtain ⟨c0, c1, c2, c3, c4, c5, c6, _⟩ := hc
  have c0 : (-1) * g 1 ≤ 0 := d1 c0
  have c1 : 1 * g 1 + (-1) * g 3 ≤ (-1) := d2 c1
  have c2 : 1 * g 2 ≤ 60 := d1 c2
  have c3 : (-1) * g 2 ≤ (-60) := d1 c3
  have c4 : 1 * g 1 + (-1) * g 3 ≤ (-2) := d2 c4
  have c5 : 1 * g 5 ≤ 61 := d1 c5
  have c6 : (-1) * g 5 ≤ (-61) := d1 c6
  obtain ⟨a0, a1, a2, a3, a4, a5, a6, a7, a8, a9, _⟩ := ha
  have n1106 : τ 1106 = none := a0
  have n1107 : τ 1107 = none := a1
  have n1108 : τ 1108 = none := a2
  have n1109 : τ 1109 = none := a3
  have n1110 : τ 1110 = none := a4
  have n1111 : τ 1111 = none := a5
  have n1112 : τ 1112 = none := a6
  have n1113 : τ 1113 = none := a7
  have n1114 : τ 1114 = none := a8
  have n1115 : τ 1115 = none := a9
  obtain ⟨h0, k_tok, k_sc1, k_sc2, k_T, k_I, k_F, k_N, k_Y, k_Z, k_A, k_B, k_C, k_X, k_R, k_f4⟩ := hS (by rw [t1199]; exact fun e => by cases e)
  have k_sc10 := k_sc1
  obtain ⟨h_qz, h_nz, h_s, h_ns, h_nE⟩ := k_sc10
  have k_sc20 := k_sc2
  obtain ⟨h_ske, h_skv, h_sku, h_sw, h_swm, h_swu, h_sf, h_sg⟩ := k_sc20
  have hs := h_s _ t1105
  have hby : by9 (tx9 m) (g 1).toNat = g 2 := by rw [by_m (by omega), show (g 1).toNat = jb by omega]; exact vb.symm
  have hd1 : by9 (tx9 m) ((g 1).toNat + 1) = g 5 := by rw [by_m (by omega), show (g 1).toNat + 1 = jd by omega]; exact vd.symm
  obtain ⟨k1, k2, k3⟩ := sg_2 (X := tx9 m) (p := (g 1).toNat) (v := 256) (c := 14) (Or.inl ⟨by omega, by omega, rfl, rfl⟩)
  exact ⟨rfl, trivial, trivial, fun _ => ⟨h0, k_tok, k_sc1, ⟨fun s9 k9 e9 e0 e1 e2 => by
      have e0 : g 1 = s9 := Option.some.inj (t1105.symm.trans e0)
      subst e0
      have e1 : g 4 + 0 = k9 := Option.some.inj e1
      subst e1
      have e2 : g 1 + 2 = e9 := Option.some.inj e2
      subst e2
      rw [k1, k2]
      exact ⟨by omega, by omega⟩, fun s9 k9 v9 e0 e1 e2 => by
      have e0 : g 1 = s9 := Option.some.inj (t1105.symm.trans e0)
      subst e0
      have e1 : g 4 + 0 = k9 := Option.some.inj e1
      subst e1
      have e2 : g 6 + 0 = v9 := Option.some.inj e2
      subst e2
      exact ⟨fun z => by omega, fun z => by omega⟩, fun _ _ _ e0 e1 e2 => no9 n1110 e2, h_sw, h_swm, h_swu, h_sf, h_sg⟩, k_T, k_I, k_F, k_N, k_Y, k_Z, k_A, k_B, k_C, k_X, k_R, k_f4⟩⟩
noncomputable def ru_sp16 : Ru := ([(0, (1199, (0, (0, 0)))), (0, (1105, (0, (0, 0)))), (9, (111, (1, (1, 0)))), (5, (110, (1, (0, 0)))), (4, (0, (0, (4, 0)))), (9, (111, (1, (1, 1)))), (4, (0, (0, (16, 0))))], ([1106, 1107, 1108, 1109, 1110, 1111, 1112, 1113, 1114, 1115], ([([(1, (-1))], 0), ([(1, 1), (3, (-1))], (-1)), ([(2, 1)], 60), ([(2, (-1))], (-60)), ([(1, 1), (3, (-1))], (-2)), ([(5, 1)], 62), ([(5, (-1))], (-62))], (false, ([], ([], ([(1107, some (4, 0)), (1106, some (1, 2)), (1108, some (6, 0))], none)))))))
theorem rk_sp16 : RuOk SR ru_sp16 := by
  intro τ m g hi hc ha hS
  obtain ⟨i0, i1, i2, i3, i4, i5, i6, _⟩ := hi
  have t1199 : τ 1199 = some (g 0) := i0
  have t1105 : τ 1105 = some (g 1) := i1
  obtain ⟨jb, ub, vb⟩ : ∃ j : Nat, 1 * g 1 + 0 = (j : Int) ∧ g 2 = m 111 j := i2
  have xL : g 3 = m 110 1 := i3
  have xfour : g 4 = 4 := i4
  obtain ⟨jd, ud, vd⟩ : ∃ j : Nat, 1 * g 1 + 1 = (j : Int) ∧ g 5 = m 111 j := i5
  have xc : g 6 = 16 := i6
  obtain ⟨c0, c1, c2, c3, c4, c5, c6, _⟩ := hc
  have c0 : (-1) * g 1 ≤ 0 := d1 c0
  have c1 : 1 * g 1 + (-1) * g 3 ≤ (-1) := d2 c1
  have c2 : 1 * g 2 ≤ 60 := d1 c2
  have c3 : (-1) * g 2 ≤ (-60) := d1 c3
  have c4 : 1 * g 1 + (-1) * g 3 ≤ (-2) := d2 c4
  have c5 : 1 * g 5 ≤ 62 := d1 c5
  have c6 : (-1) * g 5 ≤ (-62) := d1 c6
  obtain ⟨a0, a1, a2, a3, a4, a5, a6, a7, a8, a9, _⟩ := ha
  have n1106 : τ 1106 = none := a0
  have n1107 : τ 1107 = none := a1
  have n1108 : τ 1108 = none := a2
  have n1109 : τ 1109 = none := a3
  have n1110 : τ 1110 = none := a4
  have n1111 : τ 1111 = none := a5
  have n1112 : τ 1112 = none := a6
  have n1113 : τ 1113 = none := a7
  have n1114 : τ 1114 = none := a8
  have n1115 : τ 1115 = none := a9
  obtain ⟨h0, k_tok, k_sc1, k_sc2, k_T, k_I, k_F, k_N, k_Y, k_Z, k_A, k_B, k_C, k_X, k_R, k_f4⟩ := hS (by rw [t1199]; exact fun e => by cases e)
  have k_sc10 := k_sc1
  obtain ⟨h_qz, h_nz, h_s, h_ns, h_nE⟩ := k_sc10
  have k_sc20 := k_sc2
  obtain ⟨h_ske, h_skv, h_sku, h_sw, h_swm, h_swu, h_sf, h_sg⟩ := k_sc20
  have hs := h_s _ t1105
  have hby : by9 (tx9 m) (g 1).toNat = g 2 := by rw [by_m (by omega), show (g 1).toNat = jb by omega]; exact vb.symm
  have hd1 : by9 (tx9 m) ((g 1).toNat + 1) = g 5 := by rw [by_m (by omega), show (g 1).toNat + 1 = jd by omega]; exact vd.symm
  obtain ⟨k1, k2, k3⟩ := sg_2 (X := tx9 m) (p := (g 1).toNat) (v := 258) (c := 16) (Or.inr (Or.inl ⟨by omega, by omega, rfl, rfl⟩))
  exact ⟨rfl, trivial, trivial, fun _ => ⟨h0, k_tok, k_sc1, ⟨fun s9 k9 e9 e0 e1 e2 => by
      have e0 : g 1 = s9 := Option.some.inj (t1105.symm.trans e0)
      subst e0
      have e1 : g 4 + 0 = k9 := Option.some.inj e1
      subst e1
      have e2 : g 1 + 2 = e9 := Option.some.inj e2
      subst e2
      rw [k1, k2]
      exact ⟨by omega, by omega⟩, fun s9 k9 v9 e0 e1 e2 => by
      have e0 : g 1 = s9 := Option.some.inj (t1105.symm.trans e0)
      subst e0
      have e1 : g 4 + 0 = k9 := Option.some.inj e1
      subst e1
      have e2 : g 6 + 0 = v9 := Option.some.inj e2
      subst e2
      exact ⟨fun z => by omega, fun z => by omega⟩, fun _ _ _ e0 e1 e2 => no9 n1110 e2, h_sw, h_swm, h_swu, h_sf, h_sg⟩, k_T, k_I, k_F, k_N, k_Y, k_Z, k_A, k_B, k_C, k_X, k_R, k_f4⟩⟩
noncomputable def ru_sp17 : Ru := ([(0, (1199, (0, (0, 0)))), (0, (1105, (0, (0, 0)))), (9, (111, (1, (1, 0)))), (5, (110, (1, (0, 0)))), (4, (0, (0, (4, 0)))), (9, (111, (1, (1, 1)))), (4, (0, (0, (17, 0))))], ([1106, 1107, 1108, 1109, 1110, 1111, 1112, 1113, 1114, 1115], ([([(1, (-1))], 0), ([(1, 1), (3, (-1))], (-1)), ([(2, 1)], 62), ([(2, (-1))], (-62)), ([(1, 1), (3, (-1))], (-2)), ([(5, 1)], 61), ([(5, (-1))], (-61))], (false, ([], ([], ([(1107, some (4, 0)), (1106, some (1, 2)), (1108, some (6, 0))], none)))))))
theorem rk_sp17 : RuOk SR ru_sp17 := by
  intro τ m g hi hc ha hS
  obtain ⟨i0, i1, i2, i3, i4, i5, i6, _⟩ := hi
  have t1199 : τ 1199 = some (g 0) := i0
  have t1105 : τ 1105 = some (g 1) := i1
  obtain ⟨jb, ub, vb⟩ : ∃ j : Nat, 1 * g 1 + 0 = (j : Int) ∧ g 2 = m 111 j := i2
  have xL : g 3 = m 110 1 := i3
  have xfour : g 4 = 4 := i4
  obtain ⟨jd, ud, vd⟩ : ∃ j : Nat, 1 * g 1 + 1 = (j : Int) ∧ g 5 = m 111 j := i5
  have xc : g 6 = 17 := i6
  obtain ⟨c0, c1, c2, c3, c4, c5, c6, _⟩ := hc
  have c0 : (-1) * g 1 ≤ 0 := d1 c0
  have c1 : 1 * g 1 + (-1) * g 3 ≤ (-1) := d2 c1
  have c2 : 1 * g 2 ≤ 62 := d1 c2
  have c3 : (-1) * g 2 ≤ (-62) := d1 c3
  have c4 : 1 * g 1 + (-1) * g 3 ≤ (-2) := d2 c4
  have c5 : 1 * g 5 ≤ 61 := d1 c5
  have c6 : (-1) * g 5 ≤ (-61) := d1 c6
  obtain ⟨a0, a1, a2, a3, a4, a5, a6, a7, a8, a9, _⟩ := ha
  have n1106 : τ 1106 = none := a0
  have n1107 : τ 1107 = none := a1
  have n1108 : τ 1108 = none := a2
  have n1109 : τ 1109 = none := a3
  have n1110 : τ 1110 = none := a4
  have n1111 : τ 1111 = none := a5
  have n1112 : τ 1112 = none := a6
  have n1113 : τ 1113 = none := a7
  have n1114 : τ 1114 = none := a8
  have n1115 : τ 1115 = none := a9
  obtain ⟨h0, k_tok, k_sc1, k_sc2, k_T, k_I, k_F, k_N, k_Y, k_Z, k_A, k_B, k_C, k_X, k_R, k_f4⟩ := hS (by rw [t1199]; exact fun e => by cases e)
  have k_sc10 := k_sc1
  obtain ⟨h_qz, h_nz, h_s, h_ns, h_nE⟩ := k_sc10
  have k_sc20 := k_sc2
  obtain ⟨h_ske, h_skv, h_sku, h_sw, h_swm, h_swu, h_sf, h_sg⟩ := k_sc20
  have hs := h_s _ t1105
  have hby : by9 (tx9 m) (g 1).toNat = g 2 := by rw [by_m (by omega), show (g 1).toNat = jb by omega]; exact vb.symm
  have hd1 : by9 (tx9 m) ((g 1).toNat + 1) = g 5 := by rw [by_m (by omega), show (g 1).toNat + 1 = jd by omega]; exact vd.symm
  obtain ⟨k1, k2, k3⟩ := sg_2 (X := tx9 m) (p := (g 1).toNat) (v := 257) (c := 17) (Or.inr (Or.inr ⟨by omega, by omega, rfl, rfl⟩))
  exact ⟨rfl, trivial, trivial, fun _ => ⟨h0, k_tok, k_sc1, ⟨fun s9 k9 e9 e0 e1 e2 => by
      have e0 : g 1 = s9 := Option.some.inj (t1105.symm.trans e0)
      subst e0
      have e1 : g 4 + 0 = k9 := Option.some.inj e1
      subst e1
      have e2 : g 1 + 2 = e9 := Option.some.inj e2
      subst e2
      rw [k1, k2]
      exact ⟨by omega, by omega⟩, fun s9 k9 v9 e0 e1 e2 => by
      have e0 : g 1 = s9 := Option.some.inj (t1105.symm.trans e0)
      subst e0
      have e1 : g 4 + 0 = k9 := Option.some.inj e1
      subst e1
      have e2 : g 6 + 0 = v9 := Option.some.inj e2
      subst e2
      exact ⟨fun z => by omega, fun z => by omega⟩, fun _ _ _ e0 e1 e2 => no9 n1110 e2, h_sw, h_swm, h_swu, h_sf, h_sg⟩, k_T, k_I, k_F, k_N, k_Y, k_Z, k_A, k_B, k_C, k_X, k_R, k_f4⟩⟩
noncomputable def ru_sx0 : Ru := ([(0, (1199, (0, (0, 0)))), (0, (1105, (0, (0, 0)))), (9, (111, (1, (1, 0)))), (5, (110, (1, (0, 0)))), (4, (0, (0, (4, 0)))), (4, (0, (0, (5, 0))))], ([1106, 1107, 1108, 1109, 1110, 1111, 1112, 1113, 1114, 1115], ([([(1, (-1))], 0), ([(1, 1), (3, (-1))], (-1)), ([(2, (-1))], 0), ([(2, 1)], 9)], (false, ([], ([], ([(1107, some (5, 0)), (1106, some (1, 1))], none)))))))
theorem rk_sx0 : RuOk SR ru_sx0 := by
  intro τ m g hi hc ha hS
  obtain ⟨i0, i1, i2, i3, i4, i5, _⟩ := hi
  have t1199 : τ 1199 = some (g 0) := i0
  have t1105 : τ 1105 = some (g 1) := i1
  obtain ⟨jb, ub, vb⟩ : ∃ j : Nat, 1 * g 1 + 0 = (j : Int) ∧ g 2 = m 111 j := i2
  have xL : g 3 = m 110 1 := i3
  have xfour : g 4 = 4 := i4
  have xfive : g 5 = 5 := i5
  obtain ⟨c0, c1, c2, c3, _⟩ := hc
  have c0 : (-1) * g 1 ≤ 0 := d1 c0
  have c1 : 1 * g 1 + (-1) * g 3 ≤ (-1) := d2 c1
  have c2 : (-1) * g 2 ≤ 0 := d1 c2
  have c3 : 1 * g 2 ≤ 9 := d1 c3
  obtain ⟨a0, a1, a2, a3, a4, a5, a6, a7, a8, a9, _⟩ := ha
  have n1106 : τ 1106 = none := a0
  have n1107 : τ 1107 = none := a1
  have n1108 : τ 1108 = none := a2
  have n1109 : τ 1109 = none := a3
  have n1110 : τ 1110 = none := a4
  have n1111 : τ 1111 = none := a5
  have n1112 : τ 1112 = none := a6
  have n1113 : τ 1113 = none := a7
  have n1114 : τ 1114 = none := a8
  have n1115 : τ 1115 = none := a9
  obtain ⟨h0, k_tok, k_sc1, k_sc2, k_T, k_I, k_F, k_N, k_Y, k_Z, k_A, k_B, k_C, k_X, k_R, k_f4⟩ := hS (by rw [t1199]; exact fun e => by cases e)
  have k_sc10 := k_sc1
  obtain ⟨h_qz, h_nz, h_s, h_ns, h_nE⟩ := k_sc10
  have k_sc20 := k_sc2
  obtain ⟨h_ske, h_skv, h_sku, h_sw, h_swm, h_swu, h_sf, h_sg⟩ := k_sc20
  have hs := h_s _ t1105
  have hby : by9 (tx9 m) (g 1).toNat = g 2 := by rw [by_m (by omega), show (g 1).toNat = jb by omega]; exact vb.symm
  obtain ⟨k1, k2⟩ := sx_1 (X := tx9 m) (p := (g 1).toNat) (a := 0) (b := 9) (by omega) (by omega) (by decide) (nl9 (by omega)) (nf9 (by omega)) (by decide)
  exact ⟨rfl, trivial, trivial, fun _ => ⟨h0, k_tok, k_sc1, ⟨fun s9 k9 e9 e0 e1 e2 => by
      have e0 : g 1 = s9 := Option.some.inj (t1105.symm.trans e0)
      subst e0
      have e1 : g 5 + 0 = k9 := Option.some.inj e1
      subst e1
      have e2 : g 1 + 1 = e9 := Option.some.inj e2
      subst e2
      rw [k1, k2]
      exact ⟨by omega, by omega⟩, fun _ _ _ e0 e1 e2 => no9 n1108 e2, fun _ _ _ e0 e1 e2 => no9 n1110 e2, h_sw, h_swm, h_swu, h_sf, h_sg⟩, k_T, k_I, k_F, k_N, k_Y, k_Z, k_A, k_B, k_C, k_X, k_R, k_f4⟩⟩
noncomputable def ru_sx1 : Ru := ([(0, (1199, (0, (0, 0)))), (0, (1105, (0, (0, 0)))), (9, (111, (1, (1, 0)))), (5, (110, (1, (0, 0)))), (4, (0, (0, (4, 0)))), (4, (0, (0, (5, 0))))], ([1106, 1107, 1108, 1109, 1110, 1111, 1112, 1113, 1114, 1115], ([([(1, (-1))], 0), ([(1, 1), (3, (-1))], (-1)), ([(2, (-1))], (-11)), ([(2, 1)], 31)], (false, ([], ([], ([(1107, some (5, 0)), (1106, some (1, 1))], none)))))))
theorem rk_sx1 : RuOk SR ru_sx1 := by
  intro τ m g hi hc ha hS
  obtain ⟨i0, i1, i2, i3, i4, i5, _⟩ := hi
  have t1199 : τ 1199 = some (g 0) := i0
  have t1105 : τ 1105 = some (g 1) := i1
  obtain ⟨jb, ub, vb⟩ : ∃ j : Nat, 1 * g 1 + 0 = (j : Int) ∧ g 2 = m 111 j := i2
  have xL : g 3 = m 110 1 := i3
  have xfour : g 4 = 4 := i4
  have xfive : g 5 = 5 := i5
  obtain ⟨c0, c1, c2, c3, _⟩ := hc
  have c0 : (-1) * g 1 ≤ 0 := d1 c0
  have c1 : 1 * g 1 + (-1) * g 3 ≤ (-1) := d2 c1
  have c2 : (-1) * g 2 ≤ (-11) := d1 c2
  have c3 : 1 * g 2 ≤ 31 := d1 c3
  obtain ⟨a0, a1, a2, a3, a4, a5, a6, a7, a8, a9, _⟩ := ha
  have n1106 : τ 1106 = none := a0
  have n1107 : τ 1107 = none := a1
  have n1108 : τ 1108 = none := a2
  have n1109 : τ 1109 = none := a3
  have n1110 : τ 1110 = none := a4
  have n1111 : τ 1111 = none := a5
  have n1112 : τ 1112 = none := a6
  have n1113 : τ 1113 = none := a7
  have n1114 : τ 1114 = none := a8
  have n1115 : τ 1115 = none := a9
  obtain ⟨h0, k_tok, k_sc1, k_sc2, k_T, k_I, k_F, k_N, k_Y, k_Z, k_A, k_B, k_C, k_X, k_R, k_f4⟩ := hS (by rw [t1199]; exact fun e => by cases e)
  have k_sc10 := k_sc1
  obtain ⟨h_qz, h_nz, h_s, h_ns, h_nE⟩ := k_sc10
  have k_sc20 := k_sc2
  obtain ⟨h_ske, h_skv, h_sku, h_sw, h_swm, h_swu, h_sf, h_sg⟩ := k_sc20
  have hs := h_s _ t1105
  have hby : by9 (tx9 m) (g 1).toNat = g 2 := by rw [by_m (by omega), show (g 1).toNat = jb by omega]; exact vb.symm
  obtain ⟨k1, k2⟩ := sx_1 (X := tx9 m) (p := (g 1).toNat) (a := 11) (b := 31) (by omega) (by omega) (by decide) (nl9 (by omega)) (nf9 (by omega)) (by decide)
  exact ⟨rfl, trivial, trivial, fun _ => ⟨h0, k_tok, k_sc1, ⟨fun s9 k9 e9 e0 e1 e2 => by
      have e0 : g 1 = s9 := Option.some.inj (t1105.symm.trans e0)
      subst e0
      have e1 : g 5 + 0 = k9 := Option.some.inj e1
      subst e1
      have e2 : g 1 + 1 = e9 := Option.some.inj e2
      subst e2
      rw [k1, k2]
      exact ⟨by omega, by omega⟩, fun _ _ _ e0 e1 e2 => no9 n1108 e2, fun _ _ _ e0 e1 e2 => no9 n1110 e2, h_sw, h_swm, h_swu, h_sf, h_sg⟩, k_T, k_I, k_F, k_N, k_Y, k_Z, k_A, k_B, k_C, k_X, k_R, k_f4⟩⟩
noncomputable def ru_sx2 : Ru := ([(0, (1199, (0, (0, 0)))), (0, (1105, (0, (0, 0)))), (9, (111, (1, (1, 0)))), (5, (110, (1, (0, 0)))), (4, (0, (0, (4, 0)))), (4, (0, (0, (5, 0))))], ([1106, 1107, 1108, 1109, 1110, 1111, 1112, 1113, 1114, 1115], ([([(1, (-1))], 0), ([(1, 1), (3, (-1))], (-1)), ([(2, (-1))], (-33)), ([(2, 1)], 36)], (false, ([], ([], ([(1107, some (5, 0)), (1106, some (1, 1))], none)))))))
theorem rk_sx2 : RuOk SR ru_sx2 := by
  intro τ m g hi hc ha hS
  obtain ⟨i0, i1, i2, i3, i4, i5, _⟩ := hi
  have t1199 : τ 1199 = some (g 0) := i0
  have t1105 : τ 1105 = some (g 1) := i1
  obtain ⟨jb, ub, vb⟩ : ∃ j : Nat, 1 * g 1 + 0 = (j : Int) ∧ g 2 = m 111 j := i2
  have xL : g 3 = m 110 1 := i3
  have xfour : g 4 = 4 := i4
  have xfive : g 5 = 5 := i5
  obtain ⟨c0, c1, c2, c3, _⟩ := hc
  have c0 : (-1) * g 1 ≤ 0 := d1 c0
  have c1 : 1 * g 1 + (-1) * g 3 ≤ (-1) := d2 c1
  have c2 : (-1) * g 2 ≤ (-33) := d1 c2
  have c3 : 1 * g 2 ≤ 36 := d1 c3
  obtain ⟨a0, a1, a2, a3, a4, a5, a6, a7, a8, a9, _⟩ := ha
  have n1106 : τ 1106 = none := a0
  have n1107 : τ 1107 = none := a1
  have n1108 : τ 1108 = none := a2
  have n1109 : τ 1109 = none := a3
  have n1110 : τ 1110 = none := a4
  have n1111 : τ 1111 = none := a5
  have n1112 : τ 1112 = none := a6
  have n1113 : τ 1113 = none := a7
  have n1114 : τ 1114 = none := a8
  have n1115 : τ 1115 = none := a9
  obtain ⟨h0, k_tok, k_sc1, k_sc2, k_T, k_I, k_F, k_N, k_Y, k_Z, k_A, k_B, k_C, k_X, k_R, k_f4⟩ := hS (by rw [t1199]; exact fun e => by cases e)
  have k_sc10 := k_sc1
  obtain ⟨h_qz, h_nz, h_s, h_ns, h_nE⟩ := k_sc10
  have k_sc20 := k_sc2
  obtain ⟨h_ske, h_skv, h_sku, h_sw, h_swm, h_swu, h_sf, h_sg⟩ := k_sc20
  have hs := h_s _ t1105
  have hby : by9 (tx9 m) (g 1).toNat = g 2 := by rw [by_m (by omega), show (g 1).toNat = jb by omega]; exact vb.symm
  obtain ⟨k1, k2⟩ := sx_1 (X := tx9 m) (p := (g 1).toNat) (a := 33) (b := 36) (by omega) (by omega) (by decide) (nl9 (by omega)) (nf9 (by omega)) (by decide)
  exact ⟨rfl, trivial, trivial, fun _ => ⟨h0, k_tok, k_sc1, ⟨fun s9 k9 e9 e0 e1 e2 => by
      have e0 : g 1 = s9 := Option.some.inj (t1105.symm.trans e0)
      subst e0
      have e1 : g 5 + 0 = k9 := Option.some.inj e1
      subst e1
      have e2 : g 1 + 1 = e9 := Option.some.inj e2
      subst e2
      rw [k1, k2]
      exact ⟨by omega, by omega⟩, fun _ _ _ e0 e1 e2 => no9 n1108 e2, fun _ _ _ e0 e1 e2 => no9 n1110 e2, h_sw, h_swm, h_swu, h_sf, h_sg⟩, k_T, k_I, k_F, k_N, k_Y, k_Z, k_A, k_B, k_C, k_X, k_R, k_f4⟩⟩
noncomputable def ru_sx3 : Ru := ([(0, (1199, (0, (0, 0)))), (0, (1105, (0, (0, 0)))), (9, (111, (1, (1, 0)))), (5, (110, (1, (0, 0)))), (4, (0, (0, (4, 0)))), (4, (0, (0, (5, 0))))], ([1106, 1107, 1108, 1109, 1110, 1111, 1112, 1113, 1114, 1115], ([([(1, (-1))], 0), ([(1, 1), (3, (-1))], (-1)), ([(2, (-1))], (-38)), ([(2, 1)], 39)], (false, ([], ([], ([(1107, some (5, 0)), (1106, some (1, 1))], none)))))))
theorem rk_sx3 : RuOk SR ru_sx3 := by
  intro τ m g hi hc ha hS
  obtain ⟨i0, i1, i2, i3, i4, i5, _⟩ := hi
  have t1199 : τ 1199 = some (g 0) := i0
  have t1105 : τ 1105 = some (g 1) := i1
  obtain ⟨jb, ub, vb⟩ : ∃ j : Nat, 1 * g 1 + 0 = (j : Int) ∧ g 2 = m 111 j := i2
  have xL : g 3 = m 110 1 := i3
  have xfour : g 4 = 4 := i4
  have xfive : g 5 = 5 := i5
  obtain ⟨c0, c1, c2, c3, _⟩ := hc
  have c0 : (-1) * g 1 ≤ 0 := d1 c0
  have c1 : 1 * g 1 + (-1) * g 3 ≤ (-1) := d2 c1
  have c2 : (-1) * g 2 ≤ (-38) := d1 c2
  have c3 : 1 * g 2 ≤ 39 := d1 c3
  obtain ⟨a0, a1, a2, a3, a4, a5, a6, a7, a8, a9, _⟩ := ha
  have n1106 : τ 1106 = none := a0
  have n1107 : τ 1107 = none := a1
  have n1108 : τ 1108 = none := a2
  have n1109 : τ 1109 = none := a3
  have n1110 : τ 1110 = none := a4
  have n1111 : τ 1111 = none := a5
  have n1112 : τ 1112 = none := a6
  have n1113 : τ 1113 = none := a7
  have n1114 : τ 1114 = none := a8
  have n1115 : τ 1115 = none := a9
  obtain ⟨h0, k_tok, k_sc1, k_sc2, k_T, k_I, k_F, k_N, k_Y, k_Z, k_A, k_B, k_C, k_X, k_R, k_f4⟩ := hS (by rw [t1199]; exact fun e => by cases e)
  have k_sc10 := k_sc1
  obtain ⟨h_qz, h_nz, h_s, h_ns, h_nE⟩ := k_sc10
  have k_sc20 := k_sc2
  obtain ⟨h_ske, h_skv, h_sku, h_sw, h_swm, h_swu, h_sf, h_sg⟩ := k_sc20
  have hs := h_s _ t1105
  have hby : by9 (tx9 m) (g 1).toNat = g 2 := by rw [by_m (by omega), show (g 1).toNat = jb by omega]; exact vb.symm
  obtain ⟨k1, k2⟩ := sx_1 (X := tx9 m) (p := (g 1).toNat) (a := 38) (b := 39) (by omega) (by omega) (by decide) (nl9 (by omega)) (nf9 (by omega)) (by decide)
  exact ⟨rfl, trivial, trivial, fun _ => ⟨h0, k_tok, k_sc1, ⟨fun s9 k9 e9 e0 e1 e2 => by
      have e0 : g 1 = s9 := Option.some.inj (t1105.symm.trans e0)
      subst e0
      have e1 : g 5 + 0 = k9 := Option.some.inj e1
      subst e1
      have e2 : g 1 + 1 = e9 := Option.some.inj e2
      subst e2
      rw [k1, k2]
      exact ⟨by omega, by omega⟩, fun _ _ _ e0 e1 e2 => no9 n1108 e2, fun _ _ _ e0 e1 e2 => no9 n1110 e2, h_sw, h_swm, h_swu, h_sf, h_sg⟩, k_T, k_I, k_F, k_N, k_Y, k_Z, k_A, k_B, k_C, k_X, k_R, k_f4⟩⟩
noncomputable def ru_sx4 : Ru := ([(0, (1199, (0, (0, 0)))), (0, (1105, (0, (0, 0)))), (9, (111, (1, (1, 0)))), (5, (110, (1, (0, 0)))), (4, (0, (0, (4, 0)))), (4, (0, (0, (5, 0))))], ([1106, 1107, 1108, 1109, 1110, 1111, 1112, 1113, 1114, 1115], ([([(1, (-1))], 0), ([(1, 1), (3, (-1))], (-1)), ([(2, (-1))], (-44)), ([(2, 1)], 44)], (false, ([], ([], ([(1107, some (5, 0)), (1106, some (1, 1))], none)))))))
theorem rk_sx4 : RuOk SR ru_sx4 := by
  intro τ m g hi hc ha hS
  obtain ⟨i0, i1, i2, i3, i4, i5, _⟩ := hi
  have t1199 : τ 1199 = some (g 0) := i0
  have t1105 : τ 1105 = some (g 1) := i1
  obtain ⟨jb, ub, vb⟩ : ∃ j : Nat, 1 * g 1 + 0 = (j : Int) ∧ g 2 = m 111 j := i2
  have xL : g 3 = m 110 1 := i3
  have xfour : g 4 = 4 := i4
  have xfive : g 5 = 5 := i5
  obtain ⟨c0, c1, c2, c3, _⟩ := hc
  have c0 : (-1) * g 1 ≤ 0 := d1 c0
  have c1 : 1 * g 1 + (-1) * g 3 ≤ (-1) := d2 c1
  have c2 : (-1) * g 2 ≤ (-44) := d1 c2
  have c3 : 1 * g 2 ≤ 44 := d1 c3
  obtain ⟨a0, a1, a2, a3, a4, a5, a6, a7, a8, a9, _⟩ := ha
  have n1106 : τ 1106 = none := a0
  have n1107 : τ 1107 = none := a1
  have n1108 : τ 1108 = none := a2
  have n1109 : τ 1109 = none := a3
  have n1110 : τ 1110 = none := a4
  have n1111 : τ 1111 = none := a5
  have n1112 : τ 1112 = none := a6
  have n1113 : τ 1113 = none := a7
  have n1114 : τ 1114 = none := a8
  have n1115 : τ 1115 = none := a9
  obtain ⟨h0, k_tok, k_sc1, k_sc2, k_T, k_I, k_F, k_N, k_Y, k_Z, k_A, k_B, k_C, k_X, k_R, k_f4⟩ := hS (by rw [t1199]; exact fun e => by cases e)
  have k_sc10 := k_sc1
  obtain ⟨h_qz, h_nz, h_s, h_ns, h_nE⟩ := k_sc10
  have k_sc20 := k_sc2
  obtain ⟨h_ske, h_skv, h_sku, h_sw, h_swm, h_swu, h_sf, h_sg⟩ := k_sc20
  have hs := h_s _ t1105
  have hby : by9 (tx9 m) (g 1).toNat = g 2 := by rw [by_m (by omega), show (g 1).toNat = jb by omega]; exact vb.symm
  obtain ⟨k1, k2⟩ := sx_1 (X := tx9 m) (p := (g 1).toNat) (a := 44) (b := 44) (by omega) (by omega) (by decide) (nl9 (by omega)) (nf9 (by omega)) (by decide)
  exact ⟨rfl, trivial, trivial, fun _ => ⟨h0, k_tok, k_sc1, ⟨fun s9 k9 e9 e0 e1 e2 => by
      have e0 : g 1 = s9 := Option.some.inj (t1105.symm.trans e0)
      subst e0
      have e1 : g 5 + 0 = k9 := Option.some.inj e1
      subst e1
      have e2 : g 1 + 1 = e9 := Option.some.inj e2
      subst e2
      rw [k1, k2]
      exact ⟨by omega, by omega⟩, fun _ _ _ e0 e1 e2 => no9 n1108 e2, fun _ _ _ e0 e1 e2 => no9 n1110 e2, h_sw, h_swm, h_swu, h_sf, h_sg⟩, k_T, k_I, k_F, k_N, k_Y, k_Z, k_A, k_B, k_C, k_X, k_R, k_f4⟩⟩
noncomputable def ru_sx5 : Ru := ([(0, (1199, (0, (0, 0)))), (0, (1105, (0, (0, 0)))), (9, (111, (1, (1, 0)))), (5, (110, (1, (0, 0)))), (4, (0, (0, (4, 0)))), (4, (0, (0, (5, 0))))], ([1106, 1107, 1108, 1109, 1110, 1111, 1112, 1113, 1114, 1115], ([([(1, (-1))], 0), ([(1, 1), (3, (-1))], (-1)), ([(2, (-1))], (-58)), ([(2, 1)], 58)], (false, ([], ([], ([(1107, some (5, 0)), (1106, some (1, 1))], none)))))))
theorem rk_sx5 : RuOk SR ru_sx5 := by
  intro τ m g hi hc ha hS
  obtain ⟨i0, i1, i2, i3, i4, i5, _⟩ := hi
  have t1199 : τ 1199 = some (g 0) := i0
  have t1105 : τ 1105 = some (g 1) := i1
  obtain ⟨jb, ub, vb⟩ : ∃ j : Nat, 1 * g 1 + 0 = (j : Int) ∧ g 2 = m 111 j := i2
  have xL : g 3 = m 110 1 := i3
  have xfour : g 4 = 4 := i4
  have xfive : g 5 = 5 := i5
  obtain ⟨c0, c1, c2, c3, _⟩ := hc
  have c0 : (-1) * g 1 ≤ 0 := d1 c0
  have c1 : 1 * g 1 + (-1) * g 3 ≤ (-1) := d2 c1
  have c2 : (-1) * g 2 ≤ (-58) := d1 c2
  have c3 : 1 * g 2 ≤ 58 := d1 c3
  obtain ⟨a0, a1, a2, a3, a4, a5, a6, a7, a8, a9, _⟩ := ha
  have n1106 : τ 1106 = none := a0
  have n1107 : τ 1107 = none := a1
  have n1108 : τ 1108 = none := a2
  have n1109 : τ 1109 = none := a3
  have n1110 : τ 1110 = none := a4
  have n1111 : τ 1111 = none := a5
  have n1112 : τ 1112 = none := a6
  have n1113 : τ 1113 = none := a7
  have n1114 : τ 1114 = none := a8
  have n1115 : τ 1115 = none := a9
  obtain ⟨h0, k_tok, k_sc1, k_sc2, k_T, k_I, k_F, k_N, k_Y, k_Z, k_A, k_B, k_C, k_X, k_R, k_f4⟩ := hS (by rw [t1199]; exact fun e => by cases e)
  have k_sc10 := k_sc1
  obtain ⟨h_qz, h_nz, h_s, h_ns, h_nE⟩ := k_sc10
  have k_sc20 := k_sc2
  obtain ⟨h_ske, h_skv, h_sku, h_sw, h_swm, h_swu, h_sf, h_sg⟩ := k_sc20
  have hs := h_s _ t1105
  have hby : by9 (tx9 m) (g 1).toNat = g 2 := by rw [by_m (by omega), show (g 1).toNat = jb by omega]; exact vb.symm
  obtain ⟨k1, k2⟩ := sx_1 (X := tx9 m) (p := (g 1).toNat) (a := 58) (b := 58) (by omega) (by omega) (by decide) (nl9 (by omega)) (nf9 (by omega)) (by decide)
  exact ⟨rfl, trivial, trivial, fun _ => ⟨h0, k_tok, k_sc1, ⟨fun s9 k9 e9 e0 e1 e2 => by
      have e0 : g 1 = s9 := Option.some.inj (t1105.symm.trans e0)
      subst e0
      have e1 : g 5 + 0 = k9 := Option.some.inj e1
      subst e1
      have e2 : g 1 + 1 = e9 := Option.some.inj e2
      subst e2
      rw [k1, k2]
      exact ⟨by omega, by omega⟩, fun _ _ _ e0 e1 e2 => no9 n1108 e2, fun _ _ _ e0 e1 e2 => no9 n1110 e2, h_sw, h_swm, h_swu, h_sf, h_sg⟩, k_T, k_I, k_F, k_N, k_Y, k_Z, k_A, k_B, k_C, k_X, k_R, k_f4⟩⟩
noncomputable def ru_sx6 : Ru := ([(0, (1199, (0, (0, 0)))), (0, (1105, (0, (0, 0)))), (9, (111, (1, (1, 0)))), (5, (110, (1, (0, 0)))), (4, (0, (0, (4, 0)))), (4, (0, (0, (5, 0))))], ([1106, 1107, 1108, 1109, 1110, 1111, 1112, 1113, 1114, 1115], ([([(1, (-1))], 0), ([(1, 1), (3, (-1))], (-1)), ([(2, (-1))], (-63)), ([(2, 1)], 90)], (false, ([], ([], ([(1107, some (5, 0)), (1106, some (1, 1))], none)))))))
theorem rk_sx6 : RuOk SR ru_sx6 := by
  intro τ m g hi hc ha hS
  obtain ⟨i0, i1, i2, i3, i4, i5, _⟩ := hi
  have t1199 : τ 1199 = some (g 0) := i0
  have t1105 : τ 1105 = some (g 1) := i1
  obtain ⟨jb, ub, vb⟩ : ∃ j : Nat, 1 * g 1 + 0 = (j : Int) ∧ g 2 = m 111 j := i2
  have xL : g 3 = m 110 1 := i3
  have xfour : g 4 = 4 := i4
  have xfive : g 5 = 5 := i5
  obtain ⟨c0, c1, c2, c3, _⟩ := hc
  have c0 : (-1) * g 1 ≤ 0 := d1 c0
  have c1 : 1 * g 1 + (-1) * g 3 ≤ (-1) := d2 c1
  have c2 : (-1) * g 2 ≤ (-63) := d1 c2
  have c3 : 1 * g 2 ≤ 90 := d1 c3
  obtain ⟨a0, a1, a2, a3, a4, a5, a6, a7, a8, a9, _⟩ := ha
  have n1106 : τ 1106 = none := a0
  have n1107 : τ 1107 = none := a1
  have n1108 : τ 1108 = none := a2
  have n1109 : τ 1109 = none := a3
  have n1110 : τ 1110 = none := a4
  have n1111 : τ 1111 = none := a5
  have n1112 : τ 1112 = none := a6
  have n1113 : τ 1113 = none := a7
  have n1114 : τ 1114 = none := a8
  have n1115 : τ 1115 = none := a9
  obtain ⟨h0, k_tok, k_sc1, k_sc2, k_T, k_I, k_F, k_N, k_Y, k_Z, k_A, k_B, k_C, k_X, k_R, k_f4⟩ := hS (by rw [t1199]; exact fun e => by cases e)
  have k_sc10 := k_sc1
  obtain ⟨h_qz, h_nz, h_s, h_ns, h_nE⟩ := k_sc10
  have k_sc20 := k_sc2
  obtain ⟨h_ske, h_skv, h_sku, h_sw, h_swm, h_swu, h_sf, h_sg⟩ := k_sc20
  have hs := h_s _ t1105
  have hby : by9 (tx9 m) (g 1).toNat = g 2 := by rw [by_m (by omega), show (g 1).toNat = jb by omega]; exact vb.symm
  obtain ⟨k1, k2⟩ := sx_1 (X := tx9 m) (p := (g 1).toNat) (a := 63) (b := 90) (by omega) (by omega) (by decide) (nl9 (by omega)) (nf9 (by omega)) (by decide)
  exact ⟨rfl, trivial, trivial, fun _ => ⟨h0, k_tok, k_sc1, ⟨fun s9 k9 e9 e0 e1 e2 => by
      have e0 : g 1 = s9 := Option.some.inj (t1105.symm.trans e0)
      subst e0
      have e1 : g 5 + 0 = k9 := Option.some.inj e1
      subst e1
      have e2 : g 1 + 1 = e9 := Option.some.inj e2
      subst e2
      rw [k1, k2]
      exact ⟨by omega, by omega⟩, fun _ _ _ e0 e1 e2 => no9 n1108 e2, fun _ _ _ e0 e1 e2 => no9 n1110 e2, h_sw, h_swm, h_swu, h_sf, h_sg⟩, k_T, k_I, k_F, k_N, k_Y, k_Z, k_A, k_B, k_C, k_X, k_R, k_f4⟩⟩
noncomputable def ru_sx7 : Ru := ([(0, (1199, (0, (0, 0)))), (0, (1105, (0, (0, 0)))), (9, (111, (1, (1, 0)))), (5, (110, (1, (0, 0)))), (4, (0, (0, (4, 0)))), (4, (0, (0, (5, 0))))], ([1106, 1107, 1108, 1109, 1110, 1111, 1112, 1113, 1114, 1115], ([([(1, (-1))], 0), ([(1, 1), (3, (-1))], (-1)), ([(2, (-1))], (-92)), ([(2, 1)], 92)], (false, ([], ([], ([(1107, some (5, 0)), (1106, some (1, 1))], none)))))))
theorem rk_sx7 : RuOk SR ru_sx7 := by
  intro τ m g hi hc ha hS
  obtain ⟨i0, i1, i2, i3, i4, i5, _⟩ := hi
  have t1199 : τ 1199 = some (g 0) := i0
  have t1105 : τ 1105 = some (g 1) := i1
  obtain ⟨jb, ub, vb⟩ : ∃ j : Nat, 1 * g 1 + 0 = (j : Int) ∧ g 2 = m 111 j := i2
  have xL : g 3 = m 110 1 := i3
  have xfour : g 4 = 4 := i4
  have xfive : g 5 = 5 := i5
  obtain ⟨c0, c1, c2, c3, _⟩ := hc
  have c0 : (-1) * g 1 ≤ 0 := d1 c0
  have c1 : 1 * g 1 + (-1) * g 3 ≤ (-1) := d2 c1
  have c2 : (-1) * g 2 ≤ (-92) := d1 c2
  have c3 : 1 * g 2 ≤ 92 := d1 c3
  obtain ⟨a0, a1, a2, a3, a4, a5, a6, a7, a8, a9, _⟩ := ha
  have n1106 : τ 1106 = none := a0
  have n1107 : τ 1107 = none := a1
  have n1108 : τ 1108 = none := a2
  have n1109 : τ 1109 = none := a3
  have n1110 : τ 1110 = none := a4
  have n1111 : τ 1111 = none := a5
  have n1112 : τ 1112 = none := a6
  have n1113 : τ 1113 = none := a7
  have n1114 : τ 1114 = none := a8
  have n1115 : τ 1115 = none := a9
  obtain ⟨h0, k_tok, k_sc1, k_sc2, k_T, k_I, k_F, k_N, k_Y, k_Z, k_A, k_B, k_C, k_X, k_R, k_f4⟩ := hS (by rw [t1199]; exact fun e => by cases e)
  have k_sc10 := k_sc1
  obtain ⟨h_qz, h_nz, h_s, h_ns, h_nE⟩ := k_sc10
  have k_sc20 := k_sc2
  obtain ⟨h_ske, h_skv, h_sku, h_sw, h_swm, h_swu, h_sf, h_sg⟩ := k_sc20
  have hs := h_s _ t1105
  have hby : by9 (tx9 m) (g 1).toNat = g 2 := by rw [by_m (by omega), show (g 1).toNat = jb by omega]; exact vb.symm
  obtain ⟨k1, k2⟩ := sx_1 (X := tx9 m) (p := (g 1).toNat) (a := 92) (b := 92) (by omega) (by omega) (by decide) (nl9 (by omega)) (nf9 (by omega)) (by decide)
  exact ⟨rfl, trivial, trivial, fun _ => ⟨h0, k_tok, k_sc1, ⟨fun s9 k9 e9 e0 e1 e2 => by
      have e0 : g 1 = s9 := Option.some.inj (t1105.symm.trans e0)
      subst e0
      have e1 : g 5 + 0 = k9 := Option.some.inj e1
      subst e1
      have e2 : g 1 + 1 = e9 := Option.some.inj e2
      subst e2
      rw [k1, k2]
      exact ⟨by omega, by omega⟩, fun _ _ _ e0 e1 e2 => no9 n1108 e2, fun _ _ _ e0 e1 e2 => no9 n1110 e2, h_sw, h_swm, h_swu, h_sf, h_sg⟩, k_T, k_I, k_F, k_N, k_Y, k_Z, k_A, k_B, k_C, k_X, k_R, k_f4⟩⟩
noncomputable def ru_sx8 : Ru := ([(0, (1199, (0, (0, 0)))), (0, (1105, (0, (0, 0)))), (9, (111, (1, (1, 0)))), (5, (110, (1, (0, 0)))), (4, (0, (0, (4, 0)))), (4, (0, (0, (5, 0))))], ([1106, 1107, 1108, 1109, 1110, 1111, 1112, 1113, 1114, 1115], ([([(1, (-1))], 0), ([(1, 1), (3, (-1))], (-1)), ([(2, (-1))], (-94)), ([(2, 1)], 96)], (false, ([], ([], ([(1107, some (5, 0)), (1106, some (1, 1))], none)))))))
theorem rk_sx8 : RuOk SR ru_sx8 := by
  intro τ m g hi hc ha hS
  obtain ⟨i0, i1, i2, i3, i4, i5, _⟩ := hi
  have t1199 : τ 1199 = some (g 0) := i0
  have t1105 : τ 1105 = some (g 1) := i1
  obtain ⟨jb, ub, vb⟩ : ∃ j : Nat, 1 * g 1 + 0 = (j : Int) ∧ g 2 = m 111 j := i2
  have xL : g 3 = m 110 1 := i3
  have xfour : g 4 = 4 := i4
  have xfive : g 5 = 5 := i5
  obtain ⟨c0, c1, c2, c3, _⟩ := hc
  have c0 : (-1) * g 1 ≤ 0 := d1 c0
  have c1 : 1 * g 1 + (-1) * g 3 ≤ (-1) := d2 c1
  have c2 : (-1) * g 2 ≤ (-94) := d1 c2
  have c3 : 1 * g 2 ≤ 96 := d1 c3
  obtain ⟨a0, a1, a2, a3, a4, a5, a6, a7, a8, a9, _⟩ := ha
  have n1106 : τ 1106 = none := a0
  have n1107 : τ 1107 = none := a1
  have n1108 : τ 1108 = none := a2
  have n1109 : τ 1109 = none := a3
  have n1110 : τ 1110 = none := a4
  have n1111 : τ 1111 = none := a5
  have n1112 : τ 1112 = none := a6
  have n1113 : τ 1113 = none := a7
  have n1114 : τ 1114 = none := a8
  have n1115 : τ 1115 = none := a9
  obtain ⟨h0, k_tok, k_sc1, k_sc2, k_T, k_I, k_F, k_N, k_Y, k_Z, k_A, k_B, k_C, k_X, k_R, k_f4⟩ := hS (by rw [t1199]; exact fun e => by cases e)
  have k_sc10 := k_sc1
  obtain ⟨h_qz, h_nz, h_s, h_ns, h_nE⟩ := k_sc10
  have k_sc20 := k_sc2
  obtain ⟨h_ske, h_skv, h_sku, h_sw, h_swm, h_swu, h_sf, h_sg⟩ := k_sc20
  have hs := h_s _ t1105
  have hby : by9 (tx9 m) (g 1).toNat = g 2 := by rw [by_m (by omega), show (g 1).toNat = jb by omega]; exact vb.symm
  obtain ⟨k1, k2⟩ := sx_1 (X := tx9 m) (p := (g 1).toNat) (a := 94) (b := 96) (by omega) (by omega) (by decide) (nl9 (by omega)) (nf9 (by omega)) (by decide)
  exact ⟨rfl, trivial, trivial, fun _ => ⟨h0, k_tok, k_sc1, ⟨fun s9 k9 e9 e0 e1 e2 => by
      have e0 : g 1 = s9 := Option.some.inj (t1105.symm.trans e0)
      subst e0
      have e1 : g 5 + 0 = k9 := Option.some.inj e1
      subst e1
      have e2 : g 1 + 1 = e9 := Option.some.inj e2
      subst e2
      rw [k1, k2]
      exact ⟨by omega, by omega⟩, fun _ _ _ e0 e1 e2 => no9 n1108 e2, fun _ _ _ e0 e1 e2 => no9 n1110 e2, h_sw, h_swm, h_swu, h_sf, h_sg⟩, k_T, k_I, k_F, k_N, k_Y, k_Z, k_A, k_B, k_C, k_X, k_R, k_f4⟩⟩
noncomputable def ru_sx9 : Ru := ([(0, (1199, (0, (0, 0)))), (0, (1105, (0, (0, 0)))), (9, (111, (1, (1, 0)))), (5, (110, (1, (0, 0)))), (4, (0, (0, (4, 0)))), (4, (0, (0, (5, 0))))], ([1106, 1107, 1108, 1109, 1110, 1111, 1112, 1113, 1114, 1115], ([([(1, (-1))], 0), ([(1, 1), (3, (-1))], (-1)), ([(2, (-1))], (-123)), ([(2, 1)], 255)], (false, ([], ([], ([(1107, some (5, 0)), (1106, some (1, 1))], none)))))))
theorem rk_sx9 : RuOk SR ru_sx9 := by
  intro τ m g hi hc ha hS
  obtain ⟨i0, i1, i2, i3, i4, i5, _⟩ := hi
  have t1199 : τ 1199 = some (g 0) := i0
  have t1105 : τ 1105 = some (g 1) := i1
  obtain ⟨jb, ub, vb⟩ : ∃ j : Nat, 1 * g 1 + 0 = (j : Int) ∧ g 2 = m 111 j := i2
  have xL : g 3 = m 110 1 := i3
  have xfour : g 4 = 4 := i4
  have xfive : g 5 = 5 := i5
  obtain ⟨c0, c1, c2, c3, _⟩ := hc
  have c0 : (-1) * g 1 ≤ 0 := d1 c0
  have c1 : 1 * g 1 + (-1) * g 3 ≤ (-1) := d2 c1
  have c2 : (-1) * g 2 ≤ (-123) := d1 c2
  have c3 : 1 * g 2 ≤ 255 := d1 c3
  obtain ⟨a0, a1, a2, a3, a4, a5, a6, a7, a8, a9, _⟩ := ha
  have n1106 : τ 1106 = none := a0
  have n1107 : τ 1107 = none := a1
  have n1108 : τ 1108 = none := a2
  have n1109 : τ 1109 = none := a3
  have n1110 : τ 1110 = none := a4
  have n1111 : τ 1111 = none := a5
  have n1112 : τ 1112 = none := a6
  have n1113 : τ 1113 = none := a7
  have n1114 : τ 1114 = none := a8
  have n1115 : τ 1115 = none := a9
  obtain ⟨h0, k_tok, k_sc1, k_sc2, k_T, k_I, k_F, k_N, k_Y, k_Z, k_A, k_B, k_C, k_X, k_R, k_f4⟩ := hS (by rw [t1199]; exact fun e => by cases e)
  have k_sc10 := k_sc1
  obtain ⟨h_qz, h_nz, h_s, h_ns, h_nE⟩ := k_sc10
  have k_sc20 := k_sc2
  obtain ⟨h_ske, h_skv, h_sku, h_sw, h_swm, h_swu, h_sf, h_sg⟩ := k_sc20
  have hs := h_s _ t1105
  have hby : by9 (tx9 m) (g 1).toNat = g 2 := by rw [by_m (by omega), show (g 1).toNat = jb by omega]; exact vb.symm
  obtain ⟨k1, k2⟩ := sx_1 (X := tx9 m) (p := (g 1).toNat) (a := 123) (b := 255) (by omega) (by omega) (by decide) (nl9 (by omega)) (nf9 (by omega)) (by decide)
  exact ⟨rfl, trivial, trivial, fun _ => ⟨h0, k_tok, k_sc1, ⟨fun s9 k9 e9 e0 e1 e2 => by
      have e0 : g 1 = s9 := Option.some.inj (t1105.symm.trans e0)
      subst e0
      have e1 : g 5 + 0 = k9 := Option.some.inj e1
      subst e1
      have e2 : g 1 + 1 = e9 := Option.some.inj e2
      subst e2
      rw [k1, k2]
      exact ⟨by omega, by omega⟩, fun _ _ _ e0 e1 e2 => no9 n1108 e2, fun _ _ _ e0 e1 e2 => no9 n1110 e2, h_sw, h_swm, h_swu, h_sf, h_sg⟩, k_T, k_I, k_F, k_N, k_Y, k_Z, k_A, k_B, k_C, k_X, k_R, k_f4⟩⟩
noncomputable def ru_tk0 : Ru := ([(0, (1199, (0, (0, 0)))), (0, (1105, (0, (0, 0)))), (0, (1107, (0, (0, 0)))), (0, (1106, (0, (0, 0)))), (5, (110, (29, (0, 0)))), (5, (110, (28, (0, 0)))), (5, (110, (27, (0, 0))))], ([1121], ([([(1, (-1)), (4, 1)], 0), ([(1, 1), (4, (-1))], 0), ([(2, (-1)), (5, 1)], 0), ([(2, 1), (5, (-1))], 0), ([(3, (-1)), (6, 1)], 0), ([(3, 1), (6, (-1))], 0), ([(2, 1)], 0)], (false, ([], ([], ([(1120, some (1, 0)), (1105, none), (1107, none), (1106, none)], none)))))))
theorem rk_tk0 : RuOk SR ru_tk0 := by
  intro τ m g hi hc ha hS
  obtain ⟨i0, i1, i2, i3, i4, i5, i6, _⟩ := hi
  have t1199 : τ 1199 = some (g 0) := i0
  have t1105 : τ 1105 = some (g 1) := i1
  have t1107 : τ 1107 = some (g 2) := i2
  have t1106 : τ 1106 = some (g 3) := i3
  have xa : g 4 = m 110 29 := i4
  have xk : g 5 = m 110 28 := i5
  have xp : g 6 = m 110 27 := i6
  obtain ⟨c0, c1, c2, c3, c4, c5, c6, _⟩ := hc
  have c0 : (-1) * g 1 + 1 * g 4 ≤ 0 := d2 c0
  have c1 : 1 * g 1 + (-1) * g 4 ≤ 0 := d2 c1
  have c2 : (-1) * g 2 + 1 * g 5 ≤ 0 := d2 c2
  have c3 : 1 * g 2 + (-1) * g 5 ≤ 0 := d2 c3
  have c4 : (-1) * g 3 + 1 * g 6 ≤ 0 := d2 c4
  have c5 : 1 * g 3 + (-1) * g 6 ≤ 0 := d2 c5
  have c6 : 1 * g 2 ≤ 0 := d1 c6
  obtain ⟨a0, _⟩ := ha
  have n1121 : τ 1121 = none := a0
  obtain ⟨h0, k_tok, k_sc1, k_sc2, k_T, k_I, k_F, k_N, k_Y, k_Z, k_A, k_B, k_C, k_X, k_R, k_f4⟩ := hS (by rw [t1199]; exact fun e => by cases e)
  have k_sc10 := k_sc1
  obtain ⟨h_qz, h_nz, h_s, h_ns, h_nE⟩ := k_sc10
  have k_sc20 := k_sc2
  obtain ⟨h_ske, h_skv, h_sku, h_sw, h_swm, h_swu, h_sf, h_sg⟩ := k_sc20
  have k_T0 := k_T
  obtain ⟨h_T, h_TN, h_QZ⟩ := k_T0
  obtain ⟨hk, he⟩ := h_ske _ _ _ t1105 t1107 t1106
  have hs := h_s _ t1105
  exact ⟨rfl, trivial, trivial, fun _ => ⟨h0, k_tok, ⟨h_qz, h_nz, fun _ e0 => no9 (o := none) rfl e0, fun _ _ e0 e1 => no9 (o := none) rfl e1, h_nE⟩, ⟨fun _ _ _ e0 e1 e2 => no9 (o := none) rfl e0, fun _ _ _ e0 e1 e2 => no9 (o := none) rfl e0, fun _ _ _ e0 e1 e2 => no9 (o := none) rfl e0, fun _ _ e0 e1 => no9 (o := none) rfl e0, fun _ _ _ e0 e1 e2 => no9 (o := none) rfl e0, fun _ _ _ e0 e1 e2 => no9 (o := none) rfl e0, fun _ _ _ _ e0 e1 e2 e3 => no9 (o := none) rfl e0, fun _ _ _ _ e0 e1 e2 e3 => no9 (o := none) rfl e0⟩, ⟨fun T9 e0 => by
      have e0 : g 1 + 0 = T9 := Option.some.inj e0
      subst e0
      rw [Int.add_zero]
      exact ⟨⟨by omega, by omega⟩, ⟨by omega, by omega, by omega⟩, fun z => (by omega), fun z => (by omega), fun z => (by omega)⟩, fun _ _ e0 e1 => no9 n1121 e1, h_QZ⟩, k_I, k_F, k_N, k_Y, k_Z, k_A, k_B, k_C, k_X, k_R, k_f4⟩⟩
noncomputable def ru_tk1 : Ru := ([(0, (1199, (0, (0, 0)))), (0, (1105, (0, (0, 0)))), (0, (1107, (0, (0, 0)))), (0, (1106, (0, (0, 0)))), (5, (110, (29, (0, 0)))), (5, (110, (28, (0, 0)))), (5, (110, (27, (0, 0)))), (0, (1110, (0, (0, 0)))), (4, (0, (0, (0, 0)))), (9, (1000, (8, (0, 31))))], ([1121], ([([(1, (-1)), (4, 1)], 0), ([(1, 1), (4, (-1))], 0), ([(2, (-1)), (5, 1)], 0), ([(2, 1), (5, (-1))], 0), ([(3, (-1)), (6, 1)], 0), ([(3, 1), (6, (-1))], 0), ([(2, 1)], 1), ([(2, (-1))], (-1)), ([(7, (-1)), (9, 1)], 0), ([(7, 1), (9, (-1))], 0)], (false, ([], ([], ([(1120, some (1, 0)), (1105, none), (1107, none), (1106, none), (1110, none), (1115, none)], none)))))))
theorem rk_tk1 : RuOk SR ru_tk1 := by
  intro τ m g hi hc ha hS
  obtain ⟨i0, i1, i2, i3, i4, i5, i6, i7, i8, i9, _⟩ := hi
  have t1199 : τ 1199 = some (g 0) := i0
  have t1105 : τ 1105 = some (g 1) := i1
  have t1107 : τ 1107 = some (g 2) := i2
  have t1106 : τ 1106 = some (g 3) := i3
  have xa : g 4 = m 110 29 := i4
  have xk : g 5 = m 110 28 := i5
  have xp : g 6 = m 110 27 := i6
  have t1110 : τ 1110 = some (g 7) := i7
  have xo : g 8 = 0 := i8
  obtain ⟨jv, uv, vv⟩ : ∃ j : Nat, 0 * g 8 + 31 = (j : Int) ∧ g 9 = m 1000 j := i9
  obtain ⟨c0, c1, c2, c3, c4, c5, c6, c7, c8, c9, _⟩ := hc
  have c0 : (-1) * g 1 + 1 * g 4 ≤ 0 := d2 c0
  have c1 : 1 * g 1 + (-1) * g 4 ≤ 0 := d2 c1
  have c2 : (-1) * g 2 + 1 * g 5 ≤ 0 := d2 c2
  have c3 : 1 * g 2 + (-1) * g 5 ≤ 0 := d2 c3
  have c4 : (-1) * g 3 + 1 * g 6 ≤ 0 := d2 c4
  have c5 : 1 * g 3 + (-1) * g 6 ≤ 0 := d2 c5
  have c6 : 1 * g 2 ≤ 1 := d1 c6
  have c7 : (-1) * g 2 ≤ (-1) := d1 c7
  have c8 : (-1) * g 7 + 1 * g 9 ≤ 0 := d2 c8
  have c9 : 1 * g 7 + (-1) * g 9 ≤ 0 := d2 c9
  obtain ⟨a0, _⟩ := ha
  have n1121 : τ 1121 = none := a0
  obtain ⟨h0, k_tok, k_sc1, k_sc2, k_T, k_I, k_F, k_N, k_Y, k_Z, k_A, k_B, k_C, k_X, k_R, k_f4⟩ := hS (by rw [t1199]; exact fun e => by cases e)
  have k_sc10 := k_sc1
  obtain ⟨h_qz, h_nz, h_s, h_ns, h_nE⟩ := k_sc10
  have k_sc20 := k_sc2
  obtain ⟨h_ske, h_skv, h_sku, h_sw, h_swm, h_swu, h_sf, h_sg⟩ := k_sc20
  have k_T0 := k_T
  obtain ⟨h_T, h_TN, h_QZ⟩ := k_T0
  obtain ⟨hk, he⟩ := h_ske _ _ _ t1105 t1107 t1106
  have hs := h_s _ t1105
  have hu := h_sku _ _ _ t1105 t1107 t1110 (by omega)
  rw [show jv = 31 by omega] at vv
  exact ⟨rfl, trivial, trivial, fun _ => ⟨h0, k_tok, ⟨h_qz, h_nz, fun _ e0 => no9 (o := none) rfl e0, fun _ _ e0 e1 => no9 (o := none) rfl e1, h_nE⟩, ⟨fun _ _ _ e0 e1 e2 => no9 (o := none) rfl e0, fun _ _ _ e0 e1 e2 => no9 (o := none) rfl e0, fun _ _ _ e0 e1 e2 => no9 (o := none) rfl e0, fun _ _ e0 e1 => no9 (o := none) rfl e0, fun _ _ _ e0 e1 e2 => no9 (o := none) rfl e0, fun _ _ _ e0 e1 e2 => no9 (o := none) rfl e0, fun _ _ _ _ e0 e1 e2 e3 => no9 (o := none) rfl e0, fun _ _ _ _ e0 e1 e2 e3 => no9 (o := none) rfl e0⟩, ⟨fun T9 e0 => by
      have e0 : g 1 + 0 = T9 := Option.some.inj e0
      subst e0
      rw [Int.add_zero]
      exact ⟨⟨by omega, by omega⟩, ⟨by omega, by omega, by omega⟩, fun _ => (by omega), fun z => (by omega), fun z => (by omega)⟩, fun _ _ e0 e1 => no9 n1121 e1, h_QZ⟩, k_I, k_F, k_N, k_Y, k_Z, k_A, k_B, k_C, k_X, k_R, k_f4⟩⟩
noncomputable def ru_tk2 : Ru := ([(0, (1199, (0, (0, 0)))), (0, (1105, (0, (0, 0)))), (0, (1107, (0, (0, 0)))), (0, (1106, (0, (0, 0)))), (5, (110, (29, (0, 0)))), (5, (110, (28, (0, 0)))), (5, (110, (27, (0, 0)))), (0, (1108, (0, (0, 0)))), (4, (0, (0, (0, 0)))), (9, (1000, (8, (0, 31))))], ([1121], ([([(1, (-1)), (4, 1)], 0), ([(1, 1), (4, (-1))], 0), ([(2, (-1)), (5, 1)], 0), ([(2, 1), (5, (-1))], 0), ([(3, (-1)), (6, 1)], 0), ([(3, 1), (6, (-1))], 0), ([(2, 1)], 2), ([(2, (-1))], (-2)), ([(7, (-1)), (9, 1)], 0), ([(7, 1), (9, (-1))], 0)], (false, ([], ([], ([(1120, some (1, 0)), (1105, none), (1107, none), (1106, none), (1108, none)], none)))))))
theorem rk_tk2 : RuOk SR ru_tk2 := by
  intro τ m g hi hc ha hS
  obtain ⟨i0, i1, i2, i3, i4, i5, i6, i7, i8, i9, _⟩ := hi
  have t1199 : τ 1199 = some (g 0) := i0
  have t1105 : τ 1105 = some (g 1) := i1
  have t1107 : τ 1107 = some (g 2) := i2
  have t1106 : τ 1106 = some (g 3) := i3
  have xa : g 4 = m 110 29 := i4
  have xk : g 5 = m 110 28 := i5
  have xp : g 6 = m 110 27 := i6
  have t1108 : τ 1108 = some (g 7) := i7
  have xo : g 8 = 0 := i8
  obtain ⟨jv, uv, vv⟩ : ∃ j : Nat, 0 * g 8 + 31 = (j : Int) ∧ g 9 = m 1000 j := i9
  obtain ⟨c0, c1, c2, c3, c4, c5, c6, c7, c8, c9, _⟩ := hc
  have c0 : (-1) * g 1 + 1 * g 4 ≤ 0 := d2 c0
  have c1 : 1 * g 1 + (-1) * g 4 ≤ 0 := d2 c1
  have c2 : (-1) * g 2 + 1 * g 5 ≤ 0 := d2 c2
  have c3 : 1 * g 2 + (-1) * g 5 ≤ 0 := d2 c3
  have c4 : (-1) * g 3 + 1 * g 6 ≤ 0 := d2 c4
  have c5 : 1 * g 3 + (-1) * g 6 ≤ 0 := d2 c5
  have c6 : 1 * g 2 ≤ 2 := d1 c6
  have c7 : (-1) * g 2 ≤ (-2) := d1 c7
  have c8 : (-1) * g 7 + 1 * g 9 ≤ 0 := d2 c8
  have c9 : 1 * g 7 + (-1) * g 9 ≤ 0 := d2 c9
  obtain ⟨a0, _⟩ := ha
  have n1121 : τ 1121 = none := a0
  obtain ⟨h0, k_tok, k_sc1, k_sc2, k_T, k_I, k_F, k_N, k_Y, k_Z, k_A, k_B, k_C, k_X, k_R, k_f4⟩ := hS (by rw [t1199]; exact fun e => by cases e)
  have k_sc10 := k_sc1
  obtain ⟨h_qz, h_nz, h_s, h_ns, h_nE⟩ := k_sc10
  have k_sc20 := k_sc2
  obtain ⟨h_ske, h_skv, h_sku, h_sw, h_swm, h_swu, h_sf, h_sg⟩ := k_sc20
  have k_T0 := k_T
  obtain ⟨h_T, h_TN, h_QZ⟩ := k_T0
  obtain ⟨hk, he⟩ := h_ske _ _ _ t1105 t1107 t1106
  have hs := h_s _ t1105
  have hu := (h_skv _ _ _ t1105 t1107 t1108).1 (by omega)
  rw [show jv = 31 by omega] at vv
  exact ⟨rfl, trivial, trivial, fun _ => ⟨h0, k_tok, ⟨h_qz, h_nz, fun _ e0 => no9 (o := none) rfl e0, fun _ _ e0 e1 => no9 (o := none) rfl e1, h_nE⟩, ⟨fun _ _ _ e0 e1 e2 => no9 (o := none) rfl e0, fun _ _ _ e0 e1 e2 => no9 (o := none) rfl e0, fun _ _ _ e0 e1 e2 => no9 (o := none) rfl e0, fun _ _ e0 e1 => no9 (o := none) rfl e0, fun _ _ _ e0 e1 e2 => no9 (o := none) rfl e0, fun _ _ _ e0 e1 e2 => no9 (o := none) rfl e0, fun _ _ _ _ e0 e1 e2 e3 => no9 (o := none) rfl e0, fun _ _ _ _ e0 e1 e2 e3 => no9 (o := none) rfl e0⟩, ⟨fun T9 e0 => by
      have e0 : g 1 + 0 = T9 := Option.some.inj e0
      subst e0
      rw [Int.add_zero]
      exact ⟨⟨by omega, by omega⟩, ⟨by omega, by omega, by omega⟩, fun z => (by omega), fun _ => (by omega), fun z => (by omega)⟩, fun _ _ e0 e1 => no9 n1121 e1, h_QZ⟩, k_I, k_F, k_N, k_Y, k_Z, k_A, k_B, k_C, k_X, k_R, k_f4⟩⟩
noncomputable def ru_tk3 : Ru := ([(0, (1199, (0, (0, 0)))), (0, (1105, (0, (0, 0)))), (0, (1107, (0, (0, 0)))), (0, (1106, (0, (0, 0)))), (5, (110, (29, (0, 0)))), (5, (110, (28, (0, 0)))), (5, (110, (27, (0, 0))))], ([1121], ([([(1, (-1)), (4, 1)], 0), ([(1, 1), (4, (-1))], 0), ([(2, (-1)), (5, 1)], 0), ([(2, 1), (5, (-1))], 0), ([(3, (-1)), (6, 1)], 0), ([(3, 1), (6, (-1))], 0), ([(2, 1)], 3), ([(2, (-1))], (-3))], (false, ([], ([], ([(1120, some (1, 0)), (1105, none), (1107, none), (1106, none)], none)))))))
theorem rk_tk3 : RuOk SR ru_tk3 := by
  intro τ m g hi hc ha hS
  obtain ⟨i0, i1, i2, i3, i4, i5, i6, _⟩ := hi
  have t1199 : τ 1199 = some (g 0) := i0
  have t1105 : τ 1105 = some (g 1) := i1
  have t1107 : τ 1107 = some (g 2) := i2
  have t1106 : τ 1106 = some (g 3) := i3
  have xa : g 4 = m 110 29 := i4
  have xk : g 5 = m 110 28 := i5
  have xp : g 6 = m 110 27 := i6
  obtain ⟨c0, c1, c2, c3, c4, c5, c6, c7, _⟩ := hc
  have c0 : (-1) * g 1 + 1 * g 4 ≤ 0 := d2 c0
  have c1 : 1 * g 1 + (-1) * g 4 ≤ 0 := d2 c1
  have c2 : (-1) * g 2 + 1 * g 5 ≤ 0 := d2 c2
  have c3 : 1 * g 2 + (-1) * g 5 ≤ 0 := d2 c3
  have c4 : (-1) * g 3 + 1 * g 6 ≤ 0 := d2 c4
  have c5 : 1 * g 3 + (-1) * g 6 ≤ 0 := d2 c5
  have c6 : 1 * g 2 ≤ 3 := d1 c6
  have c7 : (-1) * g 2 ≤ (-3) := d1 c7
  obtain ⟨a0, _⟩ := ha
  have n1121 : τ 1121 = none := a0
  obtain ⟨h0, k_tok, k_sc1, k_sc2, k_T, k_I, k_F, k_N, k_Y, k_Z, k_A, k_B, k_C, k_X, k_R, k_f4⟩ := hS (by rw [t1199]; exact fun e => by cases e)
  have k_sc10 := k_sc1
  obtain ⟨h_qz, h_nz, h_s, h_ns, h_nE⟩ := k_sc10
  have k_sc20 := k_sc2
  obtain ⟨h_ske, h_skv, h_sku, h_sw, h_swm, h_swu, h_sf, h_sg⟩ := k_sc20
  have k_T0 := k_T
  obtain ⟨h_T, h_TN, h_QZ⟩ := k_T0
  obtain ⟨hk, he⟩ := h_ske _ _ _ t1105 t1107 t1106
  have hs := h_s _ t1105
  exact ⟨rfl, trivial, trivial, fun _ => ⟨h0, k_tok, ⟨h_qz, h_nz, fun _ e0 => no9 (o := none) rfl e0, fun _ _ e0 e1 => no9 (o := none) rfl e1, h_nE⟩, ⟨fun _ _ _ e0 e1 e2 => no9 (o := none) rfl e0, fun _ _ _ e0 e1 e2 => no9 (o := none) rfl e0, fun _ _ _ e0 e1 e2 => no9 (o := none) rfl e0, fun _ _ e0 e1 => no9 (o := none) rfl e0, fun _ _ _ e0 e1 e2 => no9 (o := none) rfl e0, fun _ _ _ e0 e1 e2 => no9 (o := none) rfl e0, fun _ _ _ _ e0 e1 e2 e3 => no9 (o := none) rfl e0, fun _ _ _ _ e0 e1 e2 e3 => no9 (o := none) rfl e0⟩, ⟨fun T9 e0 => by
      have e0 : g 1 + 0 = T9 := Option.some.inj e0
      subst e0
      rw [Int.add_zero]
      exact ⟨⟨by omega, by omega⟩, ⟨by omega, by omega, by omega⟩, fun z => (by omega), fun z => (by omega), fun z => (by omega)⟩, fun _ _ e0 e1 => no9 n1121 e1, h_QZ⟩, k_I, k_F, k_N, k_Y, k_Z, k_A, k_B, k_C, k_X, k_R, k_f4⟩⟩
noncomputable def ru_tk5 : Ru := ([(0, (1199, (0, (0, 0)))), (0, (1105, (0, (0, 0)))), (0, (1107, (0, (0, 0)))), (0, (1106, (0, (0, 0)))), (5, (110, (29, (0, 0)))), (5, (110, (28, (0, 0)))), (5, (110, (27, (0, 0))))], ([1121], ([([(1, (-1)), (4, 1)], 0), ([(1, 1), (4, (-1))], 0), ([(2, (-1)), (5, 1)], 0), ([(2, 1), (5, (-1))], 0), ([(3, (-1)), (6, 1)], 0), ([(3, 1), (6, (-1))], 0), ([(2, 1)], 5), ([(2, (-1))], (-5))], (false, ([], ([], ([(1120, some (1, 0)), (1105, none), (1107, none), (1106, none)], none)))))))
theorem rk_tk5 : RuOk SR ru_tk5 := by
  intro τ m g hi hc ha hS
  obtain ⟨i0, i1, i2, i3, i4, i5, i6, _⟩ := hi
  have t1199 : τ 1199 = some (g 0) := i0
  have t1105 : τ 1105 = some (g 1) := i1
  have t1107 : τ 1107 = some (g 2) := i2
  have t1106 : τ 1106 = some (g 3) := i3
  have xa : g 4 = m 110 29 := i4
  have xk : g 5 = m 110 28 := i5
  have xp : g 6 = m 110 27 := i6
  obtain ⟨c0, c1, c2, c3, c4, c5, c6, c7, _⟩ := hc
  have c0 : (-1) * g 1 + 1 * g 4 ≤ 0 := d2 c0
  have c1 : 1 * g 1 + (-1) * g 4 ≤ 0 := d2 c1
  have c2 : (-1) * g 2 + 1 * g 5 ≤ 0 := d2 c2
  have c3 : 1 * g 2 + (-1) * g 5 ≤ 0 := d2 c3
  have c4 : (-1) * g 3 + 1 * g 6 ≤ 0 := d2 c4
  have c5 : 1 * g 3 + (-1) * g 6 ≤ 0 := d2 c5
  have c6 : 1 * g 2 ≤ 5 := d1 c6
  have c7 : (-1) * g 2 ≤ (-5) := d1 c7
  obtain ⟨a0, _⟩ := ha
  have n1121 : τ 1121 = none := a0
  obtain ⟨h0, k_tok, k_sc1, k_sc2, k_T, k_I, k_F, k_N, k_Y, k_Z, k_A, k_B, k_C, k_X, k_R, k_f4⟩ := hS (by rw [t1199]; exact fun e => by cases e)
  have k_sc10 := k_sc1
  obtain ⟨h_qz, h_nz, h_s, h_ns, h_nE⟩ := k_sc10
  have k_sc20 := k_sc2
  obtain ⟨h_ske, h_skv, h_sku, h_sw, h_swm, h_swu, h_sf, h_sg⟩ := k_sc20
  have k_T0 := k_T
  obtain ⟨h_T, h_TN, h_QZ⟩ := k_T0
  obtain ⟨hk, he⟩ := h_ske _ _ _ t1105 t1107 t1106
  have hs := h_s _ t1105
  exact ⟨rfl, trivial, trivial, fun _ => ⟨h0, k_tok, ⟨h_qz, h_nz, fun _ e0 => no9 (o := none) rfl e0, fun _ _ e0 e1 => no9 (o := none) rfl e1, h_nE⟩, ⟨fun _ _ _ e0 e1 e2 => no9 (o := none) rfl e0, fun _ _ _ e0 e1 e2 => no9 (o := none) rfl e0, fun _ _ _ e0 e1 e2 => no9 (o := none) rfl e0, fun _ _ e0 e1 => no9 (o := none) rfl e0, fun _ _ _ e0 e1 e2 => no9 (o := none) rfl e0, fun _ _ _ e0 e1 e2 => no9 (o := none) rfl e0, fun _ _ _ _ e0 e1 e2 e3 => no9 (o := none) rfl e0, fun _ _ _ _ e0 e1 e2 e3 => no9 (o := none) rfl e0⟩, ⟨fun T9 e0 => by
      have e0 : g 1 + 0 = T9 := Option.some.inj e0
      subst e0
      rw [Int.add_zero]
      exact ⟨⟨by omega, by omega⟩, ⟨by omega, by omega, by omega⟩, fun z => (by omega), fun z => (by omega), fun z => (by omega)⟩, fun _ _ e0 e1 => no9 n1121 e1, h_QZ⟩, k_I, k_F, k_N, k_Y, k_Z, k_A, k_B, k_C, k_X, k_R, k_f4⟩⟩
noncomputable def ru_tk4 : Ru := ([(0, (1199, (0, (0, 0)))), (0, (1105, (0, (0, 0)))), (0, (1107, (0, (0, 0)))), (0, (1106, (0, (0, 0)))), (5, (110, (29, (0, 0)))), (5, (110, (28, (0, 0)))), (5, (110, (27, (0, 0)))), (0, (1108, (0, (0, 0)))), (5, (110, (30, (0, 0)))), (12, (3, (7, (0, 0))))], ([1121], ([([(1, (-1)), (4, 1)], 0), ([(1, 1), (4, (-1))], 0), ([(2, (-1)), (5, 1)], 0), ([(2, 1), (5, (-1))], 0), ([(3, (-1)), (6, 1)], 0), ([(3, 1), (6, (-1))], 0), ([(2, 1)], 4), ([(2, (-1))], (-4)), ([(8, 1), (9, (-1))], 0), ([(8, (-1)), (9, 1)], 0)], (false, ([], ([], ([(1120, some (1, 0)), (1105, none), (1107, none), (1106, none), (1108, none)], none)))))))
theorem rk_tk4 : RuOk SR ru_tk4 := by
  intro τ m g hi hc ha hS
  obtain ⟨i0, i1, i2, i3, i4, i5, i6, i7, i8, i9, _⟩ := hi
  have t1199 : τ 1199 = some (g 0) := i0
  have t1105 : τ 1105 = some (g 1) := i1
  have t1107 : τ 1107 = some (g 2) := i2
  have t1106 : τ 1106 = some (g 3) := i3
  have xa : g 4 = m 110 29 := i4
  have xk : g 5 = m 110 28 := i5
  have xp : g 6 = m 110 27 := i6
  have t1108 : τ 1108 = some (g 7) := i7
  have xt : g 8 = m 110 30 := i8
  have xt2 : g 9 = tb9 3 (g 7) := i9
  obtain ⟨c0, c1, c2, c3, c4, c5, c6, c7, c8, c9, _⟩ := hc
  have c0 : (-1) * g 1 + 1 * g 4 ≤ 0 := d2 c0
  have c1 : 1 * g 1 + (-1) * g 4 ≤ 0 := d2 c1
  have c2 : (-1) * g 2 + 1 * g 5 ≤ 0 := d2 c2
  have c3 : 1 * g 2 + (-1) * g 5 ≤ 0 := d2 c3
  have c4 : (-1) * g 3 + 1 * g 6 ≤ 0 := d2 c4
  have c5 : 1 * g 3 + (-1) * g 6 ≤ 0 := d2 c5
  have c6 : 1 * g 2 ≤ 4 := d1 c6
  have c7 : (-1) * g 2 ≤ (-4) := d1 c7
  have c8 : 1 * g 8 + (-1) * g 9 ≤ 0 := d2 c8
  have c9 : (-1) * g 8 + 1 * g 9 ≤ 0 := d2 c9
  obtain ⟨a0, _⟩ := ha
  have n1121 : τ 1121 = none := a0
  obtain ⟨h0, k_tok, k_sc1, k_sc2, k_T, k_I, k_F, k_N, k_Y, k_Z, k_A, k_B, k_C, k_X, k_R, k_f4⟩ := hS (by rw [t1199]; exact fun e => by cases e)
  have k_sc10 := k_sc1
  obtain ⟨h_qz, h_nz, h_s, h_ns, h_nE⟩ := k_sc10
  have k_sc20 := k_sc2
  obtain ⟨h_ske, h_skv, h_sku, h_sw, h_swm, h_swu, h_sf, h_sg⟩ := k_sc20
  have k_T0 := k_T
  obtain ⟨h_T, h_TN, h_QZ⟩ := k_T0
  obtain ⟨hk, he⟩ := h_ske _ _ _ t1105 t1107 t1106
  have hs := h_s _ t1105
  have hv := (h_skv _ _ _ t1105 t1107 t1108).2 (by omega)
  have hk4 : kd9 (tx9 m) (g 1).toNat = 4 := by omega
  have hr := rc_kd.2.2.2.2.1 hk4
  have hsv := (sV_tb (c := rc9 (tx9 m) (g 1).toNat) (by omega) (by omega)).1
  rw [← hv] at hsv
  exact ⟨rfl, trivial, trivial, fun _ => ⟨h0, k_tok, ⟨h_qz, h_nz, fun _ e0 => no9 (o := none) rfl e0, fun _ _ e0 e1 => no9 (o := none) rfl e1, h_nE⟩, ⟨fun _ _ _ e0 e1 e2 => no9 (o := none) rfl e0, fun _ _ _ e0 e1 e2 => no9 (o := none) rfl e0, fun _ _ _ e0 e1 e2 => no9 (o := none) rfl e0, fun _ _ e0 e1 => no9 (o := none) rfl e0, fun _ _ _ e0 e1 e2 => no9 (o := none) rfl e0, fun _ _ _ e0 e1 e2 => no9 (o := none) rfl e0, fun _ _ _ _ e0 e1 e2 e3 => no9 (o := none) rfl e0, fun _ _ _ _ e0 e1 e2 e3 => no9 (o := none) rfl e0⟩, ⟨fun T9 e0 => by
      have e0 : g 1 + 0 = T9 := Option.some.inj e0
      subst e0
      rw [Int.add_zero]
      exact ⟨⟨by omega, by omega⟩, ⟨by omega, by omega, by omega⟩, fun z => (by omega), fun z => (by omega), fun z => (by omega)⟩, fun _ _ e0 e1 => no9 n1121 e1, h_QZ⟩, k_I, k_F, k_N, k_Y, k_Z, k_A, k_B, k_C, k_X, k_R, k_f4⟩⟩
noncomputable def ru_nM : Ru := ([(0, (1199, (0, (0, 0)))), (0, (1120, (0, (0, 0))))], ([1121], ([], (false, ([], ([], ([], some (1121, (0, 1200)))))))))
theorem rk_nM : RuOk SR ru_nM := by
  intro τ m g hi hc ha hS
  obtain ⟨i0, i1, _⟩ := hi
  have t1199 : τ 1199 = some (g 0) := i0
  have t1120 : τ 1120 = some (g 1) := i1
  obtain ⟨a0, _⟩ := ha
  have n1121 : τ 1121 = none := a0
  obtain ⟨h0, k_tok, k_sc1, k_sc2, k_T, k_I, k_F, k_N, k_Y, k_Z, k_A, k_B, k_C, k_X, k_R, k_f4⟩ := hS (by rw [t1199]; exact fun e => by cases e)
  have k_T0 := k_T
  obtain ⟨h_T, h_TN, h_QZ⟩ := k_T0
  have hXL : ((tx9 m).2 : Int) = m 110 1 := by
    show (((m 110 1).toNat : Nat) : Int) = _
    omega
  obtain ⟨⟨hT1, hT2⟩, ⟨hTa, hTk, hTp⟩, _⟩ := h_T _ t1120
  have hnL := nx_P (m := m) (p := (g 1).toNat) (by omega)
  have hte := te_P (m := m) (p := (g 1).toNat) (by omega)
  obtain ⟨x0, hx0⟩ : ∃ x0 : Int, x0 = (nx9t (tx9 m) (g 1).toNat : Int) := ⟨_, rfl⟩
  have x1 : 0 ≤ x0 := by omega
  have x2 : x0 ≤ 1200 := by omega
  exact ⟨rfl, trivial, trivial, x0, x1, x2, fun _ => ⟨h0, k_tok, k_sc1, k_sc2, ⟨h_T, fun T9 N9 e0 e1 => by
      have e0 : g 1 = T9 := Option.some.inj (t1120.symm.trans e0)
      subst e0
      have e1 : x0 = N9 := Option.some.inj e1
      subst e1
      exact hx0, h_QZ⟩, k_I, k_F, k_N, k_Y, k_Z, k_A, k_B, k_C, k_X, k_R, k_f4⟩⟩
noncomputable def ru_nMf : Ru := ([(0, (1199, (0, (0, 0)))), (0, (1120, (0, (0, 0)))), (0, (1121, (0, (0, 0)))), (5, (110, (27, (0, 0)))), (5, (110, (1, (0, 0))))], ([], ([], (false, ([([(2, (-1)), (3, 1)], 0), ([(2, 1), (4, (-1))], 0)], ([], ([], none)))))))
theorem rk_nMf : RuOk SR ru_nMf := by
  intro τ m g hi hc ha hS
  obtain ⟨i0, i1, i2, i3, i4, _⟩ := hi
  have t1199 : τ 1199 = some (g 0) := i0
  have t1120 : τ 1120 = some (g 1) := i1
  have t1121 : τ 1121 = some (g 2) := i2
  have xp : g 3 = m 110 27 := i3
  have xL : g 4 = m 110 1 := i4
  obtain ⟨h0, k_tok, k_sc1, k_sc2, k_T, k_I, k_F, k_N, k_Y, k_Z, k_A, k_B, k_C, k_X, k_R, k_f4⟩ := hS (by rw [t1199]; exact fun e => by cases e)
  have k_T0 := k_T
  obtain ⟨h_T, h_TN, h_QZ⟩ := k_T0
  have hXL : ((tx9 m).2 : Int) = m 110 1 := by
    show (((m 110 1).toNat : Nat) : Int) = _
    omega
  obtain ⟨⟨hT1, hT2⟩, ⟨hTa, hTk, hTp⟩, _⟩ := h_T _ t1120
  have hnL := nx_P (m := m) (p := (g 1).toNat) (by omega)
  have hte := te_P (m := m) (p := (g 1).toNat) (by omega)
  have hN := h_TN _ _ t1120 t1121
  have := te_nx (X := tx9 m) (p := (g 1).toNat)
  exact ⟨rfl, ⟨f2 (by omega), f2 (by omega), trivial⟩, trivial, fun _ => ⟨h0, k_tok, k_sc1, k_sc2, k_T, k_I, k_F, k_N, k_Y, k_Z, k_A, k_B, k_C, k_X, k_R, k_f4⟩⟩
noncomputable def ru_go : Ru := ([(0, (1199, (0, (0, 0)))), (0, (1120, (0, (0, 0)))), (0, (1121, (0, (0, 0)))), (5, (110, (27, (0, 0))))], ([1103, 1104, 1105, 1101, 1106, 1107, 1108, 1109, 1110, 1111, 1112, 1113, 1114, 1115], ([], (false, ([], ([], ([(1103, some (3, 0)), (1104, some (2, 0)), (1120, none), (1121, none), (1123, none), (1124, none)], none)))))))
theorem rk_go : RuOk SR ru_go := by
  intro τ m g hi hc ha hS
  obtain ⟨i0, i1, i2, i3, _⟩ := hi
  have t1199 : τ 1199 = some (g 0) := i0
  have t1120 : τ 1120 = some (g 1) := i1
  have t1121 : τ 1121 = some (g 2) := i2
  have xp : g 3 = m 110 27 := i3
  obtain ⟨a0, a1, a2, a3, a4, a5, a6, a7, a8, a9, a10, a11, a12, a13, _⟩ := ha
  have n1103 : τ 1103 = none := a0
  have n1104 : τ 1104 = none := a1
  have n1105 : τ 1105 = none := a2
  have n1101 : τ 1101 = none := a3
  have n1106 : τ 1106 = none := a4
  have n1107 : τ 1107 = none := a5
  have n1108 : τ 1108 = none := a6
  have n1109 : τ 1109 = none := a7
  have n1110 : τ 1110 = none := a8
  have n1111 : τ 1111 = none := a9
  have n1112 : τ 1112 = none := a10
  have n1113 : τ 1113 = none := a11
  have n1114 : τ 1114 = none := a12
  have n1115 : τ 1115 = none := a13
  obtain ⟨h0, k_tok, k_sc1, k_sc2, k_T, k_I, k_F, k_N, k_Y, k_Z, k_A, k_B, k_C, k_X, k_R, k_f4⟩ := hS (by rw [t1199]; exact fun e => by cases e)
  have k_T0 := k_T
  obtain ⟨h_T, h_TN, h_QZ⟩ := k_T0
  have k_sc10 := k_sc1
  obtain ⟨h_qz, h_nz, h_s, h_ns, h_nE⟩ := k_sc10
  have k_I0 := k_I
  obtain ⟨h_p, h_pc, h_ip, h_iP, h_PC, h_PN⟩ := k_I0
  have hXL : ((tx9 m).2 : Int) = m 110 1 := by
    show (((m 110 1).toNat : Nat) : Int) = _
    omega
  obtain ⟨⟨hT1, hT2⟩, ⟨hTa, hTk, hTp⟩, _⟩ := h_T _ t1120
  have hnL := nx_P (m := m) (p := (g 1).toNat) (by omega)
  have hte := te_P (m := m) (p := (g 1).toNat) (by omega)
  have hN := h_TN _ _ t1120 t1121
  exact ⟨rfl, trivial, trivial, fun _ => ⟨h0, k_tok, ⟨fun q9 z9 e0 e1 => by
      have e0 : g 3 + 0 = q9 := Option.some.inj e0
      subst e0
      have e1 : g 2 + 0 = z9 := Option.some.inj e1
      subst e1
      rw [show (g 3 + 0).toNat = te9 (tx9 m) (g 1).toNat by omega, Int.add_zero, Int.add_zero]
      exact ⟨⟨by omega, by omega⟩, hN⟩, fun _ _ e0 e1 => no9 n1101 e0, h_s, h_ns, h_nE⟩, k_sc2, ⟨fun _ e0 => no9 (o := none) rfl e0, fun _ _ e0 e1 => no9 (o := none) rfl e0, h_QZ⟩, ⟨fun _ e0 => no9 (o := none) rfl e0, fun _ _ e0 e1 => no9 (o := none) rfl e0, fun _ _ _ e0 e1 e2 => no9 (o := none) rfl e2, fun _ _ _ e0 e1 e2 => no9 (o := none) rfl e1, h_PC, h_PN⟩, k_F, k_N, k_Y, k_Z, k_A, k_B, k_C, k_X, k_R, k_f4⟩⟩
noncomputable def ru_sav : Ru := ([(0, (1199, (0, (0, 0)))), (0, (1120, (0, (0, 0)))), (0, (1121, (0, (0, 0)))), (5, (110, (27, (0, 0))))], ([1128, 1129], ([], (false, ([], ([], ([(1128, some (3, 0)), (1129, some (2, 0))], none)))))))
theorem rk_sav : RuOk SR ru_sav := by
  intro τ m g hi hc ha hS
  obtain ⟨i0, i1, i2, i3, _⟩ := hi
  have t1199 : τ 1199 = some (g 0) := i0
  have t1120 : τ 1120 = some (g 1) := i1
  have t1121 : τ 1121 = some (g 2) := i2
  have xp : g 3 = m 110 27 := i3
  obtain ⟨a0, a1, _⟩ := ha
  have n1128 : τ 1128 = none := a0
  have n1129 : τ 1129 = none := a1
  obtain ⟨h0, k_tok, k_sc1, k_sc2, k_T, k_I, k_F, k_N, k_Y, k_Z, k_A, k_B, k_C, k_X, k_R, k_f4⟩ := hS (by rw [t1199]; exact fun e => by cases e)
  have k_T0 := k_T
  obtain ⟨h_T, h_TN, h_QZ⟩ := k_T0
  have hXL : ((tx9 m).2 : Int) = m 110 1 := by
    show (((m 110 1).toNat : Nat) : Int) = _
    omega
  obtain ⟨⟨hT1, hT2⟩, ⟨hTa, hTk, hTp⟩, _⟩ := h_T _ t1120
  have hnL := nx_P (m := m) (p := (g 1).toNat) (by omega)
  have hte := te_P (m := m) (p := (g 1).toNat) (by omega)
  have hN := h_TN _ _ t1120 t1121
  exact ⟨rfl, trivial, trivial, fun _ => ⟨h0, k_tok, k_sc1, k_sc2, ⟨h_T, h_TN, fun Q2 Z2 e0 e1 => by
      have e0 : g 3 + 0 = Q2 := Option.some.inj e0
      subst e0
      have e1 : g 2 + 0 = Z2 := Option.some.inj e1
      subst e1
      rw [show (g 3 + 0).toNat = te9 (tx9 m) (g 1).toNat by omega, Int.add_zero, Int.add_zero]
      exact ⟨⟨by omega, by omega⟩, hN⟩⟩, k_I, k_F, k_N, k_Y, k_Z, k_A, k_B, k_C, k_X, k_R, k_f4⟩⟩
noncomputable def ru_res : Ru := ([(0, (1199, (0, (0, 0)))), (0, (1128, (0, (0, 0)))), (0, (1129, (0, (0, 0))))], ([1103, 1104, 1105, 1101, 1106, 1107, 1108, 1109, 1110, 1111, 1112, 1113, 1114, 1115], ([], (false, ([], ([], ([(1103, some (1, 0)), (1104, some (2, 0)), (1128, none), (1129, none), (1120, none), (1121, none), (1123, none), (1124, none)], none)))))))
theorem rk_res : RuOk SR ru_res := by
  intro τ m g hi hc ha hS
  obtain ⟨i0, i1, i2, _⟩ := hi
  have t1199 : τ 1199 = some (g 0) := i0
  have t1128 : τ 1128 = some (g 1) := i1
  have t1129 : τ 1129 = some (g 2) := i2
  obtain ⟨a0, a1, a2, a3, a4, a5, a6, a7, a8, a9, a10, a11, a12, a13, _⟩ := ha
  have n1103 : τ 1103 = none := a0
  have n1104 : τ 1104 = none := a1
  have n1105 : τ 1105 = none := a2
  have n1101 : τ 1101 = none := a3
  have n1106 : τ 1106 = none := a4
  have n1107 : τ 1107 = none := a5
  have n1108 : τ 1108 = none := a6
  have n1109 : τ 1109 = none := a7
  have n1110 : τ 1110 = none := a8
  have n1111 : τ 1111 = none := a9
  have n1112 : τ 1112 = none := a10
  have n1113 : τ 1113 = none := a11
  have n1114 : τ 1114 = none := a12
  have n1115 : τ 1115 = none := a13
  obtain ⟨h0, k_tok, k_sc1, k_sc2, k_T, k_I, k_F, k_N, k_Y, k_Z, k_A, k_B, k_C, k_X, k_R, k_f4⟩ := hS (by rw [t1199]; exact fun e => by cases e)
  have k_T0 := k_T
  obtain ⟨h_T, h_TN, h_QZ⟩ := k_T0
  have k_sc10 := k_sc1
  obtain ⟨h_qz, h_nz, h_s, h_ns, h_nE⟩ := k_sc10
  have k_I0 := k_I
  obtain ⟨h_p, h_pc, h_ip, h_iP, h_PC, h_PN⟩ := k_I0
  have hQ := h_QZ _ _ t1128 t1129
  exact ⟨rfl, trivial, trivial, fun _ => ⟨h0, k_tok, ⟨fun q9 z9 e0 e1 => by
      have e0 : g 1 + 0 = q9 := Option.some.inj e0
      subst e0
      have e1 : g 2 + 0 = z9 := Option.some.inj e1
      subst e1
      simp only [Int.add_zero]
      exact hQ, fun _ _ e0 e1 => no9 n1101 e0, h_s, h_ns, h_nE⟩, k_sc2, ⟨fun _ e0 => no9 (o := none) rfl e0, fun _ _ e0 e1 => no9 (o := none) rfl e0, fun _ _ e0 e1 => no9 (o := none) rfl e0⟩, ⟨fun _ e0 => no9 (o := none) rfl e0, fun _ _ e0 e1 => no9 (o := none) rfl e0, fun _ _ _ e0 e1 e2 => no9 (o := none) rfl e2, fun _ _ _ e0 e1 e2 => no9 (o := none) rfl e1, h_PC, h_PN⟩, k_F, k_N, k_Y, k_Z, k_A, k_B, k_C, k_X, k_R, k_f4⟩⟩
noncomputable def ru_cM : Ru := ([(0, (1199, (0, (0, 0)))), (0, (1120, (0, (0, 0))))], ([1123, 1124, 1122], ([], (false, ([], ([], ([(1123, some (1, 0))], some (1124, (0, 51)))))))))
theorem rk_cM : RuOk SR ru_cM := by
  intro τ m g hi hc ha hS
  obtain ⟨i0, i1, _⟩ := hi
  have t1199 : τ 1199 = some (g 0) := i0
  have t1120 : τ 1120 = some (g 1) := i1
  obtain ⟨a0, a1, a2, _⟩ := ha
  have n1123 : τ 1123 = none := a0
  have n1124 : τ 1124 = none := a1
  have n1122 : τ 1122 = none := a2
  obtain ⟨h0, k_tok, k_sc1, k_sc2, k_T, k_I, k_F, k_N, k_Y, k_Z, k_A, k_B, k_C, k_X, k_R, k_f4⟩ := hS (by rw [t1199]; exact fun e => by cases e)
  have k_T0 := k_T
  obtain ⟨h_T, h_TN, h_QZ⟩ := k_T0
  have k_I0 := k_I
  obtain ⟨h_p, h_pc, h_ip, h_iP, h_PC, h_PN⟩ := k_I0
  have hXL : ((tx9 m).2 : Int) = m 110 1 := by
    show (((m 110 1).toNat : Nat) : Int) = _
    omega
  obtain ⟨⟨hT1, hT2⟩, ⟨hTa, hTk, hTp⟩, _⟩ := h_T _ t1120
  have hnL := nx_P (m := m) (p := (g 1).toNat) (by omega)
  have hte := te_P (m := m) (p := (g 1).toNat) (by omega)
  obtain ⟨x0, hx0⟩ : ∃ x0 : Int, x0 = (rc9 (tx9 m) (g 1).toNat : Int) := ⟨_, rfl⟩
  have x1 : 0 ≤ x0 := by omega
  have x2 : x0 ≤ 51 := by
    have := rc_le (X := tx9 m) (p := (g 1).toNat)
    omega
  exact ⟨rfl, trivial, trivial, x0, x1, x2, fun _ => ⟨h0, k_tok, k_sc1, k_sc2, k_T, ⟨fun p9 e0 => by
      have e0 : g 1 + 0 = p9 := Option.some.inj e0
      subst e0
      exact ⟨by omega, by omega⟩, fun p9 c9 e0 e1 => by
      have e0 : g 1 + 0 = p9 := Option.some.inj e0
      subst e0
      have e1 : x0 = c9 := Option.some.inj e1
      subst e1
      rw [Int.add_zero]
      exact hx0, fun _ _ _ e0 e1 e2 => no9 n1122 e1, fun _ _ _ e0 e1 e2 => no9 n1122 e0, h_PC, h_PN⟩, k_F, k_N, k_Y, k_Z, k_A, k_B, k_C, k_X, k_R, k_f4⟩⟩
noncomputable def ru_mk0 : Ru := ([(0, (1199, (0, (0, 0)))), (0, (1120, (0, (0, 0)))), (0, (1123, (0, (0, 0)))), (0, (1124, (0, (0, 0)))), (4, (0, (0, (28, 0)))), (4, (0, (0, (0, 0))))], ([], ([([(1, (-1)), (2, 1)], 0), ([(1, 1), (2, (-1))], 0), ([(3, (-1))], (-1)), ([(3, 1)], 1)], (false, ([], ([(110, (4, 5))], ([], none)))))))
theorem rk_mk0 : RuOk SR ru_mk0 := by
  intro τ m g hi hc ha hS
  obtain ⟨i0, i1, i2, i3, i4, i5, _⟩ := hi
  have t1199 : τ 1199 = some (g 0) := i0
  have t1120 : τ 1120 = some (g 1) := i1
  have t1123 : τ 1123 = some (g 2) := i2
  have t1124 : τ 1124 = some (g 3) := i3
  have xj : g 4 = 28 := i4
  have xk : g 5 = 0 := i5
  obtain ⟨c0, c1, c2, c3, _⟩ := hc
  have c0 : (-1) * g 1 + 1 * g 2 ≤ 0 := d2 c0
  have c1 : 1 * g 1 + (-1) * g 2 ≤ 0 := d2 c1
  have c2 : (-1) * g 3 ≤ (-1) := d1 c2
  have c3 : 1 * g 3 ≤ 1 := d1 c3
  obtain ⟨h0, k_tok, k_sc1, k_sc2, k_T, k_I, k_F, k_N, k_Y, k_Z, k_A, k_B, k_C, k_X, k_R, k_f4⟩ := hS (by rw [t1199]; exact fun e => by cases e)
  have k_T0 := k_T
  obtain ⟨h_T, h_TN, h_QZ⟩ := k_T0
  have k_I0 := k_I
  obtain ⟨h_p, h_pc, h_ip, h_iP, h_PC, h_PN⟩ := k_I0
  have hXL : ((tx9 m).2 : Int) = m 110 1 := by
    show (((m 110 1).toNat : Nat) : Int) = _
    omega
  obtain ⟨⟨hT1, hT2⟩, ⟨hTa, hTk, hTp⟩, _⟩ := h_T _ t1120
  have hnL := nx_P (m := m) (p := (g 1).toNat) (by omega)
  have hte := te_P (m := m) (p := (g 1).toNat) (by omega)
  have hcc := h_pc _ _ t1123 t1124
  rw [show (g 2).toNat = (g 1).toNat by omega] at hcc
  have hko := kd_of (X := tx9 m) (p := (g 1).toNat)
  exact ⟨rfl, trivial, ⟨⟨28, (show g 4 = ((28 : Nat) : Int) by omega), (show g 5 = m 110 (28) by omega)⟩, trivial⟩, fun _ => ⟨h0, k_tok, k_sc1, k_sc2, k_T, k_I, k_F, k_N, k_Y, k_Z, k_A, k_B, k_C, k_X, k_R, k_f4⟩⟩
noncomputable def ru_mk1 : Ru := ([(0, (1199, (0, (0, 0)))), (0, (1120, (0, (0, 0)))), (0, (1123, (0, (0, 0)))), (0, (1124, (0, (0, 0)))), (4, (0, (0, (28, 0)))), (4, (0, (0, (1, 0))))], ([], ([([(1, (-1)), (2, 1)], 0), ([(1, 1), (2, (-1))], 0), ([(3, (-1))], (-21)), ([(3, 1)], 51)], (false, ([], ([(110, (4, 5))], ([], none)))))))
theorem rk_mk1 : RuOk SR ru_mk1 := by
  intro τ m g hi hc ha hS
  obtain ⟨i0, i1, i2, i3, i4, i5, _⟩ := hi
  have t1199 : τ 1199 = some (g 0) := i0
  have t1120 : τ 1120 = some (g 1) := i1
  have t1123 : τ 1123 = some (g 2) := i2
  have t1124 : τ 1124 = some (g 3) := i3
  have xj : g 4 = 28 := i4
  have xk : g 5 = 1 := i5
  obtain ⟨c0, c1, c2, c3, _⟩ := hc
  have c0 : (-1) * g 1 + 1 * g 2 ≤ 0 := d2 c0
  have c1 : 1 * g 1 + (-1) * g 2 ≤ 0 := d2 c1
  have c2 : (-1) * g 3 ≤ (-21) := d1 c2
  have c3 : 1 * g 3 ≤ 51 := d1 c3
  obtain ⟨h0, k_tok, k_sc1, k_sc2, k_T, k_I, k_F, k_N, k_Y, k_Z, k_A, k_B, k_C, k_X, k_R, k_f4⟩ := hS (by rw [t1199]; exact fun e => by cases e)
  have k_T0 := k_T
  obtain ⟨h_T, h_TN, h_QZ⟩ := k_T0
  have k_I0 := k_I
  obtain ⟨h_p, h_pc, h_ip, h_iP, h_PC, h_PN⟩ := k_I0
  have hXL : ((tx9 m).2 : Int) = m 110 1 := by
    show (((m 110 1).toNat : Nat) : Int) = _
    omega
  obtain ⟨⟨hT1, hT2⟩, ⟨hTa, hTk, hTp⟩, _⟩ := h_T _ t1120
  have hnL := nx_P (m := m) (p := (g 1).toNat) (by omega)
  have hte := te_P (m := m) (p := (g 1).toNat) (by omega)
  have hcc := h_pc _ _ t1123 t1124
  rw [show (g 2).toNat = (g 1).toNat by omega] at hcc
  have hko := kd_of (X := tx9 m) (p := (g 1).toNat)
  exact ⟨rfl, trivial, ⟨⟨28, (show g 4 = ((28 : Nat) : Int) by omega), (show g 5 = m 110 (28) by omega)⟩, trivial⟩, fun _ => ⟨h0, k_tok, k_sc1, k_sc2, k_T, k_I, k_F, k_N, k_Y, k_Z, k_A, k_B, k_C, k_X, k_R, k_f4⟩⟩
noncomputable def ru_mk2 : Ru := ([(0, (1199, (0, (0, 0)))), (0, (1120, (0, (0, 0)))), (0, (1123, (0, (0, 0)))), (0, (1124, (0, (0, 0)))), (4, (0, (0, (28, 0)))), (4, (0, (0, (2, 0))))], ([], ([([(1, (-1)), (2, 1)], 0), ([(1, 1), (2, (-1))], 0), ([(3, (-1))], (-2)), ([(3, 1)], 2)], (false, ([], ([(110, (4, 5))], ([], none)))))))
theorem rk_mk2 : RuOk SR ru_mk2 := by
  intro τ m g hi hc ha hS
  obtain ⟨i0, i1, i2, i3, i4, i5, _⟩ := hi
  have t1199 : τ 1199 = some (g 0) := i0
  have t1120 : τ 1120 = some (g 1) := i1
  have t1123 : τ 1123 = some (g 2) := i2
  have t1124 : τ 1124 = some (g 3) := i3
  have xj : g 4 = 28 := i4
  have xk : g 5 = 2 := i5
  obtain ⟨c0, c1, c2, c3, _⟩ := hc
  have c0 : (-1) * g 1 + 1 * g 2 ≤ 0 := d2 c0
  have c1 : 1 * g 1 + (-1) * g 2 ≤ 0 := d2 c1
  have c2 : (-1) * g 3 ≤ (-2) := d1 c2
  have c3 : 1 * g 3 ≤ 2 := d1 c3
  obtain ⟨h0, k_tok, k_sc1, k_sc2, k_T, k_I, k_F, k_N, k_Y, k_Z, k_A, k_B, k_C, k_X, k_R, k_f4⟩ := hS (by rw [t1199]; exact fun e => by cases e)
  have k_T0 := k_T
  obtain ⟨h_T, h_TN, h_QZ⟩ := k_T0
  have k_I0 := k_I
  obtain ⟨h_p, h_pc, h_ip, h_iP, h_PC, h_PN⟩ := k_I0
  have hXL : ((tx9 m).2 : Int) = m 110 1 := by
    show (((m 110 1).toNat : Nat) : Int) = _
    omega
  obtain ⟨⟨hT1, hT2⟩, ⟨hTa, hTk, hTp⟩, _⟩ := h_T _ t1120
  have hnL := nx_P (m := m) (p := (g 1).toNat) (by omega)
  have hte := te_P (m := m) (p := (g 1).toNat) (by omega)
  have hcc := h_pc _ _ t1123 t1124
  rw [show (g 2).toNat = (g 1).toNat by omega] at hcc
  have hko := kd_of (X := tx9 m) (p := (g 1).toNat)
  exact ⟨rfl, trivial, ⟨⟨28, (show g 4 = ((28 : Nat) : Int) by omega), (show g 5 = m 110 (28) by omega)⟩, trivial⟩, fun _ => ⟨h0, k_tok, k_sc1, k_sc2, k_T, k_I, k_F, k_N, k_Y, k_Z, k_A, k_B, k_C, k_X, k_R, k_f4⟩⟩
noncomputable def ru_mk3 : Ru := ([(0, (1199, (0, (0, 0)))), (0, (1120, (0, (0, 0)))), (0, (1123, (0, (0, 0)))), (0, (1124, (0, (0, 0)))), (4, (0, (0, (28, 0)))), (4, (0, (0, (3, 0))))], ([], ([([(1, (-1)), (2, 1)], 0), ([(1, 1), (2, (-1))], 0), ([(3, (-1))], (-3)), ([(3, 1)], 3)], (false, ([], ([(110, (4, 5))], ([], none)))))))
theorem rk_mk3 : RuOk SR ru_mk3 := by
  intro τ m g hi hc ha hS
  obtain ⟨i0, i1, i2, i3, i4, i5, _⟩ := hi
  have t1199 : τ 1199 = some (g 0) := i0
  have t1120 : τ 1120 = some (g 1) := i1
  have t1123 : τ 1123 = some (g 2) := i2
  have t1124 : τ 1124 = some (g 3) := i3
  have xj : g 4 = 28 := i4
  have xk : g 5 = 3 := i5
  obtain ⟨c0, c1, c2, c3, _⟩ := hc
  have c0 : (-1) * g 1 + 1 * g 2 ≤ 0 := d2 c0
  have c1 : 1 * g 1 + (-1) * g 2 ≤ 0 := d2 c1
  have c2 : (-1) * g 3 ≤ (-3) := d1 c2
  have c3 : 1 * g 3 ≤ 3 := d1 c3
  obtain ⟨h0, k_tok, k_sc1, k_sc2, k_T, k_I, k_F, k_N, k_Y, k_Z, k_A, k_B, k_C, k_X, k_R, k_f4⟩ := hS (by rw [t1199]; exact fun e => by cases e)
  have k_T0 := k_T
  obtain ⟨h_T, h_TN, h_QZ⟩ := k_T0
  have k_I0 := k_I
  obtain ⟨h_p, h_pc, h_ip, h_iP, h_PC, h_PN⟩ := k_I0
  have hXL : ((tx9 m).2 : Int) = m 110 1 := by
    show (((m 110 1).toNat : Nat) : Int) = _
    omega
  obtain ⟨⟨hT1, hT2⟩, ⟨hTa, hTk, hTp⟩, _⟩ := h_T _ t1120
  have hnL := nx_P (m := m) (p := (g 1).toNat) (by omega)
  have hte := te_P (m := m) (p := (g 1).toNat) (by omega)
  have hcc := h_pc _ _ t1123 t1124
  rw [show (g 2).toNat = (g 1).toNat by omega] at hcc
  have hko := kd_of (X := tx9 m) (p := (g 1).toNat)
  exact ⟨rfl, trivial, ⟨⟨28, (show g 4 = ((28 : Nat) : Int) by omega), (show g 5 = m 110 (28) by omega)⟩, trivial⟩, fun _ => ⟨h0, k_tok, k_sc1, k_sc2, k_T, k_I, k_F, k_N, k_Y, k_Z, k_A, k_B, k_C, k_X, k_R, k_f4⟩⟩
noncomputable def ru_mk4 : Ru := ([(0, (1199, (0, (0, 0)))), (0, (1120, (0, (0, 0)))), (0, (1123, (0, (0, 0)))), (0, (1124, (0, (0, 0)))), (4, (0, (0, (28, 0)))), (4, (0, (0, (4, 0))))], ([], ([([(1, (-1)), (2, 1)], 0), ([(1, 1), (2, (-1))], 0), ([(3, (-1))], (-4)), ([(3, 1)], 20)], (false, ([], ([(110, (4, 5))], ([], none)))))))
theorem rk_mk4 : RuOk SR ru_mk4 := by
  intro τ m g hi hc ha hS
  obtain ⟨i0, i1, i2, i3, i4, i5, _⟩ := hi
  have t1199 : τ 1199 = some (g 0) := i0
  have t1120 : τ 1120 = some (g 1) := i1
  have t1123 : τ 1123 = some (g 2) := i2
  have t1124 : τ 1124 = some (g 3) := i3
  have xj : g 4 = 28 := i4
  have xk : g 5 = 4 := i5
  obtain ⟨c0, c1, c2, c3, _⟩ := hc
  have c0 : (-1) * g 1 + 1 * g 2 ≤ 0 := d2 c0
  have c1 : 1 * g 1 + (-1) * g 2 ≤ 0 := d2 c1
  have c2 : (-1) * g 3 ≤ (-4) := d1 c2
  have c3 : 1 * g 3 ≤ 20 := d1 c3
  obtain ⟨h0, k_tok, k_sc1, k_sc2, k_T, k_I, k_F, k_N, k_Y, k_Z, k_A, k_B, k_C, k_X, k_R, k_f4⟩ := hS (by rw [t1199]; exact fun e => by cases e)
  have k_T0 := k_T
  obtain ⟨h_T, h_TN, h_QZ⟩ := k_T0
  have k_I0 := k_I
  obtain ⟨h_p, h_pc, h_ip, h_iP, h_PC, h_PN⟩ := k_I0
  have hXL : ((tx9 m).2 : Int) = m 110 1 := by
    show (((m 110 1).toNat : Nat) : Int) = _
    omega
  obtain ⟨⟨hT1, hT2⟩, ⟨hTa, hTk, hTp⟩, _⟩ := h_T _ t1120
  have hnL := nx_P (m := m) (p := (g 1).toNat) (by omega)
  have hte := te_P (m := m) (p := (g 1).toNat) (by omega)
  have hcc := h_pc _ _ t1123 t1124
  rw [show (g 2).toNat = (g 1).toNat by omega] at hcc
  have hko := kd_of (X := tx9 m) (p := (g 1).toNat)
  exact ⟨rfl, trivial, ⟨⟨28, (show g 4 = ((28 : Nat) : Int) by omega), (show g 5 = m 110 (28) by omega)⟩, trivial⟩, fun _ => ⟨h0, k_tok, k_sc1, k_sc2, k_T, k_I, k_F, k_N, k_Y, k_Z, k_A, k_B, k_C, k_X, k_R, k_f4⟩⟩
noncomputable def ru_mk5 : Ru := ([(0, (1199, (0, (0, 0)))), (0, (1120, (0, (0, 0)))), (0, (1123, (0, (0, 0)))), (0, (1124, (0, (0, 0)))), (4, (0, (0, (28, 0)))), (4, (0, (0, (5, 0))))], ([], ([([(1, (-1)), (2, 1)], 0), ([(1, 1), (2, (-1))], 0), ([(3, (-1))], 0), ([(3, 1)], 0)], (false, ([], ([(110, (4, 5))], ([], none)))))))
theorem rk_mk5 : RuOk SR ru_mk5 := by
  intro τ m g hi hc ha hS
  obtain ⟨i0, i1, i2, i3, i4, i5, _⟩ := hi
  have t1199 : τ 1199 = some (g 0) := i0
  have t1120 : τ 1120 = some (g 1) := i1
  have t1123 : τ 1123 = some (g 2) := i2
  have t1124 : τ 1124 = some (g 3) := i3
  have xj : g 4 = 28 := i4
  have xk : g 5 = 5 := i5
  obtain ⟨c0, c1, c2, c3, _⟩ := hc
  have c0 : (-1) * g 1 + 1 * g 2 ≤ 0 := d2 c0
  have c1 : 1 * g 1 + (-1) * g 2 ≤ 0 := d2 c1
  have c2 : (-1) * g 3 ≤ 0 := d1 c2
  have c3 : 1 * g 3 ≤ 0 := d1 c3
  obtain ⟨h0, k_tok, k_sc1, k_sc2, k_T, k_I, k_F, k_N, k_Y, k_Z, k_A, k_B, k_C, k_X, k_R, k_f4⟩ := hS (by rw [t1199]; exact fun e => by cases e)
  have k_T0 := k_T
  obtain ⟨h_T, h_TN, h_QZ⟩ := k_T0
  have k_I0 := k_I
  obtain ⟨h_p, h_pc, h_ip, h_iP, h_PC, h_PN⟩ := k_I0
  have hXL : ((tx9 m).2 : Int) = m 110 1 := by
    show (((m 110 1).toNat : Nat) : Int) = _
    omega
  obtain ⟨⟨hT1, hT2⟩, ⟨hTa, hTk, hTp⟩, _⟩ := h_T _ t1120
  have hnL := nx_P (m := m) (p := (g 1).toNat) (by omega)
  have hte := te_P (m := m) (p := (g 1).toNat) (by omega)
  have hcc := h_pc _ _ t1123 t1124
  rw [show (g 2).toNat = (g 1).toNat by omega] at hcc
  have hko := kd_of (X := tx9 m) (p := (g 1).toNat)
  exact ⟨rfl, trivial, ⟨⟨28, (show g 4 = ((28 : Nat) : Int) by omega), (show g 5 = m 110 (28) by omega)⟩, trivial⟩, fun _ => ⟨h0, k_tok, k_sc1, k_sc2, k_T, k_I, k_F, k_N, k_Y, k_Z, k_A, k_B, k_C, k_X, k_R, k_f4⟩⟩
noncomputable def ru_mv : Ru := ([(0, (1199, (0, (0, 0)))), (0, (1120, (0, (0, 0)))), (0, (1123, (0, (0, 0)))), (0, (1124, (0, (0, 0)))), (4, (0, (0, (31, 0)))), (15, (6, (3, (0, 0))))], ([], ([([(1, (-1)), (2, 1)], 0), ([(1, 1), (2, (-1))], 0), ([(3, (-1))], (-22)), ([(5, (-1))], 0)], (false, ([], ([(1000, (4, 5))], ([], none)))))))
theorem rk_mv : RuOk SR ru_mv := by
  intro τ m g hi hc ha hS
  obtain ⟨i0, i1, i2, i3, i4, i5, _⟩ := hi
  have t1199 : τ 1199 = some (g 0) := i0
  have t1120 : τ 1120 = some (g 1) := i1
  have t1123 : τ 1123 = some (g 2) := i2
  have t1124 : τ 1124 = some (g 3) := i3
  have xj : g 4 = 31 := i4
  have xv : g 5 = tb9 6 (g 3) := i5
  obtain ⟨c0, c1, c2, c3, _⟩ := hc
  have c0 : (-1) * g 1 + 1 * g 2 ≤ 0 := d2 c0
  have c1 : 1 * g 1 + (-1) * g 2 ≤ 0 := d2 c1
  have c2 : (-1) * g 3 ≤ (-22) := d1 c2
  have c3 : (-1) * g 5 ≤ 0 := d1 c3
  obtain ⟨h0, k_tok, k_sc1, k_sc2, k_T, k_I, k_F, k_N, k_Y, k_Z, k_A, k_B, k_C, k_X, k_R, k_f4⟩ := hS (by rw [t1199]; exact fun e => by cases e)
  have k_T0 := k_T
  obtain ⟨h_T, h_TN, h_QZ⟩ := k_T0
  have k_I0 := k_I
  obtain ⟨h_p, h_pc, h_ip, h_iP, h_PC, h_PN⟩ := k_I0
  have hXL : ((tx9 m).2 : Int) = m 110 1 := by
    show (((m 110 1).toNat : Nat) : Int) = _
    omega
  obtain ⟨⟨hT1, hT2⟩, ⟨hTa, hTk, hTp⟩, _⟩ := h_T _ t1120
  have hnL := nx_P (m := m) (p := (g 1).toNat) (by omega)
  have hte := te_P (m := m) (p := (g 1).toNat) (by omega)
  have hcc := h_pc _ _ t1123 t1124
  rw [show (g 2).toNat = (g 1).toNat by omega] at hcc
  have hko := kd_of (X := tx9 m) (p := (g 1).toNat)
  obtain ⟨_, _, hw1, hw2, hw4⟩ := h_T _ t1120
  obtain ⟨hk1, hmem⟩ := rc_word (X := tx9 m) (p := (g 1).toNat) (by omega)
  have key : (WDR.all fun e => decide (tb9 6 (e.2 : Int) = e.1)) = true := by decide
  have hwv := of_decide_eq_true (List.all_eq_true.mp key _ hmem)
  have hwv : tb9 6 (rc9 (tx9 m) (g 1).toNat : Int) = wv9 (tx9 m) (g 1).toNat := hwv
  rw [← hcc] at hwv
  have hj := hw1 hk1
  exact ⟨rfl, trivial, ⟨⟨31, (show g 4 = ((31 : Nat) : Int) by omega), (show g 5 = m 1000 (31) by omega)⟩, trivial⟩, fun _ => ⟨h0, k_tok, k_sc1, k_sc2, k_T, k_I, k_F, k_N, k_Y, k_Z, k_A, k_B, k_C, k_X, k_R, k_f4⟩⟩
noncomputable def ru_ms : Ru := ([(0, (1199, (0, (0, 0)))), (0, (1120, (0, (0, 0)))), (0, (1123, (0, (0, 0)))), (0, (1124, (0, (0, 0)))), (4, (0, (0, (30, 0)))), (12, (3, (3, (0, 0))))], ([], ([([(1, (-1)), (2, 1)], 0), ([(1, 1), (2, (-1))], 0), ([(3, (-1))], (-4)), ([(3, 1)], 20), ([(5, (-1))], 0)], (false, ([], ([(110, (4, 5))], ([], none)))))))
theorem rk_ms : RuOk SR ru_ms := by
  intro τ m g hi hc ha hS
  obtain ⟨i0, i1, i2, i3, i4, i5, _⟩ := hi
  have t1199 : τ 1199 = some (g 0) := i0
  have t1120 : τ 1120 = some (g 1) := i1
  have t1123 : τ 1123 = some (g 2) := i2
  have t1124 : τ 1124 = some (g 3) := i3
  have xj : g 4 = 30 := i4
  have xv : g 5 = tb9 3 (g 3) := i5
  obtain ⟨c0, c1, c2, c3, c4, _⟩ := hc
  have c0 : (-1) * g 1 + 1 * g 2 ≤ 0 := d2 c0
  have c1 : 1 * g 1 + (-1) * g 2 ≤ 0 := d2 c1
  have c2 : (-1) * g 3 ≤ (-4) := d1 c2
  have c3 : 1 * g 3 ≤ 20 := d1 c3
  have c4 : (-1) * g 5 ≤ 0 := d1 c4
  obtain ⟨h0, k_tok, k_sc1, k_sc2, k_T, k_I, k_F, k_N, k_Y, k_Z, k_A, k_B, k_C, k_X, k_R, k_f4⟩ := hS (by rw [t1199]; exact fun e => by cases e)
  have k_T0 := k_T
  obtain ⟨h_T, h_TN, h_QZ⟩ := k_T0
  have k_I0 := k_I
  obtain ⟨h_p, h_pc, h_ip, h_iP, h_PC, h_PN⟩ := k_I0
  have hXL : ((tx9 m).2 : Int) = m 110 1 := by
    show (((m 110 1).toNat : Nat) : Int) = _
    omega
  obtain ⟨⟨hT1, hT2⟩, ⟨hTa, hTk, hTp⟩, _⟩ := h_T _ t1120
  have hnL := nx_P (m := m) (p := (g 1).toNat) (by omega)
  have hte := te_P (m := m) (p := (g 1).toNat) (by omega)
  have hcc := h_pc _ _ t1123 t1124
  rw [show (g 2).toNat = (g 1).toNat by omega] at hcc
  have hko := kd_of (X := tx9 m) (p := (g 1).toNat)
  obtain ⟨_, _, hw1, hw2, hw4⟩ := h_T _ t1120
  have hsv := (sV_tb (c := rc9 (tx9 m) (g 1).toNat) (by omega) (by omega)).1
  rw [← hcc] at hsv
  have hj := hw4 (by omega)
  exact ⟨rfl, trivial, ⟨⟨30, (show g 4 = ((30 : Nat) : Int) by omega), (show g 5 = m 110 (30) by omega)⟩, trivial⟩, fun _ => ⟨h0, k_tok, k_sc1, k_sc2, k_T, k_I, k_F, k_N, k_Y, k_Z, k_A, k_B, k_C, k_X, k_R, k_f4⟩⟩
noncomputable def ru_mwL : Ru := ([(0, (1199, (0, (0, 0)))), (0, (1120, (0, (0, 0)))), (0, (1123, (0, (0, 0)))), (0, (1124, (0, (0, 0)))), (5, (110, (28, (0, 0)))), (4, (0, (0, (0, 0)))), (9, (1000, (5, (0, 31)))), (12, (5, (6, (0, 0))))], ([], ([([(1, (-1)), (2, 1)], 0), ([(1, 1), (2, (-1))], 0), ([(4, 1)], 1), ([(4, (-1))], (-1)), ([(7, (-1))], (-21)), ([(3, 1), (7, (-1))], (-1))], (true, ([], ([], ([], none)))))))
theorem rk_mwL : RuOk SR ru_mwL := by
  intro τ m g hi hc ha hS
  obtain ⟨i0, i1, i2, i3, i4, i5, i6, i7, _⟩ := hi
  have t1199 : τ 1199 = some (g 0) := i0
  have t1120 : τ 1120 = some (g 1) := i1
  have t1123 : τ 1123 = some (g 2) := i2
  have t1124 : τ 1124 = some (g 3) := i3
  have xk : g 4 = m 110 28 := i4
  have xo : g 5 = 0 := i5
  obtain ⟨jv, uv, vv⟩ : ∃ j : Nat, 0 * g 5 + 31 = (j : Int) ∧ g 6 = m 1000 j := i6
  have xcc : g 7 = tb9 5 (g 6) := i7
  obtain ⟨c0, c1, c2, c3, c4, c5, _⟩ := hc
  have c0 : (-1) * g 1 + 1 * g 2 ≤ 0 := d2 c0
  have c1 : 1 * g 1 + (-1) * g 2 ≤ 0 := d2 c1
  have c2 : 1 * g 4 ≤ 1 := d1 c2
  have c3 : (-1) * g 4 ≤ (-1) := d1 c3
  have c4 : (-1) * g 7 ≤ (-21) := d1 c4
  have c5 : 1 * g 3 + (-1) * g 7 ≤ (-1) := d2 c5
  obtain ⟨h0, k_tok, k_sc1, k_sc2, k_T, k_I, k_F, k_N, k_Y, k_Z, k_A, k_B, k_C, k_X, k_R, k_f4⟩ := hS (by rw [t1199]; exact fun e => by cases e)
  have k_T0 := k_T
  obtain ⟨h_T, h_TN, h_QZ⟩ := k_T0
  have k_I0 := k_I
  obtain ⟨h_p, h_pc, h_ip, h_iP, h_PC, h_PN⟩ := k_I0
  have hXL : ((tx9 m).2 : Int) = m 110 1 := by
    show (((m 110 1).toNat : Nat) : Int) = _
    omega
  obtain ⟨⟨hT1, hT2⟩, ⟨hTa, hTk, hTp⟩, _⟩ := h_T _ t1120
  have hnL := nx_P (m := m) (p := (g 1).toNat) (by omega)
  have hte := te_P (m := m) (p := (g 1).toNat) (by omega)
  have hcc := h_pc _ _ t1123 t1124
  rw [show (g 2).toNat = (g 1).toNat by omega] at hcc
  have hko := kd_of (X := tx9 m) (p := (g 1).toNat)
  obtain ⟨_, _, hw1, hw2, hw4⟩ := h_T _ t1120
  rw [show jv = 31 by omega] at vv
  have hk1 : kd9 (tx9 m) (g 1).toNat = 1 := by omega
  have hj := hw1 hk1
  rw [show g 6 = wv9 (tx9 m) (g 1).toNat by omega] at xcc
  have hw5 := rc_w5 hk1 (by omega)
  exfalso
  omega
noncomputable def ru_msL : Ru := ([(0, (1199, (0, (0, 0)))), (0, (1120, (0, (0, 0)))), (0, (1123, (0, (0, 0)))), (0, (1124, (0, (0, 0)))), (5, (110, (28, (0, 0)))), (5, (110, (30, (0, 0)))), (12, (4, (5, (0, 0))))], ([], ([([(1, (-1)), (2, 1)], 0), ([(1, 1), (2, (-1))], 0), ([(4, 1)], 4), ([(4, (-1))], (-4)), ([(6, (-1))], (-4)), ([(3, 1), (6, (-1))], (-1))], (true, ([], ([], ([], none)))))))
theorem rk_msL : RuOk SR ru_msL := by
  intro τ m g hi hc ha hS
  obtain ⟨i0, i1, i2, i3, i4, i5, i6, _⟩ := hi
  have t1199 : τ 1199 = some (g 0) := i0
  have t1120 : τ 1120 = some (g 1) := i1
  have t1123 : τ 1123 = some (g 2) := i2
  have t1124 : τ 1124 = some (g 3) := i3
  have xk : g 4 = m 110 28 := i4
  have xv : g 5 = m 110 30 := i5
  have xcc : g 6 = tb9 4 (g 5) := i6
  obtain ⟨c0, c1, c2, c3, c4, c5, _⟩ := hc
  have c0 : (-1) * g 1 + 1 * g 2 ≤ 0 := d2 c0
  have c1 : 1 * g 1 + (-1) * g 2 ≤ 0 := d2 c1
  have c2 : 1 * g 4 ≤ 4 := d1 c2
  have c3 : (-1) * g 4 ≤ (-4) := d1 c3
  have c4 : (-1) * g 6 ≤ (-4) := d1 c4
  have c5 : 1 * g 3 + (-1) * g 6 ≤ (-1) := d2 c5
  obtain ⟨h0, k_tok, k_sc1, k_sc2, k_T, k_I, k_F, k_N, k_Y, k_Z, k_A, k_B, k_C, k_X, k_R, k_f4⟩ := hS (by rw [t1199]; exact fun e => by cases e)
  have k_T0 := k_T
  obtain ⟨h_T, h_TN, h_QZ⟩ := k_T0
  have k_I0 := k_I
  obtain ⟨h_p, h_pc, h_ip, h_iP, h_PC, h_PN⟩ := k_I0
  have hXL : ((tx9 m).2 : Int) = m 110 1 := by
    show (((m 110 1).toNat : Nat) : Int) = _
    omega
  obtain ⟨⟨hT1, hT2⟩, ⟨hTa, hTk, hTp⟩, _⟩ := h_T _ t1120
  have hnL := nx_P (m := m) (p := (g 1).toNat) (by omega)
  have hte := te_P (m := m) (p := (g 1).toNat) (by omega)
  have hcc := h_pc _ _ t1123 t1124
  rw [show (g 2).toNat = (g 1).toNat by omega] at hcc
  have hko := kd_of (X := tx9 m) (p := (g 1).toNat)
  obtain ⟨_, _, hw1, hw2, hw4⟩ := h_T _ t1120
  have hk4 : kd9 (tx9 m) (g 1).toNat = 4 := by omega
  have hj := hw4 hk4
  have hr := rc_kd.2.2.2.2.1 hk4
  have hsv := (sV_tb (c := rc9 (tx9 m) (g 1).toNat) (by omega) (by omega)).2
  rw [show g 5 = sV9 (rc9 (tx9 m) (g 1).toNat) by omega, hsv] at xcc
  exfalso
  omega
noncomputable def ru_mwG : Ru := ([(0, (1199, (0, (0, 0)))), (0, (1120, (0, (0, 0)))), (0, (1123, (0, (0, 0)))), (0, (1124, (0, (0, 0)))), (5, (110, (28, (0, 0)))), (4, (0, (0, (0, 0)))), (9, (1000, (5, (0, 31)))), (12, (5, (6, (0, 0))))], ([], ([([(1, (-1)), (2, 1)], 0), ([(1, 1), (2, (-1))], 0), ([(4, 1)], 1), ([(4, (-1))], (-1)), ([(7, (-1))], (-21)), ([(3, (-1)), (7, 1)], (-1))], (true, ([], ([], ([], none)))))))
theorem rk_mwG : RuOk SR ru_mwG := by
  intro τ m g hi hc ha hS
  obtain ⟨i0, i1, i2, i3, i4, i5, i6, i7, _⟩ := hi
  have t1199 : τ 1199 = some (g 0) := i0
  have t1120 : τ 1120 = some (g 1) := i1
  have t1123 : τ 1123 = some (g 2) := i2
  have t1124 : τ 1124 = some (g 3) := i3
  have xk : g 4 = m 110 28 := i4
  have xo : g 5 = 0 := i5
  obtain ⟨jv, uv, vv⟩ : ∃ j : Nat, 0 * g 5 + 31 = (j : Int) ∧ g 6 = m 1000 j := i6
  have xcc : g 7 = tb9 5 (g 6) := i7
  obtain ⟨c0, c1, c2, c3, c4, c5, _⟩ := hc
  have c0 : (-1) * g 1 + 1 * g 2 ≤ 0 := d2 c0
  have c1 : 1 * g 1 + (-1) * g 2 ≤ 0 := d2 c1
  have c2 : 1 * g 4 ≤ 1 := d1 c2
  have c3 : (-1) * g 4 ≤ (-1) := d1 c3
  have c4 : (-1) * g 7 ≤ (-21) := d1 c4
  have c5 : (-1) * g 3 + 1 * g 7 ≤ (-1) := d2 c5
  obtain ⟨h0, k_tok, k_sc1, k_sc2, k_T, k_I, k_F, k_N, k_Y, k_Z, k_A, k_B, k_C, k_X, k_R, k_f4⟩ := hS (by rw [t1199]; exact fun e => by cases e)
  have k_T0 := k_T
  obtain ⟨h_T, h_TN, h_QZ⟩ := k_T0
  have k_I0 := k_I
  obtain ⟨h_p, h_pc, h_ip, h_iP, h_PC, h_PN⟩ := k_I0
  have hXL : ((tx9 m).2 : Int) = m 110 1 := by
    show (((m 110 1).toNat : Nat) : Int) = _
    omega
  obtain ⟨⟨hT1, hT2⟩, ⟨hTa, hTk, hTp⟩, _⟩ := h_T _ t1120
  have hnL := nx_P (m := m) (p := (g 1).toNat) (by omega)
  have hte := te_P (m := m) (p := (g 1).toNat) (by omega)
  have hcc := h_pc _ _ t1123 t1124
  rw [show (g 2).toNat = (g 1).toNat by omega] at hcc
  have hko := kd_of (X := tx9 m) (p := (g 1).toNat)
  obtain ⟨_, _, hw1, hw2, hw4⟩ := h_T _ t1120
  rw [show jv = 31 by omega] at vv
  have hk1 : kd9 (tx9 m) (g 1).toNat = 1 := by omega
  have hj := hw1 hk1
  rw [show g 6 = wv9 (tx9 m) (g 1).toNat by omega] at xcc
  have hw5 := rc_w5 hk1 (by omega)
  exfalso
  omega
noncomputable def ru_msG : Ru := ([(0, (1199, (0, (0, 0)))), (0, (1120, (0, (0, 0)))), (0, (1123, (0, (0, 0)))), (0, (1124, (0, (0, 0)))), (5, (110, (28, (0, 0)))), (5, (110, (30, (0, 0)))), (12, (4, (5, (0, 0))))], ([], ([([(1, (-1)), (2, 1)], 0), ([(1, 1), (2, (-1))], 0), ([(4, 1)], 4), ([(4, (-1))], (-4)), ([(6, (-1))], (-4)), ([(3, (-1)), (6, 1)], (-1))], (true, ([], ([], ([], none)))))))
theorem rk_msG : RuOk SR ru_msG := by
  intro τ m g hi hc ha hS
  obtain ⟨i0, i1, i2, i3, i4, i5, i6, _⟩ := hi
  have t1199 : τ 1199 = some (g 0) := i0
  have t1120 : τ 1120 = some (g 1) := i1
  have t1123 : τ 1123 = some (g 2) := i2
  have t1124 : τ 1124 = some (g 3) := i3
  have xk : g 4 = m 110 28 := i4
  have xv : g 5 = m 110 30 := i5
  have xcc : g 6 = tb9 4 (g 5) := i6
  obtain ⟨c0, c1, c2, c3, c4, c5, _⟩ := hc
  have c0 : (-1) * g 1 + 1 * g 2 ≤ 0 := d2 c0
  have c1 : 1 * g 1 + (-1) * g 2 ≤ 0 := d2 c1
  have c2 : 1 * g 4 ≤ 4 := d1 c2
  have c3 : (-1) * g 4 ≤ (-4) := d1 c3
  have c4 : (-1) * g 6 ≤ (-4) := d1 c4
  have c5 : (-1) * g 3 + 1 * g 6 ≤ (-1) := d2 c5
  obtain ⟨h0, k_tok, k_sc1, k_sc2, k_T, k_I, k_F, k_N, k_Y, k_Z, k_A, k_B, k_C, k_X, k_R, k_f4⟩ := hS (by rw [t1199]; exact fun e => by cases e)
  have k_T0 := k_T
  obtain ⟨h_T, h_TN, h_QZ⟩ := k_T0
  have k_I0 := k_I
  obtain ⟨h_p, h_pc, h_ip, h_iP, h_PC, h_PN⟩ := k_I0
  have hXL : ((tx9 m).2 : Int) = m 110 1 := by
    show (((m 110 1).toNat : Nat) : Int) = _
    omega
  obtain ⟨⟨hT1, hT2⟩, ⟨hTa, hTk, hTp⟩, _⟩ := h_T _ t1120
  have hnL := nx_P (m := m) (p := (g 1).toNat) (by omega)
  have hte := te_P (m := m) (p := (g 1).toNat) (by omega)
  have hcc := h_pc _ _ t1123 t1124
  rw [show (g 2).toNat = (g 1).toNat by omega] at hcc
  have hko := kd_of (X := tx9 m) (p := (g 1).toNat)
  obtain ⟨_, _, hw1, hw2, hw4⟩ := h_T _ t1120
  have hk4 : kd9 (tx9 m) (g 1).toNat = 4 := by omega
  have hj := hw4 hk4
  have hr := rc_kd.2.2.2.2.1 hk4
  have hsv := (sV_tb (c := rc9 (tx9 m) (g 1).toNat) (by omega) (by omega)).2
  rw [show g 5 = sV9 (rc9 (tx9 m) (g 1).toNat) by omega, hsv] at xcc
  exfalso
  omega
noncomputable def ru_mk1b : Ru := ([(0, (1199, (0, (0, 0)))), (0, (1120, (0, (0, 0)))), (0, (1123, (0, (0, 0)))), (0, (1124, (0, (0, 0)))), (5, (110, (28, (0, 0))))], ([], ([([(1, (-1)), (2, 1)], 0), ([(1, 1), (2, (-1))], 0), ([(4, 1)], 1), ([(4, (-1))], (-1)), ([(3, 1)], 20)], (true, ([], ([], ([], none)))))))
theorem rk_mk1b : RuOk SR ru_mk1b := by
  intro τ m g hi hc ha hS
  obtain ⟨i0, i1, i2, i3, i4, _⟩ := hi
  have t1199 : τ 1199 = some (g 0) := i0
  have t1120 : τ 1120 = some (g 1) := i1
  have t1123 : τ 1123 = some (g 2) := i2
  have t1124 : τ 1124 = some (g 3) := i3
  have xk : g 4 = m 110 28 := i4
  obtain ⟨c0, c1, c2, c3, c4, _⟩ := hc
  have c0 : (-1) * g 1 + 1 * g 2 ≤ 0 := d2 c0
  have c1 : 1 * g 1 + (-1) * g 2 ≤ 0 := d2 c1
  have c2 : 1 * g 4 ≤ 1 := d1 c2
  have c3 : (-1) * g 4 ≤ (-1) := d1 c3
  have c4 : 1 * g 3 ≤ 20 := d1 c4
  obtain ⟨h0, k_tok, k_sc1, k_sc2, k_T, k_I, k_F, k_N, k_Y, k_Z, k_A, k_B, k_C, k_X, k_R, k_f4⟩ := hS (by rw [t1199]; exact fun e => by cases e)
  have k_T0 := k_T
  obtain ⟨h_T, h_TN, h_QZ⟩ := k_T0
  have k_I0 := k_I
  obtain ⟨h_p, h_pc, h_ip, h_iP, h_PC, h_PN⟩ := k_I0
  have hXL : ((tx9 m).2 : Int) = m 110 1 := by
    show (((m 110 1).toNat : Nat) : Int) = _
    omega
  obtain ⟨⟨hT1, hT2⟩, ⟨hTa, hTk, hTp⟩, _⟩ := h_T _ t1120
  have hnL := nx_P (m := m) (p := (g 1).toNat) (by omega)
  have hte := te_P (m := m) (p := (g 1).toNat) (by omega)
  have hcc := h_pc _ _ t1123 t1124
  rw [show (g 2).toNat = (g 1).toNat by omega] at hcc
  have hko := kd_of (X := tx9 m) (p := (g 1).toNat)
  exfalso
  omega
noncomputable def ru_mvl : Ru := ([(0, (1199, (0, (0, 0)))), (0, (1120, (0, (0, 0)))), (0, (1123, (0, (0, 0)))), (0, (1124, (0, (0, 0)))), (4, (0, (0, (0, 0)))), (9, (1000, (4, (0, 31))))], ([], ([([(1, (-1)), (2, 1)], 0), ([(1, 1), (2, (-1))], 0), ([(3, (-1))], (-40)), ([(3, 1)], 47)], (false, ([([(3, (-1)), (5, 1)], 57), ([(3, 1), (5, (-1))], (-57)), ([(5, (-1))], (-97)), ([(5, 1)], 104)], ([], ([], none)))))))
theorem rk_mvl : RuOk SR ru_mvl := by
  intro τ m g hi hc ha hS
  obtain ⟨i0, i1, i2, i3, i4, i5, _⟩ := hi
  have t1199 : τ 1199 = some (g 0) := i0
  have t1120 : τ 1120 = some (g 1) := i1
  have t1123 : τ 1123 = some (g 2) := i2
  have t1124 : τ 1124 = some (g 3) := i3
  have xo : g 4 = 0 := i4
  obtain ⟨jv, uv, vv⟩ : ∃ j : Nat, 0 * g 4 + 31 = (j : Int) ∧ g 5 = m 1000 j := i5
  obtain ⟨c0, c1, c2, c3, _⟩ := hc
  have c0 : (-1) * g 1 + 1 * g 2 ≤ 0 := d2 c0
  have c1 : 1 * g 1 + (-1) * g 2 ≤ 0 := d2 c1
  have c2 : (-1) * g 3 ≤ (-40) := d1 c2
  have c3 : 1 * g 3 ≤ 47 := d1 c3
  obtain ⟨h0, k_tok, k_sc1, k_sc2, k_T, k_I, k_F, k_N, k_Y, k_Z, k_A, k_B, k_C, k_X, k_R, k_f4⟩ := hS (by rw [t1199]; exact fun e => by cases e)
  have k_T0 := k_T
  obtain ⟨h_T, h_TN, h_QZ⟩ := k_T0
  have k_I0 := k_I
  obtain ⟨h_p, h_pc, h_ip, h_iP, h_PC, h_PN⟩ := k_I0
  have hXL : ((tx9 m).2 : Int) = m 110 1 := by
    show (((m 110 1).toNat : Nat) : Int) = _
    omega
  obtain ⟨⟨hT1, hT2⟩, ⟨hTa, hTk, hTp⟩, _⟩ := h_T _ t1120
  have hnL := nx_P (m := m) (p := (g 1).toNat) (by omega)
  have hte := te_P (m := m) (p := (g 1).toNat) (by omega)
  have hcc := h_pc _ _ t1123 t1124
  rw [show (g 2).toNat = (g 1).toNat by omega] at hcc
  have hko := kd_of (X := tx9 m) (p := (g 1).toNat)
  obtain ⟨_, _, hw1, hw2, hw4⟩ := h_T _ t1120
  rw [show jv = 31 by omega] at vv
  obtain ⟨hk1, hwv⟩ := let_of (X := tx9 m) (p := (g 1).toNat) (by omega) (by omega)
  have hj := hw1 hk1
  exact ⟨rfl, ⟨f2 (by omega), f2 (by omega), f1 (by omega), f1 (by omega), trivial⟩, trivial, fun _ => ⟨h0, k_tok, k_sc1, k_sc2, k_T, k_I, k_F, k_N, k_Y, k_Z, k_A, k_B, k_C, k_X, k_R, k_f4⟩⟩
noncomputable def ru_mvb1 : Ru := ([(0, (1199, (0, (0, 0)))), (0, (1120, (0, (0, 0)))), (0, (1123, (0, (0, 0)))), (0, (1124, (0, (0, 0)))), (5, (110, (28, (0, 0)))), (4, (0, (0, (0, 0)))), (9, (1000, (5, (0, 31))))], ([], ([([(1, (-1)), (2, 1)], 0), ([(1, 1), (2, (-1))], 0), ([(4, 1)], 1), ([(4, (-1))], (-1)), ([(6, (-1))], (-97)), ([(6, 1)], 104), ([(3, 1)], 39)], (true, ([], ([], ([], none)))))))
theorem rk_mvb1 : RuOk SR ru_mvb1 := by
  intro τ m g hi hc ha hS
  obtain ⟨i0, i1, i2, i3, i4, i5, i6, _⟩ := hi
  have t1199 : τ 1199 = some (g 0) := i0
  have t1120 : τ 1120 = some (g 1) := i1
  have t1123 : τ 1123 = some (g 2) := i2
  have t1124 : τ 1124 = some (g 3) := i3
  have xk : g 4 = m 110 28 := i4
  have xo : g 5 = 0 := i5
  obtain ⟨jv, uv, vv⟩ : ∃ j : Nat, 0 * g 5 + 31 = (j : Int) ∧ g 6 = m 1000 j := i6
  obtain ⟨c0, c1, c2, c3, c4, c5, c6, _⟩ := hc
  have c0 : (-1) * g 1 + 1 * g 2 ≤ 0 := d2 c0
  have c1 : 1 * g 1 + (-1) * g 2 ≤ 0 := d2 c1
  have c2 : 1 * g 4 ≤ 1 := d1 c2
  have c3 : (-1) * g 4 ≤ (-1) := d1 c3
  have c4 : (-1) * g 6 ≤ (-97) := d1 c4
  have c5 : 1 * g 6 ≤ 104 := d1 c5
  have c6 : 1 * g 3 ≤ 39 := d1 c6
  obtain ⟨h0, k_tok, k_sc1, k_sc2, k_T, k_I, k_F, k_N, k_Y, k_Z, k_A, k_B, k_C, k_X, k_R, k_f4⟩ := hS (by rw [t1199]; exact fun e => by cases e)
  have k_T0 := k_T
  obtain ⟨h_T, h_TN, h_QZ⟩ := k_T0
  have k_I0 := k_I
  obtain ⟨h_p, h_pc, h_ip, h_iP, h_PC, h_PN⟩ := k_I0
  have hXL : ((tx9 m).2 : Int) = m 110 1 := by
    show (((m 110 1).toNat : Nat) : Int) = _
    omega
  obtain ⟨⟨hT1, hT2⟩, ⟨hTa, hTk, hTp⟩, _⟩ := h_T _ t1120
  have hnL := nx_P (m := m) (p := (g 1).toNat) (by omega)
  have hte := te_P (m := m) (p := (g 1).toNat) (by omega)
  have hcc := h_pc _ _ t1123 t1124
  rw [show (g 2).toNat = (g 1).toNat by omega] at hcc
  have hko := kd_of (X := tx9 m) (p := (g 1).toNat)
  obtain ⟨_, _, hw1, hw2, hw4⟩ := h_T _ t1120
  rw [show jv = 31 by omega] at vv
  have hk1 : kd9 (tx9 m) (g 1).toNat = 1 := by omega
  have hj := hw1 hk1
  have hlt := let_to hk1 (by omega) (by omega)
  exfalso
  omega
noncomputable def ru_mvb2 : Ru := ([(0, (1199, (0, (0, 0)))), (0, (1120, (0, (0, 0)))), (0, (1123, (0, (0, 0)))), (0, (1124, (0, (0, 0)))), (5, (110, (28, (0, 0)))), (4, (0, (0, (0, 0)))), (9, (1000, (5, (0, 31))))], ([], ([([(1, (-1)), (2, 1)], 0), ([(1, 1), (2, (-1))], 0), ([(4, 1)], 1), ([(4, (-1))], (-1)), ([(6, (-1))], (-97)), ([(6, 1)], 104), ([(3, (-1))], (-48))], (true, ([], ([], ([], none)))))))
theorem rk_mvb2 : RuOk SR ru_mvb2 := by
  intro τ m g hi hc ha hS
  obtain ⟨i0, i1, i2, i3, i4, i5, i6, _⟩ := hi
  have t1199 : τ 1199 = some (g 0) := i0
  have t1120 : τ 1120 = some (g 1) := i1
  have t1123 : τ 1123 = some (g 2) := i2
  have t1124 : τ 1124 = some (g 3) := i3
  have xk : g 4 = m 110 28 := i4
  have xo : g 5 = 0 := i5
  obtain ⟨jv, uv, vv⟩ : ∃ j : Nat, 0 * g 5 + 31 = (j : Int) ∧ g 6 = m 1000 j := i6
  obtain ⟨c0, c1, c2, c3, c4, c5, c6, _⟩ := hc
  have c0 : (-1) * g 1 + 1 * g 2 ≤ 0 := d2 c0
  have c1 : 1 * g 1 + (-1) * g 2 ≤ 0 := d2 c1
  have c2 : 1 * g 4 ≤ 1 := d1 c2
  have c3 : (-1) * g 4 ≤ (-1) := d1 c3
  have c4 : (-1) * g 6 ≤ (-97) := d1 c4
  have c5 : 1 * g 6 ≤ 104 := d1 c5
  have c6 : (-1) * g 3 ≤ (-48) := d1 c6
  obtain ⟨h0, k_tok, k_sc1, k_sc2, k_T, k_I, k_F, k_N, k_Y, k_Z, k_A, k_B, k_C, k_X, k_R, k_f4⟩ := hS (by rw [t1199]; exact fun e => by cases e)
  have k_T0 := k_T
  obtain ⟨h_T, h_TN, h_QZ⟩ := k_T0
  have k_I0 := k_I
  obtain ⟨h_p, h_pc, h_ip, h_iP, h_PC, h_PN⟩ := k_I0
  have hXL : ((tx9 m).2 : Int) = m 110 1 := by
    show (((m 110 1).toNat : Nat) : Int) = _
    omega
  obtain ⟨⟨hT1, hT2⟩, ⟨hTa, hTk, hTp⟩, _⟩ := h_T _ t1120
  have hnL := nx_P (m := m) (p := (g 1).toNat) (by omega)
  have hte := te_P (m := m) (p := (g 1).toNat) (by omega)
  have hcc := h_pc _ _ t1123 t1124
  rw [show (g 2).toNat = (g 1).toNat by omega] at hcc
  have hko := kd_of (X := tx9 m) (p := (g 1).toNat)
  obtain ⟨_, _, hw1, hw2, hw4⟩ := h_T _ t1120
  rw [show jv = 31 by omega] at vv
  have hk1 : kd9 (tx9 m) (g 1).toNat = 1 := by omega
  have hj := hw1 hk1
  have hlt := let_to hk1 (by omega) (by omega)
  exfalso
  omega
noncomputable def ru_fo1 : Ru := ([(0, (1199, (0, (0, 0)))), (0, (1120, (0, (0, 0))))], ([1150, 1151, 1152, 1153, 1154], ([], (false, ([], ([], ([(1150, some (1, 0))], some (1151, ((-1), 1200)))))))))
theorem rk_fo1 : RuOk SR ru_fo1 := by
  intro τ m g hi hc ha hS
  obtain ⟨i0, i1, _⟩ := hi
  have t1199 : τ 1199 = some (g 0) := i0
  have t1120 : τ 1120 = some (g 1) := i1
  obtain ⟨a0, a1, a2, a3, a4, _⟩ := ha
  have n1150 : τ 1150 = none := a0
  have n1151 : τ 1151 = none := a1
  have n1152 : τ 1152 = none := a2
  have n1153 : τ 1153 = none := a3
  have n1154 : τ 1154 = none := a4
  obtain ⟨h0, k_tok, k_sc1, k_sc2, k_T, k_I, k_F, k_N, k_Y, k_Z, k_A, k_B, k_C, k_X, k_R, k_f4⟩ := hS (by rw [t1199]; exact fun e => by cases e)
  have k_T0 := k_T
  obtain ⟨h_T, h_TN, h_QZ⟩ := k_T0
  have k_I0 := k_I
  obtain ⟨h_p, h_pc, h_ip, h_iP, h_PC, h_PN⟩ := k_I0
  have k_F0 := k_F
  obtain ⟨h_F0, h_F, h_F1, h_F2⟩ := k_F0
  have hXL : ((tx9 m).2 : Int) = m 110 1 := by
    show (((m 110 1).toNat : Nat) : Int) = _
    omega
  obtain ⟨⟨hT1, hT2⟩, ⟨hTa, hTk, hTp⟩, _⟩ := h_T _ t1120
  have hnL := nx_P (m := m) (p := (g 1).toNat) (by omega)
  have hte := te_P (m := m) (p := (g 1).toNat) (by omega)
  obtain ⟨x0, xb, hxe⟩ := YE_ex (ff9 (KT9 (tx9 m)) (g 1).toNat)
  have hcl : At9 (ff9 (KT9 (tx9 m)) (g 1).toNat) ≤ (tx9 m).2 := ff9_cl (P := fun p => p ≤ (tx9 m).2) (Pc9.cl (fun p hp _ => nx_L hp)) (show (g 1).toNat ≤ (tx9 m).2 by omega)
  obtain ⟨x1, x2⟩ : -1 ≤ x0 ∧ x0 ≤ (1200 : Nat) := YE_b hxe (by omega)
  exact ⟨rfl, trivial, trivial, x0, x1, x2, fun _ => ⟨h0, k_tok, k_sc1, k_sc2, k_T, k_I, ⟨fun Fp Fr e0 e1 => by
      have e0 : g 1 + 0 = Fp := Option.some.inj e0
      subst e0
      have e1 : x0 = Fr := Option.some.inj e1
      subst e1
      rw [Int.add_zero]
      exact ⟨⟨by omega, by omega⟩, xb, hxe⟩, fun _ _ _ e0 e1 e2 => no9 n1152 e2, fun _ _ e0 e1 => no9 n1153 e1, h_F2⟩, k_N, k_Y, k_Z, k_A, k_B, k_C, k_X, k_R, k_f4⟩⟩
noncomputable def ru_fo1n : Ru := ([(0, (1199, (0, (0, 0)))), (0, (1120, (0, (0, 0)))), (0, (1121, (0, (0, 0))))], ([1150, 1151, 1152, 1153, 1154], ([], (false, ([], ([], ([(1150, some (2, 0))], some (1151, ((-1), 1200)))))))))
theorem rk_fo1n : RuOk SR ru_fo1n := by
  intro τ m g hi hc ha hS
  obtain ⟨i0, i1, i2, _⟩ := hi
  have t1199 : τ 1199 = some (g 0) := i0
  have t1120 : τ 1120 = some (g 1) := i1
  have t1121 : τ 1121 = some (g 2) := i2
  obtain ⟨a0, a1, a2, a3, a4, _⟩ := ha
  have n1150 : τ 1150 = none := a0
  have n1151 : τ 1151 = none := a1
  have n1152 : τ 1152 = none := a2
  have n1153 : τ 1153 = none := a3
  have n1154 : τ 1154 = none := a4
  obtain ⟨h0, k_tok, k_sc1, k_sc2, k_T, k_I, k_F, k_N, k_Y, k_Z, k_A, k_B, k_C, k_X, k_R, k_f4⟩ := hS (by rw [t1199]; exact fun e => by cases e)
  have k_T0 := k_T
  obtain ⟨h_T, h_TN, h_QZ⟩ := k_T0
  have k_I0 := k_I
  obtain ⟨h_p, h_pc, h_ip, h_iP, h_PC, h_PN⟩ := k_I0
  have k_F0 := k_F
  obtain ⟨h_F0, h_F, h_F1, h_F2⟩ := k_F0
  have hXL : ((tx9 m).2 : Int) = m 110 1 := by
    show (((m 110 1).toNat : Nat) : Int) = _
    omega
  obtain ⟨⟨hT1, hT2⟩, ⟨hTa, hTk, hTp⟩, _⟩ := h_T _ t1120
  have hnL := nx_P (m := m) (p := (g 1).toNat) (by omega)
  have hte := te_P (m := m) (p := (g 1).toNat) (by omega)
  have hN := h_TN _ _ t1120 t1121
  obtain ⟨x0, xb, hxe⟩ := YE_ex (ff9 (KT9 (tx9 m)) (g 2).toNat)
  have hcl : At9 (ff9 (KT9 (tx9 m)) (g 2).toNat) ≤ (tx9 m).2 := ff9_cl (P := fun p => p ≤ (tx9 m).2) (Pc9.cl (fun p hp _ => nx_L hp)) (show (g 2).toNat ≤ (tx9 m).2 by omega)
  obtain ⟨x1, x2⟩ : -1 ≤ x0 ∧ x0 ≤ (1200 : Nat) := YE_b hxe (by omega)
  exact ⟨rfl, trivial, trivial, x0, x1, x2, fun _ => ⟨h0, k_tok, k_sc1, k_sc2, k_T, k_I, ⟨fun Fp Fr e0 e1 => by
      have e0 : g 2 + 0 = Fp := Option.some.inj e0
      subst e0
      have e1 : x0 = Fr := Option.some.inj e1
      subst e1
      rw [Int.add_zero]
      exact ⟨⟨by omega, by omega⟩, xb, hxe⟩, fun _ _ _ e0 e1 e2 => no9 n1152 e2, fun _ _ e0 e1 => no9 n1153 e1, h_F2⟩, k_N, k_Y, k_Z, k_A, k_B, k_C, k_X, k_R, k_f4⟩⟩
noncomputable def ru_foK : Ru := ([(0, (1199, (0, (0, 0)))), (0, (1120, (0, (0, 0)))), (0, (1123, (0, (0, 0)))), (0, (1124, (0, (0, 0)))), (0, (1121, (0, (0, 0))))], ([1150, 1151, 1152, 1153, 1154], ([([(1, (-1)), (2, 1)], 0), ([(1, 1), (2, (-1))], 0), ([(3, (-1))], (-23)), ([(3, 1)], 23)], (false, ([], ([], ([(1150, some (4, 0))], some (1151, ((-1), 1200)))))))))
theorem rk_foK : RuOk SR ru_foK := by
  intro τ m g hi hc ha hS
  obtain ⟨i0, i1, i2, i3, i4, _⟩ := hi
  have t1199 : τ 1199 = some (g 0) := i0
  have t1120 : τ 1120 = some (g 1) := i1
  have t1123 : τ 1123 = some (g 2) := i2
  have t1124 : τ 1124 = some (g 3) := i3
  have t1121 : τ 1121 = some (g 4) := i4
  obtain ⟨c0, c1, c2, c3, _⟩ := hc
  have c0 : (-1) * g 1 + 1 * g 2 ≤ 0 := d2 c0
  have c1 : 1 * g 1 + (-1) * g 2 ≤ 0 := d2 c1
  have c2 : (-1) * g 3 ≤ (-23) := d1 c2
  have c3 : 1 * g 3 ≤ 23 := d1 c3
  obtain ⟨a0, a1, a2, a3, a4, _⟩ := ha
  have n1150 : τ 1150 = none := a0
  have n1151 : τ 1151 = none := a1
  have n1152 : τ 1152 = none := a2
  have n1153 : τ 1153 = none := a3
  have n1154 : τ 1154 = none := a4
  obtain ⟨h0, k_tok, k_sc1, k_sc2, k_T, k_I, k_F, k_N, k_Y, k_Z, k_A, k_B, k_C, k_X, k_R, k_f4⟩ := hS (by rw [t1199]; exact fun e => by cases e)
  have k_T0 := k_T
  obtain ⟨h_T, h_TN, h_QZ⟩ := k_T0
  have k_I0 := k_I
  obtain ⟨h_p, h_pc, h_ip, h_iP, h_PC, h_PN⟩ := k_I0
  have k_F0 := k_F
  obtain ⟨h_F0, h_F, h_F1, h_F2⟩ := k_F0
  have hXL : ((tx9 m).2 : Int) = m 110 1 := by
    show (((m 110 1).toNat : Nat) : Int) = _
    omega
  obtain ⟨⟨hT1, hT2⟩, ⟨hTa, hTk, hTp⟩, _⟩ := h_T _ t1120
  have hnL := nx_P (m := m) (p := (g 1).toNat) (by omega)
  have hte := te_P (m := m) (p := (g 1).toNat) (by omega)
  have hN := h_TN _ _ t1120 t1121
  obtain ⟨x0, xb, hxe⟩ := YE_ex (ff9 (KT9 (tx9 m)) (g 4).toNat)
  have hcl : At9 (ff9 (KT9 (tx9 m)) (g 4).toNat) ≤ (tx9 m).2 := ff9_cl (P := fun p => p ≤ (tx9 m).2) (Pc9.cl (fun p hp _ => nx_L hp)) (show (g 4).toNat ≤ (tx9 m).2 by omega)
  obtain ⟨x1, x2⟩ : -1 ≤ x0 ∧ x0 ≤ (1200 : Nat) := YE_b hxe (by omega)
  exact ⟨rfl, trivial, trivial, x0, x1, x2, fun _ => ⟨h0, k_tok, k_sc1, k_sc2, k_T, k_I, ⟨fun Fp Fr e0 e1 => by
      have e0 : g 4 + 0 = Fp := Option.some.inj e0
      subst e0
      have e1 : x0 = Fr := Option.some.inj e1
      subst e1
      rw [Int.add_zero]
      exact ⟨⟨by omega, by omega⟩, xb, hxe⟩, fun _ _ _ e0 e1 e2 => no9 n1152 e2, fun _ _ e0 e1 => no9 n1153 e1, h_F2⟩, k_N, k_Y, k_Z, k_A, k_B, k_C, k_X, k_R, k_f4⟩⟩
noncomputable def ru_foS : Ru := ([(0, (1199, (0, (0, 0)))), (0, (1120, (0, (0, 0)))), (0, (1123, (0, (0, 0)))), (0, (1124, (0, (0, 0)))), (0, (1121, (0, (0, 0))))], ([1150, 1151, 1152, 1153, 1154], ([([(1, (-1)), (2, 1)], 0), ([(1, 1), (2, (-1))], 0), ([(3, (-1))], (-26)), ([(3, 1)], 26)], (false, ([], ([], ([(1150, some (4, 0))], some (1151, ((-1), 1200)))))))))
theorem rk_foS : RuOk SR ru_foS := by
  intro τ m g hi hc ha hS
  obtain ⟨i0, i1, i2, i3, i4, _⟩ := hi
  have t1199 : τ 1199 = some (g 0) := i0
  have t1120 : τ 1120 = some (g 1) := i1
  have t1123 : τ 1123 = some (g 2) := i2
  have t1124 : τ 1124 = some (g 3) := i3
  have t1121 : τ 1121 = some (g 4) := i4
  obtain ⟨c0, c1, c2, c3, _⟩ := hc
  have c0 : (-1) * g 1 + 1 * g 2 ≤ 0 := d2 c0
  have c1 : 1 * g 1 + (-1) * g 2 ≤ 0 := d2 c1
  have c2 : (-1) * g 3 ≤ (-26) := d1 c2
  have c3 : 1 * g 3 ≤ 26 := d1 c3
  obtain ⟨a0, a1, a2, a3, a4, _⟩ := ha
  have n1150 : τ 1150 = none := a0
  have n1151 : τ 1151 = none := a1
  have n1152 : τ 1152 = none := a2
  have n1153 : τ 1153 = none := a3
  have n1154 : τ 1154 = none := a4
  obtain ⟨h0, k_tok, k_sc1, k_sc2, k_T, k_I, k_F, k_N, k_Y, k_Z, k_A, k_B, k_C, k_X, k_R, k_f4⟩ := hS (by rw [t1199]; exact fun e => by cases e)
  have k_T0 := k_T
  obtain ⟨h_T, h_TN, h_QZ⟩ := k_T0
  have k_I0 := k_I
  obtain ⟨h_p, h_pc, h_ip, h_iP, h_PC, h_PN⟩ := k_I0
  have k_F0 := k_F
  obtain ⟨h_F0, h_F, h_F1, h_F2⟩ := k_F0
  have hXL : ((tx9 m).2 : Int) = m 110 1 := by
    show (((m 110 1).toNat : Nat) : Int) = _
    omega
  obtain ⟨⟨hT1, hT2⟩, ⟨hTa, hTk, hTp⟩, _⟩ := h_T _ t1120
  have hnL := nx_P (m := m) (p := (g 1).toNat) (by omega)
  have hte := te_P (m := m) (p := (g 1).toNat) (by omega)
  have hN := h_TN _ _ t1120 t1121
  obtain ⟨x0, xb, hxe⟩ := YE_ex (ff9 (KT9 (tx9 m)) (g 4).toNat)
  have hcl : At9 (ff9 (KT9 (tx9 m)) (g 4).toNat) ≤ (tx9 m).2 := ff9_cl (P := fun p => p ≤ (tx9 m).2) (Pc9.cl (fun p hp _ => nx_L hp)) (show (g 4).toNat ≤ (tx9 m).2 by omega)
  obtain ⟨x1, x2⟩ : -1 ≤ x0 ∧ x0 ≤ (1200 : Nat) := YE_b hxe (by omega)
  exact ⟨rfl, trivial, trivial, x0, x1, x2, fun _ => ⟨h0, k_tok, k_sc1, k_sc2, k_T, k_I, ⟨fun Fp Fr e0 e1 => by
      have e0 : g 4 + 0 = Fp := Option.some.inj e0
      subst e0
      have e1 : x0 = Fr := Option.some.inj e1
      subst e1
      rw [Int.add_zero]
      exact ⟨⟨by omega, by omega⟩, xb, hxe⟩, fun _ _ _ e0 e1 e2 => no9 n1152 e2, fun _ _ e0 e1 => no9 n1153 e1, h_F2⟩, k_N, k_Y, k_Z, k_A, k_B, k_C, k_X, k_R, k_f4⟩⟩
noncomputable def ru_foI : Ru := ([(0, (1199, (0, (0, 0)))), (0, (1120, (0, (0, 0)))), (0, (1123, (0, (0, 0)))), (0, (1124, (0, (0, 0)))), (0, (1121, (0, (0, 0))))], ([1150, 1151, 1152, 1153, 1154], ([([(1, (-1)), (2, 1)], 0), ([(1, 1), (2, (-1))], 0), ([(3, (-1))], (-29)), ([(3, 1)], 29)], (false, ([], ([], ([(1150, some (4, 0))], some (1151, ((-1), 1200)))))))))
theorem rk_foI : RuOk SR ru_foI := by
  intro τ m g hi hc ha hS
  obtain ⟨i0, i1, i2, i3, i4, _⟩ := hi
  have t1199 : τ 1199 = some (g 0) := i0
  have t1120 : τ 1120 = some (g 1) := i1
  have t1123 : τ 1123 = some (g 2) := i2
  have t1124 : τ 1124 = some (g 3) := i3
  have t1121 : τ 1121 = some (g 4) := i4
  obtain ⟨c0, c1, c2, c3, _⟩ := hc
  have c0 : (-1) * g 1 + 1 * g 2 ≤ 0 := d2 c0
  have c1 : 1 * g 1 + (-1) * g 2 ≤ 0 := d2 c1
  have c2 : (-1) * g 3 ≤ (-29) := d1 c2
  have c3 : 1 * g 3 ≤ 29 := d1 c3
  obtain ⟨a0, a1, a2, a3, a4, _⟩ := ha
  have n1150 : τ 1150 = none := a0
  have n1151 : τ 1151 = none := a1
  have n1152 : τ 1152 = none := a2
  have n1153 : τ 1153 = none := a3
  have n1154 : τ 1154 = none := a4
  obtain ⟨h0, k_tok, k_sc1, k_sc2, k_T, k_I, k_F, k_N, k_Y, k_Z, k_A, k_B, k_C, k_X, k_R, k_f4⟩ := hS (by rw [t1199]; exact fun e => by cases e)
  have k_T0 := k_T
  obtain ⟨h_T, h_TN, h_QZ⟩ := k_T0
  have k_I0 := k_I
  obtain ⟨h_p, h_pc, h_ip, h_iP, h_PC, h_PN⟩ := k_I0
  have k_F0 := k_F
  obtain ⟨h_F0, h_F, h_F1, h_F2⟩ := k_F0
  have hXL : ((tx9 m).2 : Int) = m 110 1 := by
    show (((m 110 1).toNat : Nat) : Int) = _
    omega
  obtain ⟨⟨hT1, hT2⟩, ⟨hTa, hTk, hTp⟩, _⟩ := h_T _ t1120
  have hnL := nx_P (m := m) (p := (g 1).toNat) (by omega)
  have hte := te_P (m := m) (p := (g 1).toNat) (by omega)
  have hN := h_TN _ _ t1120 t1121
  obtain ⟨x0, xb, hxe⟩ := YE_ex (ff9 (KT9 (tx9 m)) (g 4).toNat)
  have hcl : At9 (ff9 (KT9 (tx9 m)) (g 4).toNat) ≤ (tx9 m).2 := ff9_cl (P := fun p => p ≤ (tx9 m).2) (Pc9.cl (fun p hp _ => nx_L hp)) (show (g 4).toNat ≤ (tx9 m).2 by omega)
  obtain ⟨x1, x2⟩ : -1 ≤ x0 ∧ x0 ≤ (1200 : Nat) := YE_b hxe (by omega)
  exact ⟨rfl, trivial, trivial, x0, x1, x2, fun _ => ⟨h0, k_tok, k_sc1, k_sc2, k_T, k_I, ⟨fun Fp Fr e0 e1 => by
      have e0 : g 4 + 0 = Fp := Option.some.inj e0
      subst e0
      have e1 : x0 = Fr := Option.some.inj e1
      subst e1
      rw [Int.add_zero]
      exact ⟨⟨by omega, by omega⟩, xb, hxe⟩, fun _ _ _ e0 e1 e2 => no9 n1152 e2, fun _ _ e0 e1 => no9 n1153 e1, h_F2⟩, k_N, k_Y, k_Z, k_A, k_B, k_C, k_X, k_R, k_f4⟩⟩
noncomputable def ru_foE : Ru := ([(0, (1199, (0, (0, 0)))), (0, (1120, (0, (0, 0)))), (0, (1123, (0, (0, 0)))), (0, (1124, (0, (0, 0)))), (0, (1155, (0, (0, 0))))], ([1150, 1151, 1152, 1153, 1154], ([([(1, (-1)), (2, 1)], 0), ([(1, 1), (2, (-1))], 0)], (false, ([], ([], ([(1150, some (1, 0))], some (1151, ((-1), 1200)))))))))
theorem rk_foE : RuOk SR ru_foE := by
  intro τ m g hi hc ha hS
  obtain ⟨i0, i1, i2, i3, i4, _⟩ := hi
  have t1199 : τ 1199 = some (g 0) := i0
  have t1120 : τ 1120 = some (g 1) := i1
  have t1123 : τ 1123 = some (g 2) := i2
  have t1124 : τ 1124 = some (g 3) := i3
  have t1155 : τ 1155 = some (g 4) := i4
  obtain ⟨c0, c1, _⟩ := hc
  have c0 : (-1) * g 1 + 1 * g 2 ≤ 0 := d2 c0
  have c1 : 1 * g 1 + (-1) * g 2 ≤ 0 := d2 c1
  obtain ⟨a0, a1, a2, a3, a4, _⟩ := ha
  have n1150 : τ 1150 = none := a0
  have n1151 : τ 1151 = none := a1
  have n1152 : τ 1152 = none := a2
  have n1153 : τ 1153 = none := a3
  have n1154 : τ 1154 = none := a4
  obtain ⟨h0, k_tok, k_sc1, k_sc2, k_T, k_I, k_F, k_N, k_Y, k_Z, k_A, k_B, k_C, k_X, k_R, k_f4⟩ := hS (by rw [t1199]; exact fun e => by cases e)
  have k_T0 := k_T
  obtain ⟨h_T, h_TN, h_QZ⟩ := k_T0
  have k_I0 := k_I
  obtain ⟨h_p, h_pc, h_ip, h_iP, h_PC, h_PN⟩ := k_I0
  have k_F0 := k_F
  obtain ⟨h_F0, h_F, h_F1, h_F2⟩ := k_F0
  have hXL : ((tx9 m).2 : Int) = m 110 1 := by
    show (((m 110 1).toNat : Nat) : Int) = _
    omega
  obtain ⟨⟨hT1, hT2⟩, ⟨hTa, hTk, hTp⟩, _⟩ := h_T _ t1120
  have hnL := nx_P (m := m) (p := (g 1).toNat) (by omega)
  have hte := te_P (m := m) (p := (g 1).toNat) (by omega)
  obtain ⟨x0, xb, hxe⟩ := YE_ex (ff9 (KT9 (tx9 m)) (g 1).toNat)
  have hcl : At9 (ff9 (KT9 (tx9 m)) (g 1).toNat) ≤ (tx9 m).2 := ff9_cl (P := fun p => p ≤ (tx9 m).2) (Pc9.cl (fun p hp _ => nx_L hp)) (show (g 1).toNat ≤ (tx9 m).2 by omega)
  obtain ⟨x1, x2⟩ : -1 ≤ x0 ∧ x0 ≤ (1200 : Nat) := YE_b hxe (by omega)
  exact ⟨rfl, trivial, trivial, x0, x1, x2, fun _ => ⟨h0, k_tok, k_sc1, k_sc2, k_T, k_I, ⟨fun Fp Fr e0 e1 => by
      have e0 : g 1 + 0 = Fp := Option.some.inj e0
      subst e0
      have e1 : x0 = Fr := Option.some.inj e1
      subst e1
      rw [Int.add_zero]
      exact ⟨⟨by omega, by omega⟩, xb, hxe⟩, fun _ _ _ e0 e1 e2 => no9 n1152 e2, fun _ _ e0 e1 => no9 n1153 e1, h_F2⟩, k_N, k_Y, k_Z, k_A, k_B, k_C, k_X, k_R, k_f4⟩⟩
noncomputable def ru_fo2 : Ru := ([(0, (1199, (0, (0, 0)))), (0, (1150, (0, (0, 0)))), (0, (1151, (0, (0, 0))))], ([1152], ([], (false, ([], ([], ([], some (1152, ((-1), 1200)))))))))
theorem rk_fo2 : RuOk SR ru_fo2 := by
  intro τ m g hi hc ha hS
  obtain ⟨i0, i1, i2, _⟩ := hi
  have t1199 : τ 1199 = some (g 0) := i0
  have t1150 : τ 1150 = some (g 1) := i1
  have t1151 : τ 1151 = some (g 2) := i2
  obtain ⟨a0, _⟩ := ha
  have n1152 : τ 1152 = none := a0
  obtain ⟨h0, k_tok, k_sc1, k_sc2, k_T, k_I, k_F, k_N, k_Y, k_Z, k_A, k_B, k_C, k_X, k_R, k_f4⟩ := hS (by rw [t1199]; exact fun e => by cases e)
  have k_F0 := k_F
  obtain ⟨h_F0, h_F, h_F1, h_F2⟩ := k_F0
  have hXL : ((tx9 m).2 : Int) = m 110 1 := by
    show (((m 110 1).toNat : Nat) : Int) = _
    omega
  obtain ⟨⟨hp1, hp2⟩, x0, hxe⟩ := h_F0 _ _ t1150 t1151
  have hcl : At9 (ff9 (KT9 (tx9 m)) (g 1).toNat) ≤ (tx9 m).2 := ff9_cl (P := fun p => p ≤ (tx9 m).2) (Pc9.cl (fun p hp _ => nx_L hp)) (show (g 1).toNat ≤ (tx9 m).2 by omega)
  obtain ⟨x1, x2⟩ : -1 ≤ x0 ∧ x0 ≤ (1200 : Nat) := YE_b2 hxe (by omega)
  exact ⟨rfl, trivial, trivial, x0, x1, x2, fun _ => ⟨h0, k_tok, k_sc1, k_sc2, k_T, k_I, ⟨h_F0, fun Fp Fr Fx e0 e1 e2 => by
      have e0 : g 1 = Fp := Option.some.inj (t1150.symm.trans e0)
      subst e0
      have e1 : g 2 = Fr := Option.some.inj (t1151.symm.trans e1)
      subst e1
      have e2 : x0 = Fx := Option.some.inj e2
      subst e2
      exact hxe, h_F1, h_F2⟩, k_N, k_Y, k_Z, k_A, k_B, k_C, k_X, k_R, k_f4⟩⟩
noncomputable def ru_fxa : Ru := ([(0, (1199, (0, (0, 0)))), (0, (1120, (0, (0, 0)))), (0, (1123, (0, (0, 0)))), (0, (1124, (0, (0, 0)))), (0, (1150, (0, (0, 0)))), (0, (1151, (0, (0, 0)))), (0, (1152, (0, (0, 0))))], ([1153, 1154], ([([(1, (-1)), (2, 1)], 0), ([(1, 1), (2, (-1))], 0), ([(1, (-1)), (4, 1)], 0), ([(1, 1), (4, (-1))], 0), ([(3, 1)], 26)], (false, ([([(4, (-1)), (6, 1)], 0), ([(4, 1), (6, (-1))], 0), ([(5, 1)], (-1)), ([(5, (-1))], 1)], ([], ([], none)))))))
theorem rk_fxa : RuOk SR ru_fxa := by
  intro τ m g hi hc ha hS
  obtain ⟨i0, i1, i2, i3, i4, i5, i6, _⟩ := hi
  have t1199 : τ 1199 = some (g 0) := i0
  have t1120 : τ 1120 = some (g 1) := i1
  have t1123 : τ 1123 = some (g 2) := i2
  have t1124 : τ 1124 = some (g 3) := i3
  have t1150 : τ 1150 = some (g 4) := i4
  have t1151 : τ 1151 = some (g 5) := i5
  have t1152 : τ 1152 = some (g 6) := i6
  obtain ⟨c0, c1, c2, c3, c4, _⟩ := hc
  have c0 : (-1) * g 1 + 1 * g 2 ≤ 0 := d2 c0
  have c1 : 1 * g 1 + (-1) * g 2 ≤ 0 := d2 c1
  have c2 : (-1) * g 1 + 1 * g 4 ≤ 0 := d2 c2
  have c3 : 1 * g 1 + (-1) * g 4 ≤ 0 := d2 c3
  have c4 : 1 * g 3 ≤ 26 := d1 c4
  obtain ⟨a0, a1, _⟩ := ha
  have n1153 : τ 1153 = none := a0
  have n1154 : τ 1154 = none := a1
  obtain ⟨h0, k_tok, k_sc1, k_sc2, k_T, k_I, k_F, k_N, k_Y, k_Z, k_A, k_B, k_C, k_X, k_R, k_f4⟩ := hS (by rw [t1199]; exact fun e => by cases e)
  have k_T0 := k_T
  obtain ⟨h_T, h_TN, h_QZ⟩ := k_T0
  have k_I0 := k_I
  obtain ⟨h_p, h_pc, h_ip, h_iP, h_PC, h_PN⟩ := k_I0
  have k_F0 := k_F
  obtain ⟨h_F0, h_F, h_F1, h_F2⟩ := k_F0
  have hXL : ((tx9 m).2 : Int) = m 110 1 := by
    show (((m 110 1).toNat : Nat) : Int) = _
    omega
  obtain ⟨⟨hT1, hT2⟩, ⟨hTa, hTk, hTp⟩, _⟩ := h_T _ t1120
  have hnL := nx_P (m := m) (p := (g 1).toNat) (by omega)
  have hte := te_P (m := m) (p := (g 1).toNat) (by omega)
  have hcc := h_pc _ _ t1123 t1124
  rw [show (g 2).toNat = (g 1).toNat by omega] at hcc
  have hko := kd_of (X := tx9 m) (p := (g 1).toNat)
  have hFx := h_F _ _ _ t1150 t1151 t1152
  rw [show (g 4).toNat = (g 1).toNat by omega] at hFx
  obtain ⟨y1, y2⟩ := YE_bad hFx (show ff9 (KT9 (tx9 m)) (g 1).toNat = _ from (m_e1a (w := wl9 m) (d := 0) (by omega)).symm)
  exact ⟨rfl, ⟨f2 (by omega), f2 (by omega), f1 (by omega), f1 (by omega), trivial⟩, trivial, fun _ => ⟨h0, k_tok, k_sc1, k_sc2, k_T, k_I, k_F, k_N, k_Y, k_Z, k_A, k_B, k_C, k_X, k_R, k_f4⟩⟩
noncomputable def ru_fxb : Ru := ([(0, (1199, (0, (0, 0)))), (0, (1120, (0, (0, 0)))), (0, (1123, (0, (0, 0)))), (0, (1124, (0, (0, 0)))), (0, (1150, (0, (0, 0)))), (0, (1151, (0, (0, 0)))), (0, (1152, (0, (0, 0))))], ([1153, 1154], ([([(1, (-1)), (2, 1)], 0), ([(1, 1), (2, (-1))], 0), ([(1, (-1)), (4, 1)], 0), ([(1, 1), (4, (-1))], 0), ([(3, (-1))], (-29))], (false, ([([(4, (-1)), (6, 1)], 0), ([(4, 1), (6, (-1))], 0), ([(5, 1)], (-1)), ([(5, (-1))], 1)], ([], ([], none)))))))
theorem rk_fxb : RuOk SR ru_fxb := by
  intro τ m g hi hc ha hS
  obtain ⟨i0, i1, i2, i3, i4, i5, i6, _⟩ := hi
  have t1199 : τ 1199 = some (g 0) := i0
  have t1120 : τ 1120 = some (g 1) := i1
  have t1123 : τ 1123 = some (g 2) := i2
  have t1124 : τ 1124 = some (g 3) := i3
  have t1150 : τ 1150 = some (g 4) := i4
  have t1151 : τ 1151 = some (g 5) := i5
  have t1152 : τ 1152 = some (g 6) := i6
  obtain ⟨c0, c1, c2, c3, c4, _⟩ := hc
  have c0 : (-1) * g 1 + 1 * g 2 ≤ 0 := d2 c0
  have c1 : 1 * g 1 + (-1) * g 2 ≤ 0 := d2 c1
  have c2 : (-1) * g 1 + 1 * g 4 ≤ 0 := d2 c2
  have c3 : 1 * g 1 + (-1) * g 4 ≤ 0 := d2 c3
  have c4 : (-1) * g 3 ≤ (-29) := d1 c4
  obtain ⟨a0, a1, _⟩ := ha
  have n1153 : τ 1153 = none := a0
  have n1154 : τ 1154 = none := a1
  obtain ⟨h0, k_tok, k_sc1, k_sc2, k_T, k_I, k_F, k_N, k_Y, k_Z, k_A, k_B, k_C, k_X, k_R, k_f4⟩ := hS (by rw [t1199]; exact fun e => by cases e)
  have k_T0 := k_T
  obtain ⟨h_T, h_TN, h_QZ⟩ := k_T0
  have k_I0 := k_I
  obtain ⟨h_p, h_pc, h_ip, h_iP, h_PC, h_PN⟩ := k_I0
  have k_F0 := k_F
  obtain ⟨h_F0, h_F, h_F1, h_F2⟩ := k_F0
  have hXL : ((tx9 m).2 : Int) = m 110 1 := by
    show (((m 110 1).toNat : Nat) : Int) = _
    omega
  obtain ⟨⟨hT1, hT2⟩, ⟨hTa, hTk, hTp⟩, _⟩ := h_T _ t1120
  have hnL := nx_P (m := m) (p := (g 1).toNat) (by omega)
  have hte := te_P (m := m) (p := (g 1).toNat) (by omega)
  have hcc := h_pc _ _ t1123 t1124
  rw [show (g 2).toNat = (g 1).toNat by omega] at hcc
  have hko := kd_of (X := tx9 m) (p := (g 1).toNat)
  have hFx := h_F _ _ _ t1150 t1151 t1152
  rw [show (g 4).toNat = (g 1).toNat by omega] at hFx
  obtain ⟨y1, y2⟩ := YE_bad hFx (show ff9 (KT9 (tx9 m)) (g 1).toNat = _ from (m_e1b (w := wl9 m) (d := 0) (by omega)).symm)
  exact ⟨rfl, ⟨f2 (by omega), f2 (by omega), f1 (by omega), f1 (by omega), trivial⟩, trivial, fun _ => ⟨h0, k_tok, k_sc1, k_sc2, k_T, k_I, k_F, k_N, k_Y, k_Z, k_A, k_B, k_C, k_X, k_R, k_f4⟩⟩
noncomputable def ru_fo3 : Ru := ([(0, (1199, (0, (0, 0)))), (0, (1120, (0, (0, 0)))), (0, (1123, (0, (0, 0)))), (0, (1124, (0, (0, 0)))), (0, (1150, (0, (0, 0)))), (0, (1151, (0, (0, 0)))), (0, (1152, (0, (0, 0)))), (0, (1121, (0, (0, 0))))], ([1153, 1154], ([([(1, (-1)), (2, 1)], 0), ([(1, 1), (2, (-1))], 0), ([(1, (-1)), (4, 1)], 0), ([(1, 1), (4, (-1))], 0), ([(3, (-1))], (-27)), ([(3, 1)], 28)], (false, ([], ([], ([(1153, some (7, 0))], none)))))))
theorem rk_fo3 : RuOk SR ru_fo3 := by
  intro τ m g hi hc ha hS
  obtain ⟨i0, i1, i2, i3, i4, i5, i6, i7, _⟩ := hi
  have t1199 : τ 1199 = some (g 0) := i0
  have t1120 : τ 1120 = some (g 1) := i1
  have t1123 : τ 1123 = some (g 2) := i2
  have t1124 : τ 1124 = some (g 3) := i3
  have t1150 : τ 1150 = some (g 4) := i4
  have t1151 : τ 1151 = some (g 5) := i5
  have t1152 : τ 1152 = some (g 6) := i6
  have t1121 : τ 1121 = some (g 7) := i7
  obtain ⟨c0, c1, c2, c3, c4, c5, _⟩ := hc
  have c0 : (-1) * g 1 + 1 * g 2 ≤ 0 := d2 c0
  have c1 : 1 * g 1 + (-1) * g 2 ≤ 0 := d2 c1
  have c2 : (-1) * g 1 + 1 * g 4 ≤ 0 := d2 c2
  have c3 : 1 * g 1 + (-1) * g 4 ≤ 0 := d2 c3
  have c4 : (-1) * g 3 ≤ (-27) := d1 c4
  have c5 : 1 * g 3 ≤ 28 := d1 c5
  obtain ⟨a0, a1, _⟩ := ha
  have n1153 : τ 1153 = none := a0
  have n1154 : τ 1154 = none := a1
  obtain ⟨h0, k_tok, k_sc1, k_sc2, k_T, k_I, k_F, k_N, k_Y, k_Z, k_A, k_B, k_C, k_X, k_R, k_f4⟩ := hS (by rw [t1199]; exact fun e => by cases e)
  have k_T0 := k_T
  obtain ⟨h_T, h_TN, h_QZ⟩ := k_T0
  have k_I0 := k_I
  obtain ⟨h_p, h_pc, h_ip, h_iP, h_PC, h_PN⟩ := k_I0
  have k_F0 := k_F
  obtain ⟨h_F0, h_F, h_F1, h_F2⟩ := k_F0
  have hXL : ((tx9 m).2 : Int) = m 110 1 := by
    show (((m 110 1).toNat : Nat) : Int) = _
    omega
  obtain ⟨⟨hT1, hT2⟩, ⟨hTa, hTk, hTp⟩, _⟩ := h_T _ t1120
  have hnL := nx_P (m := m) (p := (g 1).toNat) (by omega)
  have hte := te_P (m := m) (p := (g 1).toNat) (by omega)
  have hcc := h_pc _ _ t1123 t1124
  rw [show (g 2).toNat = (g 1).toNat by omega] at hcc
  have hko := kd_of (X := tx9 m) (p := (g 1).toNat)
  have hN := h_TN _ _ t1120 t1121
  exact ⟨rfl, trivial, trivial, fun _ => ⟨h0, k_tok, k_sc1, k_sc2, k_T, k_I, ⟨h_F0, h_F, fun Fp F1 e0 e1 => by
      have e0 : g 4 = Fp := Option.some.inj (t1150.symm.trans e0)
      subst e0
      have e1 : g 7 + 0 = F1 := Option.some.inj e1
      subst e1
      rw [show (g 4).toNat = (g 1).toNat by omega]
      exact ⟨⟨by omega, by omega⟩, by omega⟩, fun _ _ e0 e1 => no9 n1154 e1⟩, k_N, k_Y, k_Z, k_A, k_B, k_C, k_X, k_R, k_f4⟩⟩
noncomputable def ru_fya : Ru := ([(0, (1199, (0, (0, 0)))), (0, (1120, (0, (0, 0)))), (0, (1123, (0, (0, 0)))), (0, (1124, (0, (0, 0)))), (0, (1150, (0, (0, 0)))), (0, (1151, (0, (0, 0)))), (0, (1152, (0, (0, 0)))), (0, (1153, (0, (0, 0))))], ([1154], ([([(1, (-1)), (2, 1)], 0), ([(1, 1), (2, (-1))], 0), ([(1, (-1)), (7, 1)], 0), ([(1, 1), (7, (-1))], 0), ([(3, 1)], 19)], (false, ([([(6, 1), (7, (-1))], 0), ([(6, (-1)), (7, 1)], 0), ([(5, 1)], (-1)), ([(5, (-1))], 1)], ([], ([], none)))))))
theorem rk_fya : RuOk SR ru_fya := by
  intro τ m g hi hc ha hS
  obtain ⟨i0, i1, i2, i3, i4, i5, i6, i7, _⟩ := hi
  have t1199 : τ 1199 = some (g 0) := i0
  have t1120 : τ 1120 = some (g 1) := i1
  have t1123 : τ 1123 = some (g 2) := i2
  have t1124 : τ 1124 = some (g 3) := i3
  have t1150 : τ 1150 = some (g 4) := i4
  have t1151 : τ 1151 = some (g 5) := i5
  have t1152 : τ 1152 = some (g 6) := i6
  have t1153 : τ 1153 = some (g 7) := i7
  obtain ⟨c0, c1, c2, c3, c4, _⟩ := hc
  have c0 : (-1) * g 1 + 1 * g 2 ≤ 0 := d2 c0
  have c1 : 1 * g 1 + (-1) * g 2 ≤ 0 := d2 c1
  have c2 : (-1) * g 1 + 1 * g 7 ≤ 0 := d2 c2
  have c3 : 1 * g 1 + (-1) * g 7 ≤ 0 := d2 c3
  have c4 : 1 * g 3 ≤ 19 := d1 c4
  obtain ⟨a0, _⟩ := ha
  have n1154 : τ 1154 = none := a0
  obtain ⟨h0, k_tok, k_sc1, k_sc2, k_T, k_I, k_F, k_N, k_Y, k_Z, k_A, k_B, k_C, k_X, k_R, k_f4⟩ := hS (by rw [t1199]; exact fun e => by cases e)
  have k_T0 := k_T
  obtain ⟨h_T, h_TN, h_QZ⟩ := k_T0
  have k_I0 := k_I
  obtain ⟨h_p, h_pc, h_ip, h_iP, h_PC, h_PN⟩ := k_I0
  have k_F0 := k_F
  obtain ⟨h_F0, h_F, h_F1, h_F2⟩ := k_F0
  have hXL : ((tx9 m).2 : Int) = m 110 1 := by
    show (((m 110 1).toNat : Nat) : Int) = _
    omega
  obtain ⟨⟨hT1, hT2⟩, ⟨hTa, hTk, hTp⟩, _⟩ := h_T _ t1120
  have hnL := nx_P (m := m) (p := (g 1).toNat) (by omega)
  have hte := te_P (m := m) (p := (g 1).toNat) (by omega)
  have hcc := h_pc _ _ t1123 t1124
  rw [show (g 2).toNat = (g 1).toNat by omega] at hcc
  have hko := kd_of (X := tx9 m) (p := (g 1).toNat)
  have hFx := h_F _ _ _ t1150 t1151 t1152
  obtain ⟨⟨ha1, ha2⟩, ha3⟩ := h_F1 _ _ t1150 t1153
  have ef : ff9 (KT9 (tx9 m)) (g 4).toNat = Int.negSucc (g 1).toNat := (m_e1 (w := wl9 m) (d := 0) ha1 ha2 (show Rm9 (tx9 m) (wl9 m) 23 0 (nx9t (tx9 m) (g 4).toNat) (Int.negSucc (g 1).toNat) from by
    rw [show nx9t (tx9 m) (g 4).toNat = (g 1).toNat by omega]
    exact m_e2a (by omega))).symm
  obtain ⟨y1, y2⟩ := YE_bad hFx ef
  exact ⟨rfl, ⟨f2 (by omega), f2 (by omega), f1 (by omega), f1 (by omega), trivial⟩, trivial, fun _ => ⟨h0, k_tok, k_sc1, k_sc2, k_T, k_I, k_F, k_N, k_Y, k_Z, k_A, k_B, k_C, k_X, k_R, k_f4⟩⟩
noncomputable def ru_fyb : Ru := ([(0, (1199, (0, (0, 0)))), (0, (1120, (0, (0, 0)))), (0, (1123, (0, (0, 0)))), (0, (1124, (0, (0, 0)))), (0, (1150, (0, (0, 0)))), (0, (1151, (0, (0, 0)))), (0, (1152, (0, (0, 0)))), (0, (1153, (0, (0, 0))))], ([1154], ([([(1, (-1)), (2, 1)], 0), ([(1, 1), (2, (-1))], 0), ([(1, (-1)), (7, 1)], 0), ([(1, 1), (7, (-1))], 0), ([(3, (-1))], (-21))], (false, ([([(6, 1), (7, (-1))], 0), ([(6, (-1)), (7, 1)], 0), ([(5, 1)], (-1)), ([(5, (-1))], 1)], ([], ([], none)))))))
theorem rk_fyb : RuOk SR ru_fyb := by
  intro τ m g hi hc ha hS
  obtain ⟨i0, i1, i2, i3, i4, i5, i6, i7, _⟩ := hi
  have t1199 : τ 1199 = some (g 0) := i0
  have t1120 : τ 1120 = some (g 1) := i1
  have t1123 : τ 1123 = some (g 2) := i2
  have t1124 : τ 1124 = some (g 3) := i3
  have t1150 : τ 1150 = some (g 4) := i4
  have t1151 : τ 1151 = some (g 5) := i5
  have t1152 : τ 1152 = some (g 6) := i6
  have t1153 : τ 1153 = some (g 7) := i7
  obtain ⟨c0, c1, c2, c3, c4, _⟩ := hc
  have c0 : (-1) * g 1 + 1 * g 2 ≤ 0 := d2 c0
  have c1 : 1 * g 1 + (-1) * g 2 ≤ 0 := d2 c1
  have c2 : (-1) * g 1 + 1 * g 7 ≤ 0 := d2 c2
  have c3 : 1 * g 1 + (-1) * g 7 ≤ 0 := d2 c3
  have c4 : (-1) * g 3 ≤ (-21) := d1 c4
  obtain ⟨a0, _⟩ := ha
  have n1154 : τ 1154 = none := a0
  obtain ⟨h0, k_tok, k_sc1, k_sc2, k_T, k_I, k_F, k_N, k_Y, k_Z, k_A, k_B, k_C, k_X, k_R, k_f4⟩ := hS (by rw [t1199]; exact fun e => by cases e)
  have k_T0 := k_T
  obtain ⟨h_T, h_TN, h_QZ⟩ := k_T0
  have k_I0 := k_I
  obtain ⟨h_p, h_pc, h_ip, h_iP, h_PC, h_PN⟩ := k_I0
  have k_F0 := k_F
  obtain ⟨h_F0, h_F, h_F1, h_F2⟩ := k_F0
  have hXL : ((tx9 m).2 : Int) = m 110 1 := by
    show (((m 110 1).toNat : Nat) : Int) = _
    omega
  obtain ⟨⟨hT1, hT2⟩, ⟨hTa, hTk, hTp⟩, _⟩ := h_T _ t1120
  have hnL := nx_P (m := m) (p := (g 1).toNat) (by omega)
  have hte := te_P (m := m) (p := (g 1).toNat) (by omega)
  have hcc := h_pc _ _ t1123 t1124
  rw [show (g 2).toNat = (g 1).toNat by omega] at hcc
  have hko := kd_of (X := tx9 m) (p := (g 1).toNat)
  have hFx := h_F _ _ _ t1150 t1151 t1152
  obtain ⟨⟨ha1, ha2⟩, ha3⟩ := h_F1 _ _ t1150 t1153
  have ef : ff9 (KT9 (tx9 m)) (g 4).toNat = Int.negSucc (g 1).toNat := (m_e1 (w := wl9 m) (d := 0) ha1 ha2 (show Rm9 (tx9 m) (wl9 m) 23 0 (nx9t (tx9 m) (g 4).toNat) (Int.negSucc (g 1).toNat) from by
    rw [show nx9t (tx9 m) (g 4).toNat = (g 1).toNat by omega]
    exact m_e2b (by omega))).symm
  obtain ⟨y1, y2⟩ := YE_bad hFx ef
  exact ⟨rfl, ⟨f2 (by omega), f2 (by omega), f1 (by omega), f1 (by omega), trivial⟩, trivial, fun _ => ⟨h0, k_tok, k_sc1, k_sc2, k_T, k_I, k_F, k_N, k_Y, k_Z, k_A, k_B, k_C, k_X, k_R, k_f4⟩⟩
end
