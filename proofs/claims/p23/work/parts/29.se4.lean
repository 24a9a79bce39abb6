noncomputable section
/-! ===== THE READER, 75: rules ===== -/
noncomputable def ru_nbX : Ru := ([], ([], ([], (false, ([], ([], ([(1187, none), (1188, none)], none)))))))
theorem rk_nbX : RuOk SR ru_nbX := by
  intro τ m g hi hc ha hS
  refine ⟨rfl, trivial, trivial, fun hM => ?_⟩
  obtain ⟨h0, k_tok, k_sc1, k_sc2, k_T, k_I, k_F, k_N, k_Y, k_Z, k_A, k_B, k_C, k_X, k_R, k_f4⟩ := hS hM
  have k_N0 := k_N
  obtain ⟨h_N, h_Nk, h_V, h_Yq⟩ := k_N0
  exact ⟨h0, k_tok, k_sc1, k_sc2, k_T, k_I, k_F, ⟨h_N, fun _ _ _ _ _ e0 e1 e2 e3 e4 => no9 (o := none) rfl e3, h_V, h_Yq⟩, k_Y, k_Z, k_A, k_B, k_C, k_X, k_R, k_f4⟩
noncomputable def ru_nbD : Ru := ([], ([], ([], (false, ([], ([], ([(1184, none), (1185, none), (1186, none), (1187, none), (1188, none)], none)))))))
theorem rk_nbD : RuOk SR ru_nbD := by
  intro τ m g hi hc ha hS
  refine ⟨rfl, trivial, trivial, fun hM => ?_⟩
  obtain ⟨h0, k_tok, k_sc1, k_sc2, k_T, k_I, k_F, k_N, k_Y, k_Z, k_A, k_B, k_C, k_X, k_R, k_f4⟩ := hS hM
  have k_N0 := k_N
  obtain ⟨h_N, h_Nk, h_V, h_Yq⟩ := k_N0
  exact ⟨h0, k_tok, k_sc1, k_sc2, k_T, k_I, k_F, ⟨fun _ _ _ e0 e1 e2 => no9 (o := none) rfl e0, fun _ _ _ _ _ e0 e1 e2 e3 e4 => no9 (o := none) rfl e0, h_V, h_Yq⟩, k_Y, k_Z, k_A, k_B, k_C, k_X, k_R, k_f4⟩
noncomputable def ru_y0 : Ru := ([(0, (1199, (0, (0, 0)))), (0, (1190, (0, (0, 0)))), (0, (1191, (0, (0, 0)))), (0, (1192, (0, (0, 0)))), (0, (1193, (0, (0, 0)))), (0, (1120, (0, (0, 0)))), (0, (1123, (0, (0, 0)))), (0, (1124, (0, (0, 0)))), (0, (1121, (0, (0, 0)))), (4, (0, (0, (11, 0))))], ([], ([([(5, (-1)), (6, 1)], 0), ([(5, 1), (6, (-1))], 0), ([(2, 1), (5, (-1))], 0), ([(2, (-1)), (5, 1)], 0), ([(1, 1)], 10), ([(1, (-1))], (-10)), ([(7, (-1))], (-37)), ([(7, 1)], 39)], (false, ([], ([], ([(1190, some (9, 0)), (1191, some (8, 0))], none)))))))
theorem rk_y0 : RuOk SR ru_y0 := by
  intro τ m g hi hc ha hS
  obtain ⟨i0, i1, i2, i3, i4, i5, i6, i7, i8, i9, _⟩ := hi
  have t1199 : τ 1199 = some (g 0) := i0
  have t1190 : τ 1190 = some (g 1) := i1
  have t1191 : τ 1191 = some (g 2) := i2
  have t1192 : τ 1192 = some (g 3) := i3
  have t1193 : τ 1193 = some (g 4) := i4
  have t1120 : τ 1120 = some (g 5) := i5
  have t1123 : τ 1123 = some (g 6) := i6
  have t1124 : τ 1124 = some (g 7) := i7
  have t1121 : τ 1121 = some (g 8) := i8
  have xm1 : g 9 = 11 := i9
  obtain ⟨c0, c1, c2, c3, c4, c5, c6, c7, _⟩ := hc
  have c0 : (-1) * g 5 + 1 * g 6 ≤ 0 := d2 c0
  have c1 : 1 * g 5 + (-1) * g 6 ≤ 0 := d2 c1
  have c2 : 1 * g 2 + (-1) * g 5 ≤ 0 := d2 c2
  have c3 : (-1) * g 2 + 1 * g 5 ≤ 0 := d2 c3
  have c4 : 1 * g 1 ≤ 10 := d1 c4
  have c5 : (-1) * g 1 ≤ (-10) := d1 c5
  have c6 : (-1) * g 7 ≤ (-37) := d1 c6
  have c7 : 1 * g 7 ≤ 39 := d1 c7
  obtain ⟨h0, k_tok, k_sc1, k_sc2, k_T, k_I, k_F, k_N, k_Y, k_Z, k_A, k_B, k_C, k_X, k_R, k_f4⟩ := hS (by rw [t1199]; exact fun e => by cases e)
  have k_T0 := k_T
  obtain ⟨h_T, h_TN, h_QZ⟩ := k_T0
  have k_I0 := k_I
  obtain ⟨h_p, h_pc, h_ip, h_iP, h_PC, h_PN⟩ := k_I0
  have k_Y0 := k_Y
  obtain ⟨h_Y0, h_Y⟩ := k_Y0
  obtain ⟨⟨hy1, hy2⟩, _⟩ := h_Y0 _ _ _ t1190 t1191 t1192
  obtain ⟨ry, hY1, hY2⟩ := h_Y _ _ _ _ t1190 t1191 t1192 t1193
  have hT0 := (h_T _ t1120).1
  have hcc := h_pc _ _ t1123 t1124
  rw [show (g 6).toNat = (g 2).toNat by omega] at hcc
  have hXL : ((tx9 m).2 : Int) = m 110 1 := by
    show (((m 110 1).toNat : Nat) : Int) = _
    omega
  rw [show (g 1).toNat = 10 by omega] at hY1
  have hN := h_TN _ _ t1120 t1121
  rw [show (g 5).toNat = (g 2).toNat by omega] at hN
  have hnL := nx_P (m := m) (p := (g 2).toNat) (by omega)
  obtain ⟨r2, hr2⟩ := RS9_ex (X := tx9 m) (w := wl9 m) (C := CM9 (tx9 m)) CM_ex (m := 11) (p := nx9t (tx9 m) (g 2).toNat) (by omega) (show nx9t (tx9 m) (g 2).toNat ≤ (m 110 1).toNat by omega)
  have er : r2 = ry := RS9.det CM_det (q_0 (by omega) (by omega) hr2) hY1
  rw [er] at hr2
  exact ⟨rfl, trivial, trivial, fun _ => ⟨h0, k_tok, k_sc1, k_sc2, k_T, k_I, k_F, k_N, ⟨fun Ym Yp Y1 e0 e1 e2 => by
      have e0 : g 9 + 0 = Ym := Option.some.inj e0
      subst e0
      have e1 : g 8 + 0 = Yp := Option.some.inj e1
      subst e1
      have e2 : g 3 = Y1 := Option.some.inj (t1192.symm.trans e2)
      subst e2
      refine ⟨⟨⟨by omega, by omega⟩, ⟨by omega, by omega⟩⟩, ry, _, ?_, hY2⟩
      rw [show (g 8 + 0).toNat = nx9t (tx9 m) (g 2).toNat by omega, show (g 9 + 0).toNat = 11 by omega]
      exact hr2, fun Ym Yp Y1 Y2 e0 e1 e2 e3 => by
      have e0 : g 9 + 0 = Ym := Option.some.inj e0
      subst e0
      have e1 : g 8 + 0 = Yp := Option.some.inj e1
      subst e1
      have e2 : g 3 = Y1 := Option.some.inj (t1192.symm.trans e2)
      subst e2
      have e3 : g 4 = Y2 := Option.some.inj (t1193.symm.trans e3)
      subst e3
      refine ⟨ry, ?_, hY2⟩
      rw [show (g 8 + 0).toNat = nx9t (tx9 m) (g 2).toNat by omega, show (g 9 + 0).toNat = 11 by omega]
      exact hr2⟩, k_Z, k_A, k_B, k_C, k_X, k_R, k_f4⟩⟩
noncomputable def ru_y0a : Ru := ([(0, (1199, (0, (0, 0)))), (0, (1190, (0, (0, 0)))), (0, (1191, (0, (0, 0)))), (0, (1192, (0, (0, 0)))), (0, (1193, (0, (0, 0)))), (0, (1120, (0, (0, 0)))), (0, (1123, (0, (0, 0)))), (0, (1124, (0, (0, 0)))), (4, (0, (0, (11, 0))))], ([], ([([(5, (-1)), (6, 1)], 0), ([(5, 1), (6, (-1))], 0), ([(2, 1), (5, (-1))], 0), ([(2, (-1)), (5, 1)], 0), ([(1, 1)], 10), ([(1, (-1))], (-10)), ([(7, 1)], 36)], (false, ([([(4, 1), (5, (-1))], 0), ([(4, (-1)), (5, 1)], 0), ([(3, 1)], (-1)), ([(3, (-1))], 1)], ([], ([], none)))))))
theorem rk_y0a : RuOk SR ru_y0a := by
  intro τ m g hi hc ha hS
  obtain ⟨i0, i1, i2, i3, i4, i5, i6, i7, i8, _⟩ := hi
  have t1199 : τ 1199 = some (g 0) := i0
  have t1190 : τ 1190 = some (g 1) := i1
  have t1191 : τ 1191 = some (g 2) := i2
  have t1192 : τ 1192 = some (g 3) := i3
  have t1193 : τ 1193 = some (g 4) := i4
  have t1120 : τ 1120 = some (g 5) := i5
  have t1123 : τ 1123 = some (g 6) := i6
  have t1124 : τ 1124 = some (g 7) := i7
  have xm1 : g 8 = 11 := i8
  obtain ⟨c0, c1, c2, c3, c4, c5, c6, _⟩ := hc
  have c0 : (-1) * g 5 + 1 * g 6 ≤ 0 := d2 c0
  have c1 : 1 * g 5 + (-1) * g 6 ≤ 0 := d2 c1
  have c2 : 1 * g 2 + (-1) * g 5 ≤ 0 := d2 c2
  have c3 : (-1) * g 2 + 1 * g 5 ≤ 0 := d2 c3
  have c4 : 1 * g 1 ≤ 10 := d1 c4
  have c5 : (-1) * g 1 ≤ (-10) := d1 c5
  have c6 : 1 * g 7 ≤ 36 := d1 c6
  obtain ⟨h0, k_tok, k_sc1, k_sc2, k_T, k_I, k_F, k_N, k_Y, k_Z, k_A, k_B, k_C, k_X, k_R, k_f4⟩ := hS (by rw [t1199]; exact fun e => by cases e)
  have k_T0 := k_T
  obtain ⟨h_T, h_TN, h_QZ⟩ := k_T0
  have k_I0 := k_I
  obtain ⟨h_p, h_pc, h_ip, h_iP, h_PC, h_PN⟩ := k_I0
  have k_Y0 := k_Y
  obtain ⟨h_Y0, h_Y⟩ := k_Y0
  obtain ⟨⟨hy1, hy2⟩, _⟩ := h_Y0 _ _ _ t1190 t1191 t1192
  obtain ⟨ry, hY1, hY2⟩ := h_Y _ _ _ _ t1190 t1191 t1192 t1193
  have hT0 := (h_T _ t1120).1
  have hcc := h_pc _ _ t1123 t1124
  rw [show (g 6).toNat = (g 2).toNat by omega] at hcc
  rw [show (g 1).toNat = 10 by omega] at hY1
  obtain ⟨y1, y2⟩ := hY2.2 (g 2).toNat (RS9.det CM_det hY1 (q_0a (by omega)))
  exact ⟨rfl, ⟨f2 (by omega), f2 (by omega), f1 (by omega), f1 (by omega), trivial⟩, trivial, fun _ => ⟨h0, k_tok, k_sc1, k_sc2, k_T, k_I, k_F, k_N, k_Y, k_Z, k_A, k_B, k_C, k_X, k_R, k_f4⟩⟩
noncomputable def ru_y0b : Ru := ([(0, (1199, (0, (0, 0)))), (0, (1190, (0, (0, 0)))), (0, (1191, (0, (0, 0)))), (0, (1192, (0, (0, 0)))), (0, (1193, (0, (0, 0)))), (0, (1120, (0, (0, 0)))), (0, (1123, (0, (0, 0)))), (0, (1124, (0, (0, 0)))), (4, (0, (0, (11, 0))))], ([], ([([(5, (-1)), (6, 1)], 0), ([(5, 1), (6, (-1))], 0), ([(2, 1), (5, (-1))], 0), ([(2, (-1)), (5, 1)], 0), ([(1, 1)], 10), ([(1, (-1))], (-10)), ([(7, (-1))], (-40))], (false, ([([(4, 1), (5, (-1))], 0), ([(4, (-1)), (5, 1)], 0), ([(3, 1)], (-1)), ([(3, (-1))], 1)], ([], ([], none)))))))
theorem rk_y0b : RuOk SR ru_y0b := by
  intro τ m g hi hc ha hS
  obtain ⟨i0, i1, i2, i3, i4, i5, i6, i7, i8, _⟩ := hi
  have t1199 : τ 1199 = some (g 0) := i0
  have t1190 : τ 1190 = some (g 1) := i1
  have t1191 : τ 1191 = some (g 2) := i2
  have t1192 : τ 1192 = some (g 3) := i3
  have t1193 : τ 1193 = some (g 4) := i4
  have t1120 : τ 1120 = some (g 5) := i5
  have t1123 : τ 1123 = some (g 6) := i6
  have t1124 : τ 1124 = some (g 7) := i7
  have xm1 : g 8 = 11 := i8
  obtain ⟨c0, c1, c2, c3, c4, c5, c6, _⟩ := hc
  have c0 : (-1) * g 5 + 1 * g 6 ≤ 0 := d2 c0
  have c1 : 1 * g 5 + (-1) * g 6 ≤ 0 := d2 c1
  have c2 : 1 * g 2 + (-1) * g 5 ≤ 0 := d2 c2
  have c3 : (-1) * g 2 + 1 * g 5 ≤ 0 := d2 c3
  have c4 : 1 * g 1 ≤ 10 := d1 c4
  have c5 : (-1) * g 1 ≤ (-10) := d1 c5
  have c6 : (-1) * g 7 ≤ (-40) := d1 c6
  obtain ⟨h0, k_tok, k_sc1, k_sc2, k_T, k_I, k_F, k_N, k_Y, k_Z, k_A, k_B, k_C, k_X, k_R, k_f4⟩ := hS (by rw [t1199]; exact fun e => by cases e)
  have k_T0 := k_T
  obtain ⟨h_T, h_TN, h_QZ⟩ := k_T0
  have k_I0 := k_I
  obtain ⟨h_p, h_pc, h_ip, h_iP, h_PC, h_PN⟩ := k_I0
  have k_Y0 := k_Y
  obtain ⟨h_Y0, h_Y⟩ := k_Y0
  obtain ⟨⟨hy1, hy2⟩, _⟩ := h_Y0 _ _ _ t1190 t1191 t1192
  obtain ⟨ry, hY1, hY2⟩ := h_Y _ _ _ _ t1190 t1191 t1192 t1193
  have hT0 := (h_T _ t1120).1
  have hcc := h_pc _ _ t1123 t1124
  rw [show (g 6).toNat = (g 2).toNat by omega] at hcc
  rw [show (g 1).toNat = 10 by omega] at hY1
  obtain ⟨y1, y2⟩ := hY2.2 (g 2).toNat (RS9.det CM_det hY1 (q_0b (by omega)))
  exact ⟨rfl, ⟨f2 (by omega), f2 (by omega), f1 (by omega), f1 (by omega), trivial⟩, trivial, fun _ => ⟨h0, k_tok, k_sc1, k_sc2, k_T, k_I, k_F, k_N, k_Y, k_Z, k_A, k_B, k_C, k_X, k_R, k_f4⟩⟩
noncomputable def ru_y1 : Ru := ([(0, (1199, (0, (0, 0)))), (0, (1190, (0, (0, 0)))), (0, (1191, (0, (0, 0)))), (0, (1192, (0, (0, 0)))), (0, (1193, (0, (0, 0)))), (0, (1120, (0, (0, 0)))), (0, (1123, (0, (0, 0)))), (0, (1124, (0, (0, 0)))), (0, (1121, (0, (0, 0)))), (4, (0, (0, (12, 0))))], ([], ([([(5, (-1)), (6, 1)], 0), ([(5, 1), (6, (-1))], 0), ([(2, 1), (5, (-1))], 0), ([(2, (-1)), (5, 1)], 0), ([(1, 1)], 11), ([(1, (-1))], (-11)), ([(7, (-1))], (-34)), ([(7, 1)], 35)], (false, ([], ([], ([(1190, some (9, 0)), (1191, some (8, 0))], none)))))))
theorem rk_y1 : RuOk SR ru_y1 := by
  intro τ m g hi hc ha hS
  obtain ⟨i0, i1, i2, i3, i4, i5, i6, i7, i8, i9, _⟩ := hi
  have t1199 : τ 1199 = some (g 0) := i0
  have t1190 : τ 1190 = some (g 1) := i1
  have t1191 : τ 1191 = some (g 2) := i2
  have t1192 : τ 1192 = some (g 3) := i3
  have t1193 : τ 1193 = some (g 4) := i4
  have t1120 : τ 1120 = some (g 5) := i5
  have t1123 : τ 1123 = some (g 6) := i6
  have t1124 : τ 1124 = some (g 7) := i7
  have t1121 : τ 1121 = some (g 8) := i8
  have xm1 : g 9 = 12 := i9
  obtain ⟨c0, c1, c2, c3, c4, c5, c6, c7, _⟩ := hc
  have c0 : (-1) * g 5 + 1 * g 6 ≤ 0 := d2 c0
  have c1 : 1 * g 5 + (-1) * g 6 ≤ 0 := d2 c1
  have c2 : 1 * g 2 + (-1) * g 5 ≤ 0 := d2 c2
  have c3 : (-1) * g 2 + 1 * g 5 ≤ 0 := d2 c3
  have c4 : 1 * g 1 ≤ 11 := d1 c4
  have c5 : (-1) * g 1 ≤ (-11) := d1 c5
  have c6 : (-1) * g 7 ≤ (-34) := d1 c6
  have c7 : 1 * g 7 ≤ 35 := d1 c7
  obtain ⟨h0, k_tok, k_sc1, k_sc2, k_T, k_I, k_F, k_N, k_Y, k_Z, k_A, k_B, k_C, k_X, k_R, k_f4⟩ := hS (by rw [t1199]; exact fun e => by cases e)
  have k_T0 := k_T
  obtain ⟨h_T, h_TN, h_QZ⟩ := k_T0
  have k_I0 := k_I
  obtain ⟨h_p, h_pc, h_ip, h_iP, h_PC, h_PN⟩ := k_I0
  have k_Y0 := k_Y
  obtain ⟨h_Y0, h_Y⟩ := k_Y0
  obtain ⟨⟨hy1, hy2⟩, _⟩ := h_Y0 _ _ _ t1190 t1191 t1192
  obtain ⟨ry, hY1, hY2⟩ := h_Y _ _ _ _ t1190 t1191 t1192 t1193
  have hT0 := (h_T _ t1120).1
  have hcc := h_pc _ _ t1123 t1124
  rw [show (g 6).toNat = (g 2).toNat by omega] at hcc
  have hXL : ((tx9 m).2 : Int) = m 110 1 := by
    show (((m 110 1).toNat : Nat) : Int) = _
    omega
  rw [show (g 1).toNat = 11 by omega] at hY1
  have hN := h_TN _ _ t1120 t1121
  rw [show (g 5).toNat = (g 2).toNat by omega] at hN
  have hnL := nx_P (m := m) (p := (g 2).toNat) (by omega)
  obtain ⟨r2, hr2⟩ := RS9_ex (X := tx9 m) (w := wl9 m) (C := CM9 (tx9 m)) CM_ex (m := 12) (p := nx9t (tx9 m) (g 2).toNat) (by omega) (show nx9t (tx9 m) (g 2).toNat ≤ (m 110 1).toNat by omega)
  have er : r2 = ry := RS9.det CM_det (q_1 (by omega) (by omega) hr2) hY1
  rw [er] at hr2
  exact ⟨rfl, trivial, trivial, fun _ => ⟨h0, k_tok, k_sc1, k_sc2, k_T, k_I, k_F, k_N, ⟨fun Ym Yp Y1 e0 e1 e2 => by
      have e0 : g 9 + 0 = Ym := Option.some.inj e0
      subst e0
      have e1 : g 8 + 0 = Yp := Option.some.inj e1
      subst e1
      have e2 : g 3 = Y1 := Option.some.inj (t1192.symm.trans e2)
      subst e2
      refine ⟨⟨⟨by omega, by omega⟩, ⟨by omega, by omega⟩⟩, ry, _, ?_, hY2⟩
      rw [show (g 8 + 0).toNat = nx9t (tx9 m) (g 2).toNat by omega, show (g 9 + 0).toNat = 12 by omega]
      exact hr2, fun Ym Yp Y1 Y2 e0 e1 e2 e3 => by
      have e0 : g 9 + 0 = Ym := Option.some.inj e0
      subst e0
      have e1 : g 8 + 0 = Yp := Option.some.inj e1
      subst e1
      have e2 : g 3 = Y1 := Option.some.inj (t1192.symm.trans e2)
      subst e2
      have e3 : g 4 = Y2 := Option.some.inj (t1193.symm.trans e3)
      subst e3
      refine ⟨ry, ?_, hY2⟩
      rw [show (g 8 + 0).toNat = nx9t (tx9 m) (g 2).toNat by omega, show (g 9 + 0).toNat = 12 by omega]
      exact hr2⟩, k_Z, k_A, k_B, k_C, k_X, k_R, k_f4⟩⟩
noncomputable def ru_y1p : Ru := ([(0, (1199, (0, (0, 0)))), (0, (1190, (0, (0, 0)))), (0, (1191, (0, (0, 0)))), (0, (1192, (0, (0, 0)))), (0, (1193, (0, (0, 0)))), (0, (1120, (0, (0, 0)))), (0, (1123, (0, (0, 0)))), (0, (1124, (0, (0, 0)))), (0, (1121, (0, (0, 0)))), (4, (0, (0, (12, 0)))), (0, (1184, (0, (0, 0)))), (0, (1185, (0, (0, 0)))), (0, (1186, (0, (0, 0)))), (5, (110, (6, (0, 0))))], ([], ([([(5, (-1)), (6, 1)], 0), ([(5, 1), (6, (-1))], 0), ([(2, 1), (5, (-1))], 0), ([(2, (-1)), (5, 1)], 0), ([(1, 1)], 11), ([(1, (-1))], (-11)), ([(5, (-1)), (10, 1)], 0), ([(5, 1), (10, (-1))], 0), ([(11, 1)], 112), ([(11, (-1))], (-112)), ([(12, (-1))], 0), ([(12, 1), (13, (-1))], (-1))], (false, ([], ([], ([(1190, some (9, 0)), (1191, some (8, 0))], none)))))))
theorem rk_y1p : RuOk SR ru_y1p := by
  intro τ m g hi hc ha hS
  obtain ⟨i0, i1, i2, i3, i4, i5, i6, i7, i8, i9, i10, i11, i12, i13, _⟩ := hi
  have t1199 : τ 1199 = some (g 0) := i0
  have t1190 : τ 1190 = some (g 1) := i1
  have t1191 : τ 1191 = some (g 2) := i2
  have t1192 : τ 1192 = some (g 3) := i3
  have t1193 : τ 1193 = some (g 4) := i4
  have t1120 : τ 1120 = some (g 5) := i5
  have t1123 : τ 1123 = some (g 6) := i6
  have t1124 : τ 1124 = some (g 7) := i7
  have t1121 : τ 1121 = some (g 8) := i8
  have xm1 : g 9 = 12 := i9
  have t1184 : τ 1184 = some (g 10) := i10
  have t1185 : τ 1185 = some (g 11) := i11
  have t1186 : τ 1186 = some (g 12) := i12
  have xhp : g 13 = m 110 6 := i13
  obtain ⟨c0, c1, c2, c3, c4, c5, c6, c7, c8, c9, c10, c11, _⟩ := hc
  have c0 : (-1) * g 5 + 1 * g 6 ≤ 0 := d2 c0
  have c1 : 1 * g 5 + (-1) * g 6 ≤ 0 := d2 c1
  have c2 : 1 * g 2 + (-1) * g 5 ≤ 0 := d2 c2
  have c3 : (-1) * g 2 + 1 * g 5 ≤ 0 := d2 c3
  have c4 : 1 * g 1 ≤ 11 := d1 c4
  have c5 : (-1) * g 1 ≤ (-11) := d1 c5
  have c6 : (-1) * g 5 + 1 * g 10 ≤ 0 := d2 c6
  have c7 : 1 * g 5 + (-1) * g 10 ≤ 0 := d2 c7
  have c8 : 1 * g 11 ≤ 112 := d1 c8
  have c9 : (-1) * g 11 ≤ (-112) := d1 c9
  have c10 : (-1) * g 12 ≤ 0 := d1 c10
  have c11 : 1 * g 12 + (-1) * g 13 ≤ (-1) := d2 c11
  obtain ⟨h0, k_tok, k_sc1, k_sc2, k_T, k_I, k_F, k_N, k_Y, k_Z, k_A, k_B, k_C, k_X, k_R, k_f4⟩ := hS (by rw [t1199]; exact fun e => by cases e)
  have k_T0 := k_T
  obtain ⟨h_T, h_TN, h_QZ⟩ := k_T0
  have k_I0 := k_I
  obtain ⟨h_p, h_pc, h_ip, h_iP, h_PC, h_PN⟩ := k_I0
  have k_N0 := k_N
  obtain ⟨h_N, h_Nk, h_V, h_Yq⟩ := k_N0
  have k_Y0 := k_Y
  obtain ⟨h_Y0, h_Y⟩ := k_Y0
  obtain ⟨⟨hy1, hy2⟩, _⟩ := h_Y0 _ _ _ t1190 t1191 t1192
  obtain ⟨ry, hY1, hY2⟩ := h_Y _ _ _ _ t1190 t1191 t1192 t1193
  have hT0 := (h_T _ t1120).1
  have hcc := h_pc _ _ t1123 t1124
  rw [show (g 6).toNat = (g 2).toNat by omega] at hcc
  have hXL : ((tx9 m).2 : Int) = m 110 1 := by
    show (((m 110 1).toNat : Nat) : Int) = _
    omega
  have hv2 := (h_N _ _ _ t1184 t1185 t1186).2
  rw [show (g 10).toNat = (g 2).toNat by omega, show g 11 = 112 by omega] at hv2
  rw [show (g 1).toNat = 11 by omega] at hY1
  have hN := h_TN _ _ t1120 t1121
  rw [show (g 5).toNat = (g 2).toNat by omega] at hN
  have hnL := nx_P (m := m) (p := (g 2).toNat) (by omega)
  obtain ⟨r2, hr2⟩ := RS9_ex (X := tx9 m) (w := wl9 m) (C := CM9 (tx9 m)) CM_ex (m := 12) (p := nx9t (tx9 m) (g 2).toNat) (by omega) (show nx9t (tx9 m) (g 2).toNat ≤ (m 110 1).toNat by omega)
  have er : r2 = ry := RS9.det CM_det (q_1p (by omega) (by show nb9 (tx9 m) _ _ < m 110 6; omega) hr2) hY1
  rw [er] at hr2
  exact ⟨rfl, trivial, trivial, fun _ => ⟨h0, k_tok, k_sc1, k_sc2, k_T, k_I, k_F, k_N, ⟨fun Ym Yp Y1 e0 e1 e2 => by
      have e0 : g 9 + 0 = Ym := Option.some.inj e0
      subst e0
      have e1 : g 8 + 0 = Yp := Option.some.inj e1
      subst e1
      have e2 : g 3 = Y1 := Option.some.inj (t1192.symm.trans e2)
      subst e2
      refine ⟨⟨⟨by omega, by omega⟩, ⟨by omega, by omega⟩⟩, ry, _, ?_, hY2⟩
      rw [show (g 8 + 0).toNat = nx9t (tx9 m) (g 2).toNat by omega, show (g 9 + 0).toNat = 12 by omega]
      exact hr2, fun Ym Yp Y1 Y2 e0 e1 e2 e3 => by
      have e0 : g 9 + 0 = Ym := Option.some.inj e0
      subst e0
      have e1 : g 8 + 0 = Yp := Option.some.inj e1
      subst e1
      have e2 : g 3 = Y1 := Option.some.inj (t1192.symm.trans e2)
      subst e2
      have e3 : g 4 = Y2 := Option.some.inj (t1193.symm.trans e3)
      subst e3
      refine ⟨ry, ?_, hY2⟩
      rw [show (g 8 + 0).toNat = nx9t (tx9 m) (g 2).toNat by omega, show (g 9 + 0).toNat = 12 by omega]
      exact hr2⟩, k_Z, k_A, k_B, k_C, k_X, k_R, k_f4⟩⟩
noncomputable def ru_y1g : Ru := ([(0, (1199, (0, (0, 0)))), (0, (1190, (0, (0, 0)))), (0, (1191, (0, (0, 0)))), (0, (1192, (0, (0, 0)))), (0, (1193, (0, (0, 0)))), (0, (1120, (0, (0, 0)))), (0, (1123, (0, (0, 0)))), (0, (1124, (0, (0, 0)))), (0, (1121, (0, (0, 0)))), (4, (0, (0, (12, 0)))), (0, (1184, (0, (0, 0)))), (0, (1185, (0, (0, 0)))), (0, (1186, (0, (0, 0)))), (5, (110, (7, (0, 0))))], ([], ([([(5, (-1)), (6, 1)], 0), ([(5, 1), (6, (-1))], 0), ([(2, 1), (5, (-1))], 0), ([(2, (-1)), (5, 1)], 0), ([(1, 1)], 11), ([(1, (-1))], (-11)), ([(5, (-1)), (10, 1)], 0), ([(5, 1), (10, (-1))], 0), ([(11, 1)], 103), ([(11, (-1))], (-103)), ([(12, (-1))], 0), ([(12, 1), (13, (-1))], (-1))], (false, ([], ([], ([(1190, some (9, 0)), (1191, some (8, 0))], none)))))))
theorem rk_y1g : RuOk SR ru_y1g := by
  intro τ m g hi hc ha hS
  obtain ⟨i0, i1, i2, i3, i4, i5, i6, i7, i8, i9, i10, i11, i12, i13, _⟩ := hi
  have t1199 : τ 1199 = some (g 0) := i0
  have t1190 : τ 1190 = some (g 1) := i1
  have t1191 : τ 1191 = some (g 2) := i2
  have t1192 : τ 1192 = some (g 3) := i3
  have t1193 : τ 1193 = some (g 4) := i4
  have t1120 : τ 1120 = some (g 5) := i5
  have t1123 : τ 1123 = some (g 6) := i6
  have t1124 : τ 1124 = some (g 7) := i7
  have t1121 : τ 1121 = some (g 8) := i8
  have xm1 : g 9 = 12 := i9
  have t1184 : τ 1184 = some (g 10) := i10
  have t1185 : τ 1185 = some (g 11) := i11
  have t1186 : τ 1186 = some (g 12) := i12
  have xhg : g 13 = m 110 7 := i13
  obtain ⟨c0, c1, c2, c3, c4, c5, c6, c7, c8, c9, c10, c11, _⟩ := hc
  have c0 : (-1) * g 5 + 1 * g 6 ≤ 0 := d2 c0
  have c1 : 1 * g 5 + (-1) * g 6 ≤ 0 := d2 c1
  have c2 : 1 * g 2 + (-1) * g 5 ≤ 0 := d2 c2
  have c3 : (-1) * g 2 + 1 * g 5 ≤ 0 := d2 c3
  have c4 : 1 * g 1 ≤ 11 := d1 c4
  have c5 : (-1) * g 1 ≤ (-11) := d1 c5
  have c6 : (-1) * g 5 + 1 * g 10 ≤ 0 := d2 c6
  have c7 : 1 * g 5 + (-1) * g 10 ≤ 0 := d2 c7
  have c8 : 1 * g 11 ≤ 103 := d1 c8
  have c9 : (-1) * g 11 ≤ (-103) := d1 c9
  have c10 : (-1) * g 12 ≤ 0 := d1 c10
  have c11 : 1 * g 12 + (-1) * g 13 ≤ (-1) := d2 c11
  obtain ⟨h0, k_tok, k_sc1, k_sc2, k_T, k_I, k_F, k_N, k_Y, k_Z, k_A, k_B, k_C, k_X, k_R, k_f4⟩ := hS (by rw [t1199]; exact fun e => by cases e)
  have k_T0 := k_T
  obtain ⟨h_T, h_TN, h_QZ⟩ := k_T0
  have k_I0 := k_I
  obtain ⟨h_p, h_pc, h_ip, h_iP, h_PC, h_PN⟩ := k_I0
  have k_N0 := k_N
  obtain ⟨h_N, h_Nk, h_V, h_Yq⟩ := k_N0
  have k_Y0 := k_Y
  obtain ⟨h_Y0, h_Y⟩ := k_Y0
  obtain ⟨⟨hy1, hy2⟩, _⟩ := h_Y0 _ _ _ t1190 t1191 t1192
  obtain ⟨ry, hY1, hY2⟩ := h_Y _ _ _ _ t1190 t1191 t1192 t1193
  have hT0 := (h_T _ t1120).1
  have hcc := h_pc _ _ t1123 t1124
  rw [show (g 6).toNat = (g 2).toNat by omega] at hcc
  have hXL : ((tx9 m).2 : Int) = m 110 1 := by
    show (((m 110 1).toNat : Nat) : Int) = _
    omega
  have hv2 := (h_N _ _ _ t1184 t1185 t1186).2
  rw [show (g 10).toNat = (g 2).toNat by omega, show g 11 = 103 by omega] at hv2
  rw [show (g 1).toNat = 11 by omega] at hY1
  have hN := h_TN _ _ t1120 t1121
  rw [show (g 5).toNat = (g 2).toNat by omega] at hN
  have hnL := nx_P (m := m) (p := (g 2).toNat) (by omega)
  obtain ⟨r2, hr2⟩ := RS9_ex (X := tx9 m) (w := wl9 m) (C := CM9 (tx9 m)) CM_ex (m := 12) (p := nx9t (tx9 m) (g 2).toNat) (by omega) (show nx9t (tx9 m) (g 2).toNat ≤ (m 110 1).toNat by omega)
  have er : r2 = ry := RS9.det CM_det (q_1g (by omega) (by show nb9 (tx9 m) _ _ < m 110 7; omega) hr2) hY1
  rw [er] at hr2
  exact ⟨rfl, trivial, trivial, fun _ => ⟨h0, k_tok, k_sc1, k_sc2, k_T, k_I, k_F, k_N, ⟨fun Ym Yp Y1 e0 e1 e2 => by
      have e0 : g 9 + 0 = Ym := Option.some.inj e0
      subst e0
      have e1 : g 8 + 0 = Yp := Option.some.inj e1
      subst e1
      have e2 : g 3 = Y1 := Option.some.inj (t1192.symm.trans e2)
      subst e2
      refine ⟨⟨⟨by omega, by omega⟩, ⟨by omega, by omega⟩⟩, ry, _, ?_, hY2⟩
      rw [show (g 8 + 0).toNat = nx9t (tx9 m) (g 2).toNat by omega, show (g 9 + 0).toNat = 12 by omega]
      exact hr2, fun Ym Yp Y1 Y2 e0 e1 e2 e3 => by
      have e0 : g 9 + 0 = Ym := Option.some.inj e0
      subst e0
      have e1 : g 8 + 0 = Yp := Option.some.inj e1
      subst e1
      have e2 : g 3 = Y1 := Option.some.inj (t1192.symm.trans e2)
      subst e2
      have e3 : g 4 = Y2 := Option.some.inj (t1193.symm.trans e3)
      subst e3
      refine ⟨ry, ?_, hY2⟩
      rw [show (g 8 + 0).toNat = nx9t (tx9 m) (g 2).toNat by omega, show (g 9 + 0).toNat = 12 by omega]
      exact hr2⟩, k_Z, k_A, k_B, k_C, k_X, k_R, k_f4⟩⟩
noncomputable def ru_dp2 : Ru := ([], ([], ([], (false, ([], ([], ([(1123, none), (1124, none)], none)))))))
theorem rk_dp2 : RuOk SR ru_dp2 := by
  intro τ m g hi hc ha hS
  refine ⟨rfl, trivial, trivial, fun hM => ?_⟩
  obtain ⟨h0, k_tok, k_sc1, k_sc2, k_T, k_I, k_F, k_N, k_Y, k_Z, k_A, k_B, k_C, k_X, k_R, k_f4⟩ := hS hM
  have k_I0 := k_I
  obtain ⟨h_p, h_pc, h_ip, h_iP, h_PC, h_PN⟩ := k_I0
  exact ⟨h0, k_tok, k_sc1, k_sc2, k_T, ⟨fun _ e0 => no9 (o := none) rfl e0, fun _ _ e0 e1 => no9 (o := none) rfl e0, fun _ _ _ e0 e1 e2 => no9 (o := none) rfl e2, fun _ _ _ e0 e1 e2 => no9 (o := none) rfl e1, h_PC, h_PN⟩, k_F, k_N, k_Y, k_Z, k_A, k_B, k_C, k_X, k_R, k_f4⟩
noncomputable def ru_nv1 : Ru := ([(0, (1199, (0, (0, 0)))), (0, (1184, (0, (0, 0)))), (0, (1185, (0, (0, 0)))), (0, (1186, (0, (0, 0)))), (0, (1191, (0, (0, 0))))], ([1189, 1183], ([([(1, 1), (4, (-1))], 0), ([(1, (-1)), (4, 1)], 0), ([(2, 1)], 112), ([(2, (-1))], (-112))], (false, ([], ([], ([(1189, some (3, 0)), (1208, some (1, 0)), (1184, none), (1185, none), (1186, none), (1187, none), (1188, none)], none)))))))
theorem rk_nv1 : RuOk SR ru_nv1 := by
  intro τ m g hi hc ha hS
  obtain ⟨i0, i1, i2, i3, i4, _⟩ := hi
  have t1199 : τ 1199 = some (g 0) := i0
  have t1184 : τ 1184 = some (g 1) := i1
  have t1185 : τ 1185 = some (g 2) := i2
  have t1186 : τ 1186 = some (g 3) := i3
  have t1191 : τ 1191 = some (g 4) := i4
  obtain ⟨c0, c1, c2, c3, _⟩ := hc
  have c0 : 1 * g 1 + (-1) * g 4 ≤ 0 := d2 c0
  have c1 : (-1) * g 1 + 1 * g 4 ≤ 0 := d2 c1
  have c2 : 1 * g 2 ≤ 112 := d1 c2
  have c3 : (-1) * g 2 ≤ (-112) := d1 c3
  obtain ⟨a0, a1, _⟩ := ha
  have n1189 : τ 1189 = none := a0
  have n1183 : τ 1183 = none := a1
  obtain ⟨h0, k_tok, k_sc1, k_sc2, k_T, k_I, k_F, k_N, k_Y, k_Z, k_A, k_B, k_C, k_X, k_R, k_f4⟩ := hS (by rw [t1199]; exact fun e => by cases e)
  have k_N0 := k_N
  obtain ⟨h_N, h_Nk, h_V, h_Yq⟩ := k_N0
  have hv2 := (h_N _ _ _ t1184 t1185 t1186).2
  rw [show g 2 = 112 by omega] at hv2
  exact ⟨rfl, trivial, trivial, fun _ => ⟨h0, k_tok, k_sc1, k_sc2, k_T, k_I, k_F, ⟨fun _ _ _ e0 e1 e2 => no9 (o := none) rfl e0, fun _ _ _ _ _ e0 e1 e2 e3 e4 => no9 (o := none) rfl e0, fun Vp V9 e0 e1 => by
      have e0 : g 1 + 0 = Vp := Option.some.inj e0
      subst e0
      have e1 : g 3 + 0 = V9 := Option.some.inj e1
      subst e1
      rw [Int.add_zero, Int.add_zero]
      exact hv2, fun _ _ e0 e1 => no9 n1183 e1⟩, k_Y, k_Z, k_A, k_B, k_C, k_X, k_R, k_f4⟩⟩
noncomputable def ru_y1v : Ru := ([(0, (1199, (0, (0, 0)))), (0, (1190, (0, (0, 0)))), (0, (1191, (0, (0, 0)))), (0, (1192, (0, (0, 0)))), (0, (1193, (0, (0, 0)))), (0, (1120, (0, (0, 0)))), (0, (1123, (0, (0, 0)))), (0, (1124, (0, (0, 0)))), (0, (1121, (0, (0, 0)))), (4, (0, (0, (12, 0)))), (0, (1189, (0, (0, 0)))), (0, (1208, (0, (0, 0)))), (5, (110, (6, (0, 0))))], ([], ([([(5, (-1)), (6, 1)], 0), ([(5, 1), (6, (-1))], 0), ([(2, 1), (5, (-1))], 0), ([(2, (-1)), (5, 1)], 0), ([(1, 1)], 11), ([(1, (-1))], (-11)), ([(5, (-1)), (11, 1)], 0), ([(5, 1), (11, (-1))], 0), ([(10, (-1))], 0), ([(10, 1), (12, (-1))], (-1))], (false, ([], ([], ([(1190, some (9, 0)), (1191, some (8, 0))], none)))))))
theorem rk_y1v : RuOk SR ru_y1v := by
  intro τ m g hi hc ha hS
  obtain ⟨i0, i1, i2, i3, i4, i5, i6, i7, i8, i9, i10, i11, i12, _⟩ := hi
  have t1199 : τ 1199 = some (g 0) := i0
  have t1190 : τ 1190 = some (g 1) := i1
  have t1191 : τ 1191 = some (g 2) := i2
  have t1192 : τ 1192 = some (g 3) := i3
  have t1193 : τ 1193 = some (g 4) := i4
  have t1120 : τ 1120 = some (g 5) := i5
  have t1123 : τ 1123 = some (g 6) := i6
  have t1124 : τ 1124 = some (g 7) := i7
  have t1121 : τ 1121 = some (g 8) := i8
  have xm1 : g 9 = 12 := i9
  have t1189 : τ 1189 = some (g 10) := i10
  have t1208 : τ 1208 = some (g 11) := i11
  have xhp : g 12 = m 110 6 := i12
  obtain ⟨c0, c1, c2, c3, c4, c5, c6, c7, c8, c9, _⟩ := hc
  have c0 : (-1) * g 5 + 1 * g 6 ≤ 0 := d2 c0
  have c1 : 1 * g 5 + (-1) * g 6 ≤ 0 := d2 c1
  have c2 : 1 * g 2 + (-1) * g 5 ≤ 0 := d2 c2
  have c3 : (-1) * g 2 + 1 * g 5 ≤ 0 := d2 c3
  have c4 : 1 * g 1 ≤ 11 := d1 c4
  have c5 : (-1) * g 1 ≤ (-11) := d1 c5
  have c6 : (-1) * g 5 + 1 * g 11 ≤ 0 := d2 c6
  have c7 : 1 * g 5 + (-1) * g 11 ≤ 0 := d2 c7
  have c8 : (-1) * g 10 ≤ 0 := d1 c8
  have c9 : 1 * g 10 + (-1) * g 12 ≤ (-1) := d2 c9
  obtain ⟨h0, k_tok, k_sc1, k_sc2, k_T, k_I, k_F, k_N, k_Y, k_Z, k_A, k_B, k_C, k_X, k_R, k_f4⟩ := hS (by rw [t1199]; exact fun e => by cases e)
  have k_T0 := k_T
  obtain ⟨h_T, h_TN, h_QZ⟩ := k_T0
  have k_I0 := k_I
  obtain ⟨h_p, h_pc, h_ip, h_iP, h_PC, h_PN⟩ := k_I0
  have k_N0 := k_N
  obtain ⟨h_N, h_Nk, h_V, h_Yq⟩ := k_N0
  have k_Y0 := k_Y
  obtain ⟨h_Y0, h_Y⟩ := k_Y0
  obtain ⟨⟨hy1, hy2⟩, _⟩ := h_Y0 _ _ _ t1190 t1191 t1192
  obtain ⟨ry, hY1, hY2⟩ := h_Y _ _ _ _ t1190 t1191 t1192 t1193
  have hT0 := (h_T _ t1120).1
  have hcc := h_pc _ _ t1123 t1124
  rw [show (g 6).toNat = (g 2).toNat by omega] at hcc
  have hXL : ((tx9 m).2 : Int) = m 110 1 := by
    show (((m 110 1).toNat : Nat) : Int) = _
    omega
  have hv := h_V _ _ t1208 t1189
  have hvp : (g 11).toNat = (g 2).toNat := by omega
  rw [hvp] at hv
  rw [show (g 1).toNat = 11 by omega] at hY1
  have hN := h_TN _ _ t1120 t1121
  rw [show (g 5).toNat = (g 2).toNat by omega] at hN
  have hnL := nx_P (m := m) (p := (g 2).toNat) (by omega)
  obtain ⟨r2, hr2⟩ := RS9_ex (X := tx9 m) (w := wl9 m) (C := CM9 (tx9 m)) CM_ex (m := 12) (p := nx9t (tx9 m) (g 2).toNat) (by omega) (show nx9t (tx9 m) (g 2).toNat ≤ (m 110 1).toNat by omega)
  have er : r2 = ry := RS9.det CM_det (q_1p (by omega) (by show nb9 (tx9 m) _ _ < m 110 6; omega) hr2) hY1
  rw [er] at hr2
  exact ⟨rfl, trivial, trivial, fun _ => ⟨h0, k_tok, k_sc1, k_sc2, k_T, k_I, k_F, k_N, ⟨fun Ym Yp Y1 e0 e1 e2 => by
      have e0 : g 9 + 0 = Ym := Option.some.inj e0
      subst e0
      have e1 : g 8 + 0 = Yp := Option.some.inj e1
      subst e1
      have e2 : g 3 = Y1 := Option.some.inj (t1192.symm.trans e2)
      subst e2
      refine ⟨⟨⟨by omega, by omega⟩, ⟨by omega, by omega⟩⟩, ry, _, ?_, hY2⟩
      rw [show (g 8 + 0).toNat = nx9t (tx9 m) (g 2).toNat by omega, show (g 9 + 0).toNat = 12 by omega]
      exact hr2, fun Ym Yp Y1 Y2 e0 e1 e2 e3 => by
      have e0 : g 9 + 0 = Ym := Option.some.inj e0
      subst e0
      have e1 : g 8 + 0 = Yp := Option.some.inj e1
      subst e1
      have e2 : g 3 = Y1 := Option.some.inj (t1192.symm.trans e2)
      subst e2
      have e3 : g 4 = Y2 := Option.some.inj (t1193.symm.trans e3)
      subst e3
      refine ⟨ry, ?_, hY2⟩
      rw [show (g 8 + 0).toNat = nx9t (tx9 m) (g 2).toNat by omega, show (g 9 + 0).toNat = 12 by omega]
      exact hr2⟩, k_Z, k_A, k_B, k_C, k_X, k_R, k_f4⟩⟩
noncomputable def ru_yqa : Ru := ([(0, (1199, (0, (0, 0)))), (0, (1190, (0, (0, 0)))), (0, (1191, (0, (0, 0)))), (0, (1192, (0, (0, 0)))), (0, (1193, (0, (0, 0)))), (0, (1120, (0, (0, 0)))), (0, (1123, (0, (0, 0)))), (0, (1124, (0, (0, 0)))), (0, (1189, (0, (0, 0)))), (0, (1208, (0, (0, 0)))), (4, (0, (0, (1, 0))))], ([1183], ([([(5, (-1)), (6, 1)], 0), ([(5, 1), (6, (-1))], 0), ([(2, 1), (5, (-1))], 0), ([(2, (-1)), (5, 1)], 0), ([(1, 1)], 11), ([(1, (-1))], (-11)), ([(5, (-1)), (9, 1)], 0), ([(5, 1), (9, (-1))], 0), ([(7, 1)], 33), ([(8, 1)], (-1))], (false, ([], ([], ([(1183, some (10, 0))], none)))))))
theorem rk_yqa : RuOk SR ru_yqa := by
  intro τ m g hi hc ha hS
  obtain ⟨i0, i1, i2, i3, i4, i5, i6, i7, i8, i9, i10, _⟩ := hi
  have t1199 : τ 1199 = some (g 0) := i0
  have t1190 : τ 1190 = some (g 1) := i1
  have t1191 : τ 1191 = some (g 2) := i2
  have t1192 : τ 1192 = some (g 3) := i3
  have t1193 : τ 1193 = some (g 4) := i4
  have t1120 : τ 1120 = some (g 5) := i5
  have t1123 : τ 1123 = some (g 6) := i6
  have t1124 : τ 1124 = some (g 7) := i7
  have t1189 : τ 1189 = some (g 8) := i8
  have t1208 : τ 1208 = some (g 9) := i9
  have xone : g 10 = 1 := i10
  obtain ⟨c0, c1, c2, c3, c4, c5, c6, c7, c8, c9, _⟩ := hc
  have c0 : (-1) * g 5 + 1 * g 6 ≤ 0 := d2 c0
  have c1 : 1 * g 5 + (-1) * g 6 ≤ 0 := d2 c1
  have c2 : 1 * g 2 + (-1) * g 5 ≤ 0 := d2 c2
  have c3 : (-1) * g 2 + 1 * g 5 ≤ 0 := d2 c3
  have c4 : 1 * g 1 ≤ 11 := d1 c4
  have c5 : (-1) * g 1 ≤ (-11) := d1 c5
  have c6 : (-1) * g 5 + 1 * g 9 ≤ 0 := d2 c6
  have c7 : 1 * g 5 + (-1) * g 9 ≤ 0 := d2 c7
  have c8 : 1 * g 7 ≤ 33 := d1 c8
  have c9 : 1 * g 8 ≤ (-1) := d1 c9
  obtain ⟨a0, _⟩ := ha
  have n1183 : τ 1183 = none := a0
  obtain ⟨h0, k_tok, k_sc1, k_sc2, k_T, k_I, k_F, k_N, k_Y, k_Z, k_A, k_B, k_C, k_X, k_R, k_f4⟩ := hS (by rw [t1199]; exact fun e => by cases e)
  have k_T0 := k_T
  obtain ⟨h_T, h_TN, h_QZ⟩ := k_T0
  have k_I0 := k_I
  obtain ⟨h_p, h_pc, h_ip, h_iP, h_PC, h_PN⟩ := k_I0
  have k_N0 := k_N
  obtain ⟨h_N, h_Nk, h_V, h_Yq⟩ := k_N0
  have k_Y0 := k_Y
  obtain ⟨h_Y0, h_Y⟩ := k_Y0
  obtain ⟨⟨hy1, hy2⟩, _⟩ := h_Y0 _ _ _ t1190 t1191 t1192
  obtain ⟨ry, hY1, hY2⟩ := h_Y _ _ _ _ t1190 t1191 t1192 t1193
  have hT0 := (h_T _ t1120).1
  have hcc := h_pc _ _ t1123 t1124
  rw [show (g 6).toNat = (g 2).toNat by omega] at hcc
  have hv := h_V _ _ t1208 t1189
  have hvp : (g 9).toNat = (g 2).toNat := by omega
  rw [hvp] at hv
  exact ⟨rfl, trivial, trivial, fun _ => ⟨h0, k_tok, k_sc1, k_sc2, k_T, k_I, k_F, ⟨h_N, h_Nk, h_V, fun Vp Yq e0 e1 => by
      have e0 : g 9 = Vp := Option.some.inj (t1208.symm.trans e0)
      subst e0
      have e1 : g 10 + 0 = Yq := Option.some.inj e1
      subst e1
      rw [hvp]
      exact ⟨in9_no (by omega), fun z => by have z2 : nb9 (tx9 m) _ 112 < m 110 6 := z.2; omega⟩⟩, k_Y, k_Z, k_A, k_B, k_C, k_X, k_R, k_f4⟩⟩
noncomputable def ru_yqb : Ru := ([(0, (1199, (0, (0, 0)))), (0, (1190, (0, (0, 0)))), (0, (1191, (0, (0, 0)))), (0, (1192, (0, (0, 0)))), (0, (1193, (0, (0, 0)))), (0, (1120, (0, (0, 0)))), (0, (1123, (0, (0, 0)))), (0, (1124, (0, (0, 0)))), (0, (1189, (0, (0, 0)))), (0, (1208, (0, (0, 0)))), (4, (0, (0, (1, 0))))], ([1183], ([([(5, (-1)), (6, 1)], 0), ([(5, 1), (6, (-1))], 0), ([(2, 1), (5, (-1))], 0), ([(2, (-1)), (5, 1)], 0), ([(1, 1)], 11), ([(1, (-1))], (-11)), ([(5, (-1)), (9, 1)], 0), ([(5, 1), (9, (-1))], 0), ([(7, (-1))], (-36)), ([(8, 1)], (-1))], (false, ([], ([], ([(1183, some (10, 0))], none)))))))
theorem rk_yqb : RuOk SR ru_yqb := by
  intro τ m g hi hc ha hS
  obtain ⟨i0, i1, i2, i3, i4, i5, i6, i7, i8, i9, i10, _⟩ := hi
  have t1199 : τ 1199 = some (g 0) := i0
  have t1190 : τ 1190 = some (g 1) := i1
  have t1191 : τ 1191 = some (g 2) := i2
  have t1192 : τ 1192 = some (g 3) := i3
  have t1193 : τ 1193 = some (g 4) := i4
  have t1120 : τ 1120 = some (g 5) := i5
  have t1123 : τ 1123 = some (g 6) := i6
  have t1124 : τ 1124 = some (g 7) := i7
  have t1189 : τ 1189 = some (g 8) := i8
  have t1208 : τ 1208 = some (g 9) := i9
  have xone : g 10 = 1 := i10
  obtain ⟨c0, c1, c2, c3, c4, c5, c6, c7, c8, c9, _⟩ := hc
  have c0 : (-1) * g 5 + 1 * g 6 ≤ 0 := d2 c0
  have c1 : 1 * g 5 + (-1) * g 6 ≤ 0 := d2 c1
  have c2 : 1 * g 2 + (-1) * g 5 ≤ 0 := d2 c2
  have c3 : (-1) * g 2 + 1 * g 5 ≤ 0 := d2 c3
  have c4 : 1 * g 1 ≤ 11 := d1 c4
  have c5 : (-1) * g 1 ≤ (-11) := d1 c5
  have c6 : (-1) * g 5 + 1 * g 9 ≤ 0 := d2 c6
  have c7 : 1 * g 5 + (-1) * g 9 ≤ 0 := d2 c7
  have c8 : (-1) * g 7 ≤ (-36) := d1 c8
  have c9 : 1 * g 8 ≤ (-1) := d1 c9
  obtain ⟨a0, _⟩ := ha
  have n1183 : τ 1183 = none := a0
  obtain ⟨h0, k_tok, k_sc1, k_sc2, k_T, k_I, k_F, k_N, k_Y, k_Z, k_A, k_B, k_C, k_X, k_R, k_f4⟩ := hS (by rw [t1199]; exact fun e => by cases e)
  have k_T0 := k_T
  obtain ⟨h_T, h_TN, h_QZ⟩ := k_T0
  have k_I0 := k_I
  obtain ⟨h_p, h_pc, h_ip, h_iP, h_PC, h_PN⟩ := k_I0
  have k_N0 := k_N
  obtain ⟨h_N, h_Nk, h_V, h_Yq⟩ := k_N0
  have k_Y0 := k_Y
  obtain ⟨h_Y0, h_Y⟩ := k_Y0
  obtain ⟨⟨hy1, hy2⟩, _⟩ := h_Y0 _ _ _ t1190 t1191 t1192
  obtain ⟨ry, hY1, hY2⟩ := h_Y _ _ _ _ t1190 t1191 t1192 t1193
  have hT0 := (h_T _ t1120).1
  have hcc := h_pc _ _ t1123 t1124
  rw [show (g 6).toNat = (g 2).toNat by omega] at hcc
  have hv := h_V _ _ t1208 t1189
  have hvp : (g 9).toNat = (g 2).toNat := by omega
  rw [hvp] at hv
  exact ⟨rfl, trivial, trivial, fun _ => ⟨h0, k_tok, k_sc1, k_sc2, k_T, k_I, k_F, ⟨h_N, h_Nk, h_V, fun Vp Yq e0 e1 => by
      have e0 : g 9 = Vp := Option.some.inj (t1208.symm.trans e0)
      subst e0
      have e1 : g 10 + 0 = Yq := Option.some.inj e1
      subst e1
      rw [hvp]
      exact ⟨in9_no (by omega), fun z => by have z2 : nb9 (tx9 m) _ 112 < m 110 6 := z.2; omega⟩⟩, k_Y, k_Z, k_A, k_B, k_C, k_X, k_R, k_f4⟩⟩
noncomputable def ru_yqc : Ru := ([(0, (1199, (0, (0, 0)))), (0, (1190, (0, (0, 0)))), (0, (1191, (0, (0, 0)))), (0, (1192, (0, (0, 0)))), (0, (1193, (0, (0, 0)))), (0, (1120, (0, (0, 0)))), (0, (1123, (0, (0, 0)))), (0, (1124, (0, (0, 0)))), (0, (1189, (0, (0, 0)))), (0, (1208, (0, (0, 0)))), (5, (110, (6, (0, 0)))), (4, (0, (0, (1, 0))))], ([1183], ([([(5, (-1)), (6, 1)], 0), ([(5, 1), (6, (-1))], 0), ([(2, 1), (5, (-1))], 0), ([(2, (-1)), (5, 1)], 0), ([(1, 1)], 11), ([(1, (-1))], (-11)), ([(5, (-1)), (9, 1)], 0), ([(5, 1), (9, (-1))], 0), ([(7, 1)], 33), ([(8, (-1)), (10, 1)], 0)], (false, ([], ([], ([(1183, some (11, 0))], none)))))))
theorem rk_yqc : RuOk SR ru_yqc := by
  intro τ m g hi hc ha hS
  obtain ⟨i0, i1, i2, i3, i4, i5, i6, i7, i8, i9, i10, i11, _⟩ := hi
  have t1199 : τ 1199 = some (g 0) := i0
  have t1190 : τ 1190 = some (g 1) := i1
  have t1191 : τ 1191 = some (g 2) := i2
  have t1192 : τ 1192 = some (g 3) := i3
  have t1193 : τ 1193 = some (g 4) := i4
  have t1120 : τ 1120 = some (g 5) := i5
  have t1123 : τ 1123 = some (g 6) := i6
  have t1124 : τ 1124 = some (g 7) := i7
  have t1189 : τ 1189 = some (g 8) := i8
  have t1208 : τ 1208 = some (g 9) := i9
  have xhp : g 10 = m 110 6 := i10
  have xone : g 11 = 1 := i11
  obtain ⟨c0, c1, c2, c3, c4, c5, c6, c7, c8, c9, _⟩ := hc
  have c0 : (-1) * g 5 + 1 * g 6 ≤ 0 := d2 c0
  have c1 : 1 * g 5 + (-1) * g 6 ≤ 0 := d2 c1
  have c2 : 1 * g 2 + (-1) * g 5 ≤ 0 := d2 c2
  have c3 : (-1) * g 2 + 1 * g 5 ≤ 0 := d2 c3
  have c4 : 1 * g 1 ≤ 11 := d1 c4
  have c5 : (-1) * g 1 ≤ (-11) := d1 c5
  have c6 : (-1) * g 5 + 1 * g 9 ≤ 0 := d2 c6
  have c7 : 1 * g 5 + (-1) * g 9 ≤ 0 := d2 c7
  have c8 : 1 * g 7 ≤ 33 := d1 c8
  have c9 : (-1) * g 8 + 1 * g 10 ≤ 0 := d2 c9
  obtain ⟨a0, _⟩ := ha
  have n1183 : τ 1183 = none := a0
  obtain ⟨h0, k_tok, k_sc1, k_sc2, k_T, k_I, k_F, k_N, k_Y, k_Z, k_A, k_B, k_C, k_X, k_R, k_f4⟩ := hS (by rw [t1199]; exact fun e => by cases e)
  have k_T0 := k_T
  obtain ⟨h_T, h_TN, h_QZ⟩ := k_T0
  have k_I0 := k_I
  obtain ⟨h_p, h_pc, h_ip, h_iP, h_PC, h_PN⟩ := k_I0
  have k_N0 := k_N
  obtain ⟨h_N, h_Nk, h_V, h_Yq⟩ := k_N0
  have k_Y0 := k_Y
  obtain ⟨h_Y0, h_Y⟩ := k_Y0
  obtain ⟨⟨hy1, hy2⟩, _⟩ := h_Y0 _ _ _ t1190 t1191 t1192
  obtain ⟨ry, hY1, hY2⟩ := h_Y _ _ _ _ t1190 t1191 t1192 t1193
  have hT0 := (h_T _ t1120).1
  have hcc := h_pc _ _ t1123 t1124
  rw [show (g 6).toNat = (g 2).toNat by omega] at hcc
  have hv := h_V _ _ t1208 t1189
  have hvp : (g 9).toNat = (g 2).toNat := by omega
  rw [hvp] at hv
  exact ⟨rfl, trivial, trivial, fun _ => ⟨h0, k_tok, k_sc1, k_sc2, k_T, k_I, k_F, ⟨h_N, h_Nk, h_V, fun Vp Yq e0 e1 => by
      have e0 : g 9 = Vp := Option.some.inj (t1208.symm.trans e0)
      subst e0
      have e1 : g 11 + 0 = Yq := Option.some.inj e1
      subst e1
      rw [hvp]
      exact ⟨in9_no (by omega), fun z => by have z2 : nb9 (tx9 m) _ 112 < m 110 6 := z.2; omega⟩⟩, k_Y, k_Z, k_A, k_B, k_C, k_X, k_R, k_f4⟩⟩
noncomputable def ru_yqd : Ru := ([(0, (1199, (0, (0, 0)))), (0, (1190, (0, (0, 0)))), (0, (1191, (0, (0, 0)))), (0, (1192, (0, (0, 0)))), (0, (1193, (0, (0, 0)))), (0, (1120, (0, (0, 0)))), (0, (1123, (0, (0, 0)))), (0, (1124, (0, (0, 0)))), (0, (1189, (0, (0, 0)))), (0, (1208, (0, (0, 0)))), (5, (110, (6, (0, 0)))), (4, (0, (0, (1, 0))))], ([1183], ([([(5, (-1)), (6, 1)], 0), ([(5, 1), (6, (-1))], 0), ([(2, 1), (5, (-1))], 0), ([(2, (-1)), (5, 1)], 0), ([(1, 1)], 11), ([(1, (-1))], (-11)), ([(5, (-1)), (9, 1)], 0), ([(5, 1), (9, (-1))], 0), ([(7, (-1))], (-36)), ([(8, (-1)), (10, 1)], 0)], (false, ([], ([], ([(1183, some (11, 0))], none)))))))
theorem rk_yqd : RuOk SR ru_yqd := by
  intro τ m g hi hc ha hS
  obtain ⟨i0, i1, i2, i3, i4, i5, i6, i7, i8, i9, i10, i11, _⟩ := hi
  have t1199 : τ 1199 = some (g 0) := i0
  have t1190 : τ 1190 = some (g 1) := i1
  have t1191 : τ 1191 = some (g 2) := i2
  have t1192 : τ 1192 = some (g 3) := i3
  have t1193 : τ 1193 = some (g 4) := i4
  have t1120 : τ 1120 = some (g 5) := i5
  have t1123 : τ 1123 = some (g 6) := i6
  have t1124 : τ 1124 = some (g 7) := i7
  have t1189 : τ 1189 = some (g 8) := i8
  have t1208 : τ 1208 = some (g 9) := i9
  have xhp : g 10 = m 110 6 := i10
  have xone : g 11 = 1 := i11
  obtain ⟨c0, c1, c2, c3, c4, c5, c6, c7, c8, c9, _⟩ := hc
  have c0 : (-1) * g 5 + 1 * g 6 ≤ 0 := d2 c0
  have c1 : 1 * g 5 + (-1) * g 6 ≤ 0 := d2 c1
  have c2 : 1 * g 2 + (-1) * g 5 ≤ 0 := d2 c2
  have c3 : (-1) * g 2 + 1 * g 5 ≤ 0 := d2 c3
  have c4 : 1 * g 1 ≤ 11 := d1 c4
  have c5 : (-1) * g 1 ≤ (-11) := d1 c5
  have c6 : (-1) * g 5 + 1 * g 9 ≤ 0 := d2 c6
  have c7 : 1 * g 5 + (-1) * g 9 ≤ 0 := d2 c7
  have c8 : (-1) * g 7 ≤ (-36) := d1 c8
  have c9 : (-1) * g 8 + 1 * g 10 ≤ 0 := d2 c9
  obtain ⟨a0, _⟩ := ha
  have n1183 : τ 1183 = none := a0
  obtain ⟨h0, k_tok, k_sc1, k_sc2, k_T, k_I, k_F, k_N, k_Y, k_Z, k_A, k_B, k_C, k_X, k_R, k_f4⟩ := hS (by rw [t1199]; exact fun e => by cases e)
  have k_T0 := k_T
  obtain ⟨h_T, h_TN, h_QZ⟩ := k_T0
  have k_I0 := k_I
  obtain ⟨h_p, h_pc, h_ip, h_iP, h_PC, h_PN⟩ := k_I0
  have k_N0 := k_N
  obtain ⟨h_N, h_Nk, h_V, h_Yq⟩ := k_N0
  have k_Y0 := k_Y
  obtain ⟨h_Y0, h_Y⟩ := k_Y0
  obtain ⟨⟨hy1, hy2⟩, _⟩ := h_Y0 _ _ _ t1190 t1191 t1192
  obtain ⟨ry, hY1, hY2⟩ := h_Y _ _ _ _ t1190 t1191 t1192 t1193
  have hT0 := (h_T _ t1120).1
  have hcc := h_pc _ _ t1123 t1124
  rw [show (g 6).toNat = (g 2).toNat by omega] at hcc
  have hv := h_V _ _ t1208 t1189
  have hvp : (g 9).toNat = (g 2).toNat := by omega
  rw [hvp] at hv
  exact ⟨rfl, trivial, trivial, fun _ => ⟨h0, k_tok, k_sc1, k_sc2, k_T, k_I, k_F, ⟨h_N, h_Nk, h_V, fun Vp Yq e0 e1 => by
      have e0 : g 9 = Vp := Option.some.inj (t1208.symm.trans e0)
      subst e0
      have e1 : g 11 + 0 = Yq := Option.some.inj e1
      subst e1
      rw [hvp]
      exact ⟨in9_no (by omega), fun z => by have z2 : nb9 (tx9 m) _ 112 < m 110 6 := z.2; omega⟩⟩, k_Y, k_Z, k_A, k_B, k_C, k_X, k_R, k_f4⟩⟩
noncomputable def ru_y1x : Ru := ([(0, (1199, (0, (0, 0)))), (0, (1190, (0, (0, 0)))), (0, (1191, (0, (0, 0)))), (0, (1192, (0, (0, 0)))), (0, (1193, (0, (0, 0)))), (0, (1120, (0, (0, 0)))), (0, (1123, (0, (0, 0)))), (0, (1124, (0, (0, 0)))), (4, (0, (0, (12, 0)))), (0, (1184, (0, (0, 0)))), (0, (1185, (0, (0, 0)))), (0, (1186, (0, (0, 0)))), (0, (1183, (0, (0, 0)))), (0, (1208, (0, (0, 0))))], ([], ([([(5, (-1)), (6, 1)], 0), ([(5, 1), (6, (-1))], 0), ([(2, 1), (5, (-1))], 0), ([(2, (-1)), (5, 1)], 0), ([(1, 1)], 11), ([(1, (-1))], (-11)), ([(5, (-1)), (9, 1)], 0), ([(5, 1), (9, (-1))], 0), ([(10, 1)], 103), ([(10, (-1))], (-103)), ([(11, 1)], (-1)), ([(12, 1)], 1), ([(12, (-1))], (-1)), ([(5, (-1)), (13, 1)], 0), ([(5, 1), (13, (-1))], 0)], (false, ([([(4, 1), (5, (-1))], 0), ([(4, (-1)), (5, 1)], 0), ([(3, 1)], (-1)), ([(3, (-1))], 1)], ([], ([], none)))))))
theorem rk_y1x : RuOk SR ru_y1x := by
  intro τ m g hi hc ha hS
  obtain ⟨i0, i1, i2, i3, i4, i5, i6, i7, i8, i9, i10, i11, i12, i13, _⟩ := hi
  have t1199 : τ 1199 = some (g 0) := i0
  have t1190 : τ 1190 = some (g 1) := i1
  have t1191 : τ 1191 = some (g 2) := i2
  have t1192 : τ 1192 = some (g 3) := i3
  have t1193 : τ 1193 = some (g 4) := i4
  have t1120 : τ 1120 = some (g 5) := i5
  have t1123 : τ 1123 = some (g 6) := i6
  have t1124 : τ 1124 = some (g 7) := i7
  have xm1 : g 8 = 12 := i8
  have t1184 : τ 1184 = some (g 9) := i9
  have t1185 : τ 1185 = some (g 10) := i10
  have t1186 : τ 1186 = some (g 11) := i11
  have t1183 : τ 1183 = some (g 12) := i12
  have t1208 : τ 1208 = some (g 13) := i13
  obtain ⟨c0, c1, c2, c3, c4, c5, c6, c7, c8, c9, c10, c11, c12, c13, c14, _⟩ := hc
  have c0 : (-1) * g 5 + 1 * g 6 ≤ 0 := d2 c0
  have c1 : 1 * g 5 + (-1) * g 6 ≤ 0 := d2 c1
  have c2 : 1 * g 2 + (-1) * g 5 ≤ 0 := d2 c2
  have c3 : (-1) * g 2 + 1 * g 5 ≤ 0 := d2 c3
  have c4 : 1 * g 1 ≤ 11 := d1 c4
  have c5 : (-1) * g 1 ≤ (-11) := d1 c5
  have c6 : (-1) * g 5 + 1 * g 9 ≤ 0 := d2 c6
  have c7 : 1 * g 5 + (-1) * g 9 ≤ 0 := d2 c7
  have c8 : 1 * g 10 ≤ 103 := d1 c8
  have c9 : (-1) * g 10 ≤ (-103) := d1 c9
  have c10 : 1 * g 11 ≤ (-1) := d1 c10
  have c11 : 1 * g 12 ≤ 1 := d1 c11
  have c12 : (-1) * g 12 ≤ (-1) := d1 c12
  have c13 : (-1) * g 5 + 1 * g 13 ≤ 0 := d2 c13
  have c14 : 1 * g 5 + (-1) * g 13 ≤ 0 := d2 c14
  obtain ⟨h0, k_tok, k_sc1, k_sc2, k_T, k_I, k_F, k_N, k_Y, k_Z, k_A, k_B, k_C, k_X, k_R, k_f4⟩ := hS (by rw [t1199]; exact fun e => by cases e)
  have k_T0 := k_T
  obtain ⟨h_T, h_TN, h_QZ⟩ := k_T0
  have k_I0 := k_I
  obtain ⟨h_p, h_pc, h_ip, h_iP, h_PC, h_PN⟩ := k_I0
  have k_N0 := k_N
  obtain ⟨h_N, h_Nk, h_V, h_Yq⟩ := k_N0
  have k_Y0 := k_Y
  obtain ⟨h_Y0, h_Y⟩ := k_Y0
  obtain ⟨⟨hy1, hy2⟩, _⟩ := h_Y0 _ _ _ t1190 t1191 t1192
  obtain ⟨ry, hY1, hY2⟩ := h_Y _ _ _ _ t1190 t1191 t1192 t1193
  have hT0 := (h_T _ t1120).1
  have hcc := h_pc _ _ t1123 t1124
  rw [show (g 6).toNat = (g 2).toNat by omega] at hcc
  have hv2 := (h_N _ _ _ t1184 t1185 t1186).2
  rw [show (g 9).toNat = (g 2).toNat by omega, show g 10 = 103 by omega] at hv2
  have hq := h_Yq _ _ t1208 t1183
  rw [show (g 13).toNat = (g 2).toNat by omega] at hq
  rw [show (g 1).toNat = 11 by omega] at hY1
  obtain ⟨y1, y2⟩ := hY2.2 (g 2).toNat (RS9.det CM_det hY1 (q_1x hq (fun z => by have z2 : nb9 (tx9 m) _ 103 < m 110 7 := z.2; omega)))
  exact ⟨rfl, ⟨f2 (by omega), f2 (by omega), f1 (by omega), f1 (by omega), trivial⟩, trivial, fun _ => ⟨h0, k_tok, k_sc1, k_sc2, k_T, k_I, k_F, k_N, k_Y, k_Z, k_A, k_B, k_C, k_X, k_R, k_f4⟩⟩
noncomputable def ru_y1y : Ru := ([(0, (1199, (0, (0, 0)))), (0, (1190, (0, (0, 0)))), (0, (1191, (0, (0, 0)))), (0, (1192, (0, (0, 0)))), (0, (1193, (0, (0, 0)))), (0, (1120, (0, (0, 0)))), (0, (1123, (0, (0, 0)))), (0, (1124, (0, (0, 0)))), (4, (0, (0, (12, 0)))), (0, (1184, (0, (0, 0)))), (0, (1185, (0, (0, 0)))), (0, (1186, (0, (0, 0)))), (5, (110, (7, (0, 0)))), (0, (1183, (0, (0, 0)))), (0, (1208, (0, (0, 0))))], ([], ([([(5, (-1)), (6, 1)], 0), ([(5, 1), (6, (-1))], 0), ([(2, 1), (5, (-1))], 0), ([(2, (-1)), (5, 1)], 0), ([(1, 1)], 11), ([(1, (-1))], (-11)), ([(5, (-1)), (9, 1)], 0), ([(5, 1), (9, (-1))], 0), ([(10, 1)], 103), ([(10, (-1))], (-103)), ([(11, (-1)), (12, 1)], 0), ([(13, 1)], 1), ([(13, (-1))], (-1)), ([(5, (-1)), (14, 1)], 0), ([(5, 1), (14, (-1))], 0)], (false, ([([(4, 1), (5, (-1))], 0), ([(4, (-1)), (5, 1)], 0), ([(3, 1)], (-1)), ([(3, (-1))], 1)], ([], ([], none)))))))
theorem rk_y1y : RuOk SR ru_y1y := by
  intro τ m g hi hc ha hS
  obtain ⟨i0, i1, i2, i3, i4, i5, i6, i7, i8, i9, i10, i11, i12, i13, i14, _⟩ := hi
  have t1199 : τ 1199 = some (g 0) := i0
  have t1190 : τ 1190 = some (g 1) := i1
  have t1191 : τ 1191 = some (g 2) := i2
  have t1192 : τ 1192 = some (g 3) := i3
  have t1193 : τ 1193 = some (g 4) := i4
  have t1120 : τ 1120 = some (g 5) := i5
  have t1123 : τ 1123 = some (g 6) := i6
  have t1124 : τ 1124 = some (g 7) := i7
  have xm1 : g 8 = 12 := i8
  have t1184 : τ 1184 = some (g 9) := i9
  have t1185 : τ 1185 = some (g 10) := i10
  have t1186 : τ 1186 = some (g 11) := i11
  have xhg : g 12 = m 110 7 := i12
  have t1183 : τ 1183 = some (g 13) := i13
  have t1208 : τ 1208 = some (g 14) := i14
  obtain ⟨c0, c1, c2, c3, c4, c5, c6, c7, c8, c9, c10, c11, c12, c13, c14, _⟩ := hc
  have c0 : (-1) * g 5 + 1 * g 6 ≤ 0 := d2 c0
  have c1 : 1 * g 5 + (-1) * g 6 ≤ 0 := d2 c1
  have c2 : 1 * g 2 + (-1) * g 5 ≤ 0 := d2 c2
  have c3 : (-1) * g 2 + 1 * g 5 ≤ 0 := d2 c3
  have c4 : 1 * g 1 ≤ 11 := d1 c4
  have c5 : (-1) * g 1 ≤ (-11) := d1 c5
  have c6 : (-1) * g 5 + 1 * g 9 ≤ 0 := d2 c6
  have c7 : 1 * g 5 + (-1) * g 9 ≤ 0 := d2 c7
  have c8 : 1 * g 10 ≤ 103 := d1 c8
  have c9 : (-1) * g 10 ≤ (-103) := d1 c9
  have c10 : (-1) * g 11 + 1 * g 12 ≤ 0 := d2 c10
  have c11 : 1 * g 13 ≤ 1 := d1 c11
  have c12 : (-1) * g 13 ≤ (-1) := d1 c12
  have c13 : (-1) * g 5 + 1 * g 14 ≤ 0 := d2 c13
  have c14 : 1 * g 5 + (-1) * g 14 ≤ 0 := d2 c14
  obtain ⟨h0, k_tok, k_sc1, k_sc2, k_T, k_I, k_F, k_N, k_Y, k_Z, k_A, k_B, k_C, k_X, k_R, k_f4⟩ := hS (by rw [t1199]; exact fun e => by cases e)
  have k_T0 := k_T
  obtain ⟨h_T, h_TN, h_QZ⟩ := k_T0
  have k_I0 := k_I
  obtain ⟨h_p, h_pc, h_ip, h_iP, h_PC, h_PN⟩ := k_I0
  have k_N0 := k_N
  obtain ⟨h_N, h_Nk, h_V, h_Yq⟩ := k_N0
  have k_Y0 := k_Y
  obtain ⟨h_Y0, h_Y⟩ := k_Y0
  obtain ⟨⟨hy1, hy2⟩, _⟩ := h_Y0 _ _ _ t1190 t1191 t1192
  obtain ⟨ry, hY1, hY2⟩ := h_Y _ _ _ _ t1190 t1191 t1192 t1193
  have hT0 := (h_T _ t1120).1
  have hcc := h_pc _ _ t1123 t1124
  rw [show (g 6).toNat = (g 2).toNat by omega] at hcc
  have hv2 := (h_N _ _ _ t1184 t1185 t1186).2
  rw [show (g 9).toNat = (g 2).toNat by omega, show g 10 = 103 by omega] at hv2
  have hq := h_Yq _ _ t1208 t1183
  rw [show (g 14).toNat = (g 2).toNat by omega] at hq
  rw [show (g 1).toNat = 11 by omega] at hY1
  obtain ⟨y1, y2⟩ := hY2.2 (g 2).toNat (RS9.det CM_det hY1 (q_1x hq (fun z => by have z2 : nb9 (tx9 m) _ 103 < m 110 7 := z.2; omega)))
  exact ⟨rfl, ⟨f2 (by omega), f2 (by omega), f1 (by omega), f1 (by omega), trivial⟩, trivial, fun _ => ⟨h0, k_tok, k_sc1, k_sc2, k_T, k_I, k_F, k_N, k_Y, k_Z, k_A, k_B, k_C, k_X, k_R, k_f4⟩⟩
noncomputable def ru_yqD : Ru := ([], ([], ([], (false, ([], ([], ([(1183, none), (1189, none), (1208, none), (1184, none), (1185, none), (1186, none), (1187, none), (1188, none)], none)))))))
theorem rk_yqD : RuOk SR ru_yqD := by
  intro τ m g hi hc ha hS
  refine ⟨rfl, trivial, trivial, fun hM => ?_⟩
  obtain ⟨h0, k_tok, k_sc1, k_sc2, k_T, k_I, k_F, k_N, k_Y, k_Z, k_A, k_B, k_C, k_X, k_R, k_f4⟩ := hS hM
  have k_N0 := k_N
  obtain ⟨h_N, h_Nk, h_V, h_Yq⟩ := k_N0
  exact ⟨h0, k_tok, k_sc1, k_sc2, k_T, k_I, k_F, ⟨fun _ _ _ e0 e1 e2 => no9 (o := none) rfl e0, fun _ _ _ _ _ e0 e1 e2 e3 e4 => no9 (o := none) rfl e0, fun _ _ e0 e1 => no9 (o := none) rfl e0, fun _ _ e0 e1 => no9 (o := none) rfl e0⟩, k_Y, k_Z, k_A, k_B, k_C, k_X, k_R, k_f4⟩
noncomputable def ru_y20 : Ru := ([(0, (1199, (0, (0, 0)))), (0, (1190, (0, (0, 0)))), (0, (1191, (0, (0, 0)))), (0, (1192, (0, (0, 0)))), (0, (1193, (0, (0, 0)))), (0, (1120, (0, (0, 0)))), (0, (1123, (0, (0, 0)))), (0, (1124, (0, (0, 0)))), (0, (1121, (0, (0, 0)))), (4, (0, (0, (13, 0))))], ([], ([([(5, (-1)), (6, 1)], 0), ([(5, 1), (6, (-1))], 0), ([(2, 1), (5, (-1))], 0), ([(2, (-1)), (5, 1)], 0), ([(1, 1)], 12), ([(1, (-1))], (-12)), ([(7, (-1))], (-36)), ([(7, 1)], 36)], (false, ([], ([], ([(1190, some (9, 0)), (1191, some (8, 0))], none)))))))
theorem rk_y20 : RuOk SR ru_y20 := by
  intro τ m g hi hc ha hS
  obtain ⟨i0, i1, i2, i3, i4, i5, i6, i7, i8, i9, _⟩ := hi
  have t1199 : τ 1199 = some (g 0) := i0
  have t1190 : τ 1190 = some (g 1) := i1
  have t1191 : τ 1191 = some (g 2) := i2
  have t1192 : τ 1192 = some (g 3) := i3
  have t1193 : τ 1193 = some (g 4) := i4
  have t1120 : τ 1120 = some (g 5) := i5
  have t1123 : τ 1123 = some (g 6) := i6
  have t1124 : τ 1124 = some (g 7) := i7
  have t1121 : τ 1121 = some (g 8) := i8
  have xm1 : g 9 = 13 := i9
  obtain ⟨c0, c1, c2, c3, c4, c5, c6, c7, _⟩ := hc
  have c0 : (-1) * g 5 + 1 * g 6 ≤ 0 := d2 c0
  have c1 : 1 * g 5 + (-1) * g 6 ≤ 0 := d2 c1
  have c2 : 1 * g 2 + (-1) * g 5 ≤ 0 := d2 c2
  have c3 : (-1) * g 2 + 1 * g 5 ≤ 0 := d2 c3
  have c4 : 1 * g 1 ≤ 12 := d1 c4
  have c5 : (-1) * g 1 ≤ (-12) := d1 c5
  have c6 : (-1) * g 7 ≤ (-36) := d1 c6
  have c7 : 1 * g 7 ≤ 36 := d1 c7
  obtain ⟨h0, k_tok, k_sc1, k_sc2, k_T, k_I, k_F, k_N, k_Y, k_Z, k_A, k_B, k_C, k_X, k_R, k_f4⟩ := hS (by rw [t1199]; exact fun e => by cases e)
  have k_T0 := k_T
  obtain ⟨h_T, h_TN, h_QZ⟩ := k_T0
  have k_I0 := k_I
  obtain ⟨h_p, h_pc, h_ip, h_iP, h_PC, h_PN⟩ := k_I0
  have k_Y0 := k_Y
  obtain ⟨h_Y0, h_Y⟩ := k_Y0
  obtain ⟨⟨hy1, hy2⟩, _⟩ := h_Y0 _ _ _ t1190 t1191 t1192
  obtain ⟨ry, hY1, hY2⟩ := h_Y _ _ _ _ t1190 t1191 t1192 t1193
  have hT0 := (h_T _ t1120).1
  have hcc := h_pc _ _ t1123 t1124
  rw [show (g 6).toNat = (g 2).toNat by omega] at hcc
  have hXL : ((tx9 m).2 : Int) = m 110 1 := by
    show (((m 110 1).toNat : Nat) : Int) = _
    omega
  rw [show (g 1).toNat = 12 by omega] at hY1
  have hN := h_TN _ _ t1120 t1121
  rw [show (g 5).toNat = (g 2).toNat by omega] at hN
  have hnL := nx_P (m := m) (p := (g 2).toNat) (by omega)
  obtain ⟨r2, hr2⟩ := RS9_ex (X := tx9 m) (w := wl9 m) (C := CM9 (tx9 m)) CM_ex (m := 13) (p := nx9t (tx9 m) (g 2).toNat) (by omega) (show nx9t (tx9 m) (g 2).toNat ≤ (m 110 1).toNat by omega)
  have er : r2 = ry := RS9.det CM_det (q_2 (act_r (a := 36) (b := 36) (v := true) (by decide) (by omega) (by omega) rc_le) hr2) hY1
  rw [er] at hr2
  exact ⟨rfl, trivial, trivial, fun _ => ⟨h0, k_tok, k_sc1, k_sc2, k_T, k_I, k_F, k_N, ⟨fun Ym Yp Y1 e0 e1 e2 => by
      have e0 : g 9 + 0 = Ym := Option.some.inj e0
      subst e0
      have e1 : g 8 + 0 = Yp := Option.some.inj e1
      subst e1
      have e2 : g 3 = Y1 := Option.some.inj (t1192.symm.trans e2)
      subst e2
      refine ⟨⟨⟨by omega, by omega⟩, ⟨by omega, by omega⟩⟩, ry, _, ?_, hY2⟩
      rw [show (g 8 + 0).toNat = nx9t (tx9 m) (g 2).toNat by omega, show (g 9 + 0).toNat = 13 by omega]
      exact hr2, fun Ym Yp Y1 Y2 e0 e1 e2 e3 => by
      have e0 : g 9 + 0 = Ym := Option.some.inj e0
      subst e0
      have e1 : g 8 + 0 = Yp := Option.some.inj e1
      subst e1
      have e2 : g 3 = Y1 := Option.some.inj (t1192.symm.trans e2)
      subst e2
      have e3 : g 4 = Y2 := Option.some.inj (t1193.symm.trans e3)
      subst e3
      refine ⟨ry, ?_, hY2⟩
      rw [show (g 8 + 0).toNat = nx9t (tx9 m) (g 2).toNat by omega, show (g 9 + 0).toNat = 13 by omega]
      exact hr2⟩, k_Z, k_A, k_B, k_C, k_X, k_R, k_f4⟩⟩
noncomputable def ru_y21 : Ru := ([(0, (1199, (0, (0, 0)))), (0, (1190, (0, (0, 0)))), (0, (1191, (0, (0, 0)))), (0, (1192, (0, (0, 0)))), (0, (1193, (0, (0, 0)))), (0, (1120, (0, (0, 0)))), (0, (1123, (0, (0, 0)))), (0, (1124, (0, (0, 0)))), (0, (1121, (0, (0, 0)))), (4, (0, (0, (13, 0))))], ([], ([([(5, (-1)), (6, 1)], 0), ([(5, 1), (6, (-1))], 0), ([(2, 1), (5, (-1))], 0), ([(2, (-1)), (5, 1)], 0), ([(1, 1)], 12), ([(1, (-1))], (-12)), ([(7, (-1))], (-43)), ([(7, 1)], 43)], (false, ([], ([], ([(1190, some (9, 0)), (1191, some (8, 0))], none)))))))
theorem rk_y21 : RuOk SR ru_y21 := by
  intro τ m g hi hc ha hS
  obtain ⟨i0, i1, i2, i3, i4, i5, i6, i7, i8, i9, _⟩ := hi
  have t1199 : τ 1199 = some (g 0) := i0
  have t1190 : τ 1190 = some (g 1) := i1
  have t1191 : τ 1191 = some (g 2) := i2
  have t1192 : τ 1192 = some (g 3) := i3
  have t1193 : τ 1193 = some (g 4) := i4
  have t1120 : τ 1120 = some (g 5) := i5
  have t1123 : τ 1123 = some (g 6) := i6
  have t1124 : τ 1124 = some (g 7) := i7
  have t1121 : τ 1121 = some (g 8) := i8
  have xm1 : g 9 = 13 := i9
  obtain ⟨c0, c1, c2, c3, c4, c5, c6, c7, _⟩ := hc
  have c0 : (-1) * g 5 + 1 * g 6 ≤ 0 := d2 c0
  have c1 : 1 * g 5 + (-1) * g 6 ≤ 0 := d2 c1
  have c2 : 1 * g 2 + (-1) * g 5 ≤ 0 := d2 c2
  have c3 : (-1) * g 2 + 1 * g 5 ≤ 0 := d2 c3
  have c4 : 1 * g 1 ≤ 12 := d1 c4
  have c5 : (-1) * g 1 ≤ (-12) := d1 c5
  have c6 : (-1) * g 7 ≤ (-43) := d1 c6
  have c7 : 1 * g 7 ≤ 43 := d1 c7
  obtain ⟨h0, k_tok, k_sc1, k_sc2, k_T, k_I, k_F, k_N, k_Y, k_Z, k_A, k_B, k_C, k_X, k_R, k_f4⟩ := hS (by rw [t1199]; exact fun e => by cases e)
  have k_T0 := k_T
  obtain ⟨h_T, h_TN, h_QZ⟩ := k_T0
  have k_I0 := k_I
  obtain ⟨h_p, h_pc, h_ip, h_iP, h_PC, h_PN⟩ := k_I0
  have k_Y0 := k_Y
  obtain ⟨h_Y0, h_Y⟩ := k_Y0
  obtain ⟨⟨hy1, hy2⟩, _⟩ := h_Y0 _ _ _ t1190 t1191 t1192
  obtain ⟨ry, hY1, hY2⟩ := h_Y _ _ _ _ t1190 t1191 t1192 t1193
  have hT0 := (h_T _ t1120).1
  have hcc := h_pc _ _ t1123 t1124
  rw [show (g 6).toNat = (g 2).toNat by omega] at hcc
  have hXL : ((tx9 m).2 : Int) = m 110 1 := by
    show (((m 110 1).toNat : Nat) : Int) = _
    omega
  rw [show (g 1).toNat = 12 by omega] at hY1
  have hN := h_TN _ _ t1120 t1121
  rw [show (g 5).toNat = (g 2).toNat by omega] at hN
  have hnL := nx_P (m := m) (p := (g 2).toNat) (by omega)
  obtain ⟨r2, hr2⟩ := RS9_ex (X := tx9 m) (w := wl9 m) (C := CM9 (tx9 m)) CM_ex (m := 13) (p := nx9t (tx9 m) (g 2).toNat) (by omega) (show nx9t (tx9 m) (g 2).toNat ≤ (m 110 1).toNat by omega)
  have er : r2 = ry := RS9.det CM_det (q_2 (act_r (a := 43) (b := 43) (v := true) (by decide) (by omega) (by omega) rc_le) hr2) hY1
  rw [er] at hr2
  exact ⟨rfl, trivial, trivial, fun _ => ⟨h0, k_tok, k_sc1, k_sc2, k_T, k_I, k_F, k_N, ⟨fun Ym Yp Y1 e0 e1 e2 => by
      have e0 : g 9 + 0 = Ym := Option.some.inj e0
      subst e0
      have e1 : g 8 + 0 = Yp := Option.some.inj e1
      subst e1
      have e2 : g 3 = Y1 := Option.some.inj (t1192.symm.trans e2)
      subst e2
      refine ⟨⟨⟨by omega, by omega⟩, ⟨by omega, by omega⟩⟩, ry, _, ?_, hY2⟩
      rw [show (g 8 + 0).toNat = nx9t (tx9 m) (g 2).toNat by omega, show (g 9 + 0).toNat = 13 by omega]
      exact hr2, fun Ym Yp Y1 Y2 e0 e1 e2 e3 => by
      have e0 : g 9 + 0 = Ym := Option.some.inj e0
      subst e0
      have e1 : g 8 + 0 = Yp := Option.some.inj e1
      subst e1
      have e2 : g 3 = Y1 := Option.some.inj (t1192.symm.trans e2)
      subst e2
      have e3 : g 4 = Y2 := Option.some.inj (t1193.symm.trans e3)
      subst e3
      refine ⟨ry, ?_, hY2⟩
      rw [show (g 8 + 0).toNat = nx9t (tx9 m) (g 2).toNat by omega, show (g 9 + 0).toNat = 13 by omega]
      exact hr2⟩, k_Z, k_A, k_B, k_C, k_X, k_R, k_f4⟩⟩
noncomputable def ru_y22 : Ru := ([(0, (1199, (0, (0, 0)))), (0, (1190, (0, (0, 0)))), (0, (1191, (0, (0, 0)))), (0, (1192, (0, (0, 0)))), (0, (1193, (0, (0, 0)))), (0, (1120, (0, (0, 0)))), (0, (1123, (0, (0, 0)))), (0, (1124, (0, (0, 0)))), (0, (1121, (0, (0, 0)))), (4, (0, (0, (13, 0))))], ([], ([([(5, (-1)), (6, 1)], 0), ([(5, 1), (6, (-1))], 0), ([(2, 1), (5, (-1))], 0), ([(2, (-1)), (5, 1)], 0), ([(1, 1)], 12), ([(1, (-1))], (-12)), ([(7, (-1))], (-46)), ([(7, 1)], 46)], (false, ([], ([], ([(1190, some (9, 0)), (1191, some (8, 0))], none)))))))
theorem rk_y22 : RuOk SR ru_y22 := by
  intro τ m g hi hc ha hS
  obtain ⟨i0, i1, i2, i3, i4, i5, i6, i7, i8, i9, _⟩ := hi
  have t1199 : τ 1199 = some (g 0) := i0
  have t1190 : τ 1190 = some (g 1) := i1
  have t1191 : τ 1191 = some (g 2) := i2
  have t1192 : τ 1192 = some (g 3) := i3
  have t1193 : τ 1193 = some (g 4) := i4
  have t1120 : τ 1120 = some (g 5) := i5
  have t1123 : τ 1123 = some (g 6) := i6
  have t1124 : τ 1124 = some (g 7) := i7
  have t1121 : τ 1121 = some (g 8) := i8
  have xm1 : g 9 = 13 := i9
  obtain ⟨c0, c1, c2, c3, c4, c5, c6, c7, _⟩ := hc
  have c0 : (-1) * g 5 + 1 * g 6 ≤ 0 := d2 c0
  have c1 : 1 * g 5 + (-1) * g 6 ≤ 0 := d2 c1
  have c2 : 1 * g 2 + (-1) * g 5 ≤ 0 := d2 c2
  have c3 : (-1) * g 2 + 1 * g 5 ≤ 0 := d2 c3
  have c4 : 1 * g 1 ≤ 12 := d1 c4
  have c5 : (-1) * g 1 ≤ (-12) := d1 c5
  have c6 : (-1) * g 7 ≤ (-46) := d1 c6
  have c7 : 1 * g 7 ≤ 46 := d1 c7
  obtain ⟨h0, k_tok, k_sc1, k_sc2, k_T, k_I, k_F, k_N, k_Y, k_Z, k_A, k_B, k_C, k_X, k_R, k_f4⟩ := hS (by rw [t1199]; exact fun e => by cases e)
  have k_T0 := k_T
  obtain ⟨h_T, h_TN, h_QZ⟩ := k_T0
  have k_I0 := k_I
  obtain ⟨h_p, h_pc, h_ip, h_iP, h_PC, h_PN⟩ := k_I0
  have k_Y0 := k_Y
  obtain ⟨h_Y0, h_Y⟩ := k_Y0
  obtain ⟨⟨hy1, hy2⟩, _⟩ := h_Y0 _ _ _ t1190 t1191 t1192
  obtain ⟨ry, hY1, hY2⟩ := h_Y _ _ _ _ t1190 t1191 t1192 t1193
  have hT0 := (h_T _ t1120).1
  have hcc := h_pc _ _ t1123 t1124
  rw [show (g 6).toNat = (g 2).toNat by omega] at hcc
  have hXL : ((tx9 m).2 : Int) = m 110 1 := by
    show (((m 110 1).toNat : Nat) : Int) = _
    omega
  rw [show (g 1).toNat = 12 by omega] at hY1
  have hN := h_TN _ _ t1120 t1121
  rw [show (g 5).toNat = (g 2).toNat by omega] at hN
  have hnL := nx_P (m := m) (p := (g 2).toNat) (by omega)
  obtain ⟨r2, hr2⟩ := RS9_ex (X := tx9 m) (w := wl9 m) (C := CM9 (tx9 m)) CM_ex (m := 13) (p := nx9t (tx9 m) (g 2).toNat) (by omega) (show nx9t (tx9 m) (g 2).toNat ≤ (m 110 1).toNat by omega)
  have er : r2 = ry := RS9.det CM_det (q_2 (act_r (a := 46) (b := 46) (v := true) (by decide) (by omega) (by omega) rc_le) hr2) hY1
  rw [er] at hr2
  exact ⟨rfl, trivial, trivial, fun _ => ⟨h0, k_tok, k_sc1, k_sc2, k_T, k_I, k_F, k_N, ⟨fun Ym Yp Y1 e0 e1 e2 => by
      have e0 : g 9 + 0 = Ym := Option.some.inj e0
      subst e0
      have e1 : g 8 + 0 = Yp := Option.some.inj e1
      subst e1
      have e2 : g 3 = Y1 := Option.some.inj (t1192.symm.trans e2)
      subst e2
      refine ⟨⟨⟨by omega, by omega⟩, ⟨by omega, by omega⟩⟩, ry, _, ?_, hY2⟩
      rw [show (g 8 + 0).toNat = nx9t (tx9 m) (g 2).toNat by omega, show (g 9 + 0).toNat = 13 by omega]
      exact hr2, fun Ym Yp Y1 Y2 e0 e1 e2 e3 => by
      have e0 : g 9 + 0 = Ym := Option.some.inj e0
      subst e0
      have e1 : g 8 + 0 = Yp := Option.some.inj e1
      subst e1
      have e2 : g 3 = Y1 := Option.some.inj (t1192.symm.trans e2)
      subst e2
      have e3 : g 4 = Y2 := Option.some.inj (t1193.symm.trans e3)
      subst e3
      refine ⟨ry, ?_, hY2⟩
      rw [show (g 8 + 0).toNat = nx9t (tx9 m) (g 2).toNat by omega, show (g 9 + 0).toNat = 13 by omega]
      exact hr2⟩, k_Z, k_A, k_B, k_C, k_X, k_R, k_f4⟩⟩
noncomputable def ru_y23 : Ru := ([(0, (1199, (0, (0, 0)))), (0, (1190, (0, (0, 0)))), (0, (1191, (0, (0, 0)))), (0, (1192, (0, (0, 0)))), (0, (1193, (0, (0, 0)))), (0, (1120, (0, (0, 0)))), (0, (1123, (0, (0, 0)))), (0, (1124, (0, (0, 0)))), (0, (1121, (0, (0, 0)))), (4, (0, (0, (13, 0))))], ([], ([([(5, (-1)), (6, 1)], 0), ([(5, 1), (6, (-1))], 0), ([(2, 1), (5, (-1))], 0), ([(2, (-1)), (5, 1)], 0), ([(1, 1)], 12), ([(1, (-1))], (-12)), ([(7, (-1))], (-48)), ([(7, 1)], 51)], (false, ([], ([], ([(1190, some (9, 0)), (1191, some (8, 0))], none)))))))
theorem rk_y23 : RuOk SR ru_y23 := by
  intro τ m g hi hc ha hS
  obtain ⟨i0, i1, i2, i3, i4, i5, i6, i7, i8, i9, _⟩ := hi
  have t1199 : τ 1199 = some (g 0) := i0
  have t1190 : τ 1190 = some (g 1) := i1
  have t1191 : τ 1191 = some (g 2) := i2
  have t1192 : τ 1192 = some (g 3) := i3
  have t1193 : τ 1193 = some (g 4) := i4
  have t1120 : τ 1120 = some (g 5) := i5
  have t1123 : τ 1123 = some (g 6) := i6
  have t1124 : τ 1124 = some (g 7) := i7
  have t1121 : τ 1121 = some (g 8) := i8
  have xm1 : g 9 = 13 := i9
  obtain ⟨c0, c1, c2, c3, c4, c5, c6, c7, _⟩ := hc
  have c0 : (-1) * g 5 + 1 * g 6 ≤ 0 := d2 c0
  have c1 : 1 * g 5 + (-1) * g 6 ≤ 0 := d2 c1
  have c2 : 1 * g 2 + (-1) * g 5 ≤ 0 := d2 c2
  have c3 : (-1) * g 2 + 1 * g 5 ≤ 0 := d2 c3
  have c4 : 1 * g 1 ≤ 12 := d1 c4
  have c5 : (-1) * g 1 ≤ (-12) := d1 c5
  have c6 : (-1) * g 7 ≤ (-48) := d1 c6
  have c7 : 1 * g 7 ≤ 51 := d1 c7
  obtain ⟨h0, k_tok, k_sc1, k_sc2, k_T, k_I, k_F, k_N, k_Y, k_Z, k_A, k_B, k_C, k_X, k_R, k_f4⟩ := hS (by rw [t1199]; exact fun e => by cases e)
  have k_T0 := k_T
  obtain ⟨h_T, h_TN, h_QZ⟩ := k_T0
  have k_I0 := k_I
  obtain ⟨h_p, h_pc, h_ip, h_iP, h_PC, h_PN⟩ := k_I0
  have k_Y0 := k_Y
  obtain ⟨h_Y0, h_Y⟩ := k_Y0
  obtain ⟨⟨hy1, hy2⟩, _⟩ := h_Y0 _ _ _ t1190 t1191 t1192
  obtain ⟨ry, hY1, hY2⟩ := h_Y _ _ _ _ t1190 t1191 t1192 t1193
  have hT0 := (h_T _ t1120).1
  have hcc := h_pc _ _ t1123 t1124
  rw [show (g 6).toNat = (g 2).toNat by omega] at hcc
  have hXL : ((tx9 m).2 : Int) = m 110 1 := by
    show (((m 110 1).toNat : Nat) : Int) = _
    omega
  rw [show (g 1).toNat = 12 by omega] at hY1
  have hN := h_TN _ _ t1120 t1121
  rw [show (g 5).toNat = (g 2).toNat by omega] at hN
  have hnL := nx_P (m := m) (p := (g 2).toNat) (by omega)
  obtain ⟨r2, hr2⟩ := RS9_ex (X := tx9 m) (w := wl9 m) (C := CM9 (tx9 m)) CM_ex (m := 13) (p := nx9t (tx9 m) (g 2).toNat) (by omega) (show nx9t (tx9 m) (g 2).toNat ≤ (m 110 1).toNat by omega)
  have er : r2 = ry := RS9.det CM_det (q_2 (act_r (a := 48) (b := 51) (v := true) (by decide) (by omega) (by omega) rc_le) hr2) hY1
  rw [er] at hr2
  exact ⟨rfl, trivial, trivial, fun _ => ⟨h0, k_tok, k_sc1, k_sc2, k_T, k_I, k_F, k_N, ⟨fun Ym Yp Y1 e0 e1 e2 => by
      have e0 : g 9 + 0 = Ym := Option.some.inj e0
      subst e0
      have e1 : g 8 + 0 = Yp := Option.some.inj e1
      subst e1
      have e2 : g 3 = Y1 := Option.some.inj (t1192.symm.trans e2)
      subst e2
      refine ⟨⟨⟨by omega, by omega⟩, ⟨by omega, by omega⟩⟩, ry, _, ?_, hY2⟩
      rw [show (g 8 + 0).toNat = nx9t (tx9 m) (g 2).toNat by omega, show (g 9 + 0).toNat = 13 by omega]
      exact hr2, fun Ym Yp Y1 Y2 e0 e1 e2 e3 => by
      have e0 : g 9 + 0 = Ym := Option.some.inj e0
      subst e0
      have e1 : g 8 + 0 = Yp := Option.some.inj e1
      subst e1
      have e2 : g 3 = Y1 := Option.some.inj (t1192.symm.trans e2)
      subst e2
      have e3 : g 4 = Y2 := Option.some.inj (t1193.symm.trans e3)
      subst e3
      refine ⟨ry, ?_, hY2⟩
      rw [show (g 8 + 0).toNat = nx9t (tx9 m) (g 2).toNat by omega, show (g 9 + 0).toNat = 13 by omega]
      exact hr2⟩, k_Z, k_A, k_B, k_C, k_X, k_R, k_f4⟩⟩
noncomputable def ru_y2x0 : Ru := ([(0, (1199, (0, (0, 0)))), (0, (1190, (0, (0, 0)))), (0, (1191, (0, (0, 0)))), (0, (1192, (0, (0, 0)))), (0, (1193, (0, (0, 0)))), (0, (1120, (0, (0, 0)))), (0, (1123, (0, (0, 0)))), (0, (1124, (0, (0, 0)))), (4, (0, (0, (13, 0))))], ([], ([([(5, (-1)), (6, 1)], 0), ([(5, 1), (6, (-1))], 0), ([(2, 1), (5, (-1))], 0), ([(2, (-1)), (5, 1)], 0), ([(1, 1)], 12), ([(1, (-1))], (-12)), ([(7, (-1))], 0), ([(7, 1)], 35)], (false, ([([(4, 1), (5, (-1))], 0), ([(4, (-1)), (5, 1)], 0), ([(3, 1)], (-1)), ([(3, (-1))], 1)], ([], ([], none)))))))
theorem rk_y2x0 : RuOk SR ru_y2x0 := by
  intro τ m g hi hc ha hS
  obtain ⟨i0, i1, i2, i3, i4, i5, i6, i7, i8, _⟩ := hi
  have t1199 : τ 1199 = some (g 0) := i0
  have t1190 : τ 1190 = some (g 1) := i1
  have t1191 : τ 1191 = some (g 2) := i2
  have t1192 : τ 1192 = some (g 3) := i3
  have t1193 : τ 1193 = some (g 4) := i4
  have t1120 : τ 1120 = some (g 5) := i5
  have t1123 : τ 1123 = some (g 6) := i6
  have t1124 : τ 1124 = some (g 7) := i7
  have xm1 : g 8 = 13 := i8
  obtain ⟨c0, c1, c2, c3, c4, c5, c6, c7, _⟩ := hc
  have c0 : (-1) * g 5 + 1 * g 6 ≤ 0 := d2 c0
  have c1 : 1 * g 5 + (-1) * g 6 ≤ 0 := d2 c1
  have c2 : 1 * g 2 + (-1) * g 5 ≤ 0 := d2 c2
  have c3 : (-1) * g 2 + 1 * g 5 ≤ 0 := d2 c3
  have c4 : 1 * g 1 ≤ 12 := d1 c4
  have c5 : (-1) * g 1 ≤ (-12) := d1 c5
  have c6 : (-1) * g 7 ≤ 0 := d1 c6
  have c7 : 1 * g 7 ≤ 35 := d1 c7
  obtain ⟨h0, k_tok, k_sc1, k_sc2, k_T, k_I, k_F, k_N, k_Y, k_Z, k_A, k_B, k_C, k_X, k_R, k_f4⟩ := hS (by rw [t1199]; exact fun e => by cases e)
  have k_T0 := k_T
  obtain ⟨h_T, h_TN, h_QZ⟩ := k_T0
  have k_I0 := k_I
  obtain ⟨h_p, h_pc, h_ip, h_iP, h_PC, h_PN⟩ := k_I0
  have k_Y0 := k_Y
  obtain ⟨h_Y0, h_Y⟩ := k_Y0
  obtain ⟨⟨hy1, hy2⟩, _⟩ := h_Y0 _ _ _ t1190 t1191 t1192
  obtain ⟨ry, hY1, hY2⟩ := h_Y _ _ _ _ t1190 t1191 t1192 t1193
  have hT0 := (h_T _ t1120).1
  have hcc := h_pc _ _ t1123 t1124
  rw [show (g 6).toNat = (g 2).toNat by omega] at hcc
  rw [show (g 1).toNat = 12 by omega] at hY1
  obtain ⟨y1, y2⟩ := hY2.2 (g 2).toNat (RS9.det CM_det hY1 (q_2x (act_r (a := 0) (b := 35) (v := false) (by decide) (by omega) (by omega) rc_le)))
  exact ⟨rfl, ⟨f2 (by omega), f2 (by omega), f1 (by omega), f1 (by omega), trivial⟩, trivial, fun _ => ⟨h0, k_tok, k_sc1, k_sc2, k_T, k_I, k_F, k_N, k_Y, k_Z, k_A, k_B, k_C, k_X, k_R, k_f4⟩⟩
noncomputable def ru_y2x1 : Ru := ([(0, (1199, (0, (0, 0)))), (0, (1190, (0, (0, 0)))), (0, (1191, (0, (0, 0)))), (0, (1192, (0, (0, 0)))), (0, (1193, (0, (0, 0)))), (0, (1120, (0, (0, 0)))), (0, (1123, (0, (0, 0)))), (0, (1124, (0, (0, 0)))), (4, (0, (0, (13, 0))))], ([], ([([(5, (-1)), (6, 1)], 0), ([(5, 1), (6, (-1))], 0), ([(2, 1), (5, (-1))], 0), ([(2, (-1)), (5, 1)], 0), ([(1, 1)], 12), ([(1, (-1))], (-12)), ([(7, (-1))], (-37)), ([(7, 1)], 42)], (false, ([([(4, 1), (5, (-1))], 0), ([(4, (-1)), (5, 1)], 0), ([(3, 1)], (-1)), ([(3, (-1))], 1)], ([], ([], none)))))))
theorem rk_y2x1 : RuOk SR ru_y2x1 := by
  intro τ m g hi hc ha hS
  obtain ⟨i0, i1, i2, i3, i4, i5, i6, i7, i8, _⟩ := hi
  have t1199 : τ 1199 = some (g 0) := i0
  have t1190 : τ 1190 = some (g 1) := i1
  have t1191 : τ 1191 = some (g 2) := i2
  have t1192 : τ 1192 = some (g 3) := i3
  have t1193 : τ 1193 = some (g 4) := i4
  have t1120 : τ 1120 = some (g 5) := i5
  have t1123 : τ 1123 = some (g 6) := i6
  have t1124 : τ 1124 = some (g 7) := i7
  have xm1 : g 8 = 13 := i8
  obtain ⟨c0, c1, c2, c3, c4, c5, c6, c7, _⟩ := hc
  have c0 : (-1) * g 5 + 1 * g 6 ≤ 0 := d2 c0
  have c1 : 1 * g 5 + (-1) * g 6 ≤ 0 := d2 c1
  have c2 : 1 * g 2 + (-1) * g 5 ≤ 0 := d2 c2
  have c3 : (-1) * g 2 + 1 * g 5 ≤ 0 := d2 c3
  have c4 : 1 * g 1 ≤ 12 := d1 c4
  have c5 : (-1) * g 1 ≤ (-12) := d1 c5
  have c6 : (-1) * g 7 ≤ (-37) := d1 c6
  have c7 : 1 * g 7 ≤ 42 := d1 c7
  obtain ⟨h0, k_tok, k_sc1, k_sc2, k_T, k_I, k_F, k_N, k_Y, k_Z, k_A, k_B, k_C, k_X, k_R, k_f4⟩ := hS (by rw [t1199]; exact fun e => by cases e)
  have k_T0 := k_T
  obtain ⟨h_T, h_TN, h_QZ⟩ := k_T0
  have k_I0 := k_I
  obtain ⟨h_p, h_pc, h_ip, h_iP, h_PC, h_PN⟩ := k_I0
  have k_Y0 := k_Y
  obtain ⟨h_Y0, h_Y⟩ := k_Y0
  obtain ⟨⟨hy1, hy2⟩, _⟩ := h_Y0 _ _ _ t1190 t1191 t1192
  obtain ⟨ry, hY1, hY2⟩ := h_Y _ _ _ _ t1190 t1191 t1192 t1193
  have hT0 := (h_T _ t1120).1
  have hcc := h_pc _ _ t1123 t1124
  rw [show (g 6).toNat = (g 2).toNat by omega] at hcc
  rw [show (g 1).toNat = 12 by omega] at hY1
  obtain ⟨y1, y2⟩ := hY2.2 (g 2).toNat (RS9.det CM_det hY1 (q_2x (act_r (a := 37) (b := 42) (v := false) (by decide) (by omega) (by omega) rc_le)))
  exact ⟨rfl, ⟨f2 (by omega), f2 (by omega), f1 (by omega), f1 (by omega), trivial⟩, trivial, fun _ => ⟨h0, k_tok, k_sc1, k_sc2, k_T, k_I, k_F, k_N, k_Y, k_Z, k_A, k_B, k_C, k_X, k_R, k_f4⟩⟩
noncomputable def ru_y2x2 : Ru := ([(0, (1199, (0, (0, 0)))), (0, (1190, (0, (0, 0)))), (0, (1191, (0, (0, 0)))), (0, (1192, (0, (0, 0)))), (0, (1193, (0, (0, 0)))), (0, (1120, (0, (0, 0)))), (0, (1123, (0, (0, 0)))), (0, (1124, (0, (0, 0)))), (4, (0, (0, (13, 0))))], ([], ([([(5, (-1)), (6, 1)], 0), ([(5, 1), (6, (-1))], 0), ([(2, 1), (5, (-1))], 0), ([(2, (-1)), (5, 1)], 0), ([(1, 1)], 12), ([(1, (-1))], (-12)), ([(7, (-1))], (-44)), ([(7, 1)], 45)], (false, ([([(4, 1), (5, (-1))], 0), ([(4, (-1)), (5, 1)], 0), ([(3, 1)], (-1)), ([(3, (-1))], 1)], ([], ([], none)))))))
theorem rk_y2x2 : RuOk SR ru_y2x2 := by
  intro τ m g hi hc ha hS
  obtain ⟨i0, i1, i2, i3, i4, i5, i6, i7, i8, _⟩ := hi
  have t1199 : τ 1199 = some (g 0) := i0
  have t1190 : τ 1190 = some (g 1) := i1
  have t1191 : τ 1191 = some (g 2) := i2
  have t1192 : τ 1192 = some (g 3) := i3
  have t1193 : τ 1193 = some (g 4) := i4
  have t1120 : τ 1120 = some (g 5) := i5
  have t1123 : τ 1123 = some (g 6) := i6
  have t1124 : τ 1124 = some (g 7) := i7
  have xm1 : g 8 = 13 := i8
  obtain ⟨c0, c1, c2, c3, c4, c5, c6, c7, _⟩ := hc
  have c0 : (-1) * g 5 + 1 * g 6 ≤ 0 := d2 c0
  have c1 : 1 * g 5 + (-1) * g 6 ≤ 0 := d2 c1
  have c2 : 1 * g 2 + (-1) * g 5 ≤ 0 := d2 c2
  have c3 : (-1) * g 2 + 1 * g 5 ≤ 0 := d2 c3
  have c4 : 1 * g 1 ≤ 12 := d1 c4
  have c5 : (-1) * g 1 ≤ (-12) := d1 c5
  have c6 : (-1) * g 7 ≤ (-44) := d1 c6
  have c7 : 1 * g 7 ≤ 45 := d1 c7
  obtain ⟨h0, k_tok, k_sc1, k_sc2, k_T, k_I, k_F, k_N, k_Y, k_Z, k_A, k_B, k_C, k_X, k_R, k_f4⟩ := hS (by rw [t1199]; exact fun e => by cases e)
  have k_T0 := k_T
  obtain ⟨h_T, h_TN, h_QZ⟩ := k_T0
  have k_I0 := k_I
  obtain ⟨h_p, h_pc, h_ip, h_iP, h_PC, h_PN⟩ := k_I0
  have k_Y0 := k_Y
  obtain ⟨h_Y0, h_Y⟩ := k_Y0
  obtain ⟨⟨hy1, hy2⟩, _⟩ := h_Y0 _ _ _ t1190 t1191 t1192
  obtain ⟨ry, hY1, hY2⟩ := h_Y _ _ _ _ t1190 t1191 t1192 t1193
  have hT0 := (h_T _ t1120).1
  have hcc := h_pc _ _ t1123 t1124
  rw [show (g 6).toNat = (g 2).toNat by omega] at hcc
  rw [show (g 1).toNat = 12 by omega] at hY1
  obtain ⟨y1, y2⟩ := hY2.2 (g 2).toNat (RS9.det CM_det hY1 (q_2x (act_r (a := 44) (b := 45) (v := false) (by decide) (by omega) (by omega) rc_le)))
  exact ⟨rfl, ⟨f2 (by omega), f2 (by omega), f1 (by omega), f1 (by omega), trivial⟩, trivial, fun _ => ⟨h0, k_tok, k_sc1, k_sc2, k_T, k_I, k_F, k_N, k_Y, k_Z, k_A, k_B, k_C, k_X, k_R, k_f4⟩⟩
noncomputable def ru_y2x3 : Ru := ([(0, (1199, (0, (0, 0)))), (0, (1190, (0, (0, 0)))), (0, (1191, (0, (0, 0)))), (0, (1192, (0, (0, 0)))), (0, (1193, (0, (0, 0)))), (0, (1120, (0, (0, 0)))), (0, (1123, (0, (0, 0)))), (0, (1124, (0, (0, 0)))), (4, (0, (0, (13, 0))))], ([], ([([(5, (-1)), (6, 1)], 0), ([(5, 1), (6, (-1))], 0), ([(2, 1), (5, (-1))], 0), ([(2, (-1)), (5, 1)], 0), ([(1, 1)], 12), ([(1, (-1))], (-12)), ([(7, (-1))], (-47)), ([(7, 1)], 47)], (false, ([([(4, 1), (5, (-1))], 0), ([(4, (-1)), (5, 1)], 0), ([(3, 1)], (-1)), ([(3, (-1))], 1)], ([], ([], none)))))))
theorem rk_y2x3 : RuOk SR ru_y2x3 := by
  intro τ m g hi hc ha hS
  obtain ⟨i0, i1, i2, i3, i4, i5, i6, i7, i8, _⟩ := hi
  have t1199 : τ 1199 = some (g 0) := i0
  have t1190 : τ 1190 = some (g 1) := i1
  have t1191 : τ 1191 = some (g 2) := i2
  have t1192 : τ 1192 = some (g 3) := i3
  have t1193 : τ 1193 = some (g 4) := i4
  have t1120 : τ 1120 = some (g 5) := i5
  have t1123 : τ 1123 = some (g 6) := i6
  have t1124 : τ 1124 = some (g 7) := i7
  have xm1 : g 8 = 13 := i8
  obtain ⟨c0, c1, c2, c3, c4, c5, c6, c7, _⟩ := hc
  have c0 : (-1) * g 5 + 1 * g 6 ≤ 0 := d2 c0
  have c1 : 1 * g 5 + (-1) * g 6 ≤ 0 := d2 c1
  have c2 : 1 * g 2 + (-1) * g 5 ≤ 0 := d2 c2
  have c3 : (-1) * g 2 + 1 * g 5 ≤ 0 := d2 c3
  have c4 : 1 * g 1 ≤ 12 := d1 c4
  have c5 : (-1) * g 1 ≤ (-12) := d1 c5
  have c6 : (-1) * g 7 ≤ (-47) := d1 c6
  have c7 : 1 * g 7 ≤ 47 := d1 c7
  obtain ⟨h0, k_tok, k_sc1, k_sc2, k_T, k_I, k_F, k_N, k_Y, k_Z, k_A, k_B, k_C, k_X, k_R, k_f4⟩ := hS (by rw [t1199]; exact fun e => by cases e)
  have k_T0 := k_T
  obtain ⟨h_T, h_TN, h_QZ⟩ := k_T0
  have k_I0 := k_I
  obtain ⟨h_p, h_pc, h_ip, h_iP, h_PC, h_PN⟩ := k_I0
  have k_Y0 := k_Y
  obtain ⟨h_Y0, h_Y⟩ := k_Y0
  obtain ⟨⟨hy1, hy2⟩, _⟩ := h_Y0 _ _ _ t1190 t1191 t1192
  obtain ⟨ry, hY1, hY2⟩ := h_Y _ _ _ _ t1190 t1191 t1192 t1193
  have hT0 := (h_T _ t1120).1
  have hcc := h_pc _ _ t1123 t1124
  rw [show (g 6).toNat = (g 2).toNat by omega] at hcc
  rw [show (g 1).toNat = 12 by omega] at hY1
  obtain ⟨y1, y2⟩ := hY2.2 (g 2).toNat (RS9.det CM_det hY1 (q_2x (act_r (a := 47) (b := 47) (v := false) (by decide) (by omega) (by omega) rc_le)))
  exact ⟨rfl, ⟨f2 (by omega), f2 (by omega), f1 (by omega), f1 (by omega), trivial⟩, trivial, fun _ => ⟨h0, k_tok, k_sc1, k_sc2, k_T, k_I, k_F, k_N, k_Y, k_Z, k_A, k_B, k_C, k_X, k_R, k_f4⟩⟩
noncomputable def ru_y3a : Ru := ([(0, (1199, (0, (0, 0)))), (0, (1190, (0, (0, 0)))), (0, (1191, (0, (0, 0)))), (0, (1192, (0, (0, 0)))), (0, (1193, (0, (0, 0)))), (0, (1120, (0, (0, 0)))), (0, (1123, (0, (0, 0)))), (0, (1124, (0, (0, 0)))), (0, (1121, (0, (0, 0)))), (4, (0, (0, (14, 0))))], ([], ([([(5, (-1)), (6, 1)], 0), ([(5, 1), (6, (-1))], 0), ([(2, 1), (5, (-1))], 0), ([(2, (-1)), (5, 1)], 0), ([(1, 1)], 13), ([(1, (-1))], (-13)), ([(7, 1)], 34), ([(7, (-1))], (-34))], (false, ([], ([], ([(1190, some (9, 0)), (1191, some (8, 0))], none)))))))
theorem rk_y3a : RuOk SR ru_y3a := by
  intro τ m g hi hc ha hS
  obtain ⟨i0, i1, i2, i3, i4, i5, i6, i7, i8, i9, _⟩ := hi
  have t1199 : τ 1199 = some (g 0) := i0
  have t1190 : τ 1190 = some (g 1) := i1
  have t1191 : τ 1191 = some (g 2) := i2
  have t1192 : τ 1192 = some (g 3) := i3
  have t1193 : τ 1193 = some (g 4) := i4
  have t1120 : τ 1120 = some (g 5) := i5
  have t1123 : τ 1123 = some (g 6) := i6
  have t1124 : τ 1124 = some (g 7) := i7
  have t1121 : τ 1121 = some (g 8) := i8
  have xm1 : g 9 = 14 := i9
  obtain ⟨c0, c1, c2, c3, c4, c5, c6, c7, _⟩ := hc
  have c0 : (-1) * g 5 + 1 * g 6 ≤ 0 := d2 c0
  have c1 : 1 * g 5 + (-1) * g 6 ≤ 0 := d2 c1
  have c2 : 1 * g 2 + (-1) * g 5 ≤ 0 := d2 c2
  have c3 : (-1) * g 2 + 1 * g 5 ≤ 0 := d2 c3
  have c4 : 1 * g 1 ≤ 13 := d1 c4
  have c5 : (-1) * g 1 ≤ (-13) := d1 c5
  have c6 : 1 * g 7 ≤ 34 := d1 c6
  have c7 : (-1) * g 7 ≤ (-34) := d1 c7
  obtain ⟨h0, k_tok, k_sc1, k_sc2, k_T, k_I, k_F, k_N, k_Y, k_Z, k_A, k_B, k_C, k_X, k_R, k_f4⟩ := hS (by rw [t1199]; exact fun e => by cases e)
  have k_T0 := k_T
  obtain ⟨h_T, h_TN, h_QZ⟩ := k_T0
  have k_I0 := k_I
  obtain ⟨h_p, h_pc, h_ip, h_iP, h_PC, h_PN⟩ := k_I0
  have k_Y0 := k_Y
  obtain ⟨h_Y0, h_Y⟩ := k_Y0
  obtain ⟨⟨hy1, hy2⟩, _⟩ := h_Y0 _ _ _ t1190 t1191 t1192
  obtain ⟨ry, hY1, hY2⟩ := h_Y _ _ _ _ t1190 t1191 t1192 t1193
  have hT0 := (h_T _ t1120).1
  have hcc := h_pc _ _ t1123 t1124
  rw [show (g 6).toNat = (g 2).toNat by omega] at hcc
  have hXL : ((tx9 m).2 : Int) = m 110 1 := by
    show (((m 110 1).toNat : Nat) : Int) = _
    omega
  rw [show (g 1).toNat = 13 by omega] at hY1
  have hN := h_TN _ _ t1120 t1121
  rw [show (g 5).toNat = (g 2).toNat by omega] at hN
  have hnL := nx_P (m := m) (p := (g 2).toNat) (by omega)
  obtain ⟨r2, hr2⟩ := RS9_ex (X := tx9 m) (w := wl9 m) (C := CM9 (tx9 m)) CM_ex (m := 14) (p := nx9t (tx9 m) (g 2).toNat) (by omega) (show nx9t (tx9 m) (g 2).toNat ≤ (m 110 1).toNat by omega)
  have er : r2 = ry := RS9.det CM_det (q_3a (by omega) hr2) hY1
  rw [er] at hr2
  exact ⟨rfl, trivial, trivial, fun _ => ⟨h0, k_tok, k_sc1, k_sc2, k_T, k_I, k_F, k_N, ⟨fun Ym Yp Y1 e0 e1 e2 => by
      have e0 : g 9 + 0 = Ym := Option.some.inj e0
      subst e0
      have e1 : g 8 + 0 = Yp := Option.some.inj e1
      subst e1
      have e2 : g 3 = Y1 := Option.some.inj (t1192.symm.trans e2)
      subst e2
      refine ⟨⟨⟨by omega, by omega⟩, ⟨by omega, by omega⟩⟩, ry, _, ?_, hY2⟩
      rw [show (g 8 + 0).toNat = nx9t (tx9 m) (g 2).toNat by omega, show (g 9 + 0).toNat = 14 by omega]
      exact hr2, fun Ym Yp Y1 Y2 e0 e1 e2 e3 => by
      have e0 : g 9 + 0 = Ym := Option.some.inj e0
      subst e0
      have e1 : g 8 + 0 = Yp := Option.some.inj e1
      subst e1
      have e2 : g 3 = Y1 := Option.some.inj (t1192.symm.trans e2)
      subst e2
      have e3 : g 4 = Y2 := Option.some.inj (t1193.symm.trans e3)
      subst e3
      refine ⟨ry, ?_, hY2⟩
      rw [show (g 8 + 0).toNat = nx9t (tx9 m) (g 2).toNat by omega, show (g 9 + 0).toNat = 14 by omega]
      exact hr2⟩, k_Z, k_A, k_B, k_C, k_X, k_R, k_f4⟩⟩
noncomputable def ru_y3x1 : Ru := ([(0, (1199, (0, (0, 0)))), (0, (1190, (0, (0, 0)))), (0, (1191, (0, (0, 0)))), (0, (1192, (0, (0, 0)))), (0, (1193, (0, (0, 0)))), (0, (1120, (0, (0, 0)))), (0, (1123, (0, (0, 0)))), (0, (1124, (0, (0, 0)))), (4, (0, (0, (14, 0)))), (0, (1184, (0, (0, 0)))), (0, (1185, (0, (0, 0)))), (0, (1186, (0, (0, 0))))], ([], ([([(5, (-1)), (6, 1)], 0), ([(5, 1), (6, (-1))], 0), ([(2, 1), (5, (-1))], 0), ([(2, (-1)), (5, 1)], 0), ([(1, 1)], 13), ([(1, (-1))], (-13)), ([(5, (-1)), (9, 1)], 0), ([(5, 1), (9, (-1))], 0), ([(10, 1)], 116), ([(10, (-1))], (-116)), ([(7, 1)], 33), ([(11, 1)], (-1))], (false, ([([(4, 1), (5, (-1))], 0), ([(4, (-1)), (5, 1)], 0), ([(3, 1)], (-1)), ([(3, (-1))], 1)], ([], ([], none)))))))
theorem rk_y3x1 : RuOk SR ru_y3x1 := by
  intro τ m g hi hc ha hS
  obtain ⟨i0, i1, i2, i3, i4, i5, i6, i7, i8, i9, i10, i11, _⟩ := hi
  have t1199 : τ 1199 = some (g 0) := i0
  have t1190 : τ 1190 = some (g 1) := i1
  have t1191 : τ 1191 = some (g 2) := i2
  have t1192 : τ 1192 = some (g 3) := i3
  have t1193 : τ 1193 = some (g 4) := i4
  have t1120 : τ 1120 = some (g 5) := i5
  have t1123 : τ 1123 = some (g 6) := i6
  have t1124 : τ 1124 = some (g 7) := i7
  have xm1 : g 8 = 14 := i8
  have t1184 : τ 1184 = some (g 9) := i9
  have t1185 : τ 1185 = some (g 10) := i10
  have t1186 : τ 1186 = some (g 11) := i11
  obtain ⟨c0, c1, c2, c3, c4, c5, c6, c7, c8, c9, c10, c11, _⟩ := hc
  have c0 : (-1) * g 5 + 1 * g 6 ≤ 0 := d2 c0
  have c1 : 1 * g 5 + (-1) * g 6 ≤ 0 := d2 c1
  have c2 : 1 * g 2 + (-1) * g 5 ≤ 0 := d2 c2
  have c3 : (-1) * g 2 + 1 * g 5 ≤ 0 := d2 c3
  have c4 : 1 * g 1 ≤ 13 := d1 c4
  have c5 : (-1) * g 1 ≤ (-13) := d1 c5
  have c6 : (-1) * g 5 + 1 * g 9 ≤ 0 := d2 c6
  have c7 : 1 * g 5 + (-1) * g 9 ≤ 0 := d2 c7
  have c8 : 1 * g 10 ≤ 116 := d1 c8
  have c9 : (-1) * g 10 ≤ (-116) := d1 c9
  have c10 : 1 * g 7 ≤ 33 := d1 c10
  have c11 : 1 * g 11 ≤ (-1) := d1 c11
  obtain ⟨h0, k_tok, k_sc1, k_sc2, k_T, k_I, k_F, k_N, k_Y, k_Z, k_A, k_B, k_C, k_X, k_R, k_f4⟩ := hS (by rw [t1199]; exact fun e => by cases e)
  have k_T0 := k_T
  obtain ⟨h_T, h_TN, h_QZ⟩ := k_T0
  have k_I0 := k_I
  obtain ⟨h_p, h_pc, h_ip, h_iP, h_PC, h_PN⟩ := k_I0
  have k_N0 := k_N
  obtain ⟨h_N, h_Nk, h_V, h_Yq⟩ := k_N0
  have k_Y0 := k_Y
  obtain ⟨h_Y0, h_Y⟩ := k_Y0
  obtain ⟨⟨hy1, hy2⟩, _⟩ := h_Y0 _ _ _ t1190 t1191 t1192
  obtain ⟨ry, hY1, hY2⟩ := h_Y _ _ _ _ t1190 t1191 t1192 t1193
  have hT0 := (h_T _ t1120).1
  have hcc := h_pc _ _ t1123 t1124
  rw [show (g 6).toNat = (g 2).toNat by omega] at hcc
  have hv2 := (h_N _ _ _ t1184 t1185 t1186).2
  rw [show (g 9).toNat = (g 2).toNat by omega, show g 10 = 116 by omega] at hv2
  rw [show (g 1).toNat = 13 by omega] at hY1
  obtain ⟨y1, y2⟩ := hY2.2 (g 2).toNat (RS9.det CM_det hY1 (q_3x (by omega) (fun z => by omega)))
  exact ⟨rfl, ⟨f2 (by omega), f2 (by omega), f1 (by omega), f1 (by omega), trivial⟩, trivial, fun _ => ⟨h0, k_tok, k_sc1, k_sc2, k_T, k_I, k_F, k_N, k_Y, k_Z, k_A, k_B, k_C, k_X, k_R, k_f4⟩⟩
noncomputable def ru_y3y1 : Ru := ([(0, (1199, (0, (0, 0)))), (0, (1190, (0, (0, 0)))), (0, (1191, (0, (0, 0)))), (0, (1192, (0, (0, 0)))), (0, (1193, (0, (0, 0)))), (0, (1120, (0, (0, 0)))), (0, (1123, (0, (0, 0)))), (0, (1124, (0, (0, 0)))), (4, (0, (0, (14, 0)))), (0, (1184, (0, (0, 0)))), (0, (1185, (0, (0, 0)))), (0, (1186, (0, (0, 0)))), (5, (110, (20, (0, 0))))], ([], ([([(5, (-1)), (6, 1)], 0), ([(5, 1), (6, (-1))], 0), ([(2, 1), (5, (-1))], 0), ([(2, (-1)), (5, 1)], 0), ([(1, 1)], 13), ([(1, (-1))], (-13)), ([(5, (-1)), (9, 1)], 0), ([(5, 1), (9, (-1))], 0), ([(10, 1)], 116), ([(10, (-1))], (-116)), ([(7, 1)], 33), ([(11, (-1)), (12, 1)], 0)], (false, ([([(4, 1), (5, (-1))], 0), ([(4, (-1)), (5, 1)], 0), ([(3, 1)], (-1)), ([(3, (-1))], 1)], ([], ([], none)))))))
theorem rk_y3y1 : RuOk SR ru_y3y1 := by
  intro τ m g hi hc ha hS
  obtain ⟨i0, i1, i2, i3, i4, i5, i6, i7, i8, i9, i10, i11, i12, _⟩ := hi
  have t1199 : τ 1199 = some (g 0) := i0
  have t1190 : τ 1190 = some (g 1) := i1
  have t1191 : τ 1191 = some (g 2) := i2
  have t1192 : τ 1192 = some (g 3) := i3
  have t1193 : τ 1193 = some (g 4) := i4
  have t1120 : τ 1120 = some (g 5) := i5
  have t1123 : τ 1123 = some (g 6) := i6
  have t1124 : τ 1124 = some (g 7) := i7
  have xm1 : g 8 = 14 := i8
  have t1184 : τ 1184 = some (g 9) := i9
  have t1185 : τ 1185 = some (g 10) := i10
  have t1186 : τ 1186 = some (g 11) := i11
  have xht : g 12 = m 110 20 := i12
  obtain ⟨c0, c1, c2, c3, c4, c5, c6, c7, c8, c9, c10, c11, _⟩ := hc
  have c0 : (-1) * g 5 + 1 * g 6 ≤ 0 := d2 c0
  have c1 : 1 * g 5 + (-1) * g 6 ≤ 0 := d2 c1
  have c2 : 1 * g 2 + (-1) * g 5 ≤ 0 := d2 c2
  have c3 : (-1) * g 2 + 1 * g 5 ≤ 0 := d2 c3
  have c4 : 1 * g 1 ≤ 13 := d1 c4
  have c5 : (-1) * g 1 ≤ (-13) := d1 c5
  have c6 : (-1) * g 5 + 1 * g 9 ≤ 0 := d2 c6
  have c7 : 1 * g 5 + (-1) * g 9 ≤ 0 := d2 c7
  have c8 : 1 * g 10 ≤ 116 := d1 c8
  have c9 : (-1) * g 10 ≤ (-116) := d1 c9
  have c10 : 1 * g 7 ≤ 33 := d1 c10
  have c11 : (-1) * g 11 + 1 * g 12 ≤ 0 := d2 c11
  obtain ⟨h0, k_tok, k_sc1, k_sc2, k_T, k_I, k_F, k_N, k_Y, k_Z, k_A, k_B, k_C, k_X, k_R, k_f4⟩ := hS (by rw [t1199]; exact fun e => by cases e)
  have k_T0 := k_T
  obtain ⟨h_T, h_TN, h_QZ⟩ := k_T0
  have k_I0 := k_I
  obtain ⟨h_p, h_pc, h_ip, h_iP, h_PC, h_PN⟩ := k_I0
  have k_N0 := k_N
  obtain ⟨h_N, h_Nk, h_V, h_Yq⟩ := k_N0
  have k_Y0 := k_Y
  obtain ⟨h_Y0, h_Y⟩ := k_Y0
  obtain ⟨⟨hy1, hy2⟩, _⟩ := h_Y0 _ _ _ t1190 t1191 t1192
  obtain ⟨ry, hY1, hY2⟩ := h_Y _ _ _ _ t1190 t1191 t1192 t1193
  have hT0 := (h_T _ t1120).1
  have hcc := h_pc _ _ t1123 t1124
  rw [show (g 6).toNat = (g 2).toNat by omega] at hcc
  have hv2 := (h_N _ _ _ t1184 t1185 t1186).2
  rw [show (g 9).toNat = (g 2).toNat by omega, show g 10 = 116 by omega] at hv2
  rw [show (g 1).toNat = 13 by omega] at hY1
  obtain ⟨y1, y2⟩ := hY2.2 (g 2).toNat (RS9.det CM_det hY1 (q_3x (by omega) (fun z => by have z3 := of_decide_eq_true ((Bool.and_eq_true _ _).mp z.2).1; have z3 : nb9 (tx9 m) _ 116 < m 110 20 := z3; omega)))
  exact ⟨rfl, ⟨f2 (by omega), f2 (by omega), f1 (by omega), f1 (by omega), trivial⟩, trivial, fun _ => ⟨h0, k_tok, k_sc1, k_sc2, k_T, k_I, k_F, k_N, k_Y, k_Z, k_A, k_B, k_C, k_X, k_R, k_f4⟩⟩
noncomputable def ru_y3z1 : Ru := ([(0, (1199, (0, (0, 0)))), (0, (1190, (0, (0, 0)))), (0, (1191, (0, (0, 0)))), (0, (1192, (0, (0, 0)))), (0, (1193, (0, (0, 0)))), (0, (1120, (0, (0, 0)))), (0, (1123, (0, (0, 0)))), (0, (1124, (0, (0, 0)))), (4, (0, (0, (14, 0)))), (0, (1184, (0, (0, 0)))), (0, (1185, (0, (0, 0)))), (0, (1186, (0, (0, 0)))), (6, (128, (11, (0, 0))))], ([], ([([(5, (-1)), (6, 1)], 0), ([(5, 1), (6, (-1))], 0), ([(2, 1), (5, (-1))], 0), ([(2, (-1)), (5, 1)], 0), ([(1, 1)], 13), ([(1, (-1))], (-13)), ([(5, (-1)), (9, 1)], 0), ([(5, 1), (9, (-1))], 0), ([(10, 1)], 116), ([(10, (-1))], (-116)), ([(7, 1)], 33), ([(11, (-1))], 0), ([(12, (-1))], (-1))], (false, ([([(4, 1), (5, (-1))], 0), ([(4, (-1)), (5, 1)], 0), ([(3, 1)], (-1)), ([(3, (-1))], 1)], ([], ([], none)))))))
theorem rk_y3z1 : RuOk SR ru_y3z1 := by
  intro τ m g hi hc ha hS
  obtain ⟨i0, i1, i2, i3, i4, i5, i6, i7, i8, i9, i10, i11, i12, _⟩ := hi
  have t1199 : τ 1199 = some (g 0) := i0
  have t1190 : τ 1190 = some (g 1) := i1
  have t1191 : τ 1191 = some (g 2) := i2
  have t1192 : τ 1192 = some (g 3) := i3
  have t1193 : τ 1193 = some (g 4) := i4
  have t1120 : τ 1120 = some (g 5) := i5
  have t1123 : τ 1123 = some (g 6) := i6
  have t1124 : τ 1124 = some (g 7) := i7
  have xm1 : g 8 = 14 := i8
  have t1184 : τ 1184 = some (g 9) := i9
  have t1185 : τ 1185 = some (g 10) := i10
  have t1186 : τ 1186 = some (g 11) := i11
  obtain ⟨jgn, ugn, vgn⟩ : ∃ j : Nat, g 11 = (j : Int) ∧ g 12 = m 128 j := i12
  obtain ⟨c0, c1, c2, c3, c4, c5, c6, c7, c8, c9, c10, c11, c12, _⟩ := hc
  have c0 : (-1) * g 5 + 1 * g 6 ≤ 0 := d2 c0
  have c1 : 1 * g 5 + (-1) * g 6 ≤ 0 := d2 c1
  have c2 : 1 * g 2 + (-1) * g 5 ≤ 0 := d2 c2
  have c3 : (-1) * g 2 + 1 * g 5 ≤ 0 := d2 c3
  have c4 : 1 * g 1 ≤ 13 := d1 c4
  have c5 : (-1) * g 1 ≤ (-13) := d1 c5
  have c6 : (-1) * g 5 + 1 * g 9 ≤ 0 := d2 c6
  have c7 : 1 * g 5 + (-1) * g 9 ≤ 0 := d2 c7
  have c8 : 1 * g 10 ≤ 116 := d1 c8
  have c9 : (-1) * g 10 ≤ (-116) := d1 c9
  have c10 : 1 * g 7 ≤ 33 := d1 c10
  have c11 : (-1) * g 11 ≤ 0 := d1 c11
  have c12 : (-1) * g 12 ≤ (-1) := d1 c12
  obtain ⟨h0, k_tok, k_sc1, k_sc2, k_T, k_I, k_F, k_N, k_Y, k_Z, k_A, k_B, k_C, k_X, k_R, k_f4⟩ := hS (by rw [t1199]; exact fun e => by cases e)
  have k_T0 := k_T
  obtain ⟨h_T, h_TN, h_QZ⟩ := k_T0
  have k_I0 := k_I
  obtain ⟨h_p, h_pc, h_ip, h_iP, h_PC, h_PN⟩ := k_I0
  have k_N0 := k_N
  obtain ⟨h_N, h_Nk, h_V, h_Yq⟩ := k_N0
  have k_Y0 := k_Y
  obtain ⟨h_Y0, h_Y⟩ := k_Y0
  obtain ⟨⟨hy1, hy2⟩, _⟩ := h_Y0 _ _ _ t1190 t1191 t1192
  obtain ⟨ry, hY1, hY2⟩ := h_Y _ _ _ _ t1190 t1191 t1192 t1193
  have hT0 := (h_T _ t1120).1
  have hcc := h_pc _ _ t1123 t1124
  rw [show (g 6).toNat = (g 2).toNat by omega] at hcc
  have hv2 := (h_N _ _ _ t1184 t1185 t1186).2
  rw [show (g 9).toNat = (g 2).toNat by omega, show g 10 = 116 by omega] at hv2
  rw [show (g 1).toNat = 13 by omega] at hY1
  obtain ⟨y1, y2⟩ := hY2.2 (g 2).toNat (RS9.det CM_det hY1 (q_3x (by omega) (fun z => by have z3 := of_decide_eq_true ((Bool.and_eq_true _ _).mp z.2).2; have z3 : m 128 (nb9 (tx9 m) _ 116).toNat ≤ 0 := z3; rw [← hv2, show (g 11).toNat = jgn by omega] at z3; omega)))
  exact ⟨rfl, ⟨f2 (by omega), f2 (by omega), f1 (by omega), f1 (by omega), trivial⟩, trivial, fun _ => ⟨h0, k_tok, k_sc1, k_sc2, k_T, k_I, k_F, k_N, k_Y, k_Z, k_A, k_B, k_C, k_X, k_R, k_f4⟩⟩
noncomputable def ru_y3x2 : Ru := ([(0, (1199, (0, (0, 0)))), (0, (1190, (0, (0, 0)))), (0, (1191, (0, (0, 0)))), (0, (1192, (0, (0, 0)))), (0, (1193, (0, (0, 0)))), (0, (1120, (0, (0, 0)))), (0, (1123, (0, (0, 0)))), (0, (1124, (0, (0, 0)))), (4, (0, (0, (14, 0)))), (0, (1184, (0, (0, 0)))), (0, (1185, (0, (0, 0)))), (0, (1186, (0, (0, 0))))], ([], ([([(5, (-1)), (6, 1)], 0), ([(5, 1), (6, (-1))], 0), ([(2, 1), (5, (-1))], 0), ([(2, (-1)), (5, 1)], 0), ([(1, 1)], 13), ([(1, (-1))], (-13)), ([(5, (-1)), (9, 1)], 0), ([(5, 1), (9, (-1))], 0), ([(10, 1)], 116), ([(10, (-1))], (-116)), ([(7, (-1))], (-35)), ([(11, 1)], (-1))], (false, ([([(4, 1), (5, (-1))], 0), ([(4, (-1)), (5, 1)], 0), ([(3, 1)], (-1)), ([(3, (-1))], 1)], ([], ([], none)))))))
theorem rk_y3x2 : RuOk SR ru_y3x2 := by
  intro τ m g hi hc ha hS
  obtain ⟨i0, i1, i2, i3, i4, i5, i6, i7, i8, i9, i10, i11, _⟩ := hi
  have t1199 : τ 1199 = some (g 0) := i0
  have t1190 : τ 1190 = some (g 1) := i1
  have t1191 : τ 1191 = some (g 2) := i2
  have t1192 : τ 1192 = some (g 3) := i3
  have t1193 : τ 1193 = some (g 4) := i4
  have t1120 : τ 1120 = some (g 5) := i5
  have t1123 : τ 1123 = some (g 6) := i6
  have t1124 : τ 1124 = some (g 7) := i7
  have xm1 : g 8 = 14 := i8
  have t1184 : τ 1184 = some (g 9) := i9
  have t1185 : τ 1185 = some (g 10) := i10
  have t1186 : τ 1186 = some (g 11) := i11
  obtain ⟨c0, c1, c2, c3, c4, c5, c6, c7, c8, c9, c10, c11, _⟩ := hc
  have c0 : (-1) * g 5 + 1 * g 6 ≤ 0 := d2 c0
  have c1 : 1 * g 5 + (-1) * g 6 ≤ 0 := d2 c1
  have c2 : 1 * g 2 + (-1) * g 5 ≤ 0 := d2 c2
  have c3 : (-1) * g 2 + 1 * g 5 ≤ 0 := d2 c3
  have c4 : 1 * g 1 ≤ 13 := d1 c4
  have c5 : (-1) * g 1 ≤ (-13) := d1 c5
  have c6 : (-1) * g 5 + 1 * g 9 ≤ 0 := d2 c6
  have c7 : 1 * g 5 + (-1) * g 9 ≤ 0 := d2 c7
  have c8 : 1 * g 10 ≤ 116 := d1 c8
  have c9 : (-1) * g 10 ≤ (-116) := d1 c9
  have c10 : (-1) * g 7 ≤ (-35) := d1 c10
  have c11 : 1 * g 11 ≤ (-1) := d1 c11
  obtain ⟨h0, k_tok, k_sc1, k_sc2, k_T, k_I, k_F, k_N, k_Y, k_Z, k_A, k_B, k_C, k_X, k_R, k_f4⟩ := hS (by rw [t1199]; exact fun e => by cases e)
  have k_T0 := k_T
  obtain ⟨h_T, h_TN, h_QZ⟩ := k_T0
  have k_I0 := k_I
  obtain ⟨h_p, h_pc, h_ip, h_iP, h_PC, h_PN⟩ := k_I0
  have k_N0 := k_N
  obtain ⟨h_N, h_Nk, h_V, h_Yq⟩ := k_N0
  have k_Y0 := k_Y
  obtain ⟨h_Y0, h_Y⟩ := k_Y0
  obtain ⟨⟨hy1, hy2⟩, _⟩ := h_Y0 _ _ _ t1190 t1191 t1192
  obtain ⟨ry, hY1, hY2⟩ := h_Y _ _ _ _ t1190 t1191 t1192 t1193
  have hT0 := (h_T _ t1120).1
  have hcc := h_pc _ _ t1123 t1124
  rw [show (g 6).toNat = (g 2).toNat by omega] at hcc
  have hv2 := (h_N _ _ _ t1184 t1185 t1186).2
  rw [show (g 9).toNat = (g 2).toNat by omega, show g 10 = 116 by omega] at hv2
  rw [show (g 1).toNat = 13 by omega] at hY1
  obtain ⟨y1, y2⟩ := hY2.2 (g 2).toNat (RS9.det CM_det hY1 (q_3x (by omega) (fun z => by omega)))
  exact ⟨rfl, ⟨f2 (by omega), f2 (by omega), f1 (by omega), f1 (by omega), trivial⟩, trivial, fun _ => ⟨h0, k_tok, k_sc1, k_sc2, k_T, k_I, k_F, k_N, k_Y, k_Z, k_A, k_B, k_C, k_X, k_R, k_f4⟩⟩
noncomputable def ru_y3y2 : Ru := ([(0, (1199, (0, (0, 0)))), (0, (1190, (0, (0, 0)))), (0, (1191, (0, (0, 0)))), (0, (1192, (0, (0, 0)))), (0, (1193, (0, (0, 0)))), (0, (1120, (0, (0, 0)))), (0, (1123, (0, (0, 0)))), (0, (1124, (0, (0, 0)))), (4, (0, (0, (14, 0)))), (0, (1184, (0, (0, 0)))), (0, (1185, (0, (0, 0)))), (0, (1186, (0, (0, 0)))), (5, (110, (20, (0, 0))))], ([], ([([(5, (-1)), (6, 1)], 0), ([(5, 1), (6, (-1))], 0), ([(2, 1), (5, (-1))], 0), ([(2, (-1)), (5, 1)], 0), ([(1, 1)], 13), ([(1, (-1))], (-13)), ([(5, (-1)), (9, 1)], 0), ([(5, 1), (9, (-1))], 0), ([(10, 1)], 116), ([(10, (-1))], (-116)), ([(7, (-1))], (-35)), ([(11, (-1)), (12, 1)], 0)], (false, ([([(4, 1), (5, (-1))], 0), ([(4, (-1)), (5, 1)], 0), ([(3, 1)], (-1)), ([(3, (-1))], 1)], ([], ([], none)))))))
theorem rk_y3y2 : RuOk SR ru_y3y2 := by
  intro τ m g hi hc ha hS
  obtain ⟨i0, i1, i2, i3, i4, i5, i6, i7, i8, i9, i10, i11, i12, _⟩ := hi
  have t1199 : τ 1199 = some (g 0) := i0
  have t1190 : τ 1190 = some (g 1) := i1
  have t1191 : τ 1191 = some (g 2) := i2
  have t1192 : τ 1192 = some (g 3) := i3
  have t1193 : τ 1193 = some (g 4) := i4
  have t1120 : τ 1120 = some (g 5) := i5
  have t1123 : τ 1123 = some (g 6) := i6
  have t1124 : τ 1124 = some (g 7) := i7
  have xm1 : g 8 = 14 := i8
  have t1184 : τ 1184 = some (g 9) := i9
  have t1185 : τ 1185 = some (g 10) := i10
  have t1186 : τ 1186 = some (g 11) := i11
  have xht : g 12 = m 110 20 := i12
  obtain ⟨c0, c1, c2, c3, c4, c5, c6, c7, c8, c9, c10, c11, _⟩ := hc
  have c0 : (-1) * g 5 + 1 * g 6 ≤ 0 := d2 c0
  have c1 : 1 * g 5 + (-1) * g 6 ≤ 0 := d2 c1
  have c2 : 1 * g 2 + (-1) * g 5 ≤ 0 := d2 c2
  have c3 : (-1) * g 2 + 1 * g 5 ≤ 0 := d2 c3
  have c4 : 1 * g 1 ≤ 13 := d1 c4
  have c5 : (-1) * g 1 ≤ (-13) := d1 c5
  have c6 : (-1) * g 5 + 1 * g 9 ≤ 0 := d2 c6
  have c7 : 1 * g 5 + (-1) * g 9 ≤ 0 := d2 c7
  have c8 : 1 * g 10 ≤ 116 := d1 c8
  have c9 : (-1) * g 10 ≤ (-116) := d1 c9
  have c10 : (-1) * g 7 ≤ (-35) := d1 c10
  have c11 : (-1) * g 11 + 1 * g 12 ≤ 0 := d2 c11
  obtain ⟨h0, k_tok, k_sc1, k_sc2, k_T, k_I, k_F, k_N, k_Y, k_Z, k_A, k_B, k_C, k_X, k_R, k_f4⟩ := hS (by rw [t1199]; exact fun e => by cases e)
  have k_T0 := k_T
  obtain ⟨h_T, h_TN, h_QZ⟩ := k_T0
  have k_I0 := k_I
  obtain ⟨h_p, h_pc, h_ip, h_iP, h_PC, h_PN⟩ := k_I0
  have k_N0 := k_N
  obtain ⟨h_N, h_Nk, h_V, h_Yq⟩ := k_N0
  have k_Y0 := k_Y
  obtain ⟨h_Y0, h_Y⟩ := k_Y0
  obtain ⟨⟨hy1, hy2⟩, _⟩ := h_Y0 _ _ _ t1190 t1191 t1192
  obtain ⟨ry, hY1, hY2⟩ := h_Y _ _ _ _ t1190 t1191 t1192 t1193
  have hT0 := (h_T _ t1120).1
  have hcc := h_pc _ _ t1123 t1124
  rw [show (g 6).toNat = (g 2).toNat by omega] at hcc
  have hv2 := (h_N _ _ _ t1184 t1185 t1186).2
  rw [show (g 9).toNat = (g 2).toNat by omega, show g 10 = 116 by omega] at hv2
  rw [show (g 1).toNat = 13 by omega] at hY1
  obtain ⟨y1, y2⟩ := hY2.2 (g 2).toNat (RS9.det CM_det hY1 (q_3x (by omega) (fun z => by have z3 := of_decide_eq_true ((Bool.and_eq_true _ _).mp z.2).1; have z3 : nb9 (tx9 m) _ 116 < m 110 20 := z3; omega)))
  exact ⟨rfl, ⟨f2 (by omega), f2 (by omega), f1 (by omega), f1 (by omega), trivial⟩, trivial, fun _ => ⟨h0, k_tok, k_sc1, k_sc2, k_T, k_I, k_F, k_N, k_Y, k_Z, k_A, k_B, k_C, k_X, k_R, k_f4⟩⟩
noncomputable def ru_y3z2 : Ru := ([(0, (1199, (0, (0, 0)))), (0, (1190, (0, (0, 0)))), (0, (1191, (0, (0, 0)))), (0, (1192, (0, (0, 0)))), (0, (1193, (0, (0, 0)))), (0, (1120, (0, (0, 0)))), (0, (1123, (0, (0, 0)))), (0, (1124, (0, (0, 0)))), (4, (0, (0, (14, 0)))), (0, (1184, (0, (0, 0)))), (0, (1185, (0, (0, 0)))), (0, (1186, (0, (0, 0)))), (6, (128, (11, (0, 0))))], ([], ([([(5, (-1)), (6, 1)], 0), ([(5, 1), (6, (-1))], 0), ([(2, 1), (5, (-1))], 0), ([(2, (-1)), (5, 1)], 0), ([(1, 1)], 13), ([(1, (-1))], (-13)), ([(5, (-1)), (9, 1)], 0), ([(5, 1), (9, (-1))], 0), ([(10, 1)], 116), ([(10, (-1))], (-116)), ([(7, (-1))], (-35)), ([(11, (-1))], 0), ([(12, (-1))], (-1))], (false, ([([(4, 1), (5, (-1))], 0), ([(4, (-1)), (5, 1)], 0), ([(3, 1)], (-1)), ([(3, (-1))], 1)], ([], ([], none)))))))
theorem rk_y3z2 : RuOk SR ru_y3z2 := by
  intro τ m g hi hc ha hS
  obtain ⟨i0, i1, i2, i3, i4, i5, i6, i7, i8, i9, i10, i11, i12, _⟩ := hi
  have t1199 : τ 1199 = some (g 0) := i0
  have t1190 : τ 1190 = some (g 1) := i1
  have t1191 : τ 1191 = some (g 2) := i2
  have t1192 : τ 1192 = some (g 3) := i3
  have t1193 : τ 1193 = some (g 4) := i4
  have t1120 : τ 1120 = some (g 5) := i5
  have t1123 : τ 1123 = some (g 6) := i6
  have t1124 : τ 1124 = some (g 7) := i7
  have xm1 : g 8 = 14 := i8
  have t1184 : τ 1184 = some (g 9) := i9
  have t1185 : τ 1185 = some (g 10) := i10
  have t1186 : τ 1186 = some (g 11) := i11
  obtain ⟨jgn, ugn, vgn⟩ : ∃ j : Nat, g 11 = (j : Int) ∧ g 12 = m 128 j := i12
  obtain ⟨c0, c1, c2, c3, c4, c5, c6, c7, c8, c9, c10, c11, c12, _⟩ := hc
  have c0 : (-1) * g 5 + 1 * g 6 ≤ 0 := d2 c0
  have c1 : 1 * g 5 + (-1) * g 6 ≤ 0 := d2 c1
  have c2 : 1 * g 2 + (-1) * g 5 ≤ 0 := d2 c2
  have c3 : (-1) * g 2 + 1 * g 5 ≤ 0 := d2 c3
  have c4 : 1 * g 1 ≤ 13 := d1 c4
  have c5 : (-1) * g 1 ≤ (-13) := d1 c5
  have c6 : (-1) * g 5 + 1 * g 9 ≤ 0 := d2 c6
  have c7 : 1 * g 5 + (-1) * g 9 ≤ 0 := d2 c7
  have c8 : 1 * g 10 ≤ 116 := d1 c8
  have c9 : (-1) * g 10 ≤ (-116) := d1 c9
  have c10 : (-1) * g 7 ≤ (-35) := d1 c10
  have c11 : (-1) * g 11 ≤ 0 := d1 c11
  have c12 : (-1) * g 12 ≤ (-1) := d1 c12
  obtain ⟨h0, k_tok, k_sc1, k_sc2, k_T, k_I, k_F, k_N, k_Y, k_Z, k_A, k_B, k_C, k_X, k_R, k_f4⟩ := hS (by rw [t1199]; exact fun e => by cases e)
  have k_T0 := k_T
  obtain ⟨h_T, h_TN, h_QZ⟩ := k_T0
  have k_I0 := k_I
  obtain ⟨h_p, h_pc, h_ip, h_iP, h_PC, h_PN⟩ := k_I0
  have k_N0 := k_N
  obtain ⟨h_N, h_Nk, h_V, h_Yq⟩ := k_N0
  have k_Y0 := k_Y
  obtain ⟨h_Y0, h_Y⟩ := k_Y0
  obtain ⟨⟨hy1, hy2⟩, _⟩ := h_Y0 _ _ _ t1190 t1191 t1192
  obtain ⟨ry, hY1, hY2⟩ := h_Y _ _ _ _ t1190 t1191 t1192 t1193
  have hT0 := (h_T _ t1120).1
  have hcc := h_pc _ _ t1123 t1124
  rw [show (g 6).toNat = (g 2).toNat by omega] at hcc
  have hv2 := (h_N _ _ _ t1184 t1185 t1186).2
  rw [show (g 9).toNat = (g 2).toNat by omega, show g 10 = 116 by omega] at hv2
  rw [show (g 1).toNat = 13 by omega] at hY1
  obtain ⟨y1, y2⟩ := hY2.2 (g 2).toNat (RS9.det CM_det hY1 (q_3x (by omega) (fun z => by have z3 := of_decide_eq_true ((Bool.and_eq_true _ _).mp z.2).2; have z3 : m 128 (nb9 (tx9 m) _ 116).toNat ≤ 0 := z3; rw [← hv2, show (g 11).toNat = jgn by omega] at z3; omega)))
  exact ⟨rfl, ⟨f2 (by omega), f2 (by omega), f1 (by omega), f1 (by omega), trivial⟩, trivial, fun _ => ⟨h0, k_tok, k_sc1, k_sc2, k_T, k_I, k_F, k_N, k_Y, k_Z, k_A, k_B, k_C, k_X, k_R, k_f4⟩⟩
noncomputable def ru_y3t : Ru := ([(0, (1199, (0, (0, 0)))), (0, (1190, (0, (0, 0)))), (0, (1191, (0, (0, 0)))), (0, (1192, (0, (0, 0)))), (0, (1193, (0, (0, 0)))), (0, (1120, (0, (0, 0)))), (0, (1123, (0, (0, 0)))), (0, (1124, (0, (0, 0)))), (0, (1121, (0, (0, 0)))), (4, (0, (0, (16, 0)))), (0, (1184, (0, (0, 0)))), (0, (1185, (0, (0, 0)))), (0, (1186, (0, (0, 0)))), (5, (110, (20, (0, 0)))), (6, (128, (12, (0, 0))))], ([], ([([(5, (-1)), (6, 1)], 0), ([(5, 1), (6, (-1))], 0), ([(2, 1), (5, (-1))], 0), ([(2, (-1)), (5, 1)], 0), ([(1, 1)], 13), ([(1, (-1))], (-13)), ([(12, (-1))], 0), ([(12, 1), (13, (-1))], (-1)), ([(14, 1)], 0), ([(5, (-1)), (10, 1)], 0), ([(5, 1), (10, (-1))], 0), ([(11, 1)], 116), ([(11, (-1))], (-116))], (false, ([], ([], ([(1190, some (9, 0)), (1191, some (8, 0))], none)))))))
theorem rk_y3t : RuOk SR ru_y3t := by
  intro τ m g hi hc ha hS
  obtain ⟨i0, i1, i2, i3, i4, i5, i6, i7, i8, i9, i10, i11, i12, i13, i14, _⟩ := hi
  have t1199 : τ 1199 = some (g 0) := i0
  have t1190 : τ 1190 = some (g 1) := i1
  have t1191 : τ 1191 = some (g 2) := i2
  have t1192 : τ 1192 = some (g 3) := i3
  have t1193 : τ 1193 = some (g 4) := i4
  have t1120 : τ 1120 = some (g 5) := i5
  have t1123 : τ 1123 = some (g 6) := i6
  have t1124 : τ 1124 = some (g 7) := i7
  have t1121 : τ 1121 = some (g 8) := i8
  have xm1 : g 9 = 16 := i9
  have t1184 : τ 1184 = some (g 10) := i10
  have t1185 : τ 1185 = some (g 11) := i11
  have t1186 : τ 1186 = some (g 12) := i12
  have xht : g 13 = m 110 20 := i13
  obtain ⟨jgn, ugn, vgn⟩ : ∃ j : Nat, g 12 = (j : Int) ∧ g 14 = m 128 j := i14
  obtain ⟨c0, c1, c2, c3, c4, c5, c6, c7, c8, c9, c10, c11, c12, _⟩ := hc
  have c0 : (-1) * g 5 + 1 * g 6 ≤ 0 := d2 c0
  have c1 : 1 * g 5 + (-1) * g 6 ≤ 0 := d2 c1
  have c2 : 1 * g 2 + (-1) * g 5 ≤ 0 := d2 c2
  have c3 : (-1) * g 2 + 1 * g 5 ≤ 0 := d2 c3
  have c4 : 1 * g 1 ≤ 13 := d1 c4
  have c5 : (-1) * g 1 ≤ (-13) := d1 c5
  have c6 : (-1) * g 12 ≤ 0 := d1 c6
  have c7 : 1 * g 12 + (-1) * g 13 ≤ (-1) := d2 c7
  have c8 : 1 * g 14 ≤ 0 := d1 c8
  have c9 : (-1) * g 5 + 1 * g 10 ≤ 0 := d2 c9
  have c10 : 1 * g 5 + (-1) * g 10 ≤ 0 := d2 c10
  have c11 : 1 * g 11 ≤ 116 := d1 c11
  have c12 : (-1) * g 11 ≤ (-116) := d1 c12
  obtain ⟨h0, k_tok, k_sc1, k_sc2, k_T, k_I, k_F, k_N, k_Y, k_Z, k_A, k_B, k_C, k_X, k_R, k_f4⟩ := hS (by rw [t1199]; exact fun e => by cases e)
  have k_T0 := k_T
  obtain ⟨h_T, h_TN, h_QZ⟩ := k_T0
  have k_I0 := k_I
  obtain ⟨h_p, h_pc, h_ip, h_iP, h_PC, h_PN⟩ := k_I0
  have k_N0 := k_N
  obtain ⟨h_N, h_Nk, h_V, h_Yq⟩ := k_N0
  have k_Y0 := k_Y
  obtain ⟨h_Y0, h_Y⟩ := k_Y0
  obtain ⟨⟨hy1, hy2⟩, _⟩ := h_Y0 _ _ _ t1190 t1191 t1192
  obtain ⟨ry, hY1, hY2⟩ := h_Y _ _ _ _ t1190 t1191 t1192 t1193
  have hT0 := (h_T _ t1120).1
  have hcc := h_pc _ _ t1123 t1124
  rw [show (g 6).toNat = (g 2).toNat by omega] at hcc
  have hXL : ((tx9 m).2 : Int) = m 110 1 := by
    show (((m 110 1).toNat : Nat) : Int) = _
    omega
  have hv2 := (h_N _ _ _ t1184 t1185 t1186).2
  rw [show (g 10).toNat = (g 2).toNat by omega, show g 11 = 116 by omega] at hv2
  rw [show (g 1).toNat = 13 by omega] at hY1
  have hN := h_TN _ _ t1120 t1121
  rw [show (g 5).toNat = (g 2).toNat by omega] at hN
  have hnL := nx_P (m := m) (p := (g 2).toNat) (by omega)
  obtain ⟨r2, hr2⟩ := RS9_ex (X := tx9 m) (w := wl9 m) (C := CM9 (tx9 m)) CM_ex (m := 16) (p := nx9t (tx9 m) (g 2).toNat) (by omega) (show nx9t (tx9 m) (g 2).toNat ≤ (m 110 1).toNat by omega)
  have er : r2 = ry := RS9.det CM_det (q_3t (nb_any (by omega)) (by omega) (by rw [← hv2]; show (decide (_ < m 110 20) && decide (m 128 (g 12).toNat ≤ 0)) = true; rw [show (g 12).toNat = jgn by omega, decide_eq_true (by omega), decide_eq_true (by omega)]; rfl) hr2) hY1
  rw [er] at hr2
  exact ⟨rfl, trivial, trivial, fun _ => ⟨h0, k_tok, k_sc1, k_sc2, k_T, k_I, k_F, k_N, ⟨fun Ym Yp Y1 e0 e1 e2 => by
      have e0 : g 9 + 0 = Ym := Option.some.inj e0
      subst e0
      have e1 : g 8 + 0 = Yp := Option.some.inj e1
      subst e1
      have e2 : g 3 = Y1 := Option.some.inj (t1192.symm.trans e2)
      subst e2
      refine ⟨⟨⟨by omega, by omega⟩, ⟨by omega, by omega⟩⟩, ry, _, ?_, hY2⟩
      rw [show (g 8 + 0).toNat = nx9t (tx9 m) (g 2).toNat by omega, show (g 9 + 0).toNat = 16 by omega]
      exact hr2, fun Ym Yp Y1 Y2 e0 e1 e2 e3 => by
      have e0 : g 9 + 0 = Ym := Option.some.inj e0
      subst e0
      have e1 : g 8 + 0 = Yp := Option.some.inj e1
      subst e1
      have e2 : g 3 = Y1 := Option.some.inj (t1192.symm.trans e2)
      subst e2
      have e3 : g 4 = Y2 := Option.some.inj (t1193.symm.trans e3)
      subst e3
      refine ⟨ry, ?_, hY2⟩
      rw [show (g 8 + 0).toNat = nx9t (tx9 m) (g 2).toNat by omega, show (g 9 + 0).toNat = 16 by omega]
      exact hr2⟩, k_Z, k_A, k_B, k_C, k_X, k_R, k_f4⟩⟩
noncomputable def ru_y6a : Ru := ([(0, (1199, (0, (0, 0)))), (0, (1190, (0, (0, 0)))), (0, (1191, (0, (0, 0)))), (0, (1192, (0, (0, 0)))), (0, (1193, (0, (0, 0)))), (0, (1120, (0, (0, 0)))), (0, (1123, (0, (0, 0)))), (0, (1124, (0, (0, 0)))), (4, (0, (0, (14, 0))))], ([], ([([(5, (-1)), (6, 1)], 0), ([(5, 1), (6, (-1))], 0), ([(2, 1), (5, (-1))], 0), ([(2, (-1)), (5, 1)], 0), ([(1, 1)], 16), ([(1, (-1))], (-16)), ([(7, 1)], 10)], (false, ([], ([], ([(1190, some (8, 0))], none)))))))
theorem rk_y6a : RuOk SR ru_y6a := by
  intro τ m g hi hc ha hS
  obtain ⟨i0, i1, i2, i3, i4, i5, i6, i7, i8, _⟩ := hi
  have t1199 : τ 1199 = some (g 0) := i0
  have t1190 : τ 1190 = some (g 1) := i1
  have t1191 : τ 1191 = some (g 2) := i2
  have t1192 : τ 1192 = some (g 3) := i3
  have t1193 : τ 1193 = some (g 4) := i4
  have t1120 : τ 1120 = some (g 5) := i5
  have t1123 : τ 1123 = some (g 6) := i6
  have t1124 : τ 1124 = some (g 7) := i7
  have xm1 : g 8 = 14 := i8
  obtain ⟨c0, c1, c2, c3, c4, c5, c6, _⟩ := hc
  have c0 : (-1) * g 5 + 1 * g 6 ≤ 0 := d2 c0
  have c1 : 1 * g 5 + (-1) * g 6 ≤ 0 := d2 c1
  have c2 : 1 * g 2 + (-1) * g 5 ≤ 0 := d2 c2
  have c3 : (-1) * g 2 + 1 * g 5 ≤ 0 := d2 c3
  have c4 : 1 * g 1 ≤ 16 := d1 c4
  have c5 : (-1) * g 1 ≤ (-16) := d1 c5
  have c6 : 1 * g 7 ≤ 10 := d1 c6
  obtain ⟨h0, k_tok, k_sc1, k_sc2, k_T, k_I, k_F, k_N, k_Y, k_Z, k_A, k_B, k_C, k_X, k_R, k_f4⟩ := hS (by rw [t1199]; exact fun e => by cases e)
  have k_T0 := k_T
  obtain ⟨h_T, h_TN, h_QZ⟩ := k_T0
  have k_I0 := k_I
  obtain ⟨h_p, h_pc, h_ip, h_iP, h_PC, h_PN⟩ := k_I0
  have k_Y0 := k_Y
  obtain ⟨h_Y0, h_Y⟩ := k_Y0
  obtain ⟨⟨hy1, hy2⟩, _⟩ := h_Y0 _ _ _ t1190 t1191 t1192
  obtain ⟨ry, hY1, hY2⟩ := h_Y _ _ _ _ t1190 t1191 t1192 t1193
  have hT0 := (h_T _ t1120).1
  have hcc := h_pc _ _ t1123 t1124
  rw [show (g 6).toNat = (g 2).toNat by omega] at hcc
  have hXL : ((tx9 m).2 : Int) = m 110 1 := by
    show (((m 110 1).toNat : Nat) : Int) = _
    omega
  rw [show (g 1).toNat = 16 by omega] at hY1
  obtain ⟨r2, hr2⟩ := RS9_ex (X := tx9 m) (w := wl9 m) (C := CM9 (tx9 m)) CM_ex (m := 14) (p := (g 2).toNat) (by omega) (show (g 2).toNat ≤ (m 110 1).toNat by omega)
  have er : r2 = ry := RS9.det CM_det (q_6n (by omega) hr2) hY1
  rw [er] at hr2
  exact ⟨rfl, trivial, trivial, fun _ => ⟨h0, k_tok, k_sc1, k_sc2, k_T, k_I, k_F, k_N, ⟨fun Ym Yp Y1 e0 e1 e2 => by
      have e0 : g 8 + 0 = Ym := Option.some.inj e0
      subst e0
      have e1 : g 2 = Yp := Option.some.inj (t1191.symm.trans e1)
      subst e1
      have e2 : g 3 = Y1 := Option.some.inj (t1192.symm.trans e2)
      subst e2
      refine ⟨⟨⟨by omega, by omega⟩, ⟨by omega, by omega⟩⟩, ry, _, ?_, hY2⟩
      rw [show (g 2).toNat = (g 2).toNat by omega, show (g 8 + 0).toNat = 14 by omega]
      exact hr2, fun Ym Yp Y1 Y2 e0 e1 e2 e3 => by
      have e0 : g 8 + 0 = Ym := Option.some.inj e0
      subst e0
      have e1 : g 2 = Yp := Option.some.inj (t1191.symm.trans e1)
      subst e1
      have e2 : g 3 = Y1 := Option.some.inj (t1192.symm.trans e2)
      subst e2
      have e3 : g 4 = Y2 := Option.some.inj (t1193.symm.trans e3)
      subst e3
      refine ⟨ry, ?_, hY2⟩
      rw [show (g 2).toNat = (g 2).toNat by omega, show (g 8 + 0).toNat = 14 by omega]
      exact hr2⟩, k_Z, k_A, k_B, k_C, k_X, k_R, k_f4⟩⟩
noncomputable def ru_y6b : Ru := ([(0, (1199, (0, (0, 0)))), (0, (1190, (0, (0, 0)))), (0, (1191, (0, (0, 0)))), (0, (1192, (0, (0, 0)))), (0, (1193, (0, (0, 0)))), (0, (1120, (0, (0, 0)))), (0, (1123, (0, (0, 0)))), (0, (1124, (0, (0, 0)))), (4, (0, (0, (14, 0))))], ([], ([([(5, (-1)), (6, 1)], 0), ([(5, 1), (6, (-1))], 0), ([(2, 1), (5, (-1))], 0), ([(2, (-1)), (5, 1)], 0), ([(1, 1)], 16), ([(1, (-1))], (-16)), ([(7, (-1))], (-12))], (false, ([], ([], ([(1190, some (8, 0))], none)))))))
theorem rk_y6b : RuOk SR ru_y6b := by
  intro τ m g hi hc ha hS
  obtain ⟨i0, i1, i2, i3, i4, i5, i6, i7, i8, _⟩ := hi
  have t1199 : τ 1199 = some (g 0) := i0
  have t1190 : τ 1190 = some (g 1) := i1
  have t1191 : τ 1191 = some (g 2) := i2
  have t1192 : τ 1192 = some (g 3) := i3
  have t1193 : τ 1193 = some (g 4) := i4
  have t1120 : τ 1120 = some (g 5) := i5
  have t1123 : τ 1123 = some (g 6) := i6
  have t1124 : τ 1124 = some (g 7) := i7
  have xm1 : g 8 = 14 := i8
  obtain ⟨c0, c1, c2, c3, c4, c5, c6, _⟩ := hc
  have c0 : (-1) * g 5 + 1 * g 6 ≤ 0 := d2 c0
  have c1 : 1 * g 5 + (-1) * g 6 ≤ 0 := d2 c1
  have c2 : 1 * g 2 + (-1) * g 5 ≤ 0 := d2 c2
  have c3 : (-1) * g 2 + 1 * g 5 ≤ 0 := d2 c3
  have c4 : 1 * g 1 ≤ 16 := d1 c4
  have c5 : (-1) * g 1 ≤ (-16) := d1 c5
  have c6 : (-1) * g 7 ≤ (-12) := d1 c6
  obtain ⟨h0, k_tok, k_sc1, k_sc2, k_T, k_I, k_F, k_N, k_Y, k_Z, k_A, k_B, k_C, k_X, k_R, k_f4⟩ := hS (by rw [t1199]; exact fun e => by cases e)
  have k_T0 := k_T
  obtain ⟨h_T, h_TN, h_QZ⟩ := k_T0
  have k_I0 := k_I
  obtain ⟨h_p, h_pc, h_ip, h_iP, h_PC, h_PN⟩ := k_I0
  have k_Y0 := k_Y
  obtain ⟨h_Y0, h_Y⟩ := k_Y0
  obtain ⟨⟨hy1, hy2⟩, _⟩ := h_Y0 _ _ _ t1190 t1191 t1192
  obtain ⟨ry, hY1, hY2⟩ := h_Y _ _ _ _ t1190 t1191 t1192 t1193
  have hT0 := (h_T _ t1120).1
  have hcc := h_pc _ _ t1123 t1124
  rw [show (g 6).toNat = (g 2).toNat by omega] at hcc
  have hXL : ((tx9 m).2 : Int) = m 110 1 := by
    show (((m 110 1).toNat : Nat) : Int) = _
    omega
  rw [show (g 1).toNat = 16 by omega] at hY1
  obtain ⟨r2, hr2⟩ := RS9_ex (X := tx9 m) (w := wl9 m) (C := CM9 (tx9 m)) CM_ex (m := 14) (p := (g 2).toNat) (by omega) (show (g 2).toNat ≤ (m 110 1).toNat by omega)
  have er : r2 = ry := RS9.det CM_det (q_6n (by omega) hr2) hY1
  rw [er] at hr2
  exact ⟨rfl, trivial, trivial, fun _ => ⟨h0, k_tok, k_sc1, k_sc2, k_T, k_I, k_F, k_N, ⟨fun Ym Yp Y1 e0 e1 e2 => by
      have e0 : g 8 + 0 = Ym := Option.some.inj e0
      subst e0
      have e1 : g 2 = Yp := Option.some.inj (t1191.symm.trans e1)
      subst e1
      have e2 : g 3 = Y1 := Option.some.inj (t1192.symm.trans e2)
      subst e2
      refine ⟨⟨⟨by omega, by omega⟩, ⟨by omega, by omega⟩⟩, ry, _, ?_, hY2⟩
      rw [show (g 2).toNat = (g 2).toNat by omega, show (g 8 + 0).toNat = 14 by omega]
      exact hr2, fun Ym Yp Y1 Y2 e0 e1 e2 e3 => by
      have e0 : g 8 + 0 = Ym := Option.some.inj e0
      subst e0
      have e1 : g 2 = Yp := Option.some.inj (t1191.symm.trans e1)
      subst e1
      have e2 : g 3 = Y1 := Option.some.inj (t1192.symm.trans e2)
      subst e2
      have e3 : g 4 = Y2 := Option.some.inj (t1193.symm.trans e3)
      subst e3
      refine ⟨ry, ?_, hY2⟩
      rw [show (g 2).toNat = (g 2).toNat by omega, show (g 8 + 0).toNat = 14 by omega]
      exact hr2⟩, k_Z, k_A, k_B, k_C, k_X, k_R, k_f4⟩⟩
noncomputable def ru_y6c : Ru := ([(0, (1199, (0, (0, 0)))), (0, (1190, (0, (0, 0)))), (0, (1191, (0, (0, 0)))), (0, (1192, (0, (0, 0)))), (0, (1193, (0, (0, 0)))), (0, (1120, (0, (0, 0)))), (0, (1123, (0, (0, 0)))), (0, (1124, (0, (0, 0)))), (0, (1121, (0, (0, 0)))), (4, (0, (0, (14, 0))))], ([], ([([(5, (-1)), (6, 1)], 0), ([(5, 1), (6, (-1))], 0), ([(2, 1), (5, (-1))], 0), ([(2, (-1)), (5, 1)], 0), ([(1, 1)], 16), ([(1, (-1))], (-16)), ([(7, 1)], 11), ([(7, (-1))], (-11))], (false, ([], ([], ([(1190, some (9, 0)), (1191, some (8, 0))], none)))))))
theorem rk_y6c : RuOk SR ru_y6c := by
  intro τ m g hi hc ha hS
  obtain ⟨i0, i1, i2, i3, i4, i5, i6, i7, i8, i9, _⟩ := hi
  have t1199 : τ 1199 = some (g 0) := i0
  have t1190 : τ 1190 = some (g 1) := i1
  have t1191 : τ 1191 = some (g 2) := i2
  have t1192 : τ 1192 = some (g 3) := i3
  have t1193 : τ 1193 = some (g 4) := i4
  have t1120 : τ 1120 = some (g 5) := i5
  have t1123 : τ 1123 = some (g 6) := i6
  have t1124 : τ 1124 = some (g 7) := i7
  have t1121 : τ 1121 = some (g 8) := i8
  have xm1 : g 9 = 14 := i9
  obtain ⟨c0, c1, c2, c3, c4, c5, c6, c7, _⟩ := hc
  have c0 : (-1) * g 5 + 1 * g 6 ≤ 0 := d2 c0
  have c1 : 1 * g 5 + (-1) * g 6 ≤ 0 := d2 c1
  have c2 : 1 * g 2 + (-1) * g 5 ≤ 0 := d2 c2
  have c3 : (-1) * g 2 + 1 * g 5 ≤ 0 := d2 c3
  have c4 : 1 * g 1 ≤ 16 := d1 c4
  have c5 : (-1) * g 1 ≤ (-16) := d1 c5
  have c6 : 1 * g 7 ≤ 11 := d1 c6
  have c7 : (-1) * g 7 ≤ (-11) := d1 c7
  obtain ⟨h0, k_tok, k_sc1, k_sc2, k_T, k_I, k_F, k_N, k_Y, k_Z, k_A, k_B, k_C, k_X, k_R, k_f4⟩ := hS (by rw [t1199]; exact fun e => by cases e)
  have k_T0 := k_T
  obtain ⟨h_T, h_TN, h_QZ⟩ := k_T0
  have k_I0 := k_I
  obtain ⟨h_p, h_pc, h_ip, h_iP, h_PC, h_PN⟩ := k_I0
  have k_Y0 := k_Y
  obtain ⟨h_Y0, h_Y⟩ := k_Y0
  obtain ⟨⟨hy1, hy2⟩, _⟩ := h_Y0 _ _ _ t1190 t1191 t1192
  obtain ⟨ry, hY1, hY2⟩ := h_Y _ _ _ _ t1190 t1191 t1192 t1193
  have hT0 := (h_T _ t1120).1
  have hcc := h_pc _ _ t1123 t1124
  rw [show (g 6).toNat = (g 2).toNat by omega] at hcc
  have hXL : ((tx9 m).2 : Int) = m 110 1 := by
    show (((m 110 1).toNat : Nat) : Int) = _
    omega
  rw [show (g 1).toNat = 16 by omega] at hY1
  have hN := h_TN _ _ t1120 t1121
  rw [show (g 5).toNat = (g 2).toNat by omega] at hN
  have hnL := nx_P (m := m) (p := (g 2).toNat) (by omega)
  obtain ⟨r2, hr2⟩ := RS9_ex (X := tx9 m) (w := wl9 m) (C := CM9 (tx9 m)) CM_ex (m := 14) (p := nx9t (tx9 m) (g 2).toNat) (by omega) (show nx9t (tx9 m) (g 2).toNat ≤ (m 110 1).toNat by omega)
  have er : r2 = ry := RS9.det CM_det (q_6c (by omega) hr2) hY1
  rw [er] at hr2
  exact ⟨rfl, trivial, trivial, fun _ => ⟨h0, k_tok, k_sc1, k_sc2, k_T, k_I, k_F, k_N, ⟨fun Ym Yp Y1 e0 e1 e2 => by
      have e0 : g 9 + 0 = Ym := Option.some.inj e0
      subst e0
      have e1 : g 8 + 0 = Yp := Option.some.inj e1
      subst e1
      have e2 : g 3 = Y1 := Option.some.inj (t1192.symm.trans e2)
      subst e2
      refine ⟨⟨⟨by omega, by omega⟩, ⟨by omega, by omega⟩⟩, ry, _, ?_, hY2⟩
      rw [show (g 8 + 0).toNat = nx9t (tx9 m) (g 2).toNat by omega, show (g 9 + 0).toNat = 14 by omega]
      exact hr2, fun Ym Yp Y1 Y2 e0 e1 e2 e3 => by
      have e0 : g 9 + 0 = Ym := Option.some.inj e0
      subst e0
      have e1 : g 8 + 0 = Yp := Option.some.inj e1
      subst e1
      have e2 : g 3 = Y1 := Option.some.inj (t1192.symm.trans e2)
      subst e2
      have e3 : g 4 = Y2 := Option.some.inj (t1193.symm.trans e3)
      subst e3
      refine ⟨ry, ?_, hY2⟩
      rw [show (g 8 + 0).toNat = nx9t (tx9 m) (g 2).toNat by omega, show (g 9 + 0).toNat = 14 by omega]
      exact hr2⟩, k_Z, k_A, k_B, k_C, k_X, k_R, k_f4⟩⟩
noncomputable def ru_y4a : Ru := ([(0, (1199, (0, (0, 0)))), (0, (1190, (0, (0, 0)))), (0, (1191, (0, (0, 0)))), (0, (1192, (0, (0, 0)))), (0, (1193, (0, (0, 0)))), (0, (1120, (0, (0, 0)))), (0, (1123, (0, (0, 0)))), (0, (1124, (0, (0, 0)))), (4, (0, (0, (15, 0))))], ([], ([([(5, (-1)), (6, 1)], 0), ([(5, 1), (6, (-1))], 0), ([(2, 1), (5, (-1))], 0), ([(2, (-1)), (5, 1)], 0), ([(1, 1)], 14), ([(1, (-1))], (-14)), ([(7, 1)], 32)], (false, ([], ([], ([(1190, some (8, 0))], none)))))))
theorem rk_y4a : RuOk SR ru_y4a := by
  intro τ m g hi hc ha hS
  obtain ⟨i0, i1, i2, i3, i4, i5, i6, i7, i8, _⟩ := hi
  have t1199 : τ 1199 = some (g 0) := i0
  have t1190 : τ 1190 = some (g 1) := i1
  have t1191 : τ 1191 = some (g 2) := i2
  have t1192 : τ 1192 = some (g 3) := i3
  have t1193 : τ 1193 = some (g 4) := i4
  have t1120 : τ 1120 = some (g 5) := i5
  have t1123 : τ 1123 = some (g 6) := i6
  have t1124 : τ 1124 = some (g 7) := i7
  have xm1 : g 8 = 15 := i8
  obtain ⟨c0, c1, c2, c3, c4, c5, c6, _⟩ := hc
  have c0 : (-1) * g 5 + 1 * g 6 ≤ 0 := d2 c0
  have c1 : 1 * g 5 + (-1) * g 6 ≤ 0 := d2 c1
  have c2 : 1 * g 2 + (-1) * g 5 ≤ 0 := d2 c2
  have c3 : (-1) * g 2 + 1 * g 5 ≤ 0 := d2 c3
  have c4 : 1 * g 1 ≤ 14 := d1 c4
  have c5 : (-1) * g 1 ≤ (-14) := d1 c5
  have c6 : 1 * g 7 ≤ 32 := d1 c6
  obtain ⟨h0, k_tok, k_sc1, k_sc2, k_T, k_I, k_F, k_N, k_Y, k_Z, k_A, k_B, k_C, k_X, k_R, k_f4⟩ := hS (by rw [t1199]; exact fun e => by cases e)
  have k_T0 := k_T
  obtain ⟨h_T, h_TN, h_QZ⟩ := k_T0
  have k_I0 := k_I
  obtain ⟨h_p, h_pc, h_ip, h_iP, h_PC, h_PN⟩ := k_I0
  have k_Y0 := k_Y
  obtain ⟨h_Y0, h_Y⟩ := k_Y0
  obtain ⟨⟨hy1, hy2⟩, _⟩ := h_Y0 _ _ _ t1190 t1191 t1192
  obtain ⟨ry, hY1, hY2⟩ := h_Y _ _ _ _ t1190 t1191 t1192 t1193
  have hT0 := (h_T _ t1120).1
  have hcc := h_pc _ _ t1123 t1124
  rw [show (g 6).toNat = (g 2).toNat by omega] at hcc
  have hXL : ((tx9 m).2 : Int) = m 110 1 := by
    show (((m 110 1).toNat : Nat) : Int) = _
    omega
  rw [show (g 1).toNat = 14 by omega] at hY1
  obtain ⟨r2, hr2⟩ := RS9_ex (X := tx9 m) (w := wl9 m) (C := CM9 (tx9 m)) CM_ex (m := 15) (p := (g 2).toNat) (by omega) (show (g 2).toNat ≤ (m 110 1).toNat by omega)
  have er : r2 = ry := RS9.det CM_det (q_4n (by omega) hr2) hY1
  rw [er] at hr2
  exact ⟨rfl, trivial, trivial, fun _ => ⟨h0, k_tok, k_sc1, k_sc2, k_T, k_I, k_F, k_N, ⟨fun Ym Yp Y1 e0 e1 e2 => by
      have e0 : g 8 + 0 = Ym := Option.some.inj e0
      subst e0
      have e1 : g 2 = Yp := Option.some.inj (t1191.symm.trans e1)
      subst e1
      have e2 : g 3 = Y1 := Option.some.inj (t1192.symm.trans e2)
      subst e2
      refine ⟨⟨⟨by omega, by omega⟩, ⟨by omega, by omega⟩⟩, ry, _, ?_, hY2⟩
      rw [show (g 2).toNat = (g 2).toNat by omega, show (g 8 + 0).toNat = 15 by omega]
      exact hr2, fun Ym Yp Y1 Y2 e0 e1 e2 e3 => by
      have e0 : g 8 + 0 = Ym := Option.some.inj e0
      subst e0
      have e1 : g 2 = Yp := Option.some.inj (t1191.symm.trans e1)
      subst e1
      have e2 : g 3 = Y1 := Option.some.inj (t1192.symm.trans e2)
      subst e2
      have e3 : g 4 = Y2 := Option.some.inj (t1193.symm.trans e3)
      subst e3
      refine ⟨ry, ?_, hY2⟩
      rw [show (g 2).toNat = (g 2).toNat by omega, show (g 8 + 0).toNat = 15 by omega]
      exact hr2⟩, k_Z, k_A, k_B, k_C, k_X, k_R, k_f4⟩⟩
noncomputable def ru_y4b : Ru := ([(0, (1199, (0, (0, 0)))), (0, (1190, (0, (0, 0)))), (0, (1191, (0, (0, 0)))), (0, (1192, (0, (0, 0)))), (0, (1193, (0, (0, 0)))), (0, (1120, (0, (0, 0)))), (0, (1123, (0, (0, 0)))), (0, (1124, (0, (0, 0)))), (4, (0, (0, (15, 0))))], ([], ([([(5, (-1)), (6, 1)], 0), ([(5, 1), (6, (-1))], 0), ([(2, 1), (5, (-1))], 0), ([(2, (-1)), (5, 1)], 0), ([(1, 1)], 14), ([(1, (-1))], (-14)), ([(7, (-1))], (-34))], (false, ([], ([], ([(1190, some (8, 0))], none)))))))
theorem rk_y4b : RuOk SR ru_y4b := by
  intro τ m g hi hc ha hS
  obtain ⟨i0, i1, i2, i3, i4, i5, i6, i7, i8, _⟩ := hi
  have t1199 : τ 1199 = some (g 0) := i0
  have t1190 : τ 1190 = some (g 1) := i1
  have t1191 : τ 1191 = some (g 2) := i2
  have t1192 : τ 1192 = some (g 3) := i3
  have t1193 : τ 1193 = some (g 4) := i4
  have t1120 : τ 1120 = some (g 5) := i5
  have t1123 : τ 1123 = some (g 6) := i6
  have t1124 : τ 1124 = some (g 7) := i7
  have xm1 : g 8 = 15 := i8
  obtain ⟨c0, c1, c2, c3, c4, c5, c6, _⟩ := hc
  have c0 : (-1) * g 5 + 1 * g 6 ≤ 0 := d2 c0
  have c1 : 1 * g 5 + (-1) * g 6 ≤ 0 := d2 c1
  have c2 : 1 * g 2 + (-1) * g 5 ≤ 0 := d2 c2
  have c3 : (-1) * g 2 + 1 * g 5 ≤ 0 := d2 c3
  have c4 : 1 * g 1 ≤ 14 := d1 c4
  have c5 : (-1) * g 1 ≤ (-14) := d1 c5
  have c6 : (-1) * g 7 ≤ (-34) := d1 c6
  obtain ⟨h0, k_tok, k_sc1, k_sc2, k_T, k_I, k_F, k_N, k_Y, k_Z, k_A, k_B, k_C, k_X, k_R, k_f4⟩ := hS (by rw [t1199]; exact fun e => by cases e)
  have k_T0 := k_T
  obtain ⟨h_T, h_TN, h_QZ⟩ := k_T0
  have k_I0 := k_I
  obtain ⟨h_p, h_pc, h_ip, h_iP, h_PC, h_PN⟩ := k_I0
  have k_Y0 := k_Y
  obtain ⟨h_Y0, h_Y⟩ := k_Y0
  obtain ⟨⟨hy1, hy2⟩, _⟩ := h_Y0 _ _ _ t1190 t1191 t1192
  obtain ⟨ry, hY1, hY2⟩ := h_Y _ _ _ _ t1190 t1191 t1192 t1193
  have hT0 := (h_T _ t1120).1
  have hcc := h_pc _ _ t1123 t1124
  rw [show (g 6).toNat = (g 2).toNat by omega] at hcc
  have hXL : ((tx9 m).2 : Int) = m 110 1 := by
    show (((m 110 1).toNat : Nat) : Int) = _
    omega
  rw [show (g 1).toNat = 14 by omega] at hY1
  obtain ⟨r2, hr2⟩ := RS9_ex (X := tx9 m) (w := wl9 m) (C := CM9 (tx9 m)) CM_ex (m := 15) (p := (g 2).toNat) (by omega) (show (g 2).toNat ≤ (m 110 1).toNat by omega)
  have er : r2 = ry := RS9.det CM_det (q_4n (by omega) hr2) hY1
  rw [er] at hr2
  exact ⟨rfl, trivial, trivial, fun _ => ⟨h0, k_tok, k_sc1, k_sc2, k_T, k_I, k_F, k_N, ⟨fun Ym Yp Y1 e0 e1 e2 => by
      have e0 : g 8 + 0 = Ym := Option.some.inj e0
      subst e0
      have e1 : g 2 = Yp := Option.some.inj (t1191.symm.trans e1)
      subst e1
      have e2 : g 3 = Y1 := Option.some.inj (t1192.symm.trans e2)
      subst e2
      refine ⟨⟨⟨by omega, by omega⟩, ⟨by omega, by omega⟩⟩, ry, _, ?_, hY2⟩
      rw [show (g 2).toNat = (g 2).toNat by omega, show (g 8 + 0).toNat = 15 by omega]
      exact hr2, fun Ym Yp Y1 Y2 e0 e1 e2 e3 => by
      have e0 : g 8 + 0 = Ym := Option.some.inj e0
      subst e0
      have e1 : g 2 = Yp := Option.some.inj (t1191.symm.trans e1)
      subst e1
      have e2 : g 3 = Y1 := Option.some.inj (t1192.symm.trans e2)
      subst e2
      have e3 : g 4 = Y2 := Option.some.inj (t1193.symm.trans e3)
      subst e3
      refine ⟨ry, ?_, hY2⟩
      rw [show (g 2).toNat = (g 2).toNat by omega, show (g 8 + 0).toNat = 15 by omega]
      exact hr2⟩, k_Z, k_A, k_B, k_C, k_X, k_R, k_f4⟩⟩
noncomputable def ru_y4c : Ru := ([(0, (1199, (0, (0, 0)))), (0, (1190, (0, (0, 0)))), (0, (1191, (0, (0, 0)))), (0, (1192, (0, (0, 0)))), (0, (1193, (0, (0, 0)))), (0, (1120, (0, (0, 0)))), (0, (1123, (0, (0, 0)))), (0, (1124, (0, (0, 0)))), (0, (1121, (0, (0, 0)))), (4, (0, (0, (17, 0))))], ([], ([([(5, (-1)), (6, 1)], 0), ([(5, 1), (6, (-1))], 0), ([(2, 1), (5, (-1))], 0), ([(2, (-1)), (5, 1)], 0), ([(1, 1)], 14), ([(1, (-1))], (-14)), ([(7, 1)], 33), ([(7, (-1))], (-33))], (false, ([], ([], ([(1190, some (9, 0)), (1191, some (8, 0))], none)))))))
theorem rk_y4c : RuOk SR ru_y4c := by
  intro τ m g hi hc ha hS
  obtain ⟨i0, i1, i2, i3, i4, i5, i6, i7, i8, i9, _⟩ := hi
  have t1199 : τ 1199 = some (g 0) := i0
  have t1190 : τ 1190 = some (g 1) := i1
  have t1191 : τ 1191 = some (g 2) := i2
  have t1192 : τ 1192 = some (g 3) := i3
  have t1193 : τ 1193 = some (g 4) := i4
  have t1120 : τ 1120 = some (g 5) := i5
  have t1123 : τ 1123 = some (g 6) := i6
  have t1124 : τ 1124 = some (g 7) := i7
  have t1121 : τ 1121 = some (g 8) := i8
  have xm1 : g 9 = 17 := i9
  obtain ⟨c0, c1, c2, c3, c4, c5, c6, c7, _⟩ := hc
  have c0 : (-1) * g 5 + 1 * g 6 ≤ 0 := d2 c0
  have c1 : 1 * g 5 + (-1) * g 6 ≤ 0 := d2 c1
  have c2 : 1 * g 2 + (-1) * g 5 ≤ 0 := d2 c2
  have c3 : (-1) * g 2 + 1 * g 5 ≤ 0 := d2 c3
  have c4 : 1 * g 1 ≤ 14 := d1 c4
  have c5 : (-1) * g 1 ≤ (-14) := d1 c5
  have c6 : 1 * g 7 ≤ 33 := d1 c6
  have c7 : (-1) * g 7 ≤ (-33) := d1 c7
  obtain ⟨h0, k_tok, k_sc1, k_sc2, k_T, k_I, k_F, k_N, k_Y, k_Z, k_A, k_B, k_C, k_X, k_R, k_f4⟩ := hS (by rw [t1199]; exact fun e => by cases e)
  have k_T0 := k_T
  obtain ⟨h_T, h_TN, h_QZ⟩ := k_T0
  have k_I0 := k_I
  obtain ⟨h_p, h_pc, h_ip, h_iP, h_PC, h_PN⟩ := k_I0
  have k_Y0 := k_Y
  obtain ⟨h_Y0, h_Y⟩ := k_Y0
  obtain ⟨⟨hy1, hy2⟩, _⟩ := h_Y0 _ _ _ t1190 t1191 t1192
  obtain ⟨ry, hY1, hY2⟩ := h_Y _ _ _ _ t1190 t1191 t1192 t1193
  have hT0 := (h_T _ t1120).1
  have hcc := h_pc _ _ t1123 t1124
  rw [show (g 6).toNat = (g 2).toNat by omega] at hcc
  have hXL : ((tx9 m).2 : Int) = m 110 1 := by
    show (((m 110 1).toNat : Nat) : Int) = _
    omega
  rw [show (g 1).toNat = 14 by omega] at hY1
  have hN := h_TN _ _ t1120 t1121
  rw [show (g 5).toNat = (g 2).toNat by omega] at hN
  have hnL := nx_P (m := m) (p := (g 2).toNat) (by omega)
  obtain ⟨r2, hr2⟩ := RS9_ex (X := tx9 m) (w := wl9 m) (C := CM9 (tx9 m)) CM_ex (m := 17) (p := nx9t (tx9 m) (g 2).toNat) (by omega) (show nx9t (tx9 m) (g 2).toNat ≤ (m 110 1).toNat by omega)
  have er : r2 = ry := RS9.det CM_det (q_4c (by omega) hr2) hY1
  rw [er] at hr2
  exact ⟨rfl, trivial, trivial, fun _ => ⟨h0, k_tok, k_sc1, k_sc2, k_T, k_I, k_F, k_N, ⟨fun Ym Yp Y1 e0 e1 e2 => by
      have e0 : g 9 + 0 = Ym := Option.some.inj e0
      subst e0
      have e1 : g 8 + 0 = Yp := Option.some.inj e1
      subst e1
      have e2 : g 3 = Y1 := Option.some.inj (t1192.symm.trans e2)
      subst e2
      refine ⟨⟨⟨by omega, by omega⟩, ⟨by omega, by omega⟩⟩, ry, _, ?_, hY2⟩
      rw [show (g 8 + 0).toNat = nx9t (tx9 m) (g 2).toNat by omega, show (g 9 + 0).toNat = 17 by omega]
      exact hr2, fun Ym Yp Y1 Y2 e0 e1 e2 e3 => by
      have e0 : g 9 + 0 = Ym := Option.some.inj e0
      subst e0
      have e1 : g 8 + 0 = Yp := Option.some.inj e1
      subst e1
      have e2 : g 3 = Y1 := Option.some.inj (t1192.symm.trans e2)
      subst e2
      have e3 : g 4 = Y2 := Option.some.inj (t1193.symm.trans e3)
      subst e3
      refine ⟨ry, ?_, hY2⟩
      rw [show (g 8 + 0).toNat = nx9t (tx9 m) (g 2).toNat by omega, show (g 9 + 0).toNat = 17 by omega]
      exact hr2⟩, k_Z, k_A, k_B, k_C, k_X, k_R, k_f4⟩⟩
noncomputable def ru_y7o : Ru := ([(0, (1199, (0, (0, 0)))), (0, (1190, (0, (0, 0)))), (0, (1191, (0, (0, 0)))), (0, (1192, (0, (0, 0)))), (0, (1193, (0, (0, 0)))), (0, (1170, (0, (0, 0)))), (0, (1171, (0, (0, 0)))), (0, (1172, (0, (0, 0)))), (4, (0, (0, (18, 0))))], ([1173], ([([(1, 1)], 17), ([(1, (-1))], (-17)), ([(2, (-1)), (7, 1)], 0), ([(2, 1), (7, (-1))], 0), ([(5, (-1))], 0)], (false, ([], ([], ([(1190, some (8, 0)), (1191, some (5, 0))], none)))))))
theorem rk_y7o : RuOk SR ru_y7o := by
  intro τ m g hi hc ha hS
  obtain ⟨i0, i1, i2, i3, i4, i5, i6, i7, i8, _⟩ := hi
  have t1199 : τ 1199 = some (g 0) := i0
  have t1190 : τ 1190 = some (g 1) := i1
  have t1191 : τ 1191 = some (g 2) := i2
  have t1192 : τ 1192 = some (g 3) := i3
  have t1193 : τ 1193 = some (g 4) := i4
  have t1170 : τ 1170 = some (g 5) := i5
  have t1171 : τ 1171 = some (g 6) := i6
  have t1172 : τ 1172 = some (g 7) := i7
  have xm1 : g 8 = 18 := i8
  obtain ⟨c0, c1, c2, c3, c4, _⟩ := hc
  have c0 : 1 * g 1 ≤ 17 := d1 c0
  have c1 : (-1) * g 1 ≤ (-17) := d1 c1
  have c2 : (-1) * g 2 + 1 * g 7 ≤ 0 := d2 c2
  have c3 : 1 * g 2 + (-1) * g 7 ≤ 0 := d2 c3
  have c4 : (-1) * g 5 ≤ 0 := d1 c4
  obtain ⟨a0, _⟩ := ha
  have n1173 : τ 1173 = none := a0
  obtain ⟨h0, k_tok, k_sc1, k_sc2, k_T, k_I, k_F, k_N, k_Y, k_Z, k_A, k_B, k_C, k_X, k_R, k_f4⟩ := hS (by rw [t1199]; exact fun e => by cases e)
  have k_X0 := k_X
  obtain ⟨h_X0a, h_X0, h_X, h_Xe⟩ := k_X0
  have k_Y0 := k_Y
  obtain ⟨h_Y0, h_Y⟩ := k_Y0
  have hXL : ((tx9 m).2 : Int) = m 110 1 := by
    show (((m 110 1).toNat : Nat) : Int) = _
    omega
  obtain ⟨⟨hy1, hy2⟩, _⟩ := h_Y0 _ _ _ t1190 t1191 t1192
  obtain ⟨ry, hY1, hY2⟩ := h_Y _ _ _ _ t1190 t1191 t1192 t1193
  rw [show (g 1).toNat = 17 by omega] at hY1
  obtain ⟨rx, hrx, hxe⟩ := h_X0 _ _ _ t1170 t1171 t1172 n1173
  rw [show (g 7).toNat = (g 2).toNat by omega] at hrx
  have hcl := CM_cl (X := tx9 m) (g 2).toNat rx (show (g 2).toNat ≤ (tx9 m).2 by omega) hrx
  obtain ⟨e1, e2⟩ := YE_pos hxe (by omega)
  rw [e1] at hrx hcl
  have hcl : (g 5).toNat ≤ (tx9 m).2 := hcl
  obtain ⟨r2, hr2⟩ := RS9_ex (X := tx9 m) (w := wl9 m) (C := CM9 (tx9 m)) CM_ex (m := 18) (p := (g 5).toNat) (by omega) hcl
  have er : r2 = ry := RS9.det CM_det (q_7o (C := CM9 (tx9 m)) hrx hr2) hY1
  rw [er] at hr2
  exact ⟨rfl, trivial, trivial, fun _ => ⟨h0, k_tok, k_sc1, k_sc2, k_T, k_I, k_F, k_N, ⟨fun Ym Yp Y1 e0 e1 e2 => by
      have e0 : g 8 + 0 = Ym := Option.some.inj e0
      subst e0
      have e1 : g 5 + 0 = Yp := Option.some.inj e1
      subst e1
      have e2 : g 3 = Y1 := Option.some.inj (t1192.symm.trans e2)
      subst e2
      refine ⟨⟨⟨by omega, by omega⟩, ⟨by omega, by omega⟩⟩, ry, _, ?_, hY2⟩
      rw [show (g 5 + 0).toNat = (g 5).toNat by omega, show (g 8 + 0).toNat = 18 by omega]
      exact hr2, fun Ym Yp Y1 Y2 e0 e1 e2 e3 => by
      have e0 : g 8 + 0 = Ym := Option.some.inj e0
      subst e0
      have e1 : g 5 + 0 = Yp := Option.some.inj e1
      subst e1
      have e2 : g 3 = Y1 := Option.some.inj (t1192.symm.trans e2)
      subst e2
      have e3 : g 4 = Y2 := Option.some.inj (t1193.symm.trans e3)
      subst e3
      refine ⟨ry, ?_, hY2⟩
      rw [show (g 5 + 0).toNat = (g 5).toNat by omega, show (g 8 + 0).toNat = 18 by omega]
      exact hr2⟩, k_Z, k_A, k_B, k_C, k_X, k_R, k_f4⟩⟩
noncomputable def ru_y7x : Ru := ([(0, (1199, (0, (0, 0)))), (0, (1190, (0, (0, 0)))), (0, (1191, (0, (0, 0)))), (0, (1192, (0, (0, 0)))), (0, (1193, (0, (0, 0)))), (0, (1170, (0, (0, 0)))), (0, (1171, (0, (0, 0)))), (0, (1172, (0, (0, 0))))], ([1173], ([([(1, 1)], 17), ([(1, (-1))], (-17)), ([(2, (-1)), (7, 1)], 0), ([(2, 1), (7, (-1))], 0), ([(5, 1)], (-1))], (false, ([([(4, 1), (6, (-1))], 0), ([(4, (-1)), (6, 1)], 0), ([(3, 1)], (-1)), ([(3, (-1))], 1)], ([], ([], none)))))))
theorem rk_y7x : RuOk SR ru_y7x := by
  intro τ m g hi hc ha hS
  obtain ⟨i0, i1, i2, i3, i4, i5, i6, i7, _⟩ := hi
  have t1199 : τ 1199 = some (g 0) := i0
  have t1190 : τ 1190 = some (g 1) := i1
  have t1191 : τ 1191 = some (g 2) := i2
  have t1192 : τ 1192 = some (g 3) := i3
  have t1193 : τ 1193 = some (g 4) := i4
  have t1170 : τ 1170 = some (g 5) := i5
  have t1171 : τ 1171 = some (g 6) := i6
  have t1172 : τ 1172 = some (g 7) := i7
  obtain ⟨c0, c1, c2, c3, c4, _⟩ := hc
  have c0 : 1 * g 1 ≤ 17 := d1 c0
  have c1 : (-1) * g 1 ≤ (-17) := d1 c1
  have c2 : (-1) * g 2 + 1 * g 7 ≤ 0 := d2 c2
  have c3 : 1 * g 2 + (-1) * g 7 ≤ 0 := d2 c3
  have c4 : 1 * g 5 ≤ (-1) := d1 c4
  obtain ⟨a0, _⟩ := ha
  have n1173 : τ 1173 = none := a0
  obtain ⟨h0, k_tok, k_sc1, k_sc2, k_T, k_I, k_F, k_N, k_Y, k_Z, k_A, k_B, k_C, k_X, k_R, k_f4⟩ := hS (by rw [t1199]; exact fun e => by cases e)
  have k_X0 := k_X
  obtain ⟨h_X0a, h_X0, h_X, h_Xe⟩ := k_X0
  have k_Y0 := k_Y
  obtain ⟨h_Y0, h_Y⟩ := k_Y0
  have hXL : ((tx9 m).2 : Int) = m 110 1 := by
    show (((m 110 1).toNat : Nat) : Int) = _
    omega
  obtain ⟨⟨hy1, hy2⟩, _⟩ := h_Y0 _ _ _ t1190 t1191 t1192
  obtain ⟨ry, hY1, hY2⟩ := h_Y _ _ _ _ t1190 t1191 t1192 t1193
  rw [show (g 1).toNat = 17 by omega] at hY1
  obtain ⟨rx, hrx, hxe⟩ := h_X0 _ _ _ t1170 t1171 t1172 n1173
  rw [show (g 7).toNat = (g 2).toNat by omega] at hrx
  have hcl := CM_cl (X := tx9 m) (g 2).toNat rx (show (g 2).toNat ≤ (tx9 m).2 by omega) hrx
  obtain ⟨e1, e2, e3⟩ := YE_neg hxe (by omega)
  rw [e1] at hrx
  obtain ⟨y1, y2⟩ := hY2.2 _ (RS9.det CM_det hY1 (q_7x (C := CM9 (tx9 m)) hrx))
  exact ⟨rfl, ⟨f2 (by omega), f2 (by omega), f1 (by omega), f1 (by omega), trivial⟩, trivial, fun _ => ⟨h0, k_tok, k_sc1, k_sc2, k_T, k_I, k_F, k_N, k_Y, k_Z, k_A, k_B, k_C, k_X, k_R, k_f4⟩⟩
noncomputable def ru_y5a15 : Ru := ([(0, (1199, (0, (0, 0)))), (0, (1190, (0, (0, 0)))), (0, (1191, (0, (0, 0)))), (0, (1192, (0, (0, 0)))), (0, (1193, (0, (0, 0)))), (0, (1120, (0, (0, 0)))), (0, (1123, (0, (0, 0)))), (0, (1124, (0, (0, 0)))), (4, (0, (0, (16, 0))))], ([], ([([(5, (-1)), (6, 1)], 0), ([(5, 1), (6, (-1))], 0), ([(2, 1), (5, (-1))], 0), ([(2, (-1)), (5, 1)], 0), ([(1, 1)], 15), ([(1, (-1))], (-15)), ([(7, 1)], 31)], (false, ([([(3, 1), (5, (-1))], 0), ([(3, (-1)), (5, 1)], 0), ([(4, 1)], (-1)), ([(4, (-1))], 1)], ([], ([], none)))))))
theorem rk_y5a15 : RuOk SR ru_y5a15 := by
  intro τ m g hi hc ha hS
  obtain ⟨i0, i1, i2, i3, i4, i5, i6, i7, i8, _⟩ := hi
  have t1199 : τ 1199 = some (g 0) := i0
  have t1190 : τ 1190 = some (g 1) := i1
  have t1191 : τ 1191 = some (g 2) := i2
  have t1192 : τ 1192 = some (g 3) := i3
  have t1193 : τ 1193 = some (g 4) := i4
  have t1120 : τ 1120 = some (g 5) := i5
  have t1123 : τ 1123 = some (g 6) := i6
  have t1124 : τ 1124 = some (g 7) := i7
  have xm1 : g 8 = 16 := i8
  obtain ⟨c0, c1, c2, c3, c4, c5, c6, _⟩ := hc
  have c0 : (-1) * g 5 + 1 * g 6 ≤ 0 := d2 c0
  have c1 : 1 * g 5 + (-1) * g 6 ≤ 0 := d2 c1
  have c2 : 1 * g 2 + (-1) * g 5 ≤ 0 := d2 c2
  have c3 : (-1) * g 2 + 1 * g 5 ≤ 0 := d2 c3
  have c4 : 1 * g 1 ≤ 15 := d1 c4
  have c5 : (-1) * g 1 ≤ (-15) := d1 c5
  have c6 : 1 * g 7 ≤ 31 := d1 c6
  obtain ⟨h0, k_tok, k_sc1, k_sc2, k_T, k_I, k_F, k_N, k_Y, k_Z, k_A, k_B, k_C, k_X, k_R, k_f4⟩ := hS (by rw [t1199]; exact fun e => by cases e)
  have k_T0 := k_T
  obtain ⟨h_T, h_TN, h_QZ⟩ := k_T0
  have k_I0 := k_I
  obtain ⟨h_p, h_pc, h_ip, h_iP, h_PC, h_PN⟩ := k_I0
  have k_Y0 := k_Y
  obtain ⟨h_Y0, h_Y⟩ := k_Y0
  obtain ⟨⟨hy1, hy2⟩, _⟩ := h_Y0 _ _ _ t1190 t1191 t1192
  obtain ⟨ry, hY1, hY2⟩ := h_Y _ _ _ _ t1190 t1191 t1192 t1193
  have hT0 := (h_T _ t1120).1
  have hcc := h_pc _ _ t1123 t1124
  rw [show (g 6).toNat = (g 2).toNat by omega] at hcc
  rw [show (g 1).toNat = 15 by omega] at hY1
  obtain ⟨y1, y2⟩ := hY2.1 (g 2).toNat (RS9.det CM_det hY1 (q_5n (Or.inl rfl) (by omega)))
  exact ⟨rfl, ⟨f2 (by omega), f2 (by omega), f1 (by omega), f1 (by omega), trivial⟩, trivial, fun _ => ⟨h0, k_tok, k_sc1, k_sc2, k_T, k_I, k_F, k_N, k_Y, k_Z, k_A, k_B, k_C, k_X, k_R, k_f4⟩⟩
noncomputable def ru_y5b15 : Ru := ([(0, (1199, (0, (0, 0)))), (0, (1190, (0, (0, 0)))), (0, (1191, (0, (0, 0)))), (0, (1192, (0, (0, 0)))), (0, (1193, (0, (0, 0)))), (0, (1120, (0, (0, 0)))), (0, (1123, (0, (0, 0)))), (0, (1124, (0, (0, 0)))), (4, (0, (0, (16, 0))))], ([], ([([(5, (-1)), (6, 1)], 0), ([(5, 1), (6, (-1))], 0), ([(2, 1), (5, (-1))], 0), ([(2, (-1)), (5, 1)], 0), ([(1, 1)], 15), ([(1, (-1))], (-15)), ([(7, (-1))], (-33))], (false, ([([(3, 1), (5, (-1))], 0), ([(3, (-1)), (5, 1)], 0), ([(4, 1)], (-1)), ([(4, (-1))], 1)], ([], ([], none)))))))
theorem rk_y5b15 : RuOk SR ru_y5b15 := by
  intro τ m g hi hc ha hS
  obtain ⟨i0, i1, i2, i3, i4, i5, i6, i7, i8, _⟩ := hi
  have t1199 : τ 1199 = some (g 0) := i0
  have t1190 : τ 1190 = some (g 1) := i1
  have t1191 : τ 1191 = some (g 2) := i2
  have t1192 : τ 1192 = some (g 3) := i3
  have t1193 : τ 1193 = some (g 4) := i4
  have t1120 : τ 1120 = some (g 5) := i5
  have t1123 : τ 1123 = some (g 6) := i6
  have t1124 : τ 1124 = some (g 7) := i7
  have xm1 : g 8 = 16 := i8
  obtain ⟨c0, c1, c2, c3, c4, c5, c6, _⟩ := hc
  have c0 : (-1) * g 5 + 1 * g 6 ≤ 0 := d2 c0
  have c1 : 1 * g 5 + (-1) * g 6 ≤ 0 := d2 c1
  have c2 : 1 * g 2 + (-1) * g 5 ≤ 0 := d2 c2
  have c3 : (-1) * g 2 + 1 * g 5 ≤ 0 := d2 c3
  have c4 : 1 * g 1 ≤ 15 := d1 c4
  have c5 : (-1) * g 1 ≤ (-15) := d1 c5
  have c6 : (-1) * g 7 ≤ (-33) := d1 c6
  obtain ⟨h0, k_tok, k_sc1, k_sc2, k_T, k_I, k_F, k_N, k_Y, k_Z, k_A, k_B, k_C, k_X, k_R, k_f4⟩ := hS (by rw [t1199]; exact fun e => by cases e)
  have k_T0 := k_T
  obtain ⟨h_T, h_TN, h_QZ⟩ := k_T0
  have k_I0 := k_I
  obtain ⟨h_p, h_pc, h_ip, h_iP, h_PC, h_PN⟩ := k_I0
  have k_Y0 := k_Y
  obtain ⟨h_Y0, h_Y⟩ := k_Y0
  obtain ⟨⟨hy1, hy2⟩, _⟩ := h_Y0 _ _ _ t1190 t1191 t1192
  obtain ⟨ry, hY1, hY2⟩ := h_Y _ _ _ _ t1190 t1191 t1192 t1193
  have hT0 := (h_T _ t1120).1
  have hcc := h_pc _ _ t1123 t1124
  rw [show (g 6).toNat = (g 2).toNat by omega] at hcc
  rw [show (g 1).toNat = 15 by omega] at hY1
  obtain ⟨y1, y2⟩ := hY2.1 (g 2).toNat (RS9.det CM_det hY1 (q_5n (Or.inl rfl) (by omega)))
  exact ⟨rfl, ⟨f2 (by omega), f2 (by omega), f1 (by omega), f1 (by omega), trivial⟩, trivial, fun _ => ⟨h0, k_tok, k_sc1, k_sc2, k_T, k_I, k_F, k_N, k_Y, k_Z, k_A, k_B, k_C, k_X, k_R, k_f4⟩⟩
noncomputable def ru_y5c15 : Ru := ([(0, (1199, (0, (0, 0)))), (0, (1190, (0, (0, 0)))), (0, (1191, (0, (0, 0)))), (0, (1192, (0, (0, 0)))), (0, (1193, (0, (0, 0)))), (0, (1120, (0, (0, 0)))), (0, (1123, (0, (0, 0)))), (0, (1124, (0, (0, 0)))), (0, (1121, (0, (0, 0)))), (4, (0, (0, (19, 0))))], ([], ([([(5, (-1)), (6, 1)], 0), ([(5, 1), (6, (-1))], 0), ([(2, 1), (5, (-1))], 0), ([(2, (-1)), (5, 1)], 0), ([(1, 1)], 15), ([(1, (-1))], (-15)), ([(7, 1)], 32), ([(7, (-1))], (-32))], (false, ([], ([], ([(1190, some (9, 0)), (1191, some (8, 0))], none)))))))
theorem rk_y5c15 : RuOk SR ru_y5c15 := by
  intro τ m g hi hc ha hS
  obtain ⟨i0, i1, i2, i3, i4, i5, i6, i7, i8, i9, _⟩ := hi
  have t1199 : τ 1199 = some (g 0) := i0
  have t1190 : τ 1190 = some (g 1) := i1
  have t1191 : τ 1191 = some (g 2) := i2
  have t1192 : τ 1192 = some (g 3) := i3
  have t1193 : τ 1193 = some (g 4) := i4
  have t1120 : τ 1120 = some (g 5) := i5
  have t1123 : τ 1123 = some (g 6) := i6
  have t1124 : τ 1124 = some (g 7) := i7
  have t1121 : τ 1121 = some (g 8) := i8
  have xm1 : g 9 = 19 := i9
  obtain ⟨c0, c1, c2, c3, c4, c5, c6, c7, _⟩ := hc
  have c0 : (-1) * g 5 + 1 * g 6 ≤ 0 := d2 c0
  have c1 : 1 * g 5 + (-1) * g 6 ≤ 0 := d2 c1
  have c2 : 1 * g 2 + (-1) * g 5 ≤ 0 := d2 c2
  have c3 : (-1) * g 2 + 1 * g 5 ≤ 0 := d2 c3
  have c4 : 1 * g 1 ≤ 15 := d1 c4
  have c5 : (-1) * g 1 ≤ (-15) := d1 c5
  have c6 : 1 * g 7 ≤ 32 := d1 c6
  have c7 : (-1) * g 7 ≤ (-32) := d1 c7
  obtain ⟨h0, k_tok, k_sc1, k_sc2, k_T, k_I, k_F, k_N, k_Y, k_Z, k_A, k_B, k_C, k_X, k_R, k_f4⟩ := hS (by rw [t1199]; exact fun e => by cases e)
  have k_T0 := k_T
  obtain ⟨h_T, h_TN, h_QZ⟩ := k_T0
  have k_I0 := k_I
  obtain ⟨h_p, h_pc, h_ip, h_iP, h_PC, h_PN⟩ := k_I0
  have k_Y0 := k_Y
  obtain ⟨h_Y0, h_Y⟩ := k_Y0
  obtain ⟨⟨hy1, hy2⟩, _⟩ := h_Y0 _ _ _ t1190 t1191 t1192
  obtain ⟨ry, hY1, hY2⟩ := h_Y _ _ _ _ t1190 t1191 t1192 t1193
  have hT0 := (h_T _ t1120).1
  have hcc := h_pc _ _ t1123 t1124
  rw [show (g 6).toNat = (g 2).toNat by omega] at hcc
  have hXL : ((tx9 m).2 : Int) = m 110 1 := by
    show (((m 110 1).toNat : Nat) : Int) = _
    omega
  rw [show (g 1).toNat = 15 by omega] at hY1
  have hN := h_TN _ _ t1120 t1121
  rw [show (g 5).toNat = (g 2).toNat by omega] at hN
  have hnL := nx_P (m := m) (p := (g 2).toNat) (by omega)
  obtain ⟨r2, hr2⟩ := RS9_ex (X := tx9 m) (w := wl9 m) (C := CM9 (tx9 m)) CM_ex (m := 19) (p := nx9t (tx9 m) (g 2).toNat) (by omega) (show nx9t (tx9 m) (g 2).toNat ≤ (m 110 1).toNat by omega)
  have er : r2 = ry := RS9.det CM_det (q_5c (Or.inl rfl) (by omega) hr2) hY1
  rw [er] at hr2
  exact ⟨rfl, trivial, trivial, fun _ => ⟨h0, k_tok, k_sc1, k_sc2, k_T, k_I, k_F, k_N, ⟨fun Ym Yp Y1 e0 e1 e2 => by
      have e0 : g 9 + 0 = Ym := Option.some.inj e0
      subst e0
      have e1 : g 8 + 0 = Yp := Option.some.inj e1
      subst e1
      have e2 : g 3 = Y1 := Option.some.inj (t1192.symm.trans e2)
      subst e2
      refine ⟨⟨⟨by omega, by omega⟩, ⟨by omega, by omega⟩⟩, ry, _, ?_, hY2⟩
      rw [show (g 8 + 0).toNat = nx9t (tx9 m) (g 2).toNat by omega, show (g 9 + 0).toNat = 19 by omega]
      exact hr2, fun Ym Yp Y1 Y2 e0 e1 e2 e3 => by
      have e0 : g 9 + 0 = Ym := Option.some.inj e0
      subst e0
      have e1 : g 8 + 0 = Yp := Option.some.inj e1
      subst e1
      have e2 : g 3 = Y1 := Option.some.inj (t1192.symm.trans e2)
      subst e2
      have e3 : g 4 = Y2 := Option.some.inj (t1193.symm.trans e3)
      subst e3
      refine ⟨ry, ?_, hY2⟩
      rw [show (g 8 + 0).toNat = nx9t (tx9 m) (g 2).toNat by omega, show (g 9 + 0).toNat = 19 by omega]
      exact hr2⟩, k_Z, k_A, k_B, k_C, k_X, k_R, k_f4⟩⟩
noncomputable def ru_y5a18 : Ru := ([(0, (1199, (0, (0, 0)))), (0, (1190, (0, (0, 0)))), (0, (1191, (0, (0, 0)))), (0, (1192, (0, (0, 0)))), (0, (1193, (0, (0, 0)))), (0, (1120, (0, (0, 0)))), (0, (1123, (0, (0, 0)))), (0, (1124, (0, (0, 0)))), (4, (0, (0, (19, 0))))], ([], ([([(5, (-1)), (6, 1)], 0), ([(5, 1), (6, (-1))], 0), ([(2, 1), (5, (-1))], 0), ([(2, (-1)), (5, 1)], 0), ([(1, 1)], 18), ([(1, (-1))], (-18)), ([(7, 1)], 31)], (false, ([([(3, 1), (5, (-1))], 0), ([(3, (-1)), (5, 1)], 0), ([(4, 1)], (-1)), ([(4, (-1))], 1)], ([], ([], none)))))))
theorem rk_y5a18 : RuOk SR ru_y5a18 := by
  intro τ m g hi hc ha hS
  obtain ⟨i0, i1, i2, i3, i4, i5, i6, i7, i8, _⟩ := hi
  have t1199 : τ 1199 = some (g 0) := i0
  have t1190 : τ 1190 = some (g 1) := i1
  have t1191 : τ 1191 = some (g 2) := i2
  have t1192 : τ 1192 = some (g 3) := i3
  have t1193 : τ 1193 = some (g 4) := i4
  have t1120 : τ 1120 = some (g 5) := i5
  have t1123 : τ 1123 = some (g 6) := i6
  have t1124 : τ 1124 = some (g 7) := i7
  have xm1 : g 8 = 19 := i8
  obtain ⟨c0, c1, c2, c3, c4, c5, c6, _⟩ := hc
  have c0 : (-1) * g 5 + 1 * g 6 ≤ 0 := d2 c0
  have c1 : 1 * g 5 + (-1) * g 6 ≤ 0 := d2 c1
  have c2 : 1 * g 2 + (-1) * g 5 ≤ 0 := d2 c2
  have c3 : (-1) * g 2 + 1 * g 5 ≤ 0 := d2 c3
  have c4 : 1 * g 1 ≤ 18 := d1 c4
  have c5 : (-1) * g 1 ≤ (-18) := d1 c5
  have c6 : 1 * g 7 ≤ 31 := d1 c6
  obtain ⟨h0, k_tok, k_sc1, k_sc2, k_T, k_I, k_F, k_N, k_Y, k_Z, k_A, k_B, k_C, k_X, k_R, k_f4⟩ := hS (by rw [t1199]; exact fun e => by cases e)
  have k_T0 := k_T
  obtain ⟨h_T, h_TN, h_QZ⟩ := k_T0
  have k_I0 := k_I
  obtain ⟨h_p, h_pc, h_ip, h_iP, h_PC, h_PN⟩ := k_I0
  have k_Y0 := k_Y
  obtain ⟨h_Y0, h_Y⟩ := k_Y0
  obtain ⟨⟨hy1, hy2⟩, _⟩ := h_Y0 _ _ _ t1190 t1191 t1192
  obtain ⟨ry, hY1, hY2⟩ := h_Y _ _ _ _ t1190 t1191 t1192 t1193
  have hT0 := (h_T _ t1120).1
  have hcc := h_pc _ _ t1123 t1124
  rw [show (g 6).toNat = (g 2).toNat by omega] at hcc
  rw [show (g 1).toNat = 18 by omega] at hY1
  obtain ⟨y1, y2⟩ := hY2.1 (g 2).toNat (RS9.det CM_det hY1 (q_5n (Or.inr rfl) (by omega)))
  exact ⟨rfl, ⟨f2 (by omega), f2 (by omega), f1 (by omega), f1 (by omega), trivial⟩, trivial, fun _ => ⟨h0, k_tok, k_sc1, k_sc2, k_T, k_I, k_F, k_N, k_Y, k_Z, k_A, k_B, k_C, k_X, k_R, k_f4⟩⟩
noncomputable def ru_y5b18 : Ru := ([(0, (1199, (0, (0, 0)))), (0, (1190, (0, (0, 0)))), (0, (1191, (0, (0, 0)))), (0, (1192, (0, (0, 0)))), (0, (1193, (0, (0, 0)))), (0, (1120, (0, (0, 0)))), (0, (1123, (0, (0, 0)))), (0, (1124, (0, (0, 0)))), (4, (0, (0, (19, 0))))], ([], ([([(5, (-1)), (6, 1)], 0), ([(5, 1), (6, (-1))], 0), ([(2, 1), (5, (-1))], 0), ([(2, (-1)), (5, 1)], 0), ([(1, 1)], 18), ([(1, (-1))], (-18)), ([(7, (-1))], (-33))], (false, ([([(3, 1), (5, (-1))], 0), ([(3, (-1)), (5, 1)], 0), ([(4, 1)], (-1)), ([(4, (-1))], 1)], ([], ([], none)))))))
theorem rk_y5b18 : RuOk SR ru_y5b18 := by
  intro τ m g hi hc ha hS
  obtain ⟨i0, i1, i2, i3, i4, i5, i6, i7, i8, _⟩ := hi
  have t1199 : τ 1199 = some (g 0) := i0
  have t1190 : τ 1190 = some (g 1) := i1
  have t1191 : τ 1191 = some (g 2) := i2
  have t1192 : τ 1192 = some (g 3) := i3
  have t1193 : τ 1193 = some (g 4) := i4
  have t1120 : τ 1120 = some (g 5) := i5
  have t1123 : τ 1123 = some (g 6) := i6
  have t1124 : τ 1124 = some (g 7) := i7
  have xm1 : g 8 = 19 := i8
  obtain ⟨c0, c1, c2, c3, c4, c5, c6, _⟩ := hc
  have c0 : (-1) * g 5 + 1 * g 6 ≤ 0 := d2 c0
  have c1 : 1 * g 5 + (-1) * g 6 ≤ 0 := d2 c1
  have c2 : 1 * g 2 + (-1) * g 5 ≤ 0 := d2 c2
  have c3 : (-1) * g 2 + 1 * g 5 ≤ 0 := d2 c3
  have c4 : 1 * g 1 ≤ 18 := d1 c4
  have c5 : (-1) * g 1 ≤ (-18) := d1 c5
  have c6 : (-1) * g 7 ≤ (-33) := d1 c6
  obtain ⟨h0, k_tok, k_sc1, k_sc2, k_T, k_I, k_F, k_N, k_Y, k_Z, k_A, k_B, k_C, k_X, k_R, k_f4⟩ := hS (by rw [t1199]; exact fun e => by cases e)
  have k_T0 := k_T
  obtain ⟨h_T, h_TN, h_QZ⟩ := k_T0
  have k_I0 := k_I
  obtain ⟨h_p, h_pc, h_ip, h_iP, h_PC, h_PN⟩ := k_I0
  have k_Y0 := k_Y
  obtain ⟨h_Y0, h_Y⟩ := k_Y0
  obtain ⟨⟨hy1, hy2⟩, _⟩ := h_Y0 _ _ _ t1190 t1191 t1192
  obtain ⟨ry, hY1, hY2⟩ := h_Y _ _ _ _ t1190 t1191 t1192 t1193
  have hT0 := (h_T _ t1120).1
  have hcc := h_pc _ _ t1123 t1124
  rw [show (g 6).toNat = (g 2).toNat by omega] at hcc
  rw [show (g 1).toNat = 18 by omega] at hY1
  obtain ⟨y1, y2⟩ := hY2.1 (g 2).toNat (RS9.det CM_det hY1 (q_5n (Or.inr rfl) (by omega)))
  exact ⟨rfl, ⟨f2 (by omega), f2 (by omega), f1 (by omega), f1 (by omega), trivial⟩, trivial, fun _ => ⟨h0, k_tok, k_sc1, k_sc2, k_T, k_I, k_F, k_N, k_Y, k_Z, k_A, k_B, k_C, k_X, k_R, k_f4⟩⟩
noncomputable def ru_y5c18 : Ru := ([(0, (1199, (0, (0, 0)))), (0, (1190, (0, (0, 0)))), (0, (1191, (0, (0, 0)))), (0, (1192, (0, (0, 0)))), (0, (1193, (0, (0, 0)))), (0, (1120, (0, (0, 0)))), (0, (1123, (0, (0, 0)))), (0, (1124, (0, (0, 0)))), (0, (1121, (0, (0, 0)))), (4, (0, (0, (19, 0))))], ([], ([([(5, (-1)), (6, 1)], 0), ([(5, 1), (6, (-1))], 0), ([(2, 1), (5, (-1))], 0), ([(2, (-1)), (5, 1)], 0), ([(1, 1)], 18), ([(1, (-1))], (-18)), ([(7, 1)], 32), ([(7, (-1))], (-32))], (false, ([], ([], ([(1190, some (9, 0)), (1191, some (8, 0))], none)))))))
theorem rk_y5c18 : RuOk SR ru_y5c18 := by
  intro τ m g hi hc ha hS
  obtain ⟨i0, i1, i2, i3, i4, i5, i6, i7, i8, i9, _⟩ := hi
  have t1199 : τ 1199 = some (g 0) := i0
  have t1190 : τ 1190 = some (g 1) := i1
  have t1191 : τ 1191 = some (g 2) := i2
  have t1192 : τ 1192 = some (g 3) := i3
  have t1193 : τ 1193 = some (g 4) := i4
  have t1120 : τ 1120 = some (g 5) := i5
  have t1123 : τ 1123 = some (g 6) := i6
  have t1124 : τ 1124 = some (g 7) := i7
  have t1121 : τ 1121 = some (g 8) := i8
  have xm1 : g 9 = 19 := i9
  obtain ⟨c0, c1, c2, c3, c4, c5, c6, c7, _⟩ := hc
  have c0 : (-1) * g 5 + 1 * g 6 ≤ 0 := d2 c0
  have c1 : 1 * g 5 + (-1) * g 6 ≤ 0 := d2 c1
  have c2 : 1 * g 2 + (-1) * g 5 ≤ 0 := d2 c2
  have c3 : (-1) * g 2 + 1 * g 5 ≤ 0 := d2 c3
  have c4 : 1 * g 1 ≤ 18 := d1 c4
  have c5 : (-1) * g 1 ≤ (-18) := d1 c5
  have c6 : 1 * g 7 ≤ 32 := d1 c6
  have c7 : (-1) * g 7 ≤ (-32) := d1 c7
  obtain ⟨h0, k_tok, k_sc1, k_sc2, k_T, k_I, k_F, k_N, k_Y, k_Z, k_A, k_B, k_C, k_X, k_R, k_f4⟩ := hS (by rw [t1199]; exact fun e => by cases e)
  have k_T0 := k_T
  obtain ⟨h_T, h_TN, h_QZ⟩ := k_T0
  have k_I0 := k_I
  obtain ⟨h_p, h_pc, h_ip, h_iP, h_PC, h_PN⟩ := k_I0
  have k_Y0 := k_Y
  obtain ⟨h_Y0, h_Y⟩ := k_Y0
  obtain ⟨⟨hy1, hy2⟩, _⟩ := h_Y0 _ _ _ t1190 t1191 t1192
  obtain ⟨ry, hY1, hY2⟩ := h_Y _ _ _ _ t1190 t1191 t1192 t1193
  have hT0 := (h_T _ t1120).1
  have hcc := h_pc _ _ t1123 t1124
  rw [show (g 6).toNat = (g 2).toNat by omega] at hcc
  have hXL : ((tx9 m).2 : Int) = m 110 1 := by
    show (((m 110 1).toNat : Nat) : Int) = _
    omega
  rw [show (g 1).toNat = 18 by omega] at hY1
  have hN := h_TN _ _ t1120 t1121
  rw [show (g 5).toNat = (g 2).toNat by omega] at hN
  have hnL := nx_P (m := m) (p := (g 2).toNat) (by omega)
  obtain ⟨r2, hr2⟩ := RS9_ex (X := tx9 m) (w := wl9 m) (C := CM9 (tx9 m)) CM_ex (m := 19) (p := nx9t (tx9 m) (g 2).toNat) (by omega) (show nx9t (tx9 m) (g 2).toNat ≤ (m 110 1).toNat by omega)
  have er : r2 = ry := RS9.det CM_det (q_5c (Or.inr rfl) (by omega) hr2) hY1
  rw [er] at hr2
  exact ⟨rfl, trivial, trivial, fun _ => ⟨h0, k_tok, k_sc1, k_sc2, k_T, k_I, k_F, k_N, ⟨fun Ym Yp Y1 e0 e1 e2 => by
      have e0 : g 9 + 0 = Ym := Option.some.inj e0
      subst e0
      have e1 : g 8 + 0 = Yp := Option.some.inj e1
      subst e1
      have e2 : g 3 = Y1 := Option.some.inj (t1192.symm.trans e2)
      subst e2
      refine ⟨⟨⟨by omega, by omega⟩, ⟨by omega, by omega⟩⟩, ry, _, ?_, hY2⟩
      rw [show (g 8 + 0).toNat = nx9t (tx9 m) (g 2).toNat by omega, show (g 9 + 0).toNat = 19 by omega]
      exact hr2, fun Ym Yp Y1 Y2 e0 e1 e2 e3 => by
      have e0 : g 9 + 0 = Ym := Option.some.inj e0
      subst e0
      have e1 : g 8 + 0 = Yp := Option.some.inj e1
      subst e1
      have e2 : g 3 = Y1 := Option.some.inj (t1192.symm.trans e2)
      subst e2
      have e3 : g 4 = Y2 := Option.some.inj (t1193.symm.trans e3)
      subst e3
      refine ⟨ry, ?_, hY2⟩
      rw [show (g 8 + 0).toNat = nx9t (tx9 m) (g 2).toNat by omega, show (g 9 + 0).toNat = 19 by omega]
      exact hr2⟩, k_Z, k_A, k_B, k_C, k_X, k_R, k_f4⟩⟩
noncomputable def ru_y9a : Ru := ([(0, (1199, (0, (0, 0)))), (0, (1190, (0, (0, 0)))), (0, (1191, (0, (0, 0)))), (0, (1192, (0, (0, 0)))), (0, (1193, (0, (0, 0)))), (0, (1120, (0, (0, 0)))), (5, (110, (28, (0, 0))))], ([], ([([(1, 1)], 19), ([(1, (-1))], (-19)), ([(2, 1), (5, (-1))], 0), ([(2, (-1)), (5, 1)], 0), ([(6, 1)], 1)], (false, ([([(4, 1), (5, (-1))], 0), ([(4, (-1)), (5, 1)], 0), ([(3, 1)], (-1)), ([(3, (-1))], 1)], ([], ([], none)))))))
theorem rk_y9a : RuOk SR ru_y9a := by
  intro τ m g hi hc ha hS
  obtain ⟨i0, i1, i2, i3, i4, i5, i6, _⟩ := hi
  have t1199 : τ 1199 = some (g 0) := i0
  have t1190 : τ 1190 = some (g 1) := i1
  have t1191 : τ 1191 = some (g 2) := i2
  have t1192 : τ 1192 = some (g 3) := i3
  have t1193 : τ 1193 = some (g 4) := i4
  have t1120 : τ 1120 = some (g 5) := i5
  have xk : g 6 = m 110 28 := i6
  obtain ⟨c0, c1, c2, c3, c4, _⟩ := hc
  have c0 : 1 * g 1 ≤ 19 := d1 c0
  have c1 : (-1) * g 1 ≤ (-19) := d1 c1
  have c2 : 1 * g 2 + (-1) * g 5 ≤ 0 := d2 c2
  have c3 : (-1) * g 2 + 1 * g 5 ≤ 0 := d2 c3
  have c4 : 1 * g 6 ≤ 1 := d1 c4
  obtain ⟨h0, k_tok, k_sc1, k_sc2, k_T, k_I, k_F, k_N, k_Y, k_Z, k_A, k_B, k_C, k_X, k_R, k_f4⟩ := hS (by rw [t1199]; exact fun e => by cases e)
  have k_T0 := k_T
  obtain ⟨h_T, h_TN, h_QZ⟩ := k_T0
  have k_Y0 := k_Y
  obtain ⟨h_Y0, h_Y⟩ := k_Y0
  obtain ⟨⟨hy1, hy2⟩, _⟩ := h_Y0 _ _ _ t1190 t1191 t1192
  obtain ⟨ry, hY1, hY2⟩ := h_Y _ _ _ _ t1190 t1191 t1192 t1193
  obtain ⟨hT0, ⟨hTa, hTk, hTp⟩, hT1, hT2, hT4⟩ := h_T _ t1120
  rw [show (g 1).toNat = 19 by omega, show (g 2).toNat = (g 5).toNat by omega] at hY1
  obtain ⟨y1, y2⟩ := hY2.2 (g 5).toNat (RS9.det CM_det hY1 (q_9x (Or.inl (by omega))))
  exact ⟨rfl, ⟨f2 (by omega), f2 (by omega), f1 (by omega), f1 (by omega), trivial⟩, trivial, fun _ => ⟨h0, k_tok, k_sc1, k_sc2, k_T, k_I, k_F, k_N, k_Y, k_Z, k_A, k_B, k_C, k_X, k_R, k_f4⟩⟩
noncomputable def ru_y9b : Ru := ([(0, (1199, (0, (0, 0)))), (0, (1190, (0, (0, 0)))), (0, (1191, (0, (0, 0)))), (0, (1192, (0, (0, 0)))), (0, (1193, (0, (0, 0)))), (0, (1120, (0, (0, 0)))), (5, (110, (28, (0, 0))))], ([], ([([(1, 1)], 19), ([(1, (-1))], (-19)), ([(2, 1), (5, (-1))], 0), ([(2, (-1)), (5, 1)], 0), ([(6, (-1))], (-3))], (false, ([([(4, 1), (5, (-1))], 0), ([(4, (-1)), (5, 1)], 0), ([(3, 1)], (-1)), ([(3, (-1))], 1)], ([], ([], none)))))))
theorem rk_y9b : RuOk SR ru_y9b := by
  intro τ m g hi hc ha hS
  obtain ⟨i0, i1, i2, i3, i4, i5, i6, _⟩ := hi
  have t1199 : τ 1199 = some (g 0) := i0
  have t1190 : τ 1190 = some (g 1) := i1
  have t1191 : τ 1191 = some (g 2) := i2
  have t1192 : τ 1192 = some (g 3) := i3
  have t1193 : τ 1193 = some (g 4) := i4
  have t1120 : τ 1120 = some (g 5) := i5
  have xk : g 6 = m 110 28 := i6
  obtain ⟨c0, c1, c2, c3, c4, _⟩ := hc
  have c0 : 1 * g 1 ≤ 19 := d1 c0
  have c1 : (-1) * g 1 ≤ (-19) := d1 c1
  have c2 : 1 * g 2 + (-1) * g 5 ≤ 0 := d2 c2
  have c3 : (-1) * g 2 + 1 * g 5 ≤ 0 := d2 c3
  have c4 : (-1) * g 6 ≤ (-3) := d1 c4
  obtain ⟨h0, k_tok, k_sc1, k_sc2, k_T, k_I, k_F, k_N, k_Y, k_Z, k_A, k_B, k_C, k_X, k_R, k_f4⟩ := hS (by rw [t1199]; exact fun e => by cases e)
  have k_T0 := k_T
  obtain ⟨h_T, h_TN, h_QZ⟩ := k_T0
  have k_Y0 := k_Y
  obtain ⟨h_Y0, h_Y⟩ := k_Y0
  obtain ⟨⟨hy1, hy2⟩, _⟩ := h_Y0 _ _ _ t1190 t1191 t1192
  obtain ⟨ry, hY1, hY2⟩ := h_Y _ _ _ _ t1190 t1191 t1192 t1193
  obtain ⟨hT0, ⟨hTa, hTk, hTp⟩, hT1, hT2, hT4⟩ := h_T _ t1120
  rw [show (g 1).toNat = 19 by omega, show (g 2).toNat = (g 5).toNat by omega] at hY1
  obtain ⟨y1, y2⟩ := hY2.2 (g 5).toNat (RS9.det CM_det hY1 (q_9x (Or.inl (by omega))))
  exact ⟨rfl, ⟨f2 (by omega), f2 (by omega), f1 (by omega), f1 (by omega), trivial⟩, trivial, fun _ => ⟨h0, k_tok, k_sc1, k_sc2, k_T, k_I, k_F, k_N, k_Y, k_Z, k_A, k_B, k_C, k_X, k_R, k_f4⟩⟩
noncomputable def ru_y9c : Ru := ([(0, (1199, (0, (0, 0)))), (0, (1190, (0, (0, 0)))), (0, (1191, (0, (0, 0)))), (0, (1192, (0, (0, 0)))), (0, (1193, (0, (0, 0)))), (0, (1120, (0, (0, 0)))), (5, (110, (28, (0, 0)))), (4, (0, (0, (0, 0)))), (9, (1000, (7, (0, 31))))], ([], ([([(1, 1)], 19), ([(1, (-1))], (-19)), ([(2, 1), (5, (-1))], 0), ([(2, (-1)), (5, 1)], 0), ([(6, 1)], 2), ([(6, (-1))], (-2)), ([(8, 1)], 0)], (false, ([([(4, 1), (5, (-1))], 0), ([(4, (-1)), (5, 1)], 0), ([(3, 1)], (-1)), ([(3, (-1))], 1)], ([], ([], none)))))))
theorem rk_y9c : RuOk SR ru_y9c := by
  intro τ m g hi hc ha hS
  obtain ⟨i0, i1, i2, i3, i4, i5, i6, i7, i8, _⟩ := hi
  have t1199 : τ 1199 = some (g 0) := i0
  have t1190 : τ 1190 = some (g 1) := i1
  have t1191 : τ 1191 = some (g 2) := i2
  have t1192 : τ 1192 = some (g 3) := i3
  have t1193 : τ 1193 = some (g 4) := i4
  have t1120 : τ 1120 = some (g 5) := i5
  have xk : g 6 = m 110 28 := i6
  have xo : g 7 = 0 := i7
  obtain ⟨jv, uv, vv⟩ : ∃ j : Nat, 0 * g 7 + 31 = (j : Int) ∧ g 8 = m 1000 j := i8
  obtain ⟨c0, c1, c2, c3, c4, c5, c6, _⟩ := hc
  have c0 : 1 * g 1 ≤ 19 := d1 c0
  have c1 : (-1) * g 1 ≤ (-19) := d1 c1
  have c2 : 1 * g 2 + (-1) * g 5 ≤ 0 := d2 c2
  have c3 : (-1) * g 2 + 1 * g 5 ≤ 0 := d2 c3
  have c4 : 1 * g 6 ≤ 2 := d1 c4
  have c5 : (-1) * g 6 ≤ (-2) := d1 c5
  have c6 : 1 * g 8 ≤ 0 := d1 c6
  obtain ⟨h0, k_tok, k_sc1, k_sc2, k_T, k_I, k_F, k_N, k_Y, k_Z, k_A, k_B, k_C, k_X, k_R, k_f4⟩ := hS (by rw [t1199]; exact fun e => by cases e)
  have k_T0 := k_T
  obtain ⟨h_T, h_TN, h_QZ⟩ := k_T0
  have k_Y0 := k_Y
  obtain ⟨h_Y0, h_Y⟩ := k_Y0
  obtain ⟨⟨hy1, hy2⟩, _⟩ := h_Y0 _ _ _ t1190 t1191 t1192
  obtain ⟨ry, hY1, hY2⟩ := h_Y _ _ _ _ t1190 t1191 t1192 t1193
  obtain ⟨hT0, ⟨hTa, hTk, hTp⟩, hT1, hT2, hT4⟩ := h_T _ t1120
  rw [show (g 1).toNat = 19 by omega, show (g 2).toNat = (g 5).toNat by omega] at hY1
  have hnv := hT2 (by omega)
  rw [show jv = 31 by omega] at vv
  obtain ⟨y1, y2⟩ := hY2.2 (g 5).toNat (RS9.det CM_det hY1 (q_9x (Or.inr (by omega))))
  exact ⟨rfl, ⟨f2 (by omega), f2 (by omega), f1 (by omega), f1 (by omega), trivial⟩, trivial, fun _ => ⟨h0, k_tok, k_sc1, k_sc2, k_T, k_I, k_F, k_N, k_Y, k_Z, k_A, k_B, k_C, k_X, k_R, k_f4⟩⟩
noncomputable def ru_y9d : Ru := ([(0, (1199, (0, (0, 0)))), (0, (1190, (0, (0, 0)))), (0, (1191, (0, (0, 0)))), (0, (1192, (0, (0, 0)))), (0, (1193, (0, (0, 0)))), (0, (1120, (0, (0, 0)))), (5, (110, (28, (0, 0)))), (4, (0, (0, (0, 0)))), (9, (1000, (7, (0, 31)))), (0, (1121, (0, (0, 0))))], ([], ([([(1, 1)], 19), ([(1, (-1))], (-19)), ([(2, 1), (5, (-1))], 0), ([(2, (-1)), (5, 1)], 0), ([(6, 1)], 2), ([(6, (-1))], (-2)), ([(8, (-1))], (-1))], (false, ([([(3, 1), (9, (-1))], 0), ([(3, (-1)), (9, 1)], 0), ([(4, 1)], (-1)), ([(4, (-1))], 1)], ([], ([], none)))))))
theorem rk_y9d : RuOk SR ru_y9d := by
  intro τ m g hi hc ha hS
  obtain ⟨i0, i1, i2, i3, i4, i5, i6, i7, i8, i9, _⟩ := hi
  have t1199 : τ 1199 = some (g 0) := i0
  have t1190 : τ 1190 = some (g 1) := i1
  have t1191 : τ 1191 = some (g 2) := i2
  have t1192 : τ 1192 = some (g 3) := i3
  have t1193 : τ 1193 = some (g 4) := i4
  have t1120 : τ 1120 = some (g 5) := i5
  have xk : g 6 = m 110 28 := i6
  have xo : g 7 = 0 := i7
  obtain ⟨jv, uv, vv⟩ : ∃ j : Nat, 0 * g 7 + 31 = (j : Int) ∧ g 8 = m 1000 j := i8
  have t1121 : τ 1121 = some (g 9) := i9
  obtain ⟨c0, c1, c2, c3, c4, c5, c6, _⟩ := hc
  have c0 : 1 * g 1 ≤ 19 := d1 c0
  have c1 : (-1) * g 1 ≤ (-19) := d1 c1
  have c2 : 1 * g 2 + (-1) * g 5 ≤ 0 := d2 c2
  have c3 : (-1) * g 2 + 1 * g 5 ≤ 0 := d2 c3
  have c4 : 1 * g 6 ≤ 2 := d1 c4
  have c5 : (-1) * g 6 ≤ (-2) := d1 c5
  have c6 : (-1) * g 8 ≤ (-1) := d1 c6
  obtain ⟨h0, k_tok, k_sc1, k_sc2, k_T, k_I, k_F, k_N, k_Y, k_Z, k_A, k_B, k_C, k_X, k_R, k_f4⟩ := hS (by rw [t1199]; exact fun e => by cases e)
  have k_T0 := k_T
  obtain ⟨h_T, h_TN, h_QZ⟩ := k_T0
  have k_Y0 := k_Y
  obtain ⟨h_Y0, h_Y⟩ := k_Y0
  obtain ⟨⟨hy1, hy2⟩, _⟩ := h_Y0 _ _ _ t1190 t1191 t1192
  obtain ⟨ry, hY1, hY2⟩ := h_Y _ _ _ _ t1190 t1191 t1192 t1193
  obtain ⟨hT0, ⟨hTa, hTk, hTp⟩, hT1, hT2, hT4⟩ := h_T _ t1120
  rw [show (g 1).toNat = 19 by omega, show (g 2).toNat = (g 5).toNat by omega] at hY1
  have hnv := hT2 (by omega)
  rw [show jv = 31 by omega] at vv
  have hN := h_TN _ _ t1120 t1121
  obtain ⟨y1, y2⟩ := hY2.1 (nx9t (tx9 m) (g 5).toNat) (RS9.det CM_det hY1 (q_9o (by omega) (by omega)))
  exact ⟨rfl, ⟨f2 (by omega), f2 (by omega), f1 (by omega), f1 (by omega), trivial⟩, trivial, fun _ => ⟨h0, k_tok, k_sc1, k_sc2, k_T, k_I, k_F, k_N, k_Y, k_Z, k_A, k_B, k_C, k_X, k_R, k_f4⟩⟩
noncomputable def ru_xD : Ru := ([], ([], ([], (false, ([], ([], ([(1170, none), (1171, none), (1172, none)], none)))))))
theorem rk_xD : RuOk SR ru_xD := by
  intro τ m g hi hc ha hS
  refine ⟨rfl, trivial, trivial, fun hM => ?_⟩
  obtain ⟨h0, k_tok, k_sc1, k_sc2, k_T, k_I, k_F, k_N, k_Y, k_Z, k_A, k_B, k_C, k_X, k_R, k_f4⟩ := hS hM
  have k_X0 := k_X
  obtain ⟨h_X0a, h_X0, h_X, h_Xe⟩ := k_X0
  exact ⟨h0, k_tok, k_sc1, k_sc2, k_T, k_I, k_F, k_N, k_Y, k_Z, k_A, k_B, k_C, ⟨fun _ _ e0 e1 => no9 (o := none) rfl e0, fun _ _ _ e0 e1 e2 => no9 (o := none) rfl e0, fun _ _ _ _ _ _ _ _ e0 e1 e2 e3 e4 e5 e6 e7 => no9 (o := none) rfl e0, fun _ _ _ e0 e1 e2 => no9 (o := none) rfl e1⟩, k_R, k_f4⟩
noncomputable def ru_yD : Ru := ([], ([], ([], (false, ([], ([], ([(1190, none), (1191, none), (1192, none), (1193, none)], none)))))))
theorem rk_yD : RuOk SR ru_yD := by
  intro τ m g hi hc ha hS
  refine ⟨rfl, trivial, trivial, fun hM => ?_⟩
  obtain ⟨h0, k_tok, k_sc1, k_sc2, k_T, k_I, k_F, k_N, k_Y, k_Z, k_A, k_B, k_C, k_X, k_R, k_f4⟩ := hS hM
  have k_Y0 := k_Y
  obtain ⟨h_Y0, h_Y⟩ := k_Y0
  exact ⟨h0, k_tok, k_sc1, k_sc2, k_T, k_I, k_F, k_N, ⟨fun _ _ _ e0 e1 e2 => no9 (o := none) rfl e0, fun _ _ _ _ e0 e1 e2 e3 => no9 (o := none) rfl e0⟩, k_Z, k_A, k_B, k_C, k_X, k_R, k_f4⟩
noncomputable def ru_ma : Ru := ([(4, (0, (0, (0, 0)))), (5, (110, (1, (0, 0))))], ([1199, 1100, 1101, 1102, 1103, 1105, 1120, 1128, 1123, 1125, 1150, 1153, 1184, 1208, 1190, 1197, 1140, 1201, 1170, 1155, 1160, 1206], ([([(1, (-1))], 0), ([(1, 1)], 1200)], (false, ([], ([], ([(1199, some (0, 0))], none)))))))
theorem rk_ma : RuOk SR ru_ma := by
  intro τ m g hi hc ha hS
  obtain ⟨i0, i1, _⟩ := hi
  have xo : g 0 = 0 := i0
  have xL : g 1 = m 110 1 := i1
  obtain ⟨c0, c1, _⟩ := hc
  have c0 : (-1) * g 1 ≤ 0 := d1 c0
  have c1 : 1 * g 1 ≤ 1200 := d1 c1
  obtain ⟨a0, a1, a2, a3, a4, a5, a6, a7, a8, a9, a10, a11, a12, a13, a14, a15, a16, a17, a18, a19, a20, a21, _⟩ := ha
  have n1199 : τ 1199 = none := a0
  have n1100 : τ 1100 = none := a1
  have n1101 : τ 1101 = none := a2
  have n1102 : τ 1102 = none := a3
  have n1103 : τ 1103 = none := a4
  have n1105 : τ 1105 = none := a5
  have n1120 : τ 1120 = none := a6
  have n1128 : τ 1128 = none := a7
  have n1123 : τ 1123 = none := a8
  have n1125 : τ 1125 = none := a9
  have n1150 : τ 1150 = none := a10
  have n1153 : τ 1153 = none := a11
  have n1184 : τ 1184 = none := a12
  have n1208 : τ 1208 = none := a13
  have n1190 : τ 1190 = none := a14
  have n1197 : τ 1197 = none := a15
  have n1140 : τ 1140 = none := a16
  have n1201 : τ 1201 = none := a17
  have n1170 : τ 1170 = none := a18
  have n1155 : τ 1155 = none := a19
  have n1160 : τ 1160 = none := a20
  have n1206 : τ 1206 = none := a21
  refine ⟨rfl, trivial, trivial, fun _ => ⟨⟨by omega, by omega⟩, ⟨fun _ e0 => no9 n1100 e0, fun _ e0 => no9 n1101 e0, fun _ e0 => no9 n1102 e0⟩, ⟨fun _ _ e0 e1 => no9 n1103 e0, fun _ _ e0 e1 => no9 n1101 e0, fun _ e0 => no9 n1105 e0, fun _ _ e0 e1 => no9 n1101 e0, fun _ _ e0 e1 => no9 n1101 e0⟩, ⟨fun _ _ _ e0 e1 e2 => no9 n1105 e0, fun _ _ _ e0 e1 e2 => no9 n1105 e0, fun _ _ _ e0 e1 e2 => no9 n1105 e0, fun _ _ e0 e1 => no9 n1105 e0, fun _ _ _ e0 e1 e2 => no9 n1105 e0, fun _ _ _ e0 e1 e2 => no9 n1105 e0, fun _ _ _ _ e0 e1 e2 e3 => no9 n1105 e0, fun _ _ _ _ e0 e1 e2 e3 => no9 n1105 e0⟩, ⟨fun _ e0 => no9 n1120 e0, fun _ _ e0 e1 => no9 n1120 e0, fun _ _ e0 e1 => no9 n1128 e0⟩, ⟨fun _ e0 => no9 n1123 e0, fun _ _ e0 e1 => no9 n1123 e0, fun _ _ _ e0 e1 e2 => no9 n1102 e0, fun _ _ _ e0 e1 e2 => no9 n1123 e1, fun _ _ e0 e1 => no9 n1125 e0, fun _ _ _ e0 e1 e2 => no9 n1125 e0⟩, ⟨fun _ _ e0 e1 => no9 n1150 e0, fun _ _ _ e0 e1 e2 => no9 n1150 e0, fun _ _ e0 e1 => no9 n1150 e0, fun _ _ e0 e1 => no9 n1153 e0⟩, ⟨fun _ _ _ e0 e1 e2 => no9 n1184 e0, fun _ _ _ _ _ e0 e1 e2 e3 e4 => no9 n1184 e0, fun _ _ e0 e1 => no9 n1208 e0, fun _ _ e0 e1 => no9 n1208 e0⟩, ⟨fun _ _ _ e0 e1 e2 => no9 n1190 e0, fun _ _ _ _ e0 e1 e2 e3 => no9 n1190 e0⟩, ⟨fun _ e0 => no9 n1197 e0, fun _ _ e0 e1 => no9 n1197 e0, fun _ _ _ _ _ e0 e1 e2 e3 e4 => no9 n1197 e3⟩, ⟨fun _ _ _ _ _ e0 e1 e2 e3 e4 => no9 n1102 e0, fun _ _ _ _ _ _ e0 e1 e2 e3 e4 e5 => no9 n1102 e0⟩, ⟨fun _ _ _ _ _ e0 e1 e2 e3 e4 => no9 n1102 e0, fun _ _ _ _ _ _ e0 e1 e2 e3 e4 e5 => no9 n1102 e0, fun _ e0 => no9 n1140 e0, fun _ _ _ e0 e1 e2 => no9 n1140 e0, fun _ _ _ _ e0 e1 e2 e3 => no9 n1140 e0, fun _ _ _ e0 e1 e2 => no9 n1102 e0⟩, ⟨fun _ _ _ _ _ e0 e1 e2 e3 e4 => no9 n1102 e0, fun _ _ _ _ _ _ e0 e1 e2 e3 e4 e5 => no9 n1102 e0, fun _ e0 => no9 n1201 e0, fun _ _ e0 e1 => no9 n1201 e0⟩, ⟨fun _ _ e0 e1 => no9 n1170 e0, fun _ _ _ e0 e1 e2 => no9 n1170 e0, fun _ _ _ _ _ _ _ _ e0 e1 e2 e3 e4 e5 e6 e7 => no9 n1170 e0, fun _ _ _ e0 e1 e2 => no9 n1155 e0⟩, ⟨fun _ _ e0 e1 => no9 n1160 e0, fun _ _ _ e0 e1 e2 => no9 n1160 e0, fun _ _ _ _ _ e0 e1 e2 e3 e4 => no9 n1160 e0, fun _ _ _ e0 e1 e2 => no9 n1160 e0, fun _ _ _ e0 e1 e2 => no9 n1160 e0, fun _ _ _ _ _ _ e0 e1 e2 e3 e4 e5 => no9 n1160 e0, fun _ _ _ e0 e1 e2 => no9 n1160 e0⟩, fun _ _ e0 e1 => no9 n1206 e0⟩⟩
noncomputable def ru_mk0b : Ru := ([(0, (1199, (0, (0, 0)))), (0, (1120, (0, (0, 0)))), (0, (1123, (0, (0, 0)))), (0, (1124, (0, (0, 0)))), (5, (110, (28, (0, 0))))], ([], ([([(1, (-1)), (2, 1)], 0), ([(1, 1), (2, (-1))], 0), ([(4, 1)], 0), ([(4, (-1))], 0), ([(3, (-1))], (-2))], (true, ([], ([], ([], none)))))))
theorem rk_mk0b : RuOk SR ru_mk0b := by
  intro τ m g hi hc ha hS
  obtain ⟨i0, i1, i2, i3, i4, _⟩ := hi
  have t1199 : τ 1199 = some (g 0) := i0
  have t1120 : τ 1120 = some (g 1) := i1
  have t1123 : τ 1123 = some (g 2) := i2
  have t1124 : τ 1124 = some (g 3) := i3
  have xk : g 4 = m 110 28 := i4
  obtain ⟨c0, c1, c2, c3, c4, _⟩ := hc
  have c0 : (-1) * g 1 + 1 * g 2 ≤ 0 := d2 c0
  have c1 : 1 * g 1 + (-1) * g 2 ≤ 0 := d2 c1
  have c2 : 1 * g 4 ≤ 0 := d1 c2
  have c3 : (-1) * g 4 ≤ 0 := d1 c3
  have c4 : (-1) * g 3 ≤ (-2) := d1 c4
  obtain ⟨h0, k_tok, k_sc1, k_sc2, k_T, k_I, k_F, k_N, k_Y, k_Z, k_A, k_B, k_C, k_X, k_R, k_f4⟩ := hS (by rw [t1199]; exact fun e => by cases e)
  have k_T0 := k_T
  obtain ⟨h_T, h_TN, h_QZ⟩ := k_T0
  have k_I0 := k_I
  obtain ⟨h_p, h_pc, h_ip, h_iP, h_PC, h_PN⟩ := k_I0
  have hXL : ((tx9 m).2 : Int) = m 110 1 := by
    show (((m 110 1).toNat : Nat) : Int) = _
    omega
  obtain ⟨⟨hT1, hT2⟩, ⟨hTa, hTk, hTp⟩, _⟩ := h_T _ t1120
  have hnL := nx_P (m := m) (p := (g 1).toNat) (by omega)
  have hte := te_P (m := m) (p := (g 1).toNat) (by omega)
  have hcc := h_pc _ _ t1123 t1124
  rw [show (g 2).toNat = (g 1).toNat by omega] at hcc
  have hko := kd_of (X := tx9 m) (p := (g 1).toNat)
  exfalso
  omega
noncomputable def ru_zF : Ru := ([], ([], ([], (false, ([], ([], ([(1194, none), (1195, none), (1196, none), (1120, none), (1121, none), (1123, none), (1124, none)], none)))))))
theorem rk_zF : RuOk SR ru_zF := by
  intro τ m g hi hc ha hS
  refine ⟨rfl, trivial, trivial, fun hM => ?_⟩
  obtain ⟨h0, k_tok, k_sc1, k_sc2, k_T, k_I, k_F, k_N, k_Y, k_Z, k_A, k_B, k_C, k_X, k_R, k_f4⟩ := hS hM
  have k_T0 := k_T
  obtain ⟨h_T, h_TN, h_QZ⟩ := k_T0
  have k_I0 := k_I
  obtain ⟨h_p, h_pc, h_ip, h_iP, h_PC, h_PN⟩ := k_I0
  have k_Z0 := k_Z
  obtain ⟨h_Z0, h_Z1, h_Z⟩ := k_Z0
  exact ⟨h0, k_tok, k_sc1, k_sc2, ⟨fun _ e0 => no9 (o := none) rfl e0, fun _ _ e0 e1 => no9 (o := none) rfl e0, h_QZ⟩, ⟨fun _ e0 => no9 (o := none) rfl e0, fun _ _ e0 e1 => no9 (o := none) rfl e0, fun _ _ _ e0 e1 e2 => no9 (o := none) rfl e2, fun _ _ _ e0 e1 e2 => no9 (o := none) rfl e1, h_PC, h_PN⟩, k_F, k_N, k_Y, ⟨h_Z0, h_Z1, fun _ _ _ _ _ e0 e1 e2 e3 e4 => no9 (o := none) rfl e0⟩, k_A, k_B, k_C, k_X, k_R, k_f4⟩
noncomputable def ru_zo1 : Ru := ([(0, (1199, (0, (0, 0))))], ([1194, 1195, 1196, 1197, 1198], ([], (false, ([], ([], ([], some (1197, ((-1), 30)))))))))
theorem rk_zo1 : RuOk SR ru_zo1 := by
  intro τ m g hi hc ha hS
  obtain ⟨i0, _⟩ := hi
  have t1199 : τ 1199 = some (g 0) := i0
  obtain ⟨a0, a1, a2, a3, a4, _⟩ := ha
  have n1194 : τ 1194 = none := a0
  have n1195 : τ 1195 = none := a1
  have n1196 : τ 1196 = none := a2
  have n1197 : τ 1197 = none := a3
  have n1198 : τ 1198 = none := a4
  obtain ⟨h0, k_tok, k_sc1, k_sc2, k_T, k_I, k_F, k_N, k_Y, k_Z, k_A, k_B, k_C, k_X, k_R, k_f4⟩ := hS (by rw [t1199]; exact fun e => by cases e)
  have k_Z0 := k_Z
  obtain ⟨h_Z0, h_Z1, h_Z⟩ := k_Z0
  have hXL : ((tx9 m).2 : Int) = m 110 1 := by
    show (((m 110 1).toNat : Nat) : Int) = _
    omega
  obtain ⟨rz, hz1, hz2, hz3⟩ := PoR_ex (X := tx9 m) (w := wl9 m) (n := 30) (k := 0) (p := Tp9 (tx9 m) 0) St_L
  obtain ⟨x0, xb, hxe⟩ := YE_ex rz
  obtain ⟨x1, x2⟩ : -1 ≤ x0 ∧ x0 ≤ 30 := by
    cases rz with
    | ofNat j => have := hz2 j rfl; have := hxe.1 j rfl; omega
    | negSucc f => have := hxe.2 f rfl; omega
  exact ⟨rfl, trivial, trivial, x0, x1, x2, fun _ => ⟨h0, k_tok, k_sc1, k_sc2, k_T, k_I, k_F, k_N, k_Y, ⟨fun Z1 e0 => by
      have e0 : x0 = Z1 := Option.some.inj e0
      subst e0
      exact ⟨rz, xb, hz1, hxe⟩, fun _ _ e0 e1 => no9 n1198 e1, fun _ _ _ _ _ e0 e1 e2 e3 e4 => no9 n1194 e0⟩, k_A, k_B, k_C, k_X, k_R, k_f4⟩⟩
noncomputable def ru_zo2 : Ru := ([(0, (1199, (0, (0, 0)))), (0, (1197, (0, (0, 0))))], ([1194, 1195, 1196, 1198], ([], (false, ([], ([], ([], some (1198, ((-1), 1200)))))))))
theorem rk_zo2 : RuOk SR ru_zo2 := by
  intro τ m g hi hc ha hS
  obtain ⟨i0, i1, _⟩ := hi
  have t1199 : τ 1199 = some (g 0) := i0
  have t1197 : τ 1197 = some (g 1) := i1
  obtain ⟨a0, a1, a2, a3, _⟩ := ha
  have n1194 : τ 1194 = none := a0
  have n1195 : τ 1195 = none := a1
  have n1196 : τ 1196 = none := a2
  have n1198 : τ 1198 = none := a3
  obtain ⟨h0, k_tok, k_sc1, k_sc2, k_T, k_I, k_F, k_N, k_Y, k_Z, k_A, k_B, k_C, k_X, k_R, k_f4⟩ := hS (by rw [t1199]; exact fun e => by cases e)
  have k_Z0 := k_Z
  obtain ⟨h_Z0, h_Z1, h_Z⟩ := k_Z0
  have hXL : ((tx9 m).2 : Int) = m 110 1 := by
    show (((m 110 1).toNat : Nat) : Int) = _
    omega
  obtain ⟨rz, hz1, hz2, hz3⟩ := PoR_ex (X := tx9 m) (w := wl9 m) (n := 30) (k := 0) (p := Tp9 (tx9 m) 0) St_L
  obtain ⟨r0, x0, hr0, hxe⟩ := h_Z0 _ t1197
  have er := PoR.det hr0 hz1
  subst er
  obtain ⟨x1, x2⟩ : -1 ≤ x0 ∧ x0 ≤ 1200 := by
    cases r0 with
    | ofNat j => have := hxe.1 j rfl; omega
    | negSucc f => have := hxe.2 f rfl; have := hz3 f rfl; omega
  exact ⟨rfl, trivial, trivial, x0, x1, x2, fun _ => ⟨h0, k_tok, k_sc1, k_sc2, k_T, k_I, k_F, k_N, k_Y, ⟨h_Z0, fun Z1 Zx e0 e1 => by
      have e0 : g 1 = Z1 := Option.some.inj (t1197.symm.trans e0)
      subst e0
      have e1 : x0 = Zx := Option.some.inj e1
      subst e1
      exact ⟨r0, hr0, hxe⟩, fun _ _ _ _ _ e0 e1 e2 e3 e4 => no9 n1194 e0⟩, k_A, k_B, k_C, k_X, k_R, k_f4⟩⟩
noncomputable def ru_zIn : Ru := ([(0, (1199, (0, (0, 0)))), (0, (1197, (0, (0, 0)))), (0, (1198, (0, (0, 0)))), (0, (1103, (0, (0, 0)))), (0, (1104, (0, (0, 0)))), (4, (0, (0, (0, 0))))], ([1194, 1195, 1196], ([([(3, 1)], 0), ([(3, (-1))], 0)], (false, ([], ([], ([(1194, some (5, 0)), (1195, some (5, 0)), (1196, some (4, 0))], none)))))))
theorem rk_zIn : RuOk SR ru_zIn := by
  intro τ m g hi hc ha hS
  obtain ⟨i0, i1, i2, i3, i4, i5, _⟩ := hi
  have t1199 : τ 1199 = some (g 0) := i0
  have t1197 : τ 1197 = some (g 1) := i1
  have t1198 : τ 1198 = some (g 2) := i2
  have t1103 : τ 1103 = some (g 3) := i3
  have t1104 : τ 1104 = some (g 4) := i4
  have xo : g 5 = 0 := i5
  obtain ⟨c0, c1, _⟩ := hc
  have c0 : 1 * g 3 ≤ 0 := d1 c0
  have c1 : (-1) * g 3 ≤ 0 := d1 c1
  obtain ⟨a0, a1, a2, _⟩ := ha
  have n1194 : τ 1194 = none := a0
  have n1195 : τ 1195 = none := a1
  have n1196 : τ 1196 = none := a2
  obtain ⟨h0, k_tok, k_sc1, k_sc2, k_T, k_I, k_F, k_N, k_Y, k_Z, k_A, k_B, k_C, k_X, k_R, k_f4⟩ := hS (by rw [t1199]; exact fun e => by cases e)
  have k_sc10 := k_sc1
  obtain ⟨h_qz, h_nz, h_s, h_ns, h_nE⟩ := k_sc10
  have k_Z0 := k_Z
  obtain ⟨h_Z0, h_Z1, h_Z⟩ := k_Z0
  have hXL : ((tx9 m).2 : Int) = m 110 1 := by
    show (((m 110 1).toNat : Nat) : Int) = _
    omega
  obtain ⟨r0, hr0, hxe⟩ := h_Z1 _ _ t1197 t1198
  obtain ⟨_, hq3⟩ := h_qz _ _ t1103 t1104
  rw [show (g 3).toNat = 0 by omega] at hq3
  have hSL := St_L (X := tx9 m) (i := 0)
  have hS0 : g 4 = (Tp9 (tx9 m) 0 : Int) := hq3
  exact ⟨rfl, trivial, trivial, fun _ => ⟨h0, k_tok, k_sc1, k_sc2, k_T, k_I, k_F, k_N, k_Y, ⟨h_Z0, h_Z1, fun Zm Zk Zp Z1 Zx e0 e1 e2 e3 e4 => by
      have e0 : g 5 + 0 = Zm := Option.some.inj e0
      subst e0
      have e1 : g 5 + 0 = Zk := Option.some.inj e1
      subst e1
      have e2 : g 4 + 0 = Zp := Option.some.inj e2
      subst e2
      have e3 : g 1 = Z1 := Option.some.inj (t1197.symm.trans e3)
      subst e3
      have e4 : g 2 = Zx := Option.some.inj (t1198.symm.trans e4)
      subst e4
      refine ⟨⟨⟨by omega, by omega⟩, ⟨by omega, by omega⟩⟩, r0, hxe, Or.inl ⟨by omega, ?_⟩⟩
      rw [show (g 5 + 0).toNat = 0 by omega, show (g 4 + 0).toNat = Tp9 (tx9 m) 0 by omega]
      exact hr0⟩, k_A, k_B, k_C, k_X, k_R, k_f4⟩⟩
end
