noncomputable section
/-! ===== THE READER, 75: rules ===== -/
noncomputable def ru_rod : Ru := ([(0, (1199, (0, (0, 0)))), (0, (1160, (0, (0, 0)))), (0, (1161, (0, (0, 0)))), (0, (1162, (0, (0, 0)))), (0, (1163, (0, (0, 0)))), (0, (1164, (0, (0, 0)))), (0, (1167, (0, (0, 0))))], ([1165, 1166], ([], (false, ([], ([], ([], some (1165, (0, 2000)))))))))
theorem rk_rod : RuOk SR ru_rod := by
  intro τ m g hi hc ha hS
  obtain ⟨i0, i1, i2, i3, i4, i5, i6, _⟩ := hi
  have t1199 : τ 1199 = some (g 0) := i0
  have t1160 : τ 1160 = some (g 1) := i1
  have t1161 : τ 1161 = some (g 2) := i2
  have t1162 : τ 1162 = some (g 3) := i3
  have t1163 : τ 1163 = some (g 4) := i4
  have t1164 : τ 1164 = some (g 5) := i5
  have t1167 : τ 1167 = some (g 6) := i6
  obtain ⟨a0, a1, _⟩ := ha
  have n1165 : τ 1165 = none := a0
  have n1166 : τ 1166 = none := a1
  obtain ⟨h0, k_tok, k_sc1, k_sc2, k_T, k_I, k_F, k_N, k_Y, k_Z, k_A, k_B, k_C, k_X, k_R, k_f4⟩ := hS (by rw [t1199]; exact fun e => by cases e)
  have k_R0 := k_R
  obtain ⟨h_rb, h_rh, h_rw, h_rg, h_rd, h_rc, h_rq⟩ := k_R0
  obtain ⟨ho0, ⟨hb0, hb1⟩, hRb⟩ := h_rb _ _ t1160 t1161
  obtain ⟨hh1, hh2, hwk⟩ := h_rh _ _ _ t1160 t1161 t1162
  obtain ⟨hg1, hg2⟩ := h_rg _ _ _ t1160 t1162 t1167
  have hw := h_rw _ _ _ _ _ t1160 t1161 t1162 t1163 t1164
  have hdl := dlX_le (m := m) (r := (g 4).toNat) (a := (g 2).toNat) (n := (g 3).toNat - (g 2).toNat)
  have hcn := cnX_le (m := m) (a := (g 5).toNat) (n := (g 3).toNat) (by omega)
  obtain ⟨x0, hx0⟩ : ∃ x0 : Int, x0 = g 1 + (cnX m (g 5).toNat : Int) := ⟨_, rfl⟩
  have x1 : 0 ≤ x0 := by omega
  have x2 : x0 ≤ 2000 := by omega
  exact ⟨rfl, trivial, trivial, x0, x1, x2, fun _ => ⟨h0, k_tok, k_sc1, k_sc2, k_T, k_I, k_F, k_N, k_Y, k_Z, k_A, k_B, k_C, k_X, ⟨h_rb, h_rh, h_rw, h_rg, fun Ro Rw Rd e0 e1 e2 => by
      have e0 : g 1 = Ro := Option.some.inj (t1160.symm.trans e0)
      subst e0
      have e1 : g 5 = Rw := Option.some.inj (t1164.symm.trans e1)
      subst e1
      have e2 : x0 = Rd := Option.some.inj e2
      subst e2
      exact hx0, h_rc, h_rq⟩, k_f4⟩⟩
noncomputable def ru_rof : Ru := ([(0, (1199, (0, (0, 0)))), (0, (1160, (0, (0, 0)))), (0, (1161, (0, (0, 0)))), (0, (1162, (0, (0, 0)))), (0, (1163, (0, (0, 0)))), (0, (1164, (0, (0, 0)))), (0, (1165, (0, (0, 0)))), (0, (1167, (0, (0, 0))))], ([1166], ([], (false, ([([(3, (-1)), (5, 1)], 0), ([(2, 1), (5, (-1))], 0), ([(6, 1), (7, (-1))], 0), ([(1, 1), (6, (-1))], 0)], ([], ([], none)))))))
theorem rk_rof : RuOk SR ru_rof := by
  intro τ m g hi hc ha hS
  obtain ⟨i0, i1, i2, i3, i4, i5, i6, i7, _⟩ := hi
  have t1199 : τ 1199 = some (g 0) := i0
  have t1160 : τ 1160 = some (g 1) := i1
  have t1161 : τ 1161 = some (g 2) := i2
  have t1162 : τ 1162 = some (g 3) := i3
  have t1163 : τ 1163 = some (g 4) := i4
  have t1164 : τ 1164 = some (g 5) := i5
  have t1165 : τ 1165 = some (g 6) := i6
  have t1167 : τ 1167 = some (g 7) := i7
  obtain ⟨a0, _⟩ := ha
  have n1166 : τ 1166 = none := a0
  obtain ⟨h0, k_tok, k_sc1, k_sc2, k_T, k_I, k_F, k_N, k_Y, k_Z, k_A, k_B, k_C, k_X, k_R, k_f4⟩ := hS (by rw [t1199]; exact fun e => by cases e)
  have k_R0 := k_R
  obtain ⟨h_rb, h_rh, h_rw, h_rg, h_rd, h_rc, h_rq⟩ := k_R0
  obtain ⟨ho0, ⟨hb0, hb1⟩, hRb⟩ := h_rb _ _ t1160 t1161
  obtain ⟨hh1, hh2, hwk⟩ := h_rh _ _ _ t1160 t1161 t1162
  obtain ⟨hg1, hg2⟩ := h_rg _ _ _ t1160 t1162 t1167
  have hw := h_rw _ _ _ _ _ t1160 t1161 t1162 t1163 t1164
  have hd := h_rd _ _ _ t1160 t1164 t1165
  have hdl := dlX_le (m := m) (r := (g 4).toNat) (a := (g 2).toNat) (n := (g 3).toNat - (g 2).toNat)
  have hcn := cnX_le (m := m) (a := (g 5).toNat) (n := (g 3).toNat) (by omega)
  exact ⟨rfl, ⟨f2 (by omega), f2 (by omega), f2 (by omega), f2 (by omega), trivial⟩, trivial, fun _ => ⟨h0, k_tok, k_sc1, k_sc2, k_T, k_I, k_F, k_N, k_Y, k_Z, k_A, k_B, k_C, k_X, k_R, k_f4⟩⟩
noncomputable def ru_roz : Ru := ([(0, (1199, (0, (0, 0)))), (0, (1160, (0, (0, 0)))), (0, (1161, (0, (0, 0)))), (0, (1162, (0, (0, 0)))), (0, (1163, (0, (0, 0)))), (0, (1164, (0, (0, 0)))), (0, (1165, (0, (0, 0))))], ([], ([([(4, 1)], 0), ([(4, (-1))], 0)], (false, ([([(2, (-1)), (5, 1)], 0), ([(2, 1), (5, (-1))], 0)], ([], ([], none)))))))
theorem rk_roz : RuOk SR ru_roz := by
  intro τ m g hi hc ha hS
  obtain ⟨i0, i1, i2, i3, i4, i5, i6, _⟩ := hi
  have t1199 : τ 1199 = some (g 0) := i0
  have t1160 : τ 1160 = some (g 1) := i1
  have t1161 : τ 1161 = some (g 2) := i2
  have t1162 : τ 1162 = some (g 3) := i3
  have t1163 : τ 1163 = some (g 4) := i4
  have t1164 : τ 1164 = some (g 5) := i5
  have t1165 : τ 1165 = some (g 6) := i6
  obtain ⟨c0, c1, _⟩ := hc
  have c0 : 1 * g 4 ≤ 0 := d1 c0
  have c1 : (-1) * g 4 ≤ 0 := d1 c1
  obtain ⟨h0, k_tok, k_sc1, k_sc2, k_T, k_I, k_F, k_N, k_Y, k_Z, k_A, k_B, k_C, k_X, k_R, k_f4⟩ := hS (by rw [t1199]; exact fun e => by cases e)
  have k_R0 := k_R
  obtain ⟨h_rb, h_rh, h_rw, h_rg, h_rd, h_rc, h_rq⟩ := k_R0
  have hw := h_rw _ _ _ _ _ t1160 t1161 t1162 t1163 t1164
  rw [show (g 4).toNat = 0 by omega, dlX_0] at hw
  exact ⟨rfl, ⟨f2 (by omega), f2 (by omega), trivial⟩, trivial, fun _ => ⟨h0, k_tok, k_sc1, k_sc2, k_T, k_I, k_F, k_N, k_Y, k_Z, k_A, k_B, k_C, k_X, k_R, k_f4⟩⟩
noncomputable def ru_rdr : Ru := ([], ([], ([], (false, ([], ([], ([(1160, none), (1161, none), (1162, none), (1163, none), (1164, none), (1165, none), (1166, none), (1167, none), (1168, none)], none)))))))
theorem rk_rdr : RuOk SR ru_rdr := by
  intro τ m g hi hc ha hS
  refine ⟨rfl, trivial, trivial, fun hM => ?_⟩
  obtain ⟨h0, k_tok, k_sc1, k_sc2, k_T, k_I, k_F, k_N, k_Y, k_Z, k_A, k_B, k_C, k_X, k_R, k_f4⟩ := hS hM
  have k_R0 := k_R
  obtain ⟨h_rb, h_rh, h_rw, h_rg, h_rd, h_rc, h_rq⟩ := k_R0
  exact ⟨h0, k_tok, k_sc1, k_sc2, k_T, k_I, k_F, k_N, k_Y, k_Z, k_A, k_B, k_C, k_X, ⟨fun _ _ e0 e1 => no9 (o := none) rfl e0, fun _ _ _ e0 e1 e2 => no9 (o := none) rfl e0, fun _ _ _ _ _ e0 e1 e2 e3 e4 => no9 (o := none) rfl e0, fun _ _ _ e0 e1 e2 => no9 (o := none) rfl e0, fun _ _ _ e0 e1 e2 => no9 (o := none) rfl e0, fun _ _ _ _ _ _ e0 e1 e2 e3 e4 e5 => no9 (o := none) rfl e0, fun _ _ _ e0 e1 e2 => no9 (o := none) rfl e0⟩, k_f4⟩
noncomputable def ru_xo1 : Ru := ([(0, (1199, (0, (0, 0)))), (0, (1120, (0, (0, 0))))], ([1170, 1171, 1172, 1173, 1174, 1175, 1176, 1177, 1178, 1179, 1180, 1181, 1182], ([], (false, ([], ([], ([(1172, some (1, 0))], some (1170, ((-1), 1200)))))))))
theorem rk_xo1 : RuOk SR ru_xo1 := by
  intro τ m g hi hc ha hS
  obtain ⟨i0, i1, _⟩ := hi
  have t1199 : τ 1199 = some (g 0) := i0
  have t1120 : τ 1120 = some (g 1) := i1
  obtain ⟨a0, a1, a2, a3, a4, a5, a6, a7, a8, a9, a10, a11, a12, _⟩ := ha
  have n1170 : τ 1170 = none := a0
  have n1171 : τ 1171 = none := a1
  have n1172 : τ 1172 = none := a2
  have n1173 : τ 1173 = none := a3
  have n1174 : τ 1174 = none := a4
  have n1175 : τ 1175 = none := a5
  have n1176 : τ 1176 = none := a6
  have n1177 : τ 1177 = none := a7
  have n1178 : τ 1178 = none := a8
  have n1179 : τ 1179 = none := a9
  have n1180 : τ 1180 = none := a10
  have n1181 : τ 1181 = none := a11
  have n1182 : τ 1182 = none := a12
  obtain ⟨h0, k_tok, k_sc1, k_sc2, k_T, k_I, k_F, k_N, k_Y, k_Z, k_A, k_B, k_C, k_X, k_R, k_f4⟩ := hS (by rw [t1199]; exact fun e => by cases e)
  have k_T0 := k_T
  obtain ⟨h_T, h_TN, h_QZ⟩ := k_T0
  have k_X0 := k_X
  obtain ⟨h_X0a, h_X0, h_X, h_Xe⟩ := k_X0
  have hXL : ((tx9 m).2 : Int) = m 110 1 := by
    show (((m 110 1).toNat : Nat) : Int) = _
    omega
  obtain ⟨⟨hT1, hT2⟩, ⟨hTa, hTk, hTp⟩, _⟩ := h_T _ t1120
  have hnL := nx_P (m := m) (p := (g 1).toNat) (by omega)
  have hte := te_P (m := m) (p := (g 1).toNat) (by omega)
  obtain ⟨rx, hrx⟩ := CM_ex (X := tx9 m) (g 1).toNat (show (g 1).toNat ≤ (m 110 1).toNat by omega)
  have hcl := CM_cl (X := tx9 m) (g 1).toNat rx (show (g 1).toNat ≤ (tx9 m).2 by omega) hrx
  obtain ⟨x0, xb, hxe⟩ := YE_ex rx
  obtain ⟨x1, x2⟩ : -1 ≤ x0 ∧ x0 ≤ (1200 : Nat) := YE_b hxe (by have hcl : At9 rx ≤ (tx9 m).2 := hcl; omega)
  exact ⟨rfl, trivial, trivial, x0, x1, x2, fun _ => ⟨h0, k_tok, k_sc1, k_sc2, k_T, k_I, k_F, k_N, k_Y, k_Z, k_A, k_B, k_C, ⟨fun X1 Xp e0 e1 => by
      have e0 : x0 = X1 := Option.some.inj e0
      subst e0
      have e1 : g 1 + 0 = Xp := Option.some.inj e1
      subst e1
      intro _
      rw [Int.add_zero]
      exact ⟨⟨by omega, by omega⟩, rx, xb, hrx, hxe⟩, fun _ _ _ e0 e1 e2 => no9 n1171 e1, fun _ _ _ _ _ _ _ _ e0 e1 e2 e3 e4 e5 e6 e7 => no9 n1171 e1, fun _ _ _ e0 e1 e2 => no9 n1174 e2⟩, k_R, k_f4⟩⟩
noncomputable def ru_xo2 : Ru := ([(0, (1199, (0, (0, 0)))), (0, (1170, (0, (0, 0)))), (0, (1172, (0, (0, 0))))], ([1171, 1173], ([], (false, ([], ([], ([], some (1171, ((-1), 1200)))))))))
theorem rk_xo2 : RuOk SR ru_xo2 := by
  intro τ m g hi hc ha hS
  obtain ⟨i0, i1, i2, _⟩ := hi
  have t1199 : τ 1199 = some (g 0) := i0
  have t1170 : τ 1170 = some (g 1) := i1
  have t1172 : τ 1172 = some (g 2) := i2
  obtain ⟨a0, a1, _⟩ := ha
  have n1171 : τ 1171 = none := a0
  have n1173 : τ 1173 = none := a1
  obtain ⟨h0, k_tok, k_sc1, k_sc2, k_T, k_I, k_F, k_N, k_Y, k_Z, k_A, k_B, k_C, k_X, k_R, k_f4⟩ := hS (by rw [t1199]; exact fun e => by cases e)
  have k_X0 := k_X
  obtain ⟨h_X0a, h_X0, h_X, h_Xe⟩ := k_X0
  have hXL : ((tx9 m).2 : Int) = m 110 1 := by
    show (((m 110 1).toNat : Nat) : Int) = _
    omega
  obtain ⟨⟨hp1, hp2⟩, rx, x0, hrx, hxe⟩ := h_X0a _ _ t1170 t1172 n1173
  have hcl := CM_cl (X := tx9 m) (g 2).toNat rx (show (g 2).toNat ≤ (tx9 m).2 by omega) hrx
  obtain ⟨x1, x2⟩ : -1 ≤ x0 ∧ x0 ≤ (1200 : Nat) := YE_b2 hxe (by have hcl : At9 rx ≤ (tx9 m).2 := hcl; omega)
  exact ⟨rfl, trivial, trivial, x0, x1, x2, fun _ => ⟨h0, k_tok, k_sc1, k_sc2, k_T, k_I, k_F, k_N, k_Y, k_Z, k_A, k_B, k_C, ⟨h_X0a, fun X1 X2 Xp e0 e1 e2 => by
      have e0 : g 1 = X1 := Option.some.inj (t1170.symm.trans e0)
      subst e0
      have e1 : x0 = X2 := Option.some.inj e1
      subst e1
      have e2 : g 2 = Xp := Option.some.inj (t1172.symm.trans e2)
      subst e2
      intro _
      exact ⟨rx, hrx, hxe⟩, fun _ _ _ _ _ _ _ _ e0 e1 e2 e3 e4 e5 e6 e7 => no9 n1173 e3, h_Xe⟩, k_R, k_f4⟩⟩
noncomputable def ru_xIn : Ru := ([(0, (1199, (0, (0, 0)))), (0, (1170, (0, (0, 0)))), (0, (1171, (0, (0, 0)))), (0, (1172, (0, (0, 0)))), (4, (0, (0, (0, 0)))), (4, (0, (0, (1, 0)))), (6, (143, (4, (0, 0)))), (6, (144, (4, (0, 0)))), (6, (145, (4, (0, 0)))), (6, (146, (4, (0, 0))))], ([1173, 1174, 1175, 1176, 1177, 1155, 1178, 1179, 1180, 1181, 1182], ([([(6, 1)], 0), ([(6, (-1))], 0), ([(7, 1)], 1), ([(7, (-1))], (-1)), ([(8, 1)], 0), ([(8, (-1))], 0), ([(9, 1)], 0), ([(9, (-1))], 0)], (false, ([], ([], ([(1173, some (5, 0)), (1174, some (5, 0)), (1175, some (4, 0)), (1176, some (4, 0)), (1177, some (4, 0))], none)))))))
theorem rk_xIn : RuOk SR ru_xIn := by
  intro τ m g hi hc ha hS
  obtain ⟨i0, i1, i2, i3, i4, i5, i6, i7, i8, i9, _⟩ := hi
  have t1199 : τ 1199 = some (g 0) := i0
  have t1170 : τ 1170 = some (g 1) := i1
  have t1171 : τ 1171 = some (g 2) := i2
  have t1172 : τ 1172 = some (g 3) := i3
  have xo : g 4 = 0 := i4
  have xone : g 5 = 1 := i5
  obtain ⟨jg1, ug1, vg1⟩ : ∃ j : Nat, g 4 = (j : Int) ∧ g 6 = m 143 j := i6
  obtain ⟨jg2, ug2, vg2⟩ : ∃ j : Nat, g 4 = (j : Int) ∧ g 7 = m 144 j := i7
  obtain ⟨jg3, ug3, vg3⟩ : ∃ j : Nat, g 4 = (j : Int) ∧ g 8 = m 145 j := i8
  obtain ⟨jg4, ug4, vg4⟩ : ∃ j : Nat, g 4 = (j : Int) ∧ g 9 = m 146 j := i9
  obtain ⟨c0, c1, c2, c3, c4, c5, c6, c7, _⟩ := hc
  have c0 : 1 * g 6 ≤ 0 := d1 c0
  have c1 : (-1) * g 6 ≤ 0 := d1 c1
  have c2 : 1 * g 7 ≤ 1 := d1 c2
  have c3 : (-1) * g 7 ≤ (-1) := d1 c3
  have c4 : 1 * g 8 ≤ 0 := d1 c4
  have c5 : (-1) * g 8 ≤ 0 := d1 c5
  have c6 : 1 * g 9 ≤ 0 := d1 c6
  have c7 : (-1) * g 9 ≤ 0 := d1 c7
  obtain ⟨a0, a1, a2, a3, a4, a5, a6, a7, a8, a9, a10, _⟩ := ha
  have n1173 : τ 1173 = none := a0
  have n1174 : τ 1174 = none := a1
  have n1175 : τ 1175 = none := a2
  have n1176 : τ 1176 = none := a3
  have n1177 : τ 1177 = none := a4
  have n1155 : τ 1155 = none := a5
  have n1178 : τ 1178 = none := a6
  have n1179 : τ 1179 = none := a7
  have n1180 : τ 1180 = none := a8
  have n1181 : τ 1181 = none := a9
  have n1182 : τ 1182 = none := a10
  obtain ⟨h0, k_tok, k_sc1, k_sc2, k_T, k_I, k_F, k_N, k_Y, k_Z, k_A, k_B, k_C, k_X, k_R, k_f4⟩ := hS (by rw [t1199]; exact fun e => by cases e)
  have k_X0 := k_X
  obtain ⟨h_X0a, h_X0, h_X, h_Xe⟩ := k_X0
  obtain ⟨rx, hrx, hxe⟩ := h_X0 _ _ _ t1170 t1171 t1172 n1173
  obtain ⟨hpp, _⟩ := h_X0a _ _ t1170 t1172 n1173
  rw [show jg1 = 0 by omega] at vg1
  rw [show jg2 = 0 by omega] at vg2
  rw [show jg3 = 0 by omega] at vg3
  rw [show jg4 = 0 by omega] at vg4
  exact ⟨rfl, trivial, trivial, fun _ => ⟨h0, k_tok, k_sc1, k_sc2, k_T, k_I, k_F, k_N, k_Y, k_Z, k_A, k_B, k_C, ⟨fun X1 Xp e0 e1 => by
      have e0 : g 1 = X1 := Option.some.inj (t1170.symm.trans e0)
      subst e0
      have e1 : g 3 = Xp := Option.some.inj (t1172.symm.trans e1)
      subst e1
      exact fun hw => no9 hw rfl, fun X1 X2 Xp e0 e1 e2 => by
      have e0 : g 1 = X1 := Option.some.inj (t1170.symm.trans e0)
      subst e0
      have e1 : g 2 = X2 := Option.some.inj (t1171.symm.trans e1)
      subst e1
      have e2 : g 3 = Xp := Option.some.inj (t1172.symm.trans e2)
      subst e2
      exact fun hw => no9 hw rfl, fun X1 X2 Xp Xw Xs Xo Xv Xd e0 e1 e2 e3 e4 e5 e6 e7 => by
      have e0 : g 1 = X1 := Option.some.inj (t1170.symm.trans e0)
      subst e0
      have e1 : g 2 = X2 := Option.some.inj (t1171.symm.trans e1)
      subst e1
      have e2 : g 3 = Xp := Option.some.inj (t1172.symm.trans e2)
      subst e2
      have e3 : g 5 + 0 = Xw := Option.some.inj e3
      subst e3
      have e4 : g 5 + 0 = Xs := Option.some.inj e4
      subst e4
      have e5 : g 4 + 0 = Xo := Option.some.inj e5
      subst e5
      have e6 : g 4 + 0 = Xv := Option.some.inj e6
      subst e6
      have e7 : g 4 + 0 = Xd := Option.some.inj e7
      subst e7
      exact XS_c (X_0 hrx hxe hpp (by omega) (by omega) (by omega) (by omega) (by omega) (by omega) (by omega) (by omega) (by omega)) n1178 n1179 n1180 n1181 n1182, fun _ _ _ e0 e1 e2 => no9 n1155 e0⟩, k_R, k_f4⟩⟩
noncomputable def ru_rb7 : Ru := ([(0, (1199, (0, (0, 0)))), (0, (1170, (0, (0, 0)))), (0, (1171, (0, (0, 0)))), (0, (1172, (0, (0, 0)))), (0, (1173, (0, (0, 0)))), (0, (1174, (0, (0, 0)))), (0, (1175, (0, (0, 0)))), (0, (1176, (0, (0, 0)))), (0, (1177, (0, (0, 0)))), (0, (1160, (0, (0, 0)))), (0, (1161, (0, (0, 0)))), (0, (1162, (0, (0, 0)))), (0, (1163, (0, (0, 0)))), (0, (1164, (0, (0, 0)))), (0, (1165, (0, (0, 0)))), (10, (0, (6, ((-1), 0))))], ([1166, 1178, 1179, 1180, 1181, 1182], ([([(6, (-1))], (-1)), ([(6, (-1)), (9, 1)], 0), ([(6, 1), (9, (-1))], 0), ([(12, 1)], 0), ([(12, (-1))], 0), ([(10, (-1)), (13, 1)], 0), ([(10, 1), (13, (-1))], 0)], (false, ([], ([], ([(1160, some (15, 0)), (1162, some (13, 0)), (1167, some (14, (-1))), (1163, none), (1164, none), (1165, none)], some (1161, (0, 1300)))))))))
theorem rk_rb7 : RuOk SR ru_rb7 := by
  intro τ m g hi hc ha hS
  obtain ⟨i0, i1, i2, i3, i4, i5, i6, i7, i8, i9, i10, i11, i12, i13, i14, i15, _⟩ := hi
  have t1199 : τ 1199 = some (g 0) := i0
  have t1170 : τ 1170 = some (g 1) := i1
  have t1171 : τ 1171 = some (g 2) := i2
  have t1172 : τ 1172 = some (g 3) := i3
  have t1173 : τ 1173 = some (g 4) := i4
  have t1174 : τ 1174 = some (g 5) := i5
  have t1175 : τ 1175 = some (g 6) := i6
  have t1176 : τ 1176 = some (g 7) := i7
  have t1177 : τ 1177 = some (g 8) := i8
  have t1160 : τ 1160 = some (g 9) := i9
  have t1161 : τ 1161 = some (g 10) := i10
  have t1162 : τ 1162 = some (g 11) := i11
  have t1163 : τ 1163 = some (g 12) := i12
  have t1164 : τ 1164 = some (g 13) := i13
  have t1165 : τ 1165 = some (g 14) := i14
  have xo1 : g 15 = g 6 + (-1) := i15
  obtain ⟨c0, c1, c2, c3, c4, c5, c6, _⟩ := hc
  have c0 : (-1) * g 6 ≤ (-1) := d1 c0
  have c1 : (-1) * g 6 + 1 * g 9 ≤ 0 := d2 c1
  have c2 : 1 * g 6 + (-1) * g 9 ≤ 0 := d2 c2
  have c3 : 1 * g 12 ≤ 0 := d1 c3
  have c4 : (-1) * g 12 ≤ 0 := d1 c4
  have c5 : (-1) * g 10 + 1 * g 13 ≤ 0 := d2 c5
  have c6 : 1 * g 10 + (-1) * g 13 ≤ 0 := d2 c6
  obtain ⟨a0, a1, a2, a3, a4, a5, _⟩ := ha
  have n1166 : τ 1166 = none := a0
  have n1178 : τ 1178 = none := a1
  have n1179 : τ 1179 = none := a2
  have n1180 : τ 1180 = none := a3
  have n1181 : τ 1181 = none := a4
  have n1182 : τ 1182 = none := a5
  obtain ⟨h0, k_tok, k_sc1, k_sc2, k_T, k_I, k_F, k_N, k_Y, k_Z, k_A, k_B, k_C, k_X, k_R, k_f4⟩ := hS (by rw [t1199]; exact fun e => by cases e)
  have k_X0 := k_X
  obtain ⟨h_X0a, h_X0, h_X, h_Xe⟩ := k_X0
  have k_R0 := k_R
  obtain ⟨h_rb, h_rh, h_rw, h_rg, h_rd, h_rc, h_rq⟩ := k_R0
  have hXL : ((tx9 m).2 : Int) = m 110 1 := by
    show (((m 110 1).toNat : Nat) : Int) = _
    omega
  have hX := h_X _ _ _ _ _ _ _ _ t1170 t1171 t1172 t1173 t1174 t1175 t1176 t1177
  rw [n1178, n1179, n1180, n1181, n1182] at hX
  obtain ⟨⟨⟨hp1, hp2⟩, hws⟩, ⟨ho0, hv0, hvp, hd0, hd20⟩, ⟨hb0, hbv⟩, hdd⟩ := XB_n hX.1
  have hl := XB_low2 hX.1 (by omega)
  have hwk := XB_wk hX.1
  obtain ⟨_, ⟨hb2, hb3⟩, hRb⟩ := h_rb _ _ t1160 t1161
  rw [show (g 9).toNat = (g 6).toNat by omega] at hRb
  have hd := h_rd _ _ _ t1160 t1164 t1165
  have hcn := cnX_le (m := m) (a := (g 13).toNat) (n := (g 7).toNat) (by omega)
  obtain ⟨x0, hx0⟩ : ∃ x0 : Int, x0 = m 146 (g 6 - 1).toNat := ⟨_, rfl⟩
  have x1 : 0 ≤ x0 := by omega
  have x2 : x0 ≤ 1300 := by omega
  exact ⟨rfl, trivial, trivial, x0, x1, x2, fun _ => ⟨h0, k_tok, k_sc1, k_sc2, k_T, k_I, k_F, k_N, k_Y, k_Z, k_A, k_B, k_C, k_X, ⟨fun Ro Rb e0 e1 => by
      have e0 : g 15 + 0 = Ro := Option.some.inj e0
      subst e0
      have e1 : x0 = Rb := Option.some.inj e1
      subst e1
      refine ⟨by omega, ⟨x1, x2⟩, ?_⟩
      rw [show (g 15 + 0).toNat = (g 6 - 1).toNat by omega]
      exact hx0, fun Ro Rb Rh e0 e1 e2 => by
      have e0 : g 15 + 0 = Ro := Option.some.inj e0
      subst e0
      have e1 : x0 = Rb := Option.some.inj e1
      subst e1
      have e2 : g 13 + 0 = Rh := Option.some.inj e2
      subst e2
      refine ⟨by omega, by omega, fun i hi => hwk i ?_⟩
      omega, fun _ _ _ _ _ e0 e1 e2 e3 e4 => no9 (o := none) rfl e3, fun Ro Rh Rg e0 e1 e2 => by
      have e0 : g 15 + 0 = Ro := Option.some.inj e0
      subst e0
      have e1 : g 13 + 0 = Rh := Option.some.inj e1
      subst e1
      have e2 : g 14 + (-1) = Rg := Option.some.inj e2
      subst e2
      rw [show (g 13 + 0).toNat = (g 13).toNat by omega]
      exact ⟨by omega, by omega⟩, fun _ _ _ e0 e1 e2 => no9 (o := none) rfl e1, fun _ _ _ _ _ _ e0 e1 e2 e3 e4 e5 => no9 (o := none) rfl e3, fun _ _ _ e0 e1 e2 => no9 n1166 e1⟩, k_f4⟩⟩
noncomputable def ru_ro7b : Ru := ([(0, (1199, (0, (0, 0)))), (0, (1160, (0, (0, 0)))), (0, (1161, (0, (0, 0)))), (0, (1162, (0, (0, 0)))), (0, (1167, (0, (0, 0)))), (4, (0, (0, (7, 0))))], ([1163, 1164, 1165, 1166, 1168], ([], (false, ([], ([], ([(1163, some (5, 0))], some (1164, (0, 1300)))))))))
theorem rk_ro7b : RuOk SR ru_ro7b := by
  intro τ m g hi hc ha hS
  obtain ⟨i0, i1, i2, i3, i4, i5, _⟩ := hi
  have t1199 : τ 1199 = some (g 0) := i0
  have t1160 : τ 1160 = some (g 1) := i1
  have t1161 : τ 1161 = some (g 2) := i2
  have t1162 : τ 1162 = some (g 3) := i3
  have t1167 : τ 1167 = some (g 4) := i4
  have xr : g 5 = 7 := i5
  obtain ⟨a0, a1, a2, a3, a4, _⟩ := ha
  have n1163 : τ 1163 = none := a0
  have n1164 : τ 1164 = none := a1
  have n1165 : τ 1165 = none := a2
  have n1166 : τ 1166 = none := a3
  have n1168 : τ 1168 = none := a4
  obtain ⟨h0, k_tok, k_sc1, k_sc2, k_T, k_I, k_F, k_N, k_Y, k_Z, k_A, k_B, k_C, k_X, k_R, k_f4⟩ := hS (by rw [t1199]; exact fun e => by cases e)
  have k_X0 := k_X
  obtain ⟨h_X0a, h_X0, h_X, h_Xe⟩ := k_X0
  have k_R0 := k_R
  obtain ⟨h_rb, h_rh, h_rw, h_rg, h_rd, h_rc, h_rq⟩ := k_R0
  obtain ⟨ho0, ⟨hb0, hb1⟩, hRb⟩ := h_rb _ _ t1160 t1161
  obtain ⟨hh1, hh2, hwk⟩ := h_rh _ _ _ t1160 t1161 t1162
  obtain ⟨x0, hx0⟩ : ∃ x0 : Int, x0 = g 2 + (dlX m 7 (g 2).toNat ((g 3).toNat - (g 2).toNat) : Int) := ⟨_, rfl⟩
  have hdl := dlX_le (m := m) (r := 7) (a := (g 2).toNat) (n := (g 3).toNat - (g 2).toNat)
  have x1 : 0 ≤ x0 := by omega
  have x2 : x0 ≤ 1300 := by omega
  exact ⟨rfl, trivial, trivial, x0, x1, x2, fun _ => ⟨h0, k_tok, k_sc1, k_sc2, k_T, k_I, k_F, k_N, k_Y, k_Z, k_A, k_B, k_C, k_X, ⟨h_rb, h_rh, fun Ro Rb Rh Rr Rw e0 e1 e2 e3 e4 => by
      have e0 : g 1 = Ro := Option.some.inj (t1160.symm.trans e0)
      subst e0
      have e1 : g 2 = Rb := Option.some.inj (t1161.symm.trans e1)
      subst e1
      have e2 : g 3 = Rh := Option.some.inj (t1162.symm.trans e2)
      subst e2
      have e3 : g 5 + 0 = Rr := Option.some.inj e3
      subst e3
      have e4 : x0 = Rw := Option.some.inj e4
      subst e4
      rw [show (g 5 + 0).toNat = 7 by omega]
      exact hx0, h_rg, fun _ _ _ e0 e1 e2 => no9 n1165 e2, fun _ _ _ _ _ _ e0 e1 e2 e3 e4 e5 => no9 n1166 e5, h_rq⟩, k_f4⟩⟩
noncomputable def ru_gOpA : Ru := ([(0, (1199, (0, (0, 0)))), (0, (1170, (0, (0, 0)))), (0, (1171, (0, (0, 0)))), (0, (1172, (0, (0, 0)))), (0, (1173, (0, (0, 0)))), (0, (1174, (0, (0, 0)))), (0, (1175, (0, (0, 0)))), (0, (1176, (0, (0, 0)))), (0, (1177, (0, (0, 0)))), (0, (1120, (0, (0, 0)))), (0, (1123, (0, (0, 0)))), (0, (1124, (0, (0, 0)))), (0, (1121, (0, (0, 0)))), (0, (1160, (0, (0, 0)))), (0, (1161, (0, (0, 0)))), (0, (1162, (0, (0, 0)))), (0, (1163, (0, (0, 0)))), (0, (1164, (0, (0, 0)))), (0, (1165, (0, (0, 0)))), (6, (145, (6, (0, 0)))), (4, (0, (0, (5, 0)))), (4, (0, (0, (1, 0))))], ([1178, 1179, 1180, 1181, 1182, 1155], ([([(9, (-1)), (10, 1)], 0), ([(9, 1), (10, (-1))], 0), ([(3, 1), (9, (-1))], 0), ([(3, (-1)), (9, 1)], 0), ([(4, 1)], 0), ([(4, (-1))], 0), ([(6, (-1)), (13, 1)], 0), ([(6, 1), (13, (-1))], 0), ([(7, (-1)), (15, 1)], 0), ([(7, 1), (15, (-1))], 0), ([(16, 1)], 5), ([(16, (-1))], (-5)), ([(11, (-1))], (-8)), ([(11, 1)], 9), ([(19, 1)], 1), ([(19, (-1))], 0)], (false, ([], ([], ([(1172, some (12, 0)), (1176, some (17, 1)), (1177, some (18, 0)), (1182, some (20, 0)), (1173, some (21, 0))], none)))))))
theorem rk_gOpA : RuOk SR ru_gOpA := by
  intro τ m g hi hc ha hS
  obtain ⟨i0, i1, i2, i3, i4, i5, i6, i7, i8, i9, i10, i11, i12, i13, i14, i15, i16, i17, i18, i19, i20, i21, _⟩ := hi
  have t1199 : τ 1199 = some (g 0) := i0
  have t1170 : τ 1170 = some (g 1) := i1
  have t1171 : τ 1171 = some (g 2) := i2
  have t1172 : τ 1172 = some (g 3) := i3
  have t1173 : τ 1173 = some (g 4) := i4
  have t1174 : τ 1174 = some (g 5) := i5
  have t1175 : τ 1175 = some (g 6) := i6
  have t1176 : τ 1176 = some (g 7) := i7
  have t1177 : τ 1177 = some (g 8) := i8
  have t1120 : τ 1120 = some (g 9) := i9
  have t1123 : τ 1123 = some (g 10) := i10
  have t1124 : τ 1124 = some (g 11) := i11
  have t1121 : τ 1121 = some (g 12) := i12
  have t1160 : τ 1160 = some (g 13) := i13
  have t1161 : τ 1161 = some (g 14) := i14
  have t1162 : τ 1162 = some (g 15) := i15
  have t1163 : τ 1163 = some (g 16) := i16
  have t1164 : τ 1164 = some (g 17) := i17
  have t1165 : τ 1165 = some (g 18) := i18
  obtain ⟨jpa, upa, vpa⟩ : ∃ j : Nat, g 6 = (j : Int) ∧ g 19 = m 145 j := i19
  have xr5 : g 20 = 5 := i20
  have xone : g 21 = 1 := i21
  obtain ⟨c0, c1, c2, c3, c4, c5, c6, c7, c8, c9, c10, c11, c12, c13, c14, c15, _⟩ := hc
  have c0 : (-1) * g 9 + 1 * g 10 ≤ 0 := d2 c0
  have c1 : 1 * g 9 + (-1) * g 10 ≤ 0 := d2 c1
  have c2 : 1 * g 3 + (-1) * g 9 ≤ 0 := d2 c2
  have c3 : (-1) * g 3 + 1 * g 9 ≤ 0 := d2 c3
  have c4 : 1 * g 4 ≤ 0 := d1 c4
  have c5 : (-1) * g 4 ≤ 0 := d1 c5
  have c6 : (-1) * g 6 + 1 * g 13 ≤ 0 := d2 c6
  have c7 : 1 * g 6 + (-1) * g 13 ≤ 0 := d2 c7
  have c8 : (-1) * g 7 + 1 * g 15 ≤ 0 := d2 c8
  have c9 : 1 * g 7 + (-1) * g 15 ≤ 0 := d2 c9
  have c10 : 1 * g 16 ≤ 5 := d1 c10
  have c11 : (-1) * g 16 ≤ (-5) := d1 c11
  have c12 : (-1) * g 11 ≤ (-8) := d1 c12
  have c13 : 1 * g 11 ≤ 9 := d1 c13
  have c14 : 1 * g 19 ≤ 1 := d1 c14
  have c15 : (-1) * g 19 ≤ 0 := d1 c15
  obtain ⟨a0, a1, a2, a3, a4, a5, _⟩ := ha
  have n1178 : τ 1178 = none := a0
  have n1179 : τ 1179 = none := a1
  have n1180 : τ 1180 = none := a2
  have n1181 : τ 1181 = none := a3
  have n1182 : τ 1182 = none := a4
  have n1155 : τ 1155 = none := a5
  obtain ⟨h0, k_tok, k_sc1, k_sc2, k_T, k_I, k_F, k_N, k_Y, k_Z, k_A, k_B, k_C, k_X, k_R, k_f4⟩ := hS (by rw [t1199]; exact fun e => by cases e)
  have k_T0 := k_T
  obtain ⟨h_T, h_TN, h_QZ⟩ := k_T0
  have k_I0 := k_I
  obtain ⟨h_p, h_pc, h_ip, h_iP, h_PC, h_PN⟩ := k_I0
  have k_X0 := k_X
  obtain ⟨h_X0a, h_X0, h_X, h_Xe⟩ := k_X0
  have k_R0 := k_R
  obtain ⟨h_rb, h_rh, h_rw, h_rg, h_rd, h_rc, h_rq⟩ := k_R0
  have hXL : ((tx9 m).2 : Int) = m 110 1 := by
    show (((m 110 1).toNat : Nat) : Int) = _
    omega
  have hX := h_X _ _ _ _ _ _ _ _ t1170 t1171 t1172 t1173 t1174 t1175 t1176 t1177
  rw [n1178, n1179, n1180, n1181, n1182] at hX
  obtain ⟨⟨⟨hp1, hp2⟩, hws⟩, ⟨ho0, hv0, hvp, hd0, hd20⟩, ⟨hb0, hbv⟩, hdd⟩ := XB_n hX.1
  have hcc := h_pc _ _ t1123 t1124
  rw [show (g 10).toNat = (g 3).toNat by omega] at hcc
  have hN := h_TN _ _ t1120 t1121
  rw [show (g 9).toNat = (g 3).toNat by omega] at hN
  have hnx := nx_lt (X := tx9 m) (p := (g 3).toNat) (by omega)
  rw [show jpa = (g 6).toNat by omega] at vpa
  have hRb := (h_rb _ _ t1160 t1161).2.2
  have hRw := h_rw _ _ _ _ _ t1160 t1161 t1162 t1163 t1164
  have hRd := h_rd _ _ _ t1160 t1164 t1165
  rw [show (g 13).toNat = (g 6).toNat by omega] at hRb
  rw [show (g 15).toNat = (g 7).toNat by omega, hRb] at hRw
  rw [show (g 16).toNat = 5 by omega] at hRw
  exact ⟨rfl, trivial, trivial, fun _ => ⟨h0, k_tok, k_sc1, k_sc2, k_T, k_I, k_F, k_N, k_Y, k_Z, k_A, k_B, k_C, ⟨fun X1 Xp e0 e1 => by
      have e0 : g 1 = X1 := Option.some.inj (t1170.symm.trans e0)
      subst e0
      have e1 : g 12 + 0 = Xp := Option.some.inj e1
      subst e1
      exact fun hw => no9 hw rfl, fun X1 X2 Xp e0 e1 e2 => by
      have e0 : g 1 = X1 := Option.some.inj (t1170.symm.trans e0)
      subst e0
      have e1 : g 2 = X2 := Option.some.inj (t1171.symm.trans e1)
      subst e1
      have e2 : g 12 + 0 = Xp := Option.some.inj e2
      subst e2
      exact fun hw => no9 hw rfl, fun X1 X2 Xp Xw Xs Xo Xv Xd e0 e1 e2 e3 e4 e5 e6 e7 => by
      have e0 : g 1 = X1 := Option.some.inj (t1170.symm.trans e0)
      subst e0
      have e1 : g 2 = X2 := Option.some.inj (t1171.symm.trans e1)
      subst e1
      have e2 : g 12 + 0 = Xp := Option.some.inj e2
      subst e2
      have e3 : g 21 + 0 = Xw := Option.some.inj e3
      subst e3
      have e4 : g 5 = Xs := Option.some.inj (t1174.symm.trans e4)
      subst e4
      have e5 : g 6 = Xo := Option.some.inj (t1175.symm.trans e5)
      subst e5
      have e6 : g 17 + 1 = Xv := Option.some.inj e6
      subst e6
      have e7 : g 18 + 0 = Xd := Option.some.inj e7
      subst e7
      exact XS_c (X_op (u := g 17) (R := 5) hX (by omega) (Or.inr ⟨(kq (a := 8) (b := 9) (fun k => k = 4 ∨ k = 12) (by decide) (by omega) (by omega)), rfl⟩) (by omega) ⟨by omega, by omega⟩ (by omega) (by omega) (by omega) (by omega) (by omega) (by simp only [Int.add_zero]; omega) (by omega)) n1178 n1179 n1180 n1181 rfl, fun _ _ _ e0 e1 e2 => no9 n1155 e0⟩, k_R, k_f4⟩⟩
noncomputable def ru_gOpB : Ru := ([(0, (1199, (0, (0, 0)))), (0, (1170, (0, (0, 0)))), (0, (1171, (0, (0, 0)))), (0, (1172, (0, (0, 0)))), (0, (1173, (0, (0, 0)))), (0, (1174, (0, (0, 0)))), (0, (1175, (0, (0, 0)))), (0, (1176, (0, (0, 0)))), (0, (1177, (0, (0, 0)))), (0, (1120, (0, (0, 0)))), (0, (1123, (0, (0, 0)))), (0, (1124, (0, (0, 0)))), (0, (1121, (0, (0, 0)))), (0, (1160, (0, (0, 0)))), (0, (1161, (0, (0, 0)))), (0, (1162, (0, (0, 0)))), (0, (1163, (0, (0, 0)))), (0, (1164, (0, (0, 0)))), (0, (1165, (0, (0, 0)))), (6, (145, (6, (0, 0)))), (4, (0, (0, (6, 0)))), (4, (0, (0, (1, 0))))], ([1178, 1179, 1180, 1181, 1182, 1155], ([([(9, (-1)), (10, 1)], 0), ([(9, 1), (10, (-1))], 0), ([(3, 1), (9, (-1))], 0), ([(3, (-1)), (9, 1)], 0), ([(4, 1)], 0), ([(4, (-1))], 0), ([(6, (-1)), (13, 1)], 0), ([(6, 1), (13, (-1))], 0), ([(7, (-1)), (15, 1)], 0), ([(7, 1), (15, (-1))], 0), ([(16, 1)], 6), ([(16, (-1))], (-6)), ([(11, (-1))], (-10)), ([(11, 1)], 12), ([(19, 1)], 1), ([(19, (-1))], 0)], (false, ([], ([], ([(1172, some (12, 0)), (1176, some (17, 1)), (1177, some (18, 0)), (1182, some (20, 0)), (1173, some (21, 0))], none)))))))
theorem rk_gOpB : RuOk SR ru_gOpB := by
  intro τ m g hi hc ha hS
  obtain ⟨i0, i1, i2, i3, i4, i5, i6, i7, i8, i9, i10, i11, i12, i13, i14, i15, i16, i17, i18, i19, i20, i21, _⟩ := hi
  have t1199 : τ 1199 = some (g 0) := i0
  have t1170 : τ 1170 = some (g 1) := i1
  have t1171 : τ 1171 = some (g 2) := i2
  have t1172 : τ 1172 = some (g 3) := i3
  have t1173 : τ 1173 = some (g 4) := i4
  have t1174 : τ 1174 = some (g 5) := i5
  have t1175 : τ 1175 = some (g 6) := i6
  have t1176 : τ 1176 = some (g 7) := i7
  have t1177 : τ 1177 = some (g 8) := i8
  have t1120 : τ 1120 = some (g 9) := i9
  have t1123 : τ 1123 = some (g 10) := i10
  have t1124 : τ 1124 = some (g 11) := i11
  have t1121 : τ 1121 = some (g 12) := i12
  have t1160 : τ 1160 = some (g 13) := i13
  have t1161 : τ 1161 = some (g 14) := i14
  have t1162 : τ 1162 = some (g 15) := i15
  have t1163 : τ 1163 = some (g 16) := i16
  have t1164 : τ 1164 = some (g 17) := i17
  have t1165 : τ 1165 = some (g 18) := i18
  obtain ⟨jpa, upa, vpa⟩ : ∃ j : Nat, g 6 = (j : Int) ∧ g 19 = m 145 j := i19
  have xr6 : g 20 = 6 := i20
  have xone : g 21 = 1 := i21
  obtain ⟨c0, c1, c2, c3, c4, c5, c6, c7, c8, c9, c10, c11, c12, c13, c14, c15, _⟩ := hc
  have c0 : (-1) * g 9 + 1 * g 10 ≤ 0 := d2 c0
  have c1 : 1 * g 9 + (-1) * g 10 ≤ 0 := d2 c1
  have c2 : 1 * g 3 + (-1) * g 9 ≤ 0 := d2 c2
  have c3 : (-1) * g 3 + 1 * g 9 ≤ 0 := d2 c3
  have c4 : 1 * g 4 ≤ 0 := d1 c4
  have c5 : (-1) * g 4 ≤ 0 := d1 c5
  have c6 : (-1) * g 6 + 1 * g 13 ≤ 0 := d2 c6
  have c7 : 1 * g 6 + (-1) * g 13 ≤ 0 := d2 c7
  have c8 : (-1) * g 7 + 1 * g 15 ≤ 0 := d2 c8
  have c9 : 1 * g 7 + (-1) * g 15 ≤ 0 := d2 c9
  have c10 : 1 * g 16 ≤ 6 := d1 c10
  have c11 : (-1) * g 16 ≤ (-6) := d1 c11
  have c12 : (-1) * g 11 ≤ (-10) := d1 c12
  have c13 : 1 * g 11 ≤ 12 := d1 c13
  have c14 : 1 * g 19 ≤ 1 := d1 c14
  have c15 : (-1) * g 19 ≤ 0 := d1 c15
  obtain ⟨a0, a1, a2, a3, a4, a5, _⟩ := ha
  have n1178 : τ 1178 = none := a0
  have n1179 : τ 1179 = none := a1
  have n1180 : τ 1180 = none := a2
  have n1181 : τ 1181 = none := a3
  have n1182 : τ 1182 = none := a4
  have n1155 : τ 1155 = none := a5
  obtain ⟨h0, k_tok, k_sc1, k_sc2, k_T, k_I, k_F, k_N, k_Y, k_Z, k_A, k_B, k_C, k_X, k_R, k_f4⟩ := hS (by rw [t1199]; exact fun e => by cases e)
  have k_T0 := k_T
  obtain ⟨h_T, h_TN, h_QZ⟩ := k_T0
  have k_I0 := k_I
  obtain ⟨h_p, h_pc, h_ip, h_iP, h_PC, h_PN⟩ := k_I0
  have k_X0 := k_X
  obtain ⟨h_X0a, h_X0, h_X, h_Xe⟩ := k_X0
  have k_R0 := k_R
  obtain ⟨h_rb, h_rh, h_rw, h_rg, h_rd, h_rc, h_rq⟩ := k_R0
  have hXL : ((tx9 m).2 : Int) = m 110 1 := by
    show (((m 110 1).toNat : Nat) : Int) = _
    omega
  have hX := h_X _ _ _ _ _ _ _ _ t1170 t1171 t1172 t1173 t1174 t1175 t1176 t1177
  rw [n1178, n1179, n1180, n1181, n1182] at hX
  obtain ⟨⟨⟨hp1, hp2⟩, hws⟩, ⟨ho0, hv0, hvp, hd0, hd20⟩, ⟨hb0, hbv⟩, hdd⟩ := XB_n hX.1
  have hcc := h_pc _ _ t1123 t1124
  rw [show (g 10).toNat = (g 3).toNat by omega] at hcc
  have hN := h_TN _ _ t1120 t1121
  rw [show (g 9).toNat = (g 3).toNat by omega] at hN
  have hnx := nx_lt (X := tx9 m) (p := (g 3).toNat) (by omega)
  rw [show jpa = (g 6).toNat by omega] at vpa
  have hRb := (h_rb _ _ t1160 t1161).2.2
  have hRw := h_rw _ _ _ _ _ t1160 t1161 t1162 t1163 t1164
  have hRd := h_rd _ _ _ t1160 t1164 t1165
  rw [show (g 13).toNat = (g 6).toNat by omega] at hRb
  rw [show (g 15).toNat = (g 7).toNat by omega, hRb] at hRw
  rw [show (g 16).toNat = 6 by omega] at hRw
  exact ⟨rfl, trivial, trivial, fun _ => ⟨h0, k_tok, k_sc1, k_sc2, k_T, k_I, k_F, k_N, k_Y, k_Z, k_A, k_B, k_C, ⟨fun X1 Xp e0 e1 => by
      have e0 : g 1 = X1 := Option.some.inj (t1170.symm.trans e0)
      subst e0
      have e1 : g 12 + 0 = Xp := Option.some.inj e1
      subst e1
      exact fun hw => no9 hw rfl, fun X1 X2 Xp e0 e1 e2 => by
      have e0 : g 1 = X1 := Option.some.inj (t1170.symm.trans e0)
      subst e0
      have e1 : g 2 = X2 := Option.some.inj (t1171.symm.trans e1)
      subst e1
      have e2 : g 12 + 0 = Xp := Option.some.inj e2
      subst e2
      exact fun hw => no9 hw rfl, fun X1 X2 Xp Xw Xs Xo Xv Xd e0 e1 e2 e3 e4 e5 e6 e7 => by
      have e0 : g 1 = X1 := Option.some.inj (t1170.symm.trans e0)
      subst e0
      have e1 : g 2 = X2 := Option.some.inj (t1171.symm.trans e1)
      subst e1
      have e2 : g 12 + 0 = Xp := Option.some.inj e2
      subst e2
      have e3 : g 21 + 0 = Xw := Option.some.inj e3
      subst e3
      have e4 : g 5 = Xs := Option.some.inj (t1174.symm.trans e4)
      subst e4
      have e5 : g 6 = Xo := Option.some.inj (t1175.symm.trans e5)
      subst e5
      have e6 : g 17 + 1 = Xv := Option.some.inj e6
      subst e6
      have e7 : g 18 + 0 = Xd := Option.some.inj e7
      subst e7
      exact XS_c (X_op (u := g 17) (R := 6) hX (by omega) (Or.inl ⟨(kq (a := 10) (b := 12) (fun k => k = 13) (by decide) (by omega) (by omega)), rfl⟩) (by omega) ⟨by omega, by omega⟩ (by omega) (by omega) (by omega) (by omega) (by omega) (by simp only [Int.add_zero]; omega) (by omega)) n1178 n1179 n1180 n1181 rfl, fun _ _ _ e0 e1 e2 => no9 n1155 e0⟩, k_R, k_f4⟩⟩
noncomputable def ru_gCmp : Ru := ([(0, (1199, (0, (0, 0)))), (0, (1170, (0, (0, 0)))), (0, (1171, (0, (0, 0)))), (0, (1172, (0, (0, 0)))), (0, (1173, (0, (0, 0)))), (0, (1174, (0, (0, 0)))), (0, (1175, (0, (0, 0)))), (0, (1176, (0, (0, 0)))), (0, (1177, (0, (0, 0)))), (0, (1120, (0, (0, 0)))), (0, (1123, (0, (0, 0)))), (0, (1124, (0, (0, 0)))), (0, (1121, (0, (0, 0)))), (0, (1160, (0, (0, 0)))), (0, (1161, (0, (0, 0)))), (0, (1162, (0, (0, 0)))), (0, (1163, (0, (0, 0)))), (0, (1164, (0, (0, 0)))), (0, (1165, (0, (0, 0)))), (6, (143, (6, (0, 0)))), (6, (145, (6, (0, 0)))), (4, (0, (0, (4, 0)))), (4, (0, (0, (1, 0))))], ([1178, 1179, 1180, 1181, 1182, 1155], ([([(9, (-1)), (10, 1)], 0), ([(9, 1), (10, (-1))], 0), ([(3, 1), (9, (-1))], 0), ([(3, (-1)), (9, 1)], 0), ([(4, 1)], 0), ([(4, (-1))], 0), ([(6, (-1)), (13, 1)], 0), ([(6, 1), (13, (-1))], 0), ([(7, (-1)), (15, 1)], 0), ([(7, 1), (15, (-1))], 0), ([(16, 1)], 5), ([(16, (-1))], (-5)), ([(19, 1)], 1), ([(19, (-1))], 0), ([(11, (-1))], (-13)), ([(11, 1)], 18), ([(20, 1)], 0), ([(20, (-1))], 0)], (false, ([], ([], ([(1172, some (12, 0)), (1176, some (17, 1)), (1177, some (18, 0)), (1182, some (21, 0)), (1180, some (22, 0)), (1179, some (22, 0)), (1173, some (22, 0))], none)))))))
theorem rk_gCmp : RuOk SR ru_gCmp := by
  intro τ m g hi hc ha hS
  obtain ⟨i0, i1, i2, i3, i4, i5, i6, i7, i8, i9, i10, i11, i12, i13, i14, i15, i16, i17, i18, i19, i20, i21, i22, _⟩ := hi
  have t1199 : τ 1199 = some (g 0) := i0
  have t1170 : τ 1170 = some (g 1) := i1
  have t1171 : τ 1171 = some (g 2) := i2
  have t1172 : τ 1172 = some (g 3) := i3
  have t1173 : τ 1173 = some (g 4) := i4
  have t1174 : τ 1174 = some (g 5) := i5
  have t1175 : τ 1175 = some (g 6) := i6
  have t1176 : τ 1176 = some (g 7) := i7
  have t1177 : τ 1177 = some (g 8) := i8
  have t1120 : τ 1120 = some (g 9) := i9
  have t1123 : τ 1123 = some (g 10) := i10
  have t1124 : τ 1124 = some (g 11) := i11
  have t1121 : τ 1121 = some (g 12) := i12
  have t1160 : τ 1160 = some (g 13) := i13
  have t1161 : τ 1161 = some (g 14) := i14
  have t1162 : τ 1162 = some (g 15) := i15
  have t1163 : τ 1163 = some (g 16) := i16
  have t1164 : τ 1164 = some (g 17) := i17
  have t1165 : τ 1165 = some (g 18) := i18
  obtain ⟨jkd, ukd, vkd⟩ : ∃ j : Nat, g 6 = (j : Int) ∧ g 19 = m 143 j := i19
  obtain ⟨jpa, upa, vpa⟩ : ∃ j : Nat, g 6 = (j : Int) ∧ g 20 = m 145 j := i20
  have xr4 : g 21 = 4 := i21
  have xone : g 22 = 1 := i22
  obtain ⟨c0, c1, c2, c3, c4, c5, c6, c7, c8, c9, c10, c11, c12, c13, c14, c15, c16, c17, _⟩ := hc
  have c0 : (-1) * g 9 + 1 * g 10 ≤ 0 := d2 c0
  have c1 : 1 * g 9 + (-1) * g 10 ≤ 0 := d2 c1
  have c2 : 1 * g 3 + (-1) * g 9 ≤ 0 := d2 c2
  have c3 : (-1) * g 3 + 1 * g 9 ≤ 0 := d2 c3
  have c4 : 1 * g 4 ≤ 0 := d1 c4
  have c5 : (-1) * g 4 ≤ 0 := d1 c5
  have c6 : (-1) * g 6 + 1 * g 13 ≤ 0 := d2 c6
  have c7 : 1 * g 6 + (-1) * g 13 ≤ 0 := d2 c7
  have c8 : (-1) * g 7 + 1 * g 15 ≤ 0 := d2 c8
  have c9 : 1 * g 7 + (-1) * g 15 ≤ 0 := d2 c9
  have c10 : 1 * g 16 ≤ 5 := d1 c10
  have c11 : (-1) * g 16 ≤ (-5) := d1 c11
  have c12 : 1 * g 19 ≤ 1 := d1 c12
  have c13 : (-1) * g 19 ≤ 0 := d1 c13
  have c14 : (-1) * g 11 ≤ (-13) := d1 c14
  have c15 : 1 * g 11 ≤ 18 := d1 c15
  have c16 : 1 * g 20 ≤ 0 := d1 c16
  have c17 : (-1) * g 20 ≤ 0 := d1 c17
  obtain ⟨a0, a1, a2, a3, a4, a5, _⟩ := ha
  have n1178 : τ 1178 = none := a0
  have n1179 : τ 1179 = none := a1
  have n1180 : τ 1180 = none := a2
  have n1181 : τ 1181 = none := a3
  have n1182 : τ 1182 = none := a4
  have n1155 : τ 1155 = none := a5
  obtain ⟨h0, k_tok, k_sc1, k_sc2, k_T, k_I, k_F, k_N, k_Y, k_Z, k_A, k_B, k_C, k_X, k_R, k_f4⟩ := hS (by rw [t1199]; exact fun e => by cases e)
  have k_T0 := k_T
  obtain ⟨h_T, h_TN, h_QZ⟩ := k_T0
  have k_I0 := k_I
  obtain ⟨h_p, h_pc, h_ip, h_iP, h_PC, h_PN⟩ := k_I0
  have k_X0 := k_X
  obtain ⟨h_X0a, h_X0, h_X, h_Xe⟩ := k_X0
  have k_R0 := k_R
  obtain ⟨h_rb, h_rh, h_rw, h_rg, h_rd, h_rc, h_rq⟩ := k_R0
  have hXL : ((tx9 m).2 : Int) = m 110 1 := by
    show (((m 110 1).toNat : Nat) : Int) = _
    omega
  have hX := h_X _ _ _ _ _ _ _ _ t1170 t1171 t1172 t1173 t1174 t1175 t1176 t1177
  rw [n1178, n1179, n1180, n1181, n1182] at hX
  obtain ⟨⟨⟨hp1, hp2⟩, hws⟩, ⟨ho0, hv0, hvp, hd0, hd20⟩, ⟨hb0, hbv⟩, hdd⟩ := XB_n hX.1
  have hcc := h_pc _ _ t1123 t1124
  rw [show (g 10).toNat = (g 3).toNat by omega] at hcc
  have hN := h_TN _ _ t1120 t1121
  rw [show (g 9).toNat = (g 3).toNat by omega] at hN
  have hnx := nx_lt (X := tx9 m) (p := (g 3).toNat) (by omega)
  rw [show jkd = (g 6).toNat by omega] at vkd
  rw [show jpa = (g 6).toNat by omega] at vpa
  have hRb := (h_rb _ _ t1160 t1161).2.2
  have hRw := h_rw _ _ _ _ _ t1160 t1161 t1162 t1163 t1164
  have hRd := h_rd _ _ _ t1160 t1164 t1165
  rw [show (g 13).toNat = (g 6).toNat by omega] at hRb
  rw [show (g 15).toNat = (g 7).toNat by omega, hRb] at hRw
  rw [show (g 16).toNat = 5 by omega] at hRw
  exact ⟨rfl, trivial, trivial, fun _ => ⟨h0, k_tok, k_sc1, k_sc2, k_T, k_I, k_F, k_N, k_Y, k_Z, k_A, k_B, k_C, ⟨fun X1 Xp e0 e1 => by
      have e0 : g 1 = X1 := Option.some.inj (t1170.symm.trans e0)
      subst e0
      have e1 : g 12 + 0 = Xp := Option.some.inj e1
      subst e1
      exact fun hw => no9 hw rfl, fun X1 X2 Xp e0 e1 e2 => by
      have e0 : g 1 = X1 := Option.some.inj (t1170.symm.trans e0)
      subst e0
      have e1 : g 2 = X2 := Option.some.inj (t1171.symm.trans e1)
      subst e1
      have e2 : g 12 + 0 = Xp := Option.some.inj e2
      subst e2
      exact fun hw => no9 hw rfl, fun X1 X2 Xp Xw Xs Xo Xv Xd e0 e1 e2 e3 e4 e5 e6 e7 => by
      have e0 : g 1 = X1 := Option.some.inj (t1170.symm.trans e0)
      subst e0
      have e1 : g 2 = X2 := Option.some.inj (t1171.symm.trans e1)
      subst e1
      have e2 : g 12 + 0 = Xp := Option.some.inj e2
      subst e2
      have e3 : g 22 + 0 = Xw := Option.some.inj e3
      subst e3
      have e4 : g 5 = Xs := Option.some.inj (t1174.symm.trans e4)
      subst e4
      have e5 : g 6 = Xo := Option.some.inj (t1175.symm.trans e5)
      subst e5
      have e6 : g 17 + 1 = Xv := Option.some.inj e6
      subst e6
      have e7 : g 18 + 0 = Xd := Option.some.inj e7
      subst e7
      exact XS_c (X_cmp (u := g 17) hX (by omega) (kq (a := 13) (b := 18) (fun k => k = 14) (by decide) (by omega) (by omega)) (by omega) (by omega) ⟨by omega, by omega⟩ (by omega) (by omega) (by omega) (by omega) (by omega) (by simp only [Int.add_zero]; omega) (by omega) (by omega) (by omega)) n1178 rfl rfl n1181 rfl, fun _ _ _ e0 e1 e2 => no9 n1155 e0⟩, k_R, k_f4⟩⟩
noncomputable def ru_gInO : Ru := ([(0, (1199, (0, (0, 0)))), (0, (1170, (0, (0, 0)))), (0, (1171, (0, (0, 0)))), (0, (1172, (0, (0, 0)))), (0, (1173, (0, (0, 0)))), (0, (1174, (0, (0, 0)))), (0, (1175, (0, (0, 0)))), (0, (1176, (0, (0, 0)))), (0, (1177, (0, (0, 0)))), (0, (1120, (0, (0, 0)))), (0, (1123, (0, (0, 0)))), (0, (1124, (0, (0, 0)))), (0, (1121, (0, (0, 0)))), (0, (1150, (0, (0, 0)))), (0, (1151, (0, (0, 0)))), (0, (1152, (0, (0, 0)))), (0, (1160, (0, (0, 0)))), (0, (1161, (0, (0, 0)))), (0, (1162, (0, (0, 0)))), (0, (1163, (0, (0, 0)))), (0, (1164, (0, (0, 0)))), (0, (1165, (0, (0, 0)))), (6, (143, (6, (0, 0)))), (6, (145, (6, (0, 0)))), (4, (0, (0, (2, 0)))), (4, (0, (0, (1, 0))))], ([1178, 1179, 1180, 1181, 1182, 1155], ([([(9, (-1)), (10, 1)], 0), ([(9, 1), (10, (-1))], 0), ([(3, 1), (9, (-1))], 0), ([(3, (-1)), (9, 1)], 0), ([(4, 1)], 0), ([(4, (-1))], 0), ([(6, (-1)), (16, 1)], 0), ([(6, 1), (16, (-1))], 0), ([(7, (-1)), (18, 1)], 0), ([(7, 1), (18, (-1))], 0), ([(19, 1)], 5), ([(19, (-1))], (-5)), ([(22, 1)], 1), ([(22, (-1))], 0), ([(11, 1)], 29), ([(11, (-1))], (-29)), ([(23, 1)], 0), ([(23, (-1))], 0), ([(12, (-1)), (13, 1)], 0), ([(12, 1), (13, (-1))], 0), ([(14, (-1))], 0)], (false, ([], ([], ([(1172, some (14, 0)), (1176, some (20, 0)), (1177, some (21, 0)), (1180, some (24, 0)), (1179, some (25, 0))], none)))))))
theorem rk_gInO : RuOk SR ru_gInO := by
  intro τ m g hi hc ha hS
  obtain ⟨i0, i1, i2, i3, i4, i5, i6, i7, i8, i9, i10, i11, i12, i13, i14, i15, i16, i17, i18, i19, i20, i21, i22, i23, i24, i25, _⟩ := hi
  have t1199 : τ 1199 = some (g 0) := i0
  have t1170 : τ 1170 = some (g 1) := i1
  have t1171 : τ 1171 = some (g 2) := i2
  have t1172 : τ 1172 = some (g 3) := i3
  have t1173 : τ 1173 = some (g 4) := i4
  have t1174 : τ 1174 = some (g 5) := i5
  have t1175 : τ 1175 = some (g 6) := i6
  have t1176 : τ 1176 = some (g 7) := i7
  have t1177 : τ 1177 = some (g 8) := i8
  have t1120 : τ 1120 = some (g 9) := i9
  have t1123 : τ 1123 = some (g 10) := i10
  have t1124 : τ 1124 = some (g 11) := i11
  have t1121 : τ 1121 = some (g 12) := i12
  have t1150 : τ 1150 = some (g 13) := i13
  have t1151 : τ 1151 = some (g 14) := i14
  have t1152 : τ 1152 = some (g 15) := i15
  have t1160 : τ 1160 = some (g 16) := i16
  have t1161 : τ 1161 = some (g 17) := i17
  have t1162 : τ 1162 = some (g 18) := i18
  have t1163 : τ 1163 = some (g 19) := i19
  have t1164 : τ 1164 = some (g 20) := i20
  have t1165 : τ 1165 = some (g 21) := i21
  obtain ⟨jkd, ukd, vkd⟩ : ∃ j : Nat, g 6 = (j : Int) ∧ g 22 = m 143 j := i22
  obtain ⟨jpa, upa, vpa⟩ : ∃ j : Nat, g 6 = (j : Int) ∧ g 23 = m 145 j := i23
  have xtwo : g 24 = 2 := i24
  have xone : g 25 = 1 := i25
  obtain ⟨c0, c1, c2, c3, c4, c5, c6, c7, c8, c9, c10, c11, c12, c13, c14, c15, c16, c17, c18, c19, c20, _⟩ := hc
  have c0 : (-1) * g 9 + 1 * g 10 ≤ 0 := d2 c0
  have c1 : 1 * g 9 + (-1) * g 10 ≤ 0 := d2 c1
  have c2 : 1 * g 3 + (-1) * g 9 ≤ 0 := d2 c2
  have c3 : (-1) * g 3 + 1 * g 9 ≤ 0 := d2 c3
  have c4 : 1 * g 4 ≤ 0 := d1 c4
  have c5 : (-1) * g 4 ≤ 0 := d1 c5
  have c6 : (-1) * g 6 + 1 * g 16 ≤ 0 := d2 c6
  have c7 : 1 * g 6 + (-1) * g 16 ≤ 0 := d2 c7
  have c8 : (-1) * g 7 + 1 * g 18 ≤ 0 := d2 c8
  have c9 : 1 * g 7 + (-1) * g 18 ≤ 0 := d2 c9
  have c10 : 1 * g 19 ≤ 5 := d1 c10
  have c11 : (-1) * g 19 ≤ (-5) := d1 c11
  have c12 : 1 * g 22 ≤ 1 := d1 c12
  have c13 : (-1) * g 22 ≤ 0 := d1 c13
  have c14 : 1 * g 11 ≤ 29 := d1 c14
  have c15 : (-1) * g 11 ≤ (-29) := d1 c15
  have c16 : 1 * g 23 ≤ 0 := d1 c16
  have c17 : (-1) * g 23 ≤ 0 := d1 c17
  have c18 : (-1) * g 12 + 1 * g 13 ≤ 0 := d2 c18
  have c19 : 1 * g 12 + (-1) * g 13 ≤ 0 := d2 c19
  have c20 : (-1) * g 14 ≤ 0 := d1 c20
  obtain ⟨a0, a1, a2, a3, a4, a5, _⟩ := ha
  have n1178 : τ 1178 = none := a0
  have n1179 : τ 1179 = none := a1
  have n1180 : τ 1180 = none := a2
  have n1181 : τ 1181 = none := a3
  have n1182 : τ 1182 = none := a4
  have n1155 : τ 1155 = none := a5
  obtain ⟨h0, k_tok, k_sc1, k_sc2, k_T, k_I, k_F, k_N, k_Y, k_Z, k_A, k_B, k_C, k_X, k_R, k_f4⟩ := hS (by rw [t1199]; exact fun e => by cases e)
  have k_T0 := k_T
  obtain ⟨h_T, h_TN, h_QZ⟩ := k_T0
  have k_I0 := k_I
  obtain ⟨h_p, h_pc, h_ip, h_iP, h_PC, h_PN⟩ := k_I0
  have k_F0 := k_F
  obtain ⟨h_F0, h_F, h_F1, h_F2⟩ := k_F0
  have k_X0 := k_X
  obtain ⟨h_X0a, h_X0, h_X, h_Xe⟩ := k_X0
  have k_R0 := k_R
  obtain ⟨h_rb, h_rh, h_rw, h_rg, h_rd, h_rc, h_rq⟩ := k_R0
  have hXL : ((tx9 m).2 : Int) = m 110 1 := by
    show (((m 110 1).toNat : Nat) : Int) = _
    omega
  have hX := h_X _ _ _ _ _ _ _ _ t1170 t1171 t1172 t1173 t1174 t1175 t1176 t1177
  rw [n1178, n1179, n1180, n1181, n1182] at hX
  obtain ⟨⟨⟨hp1, hp2⟩, hws⟩, ⟨ho0, hv0, hvp, hd0, hd20⟩, ⟨hb0, hbv⟩, hdd⟩ := XB_n hX.1
  have hcc := h_pc _ _ t1123 t1124
  rw [show (g 10).toNat = (g 3).toNat by omega] at hcc
  have hN := h_TN _ _ t1120 t1121
  rw [show (g 9).toNat = (g 3).toNat by omega] at hN
  have hnx := nx_lt (X := tx9 m) (p := (g 3).toNat) (by omega)
  rw [show jkd = (g 6).toNat by omega] at vkd
  rw [show jpa = (g 6).toNat by omega] at vpa
  have hRb := (h_rb _ _ t1160 t1161).2.2
  have hRw := h_rw _ _ _ _ _ t1160 t1161 t1162 t1163 t1164
  have hRd := h_rd _ _ _ t1160 t1164 t1165
  rw [show (g 16).toNat = (g 6).toNat by omega] at hRb
  rw [show (g 18).toNat = (g 7).toNat by omega, hRb] at hRw
  rw [show (g 19).toNat = 5 by omega] at hRw
  have hFx := h_F _ _ _ t1150 t1151 t1152
  rw [show (g 13).toNat = nx9t (tx9 m) (g 3).toNat by omega] at hFx
  obtain ⟨hf1, hf2⟩ := YE_pos hFx (by omega)
  have hfb := ff_bd hf1 (by omega)
  exact ⟨rfl, trivial, trivial, fun _ => ⟨h0, k_tok, k_sc1, k_sc2, k_T, k_I, k_F, k_N, k_Y, k_Z, k_A, k_B, k_C, ⟨fun X1 Xp e0 e1 => by
      have e0 : g 1 = X1 := Option.some.inj (t1170.symm.trans e0)
      subst e0
      have e1 : g 14 + 0 = Xp := Option.some.inj e1
      subst e1
      exact fun hw => no9 hw t1173, fun X1 X2 Xp e0 e1 e2 => by
      have e0 : g 1 = X1 := Option.some.inj (t1170.symm.trans e0)
      subst e0
      have e1 : g 2 = X2 := Option.some.inj (t1171.symm.trans e1)
      subst e1
      have e2 : g 14 + 0 = Xp := Option.some.inj e2
      subst e2
      exact fun hw => no9 hw t1173, fun X1 X2 Xp Xw Xs Xo Xv Xd e0 e1 e2 e3 e4 e5 e6 e7 => by
      have e0 : g 1 = X1 := Option.some.inj (t1170.symm.trans e0)
      subst e0
      have e1 : g 2 = X2 := Option.some.inj (t1171.symm.trans e1)
      subst e1
      have e2 : g 14 + 0 = Xp := Option.some.inj e2
      subst e2
      have e3 : g 4 = Xw := Option.some.inj (t1173.symm.trans e3)
      subst e3
      have e4 : g 5 = Xs := Option.some.inj (t1174.symm.trans e4)
      subst e4
      have e5 : g 6 = Xo := Option.some.inj (t1175.symm.trans e5)
      subst e5
      have e6 : g 20 + 0 = Xv := Option.some.inj e6
      subst e6
      have e7 : g 21 + 0 = Xd := Option.some.inj e7
      subst e7
      exact XS_c (X_in hX (by omega) (kq (a := 29) (b := 29) (fun k => k = 15) (by decide) (by omega) (by omega)) (by omega) (by omega) hf1 ⟨by omega, by omega⟩ (by omega) (by omega) (by simp only [Int.add_zero]; omega) (by omega) (by omega)) n1178 rfl rfl n1181 n1182, fun _ _ _ e0 e1 e2 => no9 n1155 e0⟩, k_R, k_f4⟩⟩
noncomputable def ru_gInB : Ru := ([(0, (1199, (0, (0, 0)))), (0, (1170, (0, (0, 0)))), (0, (1171, (0, (0, 0)))), (0, (1172, (0, (0, 0)))), (0, (1173, (0, (0, 0)))), (0, (1174, (0, (0, 0)))), (0, (1175, (0, (0, 0)))), (0, (1176, (0, (0, 0)))), (0, (1177, (0, (0, 0)))), (0, (1120, (0, (0, 0)))), (0, (1123, (0, (0, 0)))), (0, (1124, (0, (0, 0)))), (0, (1121, (0, (0, 0)))), (0, (1150, (0, (0, 0)))), (0, (1151, (0, (0, 0)))), (0, (1152, (0, (0, 0)))), (6, (143, (6, (0, 0)))), (6, (145, (6, (0, 0))))], ([1178, 1179, 1180, 1181, 1182, 1155], ([([(9, (-1)), (10, 1)], 0), ([(9, 1), (10, (-1))], 0), ([(3, 1), (9, (-1))], 0), ([(3, (-1)), (9, 1)], 0), ([(4, 1)], 0), ([(4, (-1))], 0), ([(16, 1)], 1), ([(16, (-1))], 0), ([(11, 1)], 29), ([(11, (-1))], (-29)), ([(17, 1)], 0), ([(17, (-1))], 0), ([(12, (-1)), (13, 1)], 0), ([(12, 1), (13, (-1))], 0), ([(14, 1)], (-1))], (false, ([([(2, 1), (15, (-1))], 0), ([(2, (-1)), (15, 1)], 0), ([(1, 1)], (-1)), ([(1, (-1))], 1)], ([], ([(1170, none), (1171, none), (1172, none), (1173, none), (1174, none), (1175, none), (1176, none), (1177, none)], none)))))))
theorem rk_gInB : RuOk SR ru_gInB := by
  intro τ m g hi hc ha hS
  obtain ⟨i0, i1, i2, i3, i4, i5, i6, i7, i8, i9, i10, i11, i12, i13, i14, i15, i16, i17, _⟩ := hi
  have t1199 : τ 1199 = some (g 0) := i0
  have t1170 : τ 1170 = some (g 1) := i1
  have t1171 : τ 1171 = some (g 2) := i2
  have t1172 : τ 1172 = some (g 3) := i3
  have t1173 : τ 1173 = some (g 4) := i4
  have t1174 : τ 1174 = some (g 5) := i5
  have t1175 : τ 1175 = some (g 6) := i6
  have t1176 : τ 1176 = some (g 7) := i7
  have t1177 : τ 1177 = some (g 8) := i8
  have t1120 : τ 1120 = some (g 9) := i9
  have t1123 : τ 1123 = some (g 10) := i10
  have t1124 : τ 1124 = some (g 11) := i11
  have t1121 : τ 1121 = some (g 12) := i12
  have t1150 : τ 1150 = some (g 13) := i13
  have t1151 : τ 1151 = some (g 14) := i14
  have t1152 : τ 1152 = some (g 15) := i15
  obtain ⟨jkd, ukd, vkd⟩ : ∃ j : Nat, g 6 = (j : Int) ∧ g 16 = m 143 j := i16
  obtain ⟨jpa, upa, vpa⟩ : ∃ j : Nat, g 6 = (j : Int) ∧ g 17 = m 145 j := i17
  obtain ⟨c0, c1, c2, c3, c4, c5, c6, c7, c8, c9, c10, c11, c12, c13, c14, _⟩ := hc
  have c0 : (-1) * g 9 + 1 * g 10 ≤ 0 := d2 c0
  have c1 : 1 * g 9 + (-1) * g 10 ≤ 0 := d2 c1
  have c2 : 1 * g 3 + (-1) * g 9 ≤ 0 := d2 c2
  have c3 : (-1) * g 3 + 1 * g 9 ≤ 0 := d2 c3
  have c4 : 1 * g 4 ≤ 0 := d1 c4
  have c5 : (-1) * g 4 ≤ 0 := d1 c5
  have c6 : 1 * g 16 ≤ 1 := d1 c6
  have c7 : (-1) * g 16 ≤ 0 := d1 c7
  have c8 : 1 * g 11 ≤ 29 := d1 c8
  have c9 : (-1) * g 11 ≤ (-29) := d1 c9
  have c10 : 1 * g 17 ≤ 0 := d1 c10
  have c11 : (-1) * g 17 ≤ 0 := d1 c11
  have c12 : (-1) * g 12 + 1 * g 13 ≤ 0 := d2 c12
  have c13 : 1 * g 12 + (-1) * g 13 ≤ 0 := d2 c13
  have c14 : 1 * g 14 ≤ (-1) := d1 c14
  obtain ⟨a0, a1, a2, a3, a4, a5, _⟩ := ha
  have n1178 : τ 1178 = none := a0
  have n1179 : τ 1179 = none := a1
  have n1180 : τ 1180 = none := a2
  have n1181 : τ 1181 = none := a3
  have n1182 : τ 1182 = none := a4
  have n1155 : τ 1155 = none := a5
  obtain ⟨h0, k_tok, k_sc1, k_sc2, k_T, k_I, k_F, k_N, k_Y, k_Z, k_A, k_B, k_C, k_X, k_R, k_f4⟩ := hS (by rw [t1199]; exact fun e => by cases e)
  have k_T0 := k_T
  obtain ⟨h_T, h_TN, h_QZ⟩ := k_T0
  have k_I0 := k_I
  obtain ⟨h_p, h_pc, h_ip, h_iP, h_PC, h_PN⟩ := k_I0
  have k_F0 := k_F
  obtain ⟨h_F0, h_F, h_F1, h_F2⟩ := k_F0
  have k_X0 := k_X
  obtain ⟨h_X0a, h_X0, h_X, h_Xe⟩ := k_X0
  have k_R0 := k_R
  obtain ⟨h_rb, h_rh, h_rw, h_rg, h_rd, h_rc, h_rq⟩ := k_R0
  have hXL : ((tx9 m).2 : Int) = m 110 1 := by
    show (((m 110 1).toNat : Nat) : Int) = _
    omega
  have hX := h_X _ _ _ _ _ _ _ _ t1170 t1171 t1172 t1173 t1174 t1175 t1176 t1177
  rw [n1178, n1179, n1180, n1181, n1182] at hX
  obtain ⟨⟨⟨hp1, hp2⟩, hws⟩, ⟨ho0, hv0, hvp, hd0, hd20⟩, ⟨hb0, hbv⟩, hdd⟩ := XB_n hX.1
  have hcc := h_pc _ _ t1123 t1124
  rw [show (g 10).toNat = (g 3).toNat by omega] at hcc
  have hN := h_TN _ _ t1120 t1121
  rw [show (g 9).toNat = (g 3).toNat by omega] at hN
  rw [show jkd = (g 6).toNat by omega] at vkd
  rw [show jpa = (g 6).toNat by omega] at vpa
  have hFx := h_F _ _ _ t1150 t1151 t1152
  rw [show (g 13).toNat = nx9t (tx9 m) (g 3).toNat by omega] at hFx
  obtain ⟨hf1, hf2, hf3⟩ := YE_neg hFx (by omega)
  obtain ⟨y1, y2⟩ := X_inB hX (by omega) (kq (a := 29) (b := 29) (fun k => k = 15) (by decide) (by omega) (by omega)) (by omega) (by omega) hf1
  exact ⟨rfl, ⟨f2 (by omega), f2 (by omega), f1 (by omega), f1 (by omega), trivial⟩, trivial, fun _ => ⟨h0, k_tok, k_sc1, k_sc2, k_T, k_I, k_F, k_N, k_Y, k_Z, k_A, k_B, k_C, ⟨fun _ _ e0 e1 => no9 (o := none) rfl e0, fun _ _ _ e0 e1 e2 => no9 (o := none) rfl e0, fun _ _ _ _ _ _ _ _ e0 e1 e2 e3 e4 e5 e6 e7 => no9 (o := none) rfl e0, fun _ _ _ e0 e1 e2 => no9 (o := none) rfl e1⟩, k_R, k_f4⟩⟩
noncomputable def ru_gAnd : Ru := ([(0, (1199, (0, (0, 0)))), (0, (1170, (0, (0, 0)))), (0, (1171, (0, (0, 0)))), (0, (1172, (0, (0, 0)))), (0, (1173, (0, (0, 0)))), (0, (1174, (0, (0, 0)))), (0, (1175, (0, (0, 0)))), (0, (1176, (0, (0, 0)))), (0, (1177, (0, (0, 0)))), (0, (1120, (0, (0, 0)))), (0, (1123, (0, (0, 0)))), (0, (1124, (0, (0, 0)))), (0, (1121, (0, (0, 0)))), (0, (1160, (0, (0, 0)))), (0, (1161, (0, (0, 0)))), (0, (1162, (0, (0, 0)))), (0, (1163, (0, (0, 0)))), (0, (1164, (0, (0, 0)))), (0, (1165, (0, (0, 0)))), (6, (143, (6, (0, 0)))), (6, (145, (6, (0, 0)))), (4, (0, (0, (2, 0)))), (4, (0, (0, (1, 0)))), (4, (0, (0, (0, 0))))], ([1178, 1179, 1180, 1181, 1182, 1155], ([([(9, (-1)), (10, 1)], 0), ([(9, 1), (10, (-1))], 0), ([(3, 1), (9, (-1))], 0), ([(3, (-1)), (9, 1)], 0), ([(4, 1)], 0), ([(4, (-1))], 0), ([(6, (-1)), (13, 1)], 0), ([(6, 1), (13, (-1))], 0), ([(7, (-1)), (15, 1)], 0), ([(7, 1), (15, (-1))], 0), ([(16, 1)], 2), ([(16, (-1))], (-2)), ([(19, 1)], 1), ([(19, (-1))], 0), ([(11, 1)], 30), ([(11, (-1))], (-30)), ([(20, (-1))], (-1))], (false, ([], ([], ([(1172, some (12, 0)), (1176, some (17, 1)), (1177, some (18, 0)), (1182, some (21, 0)), (1180, some (23, 0)), (1179, some (22, 0)), (1173, some (22, 0)), (1174, some (22, 0))], none)))))))
theorem rk_gAnd : RuOk SR ru_gAnd := by
  intro τ m g hi hc ha hS
  obtain ⟨i0, i1, i2, i3, i4, i5, i6, i7, i8, i9, i10, i11, i12, i13, i14, i15, i16, i17, i18, i19, i20, i21, i22, i23, _⟩ := hi
  have t1199 : τ 1199 = some (g 0) := i0
  have t1170 : τ 1170 = some (g 1) := i1
  have t1171 : τ 1171 = some (g 2) := i2
  have t1172 : τ 1172 = some (g 3) := i3
  have t1173 : τ 1173 = some (g 4) := i4
  have t1174 : τ 1174 = some (g 5) := i5
  have t1175 : τ 1175 = some (g 6) := i6
  have t1176 : τ 1176 = some (g 7) := i7
  have t1177 : τ 1177 = some (g 8) := i8
  have t1120 : τ 1120 = some (g 9) := i9
  have t1123 : τ 1123 = some (g 10) := i10
  have t1124 : τ 1124 = some (g 11) := i11
  have t1121 : τ 1121 = some (g 12) := i12
  have t1160 : τ 1160 = some (g 13) := i13
  have t1161 : τ 1161 = some (g 14) := i14
  have t1162 : τ 1162 = some (g 15) := i15
  have t1163 : τ 1163 = some (g 16) := i16
  have t1164 : τ 1164 = some (g 17) := i17
  have t1165 : τ 1165 = some (g 18) := i18
  obtain ⟨jkd, ukd, vkd⟩ : ∃ j : Nat, g 6 = (j : Int) ∧ g 19 = m 143 j := i19
  obtain ⟨jpa, upa, vpa⟩ : ∃ j : Nat, g 6 = (j : Int) ∧ g 20 = m 145 j := i20
  have xrk : g 21 = 2 := i21
  have xone : g 22 = 1 := i22
  have xo : g 23 = 0 := i23
  obtain ⟨c0, c1, c2, c3, c4, c5, c6, c7, c8, c9, c10, c11, c12, c13, c14, c15, c16, _⟩ := hc
  have c0 : (-1) * g 9 + 1 * g 10 ≤ 0 := d2 c0
  have c1 : 1 * g 9 + (-1) * g 10 ≤ 0 := d2 c1
  have c2 : 1 * g 3 + (-1) * g 9 ≤ 0 := d2 c2
  have c3 : (-1) * g 3 + 1 * g 9 ≤ 0 := d2 c3
  have c4 : 1 * g 4 ≤ 0 := d1 c4
  have c5 : (-1) * g 4 ≤ 0 := d1 c5
  have c6 : (-1) * g 6 + 1 * g 13 ≤ 0 := d2 c6
  have c7 : 1 * g 6 + (-1) * g 13 ≤ 0 := d2 c7
  have c8 : (-1) * g 7 + 1 * g 15 ≤ 0 := d2 c8
  have c9 : 1 * g 7 + (-1) * g 15 ≤ 0 := d2 c9
  have c10 : 1 * g 16 ≤ 2 := d1 c10
  have c11 : (-1) * g 16 ≤ (-2) := d1 c11
  have c12 : 1 * g 19 ≤ 1 := d1 c12
  have c13 : (-1) * g 19 ≤ 0 := d1 c13
  have c14 : 1 * g 11 ≤ 30 := d1 c14
  have c15 : (-1) * g 11 ≤ (-30) := d1 c15
  have c16 : (-1) * g 20 ≤ (-1) := d1 c16
  obtain ⟨a0, a1, a2, a3, a4, a5, _⟩ := ha
  have n1178 : τ 1178 = none := a0
  have n1179 : τ 1179 = none := a1
  have n1180 : τ 1180 = none := a2
  have n1181 : τ 1181 = none := a3
  have n1182 : τ 1182 = none := a4
  have n1155 : τ 1155 = none := a5
  obtain ⟨h0, k_tok, k_sc1, k_sc2, k_T, k_I, k_F, k_N, k_Y, k_Z, k_A, k_B, k_C, k_X, k_R, k_f4⟩ := hS (by rw [t1199]; exact fun e => by cases e)
  have k_T0 := k_T
  obtain ⟨h_T, h_TN, h_QZ⟩ := k_T0
  have k_I0 := k_I
  obtain ⟨h_p, h_pc, h_ip, h_iP, h_PC, h_PN⟩ := k_I0
  have k_X0 := k_X
  obtain ⟨h_X0a, h_X0, h_X, h_Xe⟩ := k_X0
  have k_R0 := k_R
  obtain ⟨h_rb, h_rh, h_rw, h_rg, h_rd, h_rc, h_rq⟩ := k_R0
  have hXL : ((tx9 m).2 : Int) = m 110 1 := by
    show (((m 110 1).toNat : Nat) : Int) = _
    omega
  have hX := h_X _ _ _ _ _ _ _ _ t1170 t1171 t1172 t1173 t1174 t1175 t1176 t1177
  rw [n1178, n1179, n1180, n1181, n1182] at hX
  obtain ⟨⟨⟨hp1, hp2⟩, hws⟩, ⟨ho0, hv0, hvp, hd0, hd20⟩, ⟨hb0, hbv⟩, hdd⟩ := XB_n hX.1
  have hcc := h_pc _ _ t1123 t1124
  rw [show (g 10).toNat = (g 3).toNat by omega] at hcc
  have hN := h_TN _ _ t1120 t1121
  rw [show (g 9).toNat = (g 3).toNat by omega] at hN
  have hnx := nx_lt (X := tx9 m) (p := (g 3).toNat) (by omega)
  rw [show jkd = (g 6).toNat by omega] at vkd
  rw [show jpa = (g 6).toNat by omega] at vpa
  have hRb := (h_rb _ _ t1160 t1161).2.2
  have hRw := h_rw _ _ _ _ _ t1160 t1161 t1162 t1163 t1164
  have hRd := h_rd _ _ _ t1160 t1164 t1165
  rw [show (g 13).toNat = (g 6).toNat by omega] at hRb
  rw [show (g 15).toNat = (g 7).toNat by omega, hRb] at hRw
  rw [show (g 16).toNat = 2 by omega] at hRw
  exact ⟨rfl, trivial, trivial, fun _ => ⟨h0, k_tok, k_sc1, k_sc2, k_T, k_I, k_F, k_N, k_Y, k_Z, k_A, k_B, k_C, ⟨fun X1 Xp e0 e1 => by
      have e0 : g 1 = X1 := Option.some.inj (t1170.symm.trans e0)
      subst e0
      have e1 : g 12 + 0 = Xp := Option.some.inj e1
      subst e1
      exact fun hw => no9 hw rfl, fun X1 X2 Xp e0 e1 e2 => by
      have e0 : g 1 = X1 := Option.some.inj (t1170.symm.trans e0)
      subst e0
      have e1 : g 2 = X2 := Option.some.inj (t1171.symm.trans e1)
      subst e1
      have e2 : g 12 + 0 = Xp := Option.some.inj e2
      subst e2
      exact fun hw => no9 hw rfl, fun X1 X2 Xp Xw Xs Xo Xv Xd e0 e1 e2 e3 e4 e5 e6 e7 => by
      have e0 : g 1 = X1 := Option.some.inj (t1170.symm.trans e0)
      subst e0
      have e1 : g 2 = X2 := Option.some.inj (t1171.symm.trans e1)
      subst e1
      have e2 : g 12 + 0 = Xp := Option.some.inj e2
      subst e2
      have e3 : g 22 + 0 = Xw := Option.some.inj e3
      subst e3
      have e4 : g 22 + 0 = Xs := Option.some.inj e4
      subst e4
      have e5 : g 6 = Xo := Option.some.inj (t1175.symm.trans e5)
      subst e5
      have e6 : g 17 + 1 = Xv := Option.some.inj e6
      subst e6
      have e7 : g 18 + 0 = Xd := Option.some.inj e7
      subst e7
      exact XS_c (X_and (u := g 17) (R := 2) hX (by omega) (Or.inl ⟨(kq (a := 30) (b := 30) (fun k => k = 16) (by decide) (by omega) (by omega)), rfl⟩) (by omega) (by omega) ⟨by omega, by omega⟩ (by omega) (by omega) (by omega) (by omega) (by omega) (by simp only [Int.add_zero]; omega) (by omega) (by omega) (by omega)) n1178 rfl rfl n1181 rfl, fun _ _ _ e0 e1 e2 => no9 n1155 e0⟩, k_R, k_f4⟩⟩
noncomputable def ru_gOr : Ru := ([(0, (1199, (0, (0, 0)))), (0, (1170, (0, (0, 0)))), (0, (1171, (0, (0, 0)))), (0, (1172, (0, (0, 0)))), (0, (1173, (0, (0, 0)))), (0, (1174, (0, (0, 0)))), (0, (1175, (0, (0, 0)))), (0, (1176, (0, (0, 0)))), (0, (1177, (0, (0, 0)))), (0, (1120, (0, (0, 0)))), (0, (1123, (0, (0, 0)))), (0, (1124, (0, (0, 0)))), (0, (1121, (0, (0, 0)))), (0, (1160, (0, (0, 0)))), (0, (1161, (0, (0, 0)))), (0, (1162, (0, (0, 0)))), (0, (1163, (0, (0, 0)))), (0, (1164, (0, (0, 0)))), (0, (1165, (0, (0, 0)))), (6, (143, (6, (0, 0)))), (6, (145, (6, (0, 0)))), (4, (0, (0, (1, 0)))), (4, (0, (0, (1, 0)))), (4, (0, (0, (0, 0))))], ([1178, 1179, 1180, 1181, 1182, 1155], ([([(9, (-1)), (10, 1)], 0), ([(9, 1), (10, (-1))], 0), ([(3, 1), (9, (-1))], 0), ([(3, (-1)), (9, 1)], 0), ([(4, 1)], 0), ([(4, (-1))], 0), ([(6, (-1)), (13, 1)], 0), ([(6, 1), (13, (-1))], 0), ([(7, (-1)), (15, 1)], 0), ([(7, 1), (15, (-1))], 0), ([(16, 1)], 1), ([(16, (-1))], (-1)), ([(19, 1)], 1), ([(19, (-1))], 0), ([(11, 1)], 31), ([(11, (-1))], (-31)), ([(20, (-1))], (-1))], (false, ([], ([], ([(1172, some (12, 0)), (1176, some (17, 1)), (1177, some (18, 0)), (1182, some (21, 0)), (1180, some (23, 0)), (1179, some (22, 0)), (1173, some (22, 0)), (1174, some (22, 0))], none)))))))
theorem rk_gOr : RuOk SR ru_gOr := by
  intro τ m g hi hc ha hS
  obtain ⟨i0, i1, i2, i3, i4, i5, i6, i7, i8, i9, i10, i11, i12, i13, i14, i15, i16, i17, i18, i19, i20, i21, i22, i23, _⟩ := hi
  have t1199 : τ 1199 = some (g 0) := i0
  have t1170 : τ 1170 = some (g 1) := i1
  have t1171 : τ 1171 = some (g 2) := i2
  have t1172 : τ 1172 = some (g 3) := i3
  have t1173 : τ 1173 = some (g 4) := i4
  have t1174 : τ 1174 = some (g 5) := i5
  have t1175 : τ 1175 = some (g 6) := i6
  have t1176 : τ 1176 = some (g 7) := i7
  have t1177 : τ 1177 = some (g 8) := i8
  have t1120 : τ 1120 = some (g 9) := i9
  have t1123 : τ 1123 = some (g 10) := i10
  have t1124 : τ 1124 = some (g 11) := i11
  have t1121 : τ 1121 = some (g 12) := i12
  have t1160 : τ 1160 = some (g 13) := i13
  have t1161 : τ 1161 = some (g 14) := i14
  have t1162 : τ 1162 = some (g 15) := i15
  have t1163 : τ 1163 = some (g 16) := i16
  have t1164 : τ 1164 = some (g 17) := i17
  have t1165 : τ 1165 = some (g 18) := i18
  obtain ⟨jkd, ukd, vkd⟩ : ∃ j : Nat, g 6 = (j : Int) ∧ g 19 = m 143 j := i19
  obtain ⟨jpa, upa, vpa⟩ : ∃ j : Nat, g 6 = (j : Int) ∧ g 20 = m 145 j := i20
  have xrk : g 21 = 1 := i21
  have xone : g 22 = 1 := i22
  have xo : g 23 = 0 := i23
  obtain ⟨c0, c1, c2, c3, c4, c5, c6, c7, c8, c9, c10, c11, c12, c13, c14, c15, c16, _⟩ := hc
  have c0 : (-1) * g 9 + 1 * g 10 ≤ 0 := d2 c0
  have c1 : 1 * g 9 + (-1) * g 10 ≤ 0 := d2 c1
  have c2 : 1 * g 3 + (-1) * g 9 ≤ 0 := d2 c2
  have c3 : (-1) * g 3 + 1 * g 9 ≤ 0 := d2 c3
  have c4 : 1 * g 4 ≤ 0 := d1 c4
  have c5 : (-1) * g 4 ≤ 0 := d1 c5
  have c6 : (-1) * g 6 + 1 * g 13 ≤ 0 := d2 c6
  have c7 : 1 * g 6 + (-1) * g 13 ≤ 0 := d2 c7
  have c8 : (-1) * g 7 + 1 * g 15 ≤ 0 := d2 c8
  have c9 : 1 * g 7 + (-1) * g 15 ≤ 0 := d2 c9
  have c10 : 1 * g 16 ≤ 1 := d1 c10
  have c11 : (-1) * g 16 ≤ (-1) := d1 c11
  have c12 : 1 * g 19 ≤ 1 := d1 c12
  have c13 : (-1) * g 19 ≤ 0 := d1 c13
  have c14 : 1 * g 11 ≤ 31 := d1 c14
  have c15 : (-1) * g 11 ≤ (-31) := d1 c15
  have c16 : (-1) * g 20 ≤ (-1) := d1 c16
  obtain ⟨a0, a1, a2, a3, a4, a5, _⟩ := ha
  have n1178 : τ 1178 = none := a0
  have n1179 : τ 1179 = none := a1
  have n1180 : τ 1180 = none := a2
  have n1181 : τ 1181 = none := a3
  have n1182 : τ 1182 = none := a4
  have n1155 : τ 1155 = none := a5
  obtain ⟨h0, k_tok, k_sc1, k_sc2, k_T, k_I, k_F, k_N, k_Y, k_Z, k_A, k_B, k_C, k_X, k_R, k_f4⟩ := hS (by rw [t1199]; exact fun e => by cases e)
  have k_T0 := k_T
  obtain ⟨h_T, h_TN, h_QZ⟩ := k_T0
  have k_I0 := k_I
  obtain ⟨h_p, h_pc, h_ip, h_iP, h_PC, h_PN⟩ := k_I0
  have k_X0 := k_X
  obtain ⟨h_X0a, h_X0, h_X, h_Xe⟩ := k_X0
  have k_R0 := k_R
  obtain ⟨h_rb, h_rh, h_rw, h_rg, h_rd, h_rc, h_rq⟩ := k_R0
  have hXL : ((tx9 m).2 : Int) = m 110 1 := by
    show (((m 110 1).toNat : Nat) : Int) = _
    omega
  have hX := h_X _ _ _ _ _ _ _ _ t1170 t1171 t1172 t1173 t1174 t1175 t1176 t1177
  rw [n1178, n1179, n1180, n1181, n1182] at hX
  obtain ⟨⟨⟨hp1, hp2⟩, hws⟩, ⟨ho0, hv0, hvp, hd0, hd20⟩, ⟨hb0, hbv⟩, hdd⟩ := XB_n hX.1
  have hcc := h_pc _ _ t1123 t1124
  rw [show (g 10).toNat = (g 3).toNat by omega] at hcc
  have hN := h_TN _ _ t1120 t1121
  rw [show (g 9).toNat = (g 3).toNat by omega] at hN
  have hnx := nx_lt (X := tx9 m) (p := (g 3).toNat) (by omega)
  rw [show jkd = (g 6).toNat by omega] at vkd
  rw [show jpa = (g 6).toNat by omega] at vpa
  have hRb := (h_rb _ _ t1160 t1161).2.2
  have hRw := h_rw _ _ _ _ _ t1160 t1161 t1162 t1163 t1164
  have hRd := h_rd _ _ _ t1160 t1164 t1165
  rw [show (g 13).toNat = (g 6).toNat by omega] at hRb
  rw [show (g 15).toNat = (g 7).toNat by omega, hRb] at hRw
  rw [show (g 16).toNat = 1 by omega] at hRw
  exact ⟨rfl, trivial, trivial, fun _ => ⟨h0, k_tok, k_sc1, k_sc2, k_T, k_I, k_F, k_N, k_Y, k_Z, k_A, k_B, k_C, ⟨fun X1 Xp e0 e1 => by
      have e0 : g 1 = X1 := Option.some.inj (t1170.symm.trans e0)
      subst e0
      have e1 : g 12 + 0 = Xp := Option.some.inj e1
      subst e1
      exact fun hw => no9 hw rfl, fun X1 X2 Xp e0 e1 e2 => by
      have e0 : g 1 = X1 := Option.some.inj (t1170.symm.trans e0)
      subst e0
      have e1 : g 2 = X2 := Option.some.inj (t1171.symm.trans e1)
      subst e1
      have e2 : g 12 + 0 = Xp := Option.some.inj e2
      subst e2
      exact fun hw => no9 hw rfl, fun X1 X2 Xp Xw Xs Xo Xv Xd e0 e1 e2 e3 e4 e5 e6 e7 => by
      have e0 : g 1 = X1 := Option.some.inj (t1170.symm.trans e0)
      subst e0
      have e1 : g 2 = X2 := Option.some.inj (t1171.symm.trans e1)
      subst e1
      have e2 : g 12 + 0 = Xp := Option.some.inj e2
      subst e2
      have e3 : g 22 + 0 = Xw := Option.some.inj e3
      subst e3
      have e4 : g 22 + 0 = Xs := Option.some.inj e4
      subst e4
      have e5 : g 6 = Xo := Option.some.inj (t1175.symm.trans e5)
      subst e5
      have e6 : g 17 + 1 = Xv := Option.some.inj e6
      subst e6
      have e7 : g 18 + 0 = Xd := Option.some.inj e7
      subst e7
      exact XS_c (X_and (u := g 17) (R := 1) hX (by omega) (Or.inr ⟨(kq (a := 31) (b := 31) (fun k => k = 17) (by decide) (by omega) (by omega)), rfl⟩) (by omega) (by omega) ⟨by omega, by omega⟩ (by omega) (by omega) (by omega) (by omega) (by omega) (by simp only [Int.add_zero]; omega) (by omega) (by omega) (by omega)) n1178 rfl rfl n1181 rfl, fun _ _ _ e0 e1 e2 => no9 n1155 e0⟩, k_R, k_f4⟩⟩
noncomputable def ru_gClC : Ru := ([(0, (1199, (0, (0, 0)))), (0, (1170, (0, (0, 0)))), (0, (1171, (0, (0, 0)))), (0, (1172, (0, (0, 0)))), (0, (1173, (0, (0, 0)))), (0, (1174, (0, (0, 0)))), (0, (1175, (0, (0, 0)))), (0, (1176, (0, (0, 0)))), (0, (1177, (0, (0, 0)))), (0, (1120, (0, (0, 0)))), (0, (1123, (0, (0, 0)))), (0, (1124, (0, (0, 0)))), (0, (1121, (0, (0, 0)))), (0, (1160, (0, (0, 0)))), (0, (1161, (0, (0, 0)))), (0, (1162, (0, (0, 0)))), (0, (1163, (0, (0, 0)))), (0, (1164, (0, (0, 0)))), (0, (1165, (0, (0, 0)))), (6, (143, (6, (0, 0)))), (6, (145, (6, (0, 0)))), (4, (0, (0, (2, 0)))), (4, (0, (0, (1, 0)))), (4, (0, (0, (0, 0))))], ([1178, 1179, 1180, 1181, 1182, 1155], ([([(9, (-1)), (10, 1)], 0), ([(9, 1), (10, (-1))], 0), ([(3, 1), (9, (-1))], 0), ([(3, (-1)), (9, 1)], 0), ([(4, 1)], 0), ([(4, (-1))], 0), ([(6, (-1)), (13, 1)], 0), ([(6, 1), (13, (-1))], 0), ([(7, (-1)), (15, 1)], 0), ([(7, 1), (15, (-1))], 0), ([(16, 1)], 0), ([(16, (-1))], 0), ([(11, 1)], 5), ([(11, (-1))], (-5)), ([(19, 1)], 1), ([(19, (-1))], (-1)), ([(20, (-1))], (-1)), ([(6, (-1))], (-1)), ([(14, (-1)), (17, 1)], 0), ([(14, 1), (17, (-1))], 0)], (false, ([], ([], ([(1172, some (12, 0)), (1176, some (17, 0)), (1175, some (6, (-1))), (1177, some (18, (-1))), (1180, some (21, 0)), (1179, some (22, 0)), (1173, some (23, 0)), (1174, some (23, 0))], none)))))))
theorem rk_gClC : RuOk SR ru_gClC := by
  intro τ m g hi hc ha hS
  obtain ⟨i0, i1, i2, i3, i4, i5, i6, i7, i8, i9, i10, i11, i12, i13, i14, i15, i16, i17, i18, i19, i20, i21, i22, i23, _⟩ := hi
  have t1199 : τ 1199 = some (g 0) := i0
  have t1170 : τ 1170 = some (g 1) := i1
  have t1171 : τ 1171 = some (g 2) := i2
  have t1172 : τ 1172 = some (g 3) := i3
  have t1173 : τ 1173 = some (g 4) := i4
  have t1174 : τ 1174 = some (g 5) := i5
  have t1175 : τ 1175 = some (g 6) := i6
  have t1176 : τ 1176 = some (g 7) := i7
  have t1177 : τ 1177 = some (g 8) := i8
  have t1120 : τ 1120 = some (g 9) := i9
  have t1123 : τ 1123 = some (g 10) := i10
  have t1124 : τ 1124 = some (g 11) := i11
  have t1121 : τ 1121 = some (g 12) := i12
  have t1160 : τ 1160 = some (g 13) := i13
  have t1161 : τ 1161 = some (g 14) := i14
  have t1162 : τ 1162 = some (g 15) := i15
  have t1163 : τ 1163 = some (g 16) := i16
  have t1164 : τ 1164 = some (g 17) := i17
  have t1165 : τ 1165 = some (g 18) := i18
  obtain ⟨jkd, ukd, vkd⟩ : ∃ j : Nat, g 6 = (j : Int) ∧ g 19 = m 143 j := i19
  obtain ⟨jpa, upa, vpa⟩ : ∃ j : Nat, g 6 = (j : Int) ∧ g 20 = m 145 j := i20
  have xtwo : g 21 = 2 := i21
  have xone : g 22 = 1 := i22
  have xo : g 23 = 0 := i23
  obtain ⟨c0, c1, c2, c3, c4, c5, c6, c7, c8, c9, c10, c11, c12, c13, c14, c15, c16, c17, c18, c19, _⟩ := hc
  have c0 : (-1) * g 9 + 1 * g 10 ≤ 0 := d2 c0
  have c1 : 1 * g 9 + (-1) * g 10 ≤ 0 := d2 c1
  have c2 : 1 * g 3 + (-1) * g 9 ≤ 0 := d2 c2
  have c3 : (-1) * g 3 + 1 * g 9 ≤ 0 := d2 c3
  have c4 : 1 * g 4 ≤ 0 := d1 c4
  have c5 : (-1) * g 4 ≤ 0 := d1 c5
  have c6 : (-1) * g 6 + 1 * g 13 ≤ 0 := d2 c6
  have c7 : 1 * g 6 + (-1) * g 13 ≤ 0 := d2 c7
  have c8 : (-1) * g 7 + 1 * g 15 ≤ 0 := d2 c8
  have c9 : 1 * g 7 + (-1) * g 15 ≤ 0 := d2 c9
  have c10 : 1 * g 16 ≤ 0 := d1 c10
  have c11 : (-1) * g 16 ≤ 0 := d1 c11
  have c12 : 1 * g 11 ≤ 5 := d1 c12
  have c13 : (-1) * g 11 ≤ (-5) := d1 c13
  have c14 : 1 * g 19 ≤ 1 := d1 c14
  have c15 : (-1) * g 19 ≤ (-1) := d1 c15
  have c16 : (-1) * g 20 ≤ (-1) := d1 c16
  have c17 : (-1) * g 6 ≤ (-1) := d1 c17
  have c18 : (-1) * g 14 + 1 * g 17 ≤ 0 := d2 c18
  have c19 : 1 * g 14 + (-1) * g 17 ≤ 0 := d2 c19
  obtain ⟨a0, a1, a2, a3, a4, a5, _⟩ := ha
  have n1178 : τ 1178 = none := a0
  have n1179 : τ 1179 = none := a1
  have n1180 : τ 1180 = none := a2
  have n1181 : τ 1181 = none := a3
  have n1182 : τ 1182 = none := a4
  have n1155 : τ 1155 = none := a5
  obtain ⟨h0, k_tok, k_sc1, k_sc2, k_T, k_I, k_F, k_N, k_Y, k_Z, k_A, k_B, k_C, k_X, k_R, k_f4⟩ := hS (by rw [t1199]; exact fun e => by cases e)
  have k_T0 := k_T
  obtain ⟨h_T, h_TN, h_QZ⟩ := k_T0
  have k_I0 := k_I
  obtain ⟨h_p, h_pc, h_ip, h_iP, h_PC, h_PN⟩ := k_I0
  have k_X0 := k_X
  obtain ⟨h_X0a, h_X0, h_X, h_Xe⟩ := k_X0
  have k_R0 := k_R
  obtain ⟨h_rb, h_rh, h_rw, h_rg, h_rd, h_rc, h_rq⟩ := k_R0
  have hXL : ((tx9 m).2 : Int) = m 110 1 := by
    show (((m 110 1).toNat : Nat) : Int) = _
    omega
  have hX := h_X _ _ _ _ _ _ _ _ t1170 t1171 t1172 t1173 t1174 t1175 t1176 t1177
  rw [n1178, n1179, n1180, n1181, n1182] at hX
  obtain ⟨⟨⟨hp1, hp2⟩, hws⟩, ⟨ho0, hv0, hvp, hd0, hd20⟩, ⟨hb0, hbv⟩, hdd⟩ := XB_n hX.1
  have hcc := h_pc _ _ t1123 t1124
  rw [show (g 10).toNat = (g 3).toNat by omega] at hcc
  have hN := h_TN _ _ t1120 t1121
  rw [show (g 9).toNat = (g 3).toNat by omega] at hN
  have hnx := nx_lt (X := tx9 m) (p := (g 3).toNat) (by omega)
  rw [show jkd = (g 6).toNat by omega] at vkd
  rw [show jpa = (g 6).toNat by omega] at vpa
  have hRb := (h_rb _ _ t1160 t1161).2.2
  have hRw := h_rw _ _ _ _ _ t1160 t1161 t1162 t1163 t1164
  have hRd := h_rd _ _ _ t1160 t1164 t1165
  rw [show (g 13).toNat = (g 6).toNat by omega] at hRb
  rw [show (g 15).toNat = (g 7).toNat by omega, hRb] at hRw
  exact ⟨rfl, trivial, trivial, fun _ => ⟨h0, k_tok, k_sc1, k_sc2, k_T, k_I, k_F, k_N, k_Y, k_Z, k_A, k_B, k_C, ⟨fun X1 Xp e0 e1 => by
      have e0 : g 1 = X1 := Option.some.inj (t1170.symm.trans e0)
      subst e0
      have e1 : g 12 + 0 = Xp := Option.some.inj e1
      subst e1
      exact fun hw => no9 hw rfl, fun X1 X2 Xp e0 e1 e2 => by
      have e0 : g 1 = X1 := Option.some.inj (t1170.symm.trans e0)
      subst e0
      have e1 : g 2 = X2 := Option.some.inj (t1171.symm.trans e1)
      subst e1
      have e2 : g 12 + 0 = Xp := Option.some.inj e2
      subst e2
      exact fun hw => no9 hw rfl, fun X1 X2 Xp Xw Xs Xo Xv Xd e0 e1 e2 e3 e4 e5 e6 e7 => by
      have e0 : g 1 = X1 := Option.some.inj (t1170.symm.trans e0)
      subst e0
      have e1 : g 2 = X2 := Option.some.inj (t1171.symm.trans e1)
      subst e1
      have e2 : g 12 + 0 = Xp := Option.some.inj e2
      subst e2
      have e3 : g 23 + 0 = Xw := Option.some.inj e3
      subst e3
      have e4 : g 23 + 0 = Xs := Option.some.inj e4
      subst e4
      have e5 : g 6 + (-1) = Xo := Option.some.inj e5
      subst e5
      have e6 : g 17 + 0 = Xv := Option.some.inj e6
      subst e6
      have e7 : g 18 + (-1) = Xd := Option.some.inj e7
      subst e7
      exact XS_c (X_clC hX (by omega) (kq (a := 5) (b := 5) (fun k => k = 11) (by decide) (by omega) (by omega)) (by omega) (by omega) (by omega) ⟨by omega, by omega⟩ (by omega) (by omega) (by omega) (by omega) (by omega) (by simp only [Int.add_zero]; omega) (by omega) (by omega)) n1178 rfl rfl n1181 n1182, fun _ _ _ e0 e1 e2 => no9 n1155 e0⟩, k_R, k_f4⟩⟩
noncomputable def ru_gClV1 : Ru := ([(0, (1199, (0, (0, 0)))), (0, (1170, (0, (0, 0)))), (0, (1171, (0, (0, 0)))), (0, (1172, (0, (0, 0)))), (0, (1173, (0, (0, 0)))), (0, (1174, (0, (0, 0)))), (0, (1175, (0, (0, 0)))), (0, (1176, (0, (0, 0)))), (0, (1177, (0, (0, 0)))), (0, (1120, (0, (0, 0)))), (0, (1123, (0, (0, 0)))), (0, (1124, (0, (0, 0)))), (0, (1121, (0, (0, 0)))), (0, (1160, (0, (0, 0)))), (0, (1161, (0, (0, 0)))), (0, (1162, (0, (0, 0)))), (0, (1163, (0, (0, 0)))), (0, (1164, (0, (0, 0)))), (0, (1165, (0, (0, 0)))), (6, (143, (6, (0, 0)))), (6, (145, (6, (0, 0)))), (6, (144, (6, (0, 0)))), (4, (0, (0, (0, 0)))), (6, (146, (6, (0, 0))))], ([1178, 1179, 1180, 1181, 1182, 1155], ([([(9, (-1)), (10, 1)], 0), ([(9, 1), (10, (-1))], 0), ([(3, 1), (9, (-1))], 0), ([(3, (-1)), (9, 1)], 0), ([(4, 1)], 0), ([(4, (-1))], 0), ([(6, (-1)), (13, 1)], (-1)), ([(6, 1), (13, (-1))], 1), ([(16, 1)], 7), ([(16, (-1))], (-7)), ([(6, (-1))], (-1)), ([(11, 1)], 5), ([(11, (-1))], (-5)), ([(19, 1)], 1), ([(19, (-1))], (-1)), ([(20, 1)], 0), ([(20, (-1))], 0), ([(21, 1)], 0), ([(21, (-1))], 0), ([(15, 1), (23, (-1))], 0), ([(15, (-1)), (23, 1)], 0)], (false, ([], ([], ([(1172, some (12, 0)), (1176, some (17, 0)), (1175, some (6, (-1))), (1177, some (18, 0)), (1173, some (22, 0)), (1174, some (22, 0))], none)))))))
theorem rk_gClV1 : RuOk SR ru_gClV1 := by
  intro τ m g hi hc ha hS
  obtain ⟨i0, i1, i2, i3, i4, i5, i6, i7, i8, i9, i10, i11, i12, i13, i14, i15, i16, i17, i18, i19, i20, i21, i22, i23, _⟩ := hi
  have t1199 : τ 1199 = some (g 0) := i0
  have t1170 : τ 1170 = some (g 1) := i1
  have t1171 : τ 1171 = some (g 2) := i2
  have t1172 : τ 1172 = some (g 3) := i3
  have t1173 : τ 1173 = some (g 4) := i4
  have t1174 : τ 1174 = some (g 5) := i5
  have t1175 : τ 1175 = some (g 6) := i6
  have t1176 : τ 1176 = some (g 7) := i7
  have t1177 : τ 1177 = some (g 8) := i8
  have t1120 : τ 1120 = some (g 9) := i9
  have t1123 : τ 1123 = some (g 10) := i10
  have t1124 : τ 1124 = some (g 11) := i11
  have t1121 : τ 1121 = some (g 12) := i12
  have t1160 : τ 1160 = some (g 13) := i13
  have t1161 : τ 1161 = some (g 14) := i14
  have t1162 : τ 1162 = some (g 15) := i15
  have t1163 : τ 1163 = some (g 16) := i16
  have t1164 : τ 1164 = some (g 17) := i17
  have t1165 : τ 1165 = some (g 18) := i18
  obtain ⟨jkd, ukd, vkd⟩ : ∃ j : Nat, g 6 = (j : Int) ∧ g 19 = m 143 j := i19
  obtain ⟨jpa, upa, vpa⟩ : ∃ j : Nat, g 6 = (j : Int) ∧ g 20 = m 145 j := i20
  obtain ⟨jcd, ucd, vcd⟩ : ∃ j : Nat, g 6 = (j : Int) ∧ g 21 = m 144 j := i21
  have xo : g 22 = 0 := i22
  obtain ⟨jba, uba, vba⟩ : ∃ j : Nat, g 6 = (j : Int) ∧ g 23 = m 146 j := i23
  obtain ⟨c0, c1, c2, c3, c4, c5, c6, c7, c8, c9, c10, c11, c12, c13, c14, c15, c16, c17, c18, c19, c20, _⟩ := hc
  have c0 : (-1) * g 9 + 1 * g 10 ≤ 0 := d2 c0
  have c1 : 1 * g 9 + (-1) * g 10 ≤ 0 := d2 c1
  have c2 : 1 * g 3 + (-1) * g 9 ≤ 0 := d2 c2
  have c3 : (-1) * g 3 + 1 * g 9 ≤ 0 := d2 c3
  have c4 : 1 * g 4 ≤ 0 := d1 c4
  have c5 : (-1) * g 4 ≤ 0 := d1 c5
  have c6 : (-1) * g 6 + 1 * g 13 ≤ (-1) := d2 c6
  have c7 : 1 * g 6 + (-1) * g 13 ≤ 1 := d2 c7
  have c8 : 1 * g 16 ≤ 7 := d1 c8
  have c9 : (-1) * g 16 ≤ (-7) := d1 c9
  have c10 : (-1) * g 6 ≤ (-1) := d1 c10
  have c11 : 1 * g 11 ≤ 5 := d1 c11
  have c12 : (-1) * g 11 ≤ (-5) := d1 c12
  have c13 : 1 * g 19 ≤ 1 := d1 c13
  have c14 : (-1) * g 19 ≤ (-1) := d1 c14
  have c15 : 1 * g 20 ≤ 0 := d1 c15
  have c16 : (-1) * g 20 ≤ 0 := d1 c16
  have c17 : 1 * g 21 ≤ 0 := d1 c17
  have c18 : (-1) * g 21 ≤ 0 := d1 c18
  have c19 : 1 * g 15 + (-1) * g 23 ≤ 0 := d2 c19
  have c20 : (-1) * g 15 + 1 * g 23 ≤ 0 := d2 c20
  obtain ⟨a0, a1, a2, a3, a4, a5, _⟩ := ha
  have n1178 : τ 1178 = none := a0
  have n1179 : τ 1179 = none := a1
  have n1180 : τ 1180 = none := a2
  have n1181 : τ 1181 = none := a3
  have n1182 : τ 1182 = none := a4
  have n1155 : τ 1155 = none := a5
  obtain ⟨h0, k_tok, k_sc1, k_sc2, k_T, k_I, k_F, k_N, k_Y, k_Z, k_A, k_B, k_C, k_X, k_R, k_f4⟩ := hS (by rw [t1199]; exact fun e => by cases e)
  have k_T0 := k_T
  obtain ⟨h_T, h_TN, h_QZ⟩ := k_T0
  have k_I0 := k_I
  obtain ⟨h_p, h_pc, h_ip, h_iP, h_PC, h_PN⟩ := k_I0
  have k_X0 := k_X
  obtain ⟨h_X0a, h_X0, h_X, h_Xe⟩ := k_X0
  have k_R0 := k_R
  obtain ⟨h_rb, h_rh, h_rw, h_rg, h_rd, h_rc, h_rq⟩ := k_R0
  have hXL : ((tx9 m).2 : Int) = m 110 1 := by
    show (((m 110 1).toNat : Nat) : Int) = _
    omega
  have hX := h_X _ _ _ _ _ _ _ _ t1170 t1171 t1172 t1173 t1174 t1175 t1176 t1177
  rw [n1178, n1179, n1180, n1181, n1182] at hX
  obtain ⟨⟨⟨hp1, hp2⟩, hws⟩, ⟨ho0, hv0, hvp, hd0, hd20⟩, ⟨hb0, hbv⟩, hdd⟩ := XB_n hX.1
  have hcc := h_pc _ _ t1123 t1124
  rw [show (g 10).toNat = (g 3).toNat by omega] at hcc
  have hN := h_TN _ _ t1120 t1121
  rw [show (g 9).toNat = (g 3).toNat by omega] at hN
  have hnx := nx_lt (X := tx9 m) (p := (g 3).toNat) (by omega)
  rw [show jkd = (g 6).toNat by omega] at vkd
  rw [show jpa = (g 6).toNat by omega] at vpa
  rw [show jcd = (g 6).toNat by omega] at vcd
  rw [show jba = (g 6).toNat by omega] at vba
  have hRb := (h_rb _ _ t1160 t1161).2.2
  have hRw := h_rw _ _ _ _ _ t1160 t1161 t1162 t1163 t1164
  have hRd := h_rd _ _ _ t1160 t1164 t1165
  rw [show (g 16).toNat = 7 by omega] at hRw
  rw [show (g 15).toNat = (m 146 (g 6).toNat).toNat by omega] at hRw
  exact ⟨rfl, trivial, trivial, fun _ => ⟨h0, k_tok, k_sc1, k_sc2, k_T, k_I, k_F, k_N, k_Y, k_Z, k_A, k_B, k_C, ⟨fun X1 Xp e0 e1 => by
      have e0 : g 1 = X1 := Option.some.inj (t1170.symm.trans e0)
      subst e0
      have e1 : g 12 + 0 = Xp := Option.some.inj e1
      subst e1
      exact fun hw => no9 hw rfl, fun X1 X2 Xp e0 e1 e2 => by
      have e0 : g 1 = X1 := Option.some.inj (t1170.symm.trans e0)
      subst e0
      have e1 : g 2 = X2 := Option.some.inj (t1171.symm.trans e1)
      subst e1
      have e2 : g 12 + 0 = Xp := Option.some.inj e2
      subst e2
      exact fun hw => no9 hw rfl, fun X1 X2 Xp Xw Xs Xo Xv Xd e0 e1 e2 e3 e4 e5 e6 e7 => by
      have e0 : g 1 = X1 := Option.some.inj (t1170.symm.trans e0)
      subst e0
      have e1 : g 2 = X2 := Option.some.inj (t1171.symm.trans e1)
      subst e1
      have e2 : g 12 + 0 = Xp := Option.some.inj e2
      subst e2
      have e3 : g 22 + 0 = Xw := Option.some.inj e3
      subst e3
      have e4 : g 22 + 0 = Xs := Option.some.inj e4
      subst e4
      have e5 : g 6 + (-1) = Xo := Option.some.inj e5
      subst e5
      have e6 : g 17 + 0 = Xv := Option.some.inj e6
      subst e6
      have e7 : g 18 + 0 = Xd := Option.some.inj e7
      subst e7
      exact XS_c (X_clV hX (by omega) (Or.inl ⟨(kq (a := 5) (b := 5) (fun k => k = 11) (by decide) (by omega) (by omega)), Or.inr ⟨by omega, by omega, by omega⟩⟩) (by omega) ⟨by omega, by omega⟩ (by omega) (by omega) (by omega) (by omega) (by rw [show (g 6 + (-1)).toNat = (g 13).toNat by omega, ← hRb]; omega) (by simp only [Int.add_zero]; omega)) n1178 n1179 n1180 n1181 n1182, fun _ _ _ e0 e1 e2 => no9 n1155 e0⟩, k_R, k_f4⟩⟩
noncomputable def ru_gClV2 : Ru := ([(0, (1199, (0, (0, 0)))), (0, (1170, (0, (0, 0)))), (0, (1171, (0, (0, 0)))), (0, (1172, (0, (0, 0)))), (0, (1173, (0, (0, 0)))), (0, (1174, (0, (0, 0)))), (0, (1175, (0, (0, 0)))), (0, (1176, (0, (0, 0)))), (0, (1177, (0, (0, 0)))), (0, (1120, (0, (0, 0)))), (0, (1123, (0, (0, 0)))), (0, (1124, (0, (0, 0)))), (0, (1121, (0, (0, 0)))), (0, (1160, (0, (0, 0)))), (0, (1161, (0, (0, 0)))), (0, (1162, (0, (0, 0)))), (0, (1163, (0, (0, 0)))), (0, (1164, (0, (0, 0)))), (0, (1165, (0, (0, 0)))), (6, (143, (6, (0, 0)))), (4, (0, (0, (0, 0)))), (6, (146, (6, (0, 0))))], ([1178, 1179, 1180, 1181, 1182, 1155], ([([(9, (-1)), (10, 1)], 0), ([(9, 1), (10, (-1))], 0), ([(3, 1), (9, (-1))], 0), ([(3, (-1)), (9, 1)], 0), ([(4, 1)], 0), ([(4, (-1))], 0), ([(6, (-1)), (13, 1)], (-1)), ([(6, 1), (13, (-1))], 1), ([(16, 1)], 7), ([(16, (-1))], (-7)), ([(6, (-1))], (-1)), ([(11, 1)], 5), ([(11, (-1))], (-5)), ([(19, 1)], 2), ([(19, (-1))], (-2)), ([(15, 1), (21, (-1))], 0), ([(15, (-1)), (21, 1)], 0)], (false, ([], ([], ([(1172, some (12, 0)), (1176, some (17, 0)), (1175, some (6, (-1))), (1177, some (18, 0)), (1173, some (20, 0)), (1174, some (20, 0))], none)))))))
theorem rk_gClV2 : RuOk SR ru_gClV2 := by
  intro τ m g hi hc ha hS
  obtain ⟨i0, i1, i2, i3, i4, i5, i6, i7, i8, i9, i10, i11, i12, i13, i14, i15, i16, i17, i18, i19, i20, i21, _⟩ := hi
  have t1199 : τ 1199 = some (g 0) := i0
  have t1170 : τ 1170 = some (g 1) := i1
  have t1171 : τ 1171 = some (g 2) := i2
  have t1172 : τ 1172 = some (g 3) := i3
  have t1173 : τ 1173 = some (g 4) := i4
  have t1174 : τ 1174 = some (g 5) := i5
  have t1175 : τ 1175 = some (g 6) := i6
  have t1176 : τ 1176 = some (g 7) := i7
  have t1177 : τ 1177 = some (g 8) := i8
  have t1120 : τ 1120 = some (g 9) := i9
  have t1123 : τ 1123 = some (g 10) := i10
  have t1124 : τ 1124 = some (g 11) := i11
  have t1121 : τ 1121 = some (g 12) := i12
  have t1160 : τ 1160 = some (g 13) := i13
  have t1161 : τ 1161 = some (g 14) := i14
  have t1162 : τ 1162 = some (g 15) := i15
  have t1163 : τ 1163 = some (g 16) := i16
  have t1164 : τ 1164 = some (g 17) := i17
  have t1165 : τ 1165 = some (g 18) := i18
  obtain ⟨jkd, ukd, vkd⟩ : ∃ j : Nat, g 6 = (j : Int) ∧ g 19 = m 143 j := i19
  have xo : g 20 = 0 := i20
  obtain ⟨jba, uba, vba⟩ : ∃ j : Nat, g 6 = (j : Int) ∧ g 21 = m 146 j := i21
  obtain ⟨c0, c1, c2, c3, c4, c5, c6, c7, c8, c9, c10, c11, c12, c13, c14, c15, c16, _⟩ := hc
  have c0 : (-1) * g 9 + 1 * g 10 ≤ 0 := d2 c0
  have c1 : 1 * g 9 + (-1) * g 10 ≤ 0 := d2 c1
  have c2 : 1 * g 3 + (-1) * g 9 ≤ 0 := d2 c2
  have c3 : (-1) * g 3 + 1 * g 9 ≤ 0 := d2 c3
  have c4 : 1 * g 4 ≤ 0 := d1 c4
  have c5 : (-1) * g 4 ≤ 0 := d1 c5
  have c6 : (-1) * g 6 + 1 * g 13 ≤ (-1) := d2 c6
  have c7 : 1 * g 6 + (-1) * g 13 ≤ 1 := d2 c7
  have c8 : 1 * g 16 ≤ 7 := d1 c8
  have c9 : (-1) * g 16 ≤ (-7) := d1 c9
  have c10 : (-1) * g 6 ≤ (-1) := d1 c10
  have c11 : 1 * g 11 ≤ 5 := d1 c11
  have c12 : (-1) * g 11 ≤ (-5) := d1 c12
  have c13 : 1 * g 19 ≤ 2 := d1 c13
  have c14 : (-1) * g 19 ≤ (-2) := d1 c14
  have c15 : 1 * g 15 + (-1) * g 21 ≤ 0 := d2 c15
  have c16 : (-1) * g 15 + 1 * g 21 ≤ 0 := d2 c16
  obtain ⟨a0, a1, a2, a3, a4, a5, _⟩ := ha
  have n1178 : τ 1178 = none := a0
  have n1179 : τ 1179 = none := a1
  have n1180 : τ 1180 = none := a2
  have n1181 : τ 1181 = none := a3
  have n1182 : τ 1182 = none := a4
  have n1155 : τ 1155 = none := a5
  obtain ⟨h0, k_tok, k_sc1, k_sc2, k_T, k_I, k_F, k_N, k_Y, k_Z, k_A, k_B, k_C, k_X, k_R, k_f4⟩ := hS (by rw [t1199]; exact fun e => by cases e)
  have k_T0 := k_T
  obtain ⟨h_T, h_TN, h_QZ⟩ := k_T0
  have k_I0 := k_I
  obtain ⟨h_p, h_pc, h_ip, h_iP, h_PC, h_PN⟩ := k_I0
  have k_X0 := k_X
  obtain ⟨h_X0a, h_X0, h_X, h_Xe⟩ := k_X0
  have k_R0 := k_R
  obtain ⟨h_rb, h_rh, h_rw, h_rg, h_rd, h_rc, h_rq⟩ := k_R0
  have hXL : ((tx9 m).2 : Int) = m 110 1 := by
    show (((m 110 1).toNat : Nat) : Int) = _
    omega
  have hX := h_X _ _ _ _ _ _ _ _ t1170 t1171 t1172 t1173 t1174 t1175 t1176 t1177
  rw [n1178, n1179, n1180, n1181, n1182] at hX
  obtain ⟨⟨⟨hp1, hp2⟩, hws⟩, ⟨ho0, hv0, hvp, hd0, hd20⟩, ⟨hb0, hbv⟩, hdd⟩ := XB_n hX.1
  have hcc := h_pc _ _ t1123 t1124
  rw [show (g 10).toNat = (g 3).toNat by omega] at hcc
  have hN := h_TN _ _ t1120 t1121
  rw [show (g 9).toNat = (g 3).toNat by omega] at hN
  have hnx := nx_lt (X := tx9 m) (p := (g 3).toNat) (by omega)
  rw [show jkd = (g 6).toNat by omega] at vkd
  rw [show jba = (g 6).toNat by omega] at vba
  have hRb := (h_rb _ _ t1160 t1161).2.2
  have hRw := h_rw _ _ _ _ _ t1160 t1161 t1162 t1163 t1164
  have hRd := h_rd _ _ _ t1160 t1164 t1165
  rw [show (g 16).toNat = 7 by omega] at hRw
  rw [show (g 15).toNat = (m 146 (g 6).toNat).toNat by omega] at hRw
  exact ⟨rfl, trivial, trivial, fun _ => ⟨h0, k_tok, k_sc1, k_sc2, k_T, k_I, k_F, k_N, k_Y, k_Z, k_A, k_B, k_C, ⟨fun X1 Xp e0 e1 => by
      have e0 : g 1 = X1 := Option.some.inj (t1170.symm.trans e0)
      subst e0
      have e1 : g 12 + 0 = Xp := Option.some.inj e1
      subst e1
      exact fun hw => no9 hw rfl, fun X1 X2 Xp e0 e1 e2 => by
      have e0 : g 1 = X1 := Option.some.inj (t1170.symm.trans e0)
      subst e0
      have e1 : g 2 = X2 := Option.some.inj (t1171.symm.trans e1)
      subst e1
      have e2 : g 12 + 0 = Xp := Option.some.inj e2
      subst e2
      exact fun hw => no9 hw rfl, fun X1 X2 Xp Xw Xs Xo Xv Xd e0 e1 e2 e3 e4 e5 e6 e7 => by
      have e0 : g 1 = X1 := Option.some.inj (t1170.symm.trans e0)
      subst e0
      have e1 : g 2 = X2 := Option.some.inj (t1171.symm.trans e1)
      subst e1
      have e2 : g 12 + 0 = Xp := Option.some.inj e2
      subst e2
      have e3 : g 20 + 0 = Xw := Option.some.inj e3
      subst e3
      have e4 : g 20 + 0 = Xs := Option.some.inj e4
      subst e4
      have e5 : g 6 + (-1) = Xo := Option.some.inj e5
      subst e5
      have e6 : g 17 + 0 = Xv := Option.some.inj e6
      subst e6
      have e7 : g 18 + 0 = Xd := Option.some.inj e7
      subst e7
      exact XS_c (X_clV hX (by omega) (Or.inl ⟨(kq (a := 5) (b := 5) (fun k => k = 11) (by decide) (by omega) (by omega)), Or.inl (by omega)⟩) (by omega) ⟨by omega, by omega⟩ (by omega) (by omega) (by omega) (by omega) (by rw [show (g 6 + (-1)).toNat = (g 13).toNat by omega, ← hRb]; omega) (by simp only [Int.add_zero]; omega)) n1178 n1179 n1180 n1181 n1182, fun _ _ _ e0 e1 e2 => no9 n1155 e0⟩, k_R, k_f4⟩⟩
noncomputable def ru_gClV3 : Ru := ([(0, (1199, (0, (0, 0)))), (0, (1170, (0, (0, 0)))), (0, (1171, (0, (0, 0)))), (0, (1172, (0, (0, 0)))), (0, (1173, (0, (0, 0)))), (0, (1174, (0, (0, 0)))), (0, (1175, (0, (0, 0)))), (0, (1176, (0, (0, 0)))), (0, (1177, (0, (0, 0)))), (0, (1120, (0, (0, 0)))), (0, (1123, (0, (0, 0)))), (0, (1124, (0, (0, 0)))), (0, (1121, (0, (0, 0)))), (0, (1160, (0, (0, 0)))), (0, (1161, (0, (0, 0)))), (0, (1162, (0, (0, 0)))), (0, (1163, (0, (0, 0)))), (0, (1164, (0, (0, 0)))), (0, (1165, (0, (0, 0)))), (6, (143, (6, (0, 0)))), (4, (0, (0, (0, 0)))), (6, (146, (6, (0, 0))))], ([1178, 1179, 1180, 1181, 1182, 1155], ([([(9, (-1)), (10, 1)], 0), ([(9, 1), (10, (-1))], 0), ([(3, 1), (9, (-1))], 0), ([(3, (-1)), (9, 1)], 0), ([(4, 1)], 0), ([(4, (-1))], 0), ([(6, (-1)), (13, 1)], (-1)), ([(6, 1), (13, (-1))], 1), ([(16, 1)], 7), ([(16, (-1))], (-7)), ([(6, (-1))], (-1)), ([(11, 1)], 7), ([(11, (-1))], (-7)), ([(19, 1)], 3), ([(19, (-1))], (-3)), ([(15, 1), (21, (-1))], 0), ([(15, (-1)), (21, 1)], 0)], (false, ([], ([], ([(1172, some (12, 0)), (1176, some (17, 0)), (1175, some (6, (-1))), (1177, some (18, 0)), (1173, some (20, 0)), (1174, some (20, 0))], none)))))))
theorem rk_gClV3 : RuOk SR ru_gClV3 := by
  intro τ m g hi hc ha hS
  obtain ⟨i0, i1, i2, i3, i4, i5, i6, i7, i8, i9, i10, i11, i12, i13, i14, i15, i16, i17, i18, i19, i20, i21, _⟩ := hi
  have t1199 : τ 1199 = some (g 0) := i0
  have t1170 : τ 1170 = some (g 1) := i1
  have t1171 : τ 1171 = some (g 2) := i2
  have t1172 : τ 1172 = some (g 3) := i3
  have t1173 : τ 1173 = some (g 4) := i4
  have t1174 : τ 1174 = some (g 5) := i5
  have t1175 : τ 1175 = some (g 6) := i6
  have t1176 : τ 1176 = some (g 7) := i7
  have t1177 : τ 1177 = some (g 8) := i8
  have t1120 : τ 1120 = some (g 9) := i9
  have t1123 : τ 1123 = some (g 10) := i10
  have t1124 : τ 1124 = some (g 11) := i11
  have t1121 : τ 1121 = some (g 12) := i12
  have t1160 : τ 1160 = some (g 13) := i13
  have t1161 : τ 1161 = some (g 14) := i14
  have t1162 : τ 1162 = some (g 15) := i15
  have t1163 : τ 1163 = some (g 16) := i16
  have t1164 : τ 1164 = some (g 17) := i17
  have t1165 : τ 1165 = some (g 18) := i18
  obtain ⟨jkd, ukd, vkd⟩ : ∃ j : Nat, g 6 = (j : Int) ∧ g 19 = m 143 j := i19
  have xo : g 20 = 0 := i20
  obtain ⟨jba, uba, vba⟩ : ∃ j : Nat, g 6 = (j : Int) ∧ g 21 = m 146 j := i21
  obtain ⟨c0, c1, c2, c3, c4, c5, c6, c7, c8, c9, c10, c11, c12, c13, c14, c15, c16, _⟩ := hc
  have c0 : (-1) * g 9 + 1 * g 10 ≤ 0 := d2 c0
  have c1 : 1 * g 9 + (-1) * g 10 ≤ 0 := d2 c1
  have c2 : 1 * g 3 + (-1) * g 9 ≤ 0 := d2 c2
  have c3 : (-1) * g 3 + 1 * g 9 ≤ 0 := d2 c3
  have c4 : 1 * g 4 ≤ 0 := d1 c4
  have c5 : (-1) * g 4 ≤ 0 := d1 c5
  have c6 : (-1) * g 6 + 1 * g 13 ≤ (-1) := d2 c6
  have c7 : 1 * g 6 + (-1) * g 13 ≤ 1 := d2 c7
  have c8 : 1 * g 16 ≤ 7 := d1 c8
  have c9 : (-1) * g 16 ≤ (-7) := d1 c9
  have c10 : (-1) * g 6 ≤ (-1) := d1 c10
  have c11 : 1 * g 11 ≤ 7 := d1 c11
  have c12 : (-1) * g 11 ≤ (-7) := d1 c12
  have c13 : 1 * g 19 ≤ 3 := d1 c13
  have c14 : (-1) * g 19 ≤ (-3) := d1 c14
  have c15 : 1 * g 15 + (-1) * g 21 ≤ 0 := d2 c15
  have c16 : (-1) * g 15 + 1 * g 21 ≤ 0 := d2 c16
  obtain ⟨a0, a1, a2, a3, a4, a5, _⟩ := ha
  have n1178 : τ 1178 = none := a0
  have n1179 : τ 1179 = none := a1
  have n1180 : τ 1180 = none := a2
  have n1181 : τ 1181 = none := a3
  have n1182 : τ 1182 = none := a4
  have n1155 : τ 1155 = none := a5
  obtain ⟨h0, k_tok, k_sc1, k_sc2, k_T, k_I, k_F, k_N, k_Y, k_Z, k_A, k_B, k_C, k_X, k_R, k_f4⟩ := hS (by rw [t1199]; exact fun e => by cases e)
  have k_T0 := k_T
  obtain ⟨h_T, h_TN, h_QZ⟩ := k_T0
  have k_I0 := k_I
  obtain ⟨h_p, h_pc, h_ip, h_iP, h_PC, h_PN⟩ := k_I0
  have k_X0 := k_X
  obtain ⟨h_X0a, h_X0, h_X, h_Xe⟩ := k_X0
  have k_R0 := k_R
  obtain ⟨h_rb, h_rh, h_rw, h_rg, h_rd, h_rc, h_rq⟩ := k_R0
  have hXL : ((tx9 m).2 : Int) = m 110 1 := by
    show (((m 110 1).toNat : Nat) : Int) = _
    omega
  have hX := h_X _ _ _ _ _ _ _ _ t1170 t1171 t1172 t1173 t1174 t1175 t1176 t1177
  rw [n1178, n1179, n1180, n1181, n1182] at hX
  obtain ⟨⟨⟨hp1, hp2⟩, hws⟩, ⟨ho0, hv0, hvp, hd0, hd20⟩, ⟨hb0, hbv⟩, hdd⟩ := XB_n hX.1
  have hcc := h_pc _ _ t1123 t1124
  rw [show (g 10).toNat = (g 3).toNat by omega] at hcc
  have hN := h_TN _ _ t1120 t1121
  rw [show (g 9).toNat = (g 3).toNat by omega] at hN
  have hnx := nx_lt (X := tx9 m) (p := (g 3).toNat) (by omega)
  rw [show jkd = (g 6).toNat by omega] at vkd
  rw [show jba = (g 6).toNat by omega] at vba
  have hRb := (h_rb _ _ t1160 t1161).2.2
  have hRw := h_rw _ _ _ _ _ t1160 t1161 t1162 t1163 t1164
  have hRd := h_rd _ _ _ t1160 t1164 t1165
  rw [show (g 16).toNat = 7 by omega] at hRw
  rw [show (g 15).toNat = (m 146 (g 6).toNat).toNat by omega] at hRw
  exact ⟨rfl, trivial, trivial, fun _ => ⟨h0, k_tok, k_sc1, k_sc2, k_T, k_I, k_F, k_N, k_Y, k_Z, k_A, k_B, k_C, ⟨fun X1 Xp e0 e1 => by
      have e0 : g 1 = X1 := Option.some.inj (t1170.symm.trans e0)
      subst e0
      have e1 : g 12 + 0 = Xp := Option.some.inj e1
      subst e1
      exact fun hw => no9 hw rfl, fun X1 X2 Xp e0 e1 e2 => by
      have e0 : g 1 = X1 := Option.some.inj (t1170.symm.trans e0)
      subst e0
      have e1 : g 2 = X2 := Option.some.inj (t1171.symm.trans e1)
      subst e1
      have e2 : g 12 + 0 = Xp := Option.some.inj e2
      subst e2
      exact fun hw => no9 hw rfl, fun X1 X2 Xp Xw Xs Xo Xv Xd e0 e1 e2 e3 e4 e5 e6 e7 => by
      have e0 : g 1 = X1 := Option.some.inj (t1170.symm.trans e0)
      subst e0
      have e1 : g 2 = X2 := Option.some.inj (t1171.symm.trans e1)
      subst e1
      have e2 : g 12 + 0 = Xp := Option.some.inj e2
      subst e2
      have e3 : g 20 + 0 = Xw := Option.some.inj e3
      subst e3
      have e4 : g 20 + 0 = Xs := Option.some.inj e4
      subst e4
      have e5 : g 6 + (-1) = Xo := Option.some.inj e5
      subst e5
      have e6 : g 17 + 0 = Xv := Option.some.inj e6
      subst e6
      have e7 : g 18 + 0 = Xd := Option.some.inj e7
      subst e7
      exact XS_c (X_clV hX (by omega) (Or.inr ⟨(kq (a := 7) (b := 7) (fun k => k = 10) (by decide) (by omega) (by omega)), by omega⟩) (by omega) ⟨by omega, by omega⟩ (by omega) (by omega) (by omega) (by omega) (by rw [show (g 6 + (-1)).toNat = (g 13).toNat by omega, ← hRb]; omega) (by simp only [Int.add_zero]; omega)) n1178 n1179 n1180 n1181 n1182, fun _ _ _ e0 e1 e2 => no9 n1155 e0⟩, k_R, k_f4⟩⟩
noncomputable def ru_gF1 : Ru := ([(0, (1199, (0, (0, 0)))), (0, (1170, (0, (0, 0)))), (0, (1171, (0, (0, 0)))), (0, (1172, (0, (0, 0)))), (0, (1173, (0, (0, 0)))), (0, (1174, (0, (0, 0)))), (0, (1175, (0, (0, 0)))), (0, (1176, (0, (0, 0)))), (0, (1177, (0, (0, 0)))), (0, (1120, (0, (0, 0)))), (0, (1123, (0, (0, 0)))), (0, (1124, (0, (0, 0)))), (0, (1121, (0, (0, 0)))), (6, (145, (6, (0, 0))))], ([1178, 1179, 1180, 1181, 1182, 1155], ([([(9, (-1)), (10, 1)], 0), ([(9, 1), (10, (-1))], 0), ([(3, 1), (9, (-1))], 0), ([(3, (-1)), (9, 1)], 0), ([(4, 1)], 0), ([(4, (-1))], 0), ([(11, (-1))], (-8)), ([(11, 1)], 12), ([(13, 1)], 2), ([(13, (-1))], (-2))], (false, ([([(2, 1), (9, (-1))], 0), ([(2, (-1)), (9, 1)], 0), ([(1, 1)], (-1)), ([(1, (-1))], 1)], ([], ([(1170, none), (1171, none), (1172, none), (1173, none), (1174, none), (1175, none), (1176, none), (1177, none)], none)))))))
theorem rk_gF1 : RuOk SR ru_gF1 := by
  intro τ m g hi hc ha hS
  obtain ⟨i0, i1, i2, i3, i4, i5, i6, i7, i8, i9, i10, i11, i12, i13, _⟩ := hi
  have t1199 : τ 1199 = some (g 0) := i0
  have t1170 : τ 1170 = some (g 1) := i1
  have t1171 : τ 1171 = some (g 2) := i2
  have t1172 : τ 1172 = some (g 3) := i3
  have t1173 : τ 1173 = some (g 4) := i4
  have t1174 : τ 1174 = some (g 5) := i5
  have t1175 : τ 1175 = some (g 6) := i6
  have t1176 : τ 1176 = some (g 7) := i7
  have t1177 : τ 1177 = some (g 8) := i8
  have t1120 : τ 1120 = some (g 9) := i9
  have t1123 : τ 1123 = some (g 10) := i10
  have t1124 : τ 1124 = some (g 11) := i11
  have t1121 : τ 1121 = some (g 12) := i12
  obtain ⟨jpa, upa, vpa⟩ : ∃ j : Nat, g 6 = (j : Int) ∧ g 13 = m 145 j := i13
  obtain ⟨c0, c1, c2, c3, c4, c5, c6, c7, c8, c9, _⟩ := hc
  have c0 : (-1) * g 9 + 1 * g 10 ≤ 0 := d2 c0
  have c1 : 1 * g 9 + (-1) * g 10 ≤ 0 := d2 c1
  have c2 : 1 * g 3 + (-1) * g 9 ≤ 0 := d2 c2
  have c3 : (-1) * g 3 + 1 * g 9 ≤ 0 := d2 c3
  have c4 : 1 * g 4 ≤ 0 := d1 c4
  have c5 : (-1) * g 4 ≤ 0 := d1 c5
  have c6 : (-1) * g 11 ≤ (-8) := d1 c6
  have c7 : 1 * g 11 ≤ 12 := d1 c7
  have c8 : 1 * g 13 ≤ 2 := d1 c8
  have c9 : (-1) * g 13 ≤ (-2) := d1 c9
  obtain ⟨a0, a1, a2, a3, a4, a5, _⟩ := ha
  have n1178 : τ 1178 = none := a0
  have n1179 : τ 1179 = none := a1
  have n1180 : τ 1180 = none := a2
  have n1181 : τ 1181 = none := a3
  have n1182 : τ 1182 = none := a4
  have n1155 : τ 1155 = none := a5
  obtain ⟨h0, k_tok, k_sc1, k_sc2, k_T, k_I, k_F, k_N, k_Y, k_Z, k_A, k_B, k_C, k_X, k_R, k_f4⟩ := hS (by rw [t1199]; exact fun e => by cases e)
  have k_T0 := k_T
  obtain ⟨h_T, h_TN, h_QZ⟩ := k_T0
  have k_I0 := k_I
  obtain ⟨h_p, h_pc, h_ip, h_iP, h_PC, h_PN⟩ := k_I0
  have k_X0 := k_X
  obtain ⟨h_X0a, h_X0, h_X, h_Xe⟩ := k_X0
  have hXL : ((tx9 m).2 : Int) = m 110 1 := by
    show (((m 110 1).toNat : Nat) : Int) = _
    omega
  have hX := h_X _ _ _ _ _ _ _ _ t1170 t1171 t1172 t1173 t1174 t1175 t1176 t1177
  rw [n1178, n1179, n1180, n1181, n1182] at hX
  obtain ⟨⟨⟨hp1, hp2⟩, hws⟩, ⟨ho0, hv0, hvp, hd0, hd20⟩, ⟨hb0, hbv⟩, hdd⟩ := XB_n hX.1
  have hcc := h_pc _ _ t1123 t1124
  rw [show (g 10).toNat = (g 3).toNat by omega] at hcc
  have hN := h_TN _ _ t1120 t1121
  rw [show (g 9).toNat = (g 3).toNat by omega] at hN
  rw [show jpa = (g 6).toNat by omega] at vpa
  have hk : ((KT9 (tx9 m)).c (g 3).toNat) = 4 ∨ ((KT9 (tx9 m)).c (g 3).toNat) = 12 ∨ ((KT9 (tx9 m)).c (g 3).toNat) = 13 := (kq (a := 8) (b := 12) (fun k => k = 4 ∨ k = 12 ∨ k = 13) (by decide) (by omega) (by omega))
  obtain ⟨y1, y2⟩ := X_gf hX (by omega) (by omega) (by omega) (by omega) (by omega) (by omega) (by omega) (by omega)
  exact ⟨rfl, ⟨f2 (by omega), f2 (by omega), f1 (by omega), f1 (by omega), trivial⟩, trivial, fun _ => ⟨h0, k_tok, k_sc1, k_sc2, k_T, k_I, k_F, k_N, k_Y, k_Z, k_A, k_B, k_C, ⟨fun _ _ e0 e1 => no9 (o := none) rfl e0, fun _ _ _ e0 e1 e2 => no9 (o := none) rfl e0, fun _ _ _ _ _ _ _ _ e0 e1 e2 e3 e4 e5 e6 e7 => no9 (o := none) rfl e0, fun _ _ _ e0 e1 e2 => no9 (o := none) rfl e1⟩, k_R, k_f4⟩⟩
noncomputable def ru_gFc1 : Ru := ([(0, (1199, (0, (0, 0)))), (0, (1170, (0, (0, 0)))), (0, (1171, (0, (0, 0)))), (0, (1172, (0, (0, 0)))), (0, (1173, (0, (0, 0)))), (0, (1174, (0, (0, 0)))), (0, (1175, (0, (0, 0)))), (0, (1176, (0, (0, 0)))), (0, (1177, (0, (0, 0)))), (0, (1120, (0, (0, 0)))), (0, (1123, (0, (0, 0)))), (0, (1124, (0, (0, 0)))), (0, (1121, (0, (0, 0)))), (6, (143, (6, (0, 0))))], ([1178, 1179, 1180, 1181, 1182, 1155], ([([(9, (-1)), (10, 1)], 0), ([(9, 1), (10, (-1))], 0), ([(3, 1), (9, (-1))], 0), ([(3, (-1)), (9, 1)], 0), ([(4, 1)], 0), ([(4, (-1))], 0), ([(11, (-1))], (-13)), ([(11, 1)], 18), ([(13, (-1))], (-2))], (false, ([([(2, 1), (9, (-1))], 0), ([(2, (-1)), (9, 1)], 0), ([(1, 1)], (-1)), ([(1, (-1))], 1)], ([], ([(1170, none), (1171, none), (1172, none), (1173, none), (1174, none), (1175, none), (1176, none), (1177, none)], none)))))))
theorem rk_gFc1 : RuOk SR ru_gFc1 := by
  intro τ m g hi hc ha hS
  obtain ⟨i0, i1, i2, i3, i4, i5, i6, i7, i8, i9, i10, i11, i12, i13, _⟩ := hi
  have t1199 : τ 1199 = some (g 0) := i0
  have t1170 : τ 1170 = some (g 1) := i1
  have t1171 : τ 1171 = some (g 2) := i2
  have t1172 : τ 1172 = some (g 3) := i3
  have t1173 : τ 1173 = some (g 4) := i4
  have t1174 : τ 1174 = some (g 5) := i5
  have t1175 : τ 1175 = some (g 6) := i6
  have t1176 : τ 1176 = some (g 7) := i7
  have t1177 : τ 1177 = some (g 8) := i8
  have t1120 : τ 1120 = some (g 9) := i9
  have t1123 : τ 1123 = some (g 10) := i10
  have t1124 : τ 1124 = some (g 11) := i11
  have t1121 : τ 1121 = some (g 12) := i12
  obtain ⟨jkd, ukd, vkd⟩ : ∃ j : Nat, g 6 = (j : Int) ∧ g 13 = m 143 j := i13
  obtain ⟨c0, c1, c2, c3, c4, c5, c6, c7, c8, _⟩ := hc
  have c0 : (-1) * g 9 + 1 * g 10 ≤ 0 := d2 c0
  have c1 : 1 * g 9 + (-1) * g 10 ≤ 0 := d2 c1
  have c2 : 1 * g 3 + (-1) * g 9 ≤ 0 := d2 c2
  have c3 : (-1) * g 3 + 1 * g 9 ≤ 0 := d2 c3
  have c4 : 1 * g 4 ≤ 0 := d1 c4
  have c5 : (-1) * g 4 ≤ 0 := d1 c5
  have c6 : (-1) * g 11 ≤ (-13) := d1 c6
  have c7 : 1 * g 11 ≤ 18 := d1 c7
  have c8 : (-1) * g 13 ≤ (-2) := d1 c8
  obtain ⟨a0, a1, a2, a3, a4, a5, _⟩ := ha
  have n1178 : τ 1178 = none := a0
  have n1179 : τ 1179 = none := a1
  have n1180 : τ 1180 = none := a2
  have n1181 : τ 1181 = none := a3
  have n1182 : τ 1182 = none := a4
  have n1155 : τ 1155 = none := a5
  obtain ⟨h0, k_tok, k_sc1, k_sc2, k_T, k_I, k_F, k_N, k_Y, k_Z, k_A, k_B, k_C, k_X, k_R, k_f4⟩ := hS (by rw [t1199]; exact fun e => by cases e)
  have k_T0 := k_T
  obtain ⟨h_T, h_TN, h_QZ⟩ := k_T0
  have k_I0 := k_I
  obtain ⟨h_p, h_pc, h_ip, h_iP, h_PC, h_PN⟩ := k_I0
  have k_X0 := k_X
  obtain ⟨h_X0a, h_X0, h_X, h_Xe⟩ := k_X0
  have hXL : ((tx9 m).2 : Int) = m 110 1 := by
    show (((m 110 1).toNat : Nat) : Int) = _
    omega
  have hX := h_X _ _ _ _ _ _ _ _ t1170 t1171 t1172 t1173 t1174 t1175 t1176 t1177
  rw [n1178, n1179, n1180, n1181, n1182] at hX
  obtain ⟨⟨⟨hp1, hp2⟩, hws⟩, ⟨ho0, hv0, hvp, hd0, hd20⟩, ⟨hb0, hbv⟩, hdd⟩ := XB_n hX.1
  have hcc := h_pc _ _ t1123 t1124
  rw [show (g 10).toNat = (g 3).toNat by omega] at hcc
  have hN := h_TN _ _ t1120 t1121
  rw [show (g 9).toNat = (g 3).toNat by omega] at hN
  rw [show jkd = (g 6).toNat by omega] at vkd
  have hk : ((KT9 (tx9 m)).c (g 3).toNat) = 14 := (kq (a := 13) (b := 18) (fun k => k = 14) (by decide) (by omega) (by omega))
  obtain ⟨y1, y2⟩ := X_gf hX (by omega) (by omega) (by omega) (by omega) (by omega) (by omega) (by omega) (by omega)
  exact ⟨rfl, ⟨f2 (by omega), f2 (by omega), f1 (by omega), f1 (by omega), trivial⟩, trivial, fun _ => ⟨h0, k_tok, k_sc1, k_sc2, k_T, k_I, k_F, k_N, k_Y, k_Z, k_A, k_B, k_C, ⟨fun _ _ e0 e1 => no9 (o := none) rfl e0, fun _ _ _ e0 e1 e2 => no9 (o := none) rfl e0, fun _ _ _ _ _ _ _ _ e0 e1 e2 e3 e4 e5 e6 e7 => no9 (o := none) rfl e0, fun _ _ _ e0 e1 e2 => no9 (o := none) rfl e1⟩, k_R, k_f4⟩⟩
noncomputable def ru_gFc2 : Ru := ([(0, (1199, (0, (0, 0)))), (0, (1170, (0, (0, 0)))), (0, (1171, (0, (0, 0)))), (0, (1172, (0, (0, 0)))), (0, (1173, (0, (0, 0)))), (0, (1174, (0, (0, 0)))), (0, (1175, (0, (0, 0)))), (0, (1176, (0, (0, 0)))), (0, (1177, (0, (0, 0)))), (0, (1120, (0, (0, 0)))), (0, (1123, (0, (0, 0)))), (0, (1124, (0, (0, 0)))), (0, (1121, (0, (0, 0)))), (6, (145, (6, (0, 0))))], ([1178, 1179, 1180, 1181, 1182, 1155], ([([(9, (-1)), (10, 1)], 0), ([(9, 1), (10, (-1))], 0), ([(3, 1), (9, (-1))], 0), ([(3, (-1)), (9, 1)], 0), ([(4, 1)], 0), ([(4, (-1))], 0), ([(11, (-1))], (-13)), ([(11, 1)], 18), ([(13, (-1))], (-1))], (false, ([([(2, 1), (9, (-1))], 0), ([(2, (-1)), (9, 1)], 0), ([(1, 1)], (-1)), ([(1, (-1))], 1)], ([], ([(1170, none), (1171, none), (1172, none), (1173, none), (1174, none), (1175, none), (1176, none), (1177, none)], none)))))))
theorem rk_gFc2 : RuOk SR ru_gFc2 := by
  intro τ m g hi hc ha hS
  obtain ⟨i0, i1, i2, i3, i4, i5, i6, i7, i8, i9, i10, i11, i12, i13, _⟩ := hi
  have t1199 : τ 1199 = some (g 0) := i0
  have t1170 : τ 1170 = some (g 1) := i1
  have t1171 : τ 1171 = some (g 2) := i2
  have t1172 : τ 1172 = some (g 3) := i3
  have t1173 : τ 1173 = some (g 4) := i4
  have t1174 : τ 1174 = some (g 5) := i5
  have t1175 : τ 1175 = some (g 6) := i6
  have t1176 : τ 1176 = some (g 7) := i7
  have t1177 : τ 1177 = some (g 8) := i8
  have t1120 : τ 1120 = some (g 9) := i9
  have t1123 : τ 1123 = some (g 10) := i10
  have t1124 : τ 1124 = some (g 11) := i11
  have t1121 : τ 1121 = some (g 12) := i12
  obtain ⟨jpa, upa, vpa⟩ : ∃ j : Nat, g 6 = (j : Int) ∧ g 13 = m 145 j := i13
  obtain ⟨c0, c1, c2, c3, c4, c5, c6, c7, c8, _⟩ := hc
  have c0 : (-1) * g 9 + 1 * g 10 ≤ 0 := d2 c0
  have c1 : 1 * g 9 + (-1) * g 10 ≤ 0 := d2 c1
  have c2 : 1 * g 3 + (-1) * g 9 ≤ 0 := d2 c2
  have c3 : (-1) * g 3 + 1 * g 9 ≤ 0 := d2 c3
  have c4 : 1 * g 4 ≤ 0 := d1 c4
  have c5 : (-1) * g 4 ≤ 0 := d1 c5
  have c6 : (-1) * g 11 ≤ (-13) := d1 c6
  have c7 : 1 * g 11 ≤ 18 := d1 c7
  have c8 : (-1) * g 13 ≤ (-1) := d1 c8
  obtain ⟨a0, a1, a2, a3, a4, a5, _⟩ := ha
  have n1178 : τ 1178 = none := a0
  have n1179 : τ 1179 = none := a1
  have n1180 : τ 1180 = none := a2
  have n1181 : τ 1181 = none := a3
  have n1182 : τ 1182 = none := a4
  have n1155 : τ 1155 = none := a5
  obtain ⟨h0, k_tok, k_sc1, k_sc2, k_T, k_I, k_F, k_N, k_Y, k_Z, k_A, k_B, k_C, k_X, k_R, k_f4⟩ := hS (by rw [t1199]; exact fun e => by cases e)
  have k_T0 := k_T
  obtain ⟨h_T, h_TN, h_QZ⟩ := k_T0
  have k_I0 := k_I
  obtain ⟨h_p, h_pc, h_ip, h_iP, h_PC, h_PN⟩ := k_I0
  have k_X0 := k_X
  obtain ⟨h_X0a, h_X0, h_X, h_Xe⟩ := k_X0
  have hXL : ((tx9 m).2 : Int) = m 110 1 := by
    show (((m 110 1).toNat : Nat) : Int) = _
    omega
  have hX := h_X _ _ _ _ _ _ _ _ t1170 t1171 t1172 t1173 t1174 t1175 t1176 t1177
  rw [n1178, n1179, n1180, n1181, n1182] at hX
  obtain ⟨⟨⟨hp1, hp2⟩, hws⟩, ⟨ho0, hv0, hvp, hd0, hd20⟩, ⟨hb0, hbv⟩, hdd⟩ := XB_n hX.1
  have hcc := h_pc _ _ t1123 t1124
  rw [show (g 10).toNat = (g 3).toNat by omega] at hcc
  have hN := h_TN _ _ t1120 t1121
  rw [show (g 9).toNat = (g 3).toNat by omega] at hN
  rw [show jpa = (g 6).toNat by omega] at vpa
  have hk : ((KT9 (tx9 m)).c (g 3).toNat) = 14 := (kq (a := 13) (b := 18) (fun k => k = 14) (by decide) (by omega) (by omega))
  obtain ⟨y1, y2⟩ := X_gf hX (by omega) (by omega) (by omega) (by omega) (by omega) (by omega) (by omega) (by omega)
  exact ⟨rfl, ⟨f2 (by omega), f2 (by omega), f1 (by omega), f1 (by omega), trivial⟩, trivial, fun _ => ⟨h0, k_tok, k_sc1, k_sc2, k_T, k_I, k_F, k_N, k_Y, k_Z, k_A, k_B, k_C, ⟨fun _ _ e0 e1 => no9 (o := none) rfl e0, fun _ _ _ e0 e1 e2 => no9 (o := none) rfl e0, fun _ _ _ _ _ _ _ _ e0 e1 e2 e3 e4 e5 e6 e7 => no9 (o := none) rfl e0, fun _ _ _ e0 e1 e2 => no9 (o := none) rfl e1⟩, k_R, k_f4⟩⟩
noncomputable def ru_gFi1 : Ru := ([(0, (1199, (0, (0, 0)))), (0, (1170, (0, (0, 0)))), (0, (1171, (0, (0, 0)))), (0, (1172, (0, (0, 0)))), (0, (1173, (0, (0, 0)))), (0, (1174, (0, (0, 0)))), (0, (1175, (0, (0, 0)))), (0, (1176, (0, (0, 0)))), (0, (1177, (0, (0, 0)))), (0, (1120, (0, (0, 0)))), (0, (1123, (0, (0, 0)))), (0, (1124, (0, (0, 0)))), (0, (1121, (0, (0, 0)))), (6, (143, (6, (0, 0))))], ([1178, 1179, 1180, 1181, 1182, 1155], ([([(9, (-1)), (10, 1)], 0), ([(9, 1), (10, (-1))], 0), ([(3, 1), (9, (-1))], 0), ([(3, (-1)), (9, 1)], 0), ([(4, 1)], 0), ([(4, (-1))], 0), ([(11, (-1))], (-29)), ([(11, 1)], 29), ([(13, (-1))], (-2))], (false, ([([(2, 1), (9, (-1))], 0), ([(2, (-1)), (9, 1)], 0), ([(1, 1)], (-1)), ([(1, (-1))], 1)], ([], ([(1170, none), (1171, none), (1172, none), (1173, none), (1174, none), (1175, none), (1176, none), (1177, none)], none)))))))
theorem rk_gFi1 : RuOk SR ru_gFi1 := by
  intro τ m g hi hc ha hS
  obtain ⟨i0, i1, i2, i3, i4, i5, i6, i7, i8, i9, i10, i11, i12, i13, _⟩ := hi
  have t1199 : τ 1199 = some (g 0) := i0
  have t1170 : τ 1170 = some (g 1) := i1
  have t1171 : τ 1171 = some (g 2) := i2
  have t1172 : τ 1172 = some (g 3) := i3
  have t1173 : τ 1173 = some (g 4) := i4
  have t1174 : τ 1174 = some (g 5) := i5
  have t1175 : τ 1175 = some (g 6) := i6
  have t1176 : τ 1176 = some (g 7) := i7
  have t1177 : τ 1177 = some (g 8) := i8
  have t1120 : τ 1120 = some (g 9) := i9
  have t1123 : τ 1123 = some (g 10) := i10
  have t1124 : τ 1124 = some (g 11) := i11
  have t1121 : τ 1121 = some (g 12) := i12
  obtain ⟨jkd, ukd, vkd⟩ : ∃ j : Nat, g 6 = (j : Int) ∧ g 13 = m 143 j := i13
  obtain ⟨c0, c1, c2, c3, c4, c5, c6, c7, c8, _⟩ := hc
  have c0 : (-1) * g 9 + 1 * g 10 ≤ 0 := d2 c0
  have c1 : 1 * g 9 + (-1) * g 10 ≤ 0 := d2 c1
  have c2 : 1 * g 3 + (-1) * g 9 ≤ 0 := d2 c2
  have c3 : (-1) * g 3 + 1 * g 9 ≤ 0 := d2 c3
  have c4 : 1 * g 4 ≤ 0 := d1 c4
  have c5 : (-1) * g 4 ≤ 0 := d1 c5
  have c6 : (-1) * g 11 ≤ (-29) := d1 c6
  have c7 : 1 * g 11 ≤ 29 := d1 c7
  have c8 : (-1) * g 13 ≤ (-2) := d1 c8
  obtain ⟨a0, a1, a2, a3, a4, a5, _⟩ := ha
  have n1178 : τ 1178 = none := a0
  have n1179 : τ 1179 = none := a1
  have n1180 : τ 1180 = none := a2
  have n1181 : τ 1181 = none := a3
  have n1182 : τ 1182 = none := a4
  have n1155 : τ 1155 = none := a5
  obtain ⟨h0, k_tok, k_sc1, k_sc2, k_T, k_I, k_F, k_N, k_Y, k_Z, k_A, k_B, k_C, k_X, k_R, k_f4⟩ := hS (by rw [t1199]; exact fun e => by cases e)
  have k_T0 := k_T
  obtain ⟨h_T, h_TN, h_QZ⟩ := k_T0
  have k_I0 := k_I
  obtain ⟨h_p, h_pc, h_ip, h_iP, h_PC, h_PN⟩ := k_I0
  have k_X0 := k_X
  obtain ⟨h_X0a, h_X0, h_X, h_Xe⟩ := k_X0
  have hXL : ((tx9 m).2 : Int) = m 110 1 := by
    show (((m 110 1).toNat : Nat) : Int) = _
    omega
  have hX := h_X _ _ _ _ _ _ _ _ t1170 t1171 t1172 t1173 t1174 t1175 t1176 t1177
  rw [n1178, n1179, n1180, n1181, n1182] at hX
  obtain ⟨⟨⟨hp1, hp2⟩, hws⟩, ⟨ho0, hv0, hvp, hd0, hd20⟩, ⟨hb0, hbv⟩, hdd⟩ := XB_n hX.1
  have hcc := h_pc _ _ t1123 t1124
  rw [show (g 10).toNat = (g 3).toNat by omega] at hcc
  have hN := h_TN _ _ t1120 t1121
  rw [show (g 9).toNat = (g 3).toNat by omega] at hN
  rw [show jkd = (g 6).toNat by omega] at vkd
  have hk : ((KT9 (tx9 m)).c (g 3).toNat) = 15 := (kq (a := 29) (b := 29) (fun k => k = 15) (by decide) (by omega) (by omega))
  obtain ⟨y1, y2⟩ := X_gf hX (by omega) (by omega) (by omega) (by omega) (by omega) (by omega) (by omega) (by omega)
  exact ⟨rfl, ⟨f2 (by omega), f2 (by omega), f1 (by omega), f1 (by omega), trivial⟩, trivial, fun _ => ⟨h0, k_tok, k_sc1, k_sc2, k_T, k_I, k_F, k_N, k_Y, k_Z, k_A, k_B, k_C, ⟨fun _ _ e0 e1 => no9 (o := none) rfl e0, fun _ _ _ e0 e1 e2 => no9 (o := none) rfl e0, fun _ _ _ _ _ _ _ _ e0 e1 e2 e3 e4 e5 e6 e7 => no9 (o := none) rfl e0, fun _ _ _ e0 e1 e2 => no9 (o := none) rfl e1⟩, k_R, k_f4⟩⟩
noncomputable def ru_gFi2 : Ru := ([(0, (1199, (0, (0, 0)))), (0, (1170, (0, (0, 0)))), (0, (1171, (0, (0, 0)))), (0, (1172, (0, (0, 0)))), (0, (1173, (0, (0, 0)))), (0, (1174, (0, (0, 0)))), (0, (1175, (0, (0, 0)))), (0, (1176, (0, (0, 0)))), (0, (1177, (0, (0, 0)))), (0, (1120, (0, (0, 0)))), (0, (1123, (0, (0, 0)))), (0, (1124, (0, (0, 0)))), (0, (1121, (0, (0, 0)))), (6, (145, (6, (0, 0))))], ([1178, 1179, 1180, 1181, 1182, 1155], ([([(9, (-1)), (10, 1)], 0), ([(9, 1), (10, (-1))], 0), ([(3, 1), (9, (-1))], 0), ([(3, (-1)), (9, 1)], 0), ([(4, 1)], 0), ([(4, (-1))], 0), ([(11, (-1))], (-29)), ([(11, 1)], 29), ([(13, (-1))], (-1))], (false, ([([(2, 1), (9, (-1))], 0), ([(2, (-1)), (9, 1)], 0), ([(1, 1)], (-1)), ([(1, (-1))], 1)], ([], ([(1170, none), (1171, none), (1172, none), (1173, none), (1174, none), (1175, none), (1176, none), (1177, none)], none)))))))
theorem rk_gFi2 : RuOk SR ru_gFi2 := by
  intro τ m g hi hc ha hS
  obtain ⟨i0, i1, i2, i3, i4, i5, i6, i7, i8, i9, i10, i11, i12, i13, _⟩ := hi
  have t1199 : τ 1199 = some (g 0) := i0
  have t1170 : τ 1170 = some (g 1) := i1
  have t1171 : τ 1171 = some (g 2) := i2
  have t1172 : τ 1172 = some (g 3) := i3
  have t1173 : τ 1173 = some (g 4) := i4
  have t1174 : τ 1174 = some (g 5) := i5
  have t1175 : τ 1175 = some (g 6) := i6
  have t1176 : τ 1176 = some (g 7) := i7
  have t1177 : τ 1177 = some (g 8) := i8
  have t1120 : τ 1120 = some (g 9) := i9
  have t1123 : τ 1123 = some (g 10) := i10
  have t1124 : τ 1124 = some (g 11) := i11
  have t1121 : τ 1121 = some (g 12) := i12
  obtain ⟨jpa, upa, vpa⟩ : ∃ j : Nat, g 6 = (j : Int) ∧ g 13 = m 145 j := i13
  obtain ⟨c0, c1, c2, c3, c4, c5, c6, c7, c8, _⟩ := hc
  have c0 : (-1) * g 9 + 1 * g 10 ≤ 0 := d2 c0
  have c1 : 1 * g 9 + (-1) * g 10 ≤ 0 := d2 c1
  have c2 : 1 * g 3 + (-1) * g 9 ≤ 0 := d2 c2
  have c3 : (-1) * g 3 + 1 * g 9 ≤ 0 := d2 c3
  have c4 : 1 * g 4 ≤ 0 := d1 c4
  have c5 : (-1) * g 4 ≤ 0 := d1 c5
  have c6 : (-1) * g 11 ≤ (-29) := d1 c6
  have c7 : 1 * g 11 ≤ 29 := d1 c7
  have c8 : (-1) * g 13 ≤ (-1) := d1 c8
  obtain ⟨a0, a1, a2, a3, a4, a5, _⟩ := ha
  have n1178 : τ 1178 = none := a0
  have n1179 : τ 1179 = none := a1
  have n1180 : τ 1180 = none := a2
  have n1181 : τ 1181 = none := a3
  have n1182 : τ 1182 = none := a4
  have n1155 : τ 1155 = none := a5
  obtain ⟨h0, k_tok, k_sc1, k_sc2, k_T, k_I, k_F, k_N, k_Y, k_Z, k_A, k_B, k_C, k_X, k_R, k_f4⟩ := hS (by rw [t1199]; exact fun e => by cases e)
  have k_T0 := k_T
  obtain ⟨h_T, h_TN, h_QZ⟩ := k_T0
  have k_I0 := k_I
  obtain ⟨h_p, h_pc, h_ip, h_iP, h_PC, h_PN⟩ := k_I0
  have k_X0 := k_X
  obtain ⟨h_X0a, h_X0, h_X, h_Xe⟩ := k_X0
  have hXL : ((tx9 m).2 : Int) = m 110 1 := by
    show (((m 110 1).toNat : Nat) : Int) = _
    omega
  have hX := h_X _ _ _ _ _ _ _ _ t1170 t1171 t1172 t1173 t1174 t1175 t1176 t1177
  rw [n1178, n1179, n1180, n1181, n1182] at hX
  obtain ⟨⟨⟨hp1, hp2⟩, hws⟩, ⟨ho0, hv0, hvp, hd0, hd20⟩, ⟨hb0, hbv⟩, hdd⟩ := XB_n hX.1
  have hcc := h_pc _ _ t1123 t1124
  rw [show (g 10).toNat = (g 3).toNat by omega] at hcc
  have hN := h_TN _ _ t1120 t1121
  rw [show (g 9).toNat = (g 3).toNat by omega] at hN
  rw [show jpa = (g 6).toNat by omega] at vpa
  have hk : ((KT9 (tx9 m)).c (g 3).toNat) = 15 := (kq (a := 29) (b := 29) (fun k => k = 15) (by decide) (by omega) (by omega))
  obtain ⟨y1, y2⟩ := X_gf hX (by omega) (by omega) (by omega) (by omega) (by omega) (by omega) (by omega) (by omega)
  exact ⟨rfl, ⟨f2 (by omega), f2 (by omega), f1 (by omega), f1 (by omega), trivial⟩, trivial, fun _ => ⟨h0, k_tok, k_sc1, k_sc2, k_T, k_I, k_F, k_N, k_Y, k_Z, k_A, k_B, k_C, ⟨fun _ _ e0 e1 => no9 (o := none) rfl e0, fun _ _ _ e0 e1 e2 => no9 (o := none) rfl e0, fun _ _ _ _ _ _ _ _ e0 e1 e2 e3 e4 e5 e6 e7 => no9 (o := none) rfl e0, fun _ _ _ e0 e1 e2 => no9 (o := none) rfl e1⟩, k_R, k_f4⟩⟩
noncomputable def ru_gFa1 : Ru := ([(0, (1199, (0, (0, 0)))), (0, (1170, (0, (0, 0)))), (0, (1171, (0, (0, 0)))), (0, (1172, (0, (0, 0)))), (0, (1173, (0, (0, 0)))), (0, (1174, (0, (0, 0)))), (0, (1175, (0, (0, 0)))), (0, (1176, (0, (0, 0)))), (0, (1177, (0, (0, 0)))), (0, (1120, (0, (0, 0)))), (0, (1123, (0, (0, 0)))), (0, (1124, (0, (0, 0)))), (0, (1121, (0, (0, 0)))), (6, (143, (6, (0, 0))))], ([1178, 1179, 1180, 1181, 1182, 1155], ([([(9, (-1)), (10, 1)], 0), ([(9, 1), (10, (-1))], 0), ([(3, 1), (9, (-1))], 0), ([(3, (-1)), (9, 1)], 0), ([(4, 1)], 0), ([(4, (-1))], 0), ([(11, (-1))], (-30)), ([(11, 1)], 31), ([(13, (-1))], (-2))], (false, ([([(2, 1), (9, (-1))], 0), ([(2, (-1)), (9, 1)], 0), ([(1, 1)], (-1)), ([(1, (-1))], 1)], ([], ([(1170, none), (1171, none), (1172, none), (1173, none), (1174, none), (1175, none), (1176, none), (1177, none)], none)))))))
theorem rk_gFa1 : RuOk SR ru_gFa1 := by
  intro τ m g hi hc ha hS
  obtain ⟨i0, i1, i2, i3, i4, i5, i6, i7, i8, i9, i10, i11, i12, i13, _⟩ := hi
  have t1199 : τ 1199 = some (g 0) := i0
  have t1170 : τ 1170 = some (g 1) := i1
  have t1171 : τ 1171 = some (g 2) := i2
  have t1172 : τ 1172 = some (g 3) := i3
  have t1173 : τ 1173 = some (g 4) := i4
  have t1174 : τ 1174 = some (g 5) := i5
  have t1175 : τ 1175 = some (g 6) := i6
  have t1176 : τ 1176 = some (g 7) := i7
  have t1177 : τ 1177 = some (g 8) := i8
  have t1120 : τ 1120 = some (g 9) := i9
  have t1123 : τ 1123 = some (g 10) := i10
  have t1124 : τ 1124 = some (g 11) := i11
  have t1121 : τ 1121 = some (g 12) := i12
  obtain ⟨jkd, ukd, vkd⟩ : ∃ j : Nat, g 6 = (j : Int) ∧ g 13 = m 143 j := i13
  obtain ⟨c0, c1, c2, c3, c4, c5, c6, c7, c8, _⟩ := hc
  have c0 : (-1) * g 9 + 1 * g 10 ≤ 0 := d2 c0
  have c1 : 1 * g 9 + (-1) * g 10 ≤ 0 := d2 c1
  have c2 : 1 * g 3 + (-1) * g 9 ≤ 0 := d2 c2
  have c3 : (-1) * g 3 + 1 * g 9 ≤ 0 := d2 c3
  have c4 : 1 * g 4 ≤ 0 := d1 c4
  have c5 : (-1) * g 4 ≤ 0 := d1 c5
  have c6 : (-1) * g 11 ≤ (-30) := d1 c6
  have c7 : 1 * g 11 ≤ 31 := d1 c7
  have c8 : (-1) * g 13 ≤ (-2) := d1 c8
  obtain ⟨a0, a1, a2, a3, a4, a5, _⟩ := ha
  have n1178 : τ 1178 = none := a0
  have n1179 : τ 1179 = none := a1
  have n1180 : τ 1180 = none := a2
  have n1181 : τ 1181 = none := a3
  have n1182 : τ 1182 = none := a4
  have n1155 : τ 1155 = none := a5
  obtain ⟨h0, k_tok, k_sc1, k_sc2, k_T, k_I, k_F, k_N, k_Y, k_Z, k_A, k_B, k_C, k_X, k_R, k_f4⟩ := hS (by rw [t1199]; exact fun e => by cases e)
  have k_T0 := k_T
  obtain ⟨h_T, h_TN, h_QZ⟩ := k_T0
  have k_I0 := k_I
  obtain ⟨h_p, h_pc, h_ip, h_iP, h_PC, h_PN⟩ := k_I0
  have k_X0 := k_X
  obtain ⟨h_X0a, h_X0, h_X, h_Xe⟩ := k_X0
  have hXL : ((tx9 m).2 : Int) = m 110 1 := by
    show (((m 110 1).toNat : Nat) : Int) = _
    omega
  have hX := h_X _ _ _ _ _ _ _ _ t1170 t1171 t1172 t1173 t1174 t1175 t1176 t1177
  rw [n1178, n1179, n1180, n1181, n1182] at hX
  obtain ⟨⟨⟨hp1, hp2⟩, hws⟩, ⟨ho0, hv0, hvp, hd0, hd20⟩, ⟨hb0, hbv⟩, hdd⟩ := XB_n hX.1
  have hcc := h_pc _ _ t1123 t1124
  rw [show (g 10).toNat = (g 3).toNat by omega] at hcc
  have hN := h_TN _ _ t1120 t1121
  rw [show (g 9).toNat = (g 3).toNat by omega] at hN
  rw [show jkd = (g 6).toNat by omega] at vkd
  have hk : ((KT9 (tx9 m)).c (g 3).toNat) = 16 ∨ ((KT9 (tx9 m)).c (g 3).toNat) = 17 := (kq (a := 30) (b := 31) (fun k => k = 16 ∨ k = 17) (by decide) (by omega) (by omega))
  obtain ⟨y1, y2⟩ := X_gf hX (by omega) (by omega) (by omega) (by omega) (by omega) (by omega) (by omega) (by omega)
  exact ⟨rfl, ⟨f2 (by omega), f2 (by omega), f1 (by omega), f1 (by omega), trivial⟩, trivial, fun _ => ⟨h0, k_tok, k_sc1, k_sc2, k_T, k_I, k_F, k_N, k_Y, k_Z, k_A, k_B, k_C, ⟨fun _ _ e0 e1 => no9 (o := none) rfl e0, fun _ _ _ e0 e1 e2 => no9 (o := none) rfl e0, fun _ _ _ _ _ _ _ _ e0 e1 e2 e3 e4 e5 e6 e7 => no9 (o := none) rfl e0, fun _ _ _ e0 e1 e2 => no9 (o := none) rfl e1⟩, k_R, k_f4⟩⟩
noncomputable def ru_gFa2 : Ru := ([(0, (1199, (0, (0, 0)))), (0, (1170, (0, (0, 0)))), (0, (1171, (0, (0, 0)))), (0, (1172, (0, (0, 0)))), (0, (1173, (0, (0, 0)))), (0, (1174, (0, (0, 0)))), (0, (1175, (0, (0, 0)))), (0, (1176, (0, (0, 0)))), (0, (1177, (0, (0, 0)))), (0, (1120, (0, (0, 0)))), (0, (1123, (0, (0, 0)))), (0, (1124, (0, (0, 0)))), (0, (1121, (0, (0, 0)))), (6, (145, (6, (0, 0))))], ([1178, 1179, 1180, 1181, 1182, 1155], ([([(9, (-1)), (10, 1)], 0), ([(9, 1), (10, (-1))], 0), ([(3, 1), (9, (-1))], 0), ([(3, (-1)), (9, 1)], 0), ([(4, 1)], 0), ([(4, (-1))], 0), ([(11, (-1))], (-30)), ([(11, 1)], 31), ([(13, 1)], 0)], (false, ([([(2, 1), (9, (-1))], 0), ([(2, (-1)), (9, 1)], 0), ([(1, 1)], (-1)), ([(1, (-1))], 1)], ([], ([(1170, none), (1171, none), (1172, none), (1173, none), (1174, none), (1175, none), (1176, none), (1177, none)], none)))))))
theorem rk_gFa2 : RuOk SR ru_gFa2 := by
  intro τ m g hi hc ha hS
  obtain ⟨i0, i1, i2, i3, i4, i5, i6, i7, i8, i9, i10, i11, i12, i13, _⟩ := hi
  have t1199 : τ 1199 = some (g 0) := i0
  have t1170 : τ 1170 = some (g 1) := i1
  have t1171 : τ 1171 = some (g 2) := i2
  have t1172 : τ 1172 = some (g 3) := i3
  have t1173 : τ 1173 = some (g 4) := i4
  have t1174 : τ 1174 = some (g 5) := i5
  have t1175 : τ 1175 = some (g 6) := i6
  have t1176 : τ 1176 = some (g 7) := i7
  have t1177 : τ 1177 = some (g 8) := i8
  have t1120 : τ 1120 = some (g 9) := i9
  have t1123 : τ 1123 = some (g 10) := i10
  have t1124 : τ 1124 = some (g 11) := i11
  have t1121 : τ 1121 = some (g 12) := i12
  obtain ⟨jpa, upa, vpa⟩ : ∃ j : Nat, g 6 = (j : Int) ∧ g 13 = m 145 j := i13
  obtain ⟨c0, c1, c2, c3, c4, c5, c6, c7, c8, _⟩ := hc
  have c0 : (-1) * g 9 + 1 * g 10 ≤ 0 := d2 c0
  have c1 : 1 * g 9 + (-1) * g 10 ≤ 0 := d2 c1
  have c2 : 1 * g 3 + (-1) * g 9 ≤ 0 := d2 c2
  have c3 : (-1) * g 3 + 1 * g 9 ≤ 0 := d2 c3
  have c4 : 1 * g 4 ≤ 0 := d1 c4
  have c5 : (-1) * g 4 ≤ 0 := d1 c5
  have c6 : (-1) * g 11 ≤ (-30) := d1 c6
  have c7 : 1 * g 11 ≤ 31 := d1 c7
  have c8 : 1 * g 13 ≤ 0 := d1 c8
  obtain ⟨a0, a1, a2, a3, a4, a5, _⟩ := ha
  have n1178 : τ 1178 = none := a0
  have n1179 : τ 1179 = none := a1
  have n1180 : τ 1180 = none := a2
  have n1181 : τ 1181 = none := a3
  have n1182 : τ 1182 = none := a4
  have n1155 : τ 1155 = none := a5
  obtain ⟨h0, k_tok, k_sc1, k_sc2, k_T, k_I, k_F, k_N, k_Y, k_Z, k_A, k_B, k_C, k_X, k_R, k_f4⟩ := hS (by rw [t1199]; exact fun e => by cases e)
  have k_T0 := k_T
  obtain ⟨h_T, h_TN, h_QZ⟩ := k_T0
  have k_I0 := k_I
  obtain ⟨h_p, h_pc, h_ip, h_iP, h_PC, h_PN⟩ := k_I0
  have k_X0 := k_X
  obtain ⟨h_X0a, h_X0, h_X, h_Xe⟩ := k_X0
  have hXL : ((tx9 m).2 : Int) = m 110 1 := by
    show (((m 110 1).toNat : Nat) : Int) = _
    omega
  have hX := h_X _ _ _ _ _ _ _ _ t1170 t1171 t1172 t1173 t1174 t1175 t1176 t1177
  rw [n1178, n1179, n1180, n1181, n1182] at hX
  obtain ⟨⟨⟨hp1, hp2⟩, hws⟩, ⟨ho0, hv0, hvp, hd0, hd20⟩, ⟨hb0, hbv⟩, hdd⟩ := XB_n hX.1
  have hcc := h_pc _ _ t1123 t1124
  rw [show (g 10).toNat = (g 3).toNat by omega] at hcc
  have hN := h_TN _ _ t1120 t1121
  rw [show (g 9).toNat = (g 3).toNat by omega] at hN
  rw [show jpa = (g 6).toNat by omega] at vpa
  have hk : ((KT9 (tx9 m)).c (g 3).toNat) = 16 ∨ ((KT9 (tx9 m)).c (g 3).toNat) = 17 := (kq (a := 30) (b := 31) (fun k => k = 16 ∨ k = 17) (by decide) (by omega) (by omega))
  obtain ⟨y1, y2⟩ := X_gf hX (by omega) (by omega) (by omega) (by omega) (by omega) (by omega) (by omega) (by omega)
  exact ⟨rfl, ⟨f2 (by omega), f2 (by omega), f1 (by omega), f1 (by omega), trivial⟩, trivial, fun _ => ⟨h0, k_tok, k_sc1, k_sc2, k_T, k_I, k_F, k_N, k_Y, k_Z, k_A, k_B, k_C, ⟨fun _ _ e0 e1 => no9 (o := none) rfl e0, fun _ _ _ e0 e1 e2 => no9 (o := none) rfl e0, fun _ _ _ _ _ _ _ _ e0 e1 e2 e3 e4 e5 e6 e7 => no9 (o := none) rfl e0, fun _ _ _ e0 e1 e2 => no9 (o := none) rfl e1⟩, k_R, k_f4⟩⟩
noncomputable def ru_gFp0 : Ru := ([(0, (1199, (0, (0, 0)))), (0, (1170, (0, (0, 0)))), (0, (1171, (0, (0, 0)))), (0, (1172, (0, (0, 0)))), (0, (1173, (0, (0, 0)))), (0, (1174, (0, (0, 0)))), (0, (1175, (0, (0, 0)))), (0, (1176, (0, (0, 0)))), (0, (1177, (0, (0, 0)))), (0, (1120, (0, (0, 0)))), (0, (1123, (0, (0, 0)))), (0, (1124, (0, (0, 0)))), (0, (1121, (0, (0, 0)))), (6, (143, (6, (0, 0))))], ([1178, 1179, 1180, 1181, 1182, 1155], ([([(9, (-1)), (10, 1)], 0), ([(9, 1), (10, (-1))], 0), ([(3, 1), (9, (-1))], 0), ([(3, (-1)), (9, 1)], 0), ([(4, 1)], 0), ([(4, (-1))], 0), ([(11, 1)], 5), ([(11, (-1))], (-5)), ([(13, 1)], 0), ([(13, (-1))], 0)], (false, ([([(2, 1), (9, (-1))], 0), ([(2, (-1)), (9, 1)], 0), ([(1, 1)], (-1)), ([(1, (-1))], 1)], ([], ([(1170, none), (1171, none), (1172, none), (1173, none), (1174, none), (1175, none), (1176, none), (1177, none)], none)))))))
theorem rk_gFp0 : RuOk SR ru_gFp0 := by
  intro τ m g hi hc ha hS
  obtain ⟨i0, i1, i2, i3, i4, i5, i6, i7, i8, i9, i10, i11, i12, i13, _⟩ := hi
  have t1199 : τ 1199 = some (g 0) := i0
  have t1170 : τ 1170 = some (g 1) := i1
  have t1171 : τ 1171 = some (g 2) := i2
  have t1172 : τ 1172 = some (g 3) := i3
  have t1173 : τ 1173 = some (g 4) := i4
  have t1174 : τ 1174 = some (g 5) := i5
  have t1175 : τ 1175 = some (g 6) := i6
  have t1176 : τ 1176 = some (g 7) := i7
  have t1177 : τ 1177 = some (g 8) := i8
  have t1120 : τ 1120 = some (g 9) := i9
  have t1123 : τ 1123 = some (g 10) := i10
  have t1124 : τ 1124 = some (g 11) := i11
  have t1121 : τ 1121 = some (g 12) := i12
  obtain ⟨jkd, ukd, vkd⟩ : ∃ j : Nat, g 6 = (j : Int) ∧ g 13 = m 143 j := i13
  obtain ⟨c0, c1, c2, c3, c4, c5, c6, c7, c8, c9, _⟩ := hc
  have c0 : (-1) * g 9 + 1 * g 10 ≤ 0 := d2 c0
  have c1 : 1 * g 9 + (-1) * g 10 ≤ 0 := d2 c1
  have c2 : 1 * g 3 + (-1) * g 9 ≤ 0 := d2 c2
  have c3 : (-1) * g 3 + 1 * g 9 ≤ 0 := d2 c3
  have c4 : 1 * g 4 ≤ 0 := d1 c4
  have c5 : (-1) * g 4 ≤ 0 := d1 c5
  have c6 : 1 * g 11 ≤ 5 := d1 c6
  have c7 : (-1) * g 11 ≤ (-5) := d1 c7
  have c8 : 1 * g 13 ≤ 0 := d1 c8
  have c9 : (-1) * g 13 ≤ 0 := d1 c9
  obtain ⟨a0, a1, a2, a3, a4, a5, _⟩ := ha
  have n1178 : τ 1178 = none := a0
  have n1179 : τ 1179 = none := a1
  have n1180 : τ 1180 = none := a2
  have n1181 : τ 1181 = none := a3
  have n1182 : τ 1182 = none := a4
  have n1155 : τ 1155 = none := a5
  obtain ⟨h0, k_tok, k_sc1, k_sc2, k_T, k_I, k_F, k_N, k_Y, k_Z, k_A, k_B, k_C, k_X, k_R, k_f4⟩ := hS (by rw [t1199]; exact fun e => by cases e)
  have k_T0 := k_T
  obtain ⟨h_T, h_TN, h_QZ⟩ := k_T0
  have k_I0 := k_I
  obtain ⟨h_p, h_pc, h_ip, h_iP, h_PC, h_PN⟩ := k_I0
  have k_X0 := k_X
  obtain ⟨h_X0a, h_X0, h_X, h_Xe⟩ := k_X0
  have hXL : ((tx9 m).2 : Int) = m 110 1 := by
    show (((m 110 1).toNat : Nat) : Int) = _
    omega
  have hX := h_X _ _ _ _ _ _ _ _ t1170 t1171 t1172 t1173 t1174 t1175 t1176 t1177
  rw [n1178, n1179, n1180, n1181, n1182] at hX
  obtain ⟨⟨⟨hp1, hp2⟩, hws⟩, ⟨ho0, hv0, hvp, hd0, hd20⟩, ⟨hb0, hbv⟩, hdd⟩ := XB_n hX.1
  have hcc := h_pc _ _ t1123 t1124
  rw [show (g 10).toNat = (g 3).toNat by omega] at hcc
  have hN := h_TN _ _ t1120 t1121
  rw [show (g 9).toNat = (g 3).toNat by omega] at hN
  rw [show jkd = (g 6).toNat by omega] at vkd
  have hk : ((KT9 (tx9 m)).c (g 3).toNat) = 11 := (kq (a := 5) (b := 5) (fun k => k = 11) (by decide) (by omega) (by omega))
  obtain ⟨y1, y2⟩ := X_gf hX (by omega) (by omega) (by omega) (by omega) (by omega) (by omega) (by omega) (by omega)
  exact ⟨rfl, ⟨f2 (by omega), f2 (by omega), f1 (by omega), f1 (by omega), trivial⟩, trivial, fun _ => ⟨h0, k_tok, k_sc1, k_sc2, k_T, k_I, k_F, k_N, k_Y, k_Z, k_A, k_B, k_C, ⟨fun _ _ e0 e1 => no9 (o := none) rfl e0, fun _ _ _ e0 e1 e2 => no9 (o := none) rfl e0, fun _ _ _ _ _ _ _ _ e0 e1 e2 e3 e4 e5 e6 e7 => no9 (o := none) rfl e0, fun _ _ _ e0 e1 e2 => no9 (o := none) rfl e1⟩, k_R, k_f4⟩⟩
noncomputable def ru_gFp3 : Ru := ([(0, (1199, (0, (0, 0)))), (0, (1170, (0, (0, 0)))), (0, (1171, (0, (0, 0)))), (0, (1172, (0, (0, 0)))), (0, (1173, (0, (0, 0)))), (0, (1174, (0, (0, 0)))), (0, (1175, (0, (0, 0)))), (0, (1176, (0, (0, 0)))), (0, (1177, (0, (0, 0)))), (0, (1120, (0, (0, 0)))), (0, (1123, (0, (0, 0)))), (0, (1124, (0, (0, 0)))), (0, (1121, (0, (0, 0)))), (6, (143, (6, (0, 0))))], ([1178, 1179, 1180, 1181, 1182, 1155], ([([(9, (-1)), (10, 1)], 0), ([(9, 1), (10, (-1))], 0), ([(3, 1), (9, (-1))], 0), ([(3, (-1)), (9, 1)], 0), ([(4, 1)], 0), ([(4, (-1))], 0), ([(11, 1)], 5), ([(11, (-1))], (-5)), ([(13, 1)], 3), ([(13, (-1))], (-3))], (false, ([([(2, 1), (9, (-1))], 0), ([(2, (-1)), (9, 1)], 0), ([(1, 1)], (-1)), ([(1, (-1))], 1)], ([], ([(1170, none), (1171, none), (1172, none), (1173, none), (1174, none), (1175, none), (1176, none), (1177, none)], none)))))))
theorem rk_gFp3 : RuOk SR ru_gFp3 := by
  intro τ m g hi hc ha hS
  obtain ⟨i0, i1, i2, i3, i4, i5, i6, i7, i8, i9, i10, i11, i12, i13, _⟩ := hi
  have t1199 : τ 1199 = some (g 0) := i0
  have t1170 : τ 1170 = some (g 1) := i1
  have t1171 : τ 1171 = some (g 2) := i2
  have t1172 : τ 1172 = some (g 3) := i3
  have t1173 : τ 1173 = some (g 4) := i4
  have t1174 : τ 1174 = some (g 5) := i5
  have t1175 : τ 1175 = some (g 6) := i6
  have t1176 : τ 1176 = some (g 7) := i7
  have t1177 : τ 1177 = some (g 8) := i8
  have t1120 : τ 1120 = some (g 9) := i9
  have t1123 : τ 1123 = some (g 10) := i10
  have t1124 : τ 1124 = some (g 11) := i11
  have t1121 : τ 1121 = some (g 12) := i12
  obtain ⟨jkd, ukd, vkd⟩ : ∃ j : Nat, g 6 = (j : Int) ∧ g 13 = m 143 j := i13
  obtain ⟨c0, c1, c2, c3, c4, c5, c6, c7, c8, c9, _⟩ := hc
  have c0 : (-1) * g 9 + 1 * g 10 ≤ 0 := d2 c0
  have c1 : 1 * g 9 + (-1) * g 10 ≤ 0 := d2 c1
  have c2 : 1 * g 3 + (-1) * g 9 ≤ 0 := d2 c2
  have c3 : (-1) * g 3 + 1 * g 9 ≤ 0 := d2 c3
  have c4 : 1 * g 4 ≤ 0 := d1 c4
  have c5 : (-1) * g 4 ≤ 0 := d1 c5
  have c6 : 1 * g 11 ≤ 5 := d1 c6
  have c7 : (-1) * g 11 ≤ (-5) := d1 c7
  have c8 : 1 * g 13 ≤ 3 := d1 c8
  have c9 : (-1) * g 13 ≤ (-3) := d1 c9
  obtain ⟨a0, a1, a2, a3, a4, a5, _⟩ := ha
  have n1178 : τ 1178 = none := a0
  have n1179 : τ 1179 = none := a1
  have n1180 : τ 1180 = none := a2
  have n1181 : τ 1181 = none := a3
  have n1182 : τ 1182 = none := a4
  have n1155 : τ 1155 = none := a5
  obtain ⟨h0, k_tok, k_sc1, k_sc2, k_T, k_I, k_F, k_N, k_Y, k_Z, k_A, k_B, k_C, k_X, k_R, k_f4⟩ := hS (by rw [t1199]; exact fun e => by cases e)
  have k_T0 := k_T
  obtain ⟨h_T, h_TN, h_QZ⟩ := k_T0
  have k_I0 := k_I
  obtain ⟨h_p, h_pc, h_ip, h_iP, h_PC, h_PN⟩ := k_I0
  have k_X0 := k_X
  obtain ⟨h_X0a, h_X0, h_X, h_Xe⟩ := k_X0
  have hXL : ((tx9 m).2 : Int) = m 110 1 := by
    show (((m 110 1).toNat : Nat) : Int) = _
    omega
  have hX := h_X _ _ _ _ _ _ _ _ t1170 t1171 t1172 t1173 t1174 t1175 t1176 t1177
  rw [n1178, n1179, n1180, n1181, n1182] at hX
  obtain ⟨⟨⟨hp1, hp2⟩, hws⟩, ⟨ho0, hv0, hvp, hd0, hd20⟩, ⟨hb0, hbv⟩, hdd⟩ := XB_n hX.1
  have hcc := h_pc _ _ t1123 t1124
  rw [show (g 10).toNat = (g 3).toNat by omega] at hcc
  have hN := h_TN _ _ t1120 t1121
  rw [show (g 9).toNat = (g 3).toNat by omega] at hN
  rw [show jkd = (g 6).toNat by omega] at vkd
  have hk : ((KT9 (tx9 m)).c (g 3).toNat) = 11 := (kq (a := 5) (b := 5) (fun k => k = 11) (by decide) (by omega) (by omega))
  obtain ⟨y1, y2⟩ := X_gf hX (by omega) (by omega) (by omega) (by omega) (by omega) (by omega) (by omega) (by omega)
  exact ⟨rfl, ⟨f2 (by omega), f2 (by omega), f1 (by omega), f1 (by omega), trivial⟩, trivial, fun _ => ⟨h0, k_tok, k_sc1, k_sc2, k_T, k_I, k_F, k_N, k_Y, k_Z, k_A, k_B, k_C, ⟨fun _ _ e0 e1 => no9 (o := none) rfl e0, fun _ _ _ e0 e1 e2 => no9 (o := none) rfl e0, fun _ _ _ _ _ _ _ _ e0 e1 e2 e3 e4 e5 e6 e7 => no9 (o := none) rfl e0, fun _ _ _ e0 e1 e2 => no9 (o := none) rfl e1⟩, k_R, k_f4⟩⟩
noncomputable def ru_gFp1 : Ru := ([(0, (1199, (0, (0, 0)))), (0, (1170, (0, (0, 0)))), (0, (1171, (0, (0, 0)))), (0, (1172, (0, (0, 0)))), (0, (1173, (0, (0, 0)))), (0, (1174, (0, (0, 0)))), (0, (1175, (0, (0, 0)))), (0, (1176, (0, (0, 0)))), (0, (1177, (0, (0, 0)))), (0, (1120, (0, (0, 0)))), (0, (1123, (0, (0, 0)))), (0, (1124, (0, (0, 0)))), (0, (1121, (0, (0, 0)))), (6, (143, (6, (0, 0)))), (6, (145, (6, (0, 0)))), (6, (144, (6, (0, 0))))], ([1178, 1179, 1180, 1181, 1182, 1155], ([([(9, (-1)), (10, 1)], 0), ([(9, 1), (10, (-1))], 0), ([(3, 1), (9, (-1))], 0), ([(3, (-1)), (9, 1)], 0), ([(4, 1)], 0), ([(4, (-1))], 0), ([(11, 1)], 5), ([(11, (-1))], (-5)), ([(13, 1)], 1), ([(13, (-1))], (-1)), ([(14, 1)], 0), ([(14, (-1))], 0), ([(15, 1)], 1), ([(15, (-1))], (-1))], (false, ([([(2, 1), (9, (-1))], 0), ([(2, (-1)), (9, 1)], 0), ([(1, 1)], (-1)), ([(1, (-1))], 1)], ([], ([(1170, none), (1171, none), (1172, none), (1173, none), (1174, none), (1175, none), (1176, none), (1177, none)], none)))))))
theorem rk_gFp1 : RuOk SR ru_gFp1 := by
  intro τ m g hi hc ha hS
  obtain ⟨i0, i1, i2, i3, i4, i5, i6, i7, i8, i9, i10, i11, i12, i13, i14, i15, _⟩ := hi
  have t1199 : τ 1199 = some (g 0) := i0
  have t1170 : τ 1170 = some (g 1) := i1
  have t1171 : τ 1171 = some (g 2) := i2
  have t1172 : τ 1172 = some (g 3) := i3
  have t1173 : τ 1173 = some (g 4) := i4
  have t1174 : τ 1174 = some (g 5) := i5
  have t1175 : τ 1175 = some (g 6) := i6
  have t1176 : τ 1176 = some (g 7) := i7
  have t1177 : τ 1177 = some (g 8) := i8
  have t1120 : τ 1120 = some (g 9) := i9
  have t1123 : τ 1123 = some (g 10) := i10
  have t1124 : τ 1124 = some (g 11) := i11
  have t1121 : τ 1121 = some (g 12) := i12
  obtain ⟨jkd, ukd, vkd⟩ : ∃ j : Nat, g 6 = (j : Int) ∧ g 13 = m 143 j := i13
  obtain ⟨jpa, upa, vpa⟩ : ∃ j : Nat, g 6 = (j : Int) ∧ g 14 = m 145 j := i14
  obtain ⟨jcd, ucd, vcd⟩ : ∃ j : Nat, g 6 = (j : Int) ∧ g 15 = m 144 j := i15
  obtain ⟨c0, c1, c2, c3, c4, c5, c6, c7, c8, c9, c10, c11, c12, c13, _⟩ := hc
  have c0 : (-1) * g 9 + 1 * g 10 ≤ 0 := d2 c0
  have c1 : 1 * g 9 + (-1) * g 10 ≤ 0 := d2 c1
  have c2 : 1 * g 3 + (-1) * g 9 ≤ 0 := d2 c2
  have c3 : (-1) * g 3 + 1 * g 9 ≤ 0 := d2 c3
  have c4 : 1 * g 4 ≤ 0 := d1 c4
  have c5 : (-1) * g 4 ≤ 0 := d1 c5
  have c6 : 1 * g 11 ≤ 5 := d1 c6
  have c7 : (-1) * g 11 ≤ (-5) := d1 c7
  have c8 : 1 * g 13 ≤ 1 := d1 c8
  have c9 : (-1) * g 13 ≤ (-1) := d1 c9
  have c10 : 1 * g 14 ≤ 0 := d1 c10
  have c11 : (-1) * g 14 ≤ 0 := d1 c11
  have c12 : 1 * g 15 ≤ 1 := d1 c12
  have c13 : (-1) * g 15 ≤ (-1) := d1 c13
  obtain ⟨a0, a1, a2, a3, a4, a5, _⟩ := ha
  have n1178 : τ 1178 = none := a0
  have n1179 : τ 1179 = none := a1
  have n1180 : τ 1180 = none := a2
  have n1181 : τ 1181 = none := a3
  have n1182 : τ 1182 = none := a4
  have n1155 : τ 1155 = none := a5
  obtain ⟨h0, k_tok, k_sc1, k_sc2, k_T, k_I, k_F, k_N, k_Y, k_Z, k_A, k_B, k_C, k_X, k_R, k_f4⟩ := hS (by rw [t1199]; exact fun e => by cases e)
  have k_T0 := k_T
  obtain ⟨h_T, h_TN, h_QZ⟩ := k_T0
  have k_I0 := k_I
  obtain ⟨h_p, h_pc, h_ip, h_iP, h_PC, h_PN⟩ := k_I0
  have k_X0 := k_X
  obtain ⟨h_X0a, h_X0, h_X, h_Xe⟩ := k_X0
  have hXL : ((tx9 m).2 : Int) = m 110 1 := by
    show (((m 110 1).toNat : Nat) : Int) = _
    omega
  have hX := h_X _ _ _ _ _ _ _ _ t1170 t1171 t1172 t1173 t1174 t1175 t1176 t1177
  rw [n1178, n1179, n1180, n1181, n1182] at hX
  obtain ⟨⟨⟨hp1, hp2⟩, hws⟩, ⟨ho0, hv0, hvp, hd0, hd20⟩, ⟨hb0, hbv⟩, hdd⟩ := XB_n hX.1
  have hcc := h_pc _ _ t1123 t1124
  rw [show (g 10).toNat = (g 3).toNat by omega] at hcc
  have hN := h_TN _ _ t1120 t1121
  rw [show (g 9).toNat = (g 3).toNat by omega] at hN
  rw [show jkd = (g 6).toNat by omega] at vkd
  rw [show jpa = (g 6).toNat by omega] at vpa
  rw [show jcd = (g 6).toNat by omega] at vcd
  have hk : ((KT9 (tx9 m)).c (g 3).toNat) = 11 := (kq (a := 5) (b := 5) (fun k => k = 11) (by decide) (by omega) (by omega))
  obtain ⟨y1, y2⟩ := X_gf hX (by omega) (by omega) (by omega) (by omega) (by omega) (by omega) (by omega) (by omega)
  exact ⟨rfl, ⟨f2 (by omega), f2 (by omega), f1 (by omega), f1 (by omega), trivial⟩, trivial, fun _ => ⟨h0, k_tok, k_sc1, k_sc2, k_T, k_I, k_F, k_N, k_Y, k_Z, k_A, k_B, k_C, ⟨fun _ _ e0 e1 => no9 (o := none) rfl e0, fun _ _ _ e0 e1 e2 => no9 (o := none) rfl e0, fun _ _ _ _ _ _ _ _ e0 e1 e2 e3 e4 e5 e6 e7 => no9 (o := none) rfl e0, fun _ _ _ e0 e1 e2 => no9 (o := none) rfl e1⟩, k_R, k_f4⟩⟩
noncomputable def ru_gFq : Ru := ([(0, (1199, (0, (0, 0)))), (0, (1170, (0, (0, 0)))), (0, (1171, (0, (0, 0)))), (0, (1172, (0, (0, 0)))), (0, (1173, (0, (0, 0)))), (0, (1174, (0, (0, 0)))), (0, (1175, (0, (0, 0)))), (0, (1176, (0, (0, 0)))), (0, (1177, (0, (0, 0)))), (0, (1120, (0, (0, 0)))), (0, (1123, (0, (0, 0)))), (0, (1124, (0, (0, 0)))), (0, (1121, (0, (0, 0)))), (6, (143, (6, (0, 0))))], ([1178, 1179, 1180, 1181, 1182, 1155], ([([(9, (-1)), (10, 1)], 0), ([(9, 1), (10, (-1))], 0), ([(3, 1), (9, (-1))], 0), ([(3, (-1)), (9, 1)], 0), ([(4, 1)], 0), ([(4, (-1))], 0), ([(11, 1)], 7), ([(11, (-1))], (-7)), ([(13, 1)], 2)], (false, ([([(2, 1), (9, (-1))], 0), ([(2, (-1)), (9, 1)], 0), ([(1, 1)], (-1)), ([(1, (-1))], 1)], ([], ([(1170, none), (1171, none), (1172, none), (1173, none), (1174, none), (1175, none), (1176, none), (1177, none)], none)))))))
theorem rk_gFq : RuOk SR ru_gFq := by
  intro τ m g hi hc ha hS
  obtain ⟨i0, i1, i2, i3, i4, i5, i6, i7, i8, i9, i10, i11, i12, i13, _⟩ := hi
  have t1199 : τ 1199 = some (g 0) := i0
  have t1170 : τ 1170 = some (g 1) := i1
  have t1171 : τ 1171 = some (g 2) := i2
  have t1172 : τ 1172 = some (g 3) := i3
  have t1173 : τ 1173 = some (g 4) := i4
  have t1174 : τ 1174 = some (g 5) := i5
  have t1175 : τ 1175 = some (g 6) := i6
  have t1176 : τ 1176 = some (g 7) := i7
  have t1177 : τ 1177 = some (g 8) := i8
  have t1120 : τ 1120 = some (g 9) := i9
  have t1123 : τ 1123 = some (g 10) := i10
  have t1124 : τ 1124 = some (g 11) := i11
  have t1121 : τ 1121 = some (g 12) := i12
  obtain ⟨jkd, ukd, vkd⟩ : ∃ j : Nat, g 6 = (j : Int) ∧ g 13 = m 143 j := i13
  obtain ⟨c0, c1, c2, c3, c4, c5, c6, c7, c8, _⟩ := hc
  have c0 : (-1) * g 9 + 1 * g 10 ≤ 0 := d2 c0
  have c1 : 1 * g 9 + (-1) * g 10 ≤ 0 := d2 c1
  have c2 : 1 * g 3 + (-1) * g 9 ≤ 0 := d2 c2
  have c3 : (-1) * g 3 + 1 * g 9 ≤ 0 := d2 c3
  have c4 : 1 * g 4 ≤ 0 := d1 c4
  have c5 : (-1) * g 4 ≤ 0 := d1 c5
  have c6 : 1 * g 11 ≤ 7 := d1 c6
  have c7 : (-1) * g 11 ≤ (-7) := d1 c7
  have c8 : 1 * g 13 ≤ 2 := d1 c8
  obtain ⟨a0, a1, a2, a3, a4, a5, _⟩ := ha
  have n1178 : τ 1178 = none := a0
  have n1179 : τ 1179 = none := a1
  have n1180 : τ 1180 = none := a2
  have n1181 : τ 1181 = none := a3
  have n1182 : τ 1182 = none := a4
  have n1155 : τ 1155 = none := a5
  obtain ⟨h0, k_tok, k_sc1, k_sc2, k_T, k_I, k_F, k_N, k_Y, k_Z, k_A, k_B, k_C, k_X, k_R, k_f4⟩ := hS (by rw [t1199]; exact fun e => by cases e)
  have k_T0 := k_T
  obtain ⟨h_T, h_TN, h_QZ⟩ := k_T0
  have k_I0 := k_I
  obtain ⟨h_p, h_pc, h_ip, h_iP, h_PC, h_PN⟩ := k_I0
  have k_X0 := k_X
  obtain ⟨h_X0a, h_X0, h_X, h_Xe⟩ := k_X0
  have hXL : ((tx9 m).2 : Int) = m 110 1 := by
    show (((m 110 1).toNat : Nat) : Int) = _
    omega
  have hX := h_X _ _ _ _ _ _ _ _ t1170 t1171 t1172 t1173 t1174 t1175 t1176 t1177
  rw [n1178, n1179, n1180, n1181, n1182] at hX
  obtain ⟨⟨⟨hp1, hp2⟩, hws⟩, ⟨ho0, hv0, hvp, hd0, hd20⟩, ⟨hb0, hbv⟩, hdd⟩ := XB_n hX.1
  have hcc := h_pc _ _ t1123 t1124
  rw [show (g 10).toNat = (g 3).toNat by omega] at hcc
  have hN := h_TN _ _ t1120 t1121
  rw [show (g 9).toNat = (g 3).toNat by omega] at hN
  rw [show jkd = (g 6).toNat by omega] at vkd
  have hk : ((KT9 (tx9 m)).c (g 3).toNat) = 10 := (kq (a := 7) (b := 7) (fun k => k = 10) (by decide) (by omega) (by omega))
  obtain ⟨y1, y2⟩ := X_gf hX (by omega) (by omega) (by omega) (by omega) (by omega) (by omega) (by omega) (by omega)
  exact ⟨rfl, ⟨f2 (by omega), f2 (by omega), f1 (by omega), f1 (by omega), trivial⟩, trivial, fun _ => ⟨h0, k_tok, k_sc1, k_sc2, k_T, k_I, k_F, k_N, k_Y, k_Z, k_A, k_B, k_C, ⟨fun _ _ e0 e1 => no9 (o := none) rfl e0, fun _ _ _ e0 e1 e2 => no9 (o := none) rfl e0, fun _ _ _ _ _ _ _ _ e0 e1 e2 e3 e4 e5 e6 e7 => no9 (o := none) rfl e0, fun _ _ _ e0 e1 e2 => no9 (o := none) rfl e1⟩, k_R, k_f4⟩⟩
noncomputable def ru_gFe0 : Ru := ([(0, (1199, (0, (0, 0)))), (0, (1170, (0, (0, 0)))), (0, (1171, (0, (0, 0)))), (0, (1172, (0, (0, 0)))), (0, (1173, (0, (0, 0)))), (0, (1174, (0, (0, 0)))), (0, (1175, (0, (0, 0)))), (0, (1176, (0, (0, 0)))), (0, (1177, (0, (0, 0)))), (0, (1120, (0, (0, 0)))), (0, (1123, (0, (0, 0)))), (0, (1124, (0, (0, 0)))), (0, (1121, (0, (0, 0))))], ([1178, 1179, 1180, 1181, 1182, 1155], ([([(9, (-1)), (10, 1)], 0), ([(9, 1), (10, (-1))], 0), ([(3, 1), (9, (-1))], 0), ([(3, (-1)), (9, 1)], 0), ([(4, 1)], 0), ([(4, (-1))], 0), ([(11, (-1))], (-1)), ([(11, 1)], 1), ([(6, (-1))], (-1))], (false, ([([(2, 1), (9, (-1))], 0), ([(2, (-1)), (9, 1)], 0), ([(1, 1)], (-1)), ([(1, (-1))], 1)], ([], ([(1170, none), (1171, none), (1172, none), (1173, none), (1174, none), (1175, none), (1176, none), (1177, none)], none)))))))
theorem rk_gFe0 : RuOk SR ru_gFe0 := by
  intro τ m g hi hc ha hS
  obtain ⟨i0, i1, i2, i3, i4, i5, i6, i7, i8, i9, i10, i11, i12, _⟩ := hi
  have t1199 : τ 1199 = some (g 0) := i0
  have t1170 : τ 1170 = some (g 1) := i1
  have t1171 : τ 1171 = some (g 2) := i2
  have t1172 : τ 1172 = some (g 3) := i3
  have t1173 : τ 1173 = some (g 4) := i4
  have t1174 : τ 1174 = some (g 5) := i5
  have t1175 : τ 1175 = some (g 6) := i6
  have t1176 : τ 1176 = some (g 7) := i7
  have t1177 : τ 1177 = some (g 8) := i8
  have t1120 : τ 1120 = some (g 9) := i9
  have t1123 : τ 1123 = some (g 10) := i10
  have t1124 : τ 1124 = some (g 11) := i11
  have t1121 : τ 1121 = some (g 12) := i12
  obtain ⟨c0, c1, c2, c3, c4, c5, c6, c7, c8, _⟩ := hc
  have c0 : (-1) * g 9 + 1 * g 10 ≤ 0 := d2 c0
  have c1 : 1 * g 9 + (-1) * g 10 ≤ 0 := d2 c1
  have c2 : 1 * g 3 + (-1) * g 9 ≤ 0 := d2 c2
  have c3 : (-1) * g 3 + 1 * g 9 ≤ 0 := d2 c3
  have c4 : 1 * g 4 ≤ 0 := d1 c4
  have c5 : (-1) * g 4 ≤ 0 := d1 c5
  have c6 : (-1) * g 11 ≤ (-1) := d1 c6
  have c7 : 1 * g 11 ≤ 1 := d1 c7
  have c8 : (-1) * g 6 ≤ (-1) := d1 c8
  obtain ⟨a0, a1, a2, a3, a4, a5, _⟩ := ha
  have n1178 : τ 1178 = none := a0
  have n1179 : τ 1179 = none := a1
  have n1180 : τ 1180 = none := a2
  have n1181 : τ 1181 = none := a3
  have n1182 : τ 1182 = none := a4
  have n1155 : τ 1155 = none := a5
  obtain ⟨h0, k_tok, k_sc1, k_sc2, k_T, k_I, k_F, k_N, k_Y, k_Z, k_A, k_B, k_C, k_X, k_R, k_f4⟩ := hS (by rw [t1199]; exact fun e => by cases e)
  have k_T0 := k_T
  obtain ⟨h_T, h_TN, h_QZ⟩ := k_T0
  have k_I0 := k_I
  obtain ⟨h_p, h_pc, h_ip, h_iP, h_PC, h_PN⟩ := k_I0
  have k_X0 := k_X
  obtain ⟨h_X0a, h_X0, h_X, h_Xe⟩ := k_X0
  have hXL : ((tx9 m).2 : Int) = m 110 1 := by
    show (((m 110 1).toNat : Nat) : Int) = _
    omega
  have hX := h_X _ _ _ _ _ _ _ _ t1170 t1171 t1172 t1173 t1174 t1175 t1176 t1177
  rw [n1178, n1179, n1180, n1181, n1182] at hX
  obtain ⟨⟨⟨hp1, hp2⟩, hws⟩, ⟨ho0, hv0, hvp, hd0, hd20⟩, ⟨hb0, hbv⟩, hdd⟩ := XB_n hX.1
  have hcc := h_pc _ _ t1123 t1124
  rw [show (g 10).toNat = (g 3).toNat by omega] at hcc
  have hN := h_TN _ _ t1120 t1121
  rw [show (g 9).toNat = (g 3).toNat by omega] at hN
  have hk : ((KT9 (tx9 m)).c (g 3).toNat) = 18 ∨ ((KT9 (tx9 m)).c (g 3).toNat) = 19 ∨ ((KT9 (tx9 m)).c (g 3).toNat) = 20 := (kq (a := 1) (b := 1) (fun k => k = 18 ∨ k = 19 ∨ k = 20) (by decide) (by omega) (by omega))
  obtain ⟨y1, y2⟩ := X_gf hX (by omega) (by omega) (by omega) (by omega) (by omega) (by omega) (by omega) (by omega)
  exact ⟨rfl, ⟨f2 (by omega), f2 (by omega), f1 (by omega), f1 (by omega), trivial⟩, trivial, fun _ => ⟨h0, k_tok, k_sc1, k_sc2, k_T, k_I, k_F, k_N, k_Y, k_Z, k_A, k_B, k_C, ⟨fun _ _ e0 e1 => no9 (o := none) rfl e0, fun _ _ _ e0 e1 e2 => no9 (o := none) rfl e0, fun _ _ _ _ _ _ _ _ e0 e1 e2 e3 e4 e5 e6 e7 => no9 (o := none) rfl e0, fun _ _ _ e0 e1 e2 => no9 (o := none) rfl e1⟩, k_R, k_f4⟩⟩
noncomputable def ru_gFf0 : Ru := ([(0, (1199, (0, (0, 0)))), (0, (1170, (0, (0, 0)))), (0, (1171, (0, (0, 0)))), (0, (1172, (0, (0, 0)))), (0, (1173, (0, (0, 0)))), (0, (1174, (0, (0, 0)))), (0, (1175, (0, (0, 0)))), (0, (1176, (0, (0, 0)))), (0, (1177, (0, (0, 0)))), (0, (1120, (0, (0, 0)))), (0, (1123, (0, (0, 0)))), (0, (1124, (0, (0, 0)))), (0, (1121, (0, (0, 0)))), (6, (145, (6, (0, 0))))], ([1178, 1179, 1180, 1181, 1182, 1155], ([([(9, (-1)), (10, 1)], 0), ([(9, 1), (10, (-1))], 0), ([(3, 1), (9, (-1))], 0), ([(3, (-1)), (9, 1)], 0), ([(4, 1)], 0), ([(4, (-1))], 0), ([(11, (-1))], (-1)), ([(11, 1)], 1), ([(13, 1)], 0)], (false, ([([(2, 1), (9, (-1))], 0), ([(2, (-1)), (9, 1)], 0), ([(1, 1)], (-1)), ([(1, (-1))], 1)], ([], ([(1170, none), (1171, none), (1172, none), (1173, none), (1174, none), (1175, none), (1176, none), (1177, none)], none)))))))
theorem rk_gFf0 : RuOk SR ru_gFf0 := by
  intro τ m g hi hc ha hS
  obtain ⟨i0, i1, i2, i3, i4, i5, i6, i7, i8, i9, i10, i11, i12, i13, _⟩ := hi
  have t1199 : τ 1199 = some (g 0) := i0
  have t1170 : τ 1170 = some (g 1) := i1
  have t1171 : τ 1171 = some (g 2) := i2
  have t1172 : τ 1172 = some (g 3) := i3
  have t1173 : τ 1173 = some (g 4) := i4
  have t1174 : τ 1174 = some (g 5) := i5
  have t1175 : τ 1175 = some (g 6) := i6
  have t1176 : τ 1176 = some (g 7) := i7
  have t1177 : τ 1177 = some (g 8) := i8
  have t1120 : τ 1120 = some (g 9) := i9
  have t1123 : τ 1123 = some (g 10) := i10
  have t1124 : τ 1124 = some (g 11) := i11
  have t1121 : τ 1121 = some (g 12) := i12
  obtain ⟨jpa, upa, vpa⟩ : ∃ j : Nat, g 6 = (j : Int) ∧ g 13 = m 145 j := i13
  obtain ⟨c0, c1, c2, c3, c4, c5, c6, c7, c8, _⟩ := hc
  have c0 : (-1) * g 9 + 1 * g 10 ≤ 0 := d2 c0
  have c1 : 1 * g 9 + (-1) * g 10 ≤ 0 := d2 c1
  have c2 : 1 * g 3 + (-1) * g 9 ≤ 0 := d2 c2
  have c3 : (-1) * g 3 + 1 * g 9 ≤ 0 := d2 c3
  have c4 : 1 * g 4 ≤ 0 := d1 c4
  have c5 : (-1) * g 4 ≤ 0 := d1 c5
  have c6 : (-1) * g 11 ≤ (-1) := d1 c6
  have c7 : 1 * g 11 ≤ 1 := d1 c7
  have c8 : 1 * g 13 ≤ 0 := d1 c8
  obtain ⟨a0, a1, a2, a3, a4, a5, _⟩ := ha
  have n1178 : τ 1178 = none := a0
  have n1179 : τ 1179 = none := a1
  have n1180 : τ 1180 = none := a2
  have n1181 : τ 1181 = none := a3
  have n1182 : τ 1182 = none := a4
  have n1155 : τ 1155 = none := a5
  obtain ⟨h0, k_tok, k_sc1, k_sc2, k_T, k_I, k_F, k_N, k_Y, k_Z, k_A, k_B, k_C, k_X, k_R, k_f4⟩ := hS (by rw [t1199]; exact fun e => by cases e)
  have k_T0 := k_T
  obtain ⟨h_T, h_TN, h_QZ⟩ := k_T0
  have k_I0 := k_I
  obtain ⟨h_p, h_pc, h_ip, h_iP, h_PC, h_PN⟩ := k_I0
  have k_X0 := k_X
  obtain ⟨h_X0a, h_X0, h_X, h_Xe⟩ := k_X0
  have hXL : ((tx9 m).2 : Int) = m 110 1 := by
    show (((m 110 1).toNat : Nat) : Int) = _
    omega
  have hX := h_X _ _ _ _ _ _ _ _ t1170 t1171 t1172 t1173 t1174 t1175 t1176 t1177
  rw [n1178, n1179, n1180, n1181, n1182] at hX
  obtain ⟨⟨⟨hp1, hp2⟩, hws⟩, ⟨ho0, hv0, hvp, hd0, hd20⟩, ⟨hb0, hbv⟩, hdd⟩ := XB_n hX.1
  have hcc := h_pc _ _ t1123 t1124
  rw [show (g 10).toNat = (g 3).toNat by omega] at hcc
  have hN := h_TN _ _ t1120 t1121
  rw [show (g 9).toNat = (g 3).toNat by omega] at hN
  rw [show jpa = (g 6).toNat by omega] at vpa
  have hk : ((KT9 (tx9 m)).c (g 3).toNat) = 18 ∨ ((KT9 (tx9 m)).c (g 3).toNat) = 19 ∨ ((KT9 (tx9 m)).c (g 3).toNat) = 20 := (kq (a := 1) (b := 1) (fun k => k = 18 ∨ k = 19 ∨ k = 20) (by decide) (by omega) (by omega))
  obtain ⟨y1, y2⟩ := X_gf hX (by omega) (by omega) (by omega) (by omega) (by omega) (by omega) (by omega) (by omega)
  exact ⟨rfl, ⟨f2 (by omega), f2 (by omega), f1 (by omega), f1 (by omega), trivial⟩, trivial, fun _ => ⟨h0, k_tok, k_sc1, k_sc2, k_T, k_I, k_F, k_N, k_Y, k_Z, k_A, k_B, k_C, ⟨fun _ _ e0 e1 => no9 (o := none) rfl e0, fun _ _ _ e0 e1 e2 => no9 (o := none) rfl e0, fun _ _ _ _ _ _ _ _ e0 e1 e2 e3 e4 e5 e6 e7 => no9 (o := none) rfl e0, fun _ _ _ e0 e1 e2 => no9 (o := none) rfl e1⟩, k_R, k_f4⟩⟩
noncomputable def ru_gEn0 : Ru := ([(0, (1199, (0, (0, 0)))), (0, (1170, (0, (0, 0)))), (0, (1171, (0, (0, 0)))), (0, (1172, (0, (0, 0)))), (0, (1173, (0, (0, 0)))), (0, (1174, (0, (0, 0)))), (0, (1175, (0, (0, 0)))), (0, (1176, (0, (0, 0)))), (0, (1177, (0, (0, 0)))), (0, (1120, (0, (0, 0)))), (0, (1123, (0, (0, 0)))), (0, (1124, (0, (0, 0)))), (0, (1121, (0, (0, 0)))), (6, (145, (6, (0, 0))))], ([1178, 1179, 1180, 1181, 1182, 1155], ([([(9, (-1)), (10, 1)], 0), ([(9, 1), (10, (-1))], 0), ([(3, 1), (9, (-1))], 0), ([(3, (-1)), (9, 1)], 0), ([(4, 1)], 0), ([(4, (-1))], 0), ([(11, (-1))], (-1)), ([(11, 1)], 1), ([(6, 1)], 0), ([(6, (-1))], 0), ([(13, (-1))], (-1))], (false, ([([(1, 1), (9, (-1))], 0), ([(1, (-1)), (9, 1)], 0), ([(2, 1)], (-1)), ([(2, (-1))], 1)], ([], ([(1170, none), (1171, none), (1172, none), (1173, none), (1174, none), (1175, none), (1176, none), (1177, none)], none)))))))
theorem rk_gEn0 : RuOk SR ru_gEn0 := by
  intro τ m g hi hc ha hS
  obtain ⟨i0, i1, i2, i3, i4, i5, i6, i7, i8, i9, i10, i11, i12, i13, _⟩ := hi
  have t1199 : τ 1199 = some (g 0) := i0
  have t1170 : τ 1170 = some (g 1) := i1
  have t1171 : τ 1171 = some (g 2) := i2
  have t1172 : τ 1172 = some (g 3) := i3
  have t1173 : τ 1173 = some (g 4) := i4
  have t1174 : τ 1174 = some (g 5) := i5
  have t1175 : τ 1175 = some (g 6) := i6
  have t1176 : τ 1176 = some (g 7) := i7
  have t1177 : τ 1177 = some (g 8) := i8
  have t1120 : τ 1120 = some (g 9) := i9
  have t1123 : τ 1123 = some (g 10) := i10
  have t1124 : τ 1124 = some (g 11) := i11
  have t1121 : τ 1121 = some (g 12) := i12
  obtain ⟨jpa, upa, vpa⟩ : ∃ j : Nat, g 6 = (j : Int) ∧ g 13 = m 145 j := i13
  obtain ⟨c0, c1, c2, c3, c4, c5, c6, c7, c8, c9, c10, _⟩ := hc
  have c0 : (-1) * g 9 + 1 * g 10 ≤ 0 := d2 c0
  have c1 : 1 * g 9 + (-1) * g 10 ≤ 0 := d2 c1
  have c2 : 1 * g 3 + (-1) * g 9 ≤ 0 := d2 c2
  have c3 : (-1) * g 3 + 1 * g 9 ≤ 0 := d2 c3
  have c4 : 1 * g 4 ≤ 0 := d1 c4
  have c5 : (-1) * g 4 ≤ 0 := d1 c5
  have c6 : (-1) * g 11 ≤ (-1) := d1 c6
  have c7 : 1 * g 11 ≤ 1 := d1 c7
  have c8 : 1 * g 6 ≤ 0 := d1 c8
  have c9 : (-1) * g 6 ≤ 0 := d1 c9
  have c10 : (-1) * g 13 ≤ (-1) := d1 c10
  obtain ⟨a0, a1, a2, a3, a4, a5, _⟩ := ha
  have n1178 : τ 1178 = none := a0
  have n1179 : τ 1179 = none := a1
  have n1180 : τ 1180 = none := a2
  have n1181 : τ 1181 = none := a3
  have n1182 : τ 1182 = none := a4
  have n1155 : τ 1155 = none := a5
  obtain ⟨h0, k_tok, k_sc1, k_sc2, k_T, k_I, k_F, k_N, k_Y, k_Z, k_A, k_B, k_C, k_X, k_R, k_f4⟩ := hS (by rw [t1199]; exact fun e => by cases e)
  have k_T0 := k_T
  obtain ⟨h_T, h_TN, h_QZ⟩ := k_T0
  have k_I0 := k_I
  obtain ⟨h_p, h_pc, h_ip, h_iP, h_PC, h_PN⟩ := k_I0
  have k_X0 := k_X
  obtain ⟨h_X0a, h_X0, h_X, h_Xe⟩ := k_X0
  have hXL : ((tx9 m).2 : Int) = m 110 1 := by
    show (((m 110 1).toNat : Nat) : Int) = _
    omega
  have hX := h_X _ _ _ _ _ _ _ _ t1170 t1171 t1172 t1173 t1174 t1175 t1176 t1177
  rw [n1178, n1179, n1180, n1181, n1182] at hX
  obtain ⟨⟨⟨hp1, hp2⟩, hws⟩, ⟨ho0, hv0, hvp, hd0, hd20⟩, ⟨hb0, hbv⟩, hdd⟩ := XB_n hX.1
  have hcc := h_pc _ _ t1123 t1124
  rw [show (g 10).toNat = (g 3).toNat by omega] at hcc
  have hN := h_TN _ _ t1120 t1121
  rw [show (g 9).toNat = (g 3).toNat by omega] at hN
  rw [show jpa = (g 6).toNat by omega] at vpa
  obtain ⟨y1, y2⟩ := X_en hX (by omega) (kq (a := 1) (b := 1) (fun k => k = 18 ∨ k = 19 ∨ k = 20) (by decide) (by omega) (by omega)) (by omega) (by omega)
  exact ⟨rfl, ⟨f2 (by omega), f2 (by omega), f1 (by omega), f1 (by omega), trivial⟩, trivial, fun _ => ⟨h0, k_tok, k_sc1, k_sc2, k_T, k_I, k_F, k_N, k_Y, k_Z, k_A, k_B, k_C, ⟨fun _ _ e0 e1 => no9 (o := none) rfl e0, fun _ _ _ e0 e1 e2 => no9 (o := none) rfl e0, fun _ _ _ _ _ _ _ _ e0 e1 e2 e3 e4 e5 e6 e7 => no9 (o := none) rfl e0, fun _ _ _ e0 e1 e2 => no9 (o := none) rfl e1⟩, k_R, k_f4⟩⟩
noncomputable def ru_gFe1 : Ru := ([(0, (1199, (0, (0, 0)))), (0, (1170, (0, (0, 0)))), (0, (1171, (0, (0, 0)))), (0, (1172, (0, (0, 0)))), (0, (1173, (0, (0, 0)))), (0, (1174, (0, (0, 0)))), (0, (1175, (0, (0, 0)))), (0, (1176, (0, (0, 0)))), (0, (1177, (0, (0, 0)))), (0, (1120, (0, (0, 0)))), (0, (1123, (0, (0, 0)))), (0, (1124, (0, (0, 0)))), (0, (1121, (0, (0, 0))))], ([1178, 1179, 1180, 1181, 1182, 1155], ([([(9, (-1)), (10, 1)], 0), ([(9, 1), (10, (-1))], 0), ([(3, 1), (9, (-1))], 0), ([(3, (-1)), (9, 1)], 0), ([(4, 1)], 0), ([(4, (-1))], 0), ([(11, (-1))], (-19)), ([(11, 1)], 19), ([(6, (-1))], (-1))], (false, ([([(2, 1), (9, (-1))], 0), ([(2, (-1)), (9, 1)], 0), ([(1, 1)], (-1)), ([(1, (-1))], 1)], ([], ([(1170, none), (1171, none), (1172, none), (1173, none), (1174, none), (1175, none), (1176, none), (1177, none)], none)))))))
theorem rk_gFe1 : RuOk SR ru_gFe1 := by
  intro τ m g hi hc ha hS
  obtain ⟨i0, i1, i2, i3, i4, i5, i6, i7, i8, i9, i10, i11, i12, _⟩ := hi
  have t1199 : τ 1199 = some (g 0) := i0
  have t1170 : τ 1170 = some (g 1) := i1
  have t1171 : τ 1171 = some (g 2) := i2
  have t1172 : τ 1172 = some (g 3) := i3
  have t1173 : τ 1173 = some (g 4) := i4
  have t1174 : τ 1174 = some (g 5) := i5
  have t1175 : τ 1175 = some (g 6) := i6
  have t1176 : τ 1176 = some (g 7) := i7
  have t1177 : τ 1177 = some (g 8) := i8
  have t1120 : τ 1120 = some (g 9) := i9
  have t1123 : τ 1123 = some (g 10) := i10
  have t1124 : τ 1124 = some (g 11) := i11
  have t1121 : τ 1121 = some (g 12) := i12
  obtain ⟨c0, c1, c2, c3, c4, c5, c6, c7, c8, _⟩ := hc
  have c0 : (-1) * g 9 + 1 * g 10 ≤ 0 := d2 c0
  have c1 : 1 * g 9 + (-1) * g 10 ≤ 0 := d2 c1
  have c2 : 1 * g 3 + (-1) * g 9 ≤ 0 := d2 c2
  have c3 : (-1) * g 3 + 1 * g 9 ≤ 0 := d2 c3
  have c4 : 1 * g 4 ≤ 0 := d1 c4
  have c5 : (-1) * g 4 ≤ 0 := d1 c5
  have c6 : (-1) * g 11 ≤ (-19) := d1 c6
  have c7 : 1 * g 11 ≤ 19 := d1 c7
  have c8 : (-1) * g 6 ≤ (-1) := d1 c8
  obtain ⟨a0, a1, a2, a3, a4, a5, _⟩ := ha
  have n1178 : τ 1178 = none := a0
  have n1179 : τ 1179 = none := a1
  have n1180 : τ 1180 = none := a2
  have n1181 : τ 1181 = none := a3
  have n1182 : τ 1182 = none := a4
  have n1155 : τ 1155 = none := a5
  obtain ⟨h0, k_tok, k_sc1, k_sc2, k_T, k_I, k_F, k_N, k_Y, k_Z, k_A, k_B, k_C, k_X, k_R, k_f4⟩ := hS (by rw [t1199]; exact fun e => by cases e)
  have k_T0 := k_T
  obtain ⟨h_T, h_TN, h_QZ⟩ := k_T0
  have k_I0 := k_I
  obtain ⟨h_p, h_pc, h_ip, h_iP, h_PC, h_PN⟩ := k_I0
  have k_X0 := k_X
  obtain ⟨h_X0a, h_X0, h_X, h_Xe⟩ := k_X0
  have hXL : ((tx9 m).2 : Int) = m 110 1 := by
    show (((m 110 1).toNat : Nat) : Int) = _
    omega
  have hX := h_X _ _ _ _ _ _ _ _ t1170 t1171 t1172 t1173 t1174 t1175 t1176 t1177
  rw [n1178, n1179, n1180, n1181, n1182] at hX
  obtain ⟨⟨⟨hp1, hp2⟩, hws⟩, ⟨ho0, hv0, hvp, hd0, hd20⟩, ⟨hb0, hbv⟩, hdd⟩ := XB_n hX.1
  have hcc := h_pc _ _ t1123 t1124
  rw [show (g 10).toNat = (g 3).toNat by omega] at hcc
  have hN := h_TN _ _ t1120 t1121
  rw [show (g 9).toNat = (g 3).toNat by omega] at hN
  have hk : ((KT9 (tx9 m)).c (g 3).toNat) = 18 ∨ ((KT9 (tx9 m)).c (g 3).toNat) = 19 ∨ ((KT9 (tx9 m)).c (g 3).toNat) = 20 := (kq (a := 19) (b := 19) (fun k => k = 18 ∨ k = 19 ∨ k = 20) (by decide) (by omega) (by omega))
  obtain ⟨y1, y2⟩ := X_gf hX (by omega) (by omega) (by omega) (by omega) (by omega) (by omega) (by omega) (by omega)
  exact ⟨rfl, ⟨f2 (by omega), f2 (by omega), f1 (by omega), f1 (by omega), trivial⟩, trivial, fun _ => ⟨h0, k_tok, k_sc1, k_sc2, k_T, k_I, k_F, k_N, k_Y, k_Z, k_A, k_B, k_C, ⟨fun _ _ e0 e1 => no9 (o := none) rfl e0, fun _ _ _ e0 e1 e2 => no9 (o := none) rfl e0, fun _ _ _ _ _ _ _ _ e0 e1 e2 e3 e4 e5 e6 e7 => no9 (o := none) rfl e0, fun _ _ _ e0 e1 e2 => no9 (o := none) rfl e1⟩, k_R, k_f4⟩⟩
noncomputable def ru_gFf1 : Ru := ([(0, (1199, (0, (0, 0)))), (0, (1170, (0, (0, 0)))), (0, (1171, (0, (0, 0)))), (0, (1172, (0, (0, 0)))), (0, (1173, (0, (0, 0)))), (0, (1174, (0, (0, 0)))), (0, (1175, (0, (0, 0)))), (0, (1176, (0, (0, 0)))), (0, (1177, (0, (0, 0)))), (0, (1120, (0, (0, 0)))), (0, (1123, (0, (0, 0)))), (0, (1124, (0, (0, 0)))), (0, (1121, (0, (0, 0)))), (6, (145, (6, (0, 0))))], ([1178, 1179, 1180, 1181, 1182, 1155], ([([(9, (-1)), (10, 1)], 0), ([(9, 1), (10, (-1))], 0), ([(3, 1), (9, (-1))], 0), ([(3, (-1)), (9, 1)], 0), ([(4, 1)], 0), ([(4, (-1))], 0), ([(11, (-1))], (-19)), ([(11, 1)], 19), ([(13, 1)], 0)], (false, ([([(2, 1), (9, (-1))], 0), ([(2, (-1)), (9, 1)], 0), ([(1, 1)], (-1)), ([(1, (-1))], 1)], ([], ([(1170, none), (1171, none), (1172, none), (1173, none), (1174, none), (1175, none), (1176, none), (1177, none)], none)))))))
theorem rk_gFf1 : RuOk SR ru_gFf1 := by
  intro τ m g hi hc ha hS
  obtain ⟨i0, i1, i2, i3, i4, i5, i6, i7, i8, i9, i10, i11, i12, i13, _⟩ := hi
  have t1199 : τ 1199 = some (g 0) := i0
  have t1170 : τ 1170 = some (g 1) := i1
  have t1171 : τ 1171 = some (g 2) := i2
  have t1172 : τ 1172 = some (g 3) := i3
  have t1173 : τ 1173 = some (g 4) := i4
  have t1174 : τ 1174 = some (g 5) := i5
  have t1175 : τ 1175 = some (g 6) := i6
  have t1176 : τ 1176 = some (g 7) := i7
  have t1177 : τ 1177 = some (g 8) := i8
  have t1120 : τ 1120 = some (g 9) := i9
  have t1123 : τ 1123 = some (g 10) := i10
  have t1124 : τ 1124 = some (g 11) := i11
  have t1121 : τ 1121 = some (g 12) := i12
  obtain ⟨jpa, upa, vpa⟩ : ∃ j : Nat, g 6 = (j : Int) ∧ g 13 = m 145 j := i13
  obtain ⟨c0, c1, c2, c3, c4, c5, c6, c7, c8, _⟩ := hc
  have c0 : (-1) * g 9 + 1 * g 10 ≤ 0 := d2 c0
  have c1 : 1 * g 9 + (-1) * g 10 ≤ 0 := d2 c1
  have c2 : 1 * g 3 + (-1) * g 9 ≤ 0 := d2 c2
  have c3 : (-1) * g 3 + 1 * g 9 ≤ 0 := d2 c3
  have c4 : 1 * g 4 ≤ 0 := d1 c4
  have c5 : (-1) * g 4 ≤ 0 := d1 c5
  have c6 : (-1) * g 11 ≤ (-19) := d1 c6
  have c7 : 1 * g 11 ≤ 19 := d1 c7
  have c8 : 1 * g 13 ≤ 0 := d1 c8
  obtain ⟨a0, a1, a2, a3, a4, a5, _⟩ := ha
  have n1178 : τ 1178 = none := a0
  have n1179 : τ 1179 = none := a1
  have n1180 : τ 1180 = none := a2
  have n1181 : τ 1181 = none := a3
  have n1182 : τ 1182 = none := a4
  have n1155 : τ 1155 = none := a5
  obtain ⟨h0, k_tok, k_sc1, k_sc2, k_T, k_I, k_F, k_N, k_Y, k_Z, k_A, k_B, k_C, k_X, k_R, k_f4⟩ := hS (by rw [t1199]; exact fun e => by cases e)
  have k_T0 := k_T
  obtain ⟨h_T, h_TN, h_QZ⟩ := k_T0
  have k_I0 := k_I
  obtain ⟨h_p, h_pc, h_ip, h_iP, h_PC, h_PN⟩ := k_I0
  have k_X0 := k_X
  obtain ⟨h_X0a, h_X0, h_X, h_Xe⟩ := k_X0
  have hXL : ((tx9 m).2 : Int) = m 110 1 := by
    show (((m 110 1).toNat : Nat) : Int) = _
    omega
  have hX := h_X _ _ _ _ _ _ _ _ t1170 t1171 t1172 t1173 t1174 t1175 t1176 t1177
  rw [n1178, n1179, n1180, n1181, n1182] at hX
  obtain ⟨⟨⟨hp1, hp2⟩, hws⟩, ⟨ho0, hv0, hvp, hd0, hd20⟩, ⟨hb0, hbv⟩, hdd⟩ := XB_n hX.1
  have hcc := h_pc _ _ t1123 t1124
  rw [show (g 10).toNat = (g 3).toNat by omega] at hcc
  have hN := h_TN _ _ t1120 t1121
  rw [show (g 9).toNat = (g 3).toNat by omega] at hN
  rw [show jpa = (g 6).toNat by omega] at vpa
  have hk : ((KT9 (tx9 m)).c (g 3).toNat) = 18 ∨ ((KT9 (tx9 m)).c (g 3).toNat) = 19 ∨ ((KT9 (tx9 m)).c (g 3).toNat) = 20 := (kq (a := 19) (b := 19) (fun k => k = 18 ∨ k = 19 ∨ k = 20) (by decide) (by omega) (by omega))
  obtain ⟨y1, y2⟩ := X_gf hX (by omega) (by omega) (by omega) (by omega) (by omega) (by omega) (by omega) (by omega)
  exact ⟨rfl, ⟨f2 (by omega), f2 (by omega), f1 (by omega), f1 (by omega), trivial⟩, trivial, fun _ => ⟨h0, k_tok, k_sc1, k_sc2, k_T, k_I, k_F, k_N, k_Y, k_Z, k_A, k_B, k_C, ⟨fun _ _ e0 e1 => no9 (o := none) rfl e0, fun _ _ _ e0 e1 e2 => no9 (o := none) rfl e0, fun _ _ _ _ _ _ _ _ e0 e1 e2 e3 e4 e5 e6 e7 => no9 (o := none) rfl e0, fun _ _ _ e0 e1 e2 => no9 (o := none) rfl e1⟩, k_R, k_f4⟩⟩
noncomputable def ru_gEn1 : Ru := ([(0, (1199, (0, (0, 0)))), (0, (1170, (0, (0, 0)))), (0, (1171, (0, (0, 0)))), (0, (1172, (0, (0, 0)))), (0, (1173, (0, (0, 0)))), (0, (1174, (0, (0, 0)))), (0, (1175, (0, (0, 0)))), (0, (1176, (0, (0, 0)))), (0, (1177, (0, (0, 0)))), (0, (1120, (0, (0, 0)))), (0, (1123, (0, (0, 0)))), (0, (1124, (0, (0, 0)))), (0, (1121, (0, (0, 0)))), (6, (145, (6, (0, 0))))], ([1178, 1179, 1180, 1181, 1182, 1155], ([([(9, (-1)), (10, 1)], 0), ([(9, 1), (10, (-1))], 0), ([(3, 1), (9, (-1))], 0), ([(3, (-1)), (9, 1)], 0), ([(4, 1)], 0), ([(4, (-1))], 0), ([(11, (-1))], (-19)), ([(11, 1)], 19), ([(6, 1)], 0), ([(6, (-1))], 0), ([(13, (-1))], (-1))], (false, ([([(1, 1), (9, (-1))], 0), ([(1, (-1)), (9, 1)], 0), ([(2, 1)], (-1)), ([(2, (-1))], 1)], ([], ([(1170, none), (1171, none), (1172, none), (1173, none), (1174, none), (1175, none), (1176, none), (1177, none)], none)))))))
theorem rk_gEn1 : RuOk SR ru_gEn1 := by
  intro τ m g hi hc ha hS
  obtain ⟨i0, i1, i2, i3, i4, i5, i6, i7, i8, i9, i10, i11, i12, i13, _⟩ := hi
  have t1199 : τ 1199 = some (g 0) := i0
  have t1170 : τ 1170 = some (g 1) := i1
  have t1171 : τ 1171 = some (g 2) := i2
  have t1172 : τ 1172 = some (g 3) := i3
  have t1173 : τ 1173 = some (g 4) := i4
  have t1174 : τ 1174 = some (g 5) := i5
  have t1175 : τ 1175 = some (g 6) := i6
  have t1176 : τ 1176 = some (g 7) := i7
  have t1177 : τ 1177 = some (g 8) := i8
  have t1120 : τ 1120 = some (g 9) := i9
  have t1123 : τ 1123 = some (g 10) := i10
  have t1124 : τ 1124 = some (g 11) := i11
  have t1121 : τ 1121 = some (g 12) := i12
  obtain ⟨jpa, upa, vpa⟩ : ∃ j : Nat, g 6 = (j : Int) ∧ g 13 = m 145 j := i13
  obtain ⟨c0, c1, c2, c3, c4, c5, c6, c7, c8, c9, c10, _⟩ := hc
  have c0 : (-1) * g 9 + 1 * g 10 ≤ 0 := d2 c0
  have c1 : 1 * g 9 + (-1) * g 10 ≤ 0 := d2 c1
  have c2 : 1 * g 3 + (-1) * g 9 ≤ 0 := d2 c2
  have c3 : (-1) * g 3 + 1 * g 9 ≤ 0 := d2 c3
  have c4 : 1 * g 4 ≤ 0 := d1 c4
  have c5 : (-1) * g 4 ≤ 0 := d1 c5
  have c6 : (-1) * g 11 ≤ (-19) := d1 c6
  have c7 : 1 * g 11 ≤ 19 := d1 c7
  have c8 : 1 * g 6 ≤ 0 := d1 c8
  have c9 : (-1) * g 6 ≤ 0 := d1 c9
  have c10 : (-1) * g 13 ≤ (-1) := d1 c10
  obtain ⟨a0, a1, a2, a3, a4, a5, _⟩ := ha
  have n1178 : τ 1178 = none := a0
  have n1179 : τ 1179 = none := a1
  have n1180 : τ 1180 = none := a2
  have n1181 : τ 1181 = none := a3
  have n1182 : τ 1182 = none := a4
  have n1155 : τ 1155 = none := a5
  obtain ⟨h0, k_tok, k_sc1, k_sc2, k_T, k_I, k_F, k_N, k_Y, k_Z, k_A, k_B, k_C, k_X, k_R, k_f4⟩ := hS (by rw [t1199]; exact fun e => by cases e)
  have k_T0 := k_T
  obtain ⟨h_T, h_TN, h_QZ⟩ := k_T0
  have k_I0 := k_I
  obtain ⟨h_p, h_pc, h_ip, h_iP, h_PC, h_PN⟩ := k_I0
  have k_X0 := k_X
  obtain ⟨h_X0a, h_X0, h_X, h_Xe⟩ := k_X0
  have hXL : ((tx9 m).2 : Int) = m 110 1 := by
    show (((m 110 1).toNat : Nat) : Int) = _
    omega
  have hX := h_X _ _ _ _ _ _ _ _ t1170 t1171 t1172 t1173 t1174 t1175 t1176 t1177
  rw [n1178, n1179, n1180, n1181, n1182] at hX
  obtain ⟨⟨⟨hp1, hp2⟩, hws⟩, ⟨ho0, hv0, hvp, hd0, hd20⟩, ⟨hb0, hbv⟩, hdd⟩ := XB_n hX.1
  have hcc := h_pc _ _ t1123 t1124
  rw [show (g 10).toNat = (g 3).toNat by omega] at hcc
  have hN := h_TN _ _ t1120 t1121
  rw [show (g 9).toNat = (g 3).toNat by omega] at hN
  rw [show jpa = (g 6).toNat by omega] at vpa
  obtain ⟨y1, y2⟩ := X_en hX (by omega) (kq (a := 19) (b := 19) (fun k => k = 18 ∨ k = 19 ∨ k = 20) (by decide) (by omega) (by omega)) (by omega) (by omega)
  exact ⟨rfl, ⟨f2 (by omega), f2 (by omega), f1 (by omega), f1 (by omega), trivial⟩, trivial, fun _ => ⟨h0, k_tok, k_sc1, k_sc2, k_T, k_I, k_F, k_N, k_Y, k_Z, k_A, k_B, k_C, ⟨fun _ _ e0 e1 => no9 (o := none) rfl e0, fun _ _ _ e0 e1 e2 => no9 (o := none) rfl e0, fun _ _ _ _ _ _ _ _ e0 e1 e2 e3 e4 e5 e6 e7 => no9 (o := none) rfl e0, fun _ _ _ e0 e1 e2 => no9 (o := none) rfl e1⟩, k_R, k_f4⟩⟩
noncomputable def ru_gFe2 : Ru := ([(0, (1199, (0, (0, 0)))), (0, (1170, (0, (0, 0)))), (0, (1171, (0, (0, 0)))), (0, (1172, (0, (0, 0)))), (0, (1173, (0, (0, 0)))), (0, (1174, (0, (0, 0)))), (0, (1175, (0, (0, 0)))), (0, (1176, (0, (0, 0)))), (0, (1177, (0, (0, 0)))), (0, (1120, (0, (0, 0)))), (0, (1123, (0, (0, 0)))), (0, (1124, (0, (0, 0)))), (0, (1121, (0, (0, 0))))], ([1178, 1179, 1180, 1181, 1182, 1155], ([([(9, (-1)), (10, 1)], 0), ([(9, 1), (10, (-1))], 0), ([(3, 1), (9, (-1))], 0), ([(3, (-1)), (9, 1)], 0), ([(4, 1)], 0), ([(4, (-1))], 0), ([(11, (-1))], (-32)), ([(11, 1)], 32), ([(6, (-1))], (-1))], (false, ([([(2, 1), (9, (-1))], 0), ([(2, (-1)), (9, 1)], 0), ([(1, 1)], (-1)), ([(1, (-1))], 1)], ([], ([(1170, none), (1171, none), (1172, none), (1173, none), (1174, none), (1175, none), (1176, none), (1177, none)], none)))))))
theorem rk_gFe2 : RuOk SR ru_gFe2 := by
  intro τ m g hi hc ha hS
  obtain ⟨i0, i1, i2, i3, i4, i5, i6, i7, i8, i9, i10, i11, i12, _⟩ := hi
  have t1199 : τ 1199 = some (g 0) := i0
  have t1170 : τ 1170 = some (g 1) := i1
  have t1171 : τ 1171 = some (g 2) := i2
  have t1172 : τ 1172 = some (g 3) := i3
  have t1173 : τ 1173 = some (g 4) := i4
  have t1174 : τ 1174 = some (g 5) := i5
  have t1175 : τ 1175 = some (g 6) := i6
  have t1176 : τ 1176 = some (g 7) := i7
  have t1177 : τ 1177 = some (g 8) := i8
  have t1120 : τ 1120 = some (g 9) := i9
  have t1123 : τ 1123 = some (g 10) := i10
  have t1124 : τ 1124 = some (g 11) := i11
  have t1121 : τ 1121 = some (g 12) := i12
  obtain ⟨c0, c1, c2, c3, c4, c5, c6, c7, c8, _⟩ := hc
  have c0 : (-1) * g 9 + 1 * g 10 ≤ 0 := d2 c0
  have c1 : 1 * g 9 + (-1) * g 10 ≤ 0 := d2 c1
  have c2 : 1 * g 3 + (-1) * g 9 ≤ 0 := d2 c2
  have c3 : (-1) * g 3 + 1 * g 9 ≤ 0 := d2 c3
  have c4 : 1 * g 4 ≤ 0 := d1 c4
  have c5 : (-1) * g 4 ≤ 0 := d1 c5
  have c6 : (-1) * g 11 ≤ (-32) := d1 c6
  have c7 : 1 * g 11 ≤ 32 := d1 c7
  have c8 : (-1) * g 6 ≤ (-1) := d1 c8
  obtain ⟨a0, a1, a2, a3, a4, a5, _⟩ := ha
  have n1178 : τ 1178 = none := a0
  have n1179 : τ 1179 = none := a1
  have n1180 : τ 1180 = none := a2
  have n1181 : τ 1181 = none := a3
  have n1182 : τ 1182 = none := a4
  have n1155 : τ 1155 = none := a5
  obtain ⟨h0, k_tok, k_sc1, k_sc2, k_T, k_I, k_F, k_N, k_Y, k_Z, k_A, k_B, k_C, k_X, k_R, k_f4⟩ := hS (by rw [t1199]; exact fun e => by cases e)
  have k_T0 := k_T
  obtain ⟨h_T, h_TN, h_QZ⟩ := k_T0
  have k_I0 := k_I
  obtain ⟨h_p, h_pc, h_ip, h_iP, h_PC, h_PN⟩ := k_I0
  have k_X0 := k_X
  obtain ⟨h_X0a, h_X0, h_X, h_Xe⟩ := k_X0
  have hXL : ((tx9 m).2 : Int) = m 110 1 := by
    show (((m 110 1).toNat : Nat) : Int) = _
    omega
  have hX := h_X _ _ _ _ _ _ _ _ t1170 t1171 t1172 t1173 t1174 t1175 t1176 t1177
  rw [n1178, n1179, n1180, n1181, n1182] at hX
  obtain ⟨⟨⟨hp1, hp2⟩, hws⟩, ⟨ho0, hv0, hvp, hd0, hd20⟩, ⟨hb0, hbv⟩, hdd⟩ := XB_n hX.1
  have hcc := h_pc _ _ t1123 t1124
  rw [show (g 10).toNat = (g 3).toNat by omega] at hcc
  have hN := h_TN _ _ t1120 t1121
  rw [show (g 9).toNat = (g 3).toNat by omega] at hN
  have hk : ((KT9 (tx9 m)).c (g 3).toNat) = 18 ∨ ((KT9 (tx9 m)).c (g 3).toNat) = 19 ∨ ((KT9 (tx9 m)).c (g 3).toNat) = 20 := (kq (a := 32) (b := 32) (fun k => k = 18 ∨ k = 19 ∨ k = 20) (by decide) (by omega) (by omega))
  obtain ⟨y1, y2⟩ := X_gf hX (by omega) (by omega) (by omega) (by omega) (by omega) (by omega) (by omega) (by omega)
  exact ⟨rfl, ⟨f2 (by omega), f2 (by omega), f1 (by omega), f1 (by omega), trivial⟩, trivial, fun _ => ⟨h0, k_tok, k_sc1, k_sc2, k_T, k_I, k_F, k_N, k_Y, k_Z, k_A, k_B, k_C, ⟨fun _ _ e0 e1 => no9 (o := none) rfl e0, fun _ _ _ e0 e1 e2 => no9 (o := none) rfl e0, fun _ _ _ _ _ _ _ _ e0 e1 e2 e3 e4 e5 e6 e7 => no9 (o := none) rfl e0, fun _ _ _ e0 e1 e2 => no9 (o := none) rfl e1⟩, k_R, k_f4⟩⟩
noncomputable def ru_gFf2 : Ru := ([(0, (1199, (0, (0, 0)))), (0, (1170, (0, (0, 0)))), (0, (1171, (0, (0, 0)))), (0, (1172, (0, (0, 0)))), (0, (1173, (0, (0, 0)))), (0, (1174, (0, (0, 0)))), (0, (1175, (0, (0, 0)))), (0, (1176, (0, (0, 0)))), (0, (1177, (0, (0, 0)))), (0, (1120, (0, (0, 0)))), (0, (1123, (0, (0, 0)))), (0, (1124, (0, (0, 0)))), (0, (1121, (0, (0, 0)))), (6, (145, (6, (0, 0))))], ([1178, 1179, 1180, 1181, 1182, 1155], ([([(9, (-1)), (10, 1)], 0), ([(9, 1), (10, (-1))], 0), ([(3, 1), (9, (-1))], 0), ([(3, (-1)), (9, 1)], 0), ([(4, 1)], 0), ([(4, (-1))], 0), ([(11, (-1))], (-32)), ([(11, 1)], 32), ([(13, 1)], 0)], (false, ([([(2, 1), (9, (-1))], 0), ([(2, (-1)), (9, 1)], 0), ([(1, 1)], (-1)), ([(1, (-1))], 1)], ([], ([(1170, none), (1171, none), (1172, none), (1173, none), (1174, none), (1175, none), (1176, none), (1177, none)], none)))))))
theorem rk_gFf2 : RuOk SR ru_gFf2 := by
  intro τ m g hi hc ha hS
  obtain ⟨i0, i1, i2, i3, i4, i5, i6, i7, i8, i9, i10, i11, i12, i13, _⟩ := hi
  have t1199 : τ 1199 = some (g 0) := i0
  have t1170 : τ 1170 = some (g 1) := i1
  have t1171 : τ 1171 = some (g 2) := i2
  have t1172 : τ 1172 = some (g 3) := i3
  have t1173 : τ 1173 = some (g 4) := i4
  have t1174 : τ 1174 = some (g 5) := i5
  have t1175 : τ 1175 = some (g 6) := i6
  have t1176 : τ 1176 = some (g 7) := i7
  have t1177 : τ 1177 = some (g 8) := i8
  have t1120 : τ 1120 = some (g 9) := i9
  have t1123 : τ 1123 = some (g 10) := i10
  have t1124 : τ 1124 = some (g 11) := i11
  have t1121 : τ 1121 = some (g 12) := i12
  obtain ⟨jpa, upa, vpa⟩ : ∃ j : Nat, g 6 = (j : Int) ∧ g 13 = m 145 j := i13
  obtain ⟨c0, c1, c2, c3, c4, c5, c6, c7, c8, _⟩ := hc
  have c0 : (-1) * g 9 + 1 * g 10 ≤ 0 := d2 c0
  have c1 : 1 * g 9 + (-1) * g 10 ≤ 0 := d2 c1
  have c2 : 1 * g 3 + (-1) * g 9 ≤ 0 := d2 c2
  have c3 : (-1) * g 3 + 1 * g 9 ≤ 0 := d2 c3
  have c4 : 1 * g 4 ≤ 0 := d1 c4
  have c5 : (-1) * g 4 ≤ 0 := d1 c5
  have c6 : (-1) * g 11 ≤ (-32) := d1 c6
  have c7 : 1 * g 11 ≤ 32 := d1 c7
  have c8 : 1 * g 13 ≤ 0 := d1 c8
  obtain ⟨a0, a1, a2, a3, a4, a5, _⟩ := ha
  have n1178 : τ 1178 = none := a0
  have n1179 : τ 1179 = none := a1
  have n1180 : τ 1180 = none := a2
  have n1181 : τ 1181 = none := a3
  have n1182 : τ 1182 = none := a4
  have n1155 : τ 1155 = none := a5
  obtain ⟨h0, k_tok, k_sc1, k_sc2, k_T, k_I, k_F, k_N, k_Y, k_Z, k_A, k_B, k_C, k_X, k_R, k_f4⟩ := hS (by rw [t1199]; exact fun e => by cases e)
  have k_T0 := k_T
  obtain ⟨h_T, h_TN, h_QZ⟩ := k_T0
  have k_I0 := k_I
  obtain ⟨h_p, h_pc, h_ip, h_iP, h_PC, h_PN⟩ := k_I0
  have k_X0 := k_X
  obtain ⟨h_X0a, h_X0, h_X, h_Xe⟩ := k_X0
  have hXL : ((tx9 m).2 : Int) = m 110 1 := by
    show (((m 110 1).toNat : Nat) : Int) = _
    omega
  have hX := h_X _ _ _ _ _ _ _ _ t1170 t1171 t1172 t1173 t1174 t1175 t1176 t1177
  rw [n1178, n1179, n1180, n1181, n1182] at hX
  obtain ⟨⟨⟨hp1, hp2⟩, hws⟩, ⟨ho0, hv0, hvp, hd0, hd20⟩, ⟨hb0, hbv⟩, hdd⟩ := XB_n hX.1
  have hcc := h_pc _ _ t1123 t1124
  rw [show (g 10).toNat = (g 3).toNat by omega] at hcc
  have hN := h_TN _ _ t1120 t1121
  rw [show (g 9).toNat = (g 3).toNat by omega] at hN
  rw [show jpa = (g 6).toNat by omega] at vpa
  have hk : ((KT9 (tx9 m)).c (g 3).toNat) = 18 ∨ ((KT9 (tx9 m)).c (g 3).toNat) = 19 ∨ ((KT9 (tx9 m)).c (g 3).toNat) = 20 := (kq (a := 32) (b := 32) (fun k => k = 18 ∨ k = 19 ∨ k = 20) (by decide) (by omega) (by omega))
  obtain ⟨y1, y2⟩ := X_gf hX (by omega) (by omega) (by omega) (by omega) (by omega) (by omega) (by omega) (by omega)
  exact ⟨rfl, ⟨f2 (by omega), f2 (by omega), f1 (by omega), f1 (by omega), trivial⟩, trivial, fun _ => ⟨h0, k_tok, k_sc1, k_sc2, k_T, k_I, k_F, k_N, k_Y, k_Z, k_A, k_B, k_C, ⟨fun _ _ e0 e1 => no9 (o := none) rfl e0, fun _ _ _ e0 e1 e2 => no9 (o := none) rfl e0, fun _ _ _ _ _ _ _ _ e0 e1 e2 e3 e4 e5 e6 e7 => no9 (o := none) rfl e0, fun _ _ _ e0 e1 e2 => no9 (o := none) rfl e1⟩, k_R, k_f4⟩⟩
noncomputable def ru_gEn2 : Ru := ([(0, (1199, (0, (0, 0)))), (0, (1170, (0, (0, 0)))), (0, (1171, (0, (0, 0)))), (0, (1172, (0, (0, 0)))), (0, (1173, (0, (0, 0)))), (0, (1174, (0, (0, 0)))), (0, (1175, (0, (0, 0)))), (0, (1176, (0, (0, 0)))), (0, (1177, (0, (0, 0)))), (0, (1120, (0, (0, 0)))), (0, (1123, (0, (0, 0)))), (0, (1124, (0, (0, 0)))), (0, (1121, (0, (0, 0)))), (6, (145, (6, (0, 0))))], ([1178, 1179, 1180, 1181, 1182, 1155], ([([(9, (-1)), (10, 1)], 0), ([(9, 1), (10, (-1))], 0), ([(3, 1), (9, (-1))], 0), ([(3, (-1)), (9, 1)], 0), ([(4, 1)], 0), ([(4, (-1))], 0), ([(11, (-1))], (-32)), ([(11, 1)], 32), ([(6, 1)], 0), ([(6, (-1))], 0), ([(13, (-1))], (-1))], (false, ([([(1, 1), (9, (-1))], 0), ([(1, (-1)), (9, 1)], 0), ([(2, 1)], (-1)), ([(2, (-1))], 1)], ([], ([(1170, none), (1171, none), (1172, none), (1173, none), (1174, none), (1175, none), (1176, none), (1177, none)], none)))))))
theorem rk_gEn2 : RuOk SR ru_gEn2 := by
  intro τ m g hi hc ha hS
  obtain ⟨i0, i1, i2, i3, i4, i5, i6, i7, i8, i9, i10, i11, i12, i13, _⟩ := hi
  have t1199 : τ 1199 = some (g 0) := i0
  have t1170 : τ 1170 = some (g 1) := i1
  have t1171 : τ 1171 = some (g 2) := i2
  have t1172 : τ 1172 = some (g 3) := i3
  have t1173 : τ 1173 = some (g 4) := i4
  have t1174 : τ 1174 = some (g 5) := i5
  have t1175 : τ 1175 = some (g 6) := i6
  have t1176 : τ 1176 = some (g 7) := i7
  have t1177 : τ 1177 = some (g 8) := i8
  have t1120 : τ 1120 = some (g 9) := i9
  have t1123 : τ 1123 = some (g 10) := i10
  have t1124 : τ 1124 = some (g 11) := i11
  have t1121 : τ 1121 = some (g 12) := i12
  obtain ⟨jpa, upa, vpa⟩ : ∃ j : Nat, g 6 = (j : Int) ∧ g 13 = m 145 j := i13
  obtain ⟨c0, c1, c2, c3, c4, c5, c6, c7, c8, c9, c10, _⟩ := hc
  have c0 : (-1) * g 9 + 1 * g 10 ≤ 0 := d2 c0
  have c1 : 1 * g 9 + (-1) * g 10 ≤ 0 := d2 c1
  have c2 : 1 * g 3 + (-1) * g 9 ≤ 0 := d2 c2
  have c3 : (-1) * g 3 + 1 * g 9 ≤ 0 := d2 c3
  have c4 : 1 * g 4 ≤ 0 := d1 c4
  have c5 : (-1) * g 4 ≤ 0 := d1 c5
  have c6 : (-1) * g 11 ≤ (-32) := d1 c6
  have c7 : 1 * g 11 ≤ 32 := d1 c7
  have c8 : 1 * g 6 ≤ 0 := d1 c8
  have c9 : (-1) * g 6 ≤ 0 := d1 c9
  have c10 : (-1) * g 13 ≤ (-1) := d1 c10
  obtain ⟨a0, a1, a2, a3, a4, a5, _⟩ := ha
  have n1178 : τ 1178 = none := a0
  have n1179 : τ 1179 = none := a1
  have n1180 : τ 1180 = none := a2
  have n1181 : τ 1181 = none := a3
  have n1182 : τ 1182 = none := a4
  have n1155 : τ 1155 = none := a5
  obtain ⟨h0, k_tok, k_sc1, k_sc2, k_T, k_I, k_F, k_N, k_Y, k_Z, k_A, k_B, k_C, k_X, k_R, k_f4⟩ := hS (by rw [t1199]; exact fun e => by cases e)
  have k_T0 := k_T
  obtain ⟨h_T, h_TN, h_QZ⟩ := k_T0
  have k_I0 := k_I
  obtain ⟨h_p, h_pc, h_ip, h_iP, h_PC, h_PN⟩ := k_I0
  have k_X0 := k_X
  obtain ⟨h_X0a, h_X0, h_X, h_Xe⟩ := k_X0
  have hXL : ((tx9 m).2 : Int) = m 110 1 := by
    show (((m 110 1).toNat : Nat) : Int) = _
    omega
  have hX := h_X _ _ _ _ _ _ _ _ t1170 t1171 t1172 t1173 t1174 t1175 t1176 t1177
  rw [n1178, n1179, n1180, n1181, n1182] at hX
  obtain ⟨⟨⟨hp1, hp2⟩, hws⟩, ⟨ho0, hv0, hvp, hd0, hd20⟩, ⟨hb0, hbv⟩, hdd⟩ := XB_n hX.1
  have hcc := h_pc _ _ t1123 t1124
  rw [show (g 10).toNat = (g 3).toNat by omega] at hcc
  have hN := h_TN _ _ t1120 t1121
  rw [show (g 9).toNat = (g 3).toNat by omega] at hN
  rw [show jpa = (g 6).toNat by omega] at vpa
  obtain ⟨y1, y2⟩ := X_en hX (by omega) (kq (a := 32) (b := 32) (fun k => k = 18 ∨ k = 19 ∨ k = 20) (by decide) (by omega) (by omega)) (by omega) (by omega)
  exact ⟨rfl, ⟨f2 (by omega), f2 (by omega), f1 (by omega), f1 (by omega), trivial⟩, trivial, fun _ => ⟨h0, k_tok, k_sc1, k_sc2, k_T, k_I, k_F, k_N, k_Y, k_Z, k_A, k_B, k_C, ⟨fun _ _ e0 e1 => no9 (o := none) rfl e0, fun _ _ _ e0 e1 e2 => no9 (o := none) rfl e0, fun _ _ _ _ _ _ _ _ e0 e1 e2 e3 e4 e5 e6 e7 => no9 (o := none) rfl e0, fun _ _ _ e0 e1 e2 => no9 (o := none) rfl e1⟩, k_R, k_f4⟩⟩
noncomputable def ru_gFo0 : Ru := ([(0, (1199, (0, (0, 0)))), (0, (1170, (0, (0, 0)))), (0, (1171, (0, (0, 0)))), (0, (1172, (0, (0, 0)))), (0, (1173, (0, (0, 0)))), (0, (1174, (0, (0, 0)))), (0, (1175, (0, (0, 0)))), (0, (1176, (0, (0, 0)))), (0, (1177, (0, (0, 0)))), (0, (1120, (0, (0, 0)))), (0, (1123, (0, (0, 0)))), (0, (1124, (0, (0, 0)))), (0, (1121, (0, (0, 0))))], ([1178, 1179, 1180, 1181, 1182, 1155], ([([(9, (-1)), (10, 1)], 0), ([(9, 1), (10, (-1))], 0), ([(3, 1), (9, (-1))], 0), ([(3, (-1)), (9, 1)], 0), ([(4, 1)], 0), ([(4, (-1))], 0), ([(11, (-1))], 0), ([(11, 1)], 0)], (false, ([([(2, 1), (9, (-1))], 0), ([(2, (-1)), (9, 1)], 0), ([(1, 1)], (-1)), ([(1, (-1))], 1)], ([], ([(1170, none), (1171, none), (1172, none), (1173, none), (1174, none), (1175, none), (1176, none), (1177, none)], none)))))))
theorem rk_gFo0 : RuOk SR ru_gFo0 := by
  intro τ m g hi hc ha hS
  obtain ⟨i0, i1, i2, i3, i4, i5, i6, i7, i8, i9, i10, i11, i12, _⟩ := hi
  have t1199 : τ 1199 = some (g 0) := i0
  have t1170 : τ 1170 = some (g 1) := i1
  have t1171 : τ 1171 = some (g 2) := i2
  have t1172 : τ 1172 = some (g 3) := i3
  have t1173 : τ 1173 = some (g 4) := i4
  have t1174 : τ 1174 = some (g 5) := i5
  have t1175 : τ 1175 = some (g 6) := i6
  have t1176 : τ 1176 = some (g 7) := i7
  have t1177 : τ 1177 = some (g 8) := i8
  have t1120 : τ 1120 = some (g 9) := i9
  have t1123 : τ 1123 = some (g 10) := i10
  have t1124 : τ 1124 = some (g 11) := i11
  have t1121 : τ 1121 = some (g 12) := i12
  obtain ⟨c0, c1, c2, c3, c4, c5, c6, c7, _⟩ := hc
  have c0 : (-1) * g 9 + 1 * g 10 ≤ 0 := d2 c0
  have c1 : 1 * g 9 + (-1) * g 10 ≤ 0 := d2 c1
  have c2 : 1 * g 3 + (-1) * g 9 ≤ 0 := d2 c2
  have c3 : (-1) * g 3 + 1 * g 9 ≤ 0 := d2 c3
  have c4 : 1 * g 4 ≤ 0 := d1 c4
  have c5 : (-1) * g 4 ≤ 0 := d1 c5
  have c6 : (-1) * g 11 ≤ 0 := d1 c6
  have c7 : 1 * g 11 ≤ 0 := d1 c7
  obtain ⟨a0, a1, a2, a3, a4, a5, _⟩ := ha
  have n1178 : τ 1178 = none := a0
  have n1179 : τ 1179 = none := a1
  have n1180 : τ 1180 = none := a2
  have n1181 : τ 1181 = none := a3
  have n1182 : τ 1182 = none := a4
  have n1155 : τ 1155 = none := a5
  obtain ⟨h0, k_tok, k_sc1, k_sc2, k_T, k_I, k_F, k_N, k_Y, k_Z, k_A, k_B, k_C, k_X, k_R, k_f4⟩ := hS (by rw [t1199]; exact fun e => by cases e)
  have k_T0 := k_T
  obtain ⟨h_T, h_TN, h_QZ⟩ := k_T0
  have k_I0 := k_I
  obtain ⟨h_p, h_pc, h_ip, h_iP, h_PC, h_PN⟩ := k_I0
  have k_X0 := k_X
  obtain ⟨h_X0a, h_X0, h_X, h_Xe⟩ := k_X0
  have hXL : ((tx9 m).2 : Int) = m 110 1 := by
    show (((m 110 1).toNat : Nat) : Int) = _
    omega
  have hX := h_X _ _ _ _ _ _ _ _ t1170 t1171 t1172 t1173 t1174 t1175 t1176 t1177
  rw [n1178, n1179, n1180, n1181, n1182] at hX
  obtain ⟨⟨⟨hp1, hp2⟩, hws⟩, ⟨ho0, hv0, hvp, hd0, hd20⟩, ⟨hb0, hbv⟩, hdd⟩ := XB_n hX.1
  have hcc := h_pc _ _ t1123 t1124
  rw [show (g 10).toNat = (g 3).toNat by omega] at hcc
  have hN := h_TN _ _ t1120 t1121
  rw [show (g 9).toNat = (g 3).toNat by omega] at hN
  have hk : (((KT9 (tx9 m)).c (g 3).toNat) ≤ 9 ∧ ((KT9 (tx9 m)).c (g 3).toNat) ≠ 4) ∨ 21 ≤ ((KT9 (tx9 m)).c (g 3).toNat) := (kq (a := 0) (b := 0) (fun k => (k ≤ 9 ∧ k ≠ 4) ∨ 21 ≤ k) (by decide) (Nat.zero_le _) (by omega))
  obtain ⟨y1, y2⟩ := X_gf hX (by omega) (by omega) (by omega) (by omega) (by omega) (by omega) (by omega) (by omega)
  exact ⟨rfl, ⟨f2 (by omega), f2 (by omega), f1 (by omega), f1 (by omega), trivial⟩, trivial, fun _ => ⟨h0, k_tok, k_sc1, k_sc2, k_T, k_I, k_F, k_N, k_Y, k_Z, k_A, k_B, k_C, ⟨fun _ _ e0 e1 => no9 (o := none) rfl e0, fun _ _ _ e0 e1 e2 => no9 (o := none) rfl e0, fun _ _ _ _ _ _ _ _ e0 e1 e2 e3 e4 e5 e6 e7 => no9 (o := none) rfl e0, fun _ _ _ e0 e1 e2 => no9 (o := none) rfl e1⟩, k_R, k_f4⟩⟩
noncomputable def ru_gFo1 : Ru := ([(0, (1199, (0, (0, 0)))), (0, (1170, (0, (0, 0)))), (0, (1171, (0, (0, 0)))), (0, (1172, (0, (0, 0)))), (0, (1173, (0, (0, 0)))), (0, (1174, (0, (0, 0)))), (0, (1175, (0, (0, 0)))), (0, (1176, (0, (0, 0)))), (0, (1177, (0, (0, 0)))), (0, (1120, (0, (0, 0)))), (0, (1123, (0, (0, 0)))), (0, (1124, (0, (0, 0)))), (0, (1121, (0, (0, 0))))], ([1178, 1179, 1180, 1181, 1182, 1155], ([([(9, (-1)), (10, 1)], 0), ([(9, 1), (10, (-1))], 0), ([(3, 1), (9, (-1))], 0), ([(3, (-1)), (9, 1)], 0), ([(4, 1)], 0), ([(4, (-1))], 0), ([(11, (-1))], (-2)), ([(11, 1)], 4)], (false, ([([(2, 1), (9, (-1))], 0), ([(2, (-1)), (9, 1)], 0), ([(1, 1)], (-1)), ([(1, (-1))], 1)], ([], ([(1170, none), (1171, none), (1172, none), (1173, none), (1174, none), (1175, none), (1176, none), (1177, none)], none)))))))
theorem rk_gFo1 : RuOk SR ru_gFo1 := by
  intro τ m g hi hc ha hS
  obtain ⟨i0, i1, i2, i3, i4, i5, i6, i7, i8, i9, i10, i11, i12, _⟩ := hi
  have t1199 : τ 1199 = some (g 0) := i0
  have t1170 : τ 1170 = some (g 1) := i1
  have t1171 : τ 1171 = some (g 2) := i2
  have t1172 : τ 1172 = some (g 3) := i3
  have t1173 : τ 1173 = some (g 4) := i4
  have t1174 : τ 1174 = some (g 5) := i5
  have t1175 : τ 1175 = some (g 6) := i6
  have t1176 : τ 1176 = some (g 7) := i7
  have t1177 : τ 1177 = some (g 8) := i8
  have t1120 : τ 1120 = some (g 9) := i9
  have t1123 : τ 1123 = some (g 10) := i10
  have t1124 : τ 1124 = some (g 11) := i11
  have t1121 : τ 1121 = some (g 12) := i12
  obtain ⟨c0, c1, c2, c3, c4, c5, c6, c7, _⟩ := hc
  have c0 : (-1) * g 9 + 1 * g 10 ≤ 0 := d2 c0
  have c1 : 1 * g 9 + (-1) * g 10 ≤ 0 := d2 c1
  have c2 : 1 * g 3 + (-1) * g 9 ≤ 0 := d2 c2
  have c3 : (-1) * g 3 + 1 * g 9 ≤ 0 := d2 c3
  have c4 : 1 * g 4 ≤ 0 := d1 c4
  have c5 : (-1) * g 4 ≤ 0 := d1 c5
  have c6 : (-1) * g 11 ≤ (-2) := d1 c6
  have c7 : 1 * g 11 ≤ 4 := d1 c7
  obtain ⟨a0, a1, a2, a3, a4, a5, _⟩ := ha
  have n1178 : τ 1178 = none := a0
  have n1179 : τ 1179 = none := a1
  have n1180 : τ 1180 = none := a2
  have n1181 : τ 1181 = none := a3
  have n1182 : τ 1182 = none := a4
  have n1155 : τ 1155 = none := a5
  obtain ⟨h0, k_tok, k_sc1, k_sc2, k_T, k_I, k_F, k_N, k_Y, k_Z, k_A, k_B, k_C, k_X, k_R, k_f4⟩ := hS (by rw [t1199]; exact fun e => by cases e)
  have k_T0 := k_T
  obtain ⟨h_T, h_TN, h_QZ⟩ := k_T0
  have k_I0 := k_I
  obtain ⟨h_p, h_pc, h_ip, h_iP, h_PC, h_PN⟩ := k_I0
  have k_X0 := k_X
  obtain ⟨h_X0a, h_X0, h_X, h_Xe⟩ := k_X0
  have hXL : ((tx9 m).2 : Int) = m 110 1 := by
    show (((m 110 1).toNat : Nat) : Int) = _
    omega
  have hX := h_X _ _ _ _ _ _ _ _ t1170 t1171 t1172 t1173 t1174 t1175 t1176 t1177
  rw [n1178, n1179, n1180, n1181, n1182] at hX
  obtain ⟨⟨⟨hp1, hp2⟩, hws⟩, ⟨ho0, hv0, hvp, hd0, hd20⟩, ⟨hb0, hbv⟩, hdd⟩ := XB_n hX.1
  have hcc := h_pc _ _ t1123 t1124
  rw [show (g 10).toNat = (g 3).toNat by omega] at hcc
  have hN := h_TN _ _ t1120 t1121
  rw [show (g 9).toNat = (g 3).toNat by omega] at hN
  have hk : (((KT9 (tx9 m)).c (g 3).toNat) ≤ 9 ∧ ((KT9 (tx9 m)).c (g 3).toNat) ≠ 4) ∨ 21 ≤ ((KT9 (tx9 m)).c (g 3).toNat) := (kq (a := 2) (b := 4) (fun k => (k ≤ 9 ∧ k ≠ 4) ∨ 21 ≤ k) (by decide) (by omega) (by omega))
  obtain ⟨y1, y2⟩ := X_gf hX (by omega) (by omega) (by omega) (by omega) (by omega) (by omega) (by omega) (by omega)
  exact ⟨rfl, ⟨f2 (by omega), f2 (by omega), f1 (by omega), f1 (by omega), trivial⟩, trivial, fun _ => ⟨h0, k_tok, k_sc1, k_sc2, k_T, k_I, k_F, k_N, k_Y, k_Z, k_A, k_B, k_C, ⟨fun _ _ e0 e1 => no9 (o := none) rfl e0, fun _ _ _ e0 e1 e2 => no9 (o := none) rfl e0, fun _ _ _ _ _ _ _ _ e0 e1 e2 e3 e4 e5 e6 e7 => no9 (o := none) rfl e0, fun _ _ _ e0 e1 e2 => no9 (o := none) rfl e1⟩, k_R, k_f4⟩⟩
noncomputable def ru_gFo2 : Ru := ([(0, (1199, (0, (0, 0)))), (0, (1170, (0, (0, 0)))), (0, (1171, (0, (0, 0)))), (0, (1172, (0, (0, 0)))), (0, (1173, (0, (0, 0)))), (0, (1174, (0, (0, 0)))), (0, (1175, (0, (0, 0)))), (0, (1176, (0, (0, 0)))), (0, (1177, (0, (0, 0)))), (0, (1120, (0, (0, 0)))), (0, (1123, (0, (0, 0)))), (0, (1124, (0, (0, 0)))), (0, (1121, (0, (0, 0))))], ([1178, 1179, 1180, 1181, 1182, 1155], ([([(9, (-1)), (10, 1)], 0), ([(9, 1), (10, (-1))], 0), ([(3, 1), (9, (-1))], 0), ([(3, (-1)), (9, 1)], 0), ([(4, 1)], 0), ([(4, (-1))], 0), ([(11, (-1))], (-6)), ([(11, 1)], 6)], (false, ([([(2, 1), (9, (-1))], 0), ([(2, (-1)), (9, 1)], 0), ([(1, 1)], (-1)), ([(1, (-1))], 1)], ([], ([(1170, none), (1171, none), (1172, none), (1173, none), (1174, none), (1175, none), (1176, none), (1177, none)], none)))))))
theorem rk_gFo2 : RuOk SR ru_gFo2 := by
  intro τ m g hi hc ha hS
  obtain ⟨i0, i1, i2, i3, i4, i5, i6, i7, i8, i9, i10, i11, i12, _⟩ := hi
  have t1199 : τ 1199 = some (g 0) := i0
  have t1170 : τ 1170 = some (g 1) := i1
  have t1171 : τ 1171 = some (g 2) := i2
  have t1172 : τ 1172 = some (g 3) := i3
  have t1173 : τ 1173 = some (g 4) := i4
  have t1174 : τ 1174 = some (g 5) := i5
  have t1175 : τ 1175 = some (g 6) := i6
  have t1176 : τ 1176 = some (g 7) := i7
  have t1177 : τ 1177 = some (g 8) := i8
  have t1120 : τ 1120 = some (g 9) := i9
  have t1123 : τ 1123 = some (g 10) := i10
  have t1124 : τ 1124 = some (g 11) := i11
  have t1121 : τ 1121 = some (g 12) := i12
  obtain ⟨c0, c1, c2, c3, c4, c5, c6, c7, _⟩ := hc
  have c0 : (-1) * g 9 + 1 * g 10 ≤ 0 := d2 c0
  have c1 : 1 * g 9 + (-1) * g 10 ≤ 0 := d2 c1
  have c2 : 1 * g 3 + (-1) * g 9 ≤ 0 := d2 c2
  have c3 : (-1) * g 3 + 1 * g 9 ≤ 0 := d2 c3
  have c4 : 1 * g 4 ≤ 0 := d1 c4
  have c5 : (-1) * g 4 ≤ 0 := d1 c5
  have c6 : (-1) * g 11 ≤ (-6) := d1 c6
  have c7 : 1 * g 11 ≤ 6 := d1 c7
  obtain ⟨a0, a1, a2, a3, a4, a5, _⟩ := ha
  have n1178 : τ 1178 = none := a0
  have n1179 : τ 1179 = none := a1
  have n1180 : τ 1180 = none := a2
  have n1181 : τ 1181 = none := a3
  have n1182 : τ 1182 = none := a4
  have n1155 : τ 1155 = none := a5
  obtain ⟨h0, k_tok, k_sc1, k_sc2, k_T, k_I, k_F, k_N, k_Y, k_Z, k_A, k_B, k_C, k_X, k_R, k_f4⟩ := hS (by rw [t1199]; exact fun e => by cases e)
  have k_T0 := k_T
  obtain ⟨h_T, h_TN, h_QZ⟩ := k_T0
  have k_I0 := k_I
  obtain ⟨h_p, h_pc, h_ip, h_iP, h_PC, h_PN⟩ := k_I0
  have k_X0 := k_X
  obtain ⟨h_X0a, h_X0, h_X, h_Xe⟩ := k_X0
  have hXL : ((tx9 m).2 : Int) = m 110 1 := by
    show (((m 110 1).toNat : Nat) : Int) = _
    omega
  have hX := h_X _ _ _ _ _ _ _ _ t1170 t1171 t1172 t1173 t1174 t1175 t1176 t1177
  rw [n1178, n1179, n1180, n1181, n1182] at hX
  obtain ⟨⟨⟨hp1, hp2⟩, hws⟩, ⟨ho0, hv0, hvp, hd0, hd20⟩, ⟨hb0, hbv⟩, hdd⟩ := XB_n hX.1
  have hcc := h_pc _ _ t1123 t1124
  rw [show (g 10).toNat = (g 3).toNat by omega] at hcc
  have hN := h_TN _ _ t1120 t1121
  rw [show (g 9).toNat = (g 3).toNat by omega] at hN
  have hk : (((KT9 (tx9 m)).c (g 3).toNat) ≤ 9 ∧ ((KT9 (tx9 m)).c (g 3).toNat) ≠ 4) ∨ 21 ≤ ((KT9 (tx9 m)).c (g 3).toNat) := (kq (a := 6) (b := 6) (fun k => (k ≤ 9 ∧ k ≠ 4) ∨ 21 ≤ k) (by decide) (by omega) (by omega))
  obtain ⟨y1, y2⟩ := X_gf hX (by omega) (by omega) (by omega) (by omega) (by omega) (by omega) (by omega) (by omega)
  exact ⟨rfl, ⟨f2 (by omega), f2 (by omega), f1 (by omega), f1 (by omega), trivial⟩, trivial, fun _ => ⟨h0, k_tok, k_sc1, k_sc2, k_T, k_I, k_F, k_N, k_Y, k_Z, k_A, k_B, k_C, ⟨fun _ _ e0 e1 => no9 (o := none) rfl e0, fun _ _ _ e0 e1 e2 => no9 (o := none) rfl e0, fun _ _ _ _ _ _ _ _ e0 e1 e2 e3 e4 e5 e6 e7 => no9 (o := none) rfl e0, fun _ _ _ e0 e1 e2 => no9 (o := none) rfl e1⟩, k_R, k_f4⟩⟩
noncomputable def ru_gFo3 : Ru := ([(0, (1199, (0, (0, 0)))), (0, (1170, (0, (0, 0)))), (0, (1171, (0, (0, 0)))), (0, (1172, (0, (0, 0)))), (0, (1173, (0, (0, 0)))), (0, (1174, (0, (0, 0)))), (0, (1175, (0, (0, 0)))), (0, (1176, (0, (0, 0)))), (0, (1177, (0, (0, 0)))), (0, (1120, (0, (0, 0)))), (0, (1123, (0, (0, 0)))), (0, (1124, (0, (0, 0)))), (0, (1121, (0, (0, 0))))], ([1178, 1179, 1180, 1181, 1182, 1155], ([([(9, (-1)), (10, 1)], 0), ([(9, 1), (10, (-1))], 0), ([(3, 1), (9, (-1))], 0), ([(3, (-1)), (9, 1)], 0), ([(4, 1)], 0), ([(4, (-1))], 0), ([(11, (-1))], (-20)), ([(11, 1)], 28)], (false, ([([(2, 1), (9, (-1))], 0), ([(2, (-1)), (9, 1)], 0), ([(1, 1)], (-1)), ([(1, (-1))], 1)], ([], ([(1170, none), (1171, none), (1172, none), (1173, none), (1174, none), (1175, none), (1176, none), (1177, none)], none)))))))
theorem rk_gFo3 : RuOk SR ru_gFo3 := by
  intro τ m g hi hc ha hS
  obtain ⟨i0, i1, i2, i3, i4, i5, i6, i7, i8, i9, i10, i11, i12, _⟩ := hi
  have t1199 : τ 1199 = some (g 0) := i0
  have t1170 : τ 1170 = some (g 1) := i1
  have t1171 : τ 1171 = some (g 2) := i2
  have t1172 : τ 1172 = some (g 3) := i3
  have t1173 : τ 1173 = some (g 4) := i4
  have t1174 : τ 1174 = some (g 5) := i5
  have t1175 : τ 1175 = some (g 6) := i6
  have t1176 : τ 1176 = some (g 7) := i7
  have t1177 : τ 1177 = some (g 8) := i8
  have t1120 : τ 1120 = some (g 9) := i9
  have t1123 : τ 1123 = some (g 10) := i10
  have t1124 : τ 1124 = some (g 11) := i11
  have t1121 : τ 1121 = some (g 12) := i12
  obtain ⟨c0, c1, c2, c3, c4, c5, c6, c7, _⟩ := hc
  have c0 : (-1) * g 9 + 1 * g 10 ≤ 0 := d2 c0
  have c1 : 1 * g 9 + (-1) * g 10 ≤ 0 := d2 c1
  have c2 : 1 * g 3 + (-1) * g 9 ≤ 0 := d2 c2
  have c3 : (-1) * g 3 + 1 * g 9 ≤ 0 := d2 c3
  have c4 : 1 * g 4 ≤ 0 := d1 c4
  have c5 : (-1) * g 4 ≤ 0 := d1 c5
  have c6 : (-1) * g 11 ≤ (-20) := d1 c6
  have c7 : 1 * g 11 ≤ 28 := d1 c7
  obtain ⟨a0, a1, a2, a3, a4, a5, _⟩ := ha
  have n1178 : τ 1178 = none := a0
  have n1179 : τ 1179 = none := a1
  have n1180 : τ 1180 = none := a2
  have n1181 : τ 1181 = none := a3
  have n1182 : τ 1182 = none := a4
  have n1155 : τ 1155 = none := a5
  obtain ⟨h0, k_tok, k_sc1, k_sc2, k_T, k_I, k_F, k_N, k_Y, k_Z, k_A, k_B, k_C, k_X, k_R, k_f4⟩ := hS (by rw [t1199]; exact fun e => by cases e)
  have k_T0 := k_T
  obtain ⟨h_T, h_TN, h_QZ⟩ := k_T0
  have k_I0 := k_I
  obtain ⟨h_p, h_pc, h_ip, h_iP, h_PC, h_PN⟩ := k_I0
  have k_X0 := k_X
  obtain ⟨h_X0a, h_X0, h_X, h_Xe⟩ := k_X0
  have hXL : ((tx9 m).2 : Int) = m 110 1 := by
    show (((m 110 1).toNat : Nat) : Int) = _
    omega
  have hX := h_X _ _ _ _ _ _ _ _ t1170 t1171 t1172 t1173 t1174 t1175 t1176 t1177
  rw [n1178, n1179, n1180, n1181, n1182] at hX
  obtain ⟨⟨⟨hp1, hp2⟩, hws⟩, ⟨ho0, hv0, hvp, hd0, hd20⟩, ⟨hb0, hbv⟩, hdd⟩ := XB_n hX.1
  have hcc := h_pc _ _ t1123 t1124
  rw [show (g 10).toNat = (g 3).toNat by omega] at hcc
  have hN := h_TN _ _ t1120 t1121
  rw [show (g 9).toNat = (g 3).toNat by omega] at hN
  have hk : (((KT9 (tx9 m)).c (g 3).toNat) ≤ 9 ∧ ((KT9 (tx9 m)).c (g 3).toNat) ≠ 4) ∨ 21 ≤ ((KT9 (tx9 m)).c (g 3).toNat) := (kq (a := 20) (b := 28) (fun k => (k ≤ 9 ∧ k ≠ 4) ∨ 21 ≤ k) (by decide) (by omega) (by omega))
  obtain ⟨y1, y2⟩ := X_gf hX (by omega) (by omega) (by omega) (by omega) (by omega) (by omega) (by omega) (by omega)
  exact ⟨rfl, ⟨f2 (by omega), f2 (by omega), f1 (by omega), f1 (by omega), trivial⟩, trivial, fun _ => ⟨h0, k_tok, k_sc1, k_sc2, k_T, k_I, k_F, k_N, k_Y, k_Z, k_A, k_B, k_C, ⟨fun _ _ e0 e1 => no9 (o := none) rfl e0, fun _ _ _ e0 e1 e2 => no9 (o := none) rfl e0, fun _ _ _ _ _ _ _ _ e0 e1 e2 e3 e4 e5 e6 e7 => no9 (o := none) rfl e0, fun _ _ _ e0 e1 e2 => no9 (o := none) rfl e1⟩, k_R, k_f4⟩⟩
noncomputable def ru_gFo4 : Ru := ([(0, (1199, (0, (0, 0)))), (0, (1170, (0, (0, 0)))), (0, (1171, (0, (0, 0)))), (0, (1172, (0, (0, 0)))), (0, (1173, (0, (0, 0)))), (0, (1174, (0, (0, 0)))), (0, (1175, (0, (0, 0)))), (0, (1176, (0, (0, 0)))), (0, (1177, (0, (0, 0)))), (0, (1120, (0, (0, 0)))), (0, (1123, (0, (0, 0)))), (0, (1124, (0, (0, 0)))), (0, (1121, (0, (0, 0))))], ([1178, 1179, 1180, 1181, 1182, 1155], ([([(9, (-1)), (10, 1)], 0), ([(9, 1), (10, (-1))], 0), ([(3, 1), (9, (-1))], 0), ([(3, (-1)), (9, 1)], 0), ([(4, 1)], 0), ([(4, (-1))], 0), ([(11, (-1))], (-33)), ([(11, 1)], 51)], (false, ([([(2, 1), (9, (-1))], 0), ([(2, (-1)), (9, 1)], 0), ([(1, 1)], (-1)), ([(1, (-1))], 1)], ([], ([(1170, none), (1171, none), (1172, none), (1173, none), (1174, none), (1175, none), (1176, none), (1177, none)], none)))))))
theorem rk_gFo4 : RuOk SR ru_gFo4 := by
  intro τ m g hi hc ha hS
  obtain ⟨i0, i1, i2, i3, i4, i5, i6, i7, i8, i9, i10, i11, i12, _⟩ := hi
  have t1199 : τ 1199 = some (g 0) := i0
  have t1170 : τ 1170 = some (g 1) := i1
  have t1171 : τ 1171 = some (g 2) := i2
  have t1172 : τ 1172 = some (g 3) := i3
  have t1173 : τ 1173 = some (g 4) := i4
  have t1174 : τ 1174 = some (g 5) := i5
  have t1175 : τ 1175 = some (g 6) := i6
  have t1176 : τ 1176 = some (g 7) := i7
  have t1177 : τ 1177 = some (g 8) := i8
  have t1120 : τ 1120 = some (g 9) := i9
  have t1123 : τ 1123 = some (g 10) := i10
  have t1124 : τ 1124 = some (g 11) := i11
  have t1121 : τ 1121 = some (g 12) := i12
  obtain ⟨c0, c1, c2, c3, c4, c5, c6, c7, _⟩ := hc
  have c0 : (-1) * g 9 + 1 * g 10 ≤ 0 := d2 c0
  have c1 : 1 * g 9 + (-1) * g 10 ≤ 0 := d2 c1
  have c2 : 1 * g 3 + (-1) * g 9 ≤ 0 := d2 c2
  have c3 : (-1) * g 3 + 1 * g 9 ≤ 0 := d2 c3
  have c4 : 1 * g 4 ≤ 0 := d1 c4
  have c5 : (-1) * g 4 ≤ 0 := d1 c5
  have c6 : (-1) * g 11 ≤ (-33) := d1 c6
  have c7 : 1 * g 11 ≤ 51 := d1 c7
  obtain ⟨a0, a1, a2, a3, a4, a5, _⟩ := ha
  have n1178 : τ 1178 = none := a0
  have n1179 : τ 1179 = none := a1
  have n1180 : τ 1180 = none := a2
  have n1181 : τ 1181 = none := a3
  have n1182 : τ 1182 = none := a4
  have n1155 : τ 1155 = none := a5
  obtain ⟨h0, k_tok, k_sc1, k_sc2, k_T, k_I, k_F, k_N, k_Y, k_Z, k_A, k_B, k_C, k_X, k_R, k_f4⟩ := hS (by rw [t1199]; exact fun e => by cases e)
  have k_T0 := k_T
  obtain ⟨h_T, h_TN, h_QZ⟩ := k_T0
  have k_I0 := k_I
  obtain ⟨h_p, h_pc, h_ip, h_iP, h_PC, h_PN⟩ := k_I0
  have k_X0 := k_X
  obtain ⟨h_X0a, h_X0, h_X, h_Xe⟩ := k_X0
  have hXL : ((tx9 m).2 : Int) = m 110 1 := by
    show (((m 110 1).toNat : Nat) : Int) = _
    omega
  have hX := h_X _ _ _ _ _ _ _ _ t1170 t1171 t1172 t1173 t1174 t1175 t1176 t1177
  rw [n1178, n1179, n1180, n1181, n1182] at hX
  obtain ⟨⟨⟨hp1, hp2⟩, hws⟩, ⟨ho0, hv0, hvp, hd0, hd20⟩, ⟨hb0, hbv⟩, hdd⟩ := XB_n hX.1
  have hcc := h_pc _ _ t1123 t1124
  rw [show (g 10).toNat = (g 3).toNat by omega] at hcc
  have hN := h_TN _ _ t1120 t1121
  rw [show (g 9).toNat = (g 3).toNat by omega] at hN
  have hk : (((KT9 (tx9 m)).c (g 3).toNat) ≤ 9 ∧ ((KT9 (tx9 m)).c (g 3).toNat) ≠ 4) ∨ 21 ≤ ((KT9 (tx9 m)).c (g 3).toNat) := (kq (a := 33) (b := 51) (fun k => (k ≤ 9 ∧ k ≠ 4) ∨ 21 ≤ k) (by decide) (by omega) rc_le)
  obtain ⟨y1, y2⟩ := X_gf hX (by omega) (by omega) (by omega) (by omega) (by omega) (by omega) (by omega) (by omega)
  exact ⟨rfl, ⟨f2 (by omega), f2 (by omega), f1 (by omega), f1 (by omega), trivial⟩, trivial, fun _ => ⟨h0, k_tok, k_sc1, k_sc2, k_T, k_I, k_F, k_N, k_Y, k_Z, k_A, k_B, k_C, ⟨fun _ _ e0 e1 => no9 (o := none) rfl e0, fun _ _ _ e0 e1 e2 => no9 (o := none) rfl e0, fun _ _ _ _ _ _ _ _ e0 e1 e2 e3 e4 e5 e6 e7 => no9 (o := none) rfl e0, fun _ _ _ e0 e1 e2 => no9 (o := none) rfl e1⟩, k_R, k_f4⟩⟩
noncomputable def ru_nop : Ru := ([(0, (1199, (0, (0, 0)))), (0, (1120, (0, (0, 0)))), (4, (0, (0, (112, 0))))], ([1184, 1185, 1186, 1187, 1188], ([], (false, ([], ([], ([(1184, some (1, 0)), (1185, some (2, 0))], some (1186, ((-1), 999999999)))))))))
theorem rk_nop : RuOk SR ru_nop := by
  intro τ m g hi hc ha hS
  obtain ⟨i0, i1, i2, _⟩ := hi
  have t1199 : τ 1199 = some (g 0) := i0
  have t1120 : τ 1120 = some (g 1) := i1
  have xg : g 2 = 112 := i2
  obtain ⟨a0, a1, a2, a3, a4, _⟩ := ha
  have n1184 : τ 1184 = none := a0
  have n1185 : τ 1185 = none := a1
  have n1186 : τ 1186 = none := a2
  have n1187 : τ 1187 = none := a3
  have n1188 : τ 1188 = none := a4
  obtain ⟨h0, k_tok, k_sc1, k_sc2, k_T, k_I, k_F, k_N, k_Y, k_Z, k_A, k_B, k_C, k_X, k_R, k_f4⟩ := hS (by rw [t1199]; exact fun e => by cases e)
  have k_T0 := k_T
  obtain ⟨h_T, h_TN, h_QZ⟩ := k_T0
  have k_N0 := k_N
  obtain ⟨h_N, h_Nk, h_V, h_Yq⟩ := k_N0
  have hXL : ((tx9 m).2 : Int) = m 110 1 := by
    show (((m 110 1).toNat : Nat) : Int) = _
    omega
  obtain ⟨⟨hT1, hT2⟩, ⟨hTa, hTk, hTp⟩, _⟩ := h_T _ t1120
  have hnL := nx_P (m := m) (p := (g 1).toNat) (by omega)
  have hte := te_P (m := m) (p := (g 1).toNat) (by omega)
  obtain ⟨x0, hx0⟩ : ∃ x0 : Int, x0 = nb9 (tx9 m) (g 1).toNat 112 := ⟨_, rfl⟩
  obtain ⟨x1, x2⟩ : -1 ≤ x0 ∧ x0 ≤ 999999999 := by rw [hx0]; exact nb_bd
  exact ⟨rfl, trivial, trivial, x0, x1, x2, fun _ => ⟨h0, k_tok, k_sc1, k_sc2, k_T, k_I, k_F, ⟨fun Np Ng Nv e0 e1 e2 => by
      have e0 : g 1 + 0 = Np := Option.some.inj e0
      subst e0
      have e1 : g 2 + 0 = Ng := Option.some.inj e1
      subst e1
      have e2 : x0 = Nv := Option.some.inj e2
      subst e2
      rw [Int.add_zero, show g 2 + 0 = 112 by omega]
      exact ⟨⟨by omega, by omega⟩, hx0⟩, fun _ _ _ _ _ e0 e1 e2 e3 e4 => no9 n1187 e3, h_V, h_Yq⟩, k_Y, k_Z, k_A, k_B, k_C, k_X, k_R, k_f4⟩⟩
noncomputable def ru_nog : Ru := ([(0, (1199, (0, (0, 0)))), (0, (1120, (0, (0, 0)))), (4, (0, (0, (103, 0))))], ([1184, 1185, 1186, 1187, 1188], ([], (false, ([], ([], ([(1184, some (1, 0)), (1185, some (2, 0))], some (1186, ((-1), 999999999)))))))))
theorem rk_nog : RuOk SR ru_nog := by
  intro τ m g hi hc ha hS
  obtain ⟨i0, i1, i2, _⟩ := hi
  have t1199 : τ 1199 = some (g 0) := i0
  have t1120 : τ 1120 = some (g 1) := i1
  have xg : g 2 = 103 := i2
  obtain ⟨a0, a1, a2, a3, a4, _⟩ := ha
  have n1184 : τ 1184 = none := a0
  have n1185 : τ 1185 = none := a1
  have n1186 : τ 1186 = none := a2
  have n1187 : τ 1187 = none := a3
  have n1188 : τ 1188 = none := a4
  obtain ⟨h0, k_tok, k_sc1, k_sc2, k_T, k_I, k_F, k_N, k_Y, k_Z, k_A, k_B, k_C, k_X, k_R, k_f4⟩ := hS (by rw [t1199]; exact fun e => by cases e)
  have k_T0 := k_T
  obtain ⟨h_T, h_TN, h_QZ⟩ := k_T0
  have k_N0 := k_N
  obtain ⟨h_N, h_Nk, h_V, h_Yq⟩ := k_N0
  have hXL : ((tx9 m).2 : Int) = m 110 1 := by
    show (((m 110 1).toNat : Nat) : Int) = _
    omega
  obtain ⟨⟨hT1, hT2⟩, ⟨hTa, hTk, hTp⟩, _⟩ := h_T _ t1120
  have hnL := nx_P (m := m) (p := (g 1).toNat) (by omega)
  have hte := te_P (m := m) (p := (g 1).toNat) (by omega)
  obtain ⟨x0, hx0⟩ : ∃ x0 : Int, x0 = nb9 (tx9 m) (g 1).toNat 103 := ⟨_, rfl⟩
  obtain ⟨x1, x2⟩ : -1 ≤ x0 ∧ x0 ≤ 999999999 := by rw [hx0]; exact nb_bd
  exact ⟨rfl, trivial, trivial, x0, x1, x2, fun _ => ⟨h0, k_tok, k_sc1, k_sc2, k_T, k_I, k_F, ⟨fun Np Ng Nv e0 e1 e2 => by
      have e0 : g 1 + 0 = Np := Option.some.inj e0
      subst e0
      have e1 : g 2 + 0 = Ng := Option.some.inj e1
      subst e1
      have e2 : x0 = Nv := Option.some.inj e2
      subst e2
      rw [Int.add_zero, show g 2 + 0 = 103 by omega]
      exact ⟨⟨by omega, by omega⟩, hx0⟩, fun _ _ _ _ _ e0 e1 e2 e3 e4 => no9 n1187 e3, h_V, h_Yq⟩, k_Y, k_Z, k_A, k_B, k_C, k_X, k_R, k_f4⟩⟩
noncomputable def ru_not : Ru := ([(0, (1199, (0, (0, 0)))), (0, (1120, (0, (0, 0)))), (4, (0, (0, (116, 0))))], ([1184, 1185, 1186, 1187, 1188], ([], (false, ([], ([], ([(1184, some (1, 0)), (1185, some (2, 0))], some (1186, ((-1), 999999999)))))))))
theorem rk_not : RuOk SR ru_not := by
  intro τ m g hi hc ha hS
  obtain ⟨i0, i1, i2, _⟩ := hi
  have t1199 : τ 1199 = some (g 0) := i0
  have t1120 : τ 1120 = some (g 1) := i1
  have xg : g 2 = 116 := i2
  obtain ⟨a0, a1, a2, a3, a4, _⟩ := ha
  have n1184 : τ 1184 = none := a0
  have n1185 : τ 1185 = none := a1
  have n1186 : τ 1186 = none := a2
  have n1187 : τ 1187 = none := a3
  have n1188 : τ 1188 = none := a4
  obtain ⟨h0, k_tok, k_sc1, k_sc2, k_T, k_I, k_F, k_N, k_Y, k_Z, k_A, k_B, k_C, k_X, k_R, k_f4⟩ := hS (by rw [t1199]; exact fun e => by cases e)
  have k_T0 := k_T
  obtain ⟨h_T, h_TN, h_QZ⟩ := k_T0
  have k_N0 := k_N
  obtain ⟨h_N, h_Nk, h_V, h_Yq⟩ := k_N0
  have hXL : ((tx9 m).2 : Int) = m 110 1 := by
    show (((m 110 1).toNat : Nat) : Int) = _
    omega
  obtain ⟨⟨hT1, hT2⟩, ⟨hTa, hTk, hTp⟩, _⟩ := h_T _ t1120
  have hnL := nx_P (m := m) (p := (g 1).toNat) (by omega)
  have hte := te_P (m := m) (p := (g 1).toNat) (by omega)
  obtain ⟨x0, hx0⟩ : ∃ x0 : Int, x0 = nb9 (tx9 m) (g 1).toNat 116 := ⟨_, rfl⟩
  obtain ⟨x1, x2⟩ : -1 ≤ x0 ∧ x0 ≤ 999999999 := by rw [hx0]; exact nb_bd
  exact ⟨rfl, trivial, trivial, x0, x1, x2, fun _ => ⟨h0, k_tok, k_sc1, k_sc2, k_T, k_I, k_F, ⟨fun Np Ng Nv e0 e1 e2 => by
      have e0 : g 1 + 0 = Np := Option.some.inj e0
      subst e0
      have e1 : g 2 + 0 = Ng := Option.some.inj e1
      subst e1
      have e2 : x0 = Nv := Option.some.inj e2
      subst e2
      rw [Int.add_zero, show g 2 + 0 = 116 by omega]
      exact ⟨⟨by omega, by omega⟩, hx0⟩, fun _ _ _ _ _ e0 e1 e2 e3 e4 => no9 n1187 e3, h_V, h_Yq⟩, k_Y, k_Z, k_A, k_B, k_C, k_X, k_R, k_f4⟩⟩
noncomputable def ru_nb1 : Ru := ([(0, (1199, (0, (0, 0)))), (0, (1184, (0, (0, 0)))), (0, (1185, (0, (0, 0)))), (0, (1186, (0, (0, 0)))), (0, (1120, (0, (0, 0)))), (5, (110, (28, (0, 0))))], ([], ([([(1, 1), (4, (-1))], 0), ([(1, (-1)), (4, 1)], 0), ([(5, 1)], 0)], (false, ([([(3, 1)], (-1)), ([(3, (-1))], 1)], ([], ([], none)))))))
theorem rk_nb1 : RuOk SR ru_nb1 := by
  intro τ m g hi hc ha hS
  obtain ⟨i0, i1, i2, i3, i4, i5, _⟩ := hi
  have t1199 : τ 1199 = some (g 0) := i0
  have t1184 : τ 1184 = some (g 1) := i1
  have t1185 : τ 1185 = some (g 2) := i2
  have t1186 : τ 1186 = some (g 3) := i3
  have t1120 : τ 1120 = some (g 4) := i4
  have xk : g 5 = m 110 28 := i5
  obtain ⟨c0, c1, c2, _⟩ := hc
  have c0 : 1 * g 1 + (-1) * g 4 ≤ 0 := d2 c0
  have c1 : (-1) * g 1 + 1 * g 4 ≤ 0 := d2 c1
  have c2 : 1 * g 5 ≤ 0 := d1 c2
  obtain ⟨h0, k_tok, k_sc1, k_sc2, k_T, k_I, k_F, k_N, k_Y, k_Z, k_A, k_B, k_C, k_X, k_R, k_f4⟩ := hS (by rw [t1199]; exact fun e => by cases e)
  have k_T0 := k_T
  obtain ⟨h_T, h_TN, h_QZ⟩ := k_T0
  have k_N0 := k_N
  obtain ⟨h_N, h_Nk, h_V, h_Yq⟩ := k_N0
  have hXL : ((tx9 m).2 : Int) = m 110 1 := by
    show (((m 110 1).toNat : Nat) : Int) = _
    omega
  obtain ⟨⟨hn1, hn2⟩, hnv⟩ := h_N _ _ _ t1184 t1185 t1186
  obtain ⟨⟨hT1, hT2⟩, ⟨hTa, hTk, hTp⟩, _⟩ := h_T _ t1120
  rw [show (g 4).toNat = (g 1).toNat by omega] at hTk hTp
  have hnf := nb_f (X := tx9 m) (p := (g 1).toNat) (c := g 2) (Or.inl (by omega))
  exact ⟨rfl, ⟨f1 (by omega), f1 (by omega), trivial⟩, trivial, fun _ => ⟨h0, k_tok, k_sc1, k_sc2, k_T, k_I, k_F, k_N, k_Y, k_Z, k_A, k_B, k_C, k_X, k_R, k_f4⟩⟩
noncomputable def ru_nb2 : Ru := ([(0, (1199, (0, (0, 0)))), (0, (1184, (0, (0, 0)))), (0, (1185, (0, (0, 0)))), (0, (1186, (0, (0, 0)))), (0, (1120, (0, (0, 0)))), (5, (110, (28, (0, 0))))], ([], ([([(1, 1), (4, (-1))], 0), ([(1, (-1)), (4, 1)], 0), ([(5, (-1))], (-2))], (false, ([([(3, 1)], (-1)), ([(3, (-1))], 1)], ([], ([], none)))))))
theorem rk_nb2 : RuOk SR ru_nb2 := by
  intro τ m g hi hc ha hS
  obtain ⟨i0, i1, i2, i3, i4, i5, _⟩ := hi
  have t1199 : τ 1199 = some (g 0) := i0
  have t1184 : τ 1184 = some (g 1) := i1
  have t1185 : τ 1185 = some (g 2) := i2
  have t1186 : τ 1186 = some (g 3) := i3
  have t1120 : τ 1120 = some (g 4) := i4
  have xk : g 5 = m 110 28 := i5
  obtain ⟨c0, c1, c2, _⟩ := hc
  have c0 : 1 * g 1 + (-1) * g 4 ≤ 0 := d2 c0
  have c1 : (-1) * g 1 + 1 * g 4 ≤ 0 := d2 c1
  have c2 : (-1) * g 5 ≤ (-2) := d1 c2
  obtain ⟨h0, k_tok, k_sc1, k_sc2, k_T, k_I, k_F, k_N, k_Y, k_Z, k_A, k_B, k_C, k_X, k_R, k_f4⟩ := hS (by rw [t1199]; exact fun e => by cases e)
  have k_T0 := k_T
  obtain ⟨h_T, h_TN, h_QZ⟩ := k_T0
  have k_N0 := k_N
  obtain ⟨h_N, h_Nk, h_V, h_Yq⟩ := k_N0
  have hXL : ((tx9 m).2 : Int) = m 110 1 := by
    show (((m 110 1).toNat : Nat) : Int) = _
    omega
  obtain ⟨⟨hn1, hn2⟩, hnv⟩ := h_N _ _ _ t1184 t1185 t1186
  obtain ⟨⟨hT1, hT2⟩, ⟨hTa, hTk, hTp⟩, _⟩ := h_T _ t1120
  rw [show (g 4).toNat = (g 1).toNat by omega] at hTk hTp
  have hnf := nb_f (X := tx9 m) (p := (g 1).toNat) (c := g 2) (Or.inl (by omega))
  exact ⟨rfl, ⟨f1 (by omega), f1 (by omega), trivial⟩, trivial, fun _ => ⟨h0, k_tok, k_sc1, k_sc2, k_T, k_I, k_F, k_N, k_Y, k_Z, k_A, k_B, k_C, k_X, k_R, k_f4⟩⟩
noncomputable def ru_nb3 : Ru := ([(0, (1199, (0, (0, 0)))), (0, (1184, (0, (0, 0)))), (0, (1185, (0, (0, 0)))), (0, (1186, (0, (0, 0)))), (9, (111, (1, (1, 0)))), (5, (110, (1, (0, 0))))], ([], ([([(1, (-1))], 0), ([(1, 1), (5, (-1))], (-1)), ([(2, (-1)), (4, 1)], (-1))], (false, ([([(3, 1)], (-1)), ([(3, (-1))], 1)], ([], ([], none)))))))
theorem rk_nb3 : RuOk SR ru_nb3 := by
  intro τ m g hi hc ha hS
  obtain ⟨i0, i1, i2, i3, i4, i5, _⟩ := hi
  have t1199 : τ 1199 = some (g 0) := i0
  have t1184 : τ 1184 = some (g 1) := i1
  have t1185 : τ 1185 = some (g 2) := i2
  have t1186 : τ 1186 = some (g 3) := i3
  obtain ⟨jb, ub, vb⟩ : ∃ j : Nat, 1 * g 1 + 0 = (j : Int) ∧ g 4 = m 111 j := i4
  have xL : g 5 = m 110 1 := i5
  obtain ⟨c0, c1, c2, _⟩ := hc
  have c0 : (-1) * g 1 ≤ 0 := d1 c0
  have c1 : 1 * g 1 + (-1) * g 5 ≤ (-1) := d2 c1
  have c2 : (-1) * g 2 + 1 * g 4 ≤ (-1) := d2 c2
  obtain ⟨h0, k_tok, k_sc1, k_sc2, k_T, k_I, k_F, k_N, k_Y, k_Z, k_A, k_B, k_C, k_X, k_R, k_f4⟩ := hS (by rw [t1199]; exact fun e => by cases e)
  have k_N0 := k_N
  obtain ⟨h_N, h_Nk, h_V, h_Yq⟩ := k_N0
  have hXL : ((tx9 m).2 : Int) = m 110 1 := by
    show (((m 110 1).toNat : Nat) : Int) = _
    omega
  obtain ⟨⟨hn1, hn2⟩, hnv⟩ := h_N _ _ _ t1184 t1185 t1186
  have hnf := nb_f (X := tx9 m) (p := (g 1).toNat) (c := g 2) (Or.inr (Or.inl (by rw [by_m (by omega), show (g 1).toNat = jb by omega]; omega)))
  exact ⟨rfl, ⟨f1 (by omega), f1 (by omega), trivial⟩, trivial, fun _ => ⟨h0, k_tok, k_sc1, k_sc2, k_T, k_I, k_F, k_N, k_Y, k_Z, k_A, k_B, k_C, k_X, k_R, k_f4⟩⟩
noncomputable def ru_nb4 : Ru := ([(0, (1199, (0, (0, 0)))), (0, (1184, (0, (0, 0)))), (0, (1185, (0, (0, 0)))), (0, (1186, (0, (0, 0)))), (9, (111, (1, (1, 0)))), (5, (110, (1, (0, 0))))], ([], ([([(1, (-1))], 0), ([(1, 1), (5, (-1))], (-1)), ([(2, 1), (4, (-1))], (-1))], (false, ([([(3, 1)], (-1)), ([(3, (-1))], 1)], ([], ([], none)))))))
theorem rk_nb4 : RuOk SR ru_nb4 := by
  intro τ m g hi hc ha hS
  obtain ⟨i0, i1, i2, i3, i4, i5, _⟩ := hi
  have t1199 : τ 1199 = some (g 0) := i0
  have t1184 : τ 1184 = some (g 1) := i1
  have t1185 : τ 1185 = some (g 2) := i2
  have t1186 : τ 1186 = some (g 3) := i3
  obtain ⟨jb, ub, vb⟩ : ∃ j : Nat, 1 * g 1 + 0 = (j : Int) ∧ g 4 = m 111 j := i4
  have xL : g 5 = m 110 1 := i5
  obtain ⟨c0, c1, c2, _⟩ := hc
  have c0 : (-1) * g 1 ≤ 0 := d1 c0
  have c1 : 1 * g 1 + (-1) * g 5 ≤ (-1) := d2 c1
  have c2 : 1 * g 2 + (-1) * g 4 ≤ (-1) := d2 c2
  obtain ⟨h0, k_tok, k_sc1, k_sc2, k_T, k_I, k_F, k_N, k_Y, k_Z, k_A, k_B, k_C, k_X, k_R, k_f4⟩ := hS (by rw [t1199]; exact fun e => by cases e)
  have k_N0 := k_N
  obtain ⟨h_N, h_Nk, h_V, h_Yq⟩ := k_N0
  have hXL : ((tx9 m).2 : Int) = m 110 1 := by
    show (((m 110 1).toNat : Nat) : Int) = _
    omega
  obtain ⟨⟨hn1, hn2⟩, hnv⟩ := h_N _ _ _ t1184 t1185 t1186
  have hnf := nb_f (X := tx9 m) (p := (g 1).toNat) (c := g 2) (Or.inr (Or.inl (by rw [by_m (by omega), show (g 1).toNat = jb by omega]; omega)))
  exact ⟨rfl, ⟨f1 (by omega), f1 (by omega), trivial⟩, trivial, fun _ => ⟨h0, k_tok, k_sc1, k_sc2, k_T, k_I, k_F, k_N, k_Y, k_Z, k_A, k_B, k_C, k_X, k_R, k_f4⟩⟩
noncomputable def ru_nb5 : Ru := ([(0, (1199, (0, (0, 0)))), (0, (1184, (0, (0, 0)))), (0, (1185, (0, (0, 0)))), (0, (1186, (0, (0, 0)))), (0, (1120, (0, (0, 0)))), (5, (110, (28, (0, 0)))), (5, (110, (27, (0, 0))))], ([], ([([(1, 1), (4, (-1))], 0), ([(1, (-1)), (4, 1)], 0), ([(5, 1)], 1), ([(5, (-1))], (-1)), ([(1, (-1)), (6, 1)], 1)], (false, ([([(3, 1)], (-1)), ([(3, (-1))], 1)], ([], ([], none)))))))
theorem rk_nb5 : RuOk SR ru_nb5 := by
  intro τ m g hi hc ha hS
  obtain ⟨i0, i1, i2, i3, i4, i5, i6, _⟩ := hi
  have t1199 : τ 1199 = some (g 0) := i0
  have t1184 : τ 1184 = some (g 1) := i1
  have t1185 : τ 1185 = some (g 2) := i2
  have t1186 : τ 1186 = some (g 3) := i3
  have t1120 : τ 1120 = some (g 4) := i4
  have xk : g 5 = m 110 28 := i5
  have xp : g 6 = m 110 27 := i6
  obtain ⟨c0, c1, c2, c3, c4, _⟩ := hc
  have c0 : 1 * g 1 + (-1) * g 4 ≤ 0 := d2 c0
  have c1 : (-1) * g 1 + 1 * g 4 ≤ 0 := d2 c1
  have c2 : 1 * g 5 ≤ 1 := d1 c2
  have c3 : (-1) * g 5 ≤ (-1) := d1 c3
  have c4 : (-1) * g 1 + 1 * g 6 ≤ 1 := d2 c4
  obtain ⟨h0, k_tok, k_sc1, k_sc2, k_T, k_I, k_F, k_N, k_Y, k_Z, k_A, k_B, k_C, k_X, k_R, k_f4⟩ := hS (by rw [t1199]; exact fun e => by cases e)
  have k_T0 := k_T
  obtain ⟨h_T, h_TN, h_QZ⟩ := k_T0
  have k_N0 := k_N
  obtain ⟨h_N, h_Nk, h_V, h_Yq⟩ := k_N0
  have hXL : ((tx9 m).2 : Int) = m 110 1 := by
    show (((m 110 1).toNat : Nat) : Int) = _
    omega
  obtain ⟨⟨hn1, hn2⟩, hnv⟩ := h_N _ _ _ t1184 t1185 t1186
  obtain ⟨⟨hT1, hT2⟩, ⟨hTa, hTk, hTp⟩, _⟩ := h_T _ t1120
  rw [show (g 4).toNat = (g 1).toNat by omega] at hTk hTp
  have hnf := nb_f (X := tx9 m) (p := (g 1).toNat) (c := g 2) (Or.inr (Or.inr (Or.inl (by omega))))
  exact ⟨rfl, ⟨f1 (by omega), f1 (by omega), trivial⟩, trivial, fun _ => ⟨h0, k_tok, k_sc1, k_sc2, k_T, k_I, k_F, k_N, k_Y, k_Z, k_A, k_B, k_C, k_X, k_R, k_f4⟩⟩
noncomputable def ru_nb6 : Ru := ([(0, (1199, (0, (0, 0)))), (0, (1184, (0, (0, 0)))), (0, (1185, (0, (0, 0)))), (0, (1186, (0, (0, 0)))), (0, (1120, (0, (0, 0)))), (5, (110, (28, (0, 0)))), (5, (110, (27, (0, 0))))], ([], ([([(1, 1), (4, (-1))], 0), ([(1, (-1)), (4, 1)], 0), ([(5, 1)], 1), ([(5, (-1))], (-1)), ([(1, 1), (6, (-1))], (-11))], (false, ([([(3, 1)], (-1)), ([(3, (-1))], 1)], ([], ([], none)))))))
theorem rk_nb6 : RuOk SR ru_nb6 := by
  intro τ m g hi hc ha hS
  obtain ⟨i0, i1, i2, i3, i4, i5, i6, _⟩ := hi
  have t1199 : τ 1199 = some (g 0) := i0
  have t1184 : τ 1184 = some (g 1) := i1
  have t1185 : τ 1185 = some (g 2) := i2
  have t1186 : τ 1186 = some (g 3) := i3
  have t1120 : τ 1120 = some (g 4) := i4
  have xk : g 5 = m 110 28 := i5
  have xp : g 6 = m 110 27 := i6
  obtain ⟨c0, c1, c2, c3, c4, _⟩ := hc
  have c0 : 1 * g 1 + (-1) * g 4 ≤ 0 := d2 c0
  have c1 : (-1) * g 1 + 1 * g 4 ≤ 0 := d2 c1
  have c2 : 1 * g 5 ≤ 1 := d1 c2
  have c3 : (-1) * g 5 ≤ (-1) := d1 c3
  have c4 : 1 * g 1 + (-1) * g 6 ≤ (-11) := d2 c4
  obtain ⟨h0, k_tok, k_sc1, k_sc2, k_T, k_I, k_F, k_N, k_Y, k_Z, k_A, k_B, k_C, k_X, k_R, k_f4⟩ := hS (by rw [t1199]; exact fun e => by cases e)
  have k_T0 := k_T
  obtain ⟨h_T, h_TN, h_QZ⟩ := k_T0
  have k_N0 := k_N
  obtain ⟨h_N, h_Nk, h_V, h_Yq⟩ := k_N0
  have hXL : ((tx9 m).2 : Int) = m 110 1 := by
    show (((m 110 1).toNat : Nat) : Int) = _
    omega
  obtain ⟨⟨hn1, hn2⟩, hnv⟩ := h_N _ _ _ t1184 t1185 t1186
  obtain ⟨⟨hT1, hT2⟩, ⟨hTa, hTk, hTp⟩, _⟩ := h_T _ t1120
  rw [show (g 4).toNat = (g 1).toNat by omega] at hTk hTp
  have hnf := nb_f (X := tx9 m) (p := (g 1).toNat) (c := g 2) (Or.inr (Or.inr (Or.inr (Or.inl (by omega)))))
  exact ⟨rfl, ⟨f1 (by omega), f1 (by omega), trivial⟩, trivial, fun _ => ⟨h0, k_tok, k_sc1, k_sc2, k_T, k_I, k_F, k_N, k_Y, k_Z, k_A, k_B, k_C, k_X, k_R, k_f4⟩⟩
noncomputable def ru_nb7 : Ru := ([(0, (1199, (0, (0, 0)))), (0, (1184, (0, (0, 0)))), (0, (1185, (0, (0, 0)))), (0, (1186, (0, (0, 0)))), (0, (1120, (0, (0, 0)))), (5, (110, (28, (0, 0)))), (5, (110, (27, (0, 0)))), (9, (111, (1, (1, 0)))), (5, (110, (1, (0, 0)))), (10, (0, (1, (1, 0)))), (4, (0, (0, (0, 0))))], ([1187, 1188], ([([(1, 1), (4, (-1))], 0), ([(1, (-1)), (4, 1)], 0), ([(1, (-1))], 0), ([(1, 1), (8, (-1))], (-1)), ([(5, 1)], 1), ([(5, (-1))], (-1)), ([(2, (-1)), (7, 1)], 0), ([(2, 1), (7, (-1))], 0), ([(1, 1), (6, (-1))], (-2)), ([(1, (-1)), (6, 1)], 10)], (false, ([], ([], ([(1187, some (9, 0)), (1188, some (10, 0))], none)))))))
theorem rk_nb7 : RuOk SR ru_nb7 := by
  intro τ m g hi hc ha hS
  obtain ⟨i0, i1, i2, i3, i4, i5, i6, i7, i8, i9, i10, _⟩ := hi
  have t1199 : τ 1199 = some (g 0) := i0
  have t1184 : τ 1184 = some (g 1) := i1
  have t1185 : τ 1185 = some (g 2) := i2
  have t1186 : τ 1186 = some (g 3) := i3
  have t1120 : τ 1120 = some (g 4) := i4
  have xk : g 5 = m 110 28 := i5
  have xp : g 6 = m 110 27 := i6
  obtain ⟨jb, ub, vb⟩ : ∃ j : Nat, 1 * g 1 + 0 = (j : Int) ∧ g 7 = m 111 j := i7
  have xL : g 8 = m 110 1 := i8
  have xk1 : g 9 = g 1 + 1 := i9
  have xo : g 10 = 0 := i10
  obtain ⟨c0, c1, c2, c3, c4, c5, c6, c7, c8, c9, _⟩ := hc
  have c0 : 1 * g 1 + (-1) * g 4 ≤ 0 := d2 c0
  have c1 : (-1) * g 1 + 1 * g 4 ≤ 0 := d2 c1
  have c2 : (-1) * g 1 ≤ 0 := d1 c2
  have c3 : 1 * g 1 + (-1) * g 8 ≤ (-1) := d2 c3
  have c4 : 1 * g 5 ≤ 1 := d1 c4
  have c5 : (-1) * g 5 ≤ (-1) := d1 c5
  have c6 : (-1) * g 2 + 1 * g 7 ≤ 0 := d2 c6
  have c7 : 1 * g 2 + (-1) * g 7 ≤ 0 := d2 c7
  have c8 : 1 * g 1 + (-1) * g 6 ≤ (-2) := d2 c8
  have c9 : (-1) * g 1 + 1 * g 6 ≤ 10 := d2 c9
  obtain ⟨a0, a1, _⟩ := ha
  have n1187 : τ 1187 = none := a0
  have n1188 : τ 1188 = none := a1
  obtain ⟨h0, k_tok, k_sc1, k_sc2, k_T, k_I, k_F, k_N, k_Y, k_Z, k_A, k_B, k_C, k_X, k_R, k_f4⟩ := hS (by rw [t1199]; exact fun e => by cases e)
  have k_T0 := k_T
  obtain ⟨h_T, h_TN, h_QZ⟩ := k_T0
  have k_N0 := k_N
  obtain ⟨h_N, h_Nk, h_V, h_Yq⟩ := k_N0
  have hXL : ((tx9 m).2 : Int) = m 110 1 := by
    show (((m 110 1).toNat : Nat) : Int) = _
    omega
  obtain ⟨⟨hn1, hn2⟩, hnv⟩ := h_N _ _ _ t1184 t1185 t1186
  obtain ⟨⟨hT1, hT2⟩, ⟨hTa, hTk, hTp⟩, _⟩ := h_T _ t1120
  rw [show (g 4).toNat = (g 1).toNat by omega] at hTk hTp
  have hby : by9 (tx9 m) (g 1).toNat = g 2 := by rw [by_m (by omega), show (g 1).toNat = jb by omega]; omega
  exact ⟨rfl, trivial, trivial, fun _ => ⟨h0, k_tok, k_sc1, k_sc2, k_T, k_I, k_F, ⟨h_N, fun Np Ng Nv Nk Nu e0 e1 e2 e3 e4 => by
      have e0 : g 1 = Np := Option.some.inj (t1184.symm.trans e0)
      subst e0
      have e1 : g 2 = Ng := Option.some.inj (t1185.symm.trans e1)
      subst e1
      have e2 : g 3 = Nv := Option.some.inj (t1186.symm.trans e2)
      subst e2
      have e3 : g 9 + 0 = Nk := Option.some.inj e3
      subst e3
      have e4 : g 10 + 0 = Nu := Option.some.inj e4
      subst e4
      refine ⟨⟨by omega, hby⟩, ⟨by omega, by omega⟩, ⟨by omega, by omega⟩, ?_, ?_⟩
      · rw [show (g 9 + 0).toNat = (g 1).toNat + 1 by omega]
        exact af_0
      · rw [show (g 9 + 0).toNat - (g 1).toNat - 1 = 0 by omega]
        show g 10 + 0 = 0
        omega, h_V, h_Yq⟩, k_Y, k_Z, k_A, k_B, k_C, k_X, k_R, k_f4⟩⟩
noncomputable def ru_nb8 : Ru := ([(0, (1199, (0, (0, 0)))), (0, (1184, (0, (0, 0)))), (0, (1185, (0, (0, 0)))), (0, (1186, (0, (0, 0)))), (0, (1187, (0, (0, 0)))), (0, (1188, (0, (0, 0)))), (9, (111, (4, (1, 0)))), (5, (110, (1, (0, 0)))), (1, (3, (0, (0, 0))))], ([], ([([(4, (-1))], 0), ([(4, 1), (7, (-1))], (-1)), ([(6, (-1))], (-48)), ([(6, 1)], 57), ([(5, (-10)), (6, (-1)), (8, 1)], (-48)), ([(5, 10), (6, 1), (8, (-1))], 48)], (false, ([], ([], ([(1187, some (4, 1)), (1188, some (8, 0))], none)))))))
theorem rk_nb8 : RuOk SR ru_nb8 := by
  intro τ m g hi hc ha hS
  obtain ⟨i0, i1, i2, i3, i4, i5, i6, i7, i8, _⟩ := hi
  have t1199 : τ 1199 = some (g 0) := i0
  have t1184 : τ 1184 = some (g 1) := i1
  have t1185 : τ 1185 = some (g 2) := i2
  have t1186 : τ 1186 = some (g 3) := i3
  have t1187 : τ 1187 = some (g 4) := i4
  have t1188 : τ 1188 = some (g 5) := i5
  obtain ⟨jb, ub, vb⟩ : ∃ j : Nat, 1 * g 4 + 0 = (j : Int) ∧ g 6 = m 111 j := i6
  have xL : g 7 = m 110 1 := i7
  obtain ⟨c0, c1, c2, c3, c4, c5, _⟩ := hc
  have c0 : (-1) * g 4 ≤ 0 := d1 c0
  have c1 : 1 * g 4 + (-1) * g 7 ≤ (-1) := d2 c1
  have c2 : (-1) * g 6 ≤ (-48) := d1 c2
  have c3 : 1 * g 6 ≤ 57 := d1 c3
  have c4 : (-10) * g 5 + (-1) * g 6 + 1 * g 8 ≤ (-48) := d3 c4
  have c5 : 10 * g 5 + 1 * g 6 + (-1) * g 8 ≤ 48 := d3 c5
  obtain ⟨h0, k_tok, k_sc1, k_sc2, k_T, k_I, k_F, k_N, k_Y, k_Z, k_A, k_B, k_C, k_X, k_R, k_f4⟩ := hS (by rw [t1199]; exact fun e => by cases e)
  have k_N0 := k_N
  obtain ⟨h_N, h_Nk, h_V, h_Yq⟩ := k_N0
  have hXL : ((tx9 m).2 : Int) = m 110 1 := by
    show (((m 110 1).toNat : Nat) : Int) = _
    omega
  obtain ⟨⟨hn1, hn2⟩, hnv⟩ := h_N _ _ _ t1184 t1185 t1186
  obtain ⟨⟨hk1, hk2⟩, ⟨hk3, hk4⟩, ⟨hk5, hk6⟩, hk7, hk8⟩ := h_Nk _ _ _ _ _ t1184 t1185 t1186 t1187 t1188
  have hfi := fi_m (m := m) (p := (g 4).toNat) (by omega) (by rw [show (g 4).toNat = jb by omega]; omega) (by rw [show (g 4).toNat = jb by omega]; omega)
  have hby : by9 (tx9 m) (g 4).toNat = g 6 := by rw [by_m (by omega), show (g 4).toNat = jb by omega]; exact vb.symm
  have hal : al9 (tx9 m) (g 4).toNat = true := by unfold al9; rw [hfi, Bool.or_true]
  have hne : (g 4).toNat ≠ te9 (tx9 m) (g 1).toNat := fun e => by
    have := (te_al hk1).2
    rw [← e, hal] at this
    cases this
  exact ⟨rfl, trivial, trivial, fun _ => ⟨h0, k_tok, k_sc1, k_sc2, k_T, k_I, k_F, ⟨h_N, fun Np Ng Nv Nk Nu e0 e1 e2 e3 e4 => by
      have e0 : g 1 = Np := Option.some.inj (t1184.symm.trans e0)
      subst e0
      have e1 : g 2 = Ng := Option.some.inj (t1185.symm.trans e1)
      subst e1
      have e2 : g 3 = Nv := Option.some.inj (t1186.symm.trans e2)
      subst e2
      have e3 : g 4 + 1 = Nk := Option.some.inj e3
      subst e3
      have e4 : g 8 + 0 = Nu := Option.some.inj e4
      subst e4
      refine ⟨⟨hk1, hk2⟩, ⟨hk3, hk4⟩, ⟨by omega, by omega⟩, ?_, ?_⟩
      · rw [show (g 4 + 1).toNat = (g 4).toNat + 1 by omega, af_s (by omega), hk7, hfi]
        rfl
      · rw [show (g 4 + 1).toNat - (g 1).toNat - 1 = ((g 4).toNat - (g 1).toNat - 1) + 1 by omega, nm_s, ← hk8, show (g 1).toNat + 1 + ((g 4).toNat - (g 1).toNat - 1) = (g 4).toNat by omega, hby]
        omega, h_V, h_Yq⟩, k_Y, k_Z, k_A, k_B, k_C, k_X, k_R, k_f4⟩⟩
noncomputable def ru_nb9a : Ru := ([(0, (1199, (0, (0, 0)))), (0, (1184, (0, (0, 0)))), (0, (1185, (0, (0, 0)))), (0, (1186, (0, (0, 0)))), (0, (1187, (0, (0, 0)))), (0, (1188, (0, (0, 0)))), (9, (111, (4, (1, 0)))), (5, (110, (1, (0, 0)))), (0, (1120, (0, (0, 0)))), (5, (110, (27, (0, 0))))], ([], ([([(1, 1), (8, (-1))], 0), ([(1, (-1)), (8, 1)], 0), ([(4, (-1))], 0), ([(4, 1), (7, (-1))], (-1)), ([(4, 1), (9, (-1))], (-1)), ([(6, 1)], 47)], (false, ([([(3, 1)], (-1)), ([(3, (-1))], 1)], ([], ([], none)))))))
theorem rk_nb9a : RuOk SR ru_nb9a := by
  intro τ m g hi hc ha hS
  obtain ⟨i0, i1, i2, i3, i4, i5, i6, i7, i8, i9, _⟩ := hi
  have t1199 : τ 1199 = some (g 0) := i0
  have t1184 : τ 1184 = some (g 1) := i1
  have t1185 : τ 1185 = some (g 2) := i2
  have t1186 : τ 1186 = some (g 3) := i3
  have t1187 : τ 1187 = some (g 4) := i4
  have t1188 : τ 1188 = some (g 5) := i5
  obtain ⟨jb, ub, vb⟩ : ∃ j : Nat, 1 * g 4 + 0 = (j : Int) ∧ g 6 = m 111 j := i6
  have xL : g 7 = m 110 1 := i7
  have t1120 : τ 1120 = some (g 8) := i8
  have xp : g 9 = m 110 27 := i9
  obtain ⟨c0, c1, c2, c3, c4, c5, _⟩ := hc
  have c0 : 1 * g 1 + (-1) * g 8 ≤ 0 := d2 c0
  have c1 : (-1) * g 1 + 1 * g 8 ≤ 0 := d2 c1
  have c2 : (-1) * g 4 ≤ 0 := d1 c2
  have c3 : 1 * g 4 + (-1) * g 7 ≤ (-1) := d2 c3
  have c4 : 1 * g 4 + (-1) * g 9 ≤ (-1) := d2 c4
  have c5 : 1 * g 6 ≤ 47 := d1 c5
  obtain ⟨h0, k_tok, k_sc1, k_sc2, k_T, k_I, k_F, k_N, k_Y, k_Z, k_A, k_B, k_C, k_X, k_R, k_f4⟩ := hS (by rw [t1199]; exact fun e => by cases e)
  have k_T0 := k_T
  obtain ⟨h_T, h_TN, h_QZ⟩ := k_T0
  have k_N0 := k_N
  obtain ⟨h_N, h_Nk, h_V, h_Yq⟩ := k_N0
  have hXL : ((tx9 m).2 : Int) = m 110 1 := by
    show (((m 110 1).toNat : Nat) : Int) = _
    omega
  obtain ⟨⟨hn1, hn2⟩, hnv⟩ := h_N _ _ _ t1184 t1185 t1186
  obtain ⟨⟨hT1, hT2⟩, ⟨hTa, hTk, hTp⟩, _⟩ := h_T _ t1120
  rw [show (g 8).toNat = (g 1).toNat by omega] at hTk hTp
  obtain ⟨⟨hk1, hk2⟩, ⟨hk3, hk4⟩, ⟨hk5, hk6⟩, hk7, hk8⟩ := h_Nk _ _ _ _ _ t1184 t1185 t1186 t1187 t1188
  have hfn : fi9 (tx9 m) (g 4).toNat = false := fi_n (by rw [by_m (by omega), show (g 4).toNat = jb by omega]; omega)
  have hnf := nb_f (X := tx9 m) (p := (g 1).toNat) (c := g 2) (Or.inr (Or.inr (Or.inr (Or.inr (af_no (i := (g 4).toNat) (by omega) (by omega) hfn)))))
  exact ⟨rfl, ⟨f1 (by omega), f1 (by omega), trivial⟩, trivial, fun _ => ⟨h0, k_tok, k_sc1, k_sc2, k_T, k_I, k_F, k_N, k_Y, k_Z, k_A, k_B, k_C, k_X, k_R, k_f4⟩⟩
noncomputable def ru_nb9b : Ru := ([(0, (1199, (0, (0, 0)))), (0, (1184, (0, (0, 0)))), (0, (1185, (0, (0, 0)))), (0, (1186, (0, (0, 0)))), (0, (1187, (0, (0, 0)))), (0, (1188, (0, (0, 0)))), (9, (111, (4, (1, 0)))), (5, (110, (1, (0, 0)))), (0, (1120, (0, (0, 0)))), (5, (110, (27, (0, 0))))], ([], ([([(1, 1), (8, (-1))], 0), ([(1, (-1)), (8, 1)], 0), ([(4, (-1))], 0), ([(4, 1), (7, (-1))], (-1)), ([(4, 1), (9, (-1))], (-1)), ([(6, (-1))], (-58))], (false, ([([(3, 1)], (-1)), ([(3, (-1))], 1)], ([], ([], none)))))))
theorem rk_nb9b : RuOk SR ru_nb9b := by
  intro τ m g hi hc ha hS
  obtain ⟨i0, i1, i2, i3, i4, i5, i6, i7, i8, i9, _⟩ := hi
  have t1199 : τ 1199 = some (g 0) := i0
  have t1184 : τ 1184 = some (g 1) := i1
  have t1185 : τ 1185 = some (g 2) := i2
  have t1186 : τ 1186 = some (g 3) := i3
  have t1187 : τ 1187 = some (g 4) := i4
  have t1188 : τ 1188 = some (g 5) := i5
  obtain ⟨jb, ub, vb⟩ : ∃ j : Nat, 1 * g 4 + 0 = (j : Int) ∧ g 6 = m 111 j := i6
  have xL : g 7 = m 110 1 := i7
  have t1120 : τ 1120 = some (g 8) := i8
  have xp : g 9 = m 110 27 := i9
  obtain ⟨c0, c1, c2, c3, c4, c5, _⟩ := hc
  have c0 : 1 * g 1 + (-1) * g 8 ≤ 0 := d2 c0
  have c1 : (-1) * g 1 + 1 * g 8 ≤ 0 := d2 c1
  have c2 : (-1) * g 4 ≤ 0 := d1 c2
  have c3 : 1 * g 4 + (-1) * g 7 ≤ (-1) := d2 c3
  have c4 : 1 * g 4 + (-1) * g 9 ≤ (-1) := d2 c4
  have c5 : (-1) * g 6 ≤ (-58) := d1 c5
  obtain ⟨h0, k_tok, k_sc1, k_sc2, k_T, k_I, k_F, k_N, k_Y, k_Z, k_A, k_B, k_C, k_X, k_R, k_f4⟩ := hS (by rw [t1199]; exact fun e => by cases e)
  have k_T0 := k_T
  obtain ⟨h_T, h_TN, h_QZ⟩ := k_T0
  have k_N0 := k_N
  obtain ⟨h_N, h_Nk, h_V, h_Yq⟩ := k_N0
  have hXL : ((tx9 m).2 : Int) = m 110 1 := by
    show (((m 110 1).toNat : Nat) : Int) = _
    omega
  obtain ⟨⟨hn1, hn2⟩, hnv⟩ := h_N _ _ _ t1184 t1185 t1186
  obtain ⟨⟨hT1, hT2⟩, ⟨hTa, hTk, hTp⟩, _⟩ := h_T _ t1120
  rw [show (g 8).toNat = (g 1).toNat by omega] at hTk hTp
  obtain ⟨⟨hk1, hk2⟩, ⟨hk3, hk4⟩, ⟨hk5, hk6⟩, hk7, hk8⟩ := h_Nk _ _ _ _ _ t1184 t1185 t1186 t1187 t1188
  have hfn : fi9 (tx9 m) (g 4).toNat = false := fi_n (by rw [by_m (by omega), show (g 4).toNat = jb by omega]; omega)
  have hnf := nb_f (X := tx9 m) (p := (g 1).toNat) (c := g 2) (Or.inr (Or.inr (Or.inr (Or.inr (af_no (i := (g 4).toNat) (by omega) (by omega) hfn)))))
  exact ⟨rfl, ⟨f1 (by omega), f1 (by omega), trivial⟩, trivial, fun _ => ⟨h0, k_tok, k_sc1, k_sc2, k_T, k_I, k_F, k_N, k_Y, k_Z, k_A, k_B, k_C, k_X, k_R, k_f4⟩⟩
noncomputable def ru_nb9c : Ru := ([(0, (1199, (0, (0, 0)))), (0, (1184, (0, (0, 0)))), (0, (1185, (0, (0, 0)))), (0, (1186, (0, (0, 0)))), (0, (1187, (0, (0, 0)))), (0, (1188, (0, (0, 0)))), (0, (1120, (0, (0, 0)))), (5, (110, (27, (0, 0)))), (5, (110, (1, (0, 0))))], ([], ([([(1, 1), (6, (-1))], 0), ([(1, (-1)), (6, 1)], 0), ([(4, 1), (7, (-1))], (-1)), ([(4, (-1)), (8, 1)], 0)], (true, ([], ([], ([], none)))))))
theorem rk_nb9c : RuOk SR ru_nb9c := by
  intro τ m g hi hc ha hS
  obtain ⟨i0, i1, i2, i3, i4, i5, i6, i7, i8, _⟩ := hi
  have t1199 : τ 1199 = some (g 0) := i0
  have t1184 : τ 1184 = some (g 1) := i1
  have t1185 : τ 1185 = some (g 2) := i2
  have t1186 : τ 1186 = some (g 3) := i3
  have t1187 : τ 1187 = some (g 4) := i4
  have t1188 : τ 1188 = some (g 5) := i5
  have t1120 : τ 1120 = some (g 6) := i6
  have xp : g 7 = m 110 27 := i7
  have xL : g 8 = m 110 1 := i8
  obtain ⟨c0, c1, c2, c3, _⟩ := hc
  have c0 : 1 * g 1 + (-1) * g 6 ≤ 0 := d2 c0
  have c1 : (-1) * g 1 + 1 * g 6 ≤ 0 := d2 c1
  have c2 : 1 * g 4 + (-1) * g 7 ≤ (-1) := d2 c2
  have c3 : (-1) * g 4 + 1 * g 8 ≤ 0 := d2 c3
  obtain ⟨h0, k_tok, k_sc1, k_sc2, k_T, k_I, k_F, k_N, k_Y, k_Z, k_A, k_B, k_C, k_X, k_R, k_f4⟩ := hS (by rw [t1199]; exact fun e => by cases e)
  have k_T0 := k_T
  obtain ⟨h_T, h_TN, h_QZ⟩ := k_T0
  have k_N0 := k_N
  obtain ⟨h_N, h_Nk, h_V, h_Yq⟩ := k_N0
  have hXL : ((tx9 m).2 : Int) = m 110 1 := by
    show (((m 110 1).toNat : Nat) : Int) = _
    omega
  obtain ⟨⟨hn1, hn2⟩, hnv⟩ := h_N _ _ _ t1184 t1185 t1186
  obtain ⟨⟨hT1, hT2⟩, ⟨hTa, hTk, hTp⟩, _⟩ := h_T _ t1120
  rw [show (g 6).toNat = (g 1).toNat by omega] at hTk hTp
  obtain ⟨⟨hk1, hk2⟩, ⟨hk3, hk4⟩, ⟨hk5, hk6⟩, hk7, hk8⟩ := h_Nk _ _ _ _ _ t1184 t1185 t1186 t1187 t1188
  have := (te_al hk1).1.2
  exfalso
  omega
noncomputable def ru_nbE : Ru := ([(0, (1199, (0, (0, 0)))), (0, (1184, (0, (0, 0)))), (0, (1185, (0, (0, 0)))), (0, (1186, (0, (0, 0)))), (0, (1187, (0, (0, 0)))), (0, (1188, (0, (0, 0)))), (0, (1120, (0, (0, 0)))), (5, (110, (27, (0, 0))))], ([], ([([(1, 1), (6, (-1))], 0), ([(1, (-1)), (6, 1)], 0), ([(4, (-1)), (7, 1)], 0)], (false, ([([(3, 1), (5, (-1))], 0), ([(3, (-1)), (5, 1)], 0)], ([], ([], none)))))))
theorem rk_nbE : RuOk SR ru_nbE := by
  intro τ m g hi hc ha hS
  obtain ⟨i0, i1, i2, i3, i4, i5, i6, i7, _⟩ := hi
  have t1199 : τ 1199 = some (g 0) := i0
  have t1184 : τ 1184 = some (g 1) := i1
  have t1185 : τ 1185 = some (g 2) := i2
  have t1186 : τ 1186 = some (g 3) := i3
  have t1187 : τ 1187 = some (g 4) := i4
  have t1188 : τ 1188 = some (g 5) := i5
  have t1120 : τ 1120 = some (g 6) := i6
  have xp : g 7 = m 110 27 := i7
  obtain ⟨c0, c1, c2, _⟩ := hc
  have c0 : 1 * g 1 + (-1) * g 6 ≤ 0 := d2 c0
  have c1 : (-1) * g 1 + 1 * g 6 ≤ 0 := d2 c1
  have c2 : (-1) * g 4 + 1 * g 7 ≤ 0 := d2 c2
  obtain ⟨h0, k_tok, k_sc1, k_sc2, k_T, k_I, k_F, k_N, k_Y, k_Z, k_A, k_B, k_C, k_X, k_R, k_f4⟩ := hS (by rw [t1199]; exact fun e => by cases e)
  have k_T0 := k_T
  obtain ⟨h_T, h_TN, h_QZ⟩ := k_T0
  have k_N0 := k_N
  obtain ⟨h_N, h_Nk, h_V, h_Yq⟩ := k_N0
  have hXL : ((tx9 m).2 : Int) = m 110 1 := by
    show (((m 110 1).toNat : Nat) : Int) = _
    omega
  obtain ⟨⟨hn1, hn2⟩, hnv⟩ := h_N _ _ _ t1184 t1185 t1186
  obtain ⟨⟨hT1, hT2⟩, ⟨hTa, hTk, hTp⟩, _⟩ := h_T _ t1120
  rw [show (g 6).toNat = (g 1).toNat by omega] at hTk hTp
  obtain ⟨⟨hk1, hk2⟩, ⟨hk3, hk4⟩, ⟨hk5, hk6⟩, hk7, hk8⟩ := h_Nk _ _ _ _ _ t1184 t1185 t1186 t1187 t1188
  have ek : (g 4).toNat = te9 (tx9 m) (g 1).toNat := by omega
  rw [ek] at hk7 hk8
  have hnt := nb_t (X := tx9 m) (p := (g 1).toNat) (c := g 2) hk1 hk2 (by omega) (by omega) hk7
  exact ⟨rfl, ⟨f2 (by omega), f2 (by omega), trivial⟩, trivial, fun _ => ⟨h0, k_tok, k_sc1, k_sc2, k_T, k_I, k_F, k_N, k_Y, k_Z, k_A, k_B, k_C, k_X, k_R, k_f4⟩⟩
end
