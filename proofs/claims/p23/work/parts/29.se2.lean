noncomputable section
/-! ===== THE READER, 75: rules ===== -/
noncomputable def ru_fo4 : Ru := ([(0, (1199, (0, (0, 0)))), (0, (1120, (0, (0, 0)))), (0, (1123, (0, (0, 0)))), (0, (1124, (0, (0, 0)))), (0, (1150, (0, (0, 0)))), (0, (1151, (0, (0, 0)))), (0, (1152, (0, (0, 0)))), (0, (1153, (0, (0, 0)))), (0, (1121, (0, (0, 0))))], ([1154], ([([(1, (-1)), (2, 1)], 0), ([(1, 1), (2, (-1))], 0), ([(1, (-1)), (7, 1)], 0), ([(1, 1), (7, (-1))], 0), ([(3, 1)], 20), ([(3, (-1))], (-20))], (false, ([], ([], ([(1154, some (8, 0))], none)))))))
theorem rk_fo4 : RuOk SR ru_fo4 := by
  intro τ m g hi hc ha hS
  obtain ⟨i0, i1, i2, i3, i4, i5, i6, i7, i8, _⟩ := hi
  have t1199 : τ 1199 = some (g 0) := i0
  have t1120 : τ 1120 = some (g 1) := i1
  have t1123 : τ 1123 = some (g 2) := i2
  have t1124 : τ 1124 = some (g 3) := i3
  have t1150 : τ 1150 = some (g 4) := i4
  have t1151 : τ 1151 = some (g 5) := i5
  have t1152 : τ 1152 = some (g 6) := i6
  have t1153 : τ 1153 = some (g 7) := i7
  have t1121 : τ 1121 = some (g 8) := i8
  obtain ⟨c0, c1, c2, c3, c4, c5, _⟩ := hc
  have c0 : (-1) * g 1 + 1 * g 2 ≤ 0 := d2 c0
  have c1 : 1 * g 1 + (-1) * g 2 ≤ 0 := d2 c1
  have c2 : (-1) * g 1 + 1 * g 7 ≤ 0 := d2 c2
  have c3 : 1 * g 1 + (-1) * g 7 ≤ 0 := d2 c3
  have c4 : 1 * g 3 ≤ 20 := d1 c4
  have c5 : (-1) * g 3 ≤ (-20) := d1 c5
  obtain ⟨a0, _⟩ := ha
  have n1154 : τ 1154 = none := a0
  obtain ⟨h0, k_tok, k_sc1, k_sc2, k_T, k_I, k_F, k_N, k_Y, k_Z, k_A, k_B, k_C, k_X, k_R, k_f4⟩ := hS (by rw [t1199]; exact fun e => by cases e)
  have k_T0 := k_T
  obtain ⟨h_T, h_TN, h_QZ⟩ := k_T0
  have k_I0 := k_I
  obtain ⟨h_p, h_pc, h_ip, h_iP, h_PC, h_PN⟩ := k_I0
  have k_F0 := k_F
  obtain ⟨h_F0, h_F, h_F1, h_F2⟩ := k_F0
  have hXL : ((tx9 m).2 : Int) = m 110 1 := by
    show (((m 110 1).toNat : Nat) : Int) = _
    omega
  obtain ⟨⟨hT1, hT2⟩, ⟨hTa, hTk, hTp⟩, _⟩ := h_T _ t1120
  have hnL := nx_P (m := m) (p := (g 1).toNat) (by omega)
  have hte := te_P (m := m) (p := (g 1).toNat) (by omega)
  have hcc := h_pc _ _ t1123 t1124
  rw [show (g 2).toNat = (g 1).toNat by omega] at hcc
  have hko := kd_of (X := tx9 m) (p := (g 1).toNat)
  have hN := h_TN _ _ t1120 t1121
  exact ⟨rfl, trivial, trivial, fun _ => ⟨h0, k_tok, k_sc1, k_sc2, k_T, k_I, ⟨h_F0, h_F, h_F1, fun F1 F2 e0 e1 => by
      have e0 : g 7 = F1 := Option.some.inj (t1153.symm.trans e0)
      subst e0
      have e1 : g 8 + 0 = F2 := Option.some.inj e1
      subst e1
      rw [show (g 7).toNat = (g 1).toNat by omega]
      exact ⟨by omega, by omega⟩⟩, k_N, k_Y, k_Z, k_A, k_B, k_C, k_X, k_R, k_f4⟩⟩
noncomputable def ru_fza : Ru := ([(0, (1199, (0, (0, 0)))), (0, (1120, (0, (0, 0)))), (0, (1123, (0, (0, 0)))), (0, (1124, (0, (0, 0)))), (0, (1150, (0, (0, 0)))), (0, (1151, (0, (0, 0)))), (0, (1152, (0, (0, 0)))), (0, (1153, (0, (0, 0)))), (0, (1154, (0, (0, 0))))], ([], ([([(1, (-1)), (2, 1)], 0), ([(1, 1), (2, (-1))], 0), ([(1, (-1)), (8, 1)], 0), ([(1, 1), (8, (-1))], 0), ([(3, 1)], 39)], (false, ([([(6, 1), (8, (-1))], 0), ([(6, (-1)), (8, 1)], 0), ([(5, 1)], (-1)), ([(5, (-1))], 1)], ([], ([], none)))))))
theorem rk_fza : RuOk SR ru_fza := by
  intro τ m g hi hc ha hS
  obtain ⟨i0, i1, i2, i3, i4, i5, i6, i7, i8, _⟩ := hi
  have t1199 : τ 1199 = some (g 0) := i0
  have t1120 : τ 1120 = some (g 1) := i1
  have t1123 : τ 1123 = some (g 2) := i2
  have t1124 : τ 1124 = some (g 3) := i3
  have t1150 : τ 1150 = some (g 4) := i4
  have t1151 : τ 1151 = some (g 5) := i5
  have t1152 : τ 1152 = some (g 6) := i6
  have t1153 : τ 1153 = some (g 7) := i7
  have t1154 : τ 1154 = some (g 8) := i8
  obtain ⟨c0, c1, c2, c3, c4, _⟩ := hc
  have c0 : (-1) * g 1 + 1 * g 2 ≤ 0 := d2 c0
  have c1 : 1 * g 1 + (-1) * g 2 ≤ 0 := d2 c1
  have c2 : (-1) * g 1 + 1 * g 8 ≤ 0 := d2 c2
  have c3 : 1 * g 1 + (-1) * g 8 ≤ 0 := d2 c3
  have c4 : 1 * g 3 ≤ 39 := d1 c4
  obtain ⟨h0, k_tok, k_sc1, k_sc2, k_T, k_I, k_F, k_N, k_Y, k_Z, k_A, k_B, k_C, k_X, k_R, k_f4⟩ := hS (by rw [t1199]; exact fun e => by cases e)
  have k_T0 := k_T
  obtain ⟨h_T, h_TN, h_QZ⟩ := k_T0
  have k_I0 := k_I
  obtain ⟨h_p, h_pc, h_ip, h_iP, h_PC, h_PN⟩ := k_I0
  have k_F0 := k_F
  obtain ⟨h_F0, h_F, h_F1, h_F2⟩ := k_F0
  have hXL : ((tx9 m).2 : Int) = m 110 1 := by
    show (((m 110 1).toNat : Nat) : Int) = _
    omega
  obtain ⟨⟨hT1, hT2⟩, ⟨hTa, hTk, hTp⟩, _⟩ := h_T _ t1120
  have hnL := nx_P (m := m) (p := (g 1).toNat) (by omega)
  have hte := te_P (m := m) (p := (g 1).toNat) (by omega)
  have hcc := h_pc _ _ t1123 t1124
  rw [show (g 2).toNat = (g 1).toNat by omega] at hcc
  have hko := kd_of (X := tx9 m) (p := (g 1).toNat)
  have hFx := h_F _ _ _ t1150 t1151 t1152
  obtain ⟨⟨ha1, ha2⟩, ha3⟩ := h_F1 _ _ t1150 t1153
  obtain ⟨hb1, hb2⟩ := h_F2 _ _ t1153 t1154
  have ef : ff9 (KT9 (tx9 m)) (g 4).toNat = Int.negSucc (g 1).toNat := (m_e1 (w := wl9 m) (d := 0) ha1 ha2 (show Rm9 (tx9 m) (wl9 m) 23 0 (nx9t (tx9 m) (g 4).toNat) (Int.negSucc (g 1).toNat) from by
    rw [show nx9t (tx9 m) (g 4).toNat = (g 7).toNat by omega]
    exact m_e2 (w := wl9 m) (d := 0) (by omega) (by omega) (show Rm9 (tx9 m) (wl9 m) 24 0 (nx9t (tx9 m) (g 7).toNat) (Int.negSucc (g 1).toNat) from by
      rw [show nx9t (tx9 m) (g 7).toNat = (g 1).toNat by omega]
      exact m_e3a (by omega)))).symm
  obtain ⟨y1, y2⟩ := YE_bad hFx ef
  exact ⟨rfl, ⟨f2 (by omega), f2 (by omega), f1 (by omega), f1 (by omega), trivial⟩, trivial, fun _ => ⟨h0, k_tok, k_sc1, k_sc2, k_T, k_I, k_F, k_N, k_Y, k_Z, k_A, k_B, k_C, k_X, k_R, k_f4⟩⟩
noncomputable def ru_fzb : Ru := ([(0, (1199, (0, (0, 0)))), (0, (1120, (0, (0, 0)))), (0, (1123, (0, (0, 0)))), (0, (1124, (0, (0, 0)))), (0, (1150, (0, (0, 0)))), (0, (1151, (0, (0, 0)))), (0, (1152, (0, (0, 0)))), (0, (1153, (0, (0, 0)))), (0, (1154, (0, (0, 0))))], ([], ([([(1, (-1)), (2, 1)], 0), ([(1, 1), (2, (-1))], 0), ([(1, (-1)), (8, 1)], 0), ([(1, 1), (8, (-1))], 0), ([(3, (-1))], (-48))], (false, ([([(6, 1), (8, (-1))], 0), ([(6, (-1)), (8, 1)], 0), ([(5, 1)], (-1)), ([(5, (-1))], 1)], ([], ([], none)))))))
theorem rk_fzb : RuOk SR ru_fzb := by
  intro τ m g hi hc ha hS
  obtain ⟨i0, i1, i2, i3, i4, i5, i6, i7, i8, _⟩ := hi
  have t1199 : τ 1199 = some (g 0) := i0
  have t1120 : τ 1120 = some (g 1) := i1
  have t1123 : τ 1123 = some (g 2) := i2
  have t1124 : τ 1124 = some (g 3) := i3
  have t1150 : τ 1150 = some (g 4) := i4
  have t1151 : τ 1151 = some (g 5) := i5
  have t1152 : τ 1152 = some (g 6) := i6
  have t1153 : τ 1153 = some (g 7) := i7
  have t1154 : τ 1154 = some (g 8) := i8
  obtain ⟨c0, c1, c2, c3, c4, _⟩ := hc
  have c0 : (-1) * g 1 + 1 * g 2 ≤ 0 := d2 c0
  have c1 : 1 * g 1 + (-1) * g 2 ≤ 0 := d2 c1
  have c2 : (-1) * g 1 + 1 * g 8 ≤ 0 := d2 c2
  have c3 : 1 * g 1 + (-1) * g 8 ≤ 0 := d2 c3
  have c4 : (-1) * g 3 ≤ (-48) := d1 c4
  obtain ⟨h0, k_tok, k_sc1, k_sc2, k_T, k_I, k_F, k_N, k_Y, k_Z, k_A, k_B, k_C, k_X, k_R, k_f4⟩ := hS (by rw [t1199]; exact fun e => by cases e)
  have k_T0 := k_T
  obtain ⟨h_T, h_TN, h_QZ⟩ := k_T0
  have k_I0 := k_I
  obtain ⟨h_p, h_pc, h_ip, h_iP, h_PC, h_PN⟩ := k_I0
  have k_F0 := k_F
  obtain ⟨h_F0, h_F, h_F1, h_F2⟩ := k_F0
  have hXL : ((tx9 m).2 : Int) = m 110 1 := by
    show (((m 110 1).toNat : Nat) : Int) = _
    omega
  obtain ⟨⟨hT1, hT2⟩, ⟨hTa, hTk, hTp⟩, _⟩ := h_T _ t1120
  have hnL := nx_P (m := m) (p := (g 1).toNat) (by omega)
  have hte := te_P (m := m) (p := (g 1).toNat) (by omega)
  have hcc := h_pc _ _ t1123 t1124
  rw [show (g 2).toNat = (g 1).toNat by omega] at hcc
  have hko := kd_of (X := tx9 m) (p := (g 1).toNat)
  have hFx := h_F _ _ _ t1150 t1151 t1152
  obtain ⟨⟨ha1, ha2⟩, ha3⟩ := h_F1 _ _ t1150 t1153
  obtain ⟨hb1, hb2⟩ := h_F2 _ _ t1153 t1154
  have ef : ff9 (KT9 (tx9 m)) (g 4).toNat = Int.negSucc (g 1).toNat := (m_e1 (w := wl9 m) (d := 0) ha1 ha2 (show Rm9 (tx9 m) (wl9 m) 23 0 (nx9t (tx9 m) (g 4).toNat) (Int.negSucc (g 1).toNat) from by
    rw [show nx9t (tx9 m) (g 4).toNat = (g 7).toNat by omega]
    exact m_e2 (w := wl9 m) (d := 0) (by omega) (by omega) (show Rm9 (tx9 m) (wl9 m) 24 0 (nx9t (tx9 m) (g 7).toNat) (Int.negSucc (g 1).toNat) from by
      rw [show nx9t (tx9 m) (g 7).toNat = (g 1).toNat by omega]
      exact m_e3b (by omega)))).symm
  obtain ⟨y1, y2⟩ := YE_bad hFx ef
  exact ⟨rfl, ⟨f2 (by omega), f2 (by omega), f1 (by omega), f1 (by omega), trivial⟩, trivial, fun _ => ⟨h0, k_tok, k_sc1, k_sc2, k_T, k_I, k_F, k_N, k_Y, k_Z, k_A, k_B, k_C, k_X, k_R, k_f4⟩⟩
noncomputable def ru_fzc : Ru := ([(0, (1199, (0, (0, 0)))), (0, (1120, (0, (0, 0)))), (0, (1123, (0, (0, 0)))), (0, (1124, (0, (0, 0)))), (0, (1150, (0, (0, 0)))), (0, (1151, (0, (0, 0)))), (0, (1152, (0, (0, 0)))), (0, (1153, (0, (0, 0)))), (0, (1154, (0, (0, 0)))), (0, (1121, (0, (0, 0))))], ([], ([([(1, (-1)), (2, 1)], 0), ([(1, 1), (2, (-1))], 0), ([(1, (-1)), (8, 1)], 0), ([(1, 1), (8, (-1))], 0), ([(3, (-1))], (-40)), ([(3, 1)], 47)], (false, ([([(5, 1), (9, (-1))], 0), ([(5, (-1)), (9, 1)], 0), ([(6, 1)], (-1)), ([(6, (-1))], 1)], ([], ([], none)))))))
theorem rk_fzc : RuOk SR ru_fzc := by
  intro τ m g hi hc ha hS
  obtain ⟨i0, i1, i2, i3, i4, i5, i6, i7, i8, i9, _⟩ := hi
  have t1199 : τ 1199 = some (g 0) := i0
  have t1120 : τ 1120 = some (g 1) := i1
  have t1123 : τ 1123 = some (g 2) := i2
  have t1124 : τ 1124 = some (g 3) := i3
  have t1150 : τ 1150 = some (g 4) := i4
  have t1151 : τ 1151 = some (g 5) := i5
  have t1152 : τ 1152 = some (g 6) := i6
  have t1153 : τ 1153 = some (g 7) := i7
  have t1154 : τ 1154 = some (g 8) := i8
  have t1121 : τ 1121 = some (g 9) := i9
  obtain ⟨c0, c1, c2, c3, c4, c5, _⟩ := hc
  have c0 : (-1) * g 1 + 1 * g 2 ≤ 0 := d2 c0
  have c1 : 1 * g 1 + (-1) * g 2 ≤ 0 := d2 c1
  have c2 : (-1) * g 1 + 1 * g 8 ≤ 0 := d2 c2
  have c3 : 1 * g 1 + (-1) * g 8 ≤ 0 := d2 c3
  have c4 : (-1) * g 3 ≤ (-40) := d1 c4
  have c5 : 1 * g 3 ≤ 47 := d1 c5
  obtain ⟨h0, k_tok, k_sc1, k_sc2, k_T, k_I, k_F, k_N, k_Y, k_Z, k_A, k_B, k_C, k_X, k_R, k_f4⟩ := hS (by rw [t1199]; exact fun e => by cases e)
  have k_T0 := k_T
  obtain ⟨h_T, h_TN, h_QZ⟩ := k_T0
  have k_I0 := k_I
  obtain ⟨h_p, h_pc, h_ip, h_iP, h_PC, h_PN⟩ := k_I0
  have k_F0 := k_F
  obtain ⟨h_F0, h_F, h_F1, h_F2⟩ := k_F0
  have hXL : ((tx9 m).2 : Int) = m 110 1 := by
    show (((m 110 1).toNat : Nat) : Int) = _
    omega
  obtain ⟨⟨hT1, hT2⟩, ⟨hTa, hTk, hTp⟩, _⟩ := h_T _ t1120
  have hnL := nx_P (m := m) (p := (g 1).toNat) (by omega)
  have hte := te_P (m := m) (p := (g 1).toNat) (by omega)
  have hcc := h_pc _ _ t1123 t1124
  rw [show (g 2).toNat = (g 1).toNat by omega] at hcc
  have hko := kd_of (X := tx9 m) (p := (g 1).toNat)
  have hFx := h_F _ _ _ t1150 t1151 t1152
  obtain ⟨⟨ha1, ha2⟩, ha3⟩ := h_F1 _ _ t1150 t1153
  obtain ⟨hb1, hb2⟩ := h_F2 _ _ t1153 t1154
  have hN := h_TN _ _ t1120 t1121
  have ef : ff9 (KT9 (tx9 m)) (g 4).toNat = Int.ofNat (nx9t (tx9 m) (g 1).toNat) := (m_e1 (w := wl9 m) (d := 0) ha1 ha2 (show Rm9 (tx9 m) (wl9 m) 23 0 (nx9t (tx9 m) (g 4).toNat) (Int.ofNat (nx9t (tx9 m) (g 1).toNat)) from by
    rw [show nx9t (tx9 m) (g 4).toNat = (g 7).toNat by omega]
    exact m_e2 (w := wl9 m) (d := 0) (by omega) (by omega) (show Rm9 (tx9 m) (wl9 m) 24 0 (nx9t (tx9 m) (g 7).toNat) (Int.ofNat (nx9t (tx9 m) (g 1).toNat)) from by
      rw [show nx9t (tx9 m) (g 7).toNat = (g 1).toNat by omega]
      exact m_e3 (by omega) (by omega)))).symm
  obtain ⟨y1, y2⟩ := YE_ok hFx ef
  exact ⟨rfl, ⟨f2 (by omega), f2 (by omega), f1 (by omega), f1 (by omega), trivial⟩, trivial, fun _ => ⟨h0, k_tok, k_sc1, k_sc2, k_T, k_I, k_F, k_N, k_Y, k_Z, k_A, k_B, k_C, k_X, k_R, k_f4⟩⟩
noncomputable def ru_ffr : Ru := ([], ([], ([], (false, ([], ([], ([(1150, none), (1151, none), (1152, none), (1153, none), (1154, none), (1125, none), (1126, none), (1127, none)], none)))))))
theorem rk_ffr : RuOk SR ru_ffr := by
  intro τ m g hi hc ha hS
  refine ⟨rfl, trivial, trivial, fun hM => ?_⟩
  obtain ⟨h0, k_tok, k_sc1, k_sc2, k_T, k_I, k_F, k_N, k_Y, k_Z, k_A, k_B, k_C, k_X, k_R, k_f4⟩ := hS hM
  have k_I0 := k_I
  obtain ⟨h_p, h_pc, h_ip, h_iP, h_PC, h_PN⟩ := k_I0
  have k_F0 := k_F
  obtain ⟨h_F0, h_F, h_F1, h_F2⟩ := k_F0
  exact ⟨h0, k_tok, k_sc1, k_sc2, k_T, ⟨h_p, h_pc, h_ip, fun _ _ _ e0 e1 e2 => no9 (o := none) rfl e2, fun _ _ e0 e1 => no9 (o := none) rfl e0, fun _ _ _ e0 e1 e2 => no9 (o := none) rfl e0⟩, ⟨fun _ _ e0 e1 => no9 (o := none) rfl e0, fun _ _ _ e0 e1 e2 => no9 (o := none) rfl e0, fun _ _ e0 e1 => no9 (o := none) rfl e0, fun _ _ e0 e1 => no9 (o := none) rfl e0⟩, k_N, k_Y, k_Z, k_A, k_B, k_C, k_X, k_R, k_f4⟩
noncomputable def ru_fdr : Ru := ([], ([], ([], (false, ([], ([], ([(1153, none), (1154, none), (1123, none), (1124, none), (1120, none), (1121, none)], none)))))))
theorem rk_fdr : RuOk SR ru_fdr := by
  intro τ m g hi hc ha hS
  refine ⟨rfl, trivial, trivial, fun hM => ?_⟩
  obtain ⟨h0, k_tok, k_sc1, k_sc2, k_T, k_I, k_F, k_N, k_Y, k_Z, k_A, k_B, k_C, k_X, k_R, k_f4⟩ := hS hM
  have k_T0 := k_T
  obtain ⟨h_T, h_TN, h_QZ⟩ := k_T0
  have k_I0 := k_I
  obtain ⟨h_p, h_pc, h_ip, h_iP, h_PC, h_PN⟩ := k_I0
  have k_F0 := k_F
  obtain ⟨h_F0, h_F, h_F1, h_F2⟩ := k_F0
  exact ⟨h0, k_tok, k_sc1, k_sc2, ⟨fun _ e0 => no9 (o := none) rfl e0, fun _ _ e0 e1 => no9 (o := none) rfl e0, h_QZ⟩, ⟨fun _ e0 => no9 (o := none) rfl e0, fun _ _ e0 e1 => no9 (o := none) rfl e0, fun _ _ _ e0 e1 e2 => no9 (o := none) rfl e2, fun _ _ _ e0 e1 e2 => no9 (o := none) rfl e1, h_PC, h_PN⟩, ⟨h_F0, h_F, fun _ _ e0 e1 => no9 (o := none) rfl e1, fun _ _ e0 e1 => no9 (o := none) rfl e0⟩, k_N, k_Y, k_Z, k_A, k_B, k_C, k_X, k_R, k_f4⟩
noncomputable def ru_fdk : Ru := ([], ([], ([], (false, ([], ([], ([(1153, none), (1154, none), (1123, none), (1124, none)], none)))))))
theorem rk_fdk : RuOk SR ru_fdk := by
  intro τ m g hi hc ha hS
  refine ⟨rfl, trivial, trivial, fun hM => ?_⟩
  obtain ⟨h0, k_tok, k_sc1, k_sc2, k_T, k_I, k_F, k_N, k_Y, k_Z, k_A, k_B, k_C, k_X, k_R, k_f4⟩ := hS hM
  have k_I0 := k_I
  obtain ⟨h_p, h_pc, h_ip, h_iP, h_PC, h_PN⟩ := k_I0
  have k_F0 := k_F
  obtain ⟨h_F0, h_F, h_F1, h_F2⟩ := k_F0
  exact ⟨h0, k_tok, k_sc1, k_sc2, k_T, ⟨fun _ e0 => no9 (o := none) rfl e0, fun _ _ e0 e1 => no9 (o := none) rfl e0, fun _ _ _ e0 e1 e2 => no9 (o := none) rfl e2, fun _ _ _ e0 e1 e2 => no9 (o := none) rfl e1, h_PC, h_PN⟩, ⟨h_F0, h_F, fun _ _ e0 e1 => no9 (o := none) rfl e1, fun _ _ e0 e1 => no9 (o := none) rfl e0⟩, k_N, k_Y, k_Z, k_A, k_B, k_C, k_X, k_R, k_f4⟩
noncomputable def ru_rC : Ru := ([(0, (1199, (0, (0, 0)))), (0, (1160, (0, (0, 0)))), (0, (1161, (0, (0, 0)))), (0, (1162, (0, (0, 0)))), (0, (1163, (0, (0, 0)))), (0, (1164, (0, (0, 0)))), (0, (1165, (0, (0, 0)))), (0, (1167, (0, (0, 0))))], ([1166, 1168], ([], (false, ([], ([], ([(1166, some (3, 0)), (1168, some (7, 0)), (1167, none)], none)))))))
theorem rk_rC : RuOk SR ru_rC := by
  intro τ m g hi hc ha hS
  obtain ⟨i0, i1, i2, i3, i4, i5, i6, i7, _⟩ := hi
  have t1199 : τ 1199 = some (g 0) := i0
  have t1160 : τ 1160 = some (g 1) := i1
  have t1161 : τ 1161 = some (g 2) := i2
  have t1162 : τ 1162 = some (g 3) := i3
  have t1163 : τ 1163 = some (g 4) := i4
  have t1164 : τ 1164 = some (g 5) := i5
  have t1165 : τ 1165 = some (g 6) := i6
  have t1167 : τ 1167 = some (g 7) := i7
  obtain ⟨a0, a1, _⟩ := ha
  have n1166 : τ 1166 = none := a0
  have n1168 : τ 1168 = none := a1
  obtain ⟨h0, k_tok, k_sc1, k_sc2, k_T, k_I, k_F, k_N, k_Y, k_Z, k_A, k_B, k_C, k_X, k_R, k_f4⟩ := hS (by rw [t1199]; exact fun e => by cases e)
  have k_R0 := k_R
  obtain ⟨h_rb, h_rh, h_rw, h_rg, h_rd, h_rc, h_rq⟩ := k_R0
  obtain ⟨ho0, ⟨hb0, hb1⟩, hRb⟩ := h_rb _ _ t1160 t1161
  obtain ⟨hh1, hh2, hwk⟩ := h_rh _ _ _ t1160 t1161 t1162
  obtain ⟨hg1, hg2⟩ := h_rg _ _ _ t1160 t1162 t1167
  have hw := h_rw _ _ _ _ _ t1160 t1161 t1162 t1163 t1164
  exact ⟨rfl, trivial, trivial, fun _ => ⟨h0, k_tok, k_sc1, k_sc2, k_T, k_I, k_F, k_N, k_Y, k_Z, k_A, k_B, k_C, k_X, ⟨h_rb, h_rh, h_rw, fun _ _ _ e0 e1 e2 => no9 (o := none) rfl e2, h_rd, fun Ro Rb Rh Rr Rw Rc e0 e1 e2 e3 e4 e5 => by
      have e0 : g 1 = Ro := Option.some.inj (t1160.symm.trans e0)
      subst e0
      have e1 : g 2 = Rb := Option.some.inj (t1161.symm.trans e1)
      subst e1
      have e2 : g 3 = Rh := Option.some.inj (t1162.symm.trans e2)
      subst e2
      have e3 : g 4 = Rr := Option.some.inj (t1163.symm.trans e3)
      subst e3
      have e4 : g 5 = Rw := Option.some.inj (t1164.symm.trans e4)
      subst e4
      have e5 : g 3 + 0 = Rc := Option.some.inj e5
      subst e5
      rw [Int.add_zero]
      exact ⟨⟨by omega, by omega⟩, hw⟩, fun Ro Rc Rq e0 e1 e2 => by
      have e0 : g 1 = Ro := Option.some.inj (t1160.symm.trans e0)
      subst e0
      have e1 : g 3 + 0 = Rc := Option.some.inj e1
      subst e1
      have e2 : g 7 + 0 = Rq := Option.some.inj e2
      subst e2
      rw [Int.add_zero, Int.add_zero]
      exact hg2⟩, k_f4⟩⟩
noncomputable def ru_rE : Ru := ([(0, (1199, (0, (0, 0)))), (0, (1160, (0, (0, 0)))), (0, (1161, (0, (0, 0)))), (0, (1162, (0, (0, 0)))), (0, (1163, (0, (0, 0)))), (0, (1164, (0, (0, 0)))), (0, (1165, (0, (0, 0)))), (0, (1166, (0, (0, 0)))), (0, (1168, (0, (0, 0))))], ([], ([([(2, (-1)), (7, 1)], 0), ([(2, 1), (7, (-1))], 0)], (false, ([([(5, 1), (7, (-1))], 0), ([(5, (-1)), (7, 1)], 0), ([(6, 1), (8, (-1))], 0), ([(6, (-1)), (8, 1)], 0)], ([], ([], none)))))))
theorem rk_rE : RuOk SR ru_rE := by
  intro τ m g hi hc ha hS
  obtain ⟨i0, i1, i2, i3, i4, i5, i6, i7, i8, _⟩ := hi
  have t1199 : τ 1199 = some (g 0) := i0
  have t1160 : τ 1160 = some (g 1) := i1
  have t1161 : τ 1161 = some (g 2) := i2
  have t1162 : τ 1162 = some (g 3) := i3
  have t1163 : τ 1163 = some (g 4) := i4
  have t1164 : τ 1164 = some (g 5) := i5
  have t1165 : τ 1165 = some (g 6) := i6
  have t1166 : τ 1166 = some (g 7) := i7
  have t1168 : τ 1168 = some (g 8) := i8
  obtain ⟨c0, c1, _⟩ := hc
  have c0 : (-1) * g 2 + 1 * g 7 ≤ 0 := d2 c0
  have c1 : 1 * g 2 + (-1) * g 7 ≤ 0 := d2 c1
  obtain ⟨h0, k_tok, k_sc1, k_sc2, k_T, k_I, k_F, k_N, k_Y, k_Z, k_A, k_B, k_C, k_X, k_R, k_f4⟩ := hS (by rw [t1199]; exact fun e => by cases e)
  have k_R0 := k_R
  obtain ⟨h_rb, h_rh, h_rw, h_rg, h_rd, h_rc, h_rq⟩ := k_R0
  obtain ⟨ho0, ⟨hb0, hb1⟩, hRb⟩ := h_rb _ _ t1160 t1161
  obtain ⟨hh1, hh2, hwk⟩ := h_rh _ _ _ t1160 t1161 t1162
  obtain ⟨⟨hc1, hc2⟩, hcw⟩ := h_rc _ _ _ _ _ _ t1160 t1161 t1162 t1163 t1164 t1166
  have hq := h_rq _ _ _ t1160 t1166 t1168
  have hd := h_rd _ _ _ t1160 t1164 t1165
  have e0 : (g 7).toNat - (g 2).toNat = 0 := by omega
  rw [e0] at hcw
  have hcw : g 5 = g 2 + ((0 : Nat) : Int) := hcw
  rw [show (g 5).toNat = (g 7).toNat by omega] at hd
  exact ⟨rfl, ⟨f2 (by omega), f2 (by omega), f2 (by omega), f2 (by omega), trivial⟩, trivial, fun _ => ⟨h0, k_tok, k_sc1, k_sc2, k_T, k_I, k_F, k_N, k_Y, k_Z, k_A, k_B, k_C, k_X, k_R, k_f4⟩⟩
noncomputable def ru_rS : Ru := ([(0, (1199, (0, (0, 0)))), (0, (1160, (0, (0, 0)))), (0, (1161, (0, (0, 0)))), (0, (1162, (0, (0, 0)))), (0, (1163, (0, (0, 0)))), (0, (1164, (0, (0, 0)))), (0, (1165, (0, (0, 0)))), (0, (1166, (0, (0, 0)))), (0, (1168, (0, (0, 0)))), (10, (0, (7, ((-1), 0)))), (6, (149, (9, (0, 0))))], ([], ([([(2, 1), (7, (-1))], (-1)), ([(4, (-1)), (10, 1)], (-1))], (false, ([([(5, 1), (7, (-1))], 0), ([(5, (-1)), (7, 1)], 0), ([(6, 1), (8, (-1))], 0), ([(6, (-1)), (8, 1)], 0)], ([], ([], none)))))))
theorem rk_rS : RuOk SR ru_rS := by
  intro τ m g hi hc ha hS
  obtain ⟨i0, i1, i2, i3, i4, i5, i6, i7, i8, i9, i10, _⟩ := hi
  have t1199 : τ 1199 = some (g 0) := i0
  have t1160 : τ 1160 = some (g 1) := i1
  have t1161 : τ 1161 = some (g 2) := i2
  have t1162 : τ 1162 = some (g 3) := i3
  have t1163 : τ 1163 = some (g 4) := i4
  have t1164 : τ 1164 = some (g 5) := i5
  have t1165 : τ 1165 = some (g 6) := i6
  have t1166 : τ 1166 = some (g 7) := i7
  have t1168 : τ 1168 = some (g 8) := i8
  have xi : g 9 = g 7 + (-1) := i9
  obtain ⟨jx, ux, vx⟩ : ∃ j : Nat, g 9 = (j : Int) ∧ g 10 = m 149 j := i10
  obtain ⟨c0, c1, _⟩ := hc
  have c0 : 1 * g 2 + (-1) * g 7 ≤ (-1) := d2 c0
  have c1 : (-1) * g 4 + 1 * g 10 ≤ (-1) := d2 c1
  obtain ⟨h0, k_tok, k_sc1, k_sc2, k_T, k_I, k_F, k_N, k_Y, k_Z, k_A, k_B, k_C, k_X, k_R, k_f4⟩ := hS (by rw [t1199]; exact fun e => by cases e)
  have k_R0 := k_R
  obtain ⟨h_rb, h_rh, h_rw, h_rg, h_rd, h_rc, h_rq⟩ := k_R0
  obtain ⟨ho0, ⟨hb0, hb1⟩, hRb⟩ := h_rb _ _ t1160 t1161
  obtain ⟨hh1, hh2, hwk⟩ := h_rh _ _ _ t1160 t1161 t1162
  obtain ⟨⟨hc1, hc2⟩, hcw⟩ := h_rc _ _ _ _ _ _ t1160 t1161 t1162 t1163 t1164 t1166
  have hq := h_rq _ _ _ t1160 t1166 t1168
  have hd := h_rd _ _ _ t1160 t1164 t1165
  have en : (g 7).toNat - (g 2).toNat = ((g 7).toNat - 1 - (g 2).toNat) + 1 := by omega
  have ei : (g 2).toNat + ((g 7).toNat - 1 - (g 2).toNat) = jx := by omega
  rw [en] at hcw
  have hcw : g 5 = g 2 + ((if (g 4).toNat ≤ (m 149 ((g 2).toNat + ((g 7).toNat - 1 - (g 2).toNat))).toNat then dlX m (g 4).toNat (g 2).toNat ((g 7).toNat - 1 - (g 2).toNat) else ((g 7).toNat - 1 - (g 2).toNat) + 1 : Nat) : Int) := hcw
  rw [ei] at hcw
  have hwx := hwk jx (by omega)
  rw [if_neg (by omega)] at hcw
  have ew : g 5 = g 7 := by omega
  rw [show (g 5).toNat = (g 7).toNat by omega] at hd
  exact ⟨rfl, ⟨f2 (by omega), f2 (by omega), f2 (by omega), f2 (by omega), trivial⟩, trivial, fun _ => ⟨h0, k_tok, k_sc1, k_sc2, k_T, k_I, k_F, k_N, k_Y, k_Z, k_A, k_B, k_C, k_X, k_R, k_f4⟩⟩
noncomputable def ru_rP7 : Ru := ([(0, (1199, (0, (0, 0)))), (0, (1160, (0, (0, 0)))), (0, (1161, (0, (0, 0)))), (0, (1162, (0, (0, 0)))), (0, (1163, (0, (0, 0)))), (0, (1164, (0, (0, 0)))), (0, (1165, (0, (0, 0)))), (0, (1166, (0, (0, 0)))), (0, (1168, (0, (0, 0)))), (10, (0, (7, ((-1), 0)))), (6, (149, (9, (0, 0)))), (6, (148, (9, (0, 0))))], ([], ([([(2, 1), (7, (-1))], (-1)), ([(4, 1), (10, (-1))], 0), ([(3, (-1)), (7, 1)], 0), ([(11, 1)], 7), ([(11, (-1))], (-7))], (false, ([], ([], ([(1166, some (7, (-1))), (1168, some (8, (-1)))], none)))))))
theorem rk_rP7 : RuOk SR ru_rP7 := by
  intro τ m g hi hc ha hS
  obtain ⟨i0, i1, i2, i3, i4, i5, i6, i7, i8, i9, i10, i11, _⟩ := hi
  have t1199 : τ 1199 = some (g 0) := i0
  have t1160 : τ 1160 = some (g 1) := i1
  have t1161 : τ 1161 = some (g 2) := i2
  have t1162 : τ 1162 = some (g 3) := i3
  have t1163 : τ 1163 = some (g 4) := i4
  have t1164 : τ 1164 = some (g 5) := i5
  have t1165 : τ 1165 = some (g 6) := i6
  have t1166 : τ 1166 = some (g 7) := i7
  have t1168 : τ 1168 = some (g 8) := i8
  have xi : g 9 = g 7 + (-1) := i9
  obtain ⟨jx, ux, vx⟩ : ∃ j : Nat, g 9 = (j : Int) ∧ g 10 = m 149 j := i10
  obtain ⟨jcc, ucc, vcc⟩ : ∃ j : Nat, g 9 = (j : Int) ∧ g 11 = m 148 j := i11
  obtain ⟨c0, c1, c2, c3, c4, _⟩ := hc
  have c0 : 1 * g 2 + (-1) * g 7 ≤ (-1) := d2 c0
  have c1 : 1 * g 4 + (-1) * g 10 ≤ 0 := d2 c1
  have c2 : (-1) * g 3 + 1 * g 7 ≤ 0 := d2 c2
  have c3 : 1 * g 11 ≤ 7 := d1 c3
  have c4 : (-1) * g 11 ≤ (-7) := d1 c4
  obtain ⟨h0, k_tok, k_sc1, k_sc2, k_T, k_I, k_F, k_N, k_Y, k_Z, k_A, k_B, k_C, k_X, k_R, k_f4⟩ := hS (by rw [t1199]; exact fun e => by cases e)
  have k_R0 := k_R
  obtain ⟨h_rb, h_rh, h_rw, h_rg, h_rd, h_rc, h_rq⟩ := k_R0
  obtain ⟨ho0, ⟨hb0, hb1⟩, hRb⟩ := h_rb _ _ t1160 t1161
  obtain ⟨hh1, hh2, hwk⟩ := h_rh _ _ _ t1160 t1161 t1162
  obtain ⟨⟨hc1, hc2⟩, hcw⟩ := h_rc _ _ _ _ _ _ t1160 t1161 t1162 t1163 t1164 t1166
  have hq := h_rq _ _ _ t1160 t1166 t1168
  have hd := h_rd _ _ _ t1160 t1164 t1165
  have en : (g 7).toNat - (g 2).toNat = ((g 7).toNat - 1 - (g 2).toNat) + 1 := by omega
  have ei : (g 2).toNat + ((g 7).toNat - 1 - (g 2).toNat) = jx := by omega
  rw [en] at hcw
  have hcw : g 5 = g 2 + ((if (g 4).toNat ≤ (m 149 ((g 2).toNat + ((g 7).toNat - 1 - (g 2).toNat))).toNat then dlX m (g 4).toNat (g 2).toNat ((g 7).toNat - 1 - (g 2).toNat) else ((g 7).toNat - 1 - (g 2).toNat) + 1 : Nat) : Int) := hcw
  rw [ei] at hcw
  have hwx := hwk jx (by omega)
  rw [if_pos (by omega)] at hcw
  rw [show jcc = jx by omega] at vcc
  have ec : (g 7).toNat = jx + 1 := by omega
  rw [ec] at hq
  have hq : g 8 = g 1 + ((if (m 149 jx).toNat = 3 ∨ (m 149 jx).toNat = 7 then 1 else 0 : Nat) + (cnX m jx : Nat) : Int) := by
    rw [hq]
    show _ + (((if (m 149 jx).toNat = 3 ∨ (m 149 jx).toNat = 7 then 1 else 0) + cnX m jx : Nat) : Int) = _
    omega
  rw [if_pos (by omega)] at hq
  exact ⟨rfl, trivial, trivial, fun _ => ⟨h0, k_tok, k_sc1, k_sc2, k_T, k_I, k_F, k_N, k_Y, k_Z, k_A, k_B, k_C, k_X, ⟨h_rb, h_rh, h_rw, h_rg, h_rd, fun Ro Rb Rh Rr Rw Rc e0 e1 e2 e3 e4 e5 => by
      have e0 : g 1 = Ro := Option.some.inj (t1160.symm.trans e0)
      subst e0
      have e1 : g 2 = Rb := Option.some.inj (t1161.symm.trans e1)
      subst e1
      have e2 : g 3 = Rh := Option.some.inj (t1162.symm.trans e2)
      subst e2
      have e3 : g 4 = Rr := Option.some.inj (t1163.symm.trans e3)
      subst e3
      have e4 : g 5 = Rw := Option.some.inj (t1164.symm.trans e4)
      subst e4
      have e5 : g 7 + (-1) = Rc := Option.some.inj e5
      subst e5
      rw [show (g 7 + (-1)).toNat = (g 7).toNat - 1 by omega]
      exact ⟨⟨by omega, by omega⟩, hcw⟩, fun Ro Rc Rq e0 e1 e2 => by
      have e0 : g 1 = Ro := Option.some.inj (t1160.symm.trans e0)
      subst e0
      have e1 : g 7 + (-1) = Rc := Option.some.inj e1
      subst e1
      have e2 : g 8 + (-1) = Rq := Option.some.inj e2
      subst e2
      rw [show (g 7 + (-1)).toNat = jx by omega]
      omega⟩, k_f4⟩⟩
noncomputable def ru_rP8 : Ru := ([(0, (1199, (0, (0, 0)))), (0, (1160, (0, (0, 0)))), (0, (1161, (0, (0, 0)))), (0, (1162, (0, (0, 0)))), (0, (1163, (0, (0, 0)))), (0, (1164, (0, (0, 0)))), (0, (1165, (0, (0, 0)))), (0, (1166, (0, (0, 0)))), (0, (1168, (0, (0, 0)))), (10, (0, (7, ((-1), 0)))), (6, (149, (9, (0, 0)))), (6, (148, (9, (0, 0))))], ([], ([([(2, 1), (7, (-1))], (-1)), ([(4, 1), (10, (-1))], 0), ([(3, (-1)), (7, 1)], 0), ([(11, 1)], 16), ([(11, (-1))], (-16))], (false, ([], ([], ([(1166, some (7, (-1))), (1168, some (8, (-1)))], none)))))))
theorem rk_rP8 : RuOk SR ru_rP8 := by
  intro τ m g hi hc ha hS
  obtain ⟨i0, i1, i2, i3, i4, i5, i6, i7, i8, i9, i10, i11, _⟩ := hi
  have t1199 : τ 1199 = some (g 0) := i0
  have t1160 : τ 1160 = some (g 1) := i1
  have t1161 : τ 1161 = some (g 2) := i2
  have t1162 : τ 1162 = some (g 3) := i3
  have t1163 : τ 1163 = some (g 4) := i4
  have t1164 : τ 1164 = some (g 5) := i5
  have t1165 : τ 1165 = some (g 6) := i6
  have t1166 : τ 1166 = some (g 7) := i7
  have t1168 : τ 1168 = some (g 8) := i8
  have xi : g 9 = g 7 + (-1) := i9
  obtain ⟨jx, ux, vx⟩ : ∃ j : Nat, g 9 = (j : Int) ∧ g 10 = m 149 j := i10
  obtain ⟨jcc, ucc, vcc⟩ : ∃ j : Nat, g 9 = (j : Int) ∧ g 11 = m 148 j := i11
  obtain ⟨c0, c1, c2, c3, c4, _⟩ := hc
  have c0 : 1 * g 2 + (-1) * g 7 ≤ (-1) := d2 c0
  have c1 : 1 * g 4 + (-1) * g 10 ≤ 0 := d2 c1
  have c2 : (-1) * g 3 + 1 * g 7 ≤ 0 := d2 c2
  have c3 : 1 * g 11 ≤ 16 := d1 c3
  have c4 : (-1) * g 11 ≤ (-16) := d1 c4
  obtain ⟨h0, k_tok, k_sc1, k_sc2, k_T, k_I, k_F, k_N, k_Y, k_Z, k_A, k_B, k_C, k_X, k_R, k_f4⟩ := hS (by rw [t1199]; exact fun e => by cases e)
  have k_R0 := k_R
  obtain ⟨h_rb, h_rh, h_rw, h_rg, h_rd, h_rc, h_rq⟩ := k_R0
  obtain ⟨ho0, ⟨hb0, hb1⟩, hRb⟩ := h_rb _ _ t1160 t1161
  obtain ⟨hh1, hh2, hwk⟩ := h_rh _ _ _ t1160 t1161 t1162
  obtain ⟨⟨hc1, hc2⟩, hcw⟩ := h_rc _ _ _ _ _ _ t1160 t1161 t1162 t1163 t1164 t1166
  have hq := h_rq _ _ _ t1160 t1166 t1168
  have hd := h_rd _ _ _ t1160 t1164 t1165
  have en : (g 7).toNat - (g 2).toNat = ((g 7).toNat - 1 - (g 2).toNat) + 1 := by omega
  have ei : (g 2).toNat + ((g 7).toNat - 1 - (g 2).toNat) = jx := by omega
  rw [en] at hcw
  have hcw : g 5 = g 2 + ((if (g 4).toNat ≤ (m 149 ((g 2).toNat + ((g 7).toNat - 1 - (g 2).toNat))).toNat then dlX m (g 4).toNat (g 2).toNat ((g 7).toNat - 1 - (g 2).toNat) else ((g 7).toNat - 1 - (g 2).toNat) + 1 : Nat) : Int) := hcw
  rw [ei] at hcw
  have hwx := hwk jx (by omega)
  rw [if_pos (by omega)] at hcw
  rw [show jcc = jx by omega] at vcc
  have ec : (g 7).toNat = jx + 1 := by omega
  rw [ec] at hq
  have hq : g 8 = g 1 + ((if (m 149 jx).toNat = 3 ∨ (m 149 jx).toNat = 7 then 1 else 0 : Nat) + (cnX m jx : Nat) : Int) := by
    rw [hq]
    show _ + (((if (m 149 jx).toNat = 3 ∨ (m 149 jx).toNat = 7 then 1 else 0) + cnX m jx : Nat) : Int) = _
    omega
  rw [if_pos (by omega)] at hq
  exact ⟨rfl, trivial, trivial, fun _ => ⟨h0, k_tok, k_sc1, k_sc2, k_T, k_I, k_F, k_N, k_Y, k_Z, k_A, k_B, k_C, k_X, ⟨h_rb, h_rh, h_rw, h_rg, h_rd, fun Ro Rb Rh Rr Rw Rc e0 e1 e2 e3 e4 e5 => by
      have e0 : g 1 = Ro := Option.some.inj (t1160.symm.trans e0)
      subst e0
      have e1 : g 2 = Rb := Option.some.inj (t1161.symm.trans e1)
      subst e1
      have e2 : g 3 = Rh := Option.some.inj (t1162.symm.trans e2)
      subst e2
      have e3 : g 4 = Rr := Option.some.inj (t1163.symm.trans e3)
      subst e3
      have e4 : g 5 = Rw := Option.some.inj (t1164.symm.trans e4)
      subst e4
      have e5 : g 7 + (-1) = Rc := Option.some.inj e5
      subst e5
      rw [show (g 7 + (-1)).toNat = (g 7).toNat - 1 by omega]
      exact ⟨⟨by omega, by omega⟩, hcw⟩, fun Ro Rc Rq e0 e1 e2 => by
      have e0 : g 1 = Ro := Option.some.inj (t1160.symm.trans e0)
      subst e0
      have e1 : g 7 + (-1) = Rc := Option.some.inj e1
      subst e1
      have e2 : g 8 + (-1) = Rq := Option.some.inj e2
      subst e2
      rw [show (g 7 + (-1)).toNat = jx by omega]
      omega⟩, k_f4⟩⟩
noncomputable def ru_rPa : Ru := ([(0, (1199, (0, (0, 0)))), (0, (1160, (0, (0, 0)))), (0, (1161, (0, (0, 0)))), (0, (1162, (0, (0, 0)))), (0, (1163, (0, (0, 0)))), (0, (1164, (0, (0, 0)))), (0, (1165, (0, (0, 0)))), (0, (1166, (0, (0, 0)))), (0, (1168, (0, (0, 0)))), (10, (0, (7, ((-1), 0)))), (6, (149, (9, (0, 0)))), (6, (148, (9, (0, 0))))], ([], ([([(2, 1), (7, (-1))], (-1)), ([(4, 1), (10, (-1))], 0), ([(3, (-1)), (7, 1)], 0), ([(11, 1)], 6)], (false, ([], ([], ([(1166, some (7, (-1)))], none)))))))
theorem rk_rPa : RuOk SR ru_rPa := by
  intro τ m g hi hc ha hS
  obtain ⟨i0, i1, i2, i3, i4, i5, i6, i7, i8, i9, i10, i11, _⟩ := hi
  have t1199 : τ 1199 = some (g 0) := i0
  have t1160 : τ 1160 = some (g 1) := i1
  have t1161 : τ 1161 = some (g 2) := i2
  have t1162 : τ 1162 = some (g 3) := i3
  have t1163 : τ 1163 = some (g 4) := i4
  have t1164 : τ 1164 = some (g 5) := i5
  have t1165 : τ 1165 = some (g 6) := i6
  have t1166 : τ 1166 = some (g 7) := i7
  have t1168 : τ 1168 = some (g 8) := i8
  have xi : g 9 = g 7 + (-1) := i9
  obtain ⟨jx, ux, vx⟩ : ∃ j : Nat, g 9 = (j : Int) ∧ g 10 = m 149 j := i10
  obtain ⟨jcc, ucc, vcc⟩ : ∃ j : Nat, g 9 = (j : Int) ∧ g 11 = m 148 j := i11
  obtain ⟨c0, c1, c2, c3, _⟩ := hc
  have c0 : 1 * g 2 + (-1) * g 7 ≤ (-1) := d2 c0
  have c1 : 1 * g 4 + (-1) * g 10 ≤ 0 := d2 c1
  have c2 : (-1) * g 3 + 1 * g 7 ≤ 0 := d2 c2
  have c3 : 1 * g 11 ≤ 6 := d1 c3
  obtain ⟨h0, k_tok, k_sc1, k_sc2, k_T, k_I, k_F, k_N, k_Y, k_Z, k_A, k_B, k_C, k_X, k_R, k_f4⟩ := hS (by rw [t1199]; exact fun e => by cases e)
  have k_R0 := k_R
  obtain ⟨h_rb, h_rh, h_rw, h_rg, h_rd, h_rc, h_rq⟩ := k_R0
  obtain ⟨ho0, ⟨hb0, hb1⟩, hRb⟩ := h_rb _ _ t1160 t1161
  obtain ⟨hh1, hh2, hwk⟩ := h_rh _ _ _ t1160 t1161 t1162
  obtain ⟨⟨hc1, hc2⟩, hcw⟩ := h_rc _ _ _ _ _ _ t1160 t1161 t1162 t1163 t1164 t1166
  have hq := h_rq _ _ _ t1160 t1166 t1168
  have hd := h_rd _ _ _ t1160 t1164 t1165
  have en : (g 7).toNat - (g 2).toNat = ((g 7).toNat - 1 - (g 2).toNat) + 1 := by omega
  have ei : (g 2).toNat + ((g 7).toNat - 1 - (g 2).toNat) = jx := by omega
  rw [en] at hcw
  have hcw : g 5 = g 2 + ((if (g 4).toNat ≤ (m 149 ((g 2).toNat + ((g 7).toNat - 1 - (g 2).toNat))).toNat then dlX m (g 4).toNat (g 2).toNat ((g 7).toNat - 1 - (g 2).toNat) else ((g 7).toNat - 1 - (g 2).toNat) + 1 : Nat) : Int) := hcw
  rw [ei] at hcw
  have hwx := hwk jx (by omega)
  rw [if_pos (by omega)] at hcw
  rw [show jcc = jx by omega] at vcc
  have ec : (g 7).toNat = jx + 1 := by omega
  rw [ec] at hq
  have hq : g 8 = g 1 + ((if (m 149 jx).toNat = 3 ∨ (m 149 jx).toNat = 7 then 1 else 0 : Nat) + (cnX m jx : Nat) : Int) := by
    rw [hq]
    show _ + (((if (m 149 jx).toNat = 3 ∨ (m 149 jx).toNat = 7 then 1 else 0) + cnX m jx : Nat) : Int) = _
    omega
  rw [if_neg (by omega)] at hq
  exact ⟨rfl, trivial, trivial, fun _ => ⟨h0, k_tok, k_sc1, k_sc2, k_T, k_I, k_F, k_N, k_Y, k_Z, k_A, k_B, k_C, k_X, ⟨h_rb, h_rh, h_rw, h_rg, h_rd, fun Ro Rb Rh Rr Rw Rc e0 e1 e2 e3 e4 e5 => by
      have e0 : g 1 = Ro := Option.some.inj (t1160.symm.trans e0)
      subst e0
      have e1 : g 2 = Rb := Option.some.inj (t1161.symm.trans e1)
      subst e1
      have e2 : g 3 = Rh := Option.some.inj (t1162.symm.trans e2)
      subst e2
      have e3 : g 4 = Rr := Option.some.inj (t1163.symm.trans e3)
      subst e3
      have e4 : g 5 = Rw := Option.some.inj (t1164.symm.trans e4)
      subst e4
      have e5 : g 7 + (-1) = Rc := Option.some.inj e5
      subst e5
      rw [show (g 7 + (-1)).toNat = (g 7).toNat - 1 by omega]
      exact ⟨⟨by omega, by omega⟩, hcw⟩, fun Ro Rc Rq e0 e1 e2 => by
      have e0 : g 1 = Ro := Option.some.inj (t1160.symm.trans e0)
      subst e0
      have e1 : g 7 + (-1) = Rc := Option.some.inj e1
      subst e1
      have e2 : g 8 = Rq := Option.some.inj (t1168.symm.trans e2)
      subst e2
      rw [show (g 7 + (-1)).toNat = jx by omega]
      omega⟩, k_f4⟩⟩
noncomputable def ru_rPb : Ru := ([(0, (1199, (0, (0, 0)))), (0, (1160, (0, (0, 0)))), (0, (1161, (0, (0, 0)))), (0, (1162, (0, (0, 0)))), (0, (1163, (0, (0, 0)))), (0, (1164, (0, (0, 0)))), (0, (1165, (0, (0, 0)))), (0, (1166, (0, (0, 0)))), (0, (1168, (0, (0, 0)))), (10, (0, (7, ((-1), 0)))), (6, (149, (9, (0, 0)))), (6, (148, (9, (0, 0))))], ([], ([([(2, 1), (7, (-1))], (-1)), ([(4, 1), (10, (-1))], 0), ([(3, (-1)), (7, 1)], 0), ([(11, (-1))], (-8)), ([(11, 1)], 15)], (false, ([], ([], ([(1166, some (7, (-1)))], none)))))))
theorem rk_rPb : RuOk SR ru_rPb := by
  intro τ m g hi hc ha hS
  obtain ⟨i0, i1, i2, i3, i4, i5, i6, i7, i8, i9, i10, i11, _⟩ := hi
  have t1199 : τ 1199 = some (g 0) := i0
  have t1160 : τ 1160 = some (g 1) := i1
  have t1161 : τ 1161 = some (g 2) := i2
  have t1162 : τ 1162 = some (g 3) := i3
  have t1163 : τ 1163 = some (g 4) := i4
  have t1164 : τ 1164 = some (g 5) := i5
  have t1165 : τ 1165 = some (g 6) := i6
  have t1166 : τ 1166 = some (g 7) := i7
  have t1168 : τ 1168 = some (g 8) := i8
  have xi : g 9 = g 7 + (-1) := i9
  obtain ⟨jx, ux, vx⟩ : ∃ j : Nat, g 9 = (j : Int) ∧ g 10 = m 149 j := i10
  obtain ⟨jcc, ucc, vcc⟩ : ∃ j : Nat, g 9 = (j : Int) ∧ g 11 = m 148 j := i11
  obtain ⟨c0, c1, c2, c3, c4, _⟩ := hc
  have c0 : 1 * g 2 + (-1) * g 7 ≤ (-1) := d2 c0
  have c1 : 1 * g 4 + (-1) * g 10 ≤ 0 := d2 c1
  have c2 : (-1) * g 3 + 1 * g 7 ≤ 0 := d2 c2
  have c3 : (-1) * g 11 ≤ (-8) := d1 c3
  have c4 : 1 * g 11 ≤ 15 := d1 c4
  obtain ⟨h0, k_tok, k_sc1, k_sc2, k_T, k_I, k_F, k_N, k_Y, k_Z, k_A, k_B, k_C, k_X, k_R, k_f4⟩ := hS (by rw [t1199]; exact fun e => by cases e)
  have k_R0 := k_R
  obtain ⟨h_rb, h_rh, h_rw, h_rg, h_rd, h_rc, h_rq⟩ := k_R0
  obtain ⟨ho0, ⟨hb0, hb1⟩, hRb⟩ := h_rb _ _ t1160 t1161
  obtain ⟨hh1, hh2, hwk⟩ := h_rh _ _ _ t1160 t1161 t1162
  obtain ⟨⟨hc1, hc2⟩, hcw⟩ := h_rc _ _ _ _ _ _ t1160 t1161 t1162 t1163 t1164 t1166
  have hq := h_rq _ _ _ t1160 t1166 t1168
  have hd := h_rd _ _ _ t1160 t1164 t1165
  have en : (g 7).toNat - (g 2).toNat = ((g 7).toNat - 1 - (g 2).toNat) + 1 := by omega
  have ei : (g 2).toNat + ((g 7).toNat - 1 - (g 2).toNat) = jx := by omega
  rw [en] at hcw
  have hcw : g 5 = g 2 + ((if (g 4).toNat ≤ (m 149 ((g 2).toNat + ((g 7).toNat - 1 - (g 2).toNat))).toNat then dlX m (g 4).toNat (g 2).toNat ((g 7).toNat - 1 - (g 2).toNat) else ((g 7).toNat - 1 - (g 2).toNat) + 1 : Nat) : Int) := hcw
  rw [ei] at hcw
  have hwx := hwk jx (by omega)
  rw [if_pos (by omega)] at hcw
  rw [show jcc = jx by omega] at vcc
  have ec : (g 7).toNat = jx + 1 := by omega
  rw [ec] at hq
  have hq : g 8 = g 1 + ((if (m 149 jx).toNat = 3 ∨ (m 149 jx).toNat = 7 then 1 else 0 : Nat) + (cnX m jx : Nat) : Int) := by
    rw [hq]
    show _ + (((if (m 149 jx).toNat = 3 ∨ (m 149 jx).toNat = 7 then 1 else 0) + cnX m jx : Nat) : Int) = _
    omega
  rw [if_neg (by omega)] at hq
  exact ⟨rfl, trivial, trivial, fun _ => ⟨h0, k_tok, k_sc1, k_sc2, k_T, k_I, k_F, k_N, k_Y, k_Z, k_A, k_B, k_C, k_X, ⟨h_rb, h_rh, h_rw, h_rg, h_rd, fun Ro Rb Rh Rr Rw Rc e0 e1 e2 e3 e4 e5 => by
      have e0 : g 1 = Ro := Option.some.inj (t1160.symm.trans e0)
      subst e0
      have e1 : g 2 = Rb := Option.some.inj (t1161.symm.trans e1)
      subst e1
      have e2 : g 3 = Rh := Option.some.inj (t1162.symm.trans e2)
      subst e2
      have e3 : g 4 = Rr := Option.some.inj (t1163.symm.trans e3)
      subst e3
      have e4 : g 5 = Rw := Option.some.inj (t1164.symm.trans e4)
      subst e4
      have e5 : g 7 + (-1) = Rc := Option.some.inj e5
      subst e5
      rw [show (g 7 + (-1)).toNat = (g 7).toNat - 1 by omega]
      exact ⟨⟨by omega, by omega⟩, hcw⟩, fun Ro Rc Rq e0 e1 e2 => by
      have e0 : g 1 = Ro := Option.some.inj (t1160.symm.trans e0)
      subst e0
      have e1 : g 7 + (-1) = Rc := Option.some.inj e1
      subst e1
      have e2 : g 8 = Rq := Option.some.inj (t1168.symm.trans e2)
      subst e2
      rw [show (g 7 + (-1)).toNat = jx by omega]
      omega⟩, k_f4⟩⟩
noncomputable def ru_rPc : Ru := ([(0, (1199, (0, (0, 0)))), (0, (1160, (0, (0, 0)))), (0, (1161, (0, (0, 0)))), (0, (1162, (0, (0, 0)))), (0, (1163, (0, (0, 0)))), (0, (1164, (0, (0, 0)))), (0, (1165, (0, (0, 0)))), (0, (1166, (0, (0, 0)))), (0, (1168, (0, (0, 0)))), (10, (0, (7, ((-1), 0)))), (6, (149, (9, (0, 0)))), (6, (148, (9, (0, 0))))], ([], ([([(2, 1), (7, (-1))], (-1)), ([(4, 1), (10, (-1))], 0), ([(3, (-1)), (7, 1)], 0), ([(11, (-1))], (-17))], (false, ([], ([], ([(1166, some (7, (-1)))], none)))))))
theorem rk_rPc : RuOk SR ru_rPc := by
  intro τ m g hi hc ha hS
  obtain ⟨i0, i1, i2, i3, i4, i5, i6, i7, i8, i9, i10, i11, _⟩ := hi
  have t1199 : τ 1199 = some (g 0) := i0
  have t1160 : τ 1160 = some (g 1) := i1
  have t1161 : τ 1161 = some (g 2) := i2
  have t1162 : τ 1162 = some (g 3) := i3
  have t1163 : τ 1163 = some (g 4) := i4
  have t1164 : τ 1164 = some (g 5) := i5
  have t1165 : τ 1165 = some (g 6) := i6
  have t1166 : τ 1166 = some (g 7) := i7
  have t1168 : τ 1168 = some (g 8) := i8
  have xi : g 9 = g 7 + (-1) := i9
  obtain ⟨jx, ux, vx⟩ : ∃ j : Nat, g 9 = (j : Int) ∧ g 10 = m 149 j := i10
  obtain ⟨jcc, ucc, vcc⟩ : ∃ j : Nat, g 9 = (j : Int) ∧ g 11 = m 148 j := i11
  obtain ⟨c0, c1, c2, c3, _⟩ := hc
  have c0 : 1 * g 2 + (-1) * g 7 ≤ (-1) := d2 c0
  have c1 : 1 * g 4 + (-1) * g 10 ≤ 0 := d2 c1
  have c2 : (-1) * g 3 + 1 * g 7 ≤ 0 := d2 c2
  have c3 : (-1) * g 11 ≤ (-17) := d1 c3
  obtain ⟨h0, k_tok, k_sc1, k_sc2, k_T, k_I, k_F, k_N, k_Y, k_Z, k_A, k_B, k_C, k_X, k_R, k_f4⟩ := hS (by rw [t1199]; exact fun e => by cases e)
  have k_R0 := k_R
  obtain ⟨h_rb, h_rh, h_rw, h_rg, h_rd, h_rc, h_rq⟩ := k_R0
  obtain ⟨ho0, ⟨hb0, hb1⟩, hRb⟩ := h_rb _ _ t1160 t1161
  obtain ⟨hh1, hh2, hwk⟩ := h_rh _ _ _ t1160 t1161 t1162
  obtain ⟨⟨hc1, hc2⟩, hcw⟩ := h_rc _ _ _ _ _ _ t1160 t1161 t1162 t1163 t1164 t1166
  have hq := h_rq _ _ _ t1160 t1166 t1168
  have hd := h_rd _ _ _ t1160 t1164 t1165
  have en : (g 7).toNat - (g 2).toNat = ((g 7).toNat - 1 - (g 2).toNat) + 1 := by omega
  have ei : (g 2).toNat + ((g 7).toNat - 1 - (g 2).toNat) = jx := by omega
  rw [en] at hcw
  have hcw : g 5 = g 2 + ((if (g 4).toNat ≤ (m 149 ((g 2).toNat + ((g 7).toNat - 1 - (g 2).toNat))).toNat then dlX m (g 4).toNat (g 2).toNat ((g 7).toNat - 1 - (g 2).toNat) else ((g 7).toNat - 1 - (g 2).toNat) + 1 : Nat) : Int) := hcw
  rw [ei] at hcw
  have hwx := hwk jx (by omega)
  rw [if_pos (by omega)] at hcw
  rw [show jcc = jx by omega] at vcc
  have ec : (g 7).toNat = jx + 1 := by omega
  rw [ec] at hq
  have hq : g 8 = g 1 + ((if (m 149 jx).toNat = 3 ∨ (m 149 jx).toNat = 7 then 1 else 0 : Nat) + (cnX m jx : Nat) : Int) := by
    rw [hq]
    show _ + (((if (m 149 jx).toNat = 3 ∨ (m 149 jx).toNat = 7 then 1 else 0) + cnX m jx : Nat) : Int) = _
    omega
  rw [if_neg (by omega)] at hq
  exact ⟨rfl, trivial, trivial, fun _ => ⟨h0, k_tok, k_sc1, k_sc2, k_T, k_I, k_F, k_N, k_Y, k_Z, k_A, k_B, k_C, k_X, ⟨h_rb, h_rh, h_rw, h_rg, h_rd, fun Ro Rb Rh Rr Rw Rc e0 e1 e2 e3 e4 e5 => by
      have e0 : g 1 = Ro := Option.some.inj (t1160.symm.trans e0)
      subst e0
      have e1 : g 2 = Rb := Option.some.inj (t1161.symm.trans e1)
      subst e1
      have e2 : g 3 = Rh := Option.some.inj (t1162.symm.trans e2)
      subst e2
      have e3 : g 4 = Rr := Option.some.inj (t1163.symm.trans e3)
      subst e3
      have e4 : g 5 = Rw := Option.some.inj (t1164.symm.trans e4)
      subst e4
      have e5 : g 7 + (-1) = Rc := Option.some.inj e5
      subst e5
      rw [show (g 7 + (-1)).toNat = (g 7).toNat - 1 by omega]
      exact ⟨⟨by omega, by omega⟩, hcw⟩, fun Ro Rc Rq e0 e1 e2 => by
      have e0 : g 1 = Ro := Option.some.inj (t1160.symm.trans e0)
      subst e0
      have e1 : g 7 + (-1) = Rc := Option.some.inj e1
      subst e1
      have e2 : g 8 = Rq := Option.some.inj (t1168.symm.trans e2)
      subst e2
      rw [show (g 7 + (-1)).toNat = jx by omega]
      omega⟩, k_f4⟩⟩
noncomputable def ru_rX : Ru := ([], ([], ([], (false, ([], ([], ([(1166, none), (1168, none)], none)))))))
theorem rk_rX : RuOk SR ru_rX := by
  intro τ m g hi hc ha hS
  refine ⟨rfl, trivial, trivial, fun hM => ?_⟩
  obtain ⟨h0, k_tok, k_sc1, k_sc2, k_T, k_I, k_F, k_N, k_Y, k_Z, k_A, k_B, k_C, k_X, k_R, k_f4⟩ := hS hM
  have k_R0 := k_R
  obtain ⟨h_rb, h_rh, h_rw, h_rg, h_rd, h_rc, h_rq⟩ := k_R0
  exact ⟨h0, k_tok, k_sc1, k_sc2, k_T, k_I, k_F, k_N, k_Y, k_Z, k_A, k_B, k_C, k_X, ⟨h_rb, h_rh, h_rw, h_rg, h_rd, fun _ _ _ _ _ _ e0 e1 e2 e3 e4 e5 => no9 (o := none) rfl e5, fun _ _ _ e0 e1 e2 => no9 (o := none) rfl e1⟩, k_f4⟩
noncomputable def ru_xNot : Ru := ([(0, (1199, (0, (0, 0)))), (0, (1170, (0, (0, 0)))), (0, (1171, (0, (0, 0)))), (0, (1172, (0, (0, 0)))), (0, (1173, (0, (0, 0)))), (0, (1174, (0, (0, 0)))), (0, (1175, (0, (0, 0)))), (0, (1176, (0, (0, 0)))), (0, (1177, (0, (0, 0)))), (0, (1120, (0, (0, 0)))), (0, (1123, (0, (0, 0)))), (0, (1124, (0, (0, 0)))), (0, (1121, (0, (0, 0)))), (4, (0, (0, (3, 0)))), (4, (0, (0, (1, 0))))], ([1178, 1179, 1180, 1181, 1182, 1155], ([([(9, (-1)), (10, 1)], 0), ([(9, 1), (10, (-1))], 0), ([(3, 1), (9, (-1))], 0), ([(3, (-1)), (9, 1)], 0), ([(4, 1)], 1), ([(4, (-1))], (-1)), ([(5, 1)], 1), ([(5, (-1))], (-1)), ([(11, 1)], 22), ([(11, (-1))], (-22)), ([(8, 1)], 19)], (false, ([], ([], ([(1172, some (12, 0)), (1176, some (7, 1)), (1177, some (8, 1)), (1182, some (13, 0)), (1179, some (14, 0))], none)))))))
theorem rk_xNot : RuOk SR ru_xNot := by
  intro τ m g hi hc ha hS
  obtain ⟨i0, i1, i2, i3, i4, i5, i6, i7, i8, i9, i10, i11, i12, i13, i14, _⟩ := hi
  have t1199 : τ 1199 = some (g 0) := i0
  have t1170 : τ 1170 = some (g 1) := i1
  have t1171 : τ 1171 = some (g 2) := i2
  have t1172 : τ 1172 = some (g 3) := i3
  have t1173 : τ 1173 = some (g 4) := i4
  have t1174 : τ 1174 = some (g 5) := i5
  have t1175 : τ 1175 = some (g 6) := i6
  have t1176 : τ 1176 = some (g 7) := i7
  have t1177 : τ 1177 = some (g 8) := i8
  have t1120 : τ 1120 = some (g 9) := i9
  have t1123 : τ 1123 = some (g 10) := i10
  have t1124 : τ 1124 = some (g 11) := i11
  have t1121 : τ 1121 = some (g 12) := i12
  have xr3 : g 13 = 3 := i13
  have xone : g 14 = 1 := i14
  obtain ⟨c0, c1, c2, c3, c4, c5, c6, c7, c8, c9, c10, _⟩ := hc
  have c0 : (-1) * g 9 + 1 * g 10 ≤ 0 := d2 c0
  have c1 : 1 * g 9 + (-1) * g 10 ≤ 0 := d2 c1
  have c2 : 1 * g 3 + (-1) * g 9 ≤ 0 := d2 c2
  have c3 : (-1) * g 3 + 1 * g 9 ≤ 0 := d2 c3
  have c4 : 1 * g 4 ≤ 1 := d1 c4
  have c5 : (-1) * g 4 ≤ (-1) := d1 c5
  have c6 : 1 * g 5 ≤ 1 := d1 c6
  have c7 : (-1) * g 5 ≤ (-1) := d1 c7
  have c8 : 1 * g 11 ≤ 22 := d1 c8
  have c9 : (-1) * g 11 ≤ (-22) := d1 c9
  have c10 : 1 * g 8 ≤ 19 := d1 c10
  obtain ⟨a0, a1, a2, a3, a4, a5, _⟩ := ha
  have n1178 : τ 1178 = none := a0
  have n1179 : τ 1179 = none := a1
  have n1180 : τ 1180 = none := a2
  have n1181 : τ 1181 = none := a3
  have n1182 : τ 1182 = none := a4
  have n1155 : τ 1155 = none := a5
  obtain ⟨h0, k_tok, k_sc1, k_sc2, k_T, k_I, k_F, k_N, k_Y, k_Z, k_A, k_B, k_C, k_X, k_R, k_f4⟩ := hS (by rw [t1199]; exact fun e => by cases e)
  have k_T0 := k_T
  obtain ⟨h_T, h_TN, h_QZ⟩ := k_T0
  have k_I0 := k_I
  obtain ⟨h_p, h_pc, h_ip, h_iP, h_PC, h_PN⟩ := k_I0
  have k_X0 := k_X
  obtain ⟨h_X0a, h_X0, h_X, h_Xe⟩ := k_X0
  have hXL : ((tx9 m).2 : Int) = m 110 1 := by
    show (((m 110 1).toNat : Nat) : Int) = _
    omega
  have hX := h_X _ _ _ _ _ _ _ _ t1170 t1171 t1172 t1173 t1174 t1175 t1176 t1177
  rw [n1178, n1179, n1180, n1181, n1182] at hX
  obtain ⟨⟨⟨hp1, hp2⟩, hws⟩, ⟨ho0, hv0, hvp, hd0, hd20⟩, ⟨hb0, hbv⟩, hdd⟩ := XB_n hX.1
  have hcc := h_pc _ _ t1123 t1124
  rw [show (g 10).toNat = (g 3).toNat by omega] at hcc
  have hN := h_TN _ _ t1120 t1121
  rw [show (g 9).toNat = (g 3).toNat by omega] at hN
  have hnx := nx_lt (X := tx9 m) (p := (g 3).toNat) (by omega)
  exact ⟨rfl, trivial, trivial, fun _ => ⟨h0, k_tok, k_sc1, k_sc2, k_T, k_I, k_F, k_N, k_Y, k_Z, k_A, k_B, k_C, ⟨fun X1 Xp e0 e1 => by
      have e0 : g 1 = X1 := Option.some.inj (t1170.symm.trans e0)
      subst e0
      have e1 : g 12 + 0 = Xp := Option.some.inj e1
      subst e1
      exact fun hw => no9 hw t1173, fun X1 X2 Xp e0 e1 e2 => by
      have e0 : g 1 = X1 := Option.some.inj (t1170.symm.trans e0)
      subst e0
      have e1 : g 2 = X2 := Option.some.inj (t1171.symm.trans e1)
      subst e1
      have e2 : g 12 + 0 = Xp := Option.some.inj e2
      subst e2
      exact fun hw => no9 hw t1173, fun X1 X2 Xp Xw Xs Xo Xv Xd e0 e1 e2 e3 e4 e5 e6 e7 => by
      have e0 : g 1 = X1 := Option.some.inj (t1170.symm.trans e0)
      subst e0
      have e1 : g 2 = X2 := Option.some.inj (t1171.symm.trans e1)
      subst e1
      have e2 : g 12 + 0 = Xp := Option.some.inj e2
      subst e2
      have e3 : g 4 = Xw := Option.some.inj (t1173.symm.trans e3)
      subst e3
      have e4 : g 5 = Xs := Option.some.inj (t1174.symm.trans e4)
      subst e4
      have e5 : g 6 = Xo := Option.some.inj (t1175.symm.trans e5)
      subst e5
      have e6 : g 7 + 1 = Xv := Option.some.inj e6
      subst e6
      have e7 : g 8 + 1 = Xd := Option.some.inj e7
      subst e7
      exact XS_c (X_not hX (by omega) (by omega) (kq (a := 22) (b := 22) (fun k => k = 1) (by decide) (by omega) (by omega)) (by omega) ⟨by omega, by omega⟩ (by omega) (by omega) (by omega) (by omega) (by omega)) n1178 rfl n1180 n1181 rfl, fun _ _ _ e0 e1 e2 => no9 n1155 e0⟩, k_R, k_f4⟩⟩
noncomputable def ru_xPar1 : Ru := ([(0, (1199, (0, (0, 0)))), (0, (1170, (0, (0, 0)))), (0, (1171, (0, (0, 0)))), (0, (1172, (0, (0, 0)))), (0, (1173, (0, (0, 0)))), (0, (1174, (0, (0, 0)))), (0, (1175, (0, (0, 0)))), (0, (1176, (0, (0, 0)))), (0, (1177, (0, (0, 0)))), (0, (1120, (0, (0, 0)))), (0, (1123, (0, (0, 0)))), (0, (1124, (0, (0, 0)))), (0, (1121, (0, (0, 0)))), (4, (0, (0, (1, 0)))), (4, (0, (0, (0, 0))))], ([1178, 1179, 1180, 1181, 1182, 1155], ([([(9, (-1)), (10, 1)], 0), ([(9, 1), (10, (-1))], 0), ([(3, 1), (9, (-1))], 0), ([(3, (-1)), (9, 1)], 0), ([(4, 1)], 1), ([(4, (-1))], (-1)), ([(5, 1)], 1), ([(5, (-1))], (-1)), ([(11, 1)], 4), ([(11, (-1))], (-4)), ([(8, 1)], 19)], (false, ([], ([], ([(1172, some (12, 0)), (1175, some (6, 1)), (1177, some (8, 1)), (1178, some (13, 0)), (1179, some (14, 0)), (1180, some (14, 0)), (1181, some (7, 0))], none)))))))
theorem rk_xPar1 : RuOk SR ru_xPar1 := by
  intro τ m g hi hc ha hS
  obtain ⟨i0, i1, i2, i3, i4, i5, i6, i7, i8, i9, i10, i11, i12, i13, i14, _⟩ := hi
  have t1199 : τ 1199 = some (g 0) := i0
  have t1170 : τ 1170 = some (g 1) := i1
  have t1171 : τ 1171 = some (g 2) := i2
  have t1172 : τ 1172 = some (g 3) := i3
  have t1173 : τ 1173 = some (g 4) := i4
  have t1174 : τ 1174 = some (g 5) := i5
  have t1175 : τ 1175 = some (g 6) := i6
  have t1176 : τ 1176 = some (g 7) := i7
  have t1177 : τ 1177 = some (g 8) := i8
  have t1120 : τ 1120 = some (g 9) := i9
  have t1123 : τ 1123 = some (g 10) := i10
  have t1124 : τ 1124 = some (g 11) := i11
  have t1121 : τ 1121 = some (g 12) := i12
  have xone : g 13 = 1 := i13
  have xo : g 14 = 0 := i14
  obtain ⟨c0, c1, c2, c3, c4, c5, c6, c7, c8, c9, c10, _⟩ := hc
  have c0 : (-1) * g 9 + 1 * g 10 ≤ 0 := d2 c0
  have c1 : 1 * g 9 + (-1) * g 10 ≤ 0 := d2 c1
  have c2 : 1 * g 3 + (-1) * g 9 ≤ 0 := d2 c2
  have c3 : (-1) * g 3 + 1 * g 9 ≤ 0 := d2 c3
  have c4 : 1 * g 4 ≤ 1 := d1 c4
  have c5 : (-1) * g 4 ≤ (-1) := d1 c5
  have c6 : 1 * g 5 ≤ 1 := d1 c6
  have c7 : (-1) * g 5 ≤ (-1) := d1 c7
  have c8 : 1 * g 11 ≤ 4 := d1 c8
  have c9 : (-1) * g 11 ≤ (-4) := d1 c9
  have c10 : 1 * g 8 ≤ 19 := d1 c10
  obtain ⟨a0, a1, a2, a3, a4, a5, _⟩ := ha
  have n1178 : τ 1178 = none := a0
  have n1179 : τ 1179 = none := a1
  have n1180 : τ 1180 = none := a2
  have n1181 : τ 1181 = none := a3
  have n1182 : τ 1182 = none := a4
  have n1155 : τ 1155 = none := a5
  obtain ⟨h0, k_tok, k_sc1, k_sc2, k_T, k_I, k_F, k_N, k_Y, k_Z, k_A, k_B, k_C, k_X, k_R, k_f4⟩ := hS (by rw [t1199]; exact fun e => by cases e)
  have k_T0 := k_T
  obtain ⟨h_T, h_TN, h_QZ⟩ := k_T0
  have k_I0 := k_I
  obtain ⟨h_p, h_pc, h_ip, h_iP, h_PC, h_PN⟩ := k_I0
  have k_X0 := k_X
  obtain ⟨h_X0a, h_X0, h_X, h_Xe⟩ := k_X0
  have hXL : ((tx9 m).2 : Int) = m 110 1 := by
    show (((m 110 1).toNat : Nat) : Int) = _
    omega
  have hX := h_X _ _ _ _ _ _ _ _ t1170 t1171 t1172 t1173 t1174 t1175 t1176 t1177
  rw [n1178, n1179, n1180, n1181, n1182] at hX
  obtain ⟨⟨⟨hp1, hp2⟩, hws⟩, ⟨ho0, hv0, hvp, hd0, hd20⟩, ⟨hb0, hbv⟩, hdd⟩ := XB_n hX.1
  have hcc := h_pc _ _ t1123 t1124
  rw [show (g 10).toNat = (g 3).toNat by omega] at hcc
  have hN := h_TN _ _ t1120 t1121
  rw [show (g 9).toNat = (g 3).toNat by omega] at hN
  have hnx := nx_lt (X := tx9 m) (p := (g 3).toNat) (by omega)
  exact ⟨rfl, trivial, trivial, fun _ => ⟨h0, k_tok, k_sc1, k_sc2, k_T, k_I, k_F, k_N, k_Y, k_Z, k_A, k_B, k_C, ⟨fun X1 Xp e0 e1 => by
      have e0 : g 1 = X1 := Option.some.inj (t1170.symm.trans e0)
      subst e0
      have e1 : g 12 + 0 = Xp := Option.some.inj e1
      subst e1
      exact fun hw => no9 hw t1173, fun X1 X2 Xp e0 e1 e2 => by
      have e0 : g 1 = X1 := Option.some.inj (t1170.symm.trans e0)
      subst e0
      have e1 : g 2 = X2 := Option.some.inj (t1171.symm.trans e1)
      subst e1
      have e2 : g 12 + 0 = Xp := Option.some.inj e2
      subst e2
      exact fun hw => no9 hw t1173, fun X1 X2 Xp Xw Xs Xo Xv Xd e0 e1 e2 e3 e4 e5 e6 e7 => by
      have e0 : g 1 = X1 := Option.some.inj (t1170.symm.trans e0)
      subst e0
      have e1 : g 2 = X2 := Option.some.inj (t1171.symm.trans e1)
      subst e1
      have e2 : g 12 + 0 = Xp := Option.some.inj e2
      subst e2
      have e3 : g 4 = Xw := Option.some.inj (t1173.symm.trans e3)
      subst e3
      have e4 : g 5 = Xs := Option.some.inj (t1174.symm.trans e4)
      subst e4
      have e5 : g 6 + 1 = Xo := Option.some.inj e5
      subst e5
      have e6 : g 7 = Xv := Option.some.inj (t1176.symm.trans e6)
      subst e6
      have e7 : g 8 + 1 = Xd := Option.some.inj e7
      subst e7
      exact XS_c (X_par hX (by omega) (kq (a := 4) (b := 4) (fun k => k = 3) (by decide) (by omega) (by omega)) (by omega) ⟨by omega, by omega⟩ (by omega) (by omega) (by omega) (Or.inl ⟨by omega, by omega⟩) (by omega) (by omega) (by omega)) rfl rfl rfl rfl n1182, fun _ _ _ e0 e1 e2 => no9 n1155 e0⟩, k_R, k_f4⟩⟩
noncomputable def ru_xPar0 : Ru := ([(0, (1199, (0, (0, 0)))), (0, (1170, (0, (0, 0)))), (0, (1171, (0, (0, 0)))), (0, (1172, (0, (0, 0)))), (0, (1173, (0, (0, 0)))), (0, (1174, (0, (0, 0)))), (0, (1175, (0, (0, 0)))), (0, (1176, (0, (0, 0)))), (0, (1177, (0, (0, 0)))), (0, (1120, (0, (0, 0)))), (0, (1123, (0, (0, 0)))), (0, (1124, (0, (0, 0)))), (0, (1121, (0, (0, 0)))), (4, (0, (0, (2, 0)))), (4, (0, (0, (0, 0))))], ([1178, 1179, 1180, 1181, 1182, 1155], ([([(9, (-1)), (10, 1)], 0), ([(9, 1), (10, (-1))], 0), ([(3, 1), (9, (-1))], 0), ([(3, (-1)), (9, 1)], 0), ([(4, 1)], 1), ([(4, (-1))], (-1)), ([(5, 1)], 0), ([(5, (-1))], 0), ([(11, 1)], 4), ([(11, (-1))], (-4)), ([(8, 1)], 19)], (false, ([], ([], ([(1172, some (12, 0)), (1175, some (6, 1)), (1177, some (8, 1)), (1178, some (13, 0)), (1179, some (14, 0)), (1180, some (14, 0)), (1181, some (7, 0))], none)))))))
theorem rk_xPar0 : RuOk SR ru_xPar0 := by
  intro τ m g hi hc ha hS
  obtain ⟨i0, i1, i2, i3, i4, i5, i6, i7, i8, i9, i10, i11, i12, i13, i14, _⟩ := hi
  have t1199 : τ 1199 = some (g 0) := i0
  have t1170 : τ 1170 = some (g 1) := i1
  have t1171 : τ 1171 = some (g 2) := i2
  have t1172 : τ 1172 = some (g 3) := i3
  have t1173 : τ 1173 = some (g 4) := i4
  have t1174 : τ 1174 = some (g 5) := i5
  have t1175 : τ 1175 = some (g 6) := i6
  have t1176 : τ 1176 = some (g 7) := i7
  have t1177 : τ 1177 = some (g 8) := i8
  have t1120 : τ 1120 = some (g 9) := i9
  have t1123 : τ 1123 = some (g 10) := i10
  have t1124 : τ 1124 = some (g 11) := i11
  have t1121 : τ 1121 = some (g 12) := i12
  have xtwo : g 13 = 2 := i13
  have xo : g 14 = 0 := i14
  obtain ⟨c0, c1, c2, c3, c4, c5, c6, c7, c8, c9, c10, _⟩ := hc
  have c0 : (-1) * g 9 + 1 * g 10 ≤ 0 := d2 c0
  have c1 : 1 * g 9 + (-1) * g 10 ≤ 0 := d2 c1
  have c2 : 1 * g 3 + (-1) * g 9 ≤ 0 := d2 c2
  have c3 : (-1) * g 3 + 1 * g 9 ≤ 0 := d2 c3
  have c4 : 1 * g 4 ≤ 1 := d1 c4
  have c5 : (-1) * g 4 ≤ (-1) := d1 c5
  have c6 : 1 * g 5 ≤ 0 := d1 c6
  have c7 : (-1) * g 5 ≤ 0 := d1 c7
  have c8 : 1 * g 11 ≤ 4 := d1 c8
  have c9 : (-1) * g 11 ≤ (-4) := d1 c9
  have c10 : 1 * g 8 ≤ 19 := d1 c10
  obtain ⟨a0, a1, a2, a3, a4, a5, _⟩ := ha
  have n1178 : τ 1178 = none := a0
  have n1179 : τ 1179 = none := a1
  have n1180 : τ 1180 = none := a2
  have n1181 : τ 1181 = none := a3
  have n1182 : τ 1182 = none := a4
  have n1155 : τ 1155 = none := a5
  obtain ⟨h0, k_tok, k_sc1, k_sc2, k_T, k_I, k_F, k_N, k_Y, k_Z, k_A, k_B, k_C, k_X, k_R, k_f4⟩ := hS (by rw [t1199]; exact fun e => by cases e)
  have k_T0 := k_T
  obtain ⟨h_T, h_TN, h_QZ⟩ := k_T0
  have k_I0 := k_I
  obtain ⟨h_p, h_pc, h_ip, h_iP, h_PC, h_PN⟩ := k_I0
  have k_X0 := k_X
  obtain ⟨h_X0a, h_X0, h_X, h_Xe⟩ := k_X0
  have hXL : ((tx9 m).2 : Int) = m 110 1 := by
    show (((m 110 1).toNat : Nat) : Int) = _
    omega
  have hX := h_X _ _ _ _ _ _ _ _ t1170 t1171 t1172 t1173 t1174 t1175 t1176 t1177
  rw [n1178, n1179, n1180, n1181, n1182] at hX
  obtain ⟨⟨⟨hp1, hp2⟩, hws⟩, ⟨ho0, hv0, hvp, hd0, hd20⟩, ⟨hb0, hbv⟩, hdd⟩ := XB_n hX.1
  have hcc := h_pc _ _ t1123 t1124
  rw [show (g 10).toNat = (g 3).toNat by omega] at hcc
  have hN := h_TN _ _ t1120 t1121
  rw [show (g 9).toNat = (g 3).toNat by omega] at hN
  have hnx := nx_lt (X := tx9 m) (p := (g 3).toNat) (by omega)
  exact ⟨rfl, trivial, trivial, fun _ => ⟨h0, k_tok, k_sc1, k_sc2, k_T, k_I, k_F, k_N, k_Y, k_Z, k_A, k_B, k_C, ⟨fun X1 Xp e0 e1 => by
      have e0 : g 1 = X1 := Option.some.inj (t1170.symm.trans e0)
      subst e0
      have e1 : g 12 + 0 = Xp := Option.some.inj e1
      subst e1
      exact fun hw => no9 hw t1173, fun X1 X2 Xp e0 e1 e2 => by
      have e0 : g 1 = X1 := Option.some.inj (t1170.symm.trans e0)
      subst e0
      have e1 : g 2 = X2 := Option.some.inj (t1171.symm.trans e1)
      subst e1
      have e2 : g 12 + 0 = Xp := Option.some.inj e2
      subst e2
      exact fun hw => no9 hw t1173, fun X1 X2 Xp Xw Xs Xo Xv Xd e0 e1 e2 e3 e4 e5 e6 e7 => by
      have e0 : g 1 = X1 := Option.some.inj (t1170.symm.trans e0)
      subst e0
      have e1 : g 2 = X2 := Option.some.inj (t1171.symm.trans e1)
      subst e1
      have e2 : g 12 + 0 = Xp := Option.some.inj e2
      subst e2
      have e3 : g 4 = Xw := Option.some.inj (t1173.symm.trans e3)
      subst e3
      have e4 : g 5 = Xs := Option.some.inj (t1174.symm.trans e4)
      subst e4
      have e5 : g 6 + 1 = Xo := Option.some.inj e5
      subst e5
      have e6 : g 7 = Xv := Option.some.inj (t1176.symm.trans e6)
      subst e6
      have e7 : g 8 + 1 = Xd := Option.some.inj e7
      subst e7
      exact XS_c (X_par hX (by omega) (kq (a := 4) (b := 4) (fun k => k = 3) (by decide) (by omega) (by omega)) (by omega) ⟨by omega, by omega⟩ (by omega) (by omega) (by omega) (Or.inr ⟨by omega, by omega⟩) (by omega) (by omega) (by omega)) rfl rfl rfl rfl n1182, fun _ _ _ e0 e1 e2 => no9 n1155 e0⟩, k_R, k_f4⟩⟩
noncomputable def ru_xNeg : Ru := ([(0, (1199, (0, (0, 0)))), (0, (1170, (0, (0, 0)))), (0, (1171, (0, (0, 0)))), (0, (1172, (0, (0, 0)))), (0, (1173, (0, (0, 0)))), (0, (1174, (0, (0, 0)))), (0, (1175, (0, (0, 0)))), (0, (1176, (0, (0, 0)))), (0, (1177, (0, (0, 0)))), (0, (1120, (0, (0, 0)))), (0, (1123, (0, (0, 0)))), (0, (1124, (0, (0, 0)))), (0, (1121, (0, (0, 0)))), (4, (0, (0, (7, 0)))), (4, (0, (0, (0, 0))))], ([1178, 1179, 1180, 1181, 1182, 1155], ([([(9, (-1)), (10, 1)], 0), ([(9, 1), (10, (-1))], 0), ([(3, 1), (9, (-1))], 0), ([(3, (-1)), (9, 1)], 0), ([(4, 1)], 1), ([(4, (-1))], (-1)), ([(11, 1)], 9), ([(11, (-1))], (-9)), ([(8, 1)], 19)], (false, ([], ([], ([(1172, some (12, 0)), (1176, some (7, 1)), (1177, some (8, 1)), (1182, some (13, 0)), (1174, some (14, 0))], none)))))))
theorem rk_xNeg : RuOk SR ru_xNeg := by
  intro τ m g hi hc ha hS
  obtain ⟨i0, i1, i2, i3, i4, i5, i6, i7, i8, i9, i10, i11, i12, i13, i14, _⟩ := hi
  have t1199 : τ 1199 = some (g 0) := i0
  have t1170 : τ 1170 = some (g 1) := i1
  have t1171 : τ 1171 = some (g 2) := i2
  have t1172 : τ 1172 = some (g 3) := i3
  have t1173 : τ 1173 = some (g 4) := i4
  have t1174 : τ 1174 = some (g 5) := i5
  have t1175 : τ 1175 = some (g 6) := i6
  have t1176 : τ 1176 = some (g 7) := i7
  have t1177 : τ 1177 = some (g 8) := i8
  have t1120 : τ 1120 = some (g 9) := i9
  have t1123 : τ 1123 = some (g 10) := i10
  have t1124 : τ 1124 = some (g 11) := i11
  have t1121 : τ 1121 = some (g 12) := i12
  have xr7 : g 13 = 7 := i13
  have xo : g 14 = 0 := i14
  obtain ⟨c0, c1, c2, c3, c4, c5, c6, c7, c8, _⟩ := hc
  have c0 : (-1) * g 9 + 1 * g 10 ≤ 0 := d2 c0
  have c1 : 1 * g 9 + (-1) * g 10 ≤ 0 := d2 c1
  have c2 : 1 * g 3 + (-1) * g 9 ≤ 0 := d2 c2
  have c3 : (-1) * g 3 + 1 * g 9 ≤ 0 := d2 c3
  have c4 : 1 * g 4 ≤ 1 := d1 c4
  have c5 : (-1) * g 4 ≤ (-1) := d1 c5
  have c6 : 1 * g 11 ≤ 9 := d1 c6
  have c7 : (-1) * g 11 ≤ (-9) := d1 c7
  have c8 : 1 * g 8 ≤ 19 := d1 c8
  obtain ⟨a0, a1, a2, a3, a4, a5, _⟩ := ha
  have n1178 : τ 1178 = none := a0
  have n1179 : τ 1179 = none := a1
  have n1180 : τ 1180 = none := a2
  have n1181 : τ 1181 = none := a3
  have n1182 : τ 1182 = none := a4
  have n1155 : τ 1155 = none := a5
  obtain ⟨h0, k_tok, k_sc1, k_sc2, k_T, k_I, k_F, k_N, k_Y, k_Z, k_A, k_B, k_C, k_X, k_R, k_f4⟩ := hS (by rw [t1199]; exact fun e => by cases e)
  have k_T0 := k_T
  obtain ⟨h_T, h_TN, h_QZ⟩ := k_T0
  have k_I0 := k_I
  obtain ⟨h_p, h_pc, h_ip, h_iP, h_PC, h_PN⟩ := k_I0
  have k_X0 := k_X
  obtain ⟨h_X0a, h_X0, h_X, h_Xe⟩ := k_X0
  have hXL : ((tx9 m).2 : Int) = m 110 1 := by
    show (((m 110 1).toNat : Nat) : Int) = _
    omega
  have hX := h_X _ _ _ _ _ _ _ _ t1170 t1171 t1172 t1173 t1174 t1175 t1176 t1177
  rw [n1178, n1179, n1180, n1181, n1182] at hX
  obtain ⟨⟨⟨hp1, hp2⟩, hws⟩, ⟨ho0, hv0, hvp, hd0, hd20⟩, ⟨hb0, hbv⟩, hdd⟩ := XB_n hX.1
  have hcc := h_pc _ _ t1123 t1124
  rw [show (g 10).toNat = (g 3).toNat by omega] at hcc
  have hN := h_TN _ _ t1120 t1121
  rw [show (g 9).toNat = (g 3).toNat by omega] at hN
  have hnx := nx_lt (X := tx9 m) (p := (g 3).toNat) (by omega)
  exact ⟨rfl, trivial, trivial, fun _ => ⟨h0, k_tok, k_sc1, k_sc2, k_T, k_I, k_F, k_N, k_Y, k_Z, k_A, k_B, k_C, ⟨fun X1 Xp e0 e1 => by
      have e0 : g 1 = X1 := Option.some.inj (t1170.symm.trans e0)
      subst e0
      have e1 : g 12 + 0 = Xp := Option.some.inj e1
      subst e1
      exact fun hw => no9 hw t1173, fun X1 X2 Xp e0 e1 e2 => by
      have e0 : g 1 = X1 := Option.some.inj (t1170.symm.trans e0)
      subst e0
      have e1 : g 2 = X2 := Option.some.inj (t1171.symm.trans e1)
      subst e1
      have e2 : g 12 + 0 = Xp := Option.some.inj e2
      subst e2
      exact fun hw => no9 hw t1173, fun X1 X2 Xp Xw Xs Xo Xv Xd e0 e1 e2 e3 e4 e5 e6 e7 => by
      have e0 : g 1 = X1 := Option.some.inj (t1170.symm.trans e0)
      subst e0
      have e1 : g 2 = X2 := Option.some.inj (t1171.symm.trans e1)
      subst e1
      have e2 : g 12 + 0 = Xp := Option.some.inj e2
      subst e2
      have e3 : g 4 = Xw := Option.some.inj (t1173.symm.trans e3)
      subst e3
      have e4 : g 14 + 0 = Xs := Option.some.inj e4
      subst e4
      have e5 : g 6 = Xo := Option.some.inj (t1175.symm.trans e5)
      subst e5
      have e6 : g 7 + 1 = Xv := Option.some.inj e6
      subst e6
      have e7 : g 8 + 1 = Xd := Option.some.inj e7
      subst e7
      exact XS_c (X_neg hX (by omega) (kq (a := 9) (b := 9) (fun k => k = 4) (by decide) (by omega) (by omega)) (by omega) ⟨by omega, by omega⟩ (by omega) (by omega) (by omega) (by omega) (by omega)) n1178 n1179 n1180 n1181 rfl, fun _ _ _ e0 e1 e2 => no9 n1155 e0⟩, k_R, k_f4⟩⟩
noncomputable def ru_xNotD : Ru := ([(0, (1199, (0, (0, 0)))), (0, (1170, (0, (0, 0)))), (0, (1171, (0, (0, 0)))), (0, (1172, (0, (0, 0)))), (0, (1173, (0, (0, 0)))), (0, (1174, (0, (0, 0)))), (0, (1175, (0, (0, 0)))), (0, (1176, (0, (0, 0)))), (0, (1177, (0, (0, 0)))), (0, (1120, (0, (0, 0)))), (0, (1123, (0, (0, 0)))), (0, (1124, (0, (0, 0)))), (0, (1121, (0, (0, 0))))], ([1178, 1179, 1180, 1181, 1182, 1155], ([([(9, (-1)), (10, 1)], 0), ([(9, 1), (10, (-1))], 0), ([(3, 1), (9, (-1))], 0), ([(3, (-1)), (9, 1)], 0), ([(4, 1)], 1), ([(4, (-1))], (-1)), ([(5, 1)], 1), ([(5, (-1))], (-1)), ([(11, 1)], 22), ([(11, (-1))], (-22)), ([(8, (-1))], (-20))], (false, ([([(2, 1), (9, (-1))], 0), ([(2, (-1)), (9, 1)], 0), ([(1, 1)], (-1)), ([(1, (-1))], 1)], ([], ([(1170, none), (1171, none), (1172, none), (1173, none), (1174, none), (1175, none), (1176, none), (1177, none)], none)))))))
theorem rk_xNotD : RuOk SR ru_xNotD := by
  intro τ m g hi hc ha hS
  obtain ⟨i0, i1, i2, i3, i4, i5, i6, i7, i8, i9, i10, i11, i12, _⟩ := hi
  have t1199 : τ 1199 = some (g 0) := i0
  have t1170 : τ 1170 = some (g 1) := i1
  have t1171 : τ 1171 = some (g 2) := i2
  have t1172 : τ 1172 = some (g 3) := i3
  have t1173 : τ 1173 = some (g 4) := i4
  have t1174 : τ 1174 = some (g 5) := i5
  have t1175 : τ 1175 = some (g 6) := i6
  have t1176 : τ 1176 = some (g 7) := i7
  have t1177 : τ 1177 = some (g 8) := i8
  have t1120 : τ 1120 = some (g 9) := i9
  have t1123 : τ 1123 = some (g 10) := i10
  have t1124 : τ 1124 = some (g 11) := i11
  have t1121 : τ 1121 = some (g 12) := i12
  obtain ⟨c0, c1, c2, c3, c4, c5, c6, c7, c8, c9, c10, _⟩ := hc
  have c0 : (-1) * g 9 + 1 * g 10 ≤ 0 := d2 c0
  have c1 : 1 * g 9 + (-1) * g 10 ≤ 0 := d2 c1
  have c2 : 1 * g 3 + (-1) * g 9 ≤ 0 := d2 c2
  have c3 : (-1) * g 3 + 1 * g 9 ≤ 0 := d2 c3
  have c4 : 1 * g 4 ≤ 1 := d1 c4
  have c5 : (-1) * g 4 ≤ (-1) := d1 c5
  have c6 : 1 * g 5 ≤ 1 := d1 c6
  have c7 : (-1) * g 5 ≤ (-1) := d1 c7
  have c8 : 1 * g 11 ≤ 22 := d1 c8
  have c9 : (-1) * g 11 ≤ (-22) := d1 c9
  have c10 : (-1) * g 8 ≤ (-20) := d1 c10
  obtain ⟨a0, a1, a2, a3, a4, a5, _⟩ := ha
  have n1178 : τ 1178 = none := a0
  have n1179 : τ 1179 = none := a1
  have n1180 : τ 1180 = none := a2
  have n1181 : τ 1181 = none := a3
  have n1182 : τ 1182 = none := a4
  have n1155 : τ 1155 = none := a5
  obtain ⟨h0, k_tok, k_sc1, k_sc2, k_T, k_I, k_F, k_N, k_Y, k_Z, k_A, k_B, k_C, k_X, k_R, k_f4⟩ := hS (by rw [t1199]; exact fun e => by cases e)
  have k_T0 := k_T
  obtain ⟨h_T, h_TN, h_QZ⟩ := k_T0
  have k_I0 := k_I
  obtain ⟨h_p, h_pc, h_ip, h_iP, h_PC, h_PN⟩ := k_I0
  have k_X0 := k_X
  obtain ⟨h_X0a, h_X0, h_X, h_Xe⟩ := k_X0
  have hXL : ((tx9 m).2 : Int) = m 110 1 := by
    show (((m 110 1).toNat : Nat) : Int) = _
    omega
  have hX := h_X _ _ _ _ _ _ _ _ t1170 t1171 t1172 t1173 t1174 t1175 t1176 t1177
  rw [n1178, n1179, n1180, n1181, n1182] at hX
  obtain ⟨⟨⟨hp1, hp2⟩, hws⟩, ⟨ho0, hv0, hvp, hd0, hd20⟩, ⟨hb0, hbv⟩, hdd⟩ := XB_n hX.1
  have hcc := h_pc _ _ t1123 t1124
  rw [show (g 10).toNat = (g 3).toNat by omega] at hcc
  have hN := h_TN _ _ t1120 t1121
  rw [show (g 9).toNat = (g 3).toNat by omega] at hN
  obtain ⟨y1, y2⟩ := X_deep hX (by omega) (Or.inl ⟨by omega, (kq (a := 22) (b := 22) (fun k => k = 1) (by decide) (by omega) (by omega))⟩) (by omega)
  exact ⟨rfl, ⟨f2 (by omega), f2 (by omega), f1 (by omega), f1 (by omega), trivial⟩, trivial, fun _ => ⟨h0, k_tok, k_sc1, k_sc2, k_T, k_I, k_F, k_N, k_Y, k_Z, k_A, k_B, k_C, ⟨fun _ _ e0 e1 => no9 (o := none) rfl e0, fun _ _ _ e0 e1 e2 => no9 (o := none) rfl e0, fun _ _ _ _ _ _ _ _ e0 e1 e2 e3 e4 e5 e6 e7 => no9 (o := none) rfl e0, fun _ _ _ e0 e1 e2 => no9 (o := none) rfl e1⟩, k_R, k_f4⟩⟩
noncomputable def ru_xParD : Ru := ([(0, (1199, (0, (0, 0)))), (0, (1170, (0, (0, 0)))), (0, (1171, (0, (0, 0)))), (0, (1172, (0, (0, 0)))), (0, (1173, (0, (0, 0)))), (0, (1174, (0, (0, 0)))), (0, (1175, (0, (0, 0)))), (0, (1176, (0, (0, 0)))), (0, (1177, (0, (0, 0)))), (0, (1120, (0, (0, 0)))), (0, (1123, (0, (0, 0)))), (0, (1124, (0, (0, 0)))), (0, (1121, (0, (0, 0))))], ([1178, 1179, 1180, 1181, 1182, 1155], ([([(9, (-1)), (10, 1)], 0), ([(9, 1), (10, (-1))], 0), ([(3, 1), (9, (-1))], 0), ([(3, (-1)), (9, 1)], 0), ([(4, 1)], 1), ([(4, (-1))], (-1)), ([(11, 1)], 4), ([(11, (-1))], (-4)), ([(8, (-1))], (-20))], (false, ([([(2, 1), (9, (-1))], 0), ([(2, (-1)), (9, 1)], 0), ([(1, 1)], (-1)), ([(1, (-1))], 1)], ([], ([(1170, none), (1171, none), (1172, none), (1173, none), (1174, none), (1175, none), (1176, none), (1177, none)], none)))))))
theorem rk_xParD : RuOk SR ru_xParD := by
  intro τ m g hi hc ha hS
  obtain ⟨i0, i1, i2, i3, i4, i5, i6, i7, i8, i9, i10, i11, i12, _⟩ := hi
  have t1199 : τ 1199 = some (g 0) := i0
  have t1170 : τ 1170 = some (g 1) := i1
  have t1171 : τ 1171 = some (g 2) := i2
  have t1172 : τ 1172 = some (g 3) := i3
  have t1173 : τ 1173 = some (g 4) := i4
  have t1174 : τ 1174 = some (g 5) := i5
  have t1175 : τ 1175 = some (g 6) := i6
  have t1176 : τ 1176 = some (g 7) := i7
  have t1177 : τ 1177 = some (g 8) := i8
  have t1120 : τ 1120 = some (g 9) := i9
  have t1123 : τ 1123 = some (g 10) := i10
  have t1124 : τ 1124 = some (g 11) := i11
  have t1121 : τ 1121 = some (g 12) := i12
  obtain ⟨c0, c1, c2, c3, c4, c5, c6, c7, c8, _⟩ := hc
  have c0 : (-1) * g 9 + 1 * g 10 ≤ 0 := d2 c0
  have c1 : 1 * g 9 + (-1) * g 10 ≤ 0 := d2 c1
  have c2 : 1 * g 3 + (-1) * g 9 ≤ 0 := d2 c2
  have c3 : (-1) * g 3 + 1 * g 9 ≤ 0 := d2 c3
  have c4 : 1 * g 4 ≤ 1 := d1 c4
  have c5 : (-1) * g 4 ≤ (-1) := d1 c5
  have c6 : 1 * g 11 ≤ 4 := d1 c6
  have c7 : (-1) * g 11 ≤ (-4) := d1 c7
  have c8 : (-1) * g 8 ≤ (-20) := d1 c8
  obtain ⟨a0, a1, a2, a3, a4, a5, _⟩ := ha
  have n1178 : τ 1178 = none := a0
  have n1179 : τ 1179 = none := a1
  have n1180 : τ 1180 = none := a2
  have n1181 : τ 1181 = none := a3
  have n1182 : τ 1182 = none := a4
  have n1155 : τ 1155 = none := a5
  obtain ⟨h0, k_tok, k_sc1, k_sc2, k_T, k_I, k_F, k_N, k_Y, k_Z, k_A, k_B, k_C, k_X, k_R, k_f4⟩ := hS (by rw [t1199]; exact fun e => by cases e)
  have k_T0 := k_T
  obtain ⟨h_T, h_TN, h_QZ⟩ := k_T0
  have k_I0 := k_I
  obtain ⟨h_p, h_pc, h_ip, h_iP, h_PC, h_PN⟩ := k_I0
  have k_X0 := k_X
  obtain ⟨h_X0a, h_X0, h_X, h_Xe⟩ := k_X0
  have hXL : ((tx9 m).2 : Int) = m 110 1 := by
    show (((m 110 1).toNat : Nat) : Int) = _
    omega
  have hX := h_X _ _ _ _ _ _ _ _ t1170 t1171 t1172 t1173 t1174 t1175 t1176 t1177
  rw [n1178, n1179, n1180, n1181, n1182] at hX
  obtain ⟨⟨⟨hp1, hp2⟩, hws⟩, ⟨ho0, hv0, hvp, hd0, hd20⟩, ⟨hb0, hbv⟩, hdd⟩ := XB_n hX.1
  have hcc := h_pc _ _ t1123 t1124
  rw [show (g 10).toNat = (g 3).toNat by omega] at hcc
  have hN := h_TN _ _ t1120 t1121
  rw [show (g 9).toNat = (g 3).toNat by omega] at hN
  obtain ⟨y1, y2⟩ := X_deep hX (by omega) (Or.inr (Or.inl (kq (a := 4) (b := 4) (fun k => k = 3) (by decide) (by omega) (by omega)))) (by omega)
  exact ⟨rfl, ⟨f2 (by omega), f2 (by omega), f1 (by omega), f1 (by omega), trivial⟩, trivial, fun _ => ⟨h0, k_tok, k_sc1, k_sc2, k_T, k_I, k_F, k_N, k_Y, k_Z, k_A, k_B, k_C, ⟨fun _ _ e0 e1 => no9 (o := none) rfl e0, fun _ _ _ e0 e1 e2 => no9 (o := none) rfl e0, fun _ _ _ _ _ _ _ _ e0 e1 e2 e3 e4 e5 e6 e7 => no9 (o := none) rfl e0, fun _ _ _ e0 e1 e2 => no9 (o := none) rfl e1⟩, k_R, k_f4⟩⟩
noncomputable def ru_xNegD : Ru := ([(0, (1199, (0, (0, 0)))), (0, (1170, (0, (0, 0)))), (0, (1171, (0, (0, 0)))), (0, (1172, (0, (0, 0)))), (0, (1173, (0, (0, 0)))), (0, (1174, (0, (0, 0)))), (0, (1175, (0, (0, 0)))), (0, (1176, (0, (0, 0)))), (0, (1177, (0, (0, 0)))), (0, (1120, (0, (0, 0)))), (0, (1123, (0, (0, 0)))), (0, (1124, (0, (0, 0)))), (0, (1121, (0, (0, 0))))], ([1178, 1179, 1180, 1181, 1182, 1155], ([([(9, (-1)), (10, 1)], 0), ([(9, 1), (10, (-1))], 0), ([(3, 1), (9, (-1))], 0), ([(3, (-1)), (9, 1)], 0), ([(4, 1)], 1), ([(4, (-1))], (-1)), ([(11, 1)], 9), ([(11, (-1))], (-9)), ([(8, (-1))], (-20))], (false, ([([(2, 1), (9, (-1))], 0), ([(2, (-1)), (9, 1)], 0), ([(1, 1)], (-1)), ([(1, (-1))], 1)], ([], ([(1170, none), (1171, none), (1172, none), (1173, none), (1174, none), (1175, none), (1176, none), (1177, none)], none)))))))
theorem rk_xNegD : RuOk SR ru_xNegD := by
  intro τ m g hi hc ha hS
  obtain ⟨i0, i1, i2, i3, i4, i5, i6, i7, i8, i9, i10, i11, i12, _⟩ := hi
  have t1199 : τ 1199 = some (g 0) := i0
  have t1170 : τ 1170 = some (g 1) := i1
  have t1171 : τ 1171 = some (g 2) := i2
  have t1172 : τ 1172 = some (g 3) := i3
  have t1173 : τ 1173 = some (g 4) := i4
  have t1174 : τ 1174 = some (g 5) := i5
  have t1175 : τ 1175 = some (g 6) := i6
  have t1176 : τ 1176 = some (g 7) := i7
  have t1177 : τ 1177 = some (g 8) := i8
  have t1120 : τ 1120 = some (g 9) := i9
  have t1123 : τ 1123 = some (g 10) := i10
  have t1124 : τ 1124 = some (g 11) := i11
  have t1121 : τ 1121 = some (g 12) := i12
  obtain ⟨c0, c1, c2, c3, c4, c5, c6, c7, c8, _⟩ := hc
  have c0 : (-1) * g 9 + 1 * g 10 ≤ 0 := d2 c0
  have c1 : 1 * g 9 + (-1) * g 10 ≤ 0 := d2 c1
  have c2 : 1 * g 3 + (-1) * g 9 ≤ 0 := d2 c2
  have c3 : (-1) * g 3 + 1 * g 9 ≤ 0 := d2 c3
  have c4 : 1 * g 4 ≤ 1 := d1 c4
  have c5 : (-1) * g 4 ≤ (-1) := d1 c5
  have c6 : 1 * g 11 ≤ 9 := d1 c6
  have c7 : (-1) * g 11 ≤ (-9) := d1 c7
  have c8 : (-1) * g 8 ≤ (-20) := d1 c8
  obtain ⟨a0, a1, a2, a3, a4, a5, _⟩ := ha
  have n1178 : τ 1178 = none := a0
  have n1179 : τ 1179 = none := a1
  have n1180 : τ 1180 = none := a2
  have n1181 : τ 1181 = none := a3
  have n1182 : τ 1182 = none := a4
  have n1155 : τ 1155 = none := a5
  obtain ⟨h0, k_tok, k_sc1, k_sc2, k_T, k_I, k_F, k_N, k_Y, k_Z, k_A, k_B, k_C, k_X, k_R, k_f4⟩ := hS (by rw [t1199]; exact fun e => by cases e)
  have k_T0 := k_T
  obtain ⟨h_T, h_TN, h_QZ⟩ := k_T0
  have k_I0 := k_I
  obtain ⟨h_p, h_pc, h_ip, h_iP, h_PC, h_PN⟩ := k_I0
  have k_X0 := k_X
  obtain ⟨h_X0a, h_X0, h_X, h_Xe⟩ := k_X0
  have hXL : ((tx9 m).2 : Int) = m 110 1 := by
    show (((m 110 1).toNat : Nat) : Int) = _
    omega
  have hX := h_X _ _ _ _ _ _ _ _ t1170 t1171 t1172 t1173 t1174 t1175 t1176 t1177
  rw [n1178, n1179, n1180, n1181, n1182] at hX
  obtain ⟨⟨⟨hp1, hp2⟩, hws⟩, ⟨ho0, hv0, hvp, hd0, hd20⟩, ⟨hb0, hbv⟩, hdd⟩ := XB_n hX.1
  have hcc := h_pc _ _ t1123 t1124
  rw [show (g 10).toNat = (g 3).toNat by omega] at hcc
  have hN := h_TN _ _ t1120 t1121
  rw [show (g 9).toNat = (g 3).toNat by omega] at hN
  obtain ⟨y1, y2⟩ := X_deep hX (by omega) (Or.inr (Or.inr (kq (a := 9) (b := 9) (fun k => k = 4) (by decide) (by omega) (by omega)))) (by omega)
  exact ⟨rfl, ⟨f2 (by omega), f2 (by omega), f1 (by omega), f1 (by omega), trivial⟩, trivial, fun _ => ⟨h0, k_tok, k_sc1, k_sc2, k_T, k_I, k_F, k_N, k_Y, k_Z, k_A, k_B, k_C, ⟨fun _ _ e0 e1 => no9 (o := none) rfl e0, fun _ _ _ e0 e1 e2 => no9 (o := none) rfl e0, fun _ _ _ _ _ _ _ _ e0 e1 e2 e3 e4 e5 e6 e7 => no9 (o := none) rfl e0, fun _ _ _ e0 e1 e2 => no9 (o := none) rfl e1⟩, k_R, k_f4⟩⟩
noncomputable def ru_xNumA : Ru := ([(0, (1199, (0, (0, 0)))), (0, (1170, (0, (0, 0)))), (0, (1171, (0, (0, 0)))), (0, (1172, (0, (0, 0)))), (0, (1173, (0, (0, 0)))), (0, (1174, (0, (0, 0)))), (0, (1175, (0, (0, 0)))), (0, (1176, (0, (0, 0)))), (0, (1177, (0, (0, 0)))), (0, (1120, (0, (0, 0)))), (0, (1123, (0, (0, 0)))), (0, (1124, (0, (0, 0)))), (0, (1121, (0, (0, 0)))), (0, (1160, (0, (0, 0)))), (0, (1161, (0, (0, 0)))), (0, (1162, (0, (0, 0)))), (0, (1163, (0, (0, 0)))), (0, (1164, (0, (0, 0)))), (0, (1165, (0, (0, 0)))), (4, (0, (0, (0, 0))))], ([1178, 1179, 1180, 1181, 1182, 1155], ([([(9, (-1)), (10, 1)], 0), ([(9, 1), (10, (-1))], 0), ([(3, 1), (9, (-1))], 0), ([(3, (-1)), (9, 1)], 0), ([(4, 1)], 1), ([(4, (-1))], (-1)), ([(6, (-1)), (13, 1)], 0), ([(6, 1), (13, (-1))], 0), ([(7, (-1)), (15, 1)], 0), ([(7, 1), (15, (-1))], 0), ([(16, 1)], 7), ([(16, (-1))], (-7)), ([(11, (-1))], (-2)), ([(11, 1)], 3)], (false, ([], ([], ([(1172, some (12, 0)), (1176, some (17, 0)), (1177, some (18, 0)), (1173, some (19, 0)), (1174, some (19, 0))], none)))))))
theorem rk_xNumA : RuOk SR ru_xNumA := by
  intro τ m g hi hc ha hS
  obtain ⟨i0, i1, i2, i3, i4, i5, i6, i7, i8, i9, i10, i11, i12, i13, i14, i15, i16, i17, i18, i19, _⟩ := hi
  have t1199 : τ 1199 = some (g 0) := i0
  have t1170 : τ 1170 = some (g 1) := i1
  have t1171 : τ 1171 = some (g 2) := i2
  have t1172 : τ 1172 = some (g 3) := i3
  have t1173 : τ 1173 = some (g 4) := i4
  have t1174 : τ 1174 = some (g 5) := i5
  have t1175 : τ 1175 = some (g 6) := i6
  have t1176 : τ 1176 = some (g 7) := i7
  have t1177 : τ 1177 = some (g 8) := i8
  have t1120 : τ 1120 = some (g 9) := i9
  have t1123 : τ 1123 = some (g 10) := i10
  have t1124 : τ 1124 = some (g 11) := i11
  have t1121 : τ 1121 = some (g 12) := i12
  have t1160 : τ 1160 = some (g 13) := i13
  have t1161 : τ 1161 = some (g 14) := i14
  have t1162 : τ 1162 = some (g 15) := i15
  have t1163 : τ 1163 = some (g 16) := i16
  have t1164 : τ 1164 = some (g 17) := i17
  have t1165 : τ 1165 = some (g 18) := i18
  have xo : g 19 = 0 := i19
  obtain ⟨c0, c1, c2, c3, c4, c5, c6, c7, c8, c9, c10, c11, c12, c13, _⟩ := hc
  have c0 : (-1) * g 9 + 1 * g 10 ≤ 0 := d2 c0
  have c1 : 1 * g 9 + (-1) * g 10 ≤ 0 := d2 c1
  have c2 : 1 * g 3 + (-1) * g 9 ≤ 0 := d2 c2
  have c3 : (-1) * g 3 + 1 * g 9 ≤ 0 := d2 c3
  have c4 : 1 * g 4 ≤ 1 := d1 c4
  have c5 : (-1) * g 4 ≤ (-1) := d1 c5
  have c6 : (-1) * g 6 + 1 * g 13 ≤ 0 := d2 c6
  have c7 : 1 * g 6 + (-1) * g 13 ≤ 0 := d2 c7
  have c8 : (-1) * g 7 + 1 * g 15 ≤ 0 := d2 c8
  have c9 : 1 * g 7 + (-1) * g 15 ≤ 0 := d2 c9
  have c10 : 1 * g 16 ≤ 7 := d1 c10
  have c11 : (-1) * g 16 ≤ (-7) := d1 c11
  have c12 : (-1) * g 11 ≤ (-2) := d1 c12
  have c13 : 1 * g 11 ≤ 3 := d1 c13
  obtain ⟨a0, a1, a2, a3, a4, a5, _⟩ := ha
  have n1178 : τ 1178 = none := a0
  have n1179 : τ 1179 = none := a1
  have n1180 : τ 1180 = none := a2
  have n1181 : τ 1181 = none := a3
  have n1182 : τ 1182 = none := a4
  have n1155 : τ 1155 = none := a5
  obtain ⟨h0, k_tok, k_sc1, k_sc2, k_T, k_I, k_F, k_N, k_Y, k_Z, k_A, k_B, k_C, k_X, k_R, k_f4⟩ := hS (by rw [t1199]; exact fun e => by cases e)
  have k_T0 := k_T
  obtain ⟨h_T, h_TN, h_QZ⟩ := k_T0
  have k_I0 := k_I
  obtain ⟨h_p, h_pc, h_ip, h_iP, h_PC, h_PN⟩ := k_I0
  have k_X0 := k_X
  obtain ⟨h_X0a, h_X0, h_X, h_Xe⟩ := k_X0
  have k_R0 := k_R
  obtain ⟨h_rb, h_rh, h_rw, h_rg, h_rd, h_rc, h_rq⟩ := k_R0
  have hXL : ((tx9 m).2 : Int) = m 110 1 := by
    show (((m 110 1).toNat : Nat) : Int) = _
    omega
  have hX := h_X _ _ _ _ _ _ _ _ t1170 t1171 t1172 t1173 t1174 t1175 t1176 t1177
  rw [n1178, n1179, n1180, n1181, n1182] at hX
  obtain ⟨⟨⟨hp1, hp2⟩, hws⟩, ⟨ho0, hv0, hvp, hd0, hd20⟩, ⟨hb0, hbv⟩, hdd⟩ := XB_n hX.1
  have hcc := h_pc _ _ t1123 t1124
  rw [show (g 10).toNat = (g 3).toNat by omega] at hcc
  have hN := h_TN _ _ t1120 t1121
  rw [show (g 9).toNat = (g 3).toNat by omega] at hN
  have hnx := nx_lt (X := tx9 m) (p := (g 3).toNat) (by omega)
  have hRb := (h_rb _ _ t1160 t1161).2.2
  have hRw := h_rw _ _ _ _ _ t1160 t1161 t1162 t1163 t1164
  have hRd := h_rd _ _ _ t1160 t1164 t1165
  rw [show (g 13).toNat = (g 6).toNat by omega] at hRb
  rw [show (g 15).toNat = (g 7).toNat by omega, hRb] at hRw
  rw [show (g 16).toNat = 7 by omega] at hRw
  exact ⟨rfl, trivial, trivial, fun _ => ⟨h0, k_tok, k_sc1, k_sc2, k_T, k_I, k_F, k_N, k_Y, k_Z, k_A, k_B, k_C, ⟨fun X1 Xp e0 e1 => by
      have e0 : g 1 = X1 := Option.some.inj (t1170.symm.trans e0)
      subst e0
      have e1 : g 12 + 0 = Xp := Option.some.inj e1
      subst e1
      exact fun hw => no9 hw rfl, fun X1 X2 Xp e0 e1 e2 => by
      have e0 : g 1 = X1 := Option.some.inj (t1170.symm.trans e0)
      subst e0
      have e1 : g 2 = X2 := Option.some.inj (t1171.symm.trans e1)
      subst e1
      have e2 : g 12 + 0 = Xp := Option.some.inj e2
      subst e2
      exact fun hw => no9 hw rfl, fun X1 X2 Xp Xw Xs Xo Xv Xd e0 e1 e2 e3 e4 e5 e6 e7 => by
      have e0 : g 1 = X1 := Option.some.inj (t1170.symm.trans e0)
      subst e0
      have e1 : g 2 = X2 := Option.some.inj (t1171.symm.trans e1)
      subst e1
      have e2 : g 12 + 0 = Xp := Option.some.inj e2
      subst e2
      have e3 : g 19 + 0 = Xw := Option.some.inj e3
      subst e3
      have e4 : g 19 + 0 = Xs := Option.some.inj e4
      subst e4
      have e5 : g 6 = Xo := Option.some.inj (t1175.symm.trans e5)
      subst e5
      have e6 : g 17 + 0 = Xv := Option.some.inj e6
      subst e6
      have e7 : g 18 + 0 = Xd := Option.some.inj e7
      subst e7
      exact XS_c (X_num hX (by omega) (Or.inl (kq (a := 2) (b := 3) (fun k => k = 5) (by decide) (by omega) (by omega))) ⟨by omega, by omega⟩ (by omega) (by omega) (by omega) (by omega) (by simp only [Int.add_zero]; omega)) n1178 n1179 n1180 n1181 n1182, fun _ _ _ e0 e1 e2 => no9 n1155 e0⟩, k_R, k_f4⟩⟩
noncomputable def ru_xNumB : Ru := ([(0, (1199, (0, (0, 0)))), (0, (1170, (0, (0, 0)))), (0, (1171, (0, (0, 0)))), (0, (1172, (0, (0, 0)))), (0, (1173, (0, (0, 0)))), (0, (1174, (0, (0, 0)))), (0, (1175, (0, (0, 0)))), (0, (1176, (0, (0, 0)))), (0, (1177, (0, (0, 0)))), (0, (1120, (0, (0, 0)))), (0, (1123, (0, (0, 0)))), (0, (1124, (0, (0, 0)))), (0, (1121, (0, (0, 0)))), (0, (1160, (0, (0, 0)))), (0, (1161, (0, (0, 0)))), (0, (1162, (0, (0, 0)))), (0, (1163, (0, (0, 0)))), (0, (1164, (0, (0, 0)))), (0, (1165, (0, (0, 0)))), (4, (0, (0, (0, 0))))], ([1178, 1179, 1180, 1181, 1182, 1155], ([([(9, (-1)), (10, 1)], 0), ([(9, 1), (10, (-1))], 0), ([(3, 1), (9, (-1))], 0), ([(3, (-1)), (9, 1)], 0), ([(4, 1)], 1), ([(4, (-1))], (-1)), ([(6, (-1)), (13, 1)], 0), ([(6, 1), (13, (-1))], 0), ([(7, (-1)), (15, 1)], 0), ([(7, 1), (15, (-1))], 0), ([(16, 1)], 7), ([(16, (-1))], (-7)), ([(11, (-1))], (-24)), ([(11, 1)], 25)], (false, ([], ([], ([(1172, some (12, 0)), (1176, some (17, 0)), (1177, some (18, 0)), (1173, some (19, 0)), (1174, some (19, 0))], none)))))))
theorem rk_xNumB : RuOk SR ru_xNumB := by
  intro τ m g hi hc ha hS
  obtain ⟨i0, i1, i2, i3, i4, i5, i6, i7, i8, i9, i10, i11, i12, i13, i14, i15, i16, i17, i18, i19, _⟩ := hi
  have t1199 : τ 1199 = some (g 0) := i0
  have t1170 : τ 1170 = some (g 1) := i1
  have t1171 : τ 1171 = some (g 2) := i2
  have t1172 : τ 1172 = some (g 3) := i3
  have t1173 : τ 1173 = some (g 4) := i4
  have t1174 : τ 1174 = some (g 5) := i5
  have t1175 : τ 1175 = some (g 6) := i6
  have t1176 : τ 1176 = some (g 7) := i7
  have t1177 : τ 1177 = some (g 8) := i8
  have t1120 : τ 1120 = some (g 9) := i9
  have t1123 : τ 1123 = some (g 10) := i10
  have t1124 : τ 1124 = some (g 11) := i11
  have t1121 : τ 1121 = some (g 12) := i12
  have t1160 : τ 1160 = some (g 13) := i13
  have t1161 : τ 1161 = some (g 14) := i14
  have t1162 : τ 1162 = some (g 15) := i15
  have t1163 : τ 1163 = some (g 16) := i16
  have t1164 : τ 1164 = some (g 17) := i17
  have t1165 : τ 1165 = some (g 18) := i18
  have xo : g 19 = 0 := i19
  obtain ⟨c0, c1, c2, c3, c4, c5, c6, c7, c8, c9, c10, c11, c12, c13, _⟩ := hc
  have c0 : (-1) * g 9 + 1 * g 10 ≤ 0 := d2 c0
  have c1 : 1 * g 9 + (-1) * g 10 ≤ 0 := d2 c1
  have c2 : 1 * g 3 + (-1) * g 9 ≤ 0 := d2 c2
  have c3 : (-1) * g 3 + 1 * g 9 ≤ 0 := d2 c3
  have c4 : 1 * g 4 ≤ 1 := d1 c4
  have c5 : (-1) * g 4 ≤ (-1) := d1 c5
  have c6 : (-1) * g 6 + 1 * g 13 ≤ 0 := d2 c6
  have c7 : 1 * g 6 + (-1) * g 13 ≤ 0 := d2 c7
  have c8 : (-1) * g 7 + 1 * g 15 ≤ 0 := d2 c8
  have c9 : 1 * g 7 + (-1) * g 15 ≤ 0 := d2 c9
  have c10 : 1 * g 16 ≤ 7 := d1 c10
  have c11 : (-1) * g 16 ≤ (-7) := d1 c11
  have c12 : (-1) * g 11 ≤ (-24) := d1 c12
  have c13 : 1 * g 11 ≤ 25 := d1 c13
  obtain ⟨a0, a1, a2, a3, a4, a5, _⟩ := ha
  have n1178 : τ 1178 = none := a0
  have n1179 : τ 1179 = none := a1
  have n1180 : τ 1180 = none := a2
  have n1181 : τ 1181 = none := a3
  have n1182 : τ 1182 = none := a4
  have n1155 : τ 1155 = none := a5
  obtain ⟨h0, k_tok, k_sc1, k_sc2, k_T, k_I, k_F, k_N, k_Y, k_Z, k_A, k_B, k_C, k_X, k_R, k_f4⟩ := hS (by rw [t1199]; exact fun e => by cases e)
  have k_T0 := k_T
  obtain ⟨h_T, h_TN, h_QZ⟩ := k_T0
  have k_I0 := k_I
  obtain ⟨h_p, h_pc, h_ip, h_iP, h_PC, h_PN⟩ := k_I0
  have k_X0 := k_X
  obtain ⟨h_X0a, h_X0, h_X, h_Xe⟩ := k_X0
  have k_R0 := k_R
  obtain ⟨h_rb, h_rh, h_rw, h_rg, h_rd, h_rc, h_rq⟩ := k_R0
  have hXL : ((tx9 m).2 : Int) = m 110 1 := by
    show (((m 110 1).toNat : Nat) : Int) = _
    omega
  have hX := h_X _ _ _ _ _ _ _ _ t1170 t1171 t1172 t1173 t1174 t1175 t1176 t1177
  rw [n1178, n1179, n1180, n1181, n1182] at hX
  obtain ⟨⟨⟨hp1, hp2⟩, hws⟩, ⟨ho0, hv0, hvp, hd0, hd20⟩, ⟨hb0, hbv⟩, hdd⟩ := XB_n hX.1
  have hcc := h_pc _ _ t1123 t1124
  rw [show (g 10).toNat = (g 3).toNat by omega] at hcc
  have hN := h_TN _ _ t1120 t1121
  rw [show (g 9).toNat = (g 3).toNat by omega] at hN
  have hnx := nx_lt (X := tx9 m) (p := (g 3).toNat) (by omega)
  have hRb := (h_rb _ _ t1160 t1161).2.2
  have hRw := h_rw _ _ _ _ _ t1160 t1161 t1162 t1163 t1164
  have hRd := h_rd _ _ _ t1160 t1164 t1165
  rw [show (g 13).toNat = (g 6).toNat by omega] at hRb
  rw [show (g 15).toNat = (g 7).toNat by omega, hRb] at hRw
  rw [show (g 16).toNat = 7 by omega] at hRw
  exact ⟨rfl, trivial, trivial, fun _ => ⟨h0, k_tok, k_sc1, k_sc2, k_T, k_I, k_F, k_N, k_Y, k_Z, k_A, k_B, k_C, ⟨fun X1 Xp e0 e1 => by
      have e0 : g 1 = X1 := Option.some.inj (t1170.symm.trans e0)
      subst e0
      have e1 : g 12 + 0 = Xp := Option.some.inj e1
      subst e1
      exact fun hw => no9 hw rfl, fun X1 X2 Xp e0 e1 e2 => by
      have e0 : g 1 = X1 := Option.some.inj (t1170.symm.trans e0)
      subst e0
      have e1 : g 2 = X2 := Option.some.inj (t1171.symm.trans e1)
      subst e1
      have e2 : g 12 + 0 = Xp := Option.some.inj e2
      subst e2
      exact fun hw => no9 hw rfl, fun X1 X2 Xp Xw Xs Xo Xv Xd e0 e1 e2 e3 e4 e5 e6 e7 => by
      have e0 : g 1 = X1 := Option.some.inj (t1170.symm.trans e0)
      subst e0
      have e1 : g 2 = X2 := Option.some.inj (t1171.symm.trans e1)
      subst e1
      have e2 : g 12 + 0 = Xp := Option.some.inj e2
      subst e2
      have e3 : g 19 + 0 = Xw := Option.some.inj e3
      subst e3
      have e4 : g 19 + 0 = Xs := Option.some.inj e4
      subst e4
      have e5 : g 6 = Xo := Option.some.inj (t1175.symm.trans e5)
      subst e5
      have e6 : g 17 + 0 = Xv := Option.some.inj e6
      subst e6
      have e7 : g 18 + 0 = Xd := Option.some.inj e7
      subst e7
      exact XS_c (X_num hX (by omega) (Or.inr (kq (a := 24) (b := 25) (fun k => k = 6) (by decide) (by omega) (by omega))) ⟨by omega, by omega⟩ (by omega) (by omega) (by omega) (by omega) (by simp only [Int.add_zero]; omega)) n1178 n1179 n1180 n1181 n1182, fun _ _ _ e0 e1 e2 => no9 n1155 e0⟩, k_R, k_f4⟩⟩
noncomputable def ru_xKnO : Ru := ([(0, (1199, (0, (0, 0)))), (0, (1170, (0, (0, 0)))), (0, (1171, (0, (0, 0)))), (0, (1172, (0, (0, 0)))), (0, (1173, (0, (0, 0)))), (0, (1174, (0, (0, 0)))), (0, (1175, (0, (0, 0)))), (0, (1176, (0, (0, 0)))), (0, (1177, (0, (0, 0)))), (0, (1120, (0, (0, 0)))), (0, (1123, (0, (0, 0)))), (0, (1124, (0, (0, 0)))), (0, (1121, (0, (0, 0)))), (0, (1150, (0, (0, 0)))), (0, (1151, (0, (0, 0)))), (0, (1152, (0, (0, 0)))), (4, (0, (0, (1, 0)))), (4, (0, (0, (2, 0)))), (4, (0, (0, (0, 0))))], ([1178, 1179, 1180, 1181, 1182, 1155], ([([(9, (-1)), (10, 1)], 0), ([(9, 1), (10, (-1))], 0), ([(3, 1), (9, (-1))], 0), ([(3, (-1)), (9, 1)], 0), ([(4, 1)], 1), ([(4, (-1))], (-1)), ([(5, 1)], 1), ([(5, (-1))], (-1)), ([(11, 1)], 23), ([(11, (-1))], (-23)), ([(12, (-1)), (13, 1)], 0), ([(12, 1), (13, (-1))], 0), ([(14, (-1))], 0)], (false, ([], ([], ([(1172, some (14, 0)), (1179, some (16, 0)), (1180, some (17, 0)), (1173, some (18, 0)), (1174, some (18, 0))], none)))))))
theorem rk_xKnO : RuOk SR ru_xKnO := by
  intro τ m g hi hc ha hS
  obtain ⟨i0, i1, i2, i3, i4, i5, i6, i7, i8, i9, i10, i11, i12, i13, i14, i15, i16, i17, i18, _⟩ := hi
  have t1199 : τ 1199 = some (g 0) := i0
  have t1170 : τ 1170 = some (g 1) := i1
  have t1171 : τ 1171 = some (g 2) := i2
  have t1172 : τ 1172 = some (g 3) := i3
  have t1173 : τ 1173 = some (g 4) := i4
  have t1174 : τ 1174 = some (g 5) := i5
  have t1175 : τ 1175 = some (g 6) := i6
  have t1176 : τ 1176 = some (g 7) := i7
  have t1177 : τ 1177 = some (g 8) := i8
  have t1120 : τ 1120 = some (g 9) := i9
  have t1123 : τ 1123 = some (g 10) := i10
  have t1124 : τ 1124 = some (g 11) := i11
  have t1121 : τ 1121 = some (g 12) := i12
  have t1150 : τ 1150 = some (g 13) := i13
  have t1151 : τ 1151 = some (g 14) := i14
  have t1152 : τ 1152 = some (g 15) := i15
  have xone : g 16 = 1 := i16
  have xtwo : g 17 = 2 := i17
  have xo : g 18 = 0 := i18
  obtain ⟨c0, c1, c2, c3, c4, c5, c6, c7, c8, c9, c10, c11, c12, _⟩ := hc
  have c0 : (-1) * g 9 + 1 * g 10 ≤ 0 := d2 c0
  have c1 : 1 * g 9 + (-1) * g 10 ≤ 0 := d2 c1
  have c2 : 1 * g 3 + (-1) * g 9 ≤ 0 := d2 c2
  have c3 : (-1) * g 3 + 1 * g 9 ≤ 0 := d2 c3
  have c4 : 1 * g 4 ≤ 1 := d1 c4
  have c5 : (-1) * g 4 ≤ (-1) := d1 c5
  have c6 : 1 * g 5 ≤ 1 := d1 c6
  have c7 : (-1) * g 5 ≤ (-1) := d1 c7
  have c8 : 1 * g 11 ≤ 23 := d1 c8
  have c9 : (-1) * g 11 ≤ (-23) := d1 c9
  have c10 : (-1) * g 12 + 1 * g 13 ≤ 0 := d2 c10
  have c11 : 1 * g 12 + (-1) * g 13 ≤ 0 := d2 c11
  have c12 : (-1) * g 14 ≤ 0 := d1 c12
  obtain ⟨a0, a1, a2, a3, a4, a5, _⟩ := ha
  have n1178 : τ 1178 = none := a0
  have n1179 : τ 1179 = none := a1
  have n1180 : τ 1180 = none := a2
  have n1181 : τ 1181 = none := a3
  have n1182 : τ 1182 = none := a4
  have n1155 : τ 1155 = none := a5
  obtain ⟨h0, k_tok, k_sc1, k_sc2, k_T, k_I, k_F, k_N, k_Y, k_Z, k_A, k_B, k_C, k_X, k_R, k_f4⟩ := hS (by rw [t1199]; exact fun e => by cases e)
  have k_T0 := k_T
  obtain ⟨h_T, h_TN, h_QZ⟩ := k_T0
  have k_I0 := k_I
  obtain ⟨h_p, h_pc, h_ip, h_iP, h_PC, h_PN⟩ := k_I0
  have k_F0 := k_F
  obtain ⟨h_F0, h_F, h_F1, h_F2⟩ := k_F0
  have k_X0 := k_X
  obtain ⟨h_X0a, h_X0, h_X, h_Xe⟩ := k_X0
  have k_R0 := k_R
  obtain ⟨h_rb, h_rh, h_rw, h_rg, h_rd, h_rc, h_rq⟩ := k_R0
  have hXL : ((tx9 m).2 : Int) = m 110 1 := by
    show (((m 110 1).toNat : Nat) : Int) = _
    omega
  have hX := h_X _ _ _ _ _ _ _ _ t1170 t1171 t1172 t1173 t1174 t1175 t1176 t1177
  rw [n1178, n1179, n1180, n1181, n1182] at hX
  obtain ⟨⟨⟨hp1, hp2⟩, hws⟩, ⟨ho0, hv0, hvp, hd0, hd20⟩, ⟨hb0, hbv⟩, hdd⟩ := XB_n hX.1
  have hcc := h_pc _ _ t1123 t1124
  rw [show (g 10).toNat = (g 3).toNat by omega] at hcc
  have hN := h_TN _ _ t1120 t1121
  rw [show (g 9).toNat = (g 3).toNat by omega] at hN
  have hnx := nx_lt (X := tx9 m) (p := (g 3).toNat) (by omega)
  have hFx := h_F _ _ _ t1150 t1151 t1152
  rw [show (g 13).toNat = nx9t (tx9 m) (g 3).toNat by omega] at hFx
  obtain ⟨hf1, hf2⟩ := YE_pos hFx (by omega)
  have hfb := ff_bd hf1 (by omega)
  exact ⟨rfl, trivial, trivial, fun _ => ⟨h0, k_tok, k_sc1, k_sc2, k_T, k_I, k_F, k_N, k_Y, k_Z, k_A, k_B, k_C, ⟨fun X1 Xp e0 e1 => by
      have e0 : g 1 = X1 := Option.some.inj (t1170.symm.trans e0)
      subst e0
      have e1 : g 14 + 0 = Xp := Option.some.inj e1
      subst e1
      exact fun hw => no9 hw rfl, fun X1 X2 Xp e0 e1 e2 => by
      have e0 : g 1 = X1 := Option.some.inj (t1170.symm.trans e0)
      subst e0
      have e1 : g 2 = X2 := Option.some.inj (t1171.symm.trans e1)
      subst e1
      have e2 : g 14 + 0 = Xp := Option.some.inj e2
      subst e2
      exact fun hw => no9 hw rfl, fun X1 X2 Xp Xw Xs Xo Xv Xd e0 e1 e2 e3 e4 e5 e6 e7 => by
      have e0 : g 1 = X1 := Option.some.inj (t1170.symm.trans e0)
      subst e0
      have e1 : g 2 = X2 := Option.some.inj (t1171.symm.trans e1)
      subst e1
      have e2 : g 14 + 0 = Xp := Option.some.inj e2
      subst e2
      have e3 : g 18 + 0 = Xw := Option.some.inj e3
      subst e3
      have e4 : g 18 + 0 = Xs := Option.some.inj e4
      subst e4
      have e5 : g 6 = Xo := Option.some.inj (t1175.symm.trans e5)
      subst e5
      have e6 : g 7 = Xv := Option.some.inj (t1176.symm.trans e6)
      subst e6
      have e7 : g 8 = Xd := Option.some.inj (t1177.symm.trans e7)
      subst e7
      exact XS_c (X_known hX (by omega) (by omega) (kq (a := 23) (b := 23) (fun k => k = 2) (by decide) (by omega) (by omega)) hf1 ⟨by omega, by omega⟩ (by omega) (by omega) (by omega) (by omega) (by omega)) n1178 rfl rfl n1181 n1182, fun _ _ _ e0 e1 e2 => no9 n1155 e0⟩, k_R, k_f4⟩⟩
noncomputable def ru_xKnB : Ru := ([(0, (1199, (0, (0, 0)))), (0, (1170, (0, (0, 0)))), (0, (1171, (0, (0, 0)))), (0, (1172, (0, (0, 0)))), (0, (1173, (0, (0, 0)))), (0, (1174, (0, (0, 0)))), (0, (1175, (0, (0, 0)))), (0, (1176, (0, (0, 0)))), (0, (1177, (0, (0, 0)))), (0, (1120, (0, (0, 0)))), (0, (1123, (0, (0, 0)))), (0, (1124, (0, (0, 0)))), (0, (1121, (0, (0, 0)))), (0, (1150, (0, (0, 0)))), (0, (1151, (0, (0, 0)))), (0, (1152, (0, (0, 0))))], ([1178, 1179, 1180, 1181, 1182, 1155], ([([(9, (-1)), (10, 1)], 0), ([(9, 1), (10, (-1))], 0), ([(3, 1), (9, (-1))], 0), ([(3, (-1)), (9, 1)], 0), ([(4, 1)], 1), ([(4, (-1))], (-1)), ([(5, 1)], 1), ([(5, (-1))], (-1)), ([(11, 1)], 23), ([(11, (-1))], (-23)), ([(12, (-1)), (13, 1)], 0), ([(12, 1), (13, (-1))], 0), ([(14, 1)], (-1))], (false, ([([(2, 1), (15, (-1))], 0), ([(2, (-1)), (15, 1)], 0), ([(1, 1)], (-1)), ([(1, (-1))], 1)], ([], ([(1170, none), (1171, none), (1172, none), (1173, none), (1174, none), (1175, none), (1176, none), (1177, none)], none)))))))
theorem rk_xKnB : RuOk SR ru_xKnB := by
  intro τ m g hi hc ha hS
  obtain ⟨i0, i1, i2, i3, i4, i5, i6, i7, i8, i9, i10, i11, i12, i13, i14, i15, _⟩ := hi
  have t1199 : τ 1199 = some (g 0) := i0
  have t1170 : τ 1170 = some (g 1) := i1
  have t1171 : τ 1171 = some (g 2) := i2
  have t1172 : τ 1172 = some (g 3) := i3
  have t1173 : τ 1173 = some (g 4) := i4
  have t1174 : τ 1174 = some (g 5) := i5
  have t1175 : τ 1175 = some (g 6) := i6
  have t1176 : τ 1176 = some (g 7) := i7
  have t1177 : τ 1177 = some (g 8) := i8
  have t1120 : τ 1120 = some (g 9) := i9
  have t1123 : τ 1123 = some (g 10) := i10
  have t1124 : τ 1124 = some (g 11) := i11
  have t1121 : τ 1121 = some (g 12) := i12
  have t1150 : τ 1150 = some (g 13) := i13
  have t1151 : τ 1151 = some (g 14) := i14
  have t1152 : τ 1152 = some (g 15) := i15
  obtain ⟨c0, c1, c2, c3, c4, c5, c6, c7, c8, c9, c10, c11, c12, _⟩ := hc
  have c0 : (-1) * g 9 + 1 * g 10 ≤ 0 := d2 c0
  have c1 : 1 * g 9 + (-1) * g 10 ≤ 0 := d2 c1
  have c2 : 1 * g 3 + (-1) * g 9 ≤ 0 := d2 c2
  have c3 : (-1) * g 3 + 1 * g 9 ≤ 0 := d2 c3
  have c4 : 1 * g 4 ≤ 1 := d1 c4
  have c5 : (-1) * g 4 ≤ (-1) := d1 c5
  have c6 : 1 * g 5 ≤ 1 := d1 c6
  have c7 : (-1) * g 5 ≤ (-1) := d1 c7
  have c8 : 1 * g 11 ≤ 23 := d1 c8
  have c9 : (-1) * g 11 ≤ (-23) := d1 c9
  have c10 : (-1) * g 12 + 1 * g 13 ≤ 0 := d2 c10
  have c11 : 1 * g 12 + (-1) * g 13 ≤ 0 := d2 c11
  have c12 : 1 * g 14 ≤ (-1) := d1 c12
  obtain ⟨a0, a1, a2, a3, a4, a5, _⟩ := ha
  have n1178 : τ 1178 = none := a0
  have n1179 : τ 1179 = none := a1
  have n1180 : τ 1180 = none := a2
  have n1181 : τ 1181 = none := a3
  have n1182 : τ 1182 = none := a4
  have n1155 : τ 1155 = none := a5
  obtain ⟨h0, k_tok, k_sc1, k_sc2, k_T, k_I, k_F, k_N, k_Y, k_Z, k_A, k_B, k_C, k_X, k_R, k_f4⟩ := hS (by rw [t1199]; exact fun e => by cases e)
  have k_T0 := k_T
  obtain ⟨h_T, h_TN, h_QZ⟩ := k_T0
  have k_I0 := k_I
  obtain ⟨h_p, h_pc, h_ip, h_iP, h_PC, h_PN⟩ := k_I0
  have k_F0 := k_F
  obtain ⟨h_F0, h_F, h_F1, h_F2⟩ := k_F0
  have k_X0 := k_X
  obtain ⟨h_X0a, h_X0, h_X, h_Xe⟩ := k_X0
  have k_R0 := k_R
  obtain ⟨h_rb, h_rh, h_rw, h_rg, h_rd, h_rc, h_rq⟩ := k_R0
  have hXL : ((tx9 m).2 : Int) = m 110 1 := by
    show (((m 110 1).toNat : Nat) : Int) = _
    omega
  have hX := h_X _ _ _ _ _ _ _ _ t1170 t1171 t1172 t1173 t1174 t1175 t1176 t1177
  rw [n1178, n1179, n1180, n1181, n1182] at hX
  obtain ⟨⟨⟨hp1, hp2⟩, hws⟩, ⟨ho0, hv0, hvp, hd0, hd20⟩, ⟨hb0, hbv⟩, hdd⟩ := XB_n hX.1
  have hcc := h_pc _ _ t1123 t1124
  rw [show (g 10).toNat = (g 3).toNat by omega] at hcc
  have hN := h_TN _ _ t1120 t1121
  rw [show (g 9).toNat = (g 3).toNat by omega] at hN
  have hFx := h_F _ _ _ t1150 t1151 t1152
  rw [show (g 13).toNat = nx9t (tx9 m) (g 3).toNat by omega] at hFx
  obtain ⟨hf1, hf2, hf3⟩ := YE_neg hFx (by omega)
  obtain ⟨y1, y2⟩ := X_knownB hX (by omega) (by omega) (kq (a := 23) (b := 23) (fun k => k = 2) (by decide) (by omega) (by omega)) hf1
  exact ⟨rfl, ⟨f2 (by omega), f2 (by omega), f1 (by omega), f1 (by omega), trivial⟩, trivial, fun _ => ⟨h0, k_tok, k_sc1, k_sc2, k_T, k_I, k_F, k_N, k_Y, k_Z, k_A, k_B, k_C, ⟨fun _ _ e0 e1 => no9 (o := none) rfl e0, fun _ _ _ e0 e1 e2 => no9 (o := none) rfl e0, fun _ _ _ _ _ _ _ _ e0 e1 e2 e3 e4 e5 e6 e7 => no9 (o := none) rfl e0, fun _ _ _ e0 e1 e2 => no9 (o := none) rfl e1⟩, k_R, k_f4⟩⟩
noncomputable def ru_xSzO : Ru := ([(0, (1199, (0, (0, 0)))), (0, (1170, (0, (0, 0)))), (0, (1171, (0, (0, 0)))), (0, (1172, (0, (0, 0)))), (0, (1173, (0, (0, 0)))), (0, (1174, (0, (0, 0)))), (0, (1175, (0, (0, 0)))), (0, (1176, (0, (0, 0)))), (0, (1177, (0, (0, 0)))), (0, (1120, (0, (0, 0)))), (0, (1123, (0, (0, 0)))), (0, (1124, (0, (0, 0)))), (0, (1121, (0, (0, 0)))), (0, (1150, (0, (0, 0)))), (0, (1151, (0, (0, 0)))), (0, (1152, (0, (0, 0)))), (0, (1160, (0, (0, 0)))), (0, (1161, (0, (0, 0)))), (0, (1162, (0, (0, 0)))), (0, (1163, (0, (0, 0)))), (0, (1164, (0, (0, 0)))), (0, (1165, (0, (0, 0)))), (4, (0, (0, (0, 0))))], ([1178, 1179, 1180, 1181, 1182, 1155], ([([(9, (-1)), (10, 1)], 0), ([(9, 1), (10, (-1))], 0), ([(3, 1), (9, (-1))], 0), ([(3, (-1)), (9, 1)], 0), ([(4, 1)], 1), ([(4, (-1))], (-1)), ([(6, (-1)), (16, 1)], 0), ([(6, 1), (16, (-1))], 0), ([(7, (-1)), (18, 1)], 0), ([(7, 1), (18, (-1))], 0), ([(19, 1)], 7), ([(19, (-1))], (-7)), ([(11, 1)], 26), ([(11, (-1))], (-26)), ([(12, (-1)), (13, 1)], 0), ([(12, 1), (13, (-1))], 0), ([(14, (-1))], 0)], (false, ([], ([], ([(1172, some (14, 0)), (1176, some (20, 0)), (1177, some (21, 0)), (1173, some (22, 0)), (1174, some (22, 0))], none)))))))
theorem rk_xSzO : RuOk SR ru_xSzO := by
  intro τ m g hi hc ha hS
  obtain ⟨i0, i1, i2, i3, i4, i5, i6, i7, i8, i9, i10, i11, i12, i13, i14, i15, i16, i17, i18, i19, i20, i21, i22, _⟩ := hi
  have t1199 : τ 1199 = some (g 0) := i0
  have t1170 : τ 1170 = some (g 1) := i1
  have t1171 : τ 1171 = some (g 2) := i2
  have t1172 : τ 1172 = some (g 3) := i3
  have t1173 : τ 1173 = some (g 4) := i4
  have t1174 : τ 1174 = some (g 5) := i5
  have t1175 : τ 1175 = some (g 6) := i6
  have t1176 : τ 1176 = some (g 7) := i7
  have t1177 : τ 1177 = some (g 8) := i8
  have t1120 : τ 1120 = some (g 9) := i9
  have t1123 : τ 1123 = some (g 10) := i10
  have t1124 : τ 1124 = some (g 11) := i11
  have t1121 : τ 1121 = some (g 12) := i12
  have t1150 : τ 1150 = some (g 13) := i13
  have t1151 : τ 1151 = some (g 14) := i14
  have t1152 : τ 1152 = some (g 15) := i15
  have t1160 : τ 1160 = some (g 16) := i16
  have t1161 : τ 1161 = some (g 17) := i17
  have t1162 : τ 1162 = some (g 18) := i18
  have t1163 : τ 1163 = some (g 19) := i19
  have t1164 : τ 1164 = some (g 20) := i20
  have t1165 : τ 1165 = some (g 21) := i21
  have xo : g 22 = 0 := i22
  obtain ⟨c0, c1, c2, c3, c4, c5, c6, c7, c8, c9, c10, c11, c12, c13, c14, c15, c16, _⟩ := hc
  have c0 : (-1) * g 9 + 1 * g 10 ≤ 0 := d2 c0
  have c1 : 1 * g 9 + (-1) * g 10 ≤ 0 := d2 c1
  have c2 : 1 * g 3 + (-1) * g 9 ≤ 0 := d2 c2
  have c3 : (-1) * g 3 + 1 * g 9 ≤ 0 := d2 c3
  have c4 : 1 * g 4 ≤ 1 := d1 c4
  have c5 : (-1) * g 4 ≤ (-1) := d1 c5
  have c6 : (-1) * g 6 + 1 * g 16 ≤ 0 := d2 c6
  have c7 : 1 * g 6 + (-1) * g 16 ≤ 0 := d2 c7
  have c8 : (-1) * g 7 + 1 * g 18 ≤ 0 := d2 c8
  have c9 : 1 * g 7 + (-1) * g 18 ≤ 0 := d2 c9
  have c10 : 1 * g 19 ≤ 7 := d1 c10
  have c11 : (-1) * g 19 ≤ (-7) := d1 c11
  have c12 : 1 * g 11 ≤ 26 := d1 c12
  have c13 : (-1) * g 11 ≤ (-26) := d1 c13
  have c14 : (-1) * g 12 + 1 * g 13 ≤ 0 := d2 c14
  have c15 : 1 * g 12 + (-1) * g 13 ≤ 0 := d2 c15
  have c16 : (-1) * g 14 ≤ 0 := d1 c16
  obtain ⟨a0, a1, a2, a3, a4, a5, _⟩ := ha
  have n1178 : τ 1178 = none := a0
  have n1179 : τ 1179 = none := a1
  have n1180 : τ 1180 = none := a2
  have n1181 : τ 1181 = none := a3
  have n1182 : τ 1182 = none := a4
  have n1155 : τ 1155 = none := a5
  obtain ⟨h0, k_tok, k_sc1, k_sc2, k_T, k_I, k_F, k_N, k_Y, k_Z, k_A, k_B, k_C, k_X, k_R, k_f4⟩ := hS (by rw [t1199]; exact fun e => by cases e)
  have k_T0 := k_T
  obtain ⟨h_T, h_TN, h_QZ⟩ := k_T0
  have k_I0 := k_I
  obtain ⟨h_p, h_pc, h_ip, h_iP, h_PC, h_PN⟩ := k_I0
  have k_F0 := k_F
  obtain ⟨h_F0, h_F, h_F1, h_F2⟩ := k_F0
  have k_X0 := k_X
  obtain ⟨h_X0a, h_X0, h_X, h_Xe⟩ := k_X0
  have k_R0 := k_R
  obtain ⟨h_rb, h_rh, h_rw, h_rg, h_rd, h_rc, h_rq⟩ := k_R0
  have hXL : ((tx9 m).2 : Int) = m 110 1 := by
    show (((m 110 1).toNat : Nat) : Int) = _
    omega
  have hX := h_X _ _ _ _ _ _ _ _ t1170 t1171 t1172 t1173 t1174 t1175 t1176 t1177
  rw [n1178, n1179, n1180, n1181, n1182] at hX
  obtain ⟨⟨⟨hp1, hp2⟩, hws⟩, ⟨ho0, hv0, hvp, hd0, hd20⟩, ⟨hb0, hbv⟩, hdd⟩ := XB_n hX.1
  have hcc := h_pc _ _ t1123 t1124
  rw [show (g 10).toNat = (g 3).toNat by omega] at hcc
  have hN := h_TN _ _ t1120 t1121
  rw [show (g 9).toNat = (g 3).toNat by omega] at hN
  have hnx := nx_lt (X := tx9 m) (p := (g 3).toNat) (by omega)
  have hRb := (h_rb _ _ t1160 t1161).2.2
  have hRw := h_rw _ _ _ _ _ t1160 t1161 t1162 t1163 t1164
  have hRd := h_rd _ _ _ t1160 t1164 t1165
  rw [show (g 16).toNat = (g 6).toNat by omega] at hRb
  rw [show (g 18).toNat = (g 7).toNat by omega, hRb] at hRw
  rw [show (g 19).toNat = 7 by omega] at hRw
  have hFx := h_F _ _ _ t1150 t1151 t1152
  rw [show (g 13).toNat = nx9t (tx9 m) (g 3).toNat by omega] at hFx
  obtain ⟨hf1, hf2⟩ := YE_pos hFx (by omega)
  have hfb := ff_bd hf1 (by omega)
  exact ⟨rfl, trivial, trivial, fun _ => ⟨h0, k_tok, k_sc1, k_sc2, k_T, k_I, k_F, k_N, k_Y, k_Z, k_A, k_B, k_C, ⟨fun X1 Xp e0 e1 => by
      have e0 : g 1 = X1 := Option.some.inj (t1170.symm.trans e0)
      subst e0
      have e1 : g 14 + 0 = Xp := Option.some.inj e1
      subst e1
      exact fun hw => no9 hw rfl, fun X1 X2 Xp e0 e1 e2 => by
      have e0 : g 1 = X1 := Option.some.inj (t1170.symm.trans e0)
      subst e0
      have e1 : g 2 = X2 := Option.some.inj (t1171.symm.trans e1)
      subst e1
      have e2 : g 14 + 0 = Xp := Option.some.inj e2
      subst e2
      exact fun hw => no9 hw rfl, fun X1 X2 Xp Xw Xs Xo Xv Xd e0 e1 e2 e3 e4 e5 e6 e7 => by
      have e0 : g 1 = X1 := Option.some.inj (t1170.symm.trans e0)
      subst e0
      have e1 : g 2 = X2 := Option.some.inj (t1171.symm.trans e1)
      subst e1
      have e2 : g 14 + 0 = Xp := Option.some.inj e2
      subst e2
      have e3 : g 22 + 0 = Xw := Option.some.inj e3
      subst e3
      have e4 : g 22 + 0 = Xs := Option.some.inj e4
      subst e4
      have e5 : g 6 = Xo := Option.some.inj (t1175.symm.trans e5)
      subst e5
      have e6 : g 20 + 0 = Xv := Option.some.inj e6
      subst e6
      have e7 : g 21 + 0 = Xd := Option.some.inj e7
      subst e7
      exact XS_c (X_size hX (by omega) (kq (a := 26) (b := 26) (fun k => k = 7) (by decide) (by omega) (by omega)) hf1 ⟨by omega, by omega⟩ (by omega) (by omega) (by omega) (by omega) (by simp only [Int.add_zero]; omega)) n1178 n1179 n1180 n1181 n1182, fun _ _ _ e0 e1 e2 => no9 n1155 e0⟩, k_R, k_f4⟩⟩
noncomputable def ru_xSzB : Ru := ([(0, (1199, (0, (0, 0)))), (0, (1170, (0, (0, 0)))), (0, (1171, (0, (0, 0)))), (0, (1172, (0, (0, 0)))), (0, (1173, (0, (0, 0)))), (0, (1174, (0, (0, 0)))), (0, (1175, (0, (0, 0)))), (0, (1176, (0, (0, 0)))), (0, (1177, (0, (0, 0)))), (0, (1120, (0, (0, 0)))), (0, (1123, (0, (0, 0)))), (0, (1124, (0, (0, 0)))), (0, (1121, (0, (0, 0)))), (0, (1150, (0, (0, 0)))), (0, (1151, (0, (0, 0)))), (0, (1152, (0, (0, 0))))], ([1178, 1179, 1180, 1181, 1182, 1155], ([([(9, (-1)), (10, 1)], 0), ([(9, 1), (10, (-1))], 0), ([(3, 1), (9, (-1))], 0), ([(3, (-1)), (9, 1)], 0), ([(4, 1)], 1), ([(4, (-1))], (-1)), ([(11, 1)], 26), ([(11, (-1))], (-26)), ([(12, (-1)), (13, 1)], 0), ([(12, 1), (13, (-1))], 0), ([(14, 1)], (-1))], (false, ([([(2, 1), (15, (-1))], 0), ([(2, (-1)), (15, 1)], 0), ([(1, 1)], (-1)), ([(1, (-1))], 1)], ([], ([(1170, none), (1171, none), (1172, none), (1173, none), (1174, none), (1175, none), (1176, none), (1177, none)], none)))))))
theorem rk_xSzB : RuOk SR ru_xSzB := by
  intro τ m g hi hc ha hS
  obtain ⟨i0, i1, i2, i3, i4, i5, i6, i7, i8, i9, i10, i11, i12, i13, i14, i15, _⟩ := hi
  have t1199 : τ 1199 = some (g 0) := i0
  have t1170 : τ 1170 = some (g 1) := i1
  have t1171 : τ 1171 = some (g 2) := i2
  have t1172 : τ 1172 = some (g 3) := i3
  have t1173 : τ 1173 = some (g 4) := i4
  have t1174 : τ 1174 = some (g 5) := i5
  have t1175 : τ 1175 = some (g 6) := i6
  have t1176 : τ 1176 = some (g 7) := i7
  have t1177 : τ 1177 = some (g 8) := i8
  have t1120 : τ 1120 = some (g 9) := i9
  have t1123 : τ 1123 = some (g 10) := i10
  have t1124 : τ 1124 = some (g 11) := i11
  have t1121 : τ 1121 = some (g 12) := i12
  have t1150 : τ 1150 = some (g 13) := i13
  have t1151 : τ 1151 = some (g 14) := i14
  have t1152 : τ 1152 = some (g 15) := i15
  obtain ⟨c0, c1, c2, c3, c4, c5, c6, c7, c8, c9, c10, _⟩ := hc
  have c0 : (-1) * g 9 + 1 * g 10 ≤ 0 := d2 c0
  have c1 : 1 * g 9 + (-1) * g 10 ≤ 0 := d2 c1
  have c2 : 1 * g 3 + (-1) * g 9 ≤ 0 := d2 c2
  have c3 : (-1) * g 3 + 1 * g 9 ≤ 0 := d2 c3
  have c4 : 1 * g 4 ≤ 1 := d1 c4
  have c5 : (-1) * g 4 ≤ (-1) := d1 c5
  have c6 : 1 * g 11 ≤ 26 := d1 c6
  have c7 : (-1) * g 11 ≤ (-26) := d1 c7
  have c8 : (-1) * g 12 + 1 * g 13 ≤ 0 := d2 c8
  have c9 : 1 * g 12 + (-1) * g 13 ≤ 0 := d2 c9
  have c10 : 1 * g 14 ≤ (-1) := d1 c10
  obtain ⟨a0, a1, a2, a3, a4, a5, _⟩ := ha
  have n1178 : τ 1178 = none := a0
  have n1179 : τ 1179 = none := a1
  have n1180 : τ 1180 = none := a2
  have n1181 : τ 1181 = none := a3
  have n1182 : τ 1182 = none := a4
  have n1155 : τ 1155 = none := a5
  obtain ⟨h0, k_tok, k_sc1, k_sc2, k_T, k_I, k_F, k_N, k_Y, k_Z, k_A, k_B, k_C, k_X, k_R, k_f4⟩ := hS (by rw [t1199]; exact fun e => by cases e)
  have k_T0 := k_T
  obtain ⟨h_T, h_TN, h_QZ⟩ := k_T0
  have k_I0 := k_I
  obtain ⟨h_p, h_pc, h_ip, h_iP, h_PC, h_PN⟩ := k_I0
  have k_F0 := k_F
  obtain ⟨h_F0, h_F, h_F1, h_F2⟩ := k_F0
  have k_X0 := k_X
  obtain ⟨h_X0a, h_X0, h_X, h_Xe⟩ := k_X0
  have k_R0 := k_R
  obtain ⟨h_rb, h_rh, h_rw, h_rg, h_rd, h_rc, h_rq⟩ := k_R0
  have hXL : ((tx9 m).2 : Int) = m 110 1 := by
    show (((m 110 1).toNat : Nat) : Int) = _
    omega
  have hX := h_X _ _ _ _ _ _ _ _ t1170 t1171 t1172 t1173 t1174 t1175 t1176 t1177
  rw [n1178, n1179, n1180, n1181, n1182] at hX
  obtain ⟨⟨⟨hp1, hp2⟩, hws⟩, ⟨ho0, hv0, hvp, hd0, hd20⟩, ⟨hb0, hbv⟩, hdd⟩ := XB_n hX.1
  have hcc := h_pc _ _ t1123 t1124
  rw [show (g 10).toNat = (g 3).toNat by omega] at hcc
  have hN := h_TN _ _ t1120 t1121
  rw [show (g 9).toNat = (g 3).toNat by omega] at hN
  have hFx := h_F _ _ _ t1150 t1151 t1152
  rw [show (g 13).toNat = nx9t (tx9 m) (g 3).toNat by omega] at hFx
  obtain ⟨hf1, hf2, hf3⟩ := YE_neg hFx (by omega)
  obtain ⟨y1, y2⟩ := X_sizeB hX (by omega) (kq (a := 26) (b := 26) (fun k => k = 7) (by decide) (by omega) (by omega)) hf1
  exact ⟨rfl, ⟨f2 (by omega), f2 (by omega), f1 (by omega), f1 (by omega), trivial⟩, trivial, fun _ => ⟨h0, k_tok, k_sc1, k_sc2, k_T, k_I, k_F, k_N, k_Y, k_Z, k_A, k_B, k_C, ⟨fun _ _ e0 e1 => no9 (o := none) rfl e0, fun _ _ _ e0 e1 e2 => no9 (o := none) rfl e0, fun _ _ _ _ _ _ _ _ e0 e1 e2 e3 e4 e5 e6 e7 => no9 (o := none) rfl e0, fun _ _ _ e0 e1 e2 => no9 (o := none) rfl e1⟩, k_R, k_f4⟩⟩
noncomputable def ru_xEl1 : Ru := ([(0, (1199, (0, (0, 0)))), (0, (1170, (0, (0, 0)))), (0, (1171, (0, (0, 0)))), (0, (1172, (0, (0, 0)))), (0, (1173, (0, (0, 0)))), (0, (1174, (0, (0, 0)))), (0, (1175, (0, (0, 0)))), (0, (1176, (0, (0, 0)))), (0, (1177, (0, (0, 0)))), (0, (1120, (0, (0, 0)))), (0, (1123, (0, (0, 0)))), (0, (1124, (0, (0, 0)))), (0, (1121, (0, (0, 0)))), (4, (0, (0, (1, 0))))], ([1155], ([([(9, (-1)), (10, 1)], 0), ([(9, 1), (10, (-1))], 0), ([(3, 1), (9, (-1))], 0), ([(3, (-1)), (9, 1)], 0), ([(4, 1)], 1), ([(4, (-1))], (-1)), ([(11, 1)], 1)], (false, ([], ([], ([(1155, some (13, 0))], none)))))))
theorem rk_xEl1 : RuOk SR ru_xEl1 := by
  intro τ m g hi hc ha hS
  obtain ⟨i0, i1, i2, i3, i4, i5, i6, i7, i8, i9, i10, i11, i12, i13, _⟩ := hi
  have t1199 : τ 1199 = some (g 0) := i0
  have t1170 : τ 1170 = some (g 1) := i1
  have t1171 : τ 1171 = some (g 2) := i2
  have t1172 : τ 1172 = some (g 3) := i3
  have t1173 : τ 1173 = some (g 4) := i4
  have t1174 : τ 1174 = some (g 5) := i5
  have t1175 : τ 1175 = some (g 6) := i6
  have t1176 : τ 1176 = some (g 7) := i7
  have t1177 : τ 1177 = some (g 8) := i8
  have t1120 : τ 1120 = some (g 9) := i9
  have t1123 : τ 1123 = some (g 10) := i10
  have t1124 : τ 1124 = some (g 11) := i11
  have t1121 : τ 1121 = some (g 12) := i12
  have xone : g 13 = 1 := i13
  obtain ⟨c0, c1, c2, c3, c4, c5, c6, _⟩ := hc
  have c0 : (-1) * g 9 + 1 * g 10 ≤ 0 := d2 c0
  have c1 : 1 * g 9 + (-1) * g 10 ≤ 0 := d2 c1
  have c2 : 1 * g 3 + (-1) * g 9 ≤ 0 := d2 c2
  have c3 : (-1) * g 3 + 1 * g 9 ≤ 0 := d2 c3
  have c4 : 1 * g 4 ≤ 1 := d1 c4
  have c5 : (-1) * g 4 ≤ (-1) := d1 c5
  have c6 : 1 * g 11 ≤ 1 := d1 c6
  obtain ⟨a0, _⟩ := ha
  have n1155 : τ 1155 = none := a0
  obtain ⟨h0, k_tok, k_sc1, k_sc2, k_T, k_I, k_F, k_N, k_Y, k_Z, k_A, k_B, k_C, k_X, k_R, k_f4⟩ := hS (by rw [t1199]; exact fun e => by cases e)
  have k_I0 := k_I
  obtain ⟨h_p, h_pc, h_ip, h_iP, h_PC, h_PN⟩ := k_I0
  have k_X0 := k_X
  obtain ⟨h_X0a, h_X0, h_X, h_Xe⟩ := k_X0
  have hXL : ((tx9 m).2 : Int) = m 110 1 := by
    show (((m 110 1).toNat : Nat) : Int) = _
    omega
  have hcc := h_pc _ _ t1123 t1124
  rw [show (g 10).toNat = (g 3).toNat by omega] at hcc
  exact ⟨rfl, trivial, trivial, fun _ => ⟨h0, k_tok, k_sc1, k_sc2, k_T, k_I, k_F, k_N, k_Y, k_Z, k_A, k_B, k_C, ⟨h_X0a, h_X0, h_X, fun Xe Xp Xs e0 e1 e2 => by
      have e0 : g 13 + 0 = Xe := Option.some.inj e0
      subst e0
      have e1 : g 3 = Xp := Option.some.inj (t1172.symm.trans e1)
      subst e1
      have e2 : g 5 = Xs := Option.some.inj (t1174.symm.trans e2)
      subst e2
      have hk : ((KT9 (tx9 m)).c (g 3).toNat) ≠ 1 ∧ ((KT9 (tx9 m)).c (g 3).toNat) ≠ 2 ∧ ¬ (3 ≤ ((KT9 (tx9 m)).c (g 3).toNat) ∧ ((KT9 (tx9 m)).c (g 3).toNat) ≤ 7) := (kq (a := 0) (b := 1) (fun k => k ≠ 1 ∧ k ≠ 2 ∧ ¬ (3 ≤ k ∧ k ≤ 7)) (by decide) (Nat.zero_le _) (by omega))
      exact ⟨fun z => hk.1 z.2, fun z => hk.2.1 z.2, hk.2.2⟩⟩, k_R, k_f4⟩⟩
noncomputable def ru_xEl2 : Ru := ([(0, (1199, (0, (0, 0)))), (0, (1170, (0, (0, 0)))), (0, (1171, (0, (0, 0)))), (0, (1172, (0, (0, 0)))), (0, (1173, (0, (0, 0)))), (0, (1174, (0, (0, 0)))), (0, (1175, (0, (0, 0)))), (0, (1176, (0, (0, 0)))), (0, (1177, (0, (0, 0)))), (0, (1120, (0, (0, 0)))), (0, (1123, (0, (0, 0)))), (0, (1124, (0, (0, 0)))), (0, (1121, (0, (0, 0)))), (4, (0, (0, (1, 0))))], ([1155], ([([(9, (-1)), (10, 1)], 0), ([(9, 1), (10, (-1))], 0), ([(3, 1), (9, (-1))], 0), ([(3, (-1)), (9, 1)], 0), ([(4, 1)], 1), ([(4, (-1))], (-1)), ([(11, (-1))], (-5)), ([(11, 1)], 8)], (false, ([], ([], ([(1155, some (13, 0))], none)))))))
theorem rk_xEl2 : RuOk SR ru_xEl2 := by
  intro τ m g hi hc ha hS
  obtain ⟨i0, i1, i2, i3, i4, i5, i6, i7, i8, i9, i10, i11, i12, i13, _⟩ := hi
  have t1199 : τ 1199 = some (g 0) := i0
  have t1170 : τ 1170 = some (g 1) := i1
  have t1171 : τ 1171 = some (g 2) := i2
  have t1172 : τ 1172 = some (g 3) := i3
  have t1173 : τ 1173 = some (g 4) := i4
  have t1174 : τ 1174 = some (g 5) := i5
  have t1175 : τ 1175 = some (g 6) := i6
  have t1176 : τ 1176 = some (g 7) := i7
  have t1177 : τ 1177 = some (g 8) := i8
  have t1120 : τ 1120 = some (g 9) := i9
  have t1123 : τ 1123 = some (g 10) := i10
  have t1124 : τ 1124 = some (g 11) := i11
  have t1121 : τ 1121 = some (g 12) := i12
  have xone : g 13 = 1 := i13
  obtain ⟨c0, c1, c2, c3, c4, c5, c6, c7, _⟩ := hc
  have c0 : (-1) * g 9 + 1 * g 10 ≤ 0 := d2 c0
  have c1 : 1 * g 9 + (-1) * g 10 ≤ 0 := d2 c1
  have c2 : 1 * g 3 + (-1) * g 9 ≤ 0 := d2 c2
  have c3 : (-1) * g 3 + 1 * g 9 ≤ 0 := d2 c3
  have c4 : 1 * g 4 ≤ 1 := d1 c4
  have c5 : (-1) * g 4 ≤ (-1) := d1 c5
  have c6 : (-1) * g 11 ≤ (-5) := d1 c6
  have c7 : 1 * g 11 ≤ 8 := d1 c7
  obtain ⟨a0, _⟩ := ha
  have n1155 : τ 1155 = none := a0
  obtain ⟨h0, k_tok, k_sc1, k_sc2, k_T, k_I, k_F, k_N, k_Y, k_Z, k_A, k_B, k_C, k_X, k_R, k_f4⟩ := hS (by rw [t1199]; exact fun e => by cases e)
  have k_I0 := k_I
  obtain ⟨h_p, h_pc, h_ip, h_iP, h_PC, h_PN⟩ := k_I0
  have k_X0 := k_X
  obtain ⟨h_X0a, h_X0, h_X, h_Xe⟩ := k_X0
  have hXL : ((tx9 m).2 : Int) = m 110 1 := by
    show (((m 110 1).toNat : Nat) : Int) = _
    omega
  have hcc := h_pc _ _ t1123 t1124
  rw [show (g 10).toNat = (g 3).toNat by omega] at hcc
  exact ⟨rfl, trivial, trivial, fun _ => ⟨h0, k_tok, k_sc1, k_sc2, k_T, k_I, k_F, k_N, k_Y, k_Z, k_A, k_B, k_C, ⟨h_X0a, h_X0, h_X, fun Xe Xp Xs e0 e1 e2 => by
      have e0 : g 13 + 0 = Xe := Option.some.inj e0
      subst e0
      have e1 : g 3 = Xp := Option.some.inj (t1172.symm.trans e1)
      subst e1
      have e2 : g 5 = Xs := Option.some.inj (t1174.symm.trans e2)
      subst e2
      have hk : ((KT9 (tx9 m)).c (g 3).toNat) ≠ 1 ∧ ((KT9 (tx9 m)).c (g 3).toNat) ≠ 2 ∧ ¬ (3 ≤ ((KT9 (tx9 m)).c (g 3).toNat) ∧ ((KT9 (tx9 m)).c (g 3).toNat) ≤ 7) := (kq (a := 5) (b := 8) (fun k => k ≠ 1 ∧ k ≠ 2 ∧ ¬ (3 ≤ k ∧ k ≤ 7)) (by decide) (by omega) (by omega))
      exact ⟨fun z => hk.1 z.2, fun z => hk.2.1 z.2, hk.2.2⟩⟩, k_R, k_f4⟩⟩
noncomputable def ru_xEl3 : Ru := ([(0, (1199, (0, (0, 0)))), (0, (1170, (0, (0, 0)))), (0, (1171, (0, (0, 0)))), (0, (1172, (0, (0, 0)))), (0, (1173, (0, (0, 0)))), (0, (1174, (0, (0, 0)))), (0, (1175, (0, (0, 0)))), (0, (1176, (0, (0, 0)))), (0, (1177, (0, (0, 0)))), (0, (1120, (0, (0, 0)))), (0, (1123, (0, (0, 0)))), (0, (1124, (0, (0, 0)))), (0, (1121, (0, (0, 0)))), (4, (0, (0, (1, 0))))], ([1155], ([([(9, (-1)), (10, 1)], 0), ([(9, 1), (10, (-1))], 0), ([(3, 1), (9, (-1))], 0), ([(3, (-1)), (9, 1)], 0), ([(4, 1)], 1), ([(4, (-1))], (-1)), ([(11, (-1))], (-10)), ([(11, 1)], 21)], (false, ([], ([], ([(1155, some (13, 0))], none)))))))
theorem rk_xEl3 : RuOk SR ru_xEl3 := by
  intro τ m g hi hc ha hS
  obtain ⟨i0, i1, i2, i3, i4, i5, i6, i7, i8, i9, i10, i11, i12, i13, _⟩ := hi
  have t1199 : τ 1199 = some (g 0) := i0
  have t1170 : τ 1170 = some (g 1) := i1
  have t1171 : τ 1171 = some (g 2) := i2
  have t1172 : τ 1172 = some (g 3) := i3
  have t1173 : τ 1173 = some (g 4) := i4
  have t1174 : τ 1174 = some (g 5) := i5
  have t1175 : τ 1175 = some (g 6) := i6
  have t1176 : τ 1176 = some (g 7) := i7
  have t1177 : τ 1177 = some (g 8) := i8
  have t1120 : τ 1120 = some (g 9) := i9
  have t1123 : τ 1123 = some (g 10) := i10
  have t1124 : τ 1124 = some (g 11) := i11
  have t1121 : τ 1121 = some (g 12) := i12
  have xone : g 13 = 1 := i13
  obtain ⟨c0, c1, c2, c3, c4, c5, c6, c7, _⟩ := hc
  have c0 : (-1) * g 9 + 1 * g 10 ≤ 0 := d2 c0
  have c1 : 1 * g 9 + (-1) * g 10 ≤ 0 := d2 c1
  have c2 : 1 * g 3 + (-1) * g 9 ≤ 0 := d2 c2
  have c3 : (-1) * g 3 + 1 * g 9 ≤ 0 := d2 c3
  have c4 : 1 * g 4 ≤ 1 := d1 c4
  have c5 : (-1) * g 4 ≤ (-1) := d1 c5
  have c6 : (-1) * g 11 ≤ (-10) := d1 c6
  have c7 : 1 * g 11 ≤ 21 := d1 c7
  obtain ⟨a0, _⟩ := ha
  have n1155 : τ 1155 = none := a0
  obtain ⟨h0, k_tok, k_sc1, k_sc2, k_T, k_I, k_F, k_N, k_Y, k_Z, k_A, k_B, k_C, k_X, k_R, k_f4⟩ := hS (by rw [t1199]; exact fun e => by cases e)
  have k_I0 := k_I
  obtain ⟨h_p, h_pc, h_ip, h_iP, h_PC, h_PN⟩ := k_I0
  have k_X0 := k_X
  obtain ⟨h_X0a, h_X0, h_X, h_Xe⟩ := k_X0
  have hXL : ((tx9 m).2 : Int) = m 110 1 := by
    show (((m 110 1).toNat : Nat) : Int) = _
    omega
  have hcc := h_pc _ _ t1123 t1124
  rw [show (g 10).toNat = (g 3).toNat by omega] at hcc
  exact ⟨rfl, trivial, trivial, fun _ => ⟨h0, k_tok, k_sc1, k_sc2, k_T, k_I, k_F, k_N, k_Y, k_Z, k_A, k_B, k_C, ⟨h_X0a, h_X0, h_X, fun Xe Xp Xs e0 e1 e2 => by
      have e0 : g 13 + 0 = Xe := Option.some.inj e0
      subst e0
      have e1 : g 3 = Xp := Option.some.inj (t1172.symm.trans e1)
      subst e1
      have e2 : g 5 = Xs := Option.some.inj (t1174.symm.trans e2)
      subst e2
      have hk : ((KT9 (tx9 m)).c (g 3).toNat) ≠ 1 ∧ ((KT9 (tx9 m)).c (g 3).toNat) ≠ 2 ∧ ¬ (3 ≤ ((KT9 (tx9 m)).c (g 3).toNat) ∧ ((KT9 (tx9 m)).c (g 3).toNat) ≤ 7) := (kq (a := 10) (b := 21) (fun k => k ≠ 1 ∧ k ≠ 2 ∧ ¬ (3 ≤ k ∧ k ≤ 7)) (by decide) (by omega) (by omega))
      exact ⟨fun z => hk.1 z.2, fun z => hk.2.1 z.2, hk.2.2⟩⟩, k_R, k_f4⟩⟩
noncomputable def ru_xEl4 : Ru := ([(0, (1199, (0, (0, 0)))), (0, (1170, (0, (0, 0)))), (0, (1171, (0, (0, 0)))), (0, (1172, (0, (0, 0)))), (0, (1173, (0, (0, 0)))), (0, (1174, (0, (0, 0)))), (0, (1175, (0, (0, 0)))), (0, (1176, (0, (0, 0)))), (0, (1177, (0, (0, 0)))), (0, (1120, (0, (0, 0)))), (0, (1123, (0, (0, 0)))), (0, (1124, (0, (0, 0)))), (0, (1121, (0, (0, 0)))), (4, (0, (0, (1, 0))))], ([1155], ([([(9, (-1)), (10, 1)], 0), ([(9, 1), (10, (-1))], 0), ([(3, 1), (9, (-1))], 0), ([(3, (-1)), (9, 1)], 0), ([(4, 1)], 1), ([(4, (-1))], (-1)), ([(11, (-1))], (-27))], (false, ([], ([], ([(1155, some (13, 0))], none)))))))
theorem rk_xEl4 : RuOk SR ru_xEl4 := by
  intro τ m g hi hc ha hS
  obtain ⟨i0, i1, i2, i3, i4, i5, i6, i7, i8, i9, i10, i11, i12, i13, _⟩ := hi
  have t1199 : τ 1199 = some (g 0) := i0
  have t1170 : τ 1170 = some (g 1) := i1
  have t1171 : τ 1171 = some (g 2) := i2
  have t1172 : τ 1172 = some (g 3) := i3
  have t1173 : τ 1173 = some (g 4) := i4
  have t1174 : τ 1174 = some (g 5) := i5
  have t1175 : τ 1175 = some (g 6) := i6
  have t1176 : τ 1176 = some (g 7) := i7
  have t1177 : τ 1177 = some (g 8) := i8
  have t1120 : τ 1120 = some (g 9) := i9
  have t1123 : τ 1123 = some (g 10) := i10
  have t1124 : τ 1124 = some (g 11) := i11
  have t1121 : τ 1121 = some (g 12) := i12
  have xone : g 13 = 1 := i13
  obtain ⟨c0, c1, c2, c3, c4, c5, c6, _⟩ := hc
  have c0 : (-1) * g 9 + 1 * g 10 ≤ 0 := d2 c0
  have c1 : 1 * g 9 + (-1) * g 10 ≤ 0 := d2 c1
  have c2 : 1 * g 3 + (-1) * g 9 ≤ 0 := d2 c2
  have c3 : (-1) * g 3 + 1 * g 9 ≤ 0 := d2 c3
  have c4 : 1 * g 4 ≤ 1 := d1 c4
  have c5 : (-1) * g 4 ≤ (-1) := d1 c5
  have c6 : (-1) * g 11 ≤ (-27) := d1 c6
  obtain ⟨a0, _⟩ := ha
  have n1155 : τ 1155 = none := a0
  obtain ⟨h0, k_tok, k_sc1, k_sc2, k_T, k_I, k_F, k_N, k_Y, k_Z, k_A, k_B, k_C, k_X, k_R, k_f4⟩ := hS (by rw [t1199]; exact fun e => by cases e)
  have k_I0 := k_I
  obtain ⟨h_p, h_pc, h_ip, h_iP, h_PC, h_PN⟩ := k_I0
  have k_X0 := k_X
  obtain ⟨h_X0a, h_X0, h_X, h_Xe⟩ := k_X0
  have hXL : ((tx9 m).2 : Int) = m 110 1 := by
    show (((m 110 1).toNat : Nat) : Int) = _
    omega
  have hcc := h_pc _ _ t1123 t1124
  rw [show (g 10).toNat = (g 3).toNat by omega] at hcc
  exact ⟨rfl, trivial, trivial, fun _ => ⟨h0, k_tok, k_sc1, k_sc2, k_T, k_I, k_F, k_N, k_Y, k_Z, k_A, k_B, k_C, ⟨h_X0a, h_X0, h_X, fun Xe Xp Xs e0 e1 e2 => by
      have e0 : g 13 + 0 = Xe := Option.some.inj e0
      subst e0
      have e1 : g 3 = Xp := Option.some.inj (t1172.symm.trans e1)
      subst e1
      have e2 : g 5 = Xs := Option.some.inj (t1174.symm.trans e2)
      subst e2
      have hk : ((KT9 (tx9 m)).c (g 3).toNat) ≠ 1 ∧ ((KT9 (tx9 m)).c (g 3).toNat) ≠ 2 ∧ ¬ (3 ≤ ((KT9 (tx9 m)).c (g 3).toNat) ∧ ((KT9 (tx9 m)).c (g 3).toNat) ≤ 7) := (kq (a := 27) (b := 51) (fun k => k ≠ 1 ∧ k ≠ 2 ∧ ¬ (3 ≤ k ∧ k ≤ 7)) (by decide) (by omega) rc_le)
      exact ⟨fun z => hk.1 z.2, fun z => hk.2.1 z.2, hk.2.2⟩⟩, k_R, k_f4⟩⟩
noncomputable def ru_xEl5 : Ru := ([(0, (1199, (0, (0, 0)))), (0, (1170, (0, (0, 0)))), (0, (1171, (0, (0, 0)))), (0, (1172, (0, (0, 0)))), (0, (1173, (0, (0, 0)))), (0, (1174, (0, (0, 0)))), (0, (1175, (0, (0, 0)))), (0, (1176, (0, (0, 0)))), (0, (1177, (0, (0, 0)))), (0, (1120, (0, (0, 0)))), (0, (1123, (0, (0, 0)))), (0, (1124, (0, (0, 0)))), (0, (1121, (0, (0, 0)))), (4, (0, (0, (1, 0))))], ([1155], ([([(9, (-1)), (10, 1)], 0), ([(9, 1), (10, (-1))], 0), ([(3, 1), (9, (-1))], 0), ([(3, (-1)), (9, 1)], 0), ([(4, 1)], 1), ([(4, (-1))], (-1)), ([(11, (-1))], (-22)), ([(11, 1)], 23), ([(5, 1)], 0), ([(5, (-1))], 0)], (false, ([], ([], ([(1155, some (13, 0))], none)))))))
theorem rk_xEl5 : RuOk SR ru_xEl5 := by
  intro τ m g hi hc ha hS
  obtain ⟨i0, i1, i2, i3, i4, i5, i6, i7, i8, i9, i10, i11, i12, i13, _⟩ := hi
  have t1199 : τ 1199 = some (g 0) := i0
  have t1170 : τ 1170 = some (g 1) := i1
  have t1171 : τ 1171 = some (g 2) := i2
  have t1172 : τ 1172 = some (g 3) := i3
  have t1173 : τ 1173 = some (g 4) := i4
  have t1174 : τ 1174 = some (g 5) := i5
  have t1175 : τ 1175 = some (g 6) := i6
  have t1176 : τ 1176 = some (g 7) := i7
  have t1177 : τ 1177 = some (g 8) := i8
  have t1120 : τ 1120 = some (g 9) := i9
  have t1123 : τ 1123 = some (g 10) := i10
  have t1124 : τ 1124 = some (g 11) := i11
  have t1121 : τ 1121 = some (g 12) := i12
  have xone : g 13 = 1 := i13
  obtain ⟨c0, c1, c2, c3, c4, c5, c6, c7, c8, c9, _⟩ := hc
  have c0 : (-1) * g 9 + 1 * g 10 ≤ 0 := d2 c0
  have c1 : 1 * g 9 + (-1) * g 10 ≤ 0 := d2 c1
  have c2 : 1 * g 3 + (-1) * g 9 ≤ 0 := d2 c2
  have c3 : (-1) * g 3 + 1 * g 9 ≤ 0 := d2 c3
  have c4 : 1 * g 4 ≤ 1 := d1 c4
  have c5 : (-1) * g 4 ≤ (-1) := d1 c5
  have c6 : (-1) * g 11 ≤ (-22) := d1 c6
  have c7 : 1 * g 11 ≤ 23 := d1 c7
  have c8 : 1 * g 5 ≤ 0 := d1 c8
  have c9 : (-1) * g 5 ≤ 0 := d1 c9
  obtain ⟨a0, _⟩ := ha
  have n1155 : τ 1155 = none := a0
  obtain ⟨h0, k_tok, k_sc1, k_sc2, k_T, k_I, k_F, k_N, k_Y, k_Z, k_A, k_B, k_C, k_X, k_R, k_f4⟩ := hS (by rw [t1199]; exact fun e => by cases e)
  have k_I0 := k_I
  obtain ⟨h_p, h_pc, h_ip, h_iP, h_PC, h_PN⟩ := k_I0
  have k_X0 := k_X
  obtain ⟨h_X0a, h_X0, h_X, h_Xe⟩ := k_X0
  have hXL : ((tx9 m).2 : Int) = m 110 1 := by
    show (((m 110 1).toNat : Nat) : Int) = _
    omega
  have hcc := h_pc _ _ t1123 t1124
  rw [show (g 10).toNat = (g 3).toNat by omega] at hcc
  exact ⟨rfl, trivial, trivial, fun _ => ⟨h0, k_tok, k_sc1, k_sc2, k_T, k_I, k_F, k_N, k_Y, k_Z, k_A, k_B, k_C, ⟨h_X0a, h_X0, h_X, fun Xe Xp Xs e0 e1 e2 => by
      have e0 : g 13 + 0 = Xe := Option.some.inj e0
      subst e0
      have e1 : g 3 = Xp := Option.some.inj (t1172.symm.trans e1)
      subst e1
      have e2 : g 5 = Xs := Option.some.inj (t1174.symm.trans e2)
      subst e2
      exact ⟨fun z => by omega, fun z => by omega, (kq (a := 22) (b := 23) (fun k => ¬ (3 ≤ k ∧ k ≤ 7)) (by decide) (by omega) (by omega))⟩⟩, k_R, k_f4⟩⟩
noncomputable def ru_xFeB : Ru := ([(0, (1199, (0, (0, 0)))), (0, (1170, (0, (0, 0)))), (0, (1171, (0, (0, 0)))), (0, (1172, (0, (0, 0)))), (0, (1173, (0, (0, 0)))), (0, (1174, (0, (0, 0)))), (0, (1175, (0, (0, 0)))), (0, (1176, (0, (0, 0)))), (0, (1177, (0, (0, 0)))), (0, (1120, (0, (0, 0)))), (0, (1123, (0, (0, 0)))), (0, (1124, (0, (0, 0)))), (0, (1121, (0, (0, 0)))), (0, (1155, (0, (0, 0)))), (0, (1150, (0, (0, 0)))), (0, (1151, (0, (0, 0)))), (0, (1152, (0, (0, 0))))], ([1178, 1179, 1180, 1181, 1182], ([([(9, (-1)), (10, 1)], 0), ([(9, 1), (10, (-1))], 0), ([(3, 1), (9, (-1))], 0), ([(3, (-1)), (9, 1)], 0), ([(4, 1)], 1), ([(4, (-1))], (-1)), ([(13, 1)], 1), ([(13, (-1))], (-1)), ([(9, (-1)), (14, 1)], 0), ([(9, 1), (14, (-1))], 0), ([(15, 1)], (-1))], (false, ([([(2, 1), (16, (-1))], 0), ([(2, (-1)), (16, 1)], 0), ([(1, 1)], (-1)), ([(1, (-1))], 1)], ([], ([(1170, none), (1171, none), (1172, none), (1173, none), (1174, none), (1175, none), (1176, none), (1177, none), (1155, none)], none)))))))
theorem rk_xFeB : RuOk SR ru_xFeB := by
  intro τ m g hi hc ha hS
  obtain ⟨i0, i1, i2, i3, i4, i5, i6, i7, i8, i9, i10, i11, i12, i13, i14, i15, i16, _⟩ := hi
  have t1199 : τ 1199 = some (g 0) := i0
  have t1170 : τ 1170 = some (g 1) := i1
  have t1171 : τ 1171 = some (g 2) := i2
  have t1172 : τ 1172 = some (g 3) := i3
  have t1173 : τ 1173 = some (g 4) := i4
  have t1174 : τ 1174 = some (g 5) := i5
  have t1175 : τ 1175 = some (g 6) := i6
  have t1176 : τ 1176 = some (g 7) := i7
  have t1177 : τ 1177 = some (g 8) := i8
  have t1120 : τ 1120 = some (g 9) := i9
  have t1123 : τ 1123 = some (g 10) := i10
  have t1124 : τ 1124 = some (g 11) := i11
  have t1121 : τ 1121 = some (g 12) := i12
  have t1155 : τ 1155 = some (g 13) := i13
  have t1150 : τ 1150 = some (g 14) := i14
  have t1151 : τ 1151 = some (g 15) := i15
  have t1152 : τ 1152 = some (g 16) := i16
  obtain ⟨c0, c1, c2, c3, c4, c5, c6, c7, c8, c9, c10, _⟩ := hc
  have c0 : (-1) * g 9 + 1 * g 10 ≤ 0 := d2 c0
  have c1 : 1 * g 9 + (-1) * g 10 ≤ 0 := d2 c1
  have c2 : 1 * g 3 + (-1) * g 9 ≤ 0 := d2 c2
  have c3 : (-1) * g 3 + 1 * g 9 ≤ 0 := d2 c3
  have c4 : 1 * g 4 ≤ 1 := d1 c4
  have c5 : (-1) * g 4 ≤ (-1) := d1 c5
  have c6 : 1 * g 13 ≤ 1 := d1 c6
  have c7 : (-1) * g 13 ≤ (-1) := d1 c7
  have c8 : (-1) * g 9 + 1 * g 14 ≤ 0 := d2 c8
  have c9 : 1 * g 9 + (-1) * g 14 ≤ 0 := d2 c9
  have c10 : 1 * g 15 ≤ (-1) := d1 c10
  obtain ⟨a0, a1, a2, a3, a4, _⟩ := ha
  have n1178 : τ 1178 = none := a0
  have n1179 : τ 1179 = none := a1
  have n1180 : τ 1180 = none := a2
  have n1181 : τ 1181 = none := a3
  have n1182 : τ 1182 = none := a4
  obtain ⟨h0, k_tok, k_sc1, k_sc2, k_T, k_I, k_F, k_N, k_Y, k_Z, k_A, k_B, k_C, k_X, k_R, k_f4⟩ := hS (by rw [t1199]; exact fun e => by cases e)
  have k_T0 := k_T
  obtain ⟨h_T, h_TN, h_QZ⟩ := k_T0
  have k_I0 := k_I
  obtain ⟨h_p, h_pc, h_ip, h_iP, h_PC, h_PN⟩ := k_I0
  have k_F0 := k_F
  obtain ⟨h_F0, h_F, h_F1, h_F2⟩ := k_F0
  have k_X0 := k_X
  obtain ⟨h_X0a, h_X0, h_X, h_Xe⟩ := k_X0
  have k_R0 := k_R
  obtain ⟨h_rb, h_rh, h_rw, h_rg, h_rd, h_rc, h_rq⟩ := k_R0
  have hXL : ((tx9 m).2 : Int) = m 110 1 := by
    show (((m 110 1).toNat : Nat) : Int) = _
    omega
  have hX := h_X _ _ _ _ _ _ _ _ t1170 t1171 t1172 t1173 t1174 t1175 t1176 t1177
  rw [n1178, n1179, n1180, n1181, n1182] at hX
  obtain ⟨⟨⟨hp1, hp2⟩, hws⟩, ⟨ho0, hv0, hvp, hd0, hd20⟩, ⟨hb0, hbv⟩, hdd⟩ := XB_n hX.1
  have hcc := h_pc _ _ t1123 t1124
  rw [show (g 10).toNat = (g 3).toNat by omega] at hcc
  have hN := h_TN _ _ t1120 t1121
  rw [show (g 9).toNat = (g 3).toNat by omega] at hN
  have hE := h_Xe _ _ _ t1155 t1172 t1174
  have hFx := h_F _ _ _ t1150 t1151 t1152
  rw [show (g 14).toNat = (g 3).toNat by omega] at hFx
  obtain ⟨hf1, hf2, hf3⟩ := YE_neg hFx (by omega)
  obtain ⟨y1, y2⟩ := X_feB hX (by omega) hE hf1
  exact ⟨rfl, ⟨f2 (by omega), f2 (by omega), f1 (by omega), f1 (by omega), trivial⟩, trivial, fun _ => ⟨h0, k_tok, k_sc1, k_sc2, k_T, k_I, k_F, k_N, k_Y, k_Z, k_A, k_B, k_C, ⟨fun _ _ e0 e1 => no9 (o := none) rfl e0, fun _ _ _ e0 e1 e2 => no9 (o := none) rfl e0, fun _ _ _ _ _ _ _ _ e0 e1 e2 e3 e4 e5 e6 e7 => no9 (o := none) rfl e0, fun _ _ _ e0 e1 e2 => no9 (o := none) rfl e0⟩, k_R, k_f4⟩⟩
noncomputable def ru_cF : Ru := ([(0, (1199, (0, (0, 0)))), (0, (1150, (0, (0, 0)))), (0, (1151, (0, (0, 0))))], ([1125, 1126, 1127, 1122], ([([(2, (-1))], 0)], (false, ([], ([], ([(1125, some (2, 0))], some (1126, (0, 51)))))))))
theorem rk_cF : RuOk SR ru_cF := by
  intro τ m g hi hc ha hS
  obtain ⟨i0, i1, i2, _⟩ := hi
  have t1199 : τ 1199 = some (g 0) := i0
  have t1150 : τ 1150 = some (g 1) := i1
  have t1151 : τ 1151 = some (g 2) := i2
  obtain ⟨c0, _⟩ := hc
  have c0 : (-1) * g 2 ≤ 0 := d1 c0
  obtain ⟨a0, a1, a2, a3, _⟩ := ha
  have n1125 : τ 1125 = none := a0
  have n1126 : τ 1126 = none := a1
  have n1127 : τ 1127 = none := a2
  have n1122 : τ 1122 = none := a3
  obtain ⟨h0, k_tok, k_sc1, k_sc2, k_T, k_I, k_F, k_N, k_Y, k_Z, k_A, k_B, k_C, k_X, k_R, k_f4⟩ := hS (by rw [t1199]; exact fun e => by cases e)
  have k_I0 := k_I
  obtain ⟨h_p, h_pc, h_ip, h_iP, h_PC, h_PN⟩ := k_I0
  have k_F0 := k_F
  obtain ⟨h_F0, h_F, h_F1, h_F2⟩ := k_F0
  have hXL : ((tx9 m).2 : Int) = m 110 1 := by
    show (((m 110 1).toNat : Nat) : Int) = _
    omega
  obtain ⟨⟨hp1, hp2⟩, xe, hxe⟩ := h_F0 _ _ t1150 t1151
  have hcl : At9 (ff9 (KT9 (tx9 m)) (g 1).toNat) ≤ (tx9 m).2 := ff9_cl (P := fun p => p ≤ (tx9 m).2) (Pc9.cl (fun p hp _ => nx_L hp)) (show (g 1).toNat ≤ (tx9 m).2 by omega)
  have hb := YE_b (n := (tx9 m).2) hxe (by omega)
  obtain ⟨x0, hx0⟩ : ∃ x0 : Int, x0 = (rc9 (tx9 m) (g 2).toNat : Int) := ⟨_, rfl⟩
  have x1 : 0 ≤ x0 := by omega
  have x2 : x0 ≤ 51 := by
    have := rc_le (X := tx9 m) (p := (g 2).toNat)
    omega
  exact ⟨rfl, trivial, trivial, x0, x1, x2, fun _ => ⟨h0, k_tok, k_sc1, k_sc2, k_T, ⟨h_p, h_pc, h_ip, fun _ _ _ e0 e1 e2 => no9 n1122 e0, fun P2 C2 e0 e1 => by
      have e0 : g 2 + 0 = P2 := Option.some.inj e0
      subst e0
      have e1 : x0 = C2 := Option.some.inj e1
      subst e1
      rw [Int.add_zero]
      exact ⟨⟨by omega, by omega⟩, hx0⟩, fun _ _ _ e0 e1 e2 => no9 n1127 e2⟩, k_F, k_N, k_Y, k_Z, k_A, k_B, k_C, k_X, k_R, k_f4⟩⟩
noncomputable def ru_nF2 : Ru := ([(0, (1199, (0, (0, 0)))), (0, (1125, (0, (0, 0)))), (0, (1126, (0, (0, 0))))], ([1127], ([], (false, ([], ([], ([], some (1127, (0, 1200)))))))))
theorem rk_nF2 : RuOk SR ru_nF2 := by
  intro τ m g hi hc ha hS
  obtain ⟨i0, i1, i2, _⟩ := hi
  have t1199 : τ 1199 = some (g 0) := i0
  have t1125 : τ 1125 = some (g 1) := i1
  have t1126 : τ 1126 = some (g 2) := i2
  obtain ⟨a0, _⟩ := ha
  have n1127 : τ 1127 = none := a0
  obtain ⟨h0, k_tok, k_sc1, k_sc2, k_T, k_I, k_F, k_N, k_Y, k_Z, k_A, k_B, k_C, k_X, k_R, k_f4⟩ := hS (by rw [t1199]; exact fun e => by cases e)
  have k_I0 := k_I
  obtain ⟨h_p, h_pc, h_ip, h_iP, h_PC, h_PN⟩ := k_I0
  have hXL : ((tx9 m).2 : Int) = m 110 1 := by
    show (((m 110 1).toNat : Nat) : Int) = _
    omega
  obtain ⟨hp, _⟩ := h_PC _ _ t1125 t1126
  have hnL := nx_P (m := m) (p := (g 1).toNat) (by omega)
  obtain ⟨x0, hx0⟩ : ∃ x0 : Int, x0 = (nx9t (tx9 m) (g 1).toNat : Int) := ⟨_, rfl⟩
  have x1 : 0 ≤ x0 := by omega
  have x2 : x0 ≤ 1200 := by omega
  exact ⟨rfl, trivial, trivial, x0, x1, x2, fun _ => ⟨h0, k_tok, k_sc1, k_sc2, k_T, ⟨h_p, h_pc, h_ip, h_iP, h_PC, fun P2 C2 N2 e0 e1 e2 => by
      have e0 : g 1 = P2 := Option.some.inj (t1125.symm.trans e0)
      subst e0
      have e1 : g 2 = C2 := Option.some.inj (t1126.symm.trans e1)
      subst e1
      have e2 : x0 = N2 := Option.some.inj e2
      subst e2
      exact hx0⟩, k_F, k_N, k_Y, k_Z, k_A, k_B, k_C, k_X, k_R, k_f4⟩⟩
noncomputable def ru_cSet : Ru := ([(0, (1199, (0, (0, 0)))), (0, (1120, (0, (0, 0)))), (0, (1125, (0, (0, 0)))), (0, (1126, (0, (0, 0))))], ([1123, 1124, 1122], ([([(1, (-1)), (2, 1)], 0), ([(1, 1), (2, (-1))], 0)], (false, ([], ([], ([(1123, some (1, 0)), (1124, some (3, 0))], none)))))))
theorem rk_cSet : RuOk SR ru_cSet := by
  intro τ m g hi hc ha hS
  obtain ⟨i0, i1, i2, i3, _⟩ := hi
  have t1199 : τ 1199 = some (g 0) := i0
  have t1120 : τ 1120 = some (g 1) := i1
  have t1125 : τ 1125 = some (g 2) := i2
  have t1126 : τ 1126 = some (g 3) := i3
  obtain ⟨c0, c1, _⟩ := hc
  have c0 : (-1) * g 1 + 1 * g 2 ≤ 0 := d2 c0
  have c1 : 1 * g 1 + (-1) * g 2 ≤ 0 := d2 c1
  obtain ⟨a0, a1, a2, _⟩ := ha
  have n1123 : τ 1123 = none := a0
  have n1124 : τ 1124 = none := a1
  have n1122 : τ 1122 = none := a2
  obtain ⟨h0, k_tok, k_sc1, k_sc2, k_T, k_I, k_F, k_N, k_Y, k_Z, k_A, k_B, k_C, k_X, k_R, k_f4⟩ := hS (by rw [t1199]; exact fun e => by cases e)
  have k_T0 := k_T
  obtain ⟨h_T, h_TN, h_QZ⟩ := k_T0
  have k_I0 := k_I
  obtain ⟨h_p, h_pc, h_ip, h_iP, h_PC, h_PN⟩ := k_I0
  have hXL : ((tx9 m).2 : Int) = m 110 1 := by
    show (((m 110 1).toNat : Nat) : Int) = _
    omega
  obtain ⟨⟨hT1, hT2⟩, ⟨hTa, hTk, hTp⟩, _⟩ := h_T _ t1120
  have hnL := nx_P (m := m) (p := (g 1).toNat) (by omega)
  have hte := te_P (m := m) (p := (g 1).toNat) (by omega)
  have hPC := h_PC _ _ t1125 t1126
  exact ⟨rfl, trivial, trivial, fun _ => ⟨h0, k_tok, k_sc1, k_sc2, k_T, ⟨fun p9 e0 => by
      have e0 : g 1 + 0 = p9 := Option.some.inj e0
      subst e0
      exact ⟨by omega, by omega⟩, fun p9 c9 e0 e1 => by
      have e0 : g 1 + 0 = p9 := Option.some.inj e0
      subst e0
      have e1 : g 3 + 0 = c9 := Option.some.inj e1
      subst e1
      rw [Int.add_zero, Int.add_zero, show g 1 = g 2 by omega]
      exact hPC.2, fun _ _ _ e0 e1 e2 => no9 n1122 e1, fun _ _ _ e0 e1 e2 => no9 n1122 e0, h_PC, h_PN⟩, k_F, k_N, k_Y, k_Z, k_A, k_B, k_C, k_X, k_R, k_f4⟩⟩
noncomputable def ru_nSet : Ru := ([(0, (1199, (0, (0, 0)))), (0, (1120, (0, (0, 0)))), (0, (1125, (0, (0, 0)))), (0, (1126, (0, (0, 0)))), (0, (1127, (0, (0, 0))))], ([1121], ([([(1, (-1)), (2, 1)], 0), ([(1, 1), (2, (-1))], 0)], (false, ([], ([], ([(1121, some (4, 0))], none)))))))
theorem rk_nSet : RuOk SR ru_nSet := by
  intro τ m g hi hc ha hS
  obtain ⟨i0, i1, i2, i3, i4, _⟩ := hi
  have t1199 : τ 1199 = some (g 0) := i0
  have t1120 : τ 1120 = some (g 1) := i1
  have t1125 : τ 1125 = some (g 2) := i2
  have t1126 : τ 1126 = some (g 3) := i3
  have t1127 : τ 1127 = some (g 4) := i4
  obtain ⟨c0, c1, _⟩ := hc
  have c0 : (-1) * g 1 + 1 * g 2 ≤ 0 := d2 c0
  have c1 : 1 * g 1 + (-1) * g 2 ≤ 0 := d2 c1
  obtain ⟨a0, _⟩ := ha
  have n1121 : τ 1121 = none := a0
  obtain ⟨h0, k_tok, k_sc1, k_sc2, k_T, k_I, k_F, k_N, k_Y, k_Z, k_A, k_B, k_C, k_X, k_R, k_f4⟩ := hS (by rw [t1199]; exact fun e => by cases e)
  have k_T0 := k_T
  obtain ⟨h_T, h_TN, h_QZ⟩ := k_T0
  have k_I0 := k_I
  obtain ⟨h_p, h_pc, h_ip, h_iP, h_PC, h_PN⟩ := k_I0
  have hPN := h_PN _ _ _ t1125 t1126 t1127
  exact ⟨rfl, trivial, trivial, fun _ => ⟨h0, k_tok, k_sc1, k_sc2, ⟨h_T, fun T9 N9 e0 e1 => by
      have e0 : g 1 = T9 := Option.some.inj (t1120.symm.trans e0)
      subst e0
      have e1 : g 4 + 0 = N9 := Option.some.inj e1
      subst e1
      rw [Int.add_zero, show g 1 = g 2 by omega]
      exact hPN, h_QZ⟩, k_I, k_F, k_N, k_Y, k_Z, k_A, k_B, k_C, k_X, k_R, k_f4⟩⟩
noncomputable def ru_rdk : Ru := ([(0, (1178, (0, (0, 0))))], ([], ([], (false, ([], ([], ([(1160, none), (1161, none), (1162, none), (1163, none), (1164, none), (1165, none), (1166, none), (1167, none), (1168, none)], none)))))))
theorem rk_rdk : RuOk SR ru_rdk := by
  intro τ m g hi hc ha hS
  refine ⟨rfl, trivial, trivial, fun hM => ?_⟩
  obtain ⟨h0, k_tok, k_sc1, k_sc2, k_T, k_I, k_F, k_N, k_Y, k_Z, k_A, k_B, k_C, k_X, k_R, k_f4⟩ := hS hM
  have k_R0 := k_R
  obtain ⟨h_rb, h_rh, h_rw, h_rg, h_rd, h_rc, h_rq⟩ := k_R0
  exact ⟨h0, k_tok, k_sc1, k_sc2, k_T, k_I, k_F, k_N, k_Y, k_Z, k_A, k_B, k_C, k_X, ⟨fun _ _ e0 e1 => no9 (o := none) rfl e0, fun _ _ _ e0 e1 e2 => no9 (o := none) rfl e0, fun _ _ _ _ _ e0 e1 e2 e3 e4 => no9 (o := none) rfl e0, fun _ _ _ e0 e1 e2 => no9 (o := none) rfl e0, fun _ _ _ e0 e1 e2 => no9 (o := none) rfl e0, fun _ _ _ _ _ _ e0 e1 e2 e3 e4 e5 => no9 (o := none) rfl e0, fun _ _ _ e0 e1 e2 => no9 (o := none) rfl e0⟩, k_f4⟩
noncomputable def ru_rdq : Ru := ([(0, (1180, (0, (0, 0))))], ([], ([], (false, ([], ([], ([(1160, none), (1161, none), (1162, none), (1163, none), (1164, none), (1165, none), (1166, none), (1167, none), (1168, none)], none)))))))
theorem rk_rdq : RuOk SR ru_rdq := by
  intro τ m g hi hc ha hS
  refine ⟨rfl, trivial, trivial, fun hM => ?_⟩
  obtain ⟨h0, k_tok, k_sc1, k_sc2, k_T, k_I, k_F, k_N, k_Y, k_Z, k_A, k_B, k_C, k_X, k_R, k_f4⟩ := hS hM
  have k_R0 := k_R
  obtain ⟨h_rb, h_rh, h_rw, h_rg, h_rd, h_rc, h_rq⟩ := k_R0
  exact ⟨h0, k_tok, k_sc1, k_sc2, k_T, k_I, k_F, k_N, k_Y, k_Z, k_A, k_B, k_C, k_X, ⟨fun _ _ e0 e1 => no9 (o := none) rfl e0, fun _ _ _ e0 e1 e2 => no9 (o := none) rfl e0, fun _ _ _ _ _ e0 e1 e2 e3 e4 => no9 (o := none) rfl e0, fun _ _ _ e0 e1 e2 => no9 (o := none) rfl e0, fun _ _ _ e0 e1 e2 => no9 (o := none) rfl e0, fun _ _ _ _ _ _ e0 e1 e2 e3 e4 e5 => no9 (o := none) rfl e0, fun _ _ _ e0 e1 e2 => no9 (o := none) rfl e0⟩, k_f4⟩
noncomputable def ru_goX : Ru := ([(0, (1199, (0, (0, 0)))), (0, (1170, (0, (0, 0)))), (0, (1120, (0, (0, 0)))), (0, (1121, (0, (0, 0)))), (5, (110, (27, (0, 0))))], ([1103, 1104, 1105, 1101, 1106, 1107, 1108, 1109, 1110, 1111, 1112, 1113, 1114, 1115], ([], (false, ([], ([], ([(1103, some (4, 0)), (1104, some (3, 0)), (1120, none), (1121, none), (1123, none), (1124, none)], none)))))))
theorem rk_goX : RuOk SR ru_goX := by
  intro τ m g hi hc ha hS
  obtain ⟨i0, i1, i2, i3, i4, _⟩ := hi
  have t1199 : τ 1199 = some (g 0) := i0
  have t1170 : τ 1170 = some (g 1) := i1
  have t1120 : τ 1120 = some (g 2) := i2
  have t1121 : τ 1121 = some (g 3) := i3
  have xp : g 4 = m 110 27 := i4
  obtain ⟨a0, a1, a2, a3, a4, a5, a6, a7, a8, a9, a10, a11, a12, a13, _⟩ := ha
  have n1103 : τ 1103 = none := a0
  have n1104 : τ 1104 = none := a1
  have n1105 : τ 1105 = none := a2
  have n1101 : τ 1101 = none := a3
  have n1106 : τ 1106 = none := a4
  have n1107 : τ 1107 = none := a5
  have n1108 : τ 1108 = none := a6
  have n1109 : τ 1109 = none := a7
  have n1110 : τ 1110 = none := a8
  have n1111 : τ 1111 = none := a9
  have n1112 : τ 1112 = none := a10
  have n1113 : τ 1113 = none := a11
  have n1114 : τ 1114 = none := a12
  have n1115 : τ 1115 = none := a13
  obtain ⟨h0, k_tok, k_sc1, k_sc2, k_T, k_I, k_F, k_N, k_Y, k_Z, k_A, k_B, k_C, k_X, k_R, k_f4⟩ := hS (by rw [t1199]; exact fun e => by cases e)
  have k_T0 := k_T
  obtain ⟨h_T, h_TN, h_QZ⟩ := k_T0
  have k_sc10 := k_sc1
  obtain ⟨h_qz, h_nz, h_s, h_ns, h_nE⟩ := k_sc10
  have k_I0 := k_I
  obtain ⟨h_p, h_pc, h_ip, h_iP, h_PC, h_PN⟩ := k_I0
  have hXL : ((tx9 m).2 : Int) = m 110 1 := by
    show (((m 110 1).toNat : Nat) : Int) = _
    omega
  obtain ⟨⟨hT1, hT2⟩, ⟨hTa, hTk, hTp⟩, _⟩ := h_T _ t1120
  have hnL := nx_P (m := m) (p := (g 2).toNat) (by omega)
  have hte := te_P (m := m) (p := (g 2).toNat) (by omega)
  have hN := h_TN _ _ t1120 t1121
  exact ⟨rfl, trivial, trivial, fun _ => ⟨h0, k_tok, ⟨fun q9 z9 e0 e1 => by
      have e0 : g 4 + 0 = q9 := Option.some.inj e0
      subst e0
      have e1 : g 3 + 0 = z9 := Option.some.inj e1
      subst e1
      rw [show (g 4 + 0).toNat = te9 (tx9 m) (g 2).toNat by omega, Int.add_zero, Int.add_zero]
      exact ⟨⟨by omega, by omega⟩, hN⟩, fun _ _ e0 e1 => no9 n1101 e0, h_s, h_ns, h_nE⟩, k_sc2, ⟨fun _ e0 => no9 (o := none) rfl e0, fun _ _ e0 e1 => no9 (o := none) rfl e0, h_QZ⟩, ⟨fun _ e0 => no9 (o := none) rfl e0, fun _ _ e0 e1 => no9 (o := none) rfl e0, fun _ _ _ e0 e1 e2 => no9 (o := none) rfl e2, fun _ _ _ e0 e1 e2 => no9 (o := none) rfl e1, h_PC, h_PN⟩, k_F, k_N, k_Y, k_Z, k_A, k_B, k_C, k_X, k_R, k_f4⟩⟩
noncomputable def ru_dpc : Ru := ([], ([], ([], (false, ([], ([], ([(1121, none), (1123, none), (1124, none)], none)))))))
theorem rk_dpc : RuOk SR ru_dpc := by
  intro τ m g hi hc ha hS
  refine ⟨rfl, trivial, trivial, fun hM => ?_⟩
  obtain ⟨h0, k_tok, k_sc1, k_sc2, k_T, k_I, k_F, k_N, k_Y, k_Z, k_A, k_B, k_C, k_X, k_R, k_f4⟩ := hS hM
  have k_T0 := k_T
  obtain ⟨h_T, h_TN, h_QZ⟩ := k_T0
  have k_I0 := k_I
  obtain ⟨h_p, h_pc, h_ip, h_iP, h_PC, h_PN⟩ := k_I0
  exact ⟨h0, k_tok, k_sc1, k_sc2, ⟨h_T, fun _ _ e0 e1 => no9 (o := none) rfl e1, h_QZ⟩, ⟨fun _ e0 => no9 (o := none) rfl e0, fun _ _ e0 e1 => no9 (o := none) rfl e0, fun _ _ _ e0 e1 e2 => no9 (o := none) rfl e2, fun _ _ _ e0 e1 e2 => no9 (o := none) rfl e1, h_PC, h_PN⟩, k_F, k_N, k_Y, k_Z, k_A, k_B, k_C, k_X, k_R, k_f4⟩
noncomputable def ru_fin : Ru := ([], ([], ([], (false, ([], ([], ([(1120, none), (1121, none), (1123, none), (1124, none), (1128, none), (1129, none), (1155, none)], none)))))))
theorem rk_fin : RuOk SR ru_fin := by
  intro τ m g hi hc ha hS
  refine ⟨rfl, trivial, trivial, fun hM => ?_⟩
  obtain ⟨h0, k_tok, k_sc1, k_sc2, k_T, k_I, k_F, k_N, k_Y, k_Z, k_A, k_B, k_C, k_X, k_R, k_f4⟩ := hS hM
  have k_T0 := k_T
  obtain ⟨h_T, h_TN, h_QZ⟩ := k_T0
  have k_I0 := k_I
  obtain ⟨h_p, h_pc, h_ip, h_iP, h_PC, h_PN⟩ := k_I0
  have k_X0 := k_X
  obtain ⟨h_X0a, h_X0, h_X, h_Xe⟩ := k_X0
  exact ⟨h0, k_tok, k_sc1, k_sc2, ⟨fun _ e0 => no9 (o := none) rfl e0, fun _ _ e0 e1 => no9 (o := none) rfl e0, fun _ _ e0 e1 => no9 (o := none) rfl e0⟩, ⟨fun _ e0 => no9 (o := none) rfl e0, fun _ _ e0 e1 => no9 (o := none) rfl e0, fun _ _ _ e0 e1 e2 => no9 (o := none) rfl e2, fun _ _ _ e0 e1 e2 => no9 (o := none) rfl e1, h_PC, h_PN⟩, k_F, k_N, k_Y, k_Z, k_A, k_B, k_C, ⟨h_X0a, h_X0, h_X, fun _ _ _ e0 e1 e2 => no9 (o := none) rfl e0⟩, k_R, k_f4⟩
noncomputable def ru_xItm : Ru := ([(0, (1199, (0, (0, 0)))), (0, (1170, (0, (0, 0)))), (0, (1171, (0, (0, 0)))), (0, (1172, (0, (0, 0)))), (0, (1173, (0, (0, 0)))), (0, (1174, (0, (0, 0)))), (0, (1175, (0, (0, 0)))), (0, (1176, (0, (0, 0)))), (0, (1177, (0, (0, 0)))), (0, (1120, (0, (0, 0)))), (0, (1123, (0, (0, 0)))), (0, (1124, (0, (0, 0)))), (0, (1121, (0, (0, 0)))), (0, (1155, (0, (0, 0)))), (0, (1150, (0, (0, 0)))), (0, (1151, (0, (0, 0)))), (0, (1152, (0, (0, 0)))), (0, (1125, (0, (0, 0)))), (0, (1126, (0, (0, 0)))), (0, (1127, (0, (0, 0)))), (4, (0, (0, (3, 0)))), (4, (0, (0, (0, 0))))], ([1178, 1179, 1180, 1181, 1182], ([([(9, (-1)), (10, 1)], 0), ([(9, 1), (10, (-1))], 0), ([(3, 1), (9, (-1))], 0), ([(3, (-1)), (9, 1)], 0), ([(4, 1)], 1), ([(4, (-1))], (-1)), ([(13, 1)], 1), ([(13, (-1))], (-1)), ([(9, (-1)), (14, 1)], 0), ([(9, 1), (14, (-1))], 0), ([(15, (-1))], 0), ([(15, (-1)), (17, 1)], 0), ([(15, 1), (17, (-1))], 0), ([(18, 1)], 6), ([(18, (-1))], (-6)), ([(8, 1)], 19)], (false, ([], ([], ([(1172, some (19, 0)), (1175, some (6, 1)), (1177, some (8, 1)), (1178, some (20, 0)), (1179, some (21, 0)), (1180, some (21, 0)), (1181, some (7, 0)), (1174, some (21, 0)), (1155, none)], none)))))))
theorem rk_xItm : RuOk SR ru_xItm := by
  intro τ m g hi hc ha hS
  obtain ⟨i0, i1, i2, i3, i4, i5, i6, i7, i8, i9, i10, i11, i12, i13, i14, i15, i16, i17, i18, i19, i20, i21, _⟩ := hi
  have t1199 : τ 1199 = some (g 0) := i0
  have t1170 : τ 1170 = some (g 1) := i1
  have t1171 : τ 1171 = some (g 2) := i2
  have t1172 : τ 1172 = some (g 3) := i3
  have t1173 : τ 1173 = some (g 4) := i4
  have t1174 : τ 1174 = some (g 5) := i5
  have t1175 : τ 1175 = some (g 6) := i6
  have t1176 : τ 1176 = some (g 7) := i7
  have t1177 : τ 1177 = some (g 8) := i8
  have t1120 : τ 1120 = some (g 9) := i9
  have t1123 : τ 1123 = some (g 10) := i10
  have t1124 : τ 1124 = some (g 11) := i11
  have t1121 : τ 1121 = some (g 12) := i12
  have t1155 : τ 1155 = some (g 13) := i13
  have t1150 : τ 1150 = some (g 14) := i14
  have t1151 : τ 1151 = some (g 15) := i15
  have t1152 : τ 1152 = some (g 16) := i16
  have t1125 : τ 1125 = some (g 17) := i17
  have t1126 : τ 1126 = some (g 18) := i18
  have t1127 : τ 1127 = some (g 19) := i19
  have xk3 : g 20 = 3 := i20
  have xo : g 21 = 0 := i21
  obtain ⟨c0, c1, c2, c3, c4, c5, c6, c7, c8, c9, c10, c11, c12, c13, c14, c15, _⟩ := hc
  have c0 : (-1) * g 9 + 1 * g 10 ≤ 0 := d2 c0
  have c1 : 1 * g 9 + (-1) * g 10 ≤ 0 := d2 c1
  have c2 : 1 * g 3 + (-1) * g 9 ≤ 0 := d2 c2
  have c3 : (-1) * g 3 + 1 * g 9 ≤ 0 := d2 c3
  have c4 : 1 * g 4 ≤ 1 := d1 c4
  have c5 : (-1) * g 4 ≤ (-1) := d1 c5
  have c6 : 1 * g 13 ≤ 1 := d1 c6
  have c7 : (-1) * g 13 ≤ (-1) := d1 c7
  have c8 : (-1) * g 9 + 1 * g 14 ≤ 0 := d2 c8
  have c9 : 1 * g 9 + (-1) * g 14 ≤ 0 := d2 c9
  have c10 : (-1) * g 15 ≤ 0 := d1 c10
  have c11 : (-1) * g 15 + 1 * g 17 ≤ 0 := d2 c11
  have c12 : 1 * g 15 + (-1) * g 17 ≤ 0 := d2 c12
  have c13 : 1 * g 18 ≤ 6 := d1 c13
  have c14 : (-1) * g 18 ≤ (-6) := d1 c14
  have c15 : 1 * g 8 ≤ 19 := d1 c15
  obtain ⟨a0, a1, a2, a3, a4, _⟩ := ha
  have n1178 : τ 1178 = none := a0
  have n1179 : τ 1179 = none := a1
  have n1180 : τ 1180 = none := a2
  have n1181 : τ 1181 = none := a3
  have n1182 : τ 1182 = none := a4
  obtain ⟨h0, k_tok, k_sc1, k_sc2, k_T, k_I, k_F, k_N, k_Y, k_Z, k_A, k_B, k_C, k_X, k_R, k_f4⟩ := hS (by rw [t1199]; exact fun e => by cases e)
  have k_T0 := k_T
  obtain ⟨h_T, h_TN, h_QZ⟩ := k_T0
  have k_I0 := k_I
  obtain ⟨h_p, h_pc, h_ip, h_iP, h_PC, h_PN⟩ := k_I0
  have k_F0 := k_F
  obtain ⟨h_F0, h_F, h_F1, h_F2⟩ := k_F0
  have k_X0 := k_X
  obtain ⟨h_X0a, h_X0, h_X, h_Xe⟩ := k_X0
  have k_R0 := k_R
  obtain ⟨h_rb, h_rh, h_rw, h_rg, h_rd, h_rc, h_rq⟩ := k_R0
  have hXL : ((tx9 m).2 : Int) = m 110 1 := by
    show (((m 110 1).toNat : Nat) : Int) = _
    omega
  have hX := h_X _ _ _ _ _ _ _ _ t1170 t1171 t1172 t1173 t1174 t1175 t1176 t1177
  rw [n1178, n1179, n1180, n1181, n1182] at hX
  obtain ⟨⟨⟨hp1, hp2⟩, hws⟩, ⟨ho0, hv0, hvp, hd0, hd20⟩, ⟨hb0, hbv⟩, hdd⟩ := XB_n hX.1
  have hcc := h_pc _ _ t1123 t1124
  rw [show (g 10).toNat = (g 3).toNat by omega] at hcc
  have hN := h_TN _ _ t1120 t1121
  rw [show (g 9).toNat = (g 3).toNat by omega] at hN
  have hE := h_Xe _ _ _ t1155 t1172 t1174
  have hFx := h_F _ _ _ t1150 t1151 t1152
  rw [show (g 14).toNat = (g 3).toNat by omega] at hFx
  obtain ⟨hf1, hf2⟩ := YE_pos hFx (by omega)
  have hfb := ff_bd hf1 (by omega)
  obtain ⟨hpc1, hpc2⟩ := h_PC _ _ t1125 t1126
  have hPN := h_PN _ _ _ t1125 t1126 t1127
  rw [show (g 17).toNat = (g 15).toNat by omega] at hpc2 hPN
  have hn2 := nx_lt (X := tx9 m) (p := (g 15).toNat) (by omega)
  exact ⟨rfl, trivial, trivial, fun _ => ⟨h0, k_tok, k_sc1, k_sc2, k_T, k_I, k_F, k_N, k_Y, k_Z, k_A, k_B, k_C, ⟨fun X1 Xp e0 e1 => by
      have e0 : g 1 = X1 := Option.some.inj (t1170.symm.trans e0)
      subst e0
      have e1 : g 19 + 0 = Xp := Option.some.inj e1
      subst e1
      exact fun hw => no9 hw t1173, fun X1 X2 Xp e0 e1 e2 => by
      have e0 : g 1 = X1 := Option.some.inj (t1170.symm.trans e0)
      subst e0
      have e1 : g 2 = X2 := Option.some.inj (t1171.symm.trans e1)
      subst e1
      have e2 : g 19 + 0 = Xp := Option.some.inj e2
      subst e2
      exact fun hw => no9 hw t1173, fun X1 X2 Xp Xw Xs Xo Xv Xd e0 e1 e2 e3 e4 e5 e6 e7 => by
      have e0 : g 1 = X1 := Option.some.inj (t1170.symm.trans e0)
      subst e0
      have e1 : g 2 = X2 := Option.some.inj (t1171.symm.trans e1)
      subst e1
      have e2 : g 19 + 0 = Xp := Option.some.inj e2
      subst e2
      have e3 : g 4 = Xw := Option.some.inj (t1173.symm.trans e3)
      subst e3
      have e4 : g 21 + 0 = Xs := Option.some.inj e4
      subst e4
      have e5 : g 6 + 1 = Xo := Option.some.inj e5
      subst e5
      have e6 : g 7 = Xv := Option.some.inj (t1176.symm.trans e6)
      subst e6
      have e7 : g 8 + 1 = Xd := Option.some.inj e7
      subst e7
      exact XS_c (X_itm hX (by omega) hE hf1 (kq (a := 6) (b := 6) (fun k => k = 9) (by decide) (by omega) (by omega)) (by omega) ⟨by omega, by omega⟩ (by omega) (by omega) (by omega) (by omega) (by omega) (by omega) (by omega) (by omega)) rfl rfl rfl rfl n1182, fun _ _ _ e0 e1 e2 => no9 (o := none) rfl e0⟩, k_R, k_f4⟩⟩
noncomputable def ru_xItD : Ru := ([(0, (1199, (0, (0, 0)))), (0, (1170, (0, (0, 0)))), (0, (1171, (0, (0, 0)))), (0, (1172, (0, (0, 0)))), (0, (1173, (0, (0, 0)))), (0, (1174, (0, (0, 0)))), (0, (1175, (0, (0, 0)))), (0, (1176, (0, (0, 0)))), (0, (1177, (0, (0, 0)))), (0, (1120, (0, (0, 0)))), (0, (1123, (0, (0, 0)))), (0, (1124, (0, (0, 0)))), (0, (1121, (0, (0, 0)))), (0, (1155, (0, (0, 0)))), (0, (1150, (0, (0, 0)))), (0, (1151, (0, (0, 0)))), (0, (1152, (0, (0, 0)))), (0, (1125, (0, (0, 0)))), (0, (1126, (0, (0, 0)))), (0, (1127, (0, (0, 0))))], ([1178, 1179, 1180, 1181, 1182], ([([(9, (-1)), (10, 1)], 0), ([(9, 1), (10, (-1))], 0), ([(3, 1), (9, (-1))], 0), ([(3, (-1)), (9, 1)], 0), ([(4, 1)], 1), ([(4, (-1))], (-1)), ([(13, 1)], 1), ([(13, (-1))], (-1)), ([(9, (-1)), (14, 1)], 0), ([(9, 1), (14, (-1))], 0), ([(15, (-1))], 0), ([(15, (-1)), (17, 1)], 0), ([(15, 1), (17, (-1))], 0), ([(18, 1)], 6), ([(18, (-1))], (-6)), ([(8, (-1))], (-20))], (false, ([([(2, 1), (15, (-1))], 0), ([(2, (-1)), (15, 1)], 0), ([(1, 1)], (-1)), ([(1, (-1))], 1)], ([], ([(1170, none), (1171, none), (1172, none), (1173, none), (1174, none), (1175, none), (1176, none), (1177, none), (1155, none)], none)))))))
theorem rk_xItD : RuOk SR ru_xItD := by
  intro τ m g hi hc ha hS
  obtain ⟨i0, i1, i2, i3, i4, i5, i6, i7, i8, i9, i10, i11, i12, i13, i14, i15, i16, i17, i18, i19, _⟩ := hi
  have t1199 : τ 1199 = some (g 0) := i0
  have t1170 : τ 1170 = some (g 1) := i1
  have t1171 : τ 1171 = some (g 2) := i2
  have t1172 : τ 1172 = some (g 3) := i3
  have t1173 : τ 1173 = some (g 4) := i4
  have t1174 : τ 1174 = some (g 5) := i5
  have t1175 : τ 1175 = some (g 6) := i6
  have t1176 : τ 1176 = some (g 7) := i7
  have t1177 : τ 1177 = some (g 8) := i8
  have t1120 : τ 1120 = some (g 9) := i9
  have t1123 : τ 1123 = some (g 10) := i10
  have t1124 : τ 1124 = some (g 11) := i11
  have t1121 : τ 1121 = some (g 12) := i12
  have t1155 : τ 1155 = some (g 13) := i13
  have t1150 : τ 1150 = some (g 14) := i14
  have t1151 : τ 1151 = some (g 15) := i15
  have t1152 : τ 1152 = some (g 16) := i16
  have t1125 : τ 1125 = some (g 17) := i17
  have t1126 : τ 1126 = some (g 18) := i18
  have t1127 : τ 1127 = some (g 19) := i19
  obtain ⟨c0, c1, c2, c3, c4, c5, c6, c7, c8, c9, c10, c11, c12, c13, c14, c15, _⟩ := hc
  have c0 : (-1) * g 9 + 1 * g 10 ≤ 0 := d2 c0
  have c1 : 1 * g 9 + (-1) * g 10 ≤ 0 := d2 c1
  have c2 : 1 * g 3 + (-1) * g 9 ≤ 0 := d2 c2
  have c3 : (-1) * g 3 + 1 * g 9 ≤ 0 := d2 c3
  have c4 : 1 * g 4 ≤ 1 := d1 c4
  have c5 : (-1) * g 4 ≤ (-1) := d1 c5
  have c6 : 1 * g 13 ≤ 1 := d1 c6
  have c7 : (-1) * g 13 ≤ (-1) := d1 c7
  have c8 : (-1) * g 9 + 1 * g 14 ≤ 0 := d2 c8
  have c9 : 1 * g 9 + (-1) * g 14 ≤ 0 := d2 c9
  have c10 : (-1) * g 15 ≤ 0 := d1 c10
  have c11 : (-1) * g 15 + 1 * g 17 ≤ 0 := d2 c11
  have c12 : 1 * g 15 + (-1) * g 17 ≤ 0 := d2 c12
  have c13 : 1 * g 18 ≤ 6 := d1 c13
  have c14 : (-1) * g 18 ≤ (-6) := d1 c14
  have c15 : (-1) * g 8 ≤ (-20) := d1 c15
  obtain ⟨a0, a1, a2, a3, a4, _⟩ := ha
  have n1178 : τ 1178 = none := a0
  have n1179 : τ 1179 = none := a1
  have n1180 : τ 1180 = none := a2
  have n1181 : τ 1181 = none := a3
  have n1182 : τ 1182 = none := a4
  obtain ⟨h0, k_tok, k_sc1, k_sc2, k_T, k_I, k_F, k_N, k_Y, k_Z, k_A, k_B, k_C, k_X, k_R, k_f4⟩ := hS (by rw [t1199]; exact fun e => by cases e)
  have k_T0 := k_T
  obtain ⟨h_T, h_TN, h_QZ⟩ := k_T0
  have k_I0 := k_I
  obtain ⟨h_p, h_pc, h_ip, h_iP, h_PC, h_PN⟩ := k_I0
  have k_F0 := k_F
  obtain ⟨h_F0, h_F, h_F1, h_F2⟩ := k_F0
  have k_X0 := k_X
  obtain ⟨h_X0a, h_X0, h_X, h_Xe⟩ := k_X0
  have k_R0 := k_R
  obtain ⟨h_rb, h_rh, h_rw, h_rg, h_rd, h_rc, h_rq⟩ := k_R0
  have hXL : ((tx9 m).2 : Int) = m 110 1 := by
    show (((m 110 1).toNat : Nat) : Int) = _
    omega
  have hX := h_X _ _ _ _ _ _ _ _ t1170 t1171 t1172 t1173 t1174 t1175 t1176 t1177
  rw [n1178, n1179, n1180, n1181, n1182] at hX
  obtain ⟨⟨⟨hp1, hp2⟩, hws⟩, ⟨ho0, hv0, hvp, hd0, hd20⟩, ⟨hb0, hbv⟩, hdd⟩ := XB_n hX.1
  have hcc := h_pc _ _ t1123 t1124
  rw [show (g 10).toNat = (g 3).toNat by omega] at hcc
  have hN := h_TN _ _ t1120 t1121
  rw [show (g 9).toNat = (g 3).toNat by omega] at hN
  have hE := h_Xe _ _ _ t1155 t1172 t1174
  have hFx := h_F _ _ _ t1150 t1151 t1152
  rw [show (g 14).toNat = (g 3).toNat by omega] at hFx
  obtain ⟨hf1, hf2⟩ := YE_pos hFx (by omega)
  have hfb := ff_bd hf1 (by omega)
  obtain ⟨hpc1, hpc2⟩ := h_PC _ _ t1125 t1126
  have hPN := h_PN _ _ _ t1125 t1126 t1127
  rw [show (g 17).toNat = (g 15).toNat by omega] at hpc2 hPN
  obtain ⟨y1, y2⟩ := X_itD hX (by omega) hE hf1 (kq (a := 6) (b := 6) (fun k => k = 9) (by decide) (by omega) (by omega)) (by omega)
  exact ⟨rfl, ⟨f2 (by omega), f2 (by omega), f1 (by omega), f1 (by omega), trivial⟩, trivial, fun _ => ⟨h0, k_tok, k_sc1, k_sc2, k_T, k_I, k_F, k_N, k_Y, k_Z, k_A, k_B, k_C, ⟨fun _ _ e0 e1 => no9 (o := none) rfl e0, fun _ _ _ e0 e1 e2 => no9 (o := none) rfl e0, fun _ _ _ _ _ _ _ _ e0 e1 e2 e3 e4 e5 e6 e7 => no9 (o := none) rfl e0, fun _ _ _ e0 e1 e2 => no9 (o := none) rfl e0⟩, k_R, k_f4⟩⟩
noncomputable def ru_xVla : Ru := ([(0, (1199, (0, (0, 0)))), (0, (1170, (0, (0, 0)))), (0, (1171, (0, (0, 0)))), (0, (1172, (0, (0, 0)))), (0, (1173, (0, (0, 0)))), (0, (1174, (0, (0, 0)))), (0, (1175, (0, (0, 0)))), (0, (1176, (0, (0, 0)))), (0, (1177, (0, (0, 0)))), (0, (1120, (0, (0, 0)))), (0, (1123, (0, (0, 0)))), (0, (1124, (0, (0, 0)))), (0, (1121, (0, (0, 0)))), (0, (1155, (0, (0, 0)))), (0, (1150, (0, (0, 0)))), (0, (1151, (0, (0, 0)))), (0, (1152, (0, (0, 0)))), (0, (1125, (0, (0, 0)))), (0, (1126, (0, (0, 0)))), (0, (1127, (0, (0, 0)))), (0, (1160, (0, (0, 0)))), (0, (1161, (0, (0, 0)))), (0, (1162, (0, (0, 0)))), (0, (1163, (0, (0, 0)))), (0, (1164, (0, (0, 0)))), (0, (1165, (0, (0, 0)))), (4, (0, (0, (0, 0))))], ([1178, 1179, 1180, 1181, 1182], ([([(9, (-1)), (10, 1)], 0), ([(9, 1), (10, (-1))], 0), ([(3, 1), (9, (-1))], 0), ([(3, (-1)), (9, 1)], 0), ([(4, 1)], 1), ([(4, (-1))], (-1)), ([(13, 1)], 1), ([(13, (-1))], (-1)), ([(9, (-1)), (14, 1)], 0), ([(9, 1), (14, (-1))], 0), ([(6, (-1)), (20, 1)], 0), ([(6, 1), (20, (-1))], 0), ([(7, (-1)), (22, 1)], 0), ([(7, 1), (22, (-1))], 0), ([(23, 1)], 7), ([(23, (-1))], (-7)), ([(15, (-1))], 0), ([(15, (-1)), (17, 1)], 0), ([(15, 1), (17, (-1))], 0), ([(18, 1)], 5)], (false, ([], ([], ([(1172, some (15, 0)), (1176, some (24, 0)), (1177, some (25, 0)), (1173, some (26, 0)), (1174, some (26, 0)), (1155, none)], none)))))))
theorem rk_xVla : RuOk SR ru_xVla := by
  intro τ m g hi hc ha hS
  obtain ⟨i0, i1, i2, i3, i4, i5, i6, i7, i8, i9, i10, i11, i12, i13, i14, i15, i16, i17, i18, i19, i20, i21, i22, i23, i24, i25, i26, _⟩ := hi
  have t1199 : τ 1199 = some (g 0) := i0
  have t1170 : τ 1170 = some (g 1) := i1
  have t1171 : τ 1171 = some (g 2) := i2
  have t1172 : τ 1172 = some (g 3) := i3
  have t1173 : τ 1173 = some (g 4) := i4
  have t1174 : τ 1174 = some (g 5) := i5
  have t1175 : τ 1175 = some (g 6) := i6
  have t1176 : τ 1176 = some (g 7) := i7
  have t1177 : τ 1177 = some (g 8) := i8
  have t1120 : τ 1120 = some (g 9) := i9
  have t1123 : τ 1123 = some (g 10) := i10
  have t1124 : τ 1124 = some (g 11) := i11
  have t1121 : τ 1121 = some (g 12) := i12
  have t1155 : τ 1155 = some (g 13) := i13
  have t1150 : τ 1150 = some (g 14) := i14
  have t1151 : τ 1151 = some (g 15) := i15
  have t1152 : τ 1152 = some (g 16) := i16
  have t1125 : τ 1125 = some (g 17) := i17
  have t1126 : τ 1126 = some (g 18) := i18
  have t1127 : τ 1127 = some (g 19) := i19
  have t1160 : τ 1160 = some (g 20) := i20
  have t1161 : τ 1161 = some (g 21) := i21
  have t1162 : τ 1162 = some (g 22) := i22
  have t1163 : τ 1163 = some (g 23) := i23
  have t1164 : τ 1164 = some (g 24) := i24
  have t1165 : τ 1165 = some (g 25) := i25
  have xo : g 26 = 0 := i26
  obtain ⟨c0, c1, c2, c3, c4, c5, c6, c7, c8, c9, c10, c11, c12, c13, c14, c15, c16, c17, c18, c19, _⟩ := hc
  have c0 : (-1) * g 9 + 1 * g 10 ≤ 0 := d2 c0
  have c1 : 1 * g 9 + (-1) * g 10 ≤ 0 := d2 c1
  have c2 : 1 * g 3 + (-1) * g 9 ≤ 0 := d2 c2
  have c3 : (-1) * g 3 + 1 * g 9 ≤ 0 := d2 c3
  have c4 : 1 * g 4 ≤ 1 := d1 c4
  have c5 : (-1) * g 4 ≤ (-1) := d1 c5
  have c6 : 1 * g 13 ≤ 1 := d1 c6
  have c7 : (-1) * g 13 ≤ (-1) := d1 c7
  have c8 : (-1) * g 9 + 1 * g 14 ≤ 0 := d2 c8
  have c9 : 1 * g 9 + (-1) * g 14 ≤ 0 := d2 c9
  have c10 : (-1) * g 6 + 1 * g 20 ≤ 0 := d2 c10
  have c11 : 1 * g 6 + (-1) * g 20 ≤ 0 := d2 c11
  have c12 : (-1) * g 7 + 1 * g 22 ≤ 0 := d2 c12
  have c13 : 1 * g 7 + (-1) * g 22 ≤ 0 := d2 c13
  have c14 : 1 * g 23 ≤ 7 := d1 c14
  have c15 : (-1) * g 23 ≤ (-7) := d1 c15
  have c16 : (-1) * g 15 ≤ 0 := d1 c16
  have c17 : (-1) * g 15 + 1 * g 17 ≤ 0 := d2 c17
  have c18 : 1 * g 15 + (-1) * g 17 ≤ 0 := d2 c18
  have c19 : 1 * g 18 ≤ 5 := d1 c19
  obtain ⟨a0, a1, a2, a3, a4, _⟩ := ha
  have n1178 : τ 1178 = none := a0
  have n1179 : τ 1179 = none := a1
  have n1180 : τ 1180 = none := a2
  have n1181 : τ 1181 = none := a3
  have n1182 : τ 1182 = none := a4
  obtain ⟨h0, k_tok, k_sc1, k_sc2, k_T, k_I, k_F, k_N, k_Y, k_Z, k_A, k_B, k_C, k_X, k_R, k_f4⟩ := hS (by rw [t1199]; exact fun e => by cases e)
  have k_T0 := k_T
  obtain ⟨h_T, h_TN, h_QZ⟩ := k_T0
  have k_I0 := k_I
  obtain ⟨h_p, h_pc, h_ip, h_iP, h_PC, h_PN⟩ := k_I0
  have k_F0 := k_F
  obtain ⟨h_F0, h_F, h_F1, h_F2⟩ := k_F0
  have k_X0 := k_X
  obtain ⟨h_X0a, h_X0, h_X, h_Xe⟩ := k_X0
  have k_R0 := k_R
  obtain ⟨h_rb, h_rh, h_rw, h_rg, h_rd, h_rc, h_rq⟩ := k_R0
  have hXL : ((tx9 m).2 : Int) = m 110 1 := by
    show (((m 110 1).toNat : Nat) : Int) = _
    omega
  have hX := h_X _ _ _ _ _ _ _ _ t1170 t1171 t1172 t1173 t1174 t1175 t1176 t1177
  rw [n1178, n1179, n1180, n1181, n1182] at hX
  obtain ⟨⟨⟨hp1, hp2⟩, hws⟩, ⟨ho0, hv0, hvp, hd0, hd20⟩, ⟨hb0, hbv⟩, hdd⟩ := XB_n hX.1
  have hcc := h_pc _ _ t1123 t1124
  rw [show (g 10).toNat = (g 3).toNat by omega] at hcc
  have hN := h_TN _ _ t1120 t1121
  rw [show (g 9).toNat = (g 3).toNat by omega] at hN
  have hE := h_Xe _ _ _ t1155 t1172 t1174
  have hFx := h_F _ _ _ t1150 t1151 t1152
  rw [show (g 14).toNat = (g 3).toNat by omega] at hFx
  obtain ⟨hf1, hf2⟩ := YE_pos hFx (by omega)
  have hfb := ff_bd hf1 (by omega)
  obtain ⟨hpc1, hpc2⟩ := h_PC _ _ t1125 t1126
  have hPN := h_PN _ _ _ t1125 t1126 t1127
  rw [show (g 17).toNat = (g 15).toNat by omega] at hpc2 hPN
  have hRb := (h_rb _ _ t1160 t1161).2.2
  have hRw := h_rw _ _ _ _ _ t1160 t1161 t1162 t1163 t1164
  have hRd := h_rd _ _ _ t1160 t1164 t1165
  rw [show (g 20).toNat = (g 6).toNat by omega] at hRb
  rw [show (g 22).toNat = (g 7).toNat by omega, hRb] at hRw
  rw [show (g 23).toNat = 7 by omega] at hRw
  exact ⟨rfl, trivial, trivial, fun _ => ⟨h0, k_tok, k_sc1, k_sc2, k_T, k_I, k_F, k_N, k_Y, k_Z, k_A, k_B, k_C, ⟨fun X1 Xp e0 e1 => by
      have e0 : g 1 = X1 := Option.some.inj (t1170.symm.trans e0)
      subst e0
      have e1 : g 15 + 0 = Xp := Option.some.inj e1
      subst e1
      exact fun hw => no9 hw rfl, fun X1 X2 Xp e0 e1 e2 => by
      have e0 : g 1 = X1 := Option.some.inj (t1170.symm.trans e0)
      subst e0
      have e1 : g 2 = X2 := Option.some.inj (t1171.symm.trans e1)
      subst e1
      have e2 : g 15 + 0 = Xp := Option.some.inj e2
      subst e2
      exact fun hw => no9 hw rfl, fun X1 X2 Xp Xw Xs Xo Xv Xd e0 e1 e2 e3 e4 e5 e6 e7 => by
      have e0 : g 1 = X1 := Option.some.inj (t1170.symm.trans e0)
      subst e0
      have e1 : g 2 = X2 := Option.some.inj (t1171.symm.trans e1)
      subst e1
      have e2 : g 15 + 0 = Xp := Option.some.inj e2
      subst e2
      have e3 : g 26 + 0 = Xw := Option.some.inj e3
      subst e3
      have e4 : g 26 + 0 = Xs := Option.some.inj e4
      subst e4
      have e5 : g 6 = Xo := Option.some.inj (t1175.symm.trans e5)
      subst e5
      have e6 : g 24 + 0 = Xv := Option.some.inj e6
      subst e6
      have e7 : g 25 + 0 = Xd := Option.some.inj e7
      subst e7
      exact XS_c (X_val hX (by omega) hE hf1 (kq (a := 0) (b := 5) (fun k => k ≠ 9) (by decide) (Nat.zero_le _) (by omega)) ⟨by omega, by omega⟩ (by omega) (by omega) (by omega) (by omega) (by simp only [Int.add_zero]; omega)) n1178 n1179 n1180 n1181 n1182, fun _ _ _ e0 e1 e2 => no9 (o := none) rfl e0⟩, k_R, k_f4⟩⟩
noncomputable def ru_xVlb : Ru := ([(0, (1199, (0, (0, 0)))), (0, (1170, (0, (0, 0)))), (0, (1171, (0, (0, 0)))), (0, (1172, (0, (0, 0)))), (0, (1173, (0, (0, 0)))), (0, (1174, (0, (0, 0)))), (0, (1175, (0, (0, 0)))), (0, (1176, (0, (0, 0)))), (0, (1177, (0, (0, 0)))), (0, (1120, (0, (0, 0)))), (0, (1123, (0, (0, 0)))), (0, (1124, (0, (0, 0)))), (0, (1121, (0, (0, 0)))), (0, (1155, (0, (0, 0)))), (0, (1150, (0, (0, 0)))), (0, (1151, (0, (0, 0)))), (0, (1152, (0, (0, 0)))), (0, (1125, (0, (0, 0)))), (0, (1126, (0, (0, 0)))), (0, (1127, (0, (0, 0)))), (0, (1160, (0, (0, 0)))), (0, (1161, (0, (0, 0)))), (0, (1162, (0, (0, 0)))), (0, (1163, (0, (0, 0)))), (0, (1164, (0, (0, 0)))), (0, (1165, (0, (0, 0)))), (4, (0, (0, (0, 0))))], ([1178, 1179, 1180, 1181, 1182], ([([(9, (-1)), (10, 1)], 0), ([(9, 1), (10, (-1))], 0), ([(3, 1), (9, (-1))], 0), ([(3, (-1)), (9, 1)], 0), ([(4, 1)], 1), ([(4, (-1))], (-1)), ([(13, 1)], 1), ([(13, (-1))], (-1)), ([(9, (-1)), (14, 1)], 0), ([(9, 1), (14, (-1))], 0), ([(6, (-1)), (20, 1)], 0), ([(6, 1), (20, (-1))], 0), ([(7, (-1)), (22, 1)], 0), ([(7, 1), (22, (-1))], 0), ([(23, 1)], 7), ([(23, (-1))], (-7)), ([(15, (-1))], 0), ([(15, (-1)), (17, 1)], 0), ([(15, 1), (17, (-1))], 0), ([(18, (-1))], (-7))], (false, ([], ([], ([(1172, some (15, 0)), (1176, some (24, 0)), (1177, some (25, 0)), (1173, some (26, 0)), (1174, some (26, 0)), (1155, none)], none)))))))
theorem rk_xVlb : RuOk SR ru_xVlb := by
  intro τ m g hi hc ha hS
  obtain ⟨i0, i1, i2, i3, i4, i5, i6, i7, i8, i9, i10, i11, i12, i13, i14, i15, i16, i17, i18, i19, i20, i21, i22, i23, i24, i25, i26, _⟩ := hi
  have t1199 : τ 1199 = some (g 0) := i0
  have t1170 : τ 1170 = some (g 1) := i1
  have t1171 : τ 1171 = some (g 2) := i2
  have t1172 : τ 1172 = some (g 3) := i3
  have t1173 : τ 1173 = some (g 4) := i4
  have t1174 : τ 1174 = some (g 5) := i5
  have t1175 : τ 1175 = some (g 6) := i6
  have t1176 : τ 1176 = some (g 7) := i7
  have t1177 : τ 1177 = some (g 8) := i8
  have t1120 : τ 1120 = some (g 9) := i9
  have t1123 : τ 1123 = some (g 10) := i10
  have t1124 : τ 1124 = some (g 11) := i11
  have t1121 : τ 1121 = some (g 12) := i12
  have t1155 : τ 1155 = some (g 13) := i13
  have t1150 : τ 1150 = some (g 14) := i14
  have t1151 : τ 1151 = some (g 15) := i15
  have t1152 : τ 1152 = some (g 16) := i16
  have t1125 : τ 1125 = some (g 17) := i17
  have t1126 : τ 1126 = some (g 18) := i18
  have t1127 : τ 1127 = some (g 19) := i19
  have t1160 : τ 1160 = some (g 20) := i20
  have t1161 : τ 1161 = some (g 21) := i21
  have t1162 : τ 1162 = some (g 22) := i22
  have t1163 : τ 1163 = some (g 23) := i23
  have t1164 : τ 1164 = some (g 24) := i24
  have t1165 : τ 1165 = some (g 25) := i25
  have xo : g 26 = 0 := i26
  obtain ⟨c0, c1, c2, c3, c4, c5, c6, c7, c8, c9, c10, c11, c12, c13, c14, c15, c16, c17, c18, c19, _⟩ := hc
  have c0 : (-1) * g 9 + 1 * g 10 ≤ 0 := d2 c0
  have c1 : 1 * g 9 + (-1) * g 10 ≤ 0 := d2 c1
  have c2 : 1 * g 3 + (-1) * g 9 ≤ 0 := d2 c2
  have c3 : (-1) * g 3 + 1 * g 9 ≤ 0 := d2 c3
  have c4 : 1 * g 4 ≤ 1 := d1 c4
  have c5 : (-1) * g 4 ≤ (-1) := d1 c5
  have c6 : 1 * g 13 ≤ 1 := d1 c6
  have c7 : (-1) * g 13 ≤ (-1) := d1 c7
  have c8 : (-1) * g 9 + 1 * g 14 ≤ 0 := d2 c8
  have c9 : 1 * g 9 + (-1) * g 14 ≤ 0 := d2 c9
  have c10 : (-1) * g 6 + 1 * g 20 ≤ 0 := d2 c10
  have c11 : 1 * g 6 + (-1) * g 20 ≤ 0 := d2 c11
  have c12 : (-1) * g 7 + 1 * g 22 ≤ 0 := d2 c12
  have c13 : 1 * g 7 + (-1) * g 22 ≤ 0 := d2 c13
  have c14 : 1 * g 23 ≤ 7 := d1 c14
  have c15 : (-1) * g 23 ≤ (-7) := d1 c15
  have c16 : (-1) * g 15 ≤ 0 := d1 c16
  have c17 : (-1) * g 15 + 1 * g 17 ≤ 0 := d2 c17
  have c18 : 1 * g 15 + (-1) * g 17 ≤ 0 := d2 c18
  have c19 : (-1) * g 18 ≤ (-7) := d1 c19
  obtain ⟨a0, a1, a2, a3, a4, _⟩ := ha
  have n1178 : τ 1178 = none := a0
  have n1179 : τ 1179 = none := a1
  have n1180 : τ 1180 = none := a2
  have n1181 : τ 1181 = none := a3
  have n1182 : τ 1182 = none := a4
  obtain ⟨h0, k_tok, k_sc1, k_sc2, k_T, k_I, k_F, k_N, k_Y, k_Z, k_A, k_B, k_C, k_X, k_R, k_f4⟩ := hS (by rw [t1199]; exact fun e => by cases e)
  have k_T0 := k_T
  obtain ⟨h_T, h_TN, h_QZ⟩ := k_T0
  have k_I0 := k_I
  obtain ⟨h_p, h_pc, h_ip, h_iP, h_PC, h_PN⟩ := k_I0
  have k_F0 := k_F
  obtain ⟨h_F0, h_F, h_F1, h_F2⟩ := k_F0
  have k_X0 := k_X
  obtain ⟨h_X0a, h_X0, h_X, h_Xe⟩ := k_X0
  have k_R0 := k_R
  obtain ⟨h_rb, h_rh, h_rw, h_rg, h_rd, h_rc, h_rq⟩ := k_R0
  have hXL : ((tx9 m).2 : Int) = m 110 1 := by
    show (((m 110 1).toNat : Nat) : Int) = _
    omega
  have hX := h_X _ _ _ _ _ _ _ _ t1170 t1171 t1172 t1173 t1174 t1175 t1176 t1177
  rw [n1178, n1179, n1180, n1181, n1182] at hX
  obtain ⟨⟨⟨hp1, hp2⟩, hws⟩, ⟨ho0, hv0, hvp, hd0, hd20⟩, ⟨hb0, hbv⟩, hdd⟩ := XB_n hX.1
  have hcc := h_pc _ _ t1123 t1124
  rw [show (g 10).toNat = (g 3).toNat by omega] at hcc
  have hN := h_TN _ _ t1120 t1121
  rw [show (g 9).toNat = (g 3).toNat by omega] at hN
  have hE := h_Xe _ _ _ t1155 t1172 t1174
  have hFx := h_F _ _ _ t1150 t1151 t1152
  rw [show (g 14).toNat = (g 3).toNat by omega] at hFx
  obtain ⟨hf1, hf2⟩ := YE_pos hFx (by omega)
  have hfb := ff_bd hf1 (by omega)
  obtain ⟨hpc1, hpc2⟩ := h_PC _ _ t1125 t1126
  have hPN := h_PN _ _ _ t1125 t1126 t1127
  rw [show (g 17).toNat = (g 15).toNat by omega] at hpc2 hPN
  have hRb := (h_rb _ _ t1160 t1161).2.2
  have hRw := h_rw _ _ _ _ _ t1160 t1161 t1162 t1163 t1164
  have hRd := h_rd _ _ _ t1160 t1164 t1165
  rw [show (g 20).toNat = (g 6).toNat by omega] at hRb
  rw [show (g 22).toNat = (g 7).toNat by omega, hRb] at hRw
  rw [show (g 23).toNat = 7 by omega] at hRw
  exact ⟨rfl, trivial, trivial, fun _ => ⟨h0, k_tok, k_sc1, k_sc2, k_T, k_I, k_F, k_N, k_Y, k_Z, k_A, k_B, k_C, ⟨fun X1 Xp e0 e1 => by
      have e0 : g 1 = X1 := Option.some.inj (t1170.symm.trans e0)
      subst e0
      have e1 : g 15 + 0 = Xp := Option.some.inj e1
      subst e1
      exact fun hw => no9 hw rfl, fun X1 X2 Xp e0 e1 e2 => by
      have e0 : g 1 = X1 := Option.some.inj (t1170.symm.trans e0)
      subst e0
      have e1 : g 2 = X2 := Option.some.inj (t1171.symm.trans e1)
      subst e1
      have e2 : g 15 + 0 = Xp := Option.some.inj e2
      subst e2
      exact fun hw => no9 hw rfl, fun X1 X2 Xp Xw Xs Xo Xv Xd e0 e1 e2 e3 e4 e5 e6 e7 => by
      have e0 : g 1 = X1 := Option.some.inj (t1170.symm.trans e0)
      subst e0
      have e1 : g 2 = X2 := Option.some.inj (t1171.symm.trans e1)
      subst e1
      have e2 : g 15 + 0 = Xp := Option.some.inj e2
      subst e2
      have e3 : g 26 + 0 = Xw := Option.some.inj e3
      subst e3
      have e4 : g 26 + 0 = Xs := Option.some.inj e4
      subst e4
      have e5 : g 6 = Xo := Option.some.inj (t1175.symm.trans e5)
      subst e5
      have e6 : g 24 + 0 = Xv := Option.some.inj e6
      subst e6
      have e7 : g 25 + 0 = Xd := Option.some.inj e7
      subst e7
      exact XS_c (X_val hX (by omega) hE hf1 (kq (a := 7) (b := 51) (fun k => k ≠ 9) (by decide) (by omega) rc_le) ⟨by omega, by omega⟩ (by omega) (by omega) (by omega) (by omega) (by simp only [Int.add_zero]; omega)) n1178 n1179 n1180 n1181 n1182, fun _ _ _ e0 e1 e2 => no9 (o := none) rfl e0⟩, k_R, k_f4⟩⟩
noncomputable def ru_rb : Ru := ([(0, (1199, (0, (0, 0)))), (0, (1170, (0, (0, 0)))), (0, (1171, (0, (0, 0)))), (0, (1172, (0, (0, 0)))), (0, (1173, (0, (0, 0)))), (0, (1174, (0, (0, 0)))), (0, (1175, (0, (0, 0)))), (0, (1176, (0, (0, 0)))), (0, (1177, (0, (0, 0))))], ([1160, 1161, 1162, 1163, 1164, 1165, 1166, 1167, 1168, 1178, 1179, 1180, 1181, 1182], ([], (false, ([], ([], ([(1160, some (6, 0))], some (1161, (0, 1300)))))))))
theorem rk_rb : RuOk SR ru_rb := by
  intro τ m g hi hc ha hS
  obtain ⟨i0, i1, i2, i3, i4, i5, i6, i7, i8, _⟩ := hi
  have t1199 : τ 1199 = some (g 0) := i0
  have t1170 : τ 1170 = some (g 1) := i1
  have t1171 : τ 1171 = some (g 2) := i2
  have t1172 : τ 1172 = some (g 3) := i3
  have t1173 : τ 1173 = some (g 4) := i4
  have t1174 : τ 1174 = some (g 5) := i5
  have t1175 : τ 1175 = some (g 6) := i6
  have t1176 : τ 1176 = some (g 7) := i7
  have t1177 : τ 1177 = some (g 8) := i8
  obtain ⟨a0, a1, a2, a3, a4, a5, a6, a7, a8, a9, a10, a11, a12, a13, _⟩ := ha
  have n1160 : τ 1160 = none := a0
  have n1161 : τ 1161 = none := a1
  have n1162 : τ 1162 = none := a2
  have n1163 : τ 1163 = none := a3
  have n1164 : τ 1164 = none := a4
  have n1165 : τ 1165 = none := a5
  have n1166 : τ 1166 = none := a6
  have n1167 : τ 1167 = none := a7
  have n1168 : τ 1168 = none := a8
  have n1178 : τ 1178 = none := a9
  have n1179 : τ 1179 = none := a10
  have n1180 : τ 1180 = none := a11
  have n1181 : τ 1181 = none := a12
  have n1182 : τ 1182 = none := a13
  obtain ⟨h0, k_tok, k_sc1, k_sc2, k_T, k_I, k_F, k_N, k_Y, k_Z, k_A, k_B, k_C, k_X, k_R, k_f4⟩ := hS (by rw [t1199]; exact fun e => by cases e)
  have k_X0 := k_X
  obtain ⟨h_X0a, h_X0, h_X, h_Xe⟩ := k_X0
  have k_R0 := k_R
  obtain ⟨h_rb, h_rh, h_rw, h_rg, h_rd, h_rc, h_rq⟩ := k_R0
  have hXL : ((tx9 m).2 : Int) = m 110 1 := by
    show (((m 110 1).toNat : Nat) : Int) = _
    omega
  have hX := h_X _ _ _ _ _ _ _ _ t1170 t1171 t1172 t1173 t1174 t1175 t1176 t1177
  rw [n1178, n1179, n1180, n1181, n1182] at hX
  obtain ⟨⟨⟨hp1, hp2⟩, hws⟩, ⟨ho0, hv0, hvp, hd0, hd20⟩, ⟨hb0, hbv⟩, hdd⟩ := XB_n hX.1
  obtain ⟨x0, hx0⟩ : ∃ x0 : Int, x0 = m 146 (g 6).toNat := ⟨_, rfl⟩
  have x1 : 0 ≤ x0 := by omega
  have x2 : x0 ≤ 1300 := by omega
  exact ⟨rfl, trivial, trivial, x0, x1, x2, fun _ => ⟨h0, k_tok, k_sc1, k_sc2, k_T, k_I, k_F, k_N, k_Y, k_Z, k_A, k_B, k_C, k_X, ⟨fun Ro Rb e0 e1 => by
      have e0 : g 6 + 0 = Ro := Option.some.inj e0
      subst e0
      have e1 : x0 = Rb := Option.some.inj e1
      subst e1
      rw [Int.add_zero]
      exact ⟨ho0, ⟨x1, x2⟩, hx0⟩, fun _ _ _ e0 e1 e2 => no9 n1162 e2, fun _ _ _ _ _ e0 e1 e2 e3 e4 => no9 n1162 e2, fun _ _ _ e0 e1 e2 => no9 n1162 e1, fun _ _ _ e0 e1 e2 => no9 n1164 e1, fun _ _ _ _ _ _ e0 e1 e2 e3 e4 e5 => no9 n1162 e2, fun _ _ _ e0 e1 e2 => no9 n1166 e1⟩, k_f4⟩⟩
noncomputable def ru_rbm : Ru := ([(0, (1199, (0, (0, 0)))), (0, (1160, (0, (0, 0)))), (0, (1161, (0, (0, 0))))], ([], ([], (false, ([], ([(146, (1, 2))], ([], none)))))))
theorem rk_rbm : RuOk SR ru_rbm := by
  intro τ m g hi hc ha hS
  obtain ⟨i0, i1, i2, _⟩ := hi
  have t1199 : τ 1199 = some (g 0) := i0
  have t1160 : τ 1160 = some (g 1) := i1
  have t1161 : τ 1161 = some (g 2) := i2
  obtain ⟨h0, k_tok, k_sc1, k_sc2, k_T, k_I, k_F, k_N, k_Y, k_Z, k_A, k_B, k_C, k_X, k_R, k_f4⟩ := hS (by rw [t1199]; exact fun e => by cases e)
  have k_R0 := k_R
  obtain ⟨h_rb, h_rh, h_rw, h_rg, h_rd, h_rc, h_rq⟩ := k_R0
  obtain ⟨ho0, ⟨hb0, hb1⟩, hRb⟩ := h_rb _ _ t1160 t1161
  exact ⟨rfl, trivial, ⟨⟨(g 1).toNat, (show g 1 = (((g 1).toNat : Nat) : Int) by omega), hRb⟩, trivial⟩, fun _ => ⟨h0, k_tok, k_sc1, k_sc2, k_T, k_I, k_F, k_N, k_Y, k_Z, k_A, k_B, k_C, k_X, k_R, k_f4⟩⟩
noncomputable def ru_ro7 : Ru := ([(0, (1199, (0, (0, 0)))), (0, (1170, (0, (0, 0)))), (0, (1171, (0, (0, 0)))), (0, (1172, (0, (0, 0)))), (0, (1173, (0, (0, 0)))), (0, (1174, (0, (0, 0)))), (0, (1175, (0, (0, 0)))), (0, (1176, (0, (0, 0)))), (0, (1177, (0, (0, 0)))), (0, (1160, (0, (0, 0)))), (0, (1161, (0, (0, 0)))), (4, (0, (0, (7, 0))))], ([1162, 1163, 1164, 1165, 1166, 1167, 1168, 1178, 1179, 1180, 1181, 1182], ([([(6, (-1)), (9, 1)], 0), ([(6, 1), (9, (-1))], 0)], (false, ([], ([], ([(1162, some (7, 0)), (1163, some (11, 0)), (1167, some (8, 0))], some (1164, (0, 1300)))))))))
theorem rk_ro7 : RuOk SR ru_ro7 := by
  intro τ m g hi hc ha hS
  obtain ⟨i0, i1, i2, i3, i4, i5, i6, i7, i8, i9, i10, i11, _⟩ := hi
  have t1199 : τ 1199 = some (g 0) := i0
  have t1170 : τ 1170 = some (g 1) := i1
  have t1171 : τ 1171 = some (g 2) := i2
  have t1172 : τ 1172 = some (g 3) := i3
  have t1173 : τ 1173 = some (g 4) := i4
  have t1174 : τ 1174 = some (g 5) := i5
  have t1175 : τ 1175 = some (g 6) := i6
  have t1176 : τ 1176 = some (g 7) := i7
  have t1177 : τ 1177 = some (g 8) := i8
  have t1160 : τ 1160 = some (g 9) := i9
  have t1161 : τ 1161 = some (g 10) := i10
  have xr : g 11 = 7 := i11
  obtain ⟨c0, c1, _⟩ := hc
  have c0 : (-1) * g 6 + 1 * g 9 ≤ 0 := d2 c0
  have c1 : 1 * g 6 + (-1) * g 9 ≤ 0 := d2 c1
  obtain ⟨a0, a1, a2, a3, a4, a5, a6, a7, a8, a9, a10, a11, _⟩ := ha
  have n1162 : τ 1162 = none := a0
  have n1163 : τ 1163 = none := a1
  have n1164 : τ 1164 = none := a2
  have n1165 : τ 1165 = none := a3
  have n1166 : τ 1166 = none := a4
  have n1167 : τ 1167 = none := a5
  have n1168 : τ 1168 = none := a6
  have n1178 : τ 1178 = none := a7
  have n1179 : τ 1179 = none := a8
  have n1180 : τ 1180 = none := a9
  have n1181 : τ 1181 = none := a10
  have n1182 : τ 1182 = none := a11
  obtain ⟨h0, k_tok, k_sc1, k_sc2, k_T, k_I, k_F, k_N, k_Y, k_Z, k_A, k_B, k_C, k_X, k_R, k_f4⟩ := hS (by rw [t1199]; exact fun e => by cases e)
  have k_X0 := k_X
  obtain ⟨h_X0a, h_X0, h_X, h_Xe⟩ := k_X0
  have k_R0 := k_R
  obtain ⟨h_rb, h_rh, h_rw, h_rg, h_rd, h_rc, h_rq⟩ := k_R0
  have hXL : ((tx9 m).2 : Int) = m 110 1 := by
    show (((m 110 1).toNat : Nat) : Int) = _
    omega
  have hX := h_X _ _ _ _ _ _ _ _ t1170 t1171 t1172 t1173 t1174 t1175 t1176 t1177
  rw [n1178, n1179, n1180, n1181, n1182] at hX
  obtain ⟨⟨⟨hp1, hp2⟩, hws⟩, ⟨ho0, hv0, hvp, hd0, hd20⟩, ⟨hb0, hbv⟩, hdd⟩ := XB_n hX.1
  have hwk := XB_wk hX.1
  obtain ⟨_, ⟨hb2, hb3⟩, hRb⟩ := h_rb _ _ t1160 t1161
  rw [show (g 9).toNat = (g 6).toNat by omega] at hRb
  obtain ⟨x0, hx0⟩ : ∃ x0 : Int, x0 = g 10 + (dlX m 7 (g 10).toNat ((g 7).toNat - (g 10).toNat) : Int) := ⟨_, rfl⟩
  have hdl := dlX_le (m := m) (r := 7) (a := (g 10).toNat) (n := (g 7).toNat - (g 10).toNat)
  have x1 : 0 ≤ x0 := by omega
  have x2 : x0 ≤ 1300 := by omega
  exact ⟨rfl, trivial, trivial, x0, x1, x2, fun _ => ⟨h0, k_tok, k_sc1, k_sc2, k_T, k_I, k_F, k_N, k_Y, k_Z, k_A, k_B, k_C, k_X, ⟨h_rb, fun Ro Rb Rh e0 e1 e2 => by
      have e0 : g 9 = Ro := Option.some.inj (t1160.symm.trans e0)
      subst e0
      have e1 : g 10 = Rb := Option.some.inj (t1161.symm.trans e1)
      subst e1
      have e2 : g 7 + 0 = Rh := Option.some.inj e2
      subst e2
      rw [Int.add_zero]
      exact ⟨by omega, by omega, hwk⟩, fun Ro Rb Rh Rr Rw e0 e1 e2 e3 e4 => by
      have e0 : g 9 = Ro := Option.some.inj (t1160.symm.trans e0)
      subst e0
      have e1 : g 10 = Rb := Option.some.inj (t1161.symm.trans e1)
      subst e1
      have e2 : g 7 + 0 = Rh := Option.some.inj e2
      subst e2
      have e3 : g 11 + 0 = Rr := Option.some.inj e3
      subst e3
      have e4 : x0 = Rw := Option.some.inj e4
      subst e4
      rw [show (g 11 + 0).toNat = 7 by omega, Int.add_zero]
      exact hx0, fun Ro Rh Rg e0 e1 e2 => by
      have e0 : g 9 = Ro := Option.some.inj (t1160.symm.trans e0)
      subst e0
      have e1 : g 7 + 0 = Rh := Option.some.inj e1
      subst e1
      have e2 : g 8 + 0 = Rg := Option.some.inj e2
      subst e2
      rw [Int.add_zero, Int.add_zero]
      exact ⟨by omega, by omega⟩, fun _ _ _ e0 e1 e2 => no9 n1165 e2, fun _ _ _ _ _ _ e0 e1 e2 e3 e4 e5 => no9 n1166 e5, h_rq⟩, k_f4⟩⟩
noncomputable def ru_ro6 : Ru := ([(0, (1199, (0, (0, 0)))), (0, (1170, (0, (0, 0)))), (0, (1171, (0, (0, 0)))), (0, (1172, (0, (0, 0)))), (0, (1173, (0, (0, 0)))), (0, (1174, (0, (0, 0)))), (0, (1175, (0, (0, 0)))), (0, (1176, (0, (0, 0)))), (0, (1177, (0, (0, 0)))), (0, (1160, (0, (0, 0)))), (0, (1161, (0, (0, 0)))), (4, (0, (0, (6, 0))))], ([1162, 1163, 1164, 1165, 1166, 1167, 1168, 1178, 1179, 1180, 1181, 1182], ([([(6, (-1)), (9, 1)], 0), ([(6, 1), (9, (-1))], 0)], (false, ([], ([], ([(1162, some (7, 0)), (1163, some (11, 0)), (1167, some (8, 0))], some (1164, (0, 1300)))))))))
theorem rk_ro6 : RuOk SR ru_ro6 := by
  intro τ m g hi hc ha hS
  obtain ⟨i0, i1, i2, i3, i4, i5, i6, i7, i8, i9, i10, i11, _⟩ := hi
  have t1199 : τ 1199 = some (g 0) := i0
  have t1170 : τ 1170 = some (g 1) := i1
  have t1171 : τ 1171 = some (g 2) := i2
  have t1172 : τ 1172 = some (g 3) := i3
  have t1173 : τ 1173 = some (g 4) := i4
  have t1174 : τ 1174 = some (g 5) := i5
  have t1175 : τ 1175 = some (g 6) := i6
  have t1176 : τ 1176 = some (g 7) := i7
  have t1177 : τ 1177 = some (g 8) := i8
  have t1160 : τ 1160 = some (g 9) := i9
  have t1161 : τ 1161 = some (g 10) := i10
  have xr : g 11 = 6 := i11
  obtain ⟨c0, c1, _⟩ := hc
  have c0 : (-1) * g 6 + 1 * g 9 ≤ 0 := d2 c0
  have c1 : 1 * g 6 + (-1) * g 9 ≤ 0 := d2 c1
  obtain ⟨a0, a1, a2, a3, a4, a5, a6, a7, a8, a9, a10, a11, _⟩ := ha
  have n1162 : τ 1162 = none := a0
  have n1163 : τ 1163 = none := a1
  have n1164 : τ 1164 = none := a2
  have n1165 : τ 1165 = none := a3
  have n1166 : τ 1166 = none := a4
  have n1167 : τ 1167 = none := a5
  have n1168 : τ 1168 = none := a6
  have n1178 : τ 1178 = none := a7
  have n1179 : τ 1179 = none := a8
  have n1180 : τ 1180 = none := a9
  have n1181 : τ 1181 = none := a10
  have n1182 : τ 1182 = none := a11
  obtain ⟨h0, k_tok, k_sc1, k_sc2, k_T, k_I, k_F, k_N, k_Y, k_Z, k_A, k_B, k_C, k_X, k_R, k_f4⟩ := hS (by rw [t1199]; exact fun e => by cases e)
  have k_X0 := k_X
  obtain ⟨h_X0a, h_X0, h_X, h_Xe⟩ := k_X0
  have k_R0 := k_R
  obtain ⟨h_rb, h_rh, h_rw, h_rg, h_rd, h_rc, h_rq⟩ := k_R0
  have hXL : ((tx9 m).2 : Int) = m 110 1 := by
    show (((m 110 1).toNat : Nat) : Int) = _
    omega
  have hX := h_X _ _ _ _ _ _ _ _ t1170 t1171 t1172 t1173 t1174 t1175 t1176 t1177
  rw [n1178, n1179, n1180, n1181, n1182] at hX
  obtain ⟨⟨⟨hp1, hp2⟩, hws⟩, ⟨ho0, hv0, hvp, hd0, hd20⟩, ⟨hb0, hbv⟩, hdd⟩ := XB_n hX.1
  have hwk := XB_wk hX.1
  obtain ⟨_, ⟨hb2, hb3⟩, hRb⟩ := h_rb _ _ t1160 t1161
  rw [show (g 9).toNat = (g 6).toNat by omega] at hRb
  obtain ⟨x0, hx0⟩ : ∃ x0 : Int, x0 = g 10 + (dlX m 6 (g 10).toNat ((g 7).toNat - (g 10).toNat) : Int) := ⟨_, rfl⟩
  have hdl := dlX_le (m := m) (r := 6) (a := (g 10).toNat) (n := (g 7).toNat - (g 10).toNat)
  have x1 : 0 ≤ x0 := by omega
  have x2 : x0 ≤ 1300 := by omega
  exact ⟨rfl, trivial, trivial, x0, x1, x2, fun _ => ⟨h0, k_tok, k_sc1, k_sc2, k_T, k_I, k_F, k_N, k_Y, k_Z, k_A, k_B, k_C, k_X, ⟨h_rb, fun Ro Rb Rh e0 e1 e2 => by
      have e0 : g 9 = Ro := Option.some.inj (t1160.symm.trans e0)
      subst e0
      have e1 : g 10 = Rb := Option.some.inj (t1161.symm.trans e1)
      subst e1
      have e2 : g 7 + 0 = Rh := Option.some.inj e2
      subst e2
      rw [Int.add_zero]
      exact ⟨by omega, by omega, hwk⟩, fun Ro Rb Rh Rr Rw e0 e1 e2 e3 e4 => by
      have e0 : g 9 = Ro := Option.some.inj (t1160.symm.trans e0)
      subst e0
      have e1 : g 10 = Rb := Option.some.inj (t1161.symm.trans e1)
      subst e1
      have e2 : g 7 + 0 = Rh := Option.some.inj e2
      subst e2
      have e3 : g 11 + 0 = Rr := Option.some.inj e3
      subst e3
      have e4 : x0 = Rw := Option.some.inj e4
      subst e4
      rw [show (g 11 + 0).toNat = 6 by omega, Int.add_zero]
      exact hx0, fun Ro Rh Rg e0 e1 e2 => by
      have e0 : g 9 = Ro := Option.some.inj (t1160.symm.trans e0)
      subst e0
      have e1 : g 7 + 0 = Rh := Option.some.inj e1
      subst e1
      have e2 : g 8 + 0 = Rg := Option.some.inj e2
      subst e2
      rw [Int.add_zero, Int.add_zero]
      exact ⟨by omega, by omega⟩, fun _ _ _ e0 e1 e2 => no9 n1165 e2, fun _ _ _ _ _ _ e0 e1 e2 e3 e4 e5 => no9 n1166 e5, h_rq⟩, k_f4⟩⟩
noncomputable def ru_ro5 : Ru := ([(0, (1199, (0, (0, 0)))), (0, (1170, (0, (0, 0)))), (0, (1171, (0, (0, 0)))), (0, (1172, (0, (0, 0)))), (0, (1173, (0, (0, 0)))), (0, (1174, (0, (0, 0)))), (0, (1175, (0, (0, 0)))), (0, (1176, (0, (0, 0)))), (0, (1177, (0, (0, 0)))), (0, (1160, (0, (0, 0)))), (0, (1161, (0, (0, 0)))), (4, (0, (0, (5, 0))))], ([1162, 1163, 1164, 1165, 1166, 1167, 1168, 1178, 1179, 1180, 1181, 1182], ([([(6, (-1)), (9, 1)], 0), ([(6, 1), (9, (-1))], 0)], (false, ([], ([], ([(1162, some (7, 0)), (1163, some (11, 0)), (1167, some (8, 0))], some (1164, (0, 1300)))))))))
theorem rk_ro5 : RuOk SR ru_ro5 := by
  intro τ m g hi hc ha hS
  obtain ⟨i0, i1, i2, i3, i4, i5, i6, i7, i8, i9, i10, i11, _⟩ := hi
  have t1199 : τ 1199 = some (g 0) := i0
  have t1170 : τ 1170 = some (g 1) := i1
  have t1171 : τ 1171 = some (g 2) := i2
  have t1172 : τ 1172 = some (g 3) := i3
  have t1173 : τ 1173 = some (g 4) := i4
  have t1174 : τ 1174 = some (g 5) := i5
  have t1175 : τ 1175 = some (g 6) := i6
  have t1176 : τ 1176 = some (g 7) := i7
  have t1177 : τ 1177 = some (g 8) := i8
  have t1160 : τ 1160 = some (g 9) := i9
  have t1161 : τ 1161 = some (g 10) := i10
  have xr : g 11 = 5 := i11
  obtain ⟨c0, c1, _⟩ := hc
  have c0 : (-1) * g 6 + 1 * g 9 ≤ 0 := d2 c0
  have c1 : 1 * g 6 + (-1) * g 9 ≤ 0 := d2 c1
  obtain ⟨a0, a1, a2, a3, a4, a5, a6, a7, a8, a9, a10, a11, _⟩ := ha
  have n1162 : τ 1162 = none := a0
  have n1163 : τ 1163 = none := a1
  have n1164 : τ 1164 = none := a2
  have n1165 : τ 1165 = none := a3
  have n1166 : τ 1166 = none := a4
  have n1167 : τ 1167 = none := a5
  have n1168 : τ 1168 = none := a6
  have n1178 : τ 1178 = none := a7
  have n1179 : τ 1179 = none := a8
  have n1180 : τ 1180 = none := a9
  have n1181 : τ 1181 = none := a10
  have n1182 : τ 1182 = none := a11
  obtain ⟨h0, k_tok, k_sc1, k_sc2, k_T, k_I, k_F, k_N, k_Y, k_Z, k_A, k_B, k_C, k_X, k_R, k_f4⟩ := hS (by rw [t1199]; exact fun e => by cases e)
  have k_X0 := k_X
  obtain ⟨h_X0a, h_X0, h_X, h_Xe⟩ := k_X0
  have k_R0 := k_R
  obtain ⟨h_rb, h_rh, h_rw, h_rg, h_rd, h_rc, h_rq⟩ := k_R0
  have hXL : ((tx9 m).2 : Int) = m 110 1 := by
    show (((m 110 1).toNat : Nat) : Int) = _
    omega
  have hX := h_X _ _ _ _ _ _ _ _ t1170 t1171 t1172 t1173 t1174 t1175 t1176 t1177
  rw [n1178, n1179, n1180, n1181, n1182] at hX
  obtain ⟨⟨⟨hp1, hp2⟩, hws⟩, ⟨ho0, hv0, hvp, hd0, hd20⟩, ⟨hb0, hbv⟩, hdd⟩ := XB_n hX.1
  have hwk := XB_wk hX.1
  obtain ⟨_, ⟨hb2, hb3⟩, hRb⟩ := h_rb _ _ t1160 t1161
  rw [show (g 9).toNat = (g 6).toNat by omega] at hRb
  obtain ⟨x0, hx0⟩ : ∃ x0 : Int, x0 = g 10 + (dlX m 5 (g 10).toNat ((g 7).toNat - (g 10).toNat) : Int) := ⟨_, rfl⟩
  have hdl := dlX_le (m := m) (r := 5) (a := (g 10).toNat) (n := (g 7).toNat - (g 10).toNat)
  have x1 : 0 ≤ x0 := by omega
  have x2 : x0 ≤ 1300 := by omega
  exact ⟨rfl, trivial, trivial, x0, x1, x2, fun _ => ⟨h0, k_tok, k_sc1, k_sc2, k_T, k_I, k_F, k_N, k_Y, k_Z, k_A, k_B, k_C, k_X, ⟨h_rb, fun Ro Rb Rh e0 e1 e2 => by
      have e0 : g 9 = Ro := Option.some.inj (t1160.symm.trans e0)
      subst e0
      have e1 : g 10 = Rb := Option.some.inj (t1161.symm.trans e1)
      subst e1
      have e2 : g 7 + 0 = Rh := Option.some.inj e2
      subst e2
      rw [Int.add_zero]
      exact ⟨by omega, by omega, hwk⟩, fun Ro Rb Rh Rr Rw e0 e1 e2 e3 e4 => by
      have e0 : g 9 = Ro := Option.some.inj (t1160.symm.trans e0)
      subst e0
      have e1 : g 10 = Rb := Option.some.inj (t1161.symm.trans e1)
      subst e1
      have e2 : g 7 + 0 = Rh := Option.some.inj e2
      subst e2
      have e3 : g 11 + 0 = Rr := Option.some.inj e3
      subst e3
      have e4 : x0 = Rw := Option.some.inj e4
      subst e4
      rw [show (g 11 + 0).toNat = 5 by omega, Int.add_zero]
      exact hx0, fun Ro Rh Rg e0 e1 e2 => by
      have e0 : g 9 = Ro := Option.some.inj (t1160.symm.trans e0)
      subst e0
      have e1 : g 7 + 0 = Rh := Option.some.inj e1
      subst e1
      have e2 : g 8 + 0 = Rg := Option.some.inj e2
      subst e2
      rw [Int.add_zero, Int.add_zero]
      exact ⟨by omega, by omega⟩, fun _ _ _ e0 e1 e2 => no9 n1165 e2, fun _ _ _ _ _ _ e0 e1 e2 e3 e4 e5 => no9 n1166 e5, h_rq⟩, k_f4⟩⟩
noncomputable def ru_ro2 : Ru := ([(0, (1199, (0, (0, 0)))), (0, (1170, (0, (0, 0)))), (0, (1171, (0, (0, 0)))), (0, (1172, (0, (0, 0)))), (0, (1173, (0, (0, 0)))), (0, (1174, (0, (0, 0)))), (0, (1175, (0, (0, 0)))), (0, (1176, (0, (0, 0)))), (0, (1177, (0, (0, 0)))), (0, (1160, (0, (0, 0)))), (0, (1161, (0, (0, 0)))), (4, (0, (0, (2, 0))))], ([1162, 1163, 1164, 1165, 1166, 1167, 1168, 1178, 1179, 1180, 1181, 1182], ([([(6, (-1)), (9, 1)], 0), ([(6, 1), (9, (-1))], 0)], (false, ([], ([], ([(1162, some (7, 0)), (1163, some (11, 0)), (1167, some (8, 0))], some (1164, (0, 1300)))))))))
theorem rk_ro2 : RuOk SR ru_ro2 := by
  intro τ m g hi hc ha hS
  obtain ⟨i0, i1, i2, i3, i4, i5, i6, i7, i8, i9, i10, i11, _⟩ := hi
  have t1199 : τ 1199 = some (g 0) := i0
  have t1170 : τ 1170 = some (g 1) := i1
  have t1171 : τ 1171 = some (g 2) := i2
  have t1172 : τ 1172 = some (g 3) := i3
  have t1173 : τ 1173 = some (g 4) := i4
  have t1174 : τ 1174 = some (g 5) := i5
  have t1175 : τ 1175 = some (g 6) := i6
  have t1176 : τ 1176 = some (g 7) := i7
  have t1177 : τ 1177 = some (g 8) := i8
  have t1160 : τ 1160 = some (g 9) := i9
  have t1161 : τ 1161 = some (g 10) := i10
  have xr : g 11 = 2 := i11
  obtain ⟨c0, c1, _⟩ := hc
  have c0 : (-1) * g 6 + 1 * g 9 ≤ 0 := d2 c0
  have c1 : 1 * g 6 + (-1) * g 9 ≤ 0 := d2 c1
  obtain ⟨a0, a1, a2, a3, a4, a5, a6, a7, a8, a9, a10, a11, _⟩ := ha
  have n1162 : τ 1162 = none := a0
  have n1163 : τ 1163 = none := a1
  have n1164 : τ 1164 = none := a2
  have n1165 : τ 1165 = none := a3
  have n1166 : τ 1166 = none := a4
  have n1167 : τ 1167 = none := a5
  have n1168 : τ 1168 = none := a6
  have n1178 : τ 1178 = none := a7
  have n1179 : τ 1179 = none := a8
  have n1180 : τ 1180 = none := a9
  have n1181 : τ 1181 = none := a10
  have n1182 : τ 1182 = none := a11
  obtain ⟨h0, k_tok, k_sc1, k_sc2, k_T, k_I, k_F, k_N, k_Y, k_Z, k_A, k_B, k_C, k_X, k_R, k_f4⟩ := hS (by rw [t1199]; exact fun e => by cases e)
  have k_X0 := k_X
  obtain ⟨h_X0a, h_X0, h_X, h_Xe⟩ := k_X0
  have k_R0 := k_R
  obtain ⟨h_rb, h_rh, h_rw, h_rg, h_rd, h_rc, h_rq⟩ := k_R0
  have hXL : ((tx9 m).2 : Int) = m 110 1 := by
    show (((m 110 1).toNat : Nat) : Int) = _
    omega
  have hX := h_X _ _ _ _ _ _ _ _ t1170 t1171 t1172 t1173 t1174 t1175 t1176 t1177
  rw [n1178, n1179, n1180, n1181, n1182] at hX
  obtain ⟨⟨⟨hp1, hp2⟩, hws⟩, ⟨ho0, hv0, hvp, hd0, hd20⟩, ⟨hb0, hbv⟩, hdd⟩ := XB_n hX.1
  have hwk := XB_wk hX.1
  obtain ⟨_, ⟨hb2, hb3⟩, hRb⟩ := h_rb _ _ t1160 t1161
  rw [show (g 9).toNat = (g 6).toNat by omega] at hRb
  obtain ⟨x0, hx0⟩ : ∃ x0 : Int, x0 = g 10 + (dlX m 2 (g 10).toNat ((g 7).toNat - (g 10).toNat) : Int) := ⟨_, rfl⟩
  have hdl := dlX_le (m := m) (r := 2) (a := (g 10).toNat) (n := (g 7).toNat - (g 10).toNat)
  have x1 : 0 ≤ x0 := by omega
  have x2 : x0 ≤ 1300 := by omega
  exact ⟨rfl, trivial, trivial, x0, x1, x2, fun _ => ⟨h0, k_tok, k_sc1, k_sc2, k_T, k_I, k_F, k_N, k_Y, k_Z, k_A, k_B, k_C, k_X, ⟨h_rb, fun Ro Rb Rh e0 e1 e2 => by
      have e0 : g 9 = Ro := Option.some.inj (t1160.symm.trans e0)
      subst e0
      have e1 : g 10 = Rb := Option.some.inj (t1161.symm.trans e1)
      subst e1
      have e2 : g 7 + 0 = Rh := Option.some.inj e2
      subst e2
      rw [Int.add_zero]
      exact ⟨by omega, by omega, hwk⟩, fun Ro Rb Rh Rr Rw e0 e1 e2 e3 e4 => by
      have e0 : g 9 = Ro := Option.some.inj (t1160.symm.trans e0)
      subst e0
      have e1 : g 10 = Rb := Option.some.inj (t1161.symm.trans e1)
      subst e1
      have e2 : g 7 + 0 = Rh := Option.some.inj e2
      subst e2
      have e3 : g 11 + 0 = Rr := Option.some.inj e3
      subst e3
      have e4 : x0 = Rw := Option.some.inj e4
      subst e4
      rw [show (g 11 + 0).toNat = 2 by omega, Int.add_zero]
      exact hx0, fun Ro Rh Rg e0 e1 e2 => by
      have e0 : g 9 = Ro := Option.some.inj (t1160.symm.trans e0)
      subst e0
      have e1 : g 7 + 0 = Rh := Option.some.inj e1
      subst e1
      have e2 : g 8 + 0 = Rg := Option.some.inj e2
      subst e2
      rw [Int.add_zero, Int.add_zero]
      exact ⟨by omega, by omega⟩, fun _ _ _ e0 e1 e2 => no9 n1165 e2, fun _ _ _ _ _ _ e0 e1 e2 e3 e4 e5 => no9 n1166 e5, h_rq⟩, k_f4⟩⟩
noncomputable def ru_ro1 : Ru := ([(0, (1199, (0, (0, 0)))), (0, (1170, (0, (0, 0)))), (0, (1171, (0, (0, 0)))), (0, (1172, (0, (0, 0)))), (0, (1173, (0, (0, 0)))), (0, (1174, (0, (0, 0)))), (0, (1175, (0, (0, 0)))), (0, (1176, (0, (0, 0)))), (0, (1177, (0, (0, 0)))), (0, (1160, (0, (0, 0)))), (0, (1161, (0, (0, 0)))), (4, (0, (0, (1, 0))))], ([1162, 1163, 1164, 1165, 1166, 1167, 1168, 1178, 1179, 1180, 1181, 1182], ([([(6, (-1)), (9, 1)], 0), ([(6, 1), (9, (-1))], 0)], (false, ([], ([], ([(1162, some (7, 0)), (1163, some (11, 0)), (1167, some (8, 0))], some (1164, (0, 1300)))))))))
theorem rk_ro1 : RuOk SR ru_ro1 := by
  intro τ m g hi hc ha hS
  obtain ⟨i0, i1, i2, i3, i4, i5, i6, i7, i8, i9, i10, i11, _⟩ := hi
  have t1199 : τ 1199 = some (g 0) := i0
  have t1170 : τ 1170 = some (g 1) := i1
  have t1171 : τ 1171 = some (g 2) := i2
  have t1172 : τ 1172 = some (g 3) := i3
  have t1173 : τ 1173 = some (g 4) := i4
  have t1174 : τ 1174 = some (g 5) := i5
  have t1175 : τ 1175 = some (g 6) := i6
  have t1176 : τ 1176 = some (g 7) := i7
  have t1177 : τ 1177 = some (g 8) := i8
  have t1160 : τ 1160 = some (g 9) := i9
  have t1161 : τ 1161 = some (g 10) := i10
  have xr : g 11 = 1 := i11
  obtain ⟨c0, c1, _⟩ := hc
  have c0 : (-1) * g 6 + 1 * g 9 ≤ 0 := d2 c0
  have c1 : 1 * g 6 + (-1) * g 9 ≤ 0 := d2 c1
  obtain ⟨a0, a1, a2, a3, a4, a5, a6, a7, a8, a9, a10, a11, _⟩ := ha
  have n1162 : τ 1162 = none := a0
  have n1163 : τ 1163 = none := a1
  have n1164 : τ 1164 = none := a2
  have n1165 : τ 1165 = none := a3
  have n1166 : τ 1166 = none := a4
  have n1167 : τ 1167 = none := a5
  have n1168 : τ 1168 = none := a6
  have n1178 : τ 1178 = none := a7
  have n1179 : τ 1179 = none := a8
  have n1180 : τ 1180 = none := a9
  have n1181 : τ 1181 = none := a10
  have n1182 : τ 1182 = none := a11
  obtain ⟨h0, k_tok, k_sc1, k_sc2, k_T, k_I, k_F, k_N, k_Y, k_Z, k_A, k_B, k_C, k_X, k_R, k_f4⟩ := hS (by rw [t1199]; exact fun e => by cases e)
  have k_X0 := k_X
  obtain ⟨h_X0a, h_X0, h_X, h_Xe⟩ := k_X0
  have k_R0 := k_R
  obtain ⟨h_rb, h_rh, h_rw, h_rg, h_rd, h_rc, h_rq⟩ := k_R0
  have hXL : ((tx9 m).2 : Int) = m 110 1 := by
    show (((m 110 1).toNat : Nat) : Int) = _
    omega
  have hX := h_X _ _ _ _ _ _ _ _ t1170 t1171 t1172 t1173 t1174 t1175 t1176 t1177
  rw [n1178, n1179, n1180, n1181, n1182] at hX
  obtain ⟨⟨⟨hp1, hp2⟩, hws⟩, ⟨ho0, hv0, hvp, hd0, hd20⟩, ⟨hb0, hbv⟩, hdd⟩ := XB_n hX.1
  have hwk := XB_wk hX.1
  obtain ⟨_, ⟨hb2, hb3⟩, hRb⟩ := h_rb _ _ t1160 t1161
  rw [show (g 9).toNat = (g 6).toNat by omega] at hRb
  obtain ⟨x0, hx0⟩ : ∃ x0 : Int, x0 = g 10 + (dlX m 1 (g 10).toNat ((g 7).toNat - (g 10).toNat) : Int) := ⟨_, rfl⟩
  have hdl := dlX_le (m := m) (r := 1) (a := (g 10).toNat) (n := (g 7).toNat - (g 10).toNat)
  have x1 : 0 ≤ x0 := by omega
  have x2 : x0 ≤ 1300 := by omega
  exact ⟨rfl, trivial, trivial, x0, x1, x2, fun _ => ⟨h0, k_tok, k_sc1, k_sc2, k_T, k_I, k_F, k_N, k_Y, k_Z, k_A, k_B, k_C, k_X, ⟨h_rb, fun Ro Rb Rh e0 e1 e2 => by
      have e0 : g 9 = Ro := Option.some.inj (t1160.symm.trans e0)
      subst e0
      have e1 : g 10 = Rb := Option.some.inj (t1161.symm.trans e1)
      subst e1
      have e2 : g 7 + 0 = Rh := Option.some.inj e2
      subst e2
      rw [Int.add_zero]
      exact ⟨by omega, by omega, hwk⟩, fun Ro Rb Rh Rr Rw e0 e1 e2 e3 e4 => by
      have e0 : g 9 = Ro := Option.some.inj (t1160.symm.trans e0)
      subst e0
      have e1 : g 10 = Rb := Option.some.inj (t1161.symm.trans e1)
      subst e1
      have e2 : g 7 + 0 = Rh := Option.some.inj e2
      subst e2
      have e3 : g 11 + 0 = Rr := Option.some.inj e3
      subst e3
      have e4 : x0 = Rw := Option.some.inj e4
      subst e4
      rw [show (g 11 + 0).toNat = 1 by omega, Int.add_zero]
      exact hx0, fun Ro Rh Rg e0 e1 e2 => by
      have e0 : g 9 = Ro := Option.some.inj (t1160.symm.trans e0)
      subst e0
      have e1 : g 7 + 0 = Rh := Option.some.inj e1
      subst e1
      have e2 : g 8 + 0 = Rg := Option.some.inj e2
      subst e2
      rw [Int.add_zero, Int.add_zero]
      exact ⟨by omega, by omega⟩, fun _ _ _ e0 e1 e2 => no9 n1165 e2, fun _ _ _ _ _ _ e0 e1 e2 e3 e4 e5 => no9 n1166 e5, h_rq⟩, k_f4⟩⟩
noncomputable def ru_ro0 : Ru := ([(0, (1199, (0, (0, 0)))), (0, (1170, (0, (0, 0)))), (0, (1171, (0, (0, 0)))), (0, (1172, (0, (0, 0)))), (0, (1173, (0, (0, 0)))), (0, (1174, (0, (0, 0)))), (0, (1175, (0, (0, 0)))), (0, (1176, (0, (0, 0)))), (0, (1177, (0, (0, 0)))), (0, (1160, (0, (0, 0)))), (0, (1161, (0, (0, 0)))), (4, (0, (0, (0, 0))))], ([1162, 1163, 1164, 1165, 1166, 1167, 1168, 1178, 1179, 1180, 1181, 1182], ([([(6, (-1)), (9, 1)], 0), ([(6, 1), (9, (-1))], 0)], (false, ([], ([], ([(1162, some (7, 0)), (1163, some (11, 0)), (1167, some (8, 0))], some (1164, (0, 1300)))))))))
theorem rk_ro0 : RuOk SR ru_ro0 := by
  intro τ m g hi hc ha hS
  obtain ⟨i0, i1, i2, i3, i4, i5, i6, i7, i8, i9, i10, i11, _⟩ := hi
  have t1199 : τ 1199 = some (g 0) := i0
  have t1170 : τ 1170 = some (g 1) := i1
  have t1171 : τ 1171 = some (g 2) := i2
  have t1172 : τ 1172 = some (g 3) := i3
  have t1173 : τ 1173 = some (g 4) := i4
  have t1174 : τ 1174 = some (g 5) := i5
  have t1175 : τ 1175 = some (g 6) := i6
  have t1176 : τ 1176 = some (g 7) := i7
  have t1177 : τ 1177 = some (g 8) := i8
  have t1160 : τ 1160 = some (g 9) := i9
  have t1161 : τ 1161 = some (g 10) := i10
  have xr : g 11 = 0 := i11
  obtain ⟨c0, c1, _⟩ := hc
  have c0 : (-1) * g 6 + 1 * g 9 ≤ 0 := d2 c0
  have c1 : 1 * g 6 + (-1) * g 9 ≤ 0 := d2 c1
  obtain ⟨a0, a1, a2, a3, a4, a5, a6, a7, a8, a9, a10, a11, _⟩ := ha
  have n1162 : τ 1162 = none := a0
  have n1163 : τ 1163 = none := a1
  have n1164 : τ 1164 = none := a2
  have n1165 : τ 1165 = none := a3
  have n1166 : τ 1166 = none := a4
  have n1167 : τ 1167 = none := a5
  have n1168 : τ 1168 = none := a6
  have n1178 : τ 1178 = none := a7
  have n1179 : τ 1179 = none := a8
  have n1180 : τ 1180 = none := a9
  have n1181 : τ 1181 = none := a10
  have n1182 : τ 1182 = none := a11
  obtain ⟨h0, k_tok, k_sc1, k_sc2, k_T, k_I, k_F, k_N, k_Y, k_Z, k_A, k_B, k_C, k_X, k_R, k_f4⟩ := hS (by rw [t1199]; exact fun e => by cases e)
  have k_X0 := k_X
  obtain ⟨h_X0a, h_X0, h_X, h_Xe⟩ := k_X0
  have k_R0 := k_R
  obtain ⟨h_rb, h_rh, h_rw, h_rg, h_rd, h_rc, h_rq⟩ := k_R0
  have hXL : ((tx9 m).2 : Int) = m 110 1 := by
    show (((m 110 1).toNat : Nat) : Int) = _
    omega
  have hX := h_X _ _ _ _ _ _ _ _ t1170 t1171 t1172 t1173 t1174 t1175 t1176 t1177
  rw [n1178, n1179, n1180, n1181, n1182] at hX
  obtain ⟨⟨⟨hp1, hp2⟩, hws⟩, ⟨ho0, hv0, hvp, hd0, hd20⟩, ⟨hb0, hbv⟩, hdd⟩ := XB_n hX.1
  have hwk := XB_wk hX.1
  obtain ⟨_, ⟨hb2, hb3⟩, hRb⟩ := h_rb _ _ t1160 t1161
  rw [show (g 9).toNat = (g 6).toNat by omega] at hRb
  obtain ⟨x0, hx0⟩ : ∃ x0 : Int, x0 = g 10 + (dlX m 0 (g 10).toNat ((g 7).toNat - (g 10).toNat) : Int) := ⟨_, rfl⟩
  have hdl := dlX_le (m := m) (r := 0) (a := (g 10).toNat) (n := (g 7).toNat - (g 10).toNat)
  have x1 : 0 ≤ x0 := by omega
  have x2 : x0 ≤ 1300 := by omega
  exact ⟨rfl, trivial, trivial, x0, x1, x2, fun _ => ⟨h0, k_tok, k_sc1, k_sc2, k_T, k_I, k_F, k_N, k_Y, k_Z, k_A, k_B, k_C, k_X, ⟨h_rb, fun Ro Rb Rh e0 e1 e2 => by
      have e0 : g 9 = Ro := Option.some.inj (t1160.symm.trans e0)
      subst e0
      have e1 : g 10 = Rb := Option.some.inj (t1161.symm.trans e1)
      subst e1
      have e2 : g 7 + 0 = Rh := Option.some.inj e2
      subst e2
      rw [Int.add_zero]
      exact ⟨by omega, by omega, hwk⟩, fun Ro Rb Rh Rr Rw e0 e1 e2 e3 e4 => by
      have e0 : g 9 = Ro := Option.some.inj (t1160.symm.trans e0)
      subst e0
      have e1 : g 10 = Rb := Option.some.inj (t1161.symm.trans e1)
      subst e1
      have e2 : g 7 + 0 = Rh := Option.some.inj e2
      subst e2
      have e3 : g 11 + 0 = Rr := Option.some.inj e3
      subst e3
      have e4 : x0 = Rw := Option.some.inj e4
      subst e4
      rw [show (g 11 + 0).toNat = 0 by omega, Int.add_zero]
      exact hx0, fun Ro Rh Rg e0 e1 e2 => by
      have e0 : g 9 = Ro := Option.some.inj (t1160.symm.trans e0)
      subst e0
      have e1 : g 7 + 0 = Rh := Option.some.inj e1
      subst e1
      have e2 : g 8 + 0 = Rg := Option.some.inj e2
      subst e2
      rw [Int.add_zero, Int.add_zero]
      exact ⟨by omega, by omega⟩, fun _ _ _ e0 e1 e2 => no9 n1165 e2, fun _ _ _ _ _ _ e0 e1 e2 e3 e4 e5 => no9 n1166 e5, h_rq⟩, k_f4⟩⟩
noncomputable def ru_ro5o : Ru := ([(0, (1199, (0, (0, 0)))), (0, (1170, (0, (0, 0)))), (0, (1171, (0, (0, 0)))), (0, (1172, (0, (0, 0)))), (0, (1173, (0, (0, 0)))), (0, (1174, (0, (0, 0)))), (0, (1175, (0, (0, 0)))), (0, (1176, (0, (0, 0)))), (0, (1177, (0, (0, 0)))), (0, (1160, (0, (0, 0)))), (0, (1161, (0, (0, 0)))), (4, (0, (0, (5, 0)))), (0, (1124, (0, (0, 0))))], ([1162, 1163, 1164, 1165, 1166, 1167, 1168, 1178, 1179, 1180, 1181, 1182], ([([(6, (-1)), (9, 1)], 0), ([(6, 1), (9, (-1))], 0), ([(12, (-1))], (-8)), ([(12, 1)], 9)], (false, ([], ([], ([(1162, some (7, 0)), (1163, some (11, 0)), (1167, some (8, 0))], some (1164, (0, 1300)))))))))
theorem rk_ro5o : RuOk SR ru_ro5o := by
  intro τ m g hi hc ha hS
  obtain ⟨i0, i1, i2, i3, i4, i5, i6, i7, i8, i9, i10, i11, i12, _⟩ := hi
  have t1199 : τ 1199 = some (g 0) := i0
  have t1170 : τ 1170 = some (g 1) := i1
  have t1171 : τ 1171 = some (g 2) := i2
  have t1172 : τ 1172 = some (g 3) := i3
  have t1173 : τ 1173 = some (g 4) := i4
  have t1174 : τ 1174 = some (g 5) := i5
  have t1175 : τ 1175 = some (g 6) := i6
  have t1176 : τ 1176 = some (g 7) := i7
  have t1177 : τ 1177 = some (g 8) := i8
  have t1160 : τ 1160 = some (g 9) := i9
  have t1161 : τ 1161 = some (g 10) := i10
  have xr : g 11 = 5 := i11
  have t1124 : τ 1124 = some (g 12) := i12
  obtain ⟨c0, c1, c2, c3, _⟩ := hc
  have c0 : (-1) * g 6 + 1 * g 9 ≤ 0 := d2 c0
  have c1 : 1 * g 6 + (-1) * g 9 ≤ 0 := d2 c1
  have c2 : (-1) * g 12 ≤ (-8) := d1 c2
  have c3 : 1 * g 12 ≤ 9 := d1 c3
  obtain ⟨a0, a1, a2, a3, a4, a5, a6, a7, a8, a9, a10, a11, _⟩ := ha
  have n1162 : τ 1162 = none := a0
  have n1163 : τ 1163 = none := a1
  have n1164 : τ 1164 = none := a2
  have n1165 : τ 1165 = none := a3
  have n1166 : τ 1166 = none := a4
  have n1167 : τ 1167 = none := a5
  have n1168 : τ 1168 = none := a6
  have n1178 : τ 1178 = none := a7
  have n1179 : τ 1179 = none := a8
  have n1180 : τ 1180 = none := a9
  have n1181 : τ 1181 = none := a10
  have n1182 : τ 1182 = none := a11
  obtain ⟨h0, k_tok, k_sc1, k_sc2, k_T, k_I, k_F, k_N, k_Y, k_Z, k_A, k_B, k_C, k_X, k_R, k_f4⟩ := hS (by rw [t1199]; exact fun e => by cases e)
  have k_X0 := k_X
  obtain ⟨h_X0a, h_X0, h_X, h_Xe⟩ := k_X0
  have k_R0 := k_R
  obtain ⟨h_rb, h_rh, h_rw, h_rg, h_rd, h_rc, h_rq⟩ := k_R0
  have hXL : ((tx9 m).2 : Int) = m 110 1 := by
    show (((m 110 1).toNat : Nat) : Int) = _
    omega
  have hX := h_X _ _ _ _ _ _ _ _ t1170 t1171 t1172 t1173 t1174 t1175 t1176 t1177
  rw [n1178, n1179, n1180, n1181, n1182] at hX
  obtain ⟨⟨⟨hp1, hp2⟩, hws⟩, ⟨ho0, hv0, hvp, hd0, hd20⟩, ⟨hb0, hbv⟩, hdd⟩ := XB_n hX.1
  have hwk := XB_wk hX.1
  obtain ⟨_, ⟨hb2, hb3⟩, hRb⟩ := h_rb _ _ t1160 t1161
  rw [show (g 9).toNat = (g 6).toNat by omega] at hRb
  obtain ⟨x0, hx0⟩ : ∃ x0 : Int, x0 = g 10 + (dlX m 5 (g 10).toNat ((g 7).toNat - (g 10).toNat) : Int) := ⟨_, rfl⟩
  have hdl := dlX_le (m := m) (r := 5) (a := (g 10).toNat) (n := (g 7).toNat - (g 10).toNat)
  have x1 : 0 ≤ x0 := by omega
  have x2 : x0 ≤ 1300 := by omega
  exact ⟨rfl, trivial, trivial, x0, x1, x2, fun _ => ⟨h0, k_tok, k_sc1, k_sc2, k_T, k_I, k_F, k_N, k_Y, k_Z, k_A, k_B, k_C, k_X, ⟨h_rb, fun Ro Rb Rh e0 e1 e2 => by
      have e0 : g 9 = Ro := Option.some.inj (t1160.symm.trans e0)
      subst e0
      have e1 : g 10 = Rb := Option.some.inj (t1161.symm.trans e1)
      subst e1
      have e2 : g 7 + 0 = Rh := Option.some.inj e2
      subst e2
      rw [Int.add_zero]
      exact ⟨by omega, by omega, hwk⟩, fun Ro Rb Rh Rr Rw e0 e1 e2 e3 e4 => by
      have e0 : g 9 = Ro := Option.some.inj (t1160.symm.trans e0)
      subst e0
      have e1 : g 10 = Rb := Option.some.inj (t1161.symm.trans e1)
      subst e1
      have e2 : g 7 + 0 = Rh := Option.some.inj e2
      subst e2
      have e3 : g 11 + 0 = Rr := Option.some.inj e3
      subst e3
      have e4 : x0 = Rw := Option.some.inj e4
      subst e4
      rw [show (g 11 + 0).toNat = 5 by omega, Int.add_zero]
      exact hx0, fun Ro Rh Rg e0 e1 e2 => by
      have e0 : g 9 = Ro := Option.some.inj (t1160.symm.trans e0)
      subst e0
      have e1 : g 7 + 0 = Rh := Option.some.inj e1
      subst e1
      have e2 : g 8 + 0 = Rg := Option.some.inj e2
      subst e2
      rw [Int.add_zero, Int.add_zero]
      exact ⟨by omega, by omega⟩, fun _ _ _ e0 e1 e2 => no9 n1165 e2, fun _ _ _ _ _ _ e0 e1 e2 e3 e4 e5 => no9 n1166 e5, h_rq⟩, k_f4⟩⟩
noncomputable def ru_ro6o : Ru := ([(0, (1199, (0, (0, 0)))), (0, (1170, (0, (0, 0)))), (0, (1171, (0, (0, 0)))), (0, (1172, (0, (0, 0)))), (0, (1173, (0, (0, 0)))), (0, (1174, (0, (0, 0)))), (0, (1175, (0, (0, 0)))), (0, (1176, (0, (0, 0)))), (0, (1177, (0, (0, 0)))), (0, (1160, (0, (0, 0)))), (0, (1161, (0, (0, 0)))), (4, (0, (0, (6, 0)))), (0, (1124, (0, (0, 0))))], ([1162, 1163, 1164, 1165, 1166, 1167, 1168, 1178, 1179, 1180, 1181, 1182], ([([(6, (-1)), (9, 1)], 0), ([(6, 1), (9, (-1))], 0), ([(12, (-1))], (-10)), ([(12, 1)], 12)], (false, ([], ([], ([(1162, some (7, 0)), (1163, some (11, 0)), (1167, some (8, 0))], some (1164, (0, 1300)))))))))
theorem rk_ro6o : RuOk SR ru_ro6o := by
  intro τ m g hi hc ha hS
  obtain ⟨i0, i1, i2, i3, i4, i5, i6, i7, i8, i9, i10, i11, i12, _⟩ := hi
  have t1199 : τ 1199 = some (g 0) := i0
  have t1170 : τ 1170 = some (g 1) := i1
  have t1171 : τ 1171 = some (g 2) := i2
  have t1172 : τ 1172 = some (g 3) := i3
  have t1173 : τ 1173 = some (g 4) := i4
  have t1174 : τ 1174 = some (g 5) := i5
  have t1175 : τ 1175 = some (g 6) := i6
  have t1176 : τ 1176 = some (g 7) := i7
  have t1177 : τ 1177 = some (g 8) := i8
  have t1160 : τ 1160 = some (g 9) := i9
  have t1161 : τ 1161 = some (g 10) := i10
  have xr : g 11 = 6 := i11
  have t1124 : τ 1124 = some (g 12) := i12
  obtain ⟨c0, c1, c2, c3, _⟩ := hc
  have c0 : (-1) * g 6 + 1 * g 9 ≤ 0 := d2 c0
  have c1 : 1 * g 6 + (-1) * g 9 ≤ 0 := d2 c1
  have c2 : (-1) * g 12 ≤ (-10) := d1 c2
  have c3 : 1 * g 12 ≤ 12 := d1 c3
  obtain ⟨a0, a1, a2, a3, a4, a5, a6, a7, a8, a9, a10, a11, _⟩ := ha
  have n1162 : τ 1162 = none := a0
  have n1163 : τ 1163 = none := a1
  have n1164 : τ 1164 = none := a2
  have n1165 : τ 1165 = none := a3
  have n1166 : τ 1166 = none := a4
  have n1167 : τ 1167 = none := a5
  have n1168 : τ 1168 = none := a6
  have n1178 : τ 1178 = none := a7
  have n1179 : τ 1179 = none := a8
  have n1180 : τ 1180 = none := a9
  have n1181 : τ 1181 = none := a10
  have n1182 : τ 1182 = none := a11
  obtain ⟨h0, k_tok, k_sc1, k_sc2, k_T, k_I, k_F, k_N, k_Y, k_Z, k_A, k_B, k_C, k_X, k_R, k_f4⟩ := hS (by rw [t1199]; exact fun e => by cases e)
  have k_X0 := k_X
  obtain ⟨h_X0a, h_X0, h_X, h_Xe⟩ := k_X0
  have k_R0 := k_R
  obtain ⟨h_rb, h_rh, h_rw, h_rg, h_rd, h_rc, h_rq⟩ := k_R0
  have hXL : ((tx9 m).2 : Int) = m 110 1 := by
    show (((m 110 1).toNat : Nat) : Int) = _
    omega
  have hX := h_X _ _ _ _ _ _ _ _ t1170 t1171 t1172 t1173 t1174 t1175 t1176 t1177
  rw [n1178, n1179, n1180, n1181, n1182] at hX
  obtain ⟨⟨⟨hp1, hp2⟩, hws⟩, ⟨ho0, hv0, hvp, hd0, hd20⟩, ⟨hb0, hbv⟩, hdd⟩ := XB_n hX.1
  have hwk := XB_wk hX.1
  obtain ⟨_, ⟨hb2, hb3⟩, hRb⟩ := h_rb _ _ t1160 t1161
  rw [show (g 9).toNat = (g 6).toNat by omega] at hRb
  obtain ⟨x0, hx0⟩ : ∃ x0 : Int, x0 = g 10 + (dlX m 6 (g 10).toNat ((g 7).toNat - (g 10).toNat) : Int) := ⟨_, rfl⟩
  have hdl := dlX_le (m := m) (r := 6) (a := (g 10).toNat) (n := (g 7).toNat - (g 10).toNat)
  have x1 : 0 ≤ x0 := by omega
  have x2 : x0 ≤ 1300 := by omega
  exact ⟨rfl, trivial, trivial, x0, x1, x2, fun _ => ⟨h0, k_tok, k_sc1, k_sc2, k_T, k_I, k_F, k_N, k_Y, k_Z, k_A, k_B, k_C, k_X, ⟨h_rb, fun Ro Rb Rh e0 e1 e2 => by
      have e0 : g 9 = Ro := Option.some.inj (t1160.symm.trans e0)
      subst e0
      have e1 : g 10 = Rb := Option.some.inj (t1161.symm.trans e1)
      subst e1
      have e2 : g 7 + 0 = Rh := Option.some.inj e2
      subst e2
      rw [Int.add_zero]
      exact ⟨by omega, by omega, hwk⟩, fun Ro Rb Rh Rr Rw e0 e1 e2 e3 e4 => by
      have e0 : g 9 = Ro := Option.some.inj (t1160.symm.trans e0)
      subst e0
      have e1 : g 10 = Rb := Option.some.inj (t1161.symm.trans e1)
      subst e1
      have e2 : g 7 + 0 = Rh := Option.some.inj e2
      subst e2
      have e3 : g 11 + 0 = Rr := Option.some.inj e3
      subst e3
      have e4 : x0 = Rw := Option.some.inj e4
      subst e4
      rw [show (g 11 + 0).toNat = 6 by omega, Int.add_zero]
      exact hx0, fun Ro Rh Rg e0 e1 e2 => by
      have e0 : g 9 = Ro := Option.some.inj (t1160.symm.trans e0)
      subst e0
      have e1 : g 7 + 0 = Rh := Option.some.inj e1
      subst e1
      have e2 : g 8 + 0 = Rg := Option.some.inj e2
      subst e2
      rw [Int.add_zero, Int.add_zero]
      exact ⟨by omega, by omega⟩, fun _ _ _ e0 e1 e2 => no9 n1165 e2, fun _ _ _ _ _ _ e0 e1 e2 e3 e4 e5 => no9 n1166 e5, h_rq⟩, k_f4⟩⟩
noncomputable def ru_ro2a : Ru := ([(0, (1199, (0, (0, 0)))), (0, (1170, (0, (0, 0)))), (0, (1171, (0, (0, 0)))), (0, (1172, (0, (0, 0)))), (0, (1173, (0, (0, 0)))), (0, (1174, (0, (0, 0)))), (0, (1175, (0, (0, 0)))), (0, (1176, (0, (0, 0)))), (0, (1177, (0, (0, 0)))), (0, (1160, (0, (0, 0)))), (0, (1161, (0, (0, 0)))), (4, (0, (0, (2, 0)))), (0, (1124, (0, (0, 0))))], ([1162, 1163, 1164, 1165, 1166, 1167, 1168, 1178, 1179, 1180, 1181, 1182], ([([(6, (-1)), (9, 1)], 0), ([(6, 1), (9, (-1))], 0), ([(12, (-1))], (-30)), ([(12, 1)], 30)], (false, ([], ([], ([(1162, some (7, 0)), (1163, some (11, 0)), (1167, some (8, 0))], some (1164, (0, 1300)))))))))
theorem rk_ro2a : RuOk SR ru_ro2a := by
  intro τ m g hi hc ha hS
  obtain ⟨i0, i1, i2, i3, i4, i5, i6, i7, i8, i9, i10, i11, i12, _⟩ := hi
  have t1199 : τ 1199 = some (g 0) := i0
  have t1170 : τ 1170 = some (g 1) := i1
  have t1171 : τ 1171 = some (g 2) := i2
  have t1172 : τ 1172 = some (g 3) := i3
  have t1173 : τ 1173 = some (g 4) := i4
  have t1174 : τ 1174 = some (g 5) := i5
  have t1175 : τ 1175 = some (g 6) := i6
  have t1176 : τ 1176 = some (g 7) := i7
  have t1177 : τ 1177 = some (g 8) := i8
  have t1160 : τ 1160 = some (g 9) := i9
  have t1161 : τ 1161 = some (g 10) := i10
  have xr : g 11 = 2 := i11
  have t1124 : τ 1124 = some (g 12) := i12
  obtain ⟨c0, c1, c2, c3, _⟩ := hc
  have c0 : (-1) * g 6 + 1 * g 9 ≤ 0 := d2 c0
  have c1 : 1 * g 6 + (-1) * g 9 ≤ 0 := d2 c1
  have c2 : (-1) * g 12 ≤ (-30) := d1 c2
  have c3 : 1 * g 12 ≤ 30 := d1 c3
  obtain ⟨a0, a1, a2, a3, a4, a5, a6, a7, a8, a9, a10, a11, _⟩ := ha
  have n1162 : τ 1162 = none := a0
  have n1163 : τ 1163 = none := a1
  have n1164 : τ 1164 = none := a2
  have n1165 : τ 1165 = none := a3
  have n1166 : τ 1166 = none := a4
  have n1167 : τ 1167 = none := a5
  have n1168 : τ 1168 = none := a6
  have n1178 : τ 1178 = none := a7
  have n1179 : τ 1179 = none := a8
  have n1180 : τ 1180 = none := a9
  have n1181 : τ 1181 = none := a10
  have n1182 : τ 1182 = none := a11
  obtain ⟨h0, k_tok, k_sc1, k_sc2, k_T, k_I, k_F, k_N, k_Y, k_Z, k_A, k_B, k_C, k_X, k_R, k_f4⟩ := hS (by rw [t1199]; exact fun e => by cases e)
  have k_X0 := k_X
  obtain ⟨h_X0a, h_X0, h_X, h_Xe⟩ := k_X0
  have k_R0 := k_R
  obtain ⟨h_rb, h_rh, h_rw, h_rg, h_rd, h_rc, h_rq⟩ := k_R0
  have hXL : ((tx9 m).2 : Int) = m 110 1 := by
    show (((m 110 1).toNat : Nat) : Int) = _
    omega
  have hX := h_X _ _ _ _ _ _ _ _ t1170 t1171 t1172 t1173 t1174 t1175 t1176 t1177
  rw [n1178, n1179, n1180, n1181, n1182] at hX
  obtain ⟨⟨⟨hp1, hp2⟩, hws⟩, ⟨ho0, hv0, hvp, hd0, hd20⟩, ⟨hb0, hbv⟩, hdd⟩ := XB_n hX.1
  have hwk := XB_wk hX.1
  obtain ⟨_, ⟨hb2, hb3⟩, hRb⟩ := h_rb _ _ t1160 t1161
  rw [show (g 9).toNat = (g 6).toNat by omega] at hRb
  obtain ⟨x0, hx0⟩ : ∃ x0 : Int, x0 = g 10 + (dlX m 2 (g 10).toNat ((g 7).toNat - (g 10).toNat) : Int) := ⟨_, rfl⟩
  have hdl := dlX_le (m := m) (r := 2) (a := (g 10).toNat) (n := (g 7).toNat - (g 10).toNat)
  have x1 : 0 ≤ x0 := by omega
  have x2 : x0 ≤ 1300 := by omega
  exact ⟨rfl, trivial, trivial, x0, x1, x2, fun _ => ⟨h0, k_tok, k_sc1, k_sc2, k_T, k_I, k_F, k_N, k_Y, k_Z, k_A, k_B, k_C, k_X, ⟨h_rb, fun Ro Rb Rh e0 e1 e2 => by
      have e0 : g 9 = Ro := Option.some.inj (t1160.symm.trans e0)
      subst e0
      have e1 : g 10 = Rb := Option.some.inj (t1161.symm.trans e1)
      subst e1
      have e2 : g 7 + 0 = Rh := Option.some.inj e2
      subst e2
      rw [Int.add_zero]
      exact ⟨by omega, by omega, hwk⟩, fun Ro Rb Rh Rr Rw e0 e1 e2 e3 e4 => by
      have e0 : g 9 = Ro := Option.some.inj (t1160.symm.trans e0)
      subst e0
      have e1 : g 10 = Rb := Option.some.inj (t1161.symm.trans e1)
      subst e1
      have e2 : g 7 + 0 = Rh := Option.some.inj e2
      subst e2
      have e3 : g 11 + 0 = Rr := Option.some.inj e3
      subst e3
      have e4 : x0 = Rw := Option.some.inj e4
      subst e4
      rw [show (g 11 + 0).toNat = 2 by omega, Int.add_zero]
      exact hx0, fun Ro Rh Rg e0 e1 e2 => by
      have e0 : g 9 = Ro := Option.some.inj (t1160.symm.trans e0)
      subst e0
      have e1 : g 7 + 0 = Rh := Option.some.inj e1
      subst e1
      have e2 : g 8 + 0 = Rg := Option.some.inj e2
      subst e2
      rw [Int.add_zero, Int.add_zero]
      exact ⟨by omega, by omega⟩, fun _ _ _ e0 e1 e2 => no9 n1165 e2, fun _ _ _ _ _ _ e0 e1 e2 e3 e4 e5 => no9 n1166 e5, h_rq⟩, k_f4⟩⟩
noncomputable def ru_ro1a : Ru := ([(0, (1199, (0, (0, 0)))), (0, (1170, (0, (0, 0)))), (0, (1171, (0, (0, 0)))), (0, (1172, (0, (0, 0)))), (0, (1173, (0, (0, 0)))), (0, (1174, (0, (0, 0)))), (0, (1175, (0, (0, 0)))), (0, (1176, (0, (0, 0)))), (0, (1177, (0, (0, 0)))), (0, (1160, (0, (0, 0)))), (0, (1161, (0, (0, 0)))), (4, (0, (0, (1, 0)))), (0, (1124, (0, (0, 0))))], ([1162, 1163, 1164, 1165, 1166, 1167, 1168, 1178, 1179, 1180, 1181, 1182], ([([(6, (-1)), (9, 1)], 0), ([(6, 1), (9, (-1))], 0), ([(12, (-1))], (-31)), ([(12, 1)], 31)], (false, ([], ([], ([(1162, some (7, 0)), (1163, some (11, 0)), (1167, some (8, 0))], some (1164, (0, 1300)))))))))
theorem rk_ro1a : RuOk SR ru_ro1a := by
  intro τ m g hi hc ha hS
  obtain ⟨i0, i1, i2, i3, i4, i5, i6, i7, i8, i9, i10, i11, i12, _⟩ := hi
  have t1199 : τ 1199 = some (g 0) := i0
  have t1170 : τ 1170 = some (g 1) := i1
  have t1171 : τ 1171 = some (g 2) := i2
  have t1172 : τ 1172 = some (g 3) := i3
  have t1173 : τ 1173 = some (g 4) := i4
  have t1174 : τ 1174 = some (g 5) := i5
  have t1175 : τ 1175 = some (g 6) := i6
  have t1176 : τ 1176 = some (g 7) := i7
  have t1177 : τ 1177 = some (g 8) := i8
  have t1160 : τ 1160 = some (g 9) := i9
  have t1161 : τ 1161 = some (g 10) := i10
  have xr : g 11 = 1 := i11
  have t1124 : τ 1124 = some (g 12) := i12
  obtain ⟨c0, c1, c2, c3, _⟩ := hc
  have c0 : (-1) * g 6 + 1 * g 9 ≤ 0 := d2 c0
  have c1 : 1 * g 6 + (-1) * g 9 ≤ 0 := d2 c1
  have c2 : (-1) * g 12 ≤ (-31) := d1 c2
  have c3 : 1 * g 12 ≤ 31 := d1 c3
  obtain ⟨a0, a1, a2, a3, a4, a5, a6, a7, a8, a9, a10, a11, _⟩ := ha
  have n1162 : τ 1162 = none := a0
  have n1163 : τ 1163 = none := a1
  have n1164 : τ 1164 = none := a2
  have n1165 : τ 1165 = none := a3
  have n1166 : τ 1166 = none := a4
  have n1167 : τ 1167 = none := a5
  have n1168 : τ 1168 = none := a6
  have n1178 : τ 1178 = none := a7
  have n1179 : τ 1179 = none := a8
  have n1180 : τ 1180 = none := a9
  have n1181 : τ 1181 = none := a10
  have n1182 : τ 1182 = none := a11
  obtain ⟨h0, k_tok, k_sc1, k_sc2, k_T, k_I, k_F, k_N, k_Y, k_Z, k_A, k_B, k_C, k_X, k_R, k_f4⟩ := hS (by rw [t1199]; exact fun e => by cases e)
  have k_X0 := k_X
  obtain ⟨h_X0a, h_X0, h_X, h_Xe⟩ := k_X0
  have k_R0 := k_R
  obtain ⟨h_rb, h_rh, h_rw, h_rg, h_rd, h_rc, h_rq⟩ := k_R0
  have hXL : ((tx9 m).2 : Int) = m 110 1 := by
    show (((m 110 1).toNat : Nat) : Int) = _
    omega
  have hX := h_X _ _ _ _ _ _ _ _ t1170 t1171 t1172 t1173 t1174 t1175 t1176 t1177
  rw [n1178, n1179, n1180, n1181, n1182] at hX
  obtain ⟨⟨⟨hp1, hp2⟩, hws⟩, ⟨ho0, hv0, hvp, hd0, hd20⟩, ⟨hb0, hbv⟩, hdd⟩ := XB_n hX.1
  have hwk := XB_wk hX.1
  obtain ⟨_, ⟨hb2, hb3⟩, hRb⟩ := h_rb _ _ t1160 t1161
  rw [show (g 9).toNat = (g 6).toNat by omega] at hRb
  obtain ⟨x0, hx0⟩ : ∃ x0 : Int, x0 = g 10 + (dlX m 1 (g 10).toNat ((g 7).toNat - (g 10).toNat) : Int) := ⟨_, rfl⟩
  have hdl := dlX_le (m := m) (r := 1) (a := (g 10).toNat) (n := (g 7).toNat - (g 10).toNat)
  have x1 : 0 ≤ x0 := by omega
  have x2 : x0 ≤ 1300 := by omega
  exact ⟨rfl, trivial, trivial, x0, x1, x2, fun _ => ⟨h0, k_tok, k_sc1, k_sc2, k_T, k_I, k_F, k_N, k_Y, k_Z, k_A, k_B, k_C, k_X, ⟨h_rb, fun Ro Rb Rh e0 e1 e2 => by
      have e0 : g 9 = Ro := Option.some.inj (t1160.symm.trans e0)
      subst e0
      have e1 : g 10 = Rb := Option.some.inj (t1161.symm.trans e1)
      subst e1
      have e2 : g 7 + 0 = Rh := Option.some.inj e2
      subst e2
      rw [Int.add_zero]
      exact ⟨by omega, by omega, hwk⟩, fun Ro Rb Rh Rr Rw e0 e1 e2 e3 e4 => by
      have e0 : g 9 = Ro := Option.some.inj (t1160.symm.trans e0)
      subst e0
      have e1 : g 10 = Rb := Option.some.inj (t1161.symm.trans e1)
      subst e1
      have e2 : g 7 + 0 = Rh := Option.some.inj e2
      subst e2
      have e3 : g 11 + 0 = Rr := Option.some.inj e3
      subst e3
      have e4 : x0 = Rw := Option.some.inj e4
      subst e4
      rw [show (g 11 + 0).toNat = 1 by omega, Int.add_zero]
      exact hx0, fun Ro Rh Rg e0 e1 e2 => by
      have e0 : g 9 = Ro := Option.some.inj (t1160.symm.trans e0)
      subst e0
      have e1 : g 7 + 0 = Rh := Option.some.inj e1
      subst e1
      have e2 : g 8 + 0 = Rg := Option.some.inj e2
      subst e2
      rw [Int.add_zero, Int.add_zero]
      exact ⟨by omega, by omega⟩, fun _ _ _ e0 e1 e2 => no9 n1165 e2, fun _ _ _ _ _ _ e0 e1 e2 e3 e4 e5 => no9 n1166 e5, h_rq⟩, k_f4⟩⟩
end
