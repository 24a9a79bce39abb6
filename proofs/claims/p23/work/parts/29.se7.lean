noncomputable section
/-! ===== THE READER, 75: rules ===== -/
noncomputable def ru_pm : Ru := ([(0, (1199, (0, (0, 0)))), (0, (1102, (0, (0, 0)))), (0, (1122, (0, (0, 0)))), (0, (1123, (0, (0, 0)))), (0, (1201, (0, (0, 0)))), (0, (1205, (0, (0, 0))))], ([], ([([(2, (-1)), (4, 1)], 0)], (false, ([([(2, 1), (3, (-1)), (4, (-1)), (5, 1)], 0)], ([], ([], none)))))))
theorem rk_pm : RuOk SR ru_pm := by
  intro τ m g hi hc ha hS
  obtain ⟨i0, i1, i2, i3, i4, i5, _⟩ := hi
  have t1199 : τ 1199 = some (g 0) := i0
  have t1102 : τ 1102 = some (g 1) := i1
  have t1122 : τ 1122 = some (g 2) := i2
  have t1123 : τ 1123 = some (g 3) := i3
  have t1201 : τ 1201 = some (g 4) := i4
  have t1205 : τ 1205 = some (g 5) := i5
  obtain ⟨c0, _⟩ := hc
  have c0 : (-1) * g 2 + 1 * g 4 ≤ 0 := d2 c0
  obtain ⟨h0, k_tok, k_sc1, k_sc2, k_T, k_I, k_F, k_N, k_Y, k_Z, k_A, k_B, k_C, k_X, k_R, k_f4⟩ := hS (by rw [t1199]; exact fun e => by cases e)
  have k_tok0 := k_tok
  obtain ⟨h_L, h_n, h_nF⟩ := k_tok0
  have k_I0 := k_I
  obtain ⟨h_p, h_pc, h_ip, h_iP, h_PC, h_PN⟩ := k_I0
  have k_C0 := k_C
  obtain ⟨h_C0, h_C, h_Ci0, h_Cp⟩ := k_C0
  obtain ⟨hn0, _, hNT⟩ := h_nF _ t1102
  have hXL : ((tx9 m).2 : Int) = m 110 1 := by
    show (((m 110 1).toNat : Nat) : Int) = _
    omega
  obtain ⟨⟨hi0, hi1⟩, hpi⟩ := h_ip _ _ _ t1102 t1122 t1123
  have hTK := (h_nF _ t1102).2.1.1 (g 2).toNat (by omega)
  have hSL := St_L (X := tx9 m) (i := (g 2).toNat)
  have hC := h_Cp _ _ t1201 t1205
  have hC0 := h_Ci0 _ t1201
  have hmo := St_mono hNT (i := (g 4).toNat) (k := (g 2).toNat - (g 4).toNat) (by omega)
  rw [show (g 4).toNat + ((g 2).toNat - (g 4).toNat) = (g 2).toNat by omega] at hmo
  exact ⟨rfl, ⟨f4 (by omega), trivial⟩, trivial, fun _ => ⟨h0, k_tok, k_sc1, k_sc2, k_T, k_I, k_F, k_N, k_Y, k_Z, k_A, k_B, k_C, k_X, k_R, k_f4⟩⟩
noncomputable def ru_cpA : Ru := ([(0, (1199, (0, (0, 0)))), (0, (1102, (0, (0, 0)))), (0, (1140, (0, (0, 0)))), (0, (1141, (0, (0, 0)))), (0, (1142, (0, (0, 0)))), (0, (1143, (0, (0, 0)))), (0, (1144, (0, (0, 0))))], ([1130, 1131, 1132, 1133, 1134], ([([(6, 1)], 21)], (false, ([], ([], ([(1130, some (2, 0)), (1131, some (3, 0)), (1132, some (4, 0)), (1133, some (5, 0)), (1134, some (6, 0))], none)))))))
theorem rk_cpA : RuOk SR ru_cpA := by
  intro τ m g hi hc ha hS
  obtain ⟨i0, i1, i2, i3, i4, i5, i6, _⟩ := hi
  have t1199 : τ 1199 = some (g 0) := i0
  have t1102 : τ 1102 = some (g 1) := i1
  have t1140 : τ 1140 = some (g 2) := i2
  have t1141 : τ 1141 = some (g 3) := i3
  have t1142 : τ 1142 = some (g 4) := i4
  have t1143 : τ 1143 = some (g 5) := i5
  have t1144 : τ 1144 = some (g 6) := i6
  obtain ⟨c0, _⟩ := hc
  have c0 : 1 * g 6 ≤ 21 := d1 c0
  obtain ⟨a0, a1, a2, a3, a4, _⟩ := ha
  have n1130 : τ 1130 = none := a0
  have n1131 : τ 1131 = none := a1
  have n1132 : τ 1132 = none := a2
  have n1133 : τ 1133 = none := a3
  have n1134 : τ 1134 = none := a4
  obtain ⟨h0, k_tok, k_sc1, k_sc2, k_T, k_I, k_F, k_N, k_Y, k_Z, k_A, k_B, k_C, k_X, k_R, k_f4⟩ := hS (by rw [t1199]; exact fun e => by cases e)
  have k_tok0 := k_tok
  obtain ⟨h_L, h_n, h_nF⟩ := k_tok0
  have k_A0 := k_A
  obtain ⟨h_A0, h_A⟩ := k_A0
  have k_B0 := k_B
  obtain ⟨h_B0, h_B, h_Bd0, h_B26, h_B22, h_Bs⟩ := k_B0
  obtain ⟨hn0, _, hNT⟩ := h_nF _ t1102
  have hS1 := h_B _ _ _ _ _ _ t1102 t1140 t1141 t1142 t1143 t1144
  have hS0 := h_B0 _ _ _ _ _ t1102 t1140 t1141 t1142 t1144
  exact ⟨rfl, trivial, trivial, fun _ => ⟨h0, k_tok, k_sc1, k_sc2, k_T, k_I, k_F, k_N, k_Y, k_Z, ⟨fun nF Ad Ai Ar Am e0 e1 e2 e3 e4 => by
      have e0 : g 1 = nF := Option.some.inj (t1102.symm.trans e0)
      subst e0
      have e1 : g 2 + 0 = Ad := Option.some.inj e1
      subst e1
      have e2 : g 3 + 0 = Ai := Option.some.inj e2
      subst e2
      have e3 : g 4 + 0 = Ar := Option.some.inj e3
      subst e3
      have e4 : g 6 + 0 = Am := Option.some.inj e4
      subst e4
      simp only [Int.add_zero]
      exact ⟨by omega, _, hS1⟩, fun nF Ad Ai Ar Ax Am e0 e1 e2 e3 e4 e5 => by
      have e0 : g 1 = nF := Option.some.inj (t1102.symm.trans e0)
      subst e0
      have e1 : g 2 + 0 = Ad := Option.some.inj e1
      subst e1
      have e2 : g 3 + 0 = Ai := Option.some.inj e2
      subst e2
      have e3 : g 4 + 0 = Ar := Option.some.inj e3
      subst e3
      have e4 : g 5 + 0 = Ax := Option.some.inj e4
      subst e4
      have e5 : g 6 + 0 = Am := Option.some.inj e5
      subst e5
      simp only [Int.add_zero]
      exact hS1⟩, k_B, k_C, k_X, k_R, k_f4⟩⟩
noncomputable def ru_dA : Ru := ([], ([], ([], (false, ([], ([], ([(1130, none), (1131, none), (1132, none), (1133, none), (1134, none)], none)))))))
theorem rk_dA : RuOk SR ru_dA := by
  intro τ m g hi hc ha hS
  refine ⟨rfl, trivial, trivial, fun hM => ?_⟩
  obtain ⟨h0, k_tok, k_sc1, k_sc2, k_T, k_I, k_F, k_N, k_Y, k_Z, k_A, k_B, k_C, k_X, k_R, k_f4⟩ := hS hM
  have k_A0 := k_A
  obtain ⟨h_A0, h_A⟩ := k_A0
  exact ⟨h0, k_tok, k_sc1, k_sc2, k_T, k_I, k_F, k_N, k_Y, k_Z, ⟨fun _ _ _ _ _ e0 e1 e2 e3 e4 => no9 (o := none) rfl e1, fun _ _ _ _ _ _ e0 e1 e2 e3 e4 e5 => no9 (o := none) rfl e1⟩, k_B, k_C, k_X, k_R, k_f4⟩
noncomputable def ru_dB : Ru := ([], ([], ([], (false, ([], ([], ([(1140, none), (1141, none), (1142, none), (1143, none), (1144, none), (1145, none), (1146, none), (1147, none)], none)))))))
theorem rk_dB : RuOk SR ru_dB := by
  intro τ m g hi hc ha hS
  refine ⟨rfl, trivial, trivial, fun hM => ?_⟩
  obtain ⟨h0, k_tok, k_sc1, k_sc2, k_T, k_I, k_F, k_N, k_Y, k_Z, k_A, k_B, k_C, k_X, k_R, k_f4⟩ := hS hM
  have k_B0 := k_B
  obtain ⟨h_B0, h_B, h_Bd0, h_B26, h_B22, h_Bs⟩ := k_B0
  exact ⟨h0, k_tok, k_sc1, k_sc2, k_T, k_I, k_F, k_N, k_Y, k_Z, k_A, ⟨fun _ _ _ _ _ e0 e1 e2 e3 e4 => no9 (o := none) rfl e1, fun _ _ _ _ _ _ e0 e1 e2 e3 e4 e5 => no9 (o := none) rfl e1, fun _ e0 => no9 (o := none) rfl e0, fun _ _ _ e0 e1 e2 => no9 (o := none) rfl e0, fun _ _ _ _ e0 e1 e2 e3 => no9 (o := none) rfl e0, fun _ _ _ e0 e1 e2 => no9 (o := none) rfl e1⟩, k_C, k_X, k_R, k_f4⟩
noncomputable def ru_dI : Ru := ([], ([], ([], (false, ([], ([], ([(1122, none), (1123, none), (1124, none), (1125, none)], none)))))))
theorem rk_dI : RuOk SR ru_dI := by
  intro τ m g hi hc ha hS
  refine ⟨rfl, trivial, trivial, fun hM => ?_⟩
  obtain ⟨h0, k_tok, k_sc1, k_sc2, k_T, k_I, k_F, k_N, k_Y, k_Z, k_A, k_B, k_C, k_X, k_R, k_f4⟩ := hS hM
  have k_I0 := k_I
  obtain ⟨h_p, h_pc, h_ip, h_iP, h_PC, h_PN⟩ := k_I0
  exact ⟨h0, k_tok, k_sc1, k_sc2, k_T, ⟨fun _ e0 => no9 (o := none) rfl e0, fun _ _ e0 e1 => no9 (o := none) rfl e0, fun _ _ _ e0 e1 e2 => no9 (o := none) rfl e1, fun _ _ _ e0 e1 e2 => no9 (o := none) rfl e0, fun _ _ e0 e1 => no9 (o := none) rfl e0, fun _ _ _ e0 e1 e2 => no9 (o := none) rfl e0⟩, k_F, k_N, k_Y, k_Z, k_A, k_B, k_C, k_X, k_R, k_f4⟩
noncomputable def ru_gA0_0 : Ru := ([(0, (1199, (0, (0, 0)))), (0, (1102, (0, (0, 0)))), (0, (1122, (0, (0, 0)))), (0, (1123, (0, (0, 0)))), (0, (1140, (0, (0, 0)))), (4, (0, (0, (0, 0))))], ([1130, 1131, 1132, 1133, 1134], ([([(4, 1)], 20)], (false, ([], ([], ([(1130, some (4, 0)), (1131, some (2, 0)), (1134, some (5, 0))], some (1132, ((-1), 1200)))))))))
theorem rk_gA0_0 : RuOk SR ru_gA0_0 := by
  intro τ m g hi hc ha hS
  obtain ⟨i0, i1, i2, i3, i4, i5, _⟩ := hi
  have t1199 : τ 1199 = some (g 0) := i0
  have t1102 : τ 1102 = some (g 1) := i1
  have t1122 : τ 1122 = some (g 2) := i2
  have t1123 : τ 1123 = some (g 3) := i3
  have t1140 : τ 1140 = some (g 4) := i4
  have xm : g 5 = 0 := i5
  obtain ⟨c0, _⟩ := hc
  have c0 : 1 * g 4 ≤ 20 := d1 c0
  obtain ⟨a0, a1, a2, a3, a4, _⟩ := ha
  have n1130 : τ 1130 = none := a0
  have n1131 : τ 1131 = none := a1
  have n1132 : τ 1132 = none := a2
  have n1133 : τ 1133 = none := a3
  have n1134 : τ 1134 = none := a4
  obtain ⟨h0, k_tok, k_sc1, k_sc2, k_T, k_I, k_F, k_N, k_Y, k_Z, k_A, k_B, k_C, k_X, k_R, k_f4⟩ := hS (by rw [t1199]; exact fun e => by cases e)
  have k_tok0 := k_tok
  obtain ⟨h_L, h_n, h_nF⟩ := k_tok0
  have k_I0 := k_I
  obtain ⟨h_p, h_pc, h_ip, h_iP, h_PC, h_PN⟩ := k_I0
  have k_B0 := k_B
  obtain ⟨h_B0, h_B, h_Bd0, h_B26, h_B22, h_Bs⟩ := k_B0
  have k_A0 := k_A
  obtain ⟨h_A0, h_A⟩ := k_A0
  obtain ⟨hn0, _, hNT⟩ := h_nF _ t1102
  have hXL : ((tx9 m).2 : Int) = m 110 1 := by
    show (((m 110 1).toNat : Nat) : Int) = _
    omega
  obtain ⟨⟨hi0, hi1⟩, hpi⟩ := h_ip _ _ _ t1102 t1122 t1123
  have hb0 := h_Bd0 _ t1140
  obtain ⟨x0, y0, ⟨x1, x2⟩, _, hI⟩ := RI_ex (X := tx9 m) (w := wl9 m) hNT (m := 0) (d := g 4 + 0) (i := g 2) ⟨by decide, rfl⟩ (by omega) ⟨hi0, by omega⟩
  have x2 : x0 ≤ 1200 := by omega
  exact ⟨rfl, trivial, trivial, x0, x1, x2, fun _ => ⟨h0, k_tok, k_sc1, k_sc2, k_T, k_I, k_F, k_N, k_Y, k_Z, ⟨fun nF Ad Ai Ar Am e0 e1 e2 e3 e4 => by
      have e0 : g 1 = nF := Option.some.inj (t1102.symm.trans e0)
      subst e0
      have e1 : g 4 + 0 = Ad := Option.some.inj e1
      subst e1
      have e2 : g 2 + 0 = Ai := Option.some.inj e2
      subst e2
      have e3 : x0 = Ar := Option.some.inj e3
      subst e3
      have e4 : g 5 + 0 = Am := Option.some.inj e4
      subst e4
      rw [show g 5 + 0 = 0 by omega]
      simp only [Int.add_zero] at hI ⊢
      exact ⟨by decide, _, hI⟩, fun _ _ _ _ _ _ e0 e1 e2 e3 e4 e5 => no9 n1133 e4⟩, k_B, k_C, k_X, k_R, k_f4⟩⟩
noncomputable def ru_gA0_1 : Ru := ([(0, (1199, (0, (0, 0)))), (0, (1102, (0, (0, 0)))), (0, (1122, (0, (0, 0)))), (0, (1123, (0, (0, 0)))), (0, (1140, (0, (0, 0)))), (4, (0, (0, (0, 0))))], ([1130, 1131, 1132, 1133, 1134], ([([(4, 1)], 19)], (false, ([], ([], ([(1130, some (4, 1)), (1131, some (2, 0)), (1134, some (5, 0))], some (1132, ((-1), 1200)))))))))
theorem rk_gA0_1 : RuOk SR ru_gA0_1 := by
  intro τ m g hi hc ha hS
  obtain ⟨i0, i1, i2, i3, i4, i5, _⟩ := hi
  have t1199 : τ 1199 = some (g 0) := i0
  have t1102 : τ 1102 = some (g 1) := i1
  have t1122 : τ 1122 = some (g 2) := i2
  have t1123 : τ 1123 = some (g 3) := i3
  have t1140 : τ 1140 = some (g 4) := i4
  have xm : g 5 = 0 := i5
  obtain ⟨c0, _⟩ := hc
  have c0 : 1 * g 4 ≤ 19 := d1 c0
  obtain ⟨a0, a1, a2, a3, a4, _⟩ := ha
  have n1130 : τ 1130 = none := a0
  have n1131 : τ 1131 = none := a1
  have n1132 : τ 1132 = none := a2
  have n1133 : τ 1133 = none := a3
  have n1134 : τ 1134 = none := a4
  obtain ⟨h0, k_tok, k_sc1, k_sc2, k_T, k_I, k_F, k_N, k_Y, k_Z, k_A, k_B, k_C, k_X, k_R, k_f4⟩ := hS (by rw [t1199]; exact fun e => by cases e)
  have k_tok0 := k_tok
  obtain ⟨h_L, h_n, h_nF⟩ := k_tok0
  have k_I0 := k_I
  obtain ⟨h_p, h_pc, h_ip, h_iP, h_PC, h_PN⟩ := k_I0
  have k_B0 := k_B
  obtain ⟨h_B0, h_B, h_Bd0, h_B26, h_B22, h_Bs⟩ := k_B0
  have k_A0 := k_A
  obtain ⟨h_A0, h_A⟩ := k_A0
  obtain ⟨hn0, _, hNT⟩ := h_nF _ t1102
  have hXL : ((tx9 m).2 : Int) = m 110 1 := by
    show (((m 110 1).toNat : Nat) : Int) = _
    omega
  obtain ⟨⟨hi0, hi1⟩, hpi⟩ := h_ip _ _ _ t1102 t1122 t1123
  have hb0 := h_Bd0 _ t1140
  obtain ⟨x0, y0, ⟨x1, x2⟩, _, hI⟩ := RI_ex (X := tx9 m) (w := wl9 m) hNT (m := 0) (d := g 4 + 1) (i := g 2) ⟨by decide, rfl⟩ (by omega) ⟨hi0, by omega⟩
  have x2 : x0 ≤ 1200 := by omega
  exact ⟨rfl, trivial, trivial, x0, x1, x2, fun _ => ⟨h0, k_tok, k_sc1, k_sc2, k_T, k_I, k_F, k_N, k_Y, k_Z, ⟨fun nF Ad Ai Ar Am e0 e1 e2 e3 e4 => by
      have e0 : g 1 = nF := Option.some.inj (t1102.symm.trans e0)
      subst e0
      have e1 : g 4 + 1 = Ad := Option.some.inj e1
      subst e1
      have e2 : g 2 + 0 = Ai := Option.some.inj e2
      subst e2
      have e3 : x0 = Ar := Option.some.inj e3
      subst e3
      have e4 : g 5 + 0 = Am := Option.some.inj e4
      subst e4
      rw [show g 5 + 0 = 0 by omega]
      simp only [Int.add_zero] at hI ⊢
      exact ⟨by decide, _, hI⟩, fun _ _ _ _ _ _ e0 e1 e2 e3 e4 e5 => no9 n1133 e4⟩, k_B, k_C, k_X, k_R, k_f4⟩⟩
noncomputable def ru_gA1_0 : Ru := ([(0, (1199, (0, (0, 0)))), (0, (1102, (0, (0, 0)))), (0, (1122, (0, (0, 0)))), (0, (1123, (0, (0, 0)))), (0, (1140, (0, (0, 0)))), (4, (0, (0, (1, 0))))], ([1130, 1131, 1132, 1133, 1134], ([([(4, 1)], 20)], (false, ([], ([], ([(1130, some (4, 0)), (1131, some (2, 0)), (1134, some (5, 0))], some (1132, ((-1), 1200)))))))))
theorem rk_gA1_0 : RuOk SR ru_gA1_0 := by
  intro τ m g hi hc ha hS
  obtain ⟨i0, i1, i2, i3, i4, i5, _⟩ := hi
  have t1199 : τ 1199 = some (g 0) := i0
  have t1102 : τ 1102 = some (g 1) := i1
  have t1122 : τ 1122 = some (g 2) := i2
  have t1123 : τ 1123 = some (g 3) := i3
  have t1140 : τ 1140 = some (g 4) := i4
  have xm : g 5 = 1 := i5
  obtain ⟨c0, _⟩ := hc
  have c0 : 1 * g 4 ≤ 20 := d1 c0
  obtain ⟨a0, a1, a2, a3, a4, _⟩ := ha
  have n1130 : τ 1130 = none := a0
  have n1131 : τ 1131 = none := a1
  have n1132 : τ 1132 = none := a2
  have n1133 : τ 1133 = none := a3
  have n1134 : τ 1134 = none := a4
  obtain ⟨h0, k_tok, k_sc1, k_sc2, k_T, k_I, k_F, k_N, k_Y, k_Z, k_A, k_B, k_C, k_X, k_R, k_f4⟩ := hS (by rw [t1199]; exact fun e => by cases e)
  have k_tok0 := k_tok
  obtain ⟨h_L, h_n, h_nF⟩ := k_tok0
  have k_I0 := k_I
  obtain ⟨h_p, h_pc, h_ip, h_iP, h_PC, h_PN⟩ := k_I0
  have k_B0 := k_B
  obtain ⟨h_B0, h_B, h_Bd0, h_B26, h_B22, h_Bs⟩ := k_B0
  have k_A0 := k_A
  obtain ⟨h_A0, h_A⟩ := k_A0
  obtain ⟨hn0, _, hNT⟩ := h_nF _ t1102
  have hXL : ((tx9 m).2 : Int) = m 110 1 := by
    show (((m 110 1).toNat : Nat) : Int) = _
    omega
  obtain ⟨⟨hi0, hi1⟩, hpi⟩ := h_ip _ _ _ t1102 t1122 t1123
  have hb0 := h_Bd0 _ t1140
  obtain ⟨x0, y0, ⟨x1, x2⟩, _, hI⟩ := RI_ex (X := tx9 m) (w := wl9 m) hNT (m := 1) (d := g 4 + 0) (i := g 2) ⟨by decide, rfl⟩ (by omega) ⟨hi0, by omega⟩
  have x2 : x0 ≤ 1200 := by omega
  exact ⟨rfl, trivial, trivial, x0, x1, x2, fun _ => ⟨h0, k_tok, k_sc1, k_sc2, k_T, k_I, k_F, k_N, k_Y, k_Z, ⟨fun nF Ad Ai Ar Am e0 e1 e2 e3 e4 => by
      have e0 : g 1 = nF := Option.some.inj (t1102.symm.trans e0)
      subst e0
      have e1 : g 4 + 0 = Ad := Option.some.inj e1
      subst e1
      have e2 : g 2 + 0 = Ai := Option.some.inj e2
      subst e2
      have e3 : x0 = Ar := Option.some.inj e3
      subst e3
      have e4 : g 5 + 0 = Am := Option.some.inj e4
      subst e4
      rw [show g 5 + 0 = 1 by omega]
      simp only [Int.add_zero] at hI ⊢
      exact ⟨by decide, _, hI⟩, fun _ _ _ _ _ _ e0 e1 e2 e3 e4 e5 => no9 n1133 e4⟩, k_B, k_C, k_X, k_R, k_f4⟩⟩
noncomputable def ru_gA1_1 : Ru := ([(0, (1199, (0, (0, 0)))), (0, (1102, (0, (0, 0)))), (0, (1122, (0, (0, 0)))), (0, (1123, (0, (0, 0)))), (0, (1140, (0, (0, 0)))), (4, (0, (0, (1, 0))))], ([1130, 1131, 1132, 1133, 1134], ([([(4, 1)], 19)], (false, ([], ([], ([(1130, some (4, 1)), (1131, some (2, 0)), (1134, some (5, 0))], some (1132, ((-1), 1200)))))))))
theorem rk_gA1_1 : RuOk SR ru_gA1_1 := by
  intro τ m g hi hc ha hS
  obtain ⟨i0, i1, i2, i3, i4, i5, _⟩ := hi
  have t1199 : τ 1199 = some (g 0) := i0
  have t1102 : τ 1102 = some (g 1) := i1
  have t1122 : τ 1122 = some (g 2) := i2
  have t1123 : τ 1123 = some (g 3) := i3
  have t1140 : τ 1140 = some (g 4) := i4
  have xm : g 5 = 1 := i5
  obtain ⟨c0, _⟩ := hc
  have c0 : 1 * g 4 ≤ 19 := d1 c0
  obtain ⟨a0, a1, a2, a3, a4, _⟩ := ha
  have n1130 : τ 1130 = none := a0
  have n1131 : τ 1131 = none := a1
  have n1132 : τ 1132 = none := a2
  have n1133 : τ 1133 = none := a3
  have n1134 : τ 1134 = none := a4
  obtain ⟨h0, k_tok, k_sc1, k_sc2, k_T, k_I, k_F, k_N, k_Y, k_Z, k_A, k_B, k_C, k_X, k_R, k_f4⟩ := hS (by rw [t1199]; exact fun e => by cases e)
  have k_tok0 := k_tok
  obtain ⟨h_L, h_n, h_nF⟩ := k_tok0
  have k_I0 := k_I
  obtain ⟨h_p, h_pc, h_ip, h_iP, h_PC, h_PN⟩ := k_I0
  have k_B0 := k_B
  obtain ⟨h_B0, h_B, h_Bd0, h_B26, h_B22, h_Bs⟩ := k_B0
  have k_A0 := k_A
  obtain ⟨h_A0, h_A⟩ := k_A0
  obtain ⟨hn0, _, hNT⟩ := h_nF _ t1102
  have hXL : ((tx9 m).2 : Int) = m 110 1 := by
    show (((m 110 1).toNat : Nat) : Int) = _
    omega
  obtain ⟨⟨hi0, hi1⟩, hpi⟩ := h_ip _ _ _ t1102 t1122 t1123
  have hb0 := h_Bd0 _ t1140
  obtain ⟨x0, y0, ⟨x1, x2⟩, _, hI⟩ := RI_ex (X := tx9 m) (w := wl9 m) hNT (m := 1) (d := g 4 + 1) (i := g 2) ⟨by decide, rfl⟩ (by omega) ⟨hi0, by omega⟩
  have x2 : x0 ≤ 1200 := by omega
  exact ⟨rfl, trivial, trivial, x0, x1, x2, fun _ => ⟨h0, k_tok, k_sc1, k_sc2, k_T, k_I, k_F, k_N, k_Y, k_Z, ⟨fun nF Ad Ai Ar Am e0 e1 e2 e3 e4 => by
      have e0 : g 1 = nF := Option.some.inj (t1102.symm.trans e0)
      subst e0
      have e1 : g 4 + 1 = Ad := Option.some.inj e1
      subst e1
      have e2 : g 2 + 0 = Ai := Option.some.inj e2
      subst e2
      have e3 : x0 = Ar := Option.some.inj e3
      subst e3
      have e4 : g 5 + 0 = Am := Option.some.inj e4
      subst e4
      rw [show g 5 + 0 = 1 by omega]
      simp only [Int.add_zero] at hI ⊢
      exact ⟨by decide, _, hI⟩, fun _ _ _ _ _ _ e0 e1 e2 e3 e4 e5 => no9 n1133 e4⟩, k_B, k_C, k_X, k_R, k_f4⟩⟩
noncomputable def ru_gA3_0 : Ru := ([(0, (1199, (0, (0, 0)))), (0, (1102, (0, (0, 0)))), (0, (1122, (0, (0, 0)))), (0, (1123, (0, (0, 0)))), (0, (1140, (0, (0, 0)))), (4, (0, (0, (3, 0))))], ([1130, 1131, 1132, 1133, 1134], ([([(4, 1)], 20)], (false, ([], ([], ([(1130, some (4, 0)), (1131, some (2, 0)), (1134, some (5, 0))], some (1132, ((-1), 1200)))))))))
theorem rk_gA3_0 : RuOk SR ru_gA3_0 := by
  intro τ m g hi hc ha hS
  obtain ⟨i0, i1, i2, i3, i4, i5, _⟩ := hi
  have t1199 : τ 1199 = some (g 0) := i0
  have t1102 : τ 1102 = some (g 1) := i1
  have t1122 : τ 1122 = some (g 2) := i2
  have t1123 : τ 1123 = some (g 3) := i3
  have t1140 : τ 1140 = some (g 4) := i4
  have xm : g 5 = 3 := i5
  obtain ⟨c0, _⟩ := hc
  have c0 : 1 * g 4 ≤ 20 := d1 c0
  obtain ⟨a0, a1, a2, a3, a4, _⟩ := ha
  have n1130 : τ 1130 = none := a0
  have n1131 : τ 1131 = none := a1
  have n1132 : τ 1132 = none := a2
  have n1133 : τ 1133 = none := a3
  have n1134 : τ 1134 = none := a4
  obtain ⟨h0, k_tok, k_sc1, k_sc2, k_T, k_I, k_F, k_N, k_Y, k_Z, k_A, k_B, k_C, k_X, k_R, k_f4⟩ := hS (by rw [t1199]; exact fun e => by cases e)
  have k_tok0 := k_tok
  obtain ⟨h_L, h_n, h_nF⟩ := k_tok0
  have k_I0 := k_I
  obtain ⟨h_p, h_pc, h_ip, h_iP, h_PC, h_PN⟩ := k_I0
  have k_B0 := k_B
  obtain ⟨h_B0, h_B, h_Bd0, h_B26, h_B22, h_Bs⟩ := k_B0
  have k_A0 := k_A
  obtain ⟨h_A0, h_A⟩ := k_A0
  obtain ⟨hn0, _, hNT⟩ := h_nF _ t1102
  have hXL : ((tx9 m).2 : Int) = m 110 1 := by
    show (((m 110 1).toNat : Nat) : Int) = _
    omega
  obtain ⟨⟨hi0, hi1⟩, hpi⟩ := h_ip _ _ _ t1102 t1122 t1123
  have hb0 := h_Bd0 _ t1140
  obtain ⟨x0, y0, ⟨x1, x2⟩, _, hI⟩ := RI_ex (X := tx9 m) (w := wl9 m) hNT (m := 3) (d := g 4 + 0) (i := g 2) ⟨by decide, rfl⟩ (by omega) ⟨hi0, by omega⟩
  have x2 : x0 ≤ 1200 := by omega
  exact ⟨rfl, trivial, trivial, x0, x1, x2, fun _ => ⟨h0, k_tok, k_sc1, k_sc2, k_T, k_I, k_F, k_N, k_Y, k_Z, ⟨fun nF Ad Ai Ar Am e0 e1 e2 e3 e4 => by
      have e0 : g 1 = nF := Option.some.inj (t1102.symm.trans e0)
      subst e0
      have e1 : g 4 + 0 = Ad := Option.some.inj e1
      subst e1
      have e2 : g 2 + 0 = Ai := Option.some.inj e2
      subst e2
      have e3 : x0 = Ar := Option.some.inj e3
      subst e3
      have e4 : g 5 + 0 = Am := Option.some.inj e4
      subst e4
      rw [show g 5 + 0 = 3 by omega]
      simp only [Int.add_zero] at hI ⊢
      exact ⟨by decide, _, hI⟩, fun _ _ _ _ _ _ e0 e1 e2 e3 e4 e5 => no9 n1133 e4⟩, k_B, k_C, k_X, k_R, k_f4⟩⟩
noncomputable def ru_gA3_1 : Ru := ([(0, (1199, (0, (0, 0)))), (0, (1102, (0, (0, 0)))), (0, (1122, (0, (0, 0)))), (0, (1123, (0, (0, 0)))), (0, (1140, (0, (0, 0)))), (4, (0, (0, (3, 0))))], ([1130, 1131, 1132, 1133, 1134], ([([(4, 1)], 19)], (false, ([], ([], ([(1130, some (4, 1)), (1131, some (2, 0)), (1134, some (5, 0))], some (1132, ((-1), 1200)))))))))
theorem rk_gA3_1 : RuOk SR ru_gA3_1 := by
  intro τ m g hi hc ha hS
  obtain ⟨i0, i1, i2, i3, i4, i5, _⟩ := hi
  have t1199 : τ 1199 = some (g 0) := i0
  have t1102 : τ 1102 = some (g 1) := i1
  have t1122 : τ 1122 = some (g 2) := i2
  have t1123 : τ 1123 = some (g 3) := i3
  have t1140 : τ 1140 = some (g 4) := i4
  have xm : g 5 = 3 := i5
  obtain ⟨c0, _⟩ := hc
  have c0 : 1 * g 4 ≤ 19 := d1 c0
  obtain ⟨a0, a1, a2, a3, a4, _⟩ := ha
  have n1130 : τ 1130 = none := a0
  have n1131 : τ 1131 = none := a1
  have n1132 : τ 1132 = none := a2
  have n1133 : τ 1133 = none := a3
  have n1134 : τ 1134 = none := a4
  obtain ⟨h0, k_tok, k_sc1, k_sc2, k_T, k_I, k_F, k_N, k_Y, k_Z, k_A, k_B, k_C, k_X, k_R, k_f4⟩ := hS (by rw [t1199]; exact fun e => by cases e)
  have k_tok0 := k_tok
  obtain ⟨h_L, h_n, h_nF⟩ := k_tok0
  have k_I0 := k_I
  obtain ⟨h_p, h_pc, h_ip, h_iP, h_PC, h_PN⟩ := k_I0
  have k_B0 := k_B
  obtain ⟨h_B0, h_B, h_Bd0, h_B26, h_B22, h_Bs⟩ := k_B0
  have k_A0 := k_A
  obtain ⟨h_A0, h_A⟩ := k_A0
  obtain ⟨hn0, _, hNT⟩ := h_nF _ t1102
  have hXL : ((tx9 m).2 : Int) = m 110 1 := by
    show (((m 110 1).toNat : Nat) : Int) = _
    omega
  obtain ⟨⟨hi0, hi1⟩, hpi⟩ := h_ip _ _ _ t1102 t1122 t1123
  have hb0 := h_Bd0 _ t1140
  obtain ⟨x0, y0, ⟨x1, x2⟩, _, hI⟩ := RI_ex (X := tx9 m) (w := wl9 m) hNT (m := 3) (d := g 4 + 1) (i := g 2) ⟨by decide, rfl⟩ (by omega) ⟨hi0, by omega⟩
  have x2 : x0 ≤ 1200 := by omega
  exact ⟨rfl, trivial, trivial, x0, x1, x2, fun _ => ⟨h0, k_tok, k_sc1, k_sc2, k_T, k_I, k_F, k_N, k_Y, k_Z, ⟨fun nF Ad Ai Ar Am e0 e1 e2 e3 e4 => by
      have e0 : g 1 = nF := Option.some.inj (t1102.symm.trans e0)
      subst e0
      have e1 : g 4 + 1 = Ad := Option.some.inj e1
      subst e1
      have e2 : g 2 + 0 = Ai := Option.some.inj e2
      subst e2
      have e3 : x0 = Ar := Option.some.inj e3
      subst e3
      have e4 : g 5 + 0 = Am := Option.some.inj e4
      subst e4
      rw [show g 5 + 0 = 3 by omega]
      simp only [Int.add_zero] at hI ⊢
      exact ⟨by decide, _, hI⟩, fun _ _ _ _ _ _ e0 e1 e2 e3 e4 e5 => no9 n1133 e4⟩, k_B, k_C, k_X, k_R, k_f4⟩⟩
noncomputable def ru_gA5_0 : Ru := ([(0, (1199, (0, (0, 0)))), (0, (1102, (0, (0, 0)))), (0, (1122, (0, (0, 0)))), (0, (1123, (0, (0, 0)))), (0, (1140, (0, (0, 0)))), (4, (0, (0, (5, 0))))], ([1130, 1131, 1132, 1133, 1134], ([([(4, 1)], 20)], (false, ([], ([], ([(1130, some (4, 0)), (1131, some (2, 0)), (1134, some (5, 0))], some (1132, ((-1), 1200)))))))))
theorem rk_gA5_0 : RuOk SR ru_gA5_0 := by
  intro τ m g hi hc ha hS
  obtain ⟨i0, i1, i2, i3, i4, i5, _⟩ := hi
  have t1199 : τ 1199 = some (g 0) := i0
  have t1102 : τ 1102 = some (g 1) := i1
  have t1122 : τ 1122 = some (g 2) := i2
  have t1123 : τ 1123 = some (g 3) := i3
  have t1140 : τ 1140 = some (g 4) := i4
  have xm : g 5 = 5 := i5
  obtain ⟨c0, _⟩ := hc
  have c0 : 1 * g 4 ≤ 20 := d1 c0
  obtain ⟨a0, a1, a2, a3, a4, _⟩ := ha
  have n1130 : τ 1130 = none := a0
  have n1131 : τ 1131 = none := a1
  have n1132 : τ 1132 = none := a2
  have n1133 : τ 1133 = none := a3
  have n1134 : τ 1134 = none := a4
  obtain ⟨h0, k_tok, k_sc1, k_sc2, k_T, k_I, k_F, k_N, k_Y, k_Z, k_A, k_B, k_C, k_X, k_R, k_f4⟩ := hS (by rw [t1199]; exact fun e => by cases e)
  have k_tok0 := k_tok
  obtain ⟨h_L, h_n, h_nF⟩ := k_tok0
  have k_I0 := k_I
  obtain ⟨h_p, h_pc, h_ip, h_iP, h_PC, h_PN⟩ := k_I0
  have k_B0 := k_B
  obtain ⟨h_B0, h_B, h_Bd0, h_B26, h_B22, h_Bs⟩ := k_B0
  have k_A0 := k_A
  obtain ⟨h_A0, h_A⟩ := k_A0
  obtain ⟨hn0, _, hNT⟩ := h_nF _ t1102
  have hXL : ((tx9 m).2 : Int) = m 110 1 := by
    show (((m 110 1).toNat : Nat) : Int) = _
    omega
  obtain ⟨⟨hi0, hi1⟩, hpi⟩ := h_ip _ _ _ t1102 t1122 t1123
  have hb0 := h_Bd0 _ t1140
  obtain ⟨x0, y0, ⟨x1, x2⟩, _, hI⟩ := RI_ex (X := tx9 m) (w := wl9 m) hNT (m := 5) (d := g 4 + 0) (i := g 2) ⟨by decide, rfl⟩ (by omega) ⟨hi0, by omega⟩
  have x2 : x0 ≤ 1200 := by omega
  exact ⟨rfl, trivial, trivial, x0, x1, x2, fun _ => ⟨h0, k_tok, k_sc1, k_sc2, k_T, k_I, k_F, k_N, k_Y, k_Z, ⟨fun nF Ad Ai Ar Am e0 e1 e2 e3 e4 => by
      have e0 : g 1 = nF := Option.some.inj (t1102.symm.trans e0)
      subst e0
      have e1 : g 4 + 0 = Ad := Option.some.inj e1
      subst e1
      have e2 : g 2 + 0 = Ai := Option.some.inj e2
      subst e2
      have e3 : x0 = Ar := Option.some.inj e3
      subst e3
      have e4 : g 5 + 0 = Am := Option.some.inj e4
      subst e4
      rw [show g 5 + 0 = 5 by omega]
      simp only [Int.add_zero] at hI ⊢
      exact ⟨by decide, _, hI⟩, fun _ _ _ _ _ _ e0 e1 e2 e3 e4 e5 => no9 n1133 e4⟩, k_B, k_C, k_X, k_R, k_f4⟩⟩
noncomputable def ru_gA5_1 : Ru := ([(0, (1199, (0, (0, 0)))), (0, (1102, (0, (0, 0)))), (0, (1122, (0, (0, 0)))), (0, (1123, (0, (0, 0)))), (0, (1140, (0, (0, 0)))), (4, (0, (0, (5, 0))))], ([1130, 1131, 1132, 1133, 1134], ([([(4, 1)], 19)], (false, ([], ([], ([(1130, some (4, 1)), (1131, some (2, 0)), (1134, some (5, 0))], some (1132, ((-1), 1200)))))))))
theorem rk_gA5_1 : RuOk SR ru_gA5_1 := by
  intro τ m g hi hc ha hS
  obtain ⟨i0, i1, i2, i3, i4, i5, _⟩ := hi
  have t1199 : τ 1199 = some (g 0) := i0
  have t1102 : τ 1102 = some (g 1) := i1
  have t1122 : τ 1122 = some (g 2) := i2
  have t1123 : τ 1123 = some (g 3) := i3
  have t1140 : τ 1140 = some (g 4) := i4
  have xm : g 5 = 5 := i5
  obtain ⟨c0, _⟩ := hc
  have c0 : 1 * g 4 ≤ 19 := d1 c0
  obtain ⟨a0, a1, a2, a3, a4, _⟩ := ha
  have n1130 : τ 1130 = none := a0
  have n1131 : τ 1131 = none := a1
  have n1132 : τ 1132 = none := a2
  have n1133 : τ 1133 = none := a3
  have n1134 : τ 1134 = none := a4
  obtain ⟨h0, k_tok, k_sc1, k_sc2, k_T, k_I, k_F, k_N, k_Y, k_Z, k_A, k_B, k_C, k_X, k_R, k_f4⟩ := hS (by rw [t1199]; exact fun e => by cases e)
  have k_tok0 := k_tok
  obtain ⟨h_L, h_n, h_nF⟩ := k_tok0
  have k_I0 := k_I
  obtain ⟨h_p, h_pc, h_ip, h_iP, h_PC, h_PN⟩ := k_I0
  have k_B0 := k_B
  obtain ⟨h_B0, h_B, h_Bd0, h_B26, h_B22, h_Bs⟩ := k_B0
  have k_A0 := k_A
  obtain ⟨h_A0, h_A⟩ := k_A0
  obtain ⟨hn0, _, hNT⟩ := h_nF _ t1102
  have hXL : ((tx9 m).2 : Int) = m 110 1 := by
    show (((m 110 1).toNat : Nat) : Int) = _
    omega
  obtain ⟨⟨hi0, hi1⟩, hpi⟩ := h_ip _ _ _ t1102 t1122 t1123
  have hb0 := h_Bd0 _ t1140
  obtain ⟨x0, y0, ⟨x1, x2⟩, _, hI⟩ := RI_ex (X := tx9 m) (w := wl9 m) hNT (m := 5) (d := g 4 + 1) (i := g 2) ⟨by decide, rfl⟩ (by omega) ⟨hi0, by omega⟩
  have x2 : x0 ≤ 1200 := by omega
  exact ⟨rfl, trivial, trivial, x0, x1, x2, fun _ => ⟨h0, k_tok, k_sc1, k_sc2, k_T, k_I, k_F, k_N, k_Y, k_Z, ⟨fun nF Ad Ai Ar Am e0 e1 e2 e3 e4 => by
      have e0 : g 1 = nF := Option.some.inj (t1102.symm.trans e0)
      subst e0
      have e1 : g 4 + 1 = Ad := Option.some.inj e1
      subst e1
      have e2 : g 2 + 0 = Ai := Option.some.inj e2
      subst e2
      have e3 : x0 = Ar := Option.some.inj e3
      subst e3
      have e4 : g 5 + 0 = Am := Option.some.inj e4
      subst e4
      rw [show g 5 + 0 = 5 by omega]
      simp only [Int.add_zero] at hI ⊢
      exact ⟨by decide, _, hI⟩, fun _ _ _ _ _ _ e0 e1 e2 e3 e4 e5 => no9 n1133 e4⟩, k_B, k_C, k_X, k_R, k_f4⟩⟩
noncomputable def ru_gA6_0 : Ru := ([(0, (1199, (0, (0, 0)))), (0, (1102, (0, (0, 0)))), (0, (1122, (0, (0, 0)))), (0, (1123, (0, (0, 0)))), (0, (1140, (0, (0, 0)))), (4, (0, (0, (6, 0))))], ([1130, 1131, 1132, 1133, 1134], ([([(4, 1)], 20)], (false, ([], ([], ([(1130, some (4, 0)), (1131, some (2, 0)), (1134, some (5, 0))], some (1132, ((-1), 1200)))))))))
theorem rk_gA6_0 : RuOk SR ru_gA6_0 := by
  intro τ m g hi hc ha hS
  obtain ⟨i0, i1, i2, i3, i4, i5, _⟩ := hi
  have t1199 : τ 1199 = some (g 0) := i0
  have t1102 : τ 1102 = some (g 1) := i1
  have t1122 : τ 1122 = some (g 2) := i2
  have t1123 : τ 1123 = some (g 3) := i3
  have t1140 : τ 1140 = some (g 4) := i4
  have xm : g 5 = 6 := i5
  obtain ⟨c0, _⟩ := hc
  have c0 : 1 * g 4 ≤ 20 := d1 c0
  obtain ⟨a0, a1, a2, a3, a4, _⟩ := ha
  have n1130 : τ 1130 = none := a0
  have n1131 : τ 1131 = none := a1
  have n1132 : τ 1132 = none := a2
  have n1133 : τ 1133 = none := a3
  have n1134 : τ 1134 = none := a4
  obtain ⟨h0, k_tok, k_sc1, k_sc2, k_T, k_I, k_F, k_N, k_Y, k_Z, k_A, k_B, k_C, k_X, k_R, k_f4⟩ := hS (by rw [t1199]; exact fun e => by cases e)
  have k_tok0 := k_tok
  obtain ⟨h_L, h_n, h_nF⟩ := k_tok0
  have k_I0 := k_I
  obtain ⟨h_p, h_pc, h_ip, h_iP, h_PC, h_PN⟩ := k_I0
  have k_B0 := k_B
  obtain ⟨h_B0, h_B, h_Bd0, h_B26, h_B22, h_Bs⟩ := k_B0
  have k_A0 := k_A
  obtain ⟨h_A0, h_A⟩ := k_A0
  obtain ⟨hn0, _, hNT⟩ := h_nF _ t1102
  have hXL : ((tx9 m).2 : Int) = m 110 1 := by
    show (((m 110 1).toNat : Nat) : Int) = _
    omega
  obtain ⟨⟨hi0, hi1⟩, hpi⟩ := h_ip _ _ _ t1102 t1122 t1123
  have hb0 := h_Bd0 _ t1140
  obtain ⟨x0, y0, ⟨x1, x2⟩, _, hI⟩ := RI_ex (X := tx9 m) (w := wl9 m) hNT (m := 6) (d := g 4 + 0) (i := g 2) ⟨by decide, rfl⟩ (by omega) ⟨hi0, by omega⟩
  have x2 : x0 ≤ 1200 := by omega
  exact ⟨rfl, trivial, trivial, x0, x1, x2, fun _ => ⟨h0, k_tok, k_sc1, k_sc2, k_T, k_I, k_F, k_N, k_Y, k_Z, ⟨fun nF Ad Ai Ar Am e0 e1 e2 e3 e4 => by
      have e0 : g 1 = nF := Option.some.inj (t1102.symm.trans e0)
      subst e0
      have e1 : g 4 + 0 = Ad := Option.some.inj e1
      subst e1
      have e2 : g 2 + 0 = Ai := Option.some.inj e2
      subst e2
      have e3 : x0 = Ar := Option.some.inj e3
      subst e3
      have e4 : g 5 + 0 = Am := Option.some.inj e4
      subst e4
      rw [show g 5 + 0 = 6 by omega]
      simp only [Int.add_zero] at hI ⊢
      exact ⟨by decide, _, hI⟩, fun _ _ _ _ _ _ e0 e1 e2 e3 e4 e5 => no9 n1133 e4⟩, k_B, k_C, k_X, k_R, k_f4⟩⟩
noncomputable def ru_gA6_1 : Ru := ([(0, (1199, (0, (0, 0)))), (0, (1102, (0, (0, 0)))), (0, (1122, (0, (0, 0)))), (0, (1123, (0, (0, 0)))), (0, (1140, (0, (0, 0)))), (4, (0, (0, (6, 0))))], ([1130, 1131, 1132, 1133, 1134], ([([(4, 1)], 19)], (false, ([], ([], ([(1130, some (4, 1)), (1131, some (2, 0)), (1134, some (5, 0))], some (1132, ((-1), 1200)))))))))
theorem rk_gA6_1 : RuOk SR ru_gA6_1 := by
  intro τ m g hi hc ha hS
  obtain ⟨i0, i1, i2, i3, i4, i5, _⟩ := hi
  have t1199 : τ 1199 = some (g 0) := i0
  have t1102 : τ 1102 = some (g 1) := i1
  have t1122 : τ 1122 = some (g 2) := i2
  have t1123 : τ 1123 = some (g 3) := i3
  have t1140 : τ 1140 = some (g 4) := i4
  have xm : g 5 = 6 := i5
  obtain ⟨c0, _⟩ := hc
  have c0 : 1 * g 4 ≤ 19 := d1 c0
  obtain ⟨a0, a1, a2, a3, a4, _⟩ := ha
  have n1130 : τ 1130 = none := a0
  have n1131 : τ 1131 = none := a1
  have n1132 : τ 1132 = none := a2
  have n1133 : τ 1133 = none := a3
  have n1134 : τ 1134 = none := a4
  obtain ⟨h0, k_tok, k_sc1, k_sc2, k_T, k_I, k_F, k_N, k_Y, k_Z, k_A, k_B, k_C, k_X, k_R, k_f4⟩ := hS (by rw [t1199]; exact fun e => by cases e)
  have k_tok0 := k_tok
  obtain ⟨h_L, h_n, h_nF⟩ := k_tok0
  have k_I0 := k_I
  obtain ⟨h_p, h_pc, h_ip, h_iP, h_PC, h_PN⟩ := k_I0
  have k_B0 := k_B
  obtain ⟨h_B0, h_B, h_Bd0, h_B26, h_B22, h_Bs⟩ := k_B0
  have k_A0 := k_A
  obtain ⟨h_A0, h_A⟩ := k_A0
  obtain ⟨hn0, _, hNT⟩ := h_nF _ t1102
  have hXL : ((tx9 m).2 : Int) = m 110 1 := by
    show (((m 110 1).toNat : Nat) : Int) = _
    omega
  obtain ⟨⟨hi0, hi1⟩, hpi⟩ := h_ip _ _ _ t1102 t1122 t1123
  have hb0 := h_Bd0 _ t1140
  obtain ⟨x0, y0, ⟨x1, x2⟩, _, hI⟩ := RI_ex (X := tx9 m) (w := wl9 m) hNT (m := 6) (d := g 4 + 1) (i := g 2) ⟨by decide, rfl⟩ (by omega) ⟨hi0, by omega⟩
  have x2 : x0 ≤ 1200 := by omega
  exact ⟨rfl, trivial, trivial, x0, x1, x2, fun _ => ⟨h0, k_tok, k_sc1, k_sc2, k_T, k_I, k_F, k_N, k_Y, k_Z, ⟨fun nF Ad Ai Ar Am e0 e1 e2 e3 e4 => by
      have e0 : g 1 = nF := Option.some.inj (t1102.symm.trans e0)
      subst e0
      have e1 : g 4 + 1 = Ad := Option.some.inj e1
      subst e1
      have e2 : g 2 + 0 = Ai := Option.some.inj e2
      subst e2
      have e3 : x0 = Ar := Option.some.inj e3
      subst e3
      have e4 : g 5 + 0 = Am := Option.some.inj e4
      subst e4
      rw [show g 5 + 0 = 6 by omega]
      simp only [Int.add_zero] at hI ⊢
      exact ⟨by decide, _, hI⟩, fun _ _ _ _ _ _ e0 e1 e2 e3 e4 e5 => no9 n1133 e4⟩, k_B, k_C, k_X, k_R, k_f4⟩⟩
noncomputable def ru_gA9_0 : Ru := ([(0, (1199, (0, (0, 0)))), (0, (1102, (0, (0, 0)))), (0, (1122, (0, (0, 0)))), (0, (1123, (0, (0, 0)))), (0, (1140, (0, (0, 0)))), (4, (0, (0, (9, 0))))], ([1130, 1131, 1132, 1133, 1134], ([([(4, 1)], 20)], (false, ([], ([], ([(1130, some (4, 0)), (1131, some (2, 0)), (1134, some (5, 0))], some (1132, ((-1), 1200)))))))))
theorem rk_gA9_0 : RuOk SR ru_gA9_0 := by
  intro τ m g hi hc ha hS
  obtain ⟨i0, i1, i2, i3, i4, i5, _⟩ := hi
  have t1199 : τ 1199 = some (g 0) := i0
  have t1102 : τ 1102 = some (g 1) := i1
  have t1122 : τ 1122 = some (g 2) := i2
  have t1123 : τ 1123 = some (g 3) := i3
  have t1140 : τ 1140 = some (g 4) := i4
  have xm : g 5 = 9 := i5
  obtain ⟨c0, _⟩ := hc
  have c0 : 1 * g 4 ≤ 20 := d1 c0
  obtain ⟨a0, a1, a2, a3, a4, _⟩ := ha
  have n1130 : τ 1130 = none := a0
  have n1131 : τ 1131 = none := a1
  have n1132 : τ 1132 = none := a2
  have n1133 : τ 1133 = none := a3
  have n1134 : τ 1134 = none := a4
  obtain ⟨h0, k_tok, k_sc1, k_sc2, k_T, k_I, k_F, k_N, k_Y, k_Z, k_A, k_B, k_C, k_X, k_R, k_f4⟩ := hS (by rw [t1199]; exact fun e => by cases e)
  have k_tok0 := k_tok
  obtain ⟨h_L, h_n, h_nF⟩ := k_tok0
  have k_I0 := k_I
  obtain ⟨h_p, h_pc, h_ip, h_iP, h_PC, h_PN⟩ := k_I0
  have k_B0 := k_B
  obtain ⟨h_B0, h_B, h_Bd0, h_B26, h_B22, h_Bs⟩ := k_B0
  have k_A0 := k_A
  obtain ⟨h_A0, h_A⟩ := k_A0
  obtain ⟨hn0, _, hNT⟩ := h_nF _ t1102
  have hXL : ((tx9 m).2 : Int) = m 110 1 := by
    show (((m 110 1).toNat : Nat) : Int) = _
    omega
  obtain ⟨⟨hi0, hi1⟩, hpi⟩ := h_ip _ _ _ t1102 t1122 t1123
  have hb0 := h_Bd0 _ t1140
  obtain ⟨x0, y0, ⟨x1, x2⟩, _, hI⟩ := RI_ex (X := tx9 m) (w := wl9 m) hNT (m := 9) (d := g 4 + 0) (i := g 2) ⟨by decide, rfl⟩ (by omega) ⟨hi0, by omega⟩
  have x2 : x0 ≤ 1200 := by omega
  exact ⟨rfl, trivial, trivial, x0, x1, x2, fun _ => ⟨h0, k_tok, k_sc1, k_sc2, k_T, k_I, k_F, k_N, k_Y, k_Z, ⟨fun nF Ad Ai Ar Am e0 e1 e2 e3 e4 => by
      have e0 : g 1 = nF := Option.some.inj (t1102.symm.trans e0)
      subst e0
      have e1 : g 4 + 0 = Ad := Option.some.inj e1
      subst e1
      have e2 : g 2 + 0 = Ai := Option.some.inj e2
      subst e2
      have e3 : x0 = Ar := Option.some.inj e3
      subst e3
      have e4 : g 5 + 0 = Am := Option.some.inj e4
      subst e4
      rw [show g 5 + 0 = 9 by omega]
      simp only [Int.add_zero] at hI ⊢
      exact ⟨by decide, _, hI⟩, fun _ _ _ _ _ _ e0 e1 e2 e3 e4 e5 => no9 n1133 e4⟩, k_B, k_C, k_X, k_R, k_f4⟩⟩
noncomputable def ru_gA9_1 : Ru := ([(0, (1199, (0, (0, 0)))), (0, (1102, (0, (0, 0)))), (0, (1122, (0, (0, 0)))), (0, (1123, (0, (0, 0)))), (0, (1140, (0, (0, 0)))), (4, (0, (0, (9, 0))))], ([1130, 1131, 1132, 1133, 1134], ([([(4, 1)], 19)], (false, ([], ([], ([(1130, some (4, 1)), (1131, some (2, 0)), (1134, some (5, 0))], some (1132, ((-1), 1200)))))))))
theorem rk_gA9_1 : RuOk SR ru_gA9_1 := by
  intro τ m g hi hc ha hS
  obtain ⟨i0, i1, i2, i3, i4, i5, _⟩ := hi
  have t1199 : τ 1199 = some (g 0) := i0
  have t1102 : τ 1102 = some (g 1) := i1
  have t1122 : τ 1122 = some (g 2) := i2
  have t1123 : τ 1123 = some (g 3) := i3
  have t1140 : τ 1140 = some (g 4) := i4
  have xm : g 5 = 9 := i5
  obtain ⟨c0, _⟩ := hc
  have c0 : 1 * g 4 ≤ 19 := d1 c0
  obtain ⟨a0, a1, a2, a3, a4, _⟩ := ha
  have n1130 : τ 1130 = none := a0
  have n1131 : τ 1131 = none := a1
  have n1132 : τ 1132 = none := a2
  have n1133 : τ 1133 = none := a3
  have n1134 : τ 1134 = none := a4
  obtain ⟨h0, k_tok, k_sc1, k_sc2, k_T, k_I, k_F, k_N, k_Y, k_Z, k_A, k_B, k_C, k_X, k_R, k_f4⟩ := hS (by rw [t1199]; exact fun e => by cases e)
  have k_tok0 := k_tok
  obtain ⟨h_L, h_n, h_nF⟩ := k_tok0
  have k_I0 := k_I
  obtain ⟨h_p, h_pc, h_ip, h_iP, h_PC, h_PN⟩ := k_I0
  have k_B0 := k_B
  obtain ⟨h_B0, h_B, h_Bd0, h_B26, h_B22, h_Bs⟩ := k_B0
  have k_A0 := k_A
  obtain ⟨h_A0, h_A⟩ := k_A0
  obtain ⟨hn0, _, hNT⟩ := h_nF _ t1102
  have hXL : ((tx9 m).2 : Int) = m 110 1 := by
    show (((m 110 1).toNat : Nat) : Int) = _
    omega
  obtain ⟨⟨hi0, hi1⟩, hpi⟩ := h_ip _ _ _ t1102 t1122 t1123
  have hb0 := h_Bd0 _ t1140
  obtain ⟨x0, y0, ⟨x1, x2⟩, _, hI⟩ := RI_ex (X := tx9 m) (w := wl9 m) hNT (m := 9) (d := g 4 + 1) (i := g 2) ⟨by decide, rfl⟩ (by omega) ⟨hi0, by omega⟩
  have x2 : x0 ≤ 1200 := by omega
  exact ⟨rfl, trivial, trivial, x0, x1, x2, fun _ => ⟨h0, k_tok, k_sc1, k_sc2, k_T, k_I, k_F, k_N, k_Y, k_Z, ⟨fun nF Ad Ai Ar Am e0 e1 e2 e3 e4 => by
      have e0 : g 1 = nF := Option.some.inj (t1102.symm.trans e0)
      subst e0
      have e1 : g 4 + 1 = Ad := Option.some.inj e1
      subst e1
      have e2 : g 2 + 0 = Ai := Option.some.inj e2
      subst e2
      have e3 : x0 = Ar := Option.some.inj e3
      subst e3
      have e4 : g 5 + 0 = Am := Option.some.inj e4
      subst e4
      rw [show g 5 + 0 = 9 by omega]
      simp only [Int.add_zero] at hI ⊢
      exact ⟨by decide, _, hI⟩, fun _ _ _ _ _ _ e0 e1 e2 e3 e4 e5 => no9 n1133 e4⟩, k_B, k_C, k_X, k_R, k_f4⟩⟩
noncomputable def ru_gA2 : Ru := ([(0, (1199, (0, (0, 0)))), (0, (1102, (0, (0, 0)))), (0, (1130, (0, (0, 0)))), (0, (1131, (0, (0, 0)))), (0, (1132, (0, (0, 0)))), (0, (1134, (0, (0, 0))))], ([1133], ([], (false, ([], ([], ([], some (1133, ((-1), 1200)))))))))
theorem rk_gA2 : RuOk SR ru_gA2 := by
  intro τ m g hi hc ha hS
  obtain ⟨i0, i1, i2, i3, i4, i5, _⟩ := hi
  have t1199 : τ 1199 = some (g 0) := i0
  have t1102 : τ 1102 = some (g 1) := i1
  have t1130 : τ 1130 = some (g 2) := i2
  have t1131 : τ 1131 = some (g 3) := i3
  have t1132 : τ 1132 = some (g 4) := i4
  have t1134 : τ 1134 = some (g 5) := i5
  obtain ⟨a0, _⟩ := ha
  have n1133 : τ 1133 = none := a0
  obtain ⟨h0, k_tok, k_sc1, k_sc2, k_T, k_I, k_F, k_N, k_Y, k_Z, k_A, k_B, k_C, k_X, k_R, k_f4⟩ := hS (by rw [t1199]; exact fun e => by cases e)
  have k_tok0 := k_tok
  obtain ⟨h_L, h_n, h_nF⟩ := k_tok0
  have k_A0 := k_A
  obtain ⟨h_A0, h_A⟩ := k_A0
  obtain ⟨hn0, _, hNT⟩ := h_nF _ t1102
  have hXL : ((tx9 m).2 : Int) = m 110 1 := by
    show (((m 110 1).toNat : Nat) : Int) = _
    omega
  obtain ⟨_, x0, hI⟩ := h_A0 _ _ _ _ _ t1102 t1130 t1131 t1132 t1134
  have x1 := (RI_b0 hI).2
  have x2 : x0 ≤ 1200 := by
    have := RI_x hNT hI
    omega
  exact ⟨rfl, trivial, trivial, x0, x1, x2, fun _ => ⟨h0, k_tok, k_sc1, k_sc2, k_T, k_I, k_F, k_N, k_Y, k_Z, ⟨h_A0, fun nF Ad Ai Ar Ax Am e0 e1 e2 e3 e4 e5 => by
      have e0 : g 1 = nF := Option.some.inj (t1102.symm.trans e0)
      subst e0
      have e1 : g 2 = Ad := Option.some.inj (t1130.symm.trans e1)
      subst e1
      have e2 : g 3 = Ai := Option.some.inj (t1131.symm.trans e2)
      subst e2
      have e3 : g 4 = Ar := Option.some.inj (t1132.symm.trans e3)
      subst e3
      have e4 : x0 = Ax := Option.some.inj e4
      subst e4
      have e5 : g 5 = Am := Option.some.inj (t1134.symm.trans e5)
      subst e5
      exact hI⟩, k_B, k_C, k_X, k_R, k_f4⟩⟩
noncomputable def ru_tN : Ru := ([(0, (1199, (0, (0, 0)))), (0, (1102, (0, (0, 0)))), (0, (1122, (0, (0, 0)))), (0, (1123, (0, (0, 0)))), (0, (1124, (0, (0, 0)))), (0, (1140, (0, (0, 0)))), (0, (1141, (0, (0, 0)))), (0, (1142, (0, (0, 0)))), (0, (1143, (0, (0, 0)))), (0, (1144, (0, (0, 0))))], ([], ([([(9, 1)], 0), ([(9, (-1))], 0), ([(2, (-1)), (6, 1)], 0), ([(2, 1), (6, (-1))], 0), ([(4, (-1))], (-2)), ([(4, 1)], 3)], (false, ([([(6, (-1)), (7, 1)], 1), ([(6, 1), (7, (-1))], (-1)), ([(8, 1)], (-1)), ([(8, (-1))], 1)], ([], ([], none)))))))
theorem rk_tN : RuOk SR ru_tN := by
  intro τ m g hi hc ha hS
  obtain ⟨i0, i1, i2, i3, i4, i5, i6, i7, i8, i9, _⟩ := hi
  have t1199 : τ 1199 = some (g 0) := i0
  have t1102 : τ 1102 = some (g 1) := i1
  have t1122 : τ 1122 = some (g 2) := i2
  have t1123 : τ 1123 = some (g 3) := i3
  have t1124 : τ 1124 = some (g 4) := i4
  have t1140 : τ 1140 = some (g 5) := i5
  have t1141 : τ 1141 = some (g 6) := i6
  have t1142 : τ 1142 = some (g 7) := i7
  have t1143 : τ 1143 = some (g 8) := i8
  have t1144 : τ 1144 = some (g 9) := i9
  obtain ⟨c0, c1, c2, c3, c4, c5, _⟩ := hc
  have c0 : 1 * g 9 ≤ 0 := d1 c0
  have c1 : (-1) * g 9 ≤ 0 := d1 c1
  have c2 : (-1) * g 2 + 1 * g 6 ≤ 0 := d2 c2
  have c3 : 1 * g 2 + (-1) * g 6 ≤ 0 := d2 c3
  have c4 : (-1) * g 4 ≤ (-2) := d1 c4
  have c5 : 1 * g 4 ≤ 3 := d1 c5
  obtain ⟨h0, k_tok, k_sc1, k_sc2, k_T, k_I, k_F, k_N, k_Y, k_Z, k_A, k_B, k_C, k_X, k_R, k_f4⟩ := hS (by rw [t1199]; exact fun e => by cases e)
  have k_tok0 := k_tok
  obtain ⟨h_L, h_n, h_nF⟩ := k_tok0
  have k_I0 := k_I
  obtain ⟨h_p, h_pc, h_ip, h_iP, h_PC, h_PN⟩ := k_I0
  have k_B0 := k_B
  obtain ⟨h_B0, h_B, h_Bd0, h_B26, h_B22, h_Bs⟩ := k_B0
  obtain ⟨hn0, _, hNT⟩ := h_nF _ t1102
  have hB := h_B _ _ _ _ _ _ t1102 t1140 t1141 t1142 t1143 t1144
  have rB := hB.1
  obtain ⟨⟨hi0, hi1⟩, hpi⟩ := h_ip _ _ _ t1102 t1122 t1123
  have eb : (g 2).toNat = (g 6).toNat := by omega
  rw [eb] at hpi
  have ep : (g 3).toNat = Tp9 (tx9 m) (g 6).toNat := by omega
  have hcc := h_pc _ _ t1123 t1124
  rw [ep] at hcc
  obtain ⟨y1, y2⟩ := RI_f hNT hB 0 (by omega) (j := (g 6).toNat + 1) (NT_next hNT (i := (g 6).toNat) (by omega) (by omega)) (m_num1 (by omega) (by omega))
  exact ⟨rfl, ⟨f2 (by omega), f2 (by omega), f1 (by omega), f1 (by omega), trivial⟩, trivial, fun _ => ⟨h0, k_tok, k_sc1, k_sc2, k_T, k_I, k_F, k_N, k_Y, k_Z, k_A, k_B, k_C, k_X, k_R, k_f4⟩⟩
noncomputable def ru_tW : Ru := ([(0, (1199, (0, (0, 0)))), (0, (1102, (0, (0, 0)))), (0, (1122, (0, (0, 0)))), (0, (1123, (0, (0, 0)))), (0, (1124, (0, (0, 0)))), (0, (1140, (0, (0, 0)))), (0, (1141, (0, (0, 0)))), (0, (1142, (0, (0, 0)))), (0, (1143, (0, (0, 0)))), (0, (1144, (0, (0, 0))))], ([], ([([(9, 1)], 0), ([(9, (-1))], 0), ([(2, (-1)), (6, 1)], 0), ([(2, 1), (6, (-1))], 0), ([(4, (-1))], (-24)), ([(4, 1)], 25)], (false, ([([(6, (-1)), (7, 1)], 1), ([(6, 1), (7, (-1))], (-1)), ([(8, 1)], (-1)), ([(8, (-1))], 1)], ([], ([], none)))))))
theorem rk_tW : RuOk SR ru_tW := by
  intro τ m g hi hc ha hS
  obtain ⟨i0, i1, i2, i3, i4, i5, i6, i7, i8, i9, _⟩ := hi
  have t1199 : τ 1199 = some (g 0) := i0
  have t1102 : τ 1102 = some (g 1) := i1
  have t1122 : τ 1122 = some (g 2) := i2
  have t1123 : τ 1123 = some (g 3) := i3
  have t1124 : τ 1124 = some (g 4) := i4
  have t1140 : τ 1140 = some (g 5) := i5
  have t1141 : τ 1141 = some (g 6) := i6
  have t1142 : τ 1142 = some (g 7) := i7
  have t1143 : τ 1143 = some (g 8) := i8
  have t1144 : τ 1144 = some (g 9) := i9
  obtain ⟨c0, c1, c2, c3, c4, c5, _⟩ := hc
  have c0 : 1 * g 9 ≤ 0 := d1 c0
  have c1 : (-1) * g 9 ≤ 0 := d1 c1
  have c2 : (-1) * g 2 + 1 * g 6 ≤ 0 := d2 c2
  have c3 : 1 * g 2 + (-1) * g 6 ≤ 0 := d2 c3
  have c4 : (-1) * g 4 ≤ (-24) := d1 c4
  have c5 : 1 * g 4 ≤ 25 := d1 c5
  obtain ⟨h0, k_tok, k_sc1, k_sc2, k_T, k_I, k_F, k_N, k_Y, k_Z, k_A, k_B, k_C, k_X, k_R, k_f4⟩ := hS (by rw [t1199]; exact fun e => by cases e)
  have k_tok0 := k_tok
  obtain ⟨h_L, h_n, h_nF⟩ := k_tok0
  have k_I0 := k_I
  obtain ⟨h_p, h_pc, h_ip, h_iP, h_PC, h_PN⟩ := k_I0
  have k_B0 := k_B
  obtain ⟨h_B0, h_B, h_Bd0, h_B26, h_B22, h_Bs⟩ := k_B0
  obtain ⟨hn0, _, hNT⟩ := h_nF _ t1102
  have hB := h_B _ _ _ _ _ _ t1102 t1140 t1141 t1142 t1143 t1144
  have rB := hB.1
  obtain ⟨⟨hi0, hi1⟩, hpi⟩ := h_ip _ _ _ t1102 t1122 t1123
  have eb : (g 2).toNat = (g 6).toNat := by omega
  rw [eb] at hpi
  have ep : (g 3).toNat = Tp9 (tx9 m) (g 6).toNat := by omega
  have hcc := h_pc _ _ t1123 t1124
  rw [ep] at hcc
  obtain ⟨y1, y2⟩ := RI_f hNT hB 0 (by omega) (j := (g 6).toNat + 1) (NT_next hNT (i := (g 6).toNat) (by omega) (by omega)) (m_num2 (by omega) (by omega))
  exact ⟨rfl, ⟨f2 (by omega), f2 (by omega), f1 (by omega), f1 (by omega), trivial⟩, trivial, fun _ => ⟨h0, k_tok, k_sc1, k_sc2, k_T, k_I, k_F, k_N, k_Y, k_Z, k_A, k_B, k_C, k_X, k_R, k_f4⟩⟩
noncomputable def ru_tS : Ru := ([(0, (1199, (0, (0, 0)))), (0, (1102, (0, (0, 0)))), (0, (1122, (0, (0, 0)))), (0, (1123, (0, (0, 0)))), (0, (1124, (0, (0, 0)))), (0, (1140, (0, (0, 0)))), (0, (1141, (0, (0, 0)))), (0, (1142, (0, (0, 0)))), (0, (1143, (0, (0, 0)))), (0, (1144, (0, (0, 0)))), (4, (0, (0, (9, 0))))], ([], ([([(9, 1)], 0), ([(9, (-1))], 0), ([(2, (-1)), (6, 1)], 0), ([(2, 1), (6, (-1))], 0), ([(4, (-1))], (-26)), ([(4, 1)], 26)], (false, ([], ([], ([(1141, some (6, 1)), (1144, some (10, 0))], none)))))))
theorem rk_tS : RuOk SR ru_tS := by
  intro τ m g hi hc ha hS
  obtain ⟨i0, i1, i2, i3, i4, i5, i6, i7, i8, i9, i10, _⟩ := hi
  have t1199 : τ 1199 = some (g 0) := i0
  have t1102 : τ 1102 = some (g 1) := i1
  have t1122 : τ 1122 = some (g 2) := i2
  have t1123 : τ 1123 = some (g 3) := i3
  have t1124 : τ 1124 = some (g 4) := i4
  have t1140 : τ 1140 = some (g 5) := i5
  have t1141 : τ 1141 = some (g 6) := i6
  have t1142 : τ 1142 = some (g 7) := i7
  have t1143 : τ 1143 = some (g 8) := i8
  have t1144 : τ 1144 = some (g 9) := i9
  have xk : g 10 = 9 := i10
  obtain ⟨c0, c1, c2, c3, c4, c5, _⟩ := hc
  have c0 : 1 * g 9 ≤ 0 := d1 c0
  have c1 : (-1) * g 9 ≤ 0 := d1 c1
  have c2 : (-1) * g 2 + 1 * g 6 ≤ 0 := d2 c2
  have c3 : 1 * g 2 + (-1) * g 6 ≤ 0 := d2 c3
  have c4 : (-1) * g 4 ≤ (-26) := d1 c4
  have c5 : 1 * g 4 ≤ 26 := d1 c5
  obtain ⟨h0, k_tok, k_sc1, k_sc2, k_T, k_I, k_F, k_N, k_Y, k_Z, k_A, k_B, k_C, k_X, k_R, k_f4⟩ := hS (by rw [t1199]; exact fun e => by cases e)
  have k_tok0 := k_tok
  obtain ⟨h_L, h_n, h_nF⟩ := k_tok0
  have k_I0 := k_I
  obtain ⟨h_p, h_pc, h_ip, h_iP, h_PC, h_PN⟩ := k_I0
  have k_B0 := k_B
  obtain ⟨h_B0, h_B, h_Bd0, h_B26, h_B22, h_Bs⟩ := k_B0
  obtain ⟨hn0, _, hNT⟩ := h_nF _ t1102
  have hB := h_B _ _ _ _ _ _ t1102 t1140 t1141 t1142 t1143 t1144
  have rB := hB.1
  obtain ⟨⟨hi0, hi1⟩, hpi⟩ := h_ip _ _ _ t1102 t1122 t1123
  have eb : (g 2).toNat = (g 6).toNat := by omega
  rw [eb] at hpi
  have ep : (g 3).toNat = Tp9 (tx9 m) (g 6).toNat := by omega
  have hcc := h_pc _ _ t1123 t1124
  rw [ep] at hcc
  have hx1 := NT_next hNT (i := (g 6).toNat) (by omega) (by omega)
  exact ⟨rfl, trivial, trivial, fun _ => ⟨h0, k_tok, k_sc1, k_sc2, k_T, k_I, k_F, k_N, k_Y, k_Z, k_A, ⟨fun nF Bd Bi Br Bm e0 e1 e2 e3 e4 => by
      have e0 : g 1 = nF := Option.some.inj (t1102.symm.trans e0)
      subst e0
      have e1 : g 5 = Bd := Option.some.inj (t1140.symm.trans e1)
      subst e1
      have e2 : g 6 + 1 = Bi := Option.some.inj e2
      subst e2
      have e3 : g 7 = Br := Option.some.inj (t1142.symm.trans e3)
      subst e3
      have e4 : g 10 + 0 = Bm := Option.some.inj e4
      subst e4
      exact ⟨_, RI_u hB 0 9 (by omega) (by omega) rfl (by omega) ⟨by omega, by omega⟩ (fun r h => by
              rw [St_n (by omega)] at h
              exact m_size (d := (g 5).toNat) (by omega) (by omega) h)⟩, fun nF Bd Bi Br Bx Bm e0 e1 e2 e3 e4 e5 => by
      have e0 : g 1 = nF := Option.some.inj (t1102.symm.trans e0)
      subst e0
      have e1 : g 5 = Bd := Option.some.inj (t1140.symm.trans e1)
      subst e1
      have e2 : g 6 + 1 = Bi := Option.some.inj e2
      subst e2
      have e3 : g 7 = Br := Option.some.inj (t1142.symm.trans e3)
      subst e3
      have e4 : g 8 = Bx := Option.some.inj (t1143.symm.trans e4)
      subst e4
      have e5 : g 10 + 0 = Bm := Option.some.inj e5
      subst e5
      exact RI_u hB 0 9 (by omega) (by omega) rfl (by omega) ⟨by omega, by omega⟩ (fun r h => by
              rw [St_n (by omega)] at h
              exact m_size (d := (g 5).toNat) (by omega) (by omega) h), h_Bd0, fun Bd Bi Bm e0 e1 e2 => by
      have e0 : g 5 = Bd := Option.some.inj (t1140.symm.trans e0)
      subst e0
      have e1 : g 6 + 1 = Bi := Option.some.inj e1
      subst e1
      have e2 : g 10 + 0 = Bm := Option.some.inj e2
      subst e2
      intro h
      omega, fun Bd Bi Bm Bf e0 e1 e2 e3 => by
      have e0 : g 5 = Bd := Option.some.inj (t1140.symm.trans e0)
      subst e0
      have e1 : g 6 + 1 = Bi := Option.some.inj e1
      subst e1
      have e2 : g 10 + 0 = Bm := Option.some.inj e2
      subst e2
      intro h
      omega, h_Bs⟩, k_C, k_X, k_R, k_f4⟩⟩
noncomputable def ru_tIa : Ru := ([(0, (1199, (0, (0, 0)))), (0, (1102, (0, (0, 0)))), (0, (1122, (0, (0, 0)))), (0, (1123, (0, (0, 0)))), (0, (1124, (0, (0, 0)))), (0, (1140, (0, (0, 0)))), (0, (1141, (0, (0, 0)))), (0, (1142, (0, (0, 0)))), (0, (1143, (0, (0, 0)))), (0, (1144, (0, (0, 0)))), (4, (0, (0, (20, 0))))], ([], ([([(9, 1)], 0), ([(9, (-1))], 0), ([(2, (-1)), (6, 1)], 0), ([(2, 1), (6, (-1))], 0), ([(4, (-1))], 0), ([(4, 1)], 1)], (false, ([], ([], ([(1144, some (10, 0))], none)))))))
theorem rk_tIa : RuOk SR ru_tIa := by
  intro τ m g hi hc ha hS
  obtain ⟨i0, i1, i2, i3, i4, i5, i6, i7, i8, i9, i10, _⟩ := hi
  have t1199 : τ 1199 = some (g 0) := i0
  have t1102 : τ 1102 = some (g 1) := i1
  have t1122 : τ 1122 = some (g 2) := i2
  have t1123 : τ 1123 = some (g 3) := i3
  have t1124 : τ 1124 = some (g 4) := i4
  have t1140 : τ 1140 = some (g 5) := i5
  have t1141 : τ 1141 = some (g 6) := i6
  have t1142 : τ 1142 = some (g 7) := i7
  have t1143 : τ 1143 = some (g 8) := i8
  have t1144 : τ 1144 = some (g 9) := i9
  have xk : g 10 = 20 := i10
  obtain ⟨c0, c1, c2, c3, c4, c5, _⟩ := hc
  have c0 : 1 * g 9 ≤ 0 := d1 c0
  have c1 : (-1) * g 9 ≤ 0 := d1 c1
  have c2 : (-1) * g 2 + 1 * g 6 ≤ 0 := d2 c2
  have c3 : 1 * g 2 + (-1) * g 6 ≤ 0 := d2 c3
  have c4 : (-1) * g 4 ≤ 0 := d1 c4
  have c5 : 1 * g 4 ≤ 1 := d1 c5
  obtain ⟨h0, k_tok, k_sc1, k_sc2, k_T, k_I, k_F, k_N, k_Y, k_Z, k_A, k_B, k_C, k_X, k_R, k_f4⟩ := hS (by rw [t1199]; exact fun e => by cases e)
  have k_tok0 := k_tok
  obtain ⟨h_L, h_n, h_nF⟩ := k_tok0
  have k_I0 := k_I
  obtain ⟨h_p, h_pc, h_ip, h_iP, h_PC, h_PN⟩ := k_I0
  have k_B0 := k_B
  obtain ⟨h_B0, h_B, h_Bd0, h_B26, h_B22, h_Bs⟩ := k_B0
  obtain ⟨hn0, _, hNT⟩ := h_nF _ t1102
  have hB := h_B _ _ _ _ _ _ t1102 t1140 t1141 t1142 t1143 t1144
  have rB := hB.1
  obtain ⟨⟨hi0, hi1⟩, hpi⟩ := h_ip _ _ _ t1102 t1122 t1123
  have eb : (g 2).toNat = (g 6).toNat := by omega
  rw [eb] at hpi
  have ep : (g 3).toNat = Tp9 (tx9 m) (g 6).toNat := by omega
  have hcc := h_pc _ _ t1123 t1124
  rw [ep] at hcc
  exact ⟨rfl, trivial, trivial, fun _ => ⟨h0, k_tok, k_sc1, k_sc2, k_T, k_I, k_F, k_N, k_Y, k_Z, k_A, ⟨fun nF Bd Bi Br Bm e0 e1 e2 e3 e4 => by
      have e0 : g 1 = nF := Option.some.inj (t1102.symm.trans e0)
      subst e0
      have e1 : g 5 = Bd := Option.some.inj (t1140.symm.trans e1)
      subst e1
      have e2 : g 6 = Bi := Option.some.inj (t1141.symm.trans e2)
      subst e2
      have e3 : g 7 = Br := Option.some.inj (t1142.symm.trans e3)
      subst e3
      have e4 : g 10 + 0 = Bm := Option.some.inj e4
      subst e4
      exact ⟨_, RI_u hB 0 20 (by omega) (by omega) rfl (by omega) ⟨by omega, by omega⟩ (fun r h => by
              exact m_itema (by omega) h)⟩, fun nF Bd Bi Br Bx Bm e0 e1 e2 e3 e4 e5 => by
      have e0 : g 1 = nF := Option.some.inj (t1102.symm.trans e0)
      subst e0
      have e1 : g 5 = Bd := Option.some.inj (t1140.symm.trans e1)
      subst e1
      have e2 : g 6 = Bi := Option.some.inj (t1141.symm.trans e2)
      subst e2
      have e3 : g 7 = Br := Option.some.inj (t1142.symm.trans e3)
      subst e3
      have e4 : g 8 = Bx := Option.some.inj (t1143.symm.trans e4)
      subst e4
      have e5 : g 10 + 0 = Bm := Option.some.inj e5
      subst e5
      exact RI_u hB 0 20 (by omega) (by omega) rfl (by omega) ⟨by omega, by omega⟩ (fun r h => by
              exact m_itema (by omega) h), h_Bd0, fun Bd Bi Bm e0 e1 e2 => by
      have e0 : g 5 = Bd := Option.some.inj (t1140.symm.trans e0)
      subst e0
      have e1 : g 6 = Bi := Option.some.inj (t1141.symm.trans e1)
      subst e1
      have e2 : g 10 + 0 = Bm := Option.some.inj e2
      subst e2
      intro h
      omega, fun Bd Bi Bm Bf e0 e1 e2 e3 => by
      have e0 : g 5 = Bd := Option.some.inj (t1140.symm.trans e0)
      subst e0
      have e1 : g 6 = Bi := Option.some.inj (t1141.symm.trans e1)
      subst e1
      have e2 : g 10 + 0 = Bm := Option.some.inj e2
      subst e2
      intro h
      omega, h_Bs⟩, k_C, k_X, k_R, k_f4⟩⟩
noncomputable def ru_tIb : Ru := ([(0, (1199, (0, (0, 0)))), (0, (1102, (0, (0, 0)))), (0, (1122, (0, (0, 0)))), (0, (1123, (0, (0, 0)))), (0, (1124, (0, (0, 0)))), (0, (1140, (0, (0, 0)))), (0, (1141, (0, (0, 0)))), (0, (1142, (0, (0, 0)))), (0, (1143, (0, (0, 0)))), (0, (1144, (0, (0, 0)))), (4, (0, (0, (20, 0))))], ([], ([([(9, 1)], 0), ([(9, (-1))], 0), ([(2, (-1)), (6, 1)], 0), ([(2, 1), (6, (-1))], 0), ([(4, (-1))], (-5)), ([(4, 1)], 8)], (false, ([], ([], ([(1144, some (10, 0))], none)))))))
theorem rk_tIb : RuOk SR ru_tIb := by
  intro τ m g hi hc ha hS
  obtain ⟨i0, i1, i2, i3, i4, i5, i6, i7, i8, i9, i10, _⟩ := hi
  have t1199 : τ 1199 = some (g 0) := i0
  have t1102 : τ 1102 = some (g 1) := i1
  have t1122 : τ 1122 = some (g 2) := i2
  have t1123 : τ 1123 = some (g 3) := i3
  have t1124 : τ 1124 = some (g 4) := i4
  have t1140 : τ 1140 = some (g 5) := i5
  have t1141 : τ 1141 = some (g 6) := i6
  have t1142 : τ 1142 = some (g 7) := i7
  have t1143 : τ 1143 = some (g 8) := i8
  have t1144 : τ 1144 = some (g 9) := i9
  have xk : g 10 = 20 := i10
  obtain ⟨c0, c1, c2, c3, c4, c5, _⟩ := hc
  have c0 : 1 * g 9 ≤ 0 := d1 c0
  have c1 : (-1) * g 9 ≤ 0 := d1 c1
  have c2 : (-1) * g 2 + 1 * g 6 ≤ 0 := d2 c2
  have c3 : 1 * g 2 + (-1) * g 6 ≤ 0 := d2 c3
  have c4 : (-1) * g 4 ≤ (-5) := d1 c4
  have c5 : 1 * g 4 ≤ 8 := d1 c5
  obtain ⟨h0, k_tok, k_sc1, k_sc2, k_T, k_I, k_F, k_N, k_Y, k_Z, k_A, k_B, k_C, k_X, k_R, k_f4⟩ := hS (by rw [t1199]; exact fun e => by cases e)
  have k_tok0 := k_tok
  obtain ⟨h_L, h_n, h_nF⟩ := k_tok0
  have k_I0 := k_I
  obtain ⟨h_p, h_pc, h_ip, h_iP, h_PC, h_PN⟩ := k_I0
  have k_B0 := k_B
  obtain ⟨h_B0, h_B, h_Bd0, h_B26, h_B22, h_Bs⟩ := k_B0
  obtain ⟨hn0, _, hNT⟩ := h_nF _ t1102
  have hB := h_B _ _ _ _ _ _ t1102 t1140 t1141 t1142 t1143 t1144
  have rB := hB.1
  obtain ⟨⟨hi0, hi1⟩, hpi⟩ := h_ip _ _ _ t1102 t1122 t1123
  have eb : (g 2).toNat = (g 6).toNat := by omega
  rw [eb] at hpi
  have ep : (g 3).toNat = Tp9 (tx9 m) (g 6).toNat := by omega
  have hcc := h_pc _ _ t1123 t1124
  rw [ep] at hcc
  exact ⟨rfl, trivial, trivial, fun _ => ⟨h0, k_tok, k_sc1, k_sc2, k_T, k_I, k_F, k_N, k_Y, k_Z, k_A, ⟨fun nF Bd Bi Br Bm e0 e1 e2 e3 e4 => by
      have e0 : g 1 = nF := Option.some.inj (t1102.symm.trans e0)
      subst e0
      have e1 : g 5 = Bd := Option.some.inj (t1140.symm.trans e1)
      subst e1
      have e2 : g 6 = Bi := Option.some.inj (t1141.symm.trans e2)
      subst e2
      have e3 : g 7 = Br := Option.some.inj (t1142.symm.trans e3)
      subst e3
      have e4 : g 10 + 0 = Bm := Option.some.inj e4
      subst e4
      exact ⟨_, RI_u hB 0 20 (by omega) (by omega) rfl (by omega) ⟨by omega, by omega⟩ (fun r h => by
              exact m_itemb (by omega) (by omega) h)⟩, fun nF Bd Bi Br Bx Bm e0 e1 e2 e3 e4 e5 => by
      have e0 : g 1 = nF := Option.some.inj (t1102.symm.trans e0)
      subst e0
      have e1 : g 5 = Bd := Option.some.inj (t1140.symm.trans e1)
      subst e1
      have e2 : g 6 = Bi := Option.some.inj (t1141.symm.trans e2)
      subst e2
      have e3 : g 7 = Br := Option.some.inj (t1142.symm.trans e3)
      subst e3
      have e4 : g 8 = Bx := Option.some.inj (t1143.symm.trans e4)
      subst e4
      have e5 : g 10 + 0 = Bm := Option.some.inj e5
      subst e5
      exact RI_u hB 0 20 (by omega) (by omega) rfl (by omega) ⟨by omega, by omega⟩ (fun r h => by
              exact m_itemb (by omega) (by omega) h), h_Bd0, fun Bd Bi Bm e0 e1 e2 => by
      have e0 : g 5 = Bd := Option.some.inj (t1140.symm.trans e0)
      subst e0
      have e1 : g 6 = Bi := Option.some.inj (t1141.symm.trans e1)
      subst e1
      have e2 : g 10 + 0 = Bm := Option.some.inj e2
      subst e2
      intro h
      omega, fun Bd Bi Bm Bf e0 e1 e2 e3 => by
      have e0 : g 5 = Bd := Option.some.inj (t1140.symm.trans e0)
      subst e0
      have e1 : g 6 = Bi := Option.some.inj (t1141.symm.trans e1)
      subst e1
      have e2 : g 10 + 0 = Bm := Option.some.inj e2
      subst e2
      intro h
      omega, h_Bs⟩, k_C, k_X, k_R, k_f4⟩⟩
noncomputable def ru_tIc : Ru := ([(0, (1199, (0, (0, 0)))), (0, (1102, (0, (0, 0)))), (0, (1122, (0, (0, 0)))), (0, (1123, (0, (0, 0)))), (0, (1124, (0, (0, 0)))), (0, (1140, (0, (0, 0)))), (0, (1141, (0, (0, 0)))), (0, (1142, (0, (0, 0)))), (0, (1143, (0, (0, 0)))), (0, (1144, (0, (0, 0)))), (4, (0, (0, (20, 0))))], ([], ([([(9, 1)], 0), ([(9, (-1))], 0), ([(2, (-1)), (6, 1)], 0), ([(2, 1), (6, (-1))], 0), ([(4, (-1))], (-10)), ([(4, 1)], 23)], (false, ([], ([], ([(1144, some (10, 0))], none)))))))
theorem rk_tIc : RuOk SR ru_tIc := by
  intro τ m g hi hc ha hS
  obtain ⟨i0, i1, i2, i3, i4, i5, i6, i7, i8, i9, i10, _⟩ := hi
  have t1199 : τ 1199 = some (g 0) := i0
  have t1102 : τ 1102 = some (g 1) := i1
  have t1122 : τ 1122 = some (g 2) := i2
  have t1123 : τ 1123 = some (g 3) := i3
  have t1124 : τ 1124 = some (g 4) := i4
  have t1140 : τ 1140 = some (g 5) := i5
  have t1141 : τ 1141 = some (g 6) := i6
  have t1142 : τ 1142 = some (g 7) := i7
  have t1143 : τ 1143 = some (g 8) := i8
  have t1144 : τ 1144 = some (g 9) := i9
  have xk : g 10 = 20 := i10
  obtain ⟨c0, c1, c2, c3, c4, c5, _⟩ := hc
  have c0 : 1 * g 9 ≤ 0 := d1 c0
  have c1 : (-1) * g 9 ≤ 0 := d1 c1
  have c2 : (-1) * g 2 + 1 * g 6 ≤ 0 := d2 c2
  have c3 : 1 * g 2 + (-1) * g 6 ≤ 0 := d2 c3
  have c4 : (-1) * g 4 ≤ (-10) := d1 c4
  have c5 : 1 * g 4 ≤ 23 := d1 c5
  obtain ⟨h0, k_tok, k_sc1, k_sc2, k_T, k_I, k_F, k_N, k_Y, k_Z, k_A, k_B, k_C, k_X, k_R, k_f4⟩ := hS (by rw [t1199]; exact fun e => by cases e)
  have k_tok0 := k_tok
  obtain ⟨h_L, h_n, h_nF⟩ := k_tok0
  have k_I0 := k_I
  obtain ⟨h_p, h_pc, h_ip, h_iP, h_PC, h_PN⟩ := k_I0
  have k_B0 := k_B
  obtain ⟨h_B0, h_B, h_Bd0, h_B26, h_B22, h_Bs⟩ := k_B0
  obtain ⟨hn0, _, hNT⟩ := h_nF _ t1102
  have hB := h_B _ _ _ _ _ _ t1102 t1140 t1141 t1142 t1143 t1144
  have rB := hB.1
  obtain ⟨⟨hi0, hi1⟩, hpi⟩ := h_ip _ _ _ t1102 t1122 t1123
  have eb : (g 2).toNat = (g 6).toNat := by omega
  rw [eb] at hpi
  have ep : (g 3).toNat = Tp9 (tx9 m) (g 6).toNat := by omega
  have hcc := h_pc _ _ t1123 t1124
  rw [ep] at hcc
  exact ⟨rfl, trivial, trivial, fun _ => ⟨h0, k_tok, k_sc1, k_sc2, k_T, k_I, k_F, k_N, k_Y, k_Z, k_A, ⟨fun nF Bd Bi Br Bm e0 e1 e2 e3 e4 => by
      have e0 : g 1 = nF := Option.some.inj (t1102.symm.trans e0)
      subst e0
      have e1 : g 5 = Bd := Option.some.inj (t1140.symm.trans e1)
      subst e1
      have e2 : g 6 = Bi := Option.some.inj (t1141.symm.trans e2)
      subst e2
      have e3 : g 7 = Br := Option.some.inj (t1142.symm.trans e3)
      subst e3
      have e4 : g 10 + 0 = Bm := Option.some.inj e4
      subst e4
      exact ⟨_, RI_u hB 0 20 (by omega) (by omega) rfl (by omega) ⟨by omega, by omega⟩ (fun r h => by
              exact m_itemc (by omega) (by omega) h)⟩, fun nF Bd Bi Br Bx Bm e0 e1 e2 e3 e4 e5 => by
      have e0 : g 1 = nF := Option.some.inj (t1102.symm.trans e0)
      subst e0
      have e1 : g 5 = Bd := Option.some.inj (t1140.symm.trans e1)
      subst e1
      have e2 : g 6 = Bi := Option.some.inj (t1141.symm.trans e2)
      subst e2
      have e3 : g 7 = Br := Option.some.inj (t1142.symm.trans e3)
      subst e3
      have e4 : g 8 = Bx := Option.some.inj (t1143.symm.trans e4)
      subst e4
      have e5 : g 10 + 0 = Bm := Option.some.inj e5
      subst e5
      exact RI_u hB 0 20 (by omega) (by omega) rfl (by omega) ⟨by omega, by omega⟩ (fun r h => by
              exact m_itemc (by omega) (by omega) h), h_Bd0, fun Bd Bi Bm e0 e1 e2 => by
      have e0 : g 5 = Bd := Option.some.inj (t1140.symm.trans e0)
      subst e0
      have e1 : g 6 = Bi := Option.some.inj (t1141.symm.trans e1)
      subst e1
      have e2 : g 10 + 0 = Bm := Option.some.inj e2
      subst e2
      intro h
      omega, fun Bd Bi Bm Bf e0 e1 e2 e3 => by
      have e0 : g 5 = Bd := Option.some.inj (t1140.symm.trans e0)
      subst e0
      have e1 : g 6 = Bi := Option.some.inj (t1141.symm.trans e1)
      subst e1
      have e2 : g 10 + 0 = Bm := Option.some.inj e2
      subst e2
      intro h
      omega, h_Bs⟩, k_C, k_X, k_R, k_f4⟩⟩
noncomputable def ru_tId : Ru := ([(0, (1199, (0, (0, 0)))), (0, (1102, (0, (0, 0)))), (0, (1122, (0, (0, 0)))), (0, (1123, (0, (0, 0)))), (0, (1124, (0, (0, 0)))), (0, (1140, (0, (0, 0)))), (0, (1141, (0, (0, 0)))), (0, (1142, (0, (0, 0)))), (0, (1143, (0, (0, 0)))), (0, (1144, (0, (0, 0)))), (4, (0, (0, (20, 0))))], ([], ([([(9, 1)], 0), ([(9, (-1))], 0), ([(2, (-1)), (6, 1)], 0), ([(2, 1), (6, (-1))], 0), ([(4, (-1))], (-27)), ([(4, 1)], 51)], (false, ([], ([], ([(1144, some (10, 0))], none)))))))
theorem rk_tId : RuOk SR ru_tId := by
  intro τ m g hi hc ha hS
  obtain ⟨i0, i1, i2, i3, i4, i5, i6, i7, i8, i9, i10, _⟩ := hi
  have t1199 : τ 1199 = some (g 0) := i0
  have t1102 : τ 1102 = some (g 1) := i1
  have t1122 : τ 1122 = some (g 2) := i2
  have t1123 : τ 1123 = some (g 3) := i3
  have t1124 : τ 1124 = some (g 4) := i4
  have t1140 : τ 1140 = some (g 5) := i5
  have t1141 : τ 1141 = some (g 6) := i6
  have t1142 : τ 1142 = some (g 7) := i7
  have t1143 : τ 1143 = some (g 8) := i8
  have t1144 : τ 1144 = some (g 9) := i9
  have xk : g 10 = 20 := i10
  obtain ⟨c0, c1, c2, c3, c4, c5, _⟩ := hc
  have c0 : 1 * g 9 ≤ 0 := d1 c0
  have c1 : (-1) * g 9 ≤ 0 := d1 c1
  have c2 : (-1) * g 2 + 1 * g 6 ≤ 0 := d2 c2
  have c3 : 1 * g 2 + (-1) * g 6 ≤ 0 := d2 c3
  have c4 : (-1) * g 4 ≤ (-27) := d1 c4
  have c5 : 1 * g 4 ≤ 51 := d1 c5
  obtain ⟨h0, k_tok, k_sc1, k_sc2, k_T, k_I, k_F, k_N, k_Y, k_Z, k_A, k_B, k_C, k_X, k_R, k_f4⟩ := hS (by rw [t1199]; exact fun e => by cases e)
  have k_tok0 := k_tok
  obtain ⟨h_L, h_n, h_nF⟩ := k_tok0
  have k_I0 := k_I
  obtain ⟨h_p, h_pc, h_ip, h_iP, h_PC, h_PN⟩ := k_I0
  have k_B0 := k_B
  obtain ⟨h_B0, h_B, h_Bd0, h_B26, h_B22, h_Bs⟩ := k_B0
  obtain ⟨hn0, _, hNT⟩ := h_nF _ t1102
  have hB := h_B _ _ _ _ _ _ t1102 t1140 t1141 t1142 t1143 t1144
  have rB := hB.1
  obtain ⟨⟨hi0, hi1⟩, hpi⟩ := h_ip _ _ _ t1102 t1122 t1123
  have eb : (g 2).toNat = (g 6).toNat := by omega
  rw [eb] at hpi
  have ep : (g 3).toNat = Tp9 (tx9 m) (g 6).toNat := by omega
  have hcc := h_pc _ _ t1123 t1124
  rw [ep] at hcc
  exact ⟨rfl, trivial, trivial, fun _ => ⟨h0, k_tok, k_sc1, k_sc2, k_T, k_I, k_F, k_N, k_Y, k_Z, k_A, ⟨fun nF Bd Bi Br Bm e0 e1 e2 e3 e4 => by
      have e0 : g 1 = nF := Option.some.inj (t1102.symm.trans e0)
      subst e0
      have e1 : g 5 = Bd := Option.some.inj (t1140.symm.trans e1)
      subst e1
      have e2 : g 6 = Bi := Option.some.inj (t1141.symm.trans e2)
      subst e2
      have e3 : g 7 = Br := Option.some.inj (t1142.symm.trans e3)
      subst e3
      have e4 : g 10 + 0 = Bm := Option.some.inj e4
      subst e4
      exact ⟨_, RI_u hB 0 20 (by omega) (by omega) rfl (by omega) ⟨by omega, by omega⟩ (fun r h => by
              exact m_itemd (by omega) h)⟩, fun nF Bd Bi Br Bx Bm e0 e1 e2 e3 e4 e5 => by
      have e0 : g 1 = nF := Option.some.inj (t1102.symm.trans e0)
      subst e0
      have e1 : g 5 = Bd := Option.some.inj (t1140.symm.trans e1)
      subst e1
      have e2 : g 6 = Bi := Option.some.inj (t1141.symm.trans e2)
      subst e2
      have e3 : g 7 = Br := Option.some.inj (t1142.symm.trans e3)
      subst e3
      have e4 : g 8 = Bx := Option.some.inj (t1143.symm.trans e4)
      subst e4
      have e5 : g 10 + 0 = Bm := Option.some.inj e5
      subst e5
      exact RI_u hB 0 20 (by omega) (by omega) rfl (by omega) ⟨by omega, by omega⟩ (fun r h => by
              exact m_itemd (by omega) h), h_Bd0, fun Bd Bi Bm e0 e1 e2 => by
      have e0 : g 5 = Bd := Option.some.inj (t1140.symm.trans e0)
      subst e0
      have e1 : g 6 = Bi := Option.some.inj (t1141.symm.trans e1)
      subst e1
      have e2 : g 10 + 0 = Bm := Option.some.inj e2
      subst e2
      intro h
      omega, fun Bd Bi Bm Bf e0 e1 e2 e3 => by
      have e0 : g 5 = Bd := Option.some.inj (t1140.symm.trans e0)
      subst e0
      have e1 : g 6 = Bi := Option.some.inj (t1141.symm.trans e1)
      subst e1
      have e2 : g 10 + 0 = Bm := Option.some.inj e2
      subst e2
      intro h
      omega, h_Bs⟩, k_C, k_X, k_R, k_f4⟩⟩
noncomputable def ru_nDa : Ru := ([(0, (1199, (0, (0, 0)))), (0, (1102, (0, (0, 0)))), (0, (1122, (0, (0, 0)))), (0, (1123, (0, (0, 0)))), (0, (1124, (0, (0, 0)))), (0, (1140, (0, (0, 0)))), (0, (1141, (0, (0, 0)))), (0, (1142, (0, (0, 0)))), (0, (1143, (0, (0, 0)))), (0, (1144, (0, (0, 0))))], ([], ([([(9, 1)], 0), ([(9, (-1))], 0), ([(2, (-1)), (6, 1)], 0), ([(2, 1), (6, (-1))], 0), ([(4, (-1))], (-4)), ([(4, 1)], 4), ([(5, (-1))], (-20))], (false, ([([(3, (-1)), (8, 1)], 0), ([(3, 1), (8, (-1))], 0), ([(7, 1)], (-1)), ([(7, (-1))], 1)], ([], ([], none)))))))
theorem rk_nDa : RuOk SR ru_nDa := by
  intro τ m g hi hc ha hS
  obtain ⟨i0, i1, i2, i3, i4, i5, i6, i7, i8, i9, _⟩ := hi
  have t1199 : τ 1199 = some (g 0) := i0
  have t1102 : τ 1102 = some (g 1) := i1
  have t1122 : τ 1122 = some (g 2) := i2
  have t1123 : τ 1123 = some (g 3) := i3
  have t1124 : τ 1124 = some (g 4) := i4
  have t1140 : τ 1140 = some (g 5) := i5
  have t1141 : τ 1141 = some (g 6) := i6
  have t1142 : τ 1142 = some (g 7) := i7
  have t1143 : τ 1143 = some (g 8) := i8
  have t1144 : τ 1144 = some (g 9) := i9
  obtain ⟨c0, c1, c2, c3, c4, c5, c6, _⟩ := hc
  have c0 : 1 * g 9 ≤ 0 := d1 c0
  have c1 : (-1) * g 9 ≤ 0 := d1 c1
  have c2 : (-1) * g 2 + 1 * g 6 ≤ 0 := d2 c2
  have c3 : 1 * g 2 + (-1) * g 6 ≤ 0 := d2 c3
  have c4 : (-1) * g 4 ≤ (-4) := d1 c4
  have c5 : 1 * g 4 ≤ 4 := d1 c5
  have c6 : (-1) * g 5 ≤ (-20) := d1 c6
  obtain ⟨h0, k_tok, k_sc1, k_sc2, k_T, k_I, k_F, k_N, k_Y, k_Z, k_A, k_B, k_C, k_X, k_R, k_f4⟩ := hS (by rw [t1199]; exact fun e => by cases e)
  have k_tok0 := k_tok
  obtain ⟨h_L, h_n, h_nF⟩ := k_tok0
  have k_I0 := k_I
  obtain ⟨h_p, h_pc, h_ip, h_iP, h_PC, h_PN⟩ := k_I0
  have k_B0 := k_B
  obtain ⟨h_B0, h_B, h_Bd0, h_B26, h_B22, h_Bs⟩ := k_B0
  obtain ⟨hn0, _, hNT⟩ := h_nF _ t1102
  have hB := h_B _ _ _ _ _ _ t1102 t1140 t1141 t1142 t1143 t1144
  have rB := hB.1
  obtain ⟨⟨hi0, hi1⟩, hpi⟩ := h_ip _ _ _ t1102 t1122 t1123
  have eb : (g 2).toNat = (g 6).toNat := by omega
  rw [eb] at hpi
  have ep : (g 3).toNat = Tp9 (tx9 m) (g 6).toNat := by omega
  have hcc := h_pc _ _ t1123 t1124
  rw [ep] at hcc
  obtain ⟨y1, y2⟩ := RI_b hB 0 (by omega) (m_deep 4 (Or.inl rfl) (by omega) (by omega) (by omega))
  exact ⟨rfl, ⟨f2 (by omega), f2 (by omega), f1 (by omega), f1 (by omega), trivial⟩, trivial, fun _ => ⟨h0, k_tok, k_sc1, k_sc2, k_T, k_I, k_F, k_N, k_Y, k_Z, k_A, k_B, k_C, k_X, k_R, k_f4⟩⟩
noncomputable def ru_nDb : Ru := ([(0, (1199, (0, (0, 0)))), (0, (1102, (0, (0, 0)))), (0, (1122, (0, (0, 0)))), (0, (1123, (0, (0, 0)))), (0, (1124, (0, (0, 0)))), (0, (1140, (0, (0, 0)))), (0, (1141, (0, (0, 0)))), (0, (1142, (0, (0, 0)))), (0, (1143, (0, (0, 0)))), (0, (1144, (0, (0, 0))))], ([], ([([(9, 1)], 0), ([(9, (-1))], 0), ([(2, (-1)), (6, 1)], 0), ([(2, 1), (6, (-1))], 0), ([(4, (-1))], (-9)), ([(4, 1)], 9), ([(5, (-1))], (-20))], (false, ([([(3, (-1)), (8, 1)], 0), ([(3, 1), (8, (-1))], 0), ([(7, 1)], (-1)), ([(7, (-1))], 1)], ([], ([], none)))))))
theorem rk_nDb : RuOk SR ru_nDb := by
  intro τ m g hi hc ha hS
  obtain ⟨i0, i1, i2, i3, i4, i5, i6, i7, i8, i9, _⟩ := hi
  have t1199 : τ 1199 = some (g 0) := i0
  have t1102 : τ 1102 = some (g 1) := i1
  have t1122 : τ 1122 = some (g 2) := i2
  have t1123 : τ 1123 = some (g 3) := i3
  have t1124 : τ 1124 = some (g 4) := i4
  have t1140 : τ 1140 = some (g 5) := i5
  have t1141 : τ 1141 = some (g 6) := i6
  have t1142 : τ 1142 = some (g 7) := i7
  have t1143 : τ 1143 = some (g 8) := i8
  have t1144 : τ 1144 = some (g 9) := i9
  obtain ⟨c0, c1, c2, c3, c4, c5, c6, _⟩ := hc
  have c0 : 1 * g 9 ≤ 0 := d1 c0
  have c1 : (-1) * g 9 ≤ 0 := d1 c1
  have c2 : (-1) * g 2 + 1 * g 6 ≤ 0 := d2 c2
  have c3 : 1 * g 2 + (-1) * g 6 ≤ 0 := d2 c3
  have c4 : (-1) * g 4 ≤ (-9) := d1 c4
  have c5 : 1 * g 4 ≤ 9 := d1 c5
  have c6 : (-1) * g 5 ≤ (-20) := d1 c6
  obtain ⟨h0, k_tok, k_sc1, k_sc2, k_T, k_I, k_F, k_N, k_Y, k_Z, k_A, k_B, k_C, k_X, k_R, k_f4⟩ := hS (by rw [t1199]; exact fun e => by cases e)
  have k_tok0 := k_tok
  obtain ⟨h_L, h_n, h_nF⟩ := k_tok0
  have k_I0 := k_I
  obtain ⟨h_p, h_pc, h_ip, h_iP, h_PC, h_PN⟩ := k_I0
  have k_B0 := k_B
  obtain ⟨h_B0, h_B, h_Bd0, h_B26, h_B22, h_Bs⟩ := k_B0
  obtain ⟨hn0, _, hNT⟩ := h_nF _ t1102
  have hB := h_B _ _ _ _ _ _ t1102 t1140 t1141 t1142 t1143 t1144
  have rB := hB.1
  obtain ⟨⟨hi0, hi1⟩, hpi⟩ := h_ip _ _ _ t1102 t1122 t1123
  have eb : (g 2).toNat = (g 6).toNat := by omega
  rw [eb] at hpi
  have ep : (g 3).toNat = Tp9 (tx9 m) (g 6).toNat := by omega
  have hcc := h_pc _ _ t1123 t1124
  rw [ep] at hcc
  obtain ⟨y1, y2⟩ := RI_b hB 0 (by omega) (m_deep 9 (Or.inr rfl) (by omega) (by omega) (by omega))
  exact ⟨rfl, ⟨f2 (by omega), f2 (by omega), f1 (by omega), f1 (by omega), trivial⟩, trivial, fun _ => ⟨h0, k_tok, k_sc1, k_sc2, k_T, k_I, k_F, k_N, k_Y, k_Z, k_A, k_B, k_C, k_X, k_R, k_f4⟩⟩
noncomputable def ru_nMi : Ru := ([(0, (1199, (0, (0, 0)))), (0, (1102, (0, (0, 0)))), (0, (1122, (0, (0, 0)))), (0, (1123, (0, (0, 0)))), (0, (1124, (0, (0, 0)))), (0, (1140, (0, (0, 0)))), (0, (1141, (0, (0, 0)))), (0, (1142, (0, (0, 0)))), (0, (1143, (0, (0, 0)))), (0, (1144, (0, (0, 0))))], ([], ([([(9, 1)], 0), ([(9, (-1))], 0), ([(2, (-1)), (6, 1)], 0), ([(2, 1), (6, (-1))], 0), ([(4, (-1))], (-9)), ([(4, 1)], 9), ([(5, 1)], 19)], (false, ([], ([], ([(1141, some (6, 1)), (1140, some (5, 1))], none)))))))
theorem rk_nMi : RuOk SR ru_nMi := by
  intro τ m g hi hc ha hS
  obtain ⟨i0, i1, i2, i3, i4, i5, i6, i7, i8, i9, _⟩ := hi
  have t1199 : τ 1199 = some (g 0) := i0
  have t1102 : τ 1102 = some (g 1) := i1
  have t1122 : τ 1122 = some (g 2) := i2
  have t1123 : τ 1123 = some (g 3) := i3
  have t1124 : τ 1124 = some (g 4) := i4
  have t1140 : τ 1140 = some (g 5) := i5
  have t1141 : τ 1141 = some (g 6) := i6
  have t1142 : τ 1142 = some (g 7) := i7
  have t1143 : τ 1143 = some (g 8) := i8
  have t1144 : τ 1144 = some (g 9) := i9
  obtain ⟨c0, c1, c2, c3, c4, c5, c6, _⟩ := hc
  have c0 : 1 * g 9 ≤ 0 := d1 c0
  have c1 : (-1) * g 9 ≤ 0 := d1 c1
  have c2 : (-1) * g 2 + 1 * g 6 ≤ 0 := d2 c2
  have c3 : 1 * g 2 + (-1) * g 6 ≤ 0 := d2 c3
  have c4 : (-1) * g 4 ≤ (-9) := d1 c4
  have c5 : 1 * g 4 ≤ 9 := d1 c5
  have c6 : 1 * g 5 ≤ 19 := d1 c6
  obtain ⟨h0, k_tok, k_sc1, k_sc2, k_T, k_I, k_F, k_N, k_Y, k_Z, k_A, k_B, k_C, k_X, k_R, k_f4⟩ := hS (by rw [t1199]; exact fun e => by cases e)
  have k_tok0 := k_tok
  obtain ⟨h_L, h_n, h_nF⟩ := k_tok0
  have k_I0 := k_I
  obtain ⟨h_p, h_pc, h_ip, h_iP, h_PC, h_PN⟩ := k_I0
  have k_B0 := k_B
  obtain ⟨h_B0, h_B, h_Bd0, h_B26, h_B22, h_Bs⟩ := k_B0
  obtain ⟨hn0, _, hNT⟩ := h_nF _ t1102
  have hB := h_B _ _ _ _ _ _ t1102 t1140 t1141 t1142 t1143 t1144
  have rB := hB.1
  obtain ⟨⟨hi0, hi1⟩, hpi⟩ := h_ip _ _ _ t1102 t1122 t1123
  have eb : (g 2).toNat = (g 6).toNat := by omega
  rw [eb] at hpi
  have ep : (g 3).toNat = Tp9 (tx9 m) (g 6).toNat := by omega
  have hcc := h_pc _ _ t1123 t1124
  rw [ep] at hcc
  have hx1 := NT_next hNT (i := (g 6).toNat) (by omega) (by omega)
  exact ⟨rfl, trivial, trivial, fun _ => ⟨h0, k_tok, k_sc1, k_sc2, k_T, k_I, k_F, k_N, k_Y, k_Z, k_A, ⟨fun nF Bd Bi Br Bm e0 e1 e2 e3 e4 => by
      have e0 : g 1 = nF := Option.some.inj (t1102.symm.trans e0)
      subst e0
      have e1 : g 5 + 1 = Bd := Option.some.inj e1
      subst e1
      have e2 : g 6 + 1 = Bi := Option.some.inj e2
      subst e2
      have e3 : g 7 = Br := Option.some.inj (t1142.symm.trans e3)
      subst e3
      have e4 : g 9 = Bm := Option.some.inj (t1144.symm.trans e4)
      subst e4
      exact ⟨_, RI_u hB 0 0 (by omega) (by omega) rfl (by omega) ⟨by omega, by omega⟩ (fun r h => by
              rw [St_n (by omega)] at h
              rw [show (g 5 + 1).toNat = (g 5).toNat + 1 by omega] at h
              exact m_neg (by omega) (by omega) (by omega) h)⟩, fun nF Bd Bi Br Bx Bm e0 e1 e2 e3 e4 e5 => by
      have e0 : g 1 = nF := Option.some.inj (t1102.symm.trans e0)
      subst e0
      have e1 : g 5 + 1 = Bd := Option.some.inj e1
      subst e1
      have e2 : g 6 + 1 = Bi := Option.some.inj e2
      subst e2
      have e3 : g 7 = Br := Option.some.inj (t1142.symm.trans e3)
      subst e3
      have e4 : g 8 = Bx := Option.some.inj (t1143.symm.trans e4)
      subst e4
      have e5 : g 9 = Bm := Option.some.inj (t1144.symm.trans e5)
      subst e5
      exact RI_u hB 0 0 (by omega) (by omega) rfl (by omega) ⟨by omega, by omega⟩ (fun r h => by
              rw [St_n (by omega)] at h
              rw [show (g 5 + 1).toNat = (g 5).toNat + 1 by omega] at h
              exact m_neg (by omega) (by omega) (by omega) h), fun Bd e0 => by
      have e0 : g 5 + 1 = Bd := Option.some.inj e0
      subst e0
      omega, fun Bd Bi Bm e0 e1 e2 => by
      have e0 : g 5 + 1 = Bd := Option.some.inj e0
      subst e0
      have e1 : g 6 + 1 = Bi := Option.some.inj e1
      subst e1
      have e2 : g 9 = Bm := Option.some.inj (t1144.symm.trans e2)
      subst e2
      intro h
      omega, fun Bd Bi Bm Bf e0 e1 e2 e3 => by
      have e0 : g 5 + 1 = Bd := Option.some.inj e0
      subst e0
      have e1 : g 6 + 1 = Bi := Option.some.inj e1
      subst e1
      have e2 : g 9 = Bm := Option.some.inj (t1144.symm.trans e2)
      subst e2
      intro h
      omega, h_Bs⟩, k_C, k_X, k_R, k_f4⟩⟩
noncomputable def ru_nPa : Ru := ([(0, (1199, (0, (0, 0)))), (0, (1102, (0, (0, 0)))), (0, (1122, (0, (0, 0)))), (0, (1123, (0, (0, 0)))), (0, (1124, (0, (0, 0)))), (0, (1140, (0, (0, 0)))), (0, (1141, (0, (0, 0)))), (0, (1142, (0, (0, 0)))), (0, (1143, (0, (0, 0)))), (0, (1144, (0, (0, 0)))), (4, (0, (0, (25, 0))))], ([], ([([(9, 1)], 0), ([(9, (-1))], 0), ([(2, (-1)), (6, 1)], 0), ([(2, 1), (6, (-1))], 0), ([(4, (-1))], (-4)), ([(4, 1)], 4), ([(5, 1)], 19)], (false, ([], ([], ([(1141, some (6, 1)), (1144, some (10, 0))], none)))))))
theorem rk_nPa : RuOk SR ru_nPa := by
  intro τ m g hi hc ha hS
  obtain ⟨i0, i1, i2, i3, i4, i5, i6, i7, i8, i9, i10, _⟩ := hi
  have t1199 : τ 1199 = some (g 0) := i0
  have t1102 : τ 1102 = some (g 1) := i1
  have t1122 : τ 1122 = some (g 2) := i2
  have t1123 : τ 1123 = some (g 3) := i3
  have t1124 : τ 1124 = some (g 4) := i4
  have t1140 : τ 1140 = some (g 5) := i5
  have t1141 : τ 1141 = some (g 6) := i6
  have t1142 : τ 1142 = some (g 7) := i7
  have t1143 : τ 1143 = some (g 8) := i8
  have t1144 : τ 1144 = some (g 9) := i9
  have xk : g 10 = 25 := i10
  obtain ⟨c0, c1, c2, c3, c4, c5, c6, _⟩ := hc
  have c0 : 1 * g 9 ≤ 0 := d1 c0
  have c1 : (-1) * g 9 ≤ 0 := d1 c1
  have c2 : (-1) * g 2 + 1 * g 6 ≤ 0 := d2 c2
  have c3 : 1 * g 2 + (-1) * g 6 ≤ 0 := d2 c3
  have c4 : (-1) * g 4 ≤ (-4) := d1 c4
  have c5 : 1 * g 4 ≤ 4 := d1 c5
  have c6 : 1 * g 5 ≤ 19 := d1 c6
  obtain ⟨h0, k_tok, k_sc1, k_sc2, k_T, k_I, k_F, k_N, k_Y, k_Z, k_A, k_B, k_C, k_X, k_R, k_f4⟩ := hS (by rw [t1199]; exact fun e => by cases e)
  have k_tok0 := k_tok
  obtain ⟨h_L, h_n, h_nF⟩ := k_tok0
  have k_I0 := k_I
  obtain ⟨h_p, h_pc, h_ip, h_iP, h_PC, h_PN⟩ := k_I0
  have k_B0 := k_B
  obtain ⟨h_B0, h_B, h_Bd0, h_B26, h_B22, h_Bs⟩ := k_B0
  obtain ⟨hn0, _, hNT⟩ := h_nF _ t1102
  have hB := h_B _ _ _ _ _ _ t1102 t1140 t1141 t1142 t1143 t1144
  have rB := hB.1
  obtain ⟨⟨hi0, hi1⟩, hpi⟩ := h_ip _ _ _ t1102 t1122 t1123
  have eb : (g 2).toNat = (g 6).toNat := by omega
  rw [eb] at hpi
  have ep : (g 3).toNat = Tp9 (tx9 m) (g 6).toNat := by omega
  have hcc := h_pc _ _ t1123 t1124
  rw [ep] at hcc
  have hx1 := NT_next hNT (i := (g 6).toNat) (by omega) (by omega)
  exact ⟨rfl, trivial, trivial, fun _ => ⟨h0, k_tok, k_sc1, k_sc2, k_T, k_I, k_F, k_N, k_Y, k_Z, k_A, ⟨fun nF Bd Bi Br Bm e0 e1 e2 e3 e4 => by
      have e0 : g 1 = nF := Option.some.inj (t1102.symm.trans e0)
      subst e0
      have e1 : g 5 = Bd := Option.some.inj (t1140.symm.trans e1)
      subst e1
      have e2 : g 6 + 1 = Bi := Option.some.inj e2
      subst e2
      have e3 : g 7 = Br := Option.some.inj (t1142.symm.trans e3)
      subst e3
      have e4 : g 10 + 0 = Bm := Option.some.inj e4
      subst e4
      exact ⟨_, RI_u hB 0 25 (by omega) (by omega) rfl (by omega) ⟨by omega, by omega⟩ (fun r h => by
              rw [St_n (by omega)] at h
              exact m_par (by omega) (by omega) (by omega) h)⟩, fun nF Bd Bi Br Bx Bm e0 e1 e2 e3 e4 e5 => by
      have e0 : g 1 = nF := Option.some.inj (t1102.symm.trans e0)
      subst e0
      have e1 : g 5 = Bd := Option.some.inj (t1140.symm.trans e1)
      subst e1
      have e2 : g 6 + 1 = Bi := Option.some.inj e2
      subst e2
      have e3 : g 7 = Br := Option.some.inj (t1142.symm.trans e3)
      subst e3
      have e4 : g 8 = Bx := Option.some.inj (t1143.symm.trans e4)
      subst e4
      have e5 : g 10 + 0 = Bm := Option.some.inj e5
      subst e5
      exact RI_u hB 0 25 (by omega) (by omega) rfl (by omega) ⟨by omega, by omega⟩ (fun r h => by
              rw [St_n (by omega)] at h
              exact m_par (by omega) (by omega) (by omega) h), h_Bd0, fun Bd Bi Bm e0 e1 e2 => by
      have e0 : g 5 = Bd := Option.some.inj (t1140.symm.trans e0)
      subst e0
      have e1 : g 6 + 1 = Bi := Option.some.inj e1
      subst e1
      have e2 : g 10 + 0 = Bm := Option.some.inj e2
      subst e2
      intro h
      omega, fun Bd Bi Bm Bf e0 e1 e2 e3 => by
      have e0 : g 5 = Bd := Option.some.inj (t1140.symm.trans e0)
      subst e0
      have e1 : g 6 + 1 = Bi := Option.some.inj e1
      subst e1
      have e2 : g 10 + 0 = Bm := Option.some.inj e2
      subst e2
      intro h
      omega, h_Bs⟩, k_C, k_X, k_R, k_f4⟩⟩
noncomputable def ru_c25x : Ru := ([(0, (1199, (0, (0, 0)))), (0, (1102, (0, (0, 0)))), (0, (1140, (0, (0, 0)))), (0, (1141, (0, (0, 0)))), (0, (1142, (0, (0, 0)))), (0, (1143, (0, (0, 0)))), (0, (1144, (0, (0, 0)))), (0, (1130, (0, (0, 0)))), (0, (1131, (0, (0, 0)))), (0, (1132, (0, (0, 0)))), (0, (1133, (0, (0, 0)))), (0, (1134, (0, (0, 0))))], ([], ([([(6, 1)], 25), ([(6, (-1))], (-25)), ([(11, 1)], 1), ([(11, (-1))], (-1)), ([(3, (-1)), (8, 1)], 0), ([(3, 1), (8, (-1))], 0), ([(2, (-1)), (7, 1)], 1), ([(2, 1), (7, (-1))], (-1)), ([(9, 1)], (-1))], (false, ([([(5, 1), (10, (-1))], 0), ([(5, (-1)), (10, 1)], 0), ([(4, 1)], (-1)), ([(4, (-1))], 1)], ([], ([], none)))))))
theorem rk_c25x : RuOk SR ru_c25x := by
  intro τ m g hi hc ha hS
  obtain ⟨i0, i1, i2, i3, i4, i5, i6, i7, i8, i9, i10, i11, _⟩ := hi
  have t1199 : τ 1199 = some (g 0) := i0
  have t1102 : τ 1102 = some (g 1) := i1
  have t1140 : τ 1140 = some (g 2) := i2
  have t1141 : τ 1141 = some (g 3) := i3
  have t1142 : τ 1142 = some (g 4) := i4
  have t1143 : τ 1143 = some (g 5) := i5
  have t1144 : τ 1144 = some (g 6) := i6
  have t1130 : τ 1130 = some (g 7) := i7
  have t1131 : τ 1131 = some (g 8) := i8
  have t1132 : τ 1132 = some (g 9) := i9
  have t1133 : τ 1133 = some (g 10) := i10
  have t1134 : τ 1134 = some (g 11) := i11
  obtain ⟨c0, c1, c2, c3, c4, c5, c6, c7, c8, _⟩ := hc
  have c0 : 1 * g 6 ≤ 25 := d1 c0
  have c1 : (-1) * g 6 ≤ (-25) := d1 c1
  have c2 : 1 * g 11 ≤ 1 := d1 c2
  have c3 : (-1) * g 11 ≤ (-1) := d1 c3
  have c4 : (-1) * g 3 + 1 * g 8 ≤ 0 := d2 c4
  have c5 : 1 * g 3 + (-1) * g 8 ≤ 0 := d2 c5
  have c6 : (-1) * g 2 + 1 * g 7 ≤ 1 := d2 c6
  have c7 : 1 * g 2 + (-1) * g 7 ≤ (-1) := d2 c7
  have c8 : 1 * g 9 ≤ (-1) := d1 c8
  obtain ⟨h0, k_tok, k_sc1, k_sc2, k_T, k_I, k_F, k_N, k_Y, k_Z, k_A, k_B, k_C, k_X, k_R, k_f4⟩ := hS (by rw [t1199]; exact fun e => by cases e)
  have k_tok0 := k_tok
  obtain ⟨h_L, h_n, h_nF⟩ := k_tok0
  have k_A0 := k_A
  obtain ⟨h_A0, h_A⟩ := k_A0
  have k_B0 := k_B
  obtain ⟨h_B0, h_B, h_Bd0, h_B26, h_B22, h_Bs⟩ := k_B0
  obtain ⟨hn0, _, hNT⟩ := h_nF _ t1102
  have hB := h_B _ _ _ _ _ _ t1102 t1140 t1141 t1142 t1143 t1144
  have rB := hB.1
  have hA := h_A _ _ _ _ _ _ t1102 t1130 t1131 t1132 t1133 t1134
  have rA := hA.1
  have ea : (g 8).toNat = (g 3).toNat := by omega
  have ed : (g 7).toNat = (g 2).toNat + 1 := by omega
  obtain ⟨hr1, hr2, hR⟩ := RI_n hA 1 (by omega) (by omega)
  rw [ea, ed] at hR
  obtain ⟨y1, y2⟩ := RI_b hB 25 (by omega) (m_cx 11 hR)
  exact ⟨rfl, ⟨f2 (by omega), f2 (by omega), f1 (by omega), f1 (by omega), trivial⟩, trivial, fun _ => ⟨h0, k_tok, k_sc1, k_sc2, k_T, k_I, k_F, k_N, k_Y, k_Z, k_A, k_B, k_C, k_X, k_R, k_f4⟩⟩
noncomputable def ru_c25o : Ru := ([(0, (1199, (0, (0, 0)))), (0, (1102, (0, (0, 0)))), (0, (1122, (0, (0, 0)))), (0, (1123, (0, (0, 0)))), (0, (1124, (0, (0, 0)))), (0, (1140, (0, (0, 0)))), (0, (1141, (0, (0, 0)))), (0, (1142, (0, (0, 0)))), (0, (1143, (0, (0, 0)))), (0, (1144, (0, (0, 0)))), (0, (1130, (0, (0, 0)))), (0, (1131, (0, (0, 0)))), (0, (1132, (0, (0, 0)))), (0, (1133, (0, (0, 0)))), (0, (1134, (0, (0, 0))))], ([], ([([(9, 1)], 25), ([(9, (-1))], (-25)), ([(14, 1)], 1), ([(14, (-1))], (-1)), ([(6, (-1)), (11, 1)], 0), ([(6, 1), (11, (-1))], 0), ([(5, (-1)), (10, 1)], 1), ([(5, 1), (10, (-1))], (-1)), ([(12, (-1))], 0), ([(2, 1), (12, (-1))], 0), ([(2, (-1)), (12, 1)], 0), ([(4, (-1))], (-5)), ([(4, 1)], 5)], (false, ([([(7, 1), (12, (-1))], 1), ([(7, (-1)), (12, 1)], (-1)), ([(8, 1)], (-1)), ([(8, (-1))], 1)], ([], ([], none)))))))
theorem rk_c25o : RuOk SR ru_c25o := by
  intro τ m g hi hc ha hS
  obtain ⟨i0, i1, i2, i3, i4, i5, i6, i7, i8, i9, i10, i11, i12, i13, i14, _⟩ := hi
  have t1199 : τ 1199 = some (g 0) := i0
  have t1102 : τ 1102 = some (g 1) := i1
  have t1122 : τ 1122 = some (g 2) := i2
  have t1123 : τ 1123 = some (g 3) := i3
  have t1124 : τ 1124 = some (g 4) := i4
  have t1140 : τ 1140 = some (g 5) := i5
  have t1141 : τ 1141 = some (g 6) := i6
  have t1142 : τ 1142 = some (g 7) := i7
  have t1143 : τ 1143 = some (g 8) := i8
  have t1144 : τ 1144 = some (g 9) := i9
  have t1130 : τ 1130 = some (g 10) := i10
  have t1131 : τ 1131 = some (g 11) := i11
  have t1132 : τ 1132 = some (g 12) := i12
  have t1133 : τ 1133 = some (g 13) := i13
  have t1134 : τ 1134 = some (g 14) := i14
  obtain ⟨c0, c1, c2, c3, c4, c5, c6, c7, c8, c9, c10, c11, c12, _⟩ := hc
  have c0 : 1 * g 9 ≤ 25 := d1 c0
  have c1 : (-1) * g 9 ≤ (-25) := d1 c1
  have c2 : 1 * g 14 ≤ 1 := d1 c2
  have c3 : (-1) * g 14 ≤ (-1) := d1 c3
  have c4 : (-1) * g 6 + 1 * g 11 ≤ 0 := d2 c4
  have c5 : 1 * g 6 + (-1) * g 11 ≤ 0 := d2 c5
  have c6 : (-1) * g 5 + 1 * g 10 ≤ 1 := d2 c6
  have c7 : 1 * g 5 + (-1) * g 10 ≤ (-1) := d2 c7
  have c8 : (-1) * g 12 ≤ 0 := d1 c8
  have c9 : 1 * g 2 + (-1) * g 12 ≤ 0 := d2 c9
  have c10 : (-1) * g 2 + 1 * g 12 ≤ 0 := d2 c10
  have c11 : (-1) * g 4 ≤ (-5) := d1 c11
  have c12 : 1 * g 4 ≤ 5 := d1 c12
  obtain ⟨h0, k_tok, k_sc1, k_sc2, k_T, k_I, k_F, k_N, k_Y, k_Z, k_A, k_B, k_C, k_X, k_R, k_f4⟩ := hS (by rw [t1199]; exact fun e => by cases e)
  have k_tok0 := k_tok
  obtain ⟨h_L, h_n, h_nF⟩ := k_tok0
  have k_I0 := k_I
  obtain ⟨h_p, h_pc, h_ip, h_iP, h_PC, h_PN⟩ := k_I0
  have k_A0 := k_A
  obtain ⟨h_A0, h_A⟩ := k_A0
  have k_B0 := k_B
  obtain ⟨h_B0, h_B, h_Bd0, h_B26, h_B22, h_Bs⟩ := k_B0
  obtain ⟨hn0, _, hNT⟩ := h_nF _ t1102
  have hB := h_B _ _ _ _ _ _ t1102 t1140 t1141 t1142 t1143 t1144
  have rB := hB.1
  have hA := h_A _ _ _ _ _ _ t1102 t1130 t1131 t1132 t1133 t1134
  have rA := hA.1
  have ea : (g 11).toNat = (g 6).toNat := by omega
  have ed : (g 10).toNat = (g 5).toNat + 1 := by omega
  obtain ⟨hr1, hr2, hr3, hR⟩ := RI_p hA 1 (by omega) (by omega)
  rw [ea, ed] at hR
  obtain ⟨⟨hi0, hi1⟩, hpi⟩ := h_ip _ _ _ t1102 t1122 t1123
  have eb : (g 2).toNat = (g 12).toNat := by omega
  rw [eb] at hpi
  have ep : (g 3).toNat = Tp9 (tx9 m) (g 12).toNat := by omega
  have hcc := h_pc _ _ t1123 t1124
  rw [ep] at hcc
  obtain ⟨y1, y2⟩ := RI_f hNT hB 25 (by omega) (j := (g 12).toNat + 1) (NT_next hNT (i := (g 12).toNat) (by omega) (by omega)) (m_co 11 hR (kq (fun k => k = 11) (by decide) (by omega : 5 ≤ _) (by omega : _ ≤ 5)))
  exact ⟨rfl, ⟨f2 (by omega), f2 (by omega), f1 (by omega), f1 (by omega), trivial⟩, trivial, fun _ => ⟨h0, k_tok, k_sc1, k_sc2, k_T, k_I, k_F, k_N, k_Y, k_Z, k_A, k_B, k_C, k_X, k_R, k_f4⟩⟩
noncomputable def ru_c25na : Ru := ([(0, (1199, (0, (0, 0)))), (0, (1102, (0, (0, 0)))), (0, (1122, (0, (0, 0)))), (0, (1123, (0, (0, 0)))), (0, (1124, (0, (0, 0)))), (0, (1140, (0, (0, 0)))), (0, (1141, (0, (0, 0)))), (0, (1142, (0, (0, 0)))), (0, (1143, (0, (0, 0)))), (0, (1144, (0, (0, 0)))), (0, (1130, (0, (0, 0)))), (0, (1131, (0, (0, 0)))), (0, (1132, (0, (0, 0)))), (0, (1133, (0, (0, 0)))), (0, (1134, (0, (0, 0))))], ([], ([([(9, 1)], 25), ([(9, (-1))], (-25)), ([(14, 1)], 1), ([(14, (-1))], (-1)), ([(6, (-1)), (11, 1)], 0), ([(6, 1), (11, (-1))], 0), ([(5, (-1)), (10, 1)], 1), ([(5, 1), (10, (-1))], (-1)), ([(12, (-1))], 0), ([(2, 1), (12, (-1))], 0), ([(2, (-1)), (12, 1)], 0), ([(4, 1)], 4)], (false, ([([(3, (-1)), (8, 1)], 0), ([(3, 1), (8, (-1))], 0), ([(7, 1)], (-1)), ([(7, (-1))], 1)], ([], ([], none)))))))
theorem rk_c25na : RuOk SR ru_c25na := by
  intro τ m g hi hc ha hS
  obtain ⟨i0, i1, i2, i3, i4, i5, i6, i7, i8, i9, i10, i11, i12, i13, i14, _⟩ := hi
  have t1199 : τ 1199 = some (g 0) := i0
  have t1102 : τ 1102 = some (g 1) := i1
  have t1122 : τ 1122 = some (g 2) := i2
  have t1123 : τ 1123 = some (g 3) := i3
  have t1124 : τ 1124 = some (g 4) := i4
  have t1140 : τ 1140 = some (g 5) := i5
  have t1141 : τ 1141 = some (g 6) := i6
  have t1142 : τ 1142 = some (g 7) := i7
  have t1143 : τ 1143 = some (g 8) := i8
  have t1144 : τ 1144 = some (g 9) := i9
  have t1130 : τ 1130 = some (g 10) := i10
  have t1131 : τ 1131 = some (g 11) := i11
  have t1132 : τ 1132 = some (g 12) := i12
  have t1133 : τ 1133 = some (g 13) := i13
  have t1134 : τ 1134 = some (g 14) := i14
  obtain ⟨c0, c1, c2, c3, c4, c5, c6, c7, c8, c9, c10, c11, _⟩ := hc
  have c0 : 1 * g 9 ≤ 25 := d1 c0
  have c1 : (-1) * g 9 ≤ (-25) := d1 c1
  have c2 : 1 * g 14 ≤ 1 := d1 c2
  have c3 : (-1) * g 14 ≤ (-1) := d1 c3
  have c4 : (-1) * g 6 + 1 * g 11 ≤ 0 := d2 c4
  have c5 : 1 * g 6 + (-1) * g 11 ≤ 0 := d2 c5
  have c6 : (-1) * g 5 + 1 * g 10 ≤ 1 := d2 c6
  have c7 : 1 * g 5 + (-1) * g 10 ≤ (-1) := d2 c7
  have c8 : (-1) * g 12 ≤ 0 := d1 c8
  have c9 : 1 * g 2 + (-1) * g 12 ≤ 0 := d2 c9
  have c10 : (-1) * g 2 + 1 * g 12 ≤ 0 := d2 c10
  have c11 : 1 * g 4 ≤ 4 := d1 c11
  obtain ⟨h0, k_tok, k_sc1, k_sc2, k_T, k_I, k_F, k_N, k_Y, k_Z, k_A, k_B, k_C, k_X, k_R, k_f4⟩ := hS (by rw [t1199]; exact fun e => by cases e)
  have k_tok0 := k_tok
  obtain ⟨h_L, h_n, h_nF⟩ := k_tok0
  have k_I0 := k_I
  obtain ⟨h_p, h_pc, h_ip, h_iP, h_PC, h_PN⟩ := k_I0
  have k_A0 := k_A
  obtain ⟨h_A0, h_A⟩ := k_A0
  have k_B0 := k_B
  obtain ⟨h_B0, h_B, h_Bd0, h_B26, h_B22, h_Bs⟩ := k_B0
  obtain ⟨hn0, _, hNT⟩ := h_nF _ t1102
  have hB := h_B _ _ _ _ _ _ t1102 t1140 t1141 t1142 t1143 t1144
  have rB := hB.1
  have hA := h_A _ _ _ _ _ _ t1102 t1130 t1131 t1132 t1133 t1134
  have rA := hA.1
  have ea : (g 11).toNat = (g 6).toNat := by omega
  have ed : (g 10).toNat = (g 5).toNat + 1 := by omega
  obtain ⟨hr1, hr2, hr3, hR⟩ := RI_p hA 1 (by omega) (by omega)
  rw [ea, ed] at hR
  obtain ⟨⟨hi0, hi1⟩, hpi⟩ := h_ip _ _ _ t1102 t1122 t1123
  have eb : (g 2).toNat = (g 12).toNat := by omega
  rw [eb] at hpi
  have ep : (g 3).toNat = Tp9 (tx9 m) (g 12).toNat := by omega
  have hcc := h_pc _ _ t1123 t1124
  rw [ep] at hcc
  obtain ⟨y1, y2⟩ := RI_b hB 25 (by omega) (m_cn 11 hR (kq (a := 0) (b := 4) (fun k => k ≠ 11) (by decide) (Nat.zero_le _) (by omega)))
  exact ⟨rfl, ⟨f2 (by omega), f2 (by omega), f1 (by omega), f1 (by omega), trivial⟩, trivial, fun _ => ⟨h0, k_tok, k_sc1, k_sc2, k_T, k_I, k_F, k_N, k_Y, k_Z, k_A, k_B, k_C, k_X, k_R, k_f4⟩⟩
noncomputable def ru_c25nb : Ru := ([(0, (1199, (0, (0, 0)))), (0, (1102, (0, (0, 0)))), (0, (1122, (0, (0, 0)))), (0, (1123, (0, (0, 0)))), (0, (1124, (0, (0, 0)))), (0, (1140, (0, (0, 0)))), (0, (1141, (0, (0, 0)))), (0, (1142, (0, (0, 0)))), (0, (1143, (0, (0, 0)))), (0, (1144, (0, (0, 0)))), (0, (1130, (0, (0, 0)))), (0, (1131, (0, (0, 0)))), (0, (1132, (0, (0, 0)))), (0, (1133, (0, (0, 0)))), (0, (1134, (0, (0, 0))))], ([], ([([(9, 1)], 25), ([(9, (-1))], (-25)), ([(14, 1)], 1), ([(14, (-1))], (-1)), ([(6, (-1)), (11, 1)], 0), ([(6, 1), (11, (-1))], 0), ([(5, (-1)), (10, 1)], 1), ([(5, 1), (10, (-1))], (-1)), ([(12, (-1))], 0), ([(2, 1), (12, (-1))], 0), ([(2, (-1)), (12, 1)], 0), ([(4, (-1))], (-6))], (false, ([([(3, (-1)), (8, 1)], 0), ([(3, 1), (8, (-1))], 0), ([(7, 1)], (-1)), ([(7, (-1))], 1)], ([], ([], none)))))))
theorem rk_c25nb : RuOk SR ru_c25nb := by
  intro τ m g hi hc ha hS
  obtain ⟨i0, i1, i2, i3, i4, i5, i6, i7, i8, i9, i10, i11, i12, i13, i14, _⟩ := hi
  have t1199 : τ 1199 = some (g 0) := i0
  have t1102 : τ 1102 = some (g 1) := i1
  have t1122 : τ 1122 = some (g 2) := i2
  have t1123 : τ 1123 = some (g 3) := i3
  have t1124 : τ 1124 = some (g 4) := i4
  have t1140 : τ 1140 = some (g 5) := i5
  have t1141 : τ 1141 = some (g 6) := i6
  have t1142 : τ 1142 = some (g 7) := i7
  have t1143 : τ 1143 = some (g 8) := i8
  have t1144 : τ 1144 = some (g 9) := i9
  have t1130 : τ 1130 = some (g 10) := i10
  have t1131 : τ 1131 = some (g 11) := i11
  have t1132 : τ 1132 = some (g 12) := i12
  have t1133 : τ 1133 = some (g 13) := i13
  have t1134 : τ 1134 = some (g 14) := i14
  obtain ⟨c0, c1, c2, c3, c4, c5, c6, c7, c8, c9, c10, c11, _⟩ := hc
  have c0 : 1 * g 9 ≤ 25 := d1 c0
  have c1 : (-1) * g 9 ≤ (-25) := d1 c1
  have c2 : 1 * g 14 ≤ 1 := d1 c2
  have c3 : (-1) * g 14 ≤ (-1) := d1 c3
  have c4 : (-1) * g 6 + 1 * g 11 ≤ 0 := d2 c4
  have c5 : 1 * g 6 + (-1) * g 11 ≤ 0 := d2 c5
  have c6 : (-1) * g 5 + 1 * g 10 ≤ 1 := d2 c6
  have c7 : 1 * g 5 + (-1) * g 10 ≤ (-1) := d2 c7
  have c8 : (-1) * g 12 ≤ 0 := d1 c8
  have c9 : 1 * g 2 + (-1) * g 12 ≤ 0 := d2 c9
  have c10 : (-1) * g 2 + 1 * g 12 ≤ 0 := d2 c10
  have c11 : (-1) * g 4 ≤ (-6) := d1 c11
  obtain ⟨h0, k_tok, k_sc1, k_sc2, k_T, k_I, k_F, k_N, k_Y, k_Z, k_A, k_B, k_C, k_X, k_R, k_f4⟩ := hS (by rw [t1199]; exact fun e => by cases e)
  have k_tok0 := k_tok
  obtain ⟨h_L, h_n, h_nF⟩ := k_tok0
  have k_I0 := k_I
  obtain ⟨h_p, h_pc, h_ip, h_iP, h_PC, h_PN⟩ := k_I0
  have k_A0 := k_A
  obtain ⟨h_A0, h_A⟩ := k_A0
  have k_B0 := k_B
  obtain ⟨h_B0, h_B, h_Bd0, h_B26, h_B22, h_Bs⟩ := k_B0
  obtain ⟨hn0, _, hNT⟩ := h_nF _ t1102
  have hB := h_B _ _ _ _ _ _ t1102 t1140 t1141 t1142 t1143 t1144
  have rB := hB.1
  have hA := h_A _ _ _ _ _ _ t1102 t1130 t1131 t1132 t1133 t1134
  have rA := hA.1
  have ea : (g 11).toNat = (g 6).toNat := by omega
  have ed : (g 10).toNat = (g 5).toNat + 1 := by omega
  obtain ⟨hr1, hr2, hr3, hR⟩ := RI_p hA 1 (by omega) (by omega)
  rw [ea, ed] at hR
  obtain ⟨⟨hi0, hi1⟩, hpi⟩ := h_ip _ _ _ t1102 t1122 t1123
  have eb : (g 2).toNat = (g 12).toNat := by omega
  rw [eb] at hpi
  have ep : (g 3).toNat = Tp9 (tx9 m) (g 12).toNat := by omega
  have hcc := h_pc _ _ t1123 t1124
  rw [ep] at hcc
  obtain ⟨y1, y2⟩ := RI_b hB 25 (by omega) (m_cn 11 hR (kq (a := 6) (b := 51) (fun k => k ≠ 11) (by decide) (by omega) rc_le))
  exact ⟨rfl, ⟨f2 (by omega), f2 (by omega), f1 (by omega), f1 (by omega), trivial⟩, trivial, fun _ => ⟨h0, k_tok, k_sc1, k_sc2, k_T, k_I, k_F, k_N, k_Y, k_Z, k_A, k_B, k_C, k_X, k_R, k_f4⟩⟩
noncomputable def ru_c21x : Ru := ([(0, (1199, (0, (0, 0)))), (0, (1102, (0, (0, 0)))), (0, (1140, (0, (0, 0)))), (0, (1141, (0, (0, 0)))), (0, (1142, (0, (0, 0)))), (0, (1143, (0, (0, 0)))), (0, (1144, (0, (0, 0)))), (0, (1130, (0, (0, 0)))), (0, (1131, (0, (0, 0)))), (0, (1132, (0, (0, 0)))), (0, (1133, (0, (0, 0)))), (0, (1134, (0, (0, 0))))], ([], ([([(6, 1)], 21), ([(6, (-1))], (-21)), ([(11, 1)], 1), ([(11, (-1))], (-1)), ([(3, (-1)), (8, 1)], 0), ([(3, 1), (8, (-1))], 0), ([(2, (-1)), (7, 1)], 1), ([(2, 1), (7, (-1))], (-1)), ([(9, 1)], (-1))], (false, ([([(5, 1), (10, (-1))], 0), ([(5, (-1)), (10, 1)], 0), ([(4, 1)], (-1)), ([(4, (-1))], 1)], ([], ([], none)))))))
theorem rk_c21x : RuOk SR ru_c21x := by
  intro τ m g hi hc ha hS
  obtain ⟨i0, i1, i2, i3, i4, i5, i6, i7, i8, i9, i10, i11, _⟩ := hi
  have t1199 : τ 1199 = some (g 0) := i0
  have t1102 : τ 1102 = some (g 1) := i1
  have t1140 : τ 1140 = some (g 2) := i2
  have t1141 : τ 1141 = some (g 3) := i3
  have t1142 : τ 1142 = some (g 4) := i4
  have t1143 : τ 1143 = some (g 5) := i5
  have t1144 : τ 1144 = some (g 6) := i6
  have t1130 : τ 1130 = some (g 7) := i7
  have t1131 : τ 1131 = some (g 8) := i8
  have t1132 : τ 1132 = some (g 9) := i9
  have t1133 : τ 1133 = some (g 10) := i10
  have t1134 : τ 1134 = some (g 11) := i11
  obtain ⟨c0, c1, c2, c3, c4, c5, c6, c7, c8, _⟩ := hc
  have c0 : 1 * g 6 ≤ 21 := d1 c0
  have c1 : (-1) * g 6 ≤ (-21) := d1 c1
  have c2 : 1 * g 11 ≤ 1 := d1 c2
  have c3 : (-1) * g 11 ≤ (-1) := d1 c3
  have c4 : (-1) * g 3 + 1 * g 8 ≤ 0 := d2 c4
  have c5 : 1 * g 3 + (-1) * g 8 ≤ 0 := d2 c5
  have c6 : (-1) * g 2 + 1 * g 7 ≤ 1 := d2 c6
  have c7 : 1 * g 2 + (-1) * g 7 ≤ (-1) := d2 c7
  have c8 : 1 * g 9 ≤ (-1) := d1 c8
  obtain ⟨h0, k_tok, k_sc1, k_sc2, k_T, k_I, k_F, k_N, k_Y, k_Z, k_A, k_B, k_C, k_X, k_R, k_f4⟩ := hS (by rw [t1199]; exact fun e => by cases e)
  have k_tok0 := k_tok
  obtain ⟨h_L, h_n, h_nF⟩ := k_tok0
  have k_A0 := k_A
  obtain ⟨h_A0, h_A⟩ := k_A0
  have k_B0 := k_B
  obtain ⟨h_B0, h_B, h_Bd0, h_B26, h_B22, h_Bs⟩ := k_B0
  obtain ⟨hn0, _, hNT⟩ := h_nF _ t1102
  have hB := h_B _ _ _ _ _ _ t1102 t1140 t1141 t1142 t1143 t1144
  have rB := hB.1
  have hA := h_A _ _ _ _ _ _ t1102 t1130 t1131 t1132 t1133 t1134
  have rA := hA.1
  have ea : (g 8).toNat = (g 3).toNat := by omega
  have ed : (g 7).toNat = (g 2).toNat + 1 := by omega
  obtain ⟨hr1, hr2, hR⟩ := RI_n hA 1 (by omega) (by omega)
  rw [ea, ed] at hR
  obtain ⟨y1, y2⟩ := RI_b hB 21 (by omega) (m_cx 10 hR)
  exact ⟨rfl, ⟨f2 (by omega), f2 (by omega), f1 (by omega), f1 (by omega), trivial⟩, trivial, fun _ => ⟨h0, k_tok, k_sc1, k_sc2, k_T, k_I, k_F, k_N, k_Y, k_Z, k_A, k_B, k_C, k_X, k_R, k_f4⟩⟩
noncomputable def ru_c21o : Ru := ([(0, (1199, (0, (0, 0)))), (0, (1102, (0, (0, 0)))), (0, (1122, (0, (0, 0)))), (0, (1123, (0, (0, 0)))), (0, (1124, (0, (0, 0)))), (0, (1140, (0, (0, 0)))), (0, (1141, (0, (0, 0)))), (0, (1142, (0, (0, 0)))), (0, (1143, (0, (0, 0)))), (0, (1144, (0, (0, 0)))), (0, (1130, (0, (0, 0)))), (0, (1131, (0, (0, 0)))), (0, (1132, (0, (0, 0)))), (0, (1133, (0, (0, 0)))), (0, (1134, (0, (0, 0))))], ([], ([([(9, 1)], 21), ([(9, (-1))], (-21)), ([(14, 1)], 1), ([(14, (-1))], (-1)), ([(6, (-1)), (11, 1)], 0), ([(6, 1), (11, (-1))], 0), ([(5, (-1)), (10, 1)], 1), ([(5, 1), (10, (-1))], (-1)), ([(12, (-1))], 0), ([(2, 1), (12, (-1))], 0), ([(2, (-1)), (12, 1)], 0), ([(4, (-1))], (-7)), ([(4, 1)], 7)], (false, ([([(7, 1), (12, (-1))], 1), ([(7, (-1)), (12, 1)], (-1)), ([(8, 1)], (-1)), ([(8, (-1))], 1)], ([], ([], none)))))))
theorem rk_c21o : RuOk SR ru_c21o := by
  intro τ m g hi hc ha hS
  obtain ⟨i0, i1, i2, i3, i4, i5, i6, i7, i8, i9, i10, i11, i12, i13, i14, _⟩ := hi
  have t1199 : τ 1199 = some (g 0) := i0
  have t1102 : τ 1102 = some (g 1) := i1
  have t1122 : τ 1122 = some (g 2) := i2
  have t1123 : τ 1123 = some (g 3) := i3
  have t1124 : τ 1124 = some (g 4) := i4
  have t1140 : τ 1140 = some (g 5) := i5
  have t1141 : τ 1141 = some (g 6) := i6
  have t1142 : τ 1142 = some (g 7) := i7
  have t1143 : τ 1143 = some (g 8) := i8
  have t1144 : τ 1144 = some (g 9) := i9
  have t1130 : τ 1130 = some (g 10) := i10
  have t1131 : τ 1131 = some (g 11) := i11
  have t1132 : τ 1132 = some (g 12) := i12
  have t1133 : τ 1133 = some (g 13) := i13
  have t1134 : τ 1134 = some (g 14) := i14
  obtain ⟨c0, c1, c2, c3, c4, c5, c6, c7, c8, c9, c10, c11, c12, _⟩ := hc
  have c0 : 1 * g 9 ≤ 21 := d1 c0
  have c1 : (-1) * g 9 ≤ (-21) := d1 c1
  have c2 : 1 * g 14 ≤ 1 := d1 c2
  have c3 : (-1) * g 14 ≤ (-1) := d1 c3
  have c4 : (-1) * g 6 + 1 * g 11 ≤ 0 := d2 c4
  have c5 : 1 * g 6 + (-1) * g 11 ≤ 0 := d2 c5
  have c6 : (-1) * g 5 + 1 * g 10 ≤ 1 := d2 c6
  have c7 : 1 * g 5 + (-1) * g 10 ≤ (-1) := d2 c7
  have c8 : (-1) * g 12 ≤ 0 := d1 c8
  have c9 : 1 * g 2 + (-1) * g 12 ≤ 0 := d2 c9
  have c10 : (-1) * g 2 + 1 * g 12 ≤ 0 := d2 c10
  have c11 : (-1) * g 4 ≤ (-7) := d1 c11
  have c12 : 1 * g 4 ≤ 7 := d1 c12
  obtain ⟨h0, k_tok, k_sc1, k_sc2, k_T, k_I, k_F, k_N, k_Y, k_Z, k_A, k_B, k_C, k_X, k_R, k_f4⟩ := hS (by rw [t1199]; exact fun e => by cases e)
  have k_tok0 := k_tok
  obtain ⟨h_L, h_n, h_nF⟩ := k_tok0
  have k_I0 := k_I
  obtain ⟨h_p, h_pc, h_ip, h_iP, h_PC, h_PN⟩ := k_I0
  have k_A0 := k_A
  obtain ⟨h_A0, h_A⟩ := k_A0
  have k_B0 := k_B
  obtain ⟨h_B0, h_B, h_Bd0, h_B26, h_B22, h_Bs⟩ := k_B0
  obtain ⟨hn0, _, hNT⟩ := h_nF _ t1102
  have hB := h_B _ _ _ _ _ _ t1102 t1140 t1141 t1142 t1143 t1144
  have rB := hB.1
  have hA := h_A _ _ _ _ _ _ t1102 t1130 t1131 t1132 t1133 t1134
  have rA := hA.1
  have ea : (g 11).toNat = (g 6).toNat := by omega
  have ed : (g 10).toNat = (g 5).toNat + 1 := by omega
  obtain ⟨hr1, hr2, hr3, hR⟩ := RI_p hA 1 (by omega) (by omega)
  rw [ea, ed] at hR
  obtain ⟨⟨hi0, hi1⟩, hpi⟩ := h_ip _ _ _ t1102 t1122 t1123
  have eb : (g 2).toNat = (g 12).toNat := by omega
  rw [eb] at hpi
  have ep : (g 3).toNat = Tp9 (tx9 m) (g 12).toNat := by omega
  have hcc := h_pc _ _ t1123 t1124
  rw [ep] at hcc
  obtain ⟨y1, y2⟩ := RI_f hNT hB 21 (by omega) (j := (g 12).toNat + 1) (NT_next hNT (i := (g 12).toNat) (by omega) (by omega)) (m_co 10 hR (kq (fun k => k = 10) (by decide) (by omega : 7 ≤ _) (by omega : _ ≤ 7)))
  exact ⟨rfl, ⟨f2 (by omega), f2 (by omega), f1 (by omega), f1 (by omega), trivial⟩, trivial, fun _ => ⟨h0, k_tok, k_sc1, k_sc2, k_T, k_I, k_F, k_N, k_Y, k_Z, k_A, k_B, k_C, k_X, k_R, k_f4⟩⟩
noncomputable def ru_c21na : Ru := ([(0, (1199, (0, (0, 0)))), (0, (1102, (0, (0, 0)))), (0, (1122, (0, (0, 0)))), (0, (1123, (0, (0, 0)))), (0, (1124, (0, (0, 0)))), (0, (1140, (0, (0, 0)))), (0, (1141, (0, (0, 0)))), (0, (1142, (0, (0, 0)))), (0, (1143, (0, (0, 0)))), (0, (1144, (0, (0, 0)))), (0, (1130, (0, (0, 0)))), (0, (1131, (0, (0, 0)))), (0, (1132, (0, (0, 0)))), (0, (1133, (0, (0, 0)))), (0, (1134, (0, (0, 0))))], ([], ([([(9, 1)], 21), ([(9, (-1))], (-21)), ([(14, 1)], 1), ([(14, (-1))], (-1)), ([(6, (-1)), (11, 1)], 0), ([(6, 1), (11, (-1))], 0), ([(5, (-1)), (10, 1)], 1), ([(5, 1), (10, (-1))], (-1)), ([(12, (-1))], 0), ([(2, 1), (12, (-1))], 0), ([(2, (-1)), (12, 1)], 0), ([(4, 1)], 6)], (false, ([([(3, (-1)), (8, 1)], 0), ([(3, 1), (8, (-1))], 0), ([(7, 1)], (-1)), ([(7, (-1))], 1)], ([], ([], none)))))))
theorem rk_c21na : RuOk SR ru_c21na := by
  intro τ m g hi hc ha hS
  obtain ⟨i0, i1, i2, i3, i4, i5, i6, i7, i8, i9, i10, i11, i12, i13, i14, _⟩ := hi
  have t1199 : τ 1199 = some (g 0) := i0
  have t1102 : τ 1102 = some (g 1) := i1
  have t1122 : τ 1122 = some (g 2) := i2
  have t1123 : τ 1123 = some (g 3) := i3
  have t1124 : τ 1124 = some (g 4) := i4
  have t1140 : τ 1140 = some (g 5) := i5
  have t1141 : τ 1141 = some (g 6) := i6
  have t1142 : τ 1142 = some (g 7) := i7
  have t1143 : τ 1143 = some (g 8) := i8
  have t1144 : τ 1144 = some (g 9) := i9
  have t1130 : τ 1130 = some (g 10) := i10
  have t1131 : τ 1131 = some (g 11) := i11
  have t1132 : τ 1132 = some (g 12) := i12
  have t1133 : τ 1133 = some (g 13) := i13
  have t1134 : τ 1134 = some (g 14) := i14
  obtain ⟨c0, c1, c2, c3, c4, c5, c6, c7, c8, c9, c10, c11, _⟩ := hc
  have c0 : 1 * g 9 ≤ 21 := d1 c0
  have c1 : (-1) * g 9 ≤ (-21) := d1 c1
  have c2 : 1 * g 14 ≤ 1 := d1 c2
  have c3 : (-1) * g 14 ≤ (-1) := d1 c3
  have c4 : (-1) * g 6 + 1 * g 11 ≤ 0 := d2 c4
  have c5 : 1 * g 6 + (-1) * g 11 ≤ 0 := d2 c5
  have c6 : (-1) * g 5 + 1 * g 10 ≤ 1 := d2 c6
  have c7 : 1 * g 5 + (-1) * g 10 ≤ (-1) := d2 c7
  have c8 : (-1) * g 12 ≤ 0 := d1 c8
  have c9 : 1 * g 2 + (-1) * g 12 ≤ 0 := d2 c9
  have c10 : (-1) * g 2 + 1 * g 12 ≤ 0 := d2 c10
  have c11 : 1 * g 4 ≤ 6 := d1 c11
  obtain ⟨h0, k_tok, k_sc1, k_sc2, k_T, k_I, k_F, k_N, k_Y, k_Z, k_A, k_B, k_C, k_X, k_R, k_f4⟩ := hS (by rw [t1199]; exact fun e => by cases e)
  have k_tok0 := k_tok
  obtain ⟨h_L, h_n, h_nF⟩ := k_tok0
  have k_I0 := k_I
  obtain ⟨h_p, h_pc, h_ip, h_iP, h_PC, h_PN⟩ := k_I0
  have k_A0 := k_A
  obtain ⟨h_A0, h_A⟩ := k_A0
  have k_B0 := k_B
  obtain ⟨h_B0, h_B, h_Bd0, h_B26, h_B22, h_Bs⟩ := k_B0
  obtain ⟨hn0, _, hNT⟩ := h_nF _ t1102
  have hB := h_B _ _ _ _ _ _ t1102 t1140 t1141 t1142 t1143 t1144
  have rB := hB.1
  have hA := h_A _ _ _ _ _ _ t1102 t1130 t1131 t1132 t1133 t1134
  have rA := hA.1
  have ea : (g 11).toNat = (g 6).toNat := by omega
  have ed : (g 10).toNat = (g 5).toNat + 1 := by omega
  obtain ⟨hr1, hr2, hr3, hR⟩ := RI_p hA 1 (by omega) (by omega)
  rw [ea, ed] at hR
  obtain ⟨⟨hi0, hi1⟩, hpi⟩ := h_ip _ _ _ t1102 t1122 t1123
  have eb : (g 2).toNat = (g 12).toNat := by omega
  rw [eb] at hpi
  have ep : (g 3).toNat = Tp9 (tx9 m) (g 12).toNat := by omega
  have hcc := h_pc _ _ t1123 t1124
  rw [ep] at hcc
  obtain ⟨y1, y2⟩ := RI_b hB 21 (by omega) (m_cn 10 hR (kq (a := 0) (b := 6) (fun k => k ≠ 10) (by decide) (Nat.zero_le _) (by omega)))
  exact ⟨rfl, ⟨f2 (by omega), f2 (by omega), f1 (by omega), f1 (by omega), trivial⟩, trivial, fun _ => ⟨h0, k_tok, k_sc1, k_sc2, k_T, k_I, k_F, k_N, k_Y, k_Z, k_A, k_B, k_C, k_X, k_R, k_f4⟩⟩
noncomputable def ru_c21nb : Ru := ([(0, (1199, (0, (0, 0)))), (0, (1102, (0, (0, 0)))), (0, (1122, (0, (0, 0)))), (0, (1123, (0, (0, 0)))), (0, (1124, (0, (0, 0)))), (0, (1140, (0, (0, 0)))), (0, (1141, (0, (0, 0)))), (0, (1142, (0, (0, 0)))), (0, (1143, (0, (0, 0)))), (0, (1144, (0, (0, 0)))), (0, (1130, (0, (0, 0)))), (0, (1131, (0, (0, 0)))), (0, (1132, (0, (0, 0)))), (0, (1133, (0, (0, 0)))), (0, (1134, (0, (0, 0))))], ([], ([([(9, 1)], 21), ([(9, (-1))], (-21)), ([(14, 1)], 1), ([(14, (-1))], (-1)), ([(6, (-1)), (11, 1)], 0), ([(6, 1), (11, (-1))], 0), ([(5, (-1)), (10, 1)], 1), ([(5, 1), (10, (-1))], (-1)), ([(12, (-1))], 0), ([(2, 1), (12, (-1))], 0), ([(2, (-1)), (12, 1)], 0), ([(4, (-1))], (-8))], (false, ([([(3, (-1)), (8, 1)], 0), ([(3, 1), (8, (-1))], 0), ([(7, 1)], (-1)), ([(7, (-1))], 1)], ([], ([], none)))))))
theorem rk_c21nb : RuOk SR ru_c21nb := by
  intro τ m g hi hc ha hS
  obtain ⟨i0, i1, i2, i3, i4, i5, i6, i7, i8, i9, i10, i11, i12, i13, i14, _⟩ := hi
  have t1199 : τ 1199 = some (g 0) := i0
  have t1102 : τ 1102 = some (g 1) := i1
  have t1122 : τ 1122 = some (g 2) := i2
  have t1123 : τ 1123 = some (g 3) := i3
  have t1124 : τ 1124 = some (g 4) := i4
  have t1140 : τ 1140 = some (g 5) := i5
  have t1141 : τ 1141 = some (g 6) := i6
  have t1142 : τ 1142 = some (g 7) := i7
  have t1143 : τ 1143 = some (g 8) := i8
  have t1144 : τ 1144 = some (g 9) := i9
  have t1130 : τ 1130 = some (g 10) := i10
  have t1131 : τ 1131 = some (g 11) := i11
  have t1132 : τ 1132 = some (g 12) := i12
  have t1133 : τ 1133 = some (g 13) := i13
  have t1134 : τ 1134 = some (g 14) := i14
  obtain ⟨c0, c1, c2, c3, c4, c5, c6, c7, c8, c9, c10, c11, _⟩ := hc
  have c0 : 1 * g 9 ≤ 21 := d1 c0
  have c1 : (-1) * g 9 ≤ (-21) := d1 c1
  have c2 : 1 * g 14 ≤ 1 := d1 c2
  have c3 : (-1) * g 14 ≤ (-1) := d1 c3
  have c4 : (-1) * g 6 + 1 * g 11 ≤ 0 := d2 c4
  have c5 : 1 * g 6 + (-1) * g 11 ≤ 0 := d2 c5
  have c6 : (-1) * g 5 + 1 * g 10 ≤ 1 := d2 c6
  have c7 : 1 * g 5 + (-1) * g 10 ≤ (-1) := d2 c7
  have c8 : (-1) * g 12 ≤ 0 := d1 c8
  have c9 : 1 * g 2 + (-1) * g 12 ≤ 0 := d2 c9
  have c10 : (-1) * g 2 + 1 * g 12 ≤ 0 := d2 c10
  have c11 : (-1) * g 4 ≤ (-8) := d1 c11
  obtain ⟨h0, k_tok, k_sc1, k_sc2, k_T, k_I, k_F, k_N, k_Y, k_Z, k_A, k_B, k_C, k_X, k_R, k_f4⟩ := hS (by rw [t1199]; exact fun e => by cases e)
  have k_tok0 := k_tok
  obtain ⟨h_L, h_n, h_nF⟩ := k_tok0
  have k_I0 := k_I
  obtain ⟨h_p, h_pc, h_ip, h_iP, h_PC, h_PN⟩ := k_I0
  have k_A0 := k_A
  obtain ⟨h_A0, h_A⟩ := k_A0
  have k_B0 := k_B
  obtain ⟨h_B0, h_B, h_Bd0, h_B26, h_B22, h_Bs⟩ := k_B0
  obtain ⟨hn0, _, hNT⟩ := h_nF _ t1102
  have hB := h_B _ _ _ _ _ _ t1102 t1140 t1141 t1142 t1143 t1144
  have rB := hB.1
  have hA := h_A _ _ _ _ _ _ t1102 t1130 t1131 t1132 t1133 t1134
  have rA := hA.1
  have ea : (g 11).toNat = (g 6).toNat := by omega
  have ed : (g 10).toNat = (g 5).toNat + 1 := by omega
  obtain ⟨hr1, hr2, hr3, hR⟩ := RI_p hA 1 (by omega) (by omega)
  rw [ea, ed] at hR
  obtain ⟨⟨hi0, hi1⟩, hpi⟩ := h_ip _ _ _ t1102 t1122 t1123
  have eb : (g 2).toNat = (g 12).toNat := by omega
  rw [eb] at hpi
  have ep : (g 3).toNat = Tp9 (tx9 m) (g 12).toNat := by omega
  have hcc := h_pc _ _ t1123 t1124
  rw [ep] at hcc
  obtain ⟨y1, y2⟩ := RI_b hB 21 (by omega) (m_cn 10 hR (kq (a := 8) (b := 51) (fun k => k ≠ 10) (by decide) (by omega) rc_le))
  exact ⟨rfl, ⟨f2 (by omega), f2 (by omega), f1 (by omega), f1 (by omega), trivial⟩, trivial, fun _ => ⟨h0, k_tok, k_sc1, k_sc2, k_T, k_I, k_F, k_N, k_Y, k_Z, k_A, k_B, k_C, k_X, k_R, k_f4⟩⟩
noncomputable def ru_iX : Ru := ([(0, (1199, (0, (0, 0)))), (0, (1102, (0, (0, 0)))), (0, (1140, (0, (0, 0)))), (0, (1141, (0, (0, 0)))), (0, (1142, (0, (0, 0)))), (0, (1143, (0, (0, 0)))), (0, (1144, (0, (0, 0)))), (0, (1130, (0, (0, 0)))), (0, (1131, (0, (0, 0)))), (0, (1132, (0, (0, 0)))), (0, (1133, (0, (0, 0)))), (0, (1134, (0, (0, 0))))], ([], ([([(6, 1)], 20), ([(6, (-1))], (-20)), ([(11, 1)], 9), ([(11, (-1))], (-9)), ([(3, (-1)), (8, 1)], 0), ([(3, 1), (8, (-1))], 0), ([(9, 1)], (-1))], (false, ([([(5, 1), (10, (-1))], 0), ([(5, (-1)), (10, 1)], 0), ([(4, 1)], (-1)), ([(4, (-1))], 1)], ([], ([], none)))))))
theorem rk_iX : RuOk SR ru_iX := by
  intro τ m g hi hc ha hS
  obtain ⟨i0, i1, i2, i3, i4, i5, i6, i7, i8, i9, i10, i11, _⟩ := hi
  have t1199 : τ 1199 = some (g 0) := i0
  have t1102 : τ 1102 = some (g 1) := i1
  have t1140 : τ 1140 = some (g 2) := i2
  have t1141 : τ 1141 = some (g 3) := i3
  have t1142 : τ 1142 = some (g 4) := i4
  have t1143 : τ 1143 = some (g 5) := i5
  have t1144 : τ 1144 = some (g 6) := i6
  have t1130 : τ 1130 = some (g 7) := i7
  have t1131 : τ 1131 = some (g 8) := i8
  have t1132 : τ 1132 = some (g 9) := i9
  have t1133 : τ 1133 = some (g 10) := i10
  have t1134 : τ 1134 = some (g 11) := i11
  obtain ⟨c0, c1, c2, c3, c4, c5, c6, _⟩ := hc
  have c0 : 1 * g 6 ≤ 20 := d1 c0
  have c1 : (-1) * g 6 ≤ (-20) := d1 c1
  have c2 : 1 * g 11 ≤ 9 := d1 c2
  have c3 : (-1) * g 11 ≤ (-9) := d1 c3
  have c4 : (-1) * g 3 + 1 * g 8 ≤ 0 := d2 c4
  have c5 : 1 * g 3 + (-1) * g 8 ≤ 0 := d2 c5
  have c6 : 1 * g 9 ≤ (-1) := d1 c6
  obtain ⟨h0, k_tok, k_sc1, k_sc2, k_T, k_I, k_F, k_N, k_Y, k_Z, k_A, k_B, k_C, k_X, k_R, k_f4⟩ := hS (by rw [t1199]; exact fun e => by cases e)
  have k_tok0 := k_tok
  obtain ⟨h_L, h_n, h_nF⟩ := k_tok0
  have k_A0 := k_A
  obtain ⟨h_A0, h_A⟩ := k_A0
  have k_B0 := k_B
  obtain ⟨h_B0, h_B, h_Bd0, h_B26, h_B22, h_Bs⟩ := k_B0
  obtain ⟨hn0, _, hNT⟩ := h_nF _ t1102
  have hB := h_B _ _ _ _ _ _ t1102 t1140 t1141 t1142 t1143 t1144
  have rB := hB.1
  have hA := h_A _ _ _ _ _ _ t1102 t1130 t1131 t1132 t1133 t1134
  have rA := hA.1
  have ea : (g 8).toNat = (g 3).toNat := by omega
  obtain ⟨hr1, hr2, hR⟩ := RI_n hA 9 (by omega) (by omega)
  rw [ea] at hR
  obtain ⟨y1, y2⟩ := RI_b hB 20 (by omega) (m_ix hR)
  exact ⟨rfl, ⟨f2 (by omega), f2 (by omega), f1 (by omega), f1 (by omega), trivial⟩, trivial, fun _ => ⟨h0, k_tok, k_sc1, k_sc2, k_T, k_I, k_F, k_N, k_Y, k_Z, k_A, k_B, k_C, k_X, k_R, k_f4⟩⟩
noncomputable def ru_iNa : Ru := ([(0, (1199, (0, (0, 0)))), (0, (1102, (0, (0, 0)))), (0, (1122, (0, (0, 0)))), (0, (1123, (0, (0, 0)))), (0, (1124, (0, (0, 0)))), (0, (1140, (0, (0, 0)))), (0, (1141, (0, (0, 0)))), (0, (1142, (0, (0, 0)))), (0, (1143, (0, (0, 0)))), (0, (1144, (0, (0, 0)))), (0, (1130, (0, (0, 0)))), (0, (1131, (0, (0, 0)))), (0, (1132, (0, (0, 0)))), (0, (1133, (0, (0, 0)))), (0, (1134, (0, (0, 0))))], ([], ([([(9, 1)], 20), ([(9, (-1))], (-20)), ([(14, 1)], 9), ([(14, (-1))], (-9)), ([(6, (-1)), (11, 1)], 0), ([(6, 1), (11, (-1))], 0), ([(12, (-1))], 0), ([(2, 1), (12, (-1))], 0), ([(2, (-1)), (12, 1)], 0), ([(4, 1)], 5)], (false, ([([(7, 1), (12, (-1))], 0), ([(7, (-1)), (12, 1)], 0), ([(8, 1)], (-1)), ([(8, (-1))], 1)], ([], ([], none)))))))
theorem rk_iNa : RuOk SR ru_iNa := by
  intro τ m g hi hc ha hS
  obtain ⟨i0, i1, i2, i3, i4, i5, i6, i7, i8, i9, i10, i11, i12, i13, i14, _⟩ := hi
  have t1199 : τ 1199 = some (g 0) := i0
  have t1102 : τ 1102 = some (g 1) := i1
  have t1122 : τ 1122 = some (g 2) := i2
  have t1123 : τ 1123 = some (g 3) := i3
  have t1124 : τ 1124 = some (g 4) := i4
  have t1140 : τ 1140 = some (g 5) := i5
  have t1141 : τ 1141 = some (g 6) := i6
  have t1142 : τ 1142 = some (g 7) := i7
  have t1143 : τ 1143 = some (g 8) := i8
  have t1144 : τ 1144 = some (g 9) := i9
  have t1130 : τ 1130 = some (g 10) := i10
  have t1131 : τ 1131 = some (g 11) := i11
  have t1132 : τ 1132 = some (g 12) := i12
  have t1133 : τ 1133 = some (g 13) := i13
  have t1134 : τ 1134 = some (g 14) := i14
  obtain ⟨c0, c1, c2, c3, c4, c5, c6, c7, c8, c9, _⟩ := hc
  have c0 : 1 * g 9 ≤ 20 := d1 c0
  have c1 : (-1) * g 9 ≤ (-20) := d1 c1
  have c2 : 1 * g 14 ≤ 9 := d1 c2
  have c3 : (-1) * g 14 ≤ (-9) := d1 c3
  have c4 : (-1) * g 6 + 1 * g 11 ≤ 0 := d2 c4
  have c5 : 1 * g 6 + (-1) * g 11 ≤ 0 := d2 c5
  have c6 : (-1) * g 12 ≤ 0 := d1 c6
  have c7 : 1 * g 2 + (-1) * g 12 ≤ 0 := d2 c7
  have c8 : (-1) * g 2 + 1 * g 12 ≤ 0 := d2 c8
  have c9 : 1 * g 4 ≤ 5 := d1 c9
  obtain ⟨h0, k_tok, k_sc1, k_sc2, k_T, k_I, k_F, k_N, k_Y, k_Z, k_A, k_B, k_C, k_X, k_R, k_f4⟩ := hS (by rw [t1199]; exact fun e => by cases e)
  have k_tok0 := k_tok
  obtain ⟨h_L, h_n, h_nF⟩ := k_tok0
  have k_I0 := k_I
  obtain ⟨h_p, h_pc, h_ip, h_iP, h_PC, h_PN⟩ := k_I0
  have k_A0 := k_A
  obtain ⟨h_A0, h_A⟩ := k_A0
  have k_B0 := k_B
  obtain ⟨h_B0, h_B, h_Bd0, h_B26, h_B22, h_Bs⟩ := k_B0
  obtain ⟨hn0, _, hNT⟩ := h_nF _ t1102
  have hB := h_B _ _ _ _ _ _ t1102 t1140 t1141 t1142 t1143 t1144
  have rB := hB.1
  have hA := h_A _ _ _ _ _ _ t1102 t1130 t1131 t1132 t1133 t1134
  have rA := hA.1
  have ea : (g 11).toNat = (g 6).toNat := by omega
  obtain ⟨hr1, hr2, hr3, hR⟩ := RI_p hA 9 (by omega) (by omega)
  rw [ea] at hR
  obtain ⟨⟨hi0, hi1⟩, hpi⟩ := h_ip _ _ _ t1102 t1122 t1123
  have eb : (g 2).toNat = (g 12).toNat := by omega
  rw [eb] at hpi
  have ep : (g 3).toNat = Tp9 (tx9 m) (g 12).toNat := by omega
  have hcc := h_pc _ _ t1123 t1124
  rw [ep] at hcc
  obtain ⟨y1, y2⟩ := RI_f hNT hB 20 (by omega) (j := (g 12).toNat) (hr1) (m_in0 hR (kq (a := 0) (b := 5) (fun k => k ≠ 9) (by decide) (Nat.zero_le _) (by omega)))
  exact ⟨rfl, ⟨f2 (by omega), f2 (by omega), f1 (by omega), f1 (by omega), trivial⟩, trivial, fun _ => ⟨h0, k_tok, k_sc1, k_sc2, k_T, k_I, k_F, k_N, k_Y, k_Z, k_A, k_B, k_C, k_X, k_R, k_f4⟩⟩
noncomputable def ru_iNb : Ru := ([(0, (1199, (0, (0, 0)))), (0, (1102, (0, (0, 0)))), (0, (1122, (0, (0, 0)))), (0, (1123, (0, (0, 0)))), (0, (1124, (0, (0, 0)))), (0, (1140, (0, (0, 0)))), (0, (1141, (0, (0, 0)))), (0, (1142, (0, (0, 0)))), (0, (1143, (0, (0, 0)))), (0, (1144, (0, (0, 0)))), (0, (1130, (0, (0, 0)))), (0, (1131, (0, (0, 0)))), (0, (1132, (0, (0, 0)))), (0, (1133, (0, (0, 0)))), (0, (1134, (0, (0, 0))))], ([], ([([(9, 1)], 20), ([(9, (-1))], (-20)), ([(14, 1)], 9), ([(14, (-1))], (-9)), ([(6, (-1)), (11, 1)], 0), ([(6, 1), (11, (-1))], 0), ([(12, (-1))], 0), ([(2, 1), (12, (-1))], 0), ([(2, (-1)), (12, 1)], 0), ([(4, (-1))], (-7))], (false, ([([(7, 1), (12, (-1))], 0), ([(7, (-1)), (12, 1)], 0), ([(8, 1)], (-1)), ([(8, (-1))], 1)], ([], ([], none)))))))
theorem rk_iNb : RuOk SR ru_iNb := by
  intro τ m g hi hc ha hS
  obtain ⟨i0, i1, i2, i3, i4, i5, i6, i7, i8, i9, i10, i11, i12, i13, i14, _⟩ := hi
  have t1199 : τ 1199 = some (g 0) := i0
  have t1102 : τ 1102 = some (g 1) := i1
  have t1122 : τ 1122 = some (g 2) := i2
  have t1123 : τ 1123 = some (g 3) := i3
  have t1124 : τ 1124 = some (g 4) := i4
  have t1140 : τ 1140 = some (g 5) := i5
  have t1141 : τ 1141 = some (g 6) := i6
  have t1142 : τ 1142 = some (g 7) := i7
  have t1143 : τ 1143 = some (g 8) := i8
  have t1144 : τ 1144 = some (g 9) := i9
  have t1130 : τ 1130 = some (g 10) := i10
  have t1131 : τ 1131 = some (g 11) := i11
  have t1132 : τ 1132 = some (g 12) := i12
  have t1133 : τ 1133 = some (g 13) := i13
  have t1134 : τ 1134 = some (g 14) := i14
  obtain ⟨c0, c1, c2, c3, c4, c5, c6, c7, c8, c9, _⟩ := hc
  have c0 : 1 * g 9 ≤ 20 := d1 c0
  have c1 : (-1) * g 9 ≤ (-20) := d1 c1
  have c2 : 1 * g 14 ≤ 9 := d1 c2
  have c3 : (-1) * g 14 ≤ (-9) := d1 c3
  have c4 : (-1) * g 6 + 1 * g 11 ≤ 0 := d2 c4
  have c5 : 1 * g 6 + (-1) * g 11 ≤ 0 := d2 c5
  have c6 : (-1) * g 12 ≤ 0 := d1 c6
  have c7 : 1 * g 2 + (-1) * g 12 ≤ 0 := d2 c7
  have c8 : (-1) * g 2 + 1 * g 12 ≤ 0 := d2 c8
  have c9 : (-1) * g 4 ≤ (-7) := d1 c9
  obtain ⟨h0, k_tok, k_sc1, k_sc2, k_T, k_I, k_F, k_N, k_Y, k_Z, k_A, k_B, k_C, k_X, k_R, k_f4⟩ := hS (by rw [t1199]; exact fun e => by cases e)
  have k_tok0 := k_tok
  obtain ⟨h_L, h_n, h_nF⟩ := k_tok0
  have k_I0 := k_I
  obtain ⟨h_p, h_pc, h_ip, h_iP, h_PC, h_PN⟩ := k_I0
  have k_A0 := k_A
  obtain ⟨h_A0, h_A⟩ := k_A0
  have k_B0 := k_B
  obtain ⟨h_B0, h_B, h_Bd0, h_B26, h_B22, h_Bs⟩ := k_B0
  obtain ⟨hn0, _, hNT⟩ := h_nF _ t1102
  have hB := h_B _ _ _ _ _ _ t1102 t1140 t1141 t1142 t1143 t1144
  have rB := hB.1
  have hA := h_A _ _ _ _ _ _ t1102 t1130 t1131 t1132 t1133 t1134
  have rA := hA.1
  have ea : (g 11).toNat = (g 6).toNat := by omega
  obtain ⟨hr1, hr2, hr3, hR⟩ := RI_p hA 9 (by omega) (by omega)
  rw [ea] at hR
  obtain ⟨⟨hi0, hi1⟩, hpi⟩ := h_ip _ _ _ t1102 t1122 t1123
  have eb : (g 2).toNat = (g 12).toNat := by omega
  rw [eb] at hpi
  have ep : (g 3).toNat = Tp9 (tx9 m) (g 12).toNat := by omega
  have hcc := h_pc _ _ t1123 t1124
  rw [ep] at hcc
  obtain ⟨y1, y2⟩ := RI_f hNT hB 20 (by omega) (j := (g 12).toNat) (hr1) (m_in0 hR (kq (a := 7) (b := 51) (fun k => k ≠ 9) (by decide) (by omega) rc_le))
  exact ⟨rfl, ⟨f2 (by omega), f2 (by omega), f1 (by omega), f1 (by omega), trivial⟩, trivial, fun _ => ⟨h0, k_tok, k_sc1, k_sc2, k_T, k_I, k_F, k_N, k_Y, k_Z, k_A, k_B, k_C, k_X, k_R, k_f4⟩⟩
noncomputable def ru_iD : Ru := ([(0, (1199, (0, (0, 0)))), (0, (1102, (0, (0, 0)))), (0, (1122, (0, (0, 0)))), (0, (1123, (0, (0, 0)))), (0, (1124, (0, (0, 0)))), (0, (1140, (0, (0, 0)))), (0, (1141, (0, (0, 0)))), (0, (1142, (0, (0, 0)))), (0, (1143, (0, (0, 0)))), (0, (1144, (0, (0, 0)))), (0, (1130, (0, (0, 0)))), (0, (1131, (0, (0, 0)))), (0, (1132, (0, (0, 0)))), (0, (1133, (0, (0, 0)))), (0, (1134, (0, (0, 0))))], ([], ([([(9, 1)], 20), ([(9, (-1))], (-20)), ([(14, 1)], 9), ([(14, (-1))], (-9)), ([(6, (-1)), (11, 1)], 0), ([(6, 1), (11, (-1))], 0), ([(12, (-1))], 0), ([(2, 1), (12, (-1))], 0), ([(2, (-1)), (12, 1)], 0), ([(5, (-1))], (-20)), ([(4, (-1))], (-6)), ([(4, 1)], 6)], (false, ([([(3, (-1)), (8, 1)], 0), ([(3, 1), (8, (-1))], 0), ([(7, 1)], (-1)), ([(7, (-1))], 1)], ([], ([], none)))))))
theorem rk_iD : RuOk SR ru_iD := by
  intro τ m g hi hc ha hS
  obtain ⟨i0, i1, i2, i3, i4, i5, i6, i7, i8, i9, i10, i11, i12, i13, i14, _⟩ := hi
  have t1199 : τ 1199 = some (g 0) := i0
  have t1102 : τ 1102 = some (g 1) := i1
  have t1122 : τ 1122 = some (g 2) := i2
  have t1123 : τ 1123 = some (g 3) := i3
  have t1124 : τ 1124 = some (g 4) := i4
  have t1140 : τ 1140 = some (g 5) := i5
  have t1141 : τ 1141 = some (g 6) := i6
  have t1142 : τ 1142 = some (g 7) := i7
  have t1143 : τ 1143 = some (g 8) := i8
  have t1144 : τ 1144 = some (g 9) := i9
  have t1130 : τ 1130 = some (g 10) := i10
  have t1131 : τ 1131 = some (g 11) := i11
  have t1132 : τ 1132 = some (g 12) := i12
  have t1133 : τ 1133 = some (g 13) := i13
  have t1134 : τ 1134 = some (g 14) := i14
  obtain ⟨c0, c1, c2, c3, c4, c5, c6, c7, c8, c9, c10, c11, _⟩ := hc
  have c0 : 1 * g 9 ≤ 20 := d1 c0
  have c1 : (-1) * g 9 ≤ (-20) := d1 c1
  have c2 : 1 * g 14 ≤ 9 := d1 c2
  have c3 : (-1) * g 14 ≤ (-9) := d1 c3
  have c4 : (-1) * g 6 + 1 * g 11 ≤ 0 := d2 c4
  have c5 : 1 * g 6 + (-1) * g 11 ≤ 0 := d2 c5
  have c6 : (-1) * g 12 ≤ 0 := d1 c6
  have c7 : 1 * g 2 + (-1) * g 12 ≤ 0 := d2 c7
  have c8 : (-1) * g 2 + 1 * g 12 ≤ 0 := d2 c8
  have c9 : (-1) * g 5 ≤ (-20) := d1 c9
  have c10 : (-1) * g 4 ≤ (-6) := d1 c10
  have c11 : 1 * g 4 ≤ 6 := d1 c11
  obtain ⟨h0, k_tok, k_sc1, k_sc2, k_T, k_I, k_F, k_N, k_Y, k_Z, k_A, k_B, k_C, k_X, k_R, k_f4⟩ := hS (by rw [t1199]; exact fun e => by cases e)
  have k_tok0 := k_tok
  obtain ⟨h_L, h_n, h_nF⟩ := k_tok0
  have k_I0 := k_I
  obtain ⟨h_p, h_pc, h_ip, h_iP, h_PC, h_PN⟩ := k_I0
  have k_A0 := k_A
  obtain ⟨h_A0, h_A⟩ := k_A0
  have k_B0 := k_B
  obtain ⟨h_B0, h_B, h_Bd0, h_B26, h_B22, h_Bs⟩ := k_B0
  obtain ⟨hn0, _, hNT⟩ := h_nF _ t1102
  have hB := h_B _ _ _ _ _ _ t1102 t1140 t1141 t1142 t1143 t1144
  have rB := hB.1
  have hA := h_A _ _ _ _ _ _ t1102 t1130 t1131 t1132 t1133 t1134
  have rA := hA.1
  have ea : (g 11).toNat = (g 6).toNat := by omega
  obtain ⟨hr1, hr2, hr3, hR⟩ := RI_p hA 9 (by omega) (by omega)
  rw [ea] at hR
  obtain ⟨⟨hi0, hi1⟩, hpi⟩ := h_ip _ _ _ t1102 t1122 t1123
  have eb : (g 2).toNat = (g 12).toNat := by omega
  rw [eb] at hpi
  have ep : (g 3).toNat = Tp9 (tx9 m) (g 12).toNat := by omega
  have hcc := h_pc _ _ t1123 t1124
  rw [ep] at hcc
  obtain ⟨y1, y2⟩ := RI_b hB 20 (by omega) (m_iD hR (kq (a := 6) (b := 6) (fun k => k = 9) (by decide) (by omega) (by omega)) (by omega))
  exact ⟨rfl, ⟨f2 (by omega), f2 (by omega), f1 (by omega), f1 (by omega), trivial⟩, trivial, fun _ => ⟨h0, k_tok, k_sc1, k_sc2, k_T, k_I, k_F, k_N, k_Y, k_Z, k_A, k_B, k_C, k_X, k_R, k_f4⟩⟩
noncomputable def ru_iB : Ru := ([(0, (1199, (0, (0, 0)))), (0, (1102, (0, (0, 0)))), (0, (1122, (0, (0, 0)))), (0, (1123, (0, (0, 0)))), (0, (1124, (0, (0, 0)))), (0, (1140, (0, (0, 0)))), (0, (1141, (0, (0, 0)))), (0, (1142, (0, (0, 0)))), (0, (1143, (0, (0, 0)))), (0, (1144, (0, (0, 0)))), (0, (1130, (0, (0, 0)))), (0, (1131, (0, (0, 0)))), (0, (1132, (0, (0, 0)))), (0, (1133, (0, (0, 0)))), (0, (1134, (0, (0, 0)))), (4, (0, (0, (21, 0))))], ([], ([([(9, 1)], 20), ([(9, (-1))], (-20)), ([(14, 1)], 9), ([(14, (-1))], (-9)), ([(6, (-1)), (11, 1)], 0), ([(6, 1), (11, (-1))], 0), ([(12, (-1))], 0), ([(2, 1), (12, (-1))], 0), ([(2, (-1)), (12, 1)], 0), ([(5, 1)], 19), ([(4, (-1))], (-6)), ([(4, 1)], 6)], (false, ([], ([], ([(1141, some (12, 1)), (1144, some (15, 0)), (1130, none), (1131, none), (1132, none), (1133, none), (1134, none)], none)))))))
theorem rk_iB : RuOk SR ru_iB := by
  intro τ m g hi hc ha hS
  obtain ⟨i0, i1, i2, i3, i4, i5, i6, i7, i8, i9, i10, i11, i12, i13, i14, i15, _⟩ := hi
  have t1199 : τ 1199 = some (g 0) := i0
  have t1102 : τ 1102 = some (g 1) := i1
  have t1122 : τ 1122 = some (g 2) := i2
  have t1123 : τ 1123 = some (g 3) := i3
  have t1124 : τ 1124 = some (g 4) := i4
  have t1140 : τ 1140 = some (g 5) := i5
  have t1141 : τ 1141 = some (g 6) := i6
  have t1142 : τ 1142 = some (g 7) := i7
  have t1143 : τ 1143 = some (g 8) := i8
  have t1144 : τ 1144 = some (g 9) := i9
  have t1130 : τ 1130 = some (g 10) := i10
  have t1131 : τ 1131 = some (g 11) := i11
  have t1132 : τ 1132 = some (g 12) := i12
  have t1133 : τ 1133 = some (g 13) := i13
  have t1134 : τ 1134 = some (g 14) := i14
  have xk : g 15 = 21 := i15
  obtain ⟨c0, c1, c2, c3, c4, c5, c6, c7, c8, c9, c10, c11, _⟩ := hc
  have c0 : 1 * g 9 ≤ 20 := d1 c0
  have c1 : (-1) * g 9 ≤ (-20) := d1 c1
  have c2 : 1 * g 14 ≤ 9 := d1 c2
  have c3 : (-1) * g 14 ≤ (-9) := d1 c3
  have c4 : (-1) * g 6 + 1 * g 11 ≤ 0 := d2 c4
  have c5 : 1 * g 6 + (-1) * g 11 ≤ 0 := d2 c5
  have c6 : (-1) * g 12 ≤ 0 := d1 c6
  have c7 : 1 * g 2 + (-1) * g 12 ≤ 0 := d2 c7
  have c8 : (-1) * g 2 + 1 * g 12 ≤ 0 := d2 c8
  have c9 : 1 * g 5 ≤ 19 := d1 c9
  have c10 : (-1) * g 4 ≤ (-6) := d1 c10
  have c11 : 1 * g 4 ≤ 6 := d1 c11
  obtain ⟨h0, k_tok, k_sc1, k_sc2, k_T, k_I, k_F, k_N, k_Y, k_Z, k_A, k_B, k_C, k_X, k_R, k_f4⟩ := hS (by rw [t1199]; exact fun e => by cases e)
  have k_tok0 := k_tok
  obtain ⟨h_L, h_n, h_nF⟩ := k_tok0
  have k_I0 := k_I
  obtain ⟨h_p, h_pc, h_ip, h_iP, h_PC, h_PN⟩ := k_I0
  have k_A0 := k_A
  obtain ⟨h_A0, h_A⟩ := k_A0
  have k_B0 := k_B
  obtain ⟨h_B0, h_B, h_Bd0, h_B26, h_B22, h_Bs⟩ := k_B0
  obtain ⟨hn0, _, hNT⟩ := h_nF _ t1102
  have hB := h_B _ _ _ _ _ _ t1102 t1140 t1141 t1142 t1143 t1144
  have rB := hB.1
  have hA := h_A _ _ _ _ _ _ t1102 t1130 t1131 t1132 t1133 t1134
  have rA := hA.1
  have ea : (g 11).toNat = (g 6).toNat := by omega
  obtain ⟨hr1, hr2, hr3, hR⟩ := RI_p hA 9 (by omega) (by omega)
  rw [ea] at hR
  obtain ⟨⟨hi0, hi1⟩, hpi⟩ := h_ip _ _ _ t1102 t1122 t1123
  have eb : (g 2).toNat = (g 12).toNat := by omega
  rw [eb] at hpi
  have ep : (g 3).toNat = Tp9 (tx9 m) (g 12).toNat := by omega
  have hcc := h_pc _ _ t1123 t1124
  rw [ep] at hcc
  have hx1 := NT_next hNT (i := (g 12).toNat) (by omega) (by omega)
  exact ⟨rfl, trivial, trivial, fun _ => ⟨h0, k_tok, k_sc1, k_sc2, k_T, k_I, k_F, k_N, k_Y, k_Z, ⟨fun _ _ _ _ _ e0 e1 e2 e3 e4 => no9 (o := none) rfl e1, fun _ _ _ _ _ _ e0 e1 e2 e3 e4 e5 => no9 (o := none) rfl e1⟩, ⟨fun nF Bd Bi Br Bm e0 e1 e2 e3 e4 => by
      have e0 : g 1 = nF := Option.some.inj (t1102.symm.trans e0)
      subst e0
      have e1 : g 5 = Bd := Option.some.inj (t1140.symm.trans e1)
      subst e1
      have e2 : g 12 + 1 = Bi := Option.some.inj e2
      subst e2
      have e3 : g 7 = Br := Option.some.inj (t1142.symm.trans e3)
      subst e3
      have e4 : g 15 + 0 = Bm := Option.some.inj e4
      subst e4
      exact ⟨_, RI_u hB 20 21 (by omega) (by omega) rfl (by omega) ⟨by omega, by omega⟩ (fun r h => by
              rw [St_n (by omega)] at h
              exact m_iB hR (kq (a := 6) (b := 6) (fun k => k = 9) (by decide) (by omega) (by omega)) (by omega) h)⟩, fun nF Bd Bi Br Bx Bm e0 e1 e2 e3 e4 e5 => by
      have e0 : g 1 = nF := Option.some.inj (t1102.symm.trans e0)
      subst e0
      have e1 : g 5 = Bd := Option.some.inj (t1140.symm.trans e1)
      subst e1
      have e2 : g 12 + 1 = Bi := Option.some.inj e2
      subst e2
      have e3 : g 7 = Br := Option.some.inj (t1142.symm.trans e3)
      subst e3
      have e4 : g 8 = Bx := Option.some.inj (t1143.symm.trans e4)
      subst e4
      have e5 : g 15 + 0 = Bm := Option.some.inj e5
      subst e5
      exact RI_u hB 20 21 (by omega) (by omega) rfl (by omega) ⟨by omega, by omega⟩ (fun r h => by
              rw [St_n (by omega)] at h
              exact m_iB hR (kq (a := 6) (b := 6) (fun k => k = 9) (by decide) (by omega) (by omega)) (by omega) h), h_Bd0, fun Bd Bi Bm e0 e1 e2 => by
      have e0 : g 5 = Bd := Option.some.inj (t1140.symm.trans e0)
      subst e0
      have e1 : g 12 + 1 = Bi := Option.some.inj e1
      subst e1
      have e2 : g 15 + 0 = Bm := Option.some.inj e2
      subst e2
      intro h
      omega, fun Bd Bi Bm Bf e0 e1 e2 e3 => by
      have e0 : g 5 = Bd := Option.some.inj (t1140.symm.trans e0)
      subst e0
      have e1 : g 12 + 1 = Bi := Option.some.inj e1
      subst e1
      have e2 : g 15 + 0 = Bm := Option.some.inj e2
      subst e2
      intro h
      omega, h_Bs⟩, k_C, k_X, k_R, k_f4⟩⟩
noncomputable def ru_s1x : Ru := ([(0, (1199, (0, (0, 0)))), (0, (1102, (0, (0, 0)))), (0, (1140, (0, (0, 0)))), (0, (1141, (0, (0, 0)))), (0, (1142, (0, (0, 0)))), (0, (1143, (0, (0, 0)))), (0, (1144, (0, (0, 0)))), (0, (1130, (0, (0, 0)))), (0, (1131, (0, (0, 0)))), (0, (1132, (0, (0, 0)))), (0, (1133, (0, (0, 0)))), (0, (1134, (0, (0, 0))))], ([], ([([(6, 1)], 1), ([(6, (-1))], (-1)), ([(11, 1)], 0), ([(11, (-1))], 0), ([(3, (-1)), (8, 1)], 0), ([(3, 1), (8, (-1))], 0), ([(2, (-1)), (7, 1)], 0), ([(2, 1), (7, (-1))], 0), ([(9, 1)], (-1))], (false, ([([(5, 1), (10, (-1))], 0), ([(5, (-1)), (10, 1)], 0), ([(4, 1)], (-1)), ([(4, (-1))], 1)], ([], ([], none)))))))
theorem rk_s1x : RuOk SR ru_s1x := by
  intro τ m g hi hc ha hS
  obtain ⟨i0, i1, i2, i3, i4, i5, i6, i7, i8, i9, i10, i11, _⟩ := hi
  have t1199 : τ 1199 = some (g 0) := i0
  have t1102 : τ 1102 = some (g 1) := i1
  have t1140 : τ 1140 = some (g 2) := i2
  have t1141 : τ 1141 = some (g 3) := i3
  have t1142 : τ 1142 = some (g 4) := i4
  have t1143 : τ 1143 = some (g 5) := i5
  have t1144 : τ 1144 = some (g 6) := i6
  have t1130 : τ 1130 = some (g 7) := i7
  have t1131 : τ 1131 = some (g 8) := i8
  have t1132 : τ 1132 = some (g 9) := i9
  have t1133 : τ 1133 = some (g 10) := i10
  have t1134 : τ 1134 = some (g 11) := i11
  obtain ⟨c0, c1, c2, c3, c4, c5, c6, c7, c8, _⟩ := hc
  have c0 : 1 * g 6 ≤ 1 := d1 c0
  have c1 : (-1) * g 6 ≤ (-1) := d1 c1
  have c2 : 1 * g 11 ≤ 0 := d1 c2
  have c3 : (-1) * g 11 ≤ 0 := d1 c3
  have c4 : (-1) * g 3 + 1 * g 8 ≤ 0 := d2 c4
  have c5 : 1 * g 3 + (-1) * g 8 ≤ 0 := d2 c5
  have c6 : (-1) * g 2 + 1 * g 7 ≤ 0 := d2 c6
  have c7 : 1 * g 2 + (-1) * g 7 ≤ 0 := d2 c7
  have c8 : 1 * g 9 ≤ (-1) := d1 c8
  obtain ⟨h0, k_tok, k_sc1, k_sc2, k_T, k_I, k_F, k_N, k_Y, k_Z, k_A, k_B, k_C, k_X, k_R, k_f4⟩ := hS (by rw [t1199]; exact fun e => by cases e)
  have k_tok0 := k_tok
  obtain ⟨h_L, h_n, h_nF⟩ := k_tok0
  have k_A0 := k_A
  obtain ⟨h_A0, h_A⟩ := k_A0
  have k_B0 := k_B
  obtain ⟨h_B0, h_B, h_Bd0, h_B26, h_B22, h_Bs⟩ := k_B0
  obtain ⟨hn0, _, hNT⟩ := h_nF _ t1102
  have hB := h_B _ _ _ _ _ _ t1102 t1140 t1141 t1142 t1143 t1144
  have rB := hB.1
  have hA := h_A _ _ _ _ _ _ t1102 t1130 t1131 t1132 t1133 t1134
  have rA := hA.1
  have ea : (g 8).toNat = (g 3).toNat := by omega
  have ed : (g 7).toNat = (g 2).toNat := by omega
  obtain ⟨hr1, hr2, hR⟩ := RI_n hA 0 (by omega) (by omega)
  rw [ea, ed] at hR
  obtain ⟨y1, y2⟩ := RI_b hB 1 (by omega) (m_s1x hR)
  exact ⟨rfl, ⟨f2 (by omega), f2 (by omega), f1 (by omega), f1 (by omega), trivial⟩, trivial, fun _ => ⟨h0, k_tok, k_sc1, k_sc2, k_T, k_I, k_F, k_N, k_Y, k_Z, k_A, k_B, k_C, k_X, k_R, k_f4⟩⟩
noncomputable def ru_s1o : Ru := ([(0, (1199, (0, (0, 0)))), (0, (1102, (0, (0, 0)))), (0, (1140, (0, (0, 0)))), (0, (1141, (0, (0, 0)))), (0, (1142, (0, (0, 0)))), (0, (1143, (0, (0, 0)))), (0, (1144, (0, (0, 0)))), (0, (1130, (0, (0, 0)))), (0, (1131, (0, (0, 0)))), (0, (1132, (0, (0, 0)))), (0, (1133, (0, (0, 0)))), (0, (1134, (0, (0, 0)))), (4, (0, (0, (2, 0))))], ([], ([([(6, 1)], 1), ([(6, (-1))], (-1)), ([(11, 1)], 0), ([(11, (-1))], 0), ([(3, (-1)), (8, 1)], 0), ([(3, 1), (8, (-1))], 0), ([(2, (-1)), (7, 1)], 0), ([(2, 1), (7, (-1))], 0), ([(9, (-1))], 0)], (false, ([], ([], ([(1141, some (9, 0)), (1144, some (12, 0)), (1130, none), (1131, none), (1132, none), (1133, none), (1134, none)], none)))))))
theorem rk_s1o : RuOk SR ru_s1o := by
  intro τ m g hi hc ha hS
  obtain ⟨i0, i1, i2, i3, i4, i5, i6, i7, i8, i9, i10, i11, i12, _⟩ := hi
  have t1199 : τ 1199 = some (g 0) := i0
  have t1102 : τ 1102 = some (g 1) := i1
  have t1140 : τ 1140 = some (g 2) := i2
  have t1141 : τ 1141 = some (g 3) := i3
  have t1142 : τ 1142 = some (g 4) := i4
  have t1143 : τ 1143 = some (g 5) := i5
  have t1144 : τ 1144 = some (g 6) := i6
  have t1130 : τ 1130 = some (g 7) := i7
  have t1131 : τ 1131 = some (g 8) := i8
  have t1132 : τ 1132 = some (g 9) := i9
  have t1133 : τ 1133 = some (g 10) := i10
  have t1134 : τ 1134 = some (g 11) := i11
  have xk : g 12 = 2 := i12
  obtain ⟨c0, c1, c2, c3, c4, c5, c6, c7, c8, _⟩ := hc
  have c0 : 1 * g 6 ≤ 1 := d1 c0
  have c1 : (-1) * g 6 ≤ (-1) := d1 c1
  have c2 : 1 * g 11 ≤ 0 := d1 c2
  have c3 : (-1) * g 11 ≤ 0 := d1 c3
  have c4 : (-1) * g 3 + 1 * g 8 ≤ 0 := d2 c4
  have c5 : 1 * g 3 + (-1) * g 8 ≤ 0 := d2 c5
  have c6 : (-1) * g 2 + 1 * g 7 ≤ 0 := d2 c6
  have c7 : 1 * g 2 + (-1) * g 7 ≤ 0 := d2 c7
  have c8 : (-1) * g 9 ≤ 0 := d1 c8
  obtain ⟨h0, k_tok, k_sc1, k_sc2, k_T, k_I, k_F, k_N, k_Y, k_Z, k_A, k_B, k_C, k_X, k_R, k_f4⟩ := hS (by rw [t1199]; exact fun e => by cases e)
  have k_tok0 := k_tok
  obtain ⟨h_L, h_n, h_nF⟩ := k_tok0
  have k_A0 := k_A
  obtain ⟨h_A0, h_A⟩ := k_A0
  have k_B0 := k_B
  obtain ⟨h_B0, h_B, h_Bd0, h_B26, h_B22, h_Bs⟩ := k_B0
  obtain ⟨hn0, _, hNT⟩ := h_nF _ t1102
  have hB := h_B _ _ _ _ _ _ t1102 t1140 t1141 t1142 t1143 t1144
  have rB := hB.1
  have hA := h_A _ _ _ _ _ _ t1102 t1130 t1131 t1132 t1133 t1134
  have rA := hA.1
  have ea : (g 8).toNat = (g 3).toNat := by omega
  have ed : (g 7).toNat = (g 2).toNat := by omega
  obtain ⟨hr1, hr2, hr3, hR⟩ := RI_p hA 0 (by omega) (by omega)
  rw [ea, ed] at hR
  exact ⟨rfl, trivial, trivial, fun _ => ⟨h0, k_tok, k_sc1, k_sc2, k_T, k_I, k_F, k_N, k_Y, k_Z, ⟨fun _ _ _ _ _ e0 e1 e2 e3 e4 => no9 (o := none) rfl e1, fun _ _ _ _ _ _ e0 e1 e2 e3 e4 e5 => no9 (o := none) rfl e1⟩, ⟨fun nF Bd Bi Br Bm e0 e1 e2 e3 e4 => by
      have e0 : g 1 = nF := Option.some.inj (t1102.symm.trans e0)
      subst e0
      have e1 : g 2 = Bd := Option.some.inj (t1140.symm.trans e1)
      subst e1
      have e2 : g 9 + 0 = Bi := Option.some.inj e2
      subst e2
      have e3 : g 4 = Br := Option.some.inj (t1142.symm.trans e3)
      subst e3
      have e4 : g 12 + 0 = Bm := Option.some.inj e4
      subst e4
      exact ⟨_, RI_u hB 1 2 (by omega) (by omega) rfl (by omega) ⟨by omega, by omega⟩ (fun r h => by
              rw [Int.add_zero] at h
              exact m_s1o hR h)⟩, fun nF Bd Bi Br Bx Bm e0 e1 e2 e3 e4 e5 => by
      have e0 : g 1 = nF := Option.some.inj (t1102.symm.trans e0)
      subst e0
      have e1 : g 2 = Bd := Option.some.inj (t1140.symm.trans e1)
      subst e1
      have e2 : g 9 + 0 = Bi := Option.some.inj e2
      subst e2
      have e3 : g 4 = Br := Option.some.inj (t1142.symm.trans e3)
      subst e3
      have e4 : g 5 = Bx := Option.some.inj (t1143.symm.trans e4)
      subst e4
      have e5 : g 12 + 0 = Bm := Option.some.inj e5
      subst e5
      exact RI_u hB 1 2 (by omega) (by omega) rfl (by omega) ⟨by omega, by omega⟩ (fun r h => by
              rw [Int.add_zero] at h
              exact m_s1o hR h), h_Bd0, fun Bd Bi Bm e0 e1 e2 => by
      have e0 : g 2 = Bd := Option.some.inj (t1140.symm.trans e0)
      subst e0
      have e1 : g 9 + 0 = Bi := Option.some.inj e1
      subst e1
      have e2 : g 12 + 0 = Bm := Option.some.inj e2
      subst e2
      intro h
      omega, fun Bd Bi Bm Bf e0 e1 e2 e3 => by
      have e0 : g 2 = Bd := Option.some.inj (t1140.symm.trans e0)
      subst e0
      have e1 : g 9 + 0 = Bi := Option.some.inj e1
      subst e1
      have e2 : g 12 + 0 = Bm := Option.some.inj e2
      subst e2
      intro h
      omega, h_Bs⟩, k_C, k_X, k_R, k_f4⟩⟩
noncomputable def ru_s1g : Ru := ([(0, (1199, (0, (0, 0)))), (0, (1102, (0, (0, 0)))), (0, (1122, (0, (0, 0)))), (0, (1123, (0, (0, 0)))), (0, (1124, (0, (0, 0)))), (0, (1140, (0, (0, 0)))), (0, (1141, (0, (0, 0)))), (0, (1142, (0, (0, 0)))), (0, (1143, (0, (0, 0)))), (0, (1144, (0, (0, 0)))), (4, (0, (0, (1, 0))))], ([], ([([(9, 1)], 2), ([(9, (-1))], (-2)), ([(2, (-1)), (6, 1)], 0), ([(2, 1), (6, (-1))], 0), ([(4, (-1))], (-8)), ([(4, 1)], 12)], (false, ([], ([], ([(1141, some (6, 1)), (1144, some (10, 0))], none)))))))
theorem rk_s1g : RuOk SR ru_s1g := by
  intro τ m g hi hc ha hS
  obtain ⟨i0, i1, i2, i3, i4, i5, i6, i7, i8, i9, i10, _⟩ := hi
  have t1199 : τ 1199 = some (g 0) := i0
  have t1102 : τ 1102 = some (g 1) := i1
  have t1122 : τ 1122 = some (g 2) := i2
  have t1123 : τ 1123 = some (g 3) := i3
  have t1124 : τ 1124 = some (g 4) := i4
  have t1140 : τ 1140 = some (g 5) := i5
  have t1141 : τ 1141 = some (g 6) := i6
  have t1142 : τ 1142 = some (g 7) := i7
  have t1143 : τ 1143 = some (g 8) := i8
  have t1144 : τ 1144 = some (g 9) := i9
  have xk : g 10 = 1 := i10
  obtain ⟨c0, c1, c2, c3, c4, c5, _⟩ := hc
  have c0 : 1 * g 9 ≤ 2 := d1 c0
  have c1 : (-1) * g 9 ≤ (-2) := d1 c1
  have c2 : (-1) * g 2 + 1 * g 6 ≤ 0 := d2 c2
  have c3 : 1 * g 2 + (-1) * g 6 ≤ 0 := d2 c3
  have c4 : (-1) * g 4 ≤ (-8) := d1 c4
  have c5 : 1 * g 4 ≤ 12 := d1 c5
  obtain ⟨h0, k_tok, k_sc1, k_sc2, k_T, k_I, k_F, k_N, k_Y, k_Z, k_A, k_B, k_C, k_X, k_R, k_f4⟩ := hS (by rw [t1199]; exact fun e => by cases e)
  have k_tok0 := k_tok
  obtain ⟨h_L, h_n, h_nF⟩ := k_tok0
  have k_I0 := k_I
  obtain ⟨h_p, h_pc, h_ip, h_iP, h_PC, h_PN⟩ := k_I0
  have k_B0 := k_B
  obtain ⟨h_B0, h_B, h_Bd0, h_B26, h_B22, h_Bs⟩ := k_B0
  obtain ⟨hn0, _, hNT⟩ := h_nF _ t1102
  have hB := h_B _ _ _ _ _ _ t1102 t1140 t1141 t1142 t1143 t1144
  have rB := hB.1
  obtain ⟨⟨hi0, hi1⟩, hpi⟩ := h_ip _ _ _ t1102 t1122 t1123
  have eb : (g 2).toNat = (g 6).toNat := by omega
  rw [eb] at hpi
  have ep : (g 3).toNat = Tp9 (tx9 m) (g 6).toNat := by omega
  have hcc := h_pc _ _ t1123 t1124
  rw [ep] at hcc
  have hx1 := NT_next hNT (i := (g 6).toNat) (by omega) (by omega)
  exact ⟨rfl, trivial, trivial, fun _ => ⟨h0, k_tok, k_sc1, k_sc2, k_T, k_I, k_F, k_N, k_Y, k_Z, k_A, ⟨fun nF Bd Bi Br Bm e0 e1 e2 e3 e4 => by
      have e0 : g 1 = nF := Option.some.inj (t1102.symm.trans e0)
      subst e0
      have e1 : g 5 = Bd := Option.some.inj (t1140.symm.trans e1)
      subst e1
      have e2 : g 6 + 1 = Bi := Option.some.inj e2
      subst e2
      have e3 : g 7 = Br := Option.some.inj (t1142.symm.trans e3)
      subst e3
      have e4 : g 10 + 0 = Bm := Option.some.inj e4
      subst e4
      exact ⟨_, RI_u hB 2 1 (by omega) (by omega) rfl (by omega) ⟨by omega, by omega⟩ (fun r h => by
              rw [St_n (by omega)] at h
              exact m_s1g (by omega) (by omega) h)⟩, fun nF Bd Bi Br Bx Bm e0 e1 e2 e3 e4 e5 => by
      have e0 : g 1 = nF := Option.some.inj (t1102.symm.trans e0)
      subst e0
      have e1 : g 5 = Bd := Option.some.inj (t1140.symm.trans e1)
      subst e1
      have e2 : g 6 + 1 = Bi := Option.some.inj e2
      subst e2
      have e3 : g 7 = Br := Option.some.inj (t1142.symm.trans e3)
      subst e3
      have e4 : g 8 = Bx := Option.some.inj (t1143.symm.trans e4)
      subst e4
      have e5 : g 10 + 0 = Bm := Option.some.inj e5
      subst e5
      exact RI_u hB 2 1 (by omega) (by omega) rfl (by omega) ⟨by omega, by omega⟩ (fun r h => by
              rw [St_n (by omega)] at h
              exact m_s1g (by omega) (by omega) h), h_Bd0, fun Bd Bi Bm e0 e1 e2 => by
      have e0 : g 5 = Bd := Option.some.inj (t1140.symm.trans e0)
      subst e0
      have e1 : g 6 + 1 = Bi := Option.some.inj e1
      subst e1
      have e2 : g 10 + 0 = Bm := Option.some.inj e2
      subst e2
      intro h
      omega, fun Bd Bi Bm Bf e0 e1 e2 e3 => by
      have e0 : g 5 = Bd := Option.some.inj (t1140.symm.trans e0)
      subst e0
      have e1 : g 6 + 1 = Bi := Option.some.inj e1
      subst e1
      have e2 : g 10 + 0 = Bm := Option.some.inj e2
      subst e2
      intro h
      omega, h_Bs⟩, k_C, k_X, k_R, k_f4⟩⟩
noncomputable def ru_s1e : Ru := ([(0, (1199, (0, (0, 0)))), (0, (1102, (0, (0, 0)))), (0, (1122, (0, (0, 0)))), (0, (1123, (0, (0, 0)))), (0, (1124, (0, (0, 0)))), (0, (1140, (0, (0, 0)))), (0, (1141, (0, (0, 0)))), (0, (1142, (0, (0, 0)))), (0, (1143, (0, (0, 0)))), (0, (1144, (0, (0, 0))))], ([], ([([(9, 1)], 2), ([(9, (-1))], (-2)), ([(2, (-1)), (6, 1)], 0), ([(2, 1), (6, (-1))], 0), ([(4, 1)], 7)], (false, ([([(6, (-1)), (7, 1)], 0), ([(6, 1), (7, (-1))], 0), ([(8, 1)], (-1)), ([(8, (-1))], 1)], ([], ([], none)))))))
theorem rk_s1e : RuOk SR ru_s1e := by
  intro τ m g hi hc ha hS
  obtain ⟨i0, i1, i2, i3, i4, i5, i6, i7, i8, i9, _⟩ := hi
  have t1199 : τ 1199 = some (g 0) := i0
  have t1102 : τ 1102 = some (g 1) := i1
  have t1122 : τ 1122 = some (g 2) := i2
  have t1123 : τ 1123 = some (g 3) := i3
  have t1124 : τ 1124 = some (g 4) := i4
  have t1140 : τ 1140 = some (g 5) := i5
  have t1141 : τ 1141 = some (g 6) := i6
  have t1142 : τ 1142 = some (g 7) := i7
  have t1143 : τ 1143 = some (g 8) := i8
  have t1144 : τ 1144 = some (g 9) := i9
  obtain ⟨c0, c1, c2, c3, c4, _⟩ := hc
  have c0 : 1 * g 9 ≤ 2 := d1 c0
  have c1 : (-1) * g 9 ≤ (-2) := d1 c1
  have c2 : (-1) * g 2 + 1 * g 6 ≤ 0 := d2 c2
  have c3 : 1 * g 2 + (-1) * g 6 ≤ 0 := d2 c3
  have c4 : 1 * g 4 ≤ 7 := d1 c4
  obtain ⟨h0, k_tok, k_sc1, k_sc2, k_T, k_I, k_F, k_N, k_Y, k_Z, k_A, k_B, k_C, k_X, k_R, k_f4⟩ := hS (by rw [t1199]; exact fun e => by cases e)
  have k_tok0 := k_tok
  obtain ⟨h_L, h_n, h_nF⟩ := k_tok0
  have k_I0 := k_I
  obtain ⟨h_p, h_pc, h_ip, h_iP, h_PC, h_PN⟩ := k_I0
  have k_B0 := k_B
  obtain ⟨h_B0, h_B, h_Bd0, h_B26, h_B22, h_Bs⟩ := k_B0
  obtain ⟨hn0, _, hNT⟩ := h_nF _ t1102
  have hB := h_B _ _ _ _ _ _ t1102 t1140 t1141 t1142 t1143 t1144
  have rB := hB.1
  obtain ⟨⟨hi0, hi1⟩, hpi⟩ := h_ip _ _ _ t1102 t1122 t1123
  have eb : (g 2).toNat = (g 6).toNat := by omega
  rw [eb] at hpi
  have ep : (g 3).toNat = Tp9 (tx9 m) (g 6).toNat := by omega
  have hcc := h_pc _ _ t1123 t1124
  rw [ep] at hcc
  obtain ⟨y1, y2⟩ := RI_f hNT hB 2 (by omega) (j := (g 6).toNat) (by omega) (m_s1e (by omega))
  exact ⟨rfl, ⟨f2 (by omega), f2 (by omega), f1 (by omega), f1 (by omega), trivial⟩, trivial, fun _ => ⟨h0, k_tok, k_sc1, k_sc2, k_T, k_I, k_F, k_N, k_Y, k_Z, k_A, k_B, k_C, k_X, k_R, k_f4⟩⟩
noncomputable def ru_s1f : Ru := ([(0, (1199, (0, (0, 0)))), (0, (1102, (0, (0, 0)))), (0, (1122, (0, (0, 0)))), (0, (1123, (0, (0, 0)))), (0, (1124, (0, (0, 0)))), (0, (1140, (0, (0, 0)))), (0, (1141, (0, (0, 0)))), (0, (1142, (0, (0, 0)))), (0, (1143, (0, (0, 0)))), (0, (1144, (0, (0, 0))))], ([], ([([(9, 1)], 2), ([(9, (-1))], (-2)), ([(2, (-1)), (6, 1)], 0), ([(2, 1), (6, (-1))], 0), ([(4, (-1))], (-13))], (false, ([([(6, (-1)), (7, 1)], 0), ([(6, 1), (7, (-1))], 0), ([(8, 1)], (-1)), ([(8, (-1))], 1)], ([], ([], none)))))))
theorem rk_s1f : RuOk SR ru_s1f := by
  intro τ m g hi hc ha hS
  obtain ⟨i0, i1, i2, i3, i4, i5, i6, i7, i8, i9, _⟩ := hi
  have t1199 : τ 1199 = some (g 0) := i0
  have t1102 : τ 1102 = some (g 1) := i1
  have t1122 : τ 1122 = some (g 2) := i2
  have t1123 : τ 1123 = some (g 3) := i3
  have t1124 : τ 1124 = some (g 4) := i4
  have t1140 : τ 1140 = some (g 5) := i5
  have t1141 : τ 1141 = some (g 6) := i6
  have t1142 : τ 1142 = some (g 7) := i7
  have t1143 : τ 1143 = some (g 8) := i8
  have t1144 : τ 1144 = some (g 9) := i9
  obtain ⟨c0, c1, c2, c3, c4, _⟩ := hc
  have c0 : 1 * g 9 ≤ 2 := d1 c0
  have c1 : (-1) * g 9 ≤ (-2) := d1 c1
  have c2 : (-1) * g 2 + 1 * g 6 ≤ 0 := d2 c2
  have c3 : 1 * g 2 + (-1) * g 6 ≤ 0 := d2 c3
  have c4 : (-1) * g 4 ≤ (-13) := d1 c4
  obtain ⟨h0, k_tok, k_sc1, k_sc2, k_T, k_I, k_F, k_N, k_Y, k_Z, k_A, k_B, k_C, k_X, k_R, k_f4⟩ := hS (by rw [t1199]; exact fun e => by cases e)
  have k_tok0 := k_tok
  obtain ⟨h_L, h_n, h_nF⟩ := k_tok0
  have k_I0 := k_I
  obtain ⟨h_p, h_pc, h_ip, h_iP, h_PC, h_PN⟩ := k_I0
  have k_B0 := k_B
  obtain ⟨h_B0, h_B, h_Bd0, h_B26, h_B22, h_Bs⟩ := k_B0
  obtain ⟨hn0, _, hNT⟩ := h_nF _ t1102
  have hB := h_B _ _ _ _ _ _ t1102 t1140 t1141 t1142 t1143 t1144
  have rB := hB.1
  obtain ⟨⟨hi0, hi1⟩, hpi⟩ := h_ip _ _ _ t1102 t1122 t1123
  have eb : (g 2).toNat = (g 6).toNat := by omega
  rw [eb] at hpi
  have ep : (g 3).toNat = Tp9 (tx9 m) (g 6).toNat := by omega
  have hcc := h_pc _ _ t1123 t1124
  rw [ep] at hcc
  obtain ⟨y1, y2⟩ := RI_f hNT hB 2 (by omega) (j := (g 6).toNat) (by omega) (m_s1f (by omega))
  exact ⟨rfl, ⟨f2 (by omega), f2 (by omega), f1 (by omega), f1 (by omega), trivial⟩, trivial, fun _ => ⟨h0, k_tok, k_sc1, k_sc2, k_T, k_I, k_F, k_N, k_Y, k_Z, k_A, k_B, k_C, k_X, k_R, k_f4⟩⟩
noncomputable def ru_bA1 : Ru := ([(0, (1199, (0, (0, 0)))), (0, (1102, (0, (0, 0)))), (0, (1140, (0, (0, 0)))), (0, (1141, (0, (0, 0)))), (0, (1142, (0, (0, 0)))), (0, (1143, (0, (0, 0)))), (0, (1144, (0, (0, 0)))), (0, (1130, (0, (0, 0)))), (0, (1131, (0, (0, 0)))), (0, (1132, (0, (0, 0)))), (0, (1133, (0, (0, 0)))), (0, (1134, (0, (0, 0))))], ([], ([([(6, 1)], 1), ([(6, (-1))], (-1)), ([(11, 1)], 2), ([(11, (-1))], (-2)), ([(2, (-1)), (7, 1)], 0), ([(2, 1), (7, (-1))], 0), ([(4, (-1)), (9, 1)], 0), ([(4, 1), (9, (-1))], 0), ([(5, (-1)), (10, 1)], 0), ([(5, 1), (10, (-1))], 0)], (false, ([], ([], ([(1141, some (8, 0)), (1144, some (11, 0)), (1130, none), (1131, none), (1132, none), (1133, none), (1134, none)], none)))))))
theorem rk_bA1 : RuOk SR ru_bA1 := by
  intro τ m g hi hc ha hS
  obtain ⟨i0, i1, i2, i3, i4, i5, i6, i7, i8, i9, i10, i11, _⟩ := hi
  have t1199 : τ 1199 = some (g 0) := i0
  have t1102 : τ 1102 = some (g 1) := i1
  have t1140 : τ 1140 = some (g 2) := i2
  have t1141 : τ 1141 = some (g 3) := i3
  have t1142 : τ 1142 = some (g 4) := i4
  have t1143 : τ 1143 = some (g 5) := i5
  have t1144 : τ 1144 = some (g 6) := i6
  have t1130 : τ 1130 = some (g 7) := i7
  have t1131 : τ 1131 = some (g 8) := i8
  have t1132 : τ 1132 = some (g 9) := i9
  have t1133 : τ 1133 = some (g 10) := i10
  have t1134 : τ 1134 = some (g 11) := i11
  obtain ⟨c0, c1, c2, c3, c4, c5, c6, c7, c8, c9, _⟩ := hc
  have c0 : 1 * g 6 ≤ 1 := d1 c0
  have c1 : (-1) * g 6 ≤ (-1) := d1 c1
  have c2 : 1 * g 11 ≤ 2 := d1 c2
  have c3 : (-1) * g 11 ≤ (-2) := d1 c3
  have c4 : (-1) * g 2 + 1 * g 7 ≤ 0 := d2 c4
  have c5 : 1 * g 2 + (-1) * g 7 ≤ 0 := d2 c5
  have c6 : (-1) * g 4 + 1 * g 9 ≤ 0 := d2 c6
  have c7 : 1 * g 4 + (-1) * g 9 ≤ 0 := d2 c7
  have c8 : (-1) * g 5 + 1 * g 10 ≤ 0 := d2 c8
  have c9 : 1 * g 5 + (-1) * g 10 ≤ 0 := d2 c9
  obtain ⟨h0, k_tok, k_sc1, k_sc2, k_T, k_I, k_F, k_N, k_Y, k_Z, k_A, k_B, k_C, k_X, k_R, k_f4⟩ := hS (by rw [t1199]; exact fun e => by cases e)
  have k_tok0 := k_tok
  obtain ⟨h_L, h_n, h_nF⟩ := k_tok0
  have k_A0 := k_A
  obtain ⟨h_A0, h_A⟩ := k_A0
  have k_B0 := k_B
  obtain ⟨h_B0, h_B, h_Bd0, h_B26, h_B22, h_Bs⟩ := k_B0
  obtain ⟨hn0, _, hNT⟩ := h_nF _ t1102
  have hA := h_A _ _ _ _ _ _ t1102 t1130 t1131 t1132 t1133 t1134
  have rA := hA.1
  have hB := h_B _ _ _ _ _ _ t1102 t1140 t1141 t1142 t1143 t1144
  have rB := hB.1
  exact ⟨rfl, trivial, trivial, fun _ => ⟨h0, k_tok, k_sc1, k_sc2, k_T, k_I, k_F, k_N, k_Y, k_Z, ⟨fun _ _ _ _ _ e0 e1 e2 e3 e4 => no9 (o := none) rfl e1, fun _ _ _ _ _ _ e0 e1 e2 e3 e4 e5 => no9 (o := none) rfl e1⟩, ⟨fun nF Bd Bi Br Bm e0 e1 e2 e3 e4 => by
      have e0 : g 1 = nF := Option.some.inj (t1102.symm.trans e0)
      subst e0
      have e1 : g 2 = Bd := Option.some.inj (t1140.symm.trans e1)
      subst e1
      have e2 : g 8 + 0 = Bi := Option.some.inj e2
      subst e2
      have e3 : g 4 = Br := Option.some.inj (t1142.symm.trans e3)
      subst e3
      have e4 : g 11 + 0 = Bm := Option.some.inj e4
      subst e4
      refine ⟨g 10, ?_⟩
      rw [Int.add_zero, Int.add_zero, show g 2 = g 7 by omega, show g 4 = g 9 by omega]
      exact hA, fun nF Bd Bi Br Bx Bm e0 e1 e2 e3 e4 e5 => by
      have e0 : g 1 = nF := Option.some.inj (t1102.symm.trans e0)
      subst e0
      have e1 : g 2 = Bd := Option.some.inj (t1140.symm.trans e1)
      subst e1
      have e2 : g 8 + 0 = Bi := Option.some.inj e2
      subst e2
      have e3 : g 4 = Br := Option.some.inj (t1142.symm.trans e3)
      subst e3
      have e4 : g 5 = Bx := Option.some.inj (t1143.symm.trans e4)
      subst e4
      have e5 : g 11 + 0 = Bm := Option.some.inj e5
      subst e5
      rw [Int.add_zero, Int.add_zero, show g 2 = g 7 by omega, show g 4 = g 9 by omega, show g 5 = g 10 by omega]
      exact hA, h_Bd0, fun Bd Bi Bm e0 e1 e2 => by
      have e0 : g 2 = Bd := Option.some.inj (t1140.symm.trans e0)
      subst e0
      have e1 : g 8 + 0 = Bi := Option.some.inj e1
      subst e1
      have e2 : g 11 + 0 = Bm := Option.some.inj e2
      subst e2
      intro h
      omega, fun Bd Bi Bm Bf e0 e1 e2 e3 => by
      have e0 : g 2 = Bd := Option.some.inj (t1140.symm.trans e0)
      subst e0
      have e1 : g 8 + 0 = Bi := Option.some.inj e1
      subst e1
      have e2 : g 11 + 0 = Bm := Option.some.inj e2
      subst e2
      intro h
      omega, h_Bs⟩, k_C, k_X, k_R, k_f4⟩⟩
noncomputable def ru_s3x : Ru := ([(0, (1199, (0, (0, 0)))), (0, (1102, (0, (0, 0)))), (0, (1140, (0, (0, 0)))), (0, (1141, (0, (0, 0)))), (0, (1142, (0, (0, 0)))), (0, (1143, (0, (0, 0)))), (0, (1144, (0, (0, 0)))), (0, (1130, (0, (0, 0)))), (0, (1131, (0, (0, 0)))), (0, (1132, (0, (0, 0)))), (0, (1133, (0, (0, 0)))), (0, (1134, (0, (0, 0))))], ([], ([([(6, 1)], 3), ([(6, (-1))], (-3)), ([(11, 1)], 5), ([(11, (-1))], (-5)), ([(3, (-1)), (8, 1)], 0), ([(3, 1), (8, (-1))], 0), ([(2, (-1)), (7, 1)], 0), ([(2, 1), (7, (-1))], 0), ([(9, 1)], (-1))], (false, ([([(5, 1), (10, (-1))], 0), ([(5, (-1)), (10, 1)], 0), ([(4, 1)], (-1)), ([(4, (-1))], 1)], ([], ([], none)))))))
theorem rk_s3x : RuOk SR ru_s3x := by
  intro τ m g hi hc ha hS
  obtain ⟨i0, i1, i2, i3, i4, i5, i6, i7, i8, i9, i10, i11, _⟩ := hi
  have t1199 : τ 1199 = some (g 0) := i0
  have t1102 : τ 1102 = some (g 1) := i1
  have t1140 : τ 1140 = some (g 2) := i2
  have t1141 : τ 1141 = some (g 3) := i3
  have t1142 : τ 1142 = some (g 4) := i4
  have t1143 : τ 1143 = some (g 5) := i5
  have t1144 : τ 1144 = some (g 6) := i6
  have t1130 : τ 1130 = some (g 7) := i7
  have t1131 : τ 1131 = some (g 8) := i8
  have t1132 : τ 1132 = some (g 9) := i9
  have t1133 : τ 1133 = some (g 10) := i10
  have t1134 : τ 1134 = some (g 11) := i11
  obtain ⟨c0, c1, c2, c3, c4, c5, c6, c7, c8, _⟩ := hc
  have c0 : 1 * g 6 ≤ 3 := d1 c0
  have c1 : (-1) * g 6 ≤ (-3) := d1 c1
  have c2 : 1 * g 11 ≤ 5 := d1 c2
  have c3 : (-1) * g 11 ≤ (-5) := d1 c3
  have c4 : (-1) * g 3 + 1 * g 8 ≤ 0 := d2 c4
  have c5 : 1 * g 3 + (-1) * g 8 ≤ 0 := d2 c5
  have c6 : (-1) * g 2 + 1 * g 7 ≤ 0 := d2 c6
  have c7 : 1 * g 2 + (-1) * g 7 ≤ 0 := d2 c7
  have c8 : 1 * g 9 ≤ (-1) := d1 c8
  obtain ⟨h0, k_tok, k_sc1, k_sc2, k_T, k_I, k_F, k_N, k_Y, k_Z, k_A, k_B, k_C, k_X, k_R, k_f4⟩ := hS (by rw [t1199]; exact fun e => by cases e)
  have k_tok0 := k_tok
  obtain ⟨h_L, h_n, h_nF⟩ := k_tok0
  have k_A0 := k_A
  obtain ⟨h_A0, h_A⟩ := k_A0
  have k_B0 := k_B
  obtain ⟨h_B0, h_B, h_Bd0, h_B26, h_B22, h_Bs⟩ := k_B0
  obtain ⟨hn0, _, hNT⟩ := h_nF _ t1102
  have hB := h_B _ _ _ _ _ _ t1102 t1140 t1141 t1142 t1143 t1144
  have rB := hB.1
  have hA := h_A _ _ _ _ _ _ t1102 t1130 t1131 t1132 t1133 t1134
  have rA := hA.1
  have ea : (g 8).toNat = (g 3).toNat := by omega
  have ed : (g 7).toNat = (g 2).toNat := by omega
  obtain ⟨hr1, hr2, hR⟩ := RI_n hA 5 (by omega) (by omega)
  rw [ea, ed] at hR
  obtain ⟨y1, y2⟩ := RI_b hB 3 (by omega) (m_s3x hR)
  exact ⟨rfl, ⟨f2 (by omega), f2 (by omega), f1 (by omega), f1 (by omega), trivial⟩, trivial, fun _ => ⟨h0, k_tok, k_sc1, k_sc2, k_T, k_I, k_F, k_N, k_Y, k_Z, k_A, k_B, k_C, k_X, k_R, k_f4⟩⟩
noncomputable def ru_s3o : Ru := ([(0, (1199, (0, (0, 0)))), (0, (1102, (0, (0, 0)))), (0, (1140, (0, (0, 0)))), (0, (1141, (0, (0, 0)))), (0, (1142, (0, (0, 0)))), (0, (1143, (0, (0, 0)))), (0, (1144, (0, (0, 0)))), (0, (1130, (0, (0, 0)))), (0, (1131, (0, (0, 0)))), (0, (1132, (0, (0, 0)))), (0, (1133, (0, (0, 0)))), (0, (1134, (0, (0, 0)))), (4, (0, (0, (4, 0))))], ([], ([([(6, 1)], 3), ([(6, (-1))], (-3)), ([(11, 1)], 5), ([(11, (-1))], (-5)), ([(3, (-1)), (8, 1)], 0), ([(3, 1), (8, (-1))], 0), ([(2, (-1)), (7, 1)], 0), ([(2, 1), (7, (-1))], 0), ([(9, (-1))], 0)], (false, ([], ([], ([(1141, some (9, 0)), (1144, some (12, 0)), (1130, none), (1131, none), (1132, none), (1133, none), (1134, none)], none)))))))
theorem rk_s3o : RuOk SR ru_s3o := by
  intro τ m g hi hc ha hS
  obtain ⟨i0, i1, i2, i3, i4, i5, i6, i7, i8, i9, i10, i11, i12, _⟩ := hi
  have t1199 : τ 1199 = some (g 0) := i0
  have t1102 : τ 1102 = some (g 1) := i1
  have t1140 : τ 1140 = some (g 2) := i2
  have t1141 : τ 1141 = some (g 3) := i3
  have t1142 : τ 1142 = some (g 4) := i4
  have t1143 : τ 1143 = some (g 5) := i5
  have t1144 : τ 1144 = some (g 6) := i6
  have t1130 : τ 1130 = some (g 7) := i7
  have t1131 : τ 1131 = some (g 8) := i8
  have t1132 : τ 1132 = some (g 9) := i9
  have t1133 : τ 1133 = some (g 10) := i10
  have t1134 : τ 1134 = some (g 11) := i11
  have xk : g 12 = 4 := i12
  obtain ⟨c0, c1, c2, c3, c4, c5, c6, c7, c8, _⟩ := hc
  have c0 : 1 * g 6 ≤ 3 := d1 c0
  have c1 : (-1) * g 6 ≤ (-3) := d1 c1
  have c2 : 1 * g 11 ≤ 5 := d1 c2
  have c3 : (-1) * g 11 ≤ (-5) := d1 c3
  have c4 : (-1) * g 3 + 1 * g 8 ≤ 0 := d2 c4
  have c5 : 1 * g 3 + (-1) * g 8 ≤ 0 := d2 c5
  have c6 : (-1) * g 2 + 1 * g 7 ≤ 0 := d2 c6
  have c7 : 1 * g 2 + (-1) * g 7 ≤ 0 := d2 c7
  have c8 : (-1) * g 9 ≤ 0 := d1 c8
  obtain ⟨h0, k_tok, k_sc1, k_sc2, k_T, k_I, k_F, k_N, k_Y, k_Z, k_A, k_B, k_C, k_X, k_R, k_f4⟩ := hS (by rw [t1199]; exact fun e => by cases e)
  have k_tok0 := k_tok
  obtain ⟨h_L, h_n, h_nF⟩ := k_tok0
  have k_A0 := k_A
  obtain ⟨h_A0, h_A⟩ := k_A0
  have k_B0 := k_B
  obtain ⟨h_B0, h_B, h_Bd0, h_B26, h_B22, h_Bs⟩ := k_B0
  obtain ⟨hn0, _, hNT⟩ := h_nF _ t1102
  have hB := h_B _ _ _ _ _ _ t1102 t1140 t1141 t1142 t1143 t1144
  have rB := hB.1
  have hA := h_A _ _ _ _ _ _ t1102 t1130 t1131 t1132 t1133 t1134
  have rA := hA.1
  have ea : (g 8).toNat = (g 3).toNat := by omega
  have ed : (g 7).toNat = (g 2).toNat := by omega
  obtain ⟨hr1, hr2, hr3, hR⟩ := RI_p hA 5 (by omega) (by omega)
  rw [ea, ed] at hR
  exact ⟨rfl, trivial, trivial, fun _ => ⟨h0, k_tok, k_sc1, k_sc2, k_T, k_I, k_F, k_N, k_Y, k_Z, ⟨fun _ _ _ _ _ e0 e1 e2 e3 e4 => no9 (o := none) rfl e1, fun _ _ _ _ _ _ e0 e1 e2 e3 e4 e5 => no9 (o := none) rfl e1⟩, ⟨fun nF Bd Bi Br Bm e0 e1 e2 e3 e4 => by
      have e0 : g 1 = nF := Option.some.inj (t1102.symm.trans e0)
      subst e0
      have e1 : g 2 = Bd := Option.some.inj (t1140.symm.trans e1)
      subst e1
      have e2 : g 9 + 0 = Bi := Option.some.inj e2
      subst e2
      have e3 : g 4 = Br := Option.some.inj (t1142.symm.trans e3)
      subst e3
      have e4 : g 12 + 0 = Bm := Option.some.inj e4
      subst e4
      exact ⟨_, RI_u hB 3 4 (by omega) (by omega) rfl (by omega) ⟨by omega, by omega⟩ (fun r h => by
              rw [Int.add_zero] at h
              exact m_s3o hR h)⟩, fun nF Bd Bi Br Bx Bm e0 e1 e2 e3 e4 e5 => by
      have e0 : g 1 = nF := Option.some.inj (t1102.symm.trans e0)
      subst e0
      have e1 : g 2 = Bd := Option.some.inj (t1140.symm.trans e1)
      subst e1
      have e2 : g 9 + 0 = Bi := Option.some.inj e2
      subst e2
      have e3 : g 4 = Br := Option.some.inj (t1142.symm.trans e3)
      subst e3
      have e4 : g 5 = Bx := Option.some.inj (t1143.symm.trans e4)
      subst e4
      have e5 : g 12 + 0 = Bm := Option.some.inj e5
      subst e5
      exact RI_u hB 3 4 (by omega) (by omega) rfl (by omega) ⟨by omega, by omega⟩ (fun r h => by
              rw [Int.add_zero] at h
              exact m_s3o hR h), h_Bd0, fun Bd Bi Bm e0 e1 e2 => by
      have e0 : g 2 = Bd := Option.some.inj (t1140.symm.trans e0)
      subst e0
      have e1 : g 9 + 0 = Bi := Option.some.inj e1
      subst e1
      have e2 : g 12 + 0 = Bm := Option.some.inj e2
      subst e2
      intro h
      omega, fun Bd Bi Bm Bf e0 e1 e2 e3 => by
      have e0 : g 2 = Bd := Option.some.inj (t1140.symm.trans e0)
      subst e0
      have e1 : g 9 + 0 = Bi := Option.some.inj e1
      subst e1
      have e2 : g 12 + 0 = Bm := Option.some.inj e2
      subst e2
      intro h
      omega, h_Bs⟩, k_C, k_X, k_R, k_f4⟩⟩
noncomputable def ru_s3g : Ru := ([(0, (1199, (0, (0, 0)))), (0, (1102, (0, (0, 0)))), (0, (1122, (0, (0, 0)))), (0, (1123, (0, (0, 0)))), (0, (1124, (0, (0, 0)))), (0, (1140, (0, (0, 0)))), (0, (1141, (0, (0, 0)))), (0, (1142, (0, (0, 0)))), (0, (1143, (0, (0, 0)))), (0, (1144, (0, (0, 0)))), (4, (0, (0, (3, 0))))], ([], ([([(9, 1)], 4), ([(9, (-1))], (-4)), ([(2, (-1)), (6, 1)], 0), ([(2, 1), (6, (-1))], 0), ([(4, (-1))], (-30)), ([(4, 1)], 31)], (false, ([], ([], ([(1141, some (6, 1)), (1144, some (10, 0))], none)))))))
theorem rk_s3g : RuOk SR ru_s3g := by
  intro τ m g hi hc ha hS
  obtain ⟨i0, i1, i2, i3, i4, i5, i6, i7, i8, i9, i10, _⟩ := hi
  have t1199 : τ 1199 = some (g 0) := i0
  have t1102 : τ 1102 = some (g 1) := i1
  have t1122 : τ 1122 = some (g 2) := i2
  have t1123 : τ 1123 = some (g 3) := i3
  have t1124 : τ 1124 = some (g 4) := i4
  have t1140 : τ 1140 = some (g 5) := i5
  have t1141 : τ 1141 = some (g 6) := i6
  have t1142 : τ 1142 = some (g 7) := i7
  have t1143 : τ 1143 = some (g 8) := i8
  have t1144 : τ 1144 = some (g 9) := i9
  have xk : g 10 = 3 := i10
  obtain ⟨c0, c1, c2, c3, c4, c5, _⟩ := hc
  have c0 : 1 * g 9 ≤ 4 := d1 c0
  have c1 : (-1) * g 9 ≤ (-4) := d1 c1
  have c2 : (-1) * g 2 + 1 * g 6 ≤ 0 := d2 c2
  have c3 : 1 * g 2 + (-1) * g 6 ≤ 0 := d2 c3
  have c4 : (-1) * g 4 ≤ (-30) := d1 c4
  have c5 : 1 * g 4 ≤ 31 := d1 c5
  obtain ⟨h0, k_tok, k_sc1, k_sc2, k_T, k_I, k_F, k_N, k_Y, k_Z, k_A, k_B, k_C, k_X, k_R, k_f4⟩ := hS (by rw [t1199]; exact fun e => by cases e)
  have k_tok0 := k_tok
  obtain ⟨h_L, h_n, h_nF⟩ := k_tok0
  have k_I0 := k_I
  obtain ⟨h_p, h_pc, h_ip, h_iP, h_PC, h_PN⟩ := k_I0
  have k_B0 := k_B
  obtain ⟨h_B0, h_B, h_Bd0, h_B26, h_B22, h_Bs⟩ := k_B0
  obtain ⟨hn0, _, hNT⟩ := h_nF _ t1102
  have hB := h_B _ _ _ _ _ _ t1102 t1140 t1141 t1142 t1143 t1144
  have rB := hB.1
  obtain ⟨⟨hi0, hi1⟩, hpi⟩ := h_ip _ _ _ t1102 t1122 t1123
  have eb : (g 2).toNat = (g 6).toNat := by omega
  rw [eb] at hpi
  have ep : (g 3).toNat = Tp9 (tx9 m) (g 6).toNat := by omega
  have hcc := h_pc _ _ t1123 t1124
  rw [ep] at hcc
  have hx1 := NT_next hNT (i := (g 6).toNat) (by omega) (by omega)
  exact ⟨rfl, trivial, trivial, fun _ => ⟨h0, k_tok, k_sc1, k_sc2, k_T, k_I, k_F, k_N, k_Y, k_Z, k_A, ⟨fun nF Bd Bi Br Bm e0 e1 e2 e3 e4 => by
      have e0 : g 1 = nF := Option.some.inj (t1102.symm.trans e0)
      subst e0
      have e1 : g 5 = Bd := Option.some.inj (t1140.symm.trans e1)
      subst e1
      have e2 : g 6 + 1 = Bi := Option.some.inj e2
      subst e2
      have e3 : g 7 = Br := Option.some.inj (t1142.symm.trans e3)
      subst e3
      have e4 : g 10 + 0 = Bm := Option.some.inj e4
      subst e4
      exact ⟨_, RI_u hB 4 3 (by omega) (by omega) rfl (by omega) ⟨by omega, by omega⟩ (fun r h => by
              rw [St_n (by omega)] at h
              exact m_s3g (by omega) (by omega) h)⟩, fun nF Bd Bi Br Bx Bm e0 e1 e2 e3 e4 e5 => by
      have e0 : g 1 = nF := Option.some.inj (t1102.symm.trans e0)
      subst e0
      have e1 : g 5 = Bd := Option.some.inj (t1140.symm.trans e1)
      subst e1
      have e2 : g 6 + 1 = Bi := Option.some.inj e2
      subst e2
      have e3 : g 7 = Br := Option.some.inj (t1142.symm.trans e3)
      subst e3
      have e4 : g 8 = Bx := Option.some.inj (t1143.symm.trans e4)
      subst e4
      have e5 : g 10 + 0 = Bm := Option.some.inj e5
      subst e5
      exact RI_u hB 4 3 (by omega) (by omega) rfl (by omega) ⟨by omega, by omega⟩ (fun r h => by
              rw [St_n (by omega)] at h
              exact m_s3g (by omega) (by omega) h), h_Bd0, fun Bd Bi Bm e0 e1 e2 => by
      have e0 : g 5 = Bd := Option.some.inj (t1140.symm.trans e0)
      subst e0
      have e1 : g 6 + 1 = Bi := Option.some.inj e1
      subst e1
      have e2 : g 10 + 0 = Bm := Option.some.inj e2
      subst e2
      intro h
      omega, fun Bd Bi Bm Bf e0 e1 e2 e3 => by
      have e0 : g 5 = Bd := Option.some.inj (t1140.symm.trans e0)
      subst e0
      have e1 : g 6 + 1 = Bi := Option.some.inj e1
      subst e1
      have e2 : g 10 + 0 = Bm := Option.some.inj e2
      subst e2
      intro h
      omega, h_Bs⟩, k_C, k_X, k_R, k_f4⟩⟩
noncomputable def ru_s3e : Ru := ([(0, (1199, (0, (0, 0)))), (0, (1102, (0, (0, 0)))), (0, (1122, (0, (0, 0)))), (0, (1123, (0, (0, 0)))), (0, (1124, (0, (0, 0)))), (0, (1140, (0, (0, 0)))), (0, (1141, (0, (0, 0)))), (0, (1142, (0, (0, 0)))), (0, (1143, (0, (0, 0)))), (0, (1144, (0, (0, 0))))], ([], ([([(9, 1)], 4), ([(9, (-1))], (-4)), ([(2, (-1)), (6, 1)], 0), ([(2, 1), (6, (-1))], 0), ([(4, 1)], 29)], (false, ([([(6, (-1)), (7, 1)], 0), ([(6, 1), (7, (-1))], 0), ([(8, 1)], (-1)), ([(8, (-1))], 1)], ([], ([], none)))))))
theorem rk_s3e : RuOk SR ru_s3e := by
  intro τ m g hi hc ha hS
  obtain ⟨i0, i1, i2, i3, i4, i5, i6, i7, i8, i9, _⟩ := hi
  have t1199 : τ 1199 = some (g 0) := i0
  have t1102 : τ 1102 = some (g 1) := i1
  have t1122 : τ 1122 = some (g 2) := i2
  have t1123 : τ 1123 = some (g 3) := i3
  have t1124 : τ 1124 = some (g 4) := i4
  have t1140 : τ 1140 = some (g 5) := i5
  have t1141 : τ 1141 = some (g 6) := i6
  have t1142 : τ 1142 = some (g 7) := i7
  have t1143 : τ 1143 = some (g 8) := i8
  have t1144 : τ 1144 = some (g 9) := i9
  obtain ⟨c0, c1, c2, c3, c4, _⟩ := hc
  have c0 : 1 * g 9 ≤ 4 := d1 c0
  have c1 : (-1) * g 9 ≤ (-4) := d1 c1
  have c2 : (-1) * g 2 + 1 * g 6 ≤ 0 := d2 c2
  have c3 : 1 * g 2 + (-1) * g 6 ≤ 0 := d2 c3
  have c4 : 1 * g 4 ≤ 29 := d1 c4
  obtain ⟨h0, k_tok, k_sc1, k_sc2, k_T, k_I, k_F, k_N, k_Y, k_Z, k_A, k_B, k_C, k_X, k_R, k_f4⟩ := hS (by rw [t1199]; exact fun e => by cases e)
  have k_tok0 := k_tok
  obtain ⟨h_L, h_n, h_nF⟩ := k_tok0
  have k_I0 := k_I
  obtain ⟨h_p, h_pc, h_ip, h_iP, h_PC, h_PN⟩ := k_I0
  have k_B0 := k_B
  obtain ⟨h_B0, h_B, h_Bd0, h_B26, h_B22, h_Bs⟩ := k_B0
  obtain ⟨hn0, _, hNT⟩ := h_nF _ t1102
  have hB := h_B _ _ _ _ _ _ t1102 t1140 t1141 t1142 t1143 t1144
  have rB := hB.1
  obtain ⟨⟨hi0, hi1⟩, hpi⟩ := h_ip _ _ _ t1102 t1122 t1123
  have eb : (g 2).toNat = (g 6).toNat := by omega
  rw [eb] at hpi
  have ep : (g 3).toNat = Tp9 (tx9 m) (g 6).toNat := by omega
  have hcc := h_pc _ _ t1123 t1124
  rw [ep] at hcc
  obtain ⟨y1, y2⟩ := RI_f hNT hB 4 (by omega) (j := (g 6).toNat) (by omega) (m_s3e (by omega))
  exact ⟨rfl, ⟨f2 (by omega), f2 (by omega), f1 (by omega), f1 (by omega), trivial⟩, trivial, fun _ => ⟨h0, k_tok, k_sc1, k_sc2, k_T, k_I, k_F, k_N, k_Y, k_Z, k_A, k_B, k_C, k_X, k_R, k_f4⟩⟩
noncomputable def ru_s3f : Ru := ([(0, (1199, (0, (0, 0)))), (0, (1102, (0, (0, 0)))), (0, (1122, (0, (0, 0)))), (0, (1123, (0, (0, 0)))), (0, (1124, (0, (0, 0)))), (0, (1140, (0, (0, 0)))), (0, (1141, (0, (0, 0)))), (0, (1142, (0, (0, 0)))), (0, (1143, (0, (0, 0)))), (0, (1144, (0, (0, 0))))], ([], ([([(9, 1)], 4), ([(9, (-1))], (-4)), ([(2, (-1)), (6, 1)], 0), ([(2, 1), (6, (-1))], 0), ([(4, (-1))], (-32))], (false, ([([(6, (-1)), (7, 1)], 0), ([(6, 1), (7, (-1))], 0), ([(8, 1)], (-1)), ([(8, (-1))], 1)], ([], ([], none)))))))
theorem rk_s3f : RuOk SR ru_s3f := by
  intro τ m g hi hc ha hS
  obtain ⟨i0, i1, i2, i3, i4, i5, i6, i7, i8, i9, _⟩ := hi
  have t1199 : τ 1199 = some (g 0) := i0
  have t1102 : τ 1102 = some (g 1) := i1
  have t1122 : τ 1122 = some (g 2) := i2
  have t1123 : τ 1123 = some (g 3) := i3
  have t1124 : τ 1124 = some (g 4) := i4
  have t1140 : τ 1140 = some (g 5) := i5
  have t1141 : τ 1141 = some (g 6) := i6
  have t1142 : τ 1142 = some (g 7) := i7
  have t1143 : τ 1143 = some (g 8) := i8
  have t1144 : τ 1144 = some (g 9) := i9
  obtain ⟨c0, c1, c2, c3, c4, _⟩ := hc
  have c0 : 1 * g 9 ≤ 4 := d1 c0
  have c1 : (-1) * g 9 ≤ (-4) := d1 c1
  have c2 : (-1) * g 2 + 1 * g 6 ≤ 0 := d2 c2
  have c3 : 1 * g 2 + (-1) * g 6 ≤ 0 := d2 c3
  have c4 : (-1) * g 4 ≤ (-32) := d1 c4
  obtain ⟨h0, k_tok, k_sc1, k_sc2, k_T, k_I, k_F, k_N, k_Y, k_Z, k_A, k_B, k_C, k_X, k_R, k_f4⟩ := hS (by rw [t1199]; exact fun e => by cases e)
  have k_tok0 := k_tok
  obtain ⟨h_L, h_n, h_nF⟩ := k_tok0
  have k_I0 := k_I
  obtain ⟨h_p, h_pc, h_ip, h_iP, h_PC, h_PN⟩ := k_I0
  have k_B0 := k_B
  obtain ⟨h_B0, h_B, h_Bd0, h_B26, h_B22, h_Bs⟩ := k_B0
  obtain ⟨hn0, _, hNT⟩ := h_nF _ t1102
  have hB := h_B _ _ _ _ _ _ t1102 t1140 t1141 t1142 t1143 t1144
  have rB := hB.1
  obtain ⟨⟨hi0, hi1⟩, hpi⟩ := h_ip _ _ _ t1102 t1122 t1123
  have eb : (g 2).toNat = (g 6).toNat := by omega
  rw [eb] at hpi
  have ep : (g 3).toNat = Tp9 (tx9 m) (g 6).toNat := by omega
  have hcc := h_pc _ _ t1123 t1124
  rw [ep] at hcc
  obtain ⟨y1, y2⟩ := RI_f hNT hB 4 (by omega) (j := (g 6).toNat) (by omega) (m_s3f (by omega))
  exact ⟨rfl, ⟨f2 (by omega), f2 (by omega), f1 (by omega), f1 (by omega), trivial⟩, trivial, fun _ => ⟨h0, k_tok, k_sc1, k_sc2, k_T, k_I, k_F, k_N, k_Y, k_Z, k_A, k_B, k_C, k_X, k_R, k_f4⟩⟩
noncomputable def ru_bA3 : Ru := ([(0, (1199, (0, (0, 0)))), (0, (1102, (0, (0, 0)))), (0, (1140, (0, (0, 0)))), (0, (1141, (0, (0, 0)))), (0, (1142, (0, (0, 0)))), (0, (1143, (0, (0, 0)))), (0, (1144, (0, (0, 0)))), (0, (1130, (0, (0, 0)))), (0, (1131, (0, (0, 0)))), (0, (1132, (0, (0, 0)))), (0, (1133, (0, (0, 0)))), (0, (1134, (0, (0, 0))))], ([], ([([(6, 1)], 3), ([(6, (-1))], (-3)), ([(11, 1)], 4), ([(11, (-1))], (-4)), ([(2, (-1)), (7, 1)], 0), ([(2, 1), (7, (-1))], 0), ([(4, (-1)), (9, 1)], 0), ([(4, 1), (9, (-1))], 0), ([(5, (-1)), (10, 1)], 0), ([(5, 1), (10, (-1))], 0)], (false, ([], ([], ([(1141, some (8, 0)), (1144, some (11, 0)), (1130, none), (1131, none), (1132, none), (1133, none), (1134, none)], none)))))))
theorem rk_bA3 : RuOk SR ru_bA3 := by
  intro τ m g hi hc ha hS
  obtain ⟨i0, i1, i2, i3, i4, i5, i6, i7, i8, i9, i10, i11, _⟩ := hi
  have t1199 : τ 1199 = some (g 0) := i0
  have t1102 : τ 1102 = some (g 1) := i1
  have t1140 : τ 1140 = some (g 2) := i2
  have t1141 : τ 1141 = some (g 3) := i3
  have t1142 : τ 1142 = some (g 4) := i4
  have t1143 : τ 1143 = some (g 5) := i5
  have t1144 : τ 1144 = some (g 6) := i6
  have t1130 : τ 1130 = some (g 7) := i7
  have t1131 : τ 1131 = some (g 8) := i8
  have t1132 : τ 1132 = some (g 9) := i9
  have t1133 : τ 1133 = some (g 10) := i10
  have t1134 : τ 1134 = some (g 11) := i11
  obtain ⟨c0, c1, c2, c3, c4, c5, c6, c7, c8, c9, _⟩ := hc
  have c0 : 1 * g 6 ≤ 3 := d1 c0
  have c1 : (-1) * g 6 ≤ (-3) := d1 c1
  have c2 : 1 * g 11 ≤ 4 := d1 c2
  have c3 : (-1) * g 11 ≤ (-4) := d1 c3
  have c4 : (-1) * g 2 + 1 * g 7 ≤ 0 := d2 c4
  have c5 : 1 * g 2 + (-1) * g 7 ≤ 0 := d2 c5
  have c6 : (-1) * g 4 + 1 * g 9 ≤ 0 := d2 c6
  have c7 : 1 * g 4 + (-1) * g 9 ≤ 0 := d2 c7
  have c8 : (-1) * g 5 + 1 * g 10 ≤ 0 := d2 c8
  have c9 : 1 * g 5 + (-1) * g 10 ≤ 0 := d2 c9
  obtain ⟨h0, k_tok, k_sc1, k_sc2, k_T, k_I, k_F, k_N, k_Y, k_Z, k_A, k_B, k_C, k_X, k_R, k_f4⟩ := hS (by rw [t1199]; exact fun e => by cases e)
  have k_tok0 := k_tok
  obtain ⟨h_L, h_n, h_nF⟩ := k_tok0
  have k_A0 := k_A
  obtain ⟨h_A0, h_A⟩ := k_A0
  have k_B0 := k_B
  obtain ⟨h_B0, h_B, h_Bd0, h_B26, h_B22, h_Bs⟩ := k_B0
  obtain ⟨hn0, _, hNT⟩ := h_nF _ t1102
  have hA := h_A _ _ _ _ _ _ t1102 t1130 t1131 t1132 t1133 t1134
  have rA := hA.1
  have hB := h_B _ _ _ _ _ _ t1102 t1140 t1141 t1142 t1143 t1144
  have rB := hB.1
  exact ⟨rfl, trivial, trivial, fun _ => ⟨h0, k_tok, k_sc1, k_sc2, k_T, k_I, k_F, k_N, k_Y, k_Z, ⟨fun _ _ _ _ _ e0 e1 e2 e3 e4 => no9 (o := none) rfl e1, fun _ _ _ _ _ _ e0 e1 e2 e3 e4 e5 => no9 (o := none) rfl e1⟩, ⟨fun nF Bd Bi Br Bm e0 e1 e2 e3 e4 => by
      have e0 : g 1 = nF := Option.some.inj (t1102.symm.trans e0)
      subst e0
      have e1 : g 2 = Bd := Option.some.inj (t1140.symm.trans e1)
      subst e1
      have e2 : g 8 + 0 = Bi := Option.some.inj e2
      subst e2
      have e3 : g 4 = Br := Option.some.inj (t1142.symm.trans e3)
      subst e3
      have e4 : g 11 + 0 = Bm := Option.some.inj e4
      subst e4
      refine ⟨g 10, ?_⟩
      rw [Int.add_zero, Int.add_zero, show g 2 = g 7 by omega, show g 4 = g 9 by omega]
      exact hA, fun nF Bd Bi Br Bx Bm e0 e1 e2 e3 e4 e5 => by
      have e0 : g 1 = nF := Option.some.inj (t1102.symm.trans e0)
      subst e0
      have e1 : g 2 = Bd := Option.some.inj (t1140.symm.trans e1)
      subst e1
      have e2 : g 8 + 0 = Bi := Option.some.inj e2
      subst e2
      have e3 : g 4 = Br := Option.some.inj (t1142.symm.trans e3)
      subst e3
      have e4 : g 5 = Bx := Option.some.inj (t1143.symm.trans e4)
      subst e4
      have e5 : g 11 + 0 = Bm := Option.some.inj e5
      subst e5
      rw [Int.add_zero, Int.add_zero, show g 2 = g 7 by omega, show g 4 = g 9 by omega, show g 5 = g 10 by omega]
      exact hA, h_Bd0, fun Bd Bi Bm e0 e1 e2 => by
      have e0 : g 2 = Bd := Option.some.inj (t1140.symm.trans e0)
      subst e0
      have e1 : g 8 + 0 = Bi := Option.some.inj e1
      subst e1
      have e2 : g 11 + 0 = Bm := Option.some.inj e2
      subst e2
      intro h
      omega, fun Bd Bi Bm Bf e0 e1 e2 e3 => by
      have e0 : g 2 = Bd := Option.some.inj (t1140.symm.trans e0)
      subst e0
      have e1 : g 8 + 0 = Bi := Option.some.inj e1
      subst e1
      have e2 : g 11 + 0 = Bm := Option.some.inj e2
      subst e2
      intro h
      omega, h_Bs⟩, k_C, k_X, k_R, k_f4⟩⟩
noncomputable def ru_mX : Ru := ([(0, (1199, (0, (0, 0)))), (0, (1102, (0, (0, 0)))), (0, (1140, (0, (0, 0)))), (0, (1141, (0, (0, 0)))), (0, (1142, (0, (0, 0)))), (0, (1143, (0, (0, 0)))), (0, (1144, (0, (0, 0)))), (0, (1130, (0, (0, 0)))), (0, (1131, (0, (0, 0)))), (0, (1132, (0, (0, 0)))), (0, (1133, (0, (0, 0)))), (0, (1134, (0, (0, 0))))], ([], ([([(6, 1)], 6), ([(6, (-1))], (-6)), ([(11, 1)], 1), ([(11, (-1))], (-1)), ([(3, (-1)), (8, 1)], 0), ([(3, 1), (8, (-1))], 0), ([(2, (-1)), (7, 1)], 0), ([(2, 1), (7, (-1))], 0), ([(9, 1)], (-1))], (false, ([([(5, 1), (10, (-1))], 0), ([(5, (-1)), (10, 1)], 0), ([(4, 1)], (-1)), ([(4, (-1))], 1)], ([], ([], none)))))))
theorem rk_mX : RuOk SR ru_mX := by
  intro τ m g hi hc ha hS
  obtain ⟨i0, i1, i2, i3, i4, i5, i6, i7, i8, i9, i10, i11, _⟩ := hi
  have t1199 : τ 1199 = some (g 0) := i0
  have t1102 : τ 1102 = some (g 1) := i1
  have t1140 : τ 1140 = some (g 2) := i2
  have t1141 : τ 1141 = some (g 3) := i3
  have t1142 : τ 1142 = some (g 4) := i4
  have t1143 : τ 1143 = some (g 5) := i5
  have t1144 : τ 1144 = some (g 6) := i6
  have t1130 : τ 1130 = some (g 7) := i7
  have t1131 : τ 1131 = some (g 8) := i8
  have t1132 : τ 1132 = some (g 9) := i9
  have t1133 : τ 1133 = some (g 10) := i10
  have t1134 : τ 1134 = some (g 11) := i11
  obtain ⟨c0, c1, c2, c3, c4, c5, c6, c7, c8, _⟩ := hc
  have c0 : 1 * g 6 ≤ 6 := d1 c0
  have c1 : (-1) * g 6 ≤ (-6) := d1 c1
  have c2 : 1 * g 11 ≤ 1 := d1 c2
  have c3 : (-1) * g 11 ≤ (-1) := d1 c3
  have c4 : (-1) * g 3 + 1 * g 8 ≤ 0 := d2 c4
  have c5 : 1 * g 3 + (-1) * g 8 ≤ 0 := d2 c5
  have c6 : (-1) * g 2 + 1 * g 7 ≤ 0 := d2 c6
  have c7 : 1 * g 2 + (-1) * g 7 ≤ 0 := d2 c7
  have c8 : 1 * g 9 ≤ (-1) := d1 c8
  obtain ⟨h0, k_tok, k_sc1, k_sc2, k_T, k_I, k_F, k_N, k_Y, k_Z, k_A, k_B, k_C, k_X, k_R, k_f4⟩ := hS (by rw [t1199]; exact fun e => by cases e)
  have k_tok0 := k_tok
  obtain ⟨h_L, h_n, h_nF⟩ := k_tok0
  have k_A0 := k_A
  obtain ⟨h_A0, h_A⟩ := k_A0
  have k_B0 := k_B
  obtain ⟨h_B0, h_B, h_Bd0, h_B26, h_B22, h_Bs⟩ := k_B0
  obtain ⟨hn0, _, hNT⟩ := h_nF _ t1102
  have hB := h_B _ _ _ _ _ _ t1102 t1140 t1141 t1142 t1143 t1144
  have rB := hB.1
  have hA := h_A _ _ _ _ _ _ t1102 t1130 t1131 t1132 t1133 t1134
  have rA := hA.1
  have ea : (g 8).toNat = (g 3).toNat := by omega
  have ed : (g 7).toNat = (g 2).toNat := by omega
  obtain ⟨hr1, hr2, hR⟩ := RI_n hA 1 (by omega) (by omega)
  rw [ea, ed] at hR
  obtain ⟨y1, y2⟩ := RI_b hB 6 (by omega) (m_mX hR)
  exact ⟨rfl, ⟨f2 (by omega), f2 (by omega), f1 (by omega), f1 (by omega), trivial⟩, trivial, fun _ => ⟨h0, k_tok, k_sc1, k_sc2, k_T, k_I, k_F, k_N, k_Y, k_Z, k_A, k_B, k_C, k_X, k_R, k_f4⟩⟩
noncomputable def ru_mI : Ru := ([(0, (1199, (0, (0, 0)))), (0, (1102, (0, (0, 0)))), (0, (1122, (0, (0, 0)))), (0, (1123, (0, (0, 0)))), (0, (1124, (0, (0, 0)))), (0, (1140, (0, (0, 0)))), (0, (1141, (0, (0, 0)))), (0, (1142, (0, (0, 0)))), (0, (1143, (0, (0, 0)))), (0, (1144, (0, (0, 0)))), (0, (1130, (0, (0, 0)))), (0, (1131, (0, (0, 0)))), (0, (1132, (0, (0, 0)))), (0, (1133, (0, (0, 0)))), (0, (1134, (0, (0, 0)))), (4, (0, (0, (9, 0))))], ([], ([([(9, 1)], 6), ([(9, (-1))], (-6)), ([(14, 1)], 1), ([(14, (-1))], (-1)), ([(6, (-1)), (11, 1)], 0), ([(6, 1), (11, (-1))], 0), ([(5, (-1)), (10, 1)], 0), ([(5, 1), (10, (-1))], 0), ([(12, (-1))], 0), ([(2, 1), (12, (-1))], 0), ([(2, (-1)), (12, 1)], 0), ([(4, (-1))], (-29)), ([(4, 1)], 29)], (false, ([], ([], ([(1141, some (12, 1)), (1144, some (15, 0)), (1130, none), (1131, none), (1132, none), (1133, none), (1134, none)], none)))))))
theorem rk_mI : RuOk SR ru_mI := by
  intro τ m g hi hc ha hS
  obtain ⟨i0, i1, i2, i3, i4, i5, i6, i7, i8, i9, i10, i11, i12, i13, i14, i15, _⟩ := hi
  have t1199 : τ 1199 = some (g 0) := i0
  have t1102 : τ 1102 = some (g 1) := i1
  have t1122 : τ 1122 = some (g 2) := i2
  have t1123 : τ 1123 = some (g 3) := i3
  have t1124 : τ 1124 = some (g 4) := i4
  have t1140 : τ 1140 = some (g 5) := i5
  have t1141 : τ 1141 = some (g 6) := i6
  have t1142 : τ 1142 = some (g 7) := i7
  have t1143 : τ 1143 = some (g 8) := i8
  have t1144 : τ 1144 = some (g 9) := i9
  have t1130 : τ 1130 = some (g 10) := i10
  have t1131 : τ 1131 = some (g 11) := i11
  have t1132 : τ 1132 = some (g 12) := i12
  have t1133 : τ 1133 = some (g 13) := i13
  have t1134 : τ 1134 = some (g 14) := i14
  have xk : g 15 = 9 := i15
  obtain ⟨c0, c1, c2, c3, c4, c5, c6, c7, c8, c9, c10, c11, c12, _⟩ := hc
  have c0 : 1 * g 9 ≤ 6 := d1 c0
  have c1 : (-1) * g 9 ≤ (-6) := d1 c1
  have c2 : 1 * g 14 ≤ 1 := d1 c2
  have c3 : (-1) * g 14 ≤ (-1) := d1 c3
  have c4 : (-1) * g 6 + 1 * g 11 ≤ 0 := d2 c4
  have c5 : 1 * g 6 + (-1) * g 11 ≤ 0 := d2 c5
  have c6 : (-1) * g 5 + 1 * g 10 ≤ 0 := d2 c6
  have c7 : 1 * g 5 + (-1) * g 10 ≤ 0 := d2 c7
  have c8 : (-1) * g 12 ≤ 0 := d1 c8
  have c9 : 1 * g 2 + (-1) * g 12 ≤ 0 := d2 c9
  have c10 : (-1) * g 2 + 1 * g 12 ≤ 0 := d2 c10
  have c11 : (-1) * g 4 ≤ (-29) := d1 c11
  have c12 : 1 * g 4 ≤ 29 := d1 c12
  obtain ⟨h0, k_tok, k_sc1, k_sc2, k_T, k_I, k_F, k_N, k_Y, k_Z, k_A, k_B, k_C, k_X, k_R, k_f4⟩ := hS (by rw [t1199]; exact fun e => by cases e)
  have k_tok0 := k_tok
  obtain ⟨h_L, h_n, h_nF⟩ := k_tok0
  have k_I0 := k_I
  obtain ⟨h_p, h_pc, h_ip, h_iP, h_PC, h_PN⟩ := k_I0
  have k_A0 := k_A
  obtain ⟨h_A0, h_A⟩ := k_A0
  have k_B0 := k_B
  obtain ⟨h_B0, h_B, h_Bd0, h_B26, h_B22, h_Bs⟩ := k_B0
  obtain ⟨hn0, _, hNT⟩ := h_nF _ t1102
  have hB := h_B _ _ _ _ _ _ t1102 t1140 t1141 t1142 t1143 t1144
  have rB := hB.1
  have hA := h_A _ _ _ _ _ _ t1102 t1130 t1131 t1132 t1133 t1134
  have rA := hA.1
  have ea : (g 11).toNat = (g 6).toNat := by omega
  have ed : (g 10).toNat = (g 5).toNat := by omega
  obtain ⟨hr1, hr2, hr3, hR⟩ := RI_p hA 1 (by omega) (by omega)
  rw [ea, ed] at hR
  obtain ⟨⟨hi0, hi1⟩, hpi⟩ := h_ip _ _ _ t1102 t1122 t1123
  have eb : (g 2).toNat = (g 12).toNat := by omega
  rw [eb] at hpi
  have ep : (g 3).toNat = Tp9 (tx9 m) (g 12).toNat := by omega
  have hcc := h_pc _ _ t1123 t1124
  rw [ep] at hcc
  have hx1 := NT_next hNT (i := (g 12).toNat) (by omega) (by omega)
  exact ⟨rfl, trivial, trivial, fun _ => ⟨h0, k_tok, k_sc1, k_sc2, k_T, k_I, k_F, k_N, k_Y, k_Z, ⟨fun _ _ _ _ _ e0 e1 e2 e3 e4 => no9 (o := none) rfl e1, fun _ _ _ _ _ _ e0 e1 e2 e3 e4 e5 => no9 (o := none) rfl e1⟩, ⟨fun nF Bd Bi Br Bm e0 e1 e2 e3 e4 => by
      have e0 : g 1 = nF := Option.some.inj (t1102.symm.trans e0)
      subst e0
      have e1 : g 5 = Bd := Option.some.inj (t1140.symm.trans e1)
      subst e1
      have e2 : g 12 + 1 = Bi := Option.some.inj e2
      subst e2
      have e3 : g 7 = Br := Option.some.inj (t1142.symm.trans e3)
      subst e3
      have e4 : g 15 + 0 = Bm := Option.some.inj e4
      subst e4
      exact ⟨_, RI_u hB 6 9 (by omega) (by omega) rfl (by omega) ⟨by omega, by omega⟩ (fun r h => by
              rw [St_n (by omega)] at h
              exact m_mI hR (by omega) (by omega) h)⟩, fun nF Bd Bi Br Bx Bm e0 e1 e2 e3 e4 e5 => by
      have e0 : g 1 = nF := Option.some.inj (t1102.symm.trans e0)
      subst e0
      have e1 : g 5 = Bd := Option.some.inj (t1140.symm.trans e1)
      subst e1
      have e2 : g 12 + 1 = Bi := Option.some.inj e2
      subst e2
      have e3 : g 7 = Br := Option.some.inj (t1142.symm.trans e3)
      subst e3
      have e4 : g 8 = Bx := Option.some.inj (t1143.symm.trans e4)
      subst e4
      have e5 : g 15 + 0 = Bm := Option.some.inj e5
      subst e5
      exact RI_u hB 6 9 (by omega) (by omega) rfl (by omega) ⟨by omega, by omega⟩ (fun r h => by
              rw [St_n (by omega)] at h
              exact m_mI hR (by omega) (by omega) h), h_Bd0, fun Bd Bi Bm e0 e1 e2 => by
      have e0 : g 5 = Bd := Option.some.inj (t1140.symm.trans e0)
      subst e0
      have e1 : g 12 + 1 = Bi := Option.some.inj e1
      subst e1
      have e2 : g 15 + 0 = Bm := Option.some.inj e2
      subst e2
      intro h
      omega, fun Bd Bi Bm Bf e0 e1 e2 e3 => by
      have e0 : g 5 = Bd := Option.some.inj (t1140.symm.trans e0)
      subst e0
      have e1 : g 12 + 1 = Bi := Option.some.inj e1
      subst e1
      have e2 : g 15 + 0 = Bm := Option.some.inj e2
      subst e2
      intro h
      omega, h_Bs⟩, k_C, k_X, k_R, k_f4⟩⟩
noncomputable def ru_mC : Ru := ([(0, (1199, (0, (0, 0)))), (0, (1102, (0, (0, 0)))), (0, (1122, (0, (0, 0)))), (0, (1123, (0, (0, 0)))), (0, (1124, (0, (0, 0)))), (0, (1140, (0, (0, 0)))), (0, (1141, (0, (0, 0)))), (0, (1142, (0, (0, 0)))), (0, (1143, (0, (0, 0)))), (0, (1144, (0, (0, 0)))), (0, (1130, (0, (0, 0)))), (0, (1131, (0, (0, 0)))), (0, (1132, (0, (0, 0)))), (0, (1133, (0, (0, 0)))), (0, (1134, (0, (0, 0)))), (4, (0, (0, (1, 0))))], ([], ([([(9, 1)], 6), ([(9, (-1))], (-6)), ([(14, 1)], 1), ([(14, (-1))], (-1)), ([(6, (-1)), (11, 1)], 0), ([(6, 1), (11, (-1))], 0), ([(5, (-1)), (10, 1)], 0), ([(5, 1), (10, (-1))], 0), ([(12, (-1))], 0), ([(2, 1), (12, (-1))], 0), ([(2, (-1)), (12, 1)], 0), ([(4, (-1))], (-13)), ([(4, 1)], 18)], (false, ([], ([], ([(1141, some (12, 1)), (1144, some (15, 0)), (1130, none), (1131, none), (1132, none), (1133, none), (1134, none)], none)))))))
theorem rk_mC : RuOk SR ru_mC := by
  intro τ m g hi hc ha hS
  obtain ⟨i0, i1, i2, i3, i4, i5, i6, i7, i8, i9, i10, i11, i12, i13, i14, i15, _⟩ := hi
  have t1199 : τ 1199 = some (g 0) := i0
  have t1102 : τ 1102 = some (g 1) := i1
  have t1122 : τ 1122 = some (g 2) := i2
  have t1123 : τ 1123 = some (g 3) := i3
  have t1124 : τ 1124 = some (g 4) := i4
  have t1140 : τ 1140 = some (g 5) := i5
  have t1141 : τ 1141 = some (g 6) := i6
  have t1142 : τ 1142 = some (g 7) := i7
  have t1143 : τ 1143 = some (g 8) := i8
  have t1144 : τ 1144 = some (g 9) := i9
  have t1130 : τ 1130 = some (g 10) := i10
  have t1131 : τ 1131 = some (g 11) := i11
  have t1132 : τ 1132 = some (g 12) := i12
  have t1133 : τ 1133 = some (g 13) := i13
  have t1134 : τ 1134 = some (g 14) := i14
  have xk : g 15 = 1 := i15
  obtain ⟨c0, c1, c2, c3, c4, c5, c6, c7, c8, c9, c10, c11, c12, _⟩ := hc
  have c0 : 1 * g 9 ≤ 6 := d1 c0
  have c1 : (-1) * g 9 ≤ (-6) := d1 c1
  have c2 : 1 * g 14 ≤ 1 := d1 c2
  have c3 : (-1) * g 14 ≤ (-1) := d1 c3
  have c4 : (-1) * g 6 + 1 * g 11 ≤ 0 := d2 c4
  have c5 : 1 * g 6 + (-1) * g 11 ≤ 0 := d2 c5
  have c6 : (-1) * g 5 + 1 * g 10 ≤ 0 := d2 c6
  have c7 : 1 * g 5 + (-1) * g 10 ≤ 0 := d2 c7
  have c8 : (-1) * g 12 ≤ 0 := d1 c8
  have c9 : 1 * g 2 + (-1) * g 12 ≤ 0 := d2 c9
  have c10 : (-1) * g 2 + 1 * g 12 ≤ 0 := d2 c10
  have c11 : (-1) * g 4 ≤ (-13) := d1 c11
  have c12 : 1 * g 4 ≤ 18 := d1 c12
  obtain ⟨h0, k_tok, k_sc1, k_sc2, k_T, k_I, k_F, k_N, k_Y, k_Z, k_A, k_B, k_C, k_X, k_R, k_f4⟩ := hS (by rw [t1199]; exact fun e => by cases e)
  have k_tok0 := k_tok
  obtain ⟨h_L, h_n, h_nF⟩ := k_tok0
  have k_I0 := k_I
  obtain ⟨h_p, h_pc, h_ip, h_iP, h_PC, h_PN⟩ := k_I0
  have k_A0 := k_A
  obtain ⟨h_A0, h_A⟩ := k_A0
  have k_B0 := k_B
  obtain ⟨h_B0, h_B, h_Bd0, h_B26, h_B22, h_Bs⟩ := k_B0
  obtain ⟨hn0, _, hNT⟩ := h_nF _ t1102
  have hB := h_B _ _ _ _ _ _ t1102 t1140 t1141 t1142 t1143 t1144
  have rB := hB.1
  have hA := h_A _ _ _ _ _ _ t1102 t1130 t1131 t1132 t1133 t1134
  have rA := hA.1
  have ea : (g 11).toNat = (g 6).toNat := by omega
  have ed : (g 10).toNat = (g 5).toNat := by omega
  obtain ⟨hr1, hr2, hr3, hR⟩ := RI_p hA 1 (by omega) (by omega)
  rw [ea, ed] at hR
  obtain ⟨⟨hi0, hi1⟩, hpi⟩ := h_ip _ _ _ t1102 t1122 t1123
  have eb : (g 2).toNat = (g 12).toNat := by omega
  rw [eb] at hpi
  have ep : (g 3).toNat = Tp9 (tx9 m) (g 12).toNat := by omega
  have hcc := h_pc _ _ t1123 t1124
  rw [ep] at hcc
  have hx1 := NT_next hNT (i := (g 12).toNat) (by omega) (by omega)
  exact ⟨rfl, trivial, trivial, fun _ => ⟨h0, k_tok, k_sc1, k_sc2, k_T, k_I, k_F, k_N, k_Y, k_Z, ⟨fun _ _ _ _ _ e0 e1 e2 e3 e4 => no9 (o := none) rfl e1, fun _ _ _ _ _ _ e0 e1 e2 e3 e4 e5 => no9 (o := none) rfl e1⟩, ⟨fun nF Bd Bi Br Bm e0 e1 e2 e3 e4 => by
      have e0 : g 1 = nF := Option.some.inj (t1102.symm.trans e0)
      subst e0
      have e1 : g 5 = Bd := Option.some.inj (t1140.symm.trans e1)
      subst e1
      have e2 : g 12 + 1 = Bi := Option.some.inj e2
      subst e2
      have e3 : g 7 = Br := Option.some.inj (t1142.symm.trans e3)
      subst e3
      have e4 : g 15 + 0 = Bm := Option.some.inj e4
      subst e4
      exact ⟨_, RI_u hB 6 1 (by omega) (by omega) rfl (by omega) ⟨by omega, by omega⟩ (fun r h => by
              rw [St_n (by omega)] at h
              exact m_mC hR (by omega) (by omega) h)⟩, fun nF Bd Bi Br Bx Bm e0 e1 e2 e3 e4 e5 => by
      have e0 : g 1 = nF := Option.some.inj (t1102.symm.trans e0)
      subst e0
      have e1 : g 5 = Bd := Option.some.inj (t1140.symm.trans e1)
      subst e1
      have e2 : g 12 + 1 = Bi := Option.some.inj e2
      subst e2
      have e3 : g 7 = Br := Option.some.inj (t1142.symm.trans e3)
      subst e3
      have e4 : g 8 = Bx := Option.some.inj (t1143.symm.trans e4)
      subst e4
      have e5 : g 15 + 0 = Bm := Option.some.inj e5
      subst e5
      exact RI_u hB 6 1 (by omega) (by omega) rfl (by omega) ⟨by omega, by omega⟩ (fun r h => by
              rw [St_n (by omega)] at h
              exact m_mC hR (by omega) (by omega) h), h_Bd0, fun Bd Bi Bm e0 e1 e2 => by
      have e0 : g 5 = Bd := Option.some.inj (t1140.symm.trans e0)
      subst e0
      have e1 : g 12 + 1 = Bi := Option.some.inj e1
      subst e1
      have e2 : g 15 + 0 = Bm := Option.some.inj e2
      subst e2
      intro h
      omega, fun Bd Bi Bm Bf e0 e1 e2 e3 => by
      have e0 : g 5 = Bd := Option.some.inj (t1140.symm.trans e0)
      subst e0
      have e1 : g 12 + 1 = Bi := Option.some.inj e1
      subst e1
      have e2 : g 15 + 0 = Bm := Option.some.inj e2
      subst e2
      intro h
      omega, h_Bs⟩, k_C, k_X, k_R, k_f4⟩⟩
noncomputable def ru_mNa : Ru := ([(0, (1199, (0, (0, 0)))), (0, (1102, (0, (0, 0)))), (0, (1122, (0, (0, 0)))), (0, (1123, (0, (0, 0)))), (0, (1124, (0, (0, 0)))), (0, (1140, (0, (0, 0)))), (0, (1141, (0, (0, 0)))), (0, (1142, (0, (0, 0)))), (0, (1143, (0, (0, 0)))), (0, (1144, (0, (0, 0)))), (0, (1130, (0, (0, 0)))), (0, (1131, (0, (0, 0)))), (0, (1132, (0, (0, 0)))), (0, (1133, (0, (0, 0)))), (0, (1134, (0, (0, 0))))], ([], ([([(9, 1)], 6), ([(9, (-1))], (-6)), ([(14, 1)], 1), ([(14, (-1))], (-1)), ([(6, (-1)), (11, 1)], 0), ([(6, 1), (11, (-1))], 0), ([(5, (-1)), (10, 1)], 0), ([(5, 1), (10, (-1))], 0), ([(12, (-1))], 0), ([(2, 1), (12, (-1))], 0), ([(2, (-1)), (12, 1)], 0), ([(4, (-1))], 0), ([(4, 1)], 12)], (false, ([([(3, (-1)), (8, 1)], 0), ([(3, 1), (8, (-1))], 0), ([(7, 1)], (-1)), ([(7, (-1))], 1)], ([], ([], none)))))))
theorem rk_mNa : RuOk SR ru_mNa := by
  intro τ m g hi hc ha hS
  obtain ⟨i0, i1, i2, i3, i4, i5, i6, i7, i8, i9, i10, i11, i12, i13, i14, _⟩ := hi
  have t1199 : τ 1199 = some (g 0) := i0
  have t1102 : τ 1102 = some (g 1) := i1
  have t1122 : τ 1122 = some (g 2) := i2
  have t1123 : τ 1123 = some (g 3) := i3
  have t1124 : τ 1124 = some (g 4) := i4
  have t1140 : τ 1140 = some (g 5) := i5
  have t1141 : τ 1141 = some (g 6) := i6
  have t1142 : τ 1142 = some (g 7) := i7
  have t1143 : τ 1143 = some (g 8) := i8
  have t1144 : τ 1144 = some (g 9) := i9
  have t1130 : τ 1130 = some (g 10) := i10
  have t1131 : τ 1131 = some (g 11) := i11
  have t1132 : τ 1132 = some (g 12) := i12
  have t1133 : τ 1133 = some (g 13) := i13
  have t1134 : τ 1134 = some (g 14) := i14
  obtain ⟨c0, c1, c2, c3, c4, c5, c6, c7, c8, c9, c10, c11, c12, _⟩ := hc
  have c0 : 1 * g 9 ≤ 6 := d1 c0
  have c1 : (-1) * g 9 ≤ (-6) := d1 c1
  have c2 : 1 * g 14 ≤ 1 := d1 c2
  have c3 : (-1) * g 14 ≤ (-1) := d1 c3
  have c4 : (-1) * g 6 + 1 * g 11 ≤ 0 := d2 c4
  have c5 : 1 * g 6 + (-1) * g 11 ≤ 0 := d2 c5
  have c6 : (-1) * g 5 + 1 * g 10 ≤ 0 := d2 c6
  have c7 : 1 * g 5 + (-1) * g 10 ≤ 0 := d2 c7
  have c8 : (-1) * g 12 ≤ 0 := d1 c8
  have c9 : 1 * g 2 + (-1) * g 12 ≤ 0 := d2 c9
  have c10 : (-1) * g 2 + 1 * g 12 ≤ 0 := d2 c10
  have c11 : (-1) * g 4 ≤ 0 := d1 c11
  have c12 : 1 * g 4 ≤ 12 := d1 c12
  obtain ⟨h0, k_tok, k_sc1, k_sc2, k_T, k_I, k_F, k_N, k_Y, k_Z, k_A, k_B, k_C, k_X, k_R, k_f4⟩ := hS (by rw [t1199]; exact fun e => by cases e)
  have k_tok0 := k_tok
  obtain ⟨h_L, h_n, h_nF⟩ := k_tok0
  have k_I0 := k_I
  obtain ⟨h_p, h_pc, h_ip, h_iP, h_PC, h_PN⟩ := k_I0
  have k_A0 := k_A
  obtain ⟨h_A0, h_A⟩ := k_A0
  have k_B0 := k_B
  obtain ⟨h_B0, h_B, h_Bd0, h_B26, h_B22, h_Bs⟩ := k_B0
  obtain ⟨hn0, _, hNT⟩ := h_nF _ t1102
  have hB := h_B _ _ _ _ _ _ t1102 t1140 t1141 t1142 t1143 t1144
  have rB := hB.1
  have hA := h_A _ _ _ _ _ _ t1102 t1130 t1131 t1132 t1133 t1134
  have rA := hA.1
  have ea : (g 11).toNat = (g 6).toNat := by omega
  have ed : (g 10).toNat = (g 5).toNat := by omega
  obtain ⟨hr1, hr2, hr3, hR⟩ := RI_p hA 1 (by omega) (by omega)
  rw [ea, ed] at hR
  obtain ⟨⟨hi0, hi1⟩, hpi⟩ := h_ip _ _ _ t1102 t1122 t1123
  have eb : (g 2).toNat = (g 12).toNat := by omega
  rw [eb] at hpi
  have ep : (g 3).toNat = Tp9 (tx9 m) (g 12).toNat := by omega
  have hcc := h_pc _ _ t1123 t1124
  rw [ep] at hcc
  obtain ⟨y1, y2⟩ := RI_b hB 6 (by omega) (m_mNa hR (by omega))
  exact ⟨rfl, ⟨f2 (by omega), f2 (by omega), f1 (by omega), f1 (by omega), trivial⟩, trivial, fun _ => ⟨h0, k_tok, k_sc1, k_sc2, k_T, k_I, k_F, k_N, k_Y, k_Z, k_A, k_B, k_C, k_X, k_R, k_f4⟩⟩
noncomputable def ru_mNb : Ru := ([(0, (1199, (0, (0, 0)))), (0, (1102, (0, (0, 0)))), (0, (1122, (0, (0, 0)))), (0, (1123, (0, (0, 0)))), (0, (1124, (0, (0, 0)))), (0, (1140, (0, (0, 0)))), (0, (1141, (0, (0, 0)))), (0, (1142, (0, (0, 0)))), (0, (1143, (0, (0, 0)))), (0, (1144, (0, (0, 0)))), (0, (1130, (0, (0, 0)))), (0, (1131, (0, (0, 0)))), (0, (1132, (0, (0, 0)))), (0, (1133, (0, (0, 0)))), (0, (1134, (0, (0, 0))))], ([], ([([(9, 1)], 6), ([(9, (-1))], (-6)), ([(14, 1)], 1), ([(14, (-1))], (-1)), ([(6, (-1)), (11, 1)], 0), ([(6, 1), (11, (-1))], 0), ([(5, (-1)), (10, 1)], 0), ([(5, 1), (10, (-1))], 0), ([(12, (-1))], 0), ([(2, 1), (12, (-1))], 0), ([(2, (-1)), (12, 1)], 0), ([(4, (-1))], (-19)), ([(4, 1)], 28)], (false, ([([(3, (-1)), (8, 1)], 0), ([(3, 1), (8, (-1))], 0), ([(7, 1)], (-1)), ([(7, (-1))], 1)], ([], ([], none)))))))
theorem rk_mNb : RuOk SR ru_mNb := by
  intro τ m g hi hc ha hS
  obtain ⟨i0, i1, i2, i3, i4, i5, i6, i7, i8, i9, i10, i11, i12, i13, i14, _⟩ := hi
  have t1199 : τ 1199 = some (g 0) := i0
  have t1102 : τ 1102 = some (g 1) := i1
  have t1122 : τ 1122 = some (g 2) := i2
  have t1123 : τ 1123 = some (g 3) := i3
  have t1124 : τ 1124 = some (g 4) := i4
  have t1140 : τ 1140 = some (g 5) := i5
  have t1141 : τ 1141 = some (g 6) := i6
  have t1142 : τ 1142 = some (g 7) := i7
  have t1143 : τ 1143 = some (g 8) := i8
  have t1144 : τ 1144 = some (g 9) := i9
  have t1130 : τ 1130 = some (g 10) := i10
  have t1131 : τ 1131 = some (g 11) := i11
  have t1132 : τ 1132 = some (g 12) := i12
  have t1133 : τ 1133 = some (g 13) := i13
  have t1134 : τ 1134 = some (g 14) := i14
  obtain ⟨c0, c1, c2, c3, c4, c5, c6, c7, c8, c9, c10, c11, c12, _⟩ := hc
  have c0 : 1 * g 9 ≤ 6 := d1 c0
  have c1 : (-1) * g 9 ≤ (-6) := d1 c1
  have c2 : 1 * g 14 ≤ 1 := d1 c2
  have c3 : (-1) * g 14 ≤ (-1) := d1 c3
  have c4 : (-1) * g 6 + 1 * g 11 ≤ 0 := d2 c4
  have c5 : 1 * g 6 + (-1) * g 11 ≤ 0 := d2 c5
  have c6 : (-1) * g 5 + 1 * g 10 ≤ 0 := d2 c6
  have c7 : 1 * g 5 + (-1) * g 10 ≤ 0 := d2 c7
  have c8 : (-1) * g 12 ≤ 0 := d1 c8
  have c9 : 1 * g 2 + (-1) * g 12 ≤ 0 := d2 c9
  have c10 : (-1) * g 2 + 1 * g 12 ≤ 0 := d2 c10
  have c11 : (-1) * g 4 ≤ (-19) := d1 c11
  have c12 : 1 * g 4 ≤ 28 := d1 c12
  obtain ⟨h0, k_tok, k_sc1, k_sc2, k_T, k_I, k_F, k_N, k_Y, k_Z, k_A, k_B, k_C, k_X, k_R, k_f4⟩ := hS (by rw [t1199]; exact fun e => by cases e)
  have k_tok0 := k_tok
  obtain ⟨h_L, h_n, h_nF⟩ := k_tok0
  have k_I0 := k_I
  obtain ⟨h_p, h_pc, h_ip, h_iP, h_PC, h_PN⟩ := k_I0
  have k_A0 := k_A
  obtain ⟨h_A0, h_A⟩ := k_A0
  have k_B0 := k_B
  obtain ⟨h_B0, h_B, h_Bd0, h_B26, h_B22, h_Bs⟩ := k_B0
  obtain ⟨hn0, _, hNT⟩ := h_nF _ t1102
  have hB := h_B _ _ _ _ _ _ t1102 t1140 t1141 t1142 t1143 t1144
  have rB := hB.1
  have hA := h_A _ _ _ _ _ _ t1102 t1130 t1131 t1132 t1133 t1134
  have rA := hA.1
  have ea : (g 11).toNat = (g 6).toNat := by omega
  have ed : (g 10).toNat = (g 5).toNat := by omega
  obtain ⟨hr1, hr2, hr3, hR⟩ := RI_p hA 1 (by omega) (by omega)
  rw [ea, ed] at hR
  obtain ⟨⟨hi0, hi1⟩, hpi⟩ := h_ip _ _ _ t1102 t1122 t1123
  have eb : (g 2).toNat = (g 12).toNat := by omega
  rw [eb] at hpi
  have ep : (g 3).toNat = Tp9 (tx9 m) (g 12).toNat := by omega
  have hcc := h_pc _ _ t1123 t1124
  rw [ep] at hcc
  obtain ⟨y1, y2⟩ := RI_b hB 6 (by omega) (m_mNb hR (by omega) (by omega))
  exact ⟨rfl, ⟨f2 (by omega), f2 (by omega), f1 (by omega), f1 (by omega), trivial⟩, trivial, fun _ => ⟨h0, k_tok, k_sc1, k_sc2, k_T, k_I, k_F, k_N, k_Y, k_Z, k_A, k_B, k_C, k_X, k_R, k_f4⟩⟩
noncomputable def ru_mNc : Ru := ([(0, (1199, (0, (0, 0)))), (0, (1102, (0, (0, 0)))), (0, (1122, (0, (0, 0)))), (0, (1123, (0, (0, 0)))), (0, (1124, (0, (0, 0)))), (0, (1140, (0, (0, 0)))), (0, (1141, (0, (0, 0)))), (0, (1142, (0, (0, 0)))), (0, (1143, (0, (0, 0)))), (0, (1144, (0, (0, 0)))), (0, (1130, (0, (0, 0)))), (0, (1131, (0, (0, 0)))), (0, (1132, (0, (0, 0)))), (0, (1133, (0, (0, 0)))), (0, (1134, (0, (0, 0))))], ([], ([([(9, 1)], 6), ([(9, (-1))], (-6)), ([(14, 1)], 1), ([(14, (-1))], (-1)), ([(6, (-1)), (11, 1)], 0), ([(6, 1), (11, (-1))], 0), ([(5, (-1)), (10, 1)], 0), ([(5, 1), (10, (-1))], 0), ([(12, (-1))], 0), ([(2, 1), (12, (-1))], 0), ([(2, (-1)), (12, 1)], 0), ([(4, (-1))], (-30)), ([(4, 1)], 51)], (false, ([([(3, (-1)), (8, 1)], 0), ([(3, 1), (8, (-1))], 0), ([(7, 1)], (-1)), ([(7, (-1))], 1)], ([], ([], none)))))))
theorem rk_mNc : RuOk SR ru_mNc := by
  intro τ m g hi hc ha hS
  obtain ⟨i0, i1, i2, i3, i4, i5, i6, i7, i8, i9, i10, i11, i12, i13, i14, _⟩ := hi
  have t1199 : τ 1199 = some (g 0) := i0
  have t1102 : τ 1102 = some (g 1) := i1
  have t1122 : τ 1122 = some (g 2) := i2
  have t1123 : τ 1123 = some (g 3) := i3
  have t1124 : τ 1124 = some (g 4) := i4
  have t1140 : τ 1140 = some (g 5) := i5
  have t1141 : τ 1141 = some (g 6) := i6
  have t1142 : τ 1142 = some (g 7) := i7
  have t1143 : τ 1143 = some (g 8) := i8
  have t1144 : τ 1144 = some (g 9) := i9
  have t1130 : τ 1130 = some (g 10) := i10
  have t1131 : τ 1131 = some (g 11) := i11
  have t1132 : τ 1132 = some (g 12) := i12
  have t1133 : τ 1133 = some (g 13) := i13
  have t1134 : τ 1134 = some (g 14) := i14
  obtain ⟨c0, c1, c2, c3, c4, c5, c6, c7, c8, c9, c10, c11, c12, _⟩ := hc
  have c0 : 1 * g 9 ≤ 6 := d1 c0
  have c1 : (-1) * g 9 ≤ (-6) := d1 c1
  have c2 : 1 * g 14 ≤ 1 := d1 c2
  have c3 : (-1) * g 14 ≤ (-1) := d1 c3
  have c4 : (-1) * g 6 + 1 * g 11 ≤ 0 := d2 c4
  have c5 : 1 * g 6 + (-1) * g 11 ≤ 0 := d2 c5
  have c6 : (-1) * g 5 + 1 * g 10 ≤ 0 := d2 c6
  have c7 : 1 * g 5 + (-1) * g 10 ≤ 0 := d2 c7
  have c8 : (-1) * g 12 ≤ 0 := d1 c8
  have c9 : 1 * g 2 + (-1) * g 12 ≤ 0 := d2 c9
  have c10 : (-1) * g 2 + 1 * g 12 ≤ 0 := d2 c10
  have c11 : (-1) * g 4 ≤ (-30) := d1 c11
  have c12 : 1 * g 4 ≤ 51 := d1 c12
  obtain ⟨h0, k_tok, k_sc1, k_sc2, k_T, k_I, k_F, k_N, k_Y, k_Z, k_A, k_B, k_C, k_X, k_R, k_f4⟩ := hS (by rw [t1199]; exact fun e => by cases e)
  have k_tok0 := k_tok
  obtain ⟨h_L, h_n, h_nF⟩ := k_tok0
  have k_I0 := k_I
  obtain ⟨h_p, h_pc, h_ip, h_iP, h_PC, h_PN⟩ := k_I0
  have k_A0 := k_A
  obtain ⟨h_A0, h_A⟩ := k_A0
  have k_B0 := k_B
  obtain ⟨h_B0, h_B, h_Bd0, h_B26, h_B22, h_Bs⟩ := k_B0
  obtain ⟨hn0, _, hNT⟩ := h_nF _ t1102
  have hB := h_B _ _ _ _ _ _ t1102 t1140 t1141 t1142 t1143 t1144
  have rB := hB.1
  have hA := h_A _ _ _ _ _ _ t1102 t1130 t1131 t1132 t1133 t1134
  have rA := hA.1
  have ea : (g 11).toNat = (g 6).toNat := by omega
  have ed : (g 10).toNat = (g 5).toNat := by omega
  obtain ⟨hr1, hr2, hr3, hR⟩ := RI_p hA 1 (by omega) (by omega)
  rw [ea, ed] at hR
  obtain ⟨⟨hi0, hi1⟩, hpi⟩ := h_ip _ _ _ t1102 t1122 t1123
  have eb : (g 2).toNat = (g 12).toNat := by omega
  rw [eb] at hpi
  have ep : (g 3).toNat = Tp9 (tx9 m) (g 12).toNat := by omega
  have hcc := h_pc _ _ t1123 t1124
  rw [ep] at hcc
  obtain ⟨y1, y2⟩ := RI_b hB 6 (by omega) (m_mNc hR (by omega))
  exact ⟨rfl, ⟨f2 (by omega), f2 (by omega), f1 (by omega), f1 (by omega), trivial⟩, trivial, fun _ => ⟨h0, k_tok, k_sc1, k_sc2, k_T, k_I, k_F, k_N, k_Y, k_Z, k_A, k_B, k_C, k_X, k_R, k_f4⟩⟩
end
