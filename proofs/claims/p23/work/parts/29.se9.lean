noncomputable section
/-! ===== THE READER, 75: rules ===== -/
noncomputable def ru_q23 : Ru := ([(0, (1199, (0, (0, 0)))), (0, (1102, (0, (0, 0)))), (0, (1122, (0, (0, 0)))), (0, (1123, (0, (0, 0)))), (0, (1124, (0, (0, 0)))), (0, (1140, (0, (0, 0)))), (0, (1141, (0, (0, 0)))), (0, (1142, (0, (0, 0)))), (0, (1143, (0, (0, 0)))), (0, (1144, (0, (0, 0)))), (4, (0, (0, (13, 0))))], ([], ([([(9, 1)], 12), ([(9, (-1))], (-12)), ([(2, (-1)), (6, 1)], 0), ([(2, 1), (6, (-1))], 0), ([(4, (-1))], (-48)), ([(4, 1)], 51)], (false, ([], ([], ([(1144, some (10, 0)), (1141, some (6, 1))], none)))))))
theorem rk_q23 : RuOk SR ru_q23 := by
  intro τ m g hi hc ha hS
  obtain ⟨i0, i1, i2, i3, i4, i5, i6, i7, i8, i9, i10, _⟩ := hi
  have t1199 : τ 1199 = some (g 0) := i0
  have t1102 : τ 1102 = some (g 1) := i1
  have t1122 : τ 1122 = some (g 2) := i2
  have t1123 : τ 1123 = some (g 3) := i3
  have t1124 : τ 1124 = some (g 4) := i4
  have t1140 : τ 1140 = some (g 5) := i5
  have t1141 : τ 1141 = some (g 6) := i6
  have t1142 : τ 1142 = some (g 7) := i7
  have t1143 : τ 1143 = some (g 8) := i8
  have t1144 : τ 1144 = some (g 9) := i9
  have xm1 : g 10 = 13 := i10
  obtain ⟨c0, c1, c2, c3, c4, c5, _⟩ := hc
  have c0 : 1 * g 9 ≤ 12 := d1 c0
  have c1 : (-1) * g 9 ≤ (-12) := d1 c1
  have c2 : (-1) * g 2 + 1 * g 6 ≤ 0 := d2 c2
  have c3 : 1 * g 2 + (-1) * g 6 ≤ 0 := d2 c3
  have c4 : (-1) * g 4 ≤ (-48) := d1 c4
  have c5 : 1 * g 4 ≤ 51 := d1 c5
  obtain ⟨h0, k_tok, k_sc1, k_sc2, k_T, k_I, k_F, k_N, k_Y, k_Z, k_A, k_B, k_C, k_X, k_R, k_f4⟩ := hS (by rw [t1199]; exact fun e => by cases e)
  have k_tok0 := k_tok
  obtain ⟨h_L, h_n, h_nF⟩ := k_tok0
  have k_I0 := k_I
  obtain ⟨h_p, h_pc, h_ip, h_iP, h_PC, h_PN⟩ := k_I0
  have k_B0 := k_B
  obtain ⟨h_B0, h_B, h_Bd0, h_B26, h_B22, h_Bs⟩ := k_B0
  obtain ⟨hn0, _, hNT⟩ := h_nF _ t1102
  have hB := h_B _ _ _ _ _ _ t1102 t1140 t1141 t1142 t1143 t1144
  have rB := hB.1
  obtain ⟨⟨hi0, hi1⟩, hpi⟩ := h_ip _ _ _ t1102 t1122 t1123
  have eb : (g 2).toNat = (g 6).toNat := by omega
  rw [eb] at hpi
  have ep : (g 3).toNat = Tp9 (tx9 m) (g 6).toNat := by omega
  have hcc := h_pc _ _ t1123 t1124
  rw [ep] at hcc
  have hx1 := NT_next hNT (i := (g 6).toNat) (by omega) (by omega)
  exact ⟨rfl, trivial, trivial, fun _ => ⟨h0, k_tok, k_sc1, k_sc2, k_T, k_I, k_F, k_N, k_Y, k_Z, k_A, ⟨fun nF Bd Bi Br Bm e0 e1 e2 e3 e4 => by
      have e0 : g 1 = nF := Option.some.inj (t1102.symm.trans e0)
      subst e0
      have e1 : g 5 = Bd := Option.some.inj (t1140.symm.trans e1)
      subst e1
      have e2 : g 6 + 1 = Bi := Option.some.inj e2
      subst e2
      have e3 : g 7 = Br := Option.some.inj (t1142.symm.trans e3)
      subst e3
      have e4 : g 10 + 0 = Bm := Option.some.inj e4
      subst e4
      exact ⟨_, RI_u hB 12 13 (by omega) (by omega) rfl (by omega) ⟨by omega, by omega⟩ (fun r h => by
              rw [St_n (by omega)] at h
              exact q_2 (act_r (a := 48) (b := 51) (v := true) (by decide) (by omega) (by omega) rc_le) h)⟩, fun nF Bd Bi Br Bx Bm e0 e1 e2 e3 e4 e5 => by
      have e0 : g 1 = nF := Option.some.inj (t1102.symm.trans e0)
      subst e0
      have e1 : g 5 = Bd := Option.some.inj (t1140.symm.trans e1)
      subst e1
      have e2 : g 6 + 1 = Bi := Option.some.inj e2
      subst e2
      have e3 : g 7 = Br := Option.some.inj (t1142.symm.trans e3)
      subst e3
      have e4 : g 8 = Bx := Option.some.inj (t1143.symm.trans e4)
      subst e4
      have e5 : g 10 + 0 = Bm := Option.some.inj e5
      subst e5
      exact RI_u hB 12 13 (by omega) (by omega) rfl (by omega) ⟨by omega, by omega⟩ (fun r h => by
              rw [St_n (by omega)] at h
              exact q_2 (act_r (a := 48) (b := 51) (v := true) (by decide) (by omega) (by omega) rc_le) h), h_Bd0, fun Bd Bi Bm e0 e1 e2 => by
      have e0 : g 5 = Bd := Option.some.inj (t1140.symm.trans e0)
      subst e0
      have e1 : g 6 + 1 = Bi := Option.some.inj e1
      subst e1
      have e2 : g 10 + 0 = Bm := Option.some.inj e2
      subst e2
      intro h
      omega, fun Bd Bi Bm Bf e0 e1 e2 e3 => by
      have e0 : g 5 = Bd := Option.some.inj (t1140.symm.trans e0)
      subst e0
      have e1 : g 6 + 1 = Bi := Option.some.inj e1
      subst e1
      have e2 : g 10 + 0 = Bm := Option.some.inj e2
      subst e2
      intro h
      omega, h_Bs⟩, k_C, k_X, k_R, k_f4⟩⟩
noncomputable def ru_q2x0 : Ru := ([(0, (1199, (0, (0, 0)))), (0, (1102, (0, (0, 0)))), (0, (1122, (0, (0, 0)))), (0, (1123, (0, (0, 0)))), (0, (1124, (0, (0, 0)))), (0, (1140, (0, (0, 0)))), (0, (1141, (0, (0, 0)))), (0, (1142, (0, (0, 0)))), (0, (1143, (0, (0, 0)))), (0, (1144, (0, (0, 0))))], ([], ([([(9, 1)], 12), ([(9, (-1))], (-12)), ([(2, (-1)), (6, 1)], 0), ([(2, 1), (6, (-1))], 0), ([(4, (-1))], 0), ([(4, 1)], 35)], (false, ([([(3, (-1)), (8, 1)], 0), ([(3, 1), (8, (-1))], 0), ([(7, 1)], (-1)), ([(7, (-1))], 1)], ([], ([], none)))))))
theorem rk_q2x0 : RuOk SR ru_q2x0 := by
  intro τ m g hi hc ha hS
  obtain ⟨i0, i1, i2, i3, i4, i5, i6, i7, i8, i9, _⟩ := hi
  have t1199 : τ 1199 = some (g 0) := i0
  have t1102 : τ 1102 = some (g 1) := i1
  have t1122 : τ 1122 = some (g 2) := i2
  have t1123 : τ 1123 = some (g 3) := i3
  have t1124 : τ 1124 = some (g 4) := i4
  have t1140 : τ 1140 = some (g 5) := i5
  have t1141 : τ 1141 = some (g 6) := i6
  have t1142 : τ 1142 = some (g 7) := i7
  have t1143 : τ 1143 = some (g 8) := i8
  have t1144 : τ 1144 = some (g 9) := i9
  obtain ⟨c0, c1, c2, c3, c4, c5, _⟩ := hc
  have c0 : 1 * g 9 ≤ 12 := d1 c0
  have c1 : (-1) * g 9 ≤ (-12) := d1 c1
  have c2 : (-1) * g 2 + 1 * g 6 ≤ 0 := d2 c2
  have c3 : 1 * g 2 + (-1) * g 6 ≤ 0 := d2 c3
  have c4 : (-1) * g 4 ≤ 0 := d1 c4
  have c5 : 1 * g 4 ≤ 35 := d1 c5
  obtain ⟨h0, k_tok, k_sc1, k_sc2, k_T, k_I, k_F, k_N, k_Y, k_Z, k_A, k_B, k_C, k_X, k_R, k_f4⟩ := hS (by rw [t1199]; exact fun e => by cases e)
  have k_tok0 := k_tok
  obtain ⟨h_L, h_n, h_nF⟩ := k_tok0
  have k_I0 := k_I
  obtain ⟨h_p, h_pc, h_ip, h_iP, h_PC, h_PN⟩ := k_I0
  have k_B0 := k_B
  obtain ⟨h_B0, h_B, h_Bd0, h_B26, h_B22, h_Bs⟩ := k_B0
  obtain ⟨hn0, _, hNT⟩ := h_nF _ t1102
  have hB := h_B _ _ _ _ _ _ t1102 t1140 t1141 t1142 t1143 t1144
  have rB := hB.1
  obtain ⟨⟨hi0, hi1⟩, hpi⟩ := h_ip _ _ _ t1102 t1122 t1123
  have eb : (g 2).toNat = (g 6).toNat := by omega
  rw [eb] at hpi
  have ep : (g 3).toNat = Tp9 (tx9 m) (g 6).toNat := by omega
  have hcc := h_pc _ _ t1123 t1124
  rw [ep] at hcc
  obtain ⟨y1, y2⟩ := RI_b hB 12 (by omega) (q_2x (act_r (a := 0) (b := 35) (v := false) (by decide) (by omega) (by omega) rc_le))
  exact ⟨rfl, ⟨f2 (by omega), f2 (by omega), f1 (by omega), f1 (by omega), trivial⟩, trivial, fun _ => ⟨h0, k_tok, k_sc1, k_sc2, k_T, k_I, k_F, k_N, k_Y, k_Z, k_A, k_B, k_C, k_X, k_R, k_f4⟩⟩
noncomputable def ru_q2x1 : Ru := ([(0, (1199, (0, (0, 0)))), (0, (1102, (0, (0, 0)))), (0, (1122, (0, (0, 0)))), (0, (1123, (0, (0, 0)))), (0, (1124, (0, (0, 0)))), (0, (1140, (0, (0, 0)))), (0, (1141, (0, (0, 0)))), (0, (1142, (0, (0, 0)))), (0, (1143, (0, (0, 0)))), (0, (1144, (0, (0, 0))))], ([], ([([(9, 1)], 12), ([(9, (-1))], (-12)), ([(2, (-1)), (6, 1)], 0), ([(2, 1), (6, (-1))], 0), ([(4, (-1))], (-37)), ([(4, 1)], 42)], (false, ([([(3, (-1)), (8, 1)], 0), ([(3, 1), (8, (-1))], 0), ([(7, 1)], (-1)), ([(7, (-1))], 1)], ([], ([], none)))))))
theorem rk_q2x1 : RuOk SR ru_q2x1 := by
  intro τ m g hi hc ha hS
  obtain ⟨i0, i1, i2, i3, i4, i5, i6, i7, i8, i9, _⟩ := hi
  have t1199 : τ 1199 = some (g 0) := i0
  have t1102 : τ 1102 = some (g 1) := i1
  have t1122 : τ 1122 = some (g 2) := i2
  have t1123 : τ 1123 = some (g 3) := i3
  have t1124 : τ 1124 = some (g 4) := i4
  have t1140 : τ 1140 = some (g 5) := i5
  have t1141 : τ 1141 = some (g 6) := i6
  have t1142 : τ 1142 = some (g 7) := i7
  have t1143 : τ 1143 = some (g 8) := i8
  have t1144 : τ 1144 = some (g 9) := i9
  obtain ⟨c0, c1, c2, c3, c4, c5, _⟩ := hc
  have c0 : 1 * g 9 ≤ 12 := d1 c0
  have c1 : (-1) * g 9 ≤ (-12) := d1 c1
  have c2 : (-1) * g 2 + 1 * g 6 ≤ 0 := d2 c2
  have c3 : 1 * g 2 + (-1) * g 6 ≤ 0 := d2 c3
  have c4 : (-1) * g 4 ≤ (-37) := d1 c4
  have c5 : 1 * g 4 ≤ 42 := d1 c5
  obtain ⟨h0, k_tok, k_sc1, k_sc2, k_T, k_I, k_F, k_N, k_Y, k_Z, k_A, k_B, k_C, k_X, k_R, k_f4⟩ := hS (by rw [t1199]; exact fun e => by cases e)
  have k_tok0 := k_tok
  obtain ⟨h_L, h_n, h_nF⟩ := k_tok0
  have k_I0 := k_I
  obtain ⟨h_p, h_pc, h_ip, h_iP, h_PC, h_PN⟩ := k_I0
  have k_B0 := k_B
  obtain ⟨h_B0, h_B, h_Bd0, h_B26, h_B22, h_Bs⟩ := k_B0
  obtain ⟨hn0, _, hNT⟩ := h_nF _ t1102
  have hB := h_B _ _ _ _ _ _ t1102 t1140 t1141 t1142 t1143 t1144
  have rB := hB.1
  obtain ⟨⟨hi0, hi1⟩, hpi⟩ := h_ip _ _ _ t1102 t1122 t1123
  have eb : (g 2).toNat = (g 6).toNat := by omega
  rw [eb] at hpi
  have ep : (g 3).toNat = Tp9 (tx9 m) (g 6).toNat := by omega
  have hcc := h_pc _ _ t1123 t1124
  rw [ep] at hcc
  obtain ⟨y1, y2⟩ := RI_b hB 12 (by omega) (q_2x (act_r (a := 37) (b := 42) (v := false) (by decide) (by omega) (by omega) rc_le))
  exact ⟨rfl, ⟨f2 (by omega), f2 (by omega), f1 (by omega), f1 (by omega), trivial⟩, trivial, fun _ => ⟨h0, k_tok, k_sc1, k_sc2, k_T, k_I, k_F, k_N, k_Y, k_Z, k_A, k_B, k_C, k_X, k_R, k_f4⟩⟩
noncomputable def ru_q2x2 : Ru := ([(0, (1199, (0, (0, 0)))), (0, (1102, (0, (0, 0)))), (0, (1122, (0, (0, 0)))), (0, (1123, (0, (0, 0)))), (0, (1124, (0, (0, 0)))), (0, (1140, (0, (0, 0)))), (0, (1141, (0, (0, 0)))), (0, (1142, (0, (0, 0)))), (0, (1143, (0, (0, 0)))), (0, (1144, (0, (0, 0))))], ([], ([([(9, 1)], 12), ([(9, (-1))], (-12)), ([(2, (-1)), (6, 1)], 0), ([(2, 1), (6, (-1))], 0), ([(4, (-1))], (-44)), ([(4, 1)], 45)], (false, ([([(3, (-1)), (8, 1)], 0), ([(3, 1), (8, (-1))], 0), ([(7, 1)], (-1)), ([(7, (-1))], 1)], ([], ([], none)))))))
theorem rk_q2x2 : RuOk SR ru_q2x2 := by
  intro τ m g hi hc ha hS
  obtain ⟨i0, i1, i2, i3, i4, i5, i6, i7, i8, i9, _⟩ := hi
  have t1199 : τ 1199 = some (g 0) := i0
  have t1102 : τ 1102 = some (g 1) := i1
  have t1122 : τ 1122 = some (g 2) := i2
  have t1123 : τ 1123 = some (g 3) := i3
  have t1124 : τ 1124 = some (g 4) := i4
  have t1140 : τ 1140 = some (g 5) := i5
  have t1141 : τ 1141 = some (g 6) := i6
  have t1142 : τ 1142 = some (g 7) := i7
  have t1143 : τ 1143 = some (g 8) := i8
  have t1144 : τ 1144 = some (g 9) := i9
  obtain ⟨c0, c1, c2, c3, c4, c5, _⟩ := hc
  have c0 : 1 * g 9 ≤ 12 := d1 c0
  have c1 : (-1) * g 9 ≤ (-12) := d1 c1
  have c2 : (-1) * g 2 + 1 * g 6 ≤ 0 := d2 c2
  have c3 : 1 * g 2 + (-1) * g 6 ≤ 0 := d2 c3
  have c4 : (-1) * g 4 ≤ (-44) := d1 c4
  have c5 : 1 * g 4 ≤ 45 := d1 c5
  obtain ⟨h0, k_tok, k_sc1, k_sc2, k_T, k_I, k_F, k_N, k_Y, k_Z, k_A, k_B, k_C, k_X, k_R, k_f4⟩ := hS (by rw [t1199]; exact fun e => by cases e)
  have k_tok0 := k_tok
  obtain ⟨h_L, h_n, h_nF⟩ := k_tok0
  have k_I0 := k_I
  obtain ⟨h_p, h_pc, h_ip, h_iP, h_PC, h_PN⟩ := k_I0
  have k_B0 := k_B
  obtain ⟨h_B0, h_B, h_Bd0, h_B26, h_B22, h_Bs⟩ := k_B0
  obtain ⟨hn0, _, hNT⟩ := h_nF _ t1102
  have hB := h_B _ _ _ _ _ _ t1102 t1140 t1141 t1142 t1143 t1144
  have rB := hB.1
  obtain ⟨⟨hi0, hi1⟩, hpi⟩ := h_ip _ _ _ t1102 t1122 t1123
  have eb : (g 2).toNat = (g 6).toNat := by omega
  rw [eb] at hpi
  have ep : (g 3).toNat = Tp9 (tx9 m) (g 6).toNat := by omega
  have hcc := h_pc _ _ t1123 t1124
  rw [ep] at hcc
  obtain ⟨y1, y2⟩ := RI_b hB 12 (by omega) (q_2x (act_r (a := 44) (b := 45) (v := false) (by decide) (by omega) (by omega) rc_le))
  exact ⟨rfl, ⟨f2 (by omega), f2 (by omega), f1 (by omega), f1 (by omega), trivial⟩, trivial, fun _ => ⟨h0, k_tok, k_sc1, k_sc2, k_T, k_I, k_F, k_N, k_Y, k_Z, k_A, k_B, k_C, k_X, k_R, k_f4⟩⟩
noncomputable def ru_q2x3 : Ru := ([(0, (1199, (0, (0, 0)))), (0, (1102, (0, (0, 0)))), (0, (1122, (0, (0, 0)))), (0, (1123, (0, (0, 0)))), (0, (1124, (0, (0, 0)))), (0, (1140, (0, (0, 0)))), (0, (1141, (0, (0, 0)))), (0, (1142, (0, (0, 0)))), (0, (1143, (0, (0, 0)))), (0, (1144, (0, (0, 0))))], ([], ([([(9, 1)], 12), ([(9, (-1))], (-12)), ([(2, (-1)), (6, 1)], 0), ([(2, 1), (6, (-1))], 0), ([(4, (-1))], (-47)), ([(4, 1)], 47)], (false, ([([(3, (-1)), (8, 1)], 0), ([(3, 1), (8, (-1))], 0), ([(7, 1)], (-1)), ([(7, (-1))], 1)], ([], ([], none)))))))
theorem rk_q2x3 : RuOk SR ru_q2x3 := by
  intro τ m g hi hc ha hS
  obtain ⟨i0, i1, i2, i3, i4, i5, i6, i7, i8, i9, _⟩ := hi
  have t1199 : τ 1199 = some (g 0) := i0
  have t1102 : τ 1102 = some (g 1) := i1
  have t1122 : τ 1122 = some (g 2) := i2
  have t1123 : τ 1123 = some (g 3) := i3
  have t1124 : τ 1124 = some (g 4) := i4
  have t1140 : τ 1140 = some (g 5) := i5
  have t1141 : τ 1141 = some (g 6) := i6
  have t1142 : τ 1142 = some (g 7) := i7
  have t1143 : τ 1143 = some (g 8) := i8
  have t1144 : τ 1144 = some (g 9) := i9
  obtain ⟨c0, c1, c2, c3, c4, c5, _⟩ := hc
  have c0 : 1 * g 9 ≤ 12 := d1 c0
  have c1 : (-1) * g 9 ≤ (-12) := d1 c1
  have c2 : (-1) * g 2 + 1 * g 6 ≤ 0 := d2 c2
  have c3 : 1 * g 2 + (-1) * g 6 ≤ 0 := d2 c3
  have c4 : (-1) * g 4 ≤ (-47) := d1 c4
  have c5 : 1 * g 4 ≤ 47 := d1 c5
  obtain ⟨h0, k_tok, k_sc1, k_sc2, k_T, k_I, k_F, k_N, k_Y, k_Z, k_A, k_B, k_C, k_X, k_R, k_f4⟩ := hS (by rw [t1199]; exact fun e => by cases e)
  have k_tok0 := k_tok
  obtain ⟨h_L, h_n, h_nF⟩ := k_tok0
  have k_I0 := k_I
  obtain ⟨h_p, h_pc, h_ip, h_iP, h_PC, h_PN⟩ := k_I0
  have k_B0 := k_B
  obtain ⟨h_B0, h_B, h_Bd0, h_B26, h_B22, h_Bs⟩ := k_B0
  obtain ⟨hn0, _, hNT⟩ := h_nF _ t1102
  have hB := h_B _ _ _ _ _ _ t1102 t1140 t1141 t1142 t1143 t1144
  have rB := hB.1
  obtain ⟨⟨hi0, hi1⟩, hpi⟩ := h_ip _ _ _ t1102 t1122 t1123
  have eb : (g 2).toNat = (g 6).toNat := by omega
  rw [eb] at hpi
  have ep : (g 3).toNat = Tp9 (tx9 m) (g 6).toNat := by omega
  have hcc := h_pc _ _ t1123 t1124
  rw [ep] at hcc
  obtain ⟨y1, y2⟩ := RI_b hB 12 (by omega) (q_2x (act_r (a := 47) (b := 47) (v := false) (by decide) (by omega) (by omega) rc_le))
  exact ⟨rfl, ⟨f2 (by omega), f2 (by omega), f1 (by omega), f1 (by omega), trivial⟩, trivial, fun _ => ⟨h0, k_tok, k_sc1, k_sc2, k_T, k_I, k_F, k_N, k_Y, k_Z, k_A, k_B, k_C, k_X, k_R, k_f4⟩⟩
noncomputable def ru_q3a : Ru := ([(0, (1199, (0, (0, 0)))), (0, (1102, (0, (0, 0)))), (0, (1122, (0, (0, 0)))), (0, (1123, (0, (0, 0)))), (0, (1124, (0, (0, 0)))), (0, (1140, (0, (0, 0)))), (0, (1141, (0, (0, 0)))), (0, (1142, (0, (0, 0)))), (0, (1143, (0, (0, 0)))), (0, (1144, (0, (0, 0)))), (4, (0, (0, (14, 0))))], ([], ([([(9, 1)], 13), ([(9, (-1))], (-13)), ([(2, (-1)), (6, 1)], 0), ([(2, 1), (6, (-1))], 0), ([(4, (-1))], (-34)), ([(4, 1)], 34)], (false, ([], ([], ([(1144, some (10, 0)), (1141, some (6, 1))], none)))))))
theorem rk_q3a : RuOk SR ru_q3a := by
  intro τ m g hi hc ha hS
  obtain ⟨i0, i1, i2, i3, i4, i5, i6, i7, i8, i9, i10, _⟩ := hi
  have t1199 : τ 1199 = some (g 0) := i0
  have t1102 : τ 1102 = some (g 1) := i1
  have t1122 : τ 1122 = some (g 2) := i2
  have t1123 : τ 1123 = some (g 3) := i3
  have t1124 : τ 1124 = some (g 4) := i4
  have t1140 : τ 1140 = some (g 5) := i5
  have t1141 : τ 1141 = some (g 6) := i6
  have t1142 : τ 1142 = some (g 7) := i7
  have t1143 : τ 1143 = some (g 8) := i8
  have t1144 : τ 1144 = some (g 9) := i9
  have xm1 : g 10 = 14 := i10
  obtain ⟨c0, c1, c2, c3, c4, c5, _⟩ := hc
  have c0 : 1 * g 9 ≤ 13 := d1 c0
  have c1 : (-1) * g 9 ≤ (-13) := d1 c1
  have c2 : (-1) * g 2 + 1 * g 6 ≤ 0 := d2 c2
  have c3 : 1 * g 2 + (-1) * g 6 ≤ 0 := d2 c3
  have c4 : (-1) * g 4 ≤ (-34) := d1 c4
  have c5 : 1 * g 4 ≤ 34 := d1 c5
  obtain ⟨h0, k_tok, k_sc1, k_sc2, k_T, k_I, k_F, k_N, k_Y, k_Z, k_A, k_B, k_C, k_X, k_R, k_f4⟩ := hS (by rw [t1199]; exact fun e => by cases e)
  have k_tok0 := k_tok
  obtain ⟨h_L, h_n, h_nF⟩ := k_tok0
  have k_I0 := k_I
  obtain ⟨h_p, h_pc, h_ip, h_iP, h_PC, h_PN⟩ := k_I0
  have k_B0 := k_B
  obtain ⟨h_B0, h_B, h_Bd0, h_B26, h_B22, h_Bs⟩ := k_B0
  obtain ⟨hn0, _, hNT⟩ := h_nF _ t1102
  have hB := h_B _ _ _ _ _ _ t1102 t1140 t1141 t1142 t1143 t1144
  have rB := hB.1
  obtain ⟨⟨hi0, hi1⟩, hpi⟩ := h_ip _ _ _ t1102 t1122 t1123
  have eb : (g 2).toNat = (g 6).toNat := by omega
  rw [eb] at hpi
  have ep : (g 3).toNat = Tp9 (tx9 m) (g 6).toNat := by omega
  have hcc := h_pc _ _ t1123 t1124
  rw [ep] at hcc
  have hx1 := NT_next hNT (i := (g 6).toNat) (by omega) (by omega)
  exact ⟨rfl, trivial, trivial, fun _ => ⟨h0, k_tok, k_sc1, k_sc2, k_T, k_I, k_F, k_N, k_Y, k_Z, k_A, ⟨fun nF Bd Bi Br Bm e0 e1 e2 e3 e4 => by
      have e0 : g 1 = nF := Option.some.inj (t1102.symm.trans e0)
      subst e0
      have e1 : g 5 = Bd := Option.some.inj (t1140.symm.trans e1)
      subst e1
      have e2 : g 6 + 1 = Bi := Option.some.inj e2
      subst e2
      have e3 : g 7 = Br := Option.some.inj (t1142.symm.trans e3)
      subst e3
      have e4 : g 10 + 0 = Bm := Option.some.inj e4
      subst e4
      exact ⟨_, RI_u hB 13 14 (by omega) (by omega) rfl (by omega) ⟨by omega, by omega⟩ (fun r h => by
              rw [St_n (by omega)] at h
              exact q_3a (by omega) h)⟩, fun nF Bd Bi Br Bx Bm e0 e1 e2 e3 e4 e5 => by
      have e0 : g 1 = nF := Option.some.inj (t1102.symm.trans e0)
      subst e0
      have e1 : g 5 = Bd := Option.some.inj (t1140.symm.trans e1)
      subst e1
      have e2 : g 6 + 1 = Bi := Option.some.inj e2
      subst e2
      have e3 : g 7 = Br := Option.some.inj (t1142.symm.trans e3)
      subst e3
      have e4 : g 8 = Bx := Option.some.inj (t1143.symm.trans e4)
      subst e4
      have e5 : g 10 + 0 = Bm := Option.some.inj e5
      subst e5
      exact RI_u hB 13 14 (by omega) (by omega) rfl (by omega) ⟨by omega, by omega⟩ (fun r h => by
              rw [St_n (by omega)] at h
              exact q_3a (by omega) h), h_Bd0, fun Bd Bi Bm e0 e1 e2 => by
      have e0 : g 5 = Bd := Option.some.inj (t1140.symm.trans e0)
      subst e0
      have e1 : g 6 + 1 = Bi := Option.some.inj e1
      subst e1
      have e2 : g 10 + 0 = Bm := Option.some.inj e2
      subst e2
      intro h
      omega, fun Bd Bi Bm Bf e0 e1 e2 e3 => by
      have e0 : g 5 = Bd := Option.some.inj (t1140.symm.trans e0)
      subst e0
      have e1 : g 6 + 1 = Bi := Option.some.inj e1
      subst e1
      have e2 : g 10 + 0 = Bm := Option.some.inj e2
      subst e2
      intro h
      omega, h_Bs⟩, k_C, k_X, k_R, k_f4⟩⟩
noncomputable def ru_q3x1 : Ru := ([(0, (1199, (0, (0, 0)))), (0, (1102, (0, (0, 0)))), (0, (1122, (0, (0, 0)))), (0, (1123, (0, (0, 0)))), (0, (1124, (0, (0, 0)))), (0, (1140, (0, (0, 0)))), (0, (1141, (0, (0, 0)))), (0, (1142, (0, (0, 0)))), (0, (1143, (0, (0, 0)))), (0, (1144, (0, (0, 0)))), (0, (1184, (0, (0, 0)))), (0, (1185, (0, (0, 0)))), (0, (1186, (0, (0, 0))))], ([], ([([(9, 1)], 13), ([(9, (-1))], (-13)), ([(2, (-1)), (6, 1)], 0), ([(2, 1), (6, (-1))], 0), ([(3, (-1)), (10, 1)], 0), ([(3, 1), (10, (-1))], 0), ([(11, 1)], 116), ([(11, (-1))], (-116)), ([(4, 1)], 33), ([(12, 1)], (-1))], (false, ([([(3, (-1)), (8, 1)], 0), ([(3, 1), (8, (-1))], 0), ([(7, 1)], (-1)), ([(7, (-1))], 1)], ([], ([], none)))))))
theorem rk_q3x1 : RuOk SR ru_q3x1 := by
  intro τ m g hi hc ha hS
  obtain ⟨i0, i1, i2, i3, i4, i5, i6, i7, i8, i9, i10, i11, i12, _⟩ := hi
  have t1199 : τ 1199 = some (g 0) := i0
  have t1102 : τ 1102 = some (g 1) := i1
  have t1122 : τ 1122 = some (g 2) := i2
  have t1123 : τ 1123 = some (g 3) := i3
  have t1124 : τ 1124 = some (g 4) := i4
  have t1140 : τ 1140 = some (g 5) := i5
  have t1141 : τ 1141 = some (g 6) := i6
  have t1142 : τ 1142 = some (g 7) := i7
  have t1143 : τ 1143 = some (g 8) := i8
  have t1144 : τ 1144 = some (g 9) := i9
  have t1184 : τ 1184 = some (g 10) := i10
  have t1185 : τ 1185 = some (g 11) := i11
  have t1186 : τ 1186 = some (g 12) := i12
  obtain ⟨c0, c1, c2, c3, c4, c5, c6, c7, c8, c9, _⟩ := hc
  have c0 : 1 * g 9 ≤ 13 := d1 c0
  have c1 : (-1) * g 9 ≤ (-13) := d1 c1
  have c2 : (-1) * g 2 + 1 * g 6 ≤ 0 := d2 c2
  have c3 : 1 * g 2 + (-1) * g 6 ≤ 0 := d2 c3
  have c4 : (-1) * g 3 + 1 * g 10 ≤ 0 := d2 c4
  have c5 : 1 * g 3 + (-1) * g 10 ≤ 0 := d2 c5
  have c6 : 1 * g 11 ≤ 116 := d1 c6
  have c7 : (-1) * g 11 ≤ (-116) := d1 c7
  have c8 : 1 * g 4 ≤ 33 := d1 c8
  have c9 : 1 * g 12 ≤ (-1) := d1 c9
  obtain ⟨h0, k_tok, k_sc1, k_sc2, k_T, k_I, k_F, k_N, k_Y, k_Z, k_A, k_B, k_C, k_X, k_R, k_f4⟩ := hS (by rw [t1199]; exact fun e => by cases e)
  have k_tok0 := k_tok
  obtain ⟨h_L, h_n, h_nF⟩ := k_tok0
  have k_I0 := k_I
  obtain ⟨h_p, h_pc, h_ip, h_iP, h_PC, h_PN⟩ := k_I0
  have k_N0 := k_N
  obtain ⟨h_N, h_Nk, h_V, h_Yq⟩ := k_N0
  have k_B0 := k_B
  obtain ⟨h_B0, h_B, h_Bd0, h_B26, h_B22, h_Bs⟩ := k_B0
  obtain ⟨hn0, _, hNT⟩ := h_nF _ t1102
  have hB := h_B _ _ _ _ _ _ t1102 t1140 t1141 t1142 t1143 t1144
  have rB := hB.1
  obtain ⟨⟨hi0, hi1⟩, hpi⟩ := h_ip _ _ _ t1102 t1122 t1123
  have eb : (g 2).toNat = (g 6).toNat := by omega
  rw [eb] at hpi
  have ep : (g 3).toNat = Tp9 (tx9 m) (g 6).toNat := by omega
  have hcc := h_pc _ _ t1123 t1124
  rw [ep] at hcc
  have hv2 := (h_N _ _ _ t1184 t1185 t1186).2
  rw [show (g 10).toNat = Tp9 (tx9 m) (g 6).toNat by omega, show g 11 = 116 by omega] at hv2
  obtain ⟨y1, y2⟩ := RI_b hB 13 (by omega) (q_3x (by omega) (fun z => by omega))
  exact ⟨rfl, ⟨f2 (by omega), f2 (by omega), f1 (by omega), f1 (by omega), trivial⟩, trivial, fun _ => ⟨h0, k_tok, k_sc1, k_sc2, k_T, k_I, k_F, k_N, k_Y, k_Z, k_A, k_B, k_C, k_X, k_R, k_f4⟩⟩
noncomputable def ru_q3y1 : Ru := ([(0, (1199, (0, (0, 0)))), (0, (1102, (0, (0, 0)))), (0, (1122, (0, (0, 0)))), (0, (1123, (0, (0, 0)))), (0, (1124, (0, (0, 0)))), (0, (1140, (0, (0, 0)))), (0, (1141, (0, (0, 0)))), (0, (1142, (0, (0, 0)))), (0, (1143, (0, (0, 0)))), (0, (1144, (0, (0, 0)))), (0, (1184, (0, (0, 0)))), (0, (1185, (0, (0, 0)))), (0, (1186, (0, (0, 0)))), (5, (110, (20, (0, 0))))], ([], ([([(9, 1)], 13), ([(9, (-1))], (-13)), ([(2, (-1)), (6, 1)], 0), ([(2, 1), (6, (-1))], 0), ([(3, (-1)), (10, 1)], 0), ([(3, 1), (10, (-1))], 0), ([(11, 1)], 116), ([(11, (-1))], (-116)), ([(4, 1)], 33), ([(12, (-1)), (13, 1)], 0)], (false, ([([(3, (-1)), (8, 1)], 0), ([(3, 1), (8, (-1))], 0), ([(7, 1)], (-1)), ([(7, (-1))], 1)], ([], ([], none)))))))
theorem rk_q3y1 : RuOk SR ru_q3y1 := by
  intro τ m g hi hc ha hS
  obtain ⟨i0, i1, i2, i3, i4, i5, i6, i7, i8, i9, i10, i11, i12, i13, _⟩ := hi
  have t1199 : τ 1199 = some (g 0) := i0
  have t1102 : τ 1102 = some (g 1) := i1
  have t1122 : τ 1122 = some (g 2) := i2
  have t1123 : τ 1123 = some (g 3) := i3
  have t1124 : τ 1124 = some (g 4) := i4
  have t1140 : τ 1140 = some (g 5) := i5
  have t1141 : τ 1141 = some (g 6) := i6
  have t1142 : τ 1142 = some (g 7) := i7
  have t1143 : τ 1143 = some (g 8) := i8
  have t1144 : τ 1144 = some (g 9) := i9
  have t1184 : τ 1184 = some (g 10) := i10
  have t1185 : τ 1185 = some (g 11) := i11
  have t1186 : τ 1186 = some (g 12) := i12
  have xht : g 13 = m 110 20 := i13
  obtain ⟨c0, c1, c2, c3, c4, c5, c6, c7, c8, c9, _⟩ := hc
  have c0 : 1 * g 9 ≤ 13 := d1 c0
  have c1 : (-1) * g 9 ≤ (-13) := d1 c1
  have c2 : (-1) * g 2 + 1 * g 6 ≤ 0 := d2 c2
  have c3 : 1 * g 2 + (-1) * g 6 ≤ 0 := d2 c3
  have c4 : (-1) * g 3 + 1 * g 10 ≤ 0 := d2 c4
  have c5 : 1 * g 3 + (-1) * g 10 ≤ 0 := d2 c5
  have c6 : 1 * g 11 ≤ 116 := d1 c6
  have c7 : (-1) * g 11 ≤ (-116) := d1 c7
  have c8 : 1 * g 4 ≤ 33 := d1 c8
  have c9 : (-1) * g 12 + 1 * g 13 ≤ 0 := d2 c9
  obtain ⟨h0, k_tok, k_sc1, k_sc2, k_T, k_I, k_F, k_N, k_Y, k_Z, k_A, k_B, k_C, k_X, k_R, k_f4⟩ := hS (by rw [t1199]; exact fun e => by cases e)
  have k_tok0 := k_tok
  obtain ⟨h_L, h_n, h_nF⟩ := k_tok0
  have k_I0 := k_I
  obtain ⟨h_p, h_pc, h_ip, h_iP, h_PC, h_PN⟩ := k_I0
  have k_N0 := k_N
  obtain ⟨h_N, h_Nk, h_V, h_Yq⟩ := k_N0
  have k_B0 := k_B
  obtain ⟨h_B0, h_B, h_Bd0, h_B26, h_B22, h_Bs⟩ := k_B0
  obtain ⟨hn0, _, hNT⟩ := h_nF _ t1102
  have hB := h_B _ _ _ _ _ _ t1102 t1140 t1141 t1142 t1143 t1144
  have rB := hB.1
  obtain ⟨⟨hi0, hi1⟩, hpi⟩ := h_ip _ _ _ t1102 t1122 t1123
  have eb : (g 2).toNat = (g 6).toNat := by omega
  rw [eb] at hpi
  have ep : (g 3).toNat = Tp9 (tx9 m) (g 6).toNat := by omega
  have hcc := h_pc _ _ t1123 t1124
  rw [ep] at hcc
  have hv2 := (h_N _ _ _ t1184 t1185 t1186).2
  rw [show (g 10).toNat = Tp9 (tx9 m) (g 6).toNat by omega, show g 11 = 116 by omega] at hv2
  obtain ⟨y1, y2⟩ := RI_b hB 13 (by omega) (q_3x (by omega) (fun z => by have z3 := of_decide_eq_true ((Bool.and_eq_true _ _).mp z.2).1; have z3 : nb9 (tx9 m) _ 116 < m 110 20 := z3; omega))
  exact ⟨rfl, ⟨f2 (by omega), f2 (by omega), f1 (by omega), f1 (by omega), trivial⟩, trivial, fun _ => ⟨h0, k_tok, k_sc1, k_sc2, k_T, k_I, k_F, k_N, k_Y, k_Z, k_A, k_B, k_C, k_X, k_R, k_f4⟩⟩
noncomputable def ru_q3z1 : Ru := ([(0, (1199, (0, (0, 0)))), (0, (1102, (0, (0, 0)))), (0, (1122, (0, (0, 0)))), (0, (1123, (0, (0, 0)))), (0, (1124, (0, (0, 0)))), (0, (1140, (0, (0, 0)))), (0, (1141, (0, (0, 0)))), (0, (1142, (0, (0, 0)))), (0, (1143, (0, (0, 0)))), (0, (1144, (0, (0, 0)))), (0, (1184, (0, (0, 0)))), (0, (1185, (0, (0, 0)))), (0, (1186, (0, (0, 0)))), (6, (128, (12, (0, 0))))], ([], ([([(9, 1)], 13), ([(9, (-1))], (-13)), ([(2, (-1)), (6, 1)], 0), ([(2, 1), (6, (-1))], 0), ([(3, (-1)), (10, 1)], 0), ([(3, 1), (10, (-1))], 0), ([(11, 1)], 116), ([(11, (-1))], (-116)), ([(4, 1)], 33), ([(12, (-1))], 0), ([(13, (-1))], (-1))], (false, ([([(3, (-1)), (8, 1)], 0), ([(3, 1), (8, (-1))], 0), ([(7, 1)], (-1)), ([(7, (-1))], 1)], ([], ([], none)))))))
theorem rk_q3z1 : RuOk SR ru_q3z1 := by
  intro τ m g hi hc ha hS
  obtain ⟨i0, i1, i2, i3, i4, i5, i6, i7, i8, i9, i10, i11, i12, i13, _⟩ := hi
  have t1199 : τ 1199 = some (g 0) := i0
  have t1102 : τ 1102 = some (g 1) := i1
  have t1122 : τ 1122 = some (g 2) := i2
  have t1123 : τ 1123 = some (g 3) := i3
  have t1124 : τ 1124 = some (g 4) := i4
  have t1140 : τ 1140 = some (g 5) := i5
  have t1141 : τ 1141 = some (g 6) := i6
  have t1142 : τ 1142 = some (g 7) := i7
  have t1143 : τ 1143 = some (g 8) := i8
  have t1144 : τ 1144 = some (g 9) := i9
  have t1184 : τ 1184 = some (g 10) := i10
  have t1185 : τ 1185 = some (g 11) := i11
  have t1186 : τ 1186 = some (g 12) := i12
  obtain ⟨jgn, ugn, vgn⟩ : ∃ j : Nat, g 12 = (j : Int) ∧ g 13 = m 128 j := i13
  obtain ⟨c0, c1, c2, c3, c4, c5, c6, c7, c8, c9, c10, _⟩ := hc
  have c0 : 1 * g 9 ≤ 13 := d1 c0
  have c1 : (-1) * g 9 ≤ (-13) := d1 c1
  have c2 : (-1) * g 2 + 1 * g 6 ≤ 0 := d2 c2
  have c3 : 1 * g 2 + (-1) * g 6 ≤ 0 := d2 c3
  have c4 : (-1) * g 3 + 1 * g 10 ≤ 0 := d2 c4
  have c5 : 1 * g 3 + (-1) * g 10 ≤ 0 := d2 c5
  have c6 : 1 * g 11 ≤ 116 := d1 c6
  have c7 : (-1) * g 11 ≤ (-116) := d1 c7
  have c8 : 1 * g 4 ≤ 33 := d1 c8
  have c9 : (-1) * g 12 ≤ 0 := d1 c9
  have c10 : (-1) * g 13 ≤ (-1) := d1 c10
  obtain ⟨h0, k_tok, k_sc1, k_sc2, k_T, k_I, k_F, k_N, k_Y, k_Z, k_A, k_B, k_C, k_X, k_R, k_f4⟩ := hS (by rw [t1199]; exact fun e => by cases e)
  have k_tok0 := k_tok
  obtain ⟨h_L, h_n, h_nF⟩ := k_tok0
  have k_I0 := k_I
  obtain ⟨h_p, h_pc, h_ip, h_iP, h_PC, h_PN⟩ := k_I0
  have k_N0 := k_N
  obtain ⟨h_N, h_Nk, h_V, h_Yq⟩ := k_N0
  have k_B0 := k_B
  obtain ⟨h_B0, h_B, h_Bd0, h_B26, h_B22, h_Bs⟩ := k_B0
  obtain ⟨hn0, _, hNT⟩ := h_nF _ t1102
  have hB := h_B _ _ _ _ _ _ t1102 t1140 t1141 t1142 t1143 t1144
  have rB := hB.1
  obtain ⟨⟨hi0, hi1⟩, hpi⟩ := h_ip _ _ _ t1102 t1122 t1123
  have eb : (g 2).toNat = (g 6).toNat := by omega
  rw [eb] at hpi
  have ep : (g 3).toNat = Tp9 (tx9 m) (g 6).toNat := by omega
  have hcc := h_pc _ _ t1123 t1124
  rw [ep] at hcc
  have hv2 := (h_N _ _ _ t1184 t1185 t1186).2
  rw [show (g 10).toNat = Tp9 (tx9 m) (g 6).toNat by omega, show g 11 = 116 by omega] at hv2
  obtain ⟨y1, y2⟩ := RI_b hB 13 (by omega) (q_3x (by omega) (fun z => by have z3 := of_decide_eq_true ((Bool.and_eq_true _ _).mp z.2).2; have z3 : m 128 (nb9 (tx9 m) _ 116).toNat ≤ 0 := z3; rw [← hv2, show (g 12).toNat = jgn by omega] at z3; omega))
  exact ⟨rfl, ⟨f2 (by omega), f2 (by omega), f1 (by omega), f1 (by omega), trivial⟩, trivial, fun _ => ⟨h0, k_tok, k_sc1, k_sc2, k_T, k_I, k_F, k_N, k_Y, k_Z, k_A, k_B, k_C, k_X, k_R, k_f4⟩⟩
noncomputable def ru_q3x2 : Ru := ([(0, (1199, (0, (0, 0)))), (0, (1102, (0, (0, 0)))), (0, (1122, (0, (0, 0)))), (0, (1123, (0, (0, 0)))), (0, (1124, (0, (0, 0)))), (0, (1140, (0, (0, 0)))), (0, (1141, (0, (0, 0)))), (0, (1142, (0, (0, 0)))), (0, (1143, (0, (0, 0)))), (0, (1144, (0, (0, 0)))), (0, (1184, (0, (0, 0)))), (0, (1185, (0, (0, 0)))), (0, (1186, (0, (0, 0))))], ([], ([([(9, 1)], 13), ([(9, (-1))], (-13)), ([(2, (-1)), (6, 1)], 0), ([(2, 1), (6, (-1))], 0), ([(3, (-1)), (10, 1)], 0), ([(3, 1), (10, (-1))], 0), ([(11, 1)], 116), ([(11, (-1))], (-116)), ([(4, (-1))], (-35)), ([(12, 1)], (-1))], (false, ([([(3, (-1)), (8, 1)], 0), ([(3, 1), (8, (-1))], 0), ([(7, 1)], (-1)), ([(7, (-1))], 1)], ([], ([], none)))))))
theorem rk_q3x2 : RuOk SR ru_q3x2 := by
  intro τ m g hi hc ha hS
  obtain ⟨i0, i1, i2, i3, i4, i5, i6, i7, i8, i9, i10, i11, i12, _⟩ := hi
  have t1199 : τ 1199 = some (g 0) := i0
  have t1102 : τ 1102 = some (g 1) := i1
  have t1122 : τ 1122 = some (g 2) := i2
  have t1123 : τ 1123 = some (g 3) := i3
  have t1124 : τ 1124 = some (g 4) := i4
  have t1140 : τ 1140 = some (g 5) := i5
  have t1141 : τ 1141 = some (g 6) := i6
  have t1142 : τ 1142 = some (g 7) := i7
  have t1143 : τ 1143 = some (g 8) := i8
  have t1144 : τ 1144 = some (g 9) := i9
  have t1184 : τ 1184 = some (g 10) := i10
  have t1185 : τ 1185 = some (g 11) := i11
  have t1186 : τ 1186 = some (g 12) := i12
  obtain ⟨c0, c1, c2, c3, c4, c5, c6, c7, c8, c9, _⟩ := hc
  have c0 : 1 * g 9 ≤ 13 := d1 c0
  have c1 : (-1) * g 9 ≤ (-13) := d1 c1
  have c2 : (-1) * g 2 + 1 * g 6 ≤ 0 := d2 c2
  have c3 : 1 * g 2 + (-1) * g 6 ≤ 0 := d2 c3
  have c4 : (-1) * g 3 + 1 * g 10 ≤ 0 := d2 c4
  have c5 : 1 * g 3 + (-1) * g 10 ≤ 0 := d2 c5
  have c6 : 1 * g 11 ≤ 116 := d1 c6
  have c7 : (-1) * g 11 ≤ (-116) := d1 c7
  have c8 : (-1) * g 4 ≤ (-35) := d1 c8
  have c9 : 1 * g 12 ≤ (-1) := d1 c9
  obtain ⟨h0, k_tok, k_sc1, k_sc2, k_T, k_I, k_F, k_N, k_Y, k_Z, k_A, k_B, k_C, k_X, k_R, k_f4⟩ := hS (by rw [t1199]; exact fun e => by cases e)
  have k_tok0 := k_tok
  obtain ⟨h_L, h_n, h_nF⟩ := k_tok0
  have k_I0 := k_I
  obtain ⟨h_p, h_pc, h_ip, h_iP, h_PC, h_PN⟩ := k_I0
  have k_N0 := k_N
  obtain ⟨h_N, h_Nk, h_V, h_Yq⟩ := k_N0
  have k_B0 := k_B
  obtain ⟨h_B0, h_B, h_Bd0, h_B26, h_B22, h_Bs⟩ := k_B0
  obtain ⟨hn0, _, hNT⟩ := h_nF _ t1102
  have hB := h_B _ _ _ _ _ _ t1102 t1140 t1141 t1142 t1143 t1144
  have rB := hB.1
  obtain ⟨⟨hi0, hi1⟩, hpi⟩ := h_ip _ _ _ t1102 t1122 t1123
  have eb : (g 2).toNat = (g 6).toNat := by omega
  rw [eb] at hpi
  have ep : (g 3).toNat = Tp9 (tx9 m) (g 6).toNat := by omega
  have hcc := h_pc _ _ t1123 t1124
  rw [ep] at hcc
  have hv2 := (h_N _ _ _ t1184 t1185 t1186).2
  rw [show (g 10).toNat = Tp9 (tx9 m) (g 6).toNat by omega, show g 11 = 116 by omega] at hv2
  obtain ⟨y1, y2⟩ := RI_b hB 13 (by omega) (q_3x (by omega) (fun z => by omega))
  exact ⟨rfl, ⟨f2 (by omega), f2 (by omega), f1 (by omega), f1 (by omega), trivial⟩, trivial, fun _ => ⟨h0, k_tok, k_sc1, k_sc2, k_T, k_I, k_F, k_N, k_Y, k_Z, k_A, k_B, k_C, k_X, k_R, k_f4⟩⟩
noncomputable def ru_q3y2 : Ru := ([(0, (1199, (0, (0, 0)))), (0, (1102, (0, (0, 0)))), (0, (1122, (0, (0, 0)))), (0, (1123, (0, (0, 0)))), (0, (1124, (0, (0, 0)))), (0, (1140, (0, (0, 0)))), (0, (1141, (0, (0, 0)))), (0, (1142, (0, (0, 0)))), (0, (1143, (0, (0, 0)))), (0, (1144, (0, (0, 0)))), (0, (1184, (0, (0, 0)))), (0, (1185, (0, (0, 0)))), (0, (1186, (0, (0, 0)))), (5, (110, (20, (0, 0))))], ([], ([([(9, 1)], 13), ([(9, (-1))], (-13)), ([(2, (-1)), (6, 1)], 0), ([(2, 1), (6, (-1))], 0), ([(3, (-1)), (10, 1)], 0), ([(3, 1), (10, (-1))], 0), ([(11, 1)], 116), ([(11, (-1))], (-116)), ([(4, (-1))], (-35)), ([(12, (-1)), (13, 1)], 0)], (false, ([([(3, (-1)), (8, 1)], 0), ([(3, 1), (8, (-1))], 0), ([(7, 1)], (-1)), ([(7, (-1))], 1)], ([], ([], none)))))))
theorem rk_q3y2 : RuOk SR ru_q3y2 := by
  intro τ m g hi hc ha hS
  obtain ⟨i0, i1, i2, i3, i4, i5, i6, i7, i8, i9, i10, i11, i12, i13, _⟩ := hi
  have t1199 : τ 1199 = some (g 0) := i0
  have t1102 : τ 1102 = some (g 1) := i1
  have t1122 : τ 1122 = some (g 2) := i2
  have t1123 : τ 1123 = some (g 3) := i3
  have t1124 : τ 1124 = some (g 4) := i4
  have t1140 : τ 1140 = some (g 5) := i5
  have t1141 : τ 1141 = some (g 6) := i6
  have t1142 : τ 1142 = some (g 7) := i7
  have t1143 : τ 1143 = some (g 8) := i8
  have t1144 : τ 1144 = some (g 9) := i9
  have t1184 : τ 1184 = some (g 10) := i10
  have t1185 : τ 1185 = some (g 11) := i11
  have t1186 : τ 1186 = some (g 12) := i12
  have xht : g 13 = m 110 20 := i13
  obtain ⟨c0, c1, c2, c3, c4, c5, c6, c7, c8, c9, _⟩ := hc
  have c0 : 1 * g 9 ≤ 13 := d1 c0
  have c1 : (-1) * g 9 ≤ (-13) := d1 c1
  have c2 : (-1) * g 2 + 1 * g 6 ≤ 0 := d2 c2
  have c3 : 1 * g 2 + (-1) * g 6 ≤ 0 := d2 c3
  have c4 : (-1) * g 3 + 1 * g 10 ≤ 0 := d2 c4
  have c5 : 1 * g 3 + (-1) * g 10 ≤ 0 := d2 c5
  have c6 : 1 * g 11 ≤ 116 := d1 c6
  have c7 : (-1) * g 11 ≤ (-116) := d1 c7
  have c8 : (-1) * g 4 ≤ (-35) := d1 c8
  have c9 : (-1) * g 12 + 1 * g 13 ≤ 0 := d2 c9
  obtain ⟨h0, k_tok, k_sc1, k_sc2, k_T, k_I, k_F, k_N, k_Y, k_Z, k_A, k_B, k_C, k_X, k_R, k_f4⟩ := hS (by rw [t1199]; exact fun e => by cases e)
  have k_tok0 := k_tok
  obtain ⟨h_L, h_n, h_nF⟩ := k_tok0
  have k_I0 := k_I
  obtain ⟨h_p, h_pc, h_ip, h_iP, h_PC, h_PN⟩ := k_I0
  have k_N0 := k_N
  obtain ⟨h_N, h_Nk, h_V, h_Yq⟩ := k_N0
  have k_B0 := k_B
  obtain ⟨h_B0, h_B, h_Bd0, h_B26, h_B22, h_Bs⟩ := k_B0
  obtain ⟨hn0, _, hNT⟩ := h_nF _ t1102
  have hB := h_B _ _ _ _ _ _ t1102 t1140 t1141 t1142 t1143 t1144
  have rB := hB.1
  obtain ⟨⟨hi0, hi1⟩, hpi⟩ := h_ip _ _ _ t1102 t1122 t1123
  have eb : (g 2).toNat = (g 6).toNat := by omega
  rw [eb] at hpi
  have ep : (g 3).toNat = Tp9 (tx9 m) (g 6).toNat := by omega
  have hcc := h_pc _ _ t1123 t1124
  rw [ep] at hcc
  have hv2 := (h_N _ _ _ t1184 t1185 t1186).2
  rw [show (g 10).toNat = Tp9 (tx9 m) (g 6).toNat by omega, show g 11 = 116 by omega] at hv2
  obtain ⟨y1, y2⟩ := RI_b hB 13 (by omega) (q_3x (by omega) (fun z => by have z3 := of_decide_eq_true ((Bool.and_eq_true _ _).mp z.2).1; have z3 : nb9 (tx9 m) _ 116 < m 110 20 := z3; omega))
  exact ⟨rfl, ⟨f2 (by omega), f2 (by omega), f1 (by omega), f1 (by omega), trivial⟩, trivial, fun _ => ⟨h0, k_tok, k_sc1, k_sc2, k_T, k_I, k_F, k_N, k_Y, k_Z, k_A, k_B, k_C, k_X, k_R, k_f4⟩⟩
noncomputable def ru_q3z2 : Ru := ([(0, (1199, (0, (0, 0)))), (0, (1102, (0, (0, 0)))), (0, (1122, (0, (0, 0)))), (0, (1123, (0, (0, 0)))), (0, (1124, (0, (0, 0)))), (0, (1140, (0, (0, 0)))), (0, (1141, (0, (0, 0)))), (0, (1142, (0, (0, 0)))), (0, (1143, (0, (0, 0)))), (0, (1144, (0, (0, 0)))), (0, (1184, (0, (0, 0)))), (0, (1185, (0, (0, 0)))), (0, (1186, (0, (0, 0)))), (6, (128, (12, (0, 0))))], ([], ([([(9, 1)], 13), ([(9, (-1))], (-13)), ([(2, (-1)), (6, 1)], 0), ([(2, 1), (6, (-1))], 0), ([(3, (-1)), (10, 1)], 0), ([(3, 1), (10, (-1))], 0), ([(11, 1)], 116), ([(11, (-1))], (-116)), ([(4, (-1))], (-35)), ([(12, (-1))], 0), ([(13, (-1))], (-1))], (false, ([([(3, (-1)), (8, 1)], 0), ([(3, 1), (8, (-1))], 0), ([(7, 1)], (-1)), ([(7, (-1))], 1)], ([], ([], none)))))))
theorem rk_q3z2 : RuOk SR ru_q3z2 := by
  intro τ m g hi hc ha hS
  obtain ⟨i0, i1, i2, i3, i4, i5, i6, i7, i8, i9, i10, i11, i12, i13, _⟩ := hi
  have t1199 : τ 1199 = some (g 0) := i0
  have t1102 : τ 1102 = some (g 1) := i1
  have t1122 : τ 1122 = some (g 2) := i2
  have t1123 : τ 1123 = some (g 3) := i3
  have t1124 : τ 1124 = some (g 4) := i4
  have t1140 : τ 1140 = some (g 5) := i5
  have t1141 : τ 1141 = some (g 6) := i6
  have t1142 : τ 1142 = some (g 7) := i7
  have t1143 : τ 1143 = some (g 8) := i8
  have t1144 : τ 1144 = some (g 9) := i9
  have t1184 : τ 1184 = some (g 10) := i10
  have t1185 : τ 1185 = some (g 11) := i11
  have t1186 : τ 1186 = some (g 12) := i12
  obtain ⟨jgn, ugn, vgn⟩ : ∃ j : Nat, g 12 = (j : Int) ∧ g 13 = m 128 j := i13
  obtain ⟨c0, c1, c2, c3, c4, c5, c6, c7, c8, c9, c10, _⟩ := hc
  have c0 : 1 * g 9 ≤ 13 := d1 c0
  have c1 : (-1) * g 9 ≤ (-13) := d1 c1
  have c2 : (-1) * g 2 + 1 * g 6 ≤ 0 := d2 c2
  have c3 : 1 * g 2 + (-1) * g 6 ≤ 0 := d2 c3
  have c4 : (-1) * g 3 + 1 * g 10 ≤ 0 := d2 c4
  have c5 : 1 * g 3 + (-1) * g 10 ≤ 0 := d2 c5
  have c6 : 1 * g 11 ≤ 116 := d1 c6
  have c7 : (-1) * g 11 ≤ (-116) := d1 c7
  have c8 : (-1) * g 4 ≤ (-35) := d1 c8
  have c9 : (-1) * g 12 ≤ 0 := d1 c9
  have c10 : (-1) * g 13 ≤ (-1) := d1 c10
  obtain ⟨h0, k_tok, k_sc1, k_sc2, k_T, k_I, k_F, k_N, k_Y, k_Z, k_A, k_B, k_C, k_X, k_R, k_f4⟩ := hS (by rw [t1199]; exact fun e => by cases e)
  have k_tok0 := k_tok
  obtain ⟨h_L, h_n, h_nF⟩ := k_tok0
  have k_I0 := k_I
  obtain ⟨h_p, h_pc, h_ip, h_iP, h_PC, h_PN⟩ := k_I0
  have k_N0 := k_N
  obtain ⟨h_N, h_Nk, h_V, h_Yq⟩ := k_N0
  have k_B0 := k_B
  obtain ⟨h_B0, h_B, h_Bd0, h_B26, h_B22, h_Bs⟩ := k_B0
  obtain ⟨hn0, _, hNT⟩ := h_nF _ t1102
  have hB := h_B _ _ _ _ _ _ t1102 t1140 t1141 t1142 t1143 t1144
  have rB := hB.1
  obtain ⟨⟨hi0, hi1⟩, hpi⟩ := h_ip _ _ _ t1102 t1122 t1123
  have eb : (g 2).toNat = (g 6).toNat := by omega
  rw [eb] at hpi
  have ep : (g 3).toNat = Tp9 (tx9 m) (g 6).toNat := by omega
  have hcc := h_pc _ _ t1123 t1124
  rw [ep] at hcc
  have hv2 := (h_N _ _ _ t1184 t1185 t1186).2
  rw [show (g 10).toNat = Tp9 (tx9 m) (g 6).toNat by omega, show g 11 = 116 by omega] at hv2
  obtain ⟨y1, y2⟩ := RI_b hB 13 (by omega) (q_3x (by omega) (fun z => by have z3 := of_decide_eq_true ((Bool.and_eq_true _ _).mp z.2).2; have z3 : m 128 (nb9 (tx9 m) _ 116).toNat ≤ 0 := z3; rw [← hv2, show (g 12).toNat = jgn by omega] at z3; omega))
  exact ⟨rfl, ⟨f2 (by omega), f2 (by omega), f1 (by omega), f1 (by omega), trivial⟩, trivial, fun _ => ⟨h0, k_tok, k_sc1, k_sc2, k_T, k_I, k_F, k_N, k_Y, k_Z, k_A, k_B, k_C, k_X, k_R, k_f4⟩⟩
noncomputable def ru_q3t : Ru := ([(0, (1199, (0, (0, 0)))), (0, (1102, (0, (0, 0)))), (0, (1122, (0, (0, 0)))), (0, (1123, (0, (0, 0)))), (0, (1124, (0, (0, 0)))), (0, (1140, (0, (0, 0)))), (0, (1141, (0, (0, 0)))), (0, (1142, (0, (0, 0)))), (0, (1143, (0, (0, 0)))), (0, (1144, (0, (0, 0)))), (0, (1184, (0, (0, 0)))), (0, (1185, (0, (0, 0)))), (0, (1186, (0, (0, 0)))), (5, (110, (20, (0, 0)))), (6, (128, (12, (0, 0)))), (4, (0, (0, (16, 0))))], ([], ([([(9, 1)], 13), ([(9, (-1))], (-13)), ([(2, (-1)), (6, 1)], 0), ([(2, 1), (6, (-1))], 0), ([(3, (-1)), (10, 1)], 0), ([(3, 1), (10, (-1))], 0), ([(11, 1)], 116), ([(11, (-1))], (-116)), ([(12, (-1))], 0), ([(12, 1), (13, (-1))], (-1)), ([(14, 1)], 0)], (false, ([], ([], ([(1144, some (15, 0)), (1141, some (6, 1))], none)))))))
theorem rk_q3t : RuOk SR ru_q3t := by
  intro τ m g hi hc ha hS
  obtain ⟨i0, i1, i2, i3, i4, i5, i6, i7, i8, i9, i10, i11, i12, i13, i14, i15, _⟩ := hi
  have t1199 : τ 1199 = some (g 0) := i0
  have t1102 : τ 1102 = some (g 1) := i1
  have t1122 : τ 1122 = some (g 2) := i2
  have t1123 : τ 1123 = some (g 3) := i3
  have t1124 : τ 1124 = some (g 4) := i4
  have t1140 : τ 1140 = some (g 5) := i5
  have t1141 : τ 1141 = some (g 6) := i6
  have t1142 : τ 1142 = some (g 7) := i7
  have t1143 : τ 1143 = some (g 8) := i8
  have t1144 : τ 1144 = some (g 9) := i9
  have t1184 : τ 1184 = some (g 10) := i10
  have t1185 : τ 1185 = some (g 11) := i11
  have t1186 : τ 1186 = some (g 12) := i12
  have xht : g 13 = m 110 20 := i13
  obtain ⟨jgn, ugn, vgn⟩ : ∃ j : Nat, g 12 = (j : Int) ∧ g 14 = m 128 j := i14
  have xm1 : g 15 = 16 := i15
  obtain ⟨c0, c1, c2, c3, c4, c5, c6, c7, c8, c9, c10, _⟩ := hc
  have c0 : 1 * g 9 ≤ 13 := d1 c0
  have c1 : (-1) * g 9 ≤ (-13) := d1 c1
  have c2 : (-1) * g 2 + 1 * g 6 ≤ 0 := d2 c2
  have c3 : 1 * g 2 + (-1) * g 6 ≤ 0 := d2 c3
  have c4 : (-1) * g 3 + 1 * g 10 ≤ 0 := d2 c4
  have c5 : 1 * g 3 + (-1) * g 10 ≤ 0 := d2 c5
  have c6 : 1 * g 11 ≤ 116 := d1 c6
  have c7 : (-1) * g 11 ≤ (-116) := d1 c7
  have c8 : (-1) * g 12 ≤ 0 := d1 c8
  have c9 : 1 * g 12 + (-1) * g 13 ≤ (-1) := d2 c9
  have c10 : 1 * g 14 ≤ 0 := d1 c10
  obtain ⟨h0, k_tok, k_sc1, k_sc2, k_T, k_I, k_F, k_N, k_Y, k_Z, k_A, k_B, k_C, k_X, k_R, k_f4⟩ := hS (by rw [t1199]; exact fun e => by cases e)
  have k_tok0 := k_tok
  obtain ⟨h_L, h_n, h_nF⟩ := k_tok0
  have k_I0 := k_I
  obtain ⟨h_p, h_pc, h_ip, h_iP, h_PC, h_PN⟩ := k_I0
  have k_N0 := k_N
  obtain ⟨h_N, h_Nk, h_V, h_Yq⟩ := k_N0
  have k_B0 := k_B
  obtain ⟨h_B0, h_B, h_Bd0, h_B26, h_B22, h_Bs⟩ := k_B0
  obtain ⟨hn0, _, hNT⟩ := h_nF _ t1102
  have hB := h_B _ _ _ _ _ _ t1102 t1140 t1141 t1142 t1143 t1144
  have rB := hB.1
  obtain ⟨⟨hi0, hi1⟩, hpi⟩ := h_ip _ _ _ t1102 t1122 t1123
  have eb : (g 2).toNat = (g 6).toNat := by omega
  rw [eb] at hpi
  have ep : (g 3).toNat = Tp9 (tx9 m) (g 6).toNat := by omega
  have hcc := h_pc _ _ t1123 t1124
  rw [ep] at hcc
  have hv2 := (h_N _ _ _ t1184 t1185 t1186).2
  rw [show (g 10).toNat = Tp9 (tx9 m) (g 6).toNat by omega, show g 11 = 116 by omega] at hv2
  have hc2 : 2 ≤ rc9 (tx9 m) (Tp9 (tx9 m) (g 6).toNat) := kd_rc (nb_kd (c := 116) (by omega))
  have hx1 := NT_next hNT (i := (g 6).toNat) (by omega) (by omega)
  exact ⟨rfl, trivial, trivial, fun _ => ⟨h0, k_tok, k_sc1, k_sc2, k_T, k_I, k_F, k_N, k_Y, k_Z, k_A, ⟨fun nF Bd Bi Br Bm e0 e1 e2 e3 e4 => by
      have e0 : g 1 = nF := Option.some.inj (t1102.symm.trans e0)
      subst e0
      have e1 : g 5 = Bd := Option.some.inj (t1140.symm.trans e1)
      subst e1
      have e2 : g 6 + 1 = Bi := Option.some.inj e2
      subst e2
      have e3 : g 7 = Br := Option.some.inj (t1142.symm.trans e3)
      subst e3
      have e4 : g 15 + 0 = Bm := Option.some.inj e4
      subst e4
      exact ⟨_, RI_u hB 13 16 (by omega) (by omega) rfl (by omega) ⟨by omega, by omega⟩ (fun r h => by
              rw [St_n (by omega)] at h
              exact q_3t (nb_any (by omega)) (by omega) (by rw [← hv2]; show (decide (_ < m 110 20) && decide (m 128 (g 12).toNat ≤ 0)) = true; rw [show (g 12).toNat = jgn by omega, decide_eq_true (by omega), decide_eq_true (by omega)]; rfl) h)⟩, fun nF Bd Bi Br Bx Bm e0 e1 e2 e3 e4 e5 => by
      have e0 : g 1 = nF := Option.some.inj (t1102.symm.trans e0)
      subst e0
      have e1 : g 5 = Bd := Option.some.inj (t1140.symm.trans e1)
      subst e1
      have e2 : g 6 + 1 = Bi := Option.some.inj e2
      subst e2
      have e3 : g 7 = Br := Option.some.inj (t1142.symm.trans e3)
      subst e3
      have e4 : g 8 = Bx := Option.some.inj (t1143.symm.trans e4)
      subst e4
      have e5 : g 15 + 0 = Bm := Option.some.inj e5
      subst e5
      exact RI_u hB 13 16 (by omega) (by omega) rfl (by omega) ⟨by omega, by omega⟩ (fun r h => by
              rw [St_n (by omega)] at h
              exact q_3t (nb_any (by omega)) (by omega) (by rw [← hv2]; show (decide (_ < m 110 20) && decide (m 128 (g 12).toNat ≤ 0)) = true; rw [show (g 12).toNat = jgn by omega, decide_eq_true (by omega), decide_eq_true (by omega)]; rfl) h), h_Bd0, fun Bd Bi Bm e0 e1 e2 => by
      have e0 : g 5 = Bd := Option.some.inj (t1140.symm.trans e0)
      subst e0
      have e1 : g 6 + 1 = Bi := Option.some.inj e1
      subst e1
      have e2 : g 15 + 0 = Bm := Option.some.inj e2
      subst e2
      intro h
      omega, fun Bd Bi Bm Bf e0 e1 e2 e3 => by
      have e0 : g 5 = Bd := Option.some.inj (t1140.symm.trans e0)
      subst e0
      have e1 : g 6 + 1 = Bi := Option.some.inj e1
      subst e1
      have e2 : g 15 + 0 = Bm := Option.some.inj e2
      subst e2
      intro h
      omega, h_Bs⟩, k_C, k_X, k_R, k_f4⟩⟩
noncomputable def ru_q6a : Ru := ([(0, (1199, (0, (0, 0)))), (0, (1102, (0, (0, 0)))), (0, (1122, (0, (0, 0)))), (0, (1123, (0, (0, 0)))), (0, (1124, (0, (0, 0)))), (0, (1140, (0, (0, 0)))), (0, (1141, (0, (0, 0)))), (0, (1142, (0, (0, 0)))), (0, (1143, (0, (0, 0)))), (0, (1144, (0, (0, 0)))), (4, (0, (0, (14, 0))))], ([], ([([(9, 1)], 16), ([(9, (-1))], (-16)), ([(2, (-1)), (6, 1)], 0), ([(2, 1), (6, (-1))], 0), ([(4, 1)], 10)], (false, ([], ([], ([(1144, some (10, 0))], none)))))))
theorem rk_q6a : RuOk SR ru_q6a := by
  intro τ m g hi hc ha hS
  obtain ⟨i0, i1, i2, i3, i4, i5, i6, i7, i8, i9, i10, _⟩ := hi
  have t1199 : τ 1199 = some (g 0) := i0
  have t1102 : τ 1102 = some (g 1) := i1
  have t1122 : τ 1122 = some (g 2) := i2
  have t1123 : τ 1123 = some (g 3) := i3
  have t1124 : τ 1124 = some (g 4) := i4
  have t1140 : τ 1140 = some (g 5) := i5
  have t1141 : τ 1141 = some (g 6) := i6
  have t1142 : τ 1142 = some (g 7) := i7
  have t1143 : τ 1143 = some (g 8) := i8
  have t1144 : τ 1144 = some (g 9) := i9
  have xm1 : g 10 = 14 := i10
  obtain ⟨c0, c1, c2, c3, c4, _⟩ := hc
  have c0 : 1 * g 9 ≤ 16 := d1 c0
  have c1 : (-1) * g 9 ≤ (-16) := d1 c1
  have c2 : (-1) * g 2 + 1 * g 6 ≤ 0 := d2 c2
  have c3 : 1 * g 2 + (-1) * g 6 ≤ 0 := d2 c3
  have c4 : 1 * g 4 ≤ 10 := d1 c4
  obtain ⟨h0, k_tok, k_sc1, k_sc2, k_T, k_I, k_F, k_N, k_Y, k_Z, k_A, k_B, k_C, k_X, k_R, k_f4⟩ := hS (by rw [t1199]; exact fun e => by cases e)
  have k_tok0 := k_tok
  obtain ⟨h_L, h_n, h_nF⟩ := k_tok0
  have k_I0 := k_I
  obtain ⟨h_p, h_pc, h_ip, h_iP, h_PC, h_PN⟩ := k_I0
  have k_B0 := k_B
  obtain ⟨h_B0, h_B, h_Bd0, h_B26, h_B22, h_Bs⟩ := k_B0
  obtain ⟨hn0, _, hNT⟩ := h_nF _ t1102
  have hB := h_B _ _ _ _ _ _ t1102 t1140 t1141 t1142 t1143 t1144
  have rB := hB.1
  obtain ⟨⟨hi0, hi1⟩, hpi⟩ := h_ip _ _ _ t1102 t1122 t1123
  have eb : (g 2).toNat = (g 6).toNat := by omega
  rw [eb] at hpi
  have ep : (g 3).toNat = Tp9 (tx9 m) (g 6).toNat := by omega
  have hcc := h_pc _ _ t1123 t1124
  rw [ep] at hcc
  exact ⟨rfl, trivial, trivial, fun _ => ⟨h0, k_tok, k_sc1, k_sc2, k_T, k_I, k_F, k_N, k_Y, k_Z, k_A, ⟨fun nF Bd Bi Br Bm e0 e1 e2 e3 e4 => by
      have e0 : g 1 = nF := Option.some.inj (t1102.symm.trans e0)
      subst e0
      have e1 : g 5 = Bd := Option.some.inj (t1140.symm.trans e1)
      subst e1
      have e2 : g 6 = Bi := Option.some.inj (t1141.symm.trans e2)
      subst e2
      have e3 : g 7 = Br := Option.some.inj (t1142.symm.trans e3)
      subst e3
      have e4 : g 10 + 0 = Bm := Option.some.inj e4
      subst e4
      exact ⟨_, RI_u hB 16 14 (by omega) (by omega) rfl (by omega) ⟨by omega, by omega⟩ (fun r h => by
              exact q_6n (w := wl9 m) (C := CH9 (tx9 m)) (by omega) h)⟩, fun nF Bd Bi Br Bx Bm e0 e1 e2 e3 e4 e5 => by
      have e0 : g 1 = nF := Option.some.inj (t1102.symm.trans e0)
      subst e0
      have e1 : g 5 = Bd := Option.some.inj (t1140.symm.trans e1)
      subst e1
      have e2 : g 6 = Bi := Option.some.inj (t1141.symm.trans e2)
      subst e2
      have e3 : g 7 = Br := Option.some.inj (t1142.symm.trans e3)
      subst e3
      have e4 : g 8 = Bx := Option.some.inj (t1143.symm.trans e4)
      subst e4
      have e5 : g 10 + 0 = Bm := Option.some.inj e5
      subst e5
      exact RI_u hB 16 14 (by omega) (by omega) rfl (by omega) ⟨by omega, by omega⟩ (fun r h => by
              exact q_6n (w := wl9 m) (C := CH9 (tx9 m)) (by omega) h), h_Bd0, fun Bd Bi Bm e0 e1 e2 => by
      have e0 : g 5 = Bd := Option.some.inj (t1140.symm.trans e0)
      subst e0
      have e1 : g 6 = Bi := Option.some.inj (t1141.symm.trans e1)
      subst e1
      have e2 : g 10 + 0 = Bm := Option.some.inj e2
      subst e2
      intro h
      omega, fun Bd Bi Bm Bf e0 e1 e2 e3 => by
      have e0 : g 5 = Bd := Option.some.inj (t1140.symm.trans e0)
      subst e0
      have e1 : g 6 = Bi := Option.some.inj (t1141.symm.trans e1)
      subst e1
      have e2 : g 10 + 0 = Bm := Option.some.inj e2
      subst e2
      intro h
      omega, h_Bs⟩, k_C, k_X, k_R, k_f4⟩⟩
noncomputable def ru_q6b : Ru := ([(0, (1199, (0, (0, 0)))), (0, (1102, (0, (0, 0)))), (0, (1122, (0, (0, 0)))), (0, (1123, (0, (0, 0)))), (0, (1124, (0, (0, 0)))), (0, (1140, (0, (0, 0)))), (0, (1141, (0, (0, 0)))), (0, (1142, (0, (0, 0)))), (0, (1143, (0, (0, 0)))), (0, (1144, (0, (0, 0)))), (4, (0, (0, (14, 0))))], ([], ([([(9, 1)], 16), ([(9, (-1))], (-16)), ([(2, (-1)), (6, 1)], 0), ([(2, 1), (6, (-1))], 0), ([(4, (-1))], (-12))], (false, ([], ([], ([(1144, some (10, 0))], none)))))))
theorem rk_q6b : RuOk SR ru_q6b := by
  intro τ m g hi hc ha hS
  obtain ⟨i0, i1, i2, i3, i4, i5, i6, i7, i8, i9, i10, _⟩ := hi
  have t1199 : τ 1199 = some (g 0) := i0
  have t1102 : τ 1102 = some (g 1) := i1
  have t1122 : τ 1122 = some (g 2) := i2
  have t1123 : τ 1123 = some (g 3) := i3
  have t1124 : τ 1124 = some (g 4) := i4
  have t1140 : τ 1140 = some (g 5) := i5
  have t1141 : τ 1141 = some (g 6) := i6
  have t1142 : τ 1142 = some (g 7) := i7
  have t1143 : τ 1143 = some (g 8) := i8
  have t1144 : τ 1144 = some (g 9) := i9
  have xm1 : g 10 = 14 := i10
  obtain ⟨c0, c1, c2, c3, c4, _⟩ := hc
  have c0 : 1 * g 9 ≤ 16 := d1 c0
  have c1 : (-1) * g 9 ≤ (-16) := d1 c1
  have c2 : (-1) * g 2 + 1 * g 6 ≤ 0 := d2 c2
  have c3 : 1 * g 2 + (-1) * g 6 ≤ 0 := d2 c3
  have c4 : (-1) * g 4 ≤ (-12) := d1 c4
  obtain ⟨h0, k_tok, k_sc1, k_sc2, k_T, k_I, k_F, k_N, k_Y, k_Z, k_A, k_B, k_C, k_X, k_R, k_f4⟩ := hS (by rw [t1199]; exact fun e => by cases e)
  have k_tok0 := k_tok
  obtain ⟨h_L, h_n, h_nF⟩ := k_tok0
  have k_I0 := k_I
  obtain ⟨h_p, h_pc, h_ip, h_iP, h_PC, h_PN⟩ := k_I0
  have k_B0 := k_B
  obtain ⟨h_B0, h_B, h_Bd0, h_B26, h_B22, h_Bs⟩ := k_B0
  obtain ⟨hn0, _, hNT⟩ := h_nF _ t1102
  have hB := h_B _ _ _ _ _ _ t1102 t1140 t1141 t1142 t1143 t1144
  have rB := hB.1
  obtain ⟨⟨hi0, hi1⟩, hpi⟩ := h_ip _ _ _ t1102 t1122 t1123
  have eb : (g 2).toNat = (g 6).toNat := by omega
  rw [eb] at hpi
  have ep : (g 3).toNat = Tp9 (tx9 m) (g 6).toNat := by omega
  have hcc := h_pc _ _ t1123 t1124
  rw [ep] at hcc
  exact ⟨rfl, trivial, trivial, fun _ => ⟨h0, k_tok, k_sc1, k_sc2, k_T, k_I, k_F, k_N, k_Y, k_Z, k_A, ⟨fun nF Bd Bi Br Bm e0 e1 e2 e3 e4 => by
      have e0 : g 1 = nF := Option.some.inj (t1102.symm.trans e0)
      subst e0
      have e1 : g 5 = Bd := Option.some.inj (t1140.symm.trans e1)
      subst e1
      have e2 : g 6 = Bi := Option.some.inj (t1141.symm.trans e2)
      subst e2
      have e3 : g 7 = Br := Option.some.inj (t1142.symm.trans e3)
      subst e3
      have e4 : g 10 + 0 = Bm := Option.some.inj e4
      subst e4
      exact ⟨_, RI_u hB 16 14 (by omega) (by omega) rfl (by omega) ⟨by omega, by omega⟩ (fun r h => by
              exact q_6n (w := wl9 m) (C := CH9 (tx9 m)) (by omega) h)⟩, fun nF Bd Bi Br Bx Bm e0 e1 e2 e3 e4 e5 => by
      have e0 : g 1 = nF := Option.some.inj (t1102.symm.trans e0)
      subst e0
      have e1 : g 5 = Bd := Option.some.inj (t1140.symm.trans e1)
      subst e1
      have e2 : g 6 = Bi := Option.some.inj (t1141.symm.trans e2)
      subst e2
      have e3 : g 7 = Br := Option.some.inj (t1142.symm.trans e3)
      subst e3
      have e4 : g 8 = Bx := Option.some.inj (t1143.symm.trans e4)
      subst e4
      have e5 : g 10 + 0 = Bm := Option.some.inj e5
      subst e5
      exact RI_u hB 16 14 (by omega) (by omega) rfl (by omega) ⟨by omega, by omega⟩ (fun r h => by
              exact q_6n (w := wl9 m) (C := CH9 (tx9 m)) (by omega) h), h_Bd0, fun Bd Bi Bm e0 e1 e2 => by
      have e0 : g 5 = Bd := Option.some.inj (t1140.symm.trans e0)
      subst e0
      have e1 : g 6 = Bi := Option.some.inj (t1141.symm.trans e1)
      subst e1
      have e2 : g 10 + 0 = Bm := Option.some.inj e2
      subst e2
      intro h
      omega, fun Bd Bi Bm Bf e0 e1 e2 e3 => by
      have e0 : g 5 = Bd := Option.some.inj (t1140.symm.trans e0)
      subst e0
      have e1 : g 6 = Bi := Option.some.inj (t1141.symm.trans e1)
      subst e1
      have e2 : g 10 + 0 = Bm := Option.some.inj e2
      subst e2
      intro h
      omega, h_Bs⟩, k_C, k_X, k_R, k_f4⟩⟩
noncomputable def ru_q6c : Ru := ([(0, (1199, (0, (0, 0)))), (0, (1102, (0, (0, 0)))), (0, (1122, (0, (0, 0)))), (0, (1123, (0, (0, 0)))), (0, (1124, (0, (0, 0)))), (0, (1140, (0, (0, 0)))), (0, (1141, (0, (0, 0)))), (0, (1142, (0, (0, 0)))), (0, (1143, (0, (0, 0)))), (0, (1144, (0, (0, 0)))), (4, (0, (0, (14, 0))))], ([], ([([(9, 1)], 16), ([(9, (-1))], (-16)), ([(2, (-1)), (6, 1)], 0), ([(2, 1), (6, (-1))], 0), ([(4, (-1))], (-11)), ([(4, 1)], 11)], (false, ([], ([], ([(1144, some (10, 0)), (1141, some (6, 1))], none)))))))
theorem rk_q6c : RuOk SR ru_q6c := by
  intro τ m g hi hc ha hS
  obtain ⟨i0, i1, i2, i3, i4, i5, i6, i7, i8, i9, i10, _⟩ := hi
  have t1199 : τ 1199 = some (g 0) := i0
  have t1102 : τ 1102 = some (g 1) := i1
  have t1122 : τ 1122 = some (g 2) := i2
  have t1123 : τ 1123 = some (g 3) := i3
  have t1124 : τ 1124 = some (g 4) := i4
  have t1140 : τ 1140 = some (g 5) := i5
  have t1141 : τ 1141 = some (g 6) := i6
  have t1142 : τ 1142 = some (g 7) := i7
  have t1143 : τ 1143 = some (g 8) := i8
  have t1144 : τ 1144 = some (g 9) := i9
  have xm1 : g 10 = 14 := i10
  obtain ⟨c0, c1, c2, c3, c4, c5, _⟩ := hc
  have c0 : 1 * g 9 ≤ 16 := d1 c0
  have c1 : (-1) * g 9 ≤ (-16) := d1 c1
  have c2 : (-1) * g 2 + 1 * g 6 ≤ 0 := d2 c2
  have c3 : 1 * g 2 + (-1) * g 6 ≤ 0 := d2 c3
  have c4 : (-1) * g 4 ≤ (-11) := d1 c4
  have c5 : 1 * g 4 ≤ 11 := d1 c5
  obtain ⟨h0, k_tok, k_sc1, k_sc2, k_T, k_I, k_F, k_N, k_Y, k_Z, k_A, k_B, k_C, k_X, k_R, k_f4⟩ := hS (by rw [t1199]; exact fun e => by cases e)
  have k_tok0 := k_tok
  obtain ⟨h_L, h_n, h_nF⟩ := k_tok0
  have k_I0 := k_I
  obtain ⟨h_p, h_pc, h_ip, h_iP, h_PC, h_PN⟩ := k_I0
  have k_B0 := k_B
  obtain ⟨h_B0, h_B, h_Bd0, h_B26, h_B22, h_Bs⟩ := k_B0
  obtain ⟨hn0, _, hNT⟩ := h_nF _ t1102
  have hB := h_B _ _ _ _ _ _ t1102 t1140 t1141 t1142 t1143 t1144
  have rB := hB.1
  obtain ⟨⟨hi0, hi1⟩, hpi⟩ := h_ip _ _ _ t1102 t1122 t1123
  have eb : (g 2).toNat = (g 6).toNat := by omega
  rw [eb] at hpi
  have ep : (g 3).toNat = Tp9 (tx9 m) (g 6).toNat := by omega
  have hcc := h_pc _ _ t1123 t1124
  rw [ep] at hcc
  have hx1 := NT_next hNT (i := (g 6).toNat) (by omega) (by omega)
  exact ⟨rfl, trivial, trivial, fun _ => ⟨h0, k_tok, k_sc1, k_sc2, k_T, k_I, k_F, k_N, k_Y, k_Z, k_A, ⟨fun nF Bd Bi Br Bm e0 e1 e2 e3 e4 => by
      have e0 : g 1 = nF := Option.some.inj (t1102.symm.trans e0)
      subst e0
      have e1 : g 5 = Bd := Option.some.inj (t1140.symm.trans e1)
      subst e1
      have e2 : g 6 + 1 = Bi := Option.some.inj e2
      subst e2
      have e3 : g 7 = Br := Option.some.inj (t1142.symm.trans e3)
      subst e3
      have e4 : g 10 + 0 = Bm := Option.some.inj e4
      subst e4
      exact ⟨_, RI_u hB 16 14 (by omega) (by omega) rfl (by omega) ⟨by omega, by omega⟩ (fun r h => by
              rw [St_n (by omega)] at h
              exact q_6c (w := wl9 m) (C := CH9 (tx9 m)) (by omega) h)⟩, fun nF Bd Bi Br Bx Bm e0 e1 e2 e3 e4 e5 => by
      have e0 : g 1 = nF := Option.some.inj (t1102.symm.trans e0)
      subst e0
      have e1 : g 5 = Bd := Option.some.inj (t1140.symm.trans e1)
      subst e1
      have e2 : g 6 + 1 = Bi := Option.some.inj e2
      subst e2
      have e3 : g 7 = Br := Option.some.inj (t1142.symm.trans e3)
      subst e3
      have e4 : g 8 = Bx := Option.some.inj (t1143.symm.trans e4)
      subst e4
      have e5 : g 10 + 0 = Bm := Option.some.inj e5
      subst e5
      exact RI_u hB 16 14 (by omega) (by omega) rfl (by omega) ⟨by omega, by omega⟩ (fun r h => by
              rw [St_n (by omega)] at h
              exact q_6c (w := wl9 m) (C := CH9 (tx9 m)) (by omega) h), h_Bd0, fun Bd Bi Bm e0 e1 e2 => by
      have e0 : g 5 = Bd := Option.some.inj (t1140.symm.trans e0)
      subst e0
      have e1 : g 6 + 1 = Bi := Option.some.inj e1
      subst e1
      have e2 : g 10 + 0 = Bm := Option.some.inj e2
      subst e2
      intro h
      omega, fun Bd Bi Bm Bf e0 e1 e2 e3 => by
      have e0 : g 5 = Bd := Option.some.inj (t1140.symm.trans e0)
      subst e0
      have e1 : g 6 + 1 = Bi := Option.some.inj e1
      subst e1
      have e2 : g 10 + 0 = Bm := Option.some.inj e2
      subst e2
      intro h
      omega, h_Bs⟩, k_C, k_X, k_R, k_f4⟩⟩
noncomputable def ru_q4a : Ru := ([(0, (1199, (0, (0, 0)))), (0, (1102, (0, (0, 0)))), (0, (1122, (0, (0, 0)))), (0, (1123, (0, (0, 0)))), (0, (1124, (0, (0, 0)))), (0, (1140, (0, (0, 0)))), (0, (1141, (0, (0, 0)))), (0, (1142, (0, (0, 0)))), (0, (1143, (0, (0, 0)))), (0, (1144, (0, (0, 0)))), (4, (0, (0, (15, 0))))], ([], ([([(9, 1)], 14), ([(9, (-1))], (-14)), ([(2, (-1)), (6, 1)], 0), ([(2, 1), (6, (-1))], 0), ([(4, 1)], 32)], (false, ([], ([], ([(1144, some (10, 0))], none)))))))
theorem rk_q4a : RuOk SR ru_q4a := by
  intro τ m g hi hc ha hS
  obtain ⟨i0, i1, i2, i3, i4, i5, i6, i7, i8, i9, i10, _⟩ := hi
  have t1199 : τ 1199 = some (g 0) := i0
  have t1102 : τ 1102 = some (g 1) := i1
  have t1122 : τ 1122 = some (g 2) := i2
  have t1123 : τ 1123 = some (g 3) := i3
  have t1124 : τ 1124 = some (g 4) := i4
  have t1140 : τ 1140 = some (g 5) := i5
  have t1141 : τ 1141 = some (g 6) := i6
  have t1142 : τ 1142 = some (g 7) := i7
  have t1143 : τ 1143 = some (g 8) := i8
  have t1144 : τ 1144 = some (g 9) := i9
  have xm1 : g 10 = 15 := i10
  obtain ⟨c0, c1, c2, c3, c4, _⟩ := hc
  have c0 : 1 * g 9 ≤ 14 := d1 c0
  have c1 : (-1) * g 9 ≤ (-14) := d1 c1
  have c2 : (-1) * g 2 + 1 * g 6 ≤ 0 := d2 c2
  have c3 : 1 * g 2 + (-1) * g 6 ≤ 0 := d2 c3
  have c4 : 1 * g 4 ≤ 32 := d1 c4
  obtain ⟨h0, k_tok, k_sc1, k_sc2, k_T, k_I, k_F, k_N, k_Y, k_Z, k_A, k_B, k_C, k_X, k_R, k_f4⟩ := hS (by rw [t1199]; exact fun e => by cases e)
  have k_tok0 := k_tok
  obtain ⟨h_L, h_n, h_nF⟩ := k_tok0
  have k_I0 := k_I
  obtain ⟨h_p, h_pc, h_ip, h_iP, h_PC, h_PN⟩ := k_I0
  have k_B0 := k_B
  obtain ⟨h_B0, h_B, h_Bd0, h_B26, h_B22, h_Bs⟩ := k_B0
  obtain ⟨hn0, _, hNT⟩ := h_nF _ t1102
  have hB := h_B _ _ _ _ _ _ t1102 t1140 t1141 t1142 t1143 t1144
  have rB := hB.1
  obtain ⟨⟨hi0, hi1⟩, hpi⟩ := h_ip _ _ _ t1102 t1122 t1123
  have eb : (g 2).toNat = (g 6).toNat := by omega
  rw [eb] at hpi
  have ep : (g 3).toNat = Tp9 (tx9 m) (g 6).toNat := by omega
  have hcc := h_pc _ _ t1123 t1124
  rw [ep] at hcc
  exact ⟨rfl, trivial, trivial, fun _ => ⟨h0, k_tok, k_sc1, k_sc2, k_T, k_I, k_F, k_N, k_Y, k_Z, k_A, ⟨fun nF Bd Bi Br Bm e0 e1 e2 e3 e4 => by
      have e0 : g 1 = nF := Option.some.inj (t1102.symm.trans e0)
      subst e0
      have e1 : g 5 = Bd := Option.some.inj (t1140.symm.trans e1)
      subst e1
      have e2 : g 6 = Bi := Option.some.inj (t1141.symm.trans e2)
      subst e2
      have e3 : g 7 = Br := Option.some.inj (t1142.symm.trans e3)
      subst e3
      have e4 : g 10 + 0 = Bm := Option.some.inj e4
      subst e4
      exact ⟨_, RI_u hB 14 15 (by omega) (by omega) rfl (by omega) ⟨by omega, by omega⟩ (fun r h => by
              exact q_4n (w := wl9 m) (C := CH9 (tx9 m)) (by omega) h)⟩, fun nF Bd Bi Br Bx Bm e0 e1 e2 e3 e4 e5 => by
      have e0 : g 1 = nF := Option.some.inj (t1102.symm.trans e0)
      subst e0
      have e1 : g 5 = Bd := Option.some.inj (t1140.symm.trans e1)
      subst e1
      have e2 : g 6 = Bi := Option.some.inj (t1141.symm.trans e2)
      subst e2
      have e3 : g 7 = Br := Option.some.inj (t1142.symm.trans e3)
      subst e3
      have e4 : g 8 = Bx := Option.some.inj (t1143.symm.trans e4)
      subst e4
      have e5 : g 10 + 0 = Bm := Option.some.inj e5
      subst e5
      exact RI_u hB 14 15 (by omega) (by omega) rfl (by omega) ⟨by omega, by omega⟩ (fun r h => by
              exact q_4n (w := wl9 m) (C := CH9 (tx9 m)) (by omega) h), h_Bd0, fun Bd Bi Bm e0 e1 e2 => by
      have e0 : g 5 = Bd := Option.some.inj (t1140.symm.trans e0)
      subst e0
      have e1 : g 6 = Bi := Option.some.inj (t1141.symm.trans e1)
      subst e1
      have e2 : g 10 + 0 = Bm := Option.some.inj e2
      subst e2
      intro h
      omega, fun Bd Bi Bm Bf e0 e1 e2 e3 => by
      have e0 : g 5 = Bd := Option.some.inj (t1140.symm.trans e0)
      subst e0
      have e1 : g 6 = Bi := Option.some.inj (t1141.symm.trans e1)
      subst e1
      have e2 : g 10 + 0 = Bm := Option.some.inj e2
      subst e2
      intro h
      omega, h_Bs⟩, k_C, k_X, k_R, k_f4⟩⟩
noncomputable def ru_q4b : Ru := ([(0, (1199, (0, (0, 0)))), (0, (1102, (0, (0, 0)))), (0, (1122, (0, (0, 0)))), (0, (1123, (0, (0, 0)))), (0, (1124, (0, (0, 0)))), (0, (1140, (0, (0, 0)))), (0, (1141, (0, (0, 0)))), (0, (1142, (0, (0, 0)))), (0, (1143, (0, (0, 0)))), (0, (1144, (0, (0, 0)))), (4, (0, (0, (15, 0))))], ([], ([([(9, 1)], 14), ([(9, (-1))], (-14)), ([(2, (-1)), (6, 1)], 0), ([(2, 1), (6, (-1))], 0), ([(4, (-1))], (-34))], (false, ([], ([], ([(1144, some (10, 0))], none)))))))
theorem rk_q4b : RuOk SR ru_q4b := by
  intro τ m g hi hc ha hS
  obtain ⟨i0, i1, i2, i3, i4, i5, i6, i7, i8, i9, i10, _⟩ := hi
  have t1199 : τ 1199 = some (g 0) := i0
  have t1102 : τ 1102 = some (g 1) := i1
  have t1122 : τ 1122 = some (g 2) := i2
  have t1123 : τ 1123 = some (g 3) := i3
  have t1124 : τ 1124 = some (g 4) := i4
  have t1140 : τ 1140 = some (g 5) := i5
  have t1141 : τ 1141 = some (g 6) := i6
  have t1142 : τ 1142 = some (g 7) := i7
  have t1143 : τ 1143 = some (g 8) := i8
  have t1144 : τ 1144 = some (g 9) := i9
  have xm1 : g 10 = 15 := i10
  obtain ⟨c0, c1, c2, c3, c4, _⟩ := hc
  have c0 : 1 * g 9 ≤ 14 := d1 c0
  have c1 : (-1) * g 9 ≤ (-14) := d1 c1
  have c2 : (-1) * g 2 + 1 * g 6 ≤ 0 := d2 c2
  have c3 : 1 * g 2 + (-1) * g 6 ≤ 0 := d2 c3
  have c4 : (-1) * g 4 ≤ (-34) := d1 c4
  obtain ⟨h0, k_tok, k_sc1, k_sc2, k_T, k_I, k_F, k_N, k_Y, k_Z, k_A, k_B, k_C, k_X, k_R, k_f4⟩ := hS (by rw [t1199]; exact fun e => by cases e)
  have k_tok0 := k_tok
  obtain ⟨h_L, h_n, h_nF⟩ := k_tok0
  have k_I0 := k_I
  obtain ⟨h_p, h_pc, h_ip, h_iP, h_PC, h_PN⟩ := k_I0
  have k_B0 := k_B
  obtain ⟨h_B0, h_B, h_Bd0, h_B26, h_B22, h_Bs⟩ := k_B0
  obtain ⟨hn0, _, hNT⟩ := h_nF _ t1102
  have hB := h_B _ _ _ _ _ _ t1102 t1140 t1141 t1142 t1143 t1144
  have rB := hB.1
  obtain ⟨⟨hi0, hi1⟩, hpi⟩ := h_ip _ _ _ t1102 t1122 t1123
  have eb : (g 2).toNat = (g 6).toNat := by omega
  rw [eb] at hpi
  have ep : (g 3).toNat = Tp9 (tx9 m) (g 6).toNat := by omega
  have hcc := h_pc _ _ t1123 t1124
  rw [ep] at hcc
  exact ⟨rfl, trivial, trivial, fun _ => ⟨h0, k_tok, k_sc1, k_sc2, k_T, k_I, k_F, k_N, k_Y, k_Z, k_A, ⟨fun nF Bd Bi Br Bm e0 e1 e2 e3 e4 => by
      have e0 : g 1 = nF := Option.some.inj (t1102.symm.trans e0)
      subst e0
      have e1 : g 5 = Bd := Option.some.inj (t1140.symm.trans e1)
      subst e1
      have e2 : g 6 = Bi := Option.some.inj (t1141.symm.trans e2)
      subst e2
      have e3 : g 7 = Br := Option.some.inj (t1142.symm.trans e3)
      subst e3
      have e4 : g 10 + 0 = Bm := Option.some.inj e4
      subst e4
      exact ⟨_, RI_u hB 14 15 (by omega) (by omega) rfl (by omega) ⟨by omega, by omega⟩ (fun r h => by
              exact q_4n (w := wl9 m) (C := CH9 (tx9 m)) (by omega) h)⟩, fun nF Bd Bi Br Bx Bm e0 e1 e2 e3 e4 e5 => by
      have e0 : g 1 = nF := Option.some.inj (t1102.symm.trans e0)
      subst e0
      have e1 : g 5 = Bd := Option.some.inj (t1140.symm.trans e1)
      subst e1
      have e2 : g 6 = Bi := Option.some.inj (t1141.symm.trans e2)
      subst e2
      have e3 : g 7 = Br := Option.some.inj (t1142.symm.trans e3)
      subst e3
      have e4 : g 8 = Bx := Option.some.inj (t1143.symm.trans e4)
      subst e4
      have e5 : g 10 + 0 = Bm := Option.some.inj e5
      subst e5
      exact RI_u hB 14 15 (by omega) (by omega) rfl (by omega) ⟨by omega, by omega⟩ (fun r h => by
              exact q_4n (w := wl9 m) (C := CH9 (tx9 m)) (by omega) h), h_Bd0, fun Bd Bi Bm e0 e1 e2 => by
      have e0 : g 5 = Bd := Option.some.inj (t1140.symm.trans e0)
      subst e0
      have e1 : g 6 = Bi := Option.some.inj (t1141.symm.trans e1)
      subst e1
      have e2 : g 10 + 0 = Bm := Option.some.inj e2
      subst e2
      intro h
      omega, fun Bd Bi Bm Bf e0 e1 e2 e3 => by
      have e0 : g 5 = Bd := Option.some.inj (t1140.symm.trans e0)
      subst e0
      have e1 : g 6 = Bi := Option.some.inj (t1141.symm.trans e1)
      subst e1
      have e2 : g 10 + 0 = Bm := Option.some.inj e2
      subst e2
      intro h
      omega, h_Bs⟩, k_C, k_X, k_R, k_f4⟩⟩
noncomputable def ru_q4c : Ru := ([(0, (1199, (0, (0, 0)))), (0, (1102, (0, (0, 0)))), (0, (1122, (0, (0, 0)))), (0, (1123, (0, (0, 0)))), (0, (1124, (0, (0, 0)))), (0, (1140, (0, (0, 0)))), (0, (1141, (0, (0, 0)))), (0, (1142, (0, (0, 0)))), (0, (1143, (0, (0, 0)))), (0, (1144, (0, (0, 0)))), (4, (0, (0, (17, 0))))], ([], ([([(9, 1)], 14), ([(9, (-1))], (-14)), ([(2, (-1)), (6, 1)], 0), ([(2, 1), (6, (-1))], 0), ([(4, (-1))], (-33)), ([(4, 1)], 33)], (false, ([], ([], ([(1144, some (10, 0)), (1141, some (6, 1))], none)))))))
theorem rk_q4c : RuOk SR ru_q4c := by
  intro τ m g hi hc ha hS
  obtain ⟨i0, i1, i2, i3, i4, i5, i6, i7, i8, i9, i10, _⟩ := hi
  have t1199 : τ 1199 = some (g 0) := i0
  have t1102 : τ 1102 = some (g 1) := i1
  have t1122 : τ 1122 = some (g 2) := i2
  have t1123 : τ 1123 = some (g 3) := i3
  have t1124 : τ 1124 = some (g 4) := i4
  have t1140 : τ 1140 = some (g 5) := i5
  have t1141 : τ 1141 = some (g 6) := i6
  have t1142 : τ 1142 = some (g 7) := i7
  have t1143 : τ 1143 = some (g 8) := i8
  have t1144 : τ 1144 = some (g 9) := i9
  have xm1 : g 10 = 17 := i10
  obtain ⟨c0, c1, c2, c3, c4, c5, _⟩ := hc
  have c0 : 1 * g 9 ≤ 14 := d1 c0
  have c1 : (-1) * g 9 ≤ (-14) := d1 c1
  have c2 : (-1) * g 2 + 1 * g 6 ≤ 0 := d2 c2
  have c3 : 1 * g 2 + (-1) * g 6 ≤ 0 := d2 c3
  have c4 : (-1) * g 4 ≤ (-33) := d1 c4
  have c5 : 1 * g 4 ≤ 33 := d1 c5
  obtain ⟨h0, k_tok, k_sc1, k_sc2, k_T, k_I, k_F, k_N, k_Y, k_Z, k_A, k_B, k_C, k_X, k_R, k_f4⟩ := hS (by rw [t1199]; exact fun e => by cases e)
  have k_tok0 := k_tok
  obtain ⟨h_L, h_n, h_nF⟩ := k_tok0
  have k_I0 := k_I
  obtain ⟨h_p, h_pc, h_ip, h_iP, h_PC, h_PN⟩ := k_I0
  have k_B0 := k_B
  obtain ⟨h_B0, h_B, h_Bd0, h_B26, h_B22, h_Bs⟩ := k_B0
  obtain ⟨hn0, _, hNT⟩ := h_nF _ t1102
  have hB := h_B _ _ _ _ _ _ t1102 t1140 t1141 t1142 t1143 t1144
  have rB := hB.1
  obtain ⟨⟨hi0, hi1⟩, hpi⟩ := h_ip _ _ _ t1102 t1122 t1123
  have eb : (g 2).toNat = (g 6).toNat := by omega
  rw [eb] at hpi
  have ep : (g 3).toNat = Tp9 (tx9 m) (g 6).toNat := by omega
  have hcc := h_pc _ _ t1123 t1124
  rw [ep] at hcc
  have hx1 := NT_next hNT (i := (g 6).toNat) (by omega) (by omega)
  exact ⟨rfl, trivial, trivial, fun _ => ⟨h0, k_tok, k_sc1, k_sc2, k_T, k_I, k_F, k_N, k_Y, k_Z, k_A, ⟨fun nF Bd Bi Br Bm e0 e1 e2 e3 e4 => by
      have e0 : g 1 = nF := Option.some.inj (t1102.symm.trans e0)
      subst e0
      have e1 : g 5 = Bd := Option.some.inj (t1140.symm.trans e1)
      subst e1
      have e2 : g 6 + 1 = Bi := Option.some.inj e2
      subst e2
      have e3 : g 7 = Br := Option.some.inj (t1142.symm.trans e3)
      subst e3
      have e4 : g 10 + 0 = Bm := Option.some.inj e4
      subst e4
      exact ⟨_, RI_u hB 14 17 (by omega) (by omega) rfl (by omega) ⟨by omega, by omega⟩ (fun r h => by
              rw [St_n (by omega)] at h
              exact q_4c (w := wl9 m) (C := CH9 (tx9 m)) (by omega) h)⟩, fun nF Bd Bi Br Bx Bm e0 e1 e2 e3 e4 e5 => by
      have e0 : g 1 = nF := Option.some.inj (t1102.symm.trans e0)
      subst e0
      have e1 : g 5 = Bd := Option.some.inj (t1140.symm.trans e1)
      subst e1
      have e2 : g 6 + 1 = Bi := Option.some.inj e2
      subst e2
      have e3 : g 7 = Br := Option.some.inj (t1142.symm.trans e3)
      subst e3
      have e4 : g 8 = Bx := Option.some.inj (t1143.symm.trans e4)
      subst e4
      have e5 : g 10 + 0 = Bm := Option.some.inj e5
      subst e5
      exact RI_u hB 14 17 (by omega) (by omega) rfl (by omega) ⟨by omega, by omega⟩ (fun r h => by
              rw [St_n (by omega)] at h
              exact q_4c (w := wl9 m) (C := CH9 (tx9 m)) (by omega) h), h_Bd0, fun Bd Bi Bm e0 e1 e2 => by
      have e0 : g 5 = Bd := Option.some.inj (t1140.symm.trans e0)
      subst e0
      have e1 : g 6 + 1 = Bi := Option.some.inj e1
      subst e1
      have e2 : g 10 + 0 = Bm := Option.some.inj e2
      subst e2
      intro h
      omega, fun Bd Bi Bm Bf e0 e1 e2 e3 => by
      have e0 : g 5 = Bd := Option.some.inj (t1140.symm.trans e0)
      subst e0
      have e1 : g 6 + 1 = Bi := Option.some.inj e1
      subst e1
      have e2 : g 10 + 0 = Bm := Option.some.inj e2
      subst e2
      intro h
      omega, h_Bs⟩, k_C, k_X, k_R, k_f4⟩⟩
noncomputable def ru_q7o : Ru := ([(0, (1199, (0, (0, 0)))), (0, (1102, (0, (0, 0)))), (0, (1140, (0, (0, 0)))), (0, (1141, (0, (0, 0)))), (0, (1142, (0, (0, 0)))), (0, (1143, (0, (0, 0)))), (0, (1144, (0, (0, 0)))), (0, (1130, (0, (0, 0)))), (0, (1131, (0, (0, 0)))), (0, (1132, (0, (0, 0)))), (0, (1133, (0, (0, 0)))), (0, (1134, (0, (0, 0)))), (4, (0, (0, (18, 0))))], ([], ([([(6, 1)], 17), ([(6, (-1))], (-17)), ([(11, 1)], 3), ([(11, (-1))], (-3)), ([(3, (-1)), (8, 1)], 0), ([(3, 1), (8, (-1))], 0), ([(7, 1)], 0), ([(7, (-1))], 0), ([(9, (-1))], 0)], (false, ([], ([], ([(1144, some (12, 0)), (1141, some (9, 0)), (1130, none), (1131, none), (1132, none), (1133, none), (1134, none)], none)))))))
theorem rk_q7o : RuOk SR ru_q7o := by
  intro τ m g hi hc ha hS
  obtain ⟨i0, i1, i2, i3, i4, i5, i6, i7, i8, i9, i10, i11, i12, _⟩ := hi
  have t1199 : τ 1199 = some (g 0) := i0
  have t1102 : τ 1102 = some (g 1) := i1
  have t1140 : τ 1140 = some (g 2) := i2
  have t1141 : τ 1141 = some (g 3) := i3
  have t1142 : τ 1142 = some (g 4) := i4
  have t1143 : τ 1143 = some (g 5) := i5
  have t1144 : τ 1144 = some (g 6) := i6
  have t1130 : τ 1130 = some (g 7) := i7
  have t1131 : τ 1131 = some (g 8) := i8
  have t1132 : τ 1132 = some (g 9) := i9
  have t1133 : τ 1133 = some (g 10) := i10
  have t1134 : τ 1134 = some (g 11) := i11
  have xm1 : g 12 = 18 := i12
  obtain ⟨c0, c1, c2, c3, c4, c5, c6, c7, c8, _⟩ := hc
  have c0 : 1 * g 6 ≤ 17 := d1 c0
  have c1 : (-1) * g 6 ≤ (-17) := d1 c1
  have c2 : 1 * g 11 ≤ 3 := d1 c2
  have c3 : (-1) * g 11 ≤ (-3) := d1 c3
  have c4 : (-1) * g 3 + 1 * g 8 ≤ 0 := d2 c4
  have c5 : 1 * g 3 + (-1) * g 8 ≤ 0 := d2 c5
  have c6 : 1 * g 7 ≤ 0 := d1 c6
  have c7 : (-1) * g 7 ≤ 0 := d1 c7
  have c8 : (-1) * g 9 ≤ 0 := d1 c8
  obtain ⟨h0, k_tok, k_sc1, k_sc2, k_T, k_I, k_F, k_N, k_Y, k_Z, k_A, k_B, k_C, k_X, k_R, k_f4⟩ := hS (by rw [t1199]; exact fun e => by cases e)
  have k_tok0 := k_tok
  obtain ⟨h_L, h_n, h_nF⟩ := k_tok0
  have k_A0 := k_A
  obtain ⟨h_A0, h_A⟩ := k_A0
  have k_B0 := k_B
  obtain ⟨h_B0, h_B, h_Bd0, h_B26, h_B22, h_Bs⟩ := k_B0
  obtain ⟨hn0, _, hNT⟩ := h_nF _ t1102
  have hB := h_B _ _ _ _ _ _ t1102 t1140 t1141 t1142 t1143 t1144
  have rB := hB.1
  have hA := h_A _ _ _ _ _ _ t1102 t1130 t1131 t1132 t1133 t1134
  have rA := hA.1
  have ea : (g 8).toNat = (g 3).toNat := by omega
  have ed : (g 7).toNat = 0 := by omega
  obtain ⟨hr1, hr2, hr3, hR⟩ := RI_p hA 3 (by omega) (by omega)
  rw [ea, ed] at hR
  exact ⟨rfl, trivial, trivial, fun _ => ⟨h0, k_tok, k_sc1, k_sc2, k_T, k_I, k_F, k_N, k_Y, k_Z, ⟨fun _ _ _ _ _ e0 e1 e2 e3 e4 => no9 (o := none) rfl e1, fun _ _ _ _ _ _ e0 e1 e2 e3 e4 e5 => no9 (o := none) rfl e1⟩, ⟨fun nF Bd Bi Br Bm e0 e1 e2 e3 e4 => by
      have e0 : g 1 = nF := Option.some.inj (t1102.symm.trans e0)
      subst e0
      have e1 : g 2 = Bd := Option.some.inj (t1140.symm.trans e1)
      subst e1
      have e2 : g 9 + 0 = Bi := Option.some.inj e2
      subst e2
      have e3 : g 4 = Br := Option.some.inj (t1142.symm.trans e3)
      subst e3
      have e4 : g 12 + 0 = Bm := Option.some.inj e4
      subst e4
      exact ⟨_, RI_u hB 17 18 (by omega) (by omega) rfl (by omega) ⟨by omega, by omega⟩ (fun r h => by
              rw [Int.add_zero] at h
              exact q_7o (w := wl9 m) (C := CH9 (tx9 m)) hR h)⟩, fun nF Bd Bi Br Bx Bm e0 e1 e2 e3 e4 e5 => by
      have e0 : g 1 = nF := Option.some.inj (t1102.symm.trans e0)
      subst e0
      have e1 : g 2 = Bd := Option.some.inj (t1140.symm.trans e1)
      subst e1
      have e2 : g 9 + 0 = Bi := Option.some.inj e2
      subst e2
      have e3 : g 4 = Br := Option.some.inj (t1142.symm.trans e3)
      subst e3
      have e4 : g 5 = Bx := Option.some.inj (t1143.symm.trans e4)
      subst e4
      have e5 : g 12 + 0 = Bm := Option.some.inj e5
      subst e5
      exact RI_u hB 17 18 (by omega) (by omega) rfl (by omega) ⟨by omega, by omega⟩ (fun r h => by
              rw [Int.add_zero] at h
              exact q_7o (w := wl9 m) (C := CH9 (tx9 m)) hR h), h_Bd0, fun Bd Bi Bm e0 e1 e2 => by
      have e0 : g 2 = Bd := Option.some.inj (t1140.symm.trans e0)
      subst e0
      have e1 : g 9 + 0 = Bi := Option.some.inj e1
      subst e1
      have e2 : g 12 + 0 = Bm := Option.some.inj e2
      subst e2
      intro h
      omega, fun Bd Bi Bm Bf e0 e1 e2 e3 => by
      have e0 : g 2 = Bd := Option.some.inj (t1140.symm.trans e0)
      subst e0
      have e1 : g 9 + 0 = Bi := Option.some.inj e1
      subst e1
      have e2 : g 12 + 0 = Bm := Option.some.inj e2
      subst e2
      intro h
      omega, h_Bs⟩, k_C, k_X, k_R, k_f4⟩⟩
noncomputable def ru_q7x : Ru := ([(0, (1199, (0, (0, 0)))), (0, (1102, (0, (0, 0)))), (0, (1140, (0, (0, 0)))), (0, (1141, (0, (0, 0)))), (0, (1142, (0, (0, 0)))), (0, (1143, (0, (0, 0)))), (0, (1144, (0, (0, 0)))), (0, (1130, (0, (0, 0)))), (0, (1131, (0, (0, 0)))), (0, (1132, (0, (0, 0)))), (0, (1133, (0, (0, 0)))), (0, (1134, (0, (0, 0))))], ([], ([([(6, 1)], 17), ([(6, (-1))], (-17)), ([(11, 1)], 3), ([(11, (-1))], (-3)), ([(3, (-1)), (8, 1)], 0), ([(3, 1), (8, (-1))], 0), ([(7, 1)], 0), ([(7, (-1))], 0), ([(9, 1)], (-1))], (false, ([([(5, 1), (10, (-1))], 0), ([(5, (-1)), (10, 1)], 0), ([(4, 1)], (-1)), ([(4, (-1))], 1)], ([], ([], none)))))))
theorem rk_q7x : RuOk SR ru_q7x := by
  intro τ m g hi hc ha hS
  obtain ⟨i0, i1, i2, i3, i4, i5, i6, i7, i8, i9, i10, i11, _⟩ := hi
  have t1199 : τ 1199 = some (g 0) := i0
  have t1102 : τ 1102 = some (g 1) := i1
  have t1140 : τ 1140 = some (g 2) := i2
  have t1141 : τ 1141 = some (g 3) := i3
  have t1142 : τ 1142 = some (g 4) := i4
  have t1143 : τ 1143 = some (g 5) := i5
  have t1144 : τ 1144 = some (g 6) := i6
  have t1130 : τ 1130 = some (g 7) := i7
  have t1131 : τ 1131 = some (g 8) := i8
  have t1132 : τ 1132 = some (g 9) := i9
  have t1133 : τ 1133 = some (g 10) := i10
  have t1134 : τ 1134 = some (g 11) := i11
  obtain ⟨c0, c1, c2, c3, c4, c5, c6, c7, c8, _⟩ := hc
  have c0 : 1 * g 6 ≤ 17 := d1 c0
  have c1 : (-1) * g 6 ≤ (-17) := d1 c1
  have c2 : 1 * g 11 ≤ 3 := d1 c2
  have c3 : (-1) * g 11 ≤ (-3) := d1 c3
  have c4 : (-1) * g 3 + 1 * g 8 ≤ 0 := d2 c4
  have c5 : 1 * g 3 + (-1) * g 8 ≤ 0 := d2 c5
  have c6 : 1 * g 7 ≤ 0 := d1 c6
  have c7 : (-1) * g 7 ≤ 0 := d1 c7
  have c8 : 1 * g 9 ≤ (-1) := d1 c8
  obtain ⟨h0, k_tok, k_sc1, k_sc2, k_T, k_I, k_F, k_N, k_Y, k_Z, k_A, k_B, k_C, k_X, k_R, k_f4⟩ := hS (by rw [t1199]; exact fun e => by cases e)
  have k_tok0 := k_tok
  obtain ⟨h_L, h_n, h_nF⟩ := k_tok0
  have k_A0 := k_A
  obtain ⟨h_A0, h_A⟩ := k_A0
  have k_B0 := k_B
  obtain ⟨h_B0, h_B, h_Bd0, h_B26, h_B22, h_Bs⟩ := k_B0
  obtain ⟨hn0, _, hNT⟩ := h_nF _ t1102
  have hB := h_B _ _ _ _ _ _ t1102 t1140 t1141 t1142 t1143 t1144
  have rB := hB.1
  have hA := h_A _ _ _ _ _ _ t1102 t1130 t1131 t1132 t1133 t1134
  have rA := hA.1
  have ea : (g 8).toNat = (g 3).toNat := by omega
  have ed : (g 7).toNat = 0 := by omega
  obtain ⟨hr1, hr2, hR⟩ := RI_n hA 3 (by omega) (by omega)
  rw [ea, ed] at hR
  obtain ⟨y1, y2⟩ := RI_b hB 17 (by omega) (q_7x (w := wl9 m) (C := CH9 (tx9 m)) hR)
  exact ⟨rfl, ⟨f2 (by omega), f2 (by omega), f1 (by omega), f1 (by omega), trivial⟩, trivial, fun _ => ⟨h0, k_tok, k_sc1, k_sc2, k_T, k_I, k_F, k_N, k_Y, k_Z, k_A, k_B, k_C, k_X, k_R, k_f4⟩⟩
noncomputable def ru_gA3z : Ru := ([(0, (1199, (0, (0, 0)))), (0, (1102, (0, (0, 0)))), (0, (1122, (0, (0, 0)))), (0, (1123, (0, (0, 0)))), (4, (0, (0, (3, 0)))), (4, (0, (0, (0, 0))))], ([1130, 1131, 1132, 1133, 1134], ([], (false, ([], ([], ([(1130, some (5, 0)), (1131, some (2, 0)), (1134, some (4, 0))], some (1132, ((-1), 1200)))))))))
theorem rk_gA3z : RuOk SR ru_gA3z := by
  intro τ m g hi hc ha hS
  obtain ⟨i0, i1, i2, i3, i4, i5, _⟩ := hi
  have t1199 : τ 1199 = some (g 0) := i0
  have t1102 : τ 1102 = some (g 1) := i1
  have t1122 : τ 1122 = some (g 2) := i2
  have t1123 : τ 1123 = some (g 3) := i3
  have xm : g 4 = 3 := i4
  have xo : g 5 = 0 := i5
  obtain ⟨a0, a1, a2, a3, a4, _⟩ := ha
  have n1130 : τ 1130 = none := a0
  have n1131 : τ 1131 = none := a1
  have n1132 : τ 1132 = none := a2
  have n1133 : τ 1133 = none := a3
  have n1134 : τ 1134 = none := a4
  obtain ⟨h0, k_tok, k_sc1, k_sc2, k_T, k_I, k_F, k_N, k_Y, k_Z, k_A, k_B, k_C, k_X, k_R, k_f4⟩ := hS (by rw [t1199]; exact fun e => by cases e)
  have k_tok0 := k_tok
  obtain ⟨h_L, h_n, h_nF⟩ := k_tok0
  have k_I0 := k_I
  obtain ⟨h_p, h_pc, h_ip, h_iP, h_PC, h_PN⟩ := k_I0
  have k_A0 := k_A
  obtain ⟨h_A0, h_A⟩ := k_A0
  obtain ⟨hn0, _, hNT⟩ := h_nF _ t1102
  have hXL : ((tx9 m).2 : Int) = m 110 1 := by
    show (((m 110 1).toNat : Nat) : Int) = _
    omega
  obtain ⟨⟨hi0, hi1⟩, hpi⟩ := h_ip _ _ _ t1102 t1122 t1123
  obtain ⟨x0, y0, ⟨x1, x2⟩, _, hI⟩ := RI_ex (X := tx9 m) (w := wl9 m) hNT (m := 3) (d := 0) (i := g 2) ⟨by decide, rfl⟩ (by omega) ⟨hi0, by omega⟩
  have x2 : x0 ≤ 1200 := by omega
  exact ⟨rfl, trivial, trivial, x0, x1, x2, fun _ => ⟨h0, k_tok, k_sc1, k_sc2, k_T, k_I, k_F, k_N, k_Y, k_Z, ⟨fun nF Ad Ai Ar Am e0 e1 e2 e3 e4 => by
      have e0 : g 1 = nF := Option.some.inj (t1102.symm.trans e0)
      subst e0
      have e1 : g 5 + 0 = Ad := Option.some.inj e1
      subst e1
      have e2 : g 2 + 0 = Ai := Option.some.inj e2
      subst e2
      have e3 : x0 = Ar := Option.some.inj e3
      subst e3
      have e4 : g 4 + 0 = Am := Option.some.inj e4
      subst e4
      rw [show g 4 + 0 = 3 by omega, show g 5 + 0 = 0 by omega]
      simp only [Int.add_zero] at hI ⊢
      exact ⟨by decide, _, hI⟩, fun _ _ _ _ _ _ e0 e1 e2 e3 e4 e5 => no9 n1133 e4⟩, k_B, k_C, k_X, k_R, k_f4⟩⟩
noncomputable def ru_q5a15 : Ru := ([(0, (1199, (0, (0, 0)))), (0, (1102, (0, (0, 0)))), (0, (1122, (0, (0, 0)))), (0, (1123, (0, (0, 0)))), (0, (1124, (0, (0, 0)))), (0, (1140, (0, (0, 0)))), (0, (1141, (0, (0, 0)))), (0, (1142, (0, (0, 0)))), (0, (1143, (0, (0, 0)))), (0, (1144, (0, (0, 0))))], ([], ([([(9, 1)], 15), ([(9, (-1))], (-15)), ([(2, (-1)), (6, 1)], 0), ([(2, 1), (6, (-1))], 0), ([(4, 1)], 31)], (false, ([([(6, (-1)), (7, 1)], 0), ([(6, 1), (7, (-1))], 0), ([(8, 1)], (-1)), ([(8, (-1))], 1)], ([], ([], none)))))))
theorem rk_q5a15 : RuOk SR ru_q5a15 := by
  intro τ m g hi hc ha hS
  obtain ⟨i0, i1, i2, i3, i4, i5, i6, i7, i8, i9, _⟩ := hi
  have t1199 : τ 1199 = some (g 0) := i0
  have t1102 : τ 1102 = some (g 1) := i1
  have t1122 : τ 1122 = some (g 2) := i2
  have t1123 : τ 1123 = some (g 3) := i3
  have t1124 : τ 1124 = some (g 4) := i4
  have t1140 : τ 1140 = some (g 5) := i5
  have t1141 : τ 1141 = some (g 6) := i6
  have t1142 : τ 1142 = some (g 7) := i7
  have t1143 : τ 1143 = some (g 8) := i8
  have t1144 : τ 1144 = some (g 9) := i9
  obtain ⟨c0, c1, c2, c3, c4, _⟩ := hc
  have c0 : 1 * g 9 ≤ 15 := d1 c0
  have c1 : (-1) * g 9 ≤ (-15) := d1 c1
  have c2 : (-1) * g 2 + 1 * g 6 ≤ 0 := d2 c2
  have c3 : 1 * g 2 + (-1) * g 6 ≤ 0 := d2 c3
  have c4 : 1 * g 4 ≤ 31 := d1 c4
  obtain ⟨h0, k_tok, k_sc1, k_sc2, k_T, k_I, k_F, k_N, k_Y, k_Z, k_A, k_B, k_C, k_X, k_R, k_f4⟩ := hS (by rw [t1199]; exact fun e => by cases e)
  have k_tok0 := k_tok
  obtain ⟨h_L, h_n, h_nF⟩ := k_tok0
  have k_I0 := k_I
  obtain ⟨h_p, h_pc, h_ip, h_iP, h_PC, h_PN⟩ := k_I0
  have k_B0 := k_B
  obtain ⟨h_B0, h_B, h_Bd0, h_B26, h_B22, h_Bs⟩ := k_B0
  obtain ⟨hn0, _, hNT⟩ := h_nF _ t1102
  have hB := h_B _ _ _ _ _ _ t1102 t1140 t1141 t1142 t1143 t1144
  have rB := hB.1
  obtain ⟨⟨hi0, hi1⟩, hpi⟩ := h_ip _ _ _ t1102 t1122 t1123
  have eb : (g 2).toNat = (g 6).toNat := by omega
  rw [eb] at hpi
  have ep : (g 3).toNat = Tp9 (tx9 m) (g 6).toNat := by omega
  have hcc := h_pc _ _ t1123 t1124
  rw [ep] at hcc
  obtain ⟨y1, y2⟩ := RI_f hNT hB 15 (by omega) (j := (g 6).toNat) (by omega) (q_5n (C := CH9 (tx9 m)) (w := wl9 m) (Or.inl rfl) (by omega))
  exact ⟨rfl, ⟨f2 (by omega), f2 (by omega), f1 (by omega), f1 (by omega), trivial⟩, trivial, fun _ => ⟨h0, k_tok, k_sc1, k_sc2, k_T, k_I, k_F, k_N, k_Y, k_Z, k_A, k_B, k_C, k_X, k_R, k_f4⟩⟩
noncomputable def ru_q5b15 : Ru := ([(0, (1199, (0, (0, 0)))), (0, (1102, (0, (0, 0)))), (0, (1122, (0, (0, 0)))), (0, (1123, (0, (0, 0)))), (0, (1124, (0, (0, 0)))), (0, (1140, (0, (0, 0)))), (0, (1141, (0, (0, 0)))), (0, (1142, (0, (0, 0)))), (0, (1143, (0, (0, 0)))), (0, (1144, (0, (0, 0))))], ([], ([([(9, 1)], 15), ([(9, (-1))], (-15)), ([(2, (-1)), (6, 1)], 0), ([(2, 1), (6, (-1))], 0), ([(4, (-1))], (-33))], (false, ([([(6, (-1)), (7, 1)], 0), ([(6, 1), (7, (-1))], 0), ([(8, 1)], (-1)), ([(8, (-1))], 1)], ([], ([], none)))))))
theorem rk_q5b15 : RuOk SR ru_q5b15 := by
  intro τ m g hi hc ha hS
  obtain ⟨i0, i1, i2, i3, i4, i5, i6, i7, i8, i9, _⟩ := hi
  have t1199 : τ 1199 = some (g 0) := i0
  have t1102 : τ 1102 = some (g 1) := i1
  have t1122 : τ 1122 = some (g 2) := i2
  have t1123 : τ 1123 = some (g 3) := i3
  have t1124 : τ 1124 = some (g 4) := i4
  have t1140 : τ 1140 = some (g 5) := i5
  have t1141 : τ 1141 = some (g 6) := i6
  have t1142 : τ 1142 = some (g 7) := i7
  have t1143 : τ 1143 = some (g 8) := i8
  have t1144 : τ 1144 = some (g 9) := i9
  obtain ⟨c0, c1, c2, c3, c4, _⟩ := hc
  have c0 : 1 * g 9 ≤ 15 := d1 c0
  have c1 : (-1) * g 9 ≤ (-15) := d1 c1
  have c2 : (-1) * g 2 + 1 * g 6 ≤ 0 := d2 c2
  have c3 : 1 * g 2 + (-1) * g 6 ≤ 0 := d2 c3
  have c4 : (-1) * g 4 ≤ (-33) := d1 c4
  obtain ⟨h0, k_tok, k_sc1, k_sc2, k_T, k_I, k_F, k_N, k_Y, k_Z, k_A, k_B, k_C, k_X, k_R, k_f4⟩ := hS (by rw [t1199]; exact fun e => by cases e)
  have k_tok0 := k_tok
  obtain ⟨h_L, h_n, h_nF⟩ := k_tok0
  have k_I0 := k_I
  obtain ⟨h_p, h_pc, h_ip, h_iP, h_PC, h_PN⟩ := k_I0
  have k_B0 := k_B
  obtain ⟨h_B0, h_B, h_Bd0, h_B26, h_B22, h_Bs⟩ := k_B0
  obtain ⟨hn0, _, hNT⟩ := h_nF _ t1102
  have hB := h_B _ _ _ _ _ _ t1102 t1140 t1141 t1142 t1143 t1144
  have rB := hB.1
  obtain ⟨⟨hi0, hi1⟩, hpi⟩ := h_ip _ _ _ t1102 t1122 t1123
  have eb : (g 2).toNat = (g 6).toNat := by omega
  rw [eb] at hpi
  have ep : (g 3).toNat = Tp9 (tx9 m) (g 6).toNat := by omega
  have hcc := h_pc _ _ t1123 t1124
  rw [ep] at hcc
  obtain ⟨y1, y2⟩ := RI_f hNT hB 15 (by omega) (j := (g 6).toNat) (by omega) (q_5n (C := CH9 (tx9 m)) (w := wl9 m) (Or.inl rfl) (by omega))
  exact ⟨rfl, ⟨f2 (by omega), f2 (by omega), f1 (by omega), f1 (by omega), trivial⟩, trivial, fun _ => ⟨h0, k_tok, k_sc1, k_sc2, k_T, k_I, k_F, k_N, k_Y, k_Z, k_A, k_B, k_C, k_X, k_R, k_f4⟩⟩
noncomputable def ru_q5c15 : Ru := ([(0, (1199, (0, (0, 0)))), (0, (1102, (0, (0, 0)))), (0, (1122, (0, (0, 0)))), (0, (1123, (0, (0, 0)))), (0, (1124, (0, (0, 0)))), (0, (1140, (0, (0, 0)))), (0, (1141, (0, (0, 0)))), (0, (1142, (0, (0, 0)))), (0, (1143, (0, (0, 0)))), (0, (1144, (0, (0, 0)))), (4, (0, (0, (19, 0))))], ([], ([([(9, 1)], 15), ([(9, (-1))], (-15)), ([(2, (-1)), (6, 1)], 0), ([(2, 1), (6, (-1))], 0), ([(4, (-1))], (-32)), ([(4, 1)], 32)], (false, ([], ([], ([(1144, some (10, 0)), (1141, some (6, 1))], none)))))))
theorem rk_q5c15 : RuOk SR ru_q5c15 := by
  intro τ m g hi hc ha hS
  obtain ⟨i0, i1, i2, i3, i4, i5, i6, i7, i8, i9, i10, _⟩ := hi
  have t1199 : τ 1199 = some (g 0) := i0
  have t1102 : τ 1102 = some (g 1) := i1
  have t1122 : τ 1122 = some (g 2) := i2
  have t1123 : τ 1123 = some (g 3) := i3
  have t1124 : τ 1124 = some (g 4) := i4
  have t1140 : τ 1140 = some (g 5) := i5
  have t1141 : τ 1141 = some (g 6) := i6
  have t1142 : τ 1142 = some (g 7) := i7
  have t1143 : τ 1143 = some (g 8) := i8
  have t1144 : τ 1144 = some (g 9) := i9
  have xm1 : g 10 = 19 := i10
  obtain ⟨c0, c1, c2, c3, c4, c5, _⟩ := hc
  have c0 : 1 * g 9 ≤ 15 := d1 c0
  have c1 : (-1) * g 9 ≤ (-15) := d1 c1
  have c2 : (-1) * g 2 + 1 * g 6 ≤ 0 := d2 c2
  have c3 : 1 * g 2 + (-1) * g 6 ≤ 0 := d2 c3
  have c4 : (-1) * g 4 ≤ (-32) := d1 c4
  have c5 : 1 * g 4 ≤ 32 := d1 c5
  obtain ⟨h0, k_tok, k_sc1, k_sc2, k_T, k_I, k_F, k_N, k_Y, k_Z, k_A, k_B, k_C, k_X, k_R, k_f4⟩ := hS (by rw [t1199]; exact fun e => by cases e)
  have k_tok0 := k_tok
  obtain ⟨h_L, h_n, h_nF⟩ := k_tok0
  have k_I0 := k_I
  obtain ⟨h_p, h_pc, h_ip, h_iP, h_PC, h_PN⟩ := k_I0
  have k_B0 := k_B
  obtain ⟨h_B0, h_B, h_Bd0, h_B26, h_B22, h_Bs⟩ := k_B0
  obtain ⟨hn0, _, hNT⟩ := h_nF _ t1102
  have hB := h_B _ _ _ _ _ _ t1102 t1140 t1141 t1142 t1143 t1144
  have rB := hB.1
  obtain ⟨⟨hi0, hi1⟩, hpi⟩ := h_ip _ _ _ t1102 t1122 t1123
  have eb : (g 2).toNat = (g 6).toNat := by omega
  rw [eb] at hpi
  have ep : (g 3).toNat = Tp9 (tx9 m) (g 6).toNat := by omega
  have hcc := h_pc _ _ t1123 t1124
  rw [ep] at hcc
  have hx1 := NT_next hNT (i := (g 6).toNat) (by omega) (by omega)
  exact ⟨rfl, trivial, trivial, fun _ => ⟨h0, k_tok, k_sc1, k_sc2, k_T, k_I, k_F, k_N, k_Y, k_Z, k_A, ⟨fun nF Bd Bi Br Bm e0 e1 e2 e3 e4 => by
      have e0 : g 1 = nF := Option.some.inj (t1102.symm.trans e0)
      subst e0
      have e1 : g 5 = Bd := Option.some.inj (t1140.symm.trans e1)
      subst e1
      have e2 : g 6 + 1 = Bi := Option.some.inj e2
      subst e2
      have e3 : g 7 = Br := Option.some.inj (t1142.symm.trans e3)
      subst e3
      have e4 : g 10 + 0 = Bm := Option.some.inj e4
      subst e4
      exact ⟨_, RI_u hB 15 19 (by omega) (by omega) rfl (by omega) ⟨by omega, by omega⟩ (fun r h => by
              rw [St_n (by omega)] at h
              exact q_5c (C := CH9 (tx9 m)) (w := wl9 m) (Or.inl rfl) (by omega) h)⟩, fun nF Bd Bi Br Bx Bm e0 e1 e2 e3 e4 e5 => by
      have e0 : g 1 = nF := Option.some.inj (t1102.symm.trans e0)
      subst e0
      have e1 : g 5 = Bd := Option.some.inj (t1140.symm.trans e1)
      subst e1
      have e2 : g 6 + 1 = Bi := Option.some.inj e2
      subst e2
      have e3 : g 7 = Br := Option.some.inj (t1142.symm.trans e3)
      subst e3
      have e4 : g 8 = Bx := Option.some.inj (t1143.symm.trans e4)
      subst e4
      have e5 : g 10 + 0 = Bm := Option.some.inj e5
      subst e5
      exact RI_u hB 15 19 (by omega) (by omega) rfl (by omega) ⟨by omega, by omega⟩ (fun r h => by
              rw [St_n (by omega)] at h
              exact q_5c (C := CH9 (tx9 m)) (w := wl9 m) (Or.inl rfl) (by omega) h), h_Bd0, fun Bd Bi Bm e0 e1 e2 => by
      have e0 : g 5 = Bd := Option.some.inj (t1140.symm.trans e0)
      subst e0
      have e1 : g 6 + 1 = Bi := Option.some.inj e1
      subst e1
      have e2 : g 10 + 0 = Bm := Option.some.inj e2
      subst e2
      intro h
      omega, fun Bd Bi Bm Bf e0 e1 e2 e3 => by
      have e0 : g 5 = Bd := Option.some.inj (t1140.symm.trans e0)
      subst e0
      have e1 : g 6 + 1 = Bi := Option.some.inj e1
      subst e1
      have e2 : g 10 + 0 = Bm := Option.some.inj e2
      subst e2
      intro h
      omega, h_Bs⟩, k_C, k_X, k_R, k_f4⟩⟩
noncomputable def ru_q5a18 : Ru := ([(0, (1199, (0, (0, 0)))), (0, (1102, (0, (0, 0)))), (0, (1122, (0, (0, 0)))), (0, (1123, (0, (0, 0)))), (0, (1124, (0, (0, 0)))), (0, (1140, (0, (0, 0)))), (0, (1141, (0, (0, 0)))), (0, (1142, (0, (0, 0)))), (0, (1143, (0, (0, 0)))), (0, (1144, (0, (0, 0))))], ([], ([([(9, 1)], 18), ([(9, (-1))], (-18)), ([(2, (-1)), (6, 1)], 0), ([(2, 1), (6, (-1))], 0), ([(4, 1)], 31)], (false, ([([(6, (-1)), (7, 1)], 0), ([(6, 1), (7, (-1))], 0), ([(8, 1)], (-1)), ([(8, (-1))], 1)], ([], ([], none)))))))
theorem rk_q5a18 : RuOk SR ru_q5a18 := by
  intro τ m g hi hc ha hS
  obtain ⟨i0, i1, i2, i3, i4, i5, i6, i7, i8, i9, _⟩ := hi
  have t1199 : τ 1199 = some (g 0) := i0
  have t1102 : τ 1102 = some (g 1) := i1
  have t1122 : τ 1122 = some (g 2) := i2
  have t1123 : τ 1123 = some (g 3) := i3
  have t1124 : τ 1124 = some (g 4) := i4
  have t1140 : τ 1140 = some (g 5) := i5
  have t1141 : τ 1141 = some (g 6) := i6
  have t1142 : τ 1142 = some (g 7) := i7
  have t1143 : τ 1143 = some (g 8) := i8
  have t1144 : τ 1144 = some (g 9) := i9
  obtain ⟨c0, c1, c2, c3, c4, _⟩ := hc
  have c0 : 1 * g 9 ≤ 18 := d1 c0
  have c1 : (-1) * g 9 ≤ (-18) := d1 c1
  have c2 : (-1) * g 2 + 1 * g 6 ≤ 0 := d2 c2
  have c3 : 1 * g 2 + (-1) * g 6 ≤ 0 := d2 c3
  have c4 : 1 * g 4 ≤ 31 := d1 c4
  obtain ⟨h0, k_tok, k_sc1, k_sc2, k_T, k_I, k_F, k_N, k_Y, k_Z, k_A, k_B, k_C, k_X, k_R, k_f4⟩ := hS (by rw [t1199]; exact fun e => by cases e)
  have k_tok0 := k_tok
  obtain ⟨h_L, h_n, h_nF⟩ := k_tok0
  have k_I0 := k_I
  obtain ⟨h_p, h_pc, h_ip, h_iP, h_PC, h_PN⟩ := k_I0
  have k_B0 := k_B
  obtain ⟨h_B0, h_B, h_Bd0, h_B26, h_B22, h_Bs⟩ := k_B0
  obtain ⟨hn0, _, hNT⟩ := h_nF _ t1102
  have hB := h_B _ _ _ _ _ _ t1102 t1140 t1141 t1142 t1143 t1144
  have rB := hB.1
  obtain ⟨⟨hi0, hi1⟩, hpi⟩ := h_ip _ _ _ t1102 t1122 t1123
  have eb : (g 2).toNat = (g 6).toNat := by omega
  rw [eb] at hpi
  have ep : (g 3).toNat = Tp9 (tx9 m) (g 6).toNat := by omega
  have hcc := h_pc _ _ t1123 t1124
  rw [ep] at hcc
  obtain ⟨y1, y2⟩ := RI_f hNT hB 18 (by omega) (j := (g 6).toNat) (by omega) (q_5n (C := CH9 (tx9 m)) (w := wl9 m) (Or.inr rfl) (by omega))
  exact ⟨rfl, ⟨f2 (by omega), f2 (by omega), f1 (by omega), f1 (by omega), trivial⟩, trivial, fun _ => ⟨h0, k_tok, k_sc1, k_sc2, k_T, k_I, k_F, k_N, k_Y, k_Z, k_A, k_B, k_C, k_X, k_R, k_f4⟩⟩
noncomputable def ru_q5b18 : Ru := ([(0, (1199, (0, (0, 0)))), (0, (1102, (0, (0, 0)))), (0, (1122, (0, (0, 0)))), (0, (1123, (0, (0, 0)))), (0, (1124, (0, (0, 0)))), (0, (1140, (0, (0, 0)))), (0, (1141, (0, (0, 0)))), (0, (1142, (0, (0, 0)))), (0, (1143, (0, (0, 0)))), (0, (1144, (0, (0, 0))))], ([], ([([(9, 1)], 18), ([(9, (-1))], (-18)), ([(2, (-1)), (6, 1)], 0), ([(2, 1), (6, (-1))], 0), ([(4, (-1))], (-33))], (false, ([([(6, (-1)), (7, 1)], 0), ([(6, 1), (7, (-1))], 0), ([(8, 1)], (-1)), ([(8, (-1))], 1)], ([], ([], none)))))))
theorem rk_q5b18 : RuOk SR ru_q5b18 := by
  intro τ m g hi hc ha hS
  obtain ⟨i0, i1, i2, i3, i4, i5, i6, i7, i8, i9, _⟩ := hi
  have t1199 : τ 1199 = some (g 0) := i0
  have t1102 : τ 1102 = some (g 1) := i1
  have t1122 : τ 1122 = some (g 2) := i2
  have t1123 : τ 1123 = some (g 3) := i3
  have t1124 : τ 1124 = some (g 4) := i4
  have t1140 : τ 1140 = some (g 5) := i5
  have t1141 : τ 1141 = some (g 6) := i6
  have t1142 : τ 1142 = some (g 7) := i7
  have t1143 : τ 1143 = some (g 8) := i8
  have t1144 : τ 1144 = some (g 9) := i9
  obtain ⟨c0, c1, c2, c3, c4, _⟩ := hc
  have c0 : 1 * g 9 ≤ 18 := d1 c0
  have c1 : (-1) * g 9 ≤ (-18) := d1 c1
  have c2 : (-1) * g 2 + 1 * g 6 ≤ 0 := d2 c2
  have c3 : 1 * g 2 + (-1) * g 6 ≤ 0 := d2 c3
  have c4 : (-1) * g 4 ≤ (-33) := d1 c4
  obtain ⟨h0, k_tok, k_sc1, k_sc2, k_T, k_I, k_F, k_N, k_Y, k_Z, k_A, k_B, k_C, k_X, k_R, k_f4⟩ := hS (by rw [t1199]; exact fun e => by cases e)
  have k_tok0 := k_tok
  obtain ⟨h_L, h_n, h_nF⟩ := k_tok0
  have k_I0 := k_I
  obtain ⟨h_p, h_pc, h_ip, h_iP, h_PC, h_PN⟩ := k_I0
  have k_B0 := k_B
  obtain ⟨h_B0, h_B, h_Bd0, h_B26, h_B22, h_Bs⟩ := k_B0
  obtain ⟨hn0, _, hNT⟩ := h_nF _ t1102
  have hB := h_B _ _ _ _ _ _ t1102 t1140 t1141 t1142 t1143 t1144
  have rB := hB.1
  obtain ⟨⟨hi0, hi1⟩, hpi⟩ := h_ip _ _ _ t1102 t1122 t1123
  have eb : (g 2).toNat = (g 6).toNat := by omega
  rw [eb] at hpi
  have ep : (g 3).toNat = Tp9 (tx9 m) (g 6).toNat := by omega
  have hcc := h_pc _ _ t1123 t1124
  rw [ep] at hcc
  obtain ⟨y1, y2⟩ := RI_f hNT hB 18 (by omega) (j := (g 6).toNat) (by omega) (q_5n (C := CH9 (tx9 m)) (w := wl9 m) (Or.inr rfl) (by omega))
  exact ⟨rfl, ⟨f2 (by omega), f2 (by omega), f1 (by omega), f1 (by omega), trivial⟩, trivial, fun _ => ⟨h0, k_tok, k_sc1, k_sc2, k_T, k_I, k_F, k_N, k_Y, k_Z, k_A, k_B, k_C, k_X, k_R, k_f4⟩⟩
noncomputable def ru_q5c18 : Ru := ([(0, (1199, (0, (0, 0)))), (0, (1102, (0, (0, 0)))), (0, (1122, (0, (0, 0)))), (0, (1123, (0, (0, 0)))), (0, (1124, (0, (0, 0)))), (0, (1140, (0, (0, 0)))), (0, (1141, (0, (0, 0)))), (0, (1142, (0, (0, 0)))), (0, (1143, (0, (0, 0)))), (0, (1144, (0, (0, 0)))), (4, (0, (0, (19, 0))))], ([], ([([(9, 1)], 18), ([(9, (-1))], (-18)), ([(2, (-1)), (6, 1)], 0), ([(2, 1), (6, (-1))], 0), ([(4, (-1))], (-32)), ([(4, 1)], 32)], (false, ([], ([], ([(1144, some (10, 0)), (1141, some (6, 1))], none)))))))
theorem rk_q5c18 : RuOk SR ru_q5c18 := by
  intro τ m g hi hc ha hS
  obtain ⟨i0, i1, i2, i3, i4, i5, i6, i7, i8, i9, i10, _⟩ := hi
  have t1199 : τ 1199 = some (g 0) := i0
  have t1102 : τ 1102 = some (g 1) := i1
  have t1122 : τ 1122 = some (g 2) := i2
  have t1123 : τ 1123 = some (g 3) := i3
  have t1124 : τ 1124 = some (g 4) := i4
  have t1140 : τ 1140 = some (g 5) := i5
  have t1141 : τ 1141 = some (g 6) := i6
  have t1142 : τ 1142 = some (g 7) := i7
  have t1143 : τ 1143 = some (g 8) := i8
  have t1144 : τ 1144 = some (g 9) := i9
  have xm1 : g 10 = 19 := i10
  obtain ⟨c0, c1, c2, c3, c4, c5, _⟩ := hc
  have c0 : 1 * g 9 ≤ 18 := d1 c0
  have c1 : (-1) * g 9 ≤ (-18) := d1 c1
  have c2 : (-1) * g 2 + 1 * g 6 ≤ 0 := d2 c2
  have c3 : 1 * g 2 + (-1) * g 6 ≤ 0 := d2 c3
  have c4 : (-1) * g 4 ≤ (-32) := d1 c4
  have c5 : 1 * g 4 ≤ 32 := d1 c5
  obtain ⟨h0, k_tok, k_sc1, k_sc2, k_T, k_I, k_F, k_N, k_Y, k_Z, k_A, k_B, k_C, k_X, k_R, k_f4⟩ := hS (by rw [t1199]; exact fun e => by cases e)
  have k_tok0 := k_tok
  obtain ⟨h_L, h_n, h_nF⟩ := k_tok0
  have k_I0 := k_I
  obtain ⟨h_p, h_pc, h_ip, h_iP, h_PC, h_PN⟩ := k_I0
  have k_B0 := k_B
  obtain ⟨h_B0, h_B, h_Bd0, h_B26, h_B22, h_Bs⟩ := k_B0
  obtain ⟨hn0, _, hNT⟩ := h_nF _ t1102
  have hB := h_B _ _ _ _ _ _ t1102 t1140 t1141 t1142 t1143 t1144
  have rB := hB.1
  obtain ⟨⟨hi0, hi1⟩, hpi⟩ := h_ip _ _ _ t1102 t1122 t1123
  have eb : (g 2).toNat = (g 6).toNat := by omega
  rw [eb] at hpi
  have ep : (g 3).toNat = Tp9 (tx9 m) (g 6).toNat := by omega
  have hcc := h_pc _ _ t1123 t1124
  rw [ep] at hcc
  have hx1 := NT_next hNT (i := (g 6).toNat) (by omega) (by omega)
  exact ⟨rfl, trivial, trivial, fun _ => ⟨h0, k_tok, k_sc1, k_sc2, k_T, k_I, k_F, k_N, k_Y, k_Z, k_A, ⟨fun nF Bd Bi Br Bm e0 e1 e2 e3 e4 => by
      have e0 : g 1 = nF := Option.some.inj (t1102.symm.trans e0)
      subst e0
      have e1 : g 5 = Bd := Option.some.inj (t1140.symm.trans e1)
      subst e1
      have e2 : g 6 + 1 = Bi := Option.some.inj e2
      subst e2
      have e3 : g 7 = Br := Option.some.inj (t1142.symm.trans e3)
      subst e3
      have e4 : g 10 + 0 = Bm := Option.some.inj e4
      subst e4
      exact ⟨_, RI_u hB 18 19 (by omega) (by omega) rfl (by omega) ⟨by omega, by omega⟩ (fun r h => by
              rw [St_n (by omega)] at h
              exact q_5c (C := CH9 (tx9 m)) (w := wl9 m) (Or.inr rfl) (by omega) h)⟩, fun nF Bd Bi Br Bx Bm e0 e1 e2 e3 e4 e5 => by
      have e0 : g 1 = nF := Option.some.inj (t1102.symm.trans e0)
      subst e0
      have e1 : g 5 = Bd := Option.some.inj (t1140.symm.trans e1)
      subst e1
      have e2 : g 6 + 1 = Bi := Option.some.inj e2
      subst e2
      have e3 : g 7 = Br := Option.some.inj (t1142.symm.trans e3)
      subst e3
      have e4 : g 8 = Bx := Option.some.inj (t1143.symm.trans e4)
      subst e4
      have e5 : g 10 + 0 = Bm := Option.some.inj e5
      subst e5
      exact RI_u hB 18 19 (by omega) (by omega) rfl (by omega) ⟨by omega, by omega⟩ (fun r h => by
              rw [St_n (by omega)] at h
              exact q_5c (C := CH9 (tx9 m)) (w := wl9 m) (Or.inr rfl) (by omega) h), h_Bd0, fun Bd Bi Bm e0 e1 e2 => by
      have e0 : g 5 = Bd := Option.some.inj (t1140.symm.trans e0)
      subst e0
      have e1 : g 6 + 1 = Bi := Option.some.inj e1
      subst e1
      have e2 : g 10 + 0 = Bm := Option.some.inj e2
      subst e2
      intro h
      omega, fun Bd Bi Bm Bf e0 e1 e2 e3 => by
      have e0 : g 5 = Bd := Option.some.inj (t1140.symm.trans e0)
      subst e0
      have e1 : g 6 + 1 = Bi := Option.some.inj e1
      subst e1
      have e2 : g 10 + 0 = Bm := Option.some.inj e2
      subst e2
      intro h
      omega, h_Bs⟩, k_C, k_X, k_R, k_f4⟩⟩
noncomputable def ru_q9a : Ru := ([(0, (1199, (0, (0, 0)))), (0, (1102, (0, (0, 0)))), (0, (1122, (0, (0, 0)))), (0, (1123, (0, (0, 0)))), (0, (1140, (0, (0, 0)))), (0, (1141, (0, (0, 0)))), (0, (1142, (0, (0, 0)))), (0, (1143, (0, (0, 0)))), (0, (1144, (0, (0, 0)))), (9, (24, (2, (1, 0))))], ([], ([([(8, 1)], 19), ([(8, (-1))], (-19)), ([(2, (-1)), (5, 1)], 0), ([(2, 1), (5, (-1))], 0), ([(9, 1)], 1)], (false, ([([(3, (-1)), (7, 1)], 0), ([(3, 1), (7, (-1))], 0), ([(6, 1)], (-1)), ([(6, (-1))], 1)], ([], ([], none)))))))
theorem rk_q9a : RuOk SR ru_q9a := by
  intro τ m g hi hc ha hS
  obtain ⟨i0, i1, i2, i3, i4, i5, i6, i7, i8, i9, _⟩ := hi
  have t1199 : τ 1199 = some (g 0) := i0
  have t1102 : τ 1102 = some (g 1) := i1
  have t1122 : τ 1122 = some (g 2) := i2
  have t1123 : τ 1123 = some (g 3) := i3
  have t1140 : τ 1140 = some (g 4) := i4
  have t1141 : τ 1141 = some (g 5) := i5
  have t1142 : τ 1142 = some (g 6) := i6
  have t1143 : τ 1143 = some (g 7) := i7
  have t1144 : τ 1144 = some (g 8) := i8
  obtain ⟨jk, uk, vk⟩ : ∃ j : Nat, 1 * g 2 + 0 = (j : Int) ∧ g 9 = m 24 j := i9
  obtain ⟨c0, c1, c2, c3, c4, _⟩ := hc
  have c0 : 1 * g 8 ≤ 19 := d1 c0
  have c1 : (-1) * g 8 ≤ (-19) := d1 c1
  have c2 : (-1) * g 2 + 1 * g 5 ≤ 0 := d2 c2
  have c3 : 1 * g 2 + (-1) * g 5 ≤ 0 := d2 c3
  have c4 : 1 * g 9 ≤ 1 := d1 c4
  obtain ⟨h0, k_tok, k_sc1, k_sc2, k_T, k_I, k_F, k_N, k_Y, k_Z, k_A, k_B, k_C, k_X, k_R, k_f4⟩ := hS (by rw [t1199]; exact fun e => by cases e)
  have k_tok0 := k_tok
  obtain ⟨h_L, h_n, h_nF⟩ := k_tok0
  have k_I0 := k_I
  obtain ⟨h_p, h_pc, h_ip, h_iP, h_PC, h_PN⟩ := k_I0
  have k_B0 := k_B
  obtain ⟨h_B0, h_B, h_Bd0, h_B26, h_B22, h_Bs⟩ := k_B0
  obtain ⟨hn0, _, hNT⟩ := h_nF _ t1102
  have hB := h_B _ _ _ _ _ _ t1102 t1140 t1141 t1142 t1143 t1144
  have rB := hB.1
  obtain ⟨⟨hi0, hi1⟩, hpi⟩ := h_ip _ _ _ t1102 t1122 t1123
  have eb : (g 2).toNat = (g 5).toNat := by omega
  rw [eb] at hpi
  have ep : (g 3).toNat = Tp9 (tx9 m) (g 5).toNat := by omega
  have hT := (h_nF _ t1102).2.1.1 (g 5).toNat (by omega)
  have ejk : jk = (g 5).toNat := by omega
  rw [ejk] at vk
  have hk := hT.1.2
  obtain ⟨y1, y2⟩ := RI_b hB 19 (by omega) (q_9x (w := wl9 m) (C := CH9 (tx9 m)) (Or.inl (by omega)))
  exact ⟨rfl, ⟨f2 (by omega), f2 (by omega), f1 (by omega), f1 (by omega), trivial⟩, trivial, fun _ => ⟨h0, k_tok, k_sc1, k_sc2, k_T, k_I, k_F, k_N, k_Y, k_Z, k_A, k_B, k_C, k_X, k_R, k_f4⟩⟩
noncomputable def ru_q9b : Ru := ([(0, (1199, (0, (0, 0)))), (0, (1102, (0, (0, 0)))), (0, (1122, (0, (0, 0)))), (0, (1123, (0, (0, 0)))), (0, (1140, (0, (0, 0)))), (0, (1141, (0, (0, 0)))), (0, (1142, (0, (0, 0)))), (0, (1143, (0, (0, 0)))), (0, (1144, (0, (0, 0)))), (9, (24, (2, (1, 0))))], ([], ([([(8, 1)], 19), ([(8, (-1))], (-19)), ([(2, (-1)), (5, 1)], 0), ([(2, 1), (5, (-1))], 0), ([(9, (-1))], (-3))], (false, ([([(3, (-1)), (7, 1)], 0), ([(3, 1), (7, (-1))], 0), ([(6, 1)], (-1)), ([(6, (-1))], 1)], ([], ([], none)))))))
theorem rk_q9b : RuOk SR ru_q9b := by
  intro τ m g hi hc ha hS
  obtain ⟨i0, i1, i2, i3, i4, i5, i6, i7, i8, i9, _⟩ := hi
  have t1199 : τ 1199 = some (g 0) := i0
  have t1102 : τ 1102 = some (g 1) := i1
  have t1122 : τ 1122 = some (g 2) := i2
  have t1123 : τ 1123 = some (g 3) := i3
  have t1140 : τ 1140 = some (g 4) := i4
  have t1141 : τ 1141 = some (g 5) := i5
  have t1142 : τ 1142 = some (g 6) := i6
  have t1143 : τ 1143 = some (g 7) := i7
  have t1144 : τ 1144 = some (g 8) := i8
  obtain ⟨jk, uk, vk⟩ : ∃ j : Nat, 1 * g 2 + 0 = (j : Int) ∧ g 9 = m 24 j := i9
  obtain ⟨c0, c1, c2, c3, c4, _⟩ := hc
  have c0 : 1 * g 8 ≤ 19 := d1 c0
  have c1 : (-1) * g 8 ≤ (-19) := d1 c1
  have c2 : (-1) * g 2 + 1 * g 5 ≤ 0 := d2 c2
  have c3 : 1 * g 2 + (-1) * g 5 ≤ 0 := d2 c3
  have c4 : (-1) * g 9 ≤ (-3) := d1 c4
  obtain ⟨h0, k_tok, k_sc1, k_sc2, k_T, k_I, k_F, k_N, k_Y, k_Z, k_A, k_B, k_C, k_X, k_R, k_f4⟩ := hS (by rw [t1199]; exact fun e => by cases e)
  have k_tok0 := k_tok
  obtain ⟨h_L, h_n, h_nF⟩ := k_tok0
  have k_I0 := k_I
  obtain ⟨h_p, h_pc, h_ip, h_iP, h_PC, h_PN⟩ := k_I0
  have k_B0 := k_B
  obtain ⟨h_B0, h_B, h_Bd0, h_B26, h_B22, h_Bs⟩ := k_B0
  obtain ⟨hn0, _, hNT⟩ := h_nF _ t1102
  have hB := h_B _ _ _ _ _ _ t1102 t1140 t1141 t1142 t1143 t1144
  have rB := hB.1
  obtain ⟨⟨hi0, hi1⟩, hpi⟩ := h_ip _ _ _ t1102 t1122 t1123
  have eb : (g 2).toNat = (g 5).toNat := by omega
  rw [eb] at hpi
  have ep : (g 3).toNat = Tp9 (tx9 m) (g 5).toNat := by omega
  have hT := (h_nF _ t1102).2.1.1 (g 5).toNat (by omega)
  have ejk : jk = (g 5).toNat := by omega
  rw [ejk] at vk
  have hk := hT.1.2
  obtain ⟨y1, y2⟩ := RI_b hB 19 (by omega) (q_9x (w := wl9 m) (C := CH9 (tx9 m)) (Or.inl (by omega)))
  exact ⟨rfl, ⟨f2 (by omega), f2 (by omega), f1 (by omega), f1 (by omega), trivial⟩, trivial, fun _ => ⟨h0, k_tok, k_sc1, k_sc2, k_T, k_I, k_F, k_N, k_Y, k_Z, k_A, k_B, k_C, k_X, k_R, k_f4⟩⟩
noncomputable def ru_q9c : Ru := ([(0, (1199, (0, (0, 0)))), (0, (1102, (0, (0, 0)))), (0, (1122, (0, (0, 0)))), (0, (1123, (0, (0, 0)))), (0, (1140, (0, (0, 0)))), (0, (1141, (0, (0, 0)))), (0, (1142, (0, (0, 0)))), (0, (1143, (0, (0, 0)))), (0, (1144, (0, (0, 0)))), (9, (24, (2, (1, 0)))), (9, (26, (2, (1, 0))))], ([], ([([(8, 1)], 19), ([(8, (-1))], (-19)), ([(2, (-1)), (5, 1)], 0), ([(2, 1), (5, (-1))], 0), ([(9, 1)], 2), ([(9, (-1))], (-2)), ([(10, 1)], 0)], (false, ([([(3, (-1)), (7, 1)], 0), ([(3, 1), (7, (-1))], 0), ([(6, 1)], (-1)), ([(6, (-1))], 1)], ([], ([], none)))))))
theorem rk_q9c : RuOk SR ru_q9c := by
  intro τ m g hi hc ha hS
  obtain ⟨i0, i1, i2, i3, i4, i5, i6, i7, i8, i9, i10, _⟩ := hi
  have t1199 : τ 1199 = some (g 0) := i0
  have t1102 : τ 1102 = some (g 1) := i1
  have t1122 : τ 1122 = some (g 2) := i2
  have t1123 : τ 1123 = some (g 3) := i3
  have t1140 : τ 1140 = some (g 4) := i4
  have t1141 : τ 1141 = some (g 5) := i5
  have t1142 : τ 1142 = some (g 6) := i6
  have t1143 : τ 1143 = some (g 7) := i7
  have t1144 : τ 1144 = some (g 8) := i8
  obtain ⟨jk, uk, vk⟩ : ∃ j : Nat, 1 * g 2 + 0 = (j : Int) ∧ g 9 = m 24 j := i9
  obtain ⟨jv, uv, vv⟩ : ∃ j : Nat, 1 * g 2 + 0 = (j : Int) ∧ g 10 = m 26 j := i10
  obtain ⟨c0, c1, c2, c3, c4, c5, c6, _⟩ := hc
  have c0 : 1 * g 8 ≤ 19 := d1 c0
  have c1 : (-1) * g 8 ≤ (-19) := d1 c1
  have c2 : (-1) * g 2 + 1 * g 5 ≤ 0 := d2 c2
  have c3 : 1 * g 2 + (-1) * g 5 ≤ 0 := d2 c3
  have c4 : 1 * g 9 ≤ 2 := d1 c4
  have c5 : (-1) * g 9 ≤ (-2) := d1 c5
  have c6 : 1 * g 10 ≤ 0 := d1 c6
  obtain ⟨h0, k_tok, k_sc1, k_sc2, k_T, k_I, k_F, k_N, k_Y, k_Z, k_A, k_B, k_C, k_X, k_R, k_f4⟩ := hS (by rw [t1199]; exact fun e => by cases e)
  have k_tok0 := k_tok
  obtain ⟨h_L, h_n, h_nF⟩ := k_tok0
  have k_I0 := k_I
  obtain ⟨h_p, h_pc, h_ip, h_iP, h_PC, h_PN⟩ := k_I0
  have k_B0 := k_B
  obtain ⟨h_B0, h_B, h_Bd0, h_B26, h_B22, h_Bs⟩ := k_B0
  obtain ⟨hn0, _, hNT⟩ := h_nF _ t1102
  have hB := h_B _ _ _ _ _ _ t1102 t1140 t1141 t1142 t1143 t1144
  have rB := hB.1
  obtain ⟨⟨hi0, hi1⟩, hpi⟩ := h_ip _ _ _ t1102 t1122 t1123
  have eb : (g 2).toNat = (g 5).toNat := by omega
  rw [eb] at hpi
  have ep : (g 3).toNat = Tp9 (tx9 m) (g 5).toNat := by omega
  have hT := (h_nF _ t1102).2.1.1 (g 5).toNat (by omega)
  have ejk : jk = (g 5).toNat := by omega
  rw [ejk] at vk
  have hk := hT.1.2
  have ejv : jv = (g 5).toNat := by omega
  rw [ejv] at vv
  have hvv := hT.2.2.1 (by omega)
  obtain ⟨y1, y2⟩ := RI_b hB 19 (by omega) (q_9x (w := wl9 m) (C := CH9 (tx9 m)) (Or.inr (by omega)))
  exact ⟨rfl, ⟨f2 (by omega), f2 (by omega), f1 (by omega), f1 (by omega), trivial⟩, trivial, fun _ => ⟨h0, k_tok, k_sc1, k_sc2, k_T, k_I, k_F, k_N, k_Y, k_Z, k_A, k_B, k_C, k_X, k_R, k_f4⟩⟩
noncomputable def ru_q9d : Ru := ([(0, (1199, (0, (0, 0)))), (0, (1102, (0, (0, 0)))), (0, (1122, (0, (0, 0)))), (0, (1123, (0, (0, 0)))), (0, (1140, (0, (0, 0)))), (0, (1141, (0, (0, 0)))), (0, (1142, (0, (0, 0)))), (0, (1143, (0, (0, 0)))), (0, (1144, (0, (0, 0)))), (9, (24, (2, (1, 0)))), (9, (26, (2, (1, 0))))], ([], ([([(8, 1)], 19), ([(8, (-1))], (-19)), ([(2, (-1)), (5, 1)], 0), ([(2, 1), (5, (-1))], 0), ([(9, 1)], 2), ([(9, (-1))], (-2)), ([(10, (-1))], (-1))], (false, ([([(5, (-1)), (6, 1)], 1), ([(5, 1), (6, (-1))], (-1)), ([(7, 1)], (-1)), ([(7, (-1))], 1)], ([], ([], none)))))))
theorem rk_q9d : RuOk SR ru_q9d := by
  intro τ m g hi hc ha hS
  obtain ⟨i0, i1, i2, i3, i4, i5, i6, i7, i8, i9, i10, _⟩ := hi
  have t1199 : τ 1199 = some (g 0) := i0
  have t1102 : τ 1102 = some (g 1) := i1
  have t1122 : τ 1122 = some (g 2) := i2
  have t1123 : τ 1123 = some (g 3) := i3
  have t1140 : τ 1140 = some (g 4) := i4
  have t1141 : τ 1141 = some (g 5) := i5
  have t1142 : τ 1142 = some (g 6) := i6
  have t1143 : τ 1143 = some (g 7) := i7
  have t1144 : τ 1144 = some (g 8) := i8
  obtain ⟨jk, uk, vk⟩ : ∃ j : Nat, 1 * g 2 + 0 = (j : Int) ∧ g 9 = m 24 j := i9
  obtain ⟨jv, uv, vv⟩ : ∃ j : Nat, 1 * g 2 + 0 = (j : Int) ∧ g 10 = m 26 j := i10
  obtain ⟨c0, c1, c2, c3, c4, c5, c6, _⟩ := hc
  have c0 : 1 * g 8 ≤ 19 := d1 c0
  have c1 : (-1) * g 8 ≤ (-19) := d1 c1
  have c2 : (-1) * g 2 + 1 * g 5 ≤ 0 := d2 c2
  have c3 : 1 * g 2 + (-1) * g 5 ≤ 0 := d2 c3
  have c4 : 1 * g 9 ≤ 2 := d1 c4
  have c5 : (-1) * g 9 ≤ (-2) := d1 c5
  have c6 : (-1) * g 10 ≤ (-1) := d1 c6
  obtain ⟨h0, k_tok, k_sc1, k_sc2, k_T, k_I, k_F, k_N, k_Y, k_Z, k_A, k_B, k_C, k_X, k_R, k_f4⟩ := hS (by rw [t1199]; exact fun e => by cases e)
  have k_tok0 := k_tok
  obtain ⟨h_L, h_n, h_nF⟩ := k_tok0
  have k_I0 := k_I
  obtain ⟨h_p, h_pc, h_ip, h_iP, h_PC, h_PN⟩ := k_I0
  have k_B0 := k_B
  obtain ⟨h_B0, h_B, h_Bd0, h_B26, h_B22, h_Bs⟩ := k_B0
  obtain ⟨hn0, _, hNT⟩ := h_nF _ t1102
  have hB := h_B _ _ _ _ _ _ t1102 t1140 t1141 t1142 t1143 t1144
  have rB := hB.1
  obtain ⟨⟨hi0, hi1⟩, hpi⟩ := h_ip _ _ _ t1102 t1122 t1123
  have eb : (g 2).toNat = (g 5).toNat := by omega
  rw [eb] at hpi
  have ep : (g 3).toNat = Tp9 (tx9 m) (g 5).toNat := by omega
  have hT := (h_nF _ t1102).2.1.1 (g 5).toNat (by omega)
  have ejk : jk = (g 5).toNat := by omega
  rw [ejk] at vk
  have hk := hT.1.2
  have ejv : jv = (g 5).toNat := by omega
  rw [ejv] at vv
  have hvv := hT.2.2.1 (by omega)
  obtain ⟨y1, y2⟩ := RI_f hNT hB 19 (by omega) (j := (g 5).toNat + 1) (NT_next hNT (i := (g 5).toNat) (by omega) (by have := (rc_kd (X := tx9 m) (p := Tp9 (tx9 m) (g 5).toNat)).2.2.1 (by omega); omega)) (q_9o (w := wl9 m) (C := CH9 (tx9 m)) (by omega) (by omega))
  exact ⟨rfl, ⟨f2 (by omega), f2 (by omega), f1 (by omega), f1 (by omega), trivial⟩, trivial, fun _ => ⟨h0, k_tok, k_sc1, k_sc2, k_T, k_I, k_F, k_N, k_Y, k_Z, k_A, k_B, k_C, k_X, k_R, k_f4⟩⟩
noncomputable def ru_bAr : Ru := ([(0, (1199, (0, (0, 0)))), (0, (1102, (0, (0, 0)))), (0, (1140, (0, (0, 0)))), (0, (1141, (0, (0, 0)))), (0, (1142, (0, (0, 0)))), (0, (1143, (0, (0, 0)))), (0, (1144, (0, (0, 0)))), (0, (1130, (0, (0, 0)))), (0, (1131, (0, (0, 0)))), (0, (1132, (0, (0, 0)))), (0, (1133, (0, (0, 0)))), (0, (1134, (0, (0, 0))))], ([], ([([(6, (-1))], (-10)), ([(6, 1)], 13), ([(11, (-1))], (-11)), ([(11, 1)], 14), ([(4, (-1)), (9, 1)], 0), ([(4, 1), (9, (-1))], 0), ([(5, (-1)), (10, 1)], 0), ([(5, 1), (10, (-1))], 0)], (false, ([], ([], ([(1141, some (8, 0)), (1144, some (11, 0)), (1130, none), (1131, none), (1132, none), (1133, none), (1134, none)], none)))))))
theorem rk_bAr : RuOk SR ru_bAr := by
  intro τ m g hi hc ha hS
  obtain ⟨i0, i1, i2, i3, i4, i5, i6, i7, i8, i9, i10, i11, _⟩ := hi
  have t1199 : τ 1199 = some (g 0) := i0
  have t1102 : τ 1102 = some (g 1) := i1
  have t1140 : τ 1140 = some (g 2) := i2
  have t1141 : τ 1141 = some (g 3) := i3
  have t1142 : τ 1142 = some (g 4) := i4
  have t1143 : τ 1143 = some (g 5) := i5
  have t1144 : τ 1144 = some (g 6) := i6
  have t1130 : τ 1130 = some (g 7) := i7
  have t1131 : τ 1131 = some (g 8) := i8
  have t1132 : τ 1132 = some (g 9) := i9
  have t1133 : τ 1133 = some (g 10) := i10
  have t1134 : τ 1134 = some (g 11) := i11
  obtain ⟨c0, c1, c2, c3, c4, c5, c6, c7, _⟩ := hc
  have c0 : (-1) * g 6 ≤ (-10) := d1 c0
  have c1 : 1 * g 6 ≤ 13 := d1 c1
  have c2 : (-1) * g 11 ≤ (-11) := d1 c2
  have c3 : 1 * g 11 ≤ 14 := d1 c3
  have c4 : (-1) * g 4 + 1 * g 9 ≤ 0 := d2 c4
  have c5 : 1 * g 4 + (-1) * g 9 ≤ 0 := d2 c5
  have c6 : (-1) * g 5 + 1 * g 10 ≤ 0 := d2 c6
  have c7 : 1 * g 5 + (-1) * g 10 ≤ 0 := d2 c7
  obtain ⟨h0, k_tok, k_sc1, k_sc2, k_T, k_I, k_F, k_N, k_Y, k_Z, k_A, k_B, k_C, k_X, k_R, k_f4⟩ := hS (by rw [t1199]; exact fun e => by cases e)
  have k_tok0 := k_tok
  obtain ⟨h_L, h_n, h_nF⟩ := k_tok0
  have k_A0 := k_A
  obtain ⟨h_A0, h_A⟩ := k_A0
  have k_B0 := k_B
  obtain ⟨h_B0, h_B, h_Bd0, h_B26, h_B22, h_Bs⟩ := k_B0
  obtain ⟨hn0, _, hNT⟩ := h_nF _ t1102
  have hA := h_A _ _ _ _ _ _ t1102 t1130 t1131 t1132 t1133 t1134
  have rA := hA.1
  have hB := h_B _ _ _ _ _ _ t1102 t1140 t1141 t1142 t1143 t1144
  have rB := hB.1
  exact ⟨rfl, trivial, trivial, fun _ => ⟨h0, k_tok, k_sc1, k_sc2, k_T, k_I, k_F, k_N, k_Y, k_Z, ⟨fun _ _ _ _ _ e0 e1 e2 e3 e4 => no9 (o := none) rfl e1, fun _ _ _ _ _ _ e0 e1 e2 e3 e4 e5 => no9 (o := none) rfl e1⟩, ⟨fun nF Bd Bi Br Bm e0 e1 e2 e3 e4 => by
      have e0 : g 1 = nF := Option.some.inj (t1102.symm.trans e0)
      subst e0
      have e1 : g 2 = Bd := Option.some.inj (t1140.symm.trans e1)
      subst e1
      have e2 : g 8 + 0 = Bi := Option.some.inj e2
      subst e2
      have e3 : g 4 = Br := Option.some.inj (t1142.symm.trans e3)
      subst e3
      have e4 : g 11 + 0 = Bm := Option.some.inj e4
      subst e4
      refine ⟨g 10, ?_⟩
      rw [Int.add_zero, Int.add_zero, show g 4 = g 9 by omega]
      exact RI_d hA (by omega) rB.2.1, fun nF Bd Bi Br Bx Bm e0 e1 e2 e3 e4 e5 => by
      have e0 : g 1 = nF := Option.some.inj (t1102.symm.trans e0)
      subst e0
      have e1 : g 2 = Bd := Option.some.inj (t1140.symm.trans e1)
      subst e1
      have e2 : g 8 + 0 = Bi := Option.some.inj e2
      subst e2
      have e3 : g 4 = Br := Option.some.inj (t1142.symm.trans e3)
      subst e3
      have e4 : g 5 = Bx := Option.some.inj (t1143.symm.trans e4)
      subst e4
      have e5 : g 11 + 0 = Bm := Option.some.inj e5
      subst e5
      rw [Int.add_zero, Int.add_zero, show g 4 = g 9 by omega, show g 5 = g 10 by omega]
      exact RI_d hA (by omega) rB.2.1, h_Bd0, fun Bd Bi Bm e0 e1 e2 => by
      have e0 : g 2 = Bd := Option.some.inj (t1140.symm.trans e0)
      subst e0
      have e1 : g 8 + 0 = Bi := Option.some.inj e1
      subst e1
      have e2 : g 11 + 0 = Bm := Option.some.inj e2
      subst e2
      intro h
      omega, fun Bd Bi Bm Bf e0 e1 e2 e3 => by
      have e0 : g 2 = Bd := Option.some.inj (t1140.symm.trans e0)
      subst e0
      have e1 : g 8 + 0 = Bi := Option.some.inj e1
      subst e1
      have e2 : g 11 + 0 = Bm := Option.some.inj e2
      subst e2
      intro h
      omega, h_Bs⟩, k_C, k_X, k_R, k_f4⟩⟩
noncomputable def ru_k2c : Ru := ([(0, (1199, (0, (0, 0)))), (0, (1102, (0, (0, 0)))), (0, (1122, (0, (0, 0)))), (0, (1123, (0, (0, 0)))), (9, (24, (2, (1, 0))))], ([], ([([(4, 1)], 2), ([(4, (-1))], (-2))], (false, ([([(3, (-1))], 0)], ([], ([], none)))))))
theorem rk_k2c : RuOk SR ru_k2c := by
  intro τ m g hi hc ha hS
  obtain ⟨i0, i1, i2, i3, i4, _⟩ := hi
  have t1199 : τ 1199 = some (g 0) := i0
  have t1102 : τ 1102 = some (g 1) := i1
  have t1122 : τ 1122 = some (g 2) := i2
  have t1123 : τ 1123 = some (g 3) := i3
  obtain ⟨jk, uk, vk⟩ : ∃ j : Nat, 1 * g 2 + 0 = (j : Int) ∧ g 4 = m 24 j := i4
  obtain ⟨c0, c1, _⟩ := hc
  have c0 : 1 * g 4 ≤ 2 := d1 c0
  have c1 : (-1) * g 4 ≤ (-2) := d1 c1
  obtain ⟨h0, k_tok, k_sc1, k_sc2, k_T, k_I, k_F, k_N, k_Y, k_Z, k_A, k_B, k_C, k_X, k_R, k_f4⟩ := hS (by rw [t1199]; exact fun e => by cases e)
  have k_tok0 := k_tok
  obtain ⟨h_L, h_n, h_nF⟩ := k_tok0
  have k_I0 := k_I
  obtain ⟨h_p, h_pc, h_ip, h_iP, h_PC, h_PN⟩ := k_I0
  have hp := h_p _ t1123
  exact ⟨rfl, ⟨f1 (by omega), trivial⟩, trivial, fun _ => ⟨h0, k_tok, k_sc1, k_sc2, k_T, k_I, k_F, k_N, k_Y, k_Z, k_A, k_B, k_C, k_X, k_R, k_f4⟩⟩
noncomputable def ru_hk2c : Ru := ([(0, (1199, (0, (0, 0)))), (0, (1102, (0, (0, 0)))), (0, (1122, (0, (0, 0)))), (0, (1123, (0, (0, 0)))), (0, (1124, (0, (0, 0)))), (9, (24, (2, (1, 0))))], ([], ([([(5, 1)], 2), ([(5, (-1))], (-2))], (false, ([([(4, 1)], 2), ([(4, (-1))], (-2))], ([], ([], none)))))))
theorem rk_hk2c : RuOk SR ru_hk2c := by
  intro τ m g hi hc ha hS
  obtain ⟨i0, i1, i2, i3, i4, i5, _⟩ := hi
  have t1199 : τ 1199 = some (g 0) := i0
  have t1102 : τ 1102 = some (g 1) := i1
  have t1122 : τ 1122 = some (g 2) := i2
  have t1123 : τ 1123 = some (g 3) := i3
  have t1124 : τ 1124 = some (g 4) := i4
  obtain ⟨jk, uk, vk⟩ : ∃ j : Nat, 1 * g 2 + 0 = (j : Int) ∧ g 5 = m 24 j := i5
  obtain ⟨c0, c1, _⟩ := hc
  have c0 : 1 * g 5 ≤ 2 := d1 c0
  have c1 : (-1) * g 5 ≤ (-2) := d1 c1
  obtain ⟨h0, k_tok, k_sc1, k_sc2, k_T, k_I, k_F, k_N, k_Y, k_Z, k_A, k_B, k_C, k_X, k_R, k_f4⟩ := hS (by rw [t1199]; exact fun e => by cases e)
  have k_tok0 := k_tok
  obtain ⟨h_L, h_n, h_nF⟩ := k_tok0
  have k_I0 := k_I
  obtain ⟨h_p, h_pc, h_ip, h_iP, h_PC, h_PN⟩ := k_I0
  obtain ⟨hn0, _, hNT⟩ := h_nF _ t1102
  have hXL : ((tx9 m).2 : Int) = m 110 1 := by
    show (((m 110 1).toNat : Nat) : Int) = _
    omega
  obtain ⟨⟨hi0, hi1⟩, hpi⟩ := h_ip _ _ _ t1102 t1122 t1123
  have hTK := (h_nF _ t1102).2.1.1 (g 2).toNat (by omega)
  have hSL := St_L (X := tx9 m) (i := (g 2).toNat)
  have hcc := h_pc _ _ t1123 t1124
  rw [show (g 3).toNat = Tp9 (tx9 m) (g 2).toNat by omega] at hcc
  have hko := kd_of (X := tx9 m) (p := Tp9 (tx9 m) (g 2).toNat)
  have hk := hTK.1.2
  rw [show jk = (g 2).toNat by omega] at vk
  have := (rc_kd (X := tx9 m) (p := Tp9 (tx9 m) (g 2).toNat)).2.2.1 (by omega)
  exact ⟨rfl, ⟨f1 (by omega), f1 (by omega), trivial⟩, trivial, fun _ => ⟨h0, k_tok, k_sc1, k_sc2, k_T, k_I, k_F, k_N, k_Y, k_Z, k_A, k_B, k_C, k_X, k_R, k_f4⟩⟩
noncomputable def ru_hz0 : Ru := ([(0, (1199, (0, (0, 0)))), (0, (1102, (0, (0, 0)))), (0, (1122, (0, (0, 0)))), (0, (1123, (0, (0, 0)))), (0, (1197, (0, (0, 0)))), (0, (1198, (0, (0, 0)))), (4, (0, (0, (0, 0))))], ([1194, 1195, 1196], ([([(2, 1)], 0), ([(2, (-1))], 0)], (false, ([], ([], ([(1194, some (6, 0)), (1195, some (6, 0)), (1196, some (3, 0))], none)))))))
theorem rk_hz0 : RuOk SR ru_hz0 := by
  intro τ m g hi hc ha hS
  obtain ⟨i0, i1, i2, i3, i4, i5, i6, _⟩ := hi
  have t1199 : τ 1199 = some (g 0) := i0
  have t1102 : τ 1102 = some (g 1) := i1
  have t1122 : τ 1122 = some (g 2) := i2
  have t1123 : τ 1123 = some (g 3) := i3
  have t1197 : τ 1197 = some (g 4) := i4
  have t1198 : τ 1198 = some (g 5) := i5
  have xo : g 6 = 0 := i6
  obtain ⟨c0, c1, _⟩ := hc
  have c0 : 1 * g 2 ≤ 0 := d1 c0
  have c1 : (-1) * g 2 ≤ 0 := d1 c1
  obtain ⟨a0, a1, a2, _⟩ := ha
  have n1194 : τ 1194 = none := a0
  have n1195 : τ 1195 = none := a1
  have n1196 : τ 1196 = none := a2
  obtain ⟨h0, k_tok, k_sc1, k_sc2, k_T, k_I, k_F, k_N, k_Y, k_Z, k_A, k_B, k_C, k_X, k_R, k_f4⟩ := hS (by rw [t1199]; exact fun e => by cases e)
  have k_tok0 := k_tok
  obtain ⟨h_L, h_n, h_nF⟩ := k_tok0
  have k_I0 := k_I
  obtain ⟨h_p, h_pc, h_ip, h_iP, h_PC, h_PN⟩ := k_I0
  have k_Z0 := k_Z
  obtain ⟨h_Z0, h_Z1, h_Z⟩ := k_Z0
  obtain ⟨hn0, _, hNT⟩ := h_nF _ t1102
  have hXL : ((tx9 m).2 : Int) = m 110 1 := by
    show (((m 110 1).toNat : Nat) : Int) = _
    omega
  obtain ⟨⟨hi0, hi1⟩, hpi⟩ := h_ip _ _ _ t1102 t1122 t1123
  have hTK := (h_nF _ t1102).2.1.1 (g 2).toNat (by omega)
  have hSL := St_L (X := tx9 m) (i := (g 2).toNat)
  obtain ⟨r0, hr0, hxe⟩ := h_Z1 _ _ t1197 t1198
  rw [show (g 2).toNat = 0 by omega] at hpi hSL
  exact ⟨rfl, trivial, trivial, fun _ => ⟨h0, k_tok, k_sc1, k_sc2, k_T, k_I, k_F, k_N, k_Y, ⟨h_Z0, h_Z1, fun Zm Zk Zp Z1 Zx e0 e1 e2 e3 e4 => by
      have e0 : g 6 + 0 = Zm := Option.some.inj e0
      subst e0
      have e1 : g 6 + 0 = Zk := Option.some.inj e1
      subst e1
      have e2 : g 3 + 0 = Zp := Option.some.inj e2
      subst e2
      have e3 : g 4 = Z1 := Option.some.inj (t1197.symm.trans e3)
      subst e3
      have e4 : g 5 = Zx := Option.some.inj (t1198.symm.trans e4)
      subst e4
      refine ⟨⟨⟨by omega, by omega⟩, ⟨by omega, by omega⟩⟩, r0, hxe, Or.inl ⟨by omega, ?_⟩⟩
      rw [show (g 6 + 0).toNat = 0 by omega, show (g 3 + 0).toNat = Tp9 (tx9 m) 0 by omega]
      exact hr0⟩, k_A, k_B, k_C, k_X, k_R, k_f4⟩⟩
noncomputable def ru_hzy : Ru := ([(0, (1199, (0, (0, 0)))), (0, (1102, (0, (0, 0)))), (0, (1122, (0, (0, 0)))), (0, (1123, (0, (0, 0)))), (0, (1194, (0, (0, 0)))), (0, (1195, (0, (0, 0)))), (0, (1196, (0, (0, 0)))), (0, (1197, (0, (0, 0)))), (0, (1198, (0, (0, 0)))), (4, (0, (0, (10, 0)))), (4, (0, (0, (0, 0))))], ([1130, 1131, 1132, 1133, 1134], ([([(4, 1)], 0), ([(4, (-1))], 0), ([(5, 1)], 29), ([(3, (-1)), (6, 1)], 0), ([(3, 1), (6, (-1))], 0)], (false, ([], ([], ([(1130, some (10, 0)), (1131, some (2, 0)), (1134, some (9, 0))], some (1132, ((-1), 1200)))))))))
theorem rk_hzy : RuOk SR ru_hzy := by
  intro τ m g hi hc ha hS
  obtain ⟨i0, i1, i2, i3, i4, i5, i6, i7, i8, i9, i10, _⟩ := hi
  have t1199 : τ 1199 = some (g 0) := i0
  have t1102 : τ 1102 = some (g 1) := i1
  have t1122 : τ 1122 = some (g 2) := i2
  have t1123 : τ 1123 = some (g 3) := i3
  have t1194 : τ 1194 = some (g 4) := i4
  have t1195 : τ 1195 = some (g 5) := i5
  have t1196 : τ 1196 = some (g 6) := i6
  have t1197 : τ 1197 = some (g 7) := i7
  have t1198 : τ 1198 = some (g 8) := i8
  have xm : g 9 = 10 := i9
  have xo : g 10 = 0 := i10
  obtain ⟨c0, c1, c2, c3, c4, _⟩ := hc
  have c0 : 1 * g 4 ≤ 0 := d1 c0
  have c1 : (-1) * g 4 ≤ 0 := d1 c1
  have c2 : 1 * g 5 ≤ 29 := d1 c2
  have c3 : (-1) * g 3 + 1 * g 6 ≤ 0 := d2 c3
  have c4 : 1 * g 3 + (-1) * g 6 ≤ 0 := d2 c4
  obtain ⟨a0, a1, a2, a3, a4, _⟩ := ha
  have n1130 : τ 1130 = none := a0
  have n1131 : τ 1131 = none := a1
  have n1132 : τ 1132 = none := a2
  have n1133 : τ 1133 = none := a3
  have n1134 : τ 1134 = none := a4
  obtain ⟨h0, k_tok, k_sc1, k_sc2, k_T, k_I, k_F, k_N, k_Y, k_Z, k_A, k_B, k_C, k_X, k_R, k_f4⟩ := hS (by rw [t1199]; exact fun e => by cases e)
  have k_tok0 := k_tok
  obtain ⟨h_L, h_n, h_nF⟩ := k_tok0
  have k_I0 := k_I
  obtain ⟨h_p, h_pc, h_ip, h_iP, h_PC, h_PN⟩ := k_I0
  have k_A0 := k_A
  obtain ⟨h_A0, h_A⟩ := k_A0
  obtain ⟨hn0, _, hNT⟩ := h_nF _ t1102
  have hXL : ((tx9 m).2 : Int) = m 110 1 := by
    show (((m 110 1).toNat : Nat) : Int) = _
    omega
  obtain ⟨⟨hi0, hi1⟩, hpi⟩ := h_ip _ _ _ t1102 t1122 t1123
  obtain ⟨x0, y0, ⟨x1, x2⟩, _, hI⟩ := RI_ex (X := tx9 m) (w := wl9 m) hNT (m := 10) (d := 0) (i := g 2) ⟨by decide, rfl⟩ (by omega) ⟨hi0, by omega⟩
  have x2 : x0 ≤ 1200 := by omega
  exact ⟨rfl, trivial, trivial, x0, x1, x2, fun _ => ⟨h0, k_tok, k_sc1, k_sc2, k_T, k_I, k_F, k_N, k_Y, k_Z, ⟨fun nF Ad Ai Ar Am e0 e1 e2 e3 e4 => by
      have e0 : g 1 = nF := Option.some.inj (t1102.symm.trans e0)
      subst e0
      have e1 : g 10 + 0 = Ad := Option.some.inj e1
      subst e1
      have e2 : g 2 + 0 = Ai := Option.some.inj e2
      subst e2
      have e3 : x0 = Ar := Option.some.inj e3
      subst e3
      have e4 : g 9 + 0 = Am := Option.some.inj e4
      subst e4
      rw [show g 9 + 0 = 10 by omega, show g 10 + 0 = 0 by omega]
      simp only [Int.add_zero] at hI ⊢
      exact ⟨by decide, _, hI⟩, fun _ _ _ _ _ _ e0 e1 e2 e3 e4 e5 => no9 n1133 e4⟩, k_B, k_C, k_X, k_R, k_f4⟩⟩
noncomputable def ru_hzo : Ru := ([(0, (1199, (0, (0, 0)))), (0, (1102, (0, (0, 0)))), (0, (1122, (0, (0, 0)))), (0, (1123, (0, (0, 0)))), (0, (1194, (0, (0, 0)))), (0, (1195, (0, (0, 0)))), (0, (1196, (0, (0, 0)))), (0, (1197, (0, (0, 0)))), (0, (1198, (0, (0, 0)))), (0, (1130, (0, (0, 0)))), (0, (1131, (0, (0, 0)))), (0, (1132, (0, (0, 0)))), (0, (1133, (0, (0, 0)))), (0, (1134, (0, (0, 0)))), (4, (0, (0, (1, 0)))), (6, (25, (10, (0, 0))))], ([], ([([(4, 1)], 0), ([(4, (-1))], 0), ([(5, 1)], 29), ([(13, 1)], 10), ([(13, (-1))], (-10)), ([(11, (-1))], 0), ([(2, 1), (11, (-1))], 0), ([(2, (-1)), (11, 1)], 0), ([(6, (-1)), (15, 1)], 0), ([(6, 1), (15, (-1))], 0)], (false, ([], ([], ([(1194, some (14, 0)), (1195, some (5, 1)), (1196, some (3, 0)), (1130, none), (1131, none), (1132, none), (1133, none), (1134, none)], none)))))))
theorem rk_hzo : RuOk SR ru_hzo := by
  intro τ m g hi hc ha hS
  obtain ⟨i0, i1, i2, i3, i4, i5, i6, i7, i8, i9, i10, i11, i12, i13, i14, i15, _⟩ := hi
  have t1199 : τ 1199 = some (g 0) := i0
  have t1102 : τ 1102 = some (g 1) := i1
  have t1122 : τ 1122 = some (g 2) := i2
  have t1123 : τ 1123 = some (g 3) := i3
  have t1194 : τ 1194 = some (g 4) := i4
  have t1195 : τ 1195 = some (g 5) := i5
  have t1196 : τ 1196 = some (g 6) := i6
  have t1197 : τ 1197 = some (g 7) := i7
  have t1198 : τ 1198 = some (g 8) := i8
  have t1130 : τ 1130 = some (g 9) := i9
  have t1131 : τ 1131 = some (g 10) := i10
  have t1132 : τ 1132 = some (g 11) := i11
  have t1133 : τ 1133 = some (g 12) := i12
  have t1134 : τ 1134 = some (g 13) := i13
  have xone : g 14 = 1 := i14
  obtain ⟨jst, ust, vst⟩ : ∃ j : Nat, g 10 = (j : Int) ∧ g 15 = m 25 j := i15
  obtain ⟨c0, c1, c2, c3, c4, c5, c6, c7, c8, c9, _⟩ := hc
  have c0 : 1 * g 4 ≤ 0 := d1 c0
  have c1 : (-1) * g 4 ≤ 0 := d1 c1
  have c2 : 1 * g 5 ≤ 29 := d1 c2
  have c3 : 1 * g 13 ≤ 10 := d1 c3
  have c4 : (-1) * g 13 ≤ (-10) := d1 c4
  have c5 : (-1) * g 11 ≤ 0 := d1 c5
  have c6 : 1 * g 2 + (-1) * g 11 ≤ 0 := d2 c6
  have c7 : (-1) * g 2 + 1 * g 11 ≤ 0 := d2 c7
  have c8 : (-1) * g 6 + 1 * g 15 ≤ 0 := d2 c8
  have c9 : 1 * g 6 + (-1) * g 15 ≤ 0 := d2 c9
  obtain ⟨h0, k_tok, k_sc1, k_sc2, k_T, k_I, k_F, k_N, k_Y, k_Z, k_A, k_B, k_C, k_X, k_R, k_f4⟩ := hS (by rw [t1199]; exact fun e => by cases e)
  have k_tok0 := k_tok
  obtain ⟨h_L, h_n, h_nF⟩ := k_tok0
  have k_I0 := k_I
  obtain ⟨h_p, h_pc, h_ip, h_iP, h_PC, h_PN⟩ := k_I0
  have k_A0 := k_A
  obtain ⟨h_A0, h_A⟩ := k_A0
  have k_Z0 := k_Z
  obtain ⟨h_Z0, h_Z1, h_Z⟩ := k_Z0
  have hXL : ((tx9 m).2 : Int) = m 110 1 := by
    show (((m 110 1).toNat : Nat) : Int) = _
    omega
  obtain ⟨⟨⟨hk0, hk1⟩, hz0, hz1⟩, rz, hze, hzr⟩ := h_Z _ _ _ _ _ t1194 t1195 t1196 t1197 t1198
  have hzp : PoR (tx9 m) (wl9 m) (30 - (g 5).toNat) (g 5).toNat (g 6).toNat rz := by
    rcases hzr with h | h
    · exact h.2
    · have := h.1; omega
  have hA := h_A _ _ _ _ _ _ t1102 t1130 t1131 t1132 t1133 t1134
  obtain ⟨hrA1, hrA2, hrA3⟩ := hA.1
  have hTKa := ((h_nF _ t1102).2.1.1 (g 10).toNat (by omega)).1.1
  rw [show jst = (g 10).toNat by omega] at vst
  have hza : (g 6).toNat = Tp9 (tx9 m) (g 10).toNat := by omega
  rw [show 30 - (g 5).toNat = (29 - (g 5).toNat) + 1 by omega, hza] at hzp
  obtain ⟨hr1, hr2, hr3, hR⟩ := RI_p hA 10 (by omega) (by omega)
  have hb := PoR_ok hzp hR
  obtain ⟨⟨hi0, hi1⟩, hpi⟩ := h_ip _ _ _ t1102 t1122 t1123
  rw [show (g 2).toNat = (g 11).toNat by omega] at hpi
  have hSL := St_L (X := tx9 m) (i := (g 11).toNat)
  exact ⟨rfl, trivial, trivial, fun _ => ⟨h0, k_tok, k_sc1, k_sc2, k_T, k_I, k_F, k_N, k_Y, ⟨h_Z0, h_Z1, fun Zm Zk Zp Z1 Zx e0 e1 e2 e3 e4 => by
      have e0 : g 14 + 0 = Zm := Option.some.inj e0
      subst e0
      have e1 : g 5 + 1 = Zk := Option.some.inj e1
      subst e1
      have e2 : g 3 + 0 = Zp := Option.some.inj e2
      subst e2
      have e3 : g 7 = Z1 := Option.some.inj (t1197.symm.trans e3)
      subst e3
      have e4 : g 8 = Zx := Option.some.inj (t1198.symm.trans e4)
      subst e4
      refine ⟨⟨⟨by omega, by omega⟩, ⟨by omega, by omega⟩⟩, rz, hze, Or.inr ⟨by omega, by omega, ?_⟩⟩
      rw [show 30 - (g 5 + 1).toNat = 29 - (g 5).toNat by omega, show (g 5 + 1).toNat = (g 5).toNat + 1 by omega, show (g 3 + 0).toNat = Tp9 (tx9 m) (g 11).toNat by omega]
      exact hb⟩, ⟨fun _ _ _ _ _ e0 e1 e2 e3 e4 => no9 (o := none) rfl e1, fun _ _ _ _ _ _ e0 e1 e2 e3 e4 e5 => no9 (o := none) rfl e1⟩, k_B, k_C, k_X, k_R, k_f4⟩⟩
noncomputable def ru_hzx : Ru := ([(0, (1199, (0, (0, 0)))), (0, (1102, (0, (0, 0)))), (0, (1194, (0, (0, 0)))), (0, (1195, (0, (0, 0)))), (0, (1196, (0, (0, 0)))), (0, (1197, (0, (0, 0)))), (0, (1198, (0, (0, 0)))), (0, (1130, (0, (0, 0)))), (0, (1131, (0, (0, 0)))), (0, (1132, (0, (0, 0)))), (0, (1133, (0, (0, 0)))), (0, (1134, (0, (0, 0)))), (6, (25, (8, (0, 0))))], ([], ([([(2, 1)], 0), ([(2, (-1))], 0), ([(3, 1)], 29), ([(11, 1)], 10), ([(11, (-1))], (-10)), ([(9, 1)], (-1)), ([(4, (-1)), (12, 1)], 0), ([(4, 1), (12, (-1))], 0)], (false, ([([(6, 1), (10, (-1))], 0), ([(6, (-1)), (10, 1)], 0), ([(5, 1)], (-1)), ([(5, (-1))], 1)], ([], ([], none)))))))
theorem rk_hzx : RuOk SR ru_hzx := by
  intro τ m g hi hc ha hS
  obtain ⟨i0, i1, i2, i3, i4, i5, i6, i7, i8, i9, i10, i11, i12, _⟩ := hi
  have t1199 : τ 1199 = some (g 0) := i0
  have t1102 : τ 1102 = some (g 1) := i1
  have t1194 : τ 1194 = some (g 2) := i2
  have t1195 : τ 1195 = some (g 3) := i3
  have t1196 : τ 1196 = some (g 4) := i4
  have t1197 : τ 1197 = some (g 5) := i5
  have t1198 : τ 1198 = some (g 6) := i6
  have t1130 : τ 1130 = some (g 7) := i7
  have t1131 : τ 1131 = some (g 8) := i8
  have t1132 : τ 1132 = some (g 9) := i9
  have t1133 : τ 1133 = some (g 10) := i10
  have t1134 : τ 1134 = some (g 11) := i11
  obtain ⟨jst, ust, vst⟩ : ∃ j : Nat, g 8 = (j : Int) ∧ g 12 = m 25 j := i12
  obtain ⟨c0, c1, c2, c3, c4, c5, c6, c7, _⟩ := hc
  have c0 : 1 * g 2 ≤ 0 := d1 c0
  have c1 : (-1) * g 2 ≤ 0 := d1 c1
  have c2 : 1 * g 3 ≤ 29 := d1 c2
  have c3 : 1 * g 11 ≤ 10 := d1 c3
  have c4 : (-1) * g 11 ≤ (-10) := d1 c4
  have c5 : 1 * g 9 ≤ (-1) := d1 c5
  have c6 : (-1) * g 4 + 1 * g 12 ≤ 0 := d2 c6
  have c7 : 1 * g 4 + (-1) * g 12 ≤ 0 := d2 c7
  obtain ⟨h0, k_tok, k_sc1, k_sc2, k_T, k_I, k_F, k_N, k_Y, k_Z, k_A, k_B, k_C, k_X, k_R, k_f4⟩ := hS (by rw [t1199]; exact fun e => by cases e)
  have k_tok0 := k_tok
  obtain ⟨h_L, h_n, h_nF⟩ := k_tok0
  have k_A0 := k_A
  obtain ⟨h_A0, h_A⟩ := k_A0
  have k_Z0 := k_Z
  obtain ⟨h_Z0, h_Z1, h_Z⟩ := k_Z0
  have hXL : ((tx9 m).2 : Int) = m 110 1 := by
    show (((m 110 1).toNat : Nat) : Int) = _
    omega
  obtain ⟨⟨⟨hk0, hk1⟩, hz0, hz1⟩, rz, hze, hzr⟩ := h_Z _ _ _ _ _ t1194 t1195 t1196 t1197 t1198
  have hzp : PoR (tx9 m) (wl9 m) (30 - (g 3).toNat) (g 3).toNat (g 4).toNat rz := by
    rcases hzr with h | h
    · exact h.2
    · have := h.1; omega
  have hA := h_A _ _ _ _ _ _ t1102 t1130 t1131 t1132 t1133 t1134
  obtain ⟨hrA1, hrA2, hrA3⟩ := hA.1
  have hTKa := ((h_nF _ t1102).2.1.1 (g 8).toNat (by omega)).1.1
  rw [show jst = (g 8).toNat by omega] at vst
  have hza : (g 4).toNat = Tp9 (tx9 m) (g 8).toNat := by omega
  rw [show 30 - (g 3).toNat = (29 - (g 3).toNat) + 1 by omega, hza] at hzp
  obtain ⟨hr1, hr2, hR⟩ := RI_n hA 10 (by omega) (by omega)
  have hb := PoR_bad hzp hR
  obtain ⟨y1, y2⟩ := YE_bad hze hb
  exact ⟨rfl, ⟨f2 (by omega), f2 (by omega), f1 (by omega), f1 (by omega), trivial⟩, trivial, fun _ => ⟨h0, k_tok, k_sc1, k_sc2, k_T, k_I, k_F, k_N, k_Y, k_Z, k_A, k_B, k_C, k_X, k_R, k_f4⟩⟩
noncomputable def ru_hze : Ru := ([(0, (1199, (0, (0, 0)))), (0, (1102, (0, (0, 0)))), (0, (1122, (0, (0, 0)))), (0, (1123, (0, (0, 0)))), (0, (1124, (0, (0, 0)))), (0, (1194, (0, (0, 0)))), (0, (1195, (0, (0, 0)))), (0, (1196, (0, (0, 0)))), (0, (1197, (0, (0, 0)))), (0, (1198, (0, (0, 0))))], ([], ([([(3, (-1)), (7, 1)], 0), ([(3, 1), (7, (-1))], 0), ([(5, 1)], 1), ([(5, (-1))], (-1)), ([(4, 1)], 1), ([(4, (-1))], (-1))], (false, ([([(6, (-1)), (8, 1)], 0), ([(6, 1), (8, (-1))], 0), ([(9, 1)], (-1)), ([(9, (-1))], 1)], ([], ([], none)))))))
theorem rk_hze : RuOk SR ru_hze := by
  intro τ m g hi hc ha hS
  obtain ⟨i0, i1, i2, i3, i4, i5, i6, i7, i8, i9, _⟩ := hi
  have t1199 : τ 1199 = some (g 0) := i0
  have t1102 : τ 1102 = some (g 1) := i1
  have t1122 : τ 1122 = some (g 2) := i2
  have t1123 : τ 1123 = some (g 3) := i3
  have t1124 : τ 1124 = some (g 4) := i4
  have t1194 : τ 1194 = some (g 5) := i5
  have t1195 : τ 1195 = some (g 6) := i6
  have t1196 : τ 1196 = some (g 7) := i7
  have t1197 : τ 1197 = some (g 8) := i8
  have t1198 : τ 1198 = some (g 9) := i9
  obtain ⟨c0, c1, c2, c3, c4, c5, _⟩ := hc
  have c0 : (-1) * g 3 + 1 * g 7 ≤ 0 := d2 c0
  have c1 : 1 * g 3 + (-1) * g 7 ≤ 0 := d2 c1
  have c2 : 1 * g 5 ≤ 1 := d1 c2
  have c3 : (-1) * g 5 ≤ (-1) := d1 c3
  have c4 : 1 * g 4 ≤ 1 := d1 c4
  have c5 : (-1) * g 4 ≤ (-1) := d1 c5
  obtain ⟨h0, k_tok, k_sc1, k_sc2, k_T, k_I, k_F, k_N, k_Y, k_Z, k_A, k_B, k_C, k_X, k_R, k_f4⟩ := hS (by rw [t1199]; exact fun e => by cases e)
  have k_I0 := k_I
  obtain ⟨h_p, h_pc, h_ip, h_iP, h_PC, h_PN⟩ := k_I0
  have k_Z0 := k_Z
  obtain ⟨h_Z0, h_Z1, h_Z⟩ := k_Z0
  have hXL : ((tx9 m).2 : Int) = m 110 1 := by
    show (((m 110 1).toNat : Nat) : Int) = _
    omega
  obtain ⟨⟨⟨hk0, hk1⟩, hz0, hz1⟩, rz, hze, hzr⟩ := h_Z _ _ _ _ _ t1194 t1195 t1196 t1197 t1198
  have hzp : Pb9 (tx9 m) (wl9 m) (30 - (g 6).toNat) (g 6).toNat (g 7).toNat rz := by
    rcases hzr with h | h
    · have := h.1; omega
    · exact h.2.2
  have hcc := h_pc _ _ t1123 t1124
  rw [show (g 3).toNat = (g 7).toNat by omega] at hcc
  obtain ⟨y1, y2⟩ := YE_ok hze (hzp.1 (by omega))
  exact ⟨rfl, ⟨f2 (by omega), f2 (by omega), f1 (by omega), f1 (by omega), trivial⟩, trivial, fun _ => ⟨h0, k_tok, k_sc1, k_sc2, k_T, k_I, k_F, k_N, k_Y, k_Z, k_A, k_B, k_C, k_X, k_R, k_f4⟩⟩
noncomputable def ru_hzs : Ru := ([(0, (1199, (0, (0, 0)))), (0, (1102, (0, (0, 0)))), (0, (1122, (0, (0, 0)))), (0, (1123, (0, (0, 0)))), (0, (1124, (0, (0, 0)))), (0, (1194, (0, (0, 0)))), (0, (1195, (0, (0, 0)))), (0, (1196, (0, (0, 0)))), (0, (1197, (0, (0, 0)))), (0, (1198, (0, (0, 0)))), (0, (1125, (0, (0, 0)))), (4, (0, (0, (0, 0))))], ([], ([([(3, (-1)), (7, 1)], 0), ([(3, 1), (7, (-1))], 0), ([(5, 1)], 1), ([(5, (-1))], (-1)), ([(4, 1)], 19), ([(4, (-1))], (-19))], (false, ([], ([], ([(1194, some (11, 0)), (1196, some (10, 0))], none)))))))
theorem rk_hzs : RuOk SR ru_hzs := by
  intro τ m g hi hc ha hS
  obtain ⟨i0, i1, i2, i3, i4, i5, i6, i7, i8, i9, i10, i11, _⟩ := hi
  have t1199 : τ 1199 = some (g 0) := i0
  have t1102 : τ 1102 = some (g 1) := i1
  have t1122 : τ 1122 = some (g 2) := i2
  have t1123 : τ 1123 = some (g 3) := i3
  have t1124 : τ 1124 = some (g 4) := i4
  have t1194 : τ 1194 = some (g 5) := i5
  have t1195 : τ 1195 = some (g 6) := i6
  have t1196 : τ 1196 = some (g 7) := i7
  have t1197 : τ 1197 = some (g 8) := i8
  have t1198 : τ 1198 = some (g 9) := i9
  have t1125 : τ 1125 = some (g 10) := i10
  have xo : g 11 = 0 := i11
  obtain ⟨c0, c1, c2, c3, c4, c5, _⟩ := hc
  have c0 : (-1) * g 3 + 1 * g 7 ≤ 0 := d2 c0
  have c1 : 1 * g 3 + (-1) * g 7 ≤ 0 := d2 c1
  have c2 : 1 * g 5 ≤ 1 := d1 c2
  have c3 : (-1) * g 5 ≤ (-1) := d1 c3
  have c4 : 1 * g 4 ≤ 19 := d1 c4
  have c5 : (-1) * g 4 ≤ (-19) := d1 c5
  obtain ⟨h0, k_tok, k_sc1, k_sc2, k_T, k_I, k_F, k_N, k_Y, k_Z, k_A, k_B, k_C, k_X, k_R, k_f4⟩ := hS (by rw [t1199]; exact fun e => by cases e)
  have k_I0 := k_I
  obtain ⟨h_p, h_pc, h_ip, h_iP, h_PC, h_PN⟩ := k_I0
  have k_Z0 := k_Z
  obtain ⟨h_Z0, h_Z1, h_Z⟩ := k_Z0
  have hXL : ((tx9 m).2 : Int) = m 110 1 := by
    show (((m 110 1).toNat : Nat) : Int) = _
    omega
  obtain ⟨⟨⟨hk0, hk1⟩, hz0, hz1⟩, rz, hze, hzr⟩ := h_Z _ _ _ _ _ t1194 t1195 t1196 t1197 t1198
  have hzp : Pb9 (tx9 m) (wl9 m) (30 - (g 6).toNat) (g 6).toNat (g 7).toNat rz := by
    rcases hzr with h | h
    · have := h.1; omega
    · exact h.2.2
  have hcc := h_pc _ _ t1123 t1124
  rw [show (g 3).toNat = (g 7).toNat by omega] at hcc
  have hN := h_iP _ _ _ t1122 t1123 t1125
  rw [show (g 3).toNat = (g 7).toNat by omega] at hN
  have hnL := nx_P (m := m) (p := (g 7).toNat) (by omega)
  have hb := hzp.2.1 (by omega)
  exact ⟨rfl, trivial, trivial, fun _ => ⟨h0, k_tok, k_sc1, k_sc2, k_T, k_I, k_F, k_N, k_Y, ⟨h_Z0, h_Z1, fun Zm Zk Zp Z1 Zx e0 e1 e2 e3 e4 => by
      have e0 : g 11 + 0 = Zm := Option.some.inj e0
      subst e0
      have e1 : g 6 = Zk := Option.some.inj (t1195.symm.trans e1)
      subst e1
      have e2 : g 10 + 0 = Zp := Option.some.inj e2
      subst e2
      have e3 : g 8 = Z1 := Option.some.inj (t1197.symm.trans e3)
      subst e3
      have e4 : g 9 = Zx := Option.some.inj (t1198.symm.trans e4)
      subst e4
      refine ⟨⟨⟨by omega, by omega⟩, ⟨by omega, by omega⟩⟩, rz, hze, Or.inl ⟨by omega, ?_⟩⟩
      rw [show (g 10 + 0).toNat = nx9t (tx9 m) (g 7).toNat by omega]
      exact hb⟩, k_A, k_B, k_C, k_X, k_R, k_f4⟩⟩
noncomputable def ru_hza : Ru := ([(0, (1199, (0, (0, 0)))), (0, (1102, (0, (0, 0)))), (0, (1122, (0, (0, 0)))), (0, (1123, (0, (0, 0)))), (0, (1124, (0, (0, 0)))), (0, (1194, (0, (0, 0)))), (0, (1195, (0, (0, 0)))), (0, (1196, (0, (0, 0)))), (0, (1197, (0, (0, 0)))), (0, (1198, (0, (0, 0))))], ([], ([([(3, (-1)), (7, 1)], 0), ([(3, 1), (7, (-1))], 0), ([(5, 1)], 1), ([(5, (-1))], (-1)), ([(4, 1)], 0)], (false, ([([(3, (-1)), (9, 1)], 0), ([(3, 1), (9, (-1))], 0), ([(8, 1)], (-1)), ([(8, (-1))], 1)], ([], ([], none)))))))
theorem rk_hza : RuOk SR ru_hza := by
  intro τ m g hi hc ha hS
  obtain ⟨i0, i1, i2, i3, i4, i5, i6, i7, i8, i9, _⟩ := hi
  have t1199 : τ 1199 = some (g 0) := i0
  have t1102 : τ 1102 = some (g 1) := i1
  have t1122 : τ 1122 = some (g 2) := i2
  have t1123 : τ 1123 = some (g 3) := i3
  have t1124 : τ 1124 = some (g 4) := i4
  have t1194 : τ 1194 = some (g 5) := i5
  have t1195 : τ 1195 = some (g 6) := i6
  have t1196 : τ 1196 = some (g 7) := i7
  have t1197 : τ 1197 = some (g 8) := i8
  have t1198 : τ 1198 = some (g 9) := i9
  obtain ⟨c0, c1, c2, c3, c4, _⟩ := hc
  have c0 : (-1) * g 3 + 1 * g 7 ≤ 0 := d2 c0
  have c1 : 1 * g 3 + (-1) * g 7 ≤ 0 := d2 c1
  have c2 : 1 * g 5 ≤ 1 := d1 c2
  have c3 : (-1) * g 5 ≤ (-1) := d1 c3
  have c4 : 1 * g 4 ≤ 0 := d1 c4
  obtain ⟨h0, k_tok, k_sc1, k_sc2, k_T, k_I, k_F, k_N, k_Y, k_Z, k_A, k_B, k_C, k_X, k_R, k_f4⟩ := hS (by rw [t1199]; exact fun e => by cases e)
  have k_I0 := k_I
  obtain ⟨h_p, h_pc, h_ip, h_iP, h_PC, h_PN⟩ := k_I0
  have k_Z0 := k_Z
  obtain ⟨h_Z0, h_Z1, h_Z⟩ := k_Z0
  have hXL : ((tx9 m).2 : Int) = m 110 1 := by
    show (((m 110 1).toNat : Nat) : Int) = _
    omega
  obtain ⟨⟨⟨hk0, hk1⟩, hz0, hz1⟩, rz, hze, hzr⟩ := h_Z _ _ _ _ _ t1194 t1195 t1196 t1197 t1198
  have hzp : Pb9 (tx9 m) (wl9 m) (30 - (g 6).toNat) (g 6).toNat (g 7).toNat rz := by
    rcases hzr with h | h
    · have := h.1; omega
    · exact h.2.2
  have hcc := h_pc _ _ t1123 t1124
  rw [show (g 3).toNat = (g 7).toNat by omega] at hcc
  obtain ⟨y1, y2⟩ := YE_bad hze (hzp.2.2 ⟨by omega, by omega⟩)
  exact ⟨rfl, ⟨f2 (by omega), f2 (by omega), f1 (by omega), f1 (by omega), trivial⟩, trivial, fun _ => ⟨h0, k_tok, k_sc1, k_sc2, k_T, k_I, k_F, k_N, k_Y, k_Z, k_A, k_B, k_C, k_X, k_R, k_f4⟩⟩
noncomputable def ru_hzb : Ru := ([(0, (1199, (0, (0, 0)))), (0, (1102, (0, (0, 0)))), (0, (1122, (0, (0, 0)))), (0, (1123, (0, (0, 0)))), (0, (1124, (0, (0, 0)))), (0, (1194, (0, (0, 0)))), (0, (1195, (0, (0, 0)))), (0, (1196, (0, (0, 0)))), (0, (1197, (0, (0, 0)))), (0, (1198, (0, (0, 0))))], ([], ([([(3, (-1)), (7, 1)], 0), ([(3, 1), (7, (-1))], 0), ([(5, 1)], 1), ([(5, (-1))], (-1)), ([(4, (-1))], (-2)), ([(4, 1)], 18)], (false, ([([(3, (-1)), (9, 1)], 0), ([(3, 1), (9, (-1))], 0), ([(8, 1)], (-1)), ([(8, (-1))], 1)], ([], ([], none)))))))
theorem rk_hzb : RuOk SR ru_hzb := by
  intro τ m g hi hc ha hS
  obtain ⟨i0, i1, i2, i3, i4, i5, i6, i7, i8, i9, _⟩ := hi
  have t1199 : τ 1199 = some (g 0) := i0
  have t1102 : τ 1102 = some (g 1) := i1
  have t1122 : τ 1122 = some (g 2) := i2
  have t1123 : τ 1123 = some (g 3) := i3
  have t1124 : τ 1124 = some (g 4) := i4
  have t1194 : τ 1194 = some (g 5) := i5
  have t1195 : τ 1195 = some (g 6) := i6
  have t1196 : τ 1196 = some (g 7) := i7
  have t1197 : τ 1197 = some (g 8) := i8
  have t1198 : τ 1198 = some (g 9) := i9
  obtain ⟨c0, c1, c2, c3, c4, c5, _⟩ := hc
  have c0 : (-1) * g 3 + 1 * g 7 ≤ 0 := d2 c0
  have c1 : 1 * g 3 + (-1) * g 7 ≤ 0 := d2 c1
  have c2 : 1 * g 5 ≤ 1 := d1 c2
  have c3 : (-1) * g 5 ≤ (-1) := d1 c3
  have c4 : (-1) * g 4 ≤ (-2) := d1 c4
  have c5 : 1 * g 4 ≤ 18 := d1 c5
  obtain ⟨h0, k_tok, k_sc1, k_sc2, k_T, k_I, k_F, k_N, k_Y, k_Z, k_A, k_B, k_C, k_X, k_R, k_f4⟩ := hS (by rw [t1199]; exact fun e => by cases e)
  have k_I0 := k_I
  obtain ⟨h_p, h_pc, h_ip, h_iP, h_PC, h_PN⟩ := k_I0
  have k_Z0 := k_Z
  obtain ⟨h_Z0, h_Z1, h_Z⟩ := k_Z0
  have hXL : ((tx9 m).2 : Int) = m 110 1 := by
    show (((m 110 1).toNat : Nat) : Int) = _
    omega
  obtain ⟨⟨⟨hk0, hk1⟩, hz0, hz1⟩, rz, hze, hzr⟩ := h_Z _ _ _ _ _ t1194 t1195 t1196 t1197 t1198
  have hzp : Pb9 (tx9 m) (wl9 m) (30 - (g 6).toNat) (g 6).toNat (g 7).toNat rz := by
    rcases hzr with h | h
    · have := h.1; omega
    · exact h.2.2
  have hcc := h_pc _ _ t1123 t1124
  rw [show (g 3).toNat = (g 7).toNat by omega] at hcc
  obtain ⟨y1, y2⟩ := YE_bad hze (hzp.2.2 ⟨by omega, by omega⟩)
  exact ⟨rfl, ⟨f2 (by omega), f2 (by omega), f1 (by omega), f1 (by omega), trivial⟩, trivial, fun _ => ⟨h0, k_tok, k_sc1, k_sc2, k_T, k_I, k_F, k_N, k_Y, k_Z, k_A, k_B, k_C, k_X, k_R, k_f4⟩⟩
noncomputable def ru_hzc : Ru := ([(0, (1199, (0, (0, 0)))), (0, (1102, (0, (0, 0)))), (0, (1122, (0, (0, 0)))), (0, (1123, (0, (0, 0)))), (0, (1124, (0, (0, 0)))), (0, (1194, (0, (0, 0)))), (0, (1195, (0, (0, 0)))), (0, (1196, (0, (0, 0)))), (0, (1197, (0, (0, 0)))), (0, (1198, (0, (0, 0))))], ([], ([([(3, (-1)), (7, 1)], 0), ([(3, 1), (7, (-1))], 0), ([(5, 1)], 1), ([(5, (-1))], (-1)), ([(4, (-1))], (-20))], (false, ([([(3, (-1)), (9, 1)], 0), ([(3, 1), (9, (-1))], 0), ([(8, 1)], (-1)), ([(8, (-1))], 1)], ([], ([], none)))))))
theorem rk_hzc : RuOk SR ru_hzc := by
  intro τ m g hi hc ha hS
  obtain ⟨i0, i1, i2, i3, i4, i5, i6, i7, i8, i9, _⟩ := hi
  have t1199 : τ 1199 = some (g 0) := i0
  have t1102 : τ 1102 = some (g 1) := i1
  have t1122 : τ 1122 = some (g 2) := i2
  have t1123 : τ 1123 = some (g 3) := i3
  have t1124 : τ 1124 = some (g 4) := i4
  have t1194 : τ 1194 = some (g 5) := i5
  have t1195 : τ 1195 = some (g 6) := i6
  have t1196 : τ 1196 = some (g 7) := i7
  have t1197 : τ 1197 = some (g 8) := i8
  have t1198 : τ 1198 = some (g 9) := i9
  obtain ⟨c0, c1, c2, c3, c4, _⟩ := hc
  have c0 : (-1) * g 3 + 1 * g 7 ≤ 0 := d2 c0
  have c1 : 1 * g 3 + (-1) * g 7 ≤ 0 := d2 c1
  have c2 : 1 * g 5 ≤ 1 := d1 c2
  have c3 : (-1) * g 5 ≤ (-1) := d1 c3
  have c4 : (-1) * g 4 ≤ (-20) := d1 c4
  obtain ⟨h0, k_tok, k_sc1, k_sc2, k_T, k_I, k_F, k_N, k_Y, k_Z, k_A, k_B, k_C, k_X, k_R, k_f4⟩ := hS (by rw [t1199]; exact fun e => by cases e)
  have k_I0 := k_I
  obtain ⟨h_p, h_pc, h_ip, h_iP, h_PC, h_PN⟩ := k_I0
  have k_Z0 := k_Z
  obtain ⟨h_Z0, h_Z1, h_Z⟩ := k_Z0
  have hXL : ((tx9 m).2 : Int) = m 110 1 := by
    show (((m 110 1).toNat : Nat) : Int) = _
    omega
  obtain ⟨⟨⟨hk0, hk1⟩, hz0, hz1⟩, rz, hze, hzr⟩ := h_Z _ _ _ _ _ t1194 t1195 t1196 t1197 t1198
  have hzp : Pb9 (tx9 m) (wl9 m) (30 - (g 6).toNat) (g 6).toNat (g 7).toNat rz := by
    rcases hzr with h | h
    · have := h.1; omega
    · exact h.2.2
  have hcc := h_pc _ _ t1123 t1124
  rw [show (g 3).toNat = (g 7).toNat by omega] at hcc
  obtain ⟨y1, y2⟩ := YE_bad hze (hzp.2.2 ⟨by omega, by omega⟩)
  exact ⟨rfl, ⟨f2 (by omega), f2 (by omega), f1 (by omega), f1 (by omega), trivial⟩, trivial, fun _ => ⟨h0, k_tok, k_sc1, k_sc2, k_T, k_I, k_F, k_N, k_Y, k_Z, k_A, k_B, k_C, k_X, k_R, k_f4⟩⟩
noncomputable def ru_hz30 : Ru := ([(0, (1199, (0, (0, 0)))), (0, (1102, (0, (0, 0)))), (0, (1122, (0, (0, 0)))), (0, (1123, (0, (0, 0)))), (0, (1194, (0, (0, 0)))), (0, (1195, (0, (0, 0)))), (0, (1196, (0, (0, 0)))), (0, (1197, (0, (0, 0)))), (0, (1198, (0, (0, 0))))], ([], ([([(4, 1)], 0), ([(4, (-1))], 0), ([(5, (-1))], (-30)), ([(3, (-1)), (6, 1)], 0), ([(3, 1), (6, (-1))], 0)], (false, ([([(3, (-1)), (8, 1)], 0), ([(3, 1), (8, (-1))], 0), ([(7, 1)], (-1)), ([(7, (-1))], 1)], ([], ([], none)))))))
theorem rk_hz30 : RuOk SR ru_hz30 := by
  intro τ m g hi hc ha hS
  obtain ⟨i0, i1, i2, i3, i4, i5, i6, i7, i8, _⟩ := hi
  have t1199 : τ 1199 = some (g 0) := i0
  have t1102 : τ 1102 = some (g 1) := i1
  have t1122 : τ 1122 = some (g 2) := i2
  have t1123 : τ 1123 = some (g 3) := i3
  have t1194 : τ 1194 = some (g 4) := i4
  have t1195 : τ 1195 = some (g 5) := i5
  have t1196 : τ 1196 = some (g 6) := i6
  have t1197 : τ 1197 = some (g 7) := i7
  have t1198 : τ 1198 = some (g 8) := i8
  obtain ⟨c0, c1, c2, c3, c4, _⟩ := hc
  have c0 : 1 * g 4 ≤ 0 := d1 c0
  have c1 : (-1) * g 4 ≤ 0 := d1 c1
  have c2 : (-1) * g 5 ≤ (-30) := d1 c2
  have c3 : (-1) * g 3 + 1 * g 6 ≤ 0 := d2 c3
  have c4 : 1 * g 3 + (-1) * g 6 ≤ 0 := d2 c4
  obtain ⟨h0, k_tok, k_sc1, k_sc2, k_T, k_I, k_F, k_N, k_Y, k_Z, k_A, k_B, k_C, k_X, k_R, k_f4⟩ := hS (by rw [t1199]; exact fun e => by cases e)
  have k_Z0 := k_Z
  obtain ⟨h_Z0, h_Z1, h_Z⟩ := k_Z0
  have hXL : ((tx9 m).2 : Int) = m 110 1 := by
    show (((m 110 1).toNat : Nat) : Int) = _
    omega
  obtain ⟨⟨⟨hk0, hk1⟩, hz0, hz1⟩, rz, hze, hzr⟩ := h_Z _ _ _ _ _ t1194 t1195 t1196 t1197 t1198
  have hzp : PoR (tx9 m) (wl9 m) (30 - (g 5).toNat) (g 5).toNat (g 6).toNat rz := by
    rcases hzr with h | h
    · exact h.2
    · have := h.1; omega
  rw [show 30 - (g 5).toNat = 0 by omega] at hzp
  obtain ⟨y1, y2⟩ := YE_bad hze hzp
  exact ⟨rfl, ⟨f2 (by omega), f2 (by omega), f1 (by omega), f1 (by omega), trivial⟩, trivial, fun _ => ⟨h0, k_tok, k_sc1, k_sc2, k_T, k_I, k_F, k_N, k_Y, k_Z, k_A, k_B, k_C, k_X, k_R, k_f4⟩⟩
noncomputable def ru_hzD : Ru := ([], ([], ([], (false, ([], ([], ([(1100, none), (1102, none), (1122, none), (1123, none), (1124, none), (1125, none), (1194, none), (1195, none), (1196, none), (1130, none), (1131, none), (1132, none), (1133, none), (1134, none)], none)))))))
theorem rk_hzD : RuOk SR ru_hzD := by
  intro τ m g hi hc ha hS
  refine ⟨rfl, trivial, trivial, fun hM => ?_⟩
  obtain ⟨h0, k_tok, k_sc1, k_sc2, k_T, k_I, k_F, k_N, k_Y, k_Z, k_A, k_B, k_C, k_X, k_R, k_f4⟩ := hS hM
  have k_tok0 := k_tok
  obtain ⟨h_L, h_n, h_nF⟩ := k_tok0
  have k_I0 := k_I
  obtain ⟨h_p, h_pc, h_ip, h_iP, h_PC, h_PN⟩ := k_I0
  have k_Z0 := k_Z
  obtain ⟨h_Z0, h_Z1, h_Z⟩ := k_Z0
  have k_A0 := k_A
  obtain ⟨h_A0, h_A⟩ := k_A0
  have k_B0 := k_B
  obtain ⟨h_B0, h_B, h_Bd0, h_B26, h_B22, h_Bs⟩ := k_B0
  have k_C0 := k_C
  obtain ⟨h_C0, h_C, h_Ci0, h_Cp⟩ := k_C0
  exact ⟨h0, ⟨fun _ e0 => no9 (o := none) rfl e0, h_n, fun _ e0 => no9 (o := none) rfl e0⟩, k_sc1, k_sc2, k_T, ⟨fun _ e0 => no9 (o := none) rfl e0, fun _ _ e0 e1 => no9 (o := none) rfl e0, fun _ _ _ e0 e1 e2 => no9 (o := none) rfl e0, fun _ _ _ e0 e1 e2 => no9 (o := none) rfl e0, fun _ _ e0 e1 => no9 (o := none) rfl e0, fun _ _ _ e0 e1 e2 => no9 (o := none) rfl e0⟩, k_F, k_N, k_Y, ⟨h_Z0, h_Z1, fun _ _ _ _ _ e0 e1 e2 e3 e4 => no9 (o := none) rfl e0⟩, ⟨fun _ _ _ _ _ e0 e1 e2 e3 e4 => no9 (o := none) rfl e0, fun _ _ _ _ _ _ e0 e1 e2 e3 e4 e5 => no9 (o := none) rfl e0⟩, ⟨fun _ _ _ _ _ e0 e1 e2 e3 e4 => no9 (o := none) rfl e0, fun _ _ _ _ _ _ e0 e1 e2 e3 e4 e5 => no9 (o := none) rfl e0, h_Bd0, h_B26, h_B22, fun _ _ _ e0 e1 e2 => no9 (o := none) rfl e0⟩, ⟨fun _ _ _ _ _ e0 e1 e2 e3 e4 => no9 (o := none) rfl e0, fun _ _ _ _ _ _ e0 e1 e2 e3 e4 e5 => no9 (o := none) rfl e0, h_Ci0, h_Cp⟩, k_X, k_R, k_f4⟩
noncomputable def ru_f4s : Ru := ([(0, (1199, (0, (0, 0)))), (1, (1, (0, (0, 0)))), (9, (111, (1, (1, 0)))), (9, (111, (1, (1, 1)))), (9, (111, (1, (1, 2)))), (9, (111, (1, (1, 3)))), (14, (0, (0, (0, 0))))], ([], ([([(2, (-16777216)), (3, (-65536)), (4, (-256)), (5, (-1)), (6, 1)], 0), ([(2, 16777216), (3, 65536), (4, 256), (5, 1), (6, (-1))], 0)], (false, ([], ([], ([(1206, some (1, 0)), (1207, some (6, 0))], none)))))))
theorem rk_f4s : RuOk SR ru_f4s := by
  intro τ m g hi hc ha hS
  obtain ⟨i0, i1, i2, i3, i4, i5, i6, _⟩ := hi
  have t1199 : τ 1199 = some (g 0) := i0
  obtain ⟨jb0, ub0, vb0⟩ : ∃ j : Nat, 1 * g 1 + 0 = (j : Int) ∧ g 2 = m 111 j := i2
  obtain ⟨jb1, ub1, vb1⟩ : ∃ j : Nat, 1 * g 1 + 1 = (j : Int) ∧ g 3 = m 111 j := i3
  obtain ⟨jb2, ub2, vb2⟩ : ∃ j : Nat, 1 * g 1 + 2 = (j : Int) ∧ g 4 = m 111 j := i4
  obtain ⟨jb3, ub3, vb3⟩ : ∃ j : Nat, 1 * g 1 + 3 = (j : Int) ∧ g 5 = m 111 j := i5
  obtain ⟨c0, c1, _⟩ := hc
  have c0 : (-16777216) * g 2 + (-65536) * g 3 + (-256) * g 4 + (-1) * g 5 + 1 * g 6 ≤ 0 := dV5 c0
  have c1 : 16777216 * g 2 + 65536 * g 3 + 256 * g 4 + 1 * g 5 + (-1) * g 6 ≤ 0 := dV5 c1
  obtain ⟨h0, k_tok, k_sc1, k_sc2, k_T, k_I, k_F, k_N, k_Y, k_Z, k_A, k_B, k_C, k_X, k_R, k_f4⟩ := hS (by rw [t1199]; exact fun e => by cases e)
  have h_f4 := k_f4
  rw [show jb0 = (g 1).toNat by omega] at vb0
  rw [show jb1 = (g 1).toNat + 1 by omega] at vb1
  rw [show jb2 = (g 1).toNat + 2 by omega] at vb2
  rw [show jb3 = (g 1).toNat + 3 by omega] at vb3
  exact ⟨rfl, trivial, trivial, fun _ => ⟨h0, k_tok, k_sc1, k_sc2, k_T, k_I, k_F, k_N, k_Y, k_Z, k_A, k_B, k_C, k_X, k_R, fun Fa Fv e0 e1 => by
      have e0 : g 1 + 0 = Fa := Option.some.inj e0
      subst e0
      have e1 : g 6 + 0 = Fv := Option.some.inj e1
      subst e1
      refine ⟨(g 1).toNat, by omega, ?_⟩
      rw [← vb0, ← vb1, ← vb2, ← vb3]
      omega⟩⟩
noncomputable def ru_f4g : Ru := ([(0, (1199, (0, (0, 0)))), (0, (1206, (0, (0, 0)))), (0, (1207, (0, (0, 0)))), (1, (1, (0, (0, 0)))), (9, (111, (3, (1, 0)))), (9, (111, (3, (1, 1)))), (9, (111, (3, (1, 2)))), (9, (111, (3, (1, 3)))), (14, (0, (0, (0, 0))))], ([], ([([(1, 1), (3, (-1))], 0), ([(1, (-1)), (3, 1)], 0), ([(4, (-16777216)), (5, (-65536)), (6, (-256)), (7, (-1)), (8, 1)], 0), ([(4, 16777216), (5, 65536), (6, 256), (7, 1), (8, (-1))], 0)], (false, ([([(2, (-1)), (8, 1)], 0), ([(2, 1), (8, (-1))], 0)], ([], ([], none)))))))
theorem rk_f4g : RuOk SR ru_f4g := by
  intro τ m g hi hc ha hS
  obtain ⟨i0, i1, i2, i3, i4, i5, i6, i7, i8, _⟩ := hi
  have t1199 : τ 1199 = some (g 0) := i0
  have t1206 : τ 1206 = some (g 1) := i1
  have t1207 : τ 1207 = some (g 2) := i2
  obtain ⟨jb0, ub0, vb0⟩ : ∃ j : Nat, 1 * g 3 + 0 = (j : Int) ∧ g 4 = m 111 j := i4
  obtain ⟨jb1, ub1, vb1⟩ : ∃ j : Nat, 1 * g 3 + 1 = (j : Int) ∧ g 5 = m 111 j := i5
  obtain ⟨jb2, ub2, vb2⟩ : ∃ j : Nat, 1 * g 3 + 2 = (j : Int) ∧ g 6 = m 111 j := i6
  obtain ⟨jb3, ub3, vb3⟩ : ∃ j : Nat, 1 * g 3 + 3 = (j : Int) ∧ g 7 = m 111 j := i7
  obtain ⟨c0, c1, c2, c3, _⟩ := hc
  have c0 : 1 * g 1 + (-1) * g 3 ≤ 0 := d2 c0
  have c1 : (-1) * g 1 + 1 * g 3 ≤ 0 := d2 c1
  have c2 : (-16777216) * g 4 + (-65536) * g 5 + (-256) * g 6 + (-1) * g 7 + 1 * g 8 ≤ 0 := dV5 c2
  have c3 : 16777216 * g 4 + 65536 * g 5 + 256 * g 6 + 1 * g 7 + (-1) * g 8 ≤ 0 := dV5 c3
  obtain ⟨h0, k_tok, k_sc1, k_sc2, k_T, k_I, k_F, k_N, k_Y, k_Z, k_A, k_B, k_C, k_X, k_R, k_f4⟩ := hS (by rw [t1199]; exact fun e => by cases e)
  have h_f4 := k_f4
  rw [show jb0 = (g 3).toNat by omega] at vb0
  rw [show jb1 = (g 3).toNat + 1 by omega] at vb1
  rw [show jb2 = (g 3).toNat + 2 by omega] at vb2
  rw [show jb3 = (g 3).toNat + 3 by omega] at vb3
  obtain ⟨a9, ha9, hv9⟩ := h_f4 _ _ t1206 t1207
  rw [show a9 = (g 3).toNat by omega, ← vb0, ← vb1, ← vb2, ← vb3] at hv9
  exact ⟨rfl, ⟨f2 (by omega), f2 (by omega), trivial⟩, trivial, fun _ => ⟨h0, k_tok, k_sc1, k_sc2, k_T, k_I, k_F, k_N, k_Y, k_Z, k_A, k_B, k_C, k_X, k_R, k_f4⟩⟩
noncomputable def ru_f4D : Ru := ([], ([], ([], (false, ([], ([], ([(1206, none), (1207, none), (1199, none)], none)))))))
theorem rk_f4D : RuOk SR ru_f4D := by
  intro τ m g hi hc ha hS
  exact ⟨rfl, trivial, trivial, fun h => absurd rfl h⟩
end
