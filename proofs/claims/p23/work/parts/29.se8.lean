noncomputable section
/-! ===== THE READER, 75: rules ===== -/
noncomputable def ru_uDa : Ru := ([(0, (1199, (0, (0, 0)))), (0, (1102, (0, (0, 0)))), (0, (1122, (0, (0, 0)))), (0, (1123, (0, (0, 0)))), (0, (1124, (0, (0, 0)))), (0, (1140, (0, (0, 0)))), (0, (1141, (0, (0, 0)))), (0, (1142, (0, (0, 0)))), (0, (1143, (0, (0, 0)))), (0, (1144, (0, (0, 0))))], ([], ([([(9, 1)], 5), ([(9, (-1))], (-5)), ([(2, (-1)), (6, 1)], 0), ([(2, 1), (6, (-1))], 0), ([(4, (-1))], (-22)), ([(4, 1)], 22), ([(5, (-1))], (-20))], (false, ([([(3, (-1)), (8, 1)], 0), ([(3, 1), (8, (-1))], 0), ([(7, 1)], (-1)), ([(7, (-1))], 1)], ([], ([], none)))))))
theorem rk_uDa : RuOk SR ru_uDa := by
  intro τ m g hi hc ha hS
  obtain ⟨i0, i1, i2, i3, i4, i5, i6, i7, i8, i9, _⟩ := hi
  have t1199 : τ 1199 = some (g 0) := i0
  have t1102 : τ 1102 = some (g 1) := i1
  have t1122 : τ 1122 = some (g 2) := i2
  have t1123 : τ 1123 = some (g 3) := i3
  have t1124 : τ 1124 = some (g 4) := i4
  have t1140 : τ 1140 = some (g 5) := i5
  have t1141 : τ 1141 = some (g 6) := i6
  have t1142 : τ 1142 = some (g 7) := i7
  have t1143 : τ 1143 = some (g 8) := i8
  have t1144 : τ 1144 = some (g 9) := i9
  obtain ⟨c0, c1, c2, c3, c4, c5, c6, _⟩ := hc
  have c0 : 1 * g 9 ≤ 5 := d1 c0
  have c1 : (-1) * g 9 ≤ (-5) := d1 c1
  have c2 : (-1) * g 2 + 1 * g 6 ≤ 0 := d2 c2
  have c3 : 1 * g 2 + (-1) * g 6 ≤ 0 := d2 c3
  have c4 : (-1) * g 4 ≤ (-22) := d1 c4
  have c5 : 1 * g 4 ≤ 22 := d1 c5
  have c6 : (-1) * g 5 ≤ (-20) := d1 c6
  obtain ⟨h0, k_tok, k_sc1, k_sc2, k_T, k_I, k_F, k_N, k_Y, k_Z, k_A, k_B, k_C, k_X, k_R, k_f4⟩ := hS (by rw [t1199]; exact fun e => by cases e)
  have k_tok0 := k_tok
  obtain ⟨h_L, h_n, h_nF⟩ := k_tok0
  have k_I0 := k_I
  obtain ⟨h_p, h_pc, h_ip, h_iP, h_PC, h_PN⟩ := k_I0
  have k_B0 := k_B
  obtain ⟨h_B0, h_B, h_Bd0, h_B26, h_B22, h_Bs⟩ := k_B0
  obtain ⟨hn0, _, hNT⟩ := h_nF _ t1102
  have hB := h_B _ _ _ _ _ _ t1102 t1140 t1141 t1142 t1143 t1144
  have rB := hB.1
  obtain ⟨⟨hi0, hi1⟩, hpi⟩ := h_ip _ _ _ t1102 t1122 t1123
  have eb : (g 2).toNat = (g 6).toNat := by omega
  rw [eb] at hpi
  have ep : (g 3).toNat = Tp9 (tx9 m) (g 6).toNat := by omega
  have hcc := h_pc _ _ t1123 t1124
  rw [ep] at hcc
  obtain ⟨y1, y2⟩ := RI_b hB 5 (by omega) (m_uD 22 (Or.inl rfl) (by omega) (by omega) (by omega))
  exact ⟨rfl, ⟨f2 (by omega), f2 (by omega), f1 (by omega), f1 (by omega), trivial⟩, trivial, fun _ => ⟨h0, k_tok, k_sc1, k_sc2, k_T, k_I, k_F, k_N, k_Y, k_Z, k_A, k_B, k_C, k_X, k_R, k_f4⟩⟩
noncomputable def ru_uDb : Ru := ([(0, (1199, (0, (0, 0)))), (0, (1102, (0, (0, 0)))), (0, (1122, (0, (0, 0)))), (0, (1123, (0, (0, 0)))), (0, (1124, (0, (0, 0)))), (0, (1140, (0, (0, 0)))), (0, (1141, (0, (0, 0)))), (0, (1142, (0, (0, 0)))), (0, (1143, (0, (0, 0)))), (0, (1144, (0, (0, 0))))], ([], ([([(9, 1)], 5), ([(9, (-1))], (-5)), ([(2, (-1)), (6, 1)], 0), ([(2, 1), (6, (-1))], 0), ([(4, (-1))], (-4)), ([(4, 1)], 4), ([(5, (-1))], (-20))], (false, ([([(3, (-1)), (8, 1)], 0), ([(3, 1), (8, (-1))], 0), ([(7, 1)], (-1)), ([(7, (-1))], 1)], ([], ([], none)))))))
theorem rk_uDb : RuOk SR ru_uDb := by
  intro τ m g hi hc ha hS
  obtain ⟨i0, i1, i2, i3, i4, i5, i6, i7, i8, i9, _⟩ := hi
  have t1199 : τ 1199 = some (g 0) := i0
  have t1102 : τ 1102 = some (g 1) := i1
  have t1122 : τ 1122 = some (g 2) := i2
  have t1123 : τ 1123 = some (g 3) := i3
  have t1124 : τ 1124 = some (g 4) := i4
  have t1140 : τ 1140 = some (g 5) := i5
  have t1141 : τ 1141 = some (g 6) := i6
  have t1142 : τ 1142 = some (g 7) := i7
  have t1143 : τ 1143 = some (g 8) := i8
  have t1144 : τ 1144 = some (g 9) := i9
  obtain ⟨c0, c1, c2, c3, c4, c5, c6, _⟩ := hc
  have c0 : 1 * g 9 ≤ 5 := d1 c0
  have c1 : (-1) * g 9 ≤ (-5) := d1 c1
  have c2 : (-1) * g 2 + 1 * g 6 ≤ 0 := d2 c2
  have c3 : 1 * g 2 + (-1) * g 6 ≤ 0 := d2 c3
  have c4 : (-1) * g 4 ≤ (-4) := d1 c4
  have c5 : 1 * g 4 ≤ 4 := d1 c5
  have c6 : (-1) * g 5 ≤ (-20) := d1 c6
  obtain ⟨h0, k_tok, k_sc1, k_sc2, k_T, k_I, k_F, k_N, k_Y, k_Z, k_A, k_B, k_C, k_X, k_R, k_f4⟩ := hS (by rw [t1199]; exact fun e => by cases e)
  have k_tok0 := k_tok
  obtain ⟨h_L, h_n, h_nF⟩ := k_tok0
  have k_I0 := k_I
  obtain ⟨h_p, h_pc, h_ip, h_iP, h_PC, h_PN⟩ := k_I0
  have k_B0 := k_B
  obtain ⟨h_B0, h_B, h_Bd0, h_B26, h_B22, h_Bs⟩ := k_B0
  obtain ⟨hn0, _, hNT⟩ := h_nF _ t1102
  have hB := h_B _ _ _ _ _ _ t1102 t1140 t1141 t1142 t1143 t1144
  have rB := hB.1
  obtain ⟨⟨hi0, hi1⟩, hpi⟩ := h_ip _ _ _ t1102 t1122 t1123
  have eb : (g 2).toNat = (g 6).toNat := by omega
  rw [eb] at hpi
  have ep : (g 3).toNat = Tp9 (tx9 m) (g 6).toNat := by omega
  have hcc := h_pc _ _ t1123 t1124
  rw [ep] at hcc
  obtain ⟨y1, y2⟩ := RI_b hB 5 (by omega) (m_uD 4 (Or.inr rfl) (by omega) (by omega) (by omega))
  exact ⟨rfl, ⟨f2 (by omega), f2 (by omega), f1 (by omega), f1 (by omega), trivial⟩, trivial, fun _ => ⟨h0, k_tok, k_sc1, k_sc2, k_T, k_I, k_F, k_N, k_Y, k_Z, k_A, k_B, k_C, k_X, k_R, k_f4⟩⟩
noncomputable def ru_uN : Ru := ([(0, (1199, (0, (0, 0)))), (0, (1102, (0, (0, 0)))), (0, (1122, (0, (0, 0)))), (0, (1123, (0, (0, 0)))), (0, (1124, (0, (0, 0)))), (0, (1140, (0, (0, 0)))), (0, (1141, (0, (0, 0)))), (0, (1142, (0, (0, 0)))), (0, (1143, (0, (0, 0)))), (0, (1144, (0, (0, 0))))], ([], ([([(9, 1)], 5), ([(9, (-1))], (-5)), ([(2, (-1)), (6, 1)], 0), ([(2, 1), (6, (-1))], 0), ([(4, (-1))], (-22)), ([(4, 1)], 22), ([(5, 1)], 19)], (false, ([], ([], ([(1141, some (6, 1)), (1140, some (5, 1))], none)))))))
theorem rk_uN : RuOk SR ru_uN := by
  intro τ m g hi hc ha hS
  obtain ⟨i0, i1, i2, i3, i4, i5, i6, i7, i8, i9, _⟩ := hi
  have t1199 : τ 1199 = some (g 0) := i0
  have t1102 : τ 1102 = some (g 1) := i1
  have t1122 : τ 1122 = some (g 2) := i2
  have t1123 : τ 1123 = some (g 3) := i3
  have t1124 : τ 1124 = some (g 4) := i4
  have t1140 : τ 1140 = some (g 5) := i5
  have t1141 : τ 1141 = some (g 6) := i6
  have t1142 : τ 1142 = some (g 7) := i7
  have t1143 : τ 1143 = some (g 8) := i8
  have t1144 : τ 1144 = some (g 9) := i9
  obtain ⟨c0, c1, c2, c3, c4, c5, c6, _⟩ := hc
  have c0 : 1 * g 9 ≤ 5 := d1 c0
  have c1 : (-1) * g 9 ≤ (-5) := d1 c1
  have c2 : (-1) * g 2 + 1 * g 6 ≤ 0 := d2 c2
  have c3 : 1 * g 2 + (-1) * g 6 ≤ 0 := d2 c3
  have c4 : (-1) * g 4 ≤ (-22) := d1 c4
  have c5 : 1 * g 4 ≤ 22 := d1 c5
  have c6 : 1 * g 5 ≤ 19 := d1 c6
  obtain ⟨h0, k_tok, k_sc1, k_sc2, k_T, k_I, k_F, k_N, k_Y, k_Z, k_A, k_B, k_C, k_X, k_R, k_f4⟩ := hS (by rw [t1199]; exact fun e => by cases e)
  have k_tok0 := k_tok
  obtain ⟨h_L, h_n, h_nF⟩ := k_tok0
  have k_I0 := k_I
  obtain ⟨h_p, h_pc, h_ip, h_iP, h_PC, h_PN⟩ := k_I0
  have k_B0 := k_B
  obtain ⟨h_B0, h_B, h_Bd0, h_B26, h_B22, h_Bs⟩ := k_B0
  obtain ⟨hn0, _, hNT⟩ := h_nF _ t1102
  have hB := h_B _ _ _ _ _ _ t1102 t1140 t1141 t1142 t1143 t1144
  have rB := hB.1
  obtain ⟨⟨hi0, hi1⟩, hpi⟩ := h_ip _ _ _ t1102 t1122 t1123
  have eb : (g 2).toNat = (g 6).toNat := by omega
  rw [eb] at hpi
  have ep : (g 3).toNat = Tp9 (tx9 m) (g 6).toNat := by omega
  have hcc := h_pc _ _ t1123 t1124
  rw [ep] at hcc
  have hx1 := NT_next hNT (i := (g 6).toNat) (by omega) (by omega)
  exact ⟨rfl, trivial, trivial, fun _ => ⟨h0, k_tok, k_sc1, k_sc2, k_T, k_I, k_F, k_N, k_Y, k_Z, k_A, ⟨fun nF Bd Bi Br Bm e0 e1 e2 e3 e4 => by
      have e0 : g 1 = nF := Option.some.inj (t1102.symm.trans e0)
      subst e0
      have e1 : g 5 + 1 = Bd := Option.some.inj e1
      subst e1
      have e2 : g 6 + 1 = Bi := Option.some.inj e2
      subst e2
      have e3 : g 7 = Br := Option.some.inj (t1142.symm.trans e3)
      subst e3
      have e4 : g 9 = Bm := Option.some.inj (t1144.symm.trans e4)
      subst e4
      exact ⟨_, RI_u hB 5 5 (by omega) (by omega) rfl (by omega) ⟨by omega, by omega⟩ (fun r h => by
              rw [St_n (by omega)] at h
              rw [show (g 5 + 1).toNat = (g 5).toNat + 1 by omega] at h
              exact m_uN (by omega) (by omega) (by omega) h)⟩, fun nF Bd Bi Br Bx Bm e0 e1 e2 e3 e4 e5 => by
      have e0 : g 1 = nF := Option.some.inj (t1102.symm.trans e0)
      subst e0
      have e1 : g 5 + 1 = Bd := Option.some.inj e1
      subst e1
      have e2 : g 6 + 1 = Bi := Option.some.inj e2
      subst e2
      have e3 : g 7 = Br := Option.some.inj (t1142.symm.trans e3)
      subst e3
      have e4 : g 8 = Bx := Option.some.inj (t1143.symm.trans e4)
      subst e4
      have e5 : g 9 = Bm := Option.some.inj (t1144.symm.trans e5)
      subst e5
      exact RI_u hB 5 5 (by omega) (by omega) rfl (by omega) ⟨by omega, by omega⟩ (fun r h => by
              rw [St_n (by omega)] at h
              rw [show (g 5 + 1).toNat = (g 5).toNat + 1 by omega] at h
              exact m_uN (by omega) (by omega) (by omega) h), fun Bd e0 => by
      have e0 : g 5 + 1 = Bd := Option.some.inj e0
      subst e0
      omega, fun Bd Bi Bm e0 e1 e2 => by
      have e0 : g 5 + 1 = Bd := Option.some.inj e0
      subst e0
      have e1 : g 6 + 1 = Bi := Option.some.inj e1
      subst e1
      have e2 : g 9 = Bm := Option.some.inj (t1144.symm.trans e2)
      subst e2
      intro h
      omega, fun Bd Bi Bm Bf e0 e1 e2 e3 => by
      have e0 : g 5 + 1 = Bd := Option.some.inj e0
      subst e0
      have e1 : g 6 + 1 = Bi := Option.some.inj e1
      subst e1
      have e2 : g 9 = Bm := Option.some.inj (t1144.symm.trans e2)
      subst e2
      intro h
      omega, h_Bs⟩, k_C, k_X, k_R, k_f4⟩⟩
noncomputable def ru_uK : Ru := ([(0, (1199, (0, (0, 0)))), (0, (1102, (0, (0, 0)))), (0, (1122, (0, (0, 0)))), (0, (1123, (0, (0, 0)))), (0, (1124, (0, (0, 0)))), (0, (1140, (0, (0, 0)))), (0, (1141, (0, (0, 0)))), (0, (1142, (0, (0, 0)))), (0, (1143, (0, (0, 0)))), (0, (1144, (0, (0, 0)))), (4, (0, (0, (9, 0))))], ([], ([([(9, 1)], 5), ([(9, (-1))], (-5)), ([(2, (-1)), (6, 1)], 0), ([(2, 1), (6, (-1))], 0), ([(4, (-1))], (-23)), ([(4, 1)], 23)], (false, ([], ([], ([(1141, some (6, 1)), (1144, some (10, 0))], none)))))))
theorem rk_uK : RuOk SR ru_uK := by
  intro τ m g hi hc ha hS
  obtain ⟨i0, i1, i2, i3, i4, i5, i6, i7, i8, i9, i10, _⟩ := hi
  have t1199 : τ 1199 = some (g 0) := i0
  have t1102 : τ 1102 = some (g 1) := i1
  have t1122 : τ 1122 = some (g 2) := i2
  have t1123 : τ 1123 = some (g 3) := i3
  have t1124 : τ 1124 = some (g 4) := i4
  have t1140 : τ 1140 = some (g 5) := i5
  have t1141 : τ 1141 = some (g 6) := i6
  have t1142 : τ 1142 = some (g 7) := i7
  have t1143 : τ 1143 = some (g 8) := i8
  have t1144 : τ 1144 = some (g 9) := i9
  have xk : g 10 = 9 := i10
  obtain ⟨c0, c1, c2, c3, c4, c5, _⟩ := hc
  have c0 : 1 * g 9 ≤ 5 := d1 c0
  have c1 : (-1) * g 9 ≤ (-5) := d1 c1
  have c2 : (-1) * g 2 + 1 * g 6 ≤ 0 := d2 c2
  have c3 : 1 * g 2 + (-1) * g 6 ≤ 0 := d2 c3
  have c4 : (-1) * g 4 ≤ (-23) := d1 c4
  have c5 : 1 * g 4 ≤ 23 := d1 c5
  obtain ⟨h0, k_tok, k_sc1, k_sc2, k_T, k_I, k_F, k_N, k_Y, k_Z, k_A, k_B, k_C, k_X, k_R, k_f4⟩ := hS (by rw [t1199]; exact fun e => by cases e)
  have k_tok0 := k_tok
  obtain ⟨h_L, h_n, h_nF⟩ := k_tok0
  have k_I0 := k_I
  obtain ⟨h_p, h_pc, h_ip, h_iP, h_PC, h_PN⟩ := k_I0
  have k_B0 := k_B
  obtain ⟨h_B0, h_B, h_Bd0, h_B26, h_B22, h_Bs⟩ := k_B0
  obtain ⟨hn0, _, hNT⟩ := h_nF _ t1102
  have hB := h_B _ _ _ _ _ _ t1102 t1140 t1141 t1142 t1143 t1144
  have rB := hB.1
  obtain ⟨⟨hi0, hi1⟩, hpi⟩ := h_ip _ _ _ t1102 t1122 t1123
  have eb : (g 2).toNat = (g 6).toNat := by omega
  rw [eb] at hpi
  have ep : (g 3).toNat = Tp9 (tx9 m) (g 6).toNat := by omega
  have hcc := h_pc _ _ t1123 t1124
  rw [ep] at hcc
  have hx1 := NT_next hNT (i := (g 6).toNat) (by omega) (by omega)
  exact ⟨rfl, trivial, trivial, fun _ => ⟨h0, k_tok, k_sc1, k_sc2, k_T, k_I, k_F, k_N, k_Y, k_Z, k_A, ⟨fun nF Bd Bi Br Bm e0 e1 e2 e3 e4 => by
      have e0 : g 1 = nF := Option.some.inj (t1102.symm.trans e0)
      subst e0
      have e1 : g 5 = Bd := Option.some.inj (t1140.symm.trans e1)
      subst e1
      have e2 : g 6 + 1 = Bi := Option.some.inj e2
      subst e2
      have e3 : g 7 = Br := Option.some.inj (t1142.symm.trans e3)
      subst e3
      have e4 : g 10 + 0 = Bm := Option.some.inj e4
      subst e4
      exact ⟨_, RI_u hB 5 9 (by omega) (by omega) rfl (by omega) ⟨by omega, by omega⟩ (fun r h => by
              rw [St_n (by omega)] at h
              exact m_uK (d := (g 5).toNat) (by omega) (by omega) h)⟩, fun nF Bd Bi Br Bx Bm e0 e1 e2 e3 e4 e5 => by
      have e0 : g 1 = nF := Option.some.inj (t1102.symm.trans e0)
      subst e0
      have e1 : g 5 = Bd := Option.some.inj (t1140.symm.trans e1)
      subst e1
      have e2 : g 6 + 1 = Bi := Option.some.inj e2
      subst e2
      have e3 : g 7 = Br := Option.some.inj (t1142.symm.trans e3)
      subst e3
      have e4 : g 8 = Bx := Option.some.inj (t1143.symm.trans e4)
      subst e4
      have e5 : g 10 + 0 = Bm := Option.some.inj e5
      subst e5
      exact RI_u hB 5 9 (by omega) (by omega) rfl (by omega) ⟨by omega, by omega⟩ (fun r h => by
              rw [St_n (by omega)] at h
              exact m_uK (d := (g 5).toNat) (by omega) (by omega) h), h_Bd0, fun Bd Bi Bm e0 e1 e2 => by
      have e0 : g 5 = Bd := Option.some.inj (t1140.symm.trans e0)
      subst e0
      have e1 : g 6 + 1 = Bi := Option.some.inj e1
      subst e1
      have e2 : g 10 + 0 = Bm := Option.some.inj e2
      subst e2
      intro h
      omega, fun Bd Bi Bm Bf e0 e1 e2 e3 => by
      have e0 : g 5 = Bd := Option.some.inj (t1140.symm.trans e0)
      subst e0
      have e1 : g 6 + 1 = Bi := Option.some.inj e1
      subst e1
      have e2 : g 10 + 0 = Bm := Option.some.inj e2
      subst e2
      intro h
      omega, h_Bs⟩, k_C, k_X, k_R, k_f4⟩⟩
noncomputable def ru_uCa : Ru := ([(0, (1199, (0, (0, 0)))), (0, (1102, (0, (0, 0)))), (0, (1122, (0, (0, 0)))), (0, (1123, (0, (0, 0)))), (0, (1124, (0, (0, 0)))), (0, (1140, (0, (0, 0)))), (0, (1141, (0, (0, 0)))), (0, (1142, (0, (0, 0)))), (0, (1143, (0, (0, 0)))), (0, (1144, (0, (0, 0)))), (4, (0, (0, (6, 0))))], ([], ([([(9, 1)], 5), ([(9, (-1))], (-5)), ([(2, (-1)), (6, 1)], 0), ([(2, 1), (6, (-1))], 0), ([(4, (-1))], 0), ([(4, 1)], 3)], (false, ([], ([], ([(1144, some (10, 0))], none)))))))
theorem rk_uCa : RuOk SR ru_uCa := by
  intro τ m g hi hc ha hS
  obtain ⟨i0, i1, i2, i3, i4, i5, i6, i7, i8, i9, i10, _⟩ := hi
  have t1199 : τ 1199 = some (g 0) := i0
  have t1102 : τ 1102 = some (g 1) := i1
  have t1122 : τ 1122 = some (g 2) := i2
  have t1123 : τ 1123 = some (g 3) := i3
  have t1124 : τ 1124 = some (g 4) := i4
  have t1140 : τ 1140 = some (g 5) := i5
  have t1141 : τ 1141 = some (g 6) := i6
  have t1142 : τ 1142 = some (g 7) := i7
  have t1143 : τ 1143 = some (g 8) := i8
  have t1144 : τ 1144 = some (g 9) := i9
  have xk : g 10 = 6 := i10
  obtain ⟨c0, c1, c2, c3, c4, c5, _⟩ := hc
  have c0 : 1 * g 9 ≤ 5 := d1 c0
  have c1 : (-1) * g 9 ≤ (-5) := d1 c1
  have c2 : (-1) * g 2 + 1 * g 6 ≤ 0 := d2 c2
  have c3 : 1 * g 2 + (-1) * g 6 ≤ 0 := d2 c3
  have c4 : (-1) * g 4 ≤ 0 := d1 c4
  have c5 : 1 * g 4 ≤ 3 := d1 c5
  obtain ⟨h0, k_tok, k_sc1, k_sc2, k_T, k_I, k_F, k_N, k_Y, k_Z, k_A, k_B, k_C, k_X, k_R, k_f4⟩ := hS (by rw [t1199]; exact fun e => by cases e)
  have k_tok0 := k_tok
  obtain ⟨h_L, h_n, h_nF⟩ := k_tok0
  have k_I0 := k_I
  obtain ⟨h_p, h_pc, h_ip, h_iP, h_PC, h_PN⟩ := k_I0
  have k_B0 := k_B
  obtain ⟨h_B0, h_B, h_Bd0, h_B26, h_B22, h_Bs⟩ := k_B0
  obtain ⟨hn0, _, hNT⟩ := h_nF _ t1102
  have hB := h_B _ _ _ _ _ _ t1102 t1140 t1141 t1142 t1143 t1144
  have rB := hB.1
  obtain ⟨⟨hi0, hi1⟩, hpi⟩ := h_ip _ _ _ t1102 t1122 t1123
  have eb : (g 2).toNat = (g 6).toNat := by omega
  rw [eb] at hpi
  have ep : (g 3).toNat = Tp9 (tx9 m) (g 6).toNat := by omega
  have hcc := h_pc _ _ t1123 t1124
  rw [ep] at hcc
  exact ⟨rfl, trivial, trivial, fun _ => ⟨h0, k_tok, k_sc1, k_sc2, k_T, k_I, k_F, k_N, k_Y, k_Z, k_A, ⟨fun nF Bd Bi Br Bm e0 e1 e2 e3 e4 => by
      have e0 : g 1 = nF := Option.some.inj (t1102.symm.trans e0)
      subst e0
      have e1 : g 5 = Bd := Option.some.inj (t1140.symm.trans e1)
      subst e1
      have e2 : g 6 = Bi := Option.some.inj (t1141.symm.trans e2)
      subst e2
      have e3 : g 7 = Br := Option.some.inj (t1142.symm.trans e3)
      subst e3
      have e4 : g 10 + 0 = Bm := Option.some.inj e4
      subst e4
      exact ⟨_, RI_u hB 5 6 (by omega) (by omega) rfl (by omega) ⟨by omega, by omega⟩ (fun r h => by
              exact m_uCa (by omega) h)⟩, fun nF Bd Bi Br Bx Bm e0 e1 e2 e3 e4 e5 => by
      have e0 : g 1 = nF := Option.some.inj (t1102.symm.trans e0)
      subst e0
      have e1 : g 5 = Bd := Option.some.inj (t1140.symm.trans e1)
      subst e1
      have e2 : g 6 = Bi := Option.some.inj (t1141.symm.trans e2)
      subst e2
      have e3 : g 7 = Br := Option.some.inj (t1142.symm.trans e3)
      subst e3
      have e4 : g 8 = Bx := Option.some.inj (t1143.symm.trans e4)
      subst e4
      have e5 : g 10 + 0 = Bm := Option.some.inj e5
      subst e5
      exact RI_u hB 5 6 (by omega) (by omega) rfl (by omega) ⟨by omega, by omega⟩ (fun r h => by
              exact m_uCa (by omega) h), h_Bd0, fun Bd Bi Bm e0 e1 e2 => by
      have e0 : g 5 = Bd := Option.some.inj (t1140.symm.trans e0)
      subst e0
      have e1 : g 6 = Bi := Option.some.inj (t1141.symm.trans e1)
      subst e1
      have e2 : g 10 + 0 = Bm := Option.some.inj e2
      subst e2
      intro h
      omega, fun Bd Bi Bm Bf e0 e1 e2 e3 => by
      have e0 : g 5 = Bd := Option.some.inj (t1140.symm.trans e0)
      subst e0
      have e1 : g 6 = Bi := Option.some.inj (t1141.symm.trans e1)
      subst e1
      have e2 : g 10 + 0 = Bm := Option.some.inj e2
      subst e2
      intro h
      omega, h_Bs⟩, k_C, k_X, k_R, k_f4⟩⟩
noncomputable def ru_uCb : Ru := ([(0, (1199, (0, (0, 0)))), (0, (1102, (0, (0, 0)))), (0, (1122, (0, (0, 0)))), (0, (1123, (0, (0, 0)))), (0, (1124, (0, (0, 0)))), (0, (1140, (0, (0, 0)))), (0, (1141, (0, (0, 0)))), (0, (1142, (0, (0, 0)))), (0, (1143, (0, (0, 0)))), (0, (1144, (0, (0, 0)))), (4, (0, (0, (6, 0))))], ([], ([([(9, 1)], 5), ([(9, (-1))], (-5)), ([(2, (-1)), (6, 1)], 0), ([(2, 1), (6, (-1))], 0), ([(4, (-1))], (-5)), ([(4, 1)], 21)], (false, ([], ([], ([(1144, some (10, 0))], none)))))))
theorem rk_uCb : RuOk SR ru_uCb := by
  intro τ m g hi hc ha hS
  obtain ⟨i0, i1, i2, i3, i4, i5, i6, i7, i8, i9, i10, _⟩ := hi
  have t1199 : τ 1199 = some (g 0) := i0
  have t1102 : τ 1102 = some (g 1) := i1
  have t1122 : τ 1122 = some (g 2) := i2
  have t1123 : τ 1123 = some (g 3) := i3
  have t1124 : τ 1124 = some (g 4) := i4
  have t1140 : τ 1140 = some (g 5) := i5
  have t1141 : τ 1141 = some (g 6) := i6
  have t1142 : τ 1142 = some (g 7) := i7
  have t1143 : τ 1143 = some (g 8) := i8
  have t1144 : τ 1144 = some (g 9) := i9
  have xk : g 10 = 6 := i10
  obtain ⟨c0, c1, c2, c3, c4, c5, _⟩ := hc
  have c0 : 1 * g 9 ≤ 5 := d1 c0
  have c1 : (-1) * g 9 ≤ (-5) := d1 c1
  have c2 : (-1) * g 2 + 1 * g 6 ≤ 0 := d2 c2
  have c3 : 1 * g 2 + (-1) * g 6 ≤ 0 := d2 c3
  have c4 : (-1) * g 4 ≤ (-5) := d1 c4
  have c5 : 1 * g 4 ≤ 21 := d1 c5
  obtain ⟨h0, k_tok, k_sc1, k_sc2, k_T, k_I, k_F, k_N, k_Y, k_Z, k_A, k_B, k_C, k_X, k_R, k_f4⟩ := hS (by rw [t1199]; exact fun e => by cases e)
  have k_tok0 := k_tok
  obtain ⟨h_L, h_n, h_nF⟩ := k_tok0
  have k_I0 := k_I
  obtain ⟨h_p, h_pc, h_ip, h_iP, h_PC, h_PN⟩ := k_I0
  have k_B0 := k_B
  obtain ⟨h_B0, h_B, h_Bd0, h_B26, h_B22, h_Bs⟩ := k_B0
  obtain ⟨hn0, _, hNT⟩ := h_nF _ t1102
  have hB := h_B _ _ _ _ _ _ t1102 t1140 t1141 t1142 t1143 t1144
  have rB := hB.1
  obtain ⟨⟨hi0, hi1⟩, hpi⟩ := h_ip _ _ _ t1102 t1122 t1123
  have eb : (g 2).toNat = (g 6).toNat := by omega
  rw [eb] at hpi
  have ep : (g 3).toNat = Tp9 (tx9 m) (g 6).toNat := by omega
  have hcc := h_pc _ _ t1123 t1124
  rw [ep] at hcc
  exact ⟨rfl, trivial, trivial, fun _ => ⟨h0, k_tok, k_sc1, k_sc2, k_T, k_I, k_F, k_N, k_Y, k_Z, k_A, ⟨fun nF Bd Bi Br Bm e0 e1 e2 e3 e4 => by
      have e0 : g 1 = nF := Option.some.inj (t1102.symm.trans e0)
      subst e0
      have e1 : g 5 = Bd := Option.some.inj (t1140.symm.trans e1)
      subst e1
      have e2 : g 6 = Bi := Option.some.inj (t1141.symm.trans e2)
      subst e2
      have e3 : g 7 = Br := Option.some.inj (t1142.symm.trans e3)
      subst e3
      have e4 : g 10 + 0 = Bm := Option.some.inj e4
      subst e4
      exact ⟨_, RI_u hB 5 6 (by omega) (by omega) rfl (by omega) ⟨by omega, by omega⟩ (fun r h => by
              exact m_uCb (by omega) (by omega) h)⟩, fun nF Bd Bi Br Bx Bm e0 e1 e2 e3 e4 e5 => by
      have e0 : g 1 = nF := Option.some.inj (t1102.symm.trans e0)
      subst e0
      have e1 : g 5 = Bd := Option.some.inj (t1140.symm.trans e1)
      subst e1
      have e2 : g 6 = Bi := Option.some.inj (t1141.symm.trans e2)
      subst e2
      have e3 : g 7 = Br := Option.some.inj (t1142.symm.trans e3)
      subst e3
      have e4 : g 8 = Bx := Option.some.inj (t1143.symm.trans e4)
      subst e4
      have e5 : g 10 + 0 = Bm := Option.some.inj e5
      subst e5
      exact RI_u hB 5 6 (by omega) (by omega) rfl (by omega) ⟨by omega, by omega⟩ (fun r h => by
              exact m_uCb (by omega) (by omega) h), h_Bd0, fun Bd Bi Bm e0 e1 e2 => by
      have e0 : g 5 = Bd := Option.some.inj (t1140.symm.trans e0)
      subst e0
      have e1 : g 6 = Bi := Option.some.inj (t1141.symm.trans e1)
      subst e1
      have e2 : g 10 + 0 = Bm := Option.some.inj e2
      subst e2
      intro h
      omega, fun Bd Bi Bm Bf e0 e1 e2 e3 => by
      have e0 : g 5 = Bd := Option.some.inj (t1140.symm.trans e0)
      subst e0
      have e1 : g 6 = Bi := Option.some.inj (t1141.symm.trans e1)
      subst e1
      have e2 : g 10 + 0 = Bm := Option.some.inj e2
      subst e2
      intro h
      omega, h_Bs⟩, k_C, k_X, k_R, k_f4⟩⟩
noncomputable def ru_uCc : Ru := ([(0, (1199, (0, (0, 0)))), (0, (1102, (0, (0, 0)))), (0, (1122, (0, (0, 0)))), (0, (1123, (0, (0, 0)))), (0, (1124, (0, (0, 0)))), (0, (1140, (0, (0, 0)))), (0, (1141, (0, (0, 0)))), (0, (1142, (0, (0, 0)))), (0, (1143, (0, (0, 0)))), (0, (1144, (0, (0, 0)))), (4, (0, (0, (6, 0))))], ([], ([([(9, 1)], 5), ([(9, (-1))], (-5)), ([(2, (-1)), (6, 1)], 0), ([(2, 1), (6, (-1))], 0), ([(4, (-1))], (-24)), ([(4, 1)], 51)], (false, ([], ([], ([(1144, some (10, 0))], none)))))))
theorem rk_uCc : RuOk SR ru_uCc := by
  intro τ m g hi hc ha hS
  obtain ⟨i0, i1, i2, i3, i4, i5, i6, i7, i8, i9, i10, _⟩ := hi
  have t1199 : τ 1199 = some (g 0) := i0
  have t1102 : τ 1102 = some (g 1) := i1
  have t1122 : τ 1122 = some (g 2) := i2
  have t1123 : τ 1123 = some (g 3) := i3
  have t1124 : τ 1124 = some (g 4) := i4
  have t1140 : τ 1140 = some (g 5) := i5
  have t1141 : τ 1141 = some (g 6) := i6
  have t1142 : τ 1142 = some (g 7) := i7
  have t1143 : τ 1143 = some (g 8) := i8
  have t1144 : τ 1144 = some (g 9) := i9
  have xk : g 10 = 6 := i10
  obtain ⟨c0, c1, c2, c3, c4, c5, _⟩ := hc
  have c0 : 1 * g 9 ≤ 5 := d1 c0
  have c1 : (-1) * g 9 ≤ (-5) := d1 c1
  have c2 : (-1) * g 2 + 1 * g 6 ≤ 0 := d2 c2
  have c3 : 1 * g 2 + (-1) * g 6 ≤ 0 := d2 c3
  have c4 : (-1) * g 4 ≤ (-24) := d1 c4
  have c5 : 1 * g 4 ≤ 51 := d1 c5
  obtain ⟨h0, k_tok, k_sc1, k_sc2, k_T, k_I, k_F, k_N, k_Y, k_Z, k_A, k_B, k_C, k_X, k_R, k_f4⟩ := hS (by rw [t1199]; exact fun e => by cases e)
  have k_tok0 := k_tok
  obtain ⟨h_L, h_n, h_nF⟩ := k_tok0
  have k_I0 := k_I
  obtain ⟨h_p, h_pc, h_ip, h_iP, h_PC, h_PN⟩ := k_I0
  have k_B0 := k_B
  obtain ⟨h_B0, h_B, h_Bd0, h_B26, h_B22, h_Bs⟩ := k_B0
  obtain ⟨hn0, _, hNT⟩ := h_nF _ t1102
  have hB := h_B _ _ _ _ _ _ t1102 t1140 t1141 t1142 t1143 t1144
  have rB := hB.1
  obtain ⟨⟨hi0, hi1⟩, hpi⟩ := h_ip _ _ _ t1102 t1122 t1123
  have eb : (g 2).toNat = (g 6).toNat := by omega
  rw [eb] at hpi
  have ep : (g 3).toNat = Tp9 (tx9 m) (g 6).toNat := by omega
  have hcc := h_pc _ _ t1123 t1124
  rw [ep] at hcc
  exact ⟨rfl, trivial, trivial, fun _ => ⟨h0, k_tok, k_sc1, k_sc2, k_T, k_I, k_F, k_N, k_Y, k_Z, k_A, ⟨fun nF Bd Bi Br Bm e0 e1 e2 e3 e4 => by
      have e0 : g 1 = nF := Option.some.inj (t1102.symm.trans e0)
      subst e0
      have e1 : g 5 = Bd := Option.some.inj (t1140.symm.trans e1)
      subst e1
      have e2 : g 6 = Bi := Option.some.inj (t1141.symm.trans e2)
      subst e2
      have e3 : g 7 = Br := Option.some.inj (t1142.symm.trans e3)
      subst e3
      have e4 : g 10 + 0 = Bm := Option.some.inj e4
      subst e4
      exact ⟨_, RI_u hB 5 6 (by omega) (by omega) rfl (by omega) ⟨by omega, by omega⟩ (fun r h => by
              exact m_uCc (by omega) h)⟩, fun nF Bd Bi Br Bx Bm e0 e1 e2 e3 e4 e5 => by
      have e0 : g 1 = nF := Option.some.inj (t1102.symm.trans e0)
      subst e0
      have e1 : g 5 = Bd := Option.some.inj (t1140.symm.trans e1)
      subst e1
      have e2 : g 6 = Bi := Option.some.inj (t1141.symm.trans e2)
      subst e2
      have e3 : g 7 = Br := Option.some.inj (t1142.symm.trans e3)
      subst e3
      have e4 : g 8 = Bx := Option.some.inj (t1143.symm.trans e4)
      subst e4
      have e5 : g 10 + 0 = Bm := Option.some.inj e5
      subst e5
      exact RI_u hB 5 6 (by omega) (by omega) rfl (by omega) ⟨by omega, by omega⟩ (fun r h => by
              exact m_uCc (by omega) h), h_Bd0, fun Bd Bi Bm e0 e1 e2 => by
      have e0 : g 5 = Bd := Option.some.inj (t1140.symm.trans e0)
      subst e0
      have e1 : g 6 = Bi := Option.some.inj (t1141.symm.trans e1)
      subst e1
      have e2 : g 10 + 0 = Bm := Option.some.inj e2
      subst e2
      intro h
      omega, fun Bd Bi Bm Bf e0 e1 e2 e3 => by
      have e0 : g 5 = Bd := Option.some.inj (t1140.symm.trans e0)
      subst e0
      have e1 : g 6 = Bi := Option.some.inj (t1141.symm.trans e1)
      subst e1
      have e2 : g 10 + 0 = Bm := Option.some.inj e2
      subst e2
      intro h
      omega, h_Bs⟩, k_C, k_X, k_R, k_f4⟩⟩
noncomputable def ru_bP : Ru := ([(0, (1199, (0, (0, 0)))), (0, (1102, (0, (0, 0)))), (0, (1122, (0, (0, 0)))), (0, (1123, (0, (0, 0)))), (0, (1124, (0, (0, 0)))), (0, (1140, (0, (0, 0)))), (0, (1141, (0, (0, 0)))), (0, (1142, (0, (0, 0)))), (0, (1143, (0, (0, 0)))), (0, (1144, (0, (0, 0)))), (4, (0, (0, (26, 0))))], ([], ([([(9, 1)], 5), ([(9, (-1))], (-5)), ([(2, (-1)), (6, 1)], 0), ([(2, 1), (6, (-1))], 0), ([(4, (-1))], (-4)), ([(4, 1)], 4), ([(5, 1)], 19)], (false, ([], ([], ([(1144, some (10, 0)), (1146, some (2, 0)), (1147, some (3, 0))], none)))))))
theorem rk_bP : RuOk SR ru_bP := by
  intro τ m g hi hc ha hS
  obtain ⟨i0, i1, i2, i3, i4, i5, i6, i7, i8, i9, i10, _⟩ := hi
  have t1199 : τ 1199 = some (g 0) := i0
  have t1102 : τ 1102 = some (g 1) := i1
  have t1122 : τ 1122 = some (g 2) := i2
  have t1123 : τ 1123 = some (g 3) := i3
  have t1124 : τ 1124 = some (g 4) := i4
  have t1140 : τ 1140 = some (g 5) := i5
  have t1141 : τ 1141 = some (g 6) := i6
  have t1142 : τ 1142 = some (g 7) := i7
  have t1143 : τ 1143 = some (g 8) := i8
  have t1144 : τ 1144 = some (g 9) := i9
  have xk : g 10 = 26 := i10
  obtain ⟨c0, c1, c2, c3, c4, c5, c6, _⟩ := hc
  have c0 : 1 * g 9 ≤ 5 := d1 c0
  have c1 : (-1) * g 9 ≤ (-5) := d1 c1
  have c2 : (-1) * g 2 + 1 * g 6 ≤ 0 := d2 c2
  have c3 : 1 * g 2 + (-1) * g 6 ≤ 0 := d2 c3
  have c4 : (-1) * g 4 ≤ (-4) := d1 c4
  have c5 : 1 * g 4 ≤ 4 := d1 c5
  have c6 : 1 * g 5 ≤ 19 := d1 c6
  obtain ⟨h0, k_tok, k_sc1, k_sc2, k_T, k_I, k_F, k_N, k_Y, k_Z, k_A, k_B, k_C, k_X, k_R, k_f4⟩ := hS (by rw [t1199]; exact fun e => by cases e)
  have k_tok0 := k_tok
  obtain ⟨h_L, h_n, h_nF⟩ := k_tok0
  have k_I0 := k_I
  obtain ⟨h_p, h_pc, h_ip, h_iP, h_PC, h_PN⟩ := k_I0
  have k_B0 := k_B
  obtain ⟨h_B0, h_B, h_Bd0, h_B26, h_B22, h_Bs⟩ := k_B0
  obtain ⟨hn0, _, hNT⟩ := h_nF _ t1102
  have hB := h_B _ _ _ _ _ _ t1102 t1140 t1141 t1142 t1143 t1144
  have rB := hB.1
  have hpo := h_ip _ _ _ t1102 t1122 t1123
  obtain ⟨⟨hi0, hi1⟩, hpi⟩ := h_ip _ _ _ t1102 t1122 t1123
  have eb : (g 2).toNat = (g 6).toNat := by omega
  rw [eb] at hpi
  have ep : (g 3).toNat = Tp9 (tx9 m) (g 6).toNat := by omega
  have hcc := h_pc _ _ t1123 t1124
  rw [ep] at hcc
  exact ⟨rfl, trivial, trivial, fun _ => ⟨h0, k_tok, k_sc1, k_sc2, k_T, k_I, k_F, k_N, k_Y, k_Z, k_A, ⟨fun nF Bd Bi Br Bm e0 e1 e2 e3 e4 => by
      have e0 : g 1 = nF := Option.some.inj (t1102.symm.trans e0)
      subst e0
      have e1 : g 5 = Bd := Option.some.inj (t1140.symm.trans e1)
      subst e1
      have e2 : g 6 = Bi := Option.some.inj (t1141.symm.trans e2)
      subst e2
      have e3 : g 7 = Br := Option.some.inj (t1142.symm.trans e3)
      subst e3
      have e4 : g 10 + 0 = Bm := Option.some.inj e4
      subst e4
      exact ⟨_, RI_u hB 5 26 (by omega) (by omega) rfl (by omega) ⟨by omega, by omega⟩ (fun r h => by
              exact h)⟩, fun nF Bd Bi Br Bx Bm e0 e1 e2 e3 e4 e5 => by
      have e0 : g 1 = nF := Option.some.inj (t1102.symm.trans e0)
      subst e0
      have e1 : g 5 = Bd := Option.some.inj (t1140.symm.trans e1)
      subst e1
      have e2 : g 6 = Bi := Option.some.inj (t1141.symm.trans e2)
      subst e2
      have e3 : g 7 = Br := Option.some.inj (t1142.symm.trans e3)
      subst e3
      have e4 : g 8 = Bx := Option.some.inj (t1143.symm.trans e4)
      subst e4
      have e5 : g 10 + 0 = Bm := Option.some.inj e5
      subst e5
      exact RI_u hB 5 26 (by omega) (by omega) rfl (by omega) ⟨by omega, by omega⟩ (fun r h => by
              exact h), h_Bd0, fun Bd Bi Bm e0 e1 e2 => by
      have e0 : g 5 = Bd := Option.some.inj (t1140.symm.trans e0)
      subst e0
      have e1 : g 6 = Bi := Option.some.inj (t1141.symm.trans e1)
      subst e1
      have e2 : g 10 + 0 = Bm := Option.some.inj e2
      subst e2
      intro h
      exact ⟨⟨by omega, by omega⟩, by omega⟩, fun Bd Bi Bm Bf e0 e1 e2 e3 => by
      have e0 : g 5 = Bd := Option.some.inj (t1140.symm.trans e0)
      subst e0
      have e1 : g 6 = Bi := Option.some.inj (t1141.symm.trans e1)
      subst e1
      have e2 : g 10 + 0 = Bm := Option.some.inj e2
      subst e2
      intro h
      omega, fun nF Bs Bp e0 e1 e2 => by
      have e0 : g 1 = nF := Option.some.inj (t1102.symm.trans e0)
      subst e0
      have e1 : g 2 + 0 = Bs := Option.some.inj e1
      subst e1
      have e2 : g 3 + 0 = Bp := Option.some.inj e2
      subst e2
      rw [Int.add_zero, Int.add_zero]
      exact hpo⟩, k_C, k_X, k_R, k_f4⟩⟩
noncomputable def ru_bO : Ru := ([(0, (1199, (0, (0, 0)))), (0, (1102, (0, (0, 0)))), (0, (1122, (0, (0, 0)))), (0, (1123, (0, (0, 0)))), (0, (1124, (0, (0, 0)))), (0, (1140, (0, (0, 0)))), (0, (1141, (0, (0, 0)))), (0, (1142, (0, (0, 0)))), (0, (1143, (0, (0, 0)))), (0, (1144, (0, (0, 0)))), (0, (1130, (0, (0, 0)))), (0, (1131, (0, (0, 0)))), (0, (1132, (0, (0, 0)))), (0, (1133, (0, (0, 0)))), (0, (1134, (0, (0, 0))))], ([], ([([(9, 1)], 26), ([(9, (-1))], (-26)), ([(14, 1)], 3), ([(14, (-1))], (-3)), ([(6, (-1)), (11, 1)], 1), ([(6, 1), (11, (-1))], (-1)), ([(5, (-1)), (10, 1)], 1), ([(5, 1), (10, (-1))], (-1)), ([(12, (-1))], 0), ([(2, 1), (12, (-1))], 0), ([(2, (-1)), (12, 1)], 0), ([(4, (-1))], (-5)), ([(4, 1)], 5)], (false, ([([(7, 1), (12, (-1))], 1), ([(7, (-1)), (12, 1)], (-1)), ([(8, 1)], (-1)), ([(8, (-1))], 1)], ([], ([], none)))))))
theorem rk_bO : RuOk SR ru_bO := by
  intro τ m g hi hc ha hS
  obtain ⟨i0, i1, i2, i3, i4, i5, i6, i7, i8, i9, i10, i11, i12, i13, i14, _⟩ := hi
  have t1199 : τ 1199 = some (g 0) := i0
  have t1102 : τ 1102 = some (g 1) := i1
  have t1122 : τ 1122 = some (g 2) := i2
  have t1123 : τ 1123 = some (g 3) := i3
  have t1124 : τ 1124 = some (g 4) := i4
  have t1140 : τ 1140 = some (g 5) := i5
  have t1141 : τ 1141 = some (g 6) := i6
  have t1142 : τ 1142 = some (g 7) := i7
  have t1143 : τ 1143 = some (g 8) := i8
  have t1144 : τ 1144 = some (g 9) := i9
  have t1130 : τ 1130 = some (g 10) := i10
  have t1131 : τ 1131 = some (g 11) := i11
  have t1132 : τ 1132 = some (g 12) := i12
  have t1133 : τ 1133 = some (g 13) := i13
  have t1134 : τ 1134 = some (g 14) := i14
  obtain ⟨c0, c1, c2, c3, c4, c5, c6, c7, c8, c9, c10, c11, c12, _⟩ := hc
  have c0 : 1 * g 9 ≤ 26 := d1 c0
  have c1 : (-1) * g 9 ≤ (-26) := d1 c1
  have c2 : 1 * g 14 ≤ 3 := d1 c2
  have c3 : (-1) * g 14 ≤ (-3) := d1 c3
  have c4 : (-1) * g 6 + 1 * g 11 ≤ 1 := d2 c4
  have c5 : 1 * g 6 + (-1) * g 11 ≤ (-1) := d2 c5
  have c6 : (-1) * g 5 + 1 * g 10 ≤ 1 := d2 c6
  have c7 : 1 * g 5 + (-1) * g 10 ≤ (-1) := d2 c7
  have c8 : (-1) * g 12 ≤ 0 := d1 c8
  have c9 : 1 * g 2 + (-1) * g 12 ≤ 0 := d2 c9
  have c10 : (-1) * g 2 + 1 * g 12 ≤ 0 := d2 c10
  have c11 : (-1) * g 4 ≤ (-5) := d1 c11
  have c12 : 1 * g 4 ≤ 5 := d1 c12
  obtain ⟨h0, k_tok, k_sc1, k_sc2, k_T, k_I, k_F, k_N, k_Y, k_Z, k_A, k_B, k_C, k_X, k_R, k_f4⟩ := hS (by rw [t1199]; exact fun e => by cases e)
  have k_tok0 := k_tok
  obtain ⟨h_L, h_n, h_nF⟩ := k_tok0
  have k_I0 := k_I
  obtain ⟨h_p, h_pc, h_ip, h_iP, h_PC, h_PN⟩ := k_I0
  have k_A0 := k_A
  obtain ⟨h_A0, h_A⟩ := k_A0
  have k_B0 := k_B
  obtain ⟨h_B0, h_B, h_Bd0, h_B26, h_B22, h_Bs⟩ := k_B0
  have h26 := h_B26 _ _ _ t1140 t1141 t1144 (by omega)
  obtain ⟨hn0, _, hNT⟩ := h_nF _ t1102
  have hB := h_B _ _ _ _ _ _ t1102 t1140 t1141 t1142 t1143 t1144
  have rB := hB.1
  have hA := h_A _ _ _ _ _ _ t1102 t1130 t1131 t1132 t1133 t1134
  have rA := hA.1
  have ea : (g 11).toNat = (g 6).toNat + 1 := by omega
  have ed : (g 10).toNat = (g 5).toNat + 1 := by omega
  obtain ⟨hr1, hr2, hr3, hR⟩ := RI_p hA 3 (by omega) (by omega)
  rw [ea, ed] at hR
  obtain ⟨⟨hi0, hi1⟩, hpi⟩ := h_ip _ _ _ t1102 t1122 t1123
  have eb : (g 2).toNat = (g 12).toNat := by omega
  rw [eb] at hpi
  have ep : (g 3).toNat = Tp9 (tx9 m) (g 12).toNat := by omega
  have hcc := h_pc _ _ t1123 t1124
  rw [ep] at hcc
  obtain ⟨y1, y2⟩ := RI_f hNT hB 26 (by omega) (j := (g 12).toNat + 1) (NT_next hNT (i := (g 12).toNat) (by omega) (by omega)) (m_bO h26.1.1 h26.1.2 (by omega) hR (kq (a := 5) (b := 5) (fun k => k = 11) (by decide) (by omega) (by omega)))
  exact ⟨rfl, ⟨f2 (by omega), f2 (by omega), f1 (by omega), f1 (by omega), trivial⟩, trivial, fun _ => ⟨h0, k_tok, k_sc1, k_sc2, k_T, k_I, k_F, k_N, k_Y, k_Z, k_A, k_B, k_C, k_X, k_R, k_f4⟩⟩
noncomputable def ru_bFx : Ru := ([(0, (1199, (0, (0, 0)))), (0, (1102, (0, (0, 0)))), (0, (1140, (0, (0, 0)))), (0, (1141, (0, (0, 0)))), (0, (1142, (0, (0, 0)))), (0, (1143, (0, (0, 0)))), (0, (1144, (0, (0, 0)))), (0, (1130, (0, (0, 0)))), (0, (1131, (0, (0, 0)))), (0, (1132, (0, (0, 0)))), (0, (1133, (0, (0, 0)))), (0, (1134, (0, (0, 0)))), (4, (0, (0, (22, 0))))], ([], ([([(6, 1)], 26), ([(6, (-1))], (-26)), ([(11, 1)], 3), ([(11, (-1))], (-3)), ([(3, (-1)), (8, 1)], 1), ([(3, 1), (8, (-1))], (-1)), ([(2, (-1)), (7, 1)], 1), ([(2, 1), (7, (-1))], (-1)), ([(9, 1)], (-1))], (false, ([], ([], ([(1144, some (12, 0)), (1145, some (10, 0)), (1130, none), (1131, none), (1132, none), (1133, none), (1134, none)], none)))))))
theorem rk_bFx : RuOk SR ru_bFx := by
  intro τ m g hi hc ha hS
  obtain ⟨i0, i1, i2, i3, i4, i5, i6, i7, i8, i9, i10, i11, i12, _⟩ := hi
  have t1199 : τ 1199 = some (g 0) := i0
  have t1102 : τ 1102 = some (g 1) := i1
  have t1140 : τ 1140 = some (g 2) := i2
  have t1141 : τ 1141 = some (g 3) := i3
  have t1142 : τ 1142 = some (g 4) := i4
  have t1143 : τ 1143 = some (g 5) := i5
  have t1144 : τ 1144 = some (g 6) := i6
  have t1130 : τ 1130 = some (g 7) := i7
  have t1131 : τ 1131 = some (g 8) := i8
  have t1132 : τ 1132 = some (g 9) := i9
  have t1133 : τ 1133 = some (g 10) := i10
  have t1134 : τ 1134 = some (g 11) := i11
  have xk : g 12 = 22 := i12
  obtain ⟨c0, c1, c2, c3, c4, c5, c6, c7, c8, _⟩ := hc
  have c0 : 1 * g 6 ≤ 26 := d1 c0
  have c1 : (-1) * g 6 ≤ (-26) := d1 c1
  have c2 : 1 * g 11 ≤ 3 := d1 c2
  have c3 : (-1) * g 11 ≤ (-3) := d1 c3
  have c4 : (-1) * g 3 + 1 * g 8 ≤ 1 := d2 c4
  have c5 : 1 * g 3 + (-1) * g 8 ≤ (-1) := d2 c5
  have c6 : (-1) * g 2 + 1 * g 7 ≤ 1 := d2 c6
  have c7 : 1 * g 2 + (-1) * g 7 ≤ (-1) := d2 c7
  have c8 : 1 * g 9 ≤ (-1) := d1 c8
  obtain ⟨h0, k_tok, k_sc1, k_sc2, k_T, k_I, k_F, k_N, k_Y, k_Z, k_A, k_B, k_C, k_X, k_R, k_f4⟩ := hS (by rw [t1199]; exact fun e => by cases e)
  have k_tok0 := k_tok
  obtain ⟨h_L, h_n, h_nF⟩ := k_tok0
  have k_A0 := k_A
  obtain ⟨h_A0, h_A⟩ := k_A0
  have k_B0 := k_B
  obtain ⟨h_B0, h_B, h_Bd0, h_B26, h_B22, h_Bs⟩ := k_B0
  have h26 := h_B26 _ _ _ t1140 t1141 t1144 (by omega)
  obtain ⟨hn0, _, hNT⟩ := h_nF _ t1102
  have hB := h_B _ _ _ _ _ _ t1102 t1140 t1141 t1142 t1143 t1144
  have rB := hB.1
  have hA := h_A _ _ _ _ _ _ t1102 t1130 t1131 t1132 t1133 t1134
  have rA := hA.1
  have ea : (g 8).toNat = (g 3).toNat + 1 := by omega
  have ed : (g 7).toNat = (g 2).toNat + 1 := by omega
  obtain ⟨hr1, hr2, hR⟩ := RI_n hA 3 (by omega) (by omega)
  rw [ea, ed] at hR
  exact ⟨rfl, trivial, trivial, fun _ => ⟨h0, k_tok, k_sc1, k_sc2, k_T, k_I, k_F, k_N, k_Y, k_Z, ⟨fun _ _ _ _ _ e0 e1 e2 e3 e4 => no9 (o := none) rfl e1, fun _ _ _ _ _ _ e0 e1 e2 e3 e4 e5 => no9 (o := none) rfl e1⟩, ⟨fun nF Bd Bi Br Bm e0 e1 e2 e3 e4 => by
      have e0 : g 1 = nF := Option.some.inj (t1102.symm.trans e0)
      subst e0
      have e1 : g 2 = Bd := Option.some.inj (t1140.symm.trans e1)
      subst e1
      have e2 : g 3 = Bi := Option.some.inj (t1141.symm.trans e2)
      subst e2
      have e3 : g 4 = Br := Option.some.inj (t1142.symm.trans e3)
      subst e3
      have e4 : g 12 + 0 = Bm := Option.some.inj e4
      subst e4
      exact ⟨_, RI_u hB 26 22 (by omega) (by omega) rfl (by omega) ⟨by omega, by omega⟩ (fun r h => by
              exact h)⟩, fun nF Bd Bi Br Bx Bm e0 e1 e2 e3 e4 e5 => by
      have e0 : g 1 = nF := Option.some.inj (t1102.symm.trans e0)
      subst e0
      have e1 : g 2 = Bd := Option.some.inj (t1140.symm.trans e1)
      subst e1
      have e2 : g 3 = Bi := Option.some.inj (t1141.symm.trans e2)
      subst e2
      have e3 : g 4 = Br := Option.some.inj (t1142.symm.trans e3)
      subst e3
      have e4 : g 5 = Bx := Option.some.inj (t1143.symm.trans e4)
      subst e4
      have e5 : g 12 + 0 = Bm := Option.some.inj e5
      subst e5
      exact RI_u hB 26 22 (by omega) (by omega) rfl (by omega) ⟨by omega, by omega⟩ (fun r h => by
              exact h), h_Bd0, fun Bd Bi Bm e0 e1 e2 => by
      have e0 : g 2 = Bd := Option.some.inj (t1140.symm.trans e0)
      subst e0
      have e1 : g 3 = Bi := Option.some.inj (t1141.symm.trans e1)
      subst e1
      have e2 : g 12 + 0 = Bm := Option.some.inj e2
      subst e2
      intro h
      omega, fun Bd Bi Bm Bf e0 e1 e2 e3 => by
      have e0 : g 2 = Bd := Option.some.inj (t1140.symm.trans e0)
      subst e0
      have e1 : g 3 = Bi := Option.some.inj (t1141.symm.trans e1)
      subst e1
      have e2 : g 12 + 0 = Bm := Option.some.inj e2
      subst e2
      have e3 : g 10 + 0 = Bf := Option.some.inj e3
      subst e3
      intro h
      refine ⟨by omega, h26.1, by omega, _, hR, ?_⟩
      rw [Int.add_zero]
      rfl, h_Bs⟩, k_C, k_X, k_R, k_f4⟩⟩
noncomputable def ru_bFa : Ru := ([(0, (1199, (0, (0, 0)))), (0, (1102, (0, (0, 0)))), (0, (1122, (0, (0, 0)))), (0, (1123, (0, (0, 0)))), (0, (1124, (0, (0, 0)))), (0, (1140, (0, (0, 0)))), (0, (1141, (0, (0, 0)))), (0, (1142, (0, (0, 0)))), (0, (1143, (0, (0, 0)))), (0, (1144, (0, (0, 0)))), (0, (1130, (0, (0, 0)))), (0, (1131, (0, (0, 0)))), (0, (1132, (0, (0, 0)))), (0, (1133, (0, (0, 0)))), (0, (1134, (0, (0, 0)))), (4, (0, (0, (22, 0))))], ([], ([([(9, 1)], 26), ([(9, (-1))], (-26)), ([(14, 1)], 3), ([(14, (-1))], (-3)), ([(6, (-1)), (11, 1)], 1), ([(6, 1), (11, (-1))], (-1)), ([(5, (-1)), (10, 1)], 1), ([(5, 1), (10, (-1))], (-1)), ([(12, (-1))], 0), ([(2, 1), (12, (-1))], 0), ([(2, (-1)), (12, 1)], 0), ([(4, 1)], 4)], (false, ([], ([], ([(1144, some (15, 0)), (1145, some (3, 0)), (1130, none), (1131, none), (1132, none), (1133, none), (1134, none)], none)))))))
theorem rk_bFa : RuOk SR ru_bFa := by
  intro τ m g hi hc ha hS
  obtain ⟨i0, i1, i2, i3, i4, i5, i6, i7, i8, i9, i10, i11, i12, i13, i14, i15, _⟩ := hi
  have t1199 : τ 1199 = some (g 0) := i0
  have t1102 : τ 1102 = some (g 1) := i1
  have t1122 : τ 1122 = some (g 2) := i2
  have t1123 : τ 1123 = some (g 3) := i3
  have t1124 : τ 1124 = some (g 4) := i4
  have t1140 : τ 1140 = some (g 5) := i5
  have t1141 : τ 1141 = some (g 6) := i6
  have t1142 : τ 1142 = some (g 7) := i7
  have t1143 : τ 1143 = some (g 8) := i8
  have t1144 : τ 1144 = some (g 9) := i9
  have t1130 : τ 1130 = some (g 10) := i10
  have t1131 : τ 1131 = some (g 11) := i11
  have t1132 : τ 1132 = some (g 12) := i12
  have t1133 : τ 1133 = some (g 13) := i13
  have t1134 : τ 1134 = some (g 14) := i14
  have xk : g 15 = 22 := i15
  obtain ⟨c0, c1, c2, c3, c4, c5, c6, c7, c8, c9, c10, c11, _⟩ := hc
  have c0 : 1 * g 9 ≤ 26 := d1 c0
  have c1 : (-1) * g 9 ≤ (-26) := d1 c1
  have c2 : 1 * g 14 ≤ 3 := d1 c2
  have c3 : (-1) * g 14 ≤ (-3) := d1 c3
  have c4 : (-1) * g 6 + 1 * g 11 ≤ 1 := d2 c4
  have c5 : 1 * g 6 + (-1) * g 11 ≤ (-1) := d2 c5
  have c6 : (-1) * g 5 + 1 * g 10 ≤ 1 := d2 c6
  have c7 : 1 * g 5 + (-1) * g 10 ≤ (-1) := d2 c7
  have c8 : (-1) * g 12 ≤ 0 := d1 c8
  have c9 : 1 * g 2 + (-1) * g 12 ≤ 0 := d2 c9
  have c10 : (-1) * g 2 + 1 * g 12 ≤ 0 := d2 c10
  have c11 : 1 * g 4 ≤ 4 := d1 c11
  obtain ⟨h0, k_tok, k_sc1, k_sc2, k_T, k_I, k_F, k_N, k_Y, k_Z, k_A, k_B, k_C, k_X, k_R, k_f4⟩ := hS (by rw [t1199]; exact fun e => by cases e)
  have k_tok0 := k_tok
  obtain ⟨h_L, h_n, h_nF⟩ := k_tok0
  have k_I0 := k_I
  obtain ⟨h_p, h_pc, h_ip, h_iP, h_PC, h_PN⟩ := k_I0
  have k_A0 := k_A
  obtain ⟨h_A0, h_A⟩ := k_A0
  have k_B0 := k_B
  obtain ⟨h_B0, h_B, h_Bd0, h_B26, h_B22, h_Bs⟩ := k_B0
  have h26 := h_B26 _ _ _ t1140 t1141 t1144 (by omega)
  obtain ⟨hn0, _, hNT⟩ := h_nF _ t1102
  have hB := h_B _ _ _ _ _ _ t1102 t1140 t1141 t1142 t1143 t1144
  have rB := hB.1
  have hA := h_A _ _ _ _ _ _ t1102 t1130 t1131 t1132 t1133 t1134
  have rA := hA.1
  have ea : (g 11).toNat = (g 6).toNat + 1 := by omega
  have ed : (g 10).toNat = (g 5).toNat + 1 := by omega
  obtain ⟨hr1, hr2, hr3, hR⟩ := RI_p hA 3 (by omega) (by omega)
  rw [ea, ed] at hR
  obtain ⟨⟨hi0, hi1⟩, hpi⟩ := h_ip _ _ _ t1102 t1122 t1123
  have eb : (g 2).toNat = (g 12).toNat := by omega
  rw [eb] at hpi
  have ep : (g 3).toNat = Tp9 (tx9 m) (g 12).toNat := by omega
  have hcc := h_pc _ _ t1123 t1124
  rw [ep] at hcc
  exact ⟨rfl, trivial, trivial, fun _ => ⟨h0, k_tok, k_sc1, k_sc2, k_T, k_I, k_F, k_N, k_Y, k_Z, ⟨fun _ _ _ _ _ e0 e1 e2 e3 e4 => no9 (o := none) rfl e1, fun _ _ _ _ _ _ e0 e1 e2 e3 e4 e5 => no9 (o := none) rfl e1⟩, ⟨fun nF Bd Bi Br Bm e0 e1 e2 e3 e4 => by
      have e0 : g 1 = nF := Option.some.inj (t1102.symm.trans e0)
      subst e0
      have e1 : g 5 = Bd := Option.some.inj (t1140.symm.trans e1)
      subst e1
      have e2 : g 6 = Bi := Option.some.inj (t1141.symm.trans e2)
      subst e2
      have e3 : g 7 = Br := Option.some.inj (t1142.symm.trans e3)
      subst e3
      have e4 : g 15 + 0 = Bm := Option.some.inj e4
      subst e4
      exact ⟨_, RI_u hB 26 22 (by omega) (by omega) rfl (by omega) ⟨by omega, by omega⟩ (fun r h => by
              exact h)⟩, fun nF Bd Bi Br Bx Bm e0 e1 e2 e3 e4 e5 => by
      have e0 : g 1 = nF := Option.some.inj (t1102.symm.trans e0)
      subst e0
      have e1 : g 5 = Bd := Option.some.inj (t1140.symm.trans e1)
      subst e1
      have e2 : g 6 = Bi := Option.some.inj (t1141.symm.trans e2)
      subst e2
      have e3 : g 7 = Br := Option.some.inj (t1142.symm.trans e3)
      subst e3
      have e4 : g 8 = Bx := Option.some.inj (t1143.symm.trans e4)
      subst e4
      have e5 : g 15 + 0 = Bm := Option.some.inj e5
      subst e5
      exact RI_u hB 26 22 (by omega) (by omega) rfl (by omega) ⟨by omega, by omega⟩ (fun r h => by
              exact h), h_Bd0, fun Bd Bi Bm e0 e1 e2 => by
      have e0 : g 5 = Bd := Option.some.inj (t1140.symm.trans e0)
      subst e0
      have e1 : g 6 = Bi := Option.some.inj (t1141.symm.trans e1)
      subst e1
      have e2 : g 15 + 0 = Bm := Option.some.inj e2
      subst e2
      intro h
      omega, fun Bd Bi Bm Bf e0 e1 e2 e3 => by
      have e0 : g 5 = Bd := Option.some.inj (t1140.symm.trans e0)
      subst e0
      have e1 : g 6 = Bi := Option.some.inj (t1141.symm.trans e1)
      subst e1
      have e2 : g 15 + 0 = Bm := Option.some.inj e2
      subst e2
      have e3 : g 3 + 0 = Bf := Option.some.inj e3
      subst e3
      intro h
      refine ⟨by omega, h26.1, by omega, _, hR, ?_⟩
      rw [sg_no (kq (a := 0) (b := 4) (fun k => k ≠ 11) (by decide) (Nat.zero_le _) (by omega)), Int.add_zero, ep], h_Bs⟩, k_C, k_X, k_R, k_f4⟩⟩
noncomputable def ru_bFb : Ru := ([(0, (1199, (0, (0, 0)))), (0, (1102, (0, (0, 0)))), (0, (1122, (0, (0, 0)))), (0, (1123, (0, (0, 0)))), (0, (1124, (0, (0, 0)))), (0, (1140, (0, (0, 0)))), (0, (1141, (0, (0, 0)))), (0, (1142, (0, (0, 0)))), (0, (1143, (0, (0, 0)))), (0, (1144, (0, (0, 0)))), (0, (1130, (0, (0, 0)))), (0, (1131, (0, (0, 0)))), (0, (1132, (0, (0, 0)))), (0, (1133, (0, (0, 0)))), (0, (1134, (0, (0, 0)))), (4, (0, (0, (22, 0))))], ([], ([([(9, 1)], 26), ([(9, (-1))], (-26)), ([(14, 1)], 3), ([(14, (-1))], (-3)), ([(6, (-1)), (11, 1)], 1), ([(6, 1), (11, (-1))], (-1)), ([(5, (-1)), (10, 1)], 1), ([(5, 1), (10, (-1))], (-1)), ([(12, (-1))], 0), ([(2, 1), (12, (-1))], 0), ([(2, (-1)), (12, 1)], 0), ([(4, (-1))], (-6))], (false, ([], ([], ([(1144, some (15, 0)), (1145, some (3, 0)), (1130, none), (1131, none), (1132, none), (1133, none), (1134, none)], none)))))))
theorem rk_bFb : RuOk SR ru_bFb := by
  intro τ m g hi hc ha hS
  obtain ⟨i0, i1, i2, i3, i4, i5, i6, i7, i8, i9, i10, i11, i12, i13, i14, i15, _⟩ := hi
  have t1199 : τ 1199 = some (g 0) := i0
  have t1102 : τ 1102 = some (g 1) := i1
  have t1122 : τ 1122 = some (g 2) := i2
  have t1123 : τ 1123 = some (g 3) := i3
  have t1124 : τ 1124 = some (g 4) := i4
  have t1140 : τ 1140 = some (g 5) := i5
  have t1141 : τ 1141 = some (g 6) := i6
  have t1142 : τ 1142 = some (g 7) := i7
  have t1143 : τ 1143 = some (g 8) := i8
  have t1144 : τ 1144 = some (g 9) := i9
  have t1130 : τ 1130 = some (g 10) := i10
  have t1131 : τ 1131 = some (g 11) := i11
  have t1132 : τ 1132 = some (g 12) := i12
  have t1133 : τ 1133 = some (g 13) := i13
  have t1134 : τ 1134 = some (g 14) := i14
  have xk : g 15 = 22 := i15
  obtain ⟨c0, c1, c2, c3, c4, c5, c6, c7, c8, c9, c10, c11, _⟩ := hc
  have c0 : 1 * g 9 ≤ 26 := d1 c0
  have c1 : (-1) * g 9 ≤ (-26) := d1 c1
  have c2 : 1 * g 14 ≤ 3 := d1 c2
  have c3 : (-1) * g 14 ≤ (-3) := d1 c3
  have c4 : (-1) * g 6 + 1 * g 11 ≤ 1 := d2 c4
  have c5 : 1 * g 6 + (-1) * g 11 ≤ (-1) := d2 c5
  have c6 : (-1) * g 5 + 1 * g 10 ≤ 1 := d2 c6
  have c7 : 1 * g 5 + (-1) * g 10 ≤ (-1) := d2 c7
  have c8 : (-1) * g 12 ≤ 0 := d1 c8
  have c9 : 1 * g 2 + (-1) * g 12 ≤ 0 := d2 c9
  have c10 : (-1) * g 2 + 1 * g 12 ≤ 0 := d2 c10
  have c11 : (-1) * g 4 ≤ (-6) := d1 c11
  obtain ⟨h0, k_tok, k_sc1, k_sc2, k_T, k_I, k_F, k_N, k_Y, k_Z, k_A, k_B, k_C, k_X, k_R, k_f4⟩ := hS (by rw [t1199]; exact fun e => by cases e)
  have k_tok0 := k_tok
  obtain ⟨h_L, h_n, h_nF⟩ := k_tok0
  have k_I0 := k_I
  obtain ⟨h_p, h_pc, h_ip, h_iP, h_PC, h_PN⟩ := k_I0
  have k_A0 := k_A
  obtain ⟨h_A0, h_A⟩ := k_A0
  have k_B0 := k_B
  obtain ⟨h_B0, h_B, h_Bd0, h_B26, h_B22, h_Bs⟩ := k_B0
  have h26 := h_B26 _ _ _ t1140 t1141 t1144 (by omega)
  obtain ⟨hn0, _, hNT⟩ := h_nF _ t1102
  have hB := h_B _ _ _ _ _ _ t1102 t1140 t1141 t1142 t1143 t1144
  have rB := hB.1
  have hA := h_A _ _ _ _ _ _ t1102 t1130 t1131 t1132 t1133 t1134
  have rA := hA.1
  have ea : (g 11).toNat = (g 6).toNat + 1 := by omega
  have ed : (g 10).toNat = (g 5).toNat + 1 := by omega
  obtain ⟨hr1, hr2, hr3, hR⟩ := RI_p hA 3 (by omega) (by omega)
  rw [ea, ed] at hR
  obtain ⟨⟨hi0, hi1⟩, hpi⟩ := h_ip _ _ _ t1102 t1122 t1123
  have eb : (g 2).toNat = (g 12).toNat := by omega
  rw [eb] at hpi
  have ep : (g 3).toNat = Tp9 (tx9 m) (g 12).toNat := by omega
  have hcc := h_pc _ _ t1123 t1124
  rw [ep] at hcc
  exact ⟨rfl, trivial, trivial, fun _ => ⟨h0, k_tok, k_sc1, k_sc2, k_T, k_I, k_F, k_N, k_Y, k_Z, ⟨fun _ _ _ _ _ e0 e1 e2 e3 e4 => no9 (o := none) rfl e1, fun _ _ _ _ _ _ e0 e1 e2 e3 e4 e5 => no9 (o := none) rfl e1⟩, ⟨fun nF Bd Bi Br Bm e0 e1 e2 e3 e4 => by
      have e0 : g 1 = nF := Option.some.inj (t1102.symm.trans e0)
      subst e0
      have e1 : g 5 = Bd := Option.some.inj (t1140.symm.trans e1)
      subst e1
      have e2 : g 6 = Bi := Option.some.inj (t1141.symm.trans e2)
      subst e2
      have e3 : g 7 = Br := Option.some.inj (t1142.symm.trans e3)
      subst e3
      have e4 : g 15 + 0 = Bm := Option.some.inj e4
      subst e4
      exact ⟨_, RI_u hB 26 22 (by omega) (by omega) rfl (by omega) ⟨by omega, by omega⟩ (fun r h => by
              exact h)⟩, fun nF Bd Bi Br Bx Bm e0 e1 e2 e3 e4 e5 => by
      have e0 : g 1 = nF := Option.some.inj (t1102.symm.trans e0)
      subst e0
      have e1 : g 5 = Bd := Option.some.inj (t1140.symm.trans e1)
      subst e1
      have e2 : g 6 = Bi := Option.some.inj (t1141.symm.trans e2)
      subst e2
      have e3 : g 7 = Br := Option.some.inj (t1142.symm.trans e3)
      subst e3
      have e4 : g 8 = Bx := Option.some.inj (t1143.symm.trans e4)
      subst e4
      have e5 : g 15 + 0 = Bm := Option.some.inj e5
      subst e5
      exact RI_u hB 26 22 (by omega) (by omega) rfl (by omega) ⟨by omega, by omega⟩ (fun r h => by
              exact h), h_Bd0, fun Bd Bi Bm e0 e1 e2 => by
      have e0 : g 5 = Bd := Option.some.inj (t1140.symm.trans e0)
      subst e0
      have e1 : g 6 = Bi := Option.some.inj (t1141.symm.trans e1)
      subst e1
      have e2 : g 15 + 0 = Bm := Option.some.inj e2
      subst e2
      intro h
      omega, fun Bd Bi Bm Bf e0 e1 e2 e3 => by
      have e0 : g 5 = Bd := Option.some.inj (t1140.symm.trans e0)
      subst e0
      have e1 : g 6 = Bi := Option.some.inj (t1141.symm.trans e1)
      subst e1
      have e2 : g 15 + 0 = Bm := Option.some.inj e2
      subst e2
      have e3 : g 3 + 0 = Bf := Option.some.inj e3
      subst e3
      intro h
      refine ⟨by omega, h26.1, by omega, _, hR, ?_⟩
      rw [sg_no (kq (a := 6) (b := 51) (fun k => k ≠ 11) (by decide) (by omega) rc_le), Int.add_zero, ep], h_Bs⟩, k_C, k_X, k_R, k_f4⟩⟩
noncomputable def ru_bR : Ru := ([(0, (1199, (0, (0, 0)))), (0, (1102, (0, (0, 0)))), (0, (1146, (0, (0, 0)))), (0, (1147, (0, (0, 0))))], ([], ([], (false, ([], ([], ([(1122, some (2, 0)), (1123, some (3, 0)), (1124, none), (1125, none)], none)))))))
theorem rk_bR : RuOk SR ru_bR := by
  intro τ m g hi hc ha hS
  obtain ⟨i0, i1, i2, i3, _⟩ := hi
  have t1199 : τ 1199 = some (g 0) := i0
  have t1102 : τ 1102 = some (g 1) := i1
  have t1146 : τ 1146 = some (g 2) := i2
  have t1147 : τ 1147 = some (g 3) := i3
  obtain ⟨h0, k_tok, k_sc1, k_sc2, k_T, k_I, k_F, k_N, k_Y, k_Z, k_A, k_B, k_C, k_X, k_R, k_f4⟩ := hS (by rw [t1199]; exact fun e => by cases e)
  have k_tok0 := k_tok
  obtain ⟨h_L, h_n, h_nF⟩ := k_tok0
  have k_I0 := k_I
  obtain ⟨h_p, h_pc, h_ip, h_iP, h_PC, h_PN⟩ := k_I0
  have k_B0 := k_B
  obtain ⟨h_B0, h_B, h_Bd0, h_B26, h_B22, h_Bs⟩ := k_B0
  obtain ⟨hn0, _, hNT⟩ := h_nF _ t1102
  have hXL : ((tx9 m).2 : Int) = m 110 1 := by
    show (((m 110 1).toNat : Nat) : Int) = _
    omega
  obtain ⟨hs1, hs2⟩ := h_Bs _ _ _ t1102 t1146 t1147
  have hSL := St_L (X := tx9 m) (i := (g 2).toNat)
  exact ⟨rfl, trivial, trivial, fun _ => ⟨h0, k_tok, k_sc1, k_sc2, k_T, ⟨fun p9 e0 => by
      have e0 : g 3 + 0 = p9 := Option.some.inj e0
      subst e0
      exact ⟨by omega, by omega⟩, fun _ _ e0 e1 => no9 (o := none) rfl e1, fun nF i9 p9 e0 e1 e2 => by
      have e0 : g 1 = nF := Option.some.inj (t1102.symm.trans e0)
      subst e0
      have e1 : g 2 + 0 = i9 := Option.some.inj e1
      subst e1
      have e2 : g 3 + 0 = p9 := Option.some.inj e2
      subst e2
      simp only [Int.add_zero]
      exact ⟨hs1, hs2⟩, fun _ _ _ e0 e1 e2 => no9 (o := none) rfl e2, fun _ _ e0 e1 => no9 (o := none) rfl e0, fun _ _ _ e0 e1 e2 => no9 (o := none) rfl e0⟩, k_F, k_N, k_Y, k_Z, k_A, k_B, k_C, k_X, k_R, k_f4⟩⟩
noncomputable def ru_bC : Ru := ([(0, (1199, (0, (0, 0)))), (0, (1102, (0, (0, 0)))), (0, (1140, (0, (0, 0)))), (0, (1141, (0, (0, 0)))), (0, (1142, (0, (0, 0)))), (0, (1143, (0, (0, 0)))), (0, (1144, (0, (0, 0)))), (0, (1130, (0, (0, 0)))), (0, (1131, (0, (0, 0)))), (0, (1132, (0, (0, 0)))), (0, (1133, (0, (0, 0)))), (0, (1134, (0, (0, 0)))), (0, (1145, (0, (0, 0))))], ([], ([([(6, 1)], 22), ([(6, (-1))], (-22)), ([(11, 1)], 6), ([(11, (-1))], (-6)), ([(3, (-1)), (8, 1)], 0), ([(3, 1), (8, (-1))], 0), ([(2, (-1)), (7, 1)], 0), ([(2, 1), (7, (-1))], 0), ([(9, (-1))], 0)], (false, ([([(4, 1), (9, (-1))], 0), ([(4, (-1)), (9, 1)], 0), ([(5, 1)], (-1)), ([(5, (-1))], 1)], ([], ([], none)))))))
theorem rk_bC : RuOk SR ru_bC := by
  intro τ m g hi hc ha hS
  obtain ⟨i0, i1, i2, i3, i4, i5, i6, i7, i8, i9, i10, i11, i12, _⟩ := hi
  have t1199 : τ 1199 = some (g 0) := i0
  have t1102 : τ 1102 = some (g 1) := i1
  have t1140 : τ 1140 = some (g 2) := i2
  have t1141 : τ 1141 = some (g 3) := i3
  have t1142 : τ 1142 = some (g 4) := i4
  have t1143 : τ 1143 = some (g 5) := i5
  have t1144 : τ 1144 = some (g 6) := i6
  have t1130 : τ 1130 = some (g 7) := i7
  have t1131 : τ 1131 = some (g 8) := i8
  have t1132 : τ 1132 = some (g 9) := i9
  have t1133 : τ 1133 = some (g 10) := i10
  have t1134 : τ 1134 = some (g 11) := i11
  have t1145 : τ 1145 = some (g 12) := i12
  obtain ⟨c0, c1, c2, c3, c4, c5, c6, c7, c8, _⟩ := hc
  have c0 : 1 * g 6 ≤ 22 := d1 c0
  have c1 : (-1) * g 6 ≤ (-22) := d1 c1
  have c2 : 1 * g 11 ≤ 6 := d1 c2
  have c3 : (-1) * g 11 ≤ (-6) := d1 c3
  have c4 : (-1) * g 3 + 1 * g 8 ≤ 0 := d2 c4
  have c5 : 1 * g 3 + (-1) * g 8 ≤ 0 := d2 c5
  have c6 : (-1) * g 2 + 1 * g 7 ≤ 0 := d2 c6
  have c7 : 1 * g 2 + (-1) * g 7 ≤ 0 := d2 c7
  have c8 : (-1) * g 9 ≤ 0 := d1 c8
  obtain ⟨h0, k_tok, k_sc1, k_sc2, k_T, k_I, k_F, k_N, k_Y, k_Z, k_A, k_B, k_C, k_X, k_R, k_f4⟩ := hS (by rw [t1199]; exact fun e => by cases e)
  have k_tok0 := k_tok
  obtain ⟨h_L, h_n, h_nF⟩ := k_tok0
  have k_A0 := k_A
  obtain ⟨h_A0, h_A⟩ := k_A0
  have k_B0 := k_B
  obtain ⟨h_B0, h_B, h_Bd0, h_B26, h_B22, h_Bs⟩ := k_B0
  obtain ⟨hf0, hbf⟩ := h_B22 _ _ _ _ t1140 t1141 t1144 t1145 (by omega)
  obtain ⟨hn0, _, hNT⟩ := h_nF _ t1102
  have hB := h_B _ _ _ _ _ _ t1102 t1140 t1141 t1142 t1143 t1144
  have rB := hB.1
  have hA := h_A _ _ _ _ _ _ t1102 t1130 t1131 t1132 t1133 t1134
  have rA := hA.1
  have ea : (g 8).toNat = (g 3).toNat := by omega
  have ed : (g 7).toNat = (g 2).toNat := by omega
  obtain ⟨hr1, hr2, hr3, hR⟩ := RI_p hA 6 (by omega) (by omega)
  rw [ea, ed] at hR
  obtain ⟨y1, y2⟩ := RI_f hNT hB 22 (by omega) (j := (g 9).toNat) (hr1) (m_bC hbf hR)
  exact ⟨rfl, ⟨f2 (by omega), f2 (by omega), f1 (by omega), f1 (by omega), trivial⟩, trivial, fun _ => ⟨h0, k_tok, k_sc1, k_sc2, k_T, k_I, k_F, k_N, k_Y, k_Z, k_A, k_B, k_C, k_X, k_R, k_f4⟩⟩
noncomputable def ru_bM1 : Ru := ([(0, (1199, (0, (0, 0)))), (0, (1102, (0, (0, 0)))), (0, (1140, (0, (0, 0)))), (0, (1141, (0, (0, 0)))), (0, (1142, (0, (0, 0)))), (0, (1143, (0, (0, 0)))), (0, (1144, (0, (0, 0)))), (0, (1130, (0, (0, 0)))), (0, (1131, (0, (0, 0)))), (0, (1132, (0, (0, 0)))), (0, (1133, (0, (0, 0)))), (0, (1134, (0, (0, 0)))), (0, (1145, (0, (0, 0))))], ([], ([([(6, 1)], 22), ([(6, (-1))], (-22)), ([(11, 1)], 6), ([(11, (-1))], (-6)), ([(3, (-1)), (8, 1)], 0), ([(3, 1), (8, (-1))], 0), ([(2, (-1)), (7, 1)], 0), ([(2, 1), (7, (-1))], 0), ([(9, 1)], (-1)), ([(10, (-1)), (12, 1)], 0)], (false, ([([(5, 1), (10, (-1))], 0), ([(5, (-1)), (10, 1)], 0), ([(4, 1)], (-1)), ([(4, (-1))], 1)], ([], ([], none)))))))
theorem rk_bM1 : RuOk SR ru_bM1 := by
  intro τ m g hi hc ha hS
  obtain ⟨i0, i1, i2, i3, i4, i5, i6, i7, i8, i9, i10, i11, i12, _⟩ := hi
  have t1199 : τ 1199 = some (g 0) := i0
  have t1102 : τ 1102 = some (g 1) := i1
  have t1140 : τ 1140 = some (g 2) := i2
  have t1141 : τ 1141 = some (g 3) := i3
  have t1142 : τ 1142 = some (g 4) := i4
  have t1143 : τ 1143 = some (g 5) := i5
  have t1144 : τ 1144 = some (g 6) := i6
  have t1130 : τ 1130 = some (g 7) := i7
  have t1131 : τ 1131 = some (g 8) := i8
  have t1132 : τ 1132 = some (g 9) := i9
  have t1133 : τ 1133 = some (g 10) := i10
  have t1134 : τ 1134 = some (g 11) := i11
  have t1145 : τ 1145 = some (g 12) := i12
  obtain ⟨c0, c1, c2, c3, c4, c5, c6, c7, c8, c9, _⟩ := hc
  have c0 : 1 * g 6 ≤ 22 := d1 c0
  have c1 : (-1) * g 6 ≤ (-22) := d1 c1
  have c2 : 1 * g 11 ≤ 6 := d1 c2
  have c3 : (-1) * g 11 ≤ (-6) := d1 c3
  have c4 : (-1) * g 3 + 1 * g 8 ≤ 0 := d2 c4
  have c5 : 1 * g 3 + (-1) * g 8 ≤ 0 := d2 c5
  have c6 : (-1) * g 2 + 1 * g 7 ≤ 0 := d2 c6
  have c7 : 1 * g 2 + (-1) * g 7 ≤ 0 := d2 c7
  have c8 : 1 * g 9 ≤ (-1) := d1 c8
  have c9 : (-1) * g 10 + 1 * g 12 ≤ 0 := d2 c9
  obtain ⟨h0, k_tok, k_sc1, k_sc2, k_T, k_I, k_F, k_N, k_Y, k_Z, k_A, k_B, k_C, k_X, k_R, k_f4⟩ := hS (by rw [t1199]; exact fun e => by cases e)
  have k_tok0 := k_tok
  obtain ⟨h_L, h_n, h_nF⟩ := k_tok0
  have k_A0 := k_A
  obtain ⟨h_A0, h_A⟩ := k_A0
  have k_B0 := k_B
  obtain ⟨h_B0, h_B, h_Bd0, h_B26, h_B22, h_Bs⟩ := k_B0
  obtain ⟨hf0, hbf⟩ := h_B22 _ _ _ _ t1140 t1141 t1144 t1145 (by omega)
  obtain ⟨hn0, _, hNT⟩ := h_nF _ t1102
  have hB := h_B _ _ _ _ _ _ t1102 t1140 t1141 t1142 t1143 t1144
  have rB := hB.1
  have hA := h_A _ _ _ _ _ _ t1102 t1130 t1131 t1132 t1133 t1134
  have rA := hA.1
  have ea : (g 8).toNat = (g 3).toNat := by omega
  have ed : (g 7).toNat = (g 2).toNat := by omega
  obtain ⟨hr1, hr2, hR⟩ := RI_n hA 6 (by omega) (by omega)
  rw [ea, ed] at hR
  have hR2 := m_bM hbf hR
  rw [Nat.max_eq_right (by omega)] at hR2
  obtain ⟨y1, y2⟩ := RI_b hB 22 (by omega) hR2
  exact ⟨rfl, ⟨f2 (by omega), f2 (by omega), f1 (by omega), f1 (by omega), trivial⟩, trivial, fun _ => ⟨h0, k_tok, k_sc1, k_sc2, k_T, k_I, k_F, k_N, k_Y, k_Z, k_A, k_B, k_C, k_X, k_R, k_f4⟩⟩
noncomputable def ru_bM2 : Ru := ([(0, (1199, (0, (0, 0)))), (0, (1102, (0, (0, 0)))), (0, (1140, (0, (0, 0)))), (0, (1141, (0, (0, 0)))), (0, (1142, (0, (0, 0)))), (0, (1143, (0, (0, 0)))), (0, (1144, (0, (0, 0)))), (0, (1130, (0, (0, 0)))), (0, (1131, (0, (0, 0)))), (0, (1132, (0, (0, 0)))), (0, (1133, (0, (0, 0)))), (0, (1134, (0, (0, 0)))), (0, (1145, (0, (0, 0))))], ([], ([([(6, 1)], 22), ([(6, (-1))], (-22)), ([(11, 1)], 6), ([(11, (-1))], (-6)), ([(3, (-1)), (8, 1)], 0), ([(3, 1), (8, (-1))], 0), ([(2, (-1)), (7, 1)], 0), ([(2, 1), (7, (-1))], 0), ([(9, 1)], (-1)), ([(10, 1), (12, (-1))], 0)], (false, ([([(5, 1), (12, (-1))], 0), ([(5, (-1)), (12, 1)], 0), ([(4, 1)], (-1)), ([(4, (-1))], 1)], ([], ([], none)))))))
theorem rk_bM2 : RuOk SR ru_bM2 := by
  intro τ m g hi hc ha hS
  obtain ⟨i0, i1, i2, i3, i4, i5, i6, i7, i8, i9, i10, i11, i12, _⟩ := hi
  have t1199 : τ 1199 = some (g 0) := i0
  have t1102 : τ 1102 = some (g 1) := i1
  have t1140 : τ 1140 = some (g 2) := i2
  have t1141 : τ 1141 = some (g 3) := i3
  have t1142 : τ 1142 = some (g 4) := i4
  have t1143 : τ 1143 = some (g 5) := i5
  have t1144 : τ 1144 = some (g 6) := i6
  have t1130 : τ 1130 = some (g 7) := i7
  have t1131 : τ 1131 = some (g 8) := i8
  have t1132 : τ 1132 = some (g 9) := i9
  have t1133 : τ 1133 = some (g 10) := i10
  have t1134 : τ 1134 = some (g 11) := i11
  have t1145 : τ 1145 = some (g 12) := i12
  obtain ⟨c0, c1, c2, c3, c4, c5, c6, c7, c8, c9, _⟩ := hc
  have c0 : 1 * g 6 ≤ 22 := d1 c0
  have c1 : (-1) * g 6 ≤ (-22) := d1 c1
  have c2 : 1 * g 11 ≤ 6 := d1 c2
  have c3 : (-1) * g 11 ≤ (-6) := d1 c3
  have c4 : (-1) * g 3 + 1 * g 8 ≤ 0 := d2 c4
  have c5 : 1 * g 3 + (-1) * g 8 ≤ 0 := d2 c5
  have c6 : (-1) * g 2 + 1 * g 7 ≤ 0 := d2 c6
  have c7 : 1 * g 2 + (-1) * g 7 ≤ 0 := d2 c7
  have c8 : 1 * g 9 ≤ (-1) := d1 c8
  have c9 : 1 * g 10 + (-1) * g 12 ≤ 0 := d2 c9
  obtain ⟨h0, k_tok, k_sc1, k_sc2, k_T, k_I, k_F, k_N, k_Y, k_Z, k_A, k_B, k_C, k_X, k_R, k_f4⟩ := hS (by rw [t1199]; exact fun e => by cases e)
  have k_tok0 := k_tok
  obtain ⟨h_L, h_n, h_nF⟩ := k_tok0
  have k_A0 := k_A
  obtain ⟨h_A0, h_A⟩ := k_A0
  have k_B0 := k_B
  obtain ⟨h_B0, h_B, h_Bd0, h_B26, h_B22, h_Bs⟩ := k_B0
  obtain ⟨hf0, hbf⟩ := h_B22 _ _ _ _ t1140 t1141 t1144 t1145 (by omega)
  obtain ⟨hn0, _, hNT⟩ := h_nF _ t1102
  have hB := h_B _ _ _ _ _ _ t1102 t1140 t1141 t1142 t1143 t1144
  have rB := hB.1
  have hA := h_A _ _ _ _ _ _ t1102 t1130 t1131 t1132 t1133 t1134
  have rA := hA.1
  have ea : (g 8).toNat = (g 3).toNat := by omega
  have ed : (g 7).toNat = (g 2).toNat := by omega
  obtain ⟨hr1, hr2, hR⟩ := RI_n hA 6 (by omega) (by omega)
  rw [ea, ed] at hR
  have hR2 := m_bM hbf hR
  rw [Nat.max_eq_left (by omega)] at hR2
  obtain ⟨y1, y2⟩ := RI_b hB 22 (by omega) hR2
  exact ⟨rfl, ⟨f2 (by omega), f2 (by omega), f1 (by omega), f1 (by omega), trivial⟩, trivial, fun _ => ⟨h0, k_tok, k_sc1, k_sc2, k_T, k_I, k_F, k_N, k_Y, k_Z, k_A, k_B, k_C, k_X, k_R, k_f4⟩⟩
noncomputable def ru_e1 : Ru := ([(0, (1199, (0, (0, 0)))), (0, (1102, (0, (0, 0)))), (0, (1122, (0, (0, 0)))), (0, (1123, (0, (0, 0)))), (0, (1124, (0, (0, 0)))), (0, (1140, (0, (0, 0)))), (0, (1141, (0, (0, 0)))), (0, (1142, (0, (0, 0)))), (0, (1143, (0, (0, 0)))), (0, (1144, (0, (0, 0)))), (4, (0, (0, (23, 0))))], ([], ([([(9, 1)], 9), ([(9, (-1))], (-9)), ([(2, (-1)), (6, 1)], 0), ([(2, 1), (6, (-1))], 0), ([(4, (-1))], (-27)), ([(4, 1)], 28)], (false, ([], ([], ([(1141, some (6, 1)), (1144, some (10, 0))], none)))))))
theorem rk_e1 : RuOk SR ru_e1 := by
  intro τ m g hi hc ha hS
  obtain ⟨i0, i1, i2, i3, i4, i5, i6, i7, i8, i9, i10, _⟩ := hi
  have t1199 : τ 1199 = some (g 0) := i0
  have t1102 : τ 1102 = some (g 1) := i1
  have t1122 : τ 1122 = some (g 2) := i2
  have t1123 : τ 1123 = some (g 3) := i3
  have t1124 : τ 1124 = some (g 4) := i4
  have t1140 : τ 1140 = some (g 5) := i5
  have t1141 : τ 1141 = some (g 6) := i6
  have t1142 : τ 1142 = some (g 7) := i7
  have t1143 : τ 1143 = some (g 8) := i8
  have t1144 : τ 1144 = some (g 9) := i9
  have xk : g 10 = 23 := i10
  obtain ⟨c0, c1, c2, c3, c4, c5, _⟩ := hc
  have c0 : 1 * g 9 ≤ 9 := d1 c0
  have c1 : (-1) * g 9 ≤ (-9) := d1 c1
  have c2 : (-1) * g 2 + 1 * g 6 ≤ 0 := d2 c2
  have c3 : 1 * g 2 + (-1) * g 6 ≤ 0 := d2 c3
  have c4 : (-1) * g 4 ≤ (-27) := d1 c4
  have c5 : 1 * g 4 ≤ 28 := d1 c5
  obtain ⟨h0, k_tok, k_sc1, k_sc2, k_T, k_I, k_F, k_N, k_Y, k_Z, k_A, k_B, k_C, k_X, k_R, k_f4⟩ := hS (by rw [t1199]; exact fun e => by cases e)
  have k_tok0 := k_tok
  obtain ⟨h_L, h_n, h_nF⟩ := k_tok0
  have k_I0 := k_I
  obtain ⟨h_p, h_pc, h_ip, h_iP, h_PC, h_PN⟩ := k_I0
  have k_B0 := k_B
  obtain ⟨h_B0, h_B, h_Bd0, h_B26, h_B22, h_Bs⟩ := k_B0
  obtain ⟨hn0, _, hNT⟩ := h_nF _ t1102
  have hB := h_B _ _ _ _ _ _ t1102 t1140 t1141 t1142 t1143 t1144
  have rB := hB.1
  obtain ⟨⟨hi0, hi1⟩, hpi⟩ := h_ip _ _ _ t1102 t1122 t1123
  have eb : (g 2).toNat = (g 6).toNat := by omega
  rw [eb] at hpi
  have ep : (g 3).toNat = Tp9 (tx9 m) (g 6).toNat := by omega
  have hcc := h_pc _ _ t1123 t1124
  rw [ep] at hcc
  have hx1 := NT_next hNT (i := (g 6).toNat) (by omega) (by omega)
  exact ⟨rfl, trivial, trivial, fun _ => ⟨h0, k_tok, k_sc1, k_sc2, k_T, k_I, k_F, k_N, k_Y, k_Z, k_A, ⟨fun nF Bd Bi Br Bm e0 e1 e2 e3 e4 => by
      have e0 : g 1 = nF := Option.some.inj (t1102.symm.trans e0)
      subst e0
      have e1 : g 5 = Bd := Option.some.inj (t1140.symm.trans e1)
      subst e1
      have e2 : g 6 + 1 = Bi := Option.some.inj e2
      subst e2
      have e3 : g 7 = Br := Option.some.inj (t1142.symm.trans e3)
      subst e3
      have e4 : g 10 + 0 = Bm := Option.some.inj e4
      subst e4
      exact ⟨_, RI_u hB 9 23 (by omega) (by omega) rfl (by omega) ⟨by omega, by omega⟩ (fun r h => by
              rw [St_n (by omega)] at h
              exact m_e1 (d := (g 5).toNat) (by omega) (by omega) h)⟩, fun nF Bd Bi Br Bx Bm e0 e1 e2 e3 e4 e5 => by
      have e0 : g 1 = nF := Option.some.inj (t1102.symm.trans e0)
      subst e0
      have e1 : g 5 = Bd := Option.some.inj (t1140.symm.trans e1)
      subst e1
      have e2 : g 6 + 1 = Bi := Option.some.inj e2
      subst e2
      have e3 : g 7 = Br := Option.some.inj (t1142.symm.trans e3)
      subst e3
      have e4 : g 8 = Bx := Option.some.inj (t1143.symm.trans e4)
      subst e4
      have e5 : g 10 + 0 = Bm := Option.some.inj e5
      subst e5
      exact RI_u hB 9 23 (by omega) (by omega) rfl (by omega) ⟨by omega, by omega⟩ (fun r h => by
              rw [St_n (by omega)] at h
              exact m_e1 (d := (g 5).toNat) (by omega) (by omega) h), h_Bd0, fun Bd Bi Bm e0 e1 e2 => by
      have e0 : g 5 = Bd := Option.some.inj (t1140.symm.trans e0)
      subst e0
      have e1 : g 6 + 1 = Bi := Option.some.inj e1
      subst e1
      have e2 : g 10 + 0 = Bm := Option.some.inj e2
      subst e2
      intro h
      omega, fun Bd Bi Bm Bf e0 e1 e2 e3 => by
      have e0 : g 5 = Bd := Option.some.inj (t1140.symm.trans e0)
      subst e0
      have e1 : g 6 + 1 = Bi := Option.some.inj e1
      subst e1
      have e2 : g 10 + 0 = Bm := Option.some.inj e2
      subst e2
      intro h
      omega, h_Bs⟩, k_C, k_X, k_R, k_f4⟩⟩
noncomputable def ru_e1a : Ru := ([(0, (1199, (0, (0, 0)))), (0, (1102, (0, (0, 0)))), (0, (1122, (0, (0, 0)))), (0, (1123, (0, (0, 0)))), (0, (1124, (0, (0, 0)))), (0, (1140, (0, (0, 0)))), (0, (1141, (0, (0, 0)))), (0, (1142, (0, (0, 0)))), (0, (1143, (0, (0, 0)))), (0, (1144, (0, (0, 0))))], ([], ([([(9, 1)], 9), ([(9, (-1))], (-9)), ([(2, (-1)), (6, 1)], 0), ([(2, 1), (6, (-1))], 0), ([(4, 1)], 26)], (false, ([([(3, (-1)), (8, 1)], 0), ([(3, 1), (8, (-1))], 0), ([(7, 1)], (-1)), ([(7, (-1))], 1)], ([], ([], none)))))))
theorem rk_e1a : RuOk SR ru_e1a := by
  intro τ m g hi hc ha hS
  obtain ⟨i0, i1, i2, i3, i4, i5, i6, i7, i8, i9, _⟩ := hi
  have t1199 : τ 1199 = some (g 0) := i0
  have t1102 : τ 1102 = some (g 1) := i1
  have t1122 : τ 1122 = some (g 2) := i2
  have t1123 : τ 1123 = some (g 3) := i3
  have t1124 : τ 1124 = some (g 4) := i4
  have t1140 : τ 1140 = some (g 5) := i5
  have t1141 : τ 1141 = some (g 6) := i6
  have t1142 : τ 1142 = some (g 7) := i7
  have t1143 : τ 1143 = some (g 8) := i8
  have t1144 : τ 1144 = some (g 9) := i9
  obtain ⟨c0, c1, c2, c3, c4, _⟩ := hc
  have c0 : 1 * g 9 ≤ 9 := d1 c0
  have c1 : (-1) * g 9 ≤ (-9) := d1 c1
  have c2 : (-1) * g 2 + 1 * g 6 ≤ 0 := d2 c2
  have c3 : 1 * g 2 + (-1) * g 6 ≤ 0 := d2 c3
  have c4 : 1 * g 4 ≤ 26 := d1 c4
  obtain ⟨h0, k_tok, k_sc1, k_sc2, k_T, k_I, k_F, k_N, k_Y, k_Z, k_A, k_B, k_C, k_X, k_R, k_f4⟩ := hS (by rw [t1199]; exact fun e => by cases e)
  have k_tok0 := k_tok
  obtain ⟨h_L, h_n, h_nF⟩ := k_tok0
  have k_I0 := k_I
  obtain ⟨h_p, h_pc, h_ip, h_iP, h_PC, h_PN⟩ := k_I0
  have k_B0 := k_B
  obtain ⟨h_B0, h_B, h_Bd0, h_B26, h_B22, h_Bs⟩ := k_B0
  obtain ⟨hn0, _, hNT⟩ := h_nF _ t1102
  have hB := h_B _ _ _ _ _ _ t1102 t1140 t1141 t1142 t1143 t1144
  have rB := hB.1
  obtain ⟨⟨hi0, hi1⟩, hpi⟩ := h_ip _ _ _ t1102 t1122 t1123
  have eb : (g 2).toNat = (g 6).toNat := by omega
  rw [eb] at hpi
  have ep : (g 3).toNat = Tp9 (tx9 m) (g 6).toNat := by omega
  have hcc := h_pc _ _ t1123 t1124
  rw [ep] at hcc
  obtain ⟨y1, y2⟩ := RI_b hB 9 (by omega) (m_e1a (by omega))
  exact ⟨rfl, ⟨f2 (by omega), f2 (by omega), f1 (by omega), f1 (by omega), trivial⟩, trivial, fun _ => ⟨h0, k_tok, k_sc1, k_sc2, k_T, k_I, k_F, k_N, k_Y, k_Z, k_A, k_B, k_C, k_X, k_R, k_f4⟩⟩
noncomputable def ru_e1b : Ru := ([(0, (1199, (0, (0, 0)))), (0, (1102, (0, (0, 0)))), (0, (1122, (0, (0, 0)))), (0, (1123, (0, (0, 0)))), (0, (1124, (0, (0, 0)))), (0, (1140, (0, (0, 0)))), (0, (1141, (0, (0, 0)))), (0, (1142, (0, (0, 0)))), (0, (1143, (0, (0, 0)))), (0, (1144, (0, (0, 0))))], ([], ([([(9, 1)], 9), ([(9, (-1))], (-9)), ([(2, (-1)), (6, 1)], 0), ([(2, 1), (6, (-1))], 0), ([(4, (-1))], (-29))], (false, ([([(3, (-1)), (8, 1)], 0), ([(3, 1), (8, (-1))], 0), ([(7, 1)], (-1)), ([(7, (-1))], 1)], ([], ([], none)))))))
theorem rk_e1b : RuOk SR ru_e1b := by
  intro τ m g hi hc ha hS
  obtain ⟨i0, i1, i2, i3, i4, i5, i6, i7, i8, i9, _⟩ := hi
  have t1199 : τ 1199 = some (g 0) := i0
  have t1102 : τ 1102 = some (g 1) := i1
  have t1122 : τ 1122 = some (g 2) := i2
  have t1123 : τ 1123 = some (g 3) := i3
  have t1124 : τ 1124 = some (g 4) := i4
  have t1140 : τ 1140 = some (g 5) := i5
  have t1141 : τ 1141 = some (g 6) := i6
  have t1142 : τ 1142 = some (g 7) := i7
  have t1143 : τ 1143 = some (g 8) := i8
  have t1144 : τ 1144 = some (g 9) := i9
  obtain ⟨c0, c1, c2, c3, c4, _⟩ := hc
  have c0 : 1 * g 9 ≤ 9 := d1 c0
  have c1 : (-1) * g 9 ≤ (-9) := d1 c1
  have c2 : (-1) * g 2 + 1 * g 6 ≤ 0 := d2 c2
  have c3 : 1 * g 2 + (-1) * g 6 ≤ 0 := d2 c3
  have c4 : (-1) * g 4 ≤ (-29) := d1 c4
  obtain ⟨h0, k_tok, k_sc1, k_sc2, k_T, k_I, k_F, k_N, k_Y, k_Z, k_A, k_B, k_C, k_X, k_R, k_f4⟩ := hS (by rw [t1199]; exact fun e => by cases e)
  have k_tok0 := k_tok
  obtain ⟨h_L, h_n, h_nF⟩ := k_tok0
  have k_I0 := k_I
  obtain ⟨h_p, h_pc, h_ip, h_iP, h_PC, h_PN⟩ := k_I0
  have k_B0 := k_B
  obtain ⟨h_B0, h_B, h_Bd0, h_B26, h_B22, h_Bs⟩ := k_B0
  obtain ⟨hn0, _, hNT⟩ := h_nF _ t1102
  have hB := h_B _ _ _ _ _ _ t1102 t1140 t1141 t1142 t1143 t1144
  have rB := hB.1
  obtain ⟨⟨hi0, hi1⟩, hpi⟩ := h_ip _ _ _ t1102 t1122 t1123
  have eb : (g 2).toNat = (g 6).toNat := by omega
  rw [eb] at hpi
  have ep : (g 3).toNat = Tp9 (tx9 m) (g 6).toNat := by omega
  have hcc := h_pc _ _ t1123 t1124
  rw [ep] at hcc
  obtain ⟨y1, y2⟩ := RI_b hB 9 (by omega) (m_e1b (by omega))
  exact ⟨rfl, ⟨f2 (by omega), f2 (by omega), f1 (by omega), f1 (by omega), trivial⟩, trivial, fun _ => ⟨h0, k_tok, k_sc1, k_sc2, k_T, k_I, k_F, k_N, k_Y, k_Z, k_A, k_B, k_C, k_X, k_R, k_f4⟩⟩
noncomputable def ru_e2 : Ru := ([(0, (1199, (0, (0, 0)))), (0, (1102, (0, (0, 0)))), (0, (1122, (0, (0, 0)))), (0, (1123, (0, (0, 0)))), (0, (1124, (0, (0, 0)))), (0, (1140, (0, (0, 0)))), (0, (1141, (0, (0, 0)))), (0, (1142, (0, (0, 0)))), (0, (1143, (0, (0, 0)))), (0, (1144, (0, (0, 0)))), (4, (0, (0, (24, 0))))], ([], ([([(9, 1)], 23), ([(9, (-1))], (-23)), ([(2, (-1)), (6, 1)], 0), ([(2, 1), (6, (-1))], 0), ([(4, (-1))], (-20)), ([(4, 1)], 20)], (false, ([], ([], ([(1141, some (6, 1)), (1144, some (10, 0))], none)))))))
theorem rk_e2 : RuOk SR ru_e2 := by
  intro τ m g hi hc ha hS
  obtain ⟨i0, i1, i2, i3, i4, i5, i6, i7, i8, i9, i10, _⟩ := hi
  have t1199 : τ 1199 = some (g 0) := i0
  have t1102 : τ 1102 = some (g 1) := i1
  have t1122 : τ 1122 = some (g 2) := i2
  have t1123 : τ 1123 = some (g 3) := i3
  have t1124 : τ 1124 = some (g 4) := i4
  have t1140 : τ 1140 = some (g 5) := i5
  have t1141 : τ 1141 = some (g 6) := i6
  have t1142 : τ 1142 = some (g 7) := i7
  have t1143 : τ 1143 = some (g 8) := i8
  have t1144 : τ 1144 = some (g 9) := i9
  have xk : g 10 = 24 := i10
  obtain ⟨c0, c1, c2, c3, c4, c5, _⟩ := hc
  have c0 : 1 * g 9 ≤ 23 := d1 c0
  have c1 : (-1) * g 9 ≤ (-23) := d1 c1
  have c2 : (-1) * g 2 + 1 * g 6 ≤ 0 := d2 c2
  have c3 : 1 * g 2 + (-1) * g 6 ≤ 0 := d2 c3
  have c4 : (-1) * g 4 ≤ (-20) := d1 c4
  have c5 : 1 * g 4 ≤ 20 := d1 c5
  obtain ⟨h0, k_tok, k_sc1, k_sc2, k_T, k_I, k_F, k_N, k_Y, k_Z, k_A, k_B, k_C, k_X, k_R, k_f4⟩ := hS (by rw [t1199]; exact fun e => by cases e)
  have k_tok0 := k_tok
  obtain ⟨h_L, h_n, h_nF⟩ := k_tok0
  have k_I0 := k_I
  obtain ⟨h_p, h_pc, h_ip, h_iP, h_PC, h_PN⟩ := k_I0
  have k_B0 := k_B
  obtain ⟨h_B0, h_B, h_Bd0, h_B26, h_B22, h_Bs⟩ := k_B0
  obtain ⟨hn0, _, hNT⟩ := h_nF _ t1102
  have hB := h_B _ _ _ _ _ _ t1102 t1140 t1141 t1142 t1143 t1144
  have rB := hB.1
  obtain ⟨⟨hi0, hi1⟩, hpi⟩ := h_ip _ _ _ t1102 t1122 t1123
  have eb : (g 2).toNat = (g 6).toNat := by omega
  rw [eb] at hpi
  have ep : (g 3).toNat = Tp9 (tx9 m) (g 6).toNat := by omega
  have hcc := h_pc _ _ t1123 t1124
  rw [ep] at hcc
  have hx1 := NT_next hNT (i := (g 6).toNat) (by omega) (by omega)
  exact ⟨rfl, trivial, trivial, fun _ => ⟨h0, k_tok, k_sc1, k_sc2, k_T, k_I, k_F, k_N, k_Y, k_Z, k_A, ⟨fun nF Bd Bi Br Bm e0 e1 e2 e3 e4 => by
      have e0 : g 1 = nF := Option.some.inj (t1102.symm.trans e0)
      subst e0
      have e1 : g 5 = Bd := Option.some.inj (t1140.symm.trans e1)
      subst e1
      have e2 : g 6 + 1 = Bi := Option.some.inj e2
      subst e2
      have e3 : g 7 = Br := Option.some.inj (t1142.symm.trans e3)
      subst e3
      have e4 : g 10 + 0 = Bm := Option.some.inj e4
      subst e4
      exact ⟨_, RI_u hB 23 24 (by omega) (by omega) rfl (by omega) ⟨by omega, by omega⟩ (fun r h => by
              rw [St_n (by omega)] at h
              exact m_e2 (d := (g 5).toNat) (by omega) (by omega) h)⟩, fun nF Bd Bi Br Bx Bm e0 e1 e2 e3 e4 e5 => by
      have e0 : g 1 = nF := Option.some.inj (t1102.symm.trans e0)
      subst e0
      have e1 : g 5 = Bd := Option.some.inj (t1140.symm.trans e1)
      subst e1
      have e2 : g 6 + 1 = Bi := Option.some.inj e2
      subst e2
      have e3 : g 7 = Br := Option.some.inj (t1142.symm.trans e3)
      subst e3
      have e4 : g 8 = Bx := Option.some.inj (t1143.symm.trans e4)
      subst e4
      have e5 : g 10 + 0 = Bm := Option.some.inj e5
      subst e5
      exact RI_u hB 23 24 (by omega) (by omega) rfl (by omega) ⟨by omega, by omega⟩ (fun r h => by
              rw [St_n (by omega)] at h
              exact m_e2 (d := (g 5).toNat) (by omega) (by omega) h), h_Bd0, fun Bd Bi Bm e0 e1 e2 => by
      have e0 : g 5 = Bd := Option.some.inj (t1140.symm.trans e0)
      subst e0
      have e1 : g 6 + 1 = Bi := Option.some.inj e1
      subst e1
      have e2 : g 10 + 0 = Bm := Option.some.inj e2
      subst e2
      intro h
      omega, fun Bd Bi Bm Bf e0 e1 e2 e3 => by
      have e0 : g 5 = Bd := Option.some.inj (t1140.symm.trans e0)
      subst e0
      have e1 : g 6 + 1 = Bi := Option.some.inj e1
      subst e1
      have e2 : g 10 + 0 = Bm := Option.some.inj e2
      subst e2
      intro h
      omega, h_Bs⟩, k_C, k_X, k_R, k_f4⟩⟩
noncomputable def ru_e2a : Ru := ([(0, (1199, (0, (0, 0)))), (0, (1102, (0, (0, 0)))), (0, (1122, (0, (0, 0)))), (0, (1123, (0, (0, 0)))), (0, (1124, (0, (0, 0)))), (0, (1140, (0, (0, 0)))), (0, (1141, (0, (0, 0)))), (0, (1142, (0, (0, 0)))), (0, (1143, (0, (0, 0)))), (0, (1144, (0, (0, 0))))], ([], ([([(9, 1)], 23), ([(9, (-1))], (-23)), ([(2, (-1)), (6, 1)], 0), ([(2, 1), (6, (-1))], 0), ([(4, 1)], 19)], (false, ([([(3, (-1)), (8, 1)], 0), ([(3, 1), (8, (-1))], 0), ([(7, 1)], (-1)), ([(7, (-1))], 1)], ([], ([], none)))))))
theorem rk_e2a : RuOk SR ru_e2a := by
  intro τ m g hi hc ha hS
  obtain ⟨i0, i1, i2, i3, i4, i5, i6, i7, i8, i9, _⟩ := hi
  have t1199 : τ 1199 = some (g 0) := i0
  have t1102 : τ 1102 = some (g 1) := i1
  have t1122 : τ 1122 = some (g 2) := i2
  have t1123 : τ 1123 = some (g 3) := i3
  have t1124 : τ 1124 = some (g 4) := i4
  have t1140 : τ 1140 = some (g 5) := i5
  have t1141 : τ 1141 = some (g 6) := i6
  have t1142 : τ 1142 = some (g 7) := i7
  have t1143 : τ 1143 = some (g 8) := i8
  have t1144 : τ 1144 = some (g 9) := i9
  obtain ⟨c0, c1, c2, c3, c4, _⟩ := hc
  have c0 : 1 * g 9 ≤ 23 := d1 c0
  have c1 : (-1) * g 9 ≤ (-23) := d1 c1
  have c2 : (-1) * g 2 + 1 * g 6 ≤ 0 := d2 c2
  have c3 : 1 * g 2 + (-1) * g 6 ≤ 0 := d2 c3
  have c4 : 1 * g 4 ≤ 19 := d1 c4
  obtain ⟨h0, k_tok, k_sc1, k_sc2, k_T, k_I, k_F, k_N, k_Y, k_Z, k_A, k_B, k_C, k_X, k_R, k_f4⟩ := hS (by rw [t1199]; exact fun e => by cases e)
  have k_tok0 := k_tok
  obtain ⟨h_L, h_n, h_nF⟩ := k_tok0
  have k_I0 := k_I
  obtain ⟨h_p, h_pc, h_ip, h_iP, h_PC, h_PN⟩ := k_I0
  have k_B0 := k_B
  obtain ⟨h_B0, h_B, h_Bd0, h_B26, h_B22, h_Bs⟩ := k_B0
  obtain ⟨hn0, _, hNT⟩ := h_nF _ t1102
  have hB := h_B _ _ _ _ _ _ t1102 t1140 t1141 t1142 t1143 t1144
  have rB := hB.1
  obtain ⟨⟨hi0, hi1⟩, hpi⟩ := h_ip _ _ _ t1102 t1122 t1123
  have eb : (g 2).toNat = (g 6).toNat := by omega
  rw [eb] at hpi
  have ep : (g 3).toNat = Tp9 (tx9 m) (g 6).toNat := by omega
  have hcc := h_pc _ _ t1123 t1124
  rw [ep] at hcc
  obtain ⟨y1, y2⟩ := RI_b hB 23 (by omega) (m_e2a (by omega))
  exact ⟨rfl, ⟨f2 (by omega), f2 (by omega), f1 (by omega), f1 (by omega), trivial⟩, trivial, fun _ => ⟨h0, k_tok, k_sc1, k_sc2, k_T, k_I, k_F, k_N, k_Y, k_Z, k_A, k_B, k_C, k_X, k_R, k_f4⟩⟩
noncomputable def ru_e2b : Ru := ([(0, (1199, (0, (0, 0)))), (0, (1102, (0, (0, 0)))), (0, (1122, (0, (0, 0)))), (0, (1123, (0, (0, 0)))), (0, (1124, (0, (0, 0)))), (0, (1140, (0, (0, 0)))), (0, (1141, (0, (0, 0)))), (0, (1142, (0, (0, 0)))), (0, (1143, (0, (0, 0)))), (0, (1144, (0, (0, 0))))], ([], ([([(9, 1)], 23), ([(9, (-1))], (-23)), ([(2, (-1)), (6, 1)], 0), ([(2, 1), (6, (-1))], 0), ([(4, (-1))], (-21))], (false, ([([(3, (-1)), (8, 1)], 0), ([(3, 1), (8, (-1))], 0), ([(7, 1)], (-1)), ([(7, (-1))], 1)], ([], ([], none)))))))
theorem rk_e2b : RuOk SR ru_e2b := by
  intro τ m g hi hc ha hS
  obtain ⟨i0, i1, i2, i3, i4, i5, i6, i7, i8, i9, _⟩ := hi
  have t1199 : τ 1199 = some (g 0) := i0
  have t1102 : τ 1102 = some (g 1) := i1
  have t1122 : τ 1122 = some (g 2) := i2
  have t1123 : τ 1123 = some (g 3) := i3
  have t1124 : τ 1124 = some (g 4) := i4
  have t1140 : τ 1140 = some (g 5) := i5
  have t1141 : τ 1141 = some (g 6) := i6
  have t1142 : τ 1142 = some (g 7) := i7
  have t1143 : τ 1143 = some (g 8) := i8
  have t1144 : τ 1144 = some (g 9) := i9
  obtain ⟨c0, c1, c2, c3, c4, _⟩ := hc
  have c0 : 1 * g 9 ≤ 23 := d1 c0
  have c1 : (-1) * g 9 ≤ (-23) := d1 c1
  have c2 : (-1) * g 2 + 1 * g 6 ≤ 0 := d2 c2
  have c3 : 1 * g 2 + (-1) * g 6 ≤ 0 := d2 c3
  have c4 : (-1) * g 4 ≤ (-21) := d1 c4
  obtain ⟨h0, k_tok, k_sc1, k_sc2, k_T, k_I, k_F, k_N, k_Y, k_Z, k_A, k_B, k_C, k_X, k_R, k_f4⟩ := hS (by rw [t1199]; exact fun e => by cases e)
  have k_tok0 := k_tok
  obtain ⟨h_L, h_n, h_nF⟩ := k_tok0
  have k_I0 := k_I
  obtain ⟨h_p, h_pc, h_ip, h_iP, h_PC, h_PN⟩ := k_I0
  have k_B0 := k_B
  obtain ⟨h_B0, h_B, h_Bd0, h_B26, h_B22, h_Bs⟩ := k_B0
  obtain ⟨hn0, _, hNT⟩ := h_nF _ t1102
  have hB := h_B _ _ _ _ _ _ t1102 t1140 t1141 t1142 t1143 t1144
  have rB := hB.1
  obtain ⟨⟨hi0, hi1⟩, hpi⟩ := h_ip _ _ _ t1102 t1122 t1123
  have eb : (g 2).toNat = (g 6).toNat := by omega
  rw [eb] at hpi
  have ep : (g 3).toNat = Tp9 (tx9 m) (g 6).toNat := by omega
  have hcc := h_pc _ _ t1123 t1124
  rw [ep] at hcc
  obtain ⟨y1, y2⟩ := RI_b hB 23 (by omega) (m_e2b (by omega))
  exact ⟨rfl, ⟨f2 (by omega), f2 (by omega), f1 (by omega), f1 (by omega), trivial⟩, trivial, fun _ => ⟨h0, k_tok, k_sc1, k_sc2, k_T, k_I, k_F, k_N, k_Y, k_Z, k_A, k_B, k_C, k_X, k_R, k_f4⟩⟩
noncomputable def ru_e3 : Ru := ([(0, (1199, (0, (0, 0)))), (0, (1102, (0, (0, 0)))), (0, (1122, (0, (0, 0)))), (0, (1123, (0, (0, 0)))), (0, (1124, (0, (0, 0)))), (0, (1140, (0, (0, 0)))), (0, (1141, (0, (0, 0)))), (0, (1142, (0, (0, 0)))), (0, (1143, (0, (0, 0)))), (0, (1144, (0, (0, 0))))], ([], ([([(9, 1)], 24), ([(9, (-1))], (-24)), ([(2, (-1)), (6, 1)], 0), ([(2, 1), (6, (-1))], 0), ([(4, (-1))], (-40)), ([(4, 1)], 47)], (false, ([([(6, (-1)), (7, 1)], 1), ([(6, 1), (7, (-1))], (-1)), ([(8, 1)], (-1)), ([(8, (-1))], 1)], ([], ([], none)))))))
theorem rk_e3 : RuOk SR ru_e3 := by
  intro τ m g hi hc ha hS
  obtain ⟨i0, i1, i2, i3, i4, i5, i6, i7, i8, i9, _⟩ := hi
  have t1199 : τ 1199 = some (g 0) := i0
  have t1102 : τ 1102 = some (g 1) := i1
  have t1122 : τ 1122 = some (g 2) := i2
  have t1123 : τ 1123 = some (g 3) := i3
  have t1124 : τ 1124 = some (g 4) := i4
  have t1140 : τ 1140 = some (g 5) := i5
  have t1141 : τ 1141 = some (g 6) := i6
  have t1142 : τ 1142 = some (g 7) := i7
  have t1143 : τ 1143 = some (g 8) := i8
  have t1144 : τ 1144 = some (g 9) := i9
  obtain ⟨c0, c1, c2, c3, c4, c5, _⟩ := hc
  have c0 : 1 * g 9 ≤ 24 := d1 c0
  have c1 : (-1) * g 9 ≤ (-24) := d1 c1
  have c2 : (-1) * g 2 + 1 * g 6 ≤ 0 := d2 c2
  have c3 : 1 * g 2 + (-1) * g 6 ≤ 0 := d2 c3
  have c4 : (-1) * g 4 ≤ (-40) := d1 c4
  have c5 : 1 * g 4 ≤ 47 := d1 c5
  obtain ⟨h0, k_tok, k_sc1, k_sc2, k_T, k_I, k_F, k_N, k_Y, k_Z, k_A, k_B, k_C, k_X, k_R, k_f4⟩ := hS (by rw [t1199]; exact fun e => by cases e)
  have k_tok0 := k_tok
  obtain ⟨h_L, h_n, h_nF⟩ := k_tok0
  have k_I0 := k_I
  obtain ⟨h_p, h_pc, h_ip, h_iP, h_PC, h_PN⟩ := k_I0
  have k_B0 := k_B
  obtain ⟨h_B0, h_B, h_Bd0, h_B26, h_B22, h_Bs⟩ := k_B0
  obtain ⟨hn0, _, hNT⟩ := h_nF _ t1102
  have hB := h_B _ _ _ _ _ _ t1102 t1140 t1141 t1142 t1143 t1144
  have rB := hB.1
  obtain ⟨⟨hi0, hi1⟩, hpi⟩ := h_ip _ _ _ t1102 t1122 t1123
  have eb : (g 2).toNat = (g 6).toNat := by omega
  rw [eb] at hpi
  have ep : (g 3).toNat = Tp9 (tx9 m) (g 6).toNat := by omega
  have hcc := h_pc _ _ t1123 t1124
  rw [ep] at hcc
  obtain ⟨y1, y2⟩ := RI_f hNT hB 24 (by omega) (j := (g 6).toNat + 1) (NT_next hNT (i := (g 6).toNat) (by omega) (by omega)) (m_e3 (by omega) (by omega))
  exact ⟨rfl, ⟨f2 (by omega), f2 (by omega), f1 (by omega), f1 (by omega), trivial⟩, trivial, fun _ => ⟨h0, k_tok, k_sc1, k_sc2, k_T, k_I, k_F, k_N, k_Y, k_Z, k_A, k_B, k_C, k_X, k_R, k_f4⟩⟩
noncomputable def ru_e3a : Ru := ([(0, (1199, (0, (0, 0)))), (0, (1102, (0, (0, 0)))), (0, (1122, (0, (0, 0)))), (0, (1123, (0, (0, 0)))), (0, (1124, (0, (0, 0)))), (0, (1140, (0, (0, 0)))), (0, (1141, (0, (0, 0)))), (0, (1142, (0, (0, 0)))), (0, (1143, (0, (0, 0)))), (0, (1144, (0, (0, 0))))], ([], ([([(9, 1)], 24), ([(9, (-1))], (-24)), ([(2, (-1)), (6, 1)], 0), ([(2, 1), (6, (-1))], 0), ([(4, 1)], 39)], (false, ([([(3, (-1)), (8, 1)], 0), ([(3, 1), (8, (-1))], 0), ([(7, 1)], (-1)), ([(7, (-1))], 1)], ([], ([], none)))))))
theorem rk_e3a : RuOk SR ru_e3a := by
  intro τ m g hi hc ha hS
  obtain ⟨i0, i1, i2, i3, i4, i5, i6, i7, i8, i9, _⟩ := hi
  have t1199 : τ 1199 = some (g 0) := i0
  have t1102 : τ 1102 = some (g 1) := i1
  have t1122 : τ 1122 = some (g 2) := i2
  have t1123 : τ 1123 = some (g 3) := i3
  have t1124 : τ 1124 = some (g 4) := i4
  have t1140 : τ 1140 = some (g 5) := i5
  have t1141 : τ 1141 = some (g 6) := i6
  have t1142 : τ 1142 = some (g 7) := i7
  have t1143 : τ 1143 = some (g 8) := i8
  have t1144 : τ 1144 = some (g 9) := i9
  obtain ⟨c0, c1, c2, c3, c4, _⟩ := hc
  have c0 : 1 * g 9 ≤ 24 := d1 c0
  have c1 : (-1) * g 9 ≤ (-24) := d1 c1
  have c2 : (-1) * g 2 + 1 * g 6 ≤ 0 := d2 c2
  have c3 : 1 * g 2 + (-1) * g 6 ≤ 0 := d2 c3
  have c4 : 1 * g 4 ≤ 39 := d1 c4
  obtain ⟨h0, k_tok, k_sc1, k_sc2, k_T, k_I, k_F, k_N, k_Y, k_Z, k_A, k_B, k_C, k_X, k_R, k_f4⟩ := hS (by rw [t1199]; exact fun e => by cases e)
  have k_tok0 := k_tok
  obtain ⟨h_L, h_n, h_nF⟩ := k_tok0
  have k_I0 := k_I
  obtain ⟨h_p, h_pc, h_ip, h_iP, h_PC, h_PN⟩ := k_I0
  have k_B0 := k_B
  obtain ⟨h_B0, h_B, h_Bd0, h_B26, h_B22, h_Bs⟩ := k_B0
  obtain ⟨hn0, _, hNT⟩ := h_nF _ t1102
  have hB := h_B _ _ _ _ _ _ t1102 t1140 t1141 t1142 t1143 t1144
  have rB := hB.1
  obtain ⟨⟨hi0, hi1⟩, hpi⟩ := h_ip _ _ _ t1102 t1122 t1123
  have eb : (g 2).toNat = (g 6).toNat := by omega
  rw [eb] at hpi
  have ep : (g 3).toNat = Tp9 (tx9 m) (g 6).toNat := by omega
  have hcc := h_pc _ _ t1123 t1124
  rw [ep] at hcc
  obtain ⟨y1, y2⟩ := RI_b hB 24 (by omega) (m_e3a (by omega))
  exact ⟨rfl, ⟨f2 (by omega), f2 (by omega), f1 (by omega), f1 (by omega), trivial⟩, trivial, fun _ => ⟨h0, k_tok, k_sc1, k_sc2, k_T, k_I, k_F, k_N, k_Y, k_Z, k_A, k_B, k_C, k_X, k_R, k_f4⟩⟩
noncomputable def ru_e3b : Ru := ([(0, (1199, (0, (0, 0)))), (0, (1102, (0, (0, 0)))), (0, (1122, (0, (0, 0)))), (0, (1123, (0, (0, 0)))), (0, (1124, (0, (0, 0)))), (0, (1140, (0, (0, 0)))), (0, (1141, (0, (0, 0)))), (0, (1142, (0, (0, 0)))), (0, (1143, (0, (0, 0)))), (0, (1144, (0, (0, 0))))], ([], ([([(9, 1)], 24), ([(9, (-1))], (-24)), ([(2, (-1)), (6, 1)], 0), ([(2, 1), (6, (-1))], 0), ([(4, (-1))], (-48))], (false, ([([(3, (-1)), (8, 1)], 0), ([(3, 1), (8, (-1))], 0), ([(7, 1)], (-1)), ([(7, (-1))], 1)], ([], ([], none)))))))
theorem rk_e3b : RuOk SR ru_e3b := by
  intro τ m g hi hc ha hS
  obtain ⟨i0, i1, i2, i3, i4, i5, i6, i7, i8, i9, _⟩ := hi
  have t1199 : τ 1199 = some (g 0) := i0
  have t1102 : τ 1102 = some (g 1) := i1
  have t1122 : τ 1122 = some (g 2) := i2
  have t1123 : τ 1123 = some (g 3) := i3
  have t1124 : τ 1124 = some (g 4) := i4
  have t1140 : τ 1140 = some (g 5) := i5
  have t1141 : τ 1141 = some (g 6) := i6
  have t1142 : τ 1142 = some (g 7) := i7
  have t1143 : τ 1143 = some (g 8) := i8
  have t1144 : τ 1144 = some (g 9) := i9
  obtain ⟨c0, c1, c2, c3, c4, _⟩ := hc
  have c0 : 1 * g 9 ≤ 24 := d1 c0
  have c1 : (-1) * g 9 ≤ (-24) := d1 c1
  have c2 : (-1) * g 2 + 1 * g 6 ≤ 0 := d2 c2
  have c3 : 1 * g 2 + (-1) * g 6 ≤ 0 := d2 c3
  have c4 : (-1) * g 4 ≤ (-48) := d1 c4
  obtain ⟨h0, k_tok, k_sc1, k_sc2, k_T, k_I, k_F, k_N, k_Y, k_Z, k_A, k_B, k_C, k_X, k_R, k_f4⟩ := hS (by rw [t1199]; exact fun e => by cases e)
  have k_tok0 := k_tok
  obtain ⟨h_L, h_n, h_nF⟩ := k_tok0
  have k_I0 := k_I
  obtain ⟨h_p, h_pc, h_ip, h_iP, h_PC, h_PN⟩ := k_I0
  have k_B0 := k_B
  obtain ⟨h_B0, h_B, h_Bd0, h_B26, h_B22, h_Bs⟩ := k_B0
  obtain ⟨hn0, _, hNT⟩ := h_nF _ t1102
  have hB := h_B _ _ _ _ _ _ t1102 t1140 t1141 t1142 t1143 t1144
  have rB := hB.1
  obtain ⟨⟨hi0, hi1⟩, hpi⟩ := h_ip _ _ _ t1102 t1122 t1123
  have eb : (g 2).toNat = (g 6).toNat := by omega
  rw [eb] at hpi
  have ep : (g 3).toNat = Tp9 (tx9 m) (g 6).toNat := by omega
  have hcc := h_pc _ _ t1123 t1124
  rw [ep] at hcc
  obtain ⟨y1, y2⟩ := RI_b hB 24 (by omega) (m_e3b (by omega))
  exact ⟨rfl, ⟨f2 (by omega), f2 (by omega), f1 (by omega), f1 (by omega), trivial⟩, trivial, fun _ => ⟨h0, k_tok, k_sc1, k_sc2, k_T, k_I, k_F, k_N, k_Y, k_Z, k_A, k_B, k_C, k_X, k_R, k_f4⟩⟩
noncomputable def ru_hnp : Ru := ([(0, (1199, (0, (0, 0)))), (0, (1102, (0, (0, 0)))), (0, (1122, (0, (0, 0)))), (0, (1123, (0, (0, 0)))), (4, (0, (0, (112, 0))))], ([1184, 1185, 1186, 1187, 1188], ([], (false, ([], ([], ([(1184, some (3, 0)), (1185, some (4, 0))], some (1186, ((-1), 999999999)))))))))
theorem rk_hnp : RuOk SR ru_hnp := by
  intro τ m g hi hc ha hS
  obtain ⟨i0, i1, i2, i3, i4, _⟩ := hi
  have t1199 : τ 1199 = some (g 0) := i0
  have t1102 : τ 1102 = some (g 1) := i1
  have t1122 : τ 1122 = some (g 2) := i2
  have t1123 : τ 1123 = some (g 3) := i3
  have xg : g 4 = 112 := i4
  obtain ⟨a0, a1, a2, a3, a4, _⟩ := ha
  have n1184 : τ 1184 = none := a0
  have n1185 : τ 1185 = none := a1
  have n1186 : τ 1186 = none := a2
  have n1187 : τ 1187 = none := a3
  have n1188 : τ 1188 = none := a4
  obtain ⟨h0, k_tok, k_sc1, k_sc2, k_T, k_I, k_F, k_N, k_Y, k_Z, k_A, k_B, k_C, k_X, k_R, k_f4⟩ := hS (by rw [t1199]; exact fun e => by cases e)
  have k_tok0 := k_tok
  obtain ⟨h_L, h_n, h_nF⟩ := k_tok0
  have k_I0 := k_I
  obtain ⟨h_p, h_pc, h_ip, h_iP, h_PC, h_PN⟩ := k_I0
  have k_N0 := k_N
  obtain ⟨h_N, h_Nk, h_V, h_Yq⟩ := k_N0
  obtain ⟨hn0, _, hNT⟩ := h_nF _ t1102
  have hXL : ((tx9 m).2 : Int) = m 110 1 := by
    show (((m 110 1).toNat : Nat) : Int) = _
    omega
  obtain ⟨⟨hi0, hi1⟩, hpi⟩ := h_ip _ _ _ t1102 t1122 t1123
  have hTK := (h_nF _ t1102).2.1.1 (g 2).toNat (by omega)
  have hSL := St_L (X := tx9 m) (i := (g 2).toNat)
  obtain ⟨x0, hx0⟩ : ∃ x0 : Int, x0 = nb9 (tx9 m) (g 3).toNat 112 := ⟨_, rfl⟩
  obtain ⟨x1, x2⟩ : -1 ≤ x0 ∧ x0 ≤ 999999999 := by rw [hx0]; exact nb_bd
  exact ⟨rfl, trivial, trivial, x0, x1, x2, fun _ => ⟨h0, k_tok, k_sc1, k_sc2, k_T, k_I, k_F, ⟨fun Np Ng Nv e0 e1 e2 => by
      have e0 : g 3 + 0 = Np := Option.some.inj e0
      subst e0
      have e1 : g 4 + 0 = Ng := Option.some.inj e1
      subst e1
      have e2 : x0 = Nv := Option.some.inj e2
      subst e2
      rw [Int.add_zero, show g 4 + 0 = 112 by omega]
      exact ⟨⟨by omega, by omega⟩, hx0⟩, fun _ _ _ _ _ e0 e1 e2 e3 e4 => no9 n1187 e3, h_V, h_Yq⟩, k_Y, k_Z, k_A, k_B, k_C, k_X, k_R, k_f4⟩⟩
noncomputable def ru_hng : Ru := ([(0, (1199, (0, (0, 0)))), (0, (1102, (0, (0, 0)))), (0, (1122, (0, (0, 0)))), (0, (1123, (0, (0, 0)))), (4, (0, (0, (103, 0))))], ([1184, 1185, 1186, 1187, 1188], ([], (false, ([], ([], ([(1184, some (3, 0)), (1185, some (4, 0))], some (1186, ((-1), 999999999)))))))))
theorem rk_hng : RuOk SR ru_hng := by
  intro τ m g hi hc ha hS
  obtain ⟨i0, i1, i2, i3, i4, _⟩ := hi
  have t1199 : τ 1199 = some (g 0) := i0
  have t1102 : τ 1102 = some (g 1) := i1
  have t1122 : τ 1122 = some (g 2) := i2
  have t1123 : τ 1123 = some (g 3) := i3
  have xg : g 4 = 103 := i4
  obtain ⟨a0, a1, a2, a3, a4, _⟩ := ha
  have n1184 : τ 1184 = none := a0
  have n1185 : τ 1185 = none := a1
  have n1186 : τ 1186 = none := a2
  have n1187 : τ 1187 = none := a3
  have n1188 : τ 1188 = none := a4
  obtain ⟨h0, k_tok, k_sc1, k_sc2, k_T, k_I, k_F, k_N, k_Y, k_Z, k_A, k_B, k_C, k_X, k_R, k_f4⟩ := hS (by rw [t1199]; exact fun e => by cases e)
  have k_tok0 := k_tok
  obtain ⟨h_L, h_n, h_nF⟩ := k_tok0
  have k_I0 := k_I
  obtain ⟨h_p, h_pc, h_ip, h_iP, h_PC, h_PN⟩ := k_I0
  have k_N0 := k_N
  obtain ⟨h_N, h_Nk, h_V, h_Yq⟩ := k_N0
  obtain ⟨hn0, _, hNT⟩ := h_nF _ t1102
  have hXL : ((tx9 m).2 : Int) = m 110 1 := by
    show (((m 110 1).toNat : Nat) : Int) = _
    omega
  obtain ⟨⟨hi0, hi1⟩, hpi⟩ := h_ip _ _ _ t1102 t1122 t1123
  have hTK := (h_nF _ t1102).2.1.1 (g 2).toNat (by omega)
  have hSL := St_L (X := tx9 m) (i := (g 2).toNat)
  obtain ⟨x0, hx0⟩ : ∃ x0 : Int, x0 = nb9 (tx9 m) (g 3).toNat 103 := ⟨_, rfl⟩
  obtain ⟨x1, x2⟩ : -1 ≤ x0 ∧ x0 ≤ 999999999 := by rw [hx0]; exact nb_bd
  exact ⟨rfl, trivial, trivial, x0, x1, x2, fun _ => ⟨h0, k_tok, k_sc1, k_sc2, k_T, k_I, k_F, ⟨fun Np Ng Nv e0 e1 e2 => by
      have e0 : g 3 + 0 = Np := Option.some.inj e0
      subst e0
      have e1 : g 4 + 0 = Ng := Option.some.inj e1
      subst e1
      have e2 : x0 = Nv := Option.some.inj e2
      subst e2
      rw [Int.add_zero, show g 4 + 0 = 103 by omega]
      exact ⟨⟨by omega, by omega⟩, hx0⟩, fun _ _ _ _ _ e0 e1 e2 e3 e4 => no9 n1187 e3, h_V, h_Yq⟩, k_Y, k_Z, k_A, k_B, k_C, k_X, k_R, k_f4⟩⟩
noncomputable def ru_hnt : Ru := ([(0, (1199, (0, (0, 0)))), (0, (1102, (0, (0, 0)))), (0, (1122, (0, (0, 0)))), (0, (1123, (0, (0, 0)))), (4, (0, (0, (116, 0))))], ([1184, 1185, 1186, 1187, 1188], ([], (false, ([], ([], ([(1184, some (3, 0)), (1185, some (4, 0))], some (1186, ((-1), 999999999)))))))))
theorem rk_hnt : RuOk SR ru_hnt := by
  intro τ m g hi hc ha hS
  obtain ⟨i0, i1, i2, i3, i4, _⟩ := hi
  have t1199 : τ 1199 = some (g 0) := i0
  have t1102 : τ 1102 = some (g 1) := i1
  have t1122 : τ 1122 = some (g 2) := i2
  have t1123 : τ 1123 = some (g 3) := i3
  have xg : g 4 = 116 := i4
  obtain ⟨a0, a1, a2, a3, a4, _⟩ := ha
  have n1184 : τ 1184 = none := a0
  have n1185 : τ 1185 = none := a1
  have n1186 : τ 1186 = none := a2
  have n1187 : τ 1187 = none := a3
  have n1188 : τ 1188 = none := a4
  obtain ⟨h0, k_tok, k_sc1, k_sc2, k_T, k_I, k_F, k_N, k_Y, k_Z, k_A, k_B, k_C, k_X, k_R, k_f4⟩ := hS (by rw [t1199]; exact fun e => by cases e)
  have k_tok0 := k_tok
  obtain ⟨h_L, h_n, h_nF⟩ := k_tok0
  have k_I0 := k_I
  obtain ⟨h_p, h_pc, h_ip, h_iP, h_PC, h_PN⟩ := k_I0
  have k_N0 := k_N
  obtain ⟨h_N, h_Nk, h_V, h_Yq⟩ := k_N0
  obtain ⟨hn0, _, hNT⟩ := h_nF _ t1102
  have hXL : ((tx9 m).2 : Int) = m 110 1 := by
    show (((m 110 1).toNat : Nat) : Int) = _
    omega
  obtain ⟨⟨hi0, hi1⟩, hpi⟩ := h_ip _ _ _ t1102 t1122 t1123
  have hTK := (h_nF _ t1102).2.1.1 (g 2).toNat (by omega)
  have hSL := St_L (X := tx9 m) (i := (g 2).toNat)
  obtain ⟨x0, hx0⟩ : ∃ x0 : Int, x0 = nb9 (tx9 m) (g 3).toNat 116 := ⟨_, rfl⟩
  obtain ⟨x1, x2⟩ : -1 ≤ x0 ∧ x0 ≤ 999999999 := by rw [hx0]; exact nb_bd
  exact ⟨rfl, trivial, trivial, x0, x1, x2, fun _ => ⟨h0, k_tok, k_sc1, k_sc2, k_T, k_I, k_F, ⟨fun Np Ng Nv e0 e1 e2 => by
      have e0 : g 3 + 0 = Np := Option.some.inj e0
      subst e0
      have e1 : g 4 + 0 = Ng := Option.some.inj e1
      subst e1
      have e2 : x0 = Nv := Option.some.inj e2
      subst e2
      rw [Int.add_zero, show g 4 + 0 = 116 by omega]
      exact ⟨⟨by omega, by omega⟩, hx0⟩, fun _ _ _ _ _ e0 e1 e2 e3 e4 => no9 n1187 e3, h_V, h_Yq⟩, k_Y, k_Z, k_A, k_B, k_C, k_X, k_R, k_f4⟩⟩
noncomputable def ru_hb1 : Ru := ([(0, (1199, (0, (0, 0)))), (0, (1102, (0, (0, 0)))), (0, (1122, (0, (0, 0)))), (0, (1123, (0, (0, 0)))), (0, (1184, (0, (0, 0)))), (0, (1185, (0, (0, 0)))), (0, (1186, (0, (0, 0)))), (9, (24, (2, (1, 0))))], ([], ([([(3, (-1)), (4, 1)], 0), ([(3, 1), (4, (-1))], 0), ([(7, 1)], 0)], (false, ([([(6, 1)], (-1)), ([(6, (-1))], 1)], ([], ([], none)))))))
theorem rk_hb1 : RuOk SR ru_hb1 := by
  intro τ m g hi hc ha hS
  obtain ⟨i0, i1, i2, i3, i4, i5, i6, i7, _⟩ := hi
  have t1199 : τ 1199 = some (g 0) := i0
  have t1102 : τ 1102 = some (g 1) := i1
  have t1122 : τ 1122 = some (g 2) := i2
  have t1123 : τ 1123 = some (g 3) := i3
  have t1184 : τ 1184 = some (g 4) := i4
  have t1185 : τ 1185 = some (g 5) := i5
  have t1186 : τ 1186 = some (g 6) := i6
  obtain ⟨jk, uk, vk⟩ : ∃ j : Nat, 1 * g 2 + 0 = (j : Int) ∧ g 7 = m 24 j := i7
  obtain ⟨c0, c1, c2, _⟩ := hc
  have c0 : (-1) * g 3 + 1 * g 4 ≤ 0 := d2 c0
  have c1 : 1 * g 3 + (-1) * g 4 ≤ 0 := d2 c1
  have c2 : 1 * g 7 ≤ 0 := d1 c2
  obtain ⟨h0, k_tok, k_sc1, k_sc2, k_T, k_I, k_F, k_N, k_Y, k_Z, k_A, k_B, k_C, k_X, k_R, k_f4⟩ := hS (by rw [t1199]; exact fun e => by cases e)
  have k_tok0 := k_tok
  obtain ⟨h_L, h_n, h_nF⟩ := k_tok0
  have k_I0 := k_I
  obtain ⟨h_p, h_pc, h_ip, h_iP, h_PC, h_PN⟩ := k_I0
  have k_N0 := k_N
  obtain ⟨h_N, h_Nk, h_V, h_Yq⟩ := k_N0
  obtain ⟨hn0, _, hNT⟩ := h_nF _ t1102
  have hXL : ((tx9 m).2 : Int) = m 110 1 := by
    show (((m 110 1).toNat : Nat) : Int) = _
    omega
  obtain ⟨⟨hi0, hi1⟩, hpi⟩ := h_ip _ _ _ t1102 t1122 t1123
  have hTK := (h_nF _ t1102).2.1.1 (g 2).toNat (by omega)
  have hSL := St_L (X := tx9 m) (i := (g 2).toNat)
  obtain ⟨⟨hn1, hn2⟩, hnv⟩ := h_N _ _ _ t1184 t1185 t1186
  have hep : Tp9 (tx9 m) (g 2).toNat = (g 4).toNat := by omega
  unfold TK9 at hTK
  rw [hep] at hTK
  rw [show jk = (g 2).toNat by omega] at vk
  have hTk := hTK.1.2
  have hnf := nb_f (X := tx9 m) (p := (g 4).toNat) (c := g 5) (Or.inl (by omega))
  exact ⟨rfl, ⟨f1 (by omega), f1 (by omega), trivial⟩, trivial, fun _ => ⟨h0, k_tok, k_sc1, k_sc2, k_T, k_I, k_F, k_N, k_Y, k_Z, k_A, k_B, k_C, k_X, k_R, k_f4⟩⟩
noncomputable def ru_hb2 : Ru := ([(0, (1199, (0, (0, 0)))), (0, (1102, (0, (0, 0)))), (0, (1122, (0, (0, 0)))), (0, (1123, (0, (0, 0)))), (0, (1184, (0, (0, 0)))), (0, (1185, (0, (0, 0)))), (0, (1186, (0, (0, 0)))), (9, (24, (2, (1, 0))))], ([], ([([(3, (-1)), (4, 1)], 0), ([(3, 1), (4, (-1))], 0), ([(7, (-1))], (-2))], (false, ([([(6, 1)], (-1)), ([(6, (-1))], 1)], ([], ([], none)))))))
theorem rk_hb2 : RuOk SR ru_hb2 := by
  intro τ m g hi hc ha hS
  obtain ⟨i0, i1, i2, i3, i4, i5, i6, i7, _⟩ := hi
  have t1199 : τ 1199 = some (g 0) := i0
  have t1102 : τ 1102 = some (g 1) := i1
  have t1122 : τ 1122 = some (g 2) := i2
  have t1123 : τ 1123 = some (g 3) := i3
  have t1184 : τ 1184 = some (g 4) := i4
  have t1185 : τ 1185 = some (g 5) := i5
  have t1186 : τ 1186 = some (g 6) := i6
  obtain ⟨jk, uk, vk⟩ : ∃ j : Nat, 1 * g 2 + 0 = (j : Int) ∧ g 7 = m 24 j := i7
  obtain ⟨c0, c1, c2, _⟩ := hc
  have c0 : (-1) * g 3 + 1 * g 4 ≤ 0 := d2 c0
  have c1 : 1 * g 3 + (-1) * g 4 ≤ 0 := d2 c1
  have c2 : (-1) * g 7 ≤ (-2) := d1 c2
  obtain ⟨h0, k_tok, k_sc1, k_sc2, k_T, k_I, k_F, k_N, k_Y, k_Z, k_A, k_B, k_C, k_X, k_R, k_f4⟩ := hS (by rw [t1199]; exact fun e => by cases e)
  have k_tok0 := k_tok
  obtain ⟨h_L, h_n, h_nF⟩ := k_tok0
  have k_I0 := k_I
  obtain ⟨h_p, h_pc, h_ip, h_iP, h_PC, h_PN⟩ := k_I0
  have k_N0 := k_N
  obtain ⟨h_N, h_Nk, h_V, h_Yq⟩ := k_N0
  obtain ⟨hn0, _, hNT⟩ := h_nF _ t1102
  have hXL : ((tx9 m).2 : Int) = m 110 1 := by
    show (((m 110 1).toNat : Nat) : Int) = _
    omega
  obtain ⟨⟨hi0, hi1⟩, hpi⟩ := h_ip _ _ _ t1102 t1122 t1123
  have hTK := (h_nF _ t1102).2.1.1 (g 2).toNat (by omega)
  have hSL := St_L (X := tx9 m) (i := (g 2).toNat)
  obtain ⟨⟨hn1, hn2⟩, hnv⟩ := h_N _ _ _ t1184 t1185 t1186
  have hep : Tp9 (tx9 m) (g 2).toNat = (g 4).toNat := by omega
  unfold TK9 at hTK
  rw [hep] at hTK
  rw [show jk = (g 2).toNat by omega] at vk
  have hTk := hTK.1.2
  have hnf := nb_f (X := tx9 m) (p := (g 4).toNat) (c := g 5) (Or.inl (by omega))
  exact ⟨rfl, ⟨f1 (by omega), f1 (by omega), trivial⟩, trivial, fun _ => ⟨h0, k_tok, k_sc1, k_sc2, k_T, k_I, k_F, k_N, k_Y, k_Z, k_A, k_B, k_C, k_X, k_R, k_f4⟩⟩
noncomputable def ru_txp : Ru := ([(0, (1199, (0, (0, 0)))), (0, (1102, (0, (0, 0)))), (0, (1122, (0, (0, 0)))), (0, (1123, (0, (0, 0)))), (0, (1100, (0, (0, 0)))), (9, (23, (3, (1, 0))))], ([], ([([(3, 1), (4, (-1))], (-1)), ([(3, (-1))], 0)], (false, ([], ([(111, (3, 5))], ([], none)))))))
theorem rk_txp : RuOk SR ru_txp := by
  intro τ m g hi hc ha hS
  obtain ⟨i0, i1, i2, i3, i4, i5, _⟩ := hi
  have t1199 : τ 1199 = some (g 0) := i0
  have t1102 : τ 1102 = some (g 1) := i1
  have t1122 : τ 1122 = some (g 2) := i2
  have t1123 : τ 1123 = some (g 3) := i3
  have t1100 : τ 1100 = some (g 4) := i4
  obtain ⟨jb, ub, vb⟩ : ∃ j : Nat, 1 * g 3 + 0 = (j : Int) ∧ g 5 = m 23 j := i5
  obtain ⟨c0, c1, _⟩ := hc
  have c0 : 1 * g 3 + (-1) * g 4 ≤ (-1) := d2 c0
  have c1 : (-1) * g 3 ≤ 0 := d1 c1
  obtain ⟨h0, k_tok, k_sc1, k_sc2, k_T, k_I, k_F, k_N, k_Y, k_Z, k_A, k_B, k_C, k_X, k_R, k_f4⟩ := hS (by rw [t1199]; exact fun e => by cases e)
  have k_tok0 := k_tok
  obtain ⟨h_L, h_n, h_nF⟩ := k_tok0
  exact ⟨rfl, trivial, ⟨⟨jb, (show g 3 = (jb : Int) by omega), vb.trans ((h_L _ t1100).2 jb (by omega))⟩, trivial⟩, fun _ => ⟨h0, k_tok, k_sc1, k_sc2, k_T, k_I, k_F, k_N, k_Y, k_Z, k_A, k_B, k_C, k_X, k_R, k_f4⟩⟩
noncomputable def ru_txk : Ru := ([(0, (1199, (0, (0, 0)))), (0, (1100, (0, (0, 0)))), (0, (1187, (0, (0, 0)))), (9, (23, (2, (1, 0))))], ([], ([([(1, (-1)), (2, 1)], (-1)), ([(2, (-1))], 0)], (false, ([], ([(111, (2, 3))], ([], none)))))))
theorem rk_txk : RuOk SR ru_txk := by
  intro τ m g hi hc ha hS
  obtain ⟨i0, i1, i2, i3, _⟩ := hi
  have t1199 : τ 1199 = some (g 0) := i0
  have t1100 : τ 1100 = some (g 1) := i1
  have t1187 : τ 1187 = some (g 2) := i2
  obtain ⟨jb, ub, vb⟩ : ∃ j : Nat, 1 * g 2 + 0 = (j : Int) ∧ g 3 = m 23 j := i3
  obtain ⟨c0, c1, _⟩ := hc
  have c0 : (-1) * g 1 + 1 * g 2 ≤ (-1) := d2 c0
  have c1 : (-1) * g 2 ≤ 0 := d1 c1
  obtain ⟨h0, k_tok, k_sc1, k_sc2, k_T, k_I, k_F, k_N, k_Y, k_Z, k_A, k_B, k_C, k_X, k_R, k_f4⟩ := hS (by rw [t1199]; exact fun e => by cases e)
  have k_tok0 := k_tok
  obtain ⟨h_L, h_n, h_nF⟩ := k_tok0
  exact ⟨rfl, trivial, ⟨⟨jb, (show g 2 = (jb : Int) by omega), vb.trans ((h_L _ t1100).2 jb (by omega))⟩, trivial⟩, fun _ => ⟨h0, k_tok, k_sc1, k_sc2, k_T, k_I, k_F, k_N, k_Y, k_Z, k_A, k_B, k_C, k_X, k_R, k_f4⟩⟩
noncomputable def ru_hpL : Ru := ([(0, (1199, (0, (0, 0)))), (0, (1102, (0, (0, 0)))), (0, (1122, (0, (0, 0)))), (0, (1123, (0, (0, 0)))), (9, (24, (2, (1, 0)))), (0, (1100, (0, (0, 0))))], ([], ([([(4, 1)], 1), ([(4, (-1))], (-1))], (false, ([([(3, 1), (5, (-1))], (-1))], ([], ([], none)))))))
theorem rk_hpL : RuOk SR ru_hpL := by
  intro τ m g hi hc ha hS
  obtain ⟨i0, i1, i2, i3, i4, i5, _⟩ := hi
  have t1199 : τ 1199 = some (g 0) := i0
  have t1102 : τ 1102 = some (g 1) := i1
  have t1122 : τ 1122 = some (g 2) := i2
  have t1123 : τ 1123 = some (g 3) := i3
  obtain ⟨jk, uk, vk⟩ : ∃ j : Nat, 1 * g 2 + 0 = (j : Int) ∧ g 4 = m 24 j := i4
  have t1100 : τ 1100 = some (g 5) := i5
  obtain ⟨c0, c1, _⟩ := hc
  have c0 : 1 * g 4 ≤ 1 := d1 c0
  have c1 : (-1) * g 4 ≤ (-1) := d1 c1
  obtain ⟨h0, k_tok, k_sc1, k_sc2, k_T, k_I, k_F, k_N, k_Y, k_Z, k_A, k_B, k_C, k_X, k_R, k_f4⟩ := hS (by rw [t1199]; exact fun e => by cases e)
  have k_tok0 := k_tok
  obtain ⟨h_L, h_n, h_nF⟩ := k_tok0
  have k_I0 := k_I
  obtain ⟨h_p, h_pc, h_ip, h_iP, h_PC, h_PN⟩ := k_I0
  obtain ⟨hn0, _, hNT⟩ := h_nF _ t1102
  have hXL : ((tx9 m).2 : Int) = m 110 1 := by
    show (((m 110 1).toNat : Nat) : Int) = _
    omega
  obtain ⟨⟨hi0, hi1⟩, hpi⟩ := h_ip _ _ _ t1102 t1122 t1123
  have hTK := (h_nF _ t1102).2.1.1 (g 2).toNat (by omega)
  have hSL := St_L (X := tx9 m) (i := (g 2).toNat)
  rw [show jk = (g 2).toNat by omega] at vk
  have hL9 := (h_L _ t1100).1
  have hTk := hTK.1.2
  have hk1 : kd9 (tx9 m) (Tp9 (tx9 m) (g 2).toNat) = 1 := by omega
  have hte := (te_al hk1).1
  have hTe := hTK.2.1 hk1
  exact ⟨rfl, ⟨f2 (by omega), trivial⟩, trivial, fun _ => ⟨h0, k_tok, k_sc1, k_sc2, k_T, k_I, k_F, k_N, k_Y, k_Z, k_A, k_B, k_C, k_X, k_R, k_f4⟩⟩
noncomputable def ru_hb5 : Ru := ([(0, (1199, (0, (0, 0)))), (0, (1102, (0, (0, 0)))), (0, (1122, (0, (0, 0)))), (0, (1123, (0, (0, 0)))), (0, (1184, (0, (0, 0)))), (0, (1185, (0, (0, 0)))), (0, (1186, (0, (0, 0)))), (9, (24, (2, (1, 0)))), (9, (26, (2, (1, 0))))], ([], ([([(3, (-1)), (4, 1)], 0), ([(3, 1), (4, (-1))], 0), ([(7, 1)], 1), ([(7, (-1))], (-1)), ([(4, (-1)), (8, 1)], 1)], (false, ([([(6, 1)], (-1)), ([(6, (-1))], 1)], ([], ([], none)))))))
theorem rk_hb5 : RuOk SR ru_hb5 := by
  intro τ m g hi hc ha hS
  obtain ⟨i0, i1, i2, i3, i4, i5, i6, i7, i8, _⟩ := hi
  have t1199 : τ 1199 = some (g 0) := i0
  have t1102 : τ 1102 = some (g 1) := i1
  have t1122 : τ 1122 = some (g 2) := i2
  have t1123 : τ 1123 = some (g 3) := i3
  have t1184 : τ 1184 = some (g 4) := i4
  have t1185 : τ 1185 = some (g 5) := i5
  have t1186 : τ 1186 = some (g 6) := i6
  obtain ⟨jk, uk, vk⟩ : ∃ j : Nat, 1 * g 2 + 0 = (j : Int) ∧ g 7 = m 24 j := i7
  obtain ⟨jv, uv, vv⟩ : ∃ j : Nat, 1 * g 2 + 0 = (j : Int) ∧ g 8 = m 26 j := i8
  obtain ⟨c0, c1, c2, c3, c4, _⟩ := hc
  have c0 : (-1) * g 3 + 1 * g 4 ≤ 0 := d2 c0
  have c1 : 1 * g 3 + (-1) * g 4 ≤ 0 := d2 c1
  have c2 : 1 * g 7 ≤ 1 := d1 c2
  have c3 : (-1) * g 7 ≤ (-1) := d1 c3
  have c4 : (-1) * g 4 + 1 * g 8 ≤ 1 := d2 c4
  obtain ⟨h0, k_tok, k_sc1, k_sc2, k_T, k_I, k_F, k_N, k_Y, k_Z, k_A, k_B, k_C, k_X, k_R, k_f4⟩ := hS (by rw [t1199]; exact fun e => by cases e)
  have k_tok0 := k_tok
  obtain ⟨h_L, h_n, h_nF⟩ := k_tok0
  have k_I0 := k_I
  obtain ⟨h_p, h_pc, h_ip, h_iP, h_PC, h_PN⟩ := k_I0
  have k_N0 := k_N
  obtain ⟨h_N, h_Nk, h_V, h_Yq⟩ := k_N0
  obtain ⟨hn0, _, hNT⟩ := h_nF _ t1102
  have hXL : ((tx9 m).2 : Int) = m 110 1 := by
    show (((m 110 1).toNat : Nat) : Int) = _
    omega
  obtain ⟨⟨hi0, hi1⟩, hpi⟩ := h_ip _ _ _ t1102 t1122 t1123
  have hTK := (h_nF _ t1102).2.1.1 (g 2).toNat (by omega)
  have hSL := St_L (X := tx9 m) (i := (g 2).toNat)
  obtain ⟨⟨hn1, hn2⟩, hnv⟩ := h_N _ _ _ t1184 t1185 t1186
  have hep : Tp9 (tx9 m) (g 2).toNat = (g 4).toNat := by omega
  unfold TK9 at hTK
  rw [hep] at hTK
  rw [show jk = (g 2).toNat by omega] at vk
  rw [show jv = (g 2).toNat by omega] at vv
  have hTk := hTK.1.2
  have hTe := hTK.2.1 (by omega)
  have hnf := nb_f (X := tx9 m) (p := (g 4).toNat) (c := g 5) (Or.inr (Or.inr (Or.inl (by omega))))
  exact ⟨rfl, ⟨f1 (by omega), f1 (by omega), trivial⟩, trivial, fun _ => ⟨h0, k_tok, k_sc1, k_sc2, k_T, k_I, k_F, k_N, k_Y, k_Z, k_A, k_B, k_C, k_X, k_R, k_f4⟩⟩
noncomputable def ru_hb6 : Ru := ([(0, (1199, (0, (0, 0)))), (0, (1102, (0, (0, 0)))), (0, (1122, (0, (0, 0)))), (0, (1123, (0, (0, 0)))), (0, (1184, (0, (0, 0)))), (0, (1185, (0, (0, 0)))), (0, (1186, (0, (0, 0)))), (9, (24, (2, (1, 0)))), (9, (26, (2, (1, 0))))], ([], ([([(3, (-1)), (4, 1)], 0), ([(3, 1), (4, (-1))], 0), ([(7, 1)], 1), ([(7, (-1))], (-1)), ([(4, 1), (8, (-1))], (-11))], (false, ([([(6, 1)], (-1)), ([(6, (-1))], 1)], ([], ([], none)))))))
theorem rk_hb6 : RuOk SR ru_hb6 := by
  intro τ m g hi hc ha hS
  obtain ⟨i0, i1, i2, i3, i4, i5, i6, i7, i8, _⟩ := hi
  have t1199 : τ 1199 = some (g 0) := i0
  have t1102 : τ 1102 = some (g 1) := i1
  have t1122 : τ 1122 = some (g 2) := i2
  have t1123 : τ 1123 = some (g 3) := i3
  have t1184 : τ 1184 = some (g 4) := i4
  have t1185 : τ 1185 = some (g 5) := i5
  have t1186 : τ 1186 = some (g 6) := i6
  obtain ⟨jk, uk, vk⟩ : ∃ j : Nat, 1 * g 2 + 0 = (j : Int) ∧ g 7 = m 24 j := i7
  obtain ⟨jv, uv, vv⟩ : ∃ j : Nat, 1 * g 2 + 0 = (j : Int) ∧ g 8 = m 26 j := i8
  obtain ⟨c0, c1, c2, c3, c4, _⟩ := hc
  have c0 : (-1) * g 3 + 1 * g 4 ≤ 0 := d2 c0
  have c1 : 1 * g 3 + (-1) * g 4 ≤ 0 := d2 c1
  have c2 : 1 * g 7 ≤ 1 := d1 c2
  have c3 : (-1) * g 7 ≤ (-1) := d1 c3
  have c4 : 1 * g 4 + (-1) * g 8 ≤ (-11) := d2 c4
  obtain ⟨h0, k_tok, k_sc1, k_sc2, k_T, k_I, k_F, k_N, k_Y, k_Z, k_A, k_B, k_C, k_X, k_R, k_f4⟩ := hS (by rw [t1199]; exact fun e => by cases e)
  have k_tok0 := k_tok
  obtain ⟨h_L, h_n, h_nF⟩ := k_tok0
  have k_I0 := k_I
  obtain ⟨h_p, h_pc, h_ip, h_iP, h_PC, h_PN⟩ := k_I0
  have k_N0 := k_N
  obtain ⟨h_N, h_Nk, h_V, h_Yq⟩ := k_N0
  obtain ⟨hn0, _, hNT⟩ := h_nF _ t1102
  have hXL : ((tx9 m).2 : Int) = m 110 1 := by
    show (((m 110 1).toNat : Nat) : Int) = _
    omega
  obtain ⟨⟨hi0, hi1⟩, hpi⟩ := h_ip _ _ _ t1102 t1122 t1123
  have hTK := (h_nF _ t1102).2.1.1 (g 2).toNat (by omega)
  have hSL := St_L (X := tx9 m) (i := (g 2).toNat)
  obtain ⟨⟨hn1, hn2⟩, hnv⟩ := h_N _ _ _ t1184 t1185 t1186
  have hep : Tp9 (tx9 m) (g 2).toNat = (g 4).toNat := by omega
  unfold TK9 at hTK
  rw [hep] at hTK
  rw [show jk = (g 2).toNat by omega] at vk
  rw [show jv = (g 2).toNat by omega] at vv
  have hTk := hTK.1.2
  have hTe := hTK.2.1 (by omega)
  have hnf := nb_f (X := tx9 m) (p := (g 4).toNat) (c := g 5) (Or.inr (Or.inr (Or.inr (Or.inl (by omega)))))
  exact ⟨rfl, ⟨f1 (by omega), f1 (by omega), trivial⟩, trivial, fun _ => ⟨h0, k_tok, k_sc1, k_sc2, k_T, k_I, k_F, k_N, k_Y, k_Z, k_A, k_B, k_C, k_X, k_R, k_f4⟩⟩
noncomputable def ru_hve2 : Ru := ([(0, (1199, (0, (0, 0)))), (0, (1102, (0, (0, 0)))), (0, (1122, (0, (0, 0)))), (0, (1123, (0, (0, 0)))), (9, (24, (2, (1, 0)))), (9, (26, (2, (1, 0)))), (0, (1100, (0, (0, 0))))], ([], ([([(4, 1)], 1), ([(4, (-1))], (-1))], (false, ([([(5, 1), (6, (-1))], 0), ([(3, 1), (5, (-1))], (-1))], ([], ([], none)))))))
theorem rk_hve2 : RuOk SR ru_hve2 := by
  intro τ m g hi hc ha hS
  obtain ⟨i0, i1, i2, i3, i4, i5, i6, _⟩ := hi
  have t1199 : τ 1199 = some (g 0) := i0
  have t1102 : τ 1102 = some (g 1) := i1
  have t1122 : τ 1122 = some (g 2) := i2
  have t1123 : τ 1123 = some (g 3) := i3
  obtain ⟨jk, uk, vk⟩ : ∃ j : Nat, 1 * g 2 + 0 = (j : Int) ∧ g 4 = m 24 j := i4
  obtain ⟨jv, uv, vv⟩ : ∃ j : Nat, 1 * g 2 + 0 = (j : Int) ∧ g 5 = m 26 j := i5
  have t1100 : τ 1100 = some (g 6) := i6
  obtain ⟨c0, c1, _⟩ := hc
  have c0 : 1 * g 4 ≤ 1 := d1 c0
  have c1 : (-1) * g 4 ≤ (-1) := d1 c1
  obtain ⟨h0, k_tok, k_sc1, k_sc2, k_T, k_I, k_F, k_N, k_Y, k_Z, k_A, k_B, k_C, k_X, k_R, k_f4⟩ := hS (by rw [t1199]; exact fun e => by cases e)
  have k_tok0 := k_tok
  obtain ⟨h_L, h_n, h_nF⟩ := k_tok0
  have k_I0 := k_I
  obtain ⟨h_p, h_pc, h_ip, h_iP, h_PC, h_PN⟩ := k_I0
  obtain ⟨hn0, _, hNT⟩ := h_nF _ t1102
  have hXL : ((tx9 m).2 : Int) = m 110 1 := by
    show (((m 110 1).toNat : Nat) : Int) = _
    omega
  obtain ⟨⟨hi0, hi1⟩, hpi⟩ := h_ip _ _ _ t1102 t1122 t1123
  have hTK := (h_nF _ t1102).2.1.1 (g 2).toNat (by omega)
  have hSL := St_L (X := tx9 m) (i := (g 2).toNat)
  rw [show jk = (g 2).toNat by omega] at vk
  rw [show jv = (g 2).toNat by omega] at vv
  have hL9 := (h_L _ t1100).1
  have hTk := hTK.1.2
  have hk1 : kd9 (tx9 m) (Tp9 (tx9 m) (g 2).toNat) = 1 := by omega
  have hte := (te_al hk1).1
  have hTe := hTK.2.1 hk1
  exact ⟨rfl, ⟨f2 (by omega), f2 (by omega), trivial⟩, trivial, fun _ => ⟨h0, k_tok, k_sc1, k_sc2, k_T, k_I, k_F, k_N, k_Y, k_Z, k_A, k_B, k_C, k_X, k_R, k_f4⟩⟩
noncomputable def ru_hb7 : Ru := ([(0, (1199, (0, (0, 0)))), (0, (1102, (0, (0, 0)))), (0, (1122, (0, (0, 0)))), (0, (1123, (0, (0, 0)))), (0, (1184, (0, (0, 0)))), (0, (1185, (0, (0, 0)))), (0, (1186, (0, (0, 0)))), (9, (24, (2, (1, 0)))), (9, (26, (2, (1, 0)))), (9, (111, (4, (1, 0)))), (5, (110, (1, (0, 0)))), (10, (0, (4, (1, 0)))), (4, (0, (0, (0, 0))))], ([1187, 1188], ([([(3, (-1)), (4, 1)], 0), ([(3, 1), (4, (-1))], 0), ([(4, (-1))], 0), ([(4, 1), (10, (-1))], (-1)), ([(7, 1)], 1), ([(7, (-1))], (-1)), ([(5, (-1)), (9, 1)], 0), ([(5, 1), (9, (-1))], 0), ([(4, 1), (8, (-1))], (-2)), ([(4, (-1)), (8, 1)], 10)], (false, ([], ([], ([(1187, some (11, 0)), (1188, some (12, 0))], none)))))))
theorem rk_hb7 : RuOk SR ru_hb7 := by
  intro τ m g hi hc ha hS
  obtain ⟨i0, i1, i2, i3, i4, i5, i6, i7, i8, i9, i10, i11, i12, _⟩ := hi
  have t1199 : τ 1199 = some (g 0) := i0
  have t1102 : τ 1102 = some (g 1) := i1
  have t1122 : τ 1122 = some (g 2) := i2
  have t1123 : τ 1123 = some (g 3) := i3
  have t1184 : τ 1184 = some (g 4) := i4
  have t1185 : τ 1185 = some (g 5) := i5
  have t1186 : τ 1186 = some (g 6) := i6
  obtain ⟨jk, uk, vk⟩ : ∃ j : Nat, 1 * g 2 + 0 = (j : Int) ∧ g 7 = m 24 j := i7
  obtain ⟨jv, uv, vv⟩ : ∃ j : Nat, 1 * g 2 + 0 = (j : Int) ∧ g 8 = m 26 j := i8
  obtain ⟨jb, ub, vb⟩ : ∃ j : Nat, 1 * g 4 + 0 = (j : Int) ∧ g 9 = m 111 j := i9
  have xL : g 10 = m 110 1 := i10
  have xk1 : g 11 = g 4 + 1 := i11
  have xo : g 12 = 0 := i12
  obtain ⟨c0, c1, c2, c3, c4, c5, c6, c7, c8, c9, _⟩ := hc
  have c0 : (-1) * g 3 + 1 * g 4 ≤ 0 := d2 c0
  have c1 : 1 * g 3 + (-1) * g 4 ≤ 0 := d2 c1
  have c2 : (-1) * g 4 ≤ 0 := d1 c2
  have c3 : 1 * g 4 + (-1) * g 10 ≤ (-1) := d2 c3
  have c4 : 1 * g 7 ≤ 1 := d1 c4
  have c5 : (-1) * g 7 ≤ (-1) := d1 c5
  have c6 : (-1) * g 5 + 1 * g 9 ≤ 0 := d2 c6
  have c7 : 1 * g 5 + (-1) * g 9 ≤ 0 := d2 c7
  have c8 : 1 * g 4 + (-1) * g 8 ≤ (-2) := d2 c8
  have c9 : (-1) * g 4 + 1 * g 8 ≤ 10 := d2 c9
  obtain ⟨a0, a1, _⟩ := ha
  have n1187 : τ 1187 = none := a0
  have n1188 : τ 1188 = none := a1
  obtain ⟨h0, k_tok, k_sc1, k_sc2, k_T, k_I, k_F, k_N, k_Y, k_Z, k_A, k_B, k_C, k_X, k_R, k_f4⟩ := hS (by rw [t1199]; exact fun e => by cases e)
  have k_tok0 := k_tok
  obtain ⟨h_L, h_n, h_nF⟩ := k_tok0
  have k_I0 := k_I
  obtain ⟨h_p, h_pc, h_ip, h_iP, h_PC, h_PN⟩ := k_I0
  have k_N0 := k_N
  obtain ⟨h_N, h_Nk, h_V, h_Yq⟩ := k_N0
  obtain ⟨hn0, _, hNT⟩ := h_nF _ t1102
  have hXL : ((tx9 m).2 : Int) = m 110 1 := by
    show (((m 110 1).toNat : Nat) : Int) = _
    omega
  obtain ⟨⟨hi0, hi1⟩, hpi⟩ := h_ip _ _ _ t1102 t1122 t1123
  have hTK := (h_nF _ t1102).2.1.1 (g 2).toNat (by omega)
  have hSL := St_L (X := tx9 m) (i := (g 2).toNat)
  obtain ⟨⟨hn1, hn2⟩, hnv⟩ := h_N _ _ _ t1184 t1185 t1186
  have hep : Tp9 (tx9 m) (g 2).toNat = (g 4).toNat := by omega
  unfold TK9 at hTK
  rw [hep] at hTK
  rw [show jk = (g 2).toNat by omega] at vk
  rw [show jv = (g 2).toNat by omega] at vv
  have hTk := hTK.1.2
  have hTe := hTK.2.1 (by omega)
  have hby : by9 (tx9 m) (g 4).toNat = g 5 := by rw [by_m (by omega), show (g 4).toNat = jb by omega]; omega
  exact ⟨rfl, trivial, trivial, fun _ => ⟨h0, k_tok, k_sc1, k_sc2, k_T, k_I, k_F, ⟨h_N, fun Np Ng Nv Nk Nu e0 e1 e2 e3 e4 => by
      have e0 : g 4 = Np := Option.some.inj (t1184.symm.trans e0)
      subst e0
      have e1 : g 5 = Ng := Option.some.inj (t1185.symm.trans e1)
      subst e1
      have e2 : g 6 = Nv := Option.some.inj (t1186.symm.trans e2)
      subst e2
      have e3 : g 11 + 0 = Nk := Option.some.inj e3
      subst e3
      have e4 : g 12 + 0 = Nu := Option.some.inj e4
      subst e4
      refine ⟨⟨by omega, hby⟩, ⟨by omega, by omega⟩, ⟨by omega, by omega⟩, ?_, ?_⟩
      · rw [show (g 11 + 0).toNat = (g 4).toNat + 1 by omega]
        exact af_0
      · rw [show (g 11 + 0).toNat - (g 4).toNat - 1 = 0 by omega]
        show g 12 + 0 = 0
        omega, h_V, h_Yq⟩, k_Y, k_Z, k_A, k_B, k_C, k_X, k_R, k_f4⟩⟩
noncomputable def ru_hb8 : Ru := ([(0, (1199, (0, (0, 0)))), (0, (1102, (0, (0, 0)))), (0, (1122, (0, (0, 0)))), (0, (1123, (0, (0, 0)))), (0, (1184, (0, (0, 0)))), (0, (1185, (0, (0, 0)))), (0, (1186, (0, (0, 0)))), (0, (1187, (0, (0, 0)))), (0, (1188, (0, (0, 0)))), (9, (111, (7, (1, 0)))), (5, (110, (1, (0, 0)))), (1, (4, (0, (0, 0))))], ([], ([([(7, (-1))], 0), ([(7, 1), (10, (-1))], (-1)), ([(9, (-1))], (-48)), ([(9, 1)], 57), ([(8, (-10)), (9, (-1)), (11, 1)], (-48)), ([(8, 10), (9, 1), (11, (-1))], 48)], (false, ([], ([], ([(1187, some (7, 1)), (1188, some (11, 0))], none)))))))
theorem rk_hb8 : RuOk SR ru_hb8 := by
  intro τ m g hi hc ha hS
  obtain ⟨i0, i1, i2, i3, i4, i5, i6, i7, i8, i9, i10, i11, _⟩ := hi
  have t1199 : τ 1199 = some (g 0) := i0
  have t1102 : τ 1102 = some (g 1) := i1
  have t1122 : τ 1122 = some (g 2) := i2
  have t1123 : τ 1123 = some (g 3) := i3
  have t1184 : τ 1184 = some (g 4) := i4
  have t1185 : τ 1185 = some (g 5) := i5
  have t1186 : τ 1186 = some (g 6) := i6
  have t1187 : τ 1187 = some (g 7) := i7
  have t1188 : τ 1188 = some (g 8) := i8
  obtain ⟨jb, ub, vb⟩ : ∃ j : Nat, 1 * g 7 + 0 = (j : Int) ∧ g 9 = m 111 j := i9
  have xL : g 10 = m 110 1 := i10
  obtain ⟨c0, c1, c2, c3, c4, c5, _⟩ := hc
  have c0 : (-1) * g 7 ≤ 0 := d1 c0
  have c1 : 1 * g 7 + (-1) * g 10 ≤ (-1) := d2 c1
  have c2 : (-1) * g 9 ≤ (-48) := d1 c2
  have c3 : 1 * g 9 ≤ 57 := d1 c3
  have c4 : (-10) * g 8 + (-1) * g 9 + 1 * g 11 ≤ (-48) := d3 c4
  have c5 : 10 * g 8 + 1 * g 9 + (-1) * g 11 ≤ 48 := d3 c5
  obtain ⟨h0, k_tok, k_sc1, k_sc2, k_T, k_I, k_F, k_N, k_Y, k_Z, k_A, k_B, k_C, k_X, k_R, k_f4⟩ := hS (by rw [t1199]; exact fun e => by cases e)
  have k_N0 := k_N
  obtain ⟨h_N, h_Nk, h_V, h_Yq⟩ := k_N0
  have hXL : ((tx9 m).2 : Int) = m 110 1 := by
    show (((m 110 1).toNat : Nat) : Int) = _
    omega
  obtain ⟨⟨hn1, hn2⟩, hnv⟩ := h_N _ _ _ t1184 t1185 t1186
  obtain ⟨⟨hk1, hk2⟩, ⟨hk3, hk4⟩, ⟨hk5, hk6⟩, hk7, hk8⟩ := h_Nk _ _ _ _ _ t1184 t1185 t1186 t1187 t1188
  have hfi := fi_m (m := m) (p := (g 7).toNat) (by omega) (by rw [show (g 7).toNat = jb by omega]; omega) (by rw [show (g 7).toNat = jb by omega]; omega)
  have hby : by9 (tx9 m) (g 7).toNat = g 9 := by rw [by_m (by omega), show (g 7).toNat = jb by omega]; exact vb.symm
  have hal : al9 (tx9 m) (g 7).toNat = true := by unfold al9; rw [hfi, Bool.or_true]
  have hne : (g 7).toNat ≠ te9 (tx9 m) (g 4).toNat := fun e => by
    have := (te_al hk1).2
    rw [← e, hal] at this
    cases this
  exact ⟨rfl, trivial, trivial, fun _ => ⟨h0, k_tok, k_sc1, k_sc2, k_T, k_I, k_F, ⟨h_N, fun Np Ng Nv Nk Nu e0 e1 e2 e3 e4 => by
      have e0 : g 4 = Np := Option.some.inj (t1184.symm.trans e0)
      subst e0
      have e1 : g 5 = Ng := Option.some.inj (t1185.symm.trans e1)
      subst e1
      have e2 : g 6 = Nv := Option.some.inj (t1186.symm.trans e2)
      subst e2
      have e3 : g 7 + 1 = Nk := Option.some.inj e3
      subst e3
      have e4 : g 11 + 0 = Nu := Option.some.inj e4
      subst e4
      refine ⟨⟨hk1, hk2⟩, ⟨hk3, hk4⟩, ⟨by omega, by omega⟩, ?_, ?_⟩
      · rw [show (g 7 + 1).toNat = (g 7).toNat + 1 by omega, af_s (by omega), hk7, hfi]
        rfl
      · rw [show (g 7 + 1).toNat - (g 4).toNat - 1 = ((g 7).toNat - (g 4).toNat - 1) + 1 by omega, nm_s, ← hk8, show (g 4).toNat + 1 + ((g 7).toNat - (g 4).toNat - 1) = (g 7).toNat by omega, hby]
        omega, h_V, h_Yq⟩, k_Y, k_Z, k_A, k_B, k_C, k_X, k_R, k_f4⟩⟩
noncomputable def ru_hb9a : Ru := ([(0, (1199, (0, (0, 0)))), (0, (1102, (0, (0, 0)))), (0, (1122, (0, (0, 0)))), (0, (1123, (0, (0, 0)))), (0, (1184, (0, (0, 0)))), (0, (1185, (0, (0, 0)))), (0, (1186, (0, (0, 0)))), (0, (1187, (0, (0, 0)))), (0, (1188, (0, (0, 0)))), (9, (111, (7, (1, 0)))), (5, (110, (1, (0, 0)))), (9, (24, (2, (1, 0)))), (9, (26, (2, (1, 0))))], ([], ([([(3, (-1)), (4, 1)], 0), ([(3, 1), (4, (-1))], 0), ([(7, (-1))], 0), ([(7, 1), (10, (-1))], (-1)), ([(11, 1)], 1), ([(11, (-1))], (-1)), ([(7, 1), (12, (-1))], (-1)), ([(9, 1)], 47)], (false, ([([(6, 1)], (-1)), ([(6, (-1))], 1)], ([], ([], none)))))))
theorem rk_hb9a : RuOk SR ru_hb9a := by
  intro τ m g hi hc ha hS
  obtain ⟨i0, i1, i2, i3, i4, i5, i6, i7, i8, i9, i10, i11, i12, _⟩ := hi
  have t1199 : τ 1199 = some (g 0) := i0
  have t1102 : τ 1102 = some (g 1) := i1
  have t1122 : τ 1122 = some (g 2) := i2
  have t1123 : τ 1123 = some (g 3) := i3
  have t1184 : τ 1184 = some (g 4) := i4
  have t1185 : τ 1185 = some (g 5) := i5
  have t1186 : τ 1186 = some (g 6) := i6
  have t1187 : τ 1187 = some (g 7) := i7
  have t1188 : τ 1188 = some (g 8) := i8
  obtain ⟨jb, ub, vb⟩ : ∃ j : Nat, 1 * g 7 + 0 = (j : Int) ∧ g 9 = m 111 j := i9
  have xL : g 10 = m 110 1 := i10
  obtain ⟨jk, uk, vk⟩ : ∃ j : Nat, 1 * g 2 + 0 = (j : Int) ∧ g 11 = m 24 j := i11
  obtain ⟨jv, uv, vv⟩ : ∃ j : Nat, 1 * g 2 + 0 = (j : Int) ∧ g 12 = m 26 j := i12
  obtain ⟨c0, c1, c2, c3, c4, c5, c6, c7, _⟩ := hc
  have c0 : (-1) * g 3 + 1 * g 4 ≤ 0 := d2 c0
  have c1 : 1 * g 3 + (-1) * g 4 ≤ 0 := d2 c1
  have c2 : (-1) * g 7 ≤ 0 := d1 c2
  have c3 : 1 * g 7 + (-1) * g 10 ≤ (-1) := d2 c3
  have c4 : 1 * g 11 ≤ 1 := d1 c4
  have c5 : (-1) * g 11 ≤ (-1) := d1 c5
  have c6 : 1 * g 7 + (-1) * g 12 ≤ (-1) := d2 c6
  have c7 : 1 * g 9 ≤ 47 := d1 c7
  obtain ⟨h0, k_tok, k_sc1, k_sc2, k_T, k_I, k_F, k_N, k_Y, k_Z, k_A, k_B, k_C, k_X, k_R, k_f4⟩ := hS (by rw [t1199]; exact fun e => by cases e)
  have k_tok0 := k_tok
  obtain ⟨h_L, h_n, h_nF⟩ := k_tok0
  have k_I0 := k_I
  obtain ⟨h_p, h_pc, h_ip, h_iP, h_PC, h_PN⟩ := k_I0
  have k_N0 := k_N
  obtain ⟨h_N, h_Nk, h_V, h_Yq⟩ := k_N0
  obtain ⟨hn0, _, hNT⟩ := h_nF _ t1102
  have hXL : ((tx9 m).2 : Int) = m 110 1 := by
    show (((m 110 1).toNat : Nat) : Int) = _
    omega
  obtain ⟨⟨hi0, hi1⟩, hpi⟩ := h_ip _ _ _ t1102 t1122 t1123
  have hTK := (h_nF _ t1102).2.1.1 (g 2).toNat (by omega)
  have hSL := St_L (X := tx9 m) (i := (g 2).toNat)
  obtain ⟨⟨hn1, hn2⟩, hnv⟩ := h_N _ _ _ t1184 t1185 t1186
  have hep : Tp9 (tx9 m) (g 2).toNat = (g 4).toNat := by omega
  unfold TK9 at hTK
  rw [hep] at hTK
  rw [show jk = (g 2).toNat by omega] at vk
  rw [show jv = (g 2).toNat by omega] at vv
  have hTk := hTK.1.2
  have hTe := hTK.2.1 (by omega)
  obtain ⟨⟨hk1, hk2⟩, ⟨hk3, hk4⟩, ⟨hk5, hk6⟩, hk7, hk8⟩ := h_Nk _ _ _ _ _ t1184 t1185 t1186 t1187 t1188
  have hfn : fi9 (tx9 m) (g 7).toNat = false := fi_n (by rw [by_m (by omega), show (g 7).toNat = jb by omega]; omega)
  have hnf := nb_f (X := tx9 m) (p := (g 4).toNat) (c := g 5) (Or.inr (Or.inr (Or.inr (Or.inr (af_no (i := (g 7).toNat) (by omega) (by omega) hfn)))))
  exact ⟨rfl, ⟨f1 (by omega), f1 (by omega), trivial⟩, trivial, fun _ => ⟨h0, k_tok, k_sc1, k_sc2, k_T, k_I, k_F, k_N, k_Y, k_Z, k_A, k_B, k_C, k_X, k_R, k_f4⟩⟩
noncomputable def ru_hb9b : Ru := ([(0, (1199, (0, (0, 0)))), (0, (1102, (0, (0, 0)))), (0, (1122, (0, (0, 0)))), (0, (1123, (0, (0, 0)))), (0, (1184, (0, (0, 0)))), (0, (1185, (0, (0, 0)))), (0, (1186, (0, (0, 0)))), (0, (1187, (0, (0, 0)))), (0, (1188, (0, (0, 0)))), (9, (111, (7, (1, 0)))), (5, (110, (1, (0, 0)))), (9, (24, (2, (1, 0)))), (9, (26, (2, (1, 0))))], ([], ([([(3, (-1)), (4, 1)], 0), ([(3, 1), (4, (-1))], 0), ([(7, (-1))], 0), ([(7, 1), (10, (-1))], (-1)), ([(11, 1)], 1), ([(11, (-1))], (-1)), ([(7, 1), (12, (-1))], (-1)), ([(9, (-1))], (-58))], (false, ([([(6, 1)], (-1)), ([(6, (-1))], 1)], ([], ([], none)))))))
theorem rk_hb9b : RuOk SR ru_hb9b := by
  intro τ m g hi hc ha hS
  obtain ⟨i0, i1, i2, i3, i4, i5, i6, i7, i8, i9, i10, i11, i12, _⟩ := hi
  have t1199 : τ 1199 = some (g 0) := i0
  have t1102 : τ 1102 = some (g 1) := i1
  have t1122 : τ 1122 = some (g 2) := i2
  have t1123 : τ 1123 = some (g 3) := i3
  have t1184 : τ 1184 = some (g 4) := i4
  have t1185 : τ 1185 = some (g 5) := i5
  have t1186 : τ 1186 = some (g 6) := i6
  have t1187 : τ 1187 = some (g 7) := i7
  have t1188 : τ 1188 = some (g 8) := i8
  obtain ⟨jb, ub, vb⟩ : ∃ j : Nat, 1 * g 7 + 0 = (j : Int) ∧ g 9 = m 111 j := i9
  have xL : g 10 = m 110 1 := i10
  obtain ⟨jk, uk, vk⟩ : ∃ j : Nat, 1 * g 2 + 0 = (j : Int) ∧ g 11 = m 24 j := i11
  obtain ⟨jv, uv, vv⟩ : ∃ j : Nat, 1 * g 2 + 0 = (j : Int) ∧ g 12 = m 26 j := i12
  obtain ⟨c0, c1, c2, c3, c4, c5, c6, c7, _⟩ := hc
  have c0 : (-1) * g 3 + 1 * g 4 ≤ 0 := d2 c0
  have c1 : 1 * g 3 + (-1) * g 4 ≤ 0 := d2 c1
  have c2 : (-1) * g 7 ≤ 0 := d1 c2
  have c3 : 1 * g 7 + (-1) * g 10 ≤ (-1) := d2 c3
  have c4 : 1 * g 11 ≤ 1 := d1 c4
  have c5 : (-1) * g 11 ≤ (-1) := d1 c5
  have c6 : 1 * g 7 + (-1) * g 12 ≤ (-1) := d2 c6
  have c7 : (-1) * g 9 ≤ (-58) := d1 c7
  obtain ⟨h0, k_tok, k_sc1, k_sc2, k_T, k_I, k_F, k_N, k_Y, k_Z, k_A, k_B, k_C, k_X, k_R, k_f4⟩ := hS (by rw [t1199]; exact fun e => by cases e)
  have k_tok0 := k_tok
  obtain ⟨h_L, h_n, h_nF⟩ := k_tok0
  have k_I0 := k_I
  obtain ⟨h_p, h_pc, h_ip, h_iP, h_PC, h_PN⟩ := k_I0
  have k_N0 := k_N
  obtain ⟨h_N, h_Nk, h_V, h_Yq⟩ := k_N0
  obtain ⟨hn0, _, hNT⟩ := h_nF _ t1102
  have hXL : ((tx9 m).2 : Int) = m 110 1 := by
    show (((m 110 1).toNat : Nat) : Int) = _
    omega
  obtain ⟨⟨hi0, hi1⟩, hpi⟩ := h_ip _ _ _ t1102 t1122 t1123
  have hTK := (h_nF _ t1102).2.1.1 (g 2).toNat (by omega)
  have hSL := St_L (X := tx9 m) (i := (g 2).toNat)
  obtain ⟨⟨hn1, hn2⟩, hnv⟩ := h_N _ _ _ t1184 t1185 t1186
  have hep : Tp9 (tx9 m) (g 2).toNat = (g 4).toNat := by omega
  unfold TK9 at hTK
  rw [hep] at hTK
  rw [show jk = (g 2).toNat by omega] at vk
  rw [show jv = (g 2).toNat by omega] at vv
  have hTk := hTK.1.2
  have hTe := hTK.2.1 (by omega)
  obtain ⟨⟨hk1, hk2⟩, ⟨hk3, hk4⟩, ⟨hk5, hk6⟩, hk7, hk8⟩ := h_Nk _ _ _ _ _ t1184 t1185 t1186 t1187 t1188
  have hfn : fi9 (tx9 m) (g 7).toNat = false := fi_n (by rw [by_m (by omega), show (g 7).toNat = jb by omega]; omega)
  have hnf := nb_f (X := tx9 m) (p := (g 4).toNat) (c := g 5) (Or.inr (Or.inr (Or.inr (Or.inr (af_no (i := (g 7).toNat) (by omega) (by omega) hfn)))))
  exact ⟨rfl, ⟨f1 (by omega), f1 (by omega), trivial⟩, trivial, fun _ => ⟨h0, k_tok, k_sc1, k_sc2, k_T, k_I, k_F, k_N, k_Y, k_Z, k_A, k_B, k_C, k_X, k_R, k_f4⟩⟩
noncomputable def ru_hb9c : Ru := ([(0, (1199, (0, (0, 0)))), (0, (1102, (0, (0, 0)))), (0, (1122, (0, (0, 0)))), (0, (1123, (0, (0, 0)))), (0, (1184, (0, (0, 0)))), (0, (1185, (0, (0, 0)))), (0, (1186, (0, (0, 0)))), (0, (1187, (0, (0, 0)))), (0, (1188, (0, (0, 0)))), (9, (24, (2, (1, 0)))), (9, (26, (2, (1, 0)))), (5, (110, (1, (0, 0))))], ([], ([([(3, (-1)), (4, 1)], 0), ([(3, 1), (4, (-1))], 0), ([(9, 1)], 1), ([(9, (-1))], (-1)), ([(7, 1), (10, (-1))], (-1)), ([(7, (-1)), (11, 1)], 0)], (true, ([], ([], ([], none)))))))
theorem rk_hb9c : RuOk SR ru_hb9c := by
  intro τ m g hi hc ha hS
  obtain ⟨i0, i1, i2, i3, i4, i5, i6, i7, i8, i9, i10, i11, _⟩ := hi
  have t1199 : τ 1199 = some (g 0) := i0
  have t1102 : τ 1102 = some (g 1) := i1
  have t1122 : τ 1122 = some (g 2) := i2
  have t1123 : τ 1123 = some (g 3) := i3
  have t1184 : τ 1184 = some (g 4) := i4
  have t1185 : τ 1185 = some (g 5) := i5
  have t1186 : τ 1186 = some (g 6) := i6
  have t1187 : τ 1187 = some (g 7) := i7
  have t1188 : τ 1188 = some (g 8) := i8
  obtain ⟨jk, uk, vk⟩ : ∃ j : Nat, 1 * g 2 + 0 = (j : Int) ∧ g 9 = m 24 j := i9
  obtain ⟨jv, uv, vv⟩ : ∃ j : Nat, 1 * g 2 + 0 = (j : Int) ∧ g 10 = m 26 j := i10
  have xL : g 11 = m 110 1 := i11
  obtain ⟨c0, c1, c2, c3, c4, c5, _⟩ := hc
  have c0 : (-1) * g 3 + 1 * g 4 ≤ 0 := d2 c0
  have c1 : 1 * g 3 + (-1) * g 4 ≤ 0 := d2 c1
  have c2 : 1 * g 9 ≤ 1 := d1 c2
  have c3 : (-1) * g 9 ≤ (-1) := d1 c3
  have c4 : 1 * g 7 + (-1) * g 10 ≤ (-1) := d2 c4
  have c5 : (-1) * g 7 + 1 * g 11 ≤ 0 := d2 c5
  obtain ⟨h0, k_tok, k_sc1, k_sc2, k_T, k_I, k_F, k_N, k_Y, k_Z, k_A, k_B, k_C, k_X, k_R, k_f4⟩ := hS (by rw [t1199]; exact fun e => by cases e)
  have k_tok0 := k_tok
  obtain ⟨h_L, h_n, h_nF⟩ := k_tok0
  have k_I0 := k_I
  obtain ⟨h_p, h_pc, h_ip, h_iP, h_PC, h_PN⟩ := k_I0
  have k_N0 := k_N
  obtain ⟨h_N, h_Nk, h_V, h_Yq⟩ := k_N0
  obtain ⟨hn0, _, hNT⟩ := h_nF _ t1102
  have hXL : ((tx9 m).2 : Int) = m 110 1 := by
    show (((m 110 1).toNat : Nat) : Int) = _
    omega
  obtain ⟨⟨hi0, hi1⟩, hpi⟩ := h_ip _ _ _ t1102 t1122 t1123
  have hTK := (h_nF _ t1102).2.1.1 (g 2).toNat (by omega)
  have hSL := St_L (X := tx9 m) (i := (g 2).toNat)
  obtain ⟨⟨hn1, hn2⟩, hnv⟩ := h_N _ _ _ t1184 t1185 t1186
  have hep : Tp9 (tx9 m) (g 2).toNat = (g 4).toNat := by omega
  unfold TK9 at hTK
  rw [hep] at hTK
  rw [show jk = (g 2).toNat by omega] at vk
  rw [show jv = (g 2).toNat by omega] at vv
  have hTk := hTK.1.2
  have hTe := hTK.2.1 (by omega)
  obtain ⟨⟨hk1, hk2⟩, ⟨hk3, hk4⟩, ⟨hk5, hk6⟩, hk7, hk8⟩ := h_Nk _ _ _ _ _ t1184 t1185 t1186 t1187 t1188
  have := (te_al hk1).1.2
  exfalso
  omega
noncomputable def ru_hbE : Ru := ([(0, (1199, (0, (0, 0)))), (0, (1102, (0, (0, 0)))), (0, (1122, (0, (0, 0)))), (0, (1123, (0, (0, 0)))), (0, (1184, (0, (0, 0)))), (0, (1185, (0, (0, 0)))), (0, (1186, (0, (0, 0)))), (0, (1187, (0, (0, 0)))), (0, (1188, (0, (0, 0)))), (9, (24, (2, (1, 0)))), (9, (26, (2, (1, 0))))], ([], ([([(3, (-1)), (4, 1)], 0), ([(3, 1), (4, (-1))], 0), ([(9, 1)], 1), ([(9, (-1))], (-1)), ([(7, (-1)), (10, 1)], 0)], (false, ([([(6, 1), (8, (-1))], 0), ([(6, (-1)), (8, 1)], 0)], ([], ([], none)))))))
theorem rk_hbE : RuOk SR ru_hbE := by
  intro τ m g hi hc ha hS
  obtain ⟨i0, i1, i2, i3, i4, i5, i6, i7, i8, i9, i10, _⟩ := hi
  have t1199 : τ 1199 = some (g 0) := i0
  have t1102 : τ 1102 = some (g 1) := i1
  have t1122 : τ 1122 = some (g 2) := i2
  have t1123 : τ 1123 = some (g 3) := i3
  have t1184 : τ 1184 = some (g 4) := i4
  have t1185 : τ 1185 = some (g 5) := i5
  have t1186 : τ 1186 = some (g 6) := i6
  have t1187 : τ 1187 = some (g 7) := i7
  have t1188 : τ 1188 = some (g 8) := i8
  obtain ⟨jk, uk, vk⟩ : ∃ j : Nat, 1 * g 2 + 0 = (j : Int) ∧ g 9 = m 24 j := i9
  obtain ⟨jv, uv, vv⟩ : ∃ j : Nat, 1 * g 2 + 0 = (j : Int) ∧ g 10 = m 26 j := i10
  obtain ⟨c0, c1, c2, c3, c4, _⟩ := hc
  have c0 : (-1) * g 3 + 1 * g 4 ≤ 0 := d2 c0
  have c1 : 1 * g 3 + (-1) * g 4 ≤ 0 := d2 c1
  have c2 : 1 * g 9 ≤ 1 := d1 c2
  have c3 : (-1) * g 9 ≤ (-1) := d1 c3
  have c4 : (-1) * g 7 + 1 * g 10 ≤ 0 := d2 c4
  obtain ⟨h0, k_tok, k_sc1, k_sc2, k_T, k_I, k_F, k_N, k_Y, k_Z, k_A, k_B, k_C, k_X, k_R, k_f4⟩ := hS (by rw [t1199]; exact fun e => by cases e)
  have k_tok0 := k_tok
  obtain ⟨h_L, h_n, h_nF⟩ := k_tok0
  have k_I0 := k_I
  obtain ⟨h_p, h_pc, h_ip, h_iP, h_PC, h_PN⟩ := k_I0
  have k_N0 := k_N
  obtain ⟨h_N, h_Nk, h_V, h_Yq⟩ := k_N0
  obtain ⟨hn0, _, hNT⟩ := h_nF _ t1102
  have hXL : ((tx9 m).2 : Int) = m 110 1 := by
    show (((m 110 1).toNat : Nat) : Int) = _
    omega
  obtain ⟨⟨hi0, hi1⟩, hpi⟩ := h_ip _ _ _ t1102 t1122 t1123
  have hTK := (h_nF _ t1102).2.1.1 (g 2).toNat (by omega)
  have hSL := St_L (X := tx9 m) (i := (g 2).toNat)
  obtain ⟨⟨hn1, hn2⟩, hnv⟩ := h_N _ _ _ t1184 t1185 t1186
  have hep : Tp9 (tx9 m) (g 2).toNat = (g 4).toNat := by omega
  unfold TK9 at hTK
  rw [hep] at hTK
  rw [show jk = (g 2).toNat by omega] at vk
  rw [show jv = (g 2).toNat by omega] at vv
  have hTk := hTK.1.2
  have hTe := hTK.2.1 (by omega)
  obtain ⟨⟨hk1, hk2⟩, ⟨hk3, hk4⟩, ⟨hk5, hk6⟩, hk7, hk8⟩ := h_Nk _ _ _ _ _ t1184 t1185 t1186 t1187 t1188
  have ek : (g 7).toNat = te9 (tx9 m) (g 4).toNat := by omega
  rw [ek] at hk7 hk8
  have hnt := nb_t (X := tx9 m) (p := (g 4).toNat) (c := g 5) hk1 hk2 (by omega) (by omega) hk7
  exact ⟨rfl, ⟨f2 (by omega), f2 (by omega), trivial⟩, trivial, fun _ => ⟨h0, k_tok, k_sc1, k_sc2, k_T, k_I, k_F, k_N, k_Y, k_Z, k_A, k_B, k_C, k_X, k_R, k_f4⟩⟩
noncomputable def ru_q0 : Ru := ([(0, (1199, (0, (0, 0)))), (0, (1102, (0, (0, 0)))), (0, (1122, (0, (0, 0)))), (0, (1123, (0, (0, 0)))), (0, (1124, (0, (0, 0)))), (0, (1140, (0, (0, 0)))), (0, (1141, (0, (0, 0)))), (0, (1142, (0, (0, 0)))), (0, (1143, (0, (0, 0)))), (0, (1144, (0, (0, 0)))), (4, (0, (0, (11, 0))))], ([], ([([(9, 1)], 10), ([(9, (-1))], (-10)), ([(2, (-1)), (6, 1)], 0), ([(2, 1), (6, (-1))], 0), ([(4, (-1))], (-37)), ([(4, 1)], 39)], (false, ([], ([], ([(1144, some (10, 0)), (1141, some (6, 1))], none)))))))
theorem rk_q0 : RuOk SR ru_q0 := by
  intro τ m g hi hc ha hS
  obtain ⟨i0, i1, i2, i3, i4, i5, i6, i7, i8, i9, i10, _⟩ := hi
  have t1199 : τ 1199 = some (g 0) := i0
  have t1102 : τ 1102 = some (g 1) := i1
  have t1122 : τ 1122 = some (g 2) := i2
  have t1123 : τ 1123 = some (g 3) := i3
  have t1124 : τ 1124 = some (g 4) := i4
  have t1140 : τ 1140 = some (g 5) := i5
  have t1141 : τ 1141 = some (g 6) := i6
  have t1142 : τ 1142 = some (g 7) := i7
  have t1143 : τ 1143 = some (g 8) := i8
  have t1144 : τ 1144 = some (g 9) := i9
  have xm1 : g 10 = 11 := i10
  obtain ⟨c0, c1, c2, c3, c4, c5, _⟩ := hc
  have c0 : 1 * g 9 ≤ 10 := d1 c0
  have c1 : (-1) * g 9 ≤ (-10) := d1 c1
  have c2 : (-1) * g 2 + 1 * g 6 ≤ 0 := d2 c2
  have c3 : 1 * g 2 + (-1) * g 6 ≤ 0 := d2 c3
  have c4 : (-1) * g 4 ≤ (-37) := d1 c4
  have c5 : 1 * g 4 ≤ 39 := d1 c5
  obtain ⟨h0, k_tok, k_sc1, k_sc2, k_T, k_I, k_F, k_N, k_Y, k_Z, k_A, k_B, k_C, k_X, k_R, k_f4⟩ := hS (by rw [t1199]; exact fun e => by cases e)
  have k_tok0 := k_tok
  obtain ⟨h_L, h_n, h_nF⟩ := k_tok0
  have k_I0 := k_I
  obtain ⟨h_p, h_pc, h_ip, h_iP, h_PC, h_PN⟩ := k_I0
  have k_B0 := k_B
  obtain ⟨h_B0, h_B, h_Bd0, h_B26, h_B22, h_Bs⟩ := k_B0
  obtain ⟨hn0, _, hNT⟩ := h_nF _ t1102
  have hB := h_B _ _ _ _ _ _ t1102 t1140 t1141 t1142 t1143 t1144
  have rB := hB.1
  obtain ⟨⟨hi0, hi1⟩, hpi⟩ := h_ip _ _ _ t1102 t1122 t1123
  have eb : (g 2).toNat = (g 6).toNat := by omega
  rw [eb] at hpi
  have ep : (g 3).toNat = Tp9 (tx9 m) (g 6).toNat := by omega
  have hcc := h_pc _ _ t1123 t1124
  rw [ep] at hcc
  have hx1 := NT_next hNT (i := (g 6).toNat) (by omega) (by omega)
  exact ⟨rfl, trivial, trivial, fun _ => ⟨h0, k_tok, k_sc1, k_sc2, k_T, k_I, k_F, k_N, k_Y, k_Z, k_A, ⟨fun nF Bd Bi Br Bm e0 e1 e2 e3 e4 => by
      have e0 : g 1 = nF := Option.some.inj (t1102.symm.trans e0)
      subst e0
      have e1 : g 5 = Bd := Option.some.inj (t1140.symm.trans e1)
      subst e1
      have e2 : g 6 + 1 = Bi := Option.some.inj e2
      subst e2
      have e3 : g 7 = Br := Option.some.inj (t1142.symm.trans e3)
      subst e3
      have e4 : g 10 + 0 = Bm := Option.some.inj e4
      subst e4
      exact ⟨_, RI_u hB 10 11 (by omega) (by omega) rfl (by omega) ⟨by omega, by omega⟩ (fun r h => by
              rw [St_n (by omega)] at h
              exact q_0 (by omega) (by omega) h)⟩, fun nF Bd Bi Br Bx Bm e0 e1 e2 e3 e4 e5 => by
      have e0 : g 1 = nF := Option.some.inj (t1102.symm.trans e0)
      subst e0
      have e1 : g 5 = Bd := Option.some.inj (t1140.symm.trans e1)
      subst e1
      have e2 : g 6 + 1 = Bi := Option.some.inj e2
      subst e2
      have e3 : g 7 = Br := Option.some.inj (t1142.symm.trans e3)
      subst e3
      have e4 : g 8 = Bx := Option.some.inj (t1143.symm.trans e4)
      subst e4
      have e5 : g 10 + 0 = Bm := Option.some.inj e5
      subst e5
      exact RI_u hB 10 11 (by omega) (by omega) rfl (by omega) ⟨by omega, by omega⟩ (fun r h => by
              rw [St_n (by omega)] at h
              exact q_0 (by omega) (by omega) h), h_Bd0, fun Bd Bi Bm e0 e1 e2 => by
      have e0 : g 5 = Bd := Option.some.inj (t1140.symm.trans e0)
      subst e0
      have e1 : g 6 + 1 = Bi := Option.some.inj e1
      subst e1
      have e2 : g 10 + 0 = Bm := Option.some.inj e2
      subst e2
      intro h
      omega, fun Bd Bi Bm Bf e0 e1 e2 e3 => by
      have e0 : g 5 = Bd := Option.some.inj (t1140.symm.trans e0)
      subst e0
      have e1 : g 6 + 1 = Bi := Option.some.inj e1
      subst e1
      have e2 : g 10 + 0 = Bm := Option.some.inj e2
      subst e2
      intro h
      omega, h_Bs⟩, k_C, k_X, k_R, k_f4⟩⟩
noncomputable def ru_q0a : Ru := ([(0, (1199, (0, (0, 0)))), (0, (1102, (0, (0, 0)))), (0, (1122, (0, (0, 0)))), (0, (1123, (0, (0, 0)))), (0, (1124, (0, (0, 0)))), (0, (1140, (0, (0, 0)))), (0, (1141, (0, (0, 0)))), (0, (1142, (0, (0, 0)))), (0, (1143, (0, (0, 0)))), (0, (1144, (0, (0, 0))))], ([], ([([(9, 1)], 10), ([(9, (-1))], (-10)), ([(2, (-1)), (6, 1)], 0), ([(2, 1), (6, (-1))], 0), ([(4, 1)], 36)], (false, ([([(3, (-1)), (8, 1)], 0), ([(3, 1), (8, (-1))], 0), ([(7, 1)], (-1)), ([(7, (-1))], 1)], ([], ([], none)))))))
theorem rk_q0a : RuOk SR ru_q0a := by
  intro τ m g hi hc ha hS
  obtain ⟨i0, i1, i2, i3, i4, i5, i6, i7, i8, i9, _⟩ := hi
  have t1199 : τ 1199 = some (g 0) := i0
  have t1102 : τ 1102 = some (g 1) := i1
  have t1122 : τ 1122 = some (g 2) := i2
  have t1123 : τ 1123 = some (g 3) := i3
  have t1124 : τ 1124 = some (g 4) := i4
  have t1140 : τ 1140 = some (g 5) := i5
  have t1141 : τ 1141 = some (g 6) := i6
  have t1142 : τ 1142 = some (g 7) := i7
  have t1143 : τ 1143 = some (g 8) := i8
  have t1144 : τ 1144 = some (g 9) := i9
  obtain ⟨c0, c1, c2, c3, c4, _⟩ := hc
  have c0 : 1 * g 9 ≤ 10 := d1 c0
  have c1 : (-1) * g 9 ≤ (-10) := d1 c1
  have c2 : (-1) * g 2 + 1 * g 6 ≤ 0 := d2 c2
  have c3 : 1 * g 2 + (-1) * g 6 ≤ 0 := d2 c3
  have c4 : 1 * g 4 ≤ 36 := d1 c4
  obtain ⟨h0, k_tok, k_sc1, k_sc2, k_T, k_I, k_F, k_N, k_Y, k_Z, k_A, k_B, k_C, k_X, k_R, k_f4⟩ := hS (by rw [t1199]; exact fun e => by cases e)
  have k_tok0 := k_tok
  obtain ⟨h_L, h_n, h_nF⟩ := k_tok0
  have k_I0 := k_I
  obtain ⟨h_p, h_pc, h_ip, h_iP, h_PC, h_PN⟩ := k_I0
  have k_B0 := k_B
  obtain ⟨h_B0, h_B, h_Bd0, h_B26, h_B22, h_Bs⟩ := k_B0
  obtain ⟨hn0, _, hNT⟩ := h_nF _ t1102
  have hB := h_B _ _ _ _ _ _ t1102 t1140 t1141 t1142 t1143 t1144
  have rB := hB.1
  obtain ⟨⟨hi0, hi1⟩, hpi⟩ := h_ip _ _ _ t1102 t1122 t1123
  have eb : (g 2).toNat = (g 6).toNat := by omega
  rw [eb] at hpi
  have ep : (g 3).toNat = Tp9 (tx9 m) (g 6).toNat := by omega
  have hcc := h_pc _ _ t1123 t1124
  rw [ep] at hcc
  obtain ⟨y1, y2⟩ := RI_b hB 10 (by omega) (q_0a (by omega))
  exact ⟨rfl, ⟨f2 (by omega), f2 (by omega), f1 (by omega), f1 (by omega), trivial⟩, trivial, fun _ => ⟨h0, k_tok, k_sc1, k_sc2, k_T, k_I, k_F, k_N, k_Y, k_Z, k_A, k_B, k_C, k_X, k_R, k_f4⟩⟩
noncomputable def ru_q0b : Ru := ([(0, (1199, (0, (0, 0)))), (0, (1102, (0, (0, 0)))), (0, (1122, (0, (0, 0)))), (0, (1123, (0, (0, 0)))), (0, (1124, (0, (0, 0)))), (0, (1140, (0, (0, 0)))), (0, (1141, (0, (0, 0)))), (0, (1142, (0, (0, 0)))), (0, (1143, (0, (0, 0)))), (0, (1144, (0, (0, 0))))], ([], ([([(9, 1)], 10), ([(9, (-1))], (-10)), ([(2, (-1)), (6, 1)], 0), ([(2, 1), (6, (-1))], 0), ([(4, (-1))], (-40))], (false, ([([(3, (-1)), (8, 1)], 0), ([(3, 1), (8, (-1))], 0), ([(7, 1)], (-1)), ([(7, (-1))], 1)], ([], ([], none)))))))
theorem rk_q0b : RuOk SR ru_q0b := by
  intro τ m g hi hc ha hS
  obtain ⟨i0, i1, i2, i3, i4, i5, i6, i7, i8, i9, _⟩ := hi
  have t1199 : τ 1199 = some (g 0) := i0
  have t1102 : τ 1102 = some (g 1) := i1
  have t1122 : τ 1122 = some (g 2) := i2
  have t1123 : τ 1123 = some (g 3) := i3
  have t1124 : τ 1124 = some (g 4) := i4
  have t1140 : τ 1140 = some (g 5) := i5
  have t1141 : τ 1141 = some (g 6) := i6
  have t1142 : τ 1142 = some (g 7) := i7
  have t1143 : τ 1143 = some (g 8) := i8
  have t1144 : τ 1144 = some (g 9) := i9
  obtain ⟨c0, c1, c2, c3, c4, _⟩ := hc
  have c0 : 1 * g 9 ≤ 10 := d1 c0
  have c1 : (-1) * g 9 ≤ (-10) := d1 c1
  have c2 : (-1) * g 2 + 1 * g 6 ≤ 0 := d2 c2
  have c3 : 1 * g 2 + (-1) * g 6 ≤ 0 := d2 c3
  have c4 : (-1) * g 4 ≤ (-40) := d1 c4
  obtain ⟨h0, k_tok, k_sc1, k_sc2, k_T, k_I, k_F, k_N, k_Y, k_Z, k_A, k_B, k_C, k_X, k_R, k_f4⟩ := hS (by rw [t1199]; exact fun e => by cases e)
  have k_tok0 := k_tok
  obtain ⟨h_L, h_n, h_nF⟩ := k_tok0
  have k_I0 := k_I
  obtain ⟨h_p, h_pc, h_ip, h_iP, h_PC, h_PN⟩ := k_I0
  have k_B0 := k_B
  obtain ⟨h_B0, h_B, h_Bd0, h_B26, h_B22, h_Bs⟩ := k_B0
  obtain ⟨hn0, _, hNT⟩ := h_nF _ t1102
  have hB := h_B _ _ _ _ _ _ t1102 t1140 t1141 t1142 t1143 t1144
  have rB := hB.1
  obtain ⟨⟨hi0, hi1⟩, hpi⟩ := h_ip _ _ _ t1102 t1122 t1123
  have eb : (g 2).toNat = (g 6).toNat := by omega
  rw [eb] at hpi
  have ep : (g 3).toNat = Tp9 (tx9 m) (g 6).toNat := by omega
  have hcc := h_pc _ _ t1123 t1124
  rw [ep] at hcc
  obtain ⟨y1, y2⟩ := RI_b hB 10 (by omega) (q_0b (by omega))
  exact ⟨rfl, ⟨f2 (by omega), f2 (by omega), f1 (by omega), f1 (by omega), trivial⟩, trivial, fun _ => ⟨h0, k_tok, k_sc1, k_sc2, k_T, k_I, k_F, k_N, k_Y, k_Z, k_A, k_B, k_C, k_X, k_R, k_f4⟩⟩
noncomputable def ru_q1 : Ru := ([(0, (1199, (0, (0, 0)))), (0, (1102, (0, (0, 0)))), (0, (1122, (0, (0, 0)))), (0, (1123, (0, (0, 0)))), (0, (1124, (0, (0, 0)))), (0, (1140, (0, (0, 0)))), (0, (1141, (0, (0, 0)))), (0, (1142, (0, (0, 0)))), (0, (1143, (0, (0, 0)))), (0, (1144, (0, (0, 0)))), (4, (0, (0, (12, 0))))], ([], ([([(9, 1)], 11), ([(9, (-1))], (-11)), ([(2, (-1)), (6, 1)], 0), ([(2, 1), (6, (-1))], 0), ([(4, (-1))], (-34)), ([(4, 1)], 35)], (false, ([], ([], ([(1144, some (10, 0)), (1141, some (6, 1))], none)))))))
theorem rk_q1 : RuOk SR ru_q1 := by
  intro τ m g hi hc ha hS
  obtain ⟨i0, i1, i2, i3, i4, i5, i6, i7, i8, i9, i10, _⟩ := hi
  have t1199 : τ 1199 = some (g 0) := i0
  have t1102 : τ 1102 = some (g 1) := i1
  have t1122 : τ 1122 = some (g 2) := i2
  have t1123 : τ 1123 = some (g 3) := i3
  have t1124 : τ 1124 = some (g 4) := i4
  have t1140 : τ 1140 = some (g 5) := i5
  have t1141 : τ 1141 = some (g 6) := i6
  have t1142 : τ 1142 = some (g 7) := i7
  have t1143 : τ 1143 = some (g 8) := i8
  have t1144 : τ 1144 = some (g 9) := i9
  have xm1 : g 10 = 12 := i10
  obtain ⟨c0, c1, c2, c3, c4, c5, _⟩ := hc
  have c0 : 1 * g 9 ≤ 11 := d1 c0
  have c1 : (-1) * g 9 ≤ (-11) := d1 c1
  have c2 : (-1) * g 2 + 1 * g 6 ≤ 0 := d2 c2
  have c3 : 1 * g 2 + (-1) * g 6 ≤ 0 := d2 c3
  have c4 : (-1) * g 4 ≤ (-34) := d1 c4
  have c5 : 1 * g 4 ≤ 35 := d1 c5
  obtain ⟨h0, k_tok, k_sc1, k_sc2, k_T, k_I, k_F, k_N, k_Y, k_Z, k_A, k_B, k_C, k_X, k_R, k_f4⟩ := hS (by rw [t1199]; exact fun e => by cases e)
  have k_tok0 := k_tok
  obtain ⟨h_L, h_n, h_nF⟩ := k_tok0
  have k_I0 := k_I
  obtain ⟨h_p, h_pc, h_ip, h_iP, h_PC, h_PN⟩ := k_I0
  have k_B0 := k_B
  obtain ⟨h_B0, h_B, h_Bd0, h_B26, h_B22, h_Bs⟩ := k_B0
  obtain ⟨hn0, _, hNT⟩ := h_nF _ t1102
  have hB := h_B _ _ _ _ _ _ t1102 t1140 t1141 t1142 t1143 t1144
  have rB := hB.1
  obtain ⟨⟨hi0, hi1⟩, hpi⟩ := h_ip _ _ _ t1102 t1122 t1123
  have eb : (g 2).toNat = (g 6).toNat := by omega
  rw [eb] at hpi
  have ep : (g 3).toNat = Tp9 (tx9 m) (g 6).toNat := by omega
  have hcc := h_pc _ _ t1123 t1124
  rw [ep] at hcc
  have hx1 := NT_next hNT (i := (g 6).toNat) (by omega) (by omega)
  exact ⟨rfl, trivial, trivial, fun _ => ⟨h0, k_tok, k_sc1, k_sc2, k_T, k_I, k_F, k_N, k_Y, k_Z, k_A, ⟨fun nF Bd Bi Br Bm e0 e1 e2 e3 e4 => by
      have e0 : g 1 = nF := Option.some.inj (t1102.symm.trans e0)
      subst e0
      have e1 : g 5 = Bd := Option.some.inj (t1140.symm.trans e1)
      subst e1
      have e2 : g 6 + 1 = Bi := Option.some.inj e2
      subst e2
      have e3 : g 7 = Br := Option.some.inj (t1142.symm.trans e3)
      subst e3
      have e4 : g 10 + 0 = Bm := Option.some.inj e4
      subst e4
      exact ⟨_, RI_u hB 11 12 (by omega) (by omega) rfl (by omega) ⟨by omega, by omega⟩ (fun r h => by
              rw [St_n (by omega)] at h
              exact q_1 (by omega) (by omega) h)⟩, fun nF Bd Bi Br Bx Bm e0 e1 e2 e3 e4 e5 => by
      have e0 : g 1 = nF := Option.some.inj (t1102.symm.trans e0)
      subst e0
      have e1 : g 5 = Bd := Option.some.inj (t1140.symm.trans e1)
      subst e1
      have e2 : g 6 + 1 = Bi := Option.some.inj e2
      subst e2
      have e3 : g 7 = Br := Option.some.inj (t1142.symm.trans e3)
      subst e3
      have e4 : g 8 = Bx := Option.some.inj (t1143.symm.trans e4)
      subst e4
      have e5 : g 10 + 0 = Bm := Option.some.inj e5
      subst e5
      exact RI_u hB 11 12 (by omega) (by omega) rfl (by omega) ⟨by omega, by omega⟩ (fun r h => by
              rw [St_n (by omega)] at h
              exact q_1 (by omega) (by omega) h), h_Bd0, fun Bd Bi Bm e0 e1 e2 => by
      have e0 : g 5 = Bd := Option.some.inj (t1140.symm.trans e0)
      subst e0
      have e1 : g 6 + 1 = Bi := Option.some.inj e1
      subst e1
      have e2 : g 10 + 0 = Bm := Option.some.inj e2
      subst e2
      intro h
      omega, fun Bd Bi Bm Bf e0 e1 e2 e3 => by
      have e0 : g 5 = Bd := Option.some.inj (t1140.symm.trans e0)
      subst e0
      have e1 : g 6 + 1 = Bi := Option.some.inj e1
      subst e1
      have e2 : g 10 + 0 = Bm := Option.some.inj e2
      subst e2
      intro h
      omega, h_Bs⟩, k_C, k_X, k_R, k_f4⟩⟩
noncomputable def ru_nvH : Ru := ([(0, (1199, (0, (0, 0)))), (0, (1102, (0, (0, 0)))), (0, (1122, (0, (0, 0)))), (0, (1123, (0, (0, 0)))), (0, (1184, (0, (0, 0)))), (0, (1185, (0, (0, 0)))), (0, (1186, (0, (0, 0))))], ([1189, 1183], ([([(3, (-1)), (4, 1)], 0), ([(3, 1), (4, (-1))], 0), ([(5, 1)], 112), ([(5, (-1))], (-112))], (false, ([], ([], ([(1189, some (6, 0)), (1208, some (4, 0)), (1184, none), (1185, none), (1186, none), (1187, none), (1188, none)], none)))))))
theorem rk_nvH : RuOk SR ru_nvH := by
  intro τ m g hi hc ha hS
  obtain ⟨i0, i1, i2, i3, i4, i5, i6, _⟩ := hi
  have t1199 : τ 1199 = some (g 0) := i0
  have t1102 : τ 1102 = some (g 1) := i1
  have t1122 : τ 1122 = some (g 2) := i2
  have t1123 : τ 1123 = some (g 3) := i3
  have t1184 : τ 1184 = some (g 4) := i4
  have t1185 : τ 1185 = some (g 5) := i5
  have t1186 : τ 1186 = some (g 6) := i6
  obtain ⟨c0, c1, c2, c3, _⟩ := hc
  have c0 : (-1) * g 3 + 1 * g 4 ≤ 0 := d2 c0
  have c1 : 1 * g 3 + (-1) * g 4 ≤ 0 := d2 c1
  have c2 : 1 * g 5 ≤ 112 := d1 c2
  have c3 : (-1) * g 5 ≤ (-112) := d1 c3
  obtain ⟨a0, a1, _⟩ := ha
  have n1189 : τ 1189 = none := a0
  have n1183 : τ 1183 = none := a1
  obtain ⟨h0, k_tok, k_sc1, k_sc2, k_T, k_I, k_F, k_N, k_Y, k_Z, k_A, k_B, k_C, k_X, k_R, k_f4⟩ := hS (by rw [t1199]; exact fun e => by cases e)
  have k_N0 := k_N
  obtain ⟨h_N, h_Nk, h_V, h_Yq⟩ := k_N0
  have hv2 := (h_N _ _ _ t1184 t1185 t1186).2
  rw [show g 5 = 112 by omega] at hv2
  exact ⟨rfl, trivial, trivial, fun _ => ⟨h0, k_tok, k_sc1, k_sc2, k_T, k_I, k_F, ⟨fun _ _ _ e0 e1 e2 => no9 (o := none) rfl e0, fun _ _ _ _ _ e0 e1 e2 e3 e4 => no9 (o := none) rfl e0, fun Vp V9 e0 e1 => by
      have e0 : g 4 + 0 = Vp := Option.some.inj e0
      subst e0
      have e1 : g 6 + 0 = V9 := Option.some.inj e1
      subst e1
      rw [Int.add_zero, Int.add_zero]
      exact hv2, fun _ _ e0 e1 => no9 n1183 e1⟩, k_Y, k_Z, k_A, k_B, k_C, k_X, k_R, k_f4⟩⟩
noncomputable def ru_nvc : Ru := ([(0, (1199, (0, (0, 0)))), (0, (1102, (0, (0, 0)))), (0, (1122, (0, (0, 0)))), (0, (1123, (0, (0, 0)))), (0, (1124, (0, (0, 0)))), (0, (1189, (0, (0, 0)))), (0, (1208, (0, (0, 0))))], ([], ([([(5, (-1))], 0), ([(3, (-1)), (6, 1)], 0), ([(3, 1), (6, (-1))], 0)], (false, ([([(4, (-1))], (-21))], ([], ([], none)))))))
theorem rk_nvc : RuOk SR ru_nvc := by
  intro τ m g hi hc ha hS
  obtain ⟨i0, i1, i2, i3, i4, i5, i6, _⟩ := hi
  have t1199 : τ 1199 = some (g 0) := i0
  have t1102 : τ 1102 = some (g 1) := i1
  have t1122 : τ 1122 = some (g 2) := i2
  have t1123 : τ 1123 = some (g 3) := i3
  have t1124 : τ 1124 = some (g 4) := i4
  have t1189 : τ 1189 = some (g 5) := i5
  have t1208 : τ 1208 = some (g 6) := i6
  obtain ⟨c0, c1, c2, _⟩ := hc
  have c0 : (-1) * g 5 ≤ 0 := d1 c0
  have c1 : (-1) * g 3 + 1 * g 6 ≤ 0 := d2 c1
  have c2 : 1 * g 3 + (-1) * g 6 ≤ 0 := d2 c2
  obtain ⟨h0, k_tok, k_sc1, k_sc2, k_T, k_I, k_F, k_N, k_Y, k_Z, k_A, k_B, k_C, k_X, k_R, k_f4⟩ := hS (by rw [t1199]; exact fun e => by cases e)
  have k_I0 := k_I
  obtain ⟨h_p, h_pc, h_ip, h_iP, h_PC, h_PN⟩ := k_I0
  have k_N0 := k_N
  obtain ⟨h_N, h_Nk, h_V, h_Yq⟩ := k_N0
  have hv := h_V _ _ t1208 t1189
  have hcc := h_pc _ _ t1123 t1124
  have hkd := nb_kd (X := tx9 m) (p := (g 6).toNat) (c := 112) (by omega)
  rw [show (g 6).toNat = (g 3).toNat by omega] at hkd
  have := rc_kd.2.1 hkd
  exact ⟨rfl, ⟨f1 (by omega), trivial⟩, trivial, fun _ => ⟨h0, k_tok, k_sc1, k_sc2, k_T, k_I, k_F, k_N, k_Y, k_Z, k_A, k_B, k_C, k_X, k_R, k_f4⟩⟩
noncomputable def ru_nvd : Ru := ([(0, (1199, (0, (0, 0)))), (0, (1102, (0, (0, 0)))), (0, (1122, (0, (0, 0)))), (0, (1123, (0, (0, 0)))), (0, (1124, (0, (0, 0)))), (0, (1184, (0, (0, 0)))), (0, (1185, (0, (0, 0)))), (0, (1186, (0, (0, 0))))], ([], ([([(3, (-1)), (5, 1)], 0), ([(3, 1), (5, (-1))], 0), ([(7, (-1))], 0)], (false, ([([(4, (-1))], (-21))], ([], ([], none)))))))
theorem rk_nvd : RuOk SR ru_nvd := by
  intro τ m g hi hc ha hS
  obtain ⟨i0, i1, i2, i3, i4, i5, i6, i7, _⟩ := hi
  have t1199 : τ 1199 = some (g 0) := i0
  have t1102 : τ 1102 = some (g 1) := i1
  have t1122 : τ 1122 = some (g 2) := i2
  have t1123 : τ 1123 = some (g 3) := i3
  have t1124 : τ 1124 = some (g 4) := i4
  have t1184 : τ 1184 = some (g 5) := i5
  have t1185 : τ 1185 = some (g 6) := i6
  have t1186 : τ 1186 = some (g 7) := i7
  obtain ⟨c0, c1, c2, _⟩ := hc
  have c0 : (-1) * g 3 + 1 * g 5 ≤ 0 := d2 c0
  have c1 : 1 * g 3 + (-1) * g 5 ≤ 0 := d2 c1
  have c2 : (-1) * g 7 ≤ 0 := d1 c2
  obtain ⟨h0, k_tok, k_sc1, k_sc2, k_T, k_I, k_F, k_N, k_Y, k_Z, k_A, k_B, k_C, k_X, k_R, k_f4⟩ := hS (by rw [t1199]; exact fun e => by cases e)
  have k_I0 := k_I
  obtain ⟨h_p, h_pc, h_ip, h_iP, h_PC, h_PN⟩ := k_I0
  have k_N0 := k_N
  obtain ⟨h_N, h_Nk, h_V, h_Yq⟩ := k_N0
  have hv := (h_N _ _ _ t1184 t1185 t1186).2
  have hcc := h_pc _ _ t1123 t1124
  have hkd := nb_kd (X := tx9 m) (p := (g 5).toNat) (c := g 6) (by omega)
  rw [show (g 5).toNat = (g 3).toNat by omega] at hkd
  have := rc_kd.2.1 hkd
  exact ⟨rfl, ⟨f1 (by omega), trivial⟩, trivial, fun _ => ⟨h0, k_tok, k_sc1, k_sc2, k_T, k_I, k_F, k_N, k_Y, k_Z, k_A, k_B, k_C, k_X, k_R, k_f4⟩⟩
noncomputable def ru_q1v : Ru := ([(0, (1199, (0, (0, 0)))), (0, (1102, (0, (0, 0)))), (0, (1122, (0, (0, 0)))), (0, (1123, (0, (0, 0)))), (0, (1124, (0, (0, 0)))), (0, (1140, (0, (0, 0)))), (0, (1141, (0, (0, 0)))), (0, (1142, (0, (0, 0)))), (0, (1143, (0, (0, 0)))), (0, (1144, (0, (0, 0)))), (0, (1189, (0, (0, 0)))), (0, (1208, (0, (0, 0)))), (5, (110, (6, (0, 0)))), (4, (0, (0, (12, 0))))], ([], ([([(9, 1)], 11), ([(9, (-1))], (-11)), ([(2, (-1)), (6, 1)], 0), ([(2, 1), (6, (-1))], 0), ([(10, (-1))], 0), ([(10, 1), (12, (-1))], (-1)), ([(3, (-1)), (11, 1)], 0), ([(3, 1), (11, (-1))], 0)], (false, ([], ([], ([(1144, some (13, 0)), (1141, some (6, 1))], none)))))))
theorem rk_q1v : RuOk SR ru_q1v := by
  intro τ m g hi hc ha hS
  obtain ⟨i0, i1, i2, i3, i4, i5, i6, i7, i8, i9, i10, i11, i12, i13, _⟩ := hi
  have t1199 : τ 1199 = some (g 0) := i0
  have t1102 : τ 1102 = some (g 1) := i1
  have t1122 : τ 1122 = some (g 2) := i2
  have t1123 : τ 1123 = some (g 3) := i3
  have t1124 : τ 1124 = some (g 4) := i4
  have t1140 : τ 1140 = some (g 5) := i5
  have t1141 : τ 1141 = some (g 6) := i6
  have t1142 : τ 1142 = some (g 7) := i7
  have t1143 : τ 1143 = some (g 8) := i8
  have t1144 : τ 1144 = some (g 9) := i9
  have t1189 : τ 1189 = some (g 10) := i10
  have t1208 : τ 1208 = some (g 11) := i11
  have xhp : g 12 = m 110 6 := i12
  have xm1 : g 13 = 12 := i13
  obtain ⟨c0, c1, c2, c3, c4, c5, c6, c7, _⟩ := hc
  have c0 : 1 * g 9 ≤ 11 := d1 c0
  have c1 : (-1) * g 9 ≤ (-11) := d1 c1
  have c2 : (-1) * g 2 + 1 * g 6 ≤ 0 := d2 c2
  have c3 : 1 * g 2 + (-1) * g 6 ≤ 0 := d2 c3
  have c4 : (-1) * g 10 ≤ 0 := d1 c4
  have c5 : 1 * g 10 + (-1) * g 12 ≤ (-1) := d2 c5
  have c6 : (-1) * g 3 + 1 * g 11 ≤ 0 := d2 c6
  have c7 : 1 * g 3 + (-1) * g 11 ≤ 0 := d2 c7
  obtain ⟨h0, k_tok, k_sc1, k_sc2, k_T, k_I, k_F, k_N, k_Y, k_Z, k_A, k_B, k_C, k_X, k_R, k_f4⟩ := hS (by rw [t1199]; exact fun e => by cases e)
  have k_tok0 := k_tok
  obtain ⟨h_L, h_n, h_nF⟩ := k_tok0
  have k_I0 := k_I
  obtain ⟨h_p, h_pc, h_ip, h_iP, h_PC, h_PN⟩ := k_I0
  have k_N0 := k_N
  obtain ⟨h_N, h_Nk, h_V, h_Yq⟩ := k_N0
  have k_B0 := k_B
  obtain ⟨h_B0, h_B, h_Bd0, h_B26, h_B22, h_Bs⟩ := k_B0
  obtain ⟨hn0, _, hNT⟩ := h_nF _ t1102
  have hB := h_B _ _ _ _ _ _ t1102 t1140 t1141 t1142 t1143 t1144
  have rB := hB.1
  obtain ⟨⟨hi0, hi1⟩, hpi⟩ := h_ip _ _ _ t1102 t1122 t1123
  have eb : (g 2).toNat = (g 6).toNat := by omega
  rw [eb] at hpi
  have ep : (g 3).toNat = Tp9 (tx9 m) (g 6).toNat := by omega
  have hcc := h_pc _ _ t1123 t1124
  rw [ep] at hcc
  have hc2 : 2 ≤ rc9 (tx9 m) (Tp9 (tx9 m) (g 6).toNat) := by
    refine kd_rc (nb_kd (c := 112) ?_)
    have hv := h_V _ _ t1208 t1189
    rw [show (g 11).toNat = Tp9 (tx9 m) (g 6).toNat by omega] at hv
    omega
  have hv := h_V _ _ t1208 t1189
  have hvp : (g 11).toNat = Tp9 (tx9 m) (g 6).toNat := by omega
  rw [hvp] at hv
  have hx1 := NT_next hNT (i := (g 6).toNat) (by omega) (by omega)
  exact ⟨rfl, trivial, trivial, fun _ => ⟨h0, k_tok, k_sc1, k_sc2, k_T, k_I, k_F, k_N, k_Y, k_Z, k_A, ⟨fun nF Bd Bi Br Bm e0 e1 e2 e3 e4 => by
      have e0 : g 1 = nF := Option.some.inj (t1102.symm.trans e0)
      subst e0
      have e1 : g 5 = Bd := Option.some.inj (t1140.symm.trans e1)
      subst e1
      have e2 : g 6 + 1 = Bi := Option.some.inj e2
      subst e2
      have e3 : g 7 = Br := Option.some.inj (t1142.symm.trans e3)
      subst e3
      have e4 : g 13 + 0 = Bm := Option.some.inj e4
      subst e4
      exact ⟨_, RI_u hB 11 12 (by omega) (by omega) rfl (by omega) ⟨by omega, by omega⟩ (fun r h => by
              rw [St_n (by omega)] at h
              exact q_1p (by omega) (by show nb9 (tx9 m) _ _ < m 110 6; omega) h)⟩, fun nF Bd Bi Br Bx Bm e0 e1 e2 e3 e4 e5 => by
      have e0 : g 1 = nF := Option.some.inj (t1102.symm.trans e0)
      subst e0
      have e1 : g 5 = Bd := Option.some.inj (t1140.symm.trans e1)
      subst e1
      have e2 : g 6 + 1 = Bi := Option.some.inj e2
      subst e2
      have e3 : g 7 = Br := Option.some.inj (t1142.symm.trans e3)
      subst e3
      have e4 : g 8 = Bx := Option.some.inj (t1143.symm.trans e4)
      subst e4
      have e5 : g 13 + 0 = Bm := Option.some.inj e5
      subst e5
      exact RI_u hB 11 12 (by omega) (by omega) rfl (by omega) ⟨by omega, by omega⟩ (fun r h => by
              rw [St_n (by omega)] at h
              exact q_1p (by omega) (by show nb9 (tx9 m) _ _ < m 110 6; omega) h), h_Bd0, fun Bd Bi Bm e0 e1 e2 => by
      have e0 : g 5 = Bd := Option.some.inj (t1140.symm.trans e0)
      subst e0
      have e1 : g 6 + 1 = Bi := Option.some.inj e1
      subst e1
      have e2 : g 13 + 0 = Bm := Option.some.inj e2
      subst e2
      intro h
      omega, fun Bd Bi Bm Bf e0 e1 e2 e3 => by
      have e0 : g 5 = Bd := Option.some.inj (t1140.symm.trans e0)
      subst e0
      have e1 : g 6 + 1 = Bi := Option.some.inj e1
      subst e1
      have e2 : g 13 + 0 = Bm := Option.some.inj e2
      subst e2
      intro h
      omega, h_Bs⟩, k_C, k_X, k_R, k_f4⟩⟩
noncomputable def ru_q1g : Ru := ([(0, (1199, (0, (0, 0)))), (0, (1102, (0, (0, 0)))), (0, (1122, (0, (0, 0)))), (0, (1123, (0, (0, 0)))), (0, (1124, (0, (0, 0)))), (0, (1140, (0, (0, 0)))), (0, (1141, (0, (0, 0)))), (0, (1142, (0, (0, 0)))), (0, (1143, (0, (0, 0)))), (0, (1144, (0, (0, 0)))), (0, (1184, (0, (0, 0)))), (0, (1185, (0, (0, 0)))), (0, (1186, (0, (0, 0)))), (5, (110, (7, (0, 0)))), (4, (0, (0, (12, 0))))], ([], ([([(9, 1)], 11), ([(9, (-1))], (-11)), ([(2, (-1)), (6, 1)], 0), ([(2, 1), (6, (-1))], 0), ([(3, (-1)), (10, 1)], 0), ([(3, 1), (10, (-1))], 0), ([(11, 1)], 103), ([(11, (-1))], (-103)), ([(12, (-1))], 0), ([(12, 1), (13, (-1))], (-1))], (false, ([], ([], ([(1144, some (14, 0)), (1141, some (6, 1))], none)))))))
theorem rk_q1g : RuOk SR ru_q1g := by
  intro τ m g hi hc ha hS
  obtain ⟨i0, i1, i2, i3, i4, i5, i6, i7, i8, i9, i10, i11, i12, i13, i14, _⟩ := hi
  have t1199 : τ 1199 = some (g 0) := i0
  have t1102 : τ 1102 = some (g 1) := i1
  have t1122 : τ 1122 = some (g 2) := i2
  have t1123 : τ 1123 = some (g 3) := i3
  have t1124 : τ 1124 = some (g 4) := i4
  have t1140 : τ 1140 = some (g 5) := i5
  have t1141 : τ 1141 = some (g 6) := i6
  have t1142 : τ 1142 = some (g 7) := i7
  have t1143 : τ 1143 = some (g 8) := i8
  have t1144 : τ 1144 = some (g 9) := i9
  have t1184 : τ 1184 = some (g 10) := i10
  have t1185 : τ 1185 = some (g 11) := i11
  have t1186 : τ 1186 = some (g 12) := i12
  have xhg : g 13 = m 110 7 := i13
  have xm1 : g 14 = 12 := i14
  obtain ⟨c0, c1, c2, c3, c4, c5, c6, c7, c8, c9, _⟩ := hc
  have c0 : 1 * g 9 ≤ 11 := d1 c0
  have c1 : (-1) * g 9 ≤ (-11) := d1 c1
  have c2 : (-1) * g 2 + 1 * g 6 ≤ 0 := d2 c2
  have c3 : 1 * g 2 + (-1) * g 6 ≤ 0 := d2 c3
  have c4 : (-1) * g 3 + 1 * g 10 ≤ 0 := d2 c4
  have c5 : 1 * g 3 + (-1) * g 10 ≤ 0 := d2 c5
  have c6 : 1 * g 11 ≤ 103 := d1 c6
  have c7 : (-1) * g 11 ≤ (-103) := d1 c7
  have c8 : (-1) * g 12 ≤ 0 := d1 c8
  have c9 : 1 * g 12 + (-1) * g 13 ≤ (-1) := d2 c9
  obtain ⟨h0, k_tok, k_sc1, k_sc2, k_T, k_I, k_F, k_N, k_Y, k_Z, k_A, k_B, k_C, k_X, k_R, k_f4⟩ := hS (by rw [t1199]; exact fun e => by cases e)
  have k_tok0 := k_tok
  obtain ⟨h_L, h_n, h_nF⟩ := k_tok0
  have k_I0 := k_I
  obtain ⟨h_p, h_pc, h_ip, h_iP, h_PC, h_PN⟩ := k_I0
  have k_N0 := k_N
  obtain ⟨h_N, h_Nk, h_V, h_Yq⟩ := k_N0
  have k_B0 := k_B
  obtain ⟨h_B0, h_B, h_Bd0, h_B26, h_B22, h_Bs⟩ := k_B0
  obtain ⟨hn0, _, hNT⟩ := h_nF _ t1102
  have hB := h_B _ _ _ _ _ _ t1102 t1140 t1141 t1142 t1143 t1144
  have rB := hB.1
  obtain ⟨⟨hi0, hi1⟩, hpi⟩ := h_ip _ _ _ t1102 t1122 t1123
  have eb : (g 2).toNat = (g 6).toNat := by omega
  rw [eb] at hpi
  have ep : (g 3).toNat = Tp9 (tx9 m) (g 6).toNat := by omega
  have hcc := h_pc _ _ t1123 t1124
  rw [ep] at hcc
  have hv2 := (h_N _ _ _ t1184 t1185 t1186).2
  rw [show (g 10).toNat = Tp9 (tx9 m) (g 6).toNat by omega, show g 11 = 103 by omega] at hv2
  have hc2 : 2 ≤ rc9 (tx9 m) (Tp9 (tx9 m) (g 6).toNat) := kd_rc (nb_kd (c := 103) (by omega))
  have hx1 := NT_next hNT (i := (g 6).toNat) (by omega) (by omega)
  exact ⟨rfl, trivial, trivial, fun _ => ⟨h0, k_tok, k_sc1, k_sc2, k_T, k_I, k_F, k_N, k_Y, k_Z, k_A, ⟨fun nF Bd Bi Br Bm e0 e1 e2 e3 e4 => by
      have e0 : g 1 = nF := Option.some.inj (t1102.symm.trans e0)
      subst e0
      have e1 : g 5 = Bd := Option.some.inj (t1140.symm.trans e1)
      subst e1
      have e2 : g 6 + 1 = Bi := Option.some.inj e2
      subst e2
      have e3 : g 7 = Br := Option.some.inj (t1142.symm.trans e3)
      subst e3
      have e4 : g 14 + 0 = Bm := Option.some.inj e4
      subst e4
      exact ⟨_, RI_u hB 11 12 (by omega) (by omega) rfl (by omega) ⟨by omega, by omega⟩ (fun r h => by
              rw [St_n (by omega)] at h
              exact q_1g (by omega) (by show nb9 (tx9 m) _ _ < m 110 7; omega) h)⟩, fun nF Bd Bi Br Bx Bm e0 e1 e2 e3 e4 e5 => by
      have e0 : g 1 = nF := Option.some.inj (t1102.symm.trans e0)
      subst e0
      have e1 : g 5 = Bd := Option.some.inj (t1140.symm.trans e1)
      subst e1
      have e2 : g 6 + 1 = Bi := Option.some.inj e2
      subst e2
      have e3 : g 7 = Br := Option.some.inj (t1142.symm.trans e3)
      subst e3
      have e4 : g 8 = Bx := Option.some.inj (t1143.symm.trans e4)
      subst e4
      have e5 : g 14 + 0 = Bm := Option.some.inj e5
      subst e5
      exact RI_u hB 11 12 (by omega) (by omega) rfl (by omega) ⟨by omega, by omega⟩ (fun r h => by
              rw [St_n (by omega)] at h
              exact q_1g (by omega) (by show nb9 (tx9 m) _ _ < m 110 7; omega) h), h_Bd0, fun Bd Bi Bm e0 e1 e2 => by
      have e0 : g 5 = Bd := Option.some.inj (t1140.symm.trans e0)
      subst e0
      have e1 : g 6 + 1 = Bi := Option.some.inj e1
      subst e1
      have e2 : g 14 + 0 = Bm := Option.some.inj e2
      subst e2
      intro h
      omega, fun Bd Bi Bm Bf e0 e1 e2 e3 => by
      have e0 : g 5 = Bd := Option.some.inj (t1140.symm.trans e0)
      subst e0
      have e1 : g 6 + 1 = Bi := Option.some.inj e1
      subst e1
      have e2 : g 14 + 0 = Bm := Option.some.inj e2
      subst e2
      intro h
      omega, h_Bs⟩, k_C, k_X, k_R, k_f4⟩⟩
noncomputable def ru_qqa : Ru := ([(0, (1199, (0, (0, 0)))), (0, (1102, (0, (0, 0)))), (0, (1122, (0, (0, 0)))), (0, (1123, (0, (0, 0)))), (0, (1124, (0, (0, 0)))), (0, (1140, (0, (0, 0)))), (0, (1141, (0, (0, 0)))), (0, (1142, (0, (0, 0)))), (0, (1143, (0, (0, 0)))), (0, (1144, (0, (0, 0)))), (0, (1189, (0, (0, 0)))), (0, (1208, (0, (0, 0)))), (4, (0, (0, (1, 0))))], ([1183], ([([(2, (-1)), (6, 1)], 0), ([(2, 1), (6, (-1))], 0), ([(9, 1)], 11), ([(9, (-1))], (-11)), ([(3, (-1)), (11, 1)], 0), ([(3, 1), (11, (-1))], 0), ([(4, 1)], 33), ([(10, 1)], (-1))], (false, ([], ([], ([(1183, some (12, 0))], none)))))))
theorem rk_qqa : RuOk SR ru_qqa := by
  intro τ m g hi hc ha hS
  obtain ⟨i0, i1, i2, i3, i4, i5, i6, i7, i8, i9, i10, i11, i12, _⟩ := hi
  have t1199 : τ 1199 = some (g 0) := i0
  have t1102 : τ 1102 = some (g 1) := i1
  have t1122 : τ 1122 = some (g 2) := i2
  have t1123 : τ 1123 = some (g 3) := i3
  have t1124 : τ 1124 = some (g 4) := i4
  have t1140 : τ 1140 = some (g 5) := i5
  have t1141 : τ 1141 = some (g 6) := i6
  have t1142 : τ 1142 = some (g 7) := i7
  have t1143 : τ 1143 = some (g 8) := i8
  have t1144 : τ 1144 = some (g 9) := i9
  have t1189 : τ 1189 = some (g 10) := i10
  have t1208 : τ 1208 = some (g 11) := i11
  have xone : g 12 = 1 := i12
  obtain ⟨c0, c1, c2, c3, c4, c5, c6, c7, _⟩ := hc
  have c0 : (-1) * g 2 + 1 * g 6 ≤ 0 := d2 c0
  have c1 : 1 * g 2 + (-1) * g 6 ≤ 0 := d2 c1
  have c2 : 1 * g 9 ≤ 11 := d1 c2
  have c3 : (-1) * g 9 ≤ (-11) := d1 c3
  have c4 : (-1) * g 3 + 1 * g 11 ≤ 0 := d2 c4
  have c5 : 1 * g 3 + (-1) * g 11 ≤ 0 := d2 c5
  have c6 : 1 * g 4 ≤ 33 := d1 c6
  have c7 : 1 * g 10 ≤ (-1) := d1 c7
  obtain ⟨a0, _⟩ := ha
  have n1183 : τ 1183 = none := a0
  obtain ⟨h0, k_tok, k_sc1, k_sc2, k_T, k_I, k_F, k_N, k_Y, k_Z, k_A, k_B, k_C, k_X, k_R, k_f4⟩ := hS (by rw [t1199]; exact fun e => by cases e)
  have k_tok0 := k_tok
  obtain ⟨h_L, h_n, h_nF⟩ := k_tok0
  have k_I0 := k_I
  obtain ⟨h_p, h_pc, h_ip, h_iP, h_PC, h_PN⟩ := k_I0
  have k_N0 := k_N
  obtain ⟨h_N, h_Nk, h_V, h_Yq⟩ := k_N0
  have k_B0 := k_B
  obtain ⟨h_B0, h_B, h_Bd0, h_B26, h_B22, h_Bs⟩ := k_B0
  obtain ⟨hn0, _, hNT⟩ := h_nF _ t1102
  have hB := h_B _ _ _ _ _ _ t1102 t1140 t1141 t1142 t1143 t1144
  have rB := hB.1
  obtain ⟨⟨hi0, hi1⟩, hpi⟩ := h_ip _ _ _ t1102 t1122 t1123
  have eb : (g 2).toNat = (g 6).toNat := by omega
  rw [eb] at hpi
  have ep : (g 3).toNat = Tp9 (tx9 m) (g 6).toNat := by omega
  have hcc := h_pc _ _ t1123 t1124
  rw [ep] at hcc
  have hv := h_V _ _ t1208 t1189
  have hvp : (g 11).toNat = Tp9 (tx9 m) (g 6).toNat := by omega
  rw [hvp] at hv
  exact ⟨rfl, trivial, trivial, fun _ => ⟨h0, k_tok, k_sc1, k_sc2, k_T, k_I, k_F, ⟨h_N, h_Nk, h_V, fun Vp Yq e0 e1 => by
      have e0 : g 11 = Vp := Option.some.inj (t1208.symm.trans e0)
      subst e0
      have e1 : g 12 + 0 = Yq := Option.some.inj e1
      subst e1
      rw [hvp]
      exact ⟨in9_no (by omega), fun z => by have z2 : nb9 (tx9 m) _ 112 < m 110 6 := z.2; omega⟩⟩, k_Y, k_Z, k_A, k_B, k_C, k_X, k_R, k_f4⟩⟩
noncomputable def ru_qqb : Ru := ([(0, (1199, (0, (0, 0)))), (0, (1102, (0, (0, 0)))), (0, (1122, (0, (0, 0)))), (0, (1123, (0, (0, 0)))), (0, (1124, (0, (0, 0)))), (0, (1140, (0, (0, 0)))), (0, (1141, (0, (0, 0)))), (0, (1142, (0, (0, 0)))), (0, (1143, (0, (0, 0)))), (0, (1144, (0, (0, 0)))), (0, (1189, (0, (0, 0)))), (0, (1208, (0, (0, 0)))), (4, (0, (0, (1, 0))))], ([1183], ([([(2, (-1)), (6, 1)], 0), ([(2, 1), (6, (-1))], 0), ([(9, 1)], 11), ([(9, (-1))], (-11)), ([(3, (-1)), (11, 1)], 0), ([(3, 1), (11, (-1))], 0), ([(4, (-1))], (-36)), ([(10, 1)], (-1))], (false, ([], ([], ([(1183, some (12, 0))], none)))))))
theorem rk_qqb : RuOk SR ru_qqb := by
  intro τ m g hi hc ha hS
  obtain ⟨i0, i1, i2, i3, i4, i5, i6, i7, i8, i9, i10, i11, i12, _⟩ := hi
  have t1199 : τ 1199 = some (g 0) := i0
  have t1102 : τ 1102 = some (g 1) := i1
  have t1122 : τ 1122 = some (g 2) := i2
  have t1123 : τ 1123 = some (g 3) := i3
  have t1124 : τ 1124 = some (g 4) := i4
  have t1140 : τ 1140 = some (g 5) := i5
  have t1141 : τ 1141 = some (g 6) := i6
  have t1142 : τ 1142 = some (g 7) := i7
  have t1143 : τ 1143 = some (g 8) := i8
  have t1144 : τ 1144 = some (g 9) := i9
  have t1189 : τ 1189 = some (g 10) := i10
  have t1208 : τ 1208 = some (g 11) := i11
  have xone : g 12 = 1 := i12
  obtain ⟨c0, c1, c2, c3, c4, c5, c6, c7, _⟩ := hc
  have c0 : (-1) * g 2 + 1 * g 6 ≤ 0 := d2 c0
  have c1 : 1 * g 2 + (-1) * g 6 ≤ 0 := d2 c1
  have c2 : 1 * g 9 ≤ 11 := d1 c2
  have c3 : (-1) * g 9 ≤ (-11) := d1 c3
  have c4 : (-1) * g 3 + 1 * g 11 ≤ 0 := d2 c4
  have c5 : 1 * g 3 + (-1) * g 11 ≤ 0 := d2 c5
  have c6 : (-1) * g 4 ≤ (-36) := d1 c6
  have c7 : 1 * g 10 ≤ (-1) := d1 c7
  obtain ⟨a0, _⟩ := ha
  have n1183 : τ 1183 = none := a0
  obtain ⟨h0, k_tok, k_sc1, k_sc2, k_T, k_I, k_F, k_N, k_Y, k_Z, k_A, k_B, k_C, k_X, k_R, k_f4⟩ := hS (by rw [t1199]; exact fun e => by cases e)
  have k_tok0 := k_tok
  obtain ⟨h_L, h_n, h_nF⟩ := k_tok0
  have k_I0 := k_I
  obtain ⟨h_p, h_pc, h_ip, h_iP, h_PC, h_PN⟩ := k_I0
  have k_N0 := k_N
  obtain ⟨h_N, h_Nk, h_V, h_Yq⟩ := k_N0
  have k_B0 := k_B
  obtain ⟨h_B0, h_B, h_Bd0, h_B26, h_B22, h_Bs⟩ := k_B0
  obtain ⟨hn0, _, hNT⟩ := h_nF _ t1102
  have hB := h_B _ _ _ _ _ _ t1102 t1140 t1141 t1142 t1143 t1144
  have rB := hB.1
  obtain ⟨⟨hi0, hi1⟩, hpi⟩ := h_ip _ _ _ t1102 t1122 t1123
  have eb : (g 2).toNat = (g 6).toNat := by omega
  rw [eb] at hpi
  have ep : (g 3).toNat = Tp9 (tx9 m) (g 6).toNat := by omega
  have hcc := h_pc _ _ t1123 t1124
  rw [ep] at hcc
  have hv := h_V _ _ t1208 t1189
  have hvp : (g 11).toNat = Tp9 (tx9 m) (g 6).toNat := by omega
  rw [hvp] at hv
  exact ⟨rfl, trivial, trivial, fun _ => ⟨h0, k_tok, k_sc1, k_sc2, k_T, k_I, k_F, ⟨h_N, h_Nk, h_V, fun Vp Yq e0 e1 => by
      have e0 : g 11 = Vp := Option.some.inj (t1208.symm.trans e0)
      subst e0
      have e1 : g 12 + 0 = Yq := Option.some.inj e1
      subst e1
      rw [hvp]
      exact ⟨in9_no (by omega), fun z => by have z2 : nb9 (tx9 m) _ 112 < m 110 6 := z.2; omega⟩⟩, k_Y, k_Z, k_A, k_B, k_C, k_X, k_R, k_f4⟩⟩
noncomputable def ru_qqc : Ru := ([(0, (1199, (0, (0, 0)))), (0, (1102, (0, (0, 0)))), (0, (1122, (0, (0, 0)))), (0, (1123, (0, (0, 0)))), (0, (1124, (0, (0, 0)))), (0, (1140, (0, (0, 0)))), (0, (1141, (0, (0, 0)))), (0, (1142, (0, (0, 0)))), (0, (1143, (0, (0, 0)))), (0, (1144, (0, (0, 0)))), (0, (1189, (0, (0, 0)))), (0, (1208, (0, (0, 0)))), (5, (110, (6, (0, 0)))), (4, (0, (0, (1, 0))))], ([1183], ([([(2, (-1)), (6, 1)], 0), ([(2, 1), (6, (-1))], 0), ([(9, 1)], 11), ([(9, (-1))], (-11)), ([(3, (-1)), (11, 1)], 0), ([(3, 1), (11, (-1))], 0), ([(4, 1)], 33), ([(10, (-1)), (12, 1)], 0)], (false, ([], ([], ([(1183, some (13, 0))], none)))))))
theorem rk_qqc : RuOk SR ru_qqc := by
  intro τ m g hi hc ha hS
  obtain ⟨i0, i1, i2, i3, i4, i5, i6, i7, i8, i9, i10, i11, i12, i13, _⟩ := hi
  have t1199 : τ 1199 = some (g 0) := i0
  have t1102 : τ 1102 = some (g 1) := i1
  have t1122 : τ 1122 = some (g 2) := i2
  have t1123 : τ 1123 = some (g 3) := i3
  have t1124 : τ 1124 = some (g 4) := i4
  have t1140 : τ 1140 = some (g 5) := i5
  have t1141 : τ 1141 = some (g 6) := i6
  have t1142 : τ 1142 = some (g 7) := i7
  have t1143 : τ 1143 = some (g 8) := i8
  have t1144 : τ 1144 = some (g 9) := i9
  have t1189 : τ 1189 = some (g 10) := i10
  have t1208 : τ 1208 = some (g 11) := i11
  have xhp : g 12 = m 110 6 := i12
  have xone : g 13 = 1 := i13
  obtain ⟨c0, c1, c2, c3, c4, c5, c6, c7, _⟩ := hc
  have c0 : (-1) * g 2 + 1 * g 6 ≤ 0 := d2 c0
  have c1 : 1 * g 2 + (-1) * g 6 ≤ 0 := d2 c1
  have c2 : 1 * g 9 ≤ 11 := d1 c2
  have c3 : (-1) * g 9 ≤ (-11) := d1 c3
  have c4 : (-1) * g 3 + 1 * g 11 ≤ 0 := d2 c4
  have c5 : 1 * g 3 + (-1) * g 11 ≤ 0 := d2 c5
  have c6 : 1 * g 4 ≤ 33 := d1 c6
  have c7 : (-1) * g 10 + 1 * g 12 ≤ 0 := d2 c7
  obtain ⟨a0, _⟩ := ha
  have n1183 : τ 1183 = none := a0
  obtain ⟨h0, k_tok, k_sc1, k_sc2, k_T, k_I, k_F, k_N, k_Y, k_Z, k_A, k_B, k_C, k_X, k_R, k_f4⟩ := hS (by rw [t1199]; exact fun e => by cases e)
  have k_tok0 := k_tok
  obtain ⟨h_L, h_n, h_nF⟩ := k_tok0
  have k_I0 := k_I
  obtain ⟨h_p, h_pc, h_ip, h_iP, h_PC, h_PN⟩ := k_I0
  have k_N0 := k_N
  obtain ⟨h_N, h_Nk, h_V, h_Yq⟩ := k_N0
  have k_B0 := k_B
  obtain ⟨h_B0, h_B, h_Bd0, h_B26, h_B22, h_Bs⟩ := k_B0
  obtain ⟨hn0, _, hNT⟩ := h_nF _ t1102
  have hB := h_B _ _ _ _ _ _ t1102 t1140 t1141 t1142 t1143 t1144
  have rB := hB.1
  obtain ⟨⟨hi0, hi1⟩, hpi⟩ := h_ip _ _ _ t1102 t1122 t1123
  have eb : (g 2).toNat = (g 6).toNat := by omega
  rw [eb] at hpi
  have ep : (g 3).toNat = Tp9 (tx9 m) (g 6).toNat := by omega
  have hcc := h_pc _ _ t1123 t1124
  rw [ep] at hcc
  have hv := h_V _ _ t1208 t1189
  have hvp : (g 11).toNat = Tp9 (tx9 m) (g 6).toNat := by omega
  rw [hvp] at hv
  exact ⟨rfl, trivial, trivial, fun _ => ⟨h0, k_tok, k_sc1, k_sc2, k_T, k_I, k_F, ⟨h_N, h_Nk, h_V, fun Vp Yq e0 e1 => by
      have e0 : g 11 = Vp := Option.some.inj (t1208.symm.trans e0)
      subst e0
      have e1 : g 13 + 0 = Yq := Option.some.inj e1
      subst e1
      rw [hvp]
      exact ⟨in9_no (by omega), fun z => by have z2 : nb9 (tx9 m) _ 112 < m 110 6 := z.2; omega⟩⟩, k_Y, k_Z, k_A, k_B, k_C, k_X, k_R, k_f4⟩⟩
noncomputable def ru_qqd : Ru := ([(0, (1199, (0, (0, 0)))), (0, (1102, (0, (0, 0)))), (0, (1122, (0, (0, 0)))), (0, (1123, (0, (0, 0)))), (0, (1124, (0, (0, 0)))), (0, (1140, (0, (0, 0)))), (0, (1141, (0, (0, 0)))), (0, (1142, (0, (0, 0)))), (0, (1143, (0, (0, 0)))), (0, (1144, (0, (0, 0)))), (0, (1189, (0, (0, 0)))), (0, (1208, (0, (0, 0)))), (5, (110, (6, (0, 0)))), (4, (0, (0, (1, 0))))], ([1183], ([([(2, (-1)), (6, 1)], 0), ([(2, 1), (6, (-1))], 0), ([(9, 1)], 11), ([(9, (-1))], (-11)), ([(3, (-1)), (11, 1)], 0), ([(3, 1), (11, (-1))], 0), ([(4, (-1))], (-36)), ([(10, (-1)), (12, 1)], 0)], (false, ([], ([], ([(1183, some (13, 0))], none)))))))
theorem rk_qqd : RuOk SR ru_qqd := by
  intro τ m g hi hc ha hS
  obtain ⟨i0, i1, i2, i3, i4, i5, i6, i7, i8, i9, i10, i11, i12, i13, _⟩ := hi
  have t1199 : τ 1199 = some (g 0) := i0
  have t1102 : τ 1102 = some (g 1) := i1
  have t1122 : τ 1122 = some (g 2) := i2
  have t1123 : τ 1123 = some (g 3) := i3
  have t1124 : τ 1124 = some (g 4) := i4
  have t1140 : τ 1140 = some (g 5) := i5
  have t1141 : τ 1141 = some (g 6) := i6
  have t1142 : τ 1142 = some (g 7) := i7
  have t1143 : τ 1143 = some (g 8) := i8
  have t1144 : τ 1144 = some (g 9) := i9
  have t1189 : τ 1189 = some (g 10) := i10
  have t1208 : τ 1208 = some (g 11) := i11
  have xhp : g 12 = m 110 6 := i12
  have xone : g 13 = 1 := i13
  obtain ⟨c0, c1, c2, c3, c4, c5, c6, c7, _⟩ := hc
  have c0 : (-1) * g 2 + 1 * g 6 ≤ 0 := d2 c0
  have c1 : 1 * g 2 + (-1) * g 6 ≤ 0 := d2 c1
  have c2 : 1 * g 9 ≤ 11 := d1 c2
  have c3 : (-1) * g 9 ≤ (-11) := d1 c3
  have c4 : (-1) * g 3 + 1 * g 11 ≤ 0 := d2 c4
  have c5 : 1 * g 3 + (-1) * g 11 ≤ 0 := d2 c5
  have c6 : (-1) * g 4 ≤ (-36) := d1 c6
  have c7 : (-1) * g 10 + 1 * g 12 ≤ 0 := d2 c7
  obtain ⟨a0, _⟩ := ha
  have n1183 : τ 1183 = none := a0
  obtain ⟨h0, k_tok, k_sc1, k_sc2, k_T, k_I, k_F, k_N, k_Y, k_Z, k_A, k_B, k_C, k_X, k_R, k_f4⟩ := hS (by rw [t1199]; exact fun e => by cases e)
  have k_tok0 := k_tok
  obtain ⟨h_L, h_n, h_nF⟩ := k_tok0
  have k_I0 := k_I
  obtain ⟨h_p, h_pc, h_ip, h_iP, h_PC, h_PN⟩ := k_I0
  have k_N0 := k_N
  obtain ⟨h_N, h_Nk, h_V, h_Yq⟩ := k_N0
  have k_B0 := k_B
  obtain ⟨h_B0, h_B, h_Bd0, h_B26, h_B22, h_Bs⟩ := k_B0
  obtain ⟨hn0, _, hNT⟩ := h_nF _ t1102
  have hB := h_B _ _ _ _ _ _ t1102 t1140 t1141 t1142 t1143 t1144
  have rB := hB.1
  obtain ⟨⟨hi0, hi1⟩, hpi⟩ := h_ip _ _ _ t1102 t1122 t1123
  have eb : (g 2).toNat = (g 6).toNat := by omega
  rw [eb] at hpi
  have ep : (g 3).toNat = Tp9 (tx9 m) (g 6).toNat := by omega
  have hcc := h_pc _ _ t1123 t1124
  rw [ep] at hcc
  have hv := h_V _ _ t1208 t1189
  have hvp : (g 11).toNat = Tp9 (tx9 m) (g 6).toNat := by omega
  rw [hvp] at hv
  exact ⟨rfl, trivial, trivial, fun _ => ⟨h0, k_tok, k_sc1, k_sc2, k_T, k_I, k_F, ⟨h_N, h_Nk, h_V, fun Vp Yq e0 e1 => by
      have e0 : g 11 = Vp := Option.some.inj (t1208.symm.trans e0)
      subst e0
      have e1 : g 13 + 0 = Yq := Option.some.inj e1
      subst e1
      rw [hvp]
      exact ⟨in9_no (by omega), fun z => by have z2 : nb9 (tx9 m) _ 112 < m 110 6 := z.2; omega⟩⟩, k_Y, k_Z, k_A, k_B, k_C, k_X, k_R, k_f4⟩⟩
noncomputable def ru_q1x : Ru := ([(0, (1199, (0, (0, 0)))), (0, (1102, (0, (0, 0)))), (0, (1122, (0, (0, 0)))), (0, (1123, (0, (0, 0)))), (0, (1124, (0, (0, 0)))), (0, (1140, (0, (0, 0)))), (0, (1141, (0, (0, 0)))), (0, (1142, (0, (0, 0)))), (0, (1143, (0, (0, 0)))), (0, (1144, (0, (0, 0)))), (0, (1184, (0, (0, 0)))), (0, (1185, (0, (0, 0)))), (0, (1186, (0, (0, 0)))), (0, (1183, (0, (0, 0)))), (0, (1208, (0, (0, 0))))], ([], ([([(9, 1)], 11), ([(9, (-1))], (-11)), ([(2, (-1)), (6, 1)], 0), ([(2, 1), (6, (-1))], 0), ([(3, (-1)), (10, 1)], 0), ([(3, 1), (10, (-1))], 0), ([(11, 1)], 103), ([(11, (-1))], (-103)), ([(12, 1)], (-1)), ([(13, 1)], 1), ([(13, (-1))], (-1)), ([(3, (-1)), (14, 1)], 0), ([(3, 1), (14, (-1))], 0)], (false, ([([(3, (-1)), (8, 1)], 0), ([(3, 1), (8, (-1))], 0), ([(7, 1)], (-1)), ([(7, (-1))], 1)], ([], ([], none)))))))
theorem rk_q1x : RuOk SR ru_q1x := by
  intro τ m g hi hc ha hS
  obtain ⟨i0, i1, i2, i3, i4, i5, i6, i7, i8, i9, i10, i11, i12, i13, i14, _⟩ := hi
  have t1199 : τ 1199 = some (g 0) := i0
  have t1102 : τ 1102 = some (g 1) := i1
  have t1122 : τ 1122 = some (g 2) := i2
  have t1123 : τ 1123 = some (g 3) := i3
  have t1124 : τ 1124 = some (g 4) := i4
  have t1140 : τ 1140 = some (g 5) := i5
  have t1141 : τ 1141 = some (g 6) := i6
  have t1142 : τ 1142 = some (g 7) := i7
  have t1143 : τ 1143 = some (g 8) := i8
  have t1144 : τ 1144 = some (g 9) := i9
  have t1184 : τ 1184 = some (g 10) := i10
  have t1185 : τ 1185 = some (g 11) := i11
  have t1186 : τ 1186 = some (g 12) := i12
  have t1183 : τ 1183 = some (g 13) := i13
  have t1208 : τ 1208 = some (g 14) := i14
  obtain ⟨c0, c1, c2, c3, c4, c5, c6, c7, c8, c9, c10, c11, c12, _⟩ := hc
  have c0 : 1 * g 9 ≤ 11 := d1 c0
  have c1 : (-1) * g 9 ≤ (-11) := d1 c1
  have c2 : (-1) * g 2 + 1 * g 6 ≤ 0 := d2 c2
  have c3 : 1 * g 2 + (-1) * g 6 ≤ 0 := d2 c3
  have c4 : (-1) * g 3 + 1 * g 10 ≤ 0 := d2 c4
  have c5 : 1 * g 3 + (-1) * g 10 ≤ 0 := d2 c5
  have c6 : 1 * g 11 ≤ 103 := d1 c6
  have c7 : (-1) * g 11 ≤ (-103) := d1 c7
  have c8 : 1 * g 12 ≤ (-1) := d1 c8
  have c9 : 1 * g 13 ≤ 1 := d1 c9
  have c10 : (-1) * g 13 ≤ (-1) := d1 c10
  have c11 : (-1) * g 3 + 1 * g 14 ≤ 0 := d2 c11
  have c12 : 1 * g 3 + (-1) * g 14 ≤ 0 := d2 c12
  obtain ⟨h0, k_tok, k_sc1, k_sc2, k_T, k_I, k_F, k_N, k_Y, k_Z, k_A, k_B, k_C, k_X, k_R, k_f4⟩ := hS (by rw [t1199]; exact fun e => by cases e)
  have k_tok0 := k_tok
  obtain ⟨h_L, h_n, h_nF⟩ := k_tok0
  have k_I0 := k_I
  obtain ⟨h_p, h_pc, h_ip, h_iP, h_PC, h_PN⟩ := k_I0
  have k_N0 := k_N
  obtain ⟨h_N, h_Nk, h_V, h_Yq⟩ := k_N0
  have k_B0 := k_B
  obtain ⟨h_B0, h_B, h_Bd0, h_B26, h_B22, h_Bs⟩ := k_B0
  obtain ⟨hn0, _, hNT⟩ := h_nF _ t1102
  have hB := h_B _ _ _ _ _ _ t1102 t1140 t1141 t1142 t1143 t1144
  have rB := hB.1
  obtain ⟨⟨hi0, hi1⟩, hpi⟩ := h_ip _ _ _ t1102 t1122 t1123
  have eb : (g 2).toNat = (g 6).toNat := by omega
  rw [eb] at hpi
  have ep : (g 3).toNat = Tp9 (tx9 m) (g 6).toNat := by omega
  have hcc := h_pc _ _ t1123 t1124
  rw [ep] at hcc
  have hv2 := (h_N _ _ _ t1184 t1185 t1186).2
  rw [show (g 10).toNat = Tp9 (tx9 m) (g 6).toNat by omega, show g 11 = 103 by omega] at hv2
  have hq := h_Yq _ _ t1208 t1183
  rw [show (g 14).toNat = Tp9 (tx9 m) (g 6).toNat by omega] at hq
  obtain ⟨y1, y2⟩ := RI_b hB 11 (by omega) (q_1x hq (fun z => by have z2 : nb9 (tx9 m) _ 103 < m 110 7 := z.2; omega))
  exact ⟨rfl, ⟨f2 (by omega), f2 (by omega), f1 (by omega), f1 (by omega), trivial⟩, trivial, fun _ => ⟨h0, k_tok, k_sc1, k_sc2, k_T, k_I, k_F, k_N, k_Y, k_Z, k_A, k_B, k_C, k_X, k_R, k_f4⟩⟩
noncomputable def ru_q1y : Ru := ([(0, (1199, (0, (0, 0)))), (0, (1102, (0, (0, 0)))), (0, (1122, (0, (0, 0)))), (0, (1123, (0, (0, 0)))), (0, (1124, (0, (0, 0)))), (0, (1140, (0, (0, 0)))), (0, (1141, (0, (0, 0)))), (0, (1142, (0, (0, 0)))), (0, (1143, (0, (0, 0)))), (0, (1144, (0, (0, 0)))), (0, (1184, (0, (0, 0)))), (0, (1185, (0, (0, 0)))), (0, (1186, (0, (0, 0)))), (5, (110, (7, (0, 0)))), (0, (1183, (0, (0, 0)))), (0, (1208, (0, (0, 0))))], ([], ([([(9, 1)], 11), ([(9, (-1))], (-11)), ([(2, (-1)), (6, 1)], 0), ([(2, 1), (6, (-1))], 0), ([(3, (-1)), (10, 1)], 0), ([(3, 1), (10, (-1))], 0), ([(11, 1)], 103), ([(11, (-1))], (-103)), ([(12, (-1)), (13, 1)], 0), ([(14, 1)], 1), ([(14, (-1))], (-1)), ([(3, (-1)), (15, 1)], 0), ([(3, 1), (15, (-1))], 0)], (false, ([([(3, (-1)), (8, 1)], 0), ([(3, 1), (8, (-1))], 0), ([(7, 1)], (-1)), ([(7, (-1))], 1)], ([], ([], none)))))))
theorem rk_q1y : RuOk SR ru_q1y := by
  intro τ m g hi hc ha hS
  obtain ⟨i0, i1, i2, i3, i4, i5, i6, i7, i8, i9, i10, i11, i12, i13, i14, i15, _⟩ := hi
  have t1199 : τ 1199 = some (g 0) := i0
  have t1102 : τ 1102 = some (g 1) := i1
  have t1122 : τ 1122 = some (g 2) := i2
  have t1123 : τ 1123 = some (g 3) := i3
  have t1124 : τ 1124 = some (g 4) := i4
  have t1140 : τ 1140 = some (g 5) := i5
  have t1141 : τ 1141 = some (g 6) := i6
  have t1142 : τ 1142 = some (g 7) := i7
  have t1143 : τ 1143 = some (g 8) := i8
  have t1144 : τ 1144 = some (g 9) := i9
  have t1184 : τ 1184 = some (g 10) := i10
  have t1185 : τ 1185 = some (g 11) := i11
  have t1186 : τ 1186 = some (g 12) := i12
  have xhg : g 13 = m 110 7 := i13
  have t1183 : τ 1183 = some (g 14) := i14
  have t1208 : τ 1208 = some (g 15) := i15
  obtain ⟨c0, c1, c2, c3, c4, c5, c6, c7, c8, c9, c10, c11, c12, _⟩ := hc
  have c0 : 1 * g 9 ≤ 11 := d1 c0
  have c1 : (-1) * g 9 ≤ (-11) := d1 c1
  have c2 : (-1) * g 2 + 1 * g 6 ≤ 0 := d2 c2
  have c3 : 1 * g 2 + (-1) * g 6 ≤ 0 := d2 c3
  have c4 : (-1) * g 3 + 1 * g 10 ≤ 0 := d2 c4
  have c5 : 1 * g 3 + (-1) * g 10 ≤ 0 := d2 c5
  have c6 : 1 * g 11 ≤ 103 := d1 c6
  have c7 : (-1) * g 11 ≤ (-103) := d1 c7
  have c8 : (-1) * g 12 + 1 * g 13 ≤ 0 := d2 c8
  have c9 : 1 * g 14 ≤ 1 := d1 c9
  have c10 : (-1) * g 14 ≤ (-1) := d1 c10
  have c11 : (-1) * g 3 + 1 * g 15 ≤ 0 := d2 c11
  have c12 : 1 * g 3 + (-1) * g 15 ≤ 0 := d2 c12
  obtain ⟨h0, k_tok, k_sc1, k_sc2, k_T, k_I, k_F, k_N, k_Y, k_Z, k_A, k_B, k_C, k_X, k_R, k_f4⟩ := hS (by rw [t1199]; exact fun e => by cases e)
  have k_tok0 := k_tok
  obtain ⟨h_L, h_n, h_nF⟩ := k_tok0
  have k_I0 := k_I
  obtain ⟨h_p, h_pc, h_ip, h_iP, h_PC, h_PN⟩ := k_I0
  have k_N0 := k_N
  obtain ⟨h_N, h_Nk, h_V, h_Yq⟩ := k_N0
  have k_B0 := k_B
  obtain ⟨h_B0, h_B, h_Bd0, h_B26, h_B22, h_Bs⟩ := k_B0
  obtain ⟨hn0, _, hNT⟩ := h_nF _ t1102
  have hB := h_B _ _ _ _ _ _ t1102 t1140 t1141 t1142 t1143 t1144
  have rB := hB.1
  obtain ⟨⟨hi0, hi1⟩, hpi⟩ := h_ip _ _ _ t1102 t1122 t1123
  have eb : (g 2).toNat = (g 6).toNat := by omega
  rw [eb] at hpi
  have ep : (g 3).toNat = Tp9 (tx9 m) (g 6).toNat := by omega
  have hcc := h_pc _ _ t1123 t1124
  rw [ep] at hcc
  have hv2 := (h_N _ _ _ t1184 t1185 t1186).2
  rw [show (g 10).toNat = Tp9 (tx9 m) (g 6).toNat by omega, show g 11 = 103 by omega] at hv2
  have hq := h_Yq _ _ t1208 t1183
  rw [show (g 15).toNat = Tp9 (tx9 m) (g 6).toNat by omega] at hq
  obtain ⟨y1, y2⟩ := RI_b hB 11 (by omega) (q_1x hq (fun z => by have z2 : nb9 (tx9 m) _ 103 < m 110 7 := z.2; omega))
  exact ⟨rfl, ⟨f2 (by omega), f2 (by omega), f1 (by omega), f1 (by omega), trivial⟩, trivial, fun _ => ⟨h0, k_tok, k_sc1, k_sc2, k_T, k_I, k_F, k_N, k_Y, k_Z, k_A, k_B, k_C, k_X, k_R, k_f4⟩⟩
noncomputable def ru_q20 : Ru := ([(0, (1199, (0, (0, 0)))), (0, (1102, (0, (0, 0)))), (0, (1122, (0, (0, 0)))), (0, (1123, (0, (0, 0)))), (0, (1124, (0, (0, 0)))), (0, (1140, (0, (0, 0)))), (0, (1141, (0, (0, 0)))), (0, (1142, (0, (0, 0)))), (0, (1143, (0, (0, 0)))), (0, (1144, (0, (0, 0)))), (4, (0, (0, (13, 0))))], ([], ([([(9, 1)], 12), ([(9, (-1))], (-12)), ([(2, (-1)), (6, 1)], 0), ([(2, 1), (6, (-1))], 0), ([(4, (-1))], (-36)), ([(4, 1)], 36)], (false, ([], ([], ([(1144, some (10, 0)), (1141, some (6, 1))], none)))))))
theorem rk_q20 : RuOk SR ru_q20 := by
  intro τ m g hi hc ha hS
  obtain ⟨i0, i1, i2, i3, i4, i5, i6, i7, i8, i9, i10, _⟩ := hi
  have t1199 : τ 1199 = some (g 0) := i0
  have t1102 : τ 1102 = some (g 1) := i1
  have t1122 : τ 1122 = some (g 2) := i2
  have t1123 : τ 1123 = some (g 3) := i3
  have t1124 : τ 1124 = some (g 4) := i4
  have t1140 : τ 1140 = some (g 5) := i5
  have t1141 : τ 1141 = some (g 6) := i6
  have t1142 : τ 1142 = some (g 7) := i7
  have t1143 : τ 1143 = some (g 8) := i8
  have t1144 : τ 1144 = some (g 9) := i9
  have xm1 : g 10 = 13 := i10
  obtain ⟨c0, c1, c2, c3, c4, c5, _⟩ := hc
  have c0 : 1 * g 9 ≤ 12 := d1 c0
  have c1 : (-1) * g 9 ≤ (-12) := d1 c1
  have c2 : (-1) * g 2 + 1 * g 6 ≤ 0 := d2 c2
  have c3 : 1 * g 2 + (-1) * g 6 ≤ 0 := d2 c3
  have c4 : (-1) * g 4 ≤ (-36) := d1 c4
  have c5 : 1 * g 4 ≤ 36 := d1 c5
  obtain ⟨h0, k_tok, k_sc1, k_sc2, k_T, k_I, k_F, k_N, k_Y, k_Z, k_A, k_B, k_C, k_X, k_R, k_f4⟩ := hS (by rw [t1199]; exact fun e => by cases e)
  have k_tok0 := k_tok
  obtain ⟨h_L, h_n, h_nF⟩ := k_tok0
  have k_I0 := k_I
  obtain ⟨h_p, h_pc, h_ip, h_iP, h_PC, h_PN⟩ := k_I0
  have k_B0 := k_B
  obtain ⟨h_B0, h_B, h_Bd0, h_B26, h_B22, h_Bs⟩ := k_B0
  obtain ⟨hn0, _, hNT⟩ := h_nF _ t1102
  have hB := h_B _ _ _ _ _ _ t1102 t1140 t1141 t1142 t1143 t1144
  have rB := hB.1
  obtain ⟨⟨hi0, hi1⟩, hpi⟩ := h_ip _ _ _ t1102 t1122 t1123
  have eb : (g 2).toNat = (g 6).toNat := by omega
  rw [eb] at hpi
  have ep : (g 3).toNat = Tp9 (tx9 m) (g 6).toNat := by omega
  have hcc := h_pc _ _ t1123 t1124
  rw [ep] at hcc
  have hx1 := NT_next hNT (i := (g 6).toNat) (by omega) (by omega)
  exact ⟨rfl, trivial, trivial, fun _ => ⟨h0, k_tok, k_sc1, k_sc2, k_T, k_I, k_F, k_N, k_Y, k_Z, k_A, ⟨fun nF Bd Bi Br Bm e0 e1 e2 e3 e4 => by
      have e0 : g 1 = nF := Option.some.inj (t1102.symm.trans e0)
      subst e0
      have e1 : g 5 = Bd := Option.some.inj (t1140.symm.trans e1)
      subst e1
      have e2 : g 6 + 1 = Bi := Option.some.inj e2
      subst e2
      have e3 : g 7 = Br := Option.some.inj (t1142.symm.trans e3)
      subst e3
      have e4 : g 10 + 0 = Bm := Option.some.inj e4
      subst e4
      exact ⟨_, RI_u hB 12 13 (by omega) (by omega) rfl (by omega) ⟨by omega, by omega⟩ (fun r h => by
              rw [St_n (by omega)] at h
              exact q_2 (act_r (a := 36) (b := 36) (v := true) (by decide) (by omega) (by omega) rc_le) h)⟩, fun nF Bd Bi Br Bx Bm e0 e1 e2 e3 e4 e5 => by
      have e0 : g 1 = nF := Option.some.inj (t1102.symm.trans e0)
      subst e0
      have e1 : g 5 = Bd := Option.some.inj (t1140.symm.trans e1)
      subst e1
      have e2 : g 6 + 1 = Bi := Option.some.inj e2
      subst e2
      have e3 : g 7 = Br := Option.some.inj (t1142.symm.trans e3)
      subst e3
      have e4 : g 8 = Bx := Option.some.inj (t1143.symm.trans e4)
      subst e4
      have e5 : g 10 + 0 = Bm := Option.some.inj e5
      subst e5
      exact RI_u hB 12 13 (by omega) (by omega) rfl (by omega) ⟨by omega, by omega⟩ (fun r h => by
              rw [St_n (by omega)] at h
              exact q_2 (act_r (a := 36) (b := 36) (v := true) (by decide) (by omega) (by omega) rc_le) h), h_Bd0, fun Bd Bi Bm e0 e1 e2 => by
      have e0 : g 5 = Bd := Option.some.inj (t1140.symm.trans e0)
      subst e0
      have e1 : g 6 + 1 = Bi := Option.some.inj e1
      subst e1
      have e2 : g 10 + 0 = Bm := Option.some.inj e2
      subst e2
      intro h
      omega, fun Bd Bi Bm Bf e0 e1 e2 e3 => by
      have e0 : g 5 = Bd := Option.some.inj (t1140.symm.trans e0)
      subst e0
      have e1 : g 6 + 1 = Bi := Option.some.inj e1
      subst e1
      have e2 : g 10 + 0 = Bm := Option.some.inj e2
      subst e2
      intro h
      omega, h_Bs⟩, k_C, k_X, k_R, k_f4⟩⟩
noncomputable def ru_q21 : Ru := ([(0, (1199, (0, (0, 0)))), (0, (1102, (0, (0, 0)))), (0, (1122, (0, (0, 0)))), (0, (1123, (0, (0, 0)))), (0, (1124, (0, (0, 0)))), (0, (1140, (0, (0, 0)))), (0, (1141, (0, (0, 0)))), (0, (1142, (0, (0, 0)))), (0, (1143, (0, (0, 0)))), (0, (1144, (0, (0, 0)))), (4, (0, (0, (13, 0))))], ([], ([([(9, 1)], 12), ([(9, (-1))], (-12)), ([(2, (-1)), (6, 1)], 0), ([(2, 1), (6, (-1))], 0), ([(4, (-1))], (-43)), ([(4, 1)], 43)], (false, ([], ([], ([(1144, some (10, 0)), (1141, some (6, 1))], none)))))))
theorem rk_q21 : RuOk SR ru_q21 := by
  intro τ m g hi hc ha hS
  obtain ⟨i0, i1, i2, i3, i4, i5, i6, i7, i8, i9, i10, _⟩ := hi
  have t1199 : τ 1199 = some (g 0) := i0
  have t1102 : τ 1102 = some (g 1) := i1
  have t1122 : τ 1122 = some (g 2) := i2
  have t1123 : τ 1123 = some (g 3) := i3
  have t1124 : τ 1124 = some (g 4) := i4
  have t1140 : τ 1140 = some (g 5) := i5
  have t1141 : τ 1141 = some (g 6) := i6
  have t1142 : τ 1142 = some (g 7) := i7
  have t1143 : τ 1143 = some (g 8) := i8
  have t1144 : τ 1144 = some (g 9) := i9
  have xm1 : g 10 = 13 := i10
  obtain ⟨c0, c1, c2, c3, c4, c5, _⟩ := hc
  have c0 : 1 * g 9 ≤ 12 := d1 c0
  have c1 : (-1) * g 9 ≤ (-12) := d1 c1
  have c2 : (-1) * g 2 + 1 * g 6 ≤ 0 := d2 c2
  have c3 : 1 * g 2 + (-1) * g 6 ≤ 0 := d2 c3
  have c4 : (-1) * g 4 ≤ (-43) := d1 c4
  have c5 : 1 * g 4 ≤ 43 := d1 c5
  obtain ⟨h0, k_tok, k_sc1, k_sc2, k_T, k_I, k_F, k_N, k_Y, k_Z, k_A, k_B, k_C, k_X, k_R, k_f4⟩ := hS (by rw [t1199]; exact fun e => by cases e)
  have k_tok0 := k_tok
  obtain ⟨h_L, h_n, h_nF⟩ := k_tok0
  have k_I0 := k_I
  obtain ⟨h_p, h_pc, h_ip, h_iP, h_PC, h_PN⟩ := k_I0
  have k_B0 := k_B
  obtain ⟨h_B0, h_B, h_Bd0, h_B26, h_B22, h_Bs⟩ := k_B0
  obtain ⟨hn0, _, hNT⟩ := h_nF _ t1102
  have hB := h_B _ _ _ _ _ _ t1102 t1140 t1141 t1142 t1143 t1144
  have rB := hB.1
  obtain ⟨⟨hi0, hi1⟩, hpi⟩ := h_ip _ _ _ t1102 t1122 t1123
  have eb : (g 2).toNat = (g 6).toNat := by omega
  rw [eb] at hpi
  have ep : (g 3).toNat = Tp9 (tx9 m) (g 6).toNat := by omega
  have hcc := h_pc _ _ t1123 t1124
  rw [ep] at hcc
  have hx1 := NT_next hNT (i := (g 6).toNat) (by omega) (by omega)
  exact ⟨rfl, trivial, trivial, fun _ => ⟨h0, k_tok, k_sc1, k_sc2, k_T, k_I, k_F, k_N, k_Y, k_Z, k_A, ⟨fun nF Bd Bi Br Bm e0 e1 e2 e3 e4 => by
      have e0 : g 1 = nF := Option.some.inj (t1102.symm.trans e0)
      subst e0
      have e1 : g 5 = Bd := Option.some.inj (t1140.symm.trans e1)
      subst e1
      have e2 : g 6 + 1 = Bi := Option.some.inj e2
      subst e2
      have e3 : g 7 = Br := Option.some.inj (t1142.symm.trans e3)
      subst e3
      have e4 : g 10 + 0 = Bm := Option.some.inj e4
      subst e4
      exact ⟨_, RI_u hB 12 13 (by omega) (by omega) rfl (by omega) ⟨by omega, by omega⟩ (fun r h => by
              rw [St_n (by omega)] at h
              exact q_2 (act_r (a := 43) (b := 43) (v := true) (by decide) (by omega) (by omega) rc_le) h)⟩, fun nF Bd Bi Br Bx Bm e0 e1 e2 e3 e4 e5 => by
      have e0 : g 1 = nF := Option.some.inj (t1102.symm.trans e0)
      subst e0
      have e1 : g 5 = Bd := Option.some.inj (t1140.symm.trans e1)
      subst e1
      have e2 : g 6 + 1 = Bi := Option.some.inj e2
      subst e2
      have e3 : g 7 = Br := Option.some.inj (t1142.symm.trans e3)
      subst e3
      have e4 : g 8 = Bx := Option.some.inj (t1143.symm.trans e4)
      subst e4
      have e5 : g 10 + 0 = Bm := Option.some.inj e5
      subst e5
      exact RI_u hB 12 13 (by omega) (by omega) rfl (by omega) ⟨by omega, by omega⟩ (fun r h => by
              rw [St_n (by omega)] at h
              exact q_2 (act_r (a := 43) (b := 43) (v := true) (by decide) (by omega) (by omega) rc_le) h), h_Bd0, fun Bd Bi Bm e0 e1 e2 => by
      have e0 : g 5 = Bd := Option.some.inj (t1140.symm.trans e0)
      subst e0
      have e1 : g 6 + 1 = Bi := Option.some.inj e1
      subst e1
      have e2 : g 10 + 0 = Bm := Option.some.inj e2
      subst e2
      intro h
      omega, fun Bd Bi Bm Bf e0 e1 e2 e3 => by
      have e0 : g 5 = Bd := Option.some.inj (t1140.symm.trans e0)
      subst e0
      have e1 : g 6 + 1 = Bi := Option.some.inj e1
      subst e1
      have e2 : g 10 + 0 = Bm := Option.some.inj e2
      subst e2
      intro h
      omega, h_Bs⟩, k_C, k_X, k_R, k_f4⟩⟩
noncomputable def ru_q22 : Ru := ([(0, (1199, (0, (0, 0)))), (0, (1102, (0, (0, 0)))), (0, (1122, (0, (0, 0)))), (0, (1123, (0, (0, 0)))), (0, (1124, (0, (0, 0)))), (0, (1140, (0, (0, 0)))), (0, (1141, (0, (0, 0)))), (0, (1142, (0, (0, 0)))), (0, (1143, (0, (0, 0)))), (0, (1144, (0, (0, 0)))), (4, (0, (0, (13, 0))))], ([], ([([(9, 1)], 12), ([(9, (-1))], (-12)), ([(2, (-1)), (6, 1)], 0), ([(2, 1), (6, (-1))], 0), ([(4, (-1))], (-46)), ([(4, 1)], 46)], (false, ([], ([], ([(1144, some (10, 0)), (1141, some (6, 1))], none)))))))
theorem rk_q22 : RuOk SR ru_q22 := by
  intro τ m g hi hc ha hS
  obtain ⟨i0, i1, i2, i3, i4, i5, i6, i7, i8, i9, i10, _⟩ := hi
  have t1199 : τ 1199 = some (g 0) := i0
  have t1102 : τ 1102 = some (g 1) := i1
  have t1122 : τ 1122 = some (g 2) := i2
  have t1123 : τ 1123 = some (g 3) := i3
  have t1124 : τ 1124 = some (g 4) := i4
  have t1140 : τ 1140 = some (g 5) := i5
  have t1141 : τ 1141 = some (g 6) := i6
  have t1142 : τ 1142 = some (g 7) := i7
  have t1143 : τ 1143 = some (g 8) := i8
  have t1144 : τ 1144 = some (g 9) := i9
  have xm1 : g 10 = 13 := i10
  obtain ⟨c0, c1, c2, c3, c4, c5, _⟩ := hc
  have c0 : 1 * g 9 ≤ 12 := d1 c0
  have c1 : (-1) * g 9 ≤ (-12) := d1 c1
  have c2 : (-1) * g 2 + 1 * g 6 ≤ 0 := d2 c2
  have c3 : 1 * g 2 + (-1) * g 6 ≤ 0 := d2 c3
  have c4 : (-1) * g 4 ≤ (-46) := d1 c4
  have c5 : 1 * g 4 ≤ 46 := d1 c5
  obtain ⟨h0, k_tok, k_sc1, k_sc2, k_T, k_I, k_F, k_N, k_Y, k_Z, k_A, k_B, k_C, k_X, k_R, k_f4⟩ := hS (by rw [t1199]; exact fun e => by cases e)
  have k_tok0 := k_tok
  obtain ⟨h_L, h_n, h_nF⟩ := k_tok0
  have k_I0 := k_I
  obtain ⟨h_p, h_pc, h_ip, h_iP, h_PC, h_PN⟩ := k_I0
  have k_B0 := k_B
  obtain ⟨h_B0, h_B, h_Bd0, h_B26, h_B22, h_Bs⟩ := k_B0
  obtain ⟨hn0, _, hNT⟩ := h_nF _ t1102
  have hB := h_B _ _ _ _ _ _ t1102 t1140 t1141 t1142 t1143 t1144
  have rB := hB.1
  obtain ⟨⟨hi0, hi1⟩, hpi⟩ := h_ip _ _ _ t1102 t1122 t1123
  have eb : (g 2).toNat = (g 6).toNat := by omega
  rw [eb] at hpi
  have ep : (g 3).toNat = Tp9 (tx9 m) (g 6).toNat := by omega
  have hcc := h_pc _ _ t1123 t1124
  rw [ep] at hcc
  have hx1 := NT_next hNT (i := (g 6).toNat) (by omega) (by omega)
  exact ⟨rfl, trivial, trivial, fun _ => ⟨h0, k_tok, k_sc1, k_sc2, k_T, k_I, k_F, k_N, k_Y, k_Z, k_A, ⟨fun nF Bd Bi Br Bm e0 e1 e2 e3 e4 => by
      have e0 : g 1 = nF := Option.some.inj (t1102.symm.trans e0)
      subst e0
      have e1 : g 5 = Bd := Option.some.inj (t1140.symm.trans e1)
      subst e1
      have e2 : g 6 + 1 = Bi := Option.some.inj e2
      subst e2
      have e3 : g 7 = Br := Option.some.inj (t1142.symm.trans e3)
      subst e3
      have e4 : g 10 + 0 = Bm := Option.some.inj e4
      subst e4
      exact ⟨_, RI_u hB 12 13 (by omega) (by omega) rfl (by omega) ⟨by omega, by omega⟩ (fun r h => by
              rw [St_n (by omega)] at h
              exact q_2 (act_r (a := 46) (b := 46) (v := true) (by decide) (by omega) (by omega) rc_le) h)⟩, fun nF Bd Bi Br Bx Bm e0 e1 e2 e3 e4 e5 => by
      have e0 : g 1 = nF := Option.some.inj (t1102.symm.trans e0)
      subst e0
      have e1 : g 5 = Bd := Option.some.inj (t1140.symm.trans e1)
      subst e1
      have e2 : g 6 + 1 = Bi := Option.some.inj e2
      subst e2
      have e3 : g 7 = Br := Option.some.inj (t1142.symm.trans e3)
      subst e3
      have e4 : g 8 = Bx := Option.some.inj (t1143.symm.trans e4)
      subst e4
      have e5 : g 10 + 0 = Bm := Option.some.inj e5
      subst e5
      exact RI_u hB 12 13 (by omega) (by omega) rfl (by omega) ⟨by omega, by omega⟩ (fun r h => by
              rw [St_n (by omega)] at h
              exact q_2 (act_r (a := 46) (b := 46) (v := true) (by decide) (by omega) (by omega) rc_le) h), h_Bd0, fun Bd Bi Bm e0 e1 e2 => by
      have e0 : g 5 = Bd := Option.some.inj (t1140.symm.trans e0)
      subst e0
      have e1 : g 6 + 1 = Bi := Option.some.inj e1
      subst e1
      have e2 : g 10 + 0 = Bm := Option.some.inj e2
      subst e2
      intro h
      omega, fun Bd Bi Bm Bf e0 e1 e2 e3 => by
      have e0 : g 5 = Bd := Option.some.inj (t1140.symm.trans e0)
      subst e0
      have e1 : g 6 + 1 = Bi := Option.some.inj e1
      subst e1
      have e2 : g 10 + 0 = Bm := Option.some.inj e2
      subst e2
      intro h
      omega, h_Bs⟩, k_C, k_X, k_R, k_f4⟩⟩
end
