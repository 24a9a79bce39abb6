noncomputable section
/-! ===== THE READER, 75: rules ===== -/
noncomputable def ru_z30 : Ru := ([(0, (1199, (0, (0, 0)))), (0, (1194, (0, (0, 0)))), (0, (1195, (0, (0, 0)))), (0, (1196, (0, (0, 0)))), (0, (1197, (0, (0, 0)))), (0, (1198, (0, (0, 0))))], ([], ([([(1, 1)], 0), ([(1, (-1))], 0), ([(2, (-1))], (-30))], (false, ([([(3, (-1)), (5, 1)], 0), ([(3, 1), (5, (-1))], 0), ([(4, 1)], (-1)), ([(4, (-1))], 1)], ([], ([], none)))))))
theorem rk_z30 : RuOk SR ru_z30 := by
  intro τ m g hi hc ha hS
  obtain ⟨i0, i1, i2, i3, i4, i5, _⟩ := hi
  have t1199 : τ 1199 = some (g 0) := i0
  have t1194 : τ 1194 = some (g 1) := i1
  have t1195 : τ 1195 = some (g 2) := i2
  have t1196 : τ 1196 = some (g 3) := i3
  have t1197 : τ 1197 = some (g 4) := i4
  have t1198 : τ 1198 = some (g 5) := i5
  obtain ⟨c0, c1, c2, _⟩ := hc
  have c0 : 1 * g 1 ≤ 0 := d1 c0
  have c1 : (-1) * g 1 ≤ 0 := d1 c1
  have c2 : (-1) * g 2 ≤ (-30) := d1 c2
  obtain ⟨h0, k_tok, k_sc1, k_sc2, k_T, k_I, k_F, k_N, k_Y, k_Z, k_A, k_B, k_C, k_X, k_R, k_f4⟩ := hS (by rw [t1199]; exact fun e => by cases e)
  have k_Z0 := k_Z
  obtain ⟨h_Z0, h_Z1, h_Z⟩ := k_Z0
  have hXL : ((tx9 m).2 : Int) = m 110 1 := by
    show (((m 110 1).toNat : Nat) : Int) = _
    omega
  obtain ⟨⟨⟨hk0, hk1⟩, hz0, hz1⟩, rz, hze, hzr⟩ := h_Z _ _ _ _ _ t1194 t1195 t1196 t1197 t1198
  have hzp : PoR (tx9 m) (wl9 m) (30 - (g 2).toNat) (g 2).toNat (g 3).toNat rz := by
    rcases hzr with h | h
    · exact h.2
    · have := h.1; omega
  rw [show 30 - (g 2).toNat = 0 by omega] at hzp
  obtain ⟨y1, y2⟩ := YE_bad hze hzp
  exact ⟨rfl, ⟨f2 (by omega), f2 (by omega), f1 (by omega), f1 (by omega), trivial⟩, trivial, fun _ => ⟨h0, k_tok, k_sc1, k_sc2, k_T, k_I, k_F, k_N, k_Y, k_Z, k_A, k_B, k_C, k_X, k_R, k_f4⟩⟩
noncomputable def ru_zy1 : Ru := ([(0, (1199, (0, (0, 0)))), (0, (1194, (0, (0, 0)))), (0, (1195, (0, (0, 0)))), (0, (1196, (0, (0, 0)))), (0, (1197, (0, (0, 0)))), (0, (1198, (0, (0, 0)))), (4, (0, (0, (10, 0))))], ([1190, 1191, 1192, 1193], ([([(1, 1)], 0), ([(1, (-1))], 0), ([(2, 1)], 29)], (false, ([], ([], ([(1190, some (6, 0)), (1191, some (3, 0))], some (1192, ((-1), 1200)))))))))
theorem rk_zy1 : RuOk SR ru_zy1 := by
  intro τ m g hi hc ha hS
  obtain ⟨i0, i1, i2, i3, i4, i5, i6, _⟩ := hi
  have t1199 : τ 1199 = some (g 0) := i0
  have t1194 : τ 1194 = some (g 1) := i1
  have t1195 : τ 1195 = some (g 2) := i2
  have t1196 : τ 1196 = some (g 3) := i3
  have t1197 : τ 1197 = some (g 4) := i4
  have t1198 : τ 1198 = some (g 5) := i5
  have xm : g 6 = 10 := i6
  obtain ⟨c0, c1, c2, _⟩ := hc
  have c0 : 1 * g 1 ≤ 0 := d1 c0
  have c1 : (-1) * g 1 ≤ 0 := d1 c1
  have c2 : 1 * g 2 ≤ 29 := d1 c2
  obtain ⟨a0, a1, a2, a3, _⟩ := ha
  have n1190 : τ 1190 = none := a0
  have n1191 : τ 1191 = none := a1
  have n1192 : τ 1192 = none := a2
  have n1193 : τ 1193 = none := a3
  obtain ⟨h0, k_tok, k_sc1, k_sc2, k_T, k_I, k_F, k_N, k_Y, k_Z, k_A, k_B, k_C, k_X, k_R, k_f4⟩ := hS (by rw [t1199]; exact fun e => by cases e)
  have k_Z0 := k_Z
  obtain ⟨h_Z0, h_Z1, h_Z⟩ := k_Z0
  have k_Y0 := k_Y
  obtain ⟨h_Y0, h_Y⟩ := k_Y0
  have hXL : ((tx9 m).2 : Int) = m 110 1 := by
    show (((m 110 1).toNat : Nat) : Int) = _
    omega
  obtain ⟨⟨⟨hk0, hk1⟩, hz0, hz1⟩, rz, hze, hzr⟩ := h_Z _ _ _ _ _ t1194 t1195 t1196 t1197 t1198
  obtain ⟨ry, hry⟩ := RS9_ex (X := tx9 m) (w := wl9 m) (C := CM9 (tx9 m)) CM_ex (m := 10) (p := (g 3).toNat) (by omega) (show (g 3).toNat ≤ (m 110 1).toNat by omega)
  have hcl := RM_cl (show (g 3).toNat ≤ (tx9 m).2 by omega) hry
  obtain ⟨x0, xb, hxe⟩ := YE_ex ry
  obtain ⟨x1, x2⟩ : -1 ≤ x0 ∧ x0 ≤ (1200 : Nat) := YE_b hxe (by omega)
  exact ⟨rfl, trivial, trivial, x0, x1, x2, fun _ => ⟨h0, k_tok, k_sc1, k_sc2, k_T, k_I, k_F, k_N, ⟨fun Ym Yp Y1 e0 e1 e2 => by
      have e0 : g 6 + 0 = Ym := Option.some.inj e0
      subst e0
      have e1 : g 3 + 0 = Yp := Option.some.inj e1
      subst e1
      have e2 : x0 = Y1 := Option.some.inj e2
      subst e2
      refine ⟨⟨⟨by omega, by omega⟩, ⟨by omega, by omega⟩⟩, ry, xb, ?_, hxe⟩
      rw [show (g 6 + 0).toNat = 10 by omega, Int.add_zero]
      exact hry, fun _ _ _ _ e0 e1 e2 e3 => no9 n1193 e3⟩, k_Z, k_A, k_B, k_C, k_X, k_R, k_f4⟩⟩
noncomputable def ru_zy2 : Ru := ([(0, (1199, (0, (0, 0)))), (0, (1190, (0, (0, 0)))), (0, (1191, (0, (0, 0)))), (0, (1192, (0, (0, 0))))], ([1193], ([], (false, ([], ([], ([], some (1193, ((-1), 1200)))))))))
theorem rk_zy2 : RuOk SR ru_zy2 := by
  intro τ m g hi hc ha hS
  obtain ⟨i0, i1, i2, i3, _⟩ := hi
  have t1199 : τ 1199 = some (g 0) := i0
  have t1190 : τ 1190 = some (g 1) := i1
  have t1191 : τ 1191 = some (g 2) := i2
  have t1192 : τ 1192 = some (g 3) := i3
  obtain ⟨a0, _⟩ := ha
  have n1193 : τ 1193 = none := a0
  obtain ⟨h0, k_tok, k_sc1, k_sc2, k_T, k_I, k_F, k_N, k_Y, k_Z, k_A, k_B, k_C, k_X, k_R, k_f4⟩ := hS (by rw [t1199]; exact fun e => by cases e)
  have k_Y0 := k_Y
  obtain ⟨h_Y0, h_Y⟩ := k_Y0
  have hXL : ((tx9 m).2 : Int) = m 110 1 := by
    show (((m 110 1).toNat : Nat) : Int) = _
    omega
  obtain ⟨⟨hm9, hp9⟩, ry, x0, hry, hxe⟩ := h_Y0 _ _ _ t1190 t1191 t1192
  have hcl := RM_cl (show (g 2).toNat ≤ (tx9 m).2 by omega) hry
  obtain ⟨x1, x2⟩ : -1 ≤ x0 ∧ x0 ≤ (1200 : Nat) := YE_b2 hxe (by omega)
  exact ⟨rfl, trivial, trivial, x0, x1, x2, fun _ => ⟨h0, k_tok, k_sc1, k_sc2, k_T, k_I, k_F, k_N, ⟨h_Y0, fun Ym Yp Y1 Y2 e0 e1 e2 e3 => by
      have e0 : g 1 = Ym := Option.some.inj (t1190.symm.trans e0)
      subst e0
      have e1 : g 2 = Yp := Option.some.inj (t1191.symm.trans e1)
      subst e1
      have e2 : g 3 = Y1 := Option.some.inj (t1192.symm.trans e2)
      subst e2
      have e3 : x0 = Y2 := Option.some.inj e3
      subst e3
      exact ⟨ry, hry, hxe⟩⟩, k_Z, k_A, k_B, k_C, k_X, k_R, k_f4⟩⟩
noncomputable def ru_zyo : Ru := ([(0, (1199, (0, (0, 0)))), (0, (1194, (0, (0, 0)))), (0, (1195, (0, (0, 0)))), (0, (1196, (0, (0, 0)))), (0, (1197, (0, (0, 0)))), (0, (1198, (0, (0, 0)))), (0, (1190, (0, (0, 0)))), (0, (1191, (0, (0, 0)))), (0, (1192, (0, (0, 0)))), (0, (1193, (0, (0, 0)))), (4, (0, (0, (1, 0))))], ([], ([([(1, 1)], 0), ([(1, (-1))], 0), ([(2, 1)], 29), ([(6, 1)], 10), ([(6, (-1))], (-10)), ([(3, (-1)), (7, 1)], 0), ([(3, 1), (7, (-1))], 0), ([(8, (-1))], 0)], (false, ([], ([], ([(1194, some (10, 0)), (1195, some (2, 1)), (1196, some (8, 0))], none)))))))
theorem rk_zyo : RuOk SR ru_zyo := by
  intro τ m g hi hc ha hS
  obtain ⟨i0, i1, i2, i3, i4, i5, i6, i7, i8, i9, i10, _⟩ := hi
  have t1199 : τ 1199 = some (g 0) := i0
  have t1194 : τ 1194 = some (g 1) := i1
  have t1195 : τ 1195 = some (g 2) := i2
  have t1196 : τ 1196 = some (g 3) := i3
  have t1197 : τ 1197 = some (g 4) := i4
  have t1198 : τ 1198 = some (g 5) := i5
  have t1190 : τ 1190 = some (g 6) := i6
  have t1191 : τ 1191 = some (g 7) := i7
  have t1192 : τ 1192 = some (g 8) := i8
  have t1193 : τ 1193 = some (g 9) := i9
  have xone : g 10 = 1 := i10
  obtain ⟨c0, c1, c2, c3, c4, c5, c6, c7, _⟩ := hc
  have c0 : 1 * g 1 ≤ 0 := d1 c0
  have c1 : (-1) * g 1 ≤ 0 := d1 c1
  have c2 : 1 * g 2 ≤ 29 := d1 c2
  have c3 : 1 * g 6 ≤ 10 := d1 c3
  have c4 : (-1) * g 6 ≤ (-10) := d1 c4
  have c5 : (-1) * g 3 + 1 * g 7 ≤ 0 := d2 c5
  have c6 : 1 * g 3 + (-1) * g 7 ≤ 0 := d2 c6
  have c7 : (-1) * g 8 ≤ 0 := d1 c7
  obtain ⟨h0, k_tok, k_sc1, k_sc2, k_T, k_I, k_F, k_N, k_Y, k_Z, k_A, k_B, k_C, k_X, k_R, k_f4⟩ := hS (by rw [t1199]; exact fun e => by cases e)
  have k_Y0 := k_Y
  obtain ⟨h_Y0, h_Y⟩ := k_Y0
  have k_Z0 := k_Z
  obtain ⟨h_Z0, h_Z1, h_Z⟩ := k_Z0
  have hXL : ((tx9 m).2 : Int) = m 110 1 := by
    show (((m 110 1).toNat : Nat) : Int) = _
    omega
  obtain ⟨⟨⟨hk0, hk1⟩, hz0, hz1⟩, rz, hze, hzr⟩ := h_Z _ _ _ _ _ t1194 t1195 t1196 t1197 t1198
  have hzp : PoR (tx9 m) (wl9 m) (30 - (g 2).toNat) (g 2).toNat (g 3).toNat rz := by
    rcases hzr with h | h
    · exact h.2
    · have := h.1; omega
  obtain ⟨ry, hY1, hY2⟩ := h_Y _ _ _ _ t1190 t1191 t1192 t1193
  rw [show (g 6).toNat = 10 by omega, show (g 7).toNat = (g 3).toNat by omega] at hY1
  rw [show 30 - (g 2).toNat = (29 - (g 2).toNat) + 1 by omega] at hzp
  obtain ⟨y1, y2⟩ := YE_pos hY2 (by omega)
  rw [y1] at hY1
  have hb := PoR_okM (show (g 3).toNat ≤ (tx9 m).2 by omega) hzp hY1
  have hcl := RM_cl (show (g 3).toNat ≤ (tx9 m).2 by omega) (m := 10) hY1
  have hcl : (g 8).toNat ≤ (tx9 m).2 := hcl
  exact ⟨rfl, trivial, trivial, fun _ => ⟨h0, k_tok, k_sc1, k_sc2, k_T, k_I, k_F, k_N, k_Y, ⟨h_Z0, h_Z1, fun Zm Zk Zp Z1 Zx e0 e1 e2 e3 e4 => by
      have e0 : g 10 + 0 = Zm := Option.some.inj e0
      subst e0
      have e1 : g 2 + 1 = Zk := Option.some.inj e1
      subst e1
      have e2 : g 8 + 0 = Zp := Option.some.inj e2
      subst e2
      have e3 : g 4 = Z1 := Option.some.inj (t1197.symm.trans e3)
      subst e3
      have e4 : g 5 = Zx := Option.some.inj (t1198.symm.trans e4)
      subst e4
      refine ⟨⟨⟨by omega, by omega⟩, ⟨by omega, by omega⟩⟩, rz, hze, Or.inr ⟨by omega, by omega, ?_⟩⟩
      rw [show 30 - (g 2 + 1).toNat = 29 - (g 2).toNat by omega, show (g 2 + 1).toNat = (g 2).toNat + 1 by omega, Int.add_zero]
      exact hb⟩, k_A, k_B, k_C, k_X, k_R, k_f4⟩⟩
noncomputable def ru_zyxB : Ru := ([(0, (1199, (0, (0, 0)))), (0, (1194, (0, (0, 0)))), (0, (1195, (0, (0, 0)))), (0, (1196, (0, (0, 0)))), (0, (1197, (0, (0, 0)))), (0, (1198, (0, (0, 0)))), (0, (1190, (0, (0, 0)))), (0, (1191, (0, (0, 0)))), (0, (1192, (0, (0, 0)))), (0, (1193, (0, (0, 0))))], ([], ([([(1, 1)], 0), ([(1, (-1))], 0), ([(2, 1)], 29), ([(6, 1)], 10), ([(6, (-1))], (-10)), ([(3, (-1)), (7, 1)], 0), ([(3, 1), (7, (-1))], 0), ([(8, 1)], (-1)), ([(4, (-1))], 0)], (true, ([], ([], ([], none)))))))
theorem rk_zyxB : RuOk SR ru_zyxB := by
  intro τ m g hi hc ha hS
  obtain ⟨i0, i1, i2, i3, i4, i5, i6, i7, i8, i9, _⟩ := hi
  have t1199 : τ 1199 = some (g 0) := i0
  have t1194 : τ 1194 = some (g 1) := i1
  have t1195 : τ 1195 = some (g 2) := i2
  have t1196 : τ 1196 = some (g 3) := i3
  have t1197 : τ 1197 = some (g 4) := i4
  have t1198 : τ 1198 = some (g 5) := i5
  have t1190 : τ 1190 = some (g 6) := i6
  have t1191 : τ 1191 = some (g 7) := i7
  have t1192 : τ 1192 = some (g 8) := i8
  have t1193 : τ 1193 = some (g 9) := i9
  obtain ⟨c0, c1, c2, c3, c4, c5, c6, c7, c8, _⟩ := hc
  have c0 : 1 * g 1 ≤ 0 := d1 c0
  have c1 : (-1) * g 1 ≤ 0 := d1 c1
  have c2 : 1 * g 2 ≤ 29 := d1 c2
  have c3 : 1 * g 6 ≤ 10 := d1 c3
  have c4 : (-1) * g 6 ≤ (-10) := d1 c4
  have c5 : (-1) * g 3 + 1 * g 7 ≤ 0 := d2 c5
  have c6 : 1 * g 3 + (-1) * g 7 ≤ 0 := d2 c6
  have c7 : 1 * g 8 ≤ (-1) := d1 c7
  have c8 : (-1) * g 4 ≤ 0 := d1 c8
  obtain ⟨h0, k_tok, k_sc1, k_sc2, k_T, k_I, k_F, k_N, k_Y, k_Z, k_A, k_B, k_C, k_X, k_R, k_f4⟩ := hS (by rw [t1199]; exact fun e => by cases e)
  have k_Y0 := k_Y
  obtain ⟨h_Y0, h_Y⟩ := k_Y0
  have k_Z0 := k_Z
  obtain ⟨h_Z0, h_Z1, h_Z⟩ := k_Z0
  have hXL : ((tx9 m).2 : Int) = m 110 1 := by
    show (((m 110 1).toNat : Nat) : Int) = _
    omega
  obtain ⟨⟨⟨hk0, hk1⟩, hz0, hz1⟩, rz, hze, hzr⟩ := h_Z _ _ _ _ _ t1194 t1195 t1196 t1197 t1198
  have hzp : PoR (tx9 m) (wl9 m) (30 - (g 2).toNat) (g 2).toNat (g 3).toNat rz := by
    rcases hzr with h | h
    · exact h.2
    · have := h.1; omega
  obtain ⟨ry, hY1, hY2⟩ := h_Y _ _ _ _ t1190 t1191 t1192 t1193
  rw [show (g 6).toNat = 10 by omega, show (g 7).toNat = (g 3).toNat by omega] at hY1
  rw [show 30 - (g 2).toNat = (29 - (g 2).toNat) + 1 by omega] at hzp
  obtain ⟨y1, y2, y3⟩ := YE_neg hY2 (by omega)
  rw [y1] at hY1
  have hb := PoR_badM (show (g 3).toNat ≤ (tx9 m).2 by omega) hzp hY1
  obtain ⟨y4, y5⟩ := YE_bad hze hb
  exfalso
  omega
noncomputable def ru_zyx : Ru := ([(0, (1199, (0, (0, 0)))), (0, (1194, (0, (0, 0)))), (0, (1195, (0, (0, 0)))), (0, (1196, (0, (0, 0)))), (0, (1197, (0, (0, 0)))), (0, (1198, (0, (0, 0)))), (0, (1190, (0, (0, 0)))), (0, (1191, (0, (0, 0)))), (0, (1192, (0, (0, 0)))), (0, (1193, (0, (0, 0))))], ([], ([([(1, 1)], 0), ([(1, (-1))], 0), ([(2, 1)], 29), ([(6, 1)], 10), ([(6, (-1))], (-10)), ([(3, (-1)), (7, 1)], 0), ([(3, 1), (7, (-1))], 0), ([(8, 1)], (-1))], (false, ([([(5, 1), (9, (-1))], 0), ([(5, (-1)), (9, 1)], 0), ([(4, 1)], (-1)), ([(4, (-1))], 1)], ([], ([(1194, none), (1195, none), (1196, none)], none)))))))
theorem rk_zyx : RuOk SR ru_zyx := by
  intro τ m g hi hc ha hS
  obtain ⟨i0, i1, i2, i3, i4, i5, i6, i7, i8, i9, _⟩ := hi
  have t1199 : τ 1199 = some (g 0) := i0
  have t1194 : τ 1194 = some (g 1) := i1
  have t1195 : τ 1195 = some (g 2) := i2
  have t1196 : τ 1196 = some (g 3) := i3
  have t1197 : τ 1197 = some (g 4) := i4
  have t1198 : τ 1198 = some (g 5) := i5
  have t1190 : τ 1190 = some (g 6) := i6
  have t1191 : τ 1191 = some (g 7) := i7
  have t1192 : τ 1192 = some (g 8) := i8
  have t1193 : τ 1193 = some (g 9) := i9
  obtain ⟨c0, c1, c2, c3, c4, c5, c6, c7, _⟩ := hc
  have c0 : 1 * g 1 ≤ 0 := d1 c0
  have c1 : (-1) * g 1 ≤ 0 := d1 c1
  have c2 : 1 * g 2 ≤ 29 := d1 c2
  have c3 : 1 * g 6 ≤ 10 := d1 c3
  have c4 : (-1) * g 6 ≤ (-10) := d1 c4
  have c5 : (-1) * g 3 + 1 * g 7 ≤ 0 := d2 c5
  have c6 : 1 * g 3 + (-1) * g 7 ≤ 0 := d2 c6
  have c7 : 1 * g 8 ≤ (-1) := d1 c7
  obtain ⟨h0, k_tok, k_sc1, k_sc2, k_T, k_I, k_F, k_N, k_Y, k_Z, k_A, k_B, k_C, k_X, k_R, k_f4⟩ := hS (by rw [t1199]; exact fun e => by cases e)
  have k_Y0 := k_Y
  obtain ⟨h_Y0, h_Y⟩ := k_Y0
  have k_Z0 := k_Z
  obtain ⟨h_Z0, h_Z1, h_Z⟩ := k_Z0
  have hXL : ((tx9 m).2 : Int) = m 110 1 := by
    show (((m 110 1).toNat : Nat) : Int) = _
    omega
  obtain ⟨⟨⟨hk0, hk1⟩, hz0, hz1⟩, rz, hze, hzr⟩ := h_Z _ _ _ _ _ t1194 t1195 t1196 t1197 t1198
  have hzp : PoR (tx9 m) (wl9 m) (30 - (g 2).toNat) (g 2).toNat (g 3).toNat rz := by
    rcases hzr with h | h
    · exact h.2
    · have := h.1; omega
  obtain ⟨ry, hY1, hY2⟩ := h_Y _ _ _ _ t1190 t1191 t1192 t1193
  rw [show (g 6).toNat = 10 by omega, show (g 7).toNat = (g 3).toNat by omega] at hY1
  rw [show 30 - (g 2).toNat = (29 - (g 2).toNat) + 1 by omega] at hzp
  obtain ⟨y1, y2, y3⟩ := YE_neg hY2 (by omega)
  rw [y1] at hY1
  have hb := PoR_badM (show (g 3).toNat ≤ (tx9 m).2 by omega) hzp hY1
  obtain ⟨y4, y5⟩ := YE_bad hze hb
  exact ⟨rfl, ⟨f2 (by omega), f2 (by omega), f1 (by omega), f1 (by omega), trivial⟩, trivial, fun _ => ⟨h0, k_tok, k_sc1, k_sc2, k_T, k_I, k_F, k_N, k_Y, ⟨h_Z0, h_Z1, fun _ _ _ _ _ e0 e1 e2 e3 e4 => no9 (o := none) rfl e0⟩, k_A, k_B, k_C, k_X, k_R, k_f4⟩⟩
noncomputable def ru_z30B : Ru := ([(0, (1199, (0, (0, 0)))), (0, (1194, (0, (0, 0)))), (0, (1195, (0, (0, 0)))), (0, (1196, (0, (0, 0)))), (0, (1197, (0, (0, 0)))), (0, (1198, (0, (0, 0))))], ([], ([([(1, 1)], 0), ([(1, (-1))], 0), ([(2, (-1))], (-30)), ([(4, (-1))], 0)], (true, ([], ([], ([], none)))))))
theorem rk_z30B : RuOk SR ru_z30B := by
  intro τ m g hi hc ha hS
  obtain ⟨i0, i1, i2, i3, i4, i5, _⟩ := hi
  have t1199 : τ 1199 = some (g 0) := i0
  have t1194 : τ 1194 = some (g 1) := i1
  have t1195 : τ 1195 = some (g 2) := i2
  have t1196 : τ 1196 = some (g 3) := i3
  have t1197 : τ 1197 = some (g 4) := i4
  have t1198 : τ 1198 = some (g 5) := i5
  obtain ⟨c0, c1, c2, c3, _⟩ := hc
  have c0 : 1 * g 1 ≤ 0 := d1 c0
  have c1 : (-1) * g 1 ≤ 0 := d1 c1
  have c2 : (-1) * g 2 ≤ (-30) := d1 c2
  have c3 : (-1) * g 4 ≤ 0 := d1 c3
  obtain ⟨h0, k_tok, k_sc1, k_sc2, k_T, k_I, k_F, k_N, k_Y, k_Z, k_A, k_B, k_C, k_X, k_R, k_f4⟩ := hS (by rw [t1199]; exact fun e => by cases e)
  have k_Z0 := k_Z
  obtain ⟨h_Z0, h_Z1, h_Z⟩ := k_Z0
  have hXL : ((tx9 m).2 : Int) = m 110 1 := by
    show (((m 110 1).toNat : Nat) : Int) = _
    omega
  obtain ⟨⟨⟨hk0, hk1⟩, hz0, hz1⟩, rz, hze, hzr⟩ := h_Z _ _ _ _ _ t1194 t1195 t1196 t1197 t1198
  have hzp : PoR (tx9 m) (wl9 m) (30 - (g 2).toNat) (g 2).toNat (g 3).toNat rz := by
    rcases hzr with h | h
    · exact h.2
    · have := h.1; omega
  rw [show 30 - (g 2).toNat = 0 by omega] at hzp
  obtain ⟨y1, y2⟩ := YE_bad hze hzp
  exfalso
  omega
noncomputable def ru_z1eB : Ru := ([(0, (1199, (0, (0, 0)))), (0, (1194, (0, (0, 0)))), (0, (1195, (0, (0, 0)))), (0, (1196, (0, (0, 0)))), (0, (1197, (0, (0, 0)))), (0, (1198, (0, (0, 0)))), (0, (1120, (0, (0, 0)))), (0, (1123, (0, (0, 0)))), (0, (1124, (0, (0, 0))))], ([], ([([(6, (-1)), (7, 1)], 0), ([(6, 1), (7, (-1))], 0), ([(3, 1), (6, (-1))], 0), ([(3, (-1)), (6, 1)], 0), ([(1, 1)], 1), ([(1, (-1))], (-1)), ([(8, 1)], 1), ([(8, (-1))], (-1)), ([(4, 1)], (-1))], (true, ([], ([], ([], none)))))))
theorem rk_z1eB : RuOk SR ru_z1eB := by
  intro τ m g hi hc ha hS
  obtain ⟨i0, i1, i2, i3, i4, i5, i6, i7, i8, _⟩ := hi
  have t1199 : τ 1199 = some (g 0) := i0
  have t1194 : τ 1194 = some (g 1) := i1
  have t1195 : τ 1195 = some (g 2) := i2
  have t1196 : τ 1196 = some (g 3) := i3
  have t1197 : τ 1197 = some (g 4) := i4
  have t1198 : τ 1198 = some (g 5) := i5
  have t1120 : τ 1120 = some (g 6) := i6
  have t1123 : τ 1123 = some (g 7) := i7
  have t1124 : τ 1124 = some (g 8) := i8
  obtain ⟨c0, c1, c2, c3, c4, c5, c6, c7, c8, _⟩ := hc
  have c0 : (-1) * g 6 + 1 * g 7 ≤ 0 := d2 c0
  have c1 : 1 * g 6 + (-1) * g 7 ≤ 0 := d2 c1
  have c2 : 1 * g 3 + (-1) * g 6 ≤ 0 := d2 c2
  have c3 : (-1) * g 3 + 1 * g 6 ≤ 0 := d2 c3
  have c4 : 1 * g 1 ≤ 1 := d1 c4
  have c5 : (-1) * g 1 ≤ (-1) := d1 c5
  have c6 : 1 * g 8 ≤ 1 := d1 c6
  have c7 : (-1) * g 8 ≤ (-1) := d1 c7
  have c8 : 1 * g 4 ≤ (-1) := d1 c8
  obtain ⟨h0, k_tok, k_sc1, k_sc2, k_T, k_I, k_F, k_N, k_Y, k_Z, k_A, k_B, k_C, k_X, k_R, k_f4⟩ := hS (by rw [t1199]; exact fun e => by cases e)
  have k_I0 := k_I
  obtain ⟨h_p, h_pc, h_ip, h_iP, h_PC, h_PN⟩ := k_I0
  have k_Z0 := k_Z
  obtain ⟨h_Z0, h_Z1, h_Z⟩ := k_Z0
  have hXL : ((tx9 m).2 : Int) = m 110 1 := by
    show (((m 110 1).toNat : Nat) : Int) = _
    omega
  obtain ⟨⟨⟨hk0, hk1⟩, hz0, hz1⟩, rz, hze, hzr⟩ := h_Z _ _ _ _ _ t1194 t1195 t1196 t1197 t1198
  have hzp : Pb9 (tx9 m) (wl9 m) (30 - (g 2).toNat) (g 2).toNat (g 3).toNat rz := by
    rcases hzr with h | h
    · have := h.1; omega
    · exact h.2.2
  have hcc := h_pc _ _ t1123 t1124
  rw [show (g 7).toNat = (g 3).toNat by omega] at hcc
  obtain ⟨y1, y2⟩ := YE_ok hze (hzp.1 (by omega))
  exfalso
  omega
noncomputable def ru_z1aB : Ru := ([(0, (1199, (0, (0, 0)))), (0, (1194, (0, (0, 0)))), (0, (1195, (0, (0, 0)))), (0, (1196, (0, (0, 0)))), (0, (1197, (0, (0, 0)))), (0, (1198, (0, (0, 0)))), (0, (1120, (0, (0, 0)))), (0, (1123, (0, (0, 0)))), (0, (1124, (0, (0, 0))))], ([], ([([(6, (-1)), (7, 1)], 0), ([(6, 1), (7, (-1))], 0), ([(3, 1), (6, (-1))], 0), ([(3, (-1)), (6, 1)], 0), ([(1, 1)], 1), ([(1, (-1))], (-1)), ([(8, 1)], 0), ([(4, (-1))], 0)], (true, ([], ([], ([], none)))))))
theorem rk_z1aB : RuOk SR ru_z1aB := by
  intro τ m g hi hc ha hS
  obtain ⟨i0, i1, i2, i3, i4, i5, i6, i7, i8, _⟩ := hi
  have t1199 : τ 1199 = some (g 0) := i0
  have t1194 : τ 1194 = some (g 1) := i1
  have t1195 : τ 1195 = some (g 2) := i2
  have t1196 : τ 1196 = some (g 3) := i3
  have t1197 : τ 1197 = some (g 4) := i4
  have t1198 : τ 1198 = some (g 5) := i5
  have t1120 : τ 1120 = some (g 6) := i6
  have t1123 : τ 1123 = some (g 7) := i7
  have t1124 : τ 1124 = some (g 8) := i8
  obtain ⟨c0, c1, c2, c3, c4, c5, c6, c7, _⟩ := hc
  have c0 : (-1) * g 6 + 1 * g 7 ≤ 0 := d2 c0
  have c1 : 1 * g 6 + (-1) * g 7 ≤ 0 := d2 c1
  have c2 : 1 * g 3 + (-1) * g 6 ≤ 0 := d2 c2
  have c3 : (-1) * g 3 + 1 * g 6 ≤ 0 := d2 c3
  have c4 : 1 * g 1 ≤ 1 := d1 c4
  have c5 : (-1) * g 1 ≤ (-1) := d1 c5
  have c6 : 1 * g 8 ≤ 0 := d1 c6
  have c7 : (-1) * g 4 ≤ 0 := d1 c7
  obtain ⟨h0, k_tok, k_sc1, k_sc2, k_T, k_I, k_F, k_N, k_Y, k_Z, k_A, k_B, k_C, k_X, k_R, k_f4⟩ := hS (by rw [t1199]; exact fun e => by cases e)
  have k_I0 := k_I
  obtain ⟨h_p, h_pc, h_ip, h_iP, h_PC, h_PN⟩ := k_I0
  have k_Z0 := k_Z
  obtain ⟨h_Z0, h_Z1, h_Z⟩ := k_Z0
  have hXL : ((tx9 m).2 : Int) = m 110 1 := by
    show (((m 110 1).toNat : Nat) : Int) = _
    omega
  obtain ⟨⟨⟨hk0, hk1⟩, hz0, hz1⟩, rz, hze, hzr⟩ := h_Z _ _ _ _ _ t1194 t1195 t1196 t1197 t1198
  have hzp : Pb9 (tx9 m) (wl9 m) (30 - (g 2).toNat) (g 2).toNat (g 3).toNat rz := by
    rcases hzr with h | h
    · have := h.1; omega
    · exact h.2.2
  have hcc := h_pc _ _ t1123 t1124
  rw [show (g 7).toNat = (g 3).toNat by omega] at hcc
  obtain ⟨y1, y2⟩ := YE_bad hze (hzp.2.2 ⟨by omega, by omega⟩)
  exfalso
  omega
noncomputable def ru_z1bB : Ru := ([(0, (1199, (0, (0, 0)))), (0, (1194, (0, (0, 0)))), (0, (1195, (0, (0, 0)))), (0, (1196, (0, (0, 0)))), (0, (1197, (0, (0, 0)))), (0, (1198, (0, (0, 0)))), (0, (1120, (0, (0, 0)))), (0, (1123, (0, (0, 0)))), (0, (1124, (0, (0, 0))))], ([], ([([(6, (-1)), (7, 1)], 0), ([(6, 1), (7, (-1))], 0), ([(3, 1), (6, (-1))], 0), ([(3, (-1)), (6, 1)], 0), ([(1, 1)], 1), ([(1, (-1))], (-1)), ([(8, (-1))], (-2)), ([(8, 1)], 18), ([(4, (-1))], 0)], (true, ([], ([], ([], none)))))))
theorem rk_z1bB : RuOk SR ru_z1bB := by
  intro τ m g hi hc ha hS
  obtain ⟨i0, i1, i2, i3, i4, i5, i6, i7, i8, _⟩ := hi
  have t1199 : τ 1199 = some (g 0) := i0
  have t1194 : τ 1194 = some (g 1) := i1
  have t1195 : τ 1195 = some (g 2) := i2
  have t1196 : τ 1196 = some (g 3) := i3
  have t1197 : τ 1197 = some (g 4) := i4
  have t1198 : τ 1198 = some (g 5) := i5
  have t1120 : τ 1120 = some (g 6) := i6
  have t1123 : τ 1123 = some (g 7) := i7
  have t1124 : τ 1124 = some (g 8) := i8
  obtain ⟨c0, c1, c2, c3, c4, c5, c6, c7, c8, _⟩ := hc
  have c0 : (-1) * g 6 + 1 * g 7 ≤ 0 := d2 c0
  have c1 : 1 * g 6 + (-1) * g 7 ≤ 0 := d2 c1
  have c2 : 1 * g 3 + (-1) * g 6 ≤ 0 := d2 c2
  have c3 : (-1) * g 3 + 1 * g 6 ≤ 0 := d2 c3
  have c4 : 1 * g 1 ≤ 1 := d1 c4
  have c5 : (-1) * g 1 ≤ (-1) := d1 c5
  have c6 : (-1) * g 8 ≤ (-2) := d1 c6
  have c7 : 1 * g 8 ≤ 18 := d1 c7
  have c8 : (-1) * g 4 ≤ 0 := d1 c8
  obtain ⟨h0, k_tok, k_sc1, k_sc2, k_T, k_I, k_F, k_N, k_Y, k_Z, k_A, k_B, k_C, k_X, k_R, k_f4⟩ := hS (by rw [t1199]; exact fun e => by cases e)
  have k_I0 := k_I
  obtain ⟨h_p, h_pc, h_ip, h_iP, h_PC, h_PN⟩ := k_I0
  have k_Z0 := k_Z
  obtain ⟨h_Z0, h_Z1, h_Z⟩ := k_Z0
  have hXL : ((tx9 m).2 : Int) = m 110 1 := by
    show (((m 110 1).toNat : Nat) : Int) = _
    omega
  obtain ⟨⟨⟨hk0, hk1⟩, hz0, hz1⟩, rz, hze, hzr⟩ := h_Z _ _ _ _ _ t1194 t1195 t1196 t1197 t1198
  have hzp : Pb9 (tx9 m) (wl9 m) (30 - (g 2).toNat) (g 2).toNat (g 3).toNat rz := by
    rcases hzr with h | h
    · have := h.1; omega
    · exact h.2.2
  have hcc := h_pc _ _ t1123 t1124
  rw [show (g 7).toNat = (g 3).toNat by omega] at hcc
  obtain ⟨y1, y2⟩ := YE_bad hze (hzp.2.2 ⟨by omega, by omega⟩)
  exfalso
  omega
noncomputable def ru_z1cB : Ru := ([(0, (1199, (0, (0, 0)))), (0, (1194, (0, (0, 0)))), (0, (1195, (0, (0, 0)))), (0, (1196, (0, (0, 0)))), (0, (1197, (0, (0, 0)))), (0, (1198, (0, (0, 0)))), (0, (1120, (0, (0, 0)))), (0, (1123, (0, (0, 0)))), (0, (1124, (0, (0, 0))))], ([], ([([(6, (-1)), (7, 1)], 0), ([(6, 1), (7, (-1))], 0), ([(3, 1), (6, (-1))], 0), ([(3, (-1)), (6, 1)], 0), ([(1, 1)], 1), ([(1, (-1))], (-1)), ([(8, (-1))], (-20)), ([(4, (-1))], 0)], (true, ([], ([], ([], none)))))))
theorem rk_z1cB : RuOk SR ru_z1cB := by
  intro τ m g hi hc ha hS
  obtain ⟨i0, i1, i2, i3, i4, i5, i6, i7, i8, _⟩ := hi
  have t1199 : τ 1199 = some (g 0) := i0
  have t1194 : τ 1194 = some (g 1) := i1
  have t1195 : τ 1195 = some (g 2) := i2
  have t1196 : τ 1196 = some (g 3) := i3
  have t1197 : τ 1197 = some (g 4) := i4
  have t1198 : τ 1198 = some (g 5) := i5
  have t1120 : τ 1120 = some (g 6) := i6
  have t1123 : τ 1123 = some (g 7) := i7
  have t1124 : τ 1124 = some (g 8) := i8
  obtain ⟨c0, c1, c2, c3, c4, c5, c6, c7, _⟩ := hc
  have c0 : (-1) * g 6 + 1 * g 7 ≤ 0 := d2 c0
  have c1 : 1 * g 6 + (-1) * g 7 ≤ 0 := d2 c1
  have c2 : 1 * g 3 + (-1) * g 6 ≤ 0 := d2 c2
  have c3 : (-1) * g 3 + 1 * g 6 ≤ 0 := d2 c3
  have c4 : 1 * g 1 ≤ 1 := d1 c4
  have c5 : (-1) * g 1 ≤ (-1) := d1 c5
  have c6 : (-1) * g 8 ≤ (-20) := d1 c6
  have c7 : (-1) * g 4 ≤ 0 := d1 c7
  obtain ⟨h0, k_tok, k_sc1, k_sc2, k_T, k_I, k_F, k_N, k_Y, k_Z, k_A, k_B, k_C, k_X, k_R, k_f4⟩ := hS (by rw [t1199]; exact fun e => by cases e)
  have k_I0 := k_I
  obtain ⟨h_p, h_pc, h_ip, h_iP, h_PC, h_PN⟩ := k_I0
  have k_Z0 := k_Z
  obtain ⟨h_Z0, h_Z1, h_Z⟩ := k_Z0
  have hXL : ((tx9 m).2 : Int) = m 110 1 := by
    show (((m 110 1).toNat : Nat) : Int) = _
    omega
  obtain ⟨⟨⟨hk0, hk1⟩, hz0, hz1⟩, rz, hze, hzr⟩ := h_Z _ _ _ _ _ t1194 t1195 t1196 t1197 t1198
  have hzp : Pb9 (tx9 m) (wl9 m) (30 - (g 2).toNat) (g 2).toNat (g 3).toNat rz := by
    rcases hzr with h | h
    · have := h.1; omega
    · exact h.2.2
  have hcc := h_pc _ _ t1123 t1124
  rw [show (g 7).toNat = (g 3).toNat by omega] at hcc
  obtain ⟨y1, y2⟩ := YE_bad hze (hzp.2.2 ⟨by omega, by omega⟩)
  exfalso
  omega
noncomputable def ru_z1e : Ru := ([(0, (1199, (0, (0, 0)))), (0, (1194, (0, (0, 0)))), (0, (1195, (0, (0, 0)))), (0, (1196, (0, (0, 0)))), (0, (1197, (0, (0, 0)))), (0, (1198, (0, (0, 0)))), (0, (1120, (0, (0, 0)))), (0, (1123, (0, (0, 0)))), (0, (1124, (0, (0, 0))))], ([], ([([(6, (-1)), (7, 1)], 0), ([(6, 1), (7, (-1))], 0), ([(3, 1), (6, (-1))], 0), ([(3, (-1)), (6, 1)], 0), ([(1, 1)], 1), ([(1, (-1))], (-1)), ([(8, 1)], 1), ([(8, (-1))], (-1))], (false, ([([(2, (-1)), (4, 1)], 0), ([(2, 1), (4, (-1))], 0), ([(5, 1)], (-1)), ([(5, (-1))], 1)], ([], ([], none)))))))
theorem rk_z1e : RuOk SR ru_z1e := by
  intro τ m g hi hc ha hS
  obtain ⟨i0, i1, i2, i3, i4, i5, i6, i7, i8, _⟩ := hi
  have t1199 : τ 1199 = some (g 0) := i0
  have t1194 : τ 1194 = some (g 1) := i1
  have t1195 : τ 1195 = some (g 2) := i2
  have t1196 : τ 1196 = some (g 3) := i3
  have t1197 : τ 1197 = some (g 4) := i4
  have t1198 : τ 1198 = some (g 5) := i5
  have t1120 : τ 1120 = some (g 6) := i6
  have t1123 : τ 1123 = some (g 7) := i7
  have t1124 : τ 1124 = some (g 8) := i8
  obtain ⟨c0, c1, c2, c3, c4, c5, c6, c7, _⟩ := hc
  have c0 : (-1) * g 6 + 1 * g 7 ≤ 0 := d2 c0
  have c1 : 1 * g 6 + (-1) * g 7 ≤ 0 := d2 c1
  have c2 : 1 * g 3 + (-1) * g 6 ≤ 0 := d2 c2
  have c3 : (-1) * g 3 + 1 * g 6 ≤ 0 := d2 c3
  have c4 : 1 * g 1 ≤ 1 := d1 c4
  have c5 : (-1) * g 1 ≤ (-1) := d1 c5
  have c6 : 1 * g 8 ≤ 1 := d1 c6
  have c7 : (-1) * g 8 ≤ (-1) := d1 c7
  obtain ⟨h0, k_tok, k_sc1, k_sc2, k_T, k_I, k_F, k_N, k_Y, k_Z, k_A, k_B, k_C, k_X, k_R, k_f4⟩ := hS (by rw [t1199]; exact fun e => by cases e)
  have k_I0 := k_I
  obtain ⟨h_p, h_pc, h_ip, h_iP, h_PC, h_PN⟩ := k_I0
  have k_Z0 := k_Z
  obtain ⟨h_Z0, h_Z1, h_Z⟩ := k_Z0
  have hXL : ((tx9 m).2 : Int) = m 110 1 := by
    show (((m 110 1).toNat : Nat) : Int) = _
    omega
  obtain ⟨⟨⟨hk0, hk1⟩, hz0, hz1⟩, rz, hze, hzr⟩ := h_Z _ _ _ _ _ t1194 t1195 t1196 t1197 t1198
  have hzp : Pb9 (tx9 m) (wl9 m) (30 - (g 2).toNat) (g 2).toNat (g 3).toNat rz := by
    rcases hzr with h | h
    · have := h.1; omega
    · exact h.2.2
  have hcc := h_pc _ _ t1123 t1124
  rw [show (g 7).toNat = (g 3).toNat by omega] at hcc
  obtain ⟨y1, y2⟩ := YE_ok hze (hzp.1 (by omega))
  exact ⟨rfl, ⟨f2 (by omega), f2 (by omega), f1 (by omega), f1 (by omega), trivial⟩, trivial, fun _ => ⟨h0, k_tok, k_sc1, k_sc2, k_T, k_I, k_F, k_N, k_Y, k_Z, k_A, k_B, k_C, k_X, k_R, k_f4⟩⟩
noncomputable def ru_z1s : Ru := ([(0, (1199, (0, (0, 0)))), (0, (1194, (0, (0, 0)))), (0, (1195, (0, (0, 0)))), (0, (1196, (0, (0, 0)))), (0, (1197, (0, (0, 0)))), (0, (1198, (0, (0, 0)))), (0, (1120, (0, (0, 0)))), (0, (1123, (0, (0, 0)))), (0, (1124, (0, (0, 0)))), (0, (1121, (0, (0, 0)))), (4, (0, (0, (0, 0))))], ([], ([([(6, (-1)), (7, 1)], 0), ([(6, 1), (7, (-1))], 0), ([(3, 1), (6, (-1))], 0), ([(3, (-1)), (6, 1)], 0), ([(1, 1)], 1), ([(1, (-1))], (-1)), ([(8, 1)], 19), ([(8, (-1))], (-19))], (false, ([], ([], ([(1194, some (10, 0)), (1196, some (9, 0))], none)))))))
theorem rk_z1s : RuOk SR ru_z1s := by
  intro τ m g hi hc ha hS
  obtain ⟨i0, i1, i2, i3, i4, i5, i6, i7, i8, i9, i10, _⟩ := hi
  have t1199 : τ 1199 = some (g 0) := i0
  have t1194 : τ 1194 = some (g 1) := i1
  have t1195 : τ 1195 = some (g 2) := i2
  have t1196 : τ 1196 = some (g 3) := i3
  have t1197 : τ 1197 = some (g 4) := i4
  have t1198 : τ 1198 = some (g 5) := i5
  have t1120 : τ 1120 = some (g 6) := i6
  have t1123 : τ 1123 = some (g 7) := i7
  have t1124 : τ 1124 = some (g 8) := i8
  have t1121 : τ 1121 = some (g 9) := i9
  have xo : g 10 = 0 := i10
  obtain ⟨c0, c1, c2, c3, c4, c5, c6, c7, _⟩ := hc
  have c0 : (-1) * g 6 + 1 * g 7 ≤ 0 := d2 c0
  have c1 : 1 * g 6 + (-1) * g 7 ≤ 0 := d2 c1
  have c2 : 1 * g 3 + (-1) * g 6 ≤ 0 := d2 c2
  have c3 : (-1) * g 3 + 1 * g 6 ≤ 0 := d2 c3
  have c4 : 1 * g 1 ≤ 1 := d1 c4
  have c5 : (-1) * g 1 ≤ (-1) := d1 c5
  have c6 : 1 * g 8 ≤ 19 := d1 c6
  have c7 : (-1) * g 8 ≤ (-19) := d1 c7
  obtain ⟨h0, k_tok, k_sc1, k_sc2, k_T, k_I, k_F, k_N, k_Y, k_Z, k_A, k_B, k_C, k_X, k_R, k_f4⟩ := hS (by rw [t1199]; exact fun e => by cases e)
  have k_T0 := k_T
  obtain ⟨h_T, h_TN, h_QZ⟩ := k_T0
  have k_I0 := k_I
  obtain ⟨h_p, h_pc, h_ip, h_iP, h_PC, h_PN⟩ := k_I0
  have k_Z0 := k_Z
  obtain ⟨h_Z0, h_Z1, h_Z⟩ := k_Z0
  have hXL : ((tx9 m).2 : Int) = m 110 1 := by
    show (((m 110 1).toNat : Nat) : Int) = _
    omega
  obtain ⟨⟨⟨hk0, hk1⟩, hz0, hz1⟩, rz, hze, hzr⟩ := h_Z _ _ _ _ _ t1194 t1195 t1196 t1197 t1198
  have hzp : Pb9 (tx9 m) (wl9 m) (30 - (g 2).toNat) (g 2).toNat (g 3).toNat rz := by
    rcases hzr with h | h
    · have := h.1; omega
    · exact h.2.2
  have hcc := h_pc _ _ t1123 t1124
  rw [show (g 7).toNat = (g 3).toNat by omega] at hcc
  have hN := h_TN _ _ t1120 t1121
  rw [show (g 6).toNat = (g 3).toNat by omega] at hN
  have hnL := nx_P (m := m) (p := (g 3).toNat) (by omega)
  have hb := hzp.2.1 (by omega)
  exact ⟨rfl, trivial, trivial, fun _ => ⟨h0, k_tok, k_sc1, k_sc2, k_T, k_I, k_F, k_N, k_Y, ⟨h_Z0, h_Z1, fun Zm Zk Zp Z1 Zx e0 e1 e2 e3 e4 => by
      have e0 : g 10 + 0 = Zm := Option.some.inj e0
      subst e0
      have e1 : g 2 = Zk := Option.some.inj (t1195.symm.trans e1)
      subst e1
      have e2 : g 9 + 0 = Zp := Option.some.inj e2
      subst e2
      have e3 : g 4 = Z1 := Option.some.inj (t1197.symm.trans e3)
      subst e3
      have e4 : g 5 = Zx := Option.some.inj (t1198.symm.trans e4)
      subst e4
      refine ⟨⟨⟨by omega, by omega⟩, ⟨by omega, by omega⟩⟩, rz, hze, Or.inl ⟨by omega, ?_⟩⟩
      rw [show (g 9 + 0).toNat = nx9t (tx9 m) (g 3).toNat by omega]
      exact hb⟩, k_A, k_B, k_C, k_X, k_R, k_f4⟩⟩
noncomputable def ru_z1a : Ru := ([(0, (1199, (0, (0, 0)))), (0, (1194, (0, (0, 0)))), (0, (1195, (0, (0, 0)))), (0, (1196, (0, (0, 0)))), (0, (1197, (0, (0, 0)))), (0, (1198, (0, (0, 0)))), (0, (1120, (0, (0, 0)))), (0, (1123, (0, (0, 0)))), (0, (1124, (0, (0, 0))))], ([], ([([(6, (-1)), (7, 1)], 0), ([(6, 1), (7, (-1))], 0), ([(3, 1), (6, (-1))], 0), ([(3, (-1)), (6, 1)], 0), ([(1, 1)], 1), ([(1, (-1))], (-1)), ([(8, 1)], 0)], (false, ([([(5, 1), (6, (-1))], 0), ([(5, (-1)), (6, 1)], 0), ([(4, 1)], (-1)), ([(4, (-1))], 1)], ([], ([], none)))))))
theorem rk_z1a : RuOk SR ru_z1a := by
  intro τ m g hi hc ha hS
  obtain ⟨i0, i1, i2, i3, i4, i5, i6, i7, i8, _⟩ := hi
  have t1199 : τ 1199 = some (g 0) := i0
  have t1194 : τ 1194 = some (g 1) := i1
  have t1195 : τ 1195 = some (g 2) := i2
  have t1196 : τ 1196 = some (g 3) := i3
  have t1197 : τ 1197 = some (g 4) := i4
  have t1198 : τ 1198 = some (g 5) := i5
  have t1120 : τ 1120 = some (g 6) := i6
  have t1123 : τ 1123 = some (g 7) := i7
  have t1124 : τ 1124 = some (g 8) := i8
  obtain ⟨c0, c1, c2, c3, c4, c5, c6, _⟩ := hc
  have c0 : (-1) * g 6 + 1 * g 7 ≤ 0 := d2 c0
  have c1 : 1 * g 6 + (-1) * g 7 ≤ 0 := d2 c1
  have c2 : 1 * g 3 + (-1) * g 6 ≤ 0 := d2 c2
  have c3 : (-1) * g 3 + 1 * g 6 ≤ 0 := d2 c3
  have c4 : 1 * g 1 ≤ 1 := d1 c4
  have c5 : (-1) * g 1 ≤ (-1) := d1 c5
  have c6 : 1 * g 8 ≤ 0 := d1 c6
  obtain ⟨h0, k_tok, k_sc1, k_sc2, k_T, k_I, k_F, k_N, k_Y, k_Z, k_A, k_B, k_C, k_X, k_R, k_f4⟩ := hS (by rw [t1199]; exact fun e => by cases e)
  have k_I0 := k_I
  obtain ⟨h_p, h_pc, h_ip, h_iP, h_PC, h_PN⟩ := k_I0
  have k_Z0 := k_Z
  obtain ⟨h_Z0, h_Z1, h_Z⟩ := k_Z0
  have hXL : ((tx9 m).2 : Int) = m 110 1 := by
    show (((m 110 1).toNat : Nat) : Int) = _
    omega
  obtain ⟨⟨⟨hk0, hk1⟩, hz0, hz1⟩, rz, hze, hzr⟩ := h_Z _ _ _ _ _ t1194 t1195 t1196 t1197 t1198
  have hzp : Pb9 (tx9 m) (wl9 m) (30 - (g 2).toNat) (g 2).toNat (g 3).toNat rz := by
    rcases hzr with h | h
    · have := h.1; omega
    · exact h.2.2
  have hcc := h_pc _ _ t1123 t1124
  rw [show (g 7).toNat = (g 3).toNat by omega] at hcc
  obtain ⟨y1, y2⟩ := YE_bad hze (hzp.2.2 ⟨by omega, by omega⟩)
  exact ⟨rfl, ⟨f2 (by omega), f2 (by omega), f1 (by omega), f1 (by omega), trivial⟩, trivial, fun _ => ⟨h0, k_tok, k_sc1, k_sc2, k_T, k_I, k_F, k_N, k_Y, k_Z, k_A, k_B, k_C, k_X, k_R, k_f4⟩⟩
noncomputable def ru_z1b : Ru := ([(0, (1199, (0, (0, 0)))), (0, (1194, (0, (0, 0)))), (0, (1195, (0, (0, 0)))), (0, (1196, (0, (0, 0)))), (0, (1197, (0, (0, 0)))), (0, (1198, (0, (0, 0)))), (0, (1120, (0, (0, 0)))), (0, (1123, (0, (0, 0)))), (0, (1124, (0, (0, 0))))], ([], ([([(6, (-1)), (7, 1)], 0), ([(6, 1), (7, (-1))], 0), ([(3, 1), (6, (-1))], 0), ([(3, (-1)), (6, 1)], 0), ([(1, 1)], 1), ([(1, (-1))], (-1)), ([(8, (-1))], (-2)), ([(8, 1)], 18)], (false, ([([(5, 1), (6, (-1))], 0), ([(5, (-1)), (6, 1)], 0), ([(4, 1)], (-1)), ([(4, (-1))], 1)], ([], ([], none)))))))
theorem rk_z1b : RuOk SR ru_z1b := by
  intro τ m g hi hc ha hS
  obtain ⟨i0, i1, i2, i3, i4, i5, i6, i7, i8, _⟩ := hi
  have t1199 : τ 1199 = some (g 0) := i0
  have t1194 : τ 1194 = some (g 1) := i1
  have t1195 : τ 1195 = some (g 2) := i2
  have t1196 : τ 1196 = some (g 3) := i3
  have t1197 : τ 1197 = some (g 4) := i4
  have t1198 : τ 1198 = some (g 5) := i5
  have t1120 : τ 1120 = some (g 6) := i6
  have t1123 : τ 1123 = some (g 7) := i7
  have t1124 : τ 1124 = some (g 8) := i8
  obtain ⟨c0, c1, c2, c3, c4, c5, c6, c7, _⟩ := hc
  have c0 : (-1) * g 6 + 1 * g 7 ≤ 0 := d2 c0
  have c1 : 1 * g 6 + (-1) * g 7 ≤ 0 := d2 c1
  have c2 : 1 * g 3 + (-1) * g 6 ≤ 0 := d2 c2
  have c3 : (-1) * g 3 + 1 * g 6 ≤ 0 := d2 c3
  have c4 : 1 * g 1 ≤ 1 := d1 c4
  have c5 : (-1) * g 1 ≤ (-1) := d1 c5
  have c6 : (-1) * g 8 ≤ (-2) := d1 c6
  have c7 : 1 * g 8 ≤ 18 := d1 c7
  obtain ⟨h0, k_tok, k_sc1, k_sc2, k_T, k_I, k_F, k_N, k_Y, k_Z, k_A, k_B, k_C, k_X, k_R, k_f4⟩ := hS (by rw [t1199]; exact fun e => by cases e)
  have k_I0 := k_I
  obtain ⟨h_p, h_pc, h_ip, h_iP, h_PC, h_PN⟩ := k_I0
  have k_Z0 := k_Z
  obtain ⟨h_Z0, h_Z1, h_Z⟩ := k_Z0
  have hXL : ((tx9 m).2 : Int) = m 110 1 := by
    show (((m 110 1).toNat : Nat) : Int) = _
    omega
  obtain ⟨⟨⟨hk0, hk1⟩, hz0, hz1⟩, rz, hze, hzr⟩ := h_Z _ _ _ _ _ t1194 t1195 t1196 t1197 t1198
  have hzp : Pb9 (tx9 m) (wl9 m) (30 - (g 2).toNat) (g 2).toNat (g 3).toNat rz := by
    rcases hzr with h | h
    · have := h.1; omega
    · exact h.2.2
  have hcc := h_pc _ _ t1123 t1124
  rw [show (g 7).toNat = (g 3).toNat by omega] at hcc
  obtain ⟨y1, y2⟩ := YE_bad hze (hzp.2.2 ⟨by omega, by omega⟩)
  exact ⟨rfl, ⟨f2 (by omega), f2 (by omega), f1 (by omega), f1 (by omega), trivial⟩, trivial, fun _ => ⟨h0, k_tok, k_sc1, k_sc2, k_T, k_I, k_F, k_N, k_Y, k_Z, k_A, k_B, k_C, k_X, k_R, k_f4⟩⟩
noncomputable def ru_z1c : Ru := ([(0, (1199, (0, (0, 0)))), (0, (1194, (0, (0, 0)))), (0, (1195, (0, (0, 0)))), (0, (1196, (0, (0, 0)))), (0, (1197, (0, (0, 0)))), (0, (1198, (0, (0, 0)))), (0, (1120, (0, (0, 0)))), (0, (1123, (0, (0, 0)))), (0, (1124, (0, (0, 0))))], ([], ([([(6, (-1)), (7, 1)], 0), ([(6, 1), (7, (-1))], 0), ([(3, 1), (6, (-1))], 0), ([(3, (-1)), (6, 1)], 0), ([(1, 1)], 1), ([(1, (-1))], (-1)), ([(8, (-1))], (-20))], (false, ([([(5, 1), (6, (-1))], 0), ([(5, (-1)), (6, 1)], 0), ([(4, 1)], (-1)), ([(4, (-1))], 1)], ([], ([], none)))))))
theorem rk_z1c : RuOk SR ru_z1c := by
  intro τ m g hi hc ha hS
  obtain ⟨i0, i1, i2, i3, i4, i5, i6, i7, i8, _⟩ := hi
  have t1199 : τ 1199 = some (g 0) := i0
  have t1194 : τ 1194 = some (g 1) := i1
  have t1195 : τ 1195 = some (g 2) := i2
  have t1196 : τ 1196 = some (g 3) := i3
  have t1197 : τ 1197 = some (g 4) := i4
  have t1198 : τ 1198 = some (g 5) := i5
  have t1120 : τ 1120 = some (g 6) := i6
  have t1123 : τ 1123 = some (g 7) := i7
  have t1124 : τ 1124 = some (g 8) := i8
  obtain ⟨c0, c1, c2, c3, c4, c5, c6, _⟩ := hc
  have c0 : (-1) * g 6 + 1 * g 7 ≤ 0 := d2 c0
  have c1 : 1 * g 6 + (-1) * g 7 ≤ 0 := d2 c1
  have c2 : 1 * g 3 + (-1) * g 6 ≤ 0 := d2 c2
  have c3 : (-1) * g 3 + 1 * g 6 ≤ 0 := d2 c3
  have c4 : 1 * g 1 ≤ 1 := d1 c4
  have c5 : (-1) * g 1 ≤ (-1) := d1 c5
  have c6 : (-1) * g 8 ≤ (-20) := d1 c6
  obtain ⟨h0, k_tok, k_sc1, k_sc2, k_T, k_I, k_F, k_N, k_Y, k_Z, k_A, k_B, k_C, k_X, k_R, k_f4⟩ := hS (by rw [t1199]; exact fun e => by cases e)
  have k_I0 := k_I
  obtain ⟨h_p, h_pc, h_ip, h_iP, h_PC, h_PN⟩ := k_I0
  have k_Z0 := k_Z
  obtain ⟨h_Z0, h_Z1, h_Z⟩ := k_Z0
  have hXL : ((tx9 m).2 : Int) = m 110 1 := by
    show (((m 110 1).toNat : Nat) : Int) = _
    omega
  obtain ⟨⟨⟨hk0, hk1⟩, hz0, hz1⟩, rz, hze, hzr⟩ := h_Z _ _ _ _ _ t1194 t1195 t1196 t1197 t1198
  have hzp : Pb9 (tx9 m) (wl9 m) (30 - (g 2).toNat) (g 2).toNat (g 3).toNat rz := by
    rcases hzr with h | h
    · have := h.1; omega
    · exact h.2.2
  have hcc := h_pc _ _ t1123 t1124
  rw [show (g 7).toNat = (g 3).toNat by omega] at hcc
  obtain ⟨y1, y2⟩ := YE_bad hze (hzp.2.2 ⟨by omega, by omega⟩)
  exact ⟨rfl, ⟨f2 (by omega), f2 (by omega), f1 (by omega), f1 (by omega), trivial⟩, trivial, fun _ => ⟨h0, k_tok, k_sc1, k_sc2, k_T, k_I, k_F, k_N, k_Y, k_Z, k_A, k_B, k_C, k_X, k_R, k_f4⟩⟩
noncomputable def ru_zD : Ru := ([], ([], ([], (false, ([], ([], ([(1194, none), (1195, none), (1196, none), (1197, none), (1198, none), (1120, none), (1121, none), (1123, none), (1124, none), (1199, none)], none)))))))
theorem rk_zD : RuOk SR ru_zD := by
  intro τ m g hi hc ha hS
  exact ⟨rfl, trivial, trivial, fun h => absurd rfl h⟩
noncomputable def ru_sp0 : Ru := ([(0, (1199, (0, (0, 0)))), (0, (1100, (0, (0, 0)))), (4, (0, (0, (0, 0))))], ([1101, 1102, 1103, 1104, 1105, 1116, 1106, 1107, 1108, 1109, 1110, 1111, 1112, 1113, 1114, 1115], ([], (false, ([], ([], ([(1101, some (2, 0)), (1103, some (2, 0))], some (1104, (0, 1200)))))))))
theorem rk_sp0 : RuOk SR ru_sp0 := by
  intro τ m g hi hc ha hS
  obtain ⟨i0, i1, i2, _⟩ := hi
  have t1199 : τ 1199 = some (g 0) := i0
  have t1100 : τ 1100 = some (g 1) := i1
  have xo : g 2 = 0 := i2
  obtain ⟨a0, a1, a2, a3, a4, a5, a6, a7, a8, a9, a10, a11, a12, a13, a14, a15, _⟩ := ha
  have n1101 : τ 1101 = none := a0
  have n1102 : τ 1102 = none := a1
  have n1103 : τ 1103 = none := a2
  have n1104 : τ 1104 = none := a3
  have n1105 : τ 1105 = none := a4
  have n1116 : τ 1116 = none := a5
  have n1106 : τ 1106 = none := a6
  have n1107 : τ 1107 = none := a7
  have n1108 : τ 1108 = none := a8
  have n1109 : τ 1109 = none := a9
  have n1110 : τ 1110 = none := a10
  have n1111 : τ 1111 = none := a11
  have n1112 : τ 1112 = none := a12
  have n1113 : τ 1113 = none := a13
  have n1114 : τ 1114 = none := a14
  have n1115 : τ 1115 = none := a15
  obtain ⟨h0, k_tok, k_sc1, k_sc2, k_T, k_I, k_F, k_N, k_Y, k_Z, k_A, k_B, k_C, k_X, k_R, k_f4⟩ := hS (by rw [t1199]; exact fun e => by cases e)
  have k_tok0 := k_tok
  obtain ⟨h_L, h_n, h_nF⟩ := k_tok0
  have k_sc10 := k_sc1
  obtain ⟨h_qz, h_nz, h_s, h_ns, h_nE⟩ := k_sc10
  have hXL : ((tx9 m).2 : Int) = m 110 1 := by
    show (((m 110 1).toNat : Nat) : Int) = _
    omega
  obtain ⟨x0, hx0⟩ : ∃ x0 : Int, x0 = (sk9 (tx9 m) 0 : Int) := ⟨_, rfl⟩
  have x1 : 0 ≤ x0 := by omega
  have x2 : x0 ≤ 1200 := by
    have := sk_L (m := m) (p := 0) (by omega) h0.2
    omega
  exact ⟨rfl, trivial, trivial, x0, x1, x2, fun _ => ⟨h0, ⟨h_L, fun n9 e0 => by
      have e0 : g 2 + 0 = n9 := Option.some.inj e0
      subst e0
      rw [show g 2 + 0 = 0 by omega]
      exact ⟨Int.le_refl _, fun i hi => absurd hi (Nat.not_lt_zero _), fun i hi => absurd hi (Nat.not_lt_zero _)⟩, h_nF⟩, ⟨fun q9 z9 e0 e1 => by
      have e0 : g 2 + 0 = q9 := Option.some.inj e0
      subst e0
      have e1 : x0 = z9 := Option.some.inj e1
      subst e1
      rw [show g 2 + 0 = 0 by omega]
      exact ⟨⟨Int.le_refl _, h0.1⟩, hx0⟩, fun n9 z9 e0 e1 => by
      have e0 : g 2 + 0 = n9 := Option.some.inj e0
      subst e0
      have e1 : x0 = z9 := Option.some.inj e1
      subst e1
      rw [show g 2 + 0 = 0 by omega]
      exact ⟨hx0, fun z => absurd z (by decide)⟩, h_s, fun _ _ e0 e1 => no9 n1105 e1, fun _ _ e0 e1 => no9 n1116 e1⟩, k_sc2, k_T, k_I, k_F, k_N, k_Y, k_Z, k_A, k_B, k_C, k_X, k_R, k_f4⟩⟩
noncomputable def ru_lA0 : Ru := ([(0, (1199, (0, (0, 0)))), (0, (1101, (0, (0, 0)))), (0, (1105, (0, (0, 0)))), (0, (1107, (0, (0, 0)))), (0, (1106, (0, (0, 0)))), (9, (24, (1, (1, 0)))), (9, (25, (1, (1, 0))))], ([1104], ([([(3, (-1)), (5, 1)], 0), ([(3, 1), (5, (-1))], 0), ([(2, (-1)), (6, 1)], 0), ([(2, 1), (6, (-1))], 0), ([(1, (-1))], 0), ([(3, 1)], 0), ([(3, (-1))], 0)], (false, ([], ([], ([(1101, some (1, 1)), (1116, some (4, 0)), (1105, none), (1107, none), (1106, none)], none)))))))
theorem rk_lA0 : RuOk SR ru_lA0 := by
  intro τ m g hi hc ha hS
  obtain ⟨i0, i1, i2, i3, i4, i5, i6, _⟩ := hi
  have t1199 : τ 1199 = some (g 0) := i0
  have t1101 : τ 1101 = some (g 1) := i1
  have t1105 : τ 1105 = some (g 2) := i2
  have t1107 : τ 1107 = some (g 3) := i3
  have t1106 : τ 1106 = some (g 4) := i4
  obtain ⟨jkn, ukn, vkn⟩ : ∃ j : Nat, 1 * g 1 + 0 = (j : Int) ∧ g 5 = m 24 j := i5
  obtain ⟨jsn, usn, vsn⟩ : ∃ j : Nat, 1 * g 1 + 0 = (j : Int) ∧ g 6 = m 25 j := i6
  obtain ⟨c0, c1, c2, c3, c4, c5, c6, _⟩ := hc
  have c0 : (-1) * g 3 + 1 * g 5 ≤ 0 := d2 c0
  have c1 : 1 * g 3 + (-1) * g 5 ≤ 0 := d2 c1
  have c2 : (-1) * g 2 + 1 * g 6 ≤ 0 := d2 c2
  have c3 : 1 * g 2 + (-1) * g 6 ≤ 0 := d2 c3
  have c4 : (-1) * g 1 ≤ 0 := d1 c4
  have c5 : 1 * g 3 ≤ 0 := d1 c5
  have c6 : (-1) * g 3 ≤ 0 := d1 c6
  obtain ⟨a0, _⟩ := ha
  have n1104 : τ 1104 = none := a0
  obtain ⟨h0, k_tok, k_sc1, k_sc2, k_T, k_I, k_F, k_N, k_Y, k_Z, k_A, k_B, k_C, k_X, k_R, k_f4⟩ := hS (by rw [t1199]; exact fun e => by cases e)
  have k_tok0 := k_tok
  obtain ⟨h_L, h_n, h_nF⟩ := k_tok0
  have k_sc10 := k_sc1
  obtain ⟨h_qz, h_nz, h_s, h_ns, h_nE⟩ := k_sc10
  have k_sc20 := k_sc2
  obtain ⟨h_ske, h_skv, h_sku, h_sw, h_swm, h_swu, h_sf, h_sg⟩ := k_sc20
  have hXL : ((tx9 m).2 : Int) = m 110 1 := by
    show (((m 110 1).toNat : Nat) : Int) = _
    omega
  obtain ⟨hn0, hTS1, hTS2⟩ := h_n _ t1101
  obtain ⟨hns, hnl⟩ := h_ns _ _ t1101 t1105
  obtain ⟨hk, he⟩ := h_ske _ _ _ t1105 t1107 t1106
  rw [show (g 2).toNat = (Tp9 (tx9 m) (g 1).toNat) by omega] at hk he
  rw [show jkn = (g 1).toNat by omega] at vkn
  rw [show jsn = (g 1).toNat by omega] at vsn
  exact ⟨rfl, trivial, trivial, fun _ => ⟨h0, ⟨h_L, fun n9 e0 => by
      have e0 : g 1 + 1 = n9 := Option.some.inj e0
      subst e0
      have hnew : TK9 m (g 1).toNat := ⟨⟨by omega, by omega⟩, fun z => (by omega), fun z => (by omega), fun z => (by omega)⟩
      rw [show (g 1 + 1).toNat = (g 1).toNat + 1 by omega]
      refine ⟨by omega, fun i hi => ?_, fun i hi => ?_⟩
      · by_cases e : i = (g 1).toNat
        · rw [e]; exact hnew
        · exact hTS1 i (by omega)
      · by_cases e : i + 1 = (g 1).toNat
        · have := hnl (by omega)
          rw [show (g 1).toNat - 1 = i by omega] at this
          exact this
        · exact hTS2 i (by omega), h_nF⟩, ⟨h_qz, fun _ _ e0 e1 => no9 n1104 e1, fun _ e0 => no9 (o := none) rfl e0, fun _ _ e0 e1 => no9 (o := none) rfl e1, fun n9 E9 e0 e1 => by
      have e0 : g 1 + 1 = n9 := Option.some.inj e0
      subst e0
      have e1 : g 4 + 0 = E9 := Option.some.inj e1
      subst e1
      rw [show (g 1 + 1).toNat - 1 = (g 1).toNat by omega, Int.add_zero]
      exact ⟨by omega, he⟩⟩, ⟨fun _ _ _ e0 e1 e2 => no9 (o := none) rfl e0, fun _ _ _ e0 e1 e2 => no9 (o := none) rfl e0, fun _ _ _ e0 e1 e2 => no9 (o := none) rfl e0, fun _ _ e0 e1 => no9 (o := none) rfl e0, fun _ _ _ e0 e1 e2 => no9 (o := none) rfl e0, fun _ _ _ e0 e1 e2 => no9 (o := none) rfl e0, fun _ _ _ _ e0 e1 e2 e3 => no9 (o := none) rfl e0, fun _ _ _ _ e0 e1 e2 e3 => no9 (o := none) rfl e0⟩, k_T, k_I, k_F, k_N, k_Y, k_Z, k_A, k_B, k_C, k_X, k_R, k_f4⟩⟩
noncomputable def ru_lA1 : Ru := ([(0, (1199, (0, (0, 0)))), (0, (1101, (0, (0, 0)))), (0, (1105, (0, (0, 0)))), (0, (1107, (0, (0, 0)))), (0, (1106, (0, (0, 0)))), (9, (24, (1, (1, 0)))), (9, (25, (1, (1, 0)))), (9, (26, (1, (1, 0))))], ([1104], ([([(3, (-1)), (5, 1)], 0), ([(3, 1), (5, (-1))], 0), ([(2, (-1)), (6, 1)], 0), ([(2, 1), (6, (-1))], 0), ([(1, (-1))], 0), ([(3, 1)], 1), ([(3, (-1))], (-1)), ([(4, (-1)), (7, 1)], 0), ([(4, 1), (7, (-1))], 0)], (false, ([], ([], ([(1101, some (1, 1)), (1116, some (4, 0)), (1105, none), (1107, none), (1106, none)], none)))))))
theorem rk_lA1 : RuOk SR ru_lA1 := by
  intro τ m g hi hc ha hS
  obtain ⟨i0, i1, i2, i3, i4, i5, i6, i7, _⟩ := hi
  have t1199 : τ 1199 = some (g 0) := i0
  have t1101 : τ 1101 = some (g 1) := i1
  have t1105 : τ 1105 = some (g 2) := i2
  have t1107 : τ 1107 = some (g 3) := i3
  have t1106 : τ 1106 = some (g 4) := i4
  obtain ⟨jkn, ukn, vkn⟩ : ∃ j : Nat, 1 * g 1 + 0 = (j : Int) ∧ g 5 = m 24 j := i5
  obtain ⟨jsn, usn, vsn⟩ : ∃ j : Nat, 1 * g 1 + 0 = (j : Int) ∧ g 6 = m 25 j := i6
  obtain ⟨jvn, uvn, vvn⟩ : ∃ j : Nat, 1 * g 1 + 0 = (j : Int) ∧ g 7 = m 26 j := i7
  obtain ⟨c0, c1, c2, c3, c4, c5, c6, c7, c8, _⟩ := hc
  have c0 : (-1) * g 3 + 1 * g 5 ≤ 0 := d2 c0
  have c1 : 1 * g 3 + (-1) * g 5 ≤ 0 := d2 c1
  have c2 : (-1) * g 2 + 1 * g 6 ≤ 0 := d2 c2
  have c3 : 1 * g 2 + (-1) * g 6 ≤ 0 := d2 c3
  have c4 : (-1) * g 1 ≤ 0 := d1 c4
  have c5 : 1 * g 3 ≤ 1 := d1 c5
  have c6 : (-1) * g 3 ≤ (-1) := d1 c6
  have c7 : (-1) * g 4 + 1 * g 7 ≤ 0 := d2 c7
  have c8 : 1 * g 4 + (-1) * g 7 ≤ 0 := d2 c8
  obtain ⟨a0, _⟩ := ha
  have n1104 : τ 1104 = none := a0
  obtain ⟨h0, k_tok, k_sc1, k_sc2, k_T, k_I, k_F, k_N, k_Y, k_Z, k_A, k_B, k_C, k_X, k_R, k_f4⟩ := hS (by rw [t1199]; exact fun e => by cases e)
  have k_tok0 := k_tok
  obtain ⟨h_L, h_n, h_nF⟩ := k_tok0
  have k_sc10 := k_sc1
  obtain ⟨h_qz, h_nz, h_s, h_ns, h_nE⟩ := k_sc10
  have k_sc20 := k_sc2
  obtain ⟨h_ske, h_skv, h_sku, h_sw, h_swm, h_swu, h_sf, h_sg⟩ := k_sc20
  have hXL : ((tx9 m).2 : Int) = m 110 1 := by
    show (((m 110 1).toNat : Nat) : Int) = _
    omega
  obtain ⟨hn0, hTS1, hTS2⟩ := h_n _ t1101
  obtain ⟨hns, hnl⟩ := h_ns _ _ t1101 t1105
  obtain ⟨hk, he⟩ := h_ske _ _ _ t1105 t1107 t1106
  rw [show (g 2).toNat = (Tp9 (tx9 m) (g 1).toNat) by omega] at hk he
  rw [show jkn = (g 1).toNat by omega] at vkn
  rw [show jsn = (g 1).toNat by omega] at vsn
  rw [show jvn = (g 1).toNat by omega] at vvn
  exact ⟨rfl, trivial, trivial, fun _ => ⟨h0, ⟨h_L, fun n9 e0 => by
      have e0 : g 1 + 1 = n9 := Option.some.inj e0
      subst e0
      have hnew : TK9 m (g 1).toNat := ⟨⟨by omega, by omega⟩, fun z => (by omega), fun z => (by omega), fun z => (by omega)⟩
      rw [show (g 1 + 1).toNat = (g 1).toNat + 1 by omega]
      refine ⟨by omega, fun i hi => ?_, fun i hi => ?_⟩
      · by_cases e : i = (g 1).toNat
        · rw [e]; exact hnew
        · exact hTS1 i (by omega)
      · by_cases e : i + 1 = (g 1).toNat
        · have := hnl (by omega)
          rw [show (g 1).toNat - 1 = i by omega] at this
          exact this
        · exact hTS2 i (by omega), h_nF⟩, ⟨h_qz, fun _ _ e0 e1 => no9 n1104 e1, fun _ e0 => no9 (o := none) rfl e0, fun _ _ e0 e1 => no9 (o := none) rfl e1, fun n9 E9 e0 e1 => by
      have e0 : g 1 + 1 = n9 := Option.some.inj e0
      subst e0
      have e1 : g 4 + 0 = E9 := Option.some.inj e1
      subst e1
      rw [show (g 1 + 1).toNat - 1 = (g 1).toNat by omega, Int.add_zero]
      exact ⟨by omega, he⟩⟩, ⟨fun _ _ _ e0 e1 e2 => no9 (o := none) rfl e0, fun _ _ _ e0 e1 e2 => no9 (o := none) rfl e0, fun _ _ _ e0 e1 e2 => no9 (o := none) rfl e0, fun _ _ e0 e1 => no9 (o := none) rfl e0, fun _ _ _ e0 e1 e2 => no9 (o := none) rfl e0, fun _ _ _ e0 e1 e2 => no9 (o := none) rfl e0, fun _ _ _ _ e0 e1 e2 e3 => no9 (o := none) rfl e0, fun _ _ _ _ e0 e1 e2 e3 => no9 (o := none) rfl e0⟩, k_T, k_I, k_F, k_N, k_Y, k_Z, k_A, k_B, k_C, k_X, k_R, k_f4⟩⟩
noncomputable def ru_lA2 : Ru := ([(0, (1199, (0, (0, 0)))), (0, (1101, (0, (0, 0)))), (0, (1105, (0, (0, 0)))), (0, (1107, (0, (0, 0)))), (0, (1106, (0, (0, 0)))), (9, (24, (1, (1, 0)))), (9, (25, (1, (1, 0)))), (0, (1108, (0, (0, 0)))), (9, (26, (1, (1, 0))))], ([1104], ([([(3, (-1)), (5, 1)], 0), ([(3, 1), (5, (-1))], 0), ([(2, (-1)), (6, 1)], 0), ([(2, 1), (6, (-1))], 0), ([(1, (-1))], 0), ([(3, 1)], 2), ([(3, (-1))], (-2)), ([(7, (-1)), (8, 1)], 0), ([(7, 1), (8, (-1))], 0)], (false, ([], ([], ([(1101, some (1, 1)), (1116, some (4, 0)), (1105, none), (1107, none), (1106, none), (1108, none)], none)))))))
theorem rk_lA2 : RuOk SR ru_lA2 := by
  intro τ m g hi hc ha hS
  obtain ⟨i0, i1, i2, i3, i4, i5, i6, i7, i8, _⟩ := hi
  have t1199 : τ 1199 = some (g 0) := i0
  have t1101 : τ 1101 = some (g 1) := i1
  have t1105 : τ 1105 = some (g 2) := i2
  have t1107 : τ 1107 = some (g 3) := i3
  have t1106 : τ 1106 = some (g 4) := i4
  obtain ⟨jkn, ukn, vkn⟩ : ∃ j : Nat, 1 * g 1 + 0 = (j : Int) ∧ g 5 = m 24 j := i5
  obtain ⟨jsn, usn, vsn⟩ : ∃ j : Nat, 1 * g 1 + 0 = (j : Int) ∧ g 6 = m 25 j := i6
  have t1108 : τ 1108 = some (g 7) := i7
  obtain ⟨jvn, uvn, vvn⟩ : ∃ j : Nat, 1 * g 1 + 0 = (j : Int) ∧ g 8 = m 26 j := i8
  obtain ⟨c0, c1, c2, c3, c4, c5, c6, c7, c8, _⟩ := hc
  have c0 : (-1) * g 3 + 1 * g 5 ≤ 0 := d2 c0
  have c1 : 1 * g 3 + (-1) * g 5 ≤ 0 := d2 c1
  have c2 : (-1) * g 2 + 1 * g 6 ≤ 0 := d2 c2
  have c3 : 1 * g 2 + (-1) * g 6 ≤ 0 := d2 c3
  have c4 : (-1) * g 1 ≤ 0 := d1 c4
  have c5 : 1 * g 3 ≤ 2 := d1 c5
  have c6 : (-1) * g 3 ≤ (-2) := d1 c6
  have c7 : (-1) * g 7 + 1 * g 8 ≤ 0 := d2 c7
  have c8 : 1 * g 7 + (-1) * g 8 ≤ 0 := d2 c8
  obtain ⟨a0, _⟩ := ha
  have n1104 : τ 1104 = none := a0
  obtain ⟨h0, k_tok, k_sc1, k_sc2, k_T, k_I, k_F, k_N, k_Y, k_Z, k_A, k_B, k_C, k_X, k_R, k_f4⟩ := hS (by rw [t1199]; exact fun e => by cases e)
  have k_tok0 := k_tok
  obtain ⟨h_L, h_n, h_nF⟩ := k_tok0
  have k_sc10 := k_sc1
  obtain ⟨h_qz, h_nz, h_s, h_ns, h_nE⟩ := k_sc10
  have k_sc20 := k_sc2
  obtain ⟨h_ske, h_skv, h_sku, h_sw, h_swm, h_swu, h_sf, h_sg⟩ := k_sc20
  have hXL : ((tx9 m).2 : Int) = m 110 1 := by
    show (((m 110 1).toNat : Nat) : Int) = _
    omega
  obtain ⟨hn0, hTS1, hTS2⟩ := h_n _ t1101
  obtain ⟨hns, hnl⟩ := h_ns _ _ t1101 t1105
  obtain ⟨hk, he⟩ := h_ske _ _ _ t1105 t1107 t1106
  rw [show (g 2).toNat = (Tp9 (tx9 m) (g 1).toNat) by omega] at hk he
  rw [show jkn = (g 1).toNat by omega] at vkn
  rw [show jsn = (g 1).toNat by omega] at vsn
  rw [show jvn = (g 1).toNat by omega] at vvn
  have hv := (h_skv _ _ _ t1105 t1107 t1108).1 (by omega)
  rw [show (g 2).toNat = (Tp9 (tx9 m) (g 1).toNat) by omega] at hv
  exact ⟨rfl, trivial, trivial, fun _ => ⟨h0, ⟨h_L, fun n9 e0 => by
      have e0 : g 1 + 1 = n9 := Option.some.inj e0
      subst e0
      have hnew : TK9 m (g 1).toNat := ⟨⟨by omega, by omega⟩, fun z => (by omega), fun z => (by omega), fun z => (by omega)⟩
      rw [show (g 1 + 1).toNat = (g 1).toNat + 1 by omega]
      refine ⟨by omega, fun i hi => ?_, fun i hi => ?_⟩
      · by_cases e : i = (g 1).toNat
        · rw [e]; exact hnew
        · exact hTS1 i (by omega)
      · by_cases e : i + 1 = (g 1).toNat
        · have := hnl (by omega)
          rw [show (g 1).toNat - 1 = i by omega] at this
          exact this
        · exact hTS2 i (by omega), h_nF⟩, ⟨h_qz, fun _ _ e0 e1 => no9 n1104 e1, fun _ e0 => no9 (o := none) rfl e0, fun _ _ e0 e1 => no9 (o := none) rfl e1, fun n9 E9 e0 e1 => by
      have e0 : g 1 + 1 = n9 := Option.some.inj e0
      subst e0
      have e1 : g 4 + 0 = E9 := Option.some.inj e1
      subst e1
      rw [show (g 1 + 1).toNat - 1 = (g 1).toNat by omega, Int.add_zero]
      exact ⟨by omega, he⟩⟩, ⟨fun _ _ _ e0 e1 e2 => no9 (o := none) rfl e0, fun _ _ _ e0 e1 e2 => no9 (o := none) rfl e0, fun _ _ _ e0 e1 e2 => no9 (o := none) rfl e0, fun _ _ e0 e1 => no9 (o := none) rfl e0, fun _ _ _ e0 e1 e2 => no9 (o := none) rfl e0, fun _ _ _ e0 e1 e2 => no9 (o := none) rfl e0, fun _ _ _ _ e0 e1 e2 e3 => no9 (o := none) rfl e0, fun _ _ _ _ e0 e1 e2 e3 => no9 (o := none) rfl e0⟩, k_T, k_I, k_F, k_N, k_Y, k_Z, k_A, k_B, k_C, k_X, k_R, k_f4⟩⟩
noncomputable def ru_lA3 : Ru := ([(0, (1199, (0, (0, 0)))), (0, (1101, (0, (0, 0)))), (0, (1105, (0, (0, 0)))), (0, (1107, (0, (0, 0)))), (0, (1106, (0, (0, 0)))), (9, (24, (1, (1, 0)))), (9, (25, (1, (1, 0))))], ([1104], ([([(3, (-1)), (5, 1)], 0), ([(3, 1), (5, (-1))], 0), ([(2, (-1)), (6, 1)], 0), ([(2, 1), (6, (-1))], 0), ([(1, (-1))], 0), ([(3, 1)], 3), ([(3, (-1))], (-3))], (false, ([], ([], ([(1101, some (1, 1)), (1116, some (4, 0)), (1105, none), (1107, none), (1106, none)], none)))))))
theorem rk_lA3 : RuOk SR ru_lA3 := by
  intro τ m g hi hc ha hS
  obtain ⟨i0, i1, i2, i3, i4, i5, i6, _⟩ := hi
  have t1199 : τ 1199 = some (g 0) := i0
  have t1101 : τ 1101 = some (g 1) := i1
  have t1105 : τ 1105 = some (g 2) := i2
  have t1107 : τ 1107 = some (g 3) := i3
  have t1106 : τ 1106 = some (g 4) := i4
  obtain ⟨jkn, ukn, vkn⟩ : ∃ j : Nat, 1 * g 1 + 0 = (j : Int) ∧ g 5 = m 24 j := i5
  obtain ⟨jsn, usn, vsn⟩ : ∃ j : Nat, 1 * g 1 + 0 = (j : Int) ∧ g 6 = m 25 j := i6
  obtain ⟨c0, c1, c2, c3, c4, c5, c6, _⟩ := hc
  have c0 : (-1) * g 3 + 1 * g 5 ≤ 0 := d2 c0
  have c1 : 1 * g 3 + (-1) * g 5 ≤ 0 := d2 c1
  have c2 : (-1) * g 2 + 1 * g 6 ≤ 0 := d2 c2
  have c3 : 1 * g 2 + (-1) * g 6 ≤ 0 := d2 c3
  have c4 : (-1) * g 1 ≤ 0 := d1 c4
  have c5 : 1 * g 3 ≤ 3 := d1 c5
  have c6 : (-1) * g 3 ≤ (-3) := d1 c6
  obtain ⟨a0, _⟩ := ha
  have n1104 : τ 1104 = none := a0
  obtain ⟨h0, k_tok, k_sc1, k_sc2, k_T, k_I, k_F, k_N, k_Y, k_Z, k_A, k_B, k_C, k_X, k_R, k_f4⟩ := hS (by rw [t1199]; exact fun e => by cases e)
  have k_tok0 := k_tok
  obtain ⟨h_L, h_n, h_nF⟩ := k_tok0
  have k_sc10 := k_sc1
  obtain ⟨h_qz, h_nz, h_s, h_ns, h_nE⟩ := k_sc10
  have k_sc20 := k_sc2
  obtain ⟨h_ske, h_skv, h_sku, h_sw, h_swm, h_swu, h_sf, h_sg⟩ := k_sc20
  have hXL : ((tx9 m).2 : Int) = m 110 1 := by
    show (((m 110 1).toNat : Nat) : Int) = _
    omega
  obtain ⟨hn0, hTS1, hTS2⟩ := h_n _ t1101
  obtain ⟨hns, hnl⟩ := h_ns _ _ t1101 t1105
  obtain ⟨hk, he⟩ := h_ske _ _ _ t1105 t1107 t1106
  rw [show (g 2).toNat = (Tp9 (tx9 m) (g 1).toNat) by omega] at hk he
  rw [show jkn = (g 1).toNat by omega] at vkn
  rw [show jsn = (g 1).toNat by omega] at vsn
  exact ⟨rfl, trivial, trivial, fun _ => ⟨h0, ⟨h_L, fun n9 e0 => by
      have e0 : g 1 + 1 = n9 := Option.some.inj e0
      subst e0
      have hnew : TK9 m (g 1).toNat := ⟨⟨by omega, by omega⟩, fun z => (by omega), fun z => (by omega), fun z => (by omega)⟩
      rw [show (g 1 + 1).toNat = (g 1).toNat + 1 by omega]
      refine ⟨by omega, fun i hi => ?_, fun i hi => ?_⟩
      · by_cases e : i = (g 1).toNat
        · rw [e]; exact hnew
        · exact hTS1 i (by omega)
      · by_cases e : i + 1 = (g 1).toNat
        · have := hnl (by omega)
          rw [show (g 1).toNat - 1 = i by omega] at this
          exact this
        · exact hTS2 i (by omega), h_nF⟩, ⟨h_qz, fun _ _ e0 e1 => no9 n1104 e1, fun _ e0 => no9 (o := none) rfl e0, fun _ _ e0 e1 => no9 (o := none) rfl e1, fun n9 E9 e0 e1 => by
      have e0 : g 1 + 1 = n9 := Option.some.inj e0
      subst e0
      have e1 : g 4 + 0 = E9 := Option.some.inj e1
      subst e1
      rw [show (g 1 + 1).toNat - 1 = (g 1).toNat by omega, Int.add_zero]
      exact ⟨by omega, he⟩⟩, ⟨fun _ _ _ e0 e1 e2 => no9 (o := none) rfl e0, fun _ _ _ e0 e1 e2 => no9 (o := none) rfl e0, fun _ _ _ e0 e1 e2 => no9 (o := none) rfl e0, fun _ _ e0 e1 => no9 (o := none) rfl e0, fun _ _ _ e0 e1 e2 => no9 (o := none) rfl e0, fun _ _ _ e0 e1 e2 => no9 (o := none) rfl e0, fun _ _ _ _ e0 e1 e2 e3 => no9 (o := none) rfl e0, fun _ _ _ _ e0 e1 e2 e3 => no9 (o := none) rfl e0⟩, k_T, k_I, k_F, k_N, k_Y, k_Z, k_A, k_B, k_C, k_X, k_R, k_f4⟩⟩
noncomputable def ru_lA5 : Ru := ([(0, (1199, (0, (0, 0)))), (0, (1101, (0, (0, 0)))), (0, (1105, (0, (0, 0)))), (0, (1107, (0, (0, 0)))), (0, (1106, (0, (0, 0)))), (9, (24, (1, (1, 0)))), (9, (25, (1, (1, 0))))], ([1104], ([([(3, (-1)), (5, 1)], 0), ([(3, 1), (5, (-1))], 0), ([(2, (-1)), (6, 1)], 0), ([(2, 1), (6, (-1))], 0), ([(1, (-1))], 0), ([(3, 1)], 5), ([(3, (-1))], (-5))], (false, ([], ([], ([(1101, some (1, 1)), (1116, some (4, 0)), (1105, none), (1107, none), (1106, none)], none)))))))
theorem rk_lA5 : RuOk SR ru_lA5 := by
  intro τ m g hi hc ha hS
  obtain ⟨i0, i1, i2, i3, i4, i5, i6, _⟩ := hi
  have t1199 : τ 1199 = some (g 0) := i0
  have t1101 : τ 1101 = some (g 1) := i1
  have t1105 : τ 1105 = some (g 2) := i2
  have t1107 : τ 1107 = some (g 3) := i3
  have t1106 : τ 1106 = some (g 4) := i4
  obtain ⟨jkn, ukn, vkn⟩ : ∃ j : Nat, 1 * g 1 + 0 = (j : Int) ∧ g 5 = m 24 j := i5
  obtain ⟨jsn, usn, vsn⟩ : ∃ j : Nat, 1 * g 1 + 0 = (j : Int) ∧ g 6 = m 25 j := i6
  obtain ⟨c0, c1, c2, c3, c4, c5, c6, _⟩ := hc
  have c0 : (-1) * g 3 + 1 * g 5 ≤ 0 := d2 c0
  have c1 : 1 * g 3 + (-1) * g 5 ≤ 0 := d2 c1
  have c2 : (-1) * g 2 + 1 * g 6 ≤ 0 := d2 c2
  have c3 : 1 * g 2 + (-1) * g 6 ≤ 0 := d2 c3
  have c4 : (-1) * g 1 ≤ 0 := d1 c4
  have c5 : 1 * g 3 ≤ 5 := d1 c5
  have c6 : (-1) * g 3 ≤ (-5) := d1 c6
  obtain ⟨a0, _⟩ := ha
  have n1104 : τ 1104 = none := a0
  obtain ⟨h0, k_tok, k_sc1, k_sc2, k_T, k_I, k_F, k_N, k_Y, k_Z, k_A, k_B, k_C, k_X, k_R, k_f4⟩ := hS (by rw [t1199]; exact fun e => by cases e)
  have k_tok0 := k_tok
  obtain ⟨h_L, h_n, h_nF⟩ := k_tok0
  have k_sc10 := k_sc1
  obtain ⟨h_qz, h_nz, h_s, h_ns, h_nE⟩ := k_sc10
  have k_sc20 := k_sc2
  obtain ⟨h_ske, h_skv, h_sku, h_sw, h_swm, h_swu, h_sf, h_sg⟩ := k_sc20
  have hXL : ((tx9 m).2 : Int) = m 110 1 := by
    show (((m 110 1).toNat : Nat) : Int) = _
    omega
  obtain ⟨hn0, hTS1, hTS2⟩ := h_n _ t1101
  obtain ⟨hns, hnl⟩ := h_ns _ _ t1101 t1105
  obtain ⟨hk, he⟩ := h_ske _ _ _ t1105 t1107 t1106
  rw [show (g 2).toNat = (Tp9 (tx9 m) (g 1).toNat) by omega] at hk he
  rw [show jkn = (g 1).toNat by omega] at vkn
  rw [show jsn = (g 1).toNat by omega] at vsn
  exact ⟨rfl, trivial, trivial, fun _ => ⟨h0, ⟨h_L, fun n9 e0 => by
      have e0 : g 1 + 1 = n9 := Option.some.inj e0
      subst e0
      have hnew : TK9 m (g 1).toNat := ⟨⟨by omega, by omega⟩, fun z => (by omega), fun z => (by omega), fun z => (by omega)⟩
      rw [show (g 1 + 1).toNat = (g 1).toNat + 1 by omega]
      refine ⟨by omega, fun i hi => ?_, fun i hi => ?_⟩
      · by_cases e : i = (g 1).toNat
        · rw [e]; exact hnew
        · exact hTS1 i (by omega)
      · by_cases e : i + 1 = (g 1).toNat
        · have := hnl (by omega)
          rw [show (g 1).toNat - 1 = i by omega] at this
          exact this
        · exact hTS2 i (by omega), h_nF⟩, ⟨h_qz, fun _ _ e0 e1 => no9 n1104 e1, fun _ e0 => no9 (o := none) rfl e0, fun _ _ e0 e1 => no9 (o := none) rfl e1, fun n9 E9 e0 e1 => by
      have e0 : g 1 + 1 = n9 := Option.some.inj e0
      subst e0
      have e1 : g 4 + 0 = E9 := Option.some.inj e1
      subst e1
      rw [show (g 1 + 1).toNat - 1 = (g 1).toNat by omega, Int.add_zero]
      exact ⟨by omega, he⟩⟩, ⟨fun _ _ _ e0 e1 e2 => no9 (o := none) rfl e0, fun _ _ _ e0 e1 e2 => no9 (o := none) rfl e0, fun _ _ _ e0 e1 e2 => no9 (o := none) rfl e0, fun _ _ e0 e1 => no9 (o := none) rfl e0, fun _ _ _ e0 e1 e2 => no9 (o := none) rfl e0, fun _ _ _ e0 e1 e2 => no9 (o := none) rfl e0, fun _ _ _ _ e0 e1 e2 e3 => no9 (o := none) rfl e0, fun _ _ _ _ e0 e1 e2 e3 => no9 (o := none) rfl e0⟩, k_T, k_I, k_F, k_N, k_Y, k_Z, k_A, k_B, k_C, k_X, k_R, k_f4⟩⟩
noncomputable def ru_lA4 : Ru := ([(0, (1199, (0, (0, 0)))), (0, (1101, (0, (0, 0)))), (0, (1105, (0, (0, 0)))), (0, (1107, (0, (0, 0)))), (0, (1106, (0, (0, 0)))), (9, (24, (1, (1, 0)))), (9, (25, (1, (1, 0)))), (0, (1108, (0, (0, 0)))), (9, (26, (1, (1, 0)))), (12, (1, (7, (0, 0))))], ([1104], ([([(3, (-1)), (5, 1)], 0), ([(3, 1), (5, (-1))], 0), ([(2, (-1)), (6, 1)], 0), ([(2, 1), (6, (-1))], 0), ([(1, (-1))], 0), ([(3, 1)], 4), ([(3, (-1))], (-4)), ([(8, 1), (9, (-1))], 0), ([(8, (-1)), (9, 1)], 0)], (false, ([], ([], ([(1101, some (1, 1)), (1116, some (4, 0)), (1105, none), (1107, none), (1106, none), (1108, none)], none)))))))
theorem rk_lA4 : RuOk SR ru_lA4 := by
  intro τ m g hi hc ha hS
  obtain ⟨i0, i1, i2, i3, i4, i5, i6, i7, i8, i9, _⟩ := hi
  have t1199 : τ 1199 = some (g 0) := i0
  have t1101 : τ 1101 = some (g 1) := i1
  have t1105 : τ 1105 = some (g 2) := i2
  have t1107 : τ 1107 = some (g 3) := i3
  have t1106 : τ 1106 = some (g 4) := i4
  obtain ⟨jkn, ukn, vkn⟩ : ∃ j : Nat, 1 * g 1 + 0 = (j : Int) ∧ g 5 = m 24 j := i5
  obtain ⟨jsn, usn, vsn⟩ : ∃ j : Nat, 1 * g 1 + 0 = (j : Int) ∧ g 6 = m 25 j := i6
  have t1108 : τ 1108 = some (g 7) := i7
  obtain ⟨jvn, uvn, vvn⟩ : ∃ j : Nat, 1 * g 1 + 0 = (j : Int) ∧ g 8 = m 26 j := i8
  have xt : g 9 = tb9 1 (g 7) := i9
  obtain ⟨c0, c1, c2, c3, c4, c5, c6, c7, c8, _⟩ := hc
  have c0 : (-1) * g 3 + 1 * g 5 ≤ 0 := d2 c0
  have c1 : 1 * g 3 + (-1) * g 5 ≤ 0 := d2 c1
  have c2 : (-1) * g 2 + 1 * g 6 ≤ 0 := d2 c2
  have c3 : 1 * g 2 + (-1) * g 6 ≤ 0 := d2 c3
  have c4 : (-1) * g 1 ≤ 0 := d1 c4
  have c5 : 1 * g 3 ≤ 4 := d1 c5
  have c6 : (-1) * g 3 ≤ (-4) := d1 c6
  have c7 : 1 * g 8 + (-1) * g 9 ≤ 0 := d2 c7
  have c8 : (-1) * g 8 + 1 * g 9 ≤ 0 := d2 c8
  obtain ⟨a0, _⟩ := ha
  have n1104 : τ 1104 = none := a0
  obtain ⟨h0, k_tok, k_sc1, k_sc2, k_T, k_I, k_F, k_N, k_Y, k_Z, k_A, k_B, k_C, k_X, k_R, k_f4⟩ := hS (by rw [t1199]; exact fun e => by cases e)
  have k_tok0 := k_tok
  obtain ⟨h_L, h_n, h_nF⟩ := k_tok0
  have k_sc10 := k_sc1
  obtain ⟨h_qz, h_nz, h_s, h_ns, h_nE⟩ := k_sc10
  have k_sc20 := k_sc2
  obtain ⟨h_ske, h_skv, h_sku, h_sw, h_swm, h_swu, h_sf, h_sg⟩ := k_sc20
  have hXL : ((tx9 m).2 : Int) = m 110 1 := by
    show (((m 110 1).toNat : Nat) : Int) = _
    omega
  obtain ⟨hn0, hTS1, hTS2⟩ := h_n _ t1101
  obtain ⟨hns, hnl⟩ := h_ns _ _ t1101 t1105
  obtain ⟨hk, he⟩ := h_ske _ _ _ t1105 t1107 t1106
  rw [show (g 2).toNat = (Tp9 (tx9 m) (g 1).toNat) by omega] at hk he
  rw [show jkn = (g 1).toNat by omega] at vkn
  rw [show jsn = (g 1).toNat by omega] at vsn
  rw [show jvn = (g 1).toNat by omega] at vvn
  have hv := (h_skv _ _ _ t1105 t1107 t1108).2 (by omega)
  rw [show (g 2).toNat = (Tp9 (tx9 m) (g 1).toNat) by omega] at hv
  have hr := rc_kd.2.2.2.2.1 (show kd9 (tx9 m) (Tp9 (tx9 m) (g 1).toNat) = 4 by omega)
  obtain ⟨_, hsg⟩ := sg_tb (X := tx9 m) (p := (Tp9 (tx9 m) (g 1).toNat)) (by omega) (by omega)
  rw [← hv] at hsg
  exact ⟨rfl, trivial, trivial, fun _ => ⟨h0, ⟨h_L, fun n9 e0 => by
      have e0 : g 1 + 1 = n9 := Option.some.inj e0
      subst e0
      have hnew : TK9 m (g 1).toNat := ⟨⟨by omega, by omega⟩, fun z => (by omega), fun z => (by omega), fun z => (by omega)⟩
      rw [show (g 1 + 1).toNat = (g 1).toNat + 1 by omega]
      refine ⟨by omega, fun i hi => ?_, fun i hi => ?_⟩
      · by_cases e : i = (g 1).toNat
        · rw [e]; exact hnew
        · exact hTS1 i (by omega)
      · by_cases e : i + 1 = (g 1).toNat
        · have := hnl (by omega)
          rw [show (g 1).toNat - 1 = i by omega] at this
          exact this
        · exact hTS2 i (by omega), h_nF⟩, ⟨h_qz, fun _ _ e0 e1 => no9 n1104 e1, fun _ e0 => no9 (o := none) rfl e0, fun _ _ e0 e1 => no9 (o := none) rfl e1, fun n9 E9 e0 e1 => by
      have e0 : g 1 + 1 = n9 := Option.some.inj e0
      subst e0
      have e1 : g 4 + 0 = E9 := Option.some.inj e1
      subst e1
      rw [show (g 1 + 1).toNat - 1 = (g 1).toNat by omega, Int.add_zero]
      exact ⟨by omega, he⟩⟩, ⟨fun _ _ _ e0 e1 e2 => no9 (o := none) rfl e0, fun _ _ _ e0 e1 e2 => no9 (o := none) rfl e0, fun _ _ _ e0 e1 e2 => no9 (o := none) rfl e0, fun _ _ e0 e1 => no9 (o := none) rfl e0, fun _ _ _ e0 e1 e2 => no9 (o := none) rfl e0, fun _ _ _ e0 e1 e2 => no9 (o := none) rfl e0, fun _ _ _ _ e0 e1 e2 e3 => no9 (o := none) rfl e0, fun _ _ _ _ e0 e1 e2 e3 => no9 (o := none) rfl e0⟩, k_T, k_I, k_F, k_N, k_Y, k_Z, k_A, k_B, k_C, k_X, k_R, k_f4⟩⟩
noncomputable def ru_lOk : Ru := ([(0, (1199, (0, (0, 0)))), (0, (1101, (0, (0, 0)))), (0, (1116, (0, (0, 0)))), (9, (24, (1, (1, (-1)))))], ([1103, 1104, 1105, 1107], ([([(3, (-1))], (-1)), ([(3, 1)], 4), ([(1, (-1))], (-1))], (false, ([], ([], ([(1103, some (2, 0)), (1116, none)], some (1104, (0, 1200)))))))))
theorem rk_lOk : RuOk SR ru_lOk := by
  intro τ m g hi hc ha hS
  obtain ⟨i0, i1, i2, i3, _⟩ := hi
  have t1199 : τ 1199 = some (g 0) := i0
  have t1101 : τ 1101 = some (g 1) := i1
  have t1116 : τ 1116 = some (g 2) := i2
  obtain ⟨jk1, uk1, vk1⟩ : ∃ j : Nat, 1 * g 1 + (-1) = (j : Int) ∧ g 3 = m 24 j := i3
  obtain ⟨c0, c1, c2, _⟩ := hc
  have c0 : (-1) * g 3 ≤ (-1) := d1 c0
  have c1 : 1 * g 3 ≤ 4 := d1 c1
  have c2 : (-1) * g 1 ≤ (-1) := d1 c2
  obtain ⟨a0, a1, a2, a3, _⟩ := ha
  have n1103 : τ 1103 = none := a0
  have n1104 : τ 1104 = none := a1
  have n1105 : τ 1105 = none := a2
  have n1107 : τ 1107 = none := a3
  obtain ⟨h0, k_tok, k_sc1, k_sc2, k_T, k_I, k_F, k_N, k_Y, k_Z, k_A, k_B, k_C, k_X, k_R, k_f4⟩ := hS (by rw [t1199]; exact fun e => by cases e)
  have k_tok0 := k_tok
  obtain ⟨h_L, h_n, h_nF⟩ := k_tok0
  have k_sc10 := k_sc1
  obtain ⟨h_qz, h_nz, h_s, h_ns, h_nE⟩ := k_sc10
  have hXL : ((tx9 m).2 : Int) = m 110 1 := by
    show (((m 110 1).toNat : Nat) : Int) = _
    omega
  obtain ⟨hn0, hTS1, hTS2⟩ := h_n _ t1101
  rw [show jk1 = (g 1).toNat - 1 by omega] at vk1
  have hlast := (hTS1 ((g 1).toNat - 1) (by omega)).1.2
  have hrk := rc_kd (X := tx9 m) (p := Tp9 (tx9 m) ((g 1).toNat - 1))
  have hr2 : 2 ≤ rc9 (tx9 m) (Tp9 (tx9 m) ((g 1).toNat - 1)) := by
    rcases (by omega : kd9 (tx9 m) (Tp9 (tx9 m) ((g 1).toNat - 1)) = 1 ∨ kd9 (tx9 m) (Tp9 (tx9 m) ((g 1).toNat - 1)) = 2 ∨ kd9 (tx9 m) (Tp9 (tx9 m) ((g 1).toNat - 1)) = 3 ∨ kd9 (tx9 m) (Tp9 (tx9 m) ((g 1).toNat - 1)) = 4) with e | e | e | e
    · have := hrk.2.1 e; omega
    · have := hrk.2.2.1 e; omega
    · have := hrk.2.2.2.1 e; omega
    · have := hrk.2.2.2.2.1 e; omega
  obtain ⟨hn1, hE⟩ := h_nE _ _ t1101 t1116
  obtain ⟨x0, hx0⟩ : ∃ x0 : Int, x0 = (sk9 (tx9 m) (g 2).toNat : Int) := ⟨_, rfl⟩
  have hSL := St_L (X := tx9 m) (i := (g 1).toNat - 1)
  have hte := te_P (m := m) (p := Tp9 (tx9 m) ((g 1).toNat - 1)) (by omega)
  have x1 : 0 ≤ x0 := by omega
  have x2 : x0 ≤ 1200 := by
    have := sk_L (m := m) (p := (g 2).toNat) (by omega) h0.2
    omega
  exact ⟨rfl, trivial, trivial, x0, x1, x2, fun _ => ⟨h0, k_tok, ⟨fun q9 z9 e0 e1 => by
      have e0 : g 2 + 0 = q9 := Option.some.inj e0
      subst e0
      have e1 : x0 = z9 := Option.some.inj e1
      subst e1
      rw [Int.add_zero]
      exact ⟨⟨by omega, by omega⟩, hx0⟩, fun n9 z9 e0 e1 => by
      have e0 : g 1 = n9 := Option.some.inj (t1101.symm.trans e0)
      subst e0
      have e1 : x0 = z9 := Option.some.inj e1
      subst e1
      refine ⟨?_, fun _ => hr2⟩
      rw [hx0, show (g 2).toNat = te9 (tx9 m) (Tp9 (tx9 m) ((g 1).toNat - 1)) by omega]
      have e : (g 1).toNat = (g 1).toNat - 1 + 1 := by omega
      rw [show Tp9 (tx9 m) (g 1).toNat = Tp9 (tx9 m) ((g 1).toNat - 1 + 1) from congrArg _ e]
      rfl, h_s, h_ns, fun _ _ e0 e1 => no9 (o := none) rfl e1⟩, k_sc2, k_T, k_I, k_F, k_N, k_Y, k_Z, k_A, k_B, k_C, k_X, k_R, k_f4⟩⟩
noncomputable def ru_lBad : Ru := ([(0, (1199, (0, (0, 0)))), (0, (1101, (0, (0, 0)))), (0, (1116, (0, (0, 0)))), (9, (24, (1, (1, (-1)))))], ([1105, 1107, 1122, 1130, 1140, 1146, 1200], ([([(3, 1)], 5), ([(3, (-1))], (-5)), ([(1, (-1))], (-1))], (false, ([], ([], ([(1102, some (1, 0)), (1101, none), (1116, none)], none)))))))
theorem rk_lBad : RuOk SR ru_lBad := by
  intro τ m g hi hc ha hS
  obtain ⟨i0, i1, i2, i3, _⟩ := hi
  have t1199 : τ 1199 = some (g 0) := i0
  have t1101 : τ 1101 = some (g 1) := i1
  have t1116 : τ 1116 = some (g 2) := i2
  obtain ⟨jk1, uk1, vk1⟩ : ∃ j : Nat, 1 * g 1 + (-1) = (j : Int) ∧ g 3 = m 24 j := i3
  obtain ⟨c0, c1, c2, _⟩ := hc
  have c0 : 1 * g 3 ≤ 5 := d1 c0
  have c1 : (-1) * g 3 ≤ (-5) := d1 c1
  have c2 : (-1) * g 1 ≤ (-1) := d1 c2
  obtain ⟨a0, a1, a2, a3, a4, a5, a6, _⟩ := ha
  have n1105 : τ 1105 = none := a0
  have n1107 : τ 1107 = none := a1
  have n1122 : τ 1122 = none := a2
  have n1130 : τ 1130 = none := a3
  have n1140 : τ 1140 = none := a4
  have n1146 : τ 1146 = none := a5
  have n1200 : τ 1200 = none := a6
  obtain ⟨h0, k_tok, k_sc1, k_sc2, k_T, k_I, k_F, k_N, k_Y, k_Z, k_A, k_B, k_C, k_X, k_R, k_f4⟩ := hS (by rw [t1199]; exact fun e => by cases e)
  have k_tok0 := k_tok
  obtain ⟨h_L, h_n, h_nF⟩ := k_tok0
  have k_sc10 := k_sc1
  obtain ⟨h_qz, h_nz, h_s, h_ns, h_nE⟩ := k_sc10
  have k_I0 := k_I
  obtain ⟨h_p, h_pc, h_ip, h_iP, h_PC, h_PN⟩ := k_I0
  have k_A0 := k_A
  obtain ⟨h_A0, h_A⟩ := k_A0
  have k_B0 := k_B
  obtain ⟨h_B0, h_B, h_Bd0, h_B26, h_B22, h_Bs⟩ := k_B0
  have k_C0 := k_C
  obtain ⟨h_C0, h_C, h_Ci0, h_Cp⟩ := k_C0
  have hXL : ((tx9 m).2 : Int) = m 110 1 := by
    show (((m 110 1).toNat : Nat) : Int) = _
    omega
  obtain ⟨hn0, hTS1, hTS2⟩ := h_n _ t1101
  rw [show jk1 = (g 1).toNat - 1 by omega] at vk1
  have hlast := (hTS1 ((g 1).toNat - 1) (by omega)).1.2
  have hr := rc_kd (X := tx9 m) (p := Tp9 (tx9 m) ((g 1).toNat - 1))
  have hr1 : rc9 (tx9 m) (Tp9 (tx9 m) ((g 1).toNat - 1)) ≤ 1 := by
    have := hr.2.2.2.2.2 (by omega)
    omega
  exact ⟨rfl, trivial, trivial, fun _ => ⟨h0, ⟨h_L, fun _ e0 => no9 (o := none) rfl e0, fun nF e0 => by
      have e0 : g 1 + 0 = nF := Option.some.inj e0
      subst e0
      rw [Int.add_zero]
      exact ⟨hn0, ⟨hTS1, hTS2⟩, by omega, hTS2, hr1⟩⟩, ⟨h_qz, fun _ _ e0 e1 => no9 (o := none) rfl e0, h_s, fun _ _ e0 e1 => no9 (o := none) rfl e0, fun _ _ e0 e1 => no9 (o := none) rfl e0⟩, k_sc2, k_T, ⟨h_p, h_pc, fun _ _ _ e0 e1 e2 => no9 n1122 e1, h_iP, h_PC, h_PN⟩, k_F, k_N, k_Y, k_Z, ⟨fun _ _ _ _ _ e0 e1 e2 e3 e4 => no9 n1130 e1, fun _ _ _ _ _ _ e0 e1 e2 e3 e4 e5 => no9 n1130 e1⟩, ⟨fun _ _ _ _ _ e0 e1 e2 e3 e4 => no9 n1140 e1, fun _ _ _ _ _ _ e0 e1 e2 e3 e4 e5 => no9 n1140 e1, h_Bd0, h_B26, h_B22, fun _ _ _ e0 e1 e2 => no9 n1146 e1⟩, ⟨fun _ _ _ _ _ e0 e1 e2 e3 e4 => no9 n1200 e1, fun _ _ _ _ _ _ e0 e1 e2 e3 e4 e5 => no9 n1200 e1, h_Ci0, h_Cp⟩, k_X, k_R, k_f4⟩⟩
noncomputable def ru_lEnd : Ru := ([(0, (1199, (0, (0, 0)))), (0, (1101, (0, (0, 0)))), (0, (1116, (0, (0, 0)))), (9, (24, (1, (1, (-1)))))], ([1105, 1107, 1122, 1130, 1140, 1146, 1200], ([([(3, 1)], 0), ([(3, (-1))], 0), ([(1, (-1))], (-1))], (false, ([], ([], ([(1102, some (1, 0)), (1101, none), (1116, none)], none)))))))
theorem rk_lEnd : RuOk SR ru_lEnd := by
  intro τ m g hi hc ha hS
  obtain ⟨i0, i1, i2, i3, _⟩ := hi
  have t1199 : τ 1199 = some (g 0) := i0
  have t1101 : τ 1101 = some (g 1) := i1
  have t1116 : τ 1116 = some (g 2) := i2
  obtain ⟨jk1, uk1, vk1⟩ : ∃ j : Nat, 1 * g 1 + (-1) = (j : Int) ∧ g 3 = m 24 j := i3
  obtain ⟨c0, c1, c2, _⟩ := hc
  have c0 : 1 * g 3 ≤ 0 := d1 c0
  have c1 : (-1) * g 3 ≤ 0 := d1 c1
  have c2 : (-1) * g 1 ≤ (-1) := d1 c2
  obtain ⟨a0, a1, a2, a3, a4, a5, a6, _⟩ := ha
  have n1105 : τ 1105 = none := a0
  have n1107 : τ 1107 = none := a1
  have n1122 : τ 1122 = none := a2
  have n1130 : τ 1130 = none := a3
  have n1140 : τ 1140 = none := a4
  have n1146 : τ 1146 = none := a5
  have n1200 : τ 1200 = none := a6
  obtain ⟨h0, k_tok, k_sc1, k_sc2, k_T, k_I, k_F, k_N, k_Y, k_Z, k_A, k_B, k_C, k_X, k_R, k_f4⟩ := hS (by rw [t1199]; exact fun e => by cases e)
  have k_tok0 := k_tok
  obtain ⟨h_L, h_n, h_nF⟩ := k_tok0
  have k_sc10 := k_sc1
  obtain ⟨h_qz, h_nz, h_s, h_ns, h_nE⟩ := k_sc10
  have k_I0 := k_I
  obtain ⟨h_p, h_pc, h_ip, h_iP, h_PC, h_PN⟩ := k_I0
  have k_A0 := k_A
  obtain ⟨h_A0, h_A⟩ := k_A0
  have k_B0 := k_B
  obtain ⟨h_B0, h_B, h_Bd0, h_B26, h_B22, h_Bs⟩ := k_B0
  have k_C0 := k_C
  obtain ⟨h_C0, h_C, h_Ci0, h_Cp⟩ := k_C0
  have hXL : ((tx9 m).2 : Int) = m 110 1 := by
    show (((m 110 1).toNat : Nat) : Int) = _
    omega
  obtain ⟨hn0, hTS1, hTS2⟩ := h_n _ t1101
  rw [show jk1 = (g 1).toNat - 1 by omega] at vk1
  have hlast := (hTS1 ((g 1).toNat - 1) (by omega)).1.2
  have hr := rc_kd (X := tx9 m) (p := Tp9 (tx9 m) ((g 1).toNat - 1))
  have hr1 : rc9 (tx9 m) (Tp9 (tx9 m) ((g 1).toNat - 1)) ≤ 1 := by
    have := hr.1 (by omega)
    omega
  exact ⟨rfl, trivial, trivial, fun _ => ⟨h0, ⟨h_L, fun _ e0 => no9 (o := none) rfl e0, fun nF e0 => by
      have e0 : g 1 + 0 = nF := Option.some.inj e0
      subst e0
      rw [Int.add_zero]
      exact ⟨hn0, ⟨hTS1, hTS2⟩, by omega, hTS2, hr1⟩⟩, ⟨h_qz, fun _ _ e0 e1 => no9 (o := none) rfl e0, h_s, fun _ _ e0 e1 => no9 (o := none) rfl e0, fun _ _ e0 e1 => no9 (o := none) rfl e0⟩, k_sc2, k_T, ⟨h_p, h_pc, fun _ _ _ e0 e1 e2 => no9 n1122 e1, h_iP, h_PC, h_PN⟩, k_F, k_N, k_Y, k_Z, ⟨fun _ _ _ _ _ e0 e1 e2 e3 e4 => no9 n1130 e1, fun _ _ _ _ _ _ e0 e1 e2 e3 e4 e5 => no9 n1130 e1⟩, ⟨fun _ _ _ _ _ e0 e1 e2 e3 e4 => no9 n1140 e1, fun _ _ _ _ _ _ e0 e1 e2 e3 e4 e5 => no9 n1140 e1, h_Bd0, h_B26, h_B22, fun _ _ _ e0 e1 e2 => no9 n1146 e1⟩, ⟨fun _ _ _ _ _ e0 e1 e2 e3 e4 => no9 n1200 e1, fun _ _ _ _ _ _ e0 e1 e2 e3 e4 e5 => no9 n1200 e1, h_Ci0, h_Cp⟩, k_X, k_R, k_f4⟩⟩
noncomputable def ru_ci : Ru := ([(0, (1199, (0, (0, 0)))), (0, (1102, (0, (0, 0)))), (5, (17, (14, (0, 0))))], ([1122, 1123, 1124, 1125], ([([(2, (-1))], 0), ([(1, (-1)), (2, 1)], (-1))], (false, ([], ([], ([(1122, some (2, 0))], some (1123, (0, 1200)))))))))
theorem rk_ci : RuOk SR ru_ci := by
  intro τ m g hi hc ha hS
  obtain ⟨i0, i1, i2, _⟩ := hi
  have t1199 : τ 1199 = some (g 0) := i0
  have t1102 : τ 1102 = some (g 1) := i1
  have xa : g 2 = m 17 14 := i2
  obtain ⟨c0, c1, _⟩ := hc
  have c0 : (-1) * g 2 ≤ 0 := d1 c0
  have c1 : (-1) * g 1 + 1 * g 2 ≤ (-1) := d2 c1
  obtain ⟨a0, a1, a2, a3, _⟩ := ha
  have n1122 : τ 1122 = none := a0
  have n1123 : τ 1123 = none := a1
  have n1124 : τ 1124 = none := a2
  have n1125 : τ 1125 = none := a3
  obtain ⟨h0, k_tok, k_sc1, k_sc2, k_T, k_I, k_F, k_N, k_Y, k_Z, k_A, k_B, k_C, k_X, k_R, k_f4⟩ := hS (by rw [t1199]; exact fun e => by cases e)
  have k_tok0 := k_tok
  obtain ⟨h_L, h_n, h_nF⟩ := k_tok0
  have k_I0 := k_I
  obtain ⟨h_p, h_pc, h_ip, h_iP, h_PC, h_PN⟩ := k_I0
  obtain ⟨hn0, _, hNT⟩ := h_nF _ t1102
  have hXL : ((tx9 m).2 : Int) = m 110 1 := by
    show (((m 110 1).toNat : Nat) : Int) = _
    omega
  have hSL := St_L (X := tx9 m) (i := (g 2).toNat)
  obtain ⟨x0, hx0⟩ : ∃ x0 : Int, x0 = (Tp9 (tx9 m) (g 2).toNat : Int) := ⟨_, rfl⟩
  have x1 : 0 ≤ x0 := by omega
  have x2 : x0 ≤ 1200 := by omega
  exact ⟨rfl, trivial, trivial, x0, x1, x2, fun _ => ⟨h0, k_tok, k_sc1, k_sc2, k_T, ⟨fun p9 e0 => by
      have e0 : x0 = p9 := Option.some.inj e0
      subst e0
      exact ⟨by omega, by omega⟩, fun _ _ e0 e1 => no9 n1124 e1, fun nF i9 p9 e0 e1 e2 => by
      have e0 : g 1 = nF := Option.some.inj (t1102.symm.trans e0)
      subst e0
      have e1 : g 2 + 0 = i9 := Option.some.inj e1
      subst e1
      have e2 : x0 = p9 := Option.some.inj e2
      subst e2
      rw [Int.add_zero]
      exact ⟨⟨by omega, by omega⟩, hx0⟩, fun _ _ _ e0 e1 e2 => no9 n1125 e2, h_PC, h_PN⟩, k_F, k_N, k_Y, k_Z, k_A, k_B, k_C, k_X, k_R, k_f4⟩⟩
noncomputable def ru_ps : Ru := ([(0, (1199, (0, (0, 0)))), (0, (1102, (0, (0, 0)))), (0, (1122, (0, (0, 0)))), (0, (1123, (0, (0, 0))))], ([], ([], (false, ([], ([(25, (2, 3))], ([], none)))))))
theorem rk_ps : RuOk SR ru_ps := by
  intro τ m g hi hc ha hS
  obtain ⟨i0, i1, i2, i3, _⟩ := hi
  have t1199 : τ 1199 = some (g 0) := i0
  have t1102 : τ 1102 = some (g 1) := i1
  have t1122 : τ 1122 = some (g 2) := i2
  have t1123 : τ 1123 = some (g 3) := i3
  obtain ⟨h0, k_tok, k_sc1, k_sc2, k_T, k_I, k_F, k_N, k_Y, k_Z, k_A, k_B, k_C, k_X, k_R, k_f4⟩ := hS (by rw [t1199]; exact fun e => by cases e)
  have k_tok0 := k_tok
  obtain ⟨h_L, h_n, h_nF⟩ := k_tok0
  have k_I0 := k_I
  obtain ⟨h_p, h_pc, h_ip, h_iP, h_PC, h_PN⟩ := k_I0
  obtain ⟨hn0, _, hNT⟩ := h_nF _ t1102
  have hXL : ((tx9 m).2 : Int) = m 110 1 := by
    show (((m 110 1).toNat : Nat) : Int) = _
    omega
  obtain ⟨⟨hi0, hi1⟩, hpi⟩ := h_ip _ _ _ t1102 t1122 t1123
  have hTK := (h_nF _ t1102).2.1.1 (g 2).toNat (by omega)
  have hSL := St_L (X := tx9 m) (i := (g 2).toNat)
  exact ⟨rfl, trivial, ⟨⟨(g 2).toNat, (show g 2 = (((g 2).toNat : Nat) : Int) by omega), (show g 3 = m 25 ((g 2).toNat) by have := hTK.1.1; omega)⟩, trivial⟩, fun _ => ⟨h0, k_tok, k_sc1, k_sc2, k_T, k_I, k_F, k_N, k_Y, k_Z, k_A, k_B, k_C, k_X, k_R, k_f4⟩⟩
noncomputable def ru_pf : Ru := ([(0, (1199, (0, (0, 0)))), (0, (1102, (0, (0, 0)))), (0, (1122, (0, (0, 0)))), (0, (1123, (0, (0, 0))))], ([], ([], (false, ([([(1, (-1)), (2, 1)], (-1)), ([(2, (-1))], 0), ([(2, 1), (3, (-1))], 0)], ([], ([], none)))))))
theorem rk_pf : RuOk SR ru_pf := by
  intro τ m g hi hc ha hS
  obtain ⟨i0, i1, i2, i3, _⟩ := hi
  have t1199 : τ 1199 = some (g 0) := i0
  have t1102 : τ 1102 = some (g 1) := i1
  have t1122 : τ 1122 = some (g 2) := i2
  have t1123 : τ 1123 = some (g 3) := i3
  obtain ⟨h0, k_tok, k_sc1, k_sc2, k_T, k_I, k_F, k_N, k_Y, k_Z, k_A, k_B, k_C, k_X, k_R, k_f4⟩ := hS (by rw [t1199]; exact fun e => by cases e)
  have k_tok0 := k_tok
  obtain ⟨h_L, h_n, h_nF⟩ := k_tok0
  have k_I0 := k_I
  obtain ⟨h_p, h_pc, h_ip, h_iP, h_PC, h_PN⟩ := k_I0
  obtain ⟨hn0, _, hNT⟩ := h_nF _ t1102
  have hXL : ((tx9 m).2 : Int) = m 110 1 := by
    show (((m 110 1).toNat : Nat) : Int) = _
    omega
  obtain ⟨⟨hi0, hi1⟩, hpi⟩ := h_ip _ _ _ t1102 t1122 t1123
  have hTK := (h_nF _ t1102).2.1.1 (g 2).toNat (by omega)
  have hSL := St_L (X := tx9 m) (i := (g 2).toNat)
  have hge := St_ge hNT (i := (g 2).toNat) (by omega)
  exact ⟨rfl, ⟨f2 (by omega), f1 (by omega), f2 (by omega), trivial⟩, trivial, fun _ => ⟨h0, k_tok, k_sc1, k_sc2, k_T, k_I, k_F, k_N, k_Y, k_Z, k_A, k_B, k_C, k_X, k_R, k_f4⟩⟩
noncomputable def ru_cc : Ru := ([(0, (1199, (0, (0, 0)))), (0, (1102, (0, (0, 0)))), (0, (1122, (0, (0, 0)))), (0, (1123, (0, (0, 0))))], ([1124], ([], (false, ([], ([], ([], some (1124, (0, 51)))))))))
theorem rk_cc : RuOk SR ru_cc := by
  intro τ m g hi hc ha hS
  obtain ⟨i0, i1, i2, i3, _⟩ := hi
  have t1199 : τ 1199 = some (g 0) := i0
  have t1102 : τ 1102 = some (g 1) := i1
  have t1122 : τ 1122 = some (g 2) := i2
  have t1123 : τ 1123 = some (g 3) := i3
  obtain ⟨a0, _⟩ := ha
  have n1124 : τ 1124 = none := a0
  obtain ⟨h0, k_tok, k_sc1, k_sc2, k_T, k_I, k_F, k_N, k_Y, k_Z, k_A, k_B, k_C, k_X, k_R, k_f4⟩ := hS (by rw [t1199]; exact fun e => by cases e)
  have k_tok0 := k_tok
  obtain ⟨h_L, h_n, h_nF⟩ := k_tok0
  have k_I0 := k_I
  obtain ⟨h_p, h_pc, h_ip, h_iP, h_PC, h_PN⟩ := k_I0
  obtain ⟨hn0, _, hNT⟩ := h_nF _ t1102
  have hXL : ((tx9 m).2 : Int) = m 110 1 := by
    show (((m 110 1).toNat : Nat) : Int) = _
    omega
  obtain ⟨⟨hi0, hi1⟩, hpi⟩ := h_ip _ _ _ t1102 t1122 t1123
  have hTK := (h_nF _ t1102).2.1.1 (g 2).toNat (by omega)
  have hSL := St_L (X := tx9 m) (i := (g 2).toNat)
  obtain ⟨x0, hx0⟩ : ∃ x0 : Int, x0 = (rc9 (tx9 m) (g 3).toNat : Int) := ⟨_, rfl⟩
  have x1 : 0 ≤ x0 := by omega
  have x2 : x0 ≤ 51 := by
    have := rc_le (X := tx9 m) (p := (g 3).toNat)
    omega
  exact ⟨rfl, trivial, trivial, x0, x1, x2, fun _ => ⟨h0, k_tok, k_sc1, k_sc2, k_T, ⟨h_p, fun p9 c9 e0 e1 => by
      have e0 : g 3 = p9 := Option.some.inj (t1123.symm.trans e0)
      subst e0
      have e1 : x0 = c9 := Option.some.inj e1
      subst e1
      exact hx0, h_ip, h_iP, h_PC, h_PN⟩, k_F, k_N, k_Y, k_Z, k_A, k_B, k_C, k_X, k_R, k_f4⟩⟩
noncomputable def ru_dc : Ru := ([], ([], ([], (false, ([], ([], ([(1124, none)], none)))))))
theorem rk_dc : RuOk SR ru_dc := by
  intro τ m g hi hc ha hS
  refine ⟨rfl, trivial, trivial, fun hM => ?_⟩
  obtain ⟨h0, k_tok, k_sc1, k_sc2, k_T, k_I, k_F, k_N, k_Y, k_Z, k_A, k_B, k_C, k_X, k_R, k_f4⟩ := hS hM
  have k_I0 := k_I
  obtain ⟨h_p, h_pc, h_ip, h_iP, h_PC, h_PN⟩ := k_I0
  exact ⟨h0, k_tok, k_sc1, k_sc2, k_T, ⟨h_p, fun _ _ e0 e1 => no9 (o := none) rfl e1, h_ip, h_iP, h_PC, h_PN⟩, k_F, k_N, k_Y, k_Z, k_A, k_B, k_C, k_X, k_R, k_f4⟩
noncomputable def ru_hk0 : Ru := ([(0, (1199, (0, (0, 0)))), (0, (1102, (0, (0, 0)))), (0, (1122, (0, (0, 0)))), (0, (1123, (0, (0, 0)))), (0, (1124, (0, (0, 0)))), (4, (0, (0, (0, 0))))], ([], ([([(4, (-1))], (-1)), ([(4, 1)], 1)], (false, ([], ([(24, (2, 5))], ([], none)))))))
theorem rk_hk0 : RuOk SR ru_hk0 := by
  intro τ m g hi hc ha hS
  obtain ⟨i0, i1, i2, i3, i4, i5, _⟩ := hi
  have t1199 : τ 1199 = some (g 0) := i0
  have t1102 : τ 1102 = some (g 1) := i1
  have t1122 : τ 1122 = some (g 2) := i2
  have t1123 : τ 1123 = some (g 3) := i3
  have t1124 : τ 1124 = some (g 4) := i4
  have xk : g 5 = 0 := i5
  obtain ⟨c0, c1, _⟩ := hc
  have c0 : (-1) * g 4 ≤ (-1) := d1 c0
  have c1 : 1 * g 4 ≤ 1 := d1 c1
  obtain ⟨h0, k_tok, k_sc1, k_sc2, k_T, k_I, k_F, k_N, k_Y, k_Z, k_A, k_B, k_C, k_X, k_R, k_f4⟩ := hS (by rw [t1199]; exact fun e => by cases e)
  have k_tok0 := k_tok
  obtain ⟨h_L, h_n, h_nF⟩ := k_tok0
  have k_I0 := k_I
  obtain ⟨h_p, h_pc, h_ip, h_iP, h_PC, h_PN⟩ := k_I0
  obtain ⟨hn0, _, hNT⟩ := h_nF _ t1102
  have hXL : ((tx9 m).2 : Int) = m 110 1 := by
    show (((m 110 1).toNat : Nat) : Int) = _
    omega
  obtain ⟨⟨hi0, hi1⟩, hpi⟩ := h_ip _ _ _ t1102 t1122 t1123
  have hTK := (h_nF _ t1102).2.1.1 (g 2).toNat (by omega)
  have hSL := St_L (X := tx9 m) (i := (g 2).toNat)
  have hcc := h_pc _ _ t1123 t1124
  rw [show (g 3).toNat = Tp9 (tx9 m) (g 2).toNat by omega] at hcc
  have hko := kd_of (X := tx9 m) (p := Tp9 (tx9 m) (g 2).toNat)
  exact ⟨rfl, trivial, ⟨⟨(g 2).toNat, (show g 2 = (((g 2).toNat : Nat) : Int) by omega), (show g 5 = m 24 ((g 2).toNat) by have := hTK.1.2; omega)⟩, trivial⟩, fun _ => ⟨h0, k_tok, k_sc1, k_sc2, k_T, k_I, k_F, k_N, k_Y, k_Z, k_A, k_B, k_C, k_X, k_R, k_f4⟩⟩
noncomputable def ru_hk1 : Ru := ([(0, (1199, (0, (0, 0)))), (0, (1102, (0, (0, 0)))), (0, (1122, (0, (0, 0)))), (0, (1123, (0, (0, 0)))), (0, (1124, (0, (0, 0)))), (4, (0, (0, (1, 0))))], ([], ([([(4, (-1))], (-21)), ([(4, 1)], 51)], (false, ([], ([(24, (2, 5))], ([], none)))))))
theorem rk_hk1 : RuOk SR ru_hk1 := by
  intro τ m g hi hc ha hS
  obtain ⟨i0, i1, i2, i3, i4, i5, _⟩ := hi
  have t1199 : τ 1199 = some (g 0) := i0
  have t1102 : τ 1102 = some (g 1) := i1
  have t1122 : τ 1122 = some (g 2) := i2
  have t1123 : τ 1123 = some (g 3) := i3
  have t1124 : τ 1124 = some (g 4) := i4
  have xk : g 5 = 1 := i5
  obtain ⟨c0, c1, _⟩ := hc
  have c0 : (-1) * g 4 ≤ (-21) := d1 c0
  have c1 : 1 * g 4 ≤ 51 := d1 c1
  obtain ⟨h0, k_tok, k_sc1, k_sc2, k_T, k_I, k_F, k_N, k_Y, k_Z, k_A, k_B, k_C, k_X, k_R, k_f4⟩ := hS (by rw [t1199]; exact fun e => by cases e)
  have k_tok0 := k_tok
  obtain ⟨h_L, h_n, h_nF⟩ := k_tok0
  have k_I0 := k_I
  obtain ⟨h_p, h_pc, h_ip, h_iP, h_PC, h_PN⟩ := k_I0
  obtain ⟨hn0, _, hNT⟩ := h_nF _ t1102
  have hXL : ((tx9 m).2 : Int) = m 110 1 := by
    show (((m 110 1).toNat : Nat) : Int) = _
    omega
  obtain ⟨⟨hi0, hi1⟩, hpi⟩ := h_ip _ _ _ t1102 t1122 t1123
  have hTK := (h_nF _ t1102).2.1.1 (g 2).toNat (by omega)
  have hSL := St_L (X := tx9 m) (i := (g 2).toNat)
  have hcc := h_pc _ _ t1123 t1124
  rw [show (g 3).toNat = Tp9 (tx9 m) (g 2).toNat by omega] at hcc
  have hko := kd_of (X := tx9 m) (p := Tp9 (tx9 m) (g 2).toNat)
  exact ⟨rfl, trivial, ⟨⟨(g 2).toNat, (show g 2 = (((g 2).toNat : Nat) : Int) by omega), (show g 5 = m 24 ((g 2).toNat) by have := hTK.1.2; omega)⟩, trivial⟩, fun _ => ⟨h0, k_tok, k_sc1, k_sc2, k_T, k_I, k_F, k_N, k_Y, k_Z, k_A, k_B, k_C, k_X, k_R, k_f4⟩⟩
noncomputable def ru_hk2 : Ru := ([(0, (1199, (0, (0, 0)))), (0, (1102, (0, (0, 0)))), (0, (1122, (0, (0, 0)))), (0, (1123, (0, (0, 0)))), (0, (1124, (0, (0, 0)))), (4, (0, (0, (2, 0))))], ([], ([([(4, (-1))], (-2)), ([(4, 1)], 2)], (false, ([], ([(24, (2, 5))], ([], none)))))))
theorem rk_hk2 : RuOk SR ru_hk2 := by
  intro τ m g hi hc ha hS
  obtain ⟨i0, i1, i2, i3, i4, i5, _⟩ := hi
  have t1199 : τ 1199 = some (g 0) := i0
  have t1102 : τ 1102 = some (g 1) := i1
  have t1122 : τ 1122 = some (g 2) := i2
  have t1123 : τ 1123 = some (g 3) := i3
  have t1124 : τ 1124 = some (g 4) := i4
  have xk : g 5 = 2 := i5
  obtain ⟨c0, c1, _⟩ := hc
  have c0 : (-1) * g 4 ≤ (-2) := d1 c0
  have c1 : 1 * g 4 ≤ 2 := d1 c1
  obtain ⟨h0, k_tok, k_sc1, k_sc2, k_T, k_I, k_F, k_N, k_Y, k_Z, k_A, k_B, k_C, k_X, k_R, k_f4⟩ := hS (by rw [t1199]; exact fun e => by cases e)
  have k_tok0 := k_tok
  obtain ⟨h_L, h_n, h_nF⟩ := k_tok0
  have k_I0 := k_I
  obtain ⟨h_p, h_pc, h_ip, h_iP, h_PC, h_PN⟩ := k_I0
  obtain ⟨hn0, _, hNT⟩ := h_nF _ t1102
  have hXL : ((tx9 m).2 : Int) = m 110 1 := by
    show (((m 110 1).toNat : Nat) : Int) = _
    omega
  obtain ⟨⟨hi0, hi1⟩, hpi⟩ := h_ip _ _ _ t1102 t1122 t1123
  have hTK := (h_nF _ t1102).2.1.1 (g 2).toNat (by omega)
  have hSL := St_L (X := tx9 m) (i := (g 2).toNat)
  have hcc := h_pc _ _ t1123 t1124
  rw [show (g 3).toNat = Tp9 (tx9 m) (g 2).toNat by omega] at hcc
  have hko := kd_of (X := tx9 m) (p := Tp9 (tx9 m) (g 2).toNat)
  exact ⟨rfl, trivial, ⟨⟨(g 2).toNat, (show g 2 = (((g 2).toNat : Nat) : Int) by omega), (show g 5 = m 24 ((g 2).toNat) by have := hTK.1.2; omega)⟩, trivial⟩, fun _ => ⟨h0, k_tok, k_sc1, k_sc2, k_T, k_I, k_F, k_N, k_Y, k_Z, k_A, k_B, k_C, k_X, k_R, k_f4⟩⟩
noncomputable def ru_hk3 : Ru := ([(0, (1199, (0, (0, 0)))), (0, (1102, (0, (0, 0)))), (0, (1122, (0, (0, 0)))), (0, (1123, (0, (0, 0)))), (0, (1124, (0, (0, 0)))), (4, (0, (0, (3, 0))))], ([], ([([(4, (-1))], (-3)), ([(4, 1)], 3)], (false, ([], ([(24, (2, 5))], ([], none)))))))
theorem rk_hk3 : RuOk SR ru_hk3 := by
  intro τ m g hi hc ha hS
  obtain ⟨i0, i1, i2, i3, i4, i5, _⟩ := hi
  have t1199 : τ 1199 = some (g 0) := i0
  have t1102 : τ 1102 = some (g 1) := i1
  have t1122 : τ 1122 = some (g 2) := i2
  have t1123 : τ 1123 = some (g 3) := i3
  have t1124 : τ 1124 = some (g 4) := i4
  have xk : g 5 = 3 := i5
  obtain ⟨c0, c1, _⟩ := hc
  have c0 : (-1) * g 4 ≤ (-3) := d1 c0
  have c1 : 1 * g 4 ≤ 3 := d1 c1
  obtain ⟨h0, k_tok, k_sc1, k_sc2, k_T, k_I, k_F, k_N, k_Y, k_Z, k_A, k_B, k_C, k_X, k_R, k_f4⟩ := hS (by rw [t1199]; exact fun e => by cases e)
  have k_tok0 := k_tok
  obtain ⟨h_L, h_n, h_nF⟩ := k_tok0
  have k_I0 := k_I
  obtain ⟨h_p, h_pc, h_ip, h_iP, h_PC, h_PN⟩ := k_I0
  obtain ⟨hn0, _, hNT⟩ := h_nF _ t1102
  have hXL : ((tx9 m).2 : Int) = m 110 1 := by
    show (((m 110 1).toNat : Nat) : Int) = _
    omega
  obtain ⟨⟨hi0, hi1⟩, hpi⟩ := h_ip _ _ _ t1102 t1122 t1123
  have hTK := (h_nF _ t1102).2.1.1 (g 2).toNat (by omega)
  have hSL := St_L (X := tx9 m) (i := (g 2).toNat)
  have hcc := h_pc _ _ t1123 t1124
  rw [show (g 3).toNat = Tp9 (tx9 m) (g 2).toNat by omega] at hcc
  have hko := kd_of (X := tx9 m) (p := Tp9 (tx9 m) (g 2).toNat)
  exact ⟨rfl, trivial, ⟨⟨(g 2).toNat, (show g 2 = (((g 2).toNat : Nat) : Int) by omega), (show g 5 = m 24 ((g 2).toNat) by have := hTK.1.2; omega)⟩, trivial⟩, fun _ => ⟨h0, k_tok, k_sc1, k_sc2, k_T, k_I, k_F, k_N, k_Y, k_Z, k_A, k_B, k_C, k_X, k_R, k_f4⟩⟩
noncomputable def ru_hk4 : Ru := ([(0, (1199, (0, (0, 0)))), (0, (1102, (0, (0, 0)))), (0, (1122, (0, (0, 0)))), (0, (1123, (0, (0, 0)))), (0, (1124, (0, (0, 0)))), (4, (0, (0, (4, 0))))], ([], ([([(4, (-1))], (-4)), ([(4, 1)], 20)], (false, ([], ([(24, (2, 5))], ([], none)))))))
theorem rk_hk4 : RuOk SR ru_hk4 := by
  intro τ m g hi hc ha hS
  obtain ⟨i0, i1, i2, i3, i4, i5, _⟩ := hi
  have t1199 : τ 1199 = some (g 0) := i0
  have t1102 : τ 1102 = some (g 1) := i1
  have t1122 : τ 1122 = some (g 2) := i2
  have t1123 : τ 1123 = some (g 3) := i3
  have t1124 : τ 1124 = some (g 4) := i4
  have xk : g 5 = 4 := i5
  obtain ⟨c0, c1, _⟩ := hc
  have c0 : (-1) * g 4 ≤ (-4) := d1 c0
  have c1 : 1 * g 4 ≤ 20 := d1 c1
  obtain ⟨h0, k_tok, k_sc1, k_sc2, k_T, k_I, k_F, k_N, k_Y, k_Z, k_A, k_B, k_C, k_X, k_R, k_f4⟩ := hS (by rw [t1199]; exact fun e => by cases e)
  have k_tok0 := k_tok
  obtain ⟨h_L, h_n, h_nF⟩ := k_tok0
  have k_I0 := k_I
  obtain ⟨h_p, h_pc, h_ip, h_iP, h_PC, h_PN⟩ := k_I0
  obtain ⟨hn0, _, hNT⟩ := h_nF _ t1102
  have hXL : ((tx9 m).2 : Int) = m 110 1 := by
    show (((m 110 1).toNat : Nat) : Int) = _
    omega
  obtain ⟨⟨hi0, hi1⟩, hpi⟩ := h_ip _ _ _ t1102 t1122 t1123
  have hTK := (h_nF _ t1102).2.1.1 (g 2).toNat (by omega)
  have hSL := St_L (X := tx9 m) (i := (g 2).toNat)
  have hcc := h_pc _ _ t1123 t1124
  rw [show (g 3).toNat = Tp9 (tx9 m) (g 2).toNat by omega] at hcc
  have hko := kd_of (X := tx9 m) (p := Tp9 (tx9 m) (g 2).toNat)
  exact ⟨rfl, trivial, ⟨⟨(g 2).toNat, (show g 2 = (((g 2).toNat : Nat) : Int) by omega), (show g 5 = m 24 ((g 2).toNat) by have := hTK.1.2; omega)⟩, trivial⟩, fun _ => ⟨h0, k_tok, k_sc1, k_sc2, k_T, k_I, k_F, k_N, k_Y, k_Z, k_A, k_B, k_C, k_X, k_R, k_f4⟩⟩
noncomputable def ru_hk5 : Ru := ([(0, (1199, (0, (0, 0)))), (0, (1102, (0, (0, 0)))), (0, (1122, (0, (0, 0)))), (0, (1123, (0, (0, 0)))), (0, (1124, (0, (0, 0)))), (4, (0, (0, (5, 0))))], ([], ([([(4, (-1))], 0), ([(4, 1)], 0)], (false, ([], ([(24, (2, 5))], ([], none)))))))
theorem rk_hk5 : RuOk SR ru_hk5 := by
  intro τ m g hi hc ha hS
  obtain ⟨i0, i1, i2, i3, i4, i5, _⟩ := hi
  have t1199 : τ 1199 = some (g 0) := i0
  have t1102 : τ 1102 = some (g 1) := i1
  have t1122 : τ 1122 = some (g 2) := i2
  have t1123 : τ 1123 = some (g 3) := i3
  have t1124 : τ 1124 = some (g 4) := i4
  have xk : g 5 = 5 := i5
  obtain ⟨c0, c1, _⟩ := hc
  have c0 : (-1) * g 4 ≤ 0 := d1 c0
  have c1 : 1 * g 4 ≤ 0 := d1 c1
  obtain ⟨h0, k_tok, k_sc1, k_sc2, k_T, k_I, k_F, k_N, k_Y, k_Z, k_A, k_B, k_C, k_X, k_R, k_f4⟩ := hS (by rw [t1199]; exact fun e => by cases e)
  have k_tok0 := k_tok
  obtain ⟨h_L, h_n, h_nF⟩ := k_tok0
  have k_I0 := k_I
  obtain ⟨h_p, h_pc, h_ip, h_iP, h_PC, h_PN⟩ := k_I0
  obtain ⟨hn0, _, hNT⟩ := h_nF _ t1102
  have hXL : ((tx9 m).2 : Int) = m 110 1 := by
    show (((m 110 1).toNat : Nat) : Int) = _
    omega
  obtain ⟨⟨hi0, hi1⟩, hpi⟩ := h_ip _ _ _ t1102 t1122 t1123
  have hTK := (h_nF _ t1102).2.1.1 (g 2).toNat (by omega)
  have hSL := St_L (X := tx9 m) (i := (g 2).toNat)
  have hcc := h_pc _ _ t1123 t1124
  rw [show (g 3).toNat = Tp9 (tx9 m) (g 2).toNat by omega] at hcc
  have hko := kd_of (X := tx9 m) (p := Tp9 (tx9 m) (g 2).toNat)
  exact ⟨rfl, trivial, ⟨⟨(g 2).toNat, (show g 2 = (((g 2).toNat : Nat) : Int) by omega), (show g 5 = m 24 ((g 2).toNat) by have := hTK.1.2; omega)⟩, trivial⟩, fun _ => ⟨h0, k_tok, k_sc1, k_sc2, k_T, k_I, k_F, k_N, k_Y, k_Z, k_A, k_B, k_C, k_X, k_R, k_f4⟩⟩
noncomputable def ru_nx1 : Ru := ([(0, (1199, (0, (0, 0)))), (0, (1102, (0, (0, 0)))), (0, (1122, (0, (0, 0)))), (0, (1123, (0, (0, 0)))), (0, (1124, (0, (0, 0))))], ([1125, 1126], ([([(4, (-1))], (-2))], (false, ([], ([], ([], some (1125, (0, 1200)))))))))
theorem rk_nx1 : RuOk SR ru_nx1 := by
  intro τ m g hi hc ha hS
  obtain ⟨i0, i1, i2, i3, i4, _⟩ := hi
  have t1199 : τ 1199 = some (g 0) := i0
  have t1102 : τ 1102 = some (g 1) := i1
  have t1122 : τ 1122 = some (g 2) := i2
  have t1123 : τ 1123 = some (g 3) := i3
  have t1124 : τ 1124 = some (g 4) := i4
  obtain ⟨c0, _⟩ := hc
  have c0 : (-1) * g 4 ≤ (-2) := d1 c0
  obtain ⟨a0, a1, _⟩ := ha
  have n1125 : τ 1125 = none := a0
  have n1126 : τ 1126 = none := a1
  obtain ⟨h0, k_tok, k_sc1, k_sc2, k_T, k_I, k_F, k_N, k_Y, k_Z, k_A, k_B, k_C, k_X, k_R, k_f4⟩ := hS (by rw [t1199]; exact fun e => by cases e)
  have k_tok0 := k_tok
  obtain ⟨h_L, h_n, h_nF⟩ := k_tok0
  have k_I0 := k_I
  obtain ⟨h_p, h_pc, h_ip, h_iP, h_PC, h_PN⟩ := k_I0
  obtain ⟨hn0, _, hNT⟩ := h_nF _ t1102
  have hXL : ((tx9 m).2 : Int) = m 110 1 := by
    show (((m 110 1).toNat : Nat) : Int) = _
    omega
  obtain ⟨⟨hi0, hi1⟩, hpi⟩ := h_ip _ _ _ t1102 t1122 t1123
  have hTK := (h_nF _ t1102).2.1.1 (g 2).toNat (by omega)
  have hSL := St_L (X := tx9 m) (i := (g 2).toNat)
  have hcc := h_pc _ _ t1123 t1124
  rw [show (g 3).toNat = Tp9 (tx9 m) (g 2).toNat by omega] at hcc
  have hko := kd_of (X := tx9 m) (p := Tp9 (tx9 m) (g 2).toNat)
  obtain ⟨x0, hx0⟩ : ∃ x0 : Int, x0 = (nx9t (tx9 m) (g 3).toNat : Int) := ⟨_, rfl⟩
  have hnL := nx_P (m := m) (p := (g 3).toNat) (by omega)
  have x1 : 0 ≤ x0 := by omega
  have x2 : x0 ≤ 1200 := by omega
  exact ⟨rfl, trivial, trivial, x0, x1, x2, fun _ => ⟨h0, k_tok, k_sc1, k_sc2, k_T, ⟨h_p, h_pc, h_ip, fun i9 p9 P2 e0 e1 e2 => by
      have e0 : g 2 = i9 := Option.some.inj (t1122.symm.trans e0)
      subst e0
      have e1 : g 3 = p9 := Option.some.inj (t1123.symm.trans e1)
      subst e1
      have e2 : x0 = P2 := Option.some.inj e2
      subst e2
      exact hx0, fun _ _ e0 e1 => no9 n1126 e1, fun _ _ _ e0 e1 e2 => no9 n1126 e1⟩, k_F, k_N, k_Y, k_Z, k_A, k_B, k_C, k_X, k_R, k_f4⟩⟩
noncomputable def ru_nx2 : Ru := ([(0, (1199, (0, (0, 0)))), (0, (1102, (0, (0, 0)))), (0, (1122, (0, (0, 0)))), (0, (1123, (0, (0, 0)))), (0, (1124, (0, (0, 0)))), (0, (1125, (0, (0, 0)))), (10, (0, (2, (1, 0))))], ([], ([([(4, (-1))], (-2))], (false, ([([(3, 1), (5, (-1))], (-1)), ([(1, (-1)), (2, 1)], (-2))], ([(25, (6, 5))], ([], none)))))))
theorem rk_nx2 : RuOk SR ru_nx2 := by
  intro τ m g hi hc ha hS
  obtain ⟨i0, i1, i2, i3, i4, i5, i6, _⟩ := hi
  have t1199 : τ 1199 = some (g 0) := i0
  have t1102 : τ 1102 = some (g 1) := i1
  have t1122 : τ 1122 = some (g 2) := i2
  have t1123 : τ 1123 = some (g 3) := i3
  have t1124 : τ 1124 = some (g 4) := i4
  have t1125 : τ 1125 = some (g 5) := i5
  have xi1 : g 6 = g 2 + 1 := i6
  obtain ⟨c0, _⟩ := hc
  have c0 : (-1) * g 4 ≤ (-2) := d1 c0
  obtain ⟨h0, k_tok, k_sc1, k_sc2, k_T, k_I, k_F, k_N, k_Y, k_Z, k_A, k_B, k_C, k_X, k_R, k_f4⟩ := hS (by rw [t1199]; exact fun e => by cases e)
  have k_tok0 := k_tok
  obtain ⟨h_L, h_n, h_nF⟩ := k_tok0
  have k_I0 := k_I
  obtain ⟨h_p, h_pc, h_ip, h_iP, h_PC, h_PN⟩ := k_I0
  obtain ⟨hn0, _, hNT⟩ := h_nF _ t1102
  have hXL : ((tx9 m).2 : Int) = m 110 1 := by
    show (((m 110 1).toNat : Nat) : Int) = _
    omega
  obtain ⟨⟨hi0, hi1⟩, hpi⟩ := h_ip _ _ _ t1102 t1122 t1123
  have hTK := (h_nF _ t1102).2.1.1 (g 2).toNat (by omega)
  have hSL := St_L (X := tx9 m) (i := (g 2).toNat)
  have hcc := h_pc _ _ t1123 t1124
  rw [show (g 3).toNat = Tp9 (tx9 m) (g 2).toNat by omega] at hcc
  have hko := kd_of (X := tx9 m) (p := Tp9 (tx9 m) (g 2).toNat)
  have hP := h_iP _ _ _ t1122 t1123 t1125
  rw [show (g 3).toNat = Tp9 (tx9 m) (g 2).toNat by omega] at hP
  have hn1 := NT_next hNT (i := (g 2).toNat) (by omega) (by omega)
  have hlt := St_step hNT hn1
  have hS1 : g 5 = (Tp9 (tx9 m) ((g 2).toNat + 1) : Int) := hP
  have hSL1 := St_L (X := tx9 m) (i := (g 2).toNat + 1)
  have hTK1 := (h_nF _ t1102).2.1.1 ((g 2).toNat + 1) (by omega)
  exact ⟨rfl, ⟨f2 (by omega), f2 (by omega), trivial⟩, ⟨⟨(g 2).toNat + 1, (show g 6 = (((g 2).toNat + 1 : Nat) : Int) by omega), (show g 5 = m 25 ((g 2).toNat + 1) by have := hTK1.1.1; omega)⟩, trivial⟩, fun _ => ⟨h0, k_tok, k_sc1, k_sc2, k_T, k_I, k_F, k_N, k_Y, k_Z, k_A, k_B, k_C, k_X, k_R, k_f4⟩⟩
noncomputable def ru_nx3 : Ru := ([(0, (1199, (0, (0, 0)))), (0, (1102, (0, (0, 0)))), (0, (1122, (0, (0, 0)))), (0, (1123, (0, (0, 0)))), (0, (1124, (0, (0, 0)))), (0, (1125, (0, (0, 0))))], ([], ([([(4, (-1))], (-2))], (false, ([], ([], ([(1122, some (2, 1)), (1123, some (5, 0)), (1124, none), (1125, none)], none)))))))
theorem rk_nx3 : RuOk SR ru_nx3 := by
  intro τ m g hi hc ha hS
  obtain ⟨i0, i1, i2, i3, i4, i5, _⟩ := hi
  have t1199 : τ 1199 = some (g 0) := i0
  have t1102 : τ 1102 = some (g 1) := i1
  have t1122 : τ 1122 = some (g 2) := i2
  have t1123 : τ 1123 = some (g 3) := i3
  have t1124 : τ 1124 = some (g 4) := i4
  have t1125 : τ 1125 = some (g 5) := i5
  obtain ⟨c0, _⟩ := hc
  have c0 : (-1) * g 4 ≤ (-2) := d1 c0
  obtain ⟨h0, k_tok, k_sc1, k_sc2, k_T, k_I, k_F, k_N, k_Y, k_Z, k_A, k_B, k_C, k_X, k_R, k_f4⟩ := hS (by rw [t1199]; exact fun e => by cases e)
  have k_tok0 := k_tok
  obtain ⟨h_L, h_n, h_nF⟩ := k_tok0
  have k_I0 := k_I
  obtain ⟨h_p, h_pc, h_ip, h_iP, h_PC, h_PN⟩ := k_I0
  obtain ⟨hn0, _, hNT⟩ := h_nF _ t1102
  have hXL : ((tx9 m).2 : Int) = m 110 1 := by
    show (((m 110 1).toNat : Nat) : Int) = _
    omega
  obtain ⟨⟨hi0, hi1⟩, hpi⟩ := h_ip _ _ _ t1102 t1122 t1123
  have hTK := (h_nF _ t1102).2.1.1 (g 2).toNat (by omega)
  have hSL := St_L (X := tx9 m) (i := (g 2).toNat)
  have hcc := h_pc _ _ t1123 t1124
  rw [show (g 3).toNat = Tp9 (tx9 m) (g 2).toNat by omega] at hcc
  have hko := kd_of (X := tx9 m) (p := Tp9 (tx9 m) (g 2).toNat)
  have hP := h_iP _ _ _ t1122 t1123 t1125
  rw [show (g 3).toNat = Tp9 (tx9 m) (g 2).toNat by omega] at hP
  have hn1 := NT_next hNT (i := (g 2).toNat) (by omega) (by omega)
  have hlt := St_step hNT hn1
  have hS1 : g 5 = (Tp9 (tx9 m) ((g 2).toNat + 1) : Int) := hP
  have hSL1 := St_L (X := tx9 m) (i := (g 2).toNat + 1)
  exact ⟨rfl, trivial, trivial, fun _ => ⟨h0, k_tok, k_sc1, k_sc2, k_T, ⟨fun p9 e0 => by
      have e0 : g 5 + 0 = p9 := Option.some.inj e0
      subst e0
      exact ⟨by omega, by omega⟩, fun _ _ e0 e1 => no9 (o := none) rfl e1, fun nF i9 p9 e0 e1 e2 => by
      have e0 : g 1 = nF := Option.some.inj (t1102.symm.trans e0)
      subst e0
      have e1 : g 2 + 1 = i9 := Option.some.inj e1
      subst e1
      have e2 : g 5 + 0 = p9 := Option.some.inj e2
      subst e2
      rw [Int.add_zero, show (g 2 + 1).toNat = (g 2).toNat + 1 by omega]
      exact ⟨⟨by omega, by omega⟩, hS1⟩, fun _ _ _ e0 e1 e2 => no9 (o := none) rfl e2, fun _ _ e0 e1 => no9 (o := none) rfl e0, fun _ _ _ e0 e1 e2 => no9 (o := none) rfl e0⟩, k_F, k_N, k_Y, k_Z, k_A, k_B, k_C, k_X, k_R, k_f4⟩⟩
noncomputable def ru_nxa : Ru := ([(0, (1199, (0, (0, 0)))), (0, (1102, (0, (0, 0)))), (0, (1122, (0, (0, 0)))), (0, (1123, (0, (0, 0)))), (0, (1124, (0, (0, 0)))), (0, (1125, (0, (0, 0))))], ([], ([([(4, (-1))], (-30)), ([(4, 1)], 31)], (false, ([([(3, 1), (5, (-1))], (-2))], ([], ([], none)))))))
theorem rk_nxa : RuOk SR ru_nxa := by
  intro τ m g hi hc ha hS
  obtain ⟨i0, i1, i2, i3, i4, i5, _⟩ := hi
  have t1199 : τ 1199 = some (g 0) := i0
  have t1102 : τ 1102 = some (g 1) := i1
  have t1122 : τ 1122 = some (g 2) := i2
  have t1123 : τ 1123 = some (g 3) := i3
  have t1124 : τ 1124 = some (g 4) := i4
  have t1125 : τ 1125 = some (g 5) := i5
  obtain ⟨c0, c1, _⟩ := hc
  have c0 : (-1) * g 4 ≤ (-30) := d1 c0
  have c1 : 1 * g 4 ≤ 31 := d1 c1
  obtain ⟨h0, k_tok, k_sc1, k_sc2, k_T, k_I, k_F, k_N, k_Y, k_Z, k_A, k_B, k_C, k_X, k_R, k_f4⟩ := hS (by rw [t1199]; exact fun e => by cases e)
  have k_tok0 := k_tok
  obtain ⟨h_L, h_n, h_nF⟩ := k_tok0
  have k_I0 := k_I
  obtain ⟨h_p, h_pc, h_ip, h_iP, h_PC, h_PN⟩ := k_I0
  obtain ⟨hn0, _, hNT⟩ := h_nF _ t1102
  have hXL : ((tx9 m).2 : Int) = m 110 1 := by
    show (((m 110 1).toNat : Nat) : Int) = _
    omega
  obtain ⟨⟨hi0, hi1⟩, hpi⟩ := h_ip _ _ _ t1102 t1122 t1123
  have hTK := (h_nF _ t1102).2.1.1 (g 2).toNat (by omega)
  have hSL := St_L (X := tx9 m) (i := (g 2).toNat)
  have hcc := h_pc _ _ t1123 t1124
  rw [show (g 3).toNat = Tp9 (tx9 m) (g 2).toNat by omega] at hcc
  have hko := kd_of (X := tx9 m) (p := Tp9 (tx9 m) (g 2).toNat)
  have hP := h_iP _ _ _ t1122 t1123 t1125
  rw [show (g 3).toNat = (Tp9 (tx9 m) (g 2).toNat) by omega] at hP
  have htn := te_nx (X := tx9 m) (p := (Tp9 (tx9 m) (g 2).toNat))
  have hl2 : te9 (tx9 m) (Tp9 (tx9 m) (g 2).toNat) ≥ (Tp9 (tx9 m) (g 2).toNat) + 2 := by
    rcases (by omega : rc9 (tx9 m) (Tp9 (tx9 m) (g 2).toNat) = 30 ∨ rc9 (tx9 m) (Tp9 (tx9 m) (g 2).toNat) = 31) with e | e
    · have := (wd_of (X := tx9 m) (p := (Tp9 (tx9 m) (g 2).toNat)) (c := 30) (v := 6385252) (l := [97, 110, 100]) e (by decide) (by decide) (by decide) (by decide) (by decide)).2.1
      have this : te9 (tx9 m) (Tp9 (tx9 m) (g 2).toNat) = (Tp9 (tx9 m) (g 2).toNat) + 3 := this
      omega
    · have := (wd_of (X := tx9 m) (p := (Tp9 (tx9 m) (g 2).toNat)) (c := 31) (v := 28530) (l := [111, 114]) e (by decide) (by decide) (by decide) (by decide) (by decide)).2.1
      have this : te9 (tx9 m) (Tp9 (tx9 m) (g 2).toNat) = (Tp9 (tx9 m) (g 2).toNat) + 2 := this
      omega
  exact ⟨rfl, ⟨f2 (by omega), trivial⟩, trivial, fun _ => ⟨h0, k_tok, k_sc1, k_sc2, k_T, k_I, k_F, k_N, k_Y, k_Z, k_A, k_B, k_C, k_X, k_R, k_f4⟩⟩
noncomputable def ru_hs : Ru := ([(0, (1199, (0, (0, 0)))), (0, (1102, (0, (0, 0)))), (0, (1122, (0, (0, 0)))), (0, (1123, (0, (0, 0)))), (0, (1124, (0, (0, 0)))), (15, (1, (4, (0, 0))))], ([], ([([(4, (-1))], (-4)), ([(4, 1)], 20), ([(5, (-1))], 0)], (false, ([], ([(26, (2, 5))], ([], none)))))))
theorem rk_hs : RuOk SR ru_hs := by
  intro τ m g hi hc ha hS
  obtain ⟨i0, i1, i2, i3, i4, i5, _⟩ := hi
  have t1199 : τ 1199 = some (g 0) := i0
  have t1102 : τ 1102 = some (g 1) := i1
  have t1122 : τ 1122 = some (g 2) := i2
  have t1123 : τ 1123 = some (g 3) := i3
  have t1124 : τ 1124 = some (g 4) := i4
  have xv : g 5 = tb9 1 (g 4) := i5
  obtain ⟨c0, c1, c2, _⟩ := hc
  have c0 : (-1) * g 4 ≤ (-4) := d1 c0
  have c1 : 1 * g 4 ≤ 20 := d1 c1
  have c2 : (-1) * g 5 ≤ 0 := d1 c2
  obtain ⟨h0, k_tok, k_sc1, k_sc2, k_T, k_I, k_F, k_N, k_Y, k_Z, k_A, k_B, k_C, k_X, k_R, k_f4⟩ := hS (by rw [t1199]; exact fun e => by cases e)
  have k_tok0 := k_tok
  obtain ⟨h_L, h_n, h_nF⟩ := k_tok0
  have k_I0 := k_I
  obtain ⟨h_p, h_pc, h_ip, h_iP, h_PC, h_PN⟩ := k_I0
  obtain ⟨hn0, _, hNT⟩ := h_nF _ t1102
  have hXL : ((tx9 m).2 : Int) = m 110 1 := by
    show (((m 110 1).toNat : Nat) : Int) = _
    omega
  obtain ⟨⟨hi0, hi1⟩, hpi⟩ := h_ip _ _ _ t1102 t1122 t1123
  have hTK := (h_nF _ t1102).2.1.1 (g 2).toNat (by omega)
  have hSL := St_L (X := tx9 m) (i := (g 2).toNat)
  have hcc := h_pc _ _ t1123 t1124
  rw [show (g 3).toNat = Tp9 (tx9 m) (g 2).toNat by omega] at hcc
  have hko := kd_of (X := tx9 m) (p := Tp9 (tx9 m) (g 2).toNat)
  obtain ⟨hk4, hsg⟩ := sg_tb (X := tx9 m) (p := Tp9 (tx9 m) (g 2).toNat) (by omega) (by omega)
  rw [← hcc] at hsg
  exact ⟨rfl, trivial, ⟨⟨(g 2).toNat, (show g 2 = (((g 2).toNat : Nat) : Int) by omega), (show g 5 = m 26 ((g 2).toNat) by have := hTK.2.2.2 hk4; omega)⟩, trivial⟩, fun _ => ⟨h0, k_tok, k_sc1, k_sc2, k_T, k_I, k_F, k_N, k_Y, k_Z, k_A, k_B, k_C, k_X, k_R, k_f4⟩⟩
noncomputable def ru_hsL : Ru := ([(0, (1199, (0, (0, 0)))), (0, (1102, (0, (0, 0)))), (0, (1122, (0, (0, 0)))), (0, (1123, (0, (0, 0)))), (0, (1124, (0, (0, 0)))), (9, (24, (2, (1, 0)))), (9, (26, (2, (1, 0)))), (12, (2, (6, (0, 0))))], ([], ([([(5, 1)], 4), ([(5, (-1))], (-4)), ([(7, (-1))], (-4)), ([(4, 1), (7, (-1))], (-1))], (true, ([], ([], ([], none)))))))
theorem rk_hsL : RuOk SR ru_hsL := by
  intro τ m g hi hc ha hS
  obtain ⟨i0, i1, i2, i3, i4, i5, i6, i7, _⟩ := hi
  have t1199 : τ 1199 = some (g 0) := i0
  have t1102 : τ 1102 = some (g 1) := i1
  have t1122 : τ 1122 = some (g 2) := i2
  have t1123 : τ 1123 = some (g 3) := i3
  have t1124 : τ 1124 = some (g 4) := i4
  obtain ⟨jk, uk, vk⟩ : ∃ j : Nat, 1 * g 2 + 0 = (j : Int) ∧ g 5 = m 24 j := i5
  obtain ⟨jv, uv, vv⟩ : ∃ j : Nat, 1 * g 2 + 0 = (j : Int) ∧ g 6 = m 26 j := i6
  have xcc : g 7 = tb9 2 (g 6) := i7
  obtain ⟨c0, c1, c2, c3, _⟩ := hc
  have c0 : 1 * g 5 ≤ 4 := d1 c0
  have c1 : (-1) * g 5 ≤ (-4) := d1 c1
  have c2 : (-1) * g 7 ≤ (-4) := d1 c2
  have c3 : 1 * g 4 + (-1) * g 7 ≤ (-1) := d2 c3
  obtain ⟨h0, k_tok, k_sc1, k_sc2, k_T, k_I, k_F, k_N, k_Y, k_Z, k_A, k_B, k_C, k_X, k_R, k_f4⟩ := hS (by rw [t1199]; exact fun e => by cases e)
  have k_tok0 := k_tok
  obtain ⟨h_L, h_n, h_nF⟩ := k_tok0
  have k_I0 := k_I
  obtain ⟨h_p, h_pc, h_ip, h_iP, h_PC, h_PN⟩ := k_I0
  obtain ⟨hn0, _, hNT⟩ := h_nF _ t1102
  have hXL : ((tx9 m).2 : Int) = m 110 1 := by
    show (((m 110 1).toNat : Nat) : Int) = _
    omega
  obtain ⟨⟨hi0, hi1⟩, hpi⟩ := h_ip _ _ _ t1102 t1122 t1123
  have hTK := (h_nF _ t1102).2.1.1 (g 2).toNat (by omega)
  have hSL := St_L (X := tx9 m) (i := (g 2).toNat)
  have hcc := h_pc _ _ t1123 t1124
  rw [show (g 3).toNat = Tp9 (tx9 m) (g 2).toNat by omega] at hcc
  have hko := kd_of (X := tx9 m) (p := Tp9 (tx9 m) (g 2).toNat)
  rw [show jk = (g 2).toNat by omega] at vk
  rw [show jv = (g 2).toNat by omega] at vv
  have hTk := hTK.1.2
  have hk4 : kd9 (tx9 m) (Tp9 (tx9 m) (g 2).toNat) = 4 := by omega
  have hsv := hTK.2.2.2 hk4
  rw [show g 6 = sg9 (tx9 m) (Tp9 (tx9 m) (g 2).toNat) by omega] at xcc
  have hs2 := rc_s2 hk4 (by omega)
  exfalso
  omega
noncomputable def ru_hsG : Ru := ([(0, (1199, (0, (0, 0)))), (0, (1102, (0, (0, 0)))), (0, (1122, (0, (0, 0)))), (0, (1123, (0, (0, 0)))), (0, (1124, (0, (0, 0)))), (9, (24, (2, (1, 0)))), (9, (26, (2, (1, 0)))), (12, (2, (6, (0, 0))))], ([], ([([(5, 1)], 4), ([(5, (-1))], (-4)), ([(7, (-1))], (-4)), ([(4, (-1)), (7, 1)], (-1))], (true, ([], ([], ([], none)))))))
theorem rk_hsG : RuOk SR ru_hsG := by
  intro τ m g hi hc ha hS
  obtain ⟨i0, i1, i2, i3, i4, i5, i6, i7, _⟩ := hi
  have t1199 : τ 1199 = some (g 0) := i0
  have t1102 : τ 1102 = some (g 1) := i1
  have t1122 : τ 1122 = some (g 2) := i2
  have t1123 : τ 1123 = some (g 3) := i3
  have t1124 : τ 1124 = some (g 4) := i4
  obtain ⟨jk, uk, vk⟩ : ∃ j : Nat, 1 * g 2 + 0 = (j : Int) ∧ g 5 = m 24 j := i5
  obtain ⟨jv, uv, vv⟩ : ∃ j : Nat, 1 * g 2 + 0 = (j : Int) ∧ g 6 = m 26 j := i6
  have xcc : g 7 = tb9 2 (g 6) := i7
  obtain ⟨c0, c1, c2, c3, _⟩ := hc
  have c0 : 1 * g 5 ≤ 4 := d1 c0
  have c1 : (-1) * g 5 ≤ (-4) := d1 c1
  have c2 : (-1) * g 7 ≤ (-4) := d1 c2
  have c3 : (-1) * g 4 + 1 * g 7 ≤ (-1) := d2 c3
  obtain ⟨h0, k_tok, k_sc1, k_sc2, k_T, k_I, k_F, k_N, k_Y, k_Z, k_A, k_B, k_C, k_X, k_R, k_f4⟩ := hS (by rw [t1199]; exact fun e => by cases e)
  have k_tok0 := k_tok
  obtain ⟨h_L, h_n, h_nF⟩ := k_tok0
  have k_I0 := k_I
  obtain ⟨h_p, h_pc, h_ip, h_iP, h_PC, h_PN⟩ := k_I0
  obtain ⟨hn0, _, hNT⟩ := h_nF _ t1102
  have hXL : ((tx9 m).2 : Int) = m 110 1 := by
    show (((m 110 1).toNat : Nat) : Int) = _
    omega
  obtain ⟨⟨hi0, hi1⟩, hpi⟩ := h_ip _ _ _ t1102 t1122 t1123
  have hTK := (h_nF _ t1102).2.1.1 (g 2).toNat (by omega)
  have hSL := St_L (X := tx9 m) (i := (g 2).toNat)
  have hcc := h_pc _ _ t1123 t1124
  rw [show (g 3).toNat = Tp9 (tx9 m) (g 2).toNat by omega] at hcc
  have hko := kd_of (X := tx9 m) (p := Tp9 (tx9 m) (g 2).toNat)
  rw [show jk = (g 2).toNat by omega] at vk
  rw [show jv = (g 2).toNat by omega] at vv
  have hTk := hTK.1.2
  have hk4 : kd9 (tx9 m) (Tp9 (tx9 m) (g 2).toNat) = 4 := by omega
  have hsv := hTK.2.2.2 hk4
  rw [show g 6 = sg9 (tx9 m) (Tp9 (tx9 m) (g 2).toNat) by omega] at xcc
  have hs2 := rc_s2 hk4 (by omega)
  exfalso
  omega
noncomputable def ru_hk0b : Ru := ([(0, (1199, (0, (0, 0)))), (0, (1102, (0, (0, 0)))), (0, (1122, (0, (0, 0)))), (0, (1123, (0, (0, 0)))), (0, (1124, (0, (0, 0)))), (9, (24, (2, (1, 0))))], ([], ([([(5, 1)], 0), ([(5, (-1))], 0), ([(4, (-1))], (-2))], (true, ([], ([], ([], none)))))))
theorem rk_hk0b : RuOk SR ru_hk0b := by
  intro τ m g hi hc ha hS
  obtain ⟨i0, i1, i2, i3, i4, i5, _⟩ := hi
  have t1199 : τ 1199 = some (g 0) := i0
  have t1102 : τ 1102 = some (g 1) := i1
  have t1122 : τ 1122 = some (g 2) := i2
  have t1123 : τ 1123 = some (g 3) := i3
  have t1124 : τ 1124 = some (g 4) := i4
  obtain ⟨jk, uk, vk⟩ : ∃ j : Nat, 1 * g 2 + 0 = (j : Int) ∧ g 5 = m 24 j := i5
  obtain ⟨c0, c1, c2, _⟩ := hc
  have c0 : 1 * g 5 ≤ 0 := d1 c0
  have c1 : (-1) * g 5 ≤ 0 := d1 c1
  have c2 : (-1) * g 4 ≤ (-2) := d1 c2
  obtain ⟨h0, k_tok, k_sc1, k_sc2, k_T, k_I, k_F, k_N, k_Y, k_Z, k_A, k_B, k_C, k_X, k_R, k_f4⟩ := hS (by rw [t1199]; exact fun e => by cases e)
  have k_tok0 := k_tok
  obtain ⟨h_L, h_n, h_nF⟩ := k_tok0
  have k_I0 := k_I
  obtain ⟨h_p, h_pc, h_ip, h_iP, h_PC, h_PN⟩ := k_I0
  obtain ⟨hn0, _, hNT⟩ := h_nF _ t1102
  have hXL : ((tx9 m).2 : Int) = m 110 1 := by
    show (((m 110 1).toNat : Nat) : Int) = _
    omega
  obtain ⟨⟨hi0, hi1⟩, hpi⟩ := h_ip _ _ _ t1102 t1122 t1123
  have hTK := (h_nF _ t1102).2.1.1 (g 2).toNat (by omega)
  have hSL := St_L (X := tx9 m) (i := (g 2).toNat)
  have hcc := h_pc _ _ t1123 t1124
  rw [show (g 3).toNat = Tp9 (tx9 m) (g 2).toNat by omega] at hcc
  have hko := kd_of (X := tx9 m) (p := Tp9 (tx9 m) (g 2).toNat)
  have hk := hTK.1.2
  rw [show jk = (g 2).toNat by omega] at vk
  exfalso
  omega
noncomputable def ru_hk1b : Ru := ([(0, (1199, (0, (0, 0)))), (0, (1102, (0, (0, 0)))), (0, (1122, (0, (0, 0)))), (0, (1123, (0, (0, 0)))), (0, (1124, (0, (0, 0)))), (9, (24, (2, (1, 0))))], ([], ([([(5, 1)], 1), ([(5, (-1))], (-1)), ([(4, 1)], 20)], (true, ([], ([], ([], none)))))))
theorem rk_hk1b : RuOk SR ru_hk1b := by
  intro τ m g hi hc ha hS
  obtain ⟨i0, i1, i2, i3, i4, i5, _⟩ := hi
  have t1199 : τ 1199 = some (g 0) := i0
  have t1102 : τ 1102 = some (g 1) := i1
  have t1122 : τ 1122 = some (g 2) := i2
  have t1123 : τ 1123 = some (g 3) := i3
  have t1124 : τ 1124 = some (g 4) := i4
  obtain ⟨jk, uk, vk⟩ : ∃ j : Nat, 1 * g 2 + 0 = (j : Int) ∧ g 5 = m 24 j := i5
  obtain ⟨c0, c1, c2, _⟩ := hc
  have c0 : 1 * g 5 ≤ 1 := d1 c0
  have c1 : (-1) * g 5 ≤ (-1) := d1 c1
  have c2 : 1 * g 4 ≤ 20 := d1 c2
  obtain ⟨h0, k_tok, k_sc1, k_sc2, k_T, k_I, k_F, k_N, k_Y, k_Z, k_A, k_B, k_C, k_X, k_R, k_f4⟩ := hS (by rw [t1199]; exact fun e => by cases e)
  have k_tok0 := k_tok
  obtain ⟨h_L, h_n, h_nF⟩ := k_tok0
  have k_I0 := k_I
  obtain ⟨h_p, h_pc, h_ip, h_iP, h_PC, h_PN⟩ := k_I0
  obtain ⟨hn0, _, hNT⟩ := h_nF _ t1102
  have hXL : ((tx9 m).2 : Int) = m 110 1 := by
    show (((m 110 1).toNat : Nat) : Int) = _
    omega
  obtain ⟨⟨hi0, hi1⟩, hpi⟩ := h_ip _ _ _ t1102 t1122 t1123
  have hTK := (h_nF _ t1102).2.1.1 (g 2).toNat (by omega)
  have hSL := St_L (X := tx9 m) (i := (g 2).toNat)
  have hcc := h_pc _ _ t1123 t1124
  rw [show (g 3).toNat = Tp9 (tx9 m) (g 2).toNat by omega] at hcc
  have hko := kd_of (X := tx9 m) (p := Tp9 (tx9 m) (g 2).toNat)
  have hk := hTK.1.2
  rw [show jk = (g 2).toNat by omega] at vk
  exfalso
  omega
noncomputable def ru_hk4b : Ru := ([(0, (1199, (0, (0, 0)))), (0, (1102, (0, (0, 0)))), (0, (1122, (0, (0, 0)))), (0, (1123, (0, (0, 0)))), (0, (1124, (0, (0, 0)))), (9, (24, (2, (1, 0))))], ([], ([([(5, 1)], 4), ([(5, (-1))], (-4)), ([(4, 1)], 3)], (true, ([], ([], ([], none)))))))
theorem rk_hk4b : RuOk SR ru_hk4b := by
  intro τ m g hi hc ha hS
  obtain ⟨i0, i1, i2, i3, i4, i5, _⟩ := hi
  have t1199 : τ 1199 = some (g 0) := i0
  have t1102 : τ 1102 = some (g 1) := i1
  have t1122 : τ 1122 = some (g 2) := i2
  have t1123 : τ 1123 = some (g 3) := i3
  have t1124 : τ 1124 = some (g 4) := i4
  obtain ⟨jk, uk, vk⟩ : ∃ j : Nat, 1 * g 2 + 0 = (j : Int) ∧ g 5 = m 24 j := i5
  obtain ⟨c0, c1, c2, _⟩ := hc
  have c0 : 1 * g 5 ≤ 4 := d1 c0
  have c1 : (-1) * g 5 ≤ (-4) := d1 c1
  have c2 : 1 * g 4 ≤ 3 := d1 c2
  obtain ⟨h0, k_tok, k_sc1, k_sc2, k_T, k_I, k_F, k_N, k_Y, k_Z, k_A, k_B, k_C, k_X, k_R, k_f4⟩ := hS (by rw [t1199]; exact fun e => by cases e)
  have k_tok0 := k_tok
  obtain ⟨h_L, h_n, h_nF⟩ := k_tok0
  have k_I0 := k_I
  obtain ⟨h_p, h_pc, h_ip, h_iP, h_PC, h_PN⟩ := k_I0
  obtain ⟨hn0, _, hNT⟩ := h_nF _ t1102
  have hXL : ((tx9 m).2 : Int) = m 110 1 := by
    show (((m 110 1).toNat : Nat) : Int) = _
    omega
  obtain ⟨⟨hi0, hi1⟩, hpi⟩ := h_ip _ _ _ t1102 t1122 t1123
  have hTK := (h_nF _ t1102).2.1.1 (g 2).toNat (by omega)
  have hSL := St_L (X := tx9 m) (i := (g 2).toNat)
  have hcc := h_pc _ _ t1123 t1124
  rw [show (g 3).toNat = Tp9 (tx9 m) (g 2).toNat by omega] at hcc
  have hko := kd_of (X := tx9 m) (p := Tp9 (tx9 m) (g 2).toNat)
  have hk := hTK.1.2
  rw [show jk = (g 2).toNat by omega] at vk
  exfalso
  omega
noncomputable def ru_hk4c : Ru := ([(0, (1199, (0, (0, 0)))), (0, (1102, (0, (0, 0)))), (0, (1122, (0, (0, 0)))), (0, (1123, (0, (0, 0)))), (0, (1124, (0, (0, 0)))), (9, (24, (2, (1, 0))))], ([], ([([(5, 1)], 4), ([(5, (-1))], (-4)), ([(4, (-1))], (-21))], (true, ([], ([], ([], none)))))))
theorem rk_hk4c : RuOk SR ru_hk4c := by
  intro τ m g hi hc ha hS
  obtain ⟨i0, i1, i2, i3, i4, i5, _⟩ := hi
  have t1199 : τ 1199 = some (g 0) := i0
  have t1102 : τ 1102 = some (g 1) := i1
  have t1122 : τ 1122 = some (g 2) := i2
  have t1123 : τ 1123 = some (g 3) := i3
  have t1124 : τ 1124 = some (g 4) := i4
  obtain ⟨jk, uk, vk⟩ : ∃ j : Nat, 1 * g 2 + 0 = (j : Int) ∧ g 5 = m 24 j := i5
  obtain ⟨c0, c1, c2, _⟩ := hc
  have c0 : 1 * g 5 ≤ 4 := d1 c0
  have c1 : (-1) * g 5 ≤ (-4) := d1 c1
  have c2 : (-1) * g 4 ≤ (-21) := d1 c2
  obtain ⟨h0, k_tok, k_sc1, k_sc2, k_T, k_I, k_F, k_N, k_Y, k_Z, k_A, k_B, k_C, k_X, k_R, k_f4⟩ := hS (by rw [t1199]; exact fun e => by cases e)
  have k_tok0 := k_tok
  obtain ⟨h_L, h_n, h_nF⟩ := k_tok0
  have k_I0 := k_I
  obtain ⟨h_p, h_pc, h_ip, h_iP, h_PC, h_PN⟩ := k_I0
  obtain ⟨hn0, _, hNT⟩ := h_nF _ t1102
  have hXL : ((tx9 m).2 : Int) = m 110 1 := by
    show (((m 110 1).toNat : Nat) : Int) = _
    omega
  obtain ⟨⟨hi0, hi1⟩, hpi⟩ := h_ip _ _ _ t1102 t1122 t1123
  have hTK := (h_nF _ t1102).2.1.1 (g 2).toNat (by omega)
  have hSL := St_L (X := tx9 m) (i := (g 2).toNat)
  have hcc := h_pc _ _ t1123 t1124
  rw [show (g 3).toNat = Tp9 (tx9 m) (g 2).toNat by omega] at hcc
  have hko := kd_of (X := tx9 m) (p := Tp9 (tx9 m) (g 2).toNat)
  have hk := hTK.1.2
  rw [show jk = (g 2).toNat by omega] at vk
  exfalso
  omega
noncomputable def ru_hve : Ru := ([(0, (1199, (0, (0, 0)))), (0, (1102, (0, (0, 0)))), (0, (1122, (0, (0, 0)))), (0, (1123, (0, (0, 0)))), (0, (1124, (0, (0, 0)))), (9, (24, (2, (1, 0)))), (9, (26, (2, (1, 0)))), (0, (1100, (0, (0, 0))))], ([], ([([(5, 1)], 1), ([(5, (-1))], (-1))], (false, ([([(6, 1), (7, (-1))], 0), ([(3, 1), (6, (-1))], (-1))], ([], ([], none)))))))
theorem rk_hve : RuOk SR ru_hve := by
  intro τ m g hi hc ha hS
  obtain ⟨i0, i1, i2, i3, i4, i5, i6, i7, _⟩ := hi
  have t1199 : τ 1199 = some (g 0) := i0
  have t1102 : τ 1102 = some (g 1) := i1
  have t1122 : τ 1122 = some (g 2) := i2
  have t1123 : τ 1123 = some (g 3) := i3
  have t1124 : τ 1124 = some (g 4) := i4
  obtain ⟨jk, uk, vk⟩ : ∃ j : Nat, 1 * g 2 + 0 = (j : Int) ∧ g 5 = m 24 j := i5
  obtain ⟨jv, uv, vv⟩ : ∃ j : Nat, 1 * g 2 + 0 = (j : Int) ∧ g 6 = m 26 j := i6
  have t1100 : τ 1100 = some (g 7) := i7
  obtain ⟨c0, c1, _⟩ := hc
  have c0 : 1 * g 5 ≤ 1 := d1 c0
  have c1 : (-1) * g 5 ≤ (-1) := d1 c1
  obtain ⟨h0, k_tok, k_sc1, k_sc2, k_T, k_I, k_F, k_N, k_Y, k_Z, k_A, k_B, k_C, k_X, k_R, k_f4⟩ := hS (by rw [t1199]; exact fun e => by cases e)
  have k_tok0 := k_tok
  obtain ⟨h_L, h_n, h_nF⟩ := k_tok0
  have k_I0 := k_I
  obtain ⟨h_p, h_pc, h_ip, h_iP, h_PC, h_PN⟩ := k_I0
  obtain ⟨hn0, _, hNT⟩ := h_nF _ t1102
  have hXL : ((tx9 m).2 : Int) = m 110 1 := by
    show (((m 110 1).toNat : Nat) : Int) = _
    omega
  obtain ⟨⟨hi0, hi1⟩, hpi⟩ := h_ip _ _ _ t1102 t1122 t1123
  have hTK := (h_nF _ t1102).2.1.1 (g 2).toNat (by omega)
  have hSL := St_L (X := tx9 m) (i := (g 2).toNat)
  rw [show jk = (g 2).toNat by omega] at vk
  rw [show jv = (g 2).toNat by omega] at vv
  have hL9 := (h_L _ t1100).1
  have hTk := hTK.1.2
  have hk1 : kd9 (tx9 m) (Tp9 (tx9 m) (g 2).toNat) = 1 := by omega
  have hte := (te_al hk1).1
  have hTe := hTK.2.1 hk1
  exact ⟨rfl, ⟨f2 (by omega), f2 (by omega), trivial⟩, trivial, fun _ => ⟨h0, k_tok, k_sc1, k_sc2, k_T, k_I, k_F, k_N, k_Y, k_Z, k_A, k_B, k_C, k_X, k_R, k_f4⟩⟩
noncomputable def ru_hw_no : Ru := ([(0, (1199, (0, (0, 0)))), (0, (1102, (0, (0, 0)))), (0, (1122, (0, (0, 0)))), (0, (1123, (0, (0, 0)))), (0, (1124, (0, (0, 0)))), (17, (0, (3, (2, 0)))), (10, (0, (3, (0, 0)))), (4, (0, (0, (110, 0)))), (10, (0, (3, (1, 0)))), (4, (0, (0, (111, 0)))), (0, (1100, (0, (0, 0))))], ([], ([([(4, 1)], 37), ([(4, (-1))], (-37))], (false, ([], ([(26, (2, 5)), (23, (6, 7)), (23, (8, 9))], ([], none)))))))
theorem rk_hw_no : RuOk SR ru_hw_no := by
  intro τ m g hi hc ha hS
  obtain ⟨i0, i1, i2, i3, i4, i5, i6, i7, i8, i9, i10, _⟩ := hi
  have t1199 : τ 1199 = some (g 0) := i0
  have t1102 : τ 1102 = some (g 1) := i1
  have t1122 : τ 1122 = some (g 2) := i2
  have t1123 : τ 1123 = some (g 3) := i3
  have t1124 : τ 1124 = some (g 4) := i4
  have xe : g 5 = g 3 + 2 := i5
  have xx0 : g 6 = g 3 + 0 := i6
  have xb0 : g 7 = 110 := i7
  have xx1 : g 8 = g 3 + 1 := i8
  have xb1 : g 9 = 111 := i9
  have t1100 : τ 1100 = some (g 10) := i10
  obtain ⟨c0, c1, _⟩ := hc
  have c0 : 1 * g 4 ≤ 37 := d1 c0
  have c1 : (-1) * g 4 ≤ (-37) := d1 c1
  obtain ⟨h0, k_tok, k_sc1, k_sc2, k_T, k_I, k_F, k_N, k_Y, k_Z, k_A, k_B, k_C, k_X, k_R, k_f4⟩ := hS (by rw [t1199]; exact fun e => by cases e)
  have k_tok0 := k_tok
  obtain ⟨h_L, h_n, h_nF⟩ := k_tok0
  have k_I0 := k_I
  obtain ⟨h_p, h_pc, h_ip, h_iP, h_PC, h_PN⟩ := k_I0
  obtain ⟨hn0, _, hNT⟩ := h_nF _ t1102
  have hXL : ((tx9 m).2 : Int) = m 110 1 := by
    show (((m 110 1).toNat : Nat) : Int) = _
    omega
  obtain ⟨⟨hi0, hi1⟩, hpi⟩ := h_ip _ _ _ t1102 t1122 t1123
  have hTK := (h_nF _ t1102).2.1.1 (g 2).toNat (by omega)
  have hSL := St_L (X := tx9 m) (i := (g 2).toNat)
  have hcc := h_pc _ _ t1123 t1124
  rw [show (g 3).toNat = Tp9 (tx9 m) (g 2).toNat by omega] at hcc
  have hko := kd_of (X := tx9 m) (p := Tp9 (tx9 m) (g 2).toNat)
  have hL9 := h_L _ t1100
  obtain ⟨hk1, hte, hbs⟩ := wd_of (X := tx9 m) (p := (Tp9 (tx9 m) (g 2).toNat)) (c := 37) (v := 28271) (l := [110, 111]) (by omega) (by decide) (by decide) (by decide) (by decide) (by decide)
  have hte : te9 (tx9 m) (Tp9 (tx9 m) (g 2).toNat) = (Tp9 (tx9 m) (g 2).toNat) + 2 := hte
  have hta := (te_al hk1).1
  have hTe := hTK.2.1 hk1
  have hb0 : by9 (tx9 m) ((Tp9 (tx9 m) (g 2).toNat) + 0) = 110 := by
    have := congrArg (fun l => l[0]?) hbs
    exact Option.some.inj this
  have hm0 := by_m (m := m) (p := (Tp9 (tx9 m) (g 2).toNat) + 0) (by omega)
  have hl0 := hL9.2 ((Tp9 (tx9 m) (g 2).toNat) + 0) (by omega)
  have hb1 : by9 (tx9 m) ((Tp9 (tx9 m) (g 2).toNat) + 1) = 111 := by
    have := congrArg (fun l => l[1]?) hbs
    exact Option.some.inj this
  have hm1 := by_m (m := m) (p := (Tp9 (tx9 m) (g 2).toNat) + 1) (by omega)
  have hl1 := hL9.2 ((Tp9 (tx9 m) (g 2).toNat) + 1) (by omega)
  exact ⟨rfl, trivial, ⟨⟨(g 2).toNat, (show g 2 = (((g 2).toNat : Nat) : Int) by omega), (show g 5 = m 26 (g 2).toNat by omega)⟩, ⟨(Tp9 (tx9 m) (g 2).toNat) + 0, (show g 6 = (((Tp9 (tx9 m) (g 2).toNat) + 0 : Nat) : Int) by omega), (show g 7 = m 23 ((Tp9 (tx9 m) (g 2).toNat) + 0) by omega)⟩, ⟨(Tp9 (tx9 m) (g 2).toNat) + 1, (show g 8 = (((Tp9 (tx9 m) (g 2).toNat) + 1 : Nat) : Int) by omega), (show g 9 = m 23 ((Tp9 (tx9 m) (g 2).toNat) + 1) by omega)⟩, trivial⟩, fun _ => ⟨h0, k_tok, k_sc1, k_sc2, k_T, k_I, k_F, k_N, k_Y, k_Z, k_A, k_B, k_C, k_X, k_R, k_f4⟩⟩
noncomputable def ru_hL_no : Ru := ([(0, (1199, (0, (0, 0)))), (0, (1102, (0, (0, 0)))), (0, (1122, (0, (0, 0)))), (0, (1123, (0, (0, 0)))), (0, (1124, (0, (0, 0)))), (9, (24, (2, (1, 0)))), (9, (26, (2, (1, 0)))), (0, (1100, (0, (0, 0)))), (9, (23, (3, (1, 0)))), (9, (23, (3, (1, 1))))], ([], ([([(5, 1)], 1), ([(5, (-1))], (-1)), ([(3, (-1)), (6, 1)], 2), ([(3, 1), (6, (-1))], (-2)), ([(8, 1)], 110), ([(8, (-1))], (-110)), ([(9, 1)], 111), ([(9, (-1))], (-111)), ([(4, 1)], 36)], (true, ([], ([], ([], none)))))))
theorem rk_hL_no : RuOk SR ru_hL_no := by
  intro τ m g hi hc ha hS
  obtain ⟨i0, i1, i2, i3, i4, i5, i6, i7, i8, i9, _⟩ := hi
  have t1199 : τ 1199 = some (g 0) := i0
  have t1102 : τ 1102 = some (g 1) := i1
  have t1122 : τ 1122 = some (g 2) := i2
  have t1123 : τ 1123 = some (g 3) := i3
  have t1124 : τ 1124 = some (g 4) := i4
  obtain ⟨jk, uk, vk⟩ : ∃ j : Nat, 1 * g 2 + 0 = (j : Int) ∧ g 5 = m 24 j := i5
  obtain ⟨jv, uv, vv⟩ : ∃ j : Nat, 1 * g 2 + 0 = (j : Int) ∧ g 6 = m 26 j := i6
  have t1100 : τ 1100 = some (g 7) := i7
  obtain ⟨jb0, ub0, vb0⟩ : ∃ j : Nat, 1 * g 3 + 0 = (j : Int) ∧ g 8 = m 23 j := i8
  obtain ⟨jb1, ub1, vb1⟩ : ∃ j : Nat, 1 * g 3 + 1 = (j : Int) ∧ g 9 = m 23 j := i9
  obtain ⟨c0, c1, c2, c3, c4, c5, c6, c7, c8, _⟩ := hc
  have c0 : 1 * g 5 ≤ 1 := d1 c0
  have c1 : (-1) * g 5 ≤ (-1) := d1 c1
  have c2 : (-1) * g 3 + 1 * g 6 ≤ 2 := d2 c2
  have c3 : 1 * g 3 + (-1) * g 6 ≤ (-2) := d2 c3
  have c4 : 1 * g 8 ≤ 110 := d1 c4
  have c5 : (-1) * g 8 ≤ (-110) := d1 c5
  have c6 : 1 * g 9 ≤ 111 := d1 c6
  have c7 : (-1) * g 9 ≤ (-111) := d1 c7
  have c8 : 1 * g 4 ≤ 36 := d1 c8
  obtain ⟨h0, k_tok, k_sc1, k_sc2, k_T, k_I, k_F, k_N, k_Y, k_Z, k_A, k_B, k_C, k_X, k_R, k_f4⟩ := hS (by rw [t1199]; exact fun e => by cases e)
  have k_tok0 := k_tok
  obtain ⟨h_L, h_n, h_nF⟩ := k_tok0
  have k_I0 := k_I
  obtain ⟨h_p, h_pc, h_ip, h_iP, h_PC, h_PN⟩ := k_I0
  obtain ⟨hn0, _, hNT⟩ := h_nF _ t1102
  have hXL : ((tx9 m).2 : Int) = m 110 1 := by
    show (((m 110 1).toNat : Nat) : Int) = _
    omega
  obtain ⟨⟨hi0, hi1⟩, hpi⟩ := h_ip _ _ _ t1102 t1122 t1123
  have hTK := (h_nF _ t1102).2.1.1 (g 2).toNat (by omega)
  have hSL := St_L (X := tx9 m) (i := (g 2).toNat)
  have hcc := h_pc _ _ t1123 t1124
  rw [show (g 3).toNat = Tp9 (tx9 m) (g 2).toNat by omega] at hcc
  have hko := kd_of (X := tx9 m) (p := Tp9 (tx9 m) (g 2).toNat)
  rw [show jk = (g 2).toNat by omega] at vk
  rw [show jv = (g 2).toNat by omega] at vv
  have hL9 := h_L _ t1100
  have hTk := hTK.1.2
  have hk1 : kd9 (tx9 m) (Tp9 (tx9 m) (g 2).toNat) = 1 := by omega
  have hTe := hTK.2.1 hk1
  have hta := (te_al hk1).1
  have hb0 : by9 (tx9 m) ((Tp9 (tx9 m) (g 2).toNat) + 0) = 110 := by
    rw [by_m (by omega), ← hL9.2 ((Tp9 (tx9 m) (g 2).toNat) + 0) (by omega), show (Tp9 (tx9 m) (g 2).toNat) + 0 = jb0 by omega]
    omega
  have hb1 : by9 (tx9 m) ((Tp9 (tx9 m) (g 2).toNat) + 1) = 111 := by
    rw [by_m (by omega), ← hL9.2 ((Tp9 (tx9 m) (g 2).toNat) + 1) (by omega), show (Tp9 (tx9 m) (g 2).toNat) + 1 = jb1 by omega]
    omega
  have hrc := wd_to (X := tx9 m) (p := (Tp9 (tx9 m) (g 2).toNat)) (c := 37) (l := [110, 111]) hk1 (by show _ = _ + 2; omega) (by
    show [by9 (tx9 m) ((Tp9 (tx9 m) (g 2).toNat) + 0), by9 (tx9 m) ((Tp9 (tx9 m) (g 2).toNat) + 1)] = _
    rw [hb0, hb1]) (by decide) (by decide)
  exfalso
  omega
noncomputable def ru_hG_no : Ru := ([(0, (1199, (0, (0, 0)))), (0, (1102, (0, (0, 0)))), (0, (1122, (0, (0, 0)))), (0, (1123, (0, (0, 0)))), (0, (1124, (0, (0, 0)))), (9, (24, (2, (1, 0)))), (9, (26, (2, (1, 0)))), (0, (1100, (0, (0, 0)))), (9, (23, (3, (1, 0)))), (9, (23, (3, (1, 1))))], ([], ([([(5, 1)], 1), ([(5, (-1))], (-1)), ([(3, (-1)), (6, 1)], 2), ([(3, 1), (6, (-1))], (-2)), ([(8, 1)], 110), ([(8, (-1))], (-110)), ([(9, 1)], 111), ([(9, (-1))], (-111)), ([(4, (-1))], (-38))], (true, ([], ([], ([], none)))))))
theorem rk_hG_no : RuOk SR ru_hG_no := by
  intro τ m g hi hc ha hS
  obtain ⟨i0, i1, i2, i3, i4, i5, i6, i7, i8, i9, _⟩ := hi
  have t1199 : τ 1199 = some (g 0) := i0
  have t1102 : τ 1102 = some (g 1) := i1
  have t1122 : τ 1122 = some (g 2) := i2
  have t1123 : τ 1123 = some (g 3) := i3
  have t1124 : τ 1124 = some (g 4) := i4
  obtain ⟨jk, uk, vk⟩ : ∃ j : Nat, 1 * g 2 + 0 = (j : Int) ∧ g 5 = m 24 j := i5
  obtain ⟨jv, uv, vv⟩ : ∃ j : Nat, 1 * g 2 + 0 = (j : Int) ∧ g 6 = m 26 j := i6
  have t1100 : τ 1100 = some (g 7) := i7
  obtain ⟨jb0, ub0, vb0⟩ : ∃ j : Nat, 1 * g 3 + 0 = (j : Int) ∧ g 8 = m 23 j := i8
  obtain ⟨jb1, ub1, vb1⟩ : ∃ j : Nat, 1 * g 3 + 1 = (j : Int) ∧ g 9 = m 23 j := i9
  obtain ⟨c0, c1, c2, c3, c4, c5, c6, c7, c8, _⟩ := hc
  have c0 : 1 * g 5 ≤ 1 := d1 c0
  have c1 : (-1) * g 5 ≤ (-1) := d1 c1
  have c2 : (-1) * g 3 + 1 * g 6 ≤ 2 := d2 c2
  have c3 : 1 * g 3 + (-1) * g 6 ≤ (-2) := d2 c3
  have c4 : 1 * g 8 ≤ 110 := d1 c4
  have c5 : (-1) * g 8 ≤ (-110) := d1 c5
  have c6 : 1 * g 9 ≤ 111 := d1 c6
  have c7 : (-1) * g 9 ≤ (-111) := d1 c7
  have c8 : (-1) * g 4 ≤ (-38) := d1 c8
  obtain ⟨h0, k_tok, k_sc1, k_sc2, k_T, k_I, k_F, k_N, k_Y, k_Z, k_A, k_B, k_C, k_X, k_R, k_f4⟩ := hS (by rw [t1199]; exact fun e => by cases e)
  have k_tok0 := k_tok
  obtain ⟨h_L, h_n, h_nF⟩ := k_tok0
  have k_I0 := k_I
  obtain ⟨h_p, h_pc, h_ip, h_iP, h_PC, h_PN⟩ := k_I0
  obtain ⟨hn0, _, hNT⟩ := h_nF _ t1102
  have hXL : ((tx9 m).2 : Int) = m 110 1 := by
    show (((m 110 1).toNat : Nat) : Int) = _
    omega
  obtain ⟨⟨hi0, hi1⟩, hpi⟩ := h_ip _ _ _ t1102 t1122 t1123
  have hTK := (h_nF _ t1102).2.1.1 (g 2).toNat (by omega)
  have hSL := St_L (X := tx9 m) (i := (g 2).toNat)
  have hcc := h_pc _ _ t1123 t1124
  rw [show (g 3).toNat = Tp9 (tx9 m) (g 2).toNat by omega] at hcc
  have hko := kd_of (X := tx9 m) (p := Tp9 (tx9 m) (g 2).toNat)
  rw [show jk = (g 2).toNat by omega] at vk
  rw [show jv = (g 2).toNat by omega] at vv
  have hL9 := h_L _ t1100
  have hTk := hTK.1.2
  have hk1 : kd9 (tx9 m) (Tp9 (tx9 m) (g 2).toNat) = 1 := by omega
  have hTe := hTK.2.1 hk1
  have hta := (te_al hk1).1
  have hb0 : by9 (tx9 m) ((Tp9 (tx9 m) (g 2).toNat) + 0) = 110 := by
    rw [by_m (by omega), ← hL9.2 ((Tp9 (tx9 m) (g 2).toNat) + 0) (by omega), show (Tp9 (tx9 m) (g 2).toNat) + 0 = jb0 by omega]
    omega
  have hb1 : by9 (tx9 m) ((Tp9 (tx9 m) (g 2).toNat) + 1) = 111 := by
    rw [by_m (by omega), ← hL9.2 ((Tp9 (tx9 m) (g 2).toNat) + 1) (by omega), show (Tp9 (tx9 m) (g 2).toNat) + 1 = jb1 by omega]
    omega
  have hrc := wd_to (X := tx9 m) (p := (Tp9 (tx9 m) (g 2).toNat)) (c := 37) (l := [110, 111]) hk1 (by show _ = _ + 2; omega) (by
    show [by9 (tx9 m) ((Tp9 (tx9 m) (g 2).toNat) + 0), by9 (tx9 m) ((Tp9 (tx9 m) (g 2).toNat) + 1)] = _
    rw [hb0, hb1]) (by decide) (by decide)
  exfalso
  omega
noncomputable def ru_hw_yes : Ru := ([(0, (1199, (0, (0, 0)))), (0, (1102, (0, (0, 0)))), (0, (1122, (0, (0, 0)))), (0, (1123, (0, (0, 0)))), (0, (1124, (0, (0, 0)))), (17, (0, (3, (3, 0)))), (10, (0, (3, (0, 0)))), (4, (0, (0, (121, 0)))), (10, (0, (3, (1, 0)))), (4, (0, (0, (101, 0)))), (10, (0, (3, (2, 0)))), (4, (0, (0, (115, 0)))), (0, (1100, (0, (0, 0))))], ([], ([([(4, 1)], 38), ([(4, (-1))], (-38))], (false, ([], ([(26, (2, 5)), (23, (6, 7)), (23, (8, 9)), (23, (10, 11))], ([], none)))))))
theorem rk_hw_yes : RuOk SR ru_hw_yes := by
  intro τ m g hi hc ha hS
  obtain ⟨i0, i1, i2, i3, i4, i5, i6, i7, i8, i9, i10, i11, i12, _⟩ := hi
  have t1199 : τ 1199 = some (g 0) := i0
  have t1102 : τ 1102 = some (g 1) := i1
  have t1122 : τ 1122 = some (g 2) := i2
  have t1123 : τ 1123 = some (g 3) := i3
  have t1124 : τ 1124 = some (g 4) := i4
  have xe : g 5 = g 3 + 3 := i5
  have xx0 : g 6 = g 3 + 0 := i6
  have xb0 : g 7 = 121 := i7
  have xx1 : g 8 = g 3 + 1 := i8
  have xb1 : g 9 = 101 := i9
  have xx2 : g 10 = g 3 + 2 := i10
  have xb2 : g 11 = 115 := i11
  have t1100 : τ 1100 = some (g 12) := i12
  obtain ⟨c0, c1, _⟩ := hc
  have c0 : 1 * g 4 ≤ 38 := d1 c0
  have c1 : (-1) * g 4 ≤ (-38) := d1 c1
  obtain ⟨h0, k_tok, k_sc1, k_sc2, k_T, k_I, k_F, k_N, k_Y, k_Z, k_A, k_B, k_C, k_X, k_R, k_f4⟩ := hS (by rw [t1199]; exact fun e => by cases e)
  have k_tok0 := k_tok
  obtain ⟨h_L, h_n, h_nF⟩ := k_tok0
  have k_I0 := k_I
  obtain ⟨h_p, h_pc, h_ip, h_iP, h_PC, h_PN⟩ := k_I0
  obtain ⟨hn0, _, hNT⟩ := h_nF _ t1102
  have hXL : ((tx9 m).2 : Int) = m 110 1 := by
    show (((m 110 1).toNat : Nat) : Int) = _
    omega
  obtain ⟨⟨hi0, hi1⟩, hpi⟩ := h_ip _ _ _ t1102 t1122 t1123
  have hTK := (h_nF _ t1102).2.1.1 (g 2).toNat (by omega)
  have hSL := St_L (X := tx9 m) (i := (g 2).toNat)
  have hcc := h_pc _ _ t1123 t1124
  rw [show (g 3).toNat = Tp9 (tx9 m) (g 2).toNat by omega] at hcc
  have hko := kd_of (X := tx9 m) (p := Tp9 (tx9 m) (g 2).toNat)
  have hL9 := h_L _ t1100
  obtain ⟨hk1, hte, hbs⟩ := wd_of (X := tx9 m) (p := (Tp9 (tx9 m) (g 2).toNat)) (c := 38) (v := 7955827) (l := [121, 101, 115]) (by omega) (by decide) (by decide) (by decide) (by decide) (by decide)
  have hte : te9 (tx9 m) (Tp9 (tx9 m) (g 2).toNat) = (Tp9 (tx9 m) (g 2).toNat) + 3 := hte
  have hta := (te_al hk1).1
  have hTe := hTK.2.1 hk1
  have hb0 : by9 (tx9 m) ((Tp9 (tx9 m) (g 2).toNat) + 0) = 121 := by
    have := congrArg (fun l => l[0]?) hbs
    exact Option.some.inj this
  have hm0 := by_m (m := m) (p := (Tp9 (tx9 m) (g 2).toNat) + 0) (by omega)
  have hl0 := hL9.2 ((Tp9 (tx9 m) (g 2).toNat) + 0) (by omega)
  have hb1 : by9 (tx9 m) ((Tp9 (tx9 m) (g 2).toNat) + 1) = 101 := by
    have := congrArg (fun l => l[1]?) hbs
    exact Option.some.inj this
  have hm1 := by_m (m := m) (p := (Tp9 (tx9 m) (g 2).toNat) + 1) (by omega)
  have hl1 := hL9.2 ((Tp9 (tx9 m) (g 2).toNat) + 1) (by omega)
  have hb2 : by9 (tx9 m) ((Tp9 (tx9 m) (g 2).toNat) + 2) = 115 := by
    have := congrArg (fun l => l[2]?) hbs
    exact Option.some.inj this
  have hm2 := by_m (m := m) (p := (Tp9 (tx9 m) (g 2).toNat) + 2) (by omega)
  have hl2 := hL9.2 ((Tp9 (tx9 m) (g 2).toNat) + 2) (by omega)
  exact ⟨rfl, trivial, ⟨⟨(g 2).toNat, (show g 2 = (((g 2).toNat : Nat) : Int) by omega), (show g 5 = m 26 (g 2).toNat by omega)⟩, ⟨(Tp9 (tx9 m) (g 2).toNat) + 0, (show g 6 = (((Tp9 (tx9 m) (g 2).toNat) + 0 : Nat) : Int) by omega), (show g 7 = m 23 ((Tp9 (tx9 m) (g 2).toNat) + 0) by omega)⟩, ⟨(Tp9 (tx9 m) (g 2).toNat) + 1, (show g 8 = (((Tp9 (tx9 m) (g 2).toNat) + 1 : Nat) : Int) by omega), (show g 9 = m 23 ((Tp9 (tx9 m) (g 2).toNat) + 1) by omega)⟩, ⟨(Tp9 (tx9 m) (g 2).toNat) + 2, (show g 10 = (((Tp9 (tx9 m) (g 2).toNat) + 2 : Nat) : Int) by omega), (show g 11 = m 23 ((Tp9 (tx9 m) (g 2).toNat) + 2) by omega)⟩, trivial⟩, fun _ => ⟨h0, k_tok, k_sc1, k_sc2, k_T, k_I, k_F, k_N, k_Y, k_Z, k_A, k_B, k_C, k_X, k_R, k_f4⟩⟩
noncomputable def ru_hL_yes : Ru := ([(0, (1199, (0, (0, 0)))), (0, (1102, (0, (0, 0)))), (0, (1122, (0, (0, 0)))), (0, (1123, (0, (0, 0)))), (0, (1124, (0, (0, 0)))), (9, (24, (2, (1, 0)))), (9, (26, (2, (1, 0)))), (0, (1100, (0, (0, 0)))), (9, (23, (3, (1, 0)))), (9, (23, (3, (1, 1)))), (9, (23, (3, (1, 2))))], ([], ([([(5, 1)], 1), ([(5, (-1))], (-1)), ([(3, (-1)), (6, 1)], 3), ([(3, 1), (6, (-1))], (-3)), ([(8, 1)], 121), ([(8, (-1))], (-121)), ([(9, 1)], 101), ([(9, (-1))], (-101)), ([(10, 1)], 115), ([(10, (-1))], (-115)), ([(4, 1)], 37)], (true, ([], ([], ([], none)))))))
theorem rk_hL_yes : RuOk SR ru_hL_yes := by
  intro τ m g hi hc ha hS
  obtain ⟨i0, i1, i2, i3, i4, i5, i6, i7, i8, i9, i10, _⟩ := hi
  have t1199 : τ 1199 = some (g 0) := i0
  have t1102 : τ 1102 = some (g 1) := i1
  have t1122 : τ 1122 = some (g 2) := i2
  have t1123 : τ 1123 = some (g 3) := i3
  have t1124 : τ 1124 = some (g 4) := i4
  obtain ⟨jk, uk, vk⟩ : ∃ j : Nat, 1 * g 2 + 0 = (j : Int) ∧ g 5 = m 24 j := i5
  obtain ⟨jv, uv, vv⟩ : ∃ j : Nat, 1 * g 2 + 0 = (j : Int) ∧ g 6 = m 26 j := i6
  have t1100 : τ 1100 = some (g 7) := i7
  obtain ⟨jb0, ub0, vb0⟩ : ∃ j : Nat, 1 * g 3 + 0 = (j : Int) ∧ g 8 = m 23 j := i8
  obtain ⟨jb1, ub1, vb1⟩ : ∃ j : Nat, 1 * g 3 + 1 = (j : Int) ∧ g 9 = m 23 j := i9
  obtain ⟨jb2, ub2, vb2⟩ : ∃ j : Nat, 1 * g 3 + 2 = (j : Int) ∧ g 10 = m 23 j := i10
  obtain ⟨c0, c1, c2, c3, c4, c5, c6, c7, c8, c9, c10, _⟩ := hc
  have c0 : 1 * g 5 ≤ 1 := d1 c0
  have c1 : (-1) * g 5 ≤ (-1) := d1 c1
  have c2 : (-1) * g 3 + 1 * g 6 ≤ 3 := d2 c2
  have c3 : 1 * g 3 + (-1) * g 6 ≤ (-3) := d2 c3
  have c4 : 1 * g 8 ≤ 121 := d1 c4
  have c5 : (-1) * g 8 ≤ (-121) := d1 c5
  have c6 : 1 * g 9 ≤ 101 := d1 c6
  have c7 : (-1) * g 9 ≤ (-101) := d1 c7
  have c8 : 1 * g 10 ≤ 115 := d1 c8
  have c9 : (-1) * g 10 ≤ (-115) := d1 c9
  have c10 : 1 * g 4 ≤ 37 := d1 c10
  obtain ⟨h0, k_tok, k_sc1, k_sc2, k_T, k_I, k_F, k_N, k_Y, k_Z, k_A, k_B, k_C, k_X, k_R, k_f4⟩ := hS (by rw [t1199]; exact fun e => by cases e)
  have k_tok0 := k_tok
  obtain ⟨h_L, h_n, h_nF⟩ := k_tok0
  have k_I0 := k_I
  obtain ⟨h_p, h_pc, h_ip, h_iP, h_PC, h_PN⟩ := k_I0
  obtain ⟨hn0, _, hNT⟩ := h_nF _ t1102
  have hXL : ((tx9 m).2 : Int) = m 110 1 := by
    show (((m 110 1).toNat : Nat) : Int) = _
    omega
  obtain ⟨⟨hi0, hi1⟩, hpi⟩ := h_ip _ _ _ t1102 t1122 t1123
  have hTK := (h_nF _ t1102).2.1.1 (g 2).toNat (by omega)
  have hSL := St_L (X := tx9 m) (i := (g 2).toNat)
  have hcc := h_pc _ _ t1123 t1124
  rw [show (g 3).toNat = Tp9 (tx9 m) (g 2).toNat by omega] at hcc
  have hko := kd_of (X := tx9 m) (p := Tp9 (tx9 m) (g 2).toNat)
  rw [show jk = (g 2).toNat by omega] at vk
  rw [show jv = (g 2).toNat by omega] at vv
  have hL9 := h_L _ t1100
  have hTk := hTK.1.2
  have hk1 : kd9 (tx9 m) (Tp9 (tx9 m) (g 2).toNat) = 1 := by omega
  have hTe := hTK.2.1 hk1
  have hta := (te_al hk1).1
  have hb0 : by9 (tx9 m) ((Tp9 (tx9 m) (g 2).toNat) + 0) = 121 := by
    rw [by_m (by omega), ← hL9.2 ((Tp9 (tx9 m) (g 2).toNat) + 0) (by omega), show (Tp9 (tx9 m) (g 2).toNat) + 0 = jb0 by omega]
    omega
  have hb1 : by9 (tx9 m) ((Tp9 (tx9 m) (g 2).toNat) + 1) = 101 := by
    rw [by_m (by omega), ← hL9.2 ((Tp9 (tx9 m) (g 2).toNat) + 1) (by omega), show (Tp9 (tx9 m) (g 2).toNat) + 1 = jb1 by omega]
    omega
  have hb2 : by9 (tx9 m) ((Tp9 (tx9 m) (g 2).toNat) + 2) = 115 := by
    rw [by_m (by omega), ← hL9.2 ((Tp9 (tx9 m) (g 2).toNat) + 2) (by omega), show (Tp9 (tx9 m) (g 2).toNat) + 2 = jb2 by omega]
    omega
  have hrc := wd_to (X := tx9 m) (p := (Tp9 (tx9 m) (g 2).toNat)) (c := 38) (l := [121, 101, 115]) hk1 (by show _ = _ + 3; omega) (by
    show [by9 (tx9 m) ((Tp9 (tx9 m) (g 2).toNat) + 0), by9 (tx9 m) ((Tp9 (tx9 m) (g 2).toNat) + 1), by9 (tx9 m) ((Tp9 (tx9 m) (g 2).toNat) + 2)] = _
    rw [hb0, hb1, hb2]) (by decide) (by decide)
  exfalso
  omega
noncomputable def ru_hG_yes : Ru := ([(0, (1199, (0, (0, 0)))), (0, (1102, (0, (0, 0)))), (0, (1122, (0, (0, 0)))), (0, (1123, (0, (0, 0)))), (0, (1124, (0, (0, 0)))), (9, (24, (2, (1, 0)))), (9, (26, (2, (1, 0)))), (0, (1100, (0, (0, 0)))), (9, (23, (3, (1, 0)))), (9, (23, (3, (1, 1)))), (9, (23, (3, (1, 2))))], ([], ([([(5, 1)], 1), ([(5, (-1))], (-1)), ([(3, (-1)), (6, 1)], 3), ([(3, 1), (6, (-1))], (-3)), ([(8, 1)], 121), ([(8, (-1))], (-121)), ([(9, 1)], 101), ([(9, (-1))], (-101)), ([(10, 1)], 115), ([(10, (-1))], (-115)), ([(4, (-1))], (-39))], (true, ([], ([], ([], none)))))))
theorem rk_hG_yes : RuOk SR ru_hG_yes := by
  intro τ m g hi hc ha hS
  obtain ⟨i0, i1, i2, i3, i4, i5, i6, i7, i8, i9, i10, _⟩ := hi
  have t1199 : τ 1199 = some (g 0) := i0
  have t1102 : τ 1102 = some (g 1) := i1
  have t1122 : τ 1122 = some (g 2) := i2
  have t1123 : τ 1123 = some (g 3) := i3
  have t1124 : τ 1124 = some (g 4) := i4
  obtain ⟨jk, uk, vk⟩ : ∃ j : Nat, 1 * g 2 + 0 = (j : Int) ∧ g 5 = m 24 j := i5
  obtain ⟨jv, uv, vv⟩ : ∃ j : Nat, 1 * g 2 + 0 = (j : Int) ∧ g 6 = m 26 j := i6
  have t1100 : τ 1100 = some (g 7) := i7
  obtain ⟨jb0, ub0, vb0⟩ : ∃ j : Nat, 1 * g 3 + 0 = (j : Int) ∧ g 8 = m 23 j := i8
  obtain ⟨jb1, ub1, vb1⟩ : ∃ j : Nat, 1 * g 3 + 1 = (j : Int) ∧ g 9 = m 23 j := i9
  obtain ⟨jb2, ub2, vb2⟩ : ∃ j : Nat, 1 * g 3 + 2 = (j : Int) ∧ g 10 = m 23 j := i10
  obtain ⟨c0, c1, c2, c3, c4, c5, c6, c7, c8, c9, c10, _⟩ := hc
  have c0 : 1 * g 5 ≤ 1 := d1 c0
  have c1 : (-1) * g 5 ≤ (-1) := d1 c1
  have c2 : (-1) * g 3 + 1 * g 6 ≤ 3 := d2 c2
  have c3 : 1 * g 3 + (-1) * g 6 ≤ (-3) := d2 c3
  have c4 : 1 * g 8 ≤ 121 := d1 c4
  have c5 : (-1) * g 8 ≤ (-121) := d1 c5
  have c6 : 1 * g 9 ≤ 101 := d1 c6
  have c7 : (-1) * g 9 ≤ (-101) := d1 c7
  have c8 : 1 * g 10 ≤ 115 := d1 c8
  have c9 : (-1) * g 10 ≤ (-115) := d1 c9
  have c10 : (-1) * g 4 ≤ (-39) := d1 c10
  obtain ⟨h0, k_tok, k_sc1, k_sc2, k_T, k_I, k_F, k_N, k_Y, k_Z, k_A, k_B, k_C, k_X, k_R, k_f4⟩ := hS (by rw [t1199]; exact fun e => by cases e)
  have k_tok0 := k_tok
  obtain ⟨h_L, h_n, h_nF⟩ := k_tok0
  have k_I0 := k_I
  obtain ⟨h_p, h_pc, h_ip, h_iP, h_PC, h_PN⟩ := k_I0
  obtain ⟨hn0, _, hNT⟩ := h_nF _ t1102
  have hXL : ((tx9 m).2 : Int) = m 110 1 := by
    show (((m 110 1).toNat : Nat) : Int) = _
    omega
  obtain ⟨⟨hi0, hi1⟩, hpi⟩ := h_ip _ _ _ t1102 t1122 t1123
  have hTK := (h_nF _ t1102).2.1.1 (g 2).toNat (by omega)
  have hSL := St_L (X := tx9 m) (i := (g 2).toNat)
  have hcc := h_pc _ _ t1123 t1124
  rw [show (g 3).toNat = Tp9 (tx9 m) (g 2).toNat by omega] at hcc
  have hko := kd_of (X := tx9 m) (p := Tp9 (tx9 m) (g 2).toNat)
  rw [show jk = (g 2).toNat by omega] at vk
  rw [show jv = (g 2).toNat by omega] at vv
  have hL9 := h_L _ t1100
  have hTk := hTK.1.2
  have hk1 : kd9 (tx9 m) (Tp9 (tx9 m) (g 2).toNat) = 1 := by omega
  have hTe := hTK.2.1 hk1
  have hta := (te_al hk1).1
  have hb0 : by9 (tx9 m) ((Tp9 (tx9 m) (g 2).toNat) + 0) = 121 := by
    rw [by_m (by omega), ← hL9.2 ((Tp9 (tx9 m) (g 2).toNat) + 0) (by omega), show (Tp9 (tx9 m) (g 2).toNat) + 0 = jb0 by omega]
    omega
  have hb1 : by9 (tx9 m) ((Tp9 (tx9 m) (g 2).toNat) + 1) = 101 := by
    rw [by_m (by omega), ← hL9.2 ((Tp9 (tx9 m) (g 2).toNat) + 1) (by omega), show (Tp9 (tx9 m) (g 2).toNat) + 1 = jb1 by omega]
    omega
  have hb2 : by9 (tx9 m) ((Tp9 (tx9 m) (g 2).toNat) + 2) = 115 := by
    rw [by_m (by omega), ← hL9.2 ((Tp9 (tx9 m) (g 2).toNat) + 2) (by omega), show (Tp9 (tx9 m) (g 2).toNat) + 2 = jb2 by omega]
    omega
  have hrc := wd_to (X := tx9 m) (p := (Tp9 (tx9 m) (g 2).toNat)) (c := 38) (l := [121, 101, 115]) hk1 (by show _ = _ + 3; omega) (by
    show [by9 (tx9 m) ((Tp9 (tx9 m) (g 2).toNat) + 0), by9 (tx9 m) ((Tp9 (tx9 m) (g 2).toNat) + 1), by9 (tx9 m) ((Tp9 (tx9 m) (g 2).toNat) + 2)] = _
    rw [hb0, hb1, hb2]) (by decide) (by decide)
  exfalso
  omega
noncomputable def ru_hw_maybe : Ru := ([(0, (1199, (0, (0, 0)))), (0, (1102, (0, (0, 0)))), (0, (1122, (0, (0, 0)))), (0, (1123, (0, (0, 0)))), (0, (1124, (0, (0, 0)))), (17, (0, (3, (5, 0)))), (10, (0, (3, (0, 0)))), (4, (0, (0, (109, 0)))), (10, (0, (3, (1, 0)))), (4, (0, (0, (97, 0)))), (10, (0, (3, (2, 0)))), (4, (0, (0, (121, 0)))), (10, (0, (3, (3, 0)))), (4, (0, (0, (98, 0)))), (10, (0, (3, (4, 0)))), (4, (0, (0, (101, 0)))), (0, (1100, (0, (0, 0))))], ([], ([([(4, 1)], 39), ([(4, (-1))], (-39))], (false, ([], ([(26, (2, 5)), (23, (6, 7)), (23, (8, 9)), (23, (10, 11)), (23, (12, 13)), (23, (14, 15))], ([], none)))))))
theorem rk_hw_maybe : RuOk SR ru_hw_maybe := by
  intro τ m g hi hc ha hS
  obtain ⟨i0, i1, i2, i3, i4, i5, i6, i7, i8, i9, i10, i11, i12, i13, i14, i15, i16, _⟩ := hi
  have t1199 : τ 1199 = some (g 0) := i0
  have t1102 : τ 1102 = some (g 1) := i1
  have t1122 : τ 1122 = some (g 2) := i2
  have t1123 : τ 1123 = some (g 3) := i3
  have t1124 : τ 1124 = some (g 4) := i4
  have xe : g 5 = g 3 + 5 := i5
  have xx0 : g 6 = g 3 + 0 := i6
  have xb0 : g 7 = 109 := i7
  have xx1 : g 8 = g 3 + 1 := i8
  have xb1 : g 9 = 97 := i9
  have xx2 : g 10 = g 3 + 2 := i10
  have xb2 : g 11 = 121 := i11
  have xx3 : g 12 = g 3 + 3 := i12
  have xb3 : g 13 = 98 := i13
  have xx4 : g 14 = g 3 + 4 := i14
  have xb4 : g 15 = 101 := i15
  have t1100 : τ 1100 = some (g 16) := i16
  obtain ⟨c0, c1, _⟩ := hc
  have c0 : 1 * g 4 ≤ 39 := d1 c0
  have c1 : (-1) * g 4 ≤ (-39) := d1 c1
  obtain ⟨h0, k_tok, k_sc1, k_sc2, k_T, k_I, k_F, k_N, k_Y, k_Z, k_A, k_B, k_C, k_X, k_R, k_f4⟩ := hS (by rw [t1199]; exact fun e => by cases e)
  have k_tok0 := k_tok
  obtain ⟨h_L, h_n, h_nF⟩ := k_tok0
  have k_I0 := k_I
  obtain ⟨h_p, h_pc, h_ip, h_iP, h_PC, h_PN⟩ := k_I0
  obtain ⟨hn0, _, hNT⟩ := h_nF _ t1102
  have hXL : ((tx9 m).2 : Int) = m 110 1 := by
    show (((m 110 1).toNat : Nat) : Int) = _
    omega
  obtain ⟨⟨hi0, hi1⟩, hpi⟩ := h_ip _ _ _ t1102 t1122 t1123
  have hTK := (h_nF _ t1102).2.1.1 (g 2).toNat (by omega)
  have hSL := St_L (X := tx9 m) (i := (g 2).toNat)
  have hcc := h_pc _ _ t1123 t1124
  rw [show (g 3).toNat = Tp9 (tx9 m) (g 2).toNat by omega] at hcc
  have hko := kd_of (X := tx9 m) (p := Tp9 (tx9 m) (g 2).toNat)
  have hL9 := h_L _ t1100
  obtain ⟨hk1, hte, hbs⟩ := wd_of (X := tx9 m) (p := (Tp9 (tx9 m) (g 2).toNat)) (c := 39) (v := 469786780261) (l := [109, 97, 121, 98, 101]) (by omega) (by decide) (by decide) (by decide) (by decide) (by decide)
  have hte : te9 (tx9 m) (Tp9 (tx9 m) (g 2).toNat) = (Tp9 (tx9 m) (g 2).toNat) + 5 := hte
  have hta := (te_al hk1).1
  have hTe := hTK.2.1 hk1
  have hb0 : by9 (tx9 m) ((Tp9 (tx9 m) (g 2).toNat) + 0) = 109 := by
    have := congrArg (fun l => l[0]?) hbs
    exact Option.some.inj this
  have hm0 := by_m (m := m) (p := (Tp9 (tx9 m) (g 2).toNat) + 0) (by omega)
  have hl0 := hL9.2 ((Tp9 (tx9 m) (g 2).toNat) + 0) (by omega)
  have hb1 : by9 (tx9 m) ((Tp9 (tx9 m) (g 2).toNat) + 1) = 97 := by
    have := congrArg (fun l => l[1]?) hbs
    exact Option.some.inj this
  have hm1 := by_m (m := m) (p := (Tp9 (tx9 m) (g 2).toNat) + 1) (by omega)
  have hl1 := hL9.2 ((Tp9 (tx9 m) (g 2).toNat) + 1) (by omega)
  have hb2 : by9 (tx9 m) ((Tp9 (tx9 m) (g 2).toNat) + 2) = 121 := by
    have := congrArg (fun l => l[2]?) hbs
    exact Option.some.inj this
  have hm2 := by_m (m := m) (p := (Tp9 (tx9 m) (g 2).toNat) + 2) (by omega)
  have hl2 := hL9.2 ((Tp9 (tx9 m) (g 2).toNat) + 2) (by omega)
  have hb3 : by9 (tx9 m) ((Tp9 (tx9 m) (g 2).toNat) + 3) = 98 := by
    have := congrArg (fun l => l[3]?) hbs
    exact Option.some.inj this
  have hm3 := by_m (m := m) (p := (Tp9 (tx9 m) (g 2).toNat) + 3) (by omega)
  have hl3 := hL9.2 ((Tp9 (tx9 m) (g 2).toNat) + 3) (by omega)
  have hb4 : by9 (tx9 m) ((Tp9 (tx9 m) (g 2).toNat) + 4) = 101 := by
    have := congrArg (fun l => l[4]?) hbs
    exact Option.some.inj this
  have hm4 := by_m (m := m) (p := (Tp9 (tx9 m) (g 2).toNat) + 4) (by omega)
  have hl4 := hL9.2 ((Tp9 (tx9 m) (g 2).toNat) + 4) (by omega)
  exact ⟨rfl, trivial, ⟨⟨(g 2).toNat, (show g 2 = (((g 2).toNat : Nat) : Int) by omega), (show g 5 = m 26 (g 2).toNat by omega)⟩, ⟨(Tp9 (tx9 m) (g 2).toNat) + 0, (show g 6 = (((Tp9 (tx9 m) (g 2).toNat) + 0 : Nat) : Int) by omega), (show g 7 = m 23 ((Tp9 (tx9 m) (g 2).toNat) + 0) by omega)⟩, ⟨(Tp9 (tx9 m) (g 2).toNat) + 1, (show g 8 = (((Tp9 (tx9 m) (g 2).toNat) + 1 : Nat) : Int) by omega), (show g 9 = m 23 ((Tp9 (tx9 m) (g 2).toNat) + 1) by omega)⟩, ⟨(Tp9 (tx9 m) (g 2).toNat) + 2, (show g 10 = (((Tp9 (tx9 m) (g 2).toNat) + 2 : Nat) : Int) by omega), (show g 11 = m 23 ((Tp9 (tx9 m) (g 2).toNat) + 2) by omega)⟩, ⟨(Tp9 (tx9 m) (g 2).toNat) + 3, (show g 12 = (((Tp9 (tx9 m) (g 2).toNat) + 3 : Nat) : Int) by omega), (show g 13 = m 23 ((Tp9 (tx9 m) (g 2).toNat) + 3) by omega)⟩, ⟨(Tp9 (tx9 m) (g 2).toNat) + 4, (show g 14 = (((Tp9 (tx9 m) (g 2).toNat) + 4 : Nat) : Int) by omega), (show g 15 = m 23 ((Tp9 (tx9 m) (g 2).toNat) + 4) by omega)⟩, trivial⟩, fun _ => ⟨h0, k_tok, k_sc1, k_sc2, k_T, k_I, k_F, k_N, k_Y, k_Z, k_A, k_B, k_C, k_X, k_R, k_f4⟩⟩
noncomputable def ru_hL_maybe : Ru := ([(0, (1199, (0, (0, 0)))), (0, (1102, (0, (0, 0)))), (0, (1122, (0, (0, 0)))), (0, (1123, (0, (0, 0)))), (0, (1124, (0, (0, 0)))), (9, (24, (2, (1, 0)))), (9, (26, (2, (1, 0)))), (0, (1100, (0, (0, 0)))), (9, (23, (3, (1, 0)))), (9, (23, (3, (1, 1)))), (9, (23, (3, (1, 2)))), (9, (23, (3, (1, 3)))), (9, (23, (3, (1, 4))))], ([], ([([(5, 1)], 1), ([(5, (-1))], (-1)), ([(3, (-1)), (6, 1)], 5), ([(3, 1), (6, (-1))], (-5)), ([(8, 1)], 109), ([(8, (-1))], (-109)), ([(9, 1)], 97), ([(9, (-1))], (-97)), ([(10, 1)], 121), ([(10, (-1))], (-121)), ([(11, 1)], 98), ([(11, (-1))], (-98)), ([(12, 1)], 101), ([(12, (-1))], (-101)), ([(4, 1)], 38)], (true, ([], ([], ([], none)))))))
theorem rk_hL_maybe : RuOk SR ru_hL_maybe := by
  intro τ m g hi hc ha hS
  obtain ⟨i0, i1, i2, i3, i4, i5, i6, i7, i8, i9, i10, i11, i12, _⟩ := hi
  have t1199 : τ 1199 = some (g 0) := i0
  have t1102 : τ 1102 = some (g 1) := i1
  have t1122 : τ 1122 = some (g 2) := i2
  have t1123 : τ 1123 = some (g 3) := i3
  have t1124 : τ 1124 = some (g 4) := i4
  obtain ⟨jk, uk, vk⟩ : ∃ j : Nat, 1 * g 2 + 0 = (j : Int) ∧ g 5 = m 24 j := i5
  obtain ⟨jv, uv, vv⟩ : ∃ j : Nat, 1 * g 2 + 0 = (j : Int) ∧ g 6 = m 26 j := i6
  have t1100 : τ 1100 = some (g 7) := i7
  obtain ⟨jb0, ub0, vb0⟩ : ∃ j : Nat, 1 * g 3 + 0 = (j : Int) ∧ g 8 = m 23 j := i8
  obtain ⟨jb1, ub1, vb1⟩ : ∃ j : Nat, 1 * g 3 + 1 = (j : Int) ∧ g 9 = m 23 j := i9
  obtain ⟨jb2, ub2, vb2⟩ : ∃ j : Nat, 1 * g 3 + 2 = (j : Int) ∧ g 10 = m 23 j := i10
  obtain ⟨jb3, ub3, vb3⟩ : ∃ j : Nat, 1 * g 3 + 3 = (j : Int) ∧ g 11 = m 23 j := i11
  obtain ⟨jb4, ub4, vb4⟩ : ∃ j : Nat, 1 * g 3 + 4 = (j : Int) ∧ g 12 = m 23 j := i12
  obtain ⟨c0, c1, c2, c3, c4, c5, c6, c7, c8, c9, c10, c11, c12, c13, c14, _⟩ := hc
  have c0 : 1 * g 5 ≤ 1 := d1 c0
  have c1 : (-1) * g 5 ≤ (-1) := d1 c1
  have c2 : (-1) * g 3 + 1 * g 6 ≤ 5 := d2 c2
  have c3 : 1 * g 3 + (-1) * g 6 ≤ (-5) := d2 c3
  have c4 : 1 * g 8 ≤ 109 := d1 c4
  have c5 : (-1) * g 8 ≤ (-109) := d1 c5
  have c6 : 1 * g 9 ≤ 97 := d1 c6
  have c7 : (-1) * g 9 ≤ (-97) := d1 c7
  have c8 : 1 * g 10 ≤ 121 := d1 c8
  have c9 : (-1) * g 10 ≤ (-121) := d1 c9
  have c10 : 1 * g 11 ≤ 98 := d1 c10
  have c11 : (-1) * g 11 ≤ (-98) := d1 c11
  have c12 : 1 * g 12 ≤ 101 := d1 c12
  have c13 : (-1) * g 12 ≤ (-101) := d1 c13
  have c14 : 1 * g 4 ≤ 38 := d1 c14
  obtain ⟨h0, k_tok, k_sc1, k_sc2, k_T, k_I, k_F, k_N, k_Y, k_Z, k_A, k_B, k_C, k_X, k_R, k_f4⟩ := hS (by rw [t1199]; exact fun e => by cases e)
  have k_tok0 := k_tok
  obtain ⟨h_L, h_n, h_nF⟩ := k_tok0
  have k_I0 := k_I
  obtain ⟨h_p, h_pc, h_ip, h_iP, h_PC, h_PN⟩ := k_I0
  obtain ⟨hn0, _, hNT⟩ := h_nF _ t1102
  have hXL : ((tx9 m).2 : Int) = m 110 1 := by
    show (((m 110 1).toNat : Nat) : Int) = _
    omega
  obtain ⟨⟨hi0, hi1⟩, hpi⟩ := h_ip _ _ _ t1102 t1122 t1123
  have hTK := (h_nF _ t1102).2.1.1 (g 2).toNat (by omega)
  have hSL := St_L (X := tx9 m) (i := (g 2).toNat)
  have hcc := h_pc _ _ t1123 t1124
  rw [show (g 3).toNat = Tp9 (tx9 m) (g 2).toNat by omega] at hcc
  have hko := kd_of (X := tx9 m) (p := Tp9 (tx9 m) (g 2).toNat)
  rw [show jk = (g 2).toNat by omega] at vk
  rw [show jv = (g 2).toNat by omega] at vv
  have hL9 := h_L _ t1100
  have hTk := hTK.1.2
  have hk1 : kd9 (tx9 m) (Tp9 (tx9 m) (g 2).toNat) = 1 := by omega
  have hTe := hTK.2.1 hk1
  have hta := (te_al hk1).1
  have hb0 : by9 (tx9 m) ((Tp9 (tx9 m) (g 2).toNat) + 0) = 109 := by
    rw [by_m (by omega), ← hL9.2 ((Tp9 (tx9 m) (g 2).toNat) + 0) (by omega), show (Tp9 (tx9 m) (g 2).toNat) + 0 = jb0 by omega]
    omega
  have hb1 : by9 (tx9 m) ((Tp9 (tx9 m) (g 2).toNat) + 1) = 97 := by
    rw [by_m (by omega), ← hL9.2 ((Tp9 (tx9 m) (g 2).toNat) + 1) (by omega), show (Tp9 (tx9 m) (g 2).toNat) + 1 = jb1 by omega]
    omega
  have hb2 : by9 (tx9 m) ((Tp9 (tx9 m) (g 2).toNat) + 2) = 121 := by
    rw [by_m (by omega), ← hL9.2 ((Tp9 (tx9 m) (g 2).toNat) + 2) (by omega), show (Tp9 (tx9 m) (g 2).toNat) + 2 = jb2 by omega]
    omega
  have hb3 : by9 (tx9 m) ((Tp9 (tx9 m) (g 2).toNat) + 3) = 98 := by
    rw [by_m (by omega), ← hL9.2 ((Tp9 (tx9 m) (g 2).toNat) + 3) (by omega), show (Tp9 (tx9 m) (g 2).toNat) + 3 = jb3 by omega]
    omega
  have hb4 : by9 (tx9 m) ((Tp9 (tx9 m) (g 2).toNat) + 4) = 101 := by
    rw [by_m (by omega), ← hL9.2 ((Tp9 (tx9 m) (g 2).toNat) + 4) (by omega), show (Tp9 (tx9 m) (g 2).toNat) + 4 = jb4 by omega]
    omega
  have hrc := wd_to (X := tx9 m) (p := (Tp9 (tx9 m) (g 2).toNat)) (c := 39) (l := [109, 97, 121, 98, 101]) hk1 (by show _ = _ + 5; omega) (by
    show [by9 (tx9 m) ((Tp9 (tx9 m) (g 2).toNat) + 0), by9 (tx9 m) ((Tp9 (tx9 m) (g 2).toNat) + 1), by9 (tx9 m) ((Tp9 (tx9 m) (g 2).toNat) + 2), by9 (tx9 m) ((Tp9 (tx9 m) (g 2).toNat) + 3), by9 (tx9 m) ((Tp9 (tx9 m) (g 2).toNat) + 4)] = _
    rw [hb0, hb1, hb2, hb3, hb4]) (by decide) (by decide)
  exfalso
  omega
noncomputable def ru_hG_maybe : Ru := ([(0, (1199, (0, (0, 0)))), (0, (1102, (0, (0, 0)))), (0, (1122, (0, (0, 0)))), (0, (1123, (0, (0, 0)))), (0, (1124, (0, (0, 0)))), (9, (24, (2, (1, 0)))), (9, (26, (2, (1, 0)))), (0, (1100, (0, (0, 0)))), (9, (23, (3, (1, 0)))), (9, (23, (3, (1, 1)))), (9, (23, (3, (1, 2)))), (9, (23, (3, (1, 3)))), (9, (23, (3, (1, 4))))], ([], ([([(5, 1)], 1), ([(5, (-1))], (-1)), ([(3, (-1)), (6, 1)], 5), ([(3, 1), (6, (-1))], (-5)), ([(8, 1)], 109), ([(8, (-1))], (-109)), ([(9, 1)], 97), ([(9, (-1))], (-97)), ([(10, 1)], 121), ([(10, (-1))], (-121)), ([(11, 1)], 98), ([(11, (-1))], (-98)), ([(12, 1)], 101), ([(12, (-1))], (-101)), ([(4, (-1))], (-40))], (true, ([], ([], ([], none)))))))
theorem rk_hG_maybe : RuOk SR ru_hG_maybe := by
  intro τ m g hi hc ha hS
  obtain ⟨i0, i1, i2, i3, i4, i5, i6, i7, i8, i9, i10, i11, i12, _⟩ := hi
  have t1199 : τ 1199 = some (g 0) := i0
  have t1102 : τ 1102 = some (g 1) := i1
  have t1122 : τ 1122 = some (g 2) := i2
  have t1123 : τ 1123 = some (g 3) := i3
  have t1124 : τ 1124 = some (g 4) := i4
  obtain ⟨jk, uk, vk⟩ : ∃ j : Nat, 1 * g 2 + 0 = (j : Int) ∧ g 5 = m 24 j := i5
  obtain ⟨jv, uv, vv⟩ : ∃ j : Nat, 1 * g 2 + 0 = (j : Int) ∧ g 6 = m 26 j := i6
  have t1100 : τ 1100 = some (g 7) := i7
  obtain ⟨jb0, ub0, vb0⟩ : ∃ j : Nat, 1 * g 3 + 0 = (j : Int) ∧ g 8 = m 23 j := i8
  obtain ⟨jb1, ub1, vb1⟩ : ∃ j : Nat, 1 * g 3 + 1 = (j : Int) ∧ g 9 = m 23 j := i9
  obtain ⟨jb2, ub2, vb2⟩ : ∃ j : Nat, 1 * g 3 + 2 = (j : Int) ∧ g 10 = m 23 j := i10
  obtain ⟨jb3, ub3, vb3⟩ : ∃ j : Nat, 1 * g 3 + 3 = (j : Int) ∧ g 11 = m 23 j := i11
  obtain ⟨jb4, ub4, vb4⟩ : ∃ j : Nat, 1 * g 3 + 4 = (j : Int) ∧ g 12 = m 23 j := i12
  obtain ⟨c0, c1, c2, c3, c4, c5, c6, c7, c8, c9, c10, c11, c12, c13, c14, _⟩ := hc
  have c0 : 1 * g 5 ≤ 1 := d1 c0
  have c1 : (-1) * g 5 ≤ (-1) := d1 c1
  have c2 : (-1) * g 3 + 1 * g 6 ≤ 5 := d2 c2
  have c3 : 1 * g 3 + (-1) * g 6 ≤ (-5) := d2 c3
  have c4 : 1 * g 8 ≤ 109 := d1 c4
  have c5 : (-1) * g 8 ≤ (-109) := d1 c5
  have c6 : 1 * g 9 ≤ 97 := d1 c6
  have c7 : (-1) * g 9 ≤ (-97) := d1 c7
  have c8 : 1 * g 10 ≤ 121 := d1 c8
  have c9 : (-1) * g 10 ≤ (-121) := d1 c9
  have c10 : 1 * g 11 ≤ 98 := d1 c10
  have c11 : (-1) * g 11 ≤ (-98) := d1 c11
  have c12 : 1 * g 12 ≤ 101 := d1 c12
  have c13 : (-1) * g 12 ≤ (-101) := d1 c13
  have c14 : (-1) * g 4 ≤ (-40) := d1 c14
  obtain ⟨h0, k_tok, k_sc1, k_sc2, k_T, k_I, k_F, k_N, k_Y, k_Z, k_A, k_B, k_C, k_X, k_R, k_f4⟩ := hS (by rw [t1199]; exact fun e => by cases e)
  have k_tok0 := k_tok
  obtain ⟨h_L, h_n, h_nF⟩ := k_tok0
  have k_I0 := k_I
  obtain ⟨h_p, h_pc, h_ip, h_iP, h_PC, h_PN⟩ := k_I0
  obtain ⟨hn0, _, hNT⟩ := h_nF _ t1102
  have hXL : ((tx9 m).2 : Int) = m 110 1 := by
    show (((m 110 1).toNat : Nat) : Int) = _
    omega
  obtain ⟨⟨hi0, hi1⟩, hpi⟩ := h_ip _ _ _ t1102 t1122 t1123
  have hTK := (h_nF _ t1102).2.1.1 (g 2).toNat (by omega)
  have hSL := St_L (X := tx9 m) (i := (g 2).toNat)
  have hcc := h_pc _ _ t1123 t1124
  rw [show (g 3).toNat = Tp9 (tx9 m) (g 2).toNat by omega] at hcc
  have hko := kd_of (X := tx9 m) (p := Tp9 (tx9 m) (g 2).toNat)
  rw [show jk = (g 2).toNat by omega] at vk
  rw [show jv = (g 2).toNat by omega] at vv
  have hL9 := h_L _ t1100
  have hTk := hTK.1.2
  have hk1 : kd9 (tx9 m) (Tp9 (tx9 m) (g 2).toNat) = 1 := by omega
  have hTe := hTK.2.1 hk1
  have hta := (te_al hk1).1
  have hb0 : by9 (tx9 m) ((Tp9 (tx9 m) (g 2).toNat) + 0) = 109 := by
    rw [by_m (by omega), ← hL9.2 ((Tp9 (tx9 m) (g 2).toNat) + 0) (by omega), show (Tp9 (tx9 m) (g 2).toNat) + 0 = jb0 by omega]
    omega
  have hb1 : by9 (tx9 m) ((Tp9 (tx9 m) (g 2).toNat) + 1) = 97 := by
    rw [by_m (by omega), ← hL9.2 ((Tp9 (tx9 m) (g 2).toNat) + 1) (by omega), show (Tp9 (tx9 m) (g 2).toNat) + 1 = jb1 by omega]
    omega
  have hb2 : by9 (tx9 m) ((Tp9 (tx9 m) (g 2).toNat) + 2) = 121 := by
    rw [by_m (by omega), ← hL9.2 ((Tp9 (tx9 m) (g 2).toNat) + 2) (by omega), show (Tp9 (tx9 m) (g 2).toNat) + 2 = jb2 by omega]
    omega
  have hb3 : by9 (tx9 m) ((Tp9 (tx9 m) (g 2).toNat) + 3) = 98 := by
    rw [by_m (by omega), ← hL9.2 ((Tp9 (tx9 m) (g 2).toNat) + 3) (by omega), show (Tp9 (tx9 m) (g 2).toNat) + 3 = jb3 by omega]
    omega
  have hb4 : by9 (tx9 m) ((Tp9 (tx9 m) (g 2).toNat) + 4) = 101 := by
    rw [by_m (by omega), ← hL9.2 ((Tp9 (tx9 m) (g 2).toNat) + 4) (by omega), show (Tp9 (tx9 m) (g 2).toNat) + 4 = jb4 by omega]
    omega
  have hrc := wd_to (X := tx9 m) (p := (Tp9 (tx9 m) (g 2).toNat)) (c := 39) (l := [109, 97, 121, 98, 101]) hk1 (by show _ = _ + 5; omega) (by
    show [by9 (tx9 m) ((Tp9 (tx9 m) (g 2).toNat) + 0), by9 (tx9 m) ((Tp9 (tx9 m) (g 2).toNat) + 1), by9 (tx9 m) ((Tp9 (tx9 m) (g 2).toNat) + 2), by9 (tx9 m) ((Tp9 (tx9 m) (g 2).toNat) + 3), by9 (tx9 m) ((Tp9 (tx9 m) (g 2).toNat) + 4)] = _
    rw [hb0, hb1, hb2, hb3, hb4]) (by decide) (by decide)
  exfalso
  omega
noncomputable def ru_hw_any : Ru := ([(0, (1199, (0, (0, 0)))), (0, (1102, (0, (0, 0)))), (0, (1122, (0, (0, 0)))), (0, (1123, (0, (0, 0)))), (0, (1124, (0, (0, 0)))), (17, (0, (3, (3, 0)))), (10, (0, (3, (0, 0)))), (4, (0, (0, (97, 0)))), (10, (0, (3, (1, 0)))), (4, (0, (0, (110, 0)))), (10, (0, (3, (2, 0)))), (4, (0, (0, (121, 0)))), (0, (1100, (0, (0, 0))))], ([], ([([(4, 1)], 34), ([(4, (-1))], (-34))], (false, ([], ([(26, (2, 5)), (23, (6, 7)), (23, (8, 9)), (23, (10, 11))], ([], none)))))))
theorem rk_hw_any : RuOk SR ru_hw_any := by
  intro τ m g hi hc ha hS
  obtain ⟨i0, i1, i2, i3, i4, i5, i6, i7, i8, i9, i10, i11, i12, _⟩ := hi
  have t1199 : τ 1199 = some (g 0) := i0
  have t1102 : τ 1102 = some (g 1) := i1
  have t1122 : τ 1122 = some (g 2) := i2
  have t1123 : τ 1123 = some (g 3) := i3
  have t1124 : τ 1124 = some (g 4) := i4
  have xe : g 5 = g 3 + 3 := i5
  have xx0 : g 6 = g 3 + 0 := i6
  have xb0 : g 7 = 97 := i7
  have xx1 : g 8 = g 3 + 1 := i8
  have xb1 : g 9 = 110 := i9
  have xx2 : g 10 = g 3 + 2 := i10
  have xb2 : g 11 = 121 := i11
  have t1100 : τ 1100 = some (g 12) := i12
  obtain ⟨c0, c1, _⟩ := hc
  have c0 : 1 * g 4 ≤ 34 := d1 c0
  have c1 : (-1) * g 4 ≤ (-34) := d1 c1
  obtain ⟨h0, k_tok, k_sc1, k_sc2, k_T, k_I, k_F, k_N, k_Y, k_Z, k_A, k_B, k_C, k_X, k_R, k_f4⟩ := hS (by rw [t1199]; exact fun e => by cases e)
  have k_tok0 := k_tok
  obtain ⟨h_L, h_n, h_nF⟩ := k_tok0
  have k_I0 := k_I
  obtain ⟨h_p, h_pc, h_ip, h_iP, h_PC, h_PN⟩ := k_I0
  obtain ⟨hn0, _, hNT⟩ := h_nF _ t1102
  have hXL : ((tx9 m).2 : Int) = m 110 1 := by
    show (((m 110 1).toNat : Nat) : Int) = _
    omega
  obtain ⟨⟨hi0, hi1⟩, hpi⟩ := h_ip _ _ _ t1102 t1122 t1123
  have hTK := (h_nF _ t1102).2.1.1 (g 2).toNat (by omega)
  have hSL := St_L (X := tx9 m) (i := (g 2).toNat)
  have hcc := h_pc _ _ t1123 t1124
  rw [show (g 3).toNat = Tp9 (tx9 m) (g 2).toNat by omega] at hcc
  have hko := kd_of (X := tx9 m) (p := Tp9 (tx9 m) (g 2).toNat)
  have hL9 := h_L _ t1100
  obtain ⟨hk1, hte, hbs⟩ := wd_of (X := tx9 m) (p := (Tp9 (tx9 m) (g 2).toNat)) (c := 34) (v := 6385273) (l := [97, 110, 121]) (by omega) (by decide) (by decide) (by decide) (by decide) (by decide)
  have hte : te9 (tx9 m) (Tp9 (tx9 m) (g 2).toNat) = (Tp9 (tx9 m) (g 2).toNat) + 3 := hte
  have hta := (te_al hk1).1
  have hTe := hTK.2.1 hk1
  have hb0 : by9 (tx9 m) ((Tp9 (tx9 m) (g 2).toNat) + 0) = 97 := by
    have := congrArg (fun l => l[0]?) hbs
    exact Option.some.inj this
  have hm0 := by_m (m := m) (p := (Tp9 (tx9 m) (g 2).toNat) + 0) (by omega)
  have hl0 := hL9.2 ((Tp9 (tx9 m) (g 2).toNat) + 0) (by omega)
  have hb1 : by9 (tx9 m) ((Tp9 (tx9 m) (g 2).toNat) + 1) = 110 := by
    have := congrArg (fun l => l[1]?) hbs
    exact Option.some.inj this
  have hm1 := by_m (m := m) (p := (Tp9 (tx9 m) (g 2).toNat) + 1) (by omega)
  have hl1 := hL9.2 ((Tp9 (tx9 m) (g 2).toNat) + 1) (by omega)
  have hb2 : by9 (tx9 m) ((Tp9 (tx9 m) (g 2).toNat) + 2) = 121 := by
    have := congrArg (fun l => l[2]?) hbs
    exact Option.some.inj this
  have hm2 := by_m (m := m) (p := (Tp9 (tx9 m) (g 2).toNat) + 2) (by omega)
  have hl2 := hL9.2 ((Tp9 (tx9 m) (g 2).toNat) + 2) (by omega)
  exact ⟨rfl, trivial, ⟨⟨(g 2).toNat, (show g 2 = (((g 2).toNat : Nat) : Int) by omega), (show g 5 = m 26 (g 2).toNat by omega)⟩, ⟨(Tp9 (tx9 m) (g 2).toNat) + 0, (show g 6 = (((Tp9 (tx9 m) (g 2).toNat) + 0 : Nat) : Int) by omega), (show g 7 = m 23 ((Tp9 (tx9 m) (g 2).toNat) + 0) by omega)⟩, ⟨(Tp9 (tx9 m) (g 2).toNat) + 1, (show g 8 = (((Tp9 (tx9 m) (g 2).toNat) + 1 : Nat) : Int) by omega), (show g 9 = m 23 ((Tp9 (tx9 m) (g 2).toNat) + 1) by omega)⟩, ⟨(Tp9 (tx9 m) (g 2).toNat) + 2, (show g 10 = (((Tp9 (tx9 m) (g 2).toNat) + 2 : Nat) : Int) by omega), (show g 11 = m 23 ((Tp9 (tx9 m) (g 2).toNat) + 2) by omega)⟩, trivial⟩, fun _ => ⟨h0, k_tok, k_sc1, k_sc2, k_T, k_I, k_F, k_N, k_Y, k_Z, k_A, k_B, k_C, k_X, k_R, k_f4⟩⟩
end
