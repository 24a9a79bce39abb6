noncomputable section
/-! ===== THE READER, 75: rules ===== -/
noncomputable def ru_hL_any : Ru := ([(0, (1199, (0, (0, 0)))), (0, (1102, (0, (0, 0)))), (0, (1122, (0, (0, 0)))), (0, (1123, (0, (0, 0)))), (0, (1124, (0, (0, 0)))), (9, (24, (2, (1, 0)))), (9, (26, (2, (1, 0)))), (0, (1100, (0, (0, 0)))), (9, (23, (3, (1, 0)))), (9, (23, (3, (1, 1)))), (9, (23, (3, (1, 2))))], ([], ([([(5, 1)], 1), ([(5, (-1))], (-1)), ([(3, (-1)), (6, 1)], 3), ([(3, 1), (6, (-1))], (-3)), ([(8, 1)], 97), ([(8, (-1))], (-97)), ([(9, 1)], 110), ([(9, (-1))], (-110)), ([(10, 1)], 121), ([(10, (-1))], (-121)), ([(4, 1)], 33)], (true, ([], ([], ([], none)))))))
theorem rk_hL_any : RuOk SR ru_hL_any := by
  intro τ m g hi hc ha hS
  obtain ⟨i0, i1, i2, i3, i4, i5, i6, i7, i8, i9, i10, _⟩ := hi
  have t1199 : τ 1199 = some (g 0) := i0
  have t1102 : τ 1102 = some (g 1) := i1
  have t1122 : τ 1122 = some (g 2) := i2
  have t1123 : τ 1123 = some (g 3) := i3
  have t1124 : τ 1124 = some (g 4) := i4
  obtain ⟨jk, uk, vk⟩ : ∃ j : Nat, 1 * g 2 + 0 = (j : Int) ∧ g 5 = m 24 j := i5
  obtain ⟨jv, uv, vv⟩ : ∃ j : Nat, 1 * g 2 + 0 = (j : Int) ∧ g 6 = m 26 j := i6
  have t1100 : τ 1100 = some (g 7) := i7
  obtain ⟨jb0, ub0, vb0⟩ : ∃ j : Nat, 1 * g 3 + 0 = (j : Int) ∧ g 8 = m 23 j := i8
  obtain ⟨jb1, ub1, vb1⟩ : ∃ j : Nat, 1 * g 3 + 1 = (j : Int) ∧ g 9 = m 23 j := i9
  obtain ⟨jb2, ub2, vb2⟩ : ∃ j : Nat, 1 * g 3 + 2 = (j : Int) ∧ g 10 = m 23 j := i10
  obtain ⟨c0, c1, c2, c3, c4, c5, c6, c7, c8, c9, c10, _⟩ := hc
  have c0 : 1 * g 5 ≤ 1 := d1 c0
  have c1 : (-1) * g 5 ≤ (-1) := d1 c1
  have c2 : (-1) * g 3 + 1 * g 6 ≤ 3 := d2 c2
  have c3 : 1 * g 3 + (-1) * g 6 ≤ (-3) := d2 c3
  have c4 : 1 * g 8 ≤ 97 := d1 c4
  have c5 : (-1) * g 8 ≤ (-97) := d1 c5
  have c6 : 1 * g 9 ≤ 110 := d1 c6
  have c7 : (-1) * g 9 ≤ (-110) := d1 c7
  have c8 : 1 * g 10 ≤ 121 := d1 c8
  have c9 : (-1) * g 10 ≤ (-121) := d1 c9
  have c10 : 1 * g 4 ≤ 33 := d1 c10
  obtain ⟨h0, k_tok, k_sc1, k_sc2, k_T, k_I, k_F, k_N, k_Y, k_Z, k_A, k_B, k_C, k_X, k_R, k_f4⟩ := hS (by rw [t1199]; exact fun e => by cases e)
  have k_tok0 := k_tok
  obtain ⟨h_L, h_n, h_nF⟩ := k_tok0
  have k_I0 := k_I
  obtain ⟨h_p, h_pc, h_ip, h_iP, h_PC, h_PN⟩ := k_I0
  obtain ⟨hn0, _, hNT⟩ := h_nF _ t1102
  have hXL : ((tx9 m).2 : Int) = m 110 1 := by
    show (((m 110 1).toNat : Nat) : Int) = _
    omega
  obtain ⟨⟨hi0, hi1⟩, hpi⟩ := h_ip _ _ _ t1102 t1122 t1123
  have hTK := (h_nF _ t1102).2.1.1 (g 2).toNat (by omega)
  have hSL := St_L (X := tx9 m) (i := (g 2).toNat)
  have hcc := h_pc _ _ t1123 t1124
  rw [show (g 3).toNat = Tp9 (tx9 m) (g 2).toNat by omega] at hcc
  have hko := kd_of (X := tx9 m) (p := Tp9 (tx9 m) (g 2).toNat)
  rw [show jk = (g 2).toNat by omega] at vk
  rw [show jv = (g 2).toNat by omega] at vv
  have hL9 := h_L _ t1100
  have hTk := hTK.1.2
  have hk1 : kd9 (tx9 m) (Tp9 (tx9 m) (g 2).toNat) = 1 := by omega
  have hTe := hTK.2.1 hk1
  have hta := (te_al hk1).1
  have hb0 : by9 (tx9 m) ((Tp9 (tx9 m) (g 2).toNat) + 0) = 97 := by
    rw [by_m (by omega), ← hL9.2 ((Tp9 (tx9 m) (g 2).toNat) + 0) (by omega), show (Tp9 (tx9 m) (g 2).toNat) + 0 = jb0 by omega]
    omega
  have hb1 : by9 (tx9 m) ((Tp9 (tx9 m) (g 2).toNat) + 1) = 110 := by
    rw [by_m (by omega), ← hL9.2 ((Tp9 (tx9 m) (g 2).toNat) + 1) (by omega), show (Tp9 (tx9 m) (g 2).toNat) + 1 = jb1 by omega]
    omega
  have hb2 : by9 (tx9 m) ((Tp9 (tx9 m) (g 2).toNat) + 2) = 121 := by
    rw [by_m (by omega), ← hL9.2 ((Tp9 (tx9 m) (g 2).toNat) + 2) (by omega), show (Tp9 (tx9 m) (g 2).toNat) + 2 = jb2 by omega]
    omega
  have hrc := wd_to (X := tx9 m) (p := (Tp9 (tx9 m) (g 2).toNat)) (c := 34) (l := [97, 110, 121]) hk1 (by show _ = _ + 3; omega) (by
    show [by9 (tx9 m) ((Tp9 (tx9 m) (g 2).toNat) + 0), by9 (tx9 m) ((Tp9 (tx9 m) (g 2).toNat) + 1), by9 (tx9 m) ((Tp9 (tx9 m) (g 2).toNat) + 2)] = _
    rw [hb0, hb1, hb2]) (by decide) (by decide)
  exfalso
  omega
noncomputable def ru_hG_any : Ru := ([(0, (1199, (0, (0, 0)))), (0, (1102, (0, (0, 0)))), (0, (1122, (0, (0, 0)))), (0, (1123, (0, (0, 0)))), (0, (1124, (0, (0, 0)))), (9, (24, (2, (1, 0)))), (9, (26, (2, (1, 0)))), (0, (1100, (0, (0, 0)))), (9, (23, (3, (1, 0)))), (9, (23, (3, (1, 1)))), (9, (23, (3, (1, 2))))], ([], ([([(5, 1)], 1), ([(5, (-1))], (-1)), ([(3, (-1)), (6, 1)], 3), ([(3, 1), (6, (-1))], (-3)), ([(8, 1)], 97), ([(8, (-1))], (-97)), ([(9, 1)], 110), ([(9, (-1))], (-110)), ([(10, 1)], 121), ([(10, (-1))], (-121)), ([(4, (-1))], (-35))], (true, ([], ([], ([], none)))))))
theorem rk_hG_any : RuOk SR ru_hG_any := by
  intro τ m g hi hc ha hS
  obtain ⟨i0, i1, i2, i3, i4, i5, i6, i7, i8, i9, i10, _⟩ := hi
  have t1199 : τ 1199 = some (g 0) := i0
  have t1102 : τ 1102 = some (g 1) := i1
  have t1122 : τ 1122 = some (g 2) := i2
  have t1123 : τ 1123 = some (g 3) := i3
  have t1124 : τ 1124 = some (g 4) := i4
  obtain ⟨jk, uk, vk⟩ : ∃ j : Nat, 1 * g 2 + 0 = (j : Int) ∧ g 5 = m 24 j := i5
  obtain ⟨jv, uv, vv⟩ : ∃ j : Nat, 1 * g 2 + 0 = (j : Int) ∧ g 6 = m 26 j := i6
  have t1100 : τ 1100 = some (g 7) := i7
  obtain ⟨jb0, ub0, vb0⟩ : ∃ j : Nat, 1 * g 3 + 0 = (j : Int) ∧ g 8 = m 23 j := i8
  obtain ⟨jb1, ub1, vb1⟩ : ∃ j : Nat, 1 * g 3 + 1 = (j : Int) ∧ g 9 = m 23 j := i9
  obtain ⟨jb2, ub2, vb2⟩ : ∃ j : Nat, 1 * g 3 + 2 = (j : Int) ∧ g 10 = m 23 j := i10
  obtain ⟨c0, c1, c2, c3, c4, c5, c6, c7, c8, c9, c10, _⟩ := hc
  have c0 : 1 * g 5 ≤ 1 := d1 c0
  have c1 : (-1) * g 5 ≤ (-1) := d1 c1
  have c2 : (-1) * g 3 + 1 * g 6 ≤ 3 := d2 c2
  have c3 : 1 * g 3 + (-1) * g 6 ≤ (-3) := d2 c3
  have c4 : 1 * g 8 ≤ 97 := d1 c4
  have c5 : (-1) * g 8 ≤ (-97) := d1 c5
  have c6 : 1 * g 9 ≤ 110 := d1 c6
  have c7 : (-1) * g 9 ≤ (-110) := d1 c7
  have c8 : 1 * g 10 ≤ 121 := d1 c8
  have c9 : (-1) * g 10 ≤ (-121) := d1 c9
  have c10 : (-1) * g 4 ≤ (-35) := d1 c10
  obtain ⟨h0, k_tok, k_sc1, k_sc2, k_T, k_I, k_F, k_N, k_Y, k_Z, k_A, k_B, k_C, k_X, k_R, k_f4⟩ := hS (by rw [t1199]; exact fun e => by cases e)
  have k_tok0 := k_tok
  obtain ⟨h_L, h_n, h_nF⟩ := k_tok0
  have k_I0 := k_I
  obtain ⟨h_p, h_pc, h_ip, h_iP, h_PC, h_PN⟩ := k_I0
  obtain ⟨hn0, _, hNT⟩ := h_nF _ t1102
  have hXL : ((tx9 m).2 : Int) = m 110 1 := by
    show (((m 110 1).toNat : Nat) : Int) = _
    omega
  obtain ⟨⟨hi0, hi1⟩, hpi⟩ := h_ip _ _ _ t1102 t1122 t1123
  have hTK := (h_nF _ t1102).2.1.1 (g 2).toNat (by omega)
  have hSL := St_L (X := tx9 m) (i := (g 2).toNat)
  have hcc := h_pc _ _ t1123 t1124
  rw [show (g 3).toNat = Tp9 (tx9 m) (g 2).toNat by omega] at hcc
  have hko := kd_of (X := tx9 m) (p := Tp9 (tx9 m) (g 2).toNat)
  rw [show jk = (g 2).toNat by omega] at vk
  rw [show jv = (g 2).toNat by omega] at vv
  have hL9 := h_L _ t1100
  have hTk := hTK.1.2
  have hk1 : kd9 (tx9 m) (Tp9 (tx9 m) (g 2).toNat) = 1 := by omega
  have hTe := hTK.2.1 hk1
  have hta := (te_al hk1).1
  have hb0 : by9 (tx9 m) ((Tp9 (tx9 m) (g 2).toNat) + 0) = 97 := by
    rw [by_m (by omega), ← hL9.2 ((Tp9 (tx9 m) (g 2).toNat) + 0) (by omega), show (Tp9 (tx9 m) (g 2).toNat) + 0 = jb0 by omega]
    omega
  have hb1 : by9 (tx9 m) ((Tp9 (tx9 m) (g 2).toNat) + 1) = 110 := by
    rw [by_m (by omega), ← hL9.2 ((Tp9 (tx9 m) (g 2).toNat) + 1) (by omega), show (Tp9 (tx9 m) (g 2).toNat) + 1 = jb1 by omega]
    omega
  have hb2 : by9 (tx9 m) ((Tp9 (tx9 m) (g 2).toNat) + 2) = 121 := by
    rw [by_m (by omega), ← hL9.2 ((Tp9 (tx9 m) (g 2).toNat) + 2) (by omega), show (Tp9 (tx9 m) (g 2).toNat) + 2 = jb2 by omega]
    omega
  have hrc := wd_to (X := tx9 m) (p := (Tp9 (tx9 m) (g 2).toNat)) (c := 34) (l := [97, 110, 121]) hk1 (by show _ = _ + 3; omega) (by
    show [by9 (tx9 m) ((Tp9 (tx9 m) (g 2).toNat) + 0), by9 (tx9 m) ((Tp9 (tx9 m) (g 2).toNat) + 1), by9 (tx9 m) ((Tp9 (tx9 m) (g 2).toNat) + 2)] = _
    rw [hb0, hb1, hb2]) (by decide) (by decide)
  exfalso
  omega
noncomputable def ru_hw_own : Ru := ([(0, (1199, (0, (0, 0)))), (0, (1102, (0, (0, 0)))), (0, (1122, (0, (0, 0)))), (0, (1123, (0, (0, 0)))), (0, (1124, (0, (0, 0)))), (17, (0, (3, (3, 0)))), (10, (0, (3, (0, 0)))), (4, (0, (0, (111, 0)))), (10, (0, (3, (1, 0)))), (4, (0, (0, (119, 0)))), (10, (0, (3, (2, 0)))), (4, (0, (0, (110, 0)))), (0, (1100, (0, (0, 0))))], ([], ([([(4, 1)], 35), ([(4, (-1))], (-35))], (false, ([], ([(26, (2, 5)), (23, (6, 7)), (23, (8, 9)), (23, (10, 11))], ([], none)))))))
theorem rk_hw_own : RuOk SR ru_hw_own := by
  intro τ m g hi hc ha hS
  obtain ⟨i0, i1, i2, i3, i4, i5, i6, i7, i8, i9, i10, i11, i12, _⟩ := hi
  have t1199 : τ 1199 = some (g 0) := i0
  have t1102 : τ 1102 = some (g 1) := i1
  have t1122 : τ 1122 = some (g 2) := i2
  have t1123 : τ 1123 = some (g 3) := i3
  have t1124 : τ 1124 = some (g 4) := i4
  have xe : g 5 = g 3 + 3 := i5
  have xx0 : g 6 = g 3 + 0 := i6
  have xb0 : g 7 = 111 := i7
  have xx1 : g 8 = g 3 + 1 := i8
  have xb1 : g 9 = 119 := i9
  have xx2 : g 10 = g 3 + 2 := i10
  have xb2 : g 11 = 110 := i11
  have t1100 : τ 1100 = some (g 12) := i12
  obtain ⟨c0, c1, _⟩ := hc
  have c0 : 1 * g 4 ≤ 35 := d1 c0
  have c1 : (-1) * g 4 ≤ (-35) := d1 c1
  obtain ⟨h0, k_tok, k_sc1, k_sc2, k_T, k_I, k_F, k_N, k_Y, k_Z, k_A, k_B, k_C, k_X, k_R, k_f4⟩ := hS (by rw [t1199]; exact fun e => by cases e)
  have k_tok0 := k_tok
  obtain ⟨h_L, h_n, h_nF⟩ := k_tok0
  have k_I0 := k_I
  obtain ⟨h_p, h_pc, h_ip, h_iP, h_PC, h_PN⟩ := k_I0
  obtain ⟨hn0, _, hNT⟩ := h_nF _ t1102
  have hXL : ((tx9 m).2 : Int) = m 110 1 := by
    show (((m 110 1).toNat : Nat) : Int) = _
    omega
  obtain ⟨⟨hi0, hi1⟩, hpi⟩ := h_ip _ _ _ t1102 t1122 t1123
  have hTK := (h_nF _ t1102).2.1.1 (g 2).toNat (by omega)
  have hSL := St_L (X := tx9 m) (i := (g 2).toNat)
  have hcc := h_pc _ _ t1123 t1124
  rw [show (g 3).toNat = Tp9 (tx9 m) (g 2).toNat by omega] at hcc
  have hko := kd_of (X := tx9 m) (p := Tp9 (tx9 m) (g 2).toNat)
  have hL9 := h_L _ t1100
  obtain ⟨hk1, hte, hbs⟩ := wd_of (X := tx9 m) (p := (Tp9 (tx9 m) (g 2).toNat)) (c := 35) (v := 7305070) (l := [111, 119, 110]) (by omega) (by decide) (by decide) (by decide) (by decide) (by decide)
  have hte : te9 (tx9 m) (Tp9 (tx9 m) (g 2).toNat) = (Tp9 (tx9 m) (g 2).toNat) + 3 := hte
  have hta := (te_al hk1).1
  have hTe := hTK.2.1 hk1
  have hb0 : by9 (tx9 m) ((Tp9 (tx9 m) (g 2).toNat) + 0) = 111 := by
    have := congrArg (fun l => l[0]?) hbs
    exact Option.some.inj this
  have hm0 := by_m (m := m) (p := (Tp9 (tx9 m) (g 2).toNat) + 0) (by omega)
  have hl0 := hL9.2 ((Tp9 (tx9 m) (g 2).toNat) + 0) (by omega)
  have hb1 : by9 (tx9 m) ((Tp9 (tx9 m) (g 2).toNat) + 1) = 119 := by
    have := congrArg (fun l => l[1]?) hbs
    exact Option.some.inj this
  have hm1 := by_m (m := m) (p := (Tp9 (tx9 m) (g 2).toNat) + 1) (by omega)
  have hl1 := hL9.2 ((Tp9 (tx9 m) (g 2).toNat) + 1) (by omega)
  have hb2 : by9 (tx9 m) ((Tp9 (tx9 m) (g 2).toNat) + 2) = 110 := by
    have := congrArg (fun l => l[2]?) hbs
    exact Option.some.inj this
  have hm2 := by_m (m := m) (p := (Tp9 (tx9 m) (g 2).toNat) + 2) (by omega)
  have hl2 := hL9.2 ((Tp9 (tx9 m) (g 2).toNat) + 2) (by omega)
  exact ⟨rfl, trivial, ⟨⟨(g 2).toNat, (show g 2 = (((g 2).toNat : Nat) : Int) by omega), (show g 5 = m 26 (g 2).toNat by omega)⟩, ⟨(Tp9 (tx9 m) (g 2).toNat) + 0, (show g 6 = (((Tp9 (tx9 m) (g 2).toNat) + 0 : Nat) : Int) by omega), (show g 7 = m 23 ((Tp9 (tx9 m) (g 2).toNat) + 0) by omega)⟩, ⟨(Tp9 (tx9 m) (g 2).toNat) + 1, (show g 8 = (((Tp9 (tx9 m) (g 2).toNat) + 1 : Nat) : Int) by omega), (show g 9 = m 23 ((Tp9 (tx9 m) (g 2).toNat) + 1) by omega)⟩, ⟨(Tp9 (tx9 m) (g 2).toNat) + 2, (show g 10 = (((Tp9 (tx9 m) (g 2).toNat) + 2 : Nat) : Int) by omega), (show g 11 = m 23 ((Tp9 (tx9 m) (g 2).toNat) + 2) by omega)⟩, trivial⟩, fun _ => ⟨h0, k_tok, k_sc1, k_sc2, k_T, k_I, k_F, k_N, k_Y, k_Z, k_A, k_B, k_C, k_X, k_R, k_f4⟩⟩
noncomputable def ru_hL_own : Ru := ([(0, (1199, (0, (0, 0)))), (0, (1102, (0, (0, 0)))), (0, (1122, (0, (0, 0)))), (0, (1123, (0, (0, 0)))), (0, (1124, (0, (0, 0)))), (9, (24, (2, (1, 0)))), (9, (26, (2, (1, 0)))), (0, (1100, (0, (0, 0)))), (9, (23, (3, (1, 0)))), (9, (23, (3, (1, 1)))), (9, (23, (3, (1, 2))))], ([], ([([(5, 1)], 1), ([(5, (-1))], (-1)), ([(3, (-1)), (6, 1)], 3), ([(3, 1), (6, (-1))], (-3)), ([(8, 1)], 111), ([(8, (-1))], (-111)), ([(9, 1)], 119), ([(9, (-1))], (-119)), ([(10, 1)], 110), ([(10, (-1))], (-110)), ([(4, 1)], 34)], (true, ([], ([], ([], none)))))))
theorem rk_hL_own : RuOk SR ru_hL_own := by
  intro τ m g hi hc ha hS
  obtain ⟨i0, i1, i2, i3, i4, i5, i6, i7, i8, i9, i10, _⟩ := hi
  have t1199 : τ 1199 = some (g 0) := i0
  have t1102 : τ 1102 = some (g 1) := i1
  have t1122 : τ 1122 = some (g 2) := i2
  have t1123 : τ 1123 = some (g 3) := i3
  have t1124 : τ 1124 = some (g 4) := i4
  obtain ⟨jk, uk, vk⟩ : ∃ j : Nat, 1 * g 2 + 0 = (j : Int) ∧ g 5 = m 24 j := i5
  obtain ⟨jv, uv, vv⟩ : ∃ j : Nat, 1 * g 2 + 0 = (j : Int) ∧ g 6 = m 26 j := i6
  have t1100 : τ 1100 = some (g 7) := i7
  obtain ⟨jb0, ub0, vb0⟩ : ∃ j : Nat, 1 * g 3 + 0 = (j : Int) ∧ g 8 = m 23 j := i8
  obtain ⟨jb1, ub1, vb1⟩ : ∃ j : Nat, 1 * g 3 + 1 = (j : Int) ∧ g 9 = m 23 j := i9
  obtain ⟨jb2, ub2, vb2⟩ : ∃ j : Nat, 1 * g 3 + 2 = (j : Int) ∧ g 10 = m 23 j := i10
  obtain ⟨c0, c1, c2, c3, c4, c5, c6, c7, c8, c9, c10, _⟩ := hc
  have c0 : 1 * g 5 ≤ 1 := d1 c0
  have c1 : (-1) * g 5 ≤ (-1) := d1 c1
  have c2 : (-1) * g 3 + 1 * g 6 ≤ 3 := d2 c2
  have c3 : 1 * g 3 + (-1) * g 6 ≤ (-3) := d2 c3
  have c4 : 1 * g 8 ≤ 111 := d1 c4
  have c5 : (-1) * g 8 ≤ (-111) := d1 c5
  have c6 : 1 * g 9 ≤ 119 := d1 c6
  have c7 : (-1) * g 9 ≤ (-119) := d1 c7
  have c8 : 1 * g 10 ≤ 110 := d1 c8
  have c9 : (-1) * g 10 ≤ (-110) := d1 c9
  have c10 : 1 * g 4 ≤ 34 := d1 c10
  obtain ⟨h0, k_tok, k_sc1, k_sc2, k_T, k_I, k_F, k_N, k_Y, k_Z, k_A, k_B, k_C, k_X, k_R, k_f4⟩ := hS (by rw [t1199]; exact fun e => by cases e)
  have k_tok0 := k_tok
  obtain ⟨h_L, h_n, h_nF⟩ := k_tok0
  have k_I0 := k_I
  obtain ⟨h_p, h_pc, h_ip, h_iP, h_PC, h_PN⟩ := k_I0
  obtain ⟨hn0, _, hNT⟩ := h_nF _ t1102
  have hXL : ((tx9 m).2 : Int) = m 110 1 := by
    show (((m 110 1).toNat : Nat) : Int) = _
    omega
  obtain ⟨⟨hi0, hi1⟩, hpi⟩ := h_ip _ _ _ t1102 t1122 t1123
  have hTK := (h_nF _ t1102).2.1.1 (g 2).toNat (by omega)
  have hSL := St_L (X := tx9 m) (i := (g 2).toNat)
  have hcc := h_pc _ _ t1123 t1124
  rw [show (g 3).toNat = Tp9 (tx9 m) (g 2).toNat by omega] at hcc
  have hko := kd_of (X := tx9 m) (p := Tp9 (tx9 m) (g 2).toNat)
  rw [show jk = (g 2).toNat by omega] at vk
  rw [show jv = (g 2).toNat by omega] at vv
  have hL9 := h_L _ t1100
  have hTk := hTK.1.2
  have hk1 : kd9 (tx9 m) (Tp9 (tx9 m) (g 2).toNat) = 1 := by omega
  have hTe := hTK.2.1 hk1
  have hta := (te_al hk1).1
  have hb0 : by9 (tx9 m) ((Tp9 (tx9 m) (g 2).toNat) + 0) = 111 := by
    rw [by_m (by omega), ← hL9.2 ((Tp9 (tx9 m) (g 2).toNat) + 0) (by omega), show (Tp9 (tx9 m) (g 2).toNat) + 0 = jb0 by omega]
    omega
  have hb1 : by9 (tx9 m) ((Tp9 (tx9 m) (g 2).toNat) + 1) = 119 := by
    rw [by_m (by omega), ← hL9.2 ((Tp9 (tx9 m) (g 2).toNat) + 1) (by omega), show (Tp9 (tx9 m) (g 2).toNat) + 1 = jb1 by omega]
    omega
  have hb2 : by9 (tx9 m) ((Tp9 (tx9 m) (g 2).toNat) + 2) = 110 := by
    rw [by_m (by omega), ← hL9.2 ((Tp9 (tx9 m) (g 2).toNat) + 2) (by omega), show (Tp9 (tx9 m) (g 2).toNat) + 2 = jb2 by omega]
    omega
  have hrc := wd_to (X := tx9 m) (p := (Tp9 (tx9 m) (g 2).toNat)) (c := 35) (l := [111, 119, 110]) hk1 (by show _ = _ + 3; omega) (by
    show [by9 (tx9 m) ((Tp9 (tx9 m) (g 2).toNat) + 0), by9 (tx9 m) ((Tp9 (tx9 m) (g 2).toNat) + 1), by9 (tx9 m) ((Tp9 (tx9 m) (g 2).toNat) + 2)] = _
    rw [hb0, hb1, hb2]) (by decide) (by decide)
  exfalso
  omega
noncomputable def ru_hG_own : Ru := ([(0, (1199, (0, (0, 0)))), (0, (1102, (0, (0, 0)))), (0, (1122, (0, (0, 0)))), (0, (1123, (0, (0, 0)))), (0, (1124, (0, (0, 0)))), (9, (24, (2, (1, 0)))), (9, (26, (2, (1, 0)))), (0, (1100, (0, (0, 0)))), (9, (23, (3, (1, 0)))), (9, (23, (3, (1, 1)))), (9, (23, (3, (1, 2))))], ([], ([([(5, 1)], 1), ([(5, (-1))], (-1)), ([(3, (-1)), (6, 1)], 3), ([(3, 1), (6, (-1))], (-3)), ([(8, 1)], 111), ([(8, (-1))], (-111)), ([(9, 1)], 119), ([(9, (-1))], (-119)), ([(10, 1)], 110), ([(10, (-1))], (-110)), ([(4, (-1))], (-36))], (true, ([], ([], ([], none)))))))
theorem rk_hG_own : RuOk SR ru_hG_own := by
  intro τ m g hi hc ha hS
  obtain ⟨i0, i1, i2, i3, i4, i5, i6, i7, i8, i9, i10, _⟩ := hi
  have t1199 : τ 1199 = some (g 0) := i0
  have t1102 : τ 1102 = some (g 1) := i1
  have t1122 : τ 1122 = some (g 2) := i2
  have t1123 : τ 1123 = some (g 3) := i3
  have t1124 : τ 1124 = some (g 4) := i4
  obtain ⟨jk, uk, vk⟩ : ∃ j : Nat, 1 * g 2 + 0 = (j : Int) ∧ g 5 = m 24 j := i5
  obtain ⟨jv, uv, vv⟩ : ∃ j : Nat, 1 * g 2 + 0 = (j : Int) ∧ g 6 = m 26 j := i6
  have t1100 : τ 1100 = some (g 7) := i7
  obtain ⟨jb0, ub0, vb0⟩ : ∃ j : Nat, 1 * g 3 + 0 = (j : Int) ∧ g 8 = m 23 j := i8
  obtain ⟨jb1, ub1, vb1⟩ : ∃ j : Nat, 1 * g 3 + 1 = (j : Int) ∧ g 9 = m 23 j := i9
  obtain ⟨jb2, ub2, vb2⟩ : ∃ j : Nat, 1 * g 3 + 2 = (j : Int) ∧ g 10 = m 23 j := i10
  obtain ⟨c0, c1, c2, c3, c4, c5, c6, c7, c8, c9, c10, _⟩ := hc
  have c0 : 1 * g 5 ≤ 1 := d1 c0
  have c1 : (-1) * g 5 ≤ (-1) := d1 c1
  have c2 : (-1) * g 3 + 1 * g 6 ≤ 3 := d2 c2
  have c3 : 1 * g 3 + (-1) * g 6 ≤ (-3) := d2 c3
  have c4 : 1 * g 8 ≤ 111 := d1 c4
  have c5 : (-1) * g 8 ≤ (-111) := d1 c5
  have c6 : 1 * g 9 ≤ 119 := d1 c6
  have c7 : (-1) * g 9 ≤ (-119) := d1 c7
  have c8 : 1 * g 10 ≤ 110 := d1 c8
  have c9 : (-1) * g 10 ≤ (-110) := d1 c9
  have c10 : (-1) * g 4 ≤ (-36) := d1 c10
  obtain ⟨h0, k_tok, k_sc1, k_sc2, k_T, k_I, k_F, k_N, k_Y, k_Z, k_A, k_B, k_C, k_X, k_R, k_f4⟩ := hS (by rw [t1199]; exact fun e => by cases e)
  have k_tok0 := k_tok
  obtain ⟨h_L, h_n, h_nF⟩ := k_tok0
  have k_I0 := k_I
  obtain ⟨h_p, h_pc, h_ip, h_iP, h_PC, h_PN⟩ := k_I0
  obtain ⟨hn0, _, hNT⟩ := h_nF _ t1102
  have hXL : ((tx9 m).2 : Int) = m 110 1 := by
    show (((m 110 1).toNat : Nat) : Int) = _
    omega
  obtain ⟨⟨hi0, hi1⟩, hpi⟩ := h_ip _ _ _ t1102 t1122 t1123
  have hTK := (h_nF _ t1102).2.1.1 (g 2).toNat (by omega)
  have hSL := St_L (X := tx9 m) (i := (g 2).toNat)
  have hcc := h_pc _ _ t1123 t1124
  rw [show (g 3).toNat = Tp9 (tx9 m) (g 2).toNat by omega] at hcc
  have hko := kd_of (X := tx9 m) (p := Tp9 (tx9 m) (g 2).toNat)
  rw [show jk = (g 2).toNat by omega] at vk
  rw [show jv = (g 2).toNat by omega] at vv
  have hL9 := h_L _ t1100
  have hTk := hTK.1.2
  have hk1 : kd9 (tx9 m) (Tp9 (tx9 m) (g 2).toNat) = 1 := by omega
  have hTe := hTK.2.1 hk1
  have hta := (te_al hk1).1
  have hb0 : by9 (tx9 m) ((Tp9 (tx9 m) (g 2).toNat) + 0) = 111 := by
    rw [by_m (by omega), ← hL9.2 ((Tp9 (tx9 m) (g 2).toNat) + 0) (by omega), show (Tp9 (tx9 m) (g 2).toNat) + 0 = jb0 by omega]
    omega
  have hb1 : by9 (tx9 m) ((Tp9 (tx9 m) (g 2).toNat) + 1) = 119 := by
    rw [by_m (by omega), ← hL9.2 ((Tp9 (tx9 m) (g 2).toNat) + 1) (by omega), show (Tp9 (tx9 m) (g 2).toNat) + 1 = jb1 by omega]
    omega
  have hb2 : by9 (tx9 m) ((Tp9 (tx9 m) (g 2).toNat) + 2) = 110 := by
    rw [by_m (by omega), ← hL9.2 ((Tp9 (tx9 m) (g 2).toNat) + 2) (by omega), show (Tp9 (tx9 m) (g 2).toNat) + 2 = jb2 by omega]
    omega
  have hrc := wd_to (X := tx9 m) (p := (Tp9 (tx9 m) (g 2).toNat)) (c := 35) (l := [111, 119, 110]) hk1 (by show _ = _ + 3; omega) (by
    show [by9 (tx9 m) ((Tp9 (tx9 m) (g 2).toNat) + 0), by9 (tx9 m) ((Tp9 (tx9 m) (g 2).toNat) + 1), by9 (tx9 m) ((Tp9 (tx9 m) (g 2).toNat) + 2)] = _
    rw [hb0, hb1, hb2]) (by decide) (by decide)
  exfalso
  omega
noncomputable def ru_hw_all : Ru := ([(0, (1199, (0, (0, 0)))), (0, (1102, (0, (0, 0)))), (0, (1122, (0, (0, 0)))), (0, (1123, (0, (0, 0)))), (0, (1124, (0, (0, 0)))), (17, (0, (3, (3, 0)))), (10, (0, (3, (0, 0)))), (4, (0, (0, (97, 0)))), (10, (0, (3, (1, 0)))), (4, (0, (0, (108, 0)))), (10, (0, (3, (2, 0)))), (4, (0, (0, (108, 0)))), (0, (1100, (0, (0, 0))))], ([], ([([(4, 1)], 36), ([(4, (-1))], (-36))], (false, ([], ([(26, (2, 5)), (23, (6, 7)), (23, (8, 9)), (23, (10, 11))], ([], none)))))))
theorem rk_hw_all : RuOk SR ru_hw_all := by
  intro τ m g hi hc ha hS
  obtain ⟨i0, i1, i2, i3, i4, i5, i6, i7, i8, i9, i10, i11, i12, _⟩ := hi
  have t1199 : τ 1199 = some (g 0) := i0
  have t1102 : τ 1102 = some (g 1) := i1
  have t1122 : τ 1122 = some (g 2) := i2
  have t1123 : τ 1123 = some (g 3) := i3
  have t1124 : τ 1124 = some (g 4) := i4
  have xe : g 5 = g 3 + 3 := i5
  have xx0 : g 6 = g 3 + 0 := i6
  have xb0 : g 7 = 97 := i7
  have xx1 : g 8 = g 3 + 1 := i8
  have xb1 : g 9 = 108 := i9
  have xx2 : g 10 = g 3 + 2 := i10
  have xb2 : g 11 = 108 := i11
  have t1100 : τ 1100 = some (g 12) := i12
  obtain ⟨c0, c1, _⟩ := hc
  have c0 : 1 * g 4 ≤ 36 := d1 c0
  have c1 : (-1) * g 4 ≤ (-36) := d1 c1
  obtain ⟨h0, k_tok, k_sc1, k_sc2, k_T, k_I, k_F, k_N, k_Y, k_Z, k_A, k_B, k_C, k_X, k_R, k_f4⟩ := hS (by rw [t1199]; exact fun e => by cases e)
  have k_tok0 := k_tok
  obtain ⟨h_L, h_n, h_nF⟩ := k_tok0
  have k_I0 := k_I
  obtain ⟨h_p, h_pc, h_ip, h_iP, h_PC, h_PN⟩ := k_I0
  obtain ⟨hn0, _, hNT⟩ := h_nF _ t1102
  have hXL : ((tx9 m).2 : Int) = m 110 1 := by
    show (((m 110 1).toNat : Nat) : Int) = _
    omega
  obtain ⟨⟨hi0, hi1⟩, hpi⟩ := h_ip _ _ _ t1102 t1122 t1123
  have hTK := (h_nF _ t1102).2.1.1 (g 2).toNat (by omega)
  have hSL := St_L (X := tx9 m) (i := (g 2).toNat)
  have hcc := h_pc _ _ t1123 t1124
  rw [show (g 3).toNat = Tp9 (tx9 m) (g 2).toNat by omega] at hcc
  have hko := kd_of (X := tx9 m) (p := Tp9 (tx9 m) (g 2).toNat)
  have hL9 := h_L _ t1100
  obtain ⟨hk1, hte, hbs⟩ := wd_of (X := tx9 m) (p := (Tp9 (tx9 m) (g 2).toNat)) (c := 36) (v := 6384748) (l := [97, 108, 108]) (by omega) (by decide) (by decide) (by decide) (by decide) (by decide)
  have hte : te9 (tx9 m) (Tp9 (tx9 m) (g 2).toNat) = (Tp9 (tx9 m) (g 2).toNat) + 3 := hte
  have hta := (te_al hk1).1
  have hTe := hTK.2.1 hk1
  have hb0 : by9 (tx9 m) ((Tp9 (tx9 m) (g 2).toNat) + 0) = 97 := by
    have := congrArg (fun l => l[0]?) hbs
    exact Option.some.inj this
  have hm0 := by_m (m := m) (p := (Tp9 (tx9 m) (g 2).toNat) + 0) (by omega)
  have hl0 := hL9.2 ((Tp9 (tx9 m) (g 2).toNat) + 0) (by omega)
  have hb1 : by9 (tx9 m) ((Tp9 (tx9 m) (g 2).toNat) + 1) = 108 := by
    have := congrArg (fun l => l[1]?) hbs
    exact Option.some.inj this
  have hm1 := by_m (m := m) (p := (Tp9 (tx9 m) (g 2).toNat) + 1) (by omega)
  have hl1 := hL9.2 ((Tp9 (tx9 m) (g 2).toNat) + 1) (by omega)
  have hb2 : by9 (tx9 m) ((Tp9 (tx9 m) (g 2).toNat) + 2) = 108 := by
    have := congrArg (fun l => l[2]?) hbs
    exact Option.some.inj this
  have hm2 := by_m (m := m) (p := (Tp9 (tx9 m) (g 2).toNat) + 2) (by omega)
  have hl2 := hL9.2 ((Tp9 (tx9 m) (g 2).toNat) + 2) (by omega)
  exact ⟨rfl, trivial, ⟨⟨(g 2).toNat, (show g 2 = (((g 2).toNat : Nat) : Int) by omega), (show g 5 = m 26 (g 2).toNat by omega)⟩, ⟨(Tp9 (tx9 m) (g 2).toNat) + 0, (show g 6 = (((Tp9 (tx9 m) (g 2).toNat) + 0 : Nat) : Int) by omega), (show g 7 = m 23 ((Tp9 (tx9 m) (g 2).toNat) + 0) by omega)⟩, ⟨(Tp9 (tx9 m) (g 2).toNat) + 1, (show g 8 = (((Tp9 (tx9 m) (g 2).toNat) + 1 : Nat) : Int) by omega), (show g 9 = m 23 ((Tp9 (tx9 m) (g 2).toNat) + 1) by omega)⟩, ⟨(Tp9 (tx9 m) (g 2).toNat) + 2, (show g 10 = (((Tp9 (tx9 m) (g 2).toNat) + 2 : Nat) : Int) by omega), (show g 11 = m 23 ((Tp9 (tx9 m) (g 2).toNat) + 2) by omega)⟩, trivial⟩, fun _ => ⟨h0, k_tok, k_sc1, k_sc2, k_T, k_I, k_F, k_N, k_Y, k_Z, k_A, k_B, k_C, k_X, k_R, k_f4⟩⟩
noncomputable def ru_hL_all : Ru := ([(0, (1199, (0, (0, 0)))), (0, (1102, (0, (0, 0)))), (0, (1122, (0, (0, 0)))), (0, (1123, (0, (0, 0)))), (0, (1124, (0, (0, 0)))), (9, (24, (2, (1, 0)))), (9, (26, (2, (1, 0)))), (0, (1100, (0, (0, 0)))), (9, (23, (3, (1, 0)))), (9, (23, (3, (1, 1)))), (9, (23, (3, (1, 2))))], ([], ([([(5, 1)], 1), ([(5, (-1))], (-1)), ([(3, (-1)), (6, 1)], 3), ([(3, 1), (6, (-1))], (-3)), ([(8, 1)], 97), ([(8, (-1))], (-97)), ([(9, 1)], 108), ([(9, (-1))], (-108)), ([(10, 1)], 108), ([(10, (-1))], (-108)), ([(4, 1)], 35)], (true, ([], ([], ([], none)))))))
theorem rk_hL_all : RuOk SR ru_hL_all := by
  intro τ m g hi hc ha hS
  obtain ⟨i0, i1, i2, i3, i4, i5, i6, i7, i8, i9, i10, _⟩ := hi
  have t1199 : τ 1199 = some (g 0) := i0
  have t1102 : τ 1102 = some (g 1) := i1
  have t1122 : τ 1122 = some (g 2) := i2
  have t1123 : τ 1123 = some (g 3) := i3
  have t1124 : τ 1124 = some (g 4) := i4
  obtain ⟨jk, uk, vk⟩ : ∃ j : Nat, 1 * g 2 + 0 = (j : Int) ∧ g 5 = m 24 j := i5
  obtain ⟨jv, uv, vv⟩ : ∃ j : Nat, 1 * g 2 + 0 = (j : Int) ∧ g 6 = m 26 j := i6
  have t1100 : τ 1100 = some (g 7) := i7
  obtain ⟨jb0, ub0, vb0⟩ : ∃ j : Nat, 1 * g 3 + 0 = (j : Int) ∧ g 8 = m 23 j := i8
  obtain ⟨jb1, ub1, vb1⟩ : ∃ j : Nat, 1 * g 3 + 1 = (j : Int) ∧ g 9 = m 23 j := i9
  obtain ⟨jb2, ub2, vb2⟩ : ∃ j : Nat, 1 * g 3 + 2 = (j : Int) ∧ g 10 = m 23 j := i10
  obtain ⟨c0, c1, c2, c3, c4, c5, c6, c7, c8, c9, c10, _⟩ := hc
  have c0 : 1 * g 5 ≤ 1 := d1 c0
  have c1 : (-1) * g 5 ≤ (-1) := d1 c1
  have c2 : (-1) * g 3 + 1 * g 6 ≤ 3 := d2 c2
  have c3 : 1 * g 3 + (-1) * g 6 ≤ (-3) := d2 c3
  have c4 : 1 * g 8 ≤ 97 := d1 c4
  have c5 : (-1) * g 8 ≤ (-97) := d1 c5
  have c6 : 1 * g 9 ≤ 108 := d1 c6
  have c7 : (-1) * g 9 ≤ (-108) := d1 c7
  have c8 : 1 * g 10 ≤ 108 := d1 c8
  have c9 : (-1) * g 10 ≤ (-108) := d1 c9
  have c10 : 1 * g 4 ≤ 35 := d1 c10
  obtain ⟨h0, k_tok, k_sc1, k_sc2, k_T, k_I, k_F, k_N, k_Y, k_Z, k_A, k_B, k_C, k_X, k_R, k_f4⟩ := hS (by rw [t1199]; exact fun e => by cases e)
  have k_tok0 := k_tok
  obtain ⟨h_L, h_n, h_nF⟩ := k_tok0
  have k_I0 := k_I
  obtain ⟨h_p, h_pc, h_ip, h_iP, h_PC, h_PN⟩ := k_I0
  obtain ⟨hn0, _, hNT⟩ := h_nF _ t1102
  have hXL : ((tx9 m).2 : Int) = m 110 1 := by
    show (((m 110 1).toNat : Nat) : Int) = _
    omega
  obtain ⟨⟨hi0, hi1⟩, hpi⟩ := h_ip _ _ _ t1102 t1122 t1123
  have hTK := (h_nF _ t1102).2.1.1 (g 2).toNat (by omega)
  have hSL := St_L (X := tx9 m) (i := (g 2).toNat)
  have hcc := h_pc _ _ t1123 t1124
  rw [show (g 3).toNat = Tp9 (tx9 m) (g 2).toNat by omega] at hcc
  have hko := kd_of (X := tx9 m) (p := Tp9 (tx9 m) (g 2).toNat)
  rw [show jk = (g 2).toNat by omega] at vk
  rw [show jv = (g 2).toNat by omega] at vv
  have hL9 := h_L _ t1100
  have hTk := hTK.1.2
  have hk1 : kd9 (tx9 m) (Tp9 (tx9 m) (g 2).toNat) = 1 := by omega
  have hTe := hTK.2.1 hk1
  have hta := (te_al hk1).1
  have hb0 : by9 (tx9 m) ((Tp9 (tx9 m) (g 2).toNat) + 0) = 97 := by
    rw [by_m (by omega), ← hL9.2 ((Tp9 (tx9 m) (g 2).toNat) + 0) (by omega), show (Tp9 (tx9 m) (g 2).toNat) + 0 = jb0 by omega]
    omega
  have hb1 : by9 (tx9 m) ((Tp9 (tx9 m) (g 2).toNat) + 1) = 108 := by
    rw [by_m (by omega), ← hL9.2 ((Tp9 (tx9 m) (g 2).toNat) + 1) (by omega), show (Tp9 (tx9 m) (g 2).toNat) + 1 = jb1 by omega]
    omega
  have hb2 : by9 (tx9 m) ((Tp9 (tx9 m) (g 2).toNat) + 2) = 108 := by
    rw [by_m (by omega), ← hL9.2 ((Tp9 (tx9 m) (g 2).toNat) + 2) (by omega), show (Tp9 (tx9 m) (g 2).toNat) + 2 = jb2 by omega]
    omega
  have hrc := wd_to (X := tx9 m) (p := (Tp9 (tx9 m) (g 2).toNat)) (c := 36) (l := [97, 108, 108]) hk1 (by show _ = _ + 3; omega) (by
    show [by9 (tx9 m) ((Tp9 (tx9 m) (g 2).toNat) + 0), by9 (tx9 m) ((Tp9 (tx9 m) (g 2).toNat) + 1), by9 (tx9 m) ((Tp9 (tx9 m) (g 2).toNat) + 2)] = _
    rw [hb0, hb1, hb2]) (by decide) (by decide)
  exfalso
  omega
noncomputable def ru_hG_all : Ru := ([(0, (1199, (0, (0, 0)))), (0, (1102, (0, (0, 0)))), (0, (1122, (0, (0, 0)))), (0, (1123, (0, (0, 0)))), (0, (1124, (0, (0, 0)))), (9, (24, (2, (1, 0)))), (9, (26, (2, (1, 0)))), (0, (1100, (0, (0, 0)))), (9, (23, (3, (1, 0)))), (9, (23, (3, (1, 1)))), (9, (23, (3, (1, 2))))], ([], ([([(5, 1)], 1), ([(5, (-1))], (-1)), ([(3, (-1)), (6, 1)], 3), ([(3, 1), (6, (-1))], (-3)), ([(8, 1)], 97), ([(8, (-1))], (-97)), ([(9, 1)], 108), ([(9, (-1))], (-108)), ([(10, 1)], 108), ([(10, (-1))], (-108)), ([(4, (-1))], (-37))], (true, ([], ([], ([], none)))))))
theorem rk_hG_all : RuOk SR ru_hG_all := by
  intro τ m g hi hc ha hS
  obtain ⟨i0, i1, i2, i3, i4, i5, i6, i7, i8, i9, i10, _⟩ := hi
  have t1199 : τ 1199 = some (g 0) := i0
  have t1102 : τ 1102 = some (g 1) := i1
  have t1122 : τ 1122 = some (g 2) := i2
  have t1123 : τ 1123 = some (g 3) := i3
  have t1124 : τ 1124 = some (g 4) := i4
  obtain ⟨jk, uk, vk⟩ : ∃ j : Nat, 1 * g 2 + 0 = (j : Int) ∧ g 5 = m 24 j := i5
  obtain ⟨jv, uv, vv⟩ : ∃ j : Nat, 1 * g 2 + 0 = (j : Int) ∧ g 6 = m 26 j := i6
  have t1100 : τ 1100 = some (g 7) := i7
  obtain ⟨jb0, ub0, vb0⟩ : ∃ j : Nat, 1 * g 3 + 0 = (j : Int) ∧ g 8 = m 23 j := i8
  obtain ⟨jb1, ub1, vb1⟩ : ∃ j : Nat, 1 * g 3 + 1 = (j : Int) ∧ g 9 = m 23 j := i9
  obtain ⟨jb2, ub2, vb2⟩ : ∃ j : Nat, 1 * g 3 + 2 = (j : Int) ∧ g 10 = m 23 j := i10
  obtain ⟨c0, c1, c2, c3, c4, c5, c6, c7, c8, c9, c10, _⟩ := hc
  have c0 : 1 * g 5 ≤ 1 := d1 c0
  have c1 : (-1) * g 5 ≤ (-1) := d1 c1
  have c2 : (-1) * g 3 + 1 * g 6 ≤ 3 := d2 c2
  have c3 : 1 * g 3 + (-1) * g 6 ≤ (-3) := d2 c3
  have c4 : 1 * g 8 ≤ 97 := d1 c4
  have c5 : (-1) * g 8 ≤ (-97) := d1 c5
  have c6 : 1 * g 9 ≤ 108 := d1 c6
  have c7 : (-1) * g 9 ≤ (-108) := d1 c7
  have c8 : 1 * g 10 ≤ 108 := d1 c8
  have c9 : (-1) * g 10 ≤ (-108) := d1 c9
  have c10 : (-1) * g 4 ≤ (-37) := d1 c10
  obtain ⟨h0, k_tok, k_sc1, k_sc2, k_T, k_I, k_F, k_N, k_Y, k_Z, k_A, k_B, k_C, k_X, k_R, k_f4⟩ := hS (by rw [t1199]; exact fun e => by cases e)
  have k_tok0 := k_tok
  obtain ⟨h_L, h_n, h_nF⟩ := k_tok0
  have k_I0 := k_I
  obtain ⟨h_p, h_pc, h_ip, h_iP, h_PC, h_PN⟩ := k_I0
  obtain ⟨hn0, _, hNT⟩ := h_nF _ t1102
  have hXL : ((tx9 m).2 : Int) = m 110 1 := by
    show (((m 110 1).toNat : Nat) : Int) = _
    omega
  obtain ⟨⟨hi0, hi1⟩, hpi⟩ := h_ip _ _ _ t1102 t1122 t1123
  have hTK := (h_nF _ t1102).2.1.1 (g 2).toNat (by omega)
  have hSL := St_L (X := tx9 m) (i := (g 2).toNat)
  have hcc := h_pc _ _ t1123 t1124
  rw [show (g 3).toNat = Tp9 (tx9 m) (g 2).toNat by omega] at hcc
  have hko := kd_of (X := tx9 m) (p := Tp9 (tx9 m) (g 2).toNat)
  rw [show jk = (g 2).toNat by omega] at vk
  rw [show jv = (g 2).toNat by omega] at vv
  have hL9 := h_L _ t1100
  have hTk := hTK.1.2
  have hk1 : kd9 (tx9 m) (Tp9 (tx9 m) (g 2).toNat) = 1 := by omega
  have hTe := hTK.2.1 hk1
  have hta := (te_al hk1).1
  have hb0 : by9 (tx9 m) ((Tp9 (tx9 m) (g 2).toNat) + 0) = 97 := by
    rw [by_m (by omega), ← hL9.2 ((Tp9 (tx9 m) (g 2).toNat) + 0) (by omega), show (Tp9 (tx9 m) (g 2).toNat) + 0 = jb0 by omega]
    omega
  have hb1 : by9 (tx9 m) ((Tp9 (tx9 m) (g 2).toNat) + 1) = 108 := by
    rw [by_m (by omega), ← hL9.2 ((Tp9 (tx9 m) (g 2).toNat) + 1) (by omega), show (Tp9 (tx9 m) (g 2).toNat) + 1 = jb1 by omega]
    omega
  have hb2 : by9 (tx9 m) ((Tp9 (tx9 m) (g 2).toNat) + 2) = 108 := by
    rw [by_m (by omega), ← hL9.2 ((Tp9 (tx9 m) (g 2).toNat) + 2) (by omega), show (Tp9 (tx9 m) (g 2).toNat) + 2 = jb2 by omega]
    omega
  have hrc := wd_to (X := tx9 m) (p := (Tp9 (tx9 m) (g 2).toNat)) (c := 36) (l := [97, 108, 108]) hk1 (by show _ = _ + 3; omega) (by
    show [by9 (tx9 m) ((Tp9 (tx9 m) (g 2).toNat) + 0), by9 (tx9 m) ((Tp9 (tx9 m) (g 2).toNat) + 1), by9 (tx9 m) ((Tp9 (tx9 m) (g 2).toNat) + 2)] = _
    rw [hb0, hb1, hb2]) (by decide) (by decide)
  exfalso
  omega
noncomputable def ru_hw_if : Ru := ([(0, (1199, (0, (0, 0)))), (0, (1102, (0, (0, 0)))), (0, (1122, (0, (0, 0)))), (0, (1123, (0, (0, 0)))), (0, (1124, (0, (0, 0)))), (17, (0, (3, (2, 0)))), (10, (0, (3, (0, 0)))), (4, (0, (0, (105, 0)))), (10, (0, (3, (1, 0)))), (4, (0, (0, (102, 0)))), (0, (1100, (0, (0, 0))))], ([], ([([(4, 1)], 33), ([(4, (-1))], (-33))], (false, ([], ([(26, (2, 5)), (23, (6, 7)), (23, (8, 9))], ([], none)))))))
theorem rk_hw_if : RuOk SR ru_hw_if := by
  intro τ m g hi hc ha hS
  obtain ⟨i0, i1, i2, i3, i4, i5, i6, i7, i8, i9, i10, _⟩ := hi
  have t1199 : τ 1199 = some (g 0) := i0
  have t1102 : τ 1102 = some (g 1) := i1
  have t1122 : τ 1122 = some (g 2) := i2
  have t1123 : τ 1123 = some (g 3) := i3
  have t1124 : τ 1124 = some (g 4) := i4
  have xe : g 5 = g 3 + 2 := i5
  have xx0 : g 6 = g 3 + 0 := i6
  have xb0 : g 7 = 105 := i7
  have xx1 : g 8 = g 3 + 1 := i8
  have xb1 : g 9 = 102 := i9
  have t1100 : τ 1100 = some (g 10) := i10
  obtain ⟨c0, c1, _⟩ := hc
  have c0 : 1 * g 4 ≤ 33 := d1 c0
  have c1 : (-1) * g 4 ≤ (-33) := d1 c1
  obtain ⟨h0, k_tok, k_sc1, k_sc2, k_T, k_I, k_F, k_N, k_Y, k_Z, k_A, k_B, k_C, k_X, k_R, k_f4⟩ := hS (by rw [t1199]; exact fun e => by cases e)
  have k_tok0 := k_tok
  obtain ⟨h_L, h_n, h_nF⟩ := k_tok0
  have k_I0 := k_I
  obtain ⟨h_p, h_pc, h_ip, h_iP, h_PC, h_PN⟩ := k_I0
  obtain ⟨hn0, _, hNT⟩ := h_nF _ t1102
  have hXL : ((tx9 m).2 : Int) = m 110 1 := by
    show (((m 110 1).toNat : Nat) : Int) = _
    omega
  obtain ⟨⟨hi0, hi1⟩, hpi⟩ := h_ip _ _ _ t1102 t1122 t1123
  have hTK := (h_nF _ t1102).2.1.1 (g 2).toNat (by omega)
  have hSL := St_L (X := tx9 m) (i := (g 2).toNat)
  have hcc := h_pc _ _ t1123 t1124
  rw [show (g 3).toNat = Tp9 (tx9 m) (g 2).toNat by omega] at hcc
  have hko := kd_of (X := tx9 m) (p := Tp9 (tx9 m) (g 2).toNat)
  have hL9 := h_L _ t1100
  obtain ⟨hk1, hte, hbs⟩ := wd_of (X := tx9 m) (p := (Tp9 (tx9 m) (g 2).toNat)) (c := 33) (v := 26982) (l := [105, 102]) (by omega) (by decide) (by decide) (by decide) (by decide) (by decide)
  have hte : te9 (tx9 m) (Tp9 (tx9 m) (g 2).toNat) = (Tp9 (tx9 m) (g 2).toNat) + 2 := hte
  have hta := (te_al hk1).1
  have hTe := hTK.2.1 hk1
  have hb0 : by9 (tx9 m) ((Tp9 (tx9 m) (g 2).toNat) + 0) = 105 := by
    have := congrArg (fun l => l[0]?) hbs
    exact Option.some.inj this
  have hm0 := by_m (m := m) (p := (Tp9 (tx9 m) (g 2).toNat) + 0) (by omega)
  have hl0 := hL9.2 ((Tp9 (tx9 m) (g 2).toNat) + 0) (by omega)
  have hb1 : by9 (tx9 m) ((Tp9 (tx9 m) (g 2).toNat) + 1) = 102 := by
    have := congrArg (fun l => l[1]?) hbs
    exact Option.some.inj this
  have hm1 := by_m (m := m) (p := (Tp9 (tx9 m) (g 2).toNat) + 1) (by omega)
  have hl1 := hL9.2 ((Tp9 (tx9 m) (g 2).toNat) + 1) (by omega)
  exact ⟨rfl, trivial, ⟨⟨(g 2).toNat, (show g 2 = (((g 2).toNat : Nat) : Int) by omega), (show g 5 = m 26 (g 2).toNat by omega)⟩, ⟨(Tp9 (tx9 m) (g 2).toNat) + 0, (show g 6 = (((Tp9 (tx9 m) (g 2).toNat) + 0 : Nat) : Int) by omega), (show g 7 = m 23 ((Tp9 (tx9 m) (g 2).toNat) + 0) by omega)⟩, ⟨(Tp9 (tx9 m) (g 2).toNat) + 1, (show g 8 = (((Tp9 (tx9 m) (g 2).toNat) + 1 : Nat) : Int) by omega), (show g 9 = m 23 ((Tp9 (tx9 m) (g 2).toNat) + 1) by omega)⟩, trivial⟩, fun _ => ⟨h0, k_tok, k_sc1, k_sc2, k_T, k_I, k_F, k_N, k_Y, k_Z, k_A, k_B, k_C, k_X, k_R, k_f4⟩⟩
noncomputable def ru_hL_if : Ru := ([(0, (1199, (0, (0, 0)))), (0, (1102, (0, (0, 0)))), (0, (1122, (0, (0, 0)))), (0, (1123, (0, (0, 0)))), (0, (1124, (0, (0, 0)))), (9, (24, (2, (1, 0)))), (9, (26, (2, (1, 0)))), (0, (1100, (0, (0, 0)))), (9, (23, (3, (1, 0)))), (9, (23, (3, (1, 1))))], ([], ([([(5, 1)], 1), ([(5, (-1))], (-1)), ([(3, (-1)), (6, 1)], 2), ([(3, 1), (6, (-1))], (-2)), ([(8, 1)], 105), ([(8, (-1))], (-105)), ([(9, 1)], 102), ([(9, (-1))], (-102)), ([(4, 1)], 32)], (true, ([], ([], ([], none)))))))
theorem rk_hL_if : RuOk SR ru_hL_if := by
  intro τ m g hi hc ha hS
  obtain ⟨i0, i1, i2, i3, i4, i5, i6, i7, i8, i9, _⟩ := hi
  have t1199 : τ 1199 = some (g 0) := i0
  have t1102 : τ 1102 = some (g 1) := i1
  have t1122 : τ 1122 = some (g 2) := i2
  have t1123 : τ 1123 = some (g 3) := i3
  have t1124 : τ 1124 = some (g 4) := i4
  obtain ⟨jk, uk, vk⟩ : ∃ j : Nat, 1 * g 2 + 0 = (j : Int) ∧ g 5 = m 24 j := i5
  obtain ⟨jv, uv, vv⟩ : ∃ j : Nat, 1 * g 2 + 0 = (j : Int) ∧ g 6 = m 26 j := i6
  have t1100 : τ 1100 = some (g 7) := i7
  obtain ⟨jb0, ub0, vb0⟩ : ∃ j : Nat, 1 * g 3 + 0 = (j : Int) ∧ g 8 = m 23 j := i8
  obtain ⟨jb1, ub1, vb1⟩ : ∃ j : Nat, 1 * g 3 + 1 = (j : Int) ∧ g 9 = m 23 j := i9
  obtain ⟨c0, c1, c2, c3, c4, c5, c6, c7, c8, _⟩ := hc
  have c0 : 1 * g 5 ≤ 1 := d1 c0
  have c1 : (-1) * g 5 ≤ (-1) := d1 c1
  have c2 : (-1) * g 3 + 1 * g 6 ≤ 2 := d2 c2
  have c3 : 1 * g 3 + (-1) * g 6 ≤ (-2) := d2 c3
  have c4 : 1 * g 8 ≤ 105 := d1 c4
  have c5 : (-1) * g 8 ≤ (-105) := d1 c5
  have c6 : 1 * g 9 ≤ 102 := d1 c6
  have c7 : (-1) * g 9 ≤ (-102) := d1 c7
  have c8 : 1 * g 4 ≤ 32 := d1 c8
  obtain ⟨h0, k_tok, k_sc1, k_sc2, k_T, k_I, k_F, k_N, k_Y, k_Z, k_A, k_B, k_C, k_X, k_R, k_f4⟩ := hS (by rw [t1199]; exact fun e => by cases e)
  have k_tok0 := k_tok
  obtain ⟨h_L, h_n, h_nF⟩ := k_tok0
  have k_I0 := k_I
  obtain ⟨h_p, h_pc, h_ip, h_iP, h_PC, h_PN⟩ := k_I0
  obtain ⟨hn0, _, hNT⟩ := h_nF _ t1102
  have hXL : ((tx9 m).2 : Int) = m 110 1 := by
    show (((m 110 1).toNat : Nat) : Int) = _
    omega
  obtain ⟨⟨hi0, hi1⟩, hpi⟩ := h_ip _ _ _ t1102 t1122 t1123
  have hTK := (h_nF _ t1102).2.1.1 (g 2).toNat (by omega)
  have hSL := St_L (X := tx9 m) (i := (g 2).toNat)
  have hcc := h_pc _ _ t1123 t1124
  rw [show (g 3).toNat = Tp9 (tx9 m) (g 2).toNat by omega] at hcc
  have hko := kd_of (X := tx9 m) (p := Tp9 (tx9 m) (g 2).toNat)
  rw [show jk = (g 2).toNat by omega] at vk
  rw [show jv = (g 2).toNat by omega] at vv
  have hL9 := h_L _ t1100
  have hTk := hTK.1.2
  have hk1 : kd9 (tx9 m) (Tp9 (tx9 m) (g 2).toNat) = 1 := by omega
  have hTe := hTK.2.1 hk1
  have hta := (te_al hk1).1
  have hb0 : by9 (tx9 m) ((Tp9 (tx9 m) (g 2).toNat) + 0) = 105 := by
    rw [by_m (by omega), ← hL9.2 ((Tp9 (tx9 m) (g 2).toNat) + 0) (by omega), show (Tp9 (tx9 m) (g 2).toNat) + 0 = jb0 by omega]
    omega
  have hb1 : by9 (tx9 m) ((Tp9 (tx9 m) (g 2).toNat) + 1) = 102 := by
    rw [by_m (by omega), ← hL9.2 ((Tp9 (tx9 m) (g 2).toNat) + 1) (by omega), show (Tp9 (tx9 m) (g 2).toNat) + 1 = jb1 by omega]
    omega
  have hrc := wd_to (X := tx9 m) (p := (Tp9 (tx9 m) (g 2).toNat)) (c := 33) (l := [105, 102]) hk1 (by show _ = _ + 2; omega) (by
    show [by9 (tx9 m) ((Tp9 (tx9 m) (g 2).toNat) + 0), by9 (tx9 m) ((Tp9 (tx9 m) (g 2).toNat) + 1)] = _
    rw [hb0, hb1]) (by decide) (by decide)
  exfalso
  omega
noncomputable def ru_hG_if : Ru := ([(0, (1199, (0, (0, 0)))), (0, (1102, (0, (0, 0)))), (0, (1122, (0, (0, 0)))), (0, (1123, (0, (0, 0)))), (0, (1124, (0, (0, 0)))), (9, (24, (2, (1, 0)))), (9, (26, (2, (1, 0)))), (0, (1100, (0, (0, 0)))), (9, (23, (3, (1, 0)))), (9, (23, (3, (1, 1))))], ([], ([([(5, 1)], 1), ([(5, (-1))], (-1)), ([(3, (-1)), (6, 1)], 2), ([(3, 1), (6, (-1))], (-2)), ([(8, 1)], 105), ([(8, (-1))], (-105)), ([(9, 1)], 102), ([(9, (-1))], (-102)), ([(4, (-1))], (-34))], (true, ([], ([], ([], none)))))))
theorem rk_hG_if : RuOk SR ru_hG_if := by
  intro τ m g hi hc ha hS
  obtain ⟨i0, i1, i2, i3, i4, i5, i6, i7, i8, i9, _⟩ := hi
  have t1199 : τ 1199 = some (g 0) := i0
  have t1102 : τ 1102 = some (g 1) := i1
  have t1122 : τ 1122 = some (g 2) := i2
  have t1123 : τ 1123 = some (g 3) := i3
  have t1124 : τ 1124 = some (g 4) := i4
  obtain ⟨jk, uk, vk⟩ : ∃ j : Nat, 1 * g 2 + 0 = (j : Int) ∧ g 5 = m 24 j := i5
  obtain ⟨jv, uv, vv⟩ : ∃ j : Nat, 1 * g 2 + 0 = (j : Int) ∧ g 6 = m 26 j := i6
  have t1100 : τ 1100 = some (g 7) := i7
  obtain ⟨jb0, ub0, vb0⟩ : ∃ j : Nat, 1 * g 3 + 0 = (j : Int) ∧ g 8 = m 23 j := i8
  obtain ⟨jb1, ub1, vb1⟩ : ∃ j : Nat, 1 * g 3 + 1 = (j : Int) ∧ g 9 = m 23 j := i9
  obtain ⟨c0, c1, c2, c3, c4, c5, c6, c7, c8, _⟩ := hc
  have c0 : 1 * g 5 ≤ 1 := d1 c0
  have c1 : (-1) * g 5 ≤ (-1) := d1 c1
  have c2 : (-1) * g 3 + 1 * g 6 ≤ 2 := d2 c2
  have c3 : 1 * g 3 + (-1) * g 6 ≤ (-2) := d2 c3
  have c4 : 1 * g 8 ≤ 105 := d1 c4
  have c5 : (-1) * g 8 ≤ (-105) := d1 c5
  have c6 : 1 * g 9 ≤ 102 := d1 c6
  have c7 : (-1) * g 9 ≤ (-102) := d1 c7
  have c8 : (-1) * g 4 ≤ (-34) := d1 c8
  obtain ⟨h0, k_tok, k_sc1, k_sc2, k_T, k_I, k_F, k_N, k_Y, k_Z, k_A, k_B, k_C, k_X, k_R, k_f4⟩ := hS (by rw [t1199]; exact fun e => by cases e)
  have k_tok0 := k_tok
  obtain ⟨h_L, h_n, h_nF⟩ := k_tok0
  have k_I0 := k_I
  obtain ⟨h_p, h_pc, h_ip, h_iP, h_PC, h_PN⟩ := k_I0
  obtain ⟨hn0, _, hNT⟩ := h_nF _ t1102
  have hXL : ((tx9 m).2 : Int) = m 110 1 := by
    show (((m 110 1).toNat : Nat) : Int) = _
    omega
  obtain ⟨⟨hi0, hi1⟩, hpi⟩ := h_ip _ _ _ t1102 t1122 t1123
  have hTK := (h_nF _ t1102).2.1.1 (g 2).toNat (by omega)
  have hSL := St_L (X := tx9 m) (i := (g 2).toNat)
  have hcc := h_pc _ _ t1123 t1124
  rw [show (g 3).toNat = Tp9 (tx9 m) (g 2).toNat by omega] at hcc
  have hko := kd_of (X := tx9 m) (p := Tp9 (tx9 m) (g 2).toNat)
  rw [show jk = (g 2).toNat by omega] at vk
  rw [show jv = (g 2).toNat by omega] at vv
  have hL9 := h_L _ t1100
  have hTk := hTK.1.2
  have hk1 : kd9 (tx9 m) (Tp9 (tx9 m) (g 2).toNat) = 1 := by omega
  have hTe := hTK.2.1 hk1
  have hta := (te_al hk1).1
  have hb0 : by9 (tx9 m) ((Tp9 (tx9 m) (g 2).toNat) + 0) = 105 := by
    rw [by_m (by omega), ← hL9.2 ((Tp9 (tx9 m) (g 2).toNat) + 0) (by omega), show (Tp9 (tx9 m) (g 2).toNat) + 0 = jb0 by omega]
    omega
  have hb1 : by9 (tx9 m) ((Tp9 (tx9 m) (g 2).toNat) + 1) = 102 := by
    rw [by_m (by omega), ← hL9.2 ((Tp9 (tx9 m) (g 2).toNat) + 1) (by omega), show (Tp9 (tx9 m) (g 2).toNat) + 1 = jb1 by omega]
    omega
  have hrc := wd_to (X := tx9 m) (p := (Tp9 (tx9 m) (g 2).toNat)) (c := 33) (l := [105, 102]) hk1 (by show _ = _ + 2; omega) (by
    show [by9 (tx9 m) ((Tp9 (tx9 m) (g 2).toNat) + 0), by9 (tx9 m) ((Tp9 (tx9 m) (g 2).toNat) + 1)] = _
    rw [hb0, hb1]) (by decide) (by decide)
  exfalso
  omega
noncomputable def ru_hw_not : Ru := ([(0, (1199, (0, (0, 0)))), (0, (1102, (0, (0, 0)))), (0, (1122, (0, (0, 0)))), (0, (1123, (0, (0, 0)))), (0, (1124, (0, (0, 0)))), (17, (0, (3, (3, 0)))), (10, (0, (3, (0, 0)))), (4, (0, (0, (110, 0)))), (10, (0, (3, (1, 0)))), (4, (0, (0, (111, 0)))), (10, (0, (3, (2, 0)))), (4, (0, (0, (116, 0)))), (0, (1100, (0, (0, 0))))], ([], ([([(4, 1)], 22), ([(4, (-1))], (-22))], (false, ([], ([(26, (2, 5)), (23, (6, 7)), (23, (8, 9)), (23, (10, 11))], ([], none)))))))
theorem rk_hw_not : RuOk SR ru_hw_not := by
  intro τ m g hi hc ha hS
  obtain ⟨i0, i1, i2, i3, i4, i5, i6, i7, i8, i9, i10, i11, i12, _⟩ := hi
  have t1199 : τ 1199 = some (g 0) := i0
  have t1102 : τ 1102 = some (g 1) := i1
  have t1122 : τ 1122 = some (g 2) := i2
  have t1123 : τ 1123 = some (g 3) := i3
  have t1124 : τ 1124 = some (g 4) := i4
  have xe : g 5 = g 3 + 3 := i5
  have xx0 : g 6 = g 3 + 0 := i6
  have xb0 : g 7 = 110 := i7
  have xx1 : g 8 = g 3 + 1 := i8
  have xb1 : g 9 = 111 := i9
  have xx2 : g 10 = g 3 + 2 := i10
  have xb2 : g 11 = 116 := i11
  have t1100 : τ 1100 = some (g 12) := i12
  obtain ⟨c0, c1, _⟩ := hc
  have c0 : 1 * g 4 ≤ 22 := d1 c0
  have c1 : (-1) * g 4 ≤ (-22) := d1 c1
  obtain ⟨h0, k_tok, k_sc1, k_sc2, k_T, k_I, k_F, k_N, k_Y, k_Z, k_A, k_B, k_C, k_X, k_R, k_f4⟩ := hS (by rw [t1199]; exact fun e => by cases e)
  have k_tok0 := k_tok
  obtain ⟨h_L, h_n, h_nF⟩ := k_tok0
  have k_I0 := k_I
  obtain ⟨h_p, h_pc, h_ip, h_iP, h_PC, h_PN⟩ := k_I0
  obtain ⟨hn0, _, hNT⟩ := h_nF _ t1102
  have hXL : ((tx9 m).2 : Int) = m 110 1 := by
    show (((m 110 1).toNat : Nat) : Int) = _
    omega
  obtain ⟨⟨hi0, hi1⟩, hpi⟩ := h_ip _ _ _ t1102 t1122 t1123
  have hTK := (h_nF _ t1102).2.1.1 (g 2).toNat (by omega)
  have hSL := St_L (X := tx9 m) (i := (g 2).toNat)
  have hcc := h_pc _ _ t1123 t1124
  rw [show (g 3).toNat = Tp9 (tx9 m) (g 2).toNat by omega] at hcc
  have hko := kd_of (X := tx9 m) (p := Tp9 (tx9 m) (g 2).toNat)
  have hL9 := h_L _ t1100
  obtain ⟨hk1, hte, hbs⟩ := wd_of (X := tx9 m) (p := (Tp9 (tx9 m) (g 2).toNat)) (c := 22) (v := 7237492) (l := [110, 111, 116]) (by omega) (by decide) (by decide) (by decide) (by decide) (by decide)
  have hte : te9 (tx9 m) (Tp9 (tx9 m) (g 2).toNat) = (Tp9 (tx9 m) (g 2).toNat) + 3 := hte
  have hta := (te_al hk1).1
  have hTe := hTK.2.1 hk1
  have hb0 : by9 (tx9 m) ((Tp9 (tx9 m) (g 2).toNat) + 0) = 110 := by
    have := congrArg (fun l => l[0]?) hbs
    exact Option.some.inj this
  have hm0 := by_m (m := m) (p := (Tp9 (tx9 m) (g 2).toNat) + 0) (by omega)
  have hl0 := hL9.2 ((Tp9 (tx9 m) (g 2).toNat) + 0) (by omega)
  have hb1 : by9 (tx9 m) ((Tp9 (tx9 m) (g 2).toNat) + 1) = 111 := by
    have := congrArg (fun l => l[1]?) hbs
    exact Option.some.inj this
  have hm1 := by_m (m := m) (p := (Tp9 (tx9 m) (g 2).toNat) + 1) (by omega)
  have hl1 := hL9.2 ((Tp9 (tx9 m) (g 2).toNat) + 1) (by omega)
  have hb2 : by9 (tx9 m) ((Tp9 (tx9 m) (g 2).toNat) + 2) = 116 := by
    have := congrArg (fun l => l[2]?) hbs
    exact Option.some.inj this
  have hm2 := by_m (m := m) (p := (Tp9 (tx9 m) (g 2).toNat) + 2) (by omega)
  have hl2 := hL9.2 ((Tp9 (tx9 m) (g 2).toNat) + 2) (by omega)
  exact ⟨rfl, trivial, ⟨⟨(g 2).toNat, (show g 2 = (((g 2).toNat : Nat) : Int) by omega), (show g 5 = m 26 (g 2).toNat by omega)⟩, ⟨(Tp9 (tx9 m) (g 2).toNat) + 0, (show g 6 = (((Tp9 (tx9 m) (g 2).toNat) + 0 : Nat) : Int) by omega), (show g 7 = m 23 ((Tp9 (tx9 m) (g 2).toNat) + 0) by omega)⟩, ⟨(Tp9 (tx9 m) (g 2).toNat) + 1, (show g 8 = (((Tp9 (tx9 m) (g 2).toNat) + 1 : Nat) : Int) by omega), (show g 9 = m 23 ((Tp9 (tx9 m) (g 2).toNat) + 1) by omega)⟩, ⟨(Tp9 (tx9 m) (g 2).toNat) + 2, (show g 10 = (((Tp9 (tx9 m) (g 2).toNat) + 2 : Nat) : Int) by omega), (show g 11 = m 23 ((Tp9 (tx9 m) (g 2).toNat) + 2) by omega)⟩, trivial⟩, fun _ => ⟨h0, k_tok, k_sc1, k_sc2, k_T, k_I, k_F, k_N, k_Y, k_Z, k_A, k_B, k_C, k_X, k_R, k_f4⟩⟩
noncomputable def ru_hL_not : Ru := ([(0, (1199, (0, (0, 0)))), (0, (1102, (0, (0, 0)))), (0, (1122, (0, (0, 0)))), (0, (1123, (0, (0, 0)))), (0, (1124, (0, (0, 0)))), (9, (24, (2, (1, 0)))), (9, (26, (2, (1, 0)))), (0, (1100, (0, (0, 0)))), (9, (23, (3, (1, 0)))), (9, (23, (3, (1, 1)))), (9, (23, (3, (1, 2))))], ([], ([([(5, 1)], 1), ([(5, (-1))], (-1)), ([(3, (-1)), (6, 1)], 3), ([(3, 1), (6, (-1))], (-3)), ([(8, 1)], 110), ([(8, (-1))], (-110)), ([(9, 1)], 111), ([(9, (-1))], (-111)), ([(10, 1)], 116), ([(10, (-1))], (-116)), ([(4, 1)], 21)], (true, ([], ([], ([], none)))))))
theorem rk_hL_not : RuOk SR ru_hL_not := by
  intro τ m g hi hc ha hS
  obtain ⟨i0, i1, i2, i3, i4, i5, i6, i7, i8, i9, i10, _⟩ := hi
  have t1199 : τ 1199 = some (g 0) := i0
  have t1102 : τ 1102 = some (g 1) := i1
  have t1122 : τ 1122 = some (g 2) := i2
  have t1123 : τ 1123 = some (g 3) := i3
  have t1124 : τ 1124 = some (g 4) := i4
  obtain ⟨jk, uk, vk⟩ : ∃ j : Nat, 1 * g 2 + 0 = (j : Int) ∧ g 5 = m 24 j := i5
  obtain ⟨jv, uv, vv⟩ : ∃ j : Nat, 1 * g 2 + 0 = (j : Int) ∧ g 6 = m 26 j := i6
  have t1100 : τ 1100 = some (g 7) := i7
  obtain ⟨jb0, ub0, vb0⟩ : ∃ j : Nat, 1 * g 3 + 0 = (j : Int) ∧ g 8 = m 23 j := i8
  obtain ⟨jb1, ub1, vb1⟩ : ∃ j : Nat, 1 * g 3 + 1 = (j : Int) ∧ g 9 = m 23 j := i9
  obtain ⟨jb2, ub2, vb2⟩ : ∃ j : Nat, 1 * g 3 + 2 = (j : Int) ∧ g 10 = m 23 j := i10
  obtain ⟨c0, c1, c2, c3, c4, c5, c6, c7, c8, c9, c10, _⟩ := hc
  have c0 : 1 * g 5 ≤ 1 := d1 c0
  have c1 : (-1) * g 5 ≤ (-1) := d1 c1
  have c2 : (-1) * g 3 + 1 * g 6 ≤ 3 := d2 c2
  have c3 : 1 * g 3 + (-1) * g 6 ≤ (-3) := d2 c3
  have c4 : 1 * g 8 ≤ 110 := d1 c4
  have c5 : (-1) * g 8 ≤ (-110) := d1 c5
  have c6 : 1 * g 9 ≤ 111 := d1 c6
  have c7 : (-1) * g 9 ≤ (-111) := d1 c7
  have c8 : 1 * g 10 ≤ 116 := d1 c8
  have c9 : (-1) * g 10 ≤ (-116) := d1 c9
  have c10 : 1 * g 4 ≤ 21 := d1 c10
  obtain ⟨h0, k_tok, k_sc1, k_sc2, k_T, k_I, k_F, k_N, k_Y, k_Z, k_A, k_B, k_C, k_X, k_R, k_f4⟩ := hS (by rw [t1199]; exact fun e => by cases e)
  have k_tok0 := k_tok
  obtain ⟨h_L, h_n, h_nF⟩ := k_tok0
  have k_I0 := k_I
  obtain ⟨h_p, h_pc, h_ip, h_iP, h_PC, h_PN⟩ := k_I0
  obtain ⟨hn0, _, hNT⟩ := h_nF _ t1102
  have hXL : ((tx9 m).2 : Int) = m 110 1 := by
    show (((m 110 1).toNat : Nat) : Int) = _
    omega
  obtain ⟨⟨hi0, hi1⟩, hpi⟩ := h_ip _ _ _ t1102 t1122 t1123
  have hTK := (h_nF _ t1102).2.1.1 (g 2).toNat (by omega)
  have hSL := St_L (X := tx9 m) (i := (g 2).toNat)
  have hcc := h_pc _ _ t1123 t1124
  rw [show (g 3).toNat = Tp9 (tx9 m) (g 2).toNat by omega] at hcc
  have hko := kd_of (X := tx9 m) (p := Tp9 (tx9 m) (g 2).toNat)
  rw [show jk = (g 2).toNat by omega] at vk
  rw [show jv = (g 2).toNat by omega] at vv
  have hL9 := h_L _ t1100
  have hTk := hTK.1.2
  have hk1 : kd9 (tx9 m) (Tp9 (tx9 m) (g 2).toNat) = 1 := by omega
  have hTe := hTK.2.1 hk1
  have hta := (te_al hk1).1
  have hb0 : by9 (tx9 m) ((Tp9 (tx9 m) (g 2).toNat) + 0) = 110 := by
    rw [by_m (by omega), ← hL9.2 ((Tp9 (tx9 m) (g 2).toNat) + 0) (by omega), show (Tp9 (tx9 m) (g 2).toNat) + 0 = jb0 by omega]
    omega
  have hb1 : by9 (tx9 m) ((Tp9 (tx9 m) (g 2).toNat) + 1) = 111 := by
    rw [by_m (by omega), ← hL9.2 ((Tp9 (tx9 m) (g 2).toNat) + 1) (by omega), show (Tp9 (tx9 m) (g 2).toNat) + 1 = jb1 by omega]
    omega
  have hb2 : by9 (tx9 m) ((Tp9 (tx9 m) (g 2).toNat) + 2) = 116 := by
    rw [by_m (by omega), ← hL9.2 ((Tp9 (tx9 m) (g 2).toNat) + 2) (by omega), show (Tp9 (tx9 m) (g 2).toNat) + 2 = jb2 by omega]
    omega
  have hrc := wd_to (X := tx9 m) (p := (Tp9 (tx9 m) (g 2).toNat)) (c := 22) (l := [110, 111, 116]) hk1 (by show _ = _ + 3; omega) (by
    show [by9 (tx9 m) ((Tp9 (tx9 m) (g 2).toNat) + 0), by9 (tx9 m) ((Tp9 (tx9 m) (g 2).toNat) + 1), by9 (tx9 m) ((Tp9 (tx9 m) (g 2).toNat) + 2)] = _
    rw [hb0, hb1, hb2]) (by decide) (by decide)
  exfalso
  omega
noncomputable def ru_hG_not : Ru := ([(0, (1199, (0, (0, 0)))), (0, (1102, (0, (0, 0)))), (0, (1122, (0, (0, 0)))), (0, (1123, (0, (0, 0)))), (0, (1124, (0, (0, 0)))), (9, (24, (2, (1, 0)))), (9, (26, (2, (1, 0)))), (0, (1100, (0, (0, 0)))), (9, (23, (3, (1, 0)))), (9, (23, (3, (1, 1)))), (9, (23, (3, (1, 2))))], ([], ([([(5, 1)], 1), ([(5, (-1))], (-1)), ([(3, (-1)), (6, 1)], 3), ([(3, 1), (6, (-1))], (-3)), ([(8, 1)], 110), ([(8, (-1))], (-110)), ([(9, 1)], 111), ([(9, (-1))], (-111)), ([(10, 1)], 116), ([(10, (-1))], (-116)), ([(4, (-1))], (-23))], (true, ([], ([], ([], none)))))))
theorem rk_hG_not : RuOk SR ru_hG_not := by
  intro τ m g hi hc ha hS
  obtain ⟨i0, i1, i2, i3, i4, i5, i6, i7, i8, i9, i10, _⟩ := hi
  have t1199 : τ 1199 = some (g 0) := i0
  have t1102 : τ 1102 = some (g 1) := i1
  have t1122 : τ 1122 = some (g 2) := i2
  have t1123 : τ 1123 = some (g 3) := i3
  have t1124 : τ 1124 = some (g 4) := i4
  obtain ⟨jk, uk, vk⟩ : ∃ j : Nat, 1 * g 2 + 0 = (j : Int) ∧ g 5 = m 24 j := i5
  obtain ⟨jv, uv, vv⟩ : ∃ j : Nat, 1 * g 2 + 0 = (j : Int) ∧ g 6 = m 26 j := i6
  have t1100 : τ 1100 = some (g 7) := i7
  obtain ⟨jb0, ub0, vb0⟩ : ∃ j : Nat, 1 * g 3 + 0 = (j : Int) ∧ g 8 = m 23 j := i8
  obtain ⟨jb1, ub1, vb1⟩ : ∃ j : Nat, 1 * g 3 + 1 = (j : Int) ∧ g 9 = m 23 j := i9
  obtain ⟨jb2, ub2, vb2⟩ : ∃ j : Nat, 1 * g 3 + 2 = (j : Int) ∧ g 10 = m 23 j := i10
  obtain ⟨c0, c1, c2, c3, c4, c5, c6, c7, c8, c9, c10, _⟩ := hc
  have c0 : 1 * g 5 ≤ 1 := d1 c0
  have c1 : (-1) * g 5 ≤ (-1) := d1 c1
  have c2 : (-1) * g 3 + 1 * g 6 ≤ 3 := d2 c2
  have c3 : 1 * g 3 + (-1) * g 6 ≤ (-3) := d2 c3
  have c4 : 1 * g 8 ≤ 110 := d1 c4
  have c5 : (-1) * g 8 ≤ (-110) := d1 c5
  have c6 : 1 * g 9 ≤ 111 := d1 c6
  have c7 : (-1) * g 9 ≤ (-111) := d1 c7
  have c8 : 1 * g 10 ≤ 116 := d1 c8
  have c9 : (-1) * g 10 ≤ (-116) := d1 c9
  have c10 : (-1) * g 4 ≤ (-23) := d1 c10
  obtain ⟨h0, k_tok, k_sc1, k_sc2, k_T, k_I, k_F, k_N, k_Y, k_Z, k_A, k_B, k_C, k_X, k_R, k_f4⟩ := hS (by rw [t1199]; exact fun e => by cases e)
  have k_tok0 := k_tok
  obtain ⟨h_L, h_n, h_nF⟩ := k_tok0
  have k_I0 := k_I
  obtain ⟨h_p, h_pc, h_ip, h_iP, h_PC, h_PN⟩ := k_I0
  obtain ⟨hn0, _, hNT⟩ := h_nF _ t1102
  have hXL : ((tx9 m).2 : Int) = m 110 1 := by
    show (((m 110 1).toNat : Nat) : Int) = _
    omega
  obtain ⟨⟨hi0, hi1⟩, hpi⟩ := h_ip _ _ _ t1102 t1122 t1123
  have hTK := (h_nF _ t1102).2.1.1 (g 2).toNat (by omega)
  have hSL := St_L (X := tx9 m) (i := (g 2).toNat)
  have hcc := h_pc _ _ t1123 t1124
  rw [show (g 3).toNat = Tp9 (tx9 m) (g 2).toNat by omega] at hcc
  have hko := kd_of (X := tx9 m) (p := Tp9 (tx9 m) (g 2).toNat)
  rw [show jk = (g 2).toNat by omega] at vk
  rw [show jv = (g 2).toNat by omega] at vv
  have hL9 := h_L _ t1100
  have hTk := hTK.1.2
  have hk1 : kd9 (tx9 m) (Tp9 (tx9 m) (g 2).toNat) = 1 := by omega
  have hTe := hTK.2.1 hk1
  have hta := (te_al hk1).1
  have hb0 : by9 (tx9 m) ((Tp9 (tx9 m) (g 2).toNat) + 0) = 110 := by
    rw [by_m (by omega), ← hL9.2 ((Tp9 (tx9 m) (g 2).toNat) + 0) (by omega), show (Tp9 (tx9 m) (g 2).toNat) + 0 = jb0 by omega]
    omega
  have hb1 : by9 (tx9 m) ((Tp9 (tx9 m) (g 2).toNat) + 1) = 111 := by
    rw [by_m (by omega), ← hL9.2 ((Tp9 (tx9 m) (g 2).toNat) + 1) (by omega), show (Tp9 (tx9 m) (g 2).toNat) + 1 = jb1 by omega]
    omega
  have hb2 : by9 (tx9 m) ((Tp9 (tx9 m) (g 2).toNat) + 2) = 116 := by
    rw [by_m (by omega), ← hL9.2 ((Tp9 (tx9 m) (g 2).toNat) + 2) (by omega), show (Tp9 (tx9 m) (g 2).toNat) + 2 = jb2 by omega]
    omega
  have hrc := wd_to (X := tx9 m) (p := (Tp9 (tx9 m) (g 2).toNat)) (c := 22) (l := [110, 111, 116]) hk1 (by show _ = _ + 3; omega) (by
    show [by9 (tx9 m) ((Tp9 (tx9 m) (g 2).toNat) + 0), by9 (tx9 m) ((Tp9 (tx9 m) (g 2).toNat) + 1), by9 (tx9 m) ((Tp9 (tx9 m) (g 2).toNat) + 2)] = _
    rw [hb0, hb1, hb2]) (by decide) (by decide)
  exfalso
  omega
noncomputable def ru_hw_known : Ru := ([(0, (1199, (0, (0, 0)))), (0, (1102, (0, (0, 0)))), (0, (1122, (0, (0, 0)))), (0, (1123, (0, (0, 0)))), (0, (1124, (0, (0, 0)))), (17, (0, (3, (5, 0)))), (10, (0, (3, (0, 0)))), (4, (0, (0, (107, 0)))), (10, (0, (3, (1, 0)))), (4, (0, (0, (110, 0)))), (10, (0, (3, (2, 0)))), (4, (0, (0, (111, 0)))), (10, (0, (3, (3, 0)))), (4, (0, (0, (119, 0)))), (10, (0, (3, (4, 0)))), (4, (0, (0, (110, 0)))), (0, (1100, (0, (0, 0))))], ([], ([([(4, 1)], 23), ([(4, (-1))], (-23))], (false, ([], ([(26, (2, 5)), (23, (6, 7)), (23, (8, 9)), (23, (10, 11)), (23, (12, 13)), (23, (14, 15))], ([], none)))))))
theorem rk_hw_known : RuOk SR ru_hw_known := by
  intro τ m g hi hc ha hS
  obtain ⟨i0, i1, i2, i3, i4, i5, i6, i7, i8, i9, i10, i11, i12, i13, i14, i15, i16, _⟩ := hi
  have t1199 : τ 1199 = some (g 0) := i0
  have t1102 : τ 1102 = some (g 1) := i1
  have t1122 : τ 1122 = some (g 2) := i2
  have t1123 : τ 1123 = some (g 3) := i3
  have t1124 : τ 1124 = some (g 4) := i4
  have xe : g 5 = g 3 + 5 := i5
  have xx0 : g 6 = g 3 + 0 := i6
  have xb0 : g 7 = 107 := i7
  have xx1 : g 8 = g 3 + 1 := i8
  have xb1 : g 9 = 110 := i9
  have xx2 : g 10 = g 3 + 2 := i10
  have xb2 : g 11 = 111 := i11
  have xx3 : g 12 = g 3 + 3 := i12
  have xb3 : g 13 = 119 := i13
  have xx4 : g 14 = g 3 + 4 := i14
  have xb4 : g 15 = 110 := i15
  have t1100 : τ 1100 = some (g 16) := i16
  obtain ⟨c0, c1, _⟩ := hc
  have c0 : 1 * g 4 ≤ 23 := d1 c0
  have c1 : (-1) * g 4 ≤ (-23) := d1 c1
  obtain ⟨h0, k_tok, k_sc1, k_sc2, k_T, k_I, k_F, k_N, k_Y, k_Z, k_A, k_B, k_C, k_X, k_R, k_f4⟩ := hS (by rw [t1199]; exact fun e => by cases e)
  have k_tok0 := k_tok
  obtain ⟨h_L, h_n, h_nF⟩ := k_tok0
  have k_I0 := k_I
  obtain ⟨h_p, h_pc, h_ip, h_iP, h_PC, h_PN⟩ := k_I0
  obtain ⟨hn0, _, hNT⟩ := h_nF _ t1102
  have hXL : ((tx9 m).2 : Int) = m 110 1 := by
    show (((m 110 1).toNat : Nat) : Int) = _
    omega
  obtain ⟨⟨hi0, hi1⟩, hpi⟩ := h_ip _ _ _ t1102 t1122 t1123
  have hTK := (h_nF _ t1102).2.1.1 (g 2).toNat (by omega)
  have hSL := St_L (X := tx9 m) (i := (g 2).toNat)
  have hcc := h_pc _ _ t1123 t1124
  rw [show (g 3).toNat = Tp9 (tx9 m) (g 2).toNat by omega] at hcc
  have hko := kd_of (X := tx9 m) (p := Tp9 (tx9 m) (g 2).toNat)
  have hL9 := h_L _ t1100
  obtain ⟨hk1, hte, hbs⟩ := wd_of (X := tx9 m) (p := (Tp9 (tx9 m) (g 2).toNat)) (c := 23) (v := 461414299502) (l := [107, 110, 111, 119, 110]) (by omega) (by decide) (by decide) (by decide) (by decide) (by decide)
  have hte : te9 (tx9 m) (Tp9 (tx9 m) (g 2).toNat) = (Tp9 (tx9 m) (g 2).toNat) + 5 := hte
  have hta := (te_al hk1).1
  have hTe := hTK.2.1 hk1
  have hb0 : by9 (tx9 m) ((Tp9 (tx9 m) (g 2).toNat) + 0) = 107 := by
    have := congrArg (fun l => l[0]?) hbs
    exact Option.some.inj this
  have hm0 := by_m (m := m) (p := (Tp9 (tx9 m) (g 2).toNat) + 0) (by omega)
  have hl0 := hL9.2 ((Tp9 (tx9 m) (g 2).toNat) + 0) (by omega)
  have hb1 : by9 (tx9 m) ((Tp9 (tx9 m) (g 2).toNat) + 1) = 110 := by
    have := congrArg (fun l => l[1]?) hbs
    exact Option.some.inj this
  have hm1 := by_m (m := m) (p := (Tp9 (tx9 m) (g 2).toNat) + 1) (by omega)
  have hl1 := hL9.2 ((Tp9 (tx9 m) (g 2).toNat) + 1) (by omega)
  have hb2 : by9 (tx9 m) ((Tp9 (tx9 m) (g 2).toNat) + 2) = 111 := by
    have := congrArg (fun l => l[2]?) hbs
    exact Option.some.inj this
  have hm2 := by_m (m := m) (p := (Tp9 (tx9 m) (g 2).toNat) + 2) (by omega)
  have hl2 := hL9.2 ((Tp9 (tx9 m) (g 2).toNat) + 2) (by omega)
  have hb3 : by9 (tx9 m) ((Tp9 (tx9 m) (g 2).toNat) + 3) = 119 := by
    have := congrArg (fun l => l[3]?) hbs
    exact Option.some.inj this
  have hm3 := by_m (m := m) (p := (Tp9 (tx9 m) (g 2).toNat) + 3) (by omega)
  have hl3 := hL9.2 ((Tp9 (tx9 m) (g 2).toNat) + 3) (by omega)
  have hb4 : by9 (tx9 m) ((Tp9 (tx9 m) (g 2).toNat) + 4) = 110 := by
    have := congrArg (fun l => l[4]?) hbs
    exact Option.some.inj this
  have hm4 := by_m (m := m) (p := (Tp9 (tx9 m) (g 2).toNat) + 4) (by omega)
  have hl4 := hL9.2 ((Tp9 (tx9 m) (g 2).toNat) + 4) (by omega)
  exact ⟨rfl, trivial, ⟨⟨(g 2).toNat, (show g 2 = (((g 2).toNat : Nat) : Int) by omega), (show g 5 = m 26 (g 2).toNat by omega)⟩, ⟨(Tp9 (tx9 m) (g 2).toNat) + 0, (show g 6 = (((Tp9 (tx9 m) (g 2).toNat) + 0 : Nat) : Int) by omega), (show g 7 = m 23 ((Tp9 (tx9 m) (g 2).toNat) + 0) by omega)⟩, ⟨(Tp9 (tx9 m) (g 2).toNat) + 1, (show g 8 = (((Tp9 (tx9 m) (g 2).toNat) + 1 : Nat) : Int) by omega), (show g 9 = m 23 ((Tp9 (tx9 m) (g 2).toNat) + 1) by omega)⟩, ⟨(Tp9 (tx9 m) (g 2).toNat) + 2, (show g 10 = (((Tp9 (tx9 m) (g 2).toNat) + 2 : Nat) : Int) by omega), (show g 11 = m 23 ((Tp9 (tx9 m) (g 2).toNat) + 2) by omega)⟩, ⟨(Tp9 (tx9 m) (g 2).toNat) + 3, (show g 12 = (((Tp9 (tx9 m) (g 2).toNat) + 3 : Nat) : Int) by omega), (show g 13 = m 23 ((Tp9 (tx9 m) (g 2).toNat) + 3) by omega)⟩, ⟨(Tp9 (tx9 m) (g 2).toNat) + 4, (show g 14 = (((Tp9 (tx9 m) (g 2).toNat) + 4 : Nat) : Int) by omega), (show g 15 = m 23 ((Tp9 (tx9 m) (g 2).toNat) + 4) by omega)⟩, trivial⟩, fun _ => ⟨h0, k_tok, k_sc1, k_sc2, k_T, k_I, k_F, k_N, k_Y, k_Z, k_A, k_B, k_C, k_X, k_R, k_f4⟩⟩
noncomputable def ru_hL_known : Ru := ([(0, (1199, (0, (0, 0)))), (0, (1102, (0, (0, 0)))), (0, (1122, (0, (0, 0)))), (0, (1123, (0, (0, 0)))), (0, (1124, (0, (0, 0)))), (9, (24, (2, (1, 0)))), (9, (26, (2, (1, 0)))), (0, (1100, (0, (0, 0)))), (9, (23, (3, (1, 0)))), (9, (23, (3, (1, 1)))), (9, (23, (3, (1, 2)))), (9, (23, (3, (1, 3)))), (9, (23, (3, (1, 4))))], ([], ([([(5, 1)], 1), ([(5, (-1))], (-1)), ([(3, (-1)), (6, 1)], 5), ([(3, 1), (6, (-1))], (-5)), ([(8, 1)], 107), ([(8, (-1))], (-107)), ([(9, 1)], 110), ([(9, (-1))], (-110)), ([(10, 1)], 111), ([(10, (-1))], (-111)), ([(11, 1)], 119), ([(11, (-1))], (-119)), ([(12, 1)], 110), ([(12, (-1))], (-110)), ([(4, 1)], 22)], (true, ([], ([], ([], none)))))))
theorem rk_hL_known : RuOk SR ru_hL_known := by
  intro τ m g hi hc ha hS
  obtain ⟨i0, i1, i2, i3, i4, i5, i6, i7, i8, i9, i10, i11, i12, _⟩ := hi
  have t1199 : τ 1199 = some (g 0) := i0
  have t1102 : τ 1102 = some (g 1) := i1
  have t1122 : τ 1122 = some (g 2) := i2
  have t1123 : τ 1123 = some (g 3) := i3
  have t1124 : τ 1124 = some (g 4) := i4
  obtain ⟨jk, uk, vk⟩ : ∃ j : Nat, 1 * g 2 + 0 = (j : Int) ∧ g 5 = m 24 j := i5
  obtain ⟨jv, uv, vv⟩ : ∃ j : Nat, 1 * g 2 + 0 = (j : Int) ∧ g 6 = m 26 j := i6
  have t1100 : τ 1100 = some (g 7) := i7
  obtain ⟨jb0, ub0, vb0⟩ : ∃ j : Nat, 1 * g 3 + 0 = (j : Int) ∧ g 8 = m 23 j := i8
  obtain ⟨jb1, ub1, vb1⟩ : ∃ j : Nat, 1 * g 3 + 1 = (j : Int) ∧ g 9 = m 23 j := i9
  obtain ⟨jb2, ub2, vb2⟩ : ∃ j : Nat, 1 * g 3 + 2 = (j : Int) ∧ g 10 = m 23 j := i10
  obtain ⟨jb3, ub3, vb3⟩ : ∃ j : Nat, 1 * g 3 + 3 = (j : Int) ∧ g 11 = m 23 j := i11
  obtain ⟨jb4, ub4, vb4⟩ : ∃ j : Nat, 1 * g 3 + 4 = (j : Int) ∧ g 12 = m 23 j := i12
  obtain ⟨c0, c1, c2, c3, c4, c5, c6, c7, c8, c9, c10, c11, c12, c13, c14, _⟩ := hc
  have c0 : 1 * g 5 ≤ 1 := d1 c0
  have c1 : (-1) * g 5 ≤ (-1) := d1 c1
  have c2 : (-1) * g 3 + 1 * g 6 ≤ 5 := d2 c2
  have c3 : 1 * g 3 + (-1) * g 6 ≤ (-5) := d2 c3
  have c4 : 1 * g 8 ≤ 107 := d1 c4
  have c5 : (-1) * g 8 ≤ (-107) := d1 c5
  have c6 : 1 * g 9 ≤ 110 := d1 c6
  have c7 : (-1) * g 9 ≤ (-110) := d1 c7
  have c8 : 1 * g 10 ≤ 111 := d1 c8
  have c9 : (-1) * g 10 ≤ (-111) := d1 c9
  have c10 : 1 * g 11 ≤ 119 := d1 c10
  have c11 : (-1) * g 11 ≤ (-119) := d1 c11
  have c12 : 1 * g 12 ≤ 110 := d1 c12
  have c13 : (-1) * g 12 ≤ (-110) := d1 c13
  have c14 : 1 * g 4 ≤ 22 := d1 c14
  obtain ⟨h0, k_tok, k_sc1, k_sc2, k_T, k_I, k_F, k_N, k_Y, k_Z, k_A, k_B, k_C, k_X, k_R, k_f4⟩ := hS (by rw [t1199]; exact fun e => by cases e)
  have k_tok0 := k_tok
  obtain ⟨h_L, h_n, h_nF⟩ := k_tok0
  have k_I0 := k_I
  obtain ⟨h_p, h_pc, h_ip, h_iP, h_PC, h_PN⟩ := k_I0
  obtain ⟨hn0, _, hNT⟩ := h_nF _ t1102
  have hXL : ((tx9 m).2 : Int) = m 110 1 := by
    show (((m 110 1).toNat : Nat) : Int) = _
    omega
  obtain ⟨⟨hi0, hi1⟩, hpi⟩ := h_ip _ _ _ t1102 t1122 t1123
  have hTK := (h_nF _ t1102).2.1.1 (g 2).toNat (by omega)
  have hSL := St_L (X := tx9 m) (i := (g 2).toNat)
  have hcc := h_pc _ _ t1123 t1124
  rw [show (g 3).toNat = Tp9 (tx9 m) (g 2).toNat by omega] at hcc
  have hko := kd_of (X := tx9 m) (p := Tp9 (tx9 m) (g 2).toNat)
  rw [show jk = (g 2).toNat by omega] at vk
  rw [show jv = (g 2).toNat by omega] at vv
  have hL9 := h_L _ t1100
  have hTk := hTK.1.2
  have hk1 : kd9 (tx9 m) (Tp9 (tx9 m) (g 2).toNat) = 1 := by omega
  have hTe := hTK.2.1 hk1
  have hta := (te_al hk1).1
  have hb0 : by9 (tx9 m) ((Tp9 (tx9 m) (g 2).toNat) + 0) = 107 := by
    rw [by_m (by omega), ← hL9.2 ((Tp9 (tx9 m) (g 2).toNat) + 0) (by omega), show (Tp9 (tx9 m) (g 2).toNat) + 0 = jb0 by omega]
    omega
  have hb1 : by9 (tx9 m) ((Tp9 (tx9 m) (g 2).toNat) + 1) = 110 := by
    rw [by_m (by omega), ← hL9.2 ((Tp9 (tx9 m) (g 2).toNat) + 1) (by omega), show (Tp9 (tx9 m) (g 2).toNat) + 1 = jb1 by omega]
    omega
  have hb2 : by9 (tx9 m) ((Tp9 (tx9 m) (g 2).toNat) + 2) = 111 := by
    rw [by_m (by omega), ← hL9.2 ((Tp9 (tx9 m) (g 2).toNat) + 2) (by omega), show (Tp9 (tx9 m) (g 2).toNat) + 2 = jb2 by omega]
    omega
  have hb3 : by9 (tx9 m) ((Tp9 (tx9 m) (g 2).toNat) + 3) = 119 := by
    rw [by_m (by omega), ← hL9.2 ((Tp9 (tx9 m) (g 2).toNat) + 3) (by omega), show (Tp9 (tx9 m) (g 2).toNat) + 3 = jb3 by omega]
    omega
  have hb4 : by9 (tx9 m) ((Tp9 (tx9 m) (g 2).toNat) + 4) = 110 := by
    rw [by_m (by omega), ← hL9.2 ((Tp9 (tx9 m) (g 2).toNat) + 4) (by omega), show (Tp9 (tx9 m) (g 2).toNat) + 4 = jb4 by omega]
    omega
  have hrc := wd_to (X := tx9 m) (p := (Tp9 (tx9 m) (g 2).toNat)) (c := 23) (l := [107, 110, 111, 119, 110]) hk1 (by show _ = _ + 5; omega) (by
    show [by9 (tx9 m) ((Tp9 (tx9 m) (g 2).toNat) + 0), by9 (tx9 m) ((Tp9 (tx9 m) (g 2).toNat) + 1), by9 (tx9 m) ((Tp9 (tx9 m) (g 2).toNat) + 2), by9 (tx9 m) ((Tp9 (tx9 m) (g 2).toNat) + 3), by9 (tx9 m) ((Tp9 (tx9 m) (g 2).toNat) + 4)] = _
    rw [hb0, hb1, hb2, hb3, hb4]) (by decide) (by decide)
  exfalso
  omega
noncomputable def ru_hG_known : Ru := ([(0, (1199, (0, (0, 0)))), (0, (1102, (0, (0, 0)))), (0, (1122, (0, (0, 0)))), (0, (1123, (0, (0, 0)))), (0, (1124, (0, (0, 0)))), (9, (24, (2, (1, 0)))), (9, (26, (2, (1, 0)))), (0, (1100, (0, (0, 0)))), (9, (23, (3, (1, 0)))), (9, (23, (3, (1, 1)))), (9, (23, (3, (1, 2)))), (9, (23, (3, (1, 3)))), (9, (23, (3, (1, 4))))], ([], ([([(5, 1)], 1), ([(5, (-1))], (-1)), ([(3, (-1)), (6, 1)], 5), ([(3, 1), (6, (-1))], (-5)), ([(8, 1)], 107), ([(8, (-1))], (-107)), ([(9, 1)], 110), ([(9, (-1))], (-110)), ([(10, 1)], 111), ([(10, (-1))], (-111)), ([(11, 1)], 119), ([(11, (-1))], (-119)), ([(12, 1)], 110), ([(12, (-1))], (-110)), ([(4, (-1))], (-24))], (true, ([], ([], ([], none)))))))
theorem rk_hG_known : RuOk SR ru_hG_known := by
  intro τ m g hi hc ha hS
  obtain ⟨i0, i1, i2, i3, i4, i5, i6, i7, i8, i9, i10, i11, i12, _⟩ := hi
  have t1199 : τ 1199 = some (g 0) := i0
  have t1102 : τ 1102 = some (g 1) := i1
  have t1122 : τ 1122 = some (g 2) := i2
  have t1123 : τ 1123 = some (g 3) := i3
  have t1124 : τ 1124 = some (g 4) := i4
  obtain ⟨jk, uk, vk⟩ : ∃ j : Nat, 1 * g 2 + 0 = (j : Int) ∧ g 5 = m 24 j := i5
  obtain ⟨jv, uv, vv⟩ : ∃ j : Nat, 1 * g 2 + 0 = (j : Int) ∧ g 6 = m 26 j := i6
  have t1100 : τ 1100 = some (g 7) := i7
  obtain ⟨jb0, ub0, vb0⟩ : ∃ j : Nat, 1 * g 3 + 0 = (j : Int) ∧ g 8 = m 23 j := i8
  obtain ⟨jb1, ub1, vb1⟩ : ∃ j : Nat, 1 * g 3 + 1 = (j : Int) ∧ g 9 = m 23 j := i9
  obtain ⟨jb2, ub2, vb2⟩ : ∃ j : Nat, 1 * g 3 + 2 = (j : Int) ∧ g 10 = m 23 j := i10
  obtain ⟨jb3, ub3, vb3⟩ : ∃ j : Nat, 1 * g 3 + 3 = (j : Int) ∧ g 11 = m 23 j := i11
  obtain ⟨jb4, ub4, vb4⟩ : ∃ j : Nat, 1 * g 3 + 4 = (j : Int) ∧ g 12 = m 23 j := i12
  obtain ⟨c0, c1, c2, c3, c4, c5, c6, c7, c8, c9, c10, c11, c12, c13, c14, _⟩ := hc
  have c0 : 1 * g 5 ≤ 1 := d1 c0
  have c1 : (-1) * g 5 ≤ (-1) := d1 c1
  have c2 : (-1) * g 3 + 1 * g 6 ≤ 5 := d2 c2
  have c3 : 1 * g 3 + (-1) * g 6 ≤ (-5) := d2 c3
  have c4 : 1 * g 8 ≤ 107 := d1 c4
  have c5 : (-1) * g 8 ≤ (-107) := d1 c5
  have c6 : 1 * g 9 ≤ 110 := d1 c6
  have c7 : (-1) * g 9 ≤ (-110) := d1 c7
  have c8 : 1 * g 10 ≤ 111 := d1 c8
  have c9 : (-1) * g 10 ≤ (-111) := d1 c9
  have c10 : 1 * g 11 ≤ 119 := d1 c10
  have c11 : (-1) * g 11 ≤ (-119) := d1 c11
  have c12 : 1 * g 12 ≤ 110 := d1 c12
  have c13 : (-1) * g 12 ≤ (-110) := d1 c13
  have c14 : (-1) * g 4 ≤ (-24) := d1 c14
  obtain ⟨h0, k_tok, k_sc1, k_sc2, k_T, k_I, k_F, k_N, k_Y, k_Z, k_A, k_B, k_C, k_X, k_R, k_f4⟩ := hS (by rw [t1199]; exact fun e => by cases e)
  have k_tok0 := k_tok
  obtain ⟨h_L, h_n, h_nF⟩ := k_tok0
  have k_I0 := k_I
  obtain ⟨h_p, h_pc, h_ip, h_iP, h_PC, h_PN⟩ := k_I0
  obtain ⟨hn0, _, hNT⟩ := h_nF _ t1102
  have hXL : ((tx9 m).2 : Int) = m 110 1 := by
    show (((m 110 1).toNat : Nat) : Int) = _
    omega
  obtain ⟨⟨hi0, hi1⟩, hpi⟩ := h_ip _ _ _ t1102 t1122 t1123
  have hTK := (h_nF _ t1102).2.1.1 (g 2).toNat (by omega)
  have hSL := St_L (X := tx9 m) (i := (g 2).toNat)
  have hcc := h_pc _ _ t1123 t1124
  rw [show (g 3).toNat = Tp9 (tx9 m) (g 2).toNat by omega] at hcc
  have hko := kd_of (X := tx9 m) (p := Tp9 (tx9 m) (g 2).toNat)
  rw [show jk = (g 2).toNat by omega] at vk
  rw [show jv = (g 2).toNat by omega] at vv
  have hL9 := h_L _ t1100
  have hTk := hTK.1.2
  have hk1 : kd9 (tx9 m) (Tp9 (tx9 m) (g 2).toNat) = 1 := by omega
  have hTe := hTK.2.1 hk1
  have hta := (te_al hk1).1
  have hb0 : by9 (tx9 m) ((Tp9 (tx9 m) (g 2).toNat) + 0) = 107 := by
    rw [by_m (by omega), ← hL9.2 ((Tp9 (tx9 m) (g 2).toNat) + 0) (by omega), show (Tp9 (tx9 m) (g 2).toNat) + 0 = jb0 by omega]
    omega
  have hb1 : by9 (tx9 m) ((Tp9 (tx9 m) (g 2).toNat) + 1) = 110 := by
    rw [by_m (by omega), ← hL9.2 ((Tp9 (tx9 m) (g 2).toNat) + 1) (by omega), show (Tp9 (tx9 m) (g 2).toNat) + 1 = jb1 by omega]
    omega
  have hb2 : by9 (tx9 m) ((Tp9 (tx9 m) (g 2).toNat) + 2) = 111 := by
    rw [by_m (by omega), ← hL9.2 ((Tp9 (tx9 m) (g 2).toNat) + 2) (by omega), show (Tp9 (tx9 m) (g 2).toNat) + 2 = jb2 by omega]
    omega
  have hb3 : by9 (tx9 m) ((Tp9 (tx9 m) (g 2).toNat) + 3) = 119 := by
    rw [by_m (by omega), ← hL9.2 ((Tp9 (tx9 m) (g 2).toNat) + 3) (by omega), show (Tp9 (tx9 m) (g 2).toNat) + 3 = jb3 by omega]
    omega
  have hb4 : by9 (tx9 m) ((Tp9 (tx9 m) (g 2).toNat) + 4) = 110 := by
    rw [by_m (by omega), ← hL9.2 ((Tp9 (tx9 m) (g 2).toNat) + 4) (by omega), show (Tp9 (tx9 m) (g 2).toNat) + 4 = jb4 by omega]
    omega
  have hrc := wd_to (X := tx9 m) (p := (Tp9 (tx9 m) (g 2).toNat)) (c := 23) (l := [107, 110, 111, 119, 110]) hk1 (by show _ = _ + 5; omega) (by
    show [by9 (tx9 m) ((Tp9 (tx9 m) (g 2).toNat) + 0), by9 (tx9 m) ((Tp9 (tx9 m) (g 2).toNat) + 1), by9 (tx9 m) ((Tp9 (tx9 m) (g 2).toNat) + 2), by9 (tx9 m) ((Tp9 (tx9 m) (g 2).toNat) + 3), by9 (tx9 m) ((Tp9 (tx9 m) (g 2).toNat) + 4)] = _
    rw [hb0, hb1, hb2, hb3, hb4]) (by decide) (by decide)
  exfalso
  omega
noncomputable def ru_hw_me : Ru := ([(0, (1199, (0, (0, 0)))), (0, (1102, (0, (0, 0)))), (0, (1122, (0, (0, 0)))), (0, (1123, (0, (0, 0)))), (0, (1124, (0, (0, 0)))), (17, (0, (3, (2, 0)))), (10, (0, (3, (0, 0)))), (4, (0, (0, (109, 0)))), (10, (0, (3, (1, 0)))), (4, (0, (0, (101, 0)))), (0, (1100, (0, (0, 0))))], ([], ([([(4, 1)], 27), ([(4, (-1))], (-27))], (false, ([], ([(26, (2, 5)), (23, (6, 7)), (23, (8, 9))], ([], none)))))))
theorem rk_hw_me : RuOk SR ru_hw_me := by
  intro τ m g hi hc ha hS
  obtain ⟨i0, i1, i2, i3, i4, i5, i6, i7, i8, i9, i10, _⟩ := hi
  have t1199 : τ 1199 = some (g 0) := i0
  have t1102 : τ 1102 = some (g 1) := i1
  have t1122 : τ 1122 = some (g 2) := i2
  have t1123 : τ 1123 = some (g 3) := i3
  have t1124 : τ 1124 = some (g 4) := i4
  have xe : g 5 = g 3 + 2 := i5
  have xx0 : g 6 = g 3 + 0 := i6
  have xb0 : g 7 = 109 := i7
  have xx1 : g 8 = g 3 + 1 := i8
  have xb1 : g 9 = 101 := i9
  have t1100 : τ 1100 = some (g 10) := i10
  obtain ⟨c0, c1, _⟩ := hc
  have c0 : 1 * g 4 ≤ 27 := d1 c0
  have c1 : (-1) * g 4 ≤ (-27) := d1 c1
  obtain ⟨h0, k_tok, k_sc1, k_sc2, k_T, k_I, k_F, k_N, k_Y, k_Z, k_A, k_B, k_C, k_X, k_R, k_f4⟩ := hS (by rw [t1199]; exact fun e => by cases e)
  have k_tok0 := k_tok
  obtain ⟨h_L, h_n, h_nF⟩ := k_tok0
  have k_I0 := k_I
  obtain ⟨h_p, h_pc, h_ip, h_iP, h_PC, h_PN⟩ := k_I0
  obtain ⟨hn0, _, hNT⟩ := h_nF _ t1102
  have hXL : ((tx9 m).2 : Int) = m 110 1 := by
    show (((m 110 1).toNat : Nat) : Int) = _
    omega
  obtain ⟨⟨hi0, hi1⟩, hpi⟩ := h_ip _ _ _ t1102 t1122 t1123
  have hTK := (h_nF _ t1102).2.1.1 (g 2).toNat (by omega)
  have hSL := St_L (X := tx9 m) (i := (g 2).toNat)
  have hcc := h_pc _ _ t1123 t1124
  rw [show (g 3).toNat = Tp9 (tx9 m) (g 2).toNat by omega] at hcc
  have hko := kd_of (X := tx9 m) (p := Tp9 (tx9 m) (g 2).toNat)
  have hL9 := h_L _ t1100
  obtain ⟨hk1, hte, hbs⟩ := wd_of (X := tx9 m) (p := (Tp9 (tx9 m) (g 2).toNat)) (c := 27) (v := 28005) (l := [109, 101]) (by omega) (by decide) (by decide) (by decide) (by decide) (by decide)
  have hte : te9 (tx9 m) (Tp9 (tx9 m) (g 2).toNat) = (Tp9 (tx9 m) (g 2).toNat) + 2 := hte
  have hta := (te_al hk1).1
  have hTe := hTK.2.1 hk1
  have hb0 : by9 (tx9 m) ((Tp9 (tx9 m) (g 2).toNat) + 0) = 109 := by
    have := congrArg (fun l => l[0]?) hbs
    exact Option.some.inj this
  have hm0 := by_m (m := m) (p := (Tp9 (tx9 m) (g 2).toNat) + 0) (by omega)
  have hl0 := hL9.2 ((Tp9 (tx9 m) (g 2).toNat) + 0) (by omega)
  have hb1 : by9 (tx9 m) ((Tp9 (tx9 m) (g 2).toNat) + 1) = 101 := by
    have := congrArg (fun l => l[1]?) hbs
    exact Option.some.inj this
  have hm1 := by_m (m := m) (p := (Tp9 (tx9 m) (g 2).toNat) + 1) (by omega)
  have hl1 := hL9.2 ((Tp9 (tx9 m) (g 2).toNat) + 1) (by omega)
  exact ⟨rfl, trivial, ⟨⟨(g 2).toNat, (show g 2 = (((g 2).toNat : Nat) : Int) by omega), (show g 5 = m 26 (g 2).toNat by omega)⟩, ⟨(Tp9 (tx9 m) (g 2).toNat) + 0, (show g 6 = (((Tp9 (tx9 m) (g 2).toNat) + 0 : Nat) : Int) by omega), (show g 7 = m 23 ((Tp9 (tx9 m) (g 2).toNat) + 0) by omega)⟩, ⟨(Tp9 (tx9 m) (g 2).toNat) + 1, (show g 8 = (((Tp9 (tx9 m) (g 2).toNat) + 1 : Nat) : Int) by omega), (show g 9 = m 23 ((Tp9 (tx9 m) (g 2).toNat) + 1) by omega)⟩, trivial⟩, fun _ => ⟨h0, k_tok, k_sc1, k_sc2, k_T, k_I, k_F, k_N, k_Y, k_Z, k_A, k_B, k_C, k_X, k_R, k_f4⟩⟩
noncomputable def ru_hL_me : Ru := ([(0, (1199, (0, (0, 0)))), (0, (1102, (0, (0, 0)))), (0, (1122, (0, (0, 0)))), (0, (1123, (0, (0, 0)))), (0, (1124, (0, (0, 0)))), (9, (24, (2, (1, 0)))), (9, (26, (2, (1, 0)))), (0, (1100, (0, (0, 0)))), (9, (23, (3, (1, 0)))), (9, (23, (3, (1, 1))))], ([], ([([(5, 1)], 1), ([(5, (-1))], (-1)), ([(3, (-1)), (6, 1)], 2), ([(3, 1), (6, (-1))], (-2)), ([(8, 1)], 109), ([(8, (-1))], (-109)), ([(9, 1)], 101), ([(9, (-1))], (-101)), ([(4, 1)], 26)], (true, ([], ([], ([], none)))))))
theorem rk_hL_me : RuOk SR ru_hL_me := by
  intro τ m g hi hc ha hS
  obtain ⟨i0, i1, i2, i3, i4, i5, i6, i7, i8, i9, _⟩ := hi
  have t1199 : τ 1199 = some (g 0) := i0
  have t1102 : τ 1102 = some (g 1) := i1
  have t1122 : τ 1122 = some (g 2) := i2
  have t1123 : τ 1123 = some (g 3) := i3
  have t1124 : τ 1124 = some (g 4) := i4
  obtain ⟨jk, uk, vk⟩ : ∃ j : Nat, 1 * g 2 + 0 = (j : Int) ∧ g 5 = m 24 j := i5
  obtain ⟨jv, uv, vv⟩ : ∃ j : Nat, 1 * g 2 + 0 = (j : Int) ∧ g 6 = m 26 j := i6
  have t1100 : τ 1100 = some (g 7) := i7
  obtain ⟨jb0, ub0, vb0⟩ : ∃ j : Nat, 1 * g 3 + 0 = (j : Int) ∧ g 8 = m 23 j := i8
  obtain ⟨jb1, ub1, vb1⟩ : ∃ j : Nat, 1 * g 3 + 1 = (j : Int) ∧ g 9 = m 23 j := i9
  obtain ⟨c0, c1, c2, c3, c4, c5, c6, c7, c8, _⟩ := hc
  have c0 : 1 * g 5 ≤ 1 := d1 c0
  have c1 : (-1) * g 5 ≤ (-1) := d1 c1
  have c2 : (-1) * g 3 + 1 * g 6 ≤ 2 := d2 c2
  have c3 : 1 * g 3 + (-1) * g 6 ≤ (-2) := d2 c3
  have c4 : 1 * g 8 ≤ 109 := d1 c4
  have c5 : (-1) * g 8 ≤ (-109) := d1 c5
  have c6 : 1 * g 9 ≤ 101 := d1 c6
  have c7 : (-1) * g 9 ≤ (-101) := d1 c7
  have c8 : 1 * g 4 ≤ 26 := d1 c8
  obtain ⟨h0, k_tok, k_sc1, k_sc2, k_T, k_I, k_F, k_N, k_Y, k_Z, k_A, k_B, k_C, k_X, k_R, k_f4⟩ := hS (by rw [t1199]; exact fun e => by cases e)
  have k_tok0 := k_tok
  obtain ⟨h_L, h_n, h_nF⟩ := k_tok0
  have k_I0 := k_I
  obtain ⟨h_p, h_pc, h_ip, h_iP, h_PC, h_PN⟩ := k_I0
  obtain ⟨hn0, _, hNT⟩ := h_nF _ t1102
  have hXL : ((tx9 m).2 : Int) = m 110 1 := by
    show (((m 110 1).toNat : Nat) : Int) = _
    omega
  obtain ⟨⟨hi0, hi1⟩, hpi⟩ := h_ip _ _ _ t1102 t1122 t1123
  have hTK := (h_nF _ t1102).2.1.1 (g 2).toNat (by omega)
  have hSL := St_L (X := tx9 m) (i := (g 2).toNat)
  have hcc := h_pc _ _ t1123 t1124
  rw [show (g 3).toNat = Tp9 (tx9 m) (g 2).toNat by omega] at hcc
  have hko := kd_of (X := tx9 m) (p := Tp9 (tx9 m) (g 2).toNat)
  rw [show jk = (g 2).toNat by omega] at vk
  rw [show jv = (g 2).toNat by omega] at vv
  have hL9 := h_L _ t1100
  have hTk := hTK.1.2
  have hk1 : kd9 (tx9 m) (Tp9 (tx9 m) (g 2).toNat) = 1 := by omega
  have hTe := hTK.2.1 hk1
  have hta := (te_al hk1).1
  have hb0 : by9 (tx9 m) ((Tp9 (tx9 m) (g 2).toNat) + 0) = 109 := by
    rw [by_m (by omega), ← hL9.2 ((Tp9 (tx9 m) (g 2).toNat) + 0) (by omega), show (Tp9 (tx9 m) (g 2).toNat) + 0 = jb0 by omega]
    omega
  have hb1 : by9 (tx9 m) ((Tp9 (tx9 m) (g 2).toNat) + 1) = 101 := by
    rw [by_m (by omega), ← hL9.2 ((Tp9 (tx9 m) (g 2).toNat) + 1) (by omega), show (Tp9 (tx9 m) (g 2).toNat) + 1 = jb1 by omega]
    omega
  have hrc := wd_to (X := tx9 m) (p := (Tp9 (tx9 m) (g 2).toNat)) (c := 27) (l := [109, 101]) hk1 (by show _ = _ + 2; omega) (by
    show [by9 (tx9 m) ((Tp9 (tx9 m) (g 2).toNat) + 0), by9 (tx9 m) ((Tp9 (tx9 m) (g 2).toNat) + 1)] = _
    rw [hb0, hb1]) (by decide) (by decide)
  exfalso
  omega
noncomputable def ru_hG_me : Ru := ([(0, (1199, (0, (0, 0)))), (0, (1102, (0, (0, 0)))), (0, (1122, (0, (0, 0)))), (0, (1123, (0, (0, 0)))), (0, (1124, (0, (0, 0)))), (9, (24, (2, (1, 0)))), (9, (26, (2, (1, 0)))), (0, (1100, (0, (0, 0)))), (9, (23, (3, (1, 0)))), (9, (23, (3, (1, 1))))], ([], ([([(5, 1)], 1), ([(5, (-1))], (-1)), ([(3, (-1)), (6, 1)], 2), ([(3, 1), (6, (-1))], (-2)), ([(8, 1)], 109), ([(8, (-1))], (-109)), ([(9, 1)], 101), ([(9, (-1))], (-101)), ([(4, (-1))], (-28))], (true, ([], ([], ([], none)))))))
theorem rk_hG_me : RuOk SR ru_hG_me := by
  intro τ m g hi hc ha hS
  obtain ⟨i0, i1, i2, i3, i4, i5, i6, i7, i8, i9, _⟩ := hi
  have t1199 : τ 1199 = some (g 0) := i0
  have t1102 : τ 1102 = some (g 1) := i1
  have t1122 : τ 1122 = some (g 2) := i2
  have t1123 : τ 1123 = some (g 3) := i3
  have t1124 : τ 1124 = some (g 4) := i4
  obtain ⟨jk, uk, vk⟩ : ∃ j : Nat, 1 * g 2 + 0 = (j : Int) ∧ g 5 = m 24 j := i5
  obtain ⟨jv, uv, vv⟩ : ∃ j : Nat, 1 * g 2 + 0 = (j : Int) ∧ g 6 = m 26 j := i6
  have t1100 : τ 1100 = some (g 7) := i7
  obtain ⟨jb0, ub0, vb0⟩ : ∃ j : Nat, 1 * g 3 + 0 = (j : Int) ∧ g 8 = m 23 j := i8
  obtain ⟨jb1, ub1, vb1⟩ : ∃ j : Nat, 1 * g 3 + 1 = (j : Int) ∧ g 9 = m 23 j := i9
  obtain ⟨c0, c1, c2, c3, c4, c5, c6, c7, c8, _⟩ := hc
  have c0 : 1 * g 5 ≤ 1 := d1 c0
  have c1 : (-1) * g 5 ≤ (-1) := d1 c1
  have c2 : (-1) * g 3 + 1 * g 6 ≤ 2 := d2 c2
  have c3 : 1 * g 3 + (-1) * g 6 ≤ (-2) := d2 c3
  have c4 : 1 * g 8 ≤ 109 := d1 c4
  have c5 : (-1) * g 8 ≤ (-109) := d1 c5
  have c6 : 1 * g 9 ≤ 101 := d1 c6
  have c7 : (-1) * g 9 ≤ (-101) := d1 c7
  have c8 : (-1) * g 4 ≤ (-28) := d1 c8
  obtain ⟨h0, k_tok, k_sc1, k_sc2, k_T, k_I, k_F, k_N, k_Y, k_Z, k_A, k_B, k_C, k_X, k_R, k_f4⟩ := hS (by rw [t1199]; exact fun e => by cases e)
  have k_tok0 := k_tok
  obtain ⟨h_L, h_n, h_nF⟩ := k_tok0
  have k_I0 := k_I
  obtain ⟨h_p, h_pc, h_ip, h_iP, h_PC, h_PN⟩ := k_I0
  obtain ⟨hn0, _, hNT⟩ := h_nF _ t1102
  have hXL : ((tx9 m).2 : Int) = m 110 1 := by
    show (((m 110 1).toNat : Nat) : Int) = _
    omega
  obtain ⟨⟨hi0, hi1⟩, hpi⟩ := h_ip _ _ _ t1102 t1122 t1123
  have hTK := (h_nF _ t1102).2.1.1 (g 2).toNat (by omega)
  have hSL := St_L (X := tx9 m) (i := (g 2).toNat)
  have hcc := h_pc _ _ t1123 t1124
  rw [show (g 3).toNat = Tp9 (tx9 m) (g 2).toNat by omega] at hcc
  have hko := kd_of (X := tx9 m) (p := Tp9 (tx9 m) (g 2).toNat)
  rw [show jk = (g 2).toNat by omega] at vk
  rw [show jv = (g 2).toNat by omega] at vv
  have hL9 := h_L _ t1100
  have hTk := hTK.1.2
  have hk1 : kd9 (tx9 m) (Tp9 (tx9 m) (g 2).toNat) = 1 := by omega
  have hTe := hTK.2.1 hk1
  have hta := (te_al hk1).1
  have hb0 : by9 (tx9 m) ((Tp9 (tx9 m) (g 2).toNat) + 0) = 109 := by
    rw [by_m (by omega), ← hL9.2 ((Tp9 (tx9 m) (g 2).toNat) + 0) (by omega), show (Tp9 (tx9 m) (g 2).toNat) + 0 = jb0 by omega]
    omega
  have hb1 : by9 (tx9 m) ((Tp9 (tx9 m) (g 2).toNat) + 1) = 101 := by
    rw [by_m (by omega), ← hL9.2 ((Tp9 (tx9 m) (g 2).toNat) + 1) (by omega), show (Tp9 (tx9 m) (g 2).toNat) + 1 = jb1 by omega]
    omega
  have hrc := wd_to (X := tx9 m) (p := (Tp9 (tx9 m) (g 2).toNat)) (c := 27) (l := [109, 101]) hk1 (by show _ = _ + 2; omega) (by
    show [by9 (tx9 m) ((Tp9 (tx9 m) (g 2).toNat) + 0), by9 (tx9 m) ((Tp9 (tx9 m) (g 2).toNat) + 1)] = _
    rw [hb0, hb1]) (by decide) (by decide)
  exfalso
  omega
noncomputable def ru_hw_it : Ru := ([(0, (1199, (0, (0, 0)))), (0, (1102, (0, (0, 0)))), (0, (1122, (0, (0, 0)))), (0, (1123, (0, (0, 0)))), (0, (1124, (0, (0, 0)))), (17, (0, (3, (2, 0)))), (10, (0, (3, (0, 0)))), (4, (0, (0, (105, 0)))), (10, (0, (3, (1, 0)))), (4, (0, (0, (116, 0)))), (0, (1100, (0, (0, 0))))], ([], ([([(4, 1)], 28), ([(4, (-1))], (-28))], (false, ([], ([(26, (2, 5)), (23, (6, 7)), (23, (8, 9))], ([], none)))))))
theorem rk_hw_it : RuOk SR ru_hw_it := by
  intro τ m g hi hc ha hS
  obtain ⟨i0, i1, i2, i3, i4, i5, i6, i7, i8, i9, i10, _⟩ := hi
  have t1199 : τ 1199 = some (g 0) := i0
  have t1102 : τ 1102 = some (g 1) := i1
  have t1122 : τ 1122 = some (g 2) := i2
  have t1123 : τ 1123 = some (g 3) := i3
  have t1124 : τ 1124 = some (g 4) := i4
  have xe : g 5 = g 3 + 2 := i5
  have xx0 : g 6 = g 3 + 0 := i6
  have xb0 : g 7 = 105 := i7
  have xx1 : g 8 = g 3 + 1 := i8
  have xb1 : g 9 = 116 := i9
  have t1100 : τ 1100 = some (g 10) := i10
  obtain ⟨c0, c1, _⟩ := hc
  have c0 : 1 * g 4 ≤ 28 := d1 c0
  have c1 : (-1) * g 4 ≤ (-28) := d1 c1
  obtain ⟨h0, k_tok, k_sc1, k_sc2, k_T, k_I, k_F, k_N, k_Y, k_Z, k_A, k_B, k_C, k_X, k_R, k_f4⟩ := hS (by rw [t1199]; exact fun e => by cases e)
  have k_tok0 := k_tok
  obtain ⟨h_L, h_n, h_nF⟩ := k_tok0
  have k_I0 := k_I
  obtain ⟨h_p, h_pc, h_ip, h_iP, h_PC, h_PN⟩ := k_I0
  obtain ⟨hn0, _, hNT⟩ := h_nF _ t1102
  have hXL : ((tx9 m).2 : Int) = m 110 1 := by
    show (((m 110 1).toNat : Nat) : Int) = _
    omega
  obtain ⟨⟨hi0, hi1⟩, hpi⟩ := h_ip _ _ _ t1102 t1122 t1123
  have hTK := (h_nF _ t1102).2.1.1 (g 2).toNat (by omega)
  have hSL := St_L (X := tx9 m) (i := (g 2).toNat)
  have hcc := h_pc _ _ t1123 t1124
  rw [show (g 3).toNat = Tp9 (tx9 m) (g 2).toNat by omega] at hcc
  have hko := kd_of (X := tx9 m) (p := Tp9 (tx9 m) (g 2).toNat)
  have hL9 := h_L _ t1100
  obtain ⟨hk1, hte, hbs⟩ := wd_of (X := tx9 m) (p := (Tp9 (tx9 m) (g 2).toNat)) (c := 28) (v := 26996) (l := [105, 116]) (by omega) (by decide) (by decide) (by decide) (by decide) (by decide)
  have hte : te9 (tx9 m) (Tp9 (tx9 m) (g 2).toNat) = (Tp9 (tx9 m) (g 2).toNat) + 2 := hte
  have hta := (te_al hk1).1
  have hTe := hTK.2.1 hk1
  have hb0 : by9 (tx9 m) ((Tp9 (tx9 m) (g 2).toNat) + 0) = 105 := by
    have := congrArg (fun l => l[0]?) hbs
    exact Option.some.inj this
  have hm0 := by_m (m := m) (p := (Tp9 (tx9 m) (g 2).toNat) + 0) (by omega)
  have hl0 := hL9.2 ((Tp9 (tx9 m) (g 2).toNat) + 0) (by omega)
  have hb1 : by9 (tx9 m) ((Tp9 (tx9 m) (g 2).toNat) + 1) = 116 := by
    have := congrArg (fun l => l[1]?) hbs
    exact Option.some.inj this
  have hm1 := by_m (m := m) (p := (Tp9 (tx9 m) (g 2).toNat) + 1) (by omega)
  have hl1 := hL9.2 ((Tp9 (tx9 m) (g 2).toNat) + 1) (by omega)
  exact ⟨rfl, trivial, ⟨⟨(g 2).toNat, (show g 2 = (((g 2).toNat : Nat) : Int) by omega), (show g 5 = m 26 (g 2).toNat by omega)⟩, ⟨(Tp9 (tx9 m) (g 2).toNat) + 0, (show g 6 = (((Tp9 (tx9 m) (g 2).toNat) + 0 : Nat) : Int) by omega), (show g 7 = m 23 ((Tp9 (tx9 m) (g 2).toNat) + 0) by omega)⟩, ⟨(Tp9 (tx9 m) (g 2).toNat) + 1, (show g 8 = (((Tp9 (tx9 m) (g 2).toNat) + 1 : Nat) : Int) by omega), (show g 9 = m 23 ((Tp9 (tx9 m) (g 2).toNat) + 1) by omega)⟩, trivial⟩, fun _ => ⟨h0, k_tok, k_sc1, k_sc2, k_T, k_I, k_F, k_N, k_Y, k_Z, k_A, k_B, k_C, k_X, k_R, k_f4⟩⟩
noncomputable def ru_hL_it : Ru := ([(0, (1199, (0, (0, 0)))), (0, (1102, (0, (0, 0)))), (0, (1122, (0, (0, 0)))), (0, (1123, (0, (0, 0)))), (0, (1124, (0, (0, 0)))), (9, (24, (2, (1, 0)))), (9, (26, (2, (1, 0)))), (0, (1100, (0, (0, 0)))), (9, (23, (3, (1, 0)))), (9, (23, (3, (1, 1))))], ([], ([([(5, 1)], 1), ([(5, (-1))], (-1)), ([(3, (-1)), (6, 1)], 2), ([(3, 1), (6, (-1))], (-2)), ([(8, 1)], 105), ([(8, (-1))], (-105)), ([(9, 1)], 116), ([(9, (-1))], (-116)), ([(4, 1)], 27)], (true, ([], ([], ([], none)))))))
theorem rk_hL_it : RuOk SR ru_hL_it := by
  intro τ m g hi hc ha hS
  obtain ⟨i0, i1, i2, i3, i4, i5, i6, i7, i8, i9, _⟩ := hi
  have t1199 : τ 1199 = some (g 0) := i0
  have t1102 : τ 1102 = some (g 1) := i1
  have t1122 : τ 1122 = some (g 2) := i2
  have t1123 : τ 1123 = some (g 3) := i3
  have t1124 : τ 1124 = some (g 4) := i4
  obtain ⟨jk, uk, vk⟩ : ∃ j : Nat, 1 * g 2 + 0 = (j : Int) ∧ g 5 = m 24 j := i5
  obtain ⟨jv, uv, vv⟩ : ∃ j : Nat, 1 * g 2 + 0 = (j : Int) ∧ g 6 = m 26 j := i6
  have t1100 : τ 1100 = some (g 7) := i7
  obtain ⟨jb0, ub0, vb0⟩ : ∃ j : Nat, 1 * g 3 + 0 = (j : Int) ∧ g 8 = m 23 j := i8
  obtain ⟨jb1, ub1, vb1⟩ : ∃ j : Nat, 1 * g 3 + 1 = (j : Int) ∧ g 9 = m 23 j := i9
  obtain ⟨c0, c1, c2, c3, c4, c5, c6, c7, c8, _⟩ := hc
  have c0 : 1 * g 5 ≤ 1 := d1 c0
  have c1 : (-1) * g 5 ≤ (-1) := d1 c1
  have c2 : (-1) * g 3 + 1 * g 6 ≤ 2 := d2 c2
  have c3 : 1 * g 3 + (-1) * g 6 ≤ (-2) := d2 c3
  have c4 : 1 * g 8 ≤ 105 := d1 c4
  have c5 : (-1) * g 8 ≤ (-105) := d1 c5
  have c6 : 1 * g 9 ≤ 116 := d1 c6
  have c7 : (-1) * g 9 ≤ (-116) := d1 c7
  have c8 : 1 * g 4 ≤ 27 := d1 c8
  obtain ⟨h0, k_tok, k_sc1, k_sc2, k_T, k_I, k_F, k_N, k_Y, k_Z, k_A, k_B, k_C, k_X, k_R, k_f4⟩ := hS (by rw [t1199]; exact fun e => by cases e)
  have k_tok0 := k_tok
  obtain ⟨h_L, h_n, h_nF⟩ := k_tok0
  have k_I0 := k_I
  obtain ⟨h_p, h_pc, h_ip, h_iP, h_PC, h_PN⟩ := k_I0
  obtain ⟨hn0, _, hNT⟩ := h_nF _ t1102
  have hXL : ((tx9 m).2 : Int) = m 110 1 := by
    show (((m 110 1).toNat : Nat) : Int) = _
    omega
  obtain ⟨⟨hi0, hi1⟩, hpi⟩ := h_ip _ _ _ t1102 t1122 t1123
  have hTK := (h_nF _ t1102).2.1.1 (g 2).toNat (by omega)
  have hSL := St_L (X := tx9 m) (i := (g 2).toNat)
  have hcc := h_pc _ _ t1123 t1124
  rw [show (g 3).toNat = Tp9 (tx9 m) (g 2).toNat by omega] at hcc
  have hko := kd_of (X := tx9 m) (p := Tp9 (tx9 m) (g 2).toNat)
  rw [show jk = (g 2).toNat by omega] at vk
  rw [show jv = (g 2).toNat by omega] at vv
  have hL9 := h_L _ t1100
  have hTk := hTK.1.2
  have hk1 : kd9 (tx9 m) (Tp9 (tx9 m) (g 2).toNat) = 1 := by omega
  have hTe := hTK.2.1 hk1
  have hta := (te_al hk1).1
  have hb0 : by9 (tx9 m) ((Tp9 (tx9 m) (g 2).toNat) + 0) = 105 := by
    rw [by_m (by omega), ← hL9.2 ((Tp9 (tx9 m) (g 2).toNat) + 0) (by omega), show (Tp9 (tx9 m) (g 2).toNat) + 0 = jb0 by omega]
    omega
  have hb1 : by9 (tx9 m) ((Tp9 (tx9 m) (g 2).toNat) + 1) = 116 := by
    rw [by_m (by omega), ← hL9.2 ((Tp9 (tx9 m) (g 2).toNat) + 1) (by omega), show (Tp9 (tx9 m) (g 2).toNat) + 1 = jb1 by omega]
    omega
  have hrc := wd_to (X := tx9 m) (p := (Tp9 (tx9 m) (g 2).toNat)) (c := 28) (l := [105, 116]) hk1 (by show _ = _ + 2; omega) (by
    show [by9 (tx9 m) ((Tp9 (tx9 m) (g 2).toNat) + 0), by9 (tx9 m) ((Tp9 (tx9 m) (g 2).toNat) + 1)] = _
    rw [hb0, hb1]) (by decide) (by decide)
  exfalso
  omega
noncomputable def ru_hG_it : Ru := ([(0, (1199, (0, (0, 0)))), (0, (1102, (0, (0, 0)))), (0, (1122, (0, (0, 0)))), (0, (1123, (0, (0, 0)))), (0, (1124, (0, (0, 0)))), (9, (24, (2, (1, 0)))), (9, (26, (2, (1, 0)))), (0, (1100, (0, (0, 0)))), (9, (23, (3, (1, 0)))), (9, (23, (3, (1, 1))))], ([], ([([(5, 1)], 1), ([(5, (-1))], (-1)), ([(3, (-1)), (6, 1)], 2), ([(3, 1), (6, (-1))], (-2)), ([(8, 1)], 105), ([(8, (-1))], (-105)), ([(9, 1)], 116), ([(9, (-1))], (-116)), ([(4, (-1))], (-29))], (true, ([], ([], ([], none)))))))
theorem rk_hG_it : RuOk SR ru_hG_it := by
  intro τ m g hi hc ha hS
  obtain ⟨i0, i1, i2, i3, i4, i5, i6, i7, i8, i9, _⟩ := hi
  have t1199 : τ 1199 = some (g 0) := i0
  have t1102 : τ 1102 = some (g 1) := i1
  have t1122 : τ 1122 = some (g 2) := i2
  have t1123 : τ 1123 = some (g 3) := i3
  have t1124 : τ 1124 = some (g 4) := i4
  obtain ⟨jk, uk, vk⟩ : ∃ j : Nat, 1 * g 2 + 0 = (j : Int) ∧ g 5 = m 24 j := i5
  obtain ⟨jv, uv, vv⟩ : ∃ j : Nat, 1 * g 2 + 0 = (j : Int) ∧ g 6 = m 26 j := i6
  have t1100 : τ 1100 = some (g 7) := i7
  obtain ⟨jb0, ub0, vb0⟩ : ∃ j : Nat, 1 * g 3 + 0 = (j : Int) ∧ g 8 = m 23 j := i8
  obtain ⟨jb1, ub1, vb1⟩ : ∃ j : Nat, 1 * g 3 + 1 = (j : Int) ∧ g 9 = m 23 j := i9
  obtain ⟨c0, c1, c2, c3, c4, c5, c6, c7, c8, _⟩ := hc
  have c0 : 1 * g 5 ≤ 1 := d1 c0
  have c1 : (-1) * g 5 ≤ (-1) := d1 c1
  have c2 : (-1) * g 3 + 1 * g 6 ≤ 2 := d2 c2
  have c3 : 1 * g 3 + (-1) * g 6 ≤ (-2) := d2 c3
  have c4 : 1 * g 8 ≤ 105 := d1 c4
  have c5 : (-1) * g 8 ≤ (-105) := d1 c5
  have c6 : 1 * g 9 ≤ 116 := d1 c6
  have c7 : (-1) * g 9 ≤ (-116) := d1 c7
  have c8 : (-1) * g 4 ≤ (-29) := d1 c8
  obtain ⟨h0, k_tok, k_sc1, k_sc2, k_T, k_I, k_F, k_N, k_Y, k_Z, k_A, k_B, k_C, k_X, k_R, k_f4⟩ := hS (by rw [t1199]; exact fun e => by cases e)
  have k_tok0 := k_tok
  obtain ⟨h_L, h_n, h_nF⟩ := k_tok0
  have k_I0 := k_I
  obtain ⟨h_p, h_pc, h_ip, h_iP, h_PC, h_PN⟩ := k_I0
  obtain ⟨hn0, _, hNT⟩ := h_nF _ t1102
  have hXL : ((tx9 m).2 : Int) = m 110 1 := by
    show (((m 110 1).toNat : Nat) : Int) = _
    omega
  obtain ⟨⟨hi0, hi1⟩, hpi⟩ := h_ip _ _ _ t1102 t1122 t1123
  have hTK := (h_nF _ t1102).2.1.1 (g 2).toNat (by omega)
  have hSL := St_L (X := tx9 m) (i := (g 2).toNat)
  have hcc := h_pc _ _ t1123 t1124
  rw [show (g 3).toNat = Tp9 (tx9 m) (g 2).toNat by omega] at hcc
  have hko := kd_of (X := tx9 m) (p := Tp9 (tx9 m) (g 2).toNat)
  rw [show jk = (g 2).toNat by omega] at vk
  rw [show jv = (g 2).toNat by omega] at vv
  have hL9 := h_L _ t1100
  have hTk := hTK.1.2
  have hk1 : kd9 (tx9 m) (Tp9 (tx9 m) (g 2).toNat) = 1 := by omega
  have hTe := hTK.2.1 hk1
  have hta := (te_al hk1).1
  have hb0 : by9 (tx9 m) ((Tp9 (tx9 m) (g 2).toNat) + 0) = 105 := by
    rw [by_m (by omega), ← hL9.2 ((Tp9 (tx9 m) (g 2).toNat) + 0) (by omega), show (Tp9 (tx9 m) (g 2).toNat) + 0 = jb0 by omega]
    omega
  have hb1 : by9 (tx9 m) ((Tp9 (tx9 m) (g 2).toNat) + 1) = 116 := by
    rw [by_m (by omega), ← hL9.2 ((Tp9 (tx9 m) (g 2).toNat) + 1) (by omega), show (Tp9 (tx9 m) (g 2).toNat) + 1 = jb1 by omega]
    omega
  have hrc := wd_to (X := tx9 m) (p := (Tp9 (tx9 m) (g 2).toNat)) (c := 28) (l := [105, 116]) hk1 (by show _ = _ + 2; omega) (by
    show [by9 (tx9 m) ((Tp9 (tx9 m) (g 2).toNat) + 0), by9 (tx9 m) ((Tp9 (tx9 m) (g 2).toNat) + 1)] = _
    rw [hb0, hb1]) (by decide) (by decide)
  exfalso
  omega
noncomputable def ru_hw_now : Ru := ([(0, (1199, (0, (0, 0)))), (0, (1102, (0, (0, 0)))), (0, (1122, (0, (0, 0)))), (0, (1123, (0, (0, 0)))), (0, (1124, (0, (0, 0)))), (17, (0, (3, (3, 0)))), (10, (0, (3, (0, 0)))), (4, (0, (0, (110, 0)))), (10, (0, (3, (1, 0)))), (4, (0, (0, (111, 0)))), (10, (0, (3, (2, 0)))), (4, (0, (0, (119, 0)))), (0, (1100, (0, (0, 0))))], ([], ([([(4, 1)], 24), ([(4, (-1))], (-24))], (false, ([], ([(26, (2, 5)), (23, (6, 7)), (23, (8, 9)), (23, (10, 11))], ([], none)))))))
theorem rk_hw_now : RuOk SR ru_hw_now := by
  intro τ m g hi hc ha hS
  obtain ⟨i0, i1, i2, i3, i4, i5, i6, i7, i8, i9, i10, i11, i12, _⟩ := hi
  have t1199 : τ 1199 = some (g 0) := i0
  have t1102 : τ 1102 = some (g 1) := i1
  have t1122 : τ 1122 = some (g 2) := i2
  have t1123 : τ 1123 = some (g 3) := i3
  have t1124 : τ 1124 = some (g 4) := i4
  have xe : g 5 = g 3 + 3 := i5
  have xx0 : g 6 = g 3 + 0 := i6
  have xb0 : g 7 = 110 := i7
  have xx1 : g 8 = g 3 + 1 := i8
  have xb1 : g 9 = 111 := i9
  have xx2 : g 10 = g 3 + 2 := i10
  have xb2 : g 11 = 119 := i11
  have t1100 : τ 1100 = some (g 12) := i12
  obtain ⟨c0, c1, _⟩ := hc
  have c0 : 1 * g 4 ≤ 24 := d1 c0
  have c1 : (-1) * g 4 ≤ (-24) := d1 c1
  obtain ⟨h0, k_tok, k_sc1, k_sc2, k_T, k_I, k_F, k_N, k_Y, k_Z, k_A, k_B, k_C, k_X, k_R, k_f4⟩ := hS (by rw [t1199]; exact fun e => by cases e)
  have k_tok0 := k_tok
  obtain ⟨h_L, h_n, h_nF⟩ := k_tok0
  have k_I0 := k_I
  obtain ⟨h_p, h_pc, h_ip, h_iP, h_PC, h_PN⟩ := k_I0
  obtain ⟨hn0, _, hNT⟩ := h_nF _ t1102
  have hXL : ((tx9 m).2 : Int) = m 110 1 := by
    show (((m 110 1).toNat : Nat) : Int) = _
    omega
  obtain ⟨⟨hi0, hi1⟩, hpi⟩ := h_ip _ _ _ t1102 t1122 t1123
  have hTK := (h_nF _ t1102).2.1.1 (g 2).toNat (by omega)
  have hSL := St_L (X := tx9 m) (i := (g 2).toNat)
  have hcc := h_pc _ _ t1123 t1124
  rw [show (g 3).toNat = Tp9 (tx9 m) (g 2).toNat by omega] at hcc
  have hko := kd_of (X := tx9 m) (p := Tp9 (tx9 m) (g 2).toNat)
  have hL9 := h_L _ t1100
  obtain ⟨hk1, hte, hbs⟩ := wd_of (X := tx9 m) (p := (Tp9 (tx9 m) (g 2).toNat)) (c := 24) (v := 7237495) (l := [110, 111, 119]) (by omega) (by decide) (by decide) (by decide) (by decide) (by decide)
  have hte : te9 (tx9 m) (Tp9 (tx9 m) (g 2).toNat) = (Tp9 (tx9 m) (g 2).toNat) + 3 := hte
  have hta := (te_al hk1).1
  have hTe := hTK.2.1 hk1
  have hb0 : by9 (tx9 m) ((Tp9 (tx9 m) (g 2).toNat) + 0) = 110 := by
    have := congrArg (fun l => l[0]?) hbs
    exact Option.some.inj this
  have hm0 := by_m (m := m) (p := (Tp9 (tx9 m) (g 2).toNat) + 0) (by omega)
  have hl0 := hL9.2 ((Tp9 (tx9 m) (g 2).toNat) + 0) (by omega)
  have hb1 : by9 (tx9 m) ((Tp9 (tx9 m) (g 2).toNat) + 1) = 111 := by
    have := congrArg (fun l => l[1]?) hbs
    exact Option.some.inj this
  have hm1 := by_m (m := m) (p := (Tp9 (tx9 m) (g 2).toNat) + 1) (by omega)
  have hl1 := hL9.2 ((Tp9 (tx9 m) (g 2).toNat) + 1) (by omega)
  have hb2 : by9 (tx9 m) ((Tp9 (tx9 m) (g 2).toNat) + 2) = 119 := by
    have := congrArg (fun l => l[2]?) hbs
    exact Option.some.inj this
  have hm2 := by_m (m := m) (p := (Tp9 (tx9 m) (g 2).toNat) + 2) (by omega)
  have hl2 := hL9.2 ((Tp9 (tx9 m) (g 2).toNat) + 2) (by omega)
  exact ⟨rfl, trivial, ⟨⟨(g 2).toNat, (show g 2 = (((g 2).toNat : Nat) : Int) by omega), (show g 5 = m 26 (g 2).toNat by omega)⟩, ⟨(Tp9 (tx9 m) (g 2).toNat) + 0, (show g 6 = (((Tp9 (tx9 m) (g 2).toNat) + 0 : Nat) : Int) by omega), (show g 7 = m 23 ((Tp9 (tx9 m) (g 2).toNat) + 0) by omega)⟩, ⟨(Tp9 (tx9 m) (g 2).toNat) + 1, (show g 8 = (((Tp9 (tx9 m) (g 2).toNat) + 1 : Nat) : Int) by omega), (show g 9 = m 23 ((Tp9 (tx9 m) (g 2).toNat) + 1) by omega)⟩, ⟨(Tp9 (tx9 m) (g 2).toNat) + 2, (show g 10 = (((Tp9 (tx9 m) (g 2).toNat) + 2 : Nat) : Int) by omega), (show g 11 = m 23 ((Tp9 (tx9 m) (g 2).toNat) + 2) by omega)⟩, trivial⟩, fun _ => ⟨h0, k_tok, k_sc1, k_sc2, k_T, k_I, k_F, k_N, k_Y, k_Z, k_A, k_B, k_C, k_X, k_R, k_f4⟩⟩
noncomputable def ru_hL_now : Ru := ([(0, (1199, (0, (0, 0)))), (0, (1102, (0, (0, 0)))), (0, (1122, (0, (0, 0)))), (0, (1123, (0, (0, 0)))), (0, (1124, (0, (0, 0)))), (9, (24, (2, (1, 0)))), (9, (26, (2, (1, 0)))), (0, (1100, (0, (0, 0)))), (9, (23, (3, (1, 0)))), (9, (23, (3, (1, 1)))), (9, (23, (3, (1, 2))))], ([], ([([(5, 1)], 1), ([(5, (-1))], (-1)), ([(3, (-1)), (6, 1)], 3), ([(3, 1), (6, (-1))], (-3)), ([(8, 1)], 110), ([(8, (-1))], (-110)), ([(9, 1)], 111), ([(9, (-1))], (-111)), ([(10, 1)], 119), ([(10, (-1))], (-119)), ([(4, 1)], 23)], (true, ([], ([], ([], none)))))))
theorem rk_hL_now : RuOk SR ru_hL_now := by
  intro τ m g hi hc ha hS
  obtain ⟨i0, i1, i2, i3, i4, i5, i6, i7, i8, i9, i10, _⟩ := hi
  have t1199 : τ 1199 = some (g 0) := i0
  have t1102 : τ 1102 = some (g 1) := i1
  have t1122 : τ 1122 = some (g 2) := i2
  have t1123 : τ 1123 = some (g 3) := i3
  have t1124 : τ 1124 = some (g 4) := i4
  obtain ⟨jk, uk, vk⟩ : ∃ j : Nat, 1 * g 2 + 0 = (j : Int) ∧ g 5 = m 24 j := i5
  obtain ⟨jv, uv, vv⟩ : ∃ j : Nat, 1 * g 2 + 0 = (j : Int) ∧ g 6 = m 26 j := i6
  have t1100 : τ 1100 = some (g 7) := i7
  obtain ⟨jb0, ub0, vb0⟩ : ∃ j : Nat, 1 * g 3 + 0 = (j : Int) ∧ g 8 = m 23 j := i8
  obtain ⟨jb1, ub1, vb1⟩ : ∃ j : Nat, 1 * g 3 + 1 = (j : Int) ∧ g 9 = m 23 j := i9
  obtain ⟨jb2, ub2, vb2⟩ : ∃ j : Nat, 1 * g 3 + 2 = (j : Int) ∧ g 10 = m 23 j := i10
  obtain ⟨c0, c1, c2, c3, c4, c5, c6, c7, c8, c9, c10, _⟩ := hc
  have c0 : 1 * g 5 ≤ 1 := d1 c0
  have c1 : (-1) * g 5 ≤ (-1) := d1 c1
  have c2 : (-1) * g 3 + 1 * g 6 ≤ 3 := d2 c2
  have c3 : 1 * g 3 + (-1) * g 6 ≤ (-3) := d2 c3
  have c4 : 1 * g 8 ≤ 110 := d1 c4
  have c5 : (-1) * g 8 ≤ (-110) := d1 c5
  have c6 : 1 * g 9 ≤ 111 := d1 c6
  have c7 : (-1) * g 9 ≤ (-111) := d1 c7
  have c8 : 1 * g 10 ≤ 119 := d1 c8
  have c9 : (-1) * g 10 ≤ (-119) := d1 c9
  have c10 : 1 * g 4 ≤ 23 := d1 c10
  obtain ⟨h0, k_tok, k_sc1, k_sc2, k_T, k_I, k_F, k_N, k_Y, k_Z, k_A, k_B, k_C, k_X, k_R, k_f4⟩ := hS (by rw [t1199]; exact fun e => by cases e)
  have k_tok0 := k_tok
  obtain ⟨h_L, h_n, h_nF⟩ := k_tok0
  have k_I0 := k_I
  obtain ⟨h_p, h_pc, h_ip, h_iP, h_PC, h_PN⟩ := k_I0
  obtain ⟨hn0, _, hNT⟩ := h_nF _ t1102
  have hXL : ((tx9 m).2 : Int) = m 110 1 := by
    show (((m 110 1).toNat : Nat) : Int) = _
    omega
  obtain ⟨⟨hi0, hi1⟩, hpi⟩ := h_ip _ _ _ t1102 t1122 t1123
  have hTK := (h_nF _ t1102).2.1.1 (g 2).toNat (by omega)
  have hSL := St_L (X := tx9 m) (i := (g 2).toNat)
  have hcc := h_pc _ _ t1123 t1124
  rw [show (g 3).toNat = Tp9 (tx9 m) (g 2).toNat by omega] at hcc
  have hko := kd_of (X := tx9 m) (p := Tp9 (tx9 m) (g 2).toNat)
  rw [show jk = (g 2).toNat by omega] at vk
  rw [show jv = (g 2).toNat by omega] at vv
  have hL9 := h_L _ t1100
  have hTk := hTK.1.2
  have hk1 : kd9 (tx9 m) (Tp9 (tx9 m) (g 2).toNat) = 1 := by omega
  have hTe := hTK.2.1 hk1
  have hta := (te_al hk1).1
  have hb0 : by9 (tx9 m) ((Tp9 (tx9 m) (g 2).toNat) + 0) = 110 := by
    rw [by_m (by omega), ← hL9.2 ((Tp9 (tx9 m) (g 2).toNat) + 0) (by omega), show (Tp9 (tx9 m) (g 2).toNat) + 0 = jb0 by omega]
    omega
  have hb1 : by9 (tx9 m) ((Tp9 (tx9 m) (g 2).toNat) + 1) = 111 := by
    rw [by_m (by omega), ← hL9.2 ((Tp9 (tx9 m) (g 2).toNat) + 1) (by omega), show (Tp9 (tx9 m) (g 2).toNat) + 1 = jb1 by omega]
    omega
  have hb2 : by9 (tx9 m) ((Tp9 (tx9 m) (g 2).toNat) + 2) = 119 := by
    rw [by_m (by omega), ← hL9.2 ((Tp9 (tx9 m) (g 2).toNat) + 2) (by omega), show (Tp9 (tx9 m) (g 2).toNat) + 2 = jb2 by omega]
    omega
  have hrc := wd_to (X := tx9 m) (p := (Tp9 (tx9 m) (g 2).toNat)) (c := 24) (l := [110, 111, 119]) hk1 (by show _ = _ + 3; omega) (by
    show [by9 (tx9 m) ((Tp9 (tx9 m) (g 2).toNat) + 0), by9 (tx9 m) ((Tp9 (tx9 m) (g 2).toNat) + 1), by9 (tx9 m) ((Tp9 (tx9 m) (g 2).toNat) + 2)] = _
    rw [hb0, hb1, hb2]) (by decide) (by decide)
  exfalso
  omega
noncomputable def ru_hG_now : Ru := ([(0, (1199, (0, (0, 0)))), (0, (1102, (0, (0, 0)))), (0, (1122, (0, (0, 0)))), (0, (1123, (0, (0, 0)))), (0, (1124, (0, (0, 0)))), (9, (24, (2, (1, 0)))), (9, (26, (2, (1, 0)))), (0, (1100, (0, (0, 0)))), (9, (23, (3, (1, 0)))), (9, (23, (3, (1, 1)))), (9, (23, (3, (1, 2))))], ([], ([([(5, 1)], 1), ([(5, (-1))], (-1)), ([(3, (-1)), (6, 1)], 3), ([(3, 1), (6, (-1))], (-3)), ([(8, 1)], 110), ([(8, (-1))], (-110)), ([(9, 1)], 111), ([(9, (-1))], (-111)), ([(10, 1)], 119), ([(10, (-1))], (-119)), ([(4, (-1))], (-25))], (true, ([], ([], ([], none)))))))
theorem rk_hG_now : RuOk SR ru_hG_now := by
  intro τ m g hi hc ha hS
  obtain ⟨i0, i1, i2, i3, i4, i5, i6, i7, i8, i9, i10, _⟩ := hi
  have t1199 : τ 1199 = some (g 0) := i0
  have t1102 : τ 1102 = some (g 1) := i1
  have t1122 : τ 1122 = some (g 2) := i2
  have t1123 : τ 1123 = some (g 3) := i3
  have t1124 : τ 1124 = some (g 4) := i4
  obtain ⟨jk, uk, vk⟩ : ∃ j : Nat, 1 * g 2 + 0 = (j : Int) ∧ g 5 = m 24 j := i5
  obtain ⟨jv, uv, vv⟩ : ∃ j : Nat, 1 * g 2 + 0 = (j : Int) ∧ g 6 = m 26 j := i6
  have t1100 : τ 1100 = some (g 7) := i7
  obtain ⟨jb0, ub0, vb0⟩ : ∃ j : Nat, 1 * g 3 + 0 = (j : Int) ∧ g 8 = m 23 j := i8
  obtain ⟨jb1, ub1, vb1⟩ : ∃ j : Nat, 1 * g 3 + 1 = (j : Int) ∧ g 9 = m 23 j := i9
  obtain ⟨jb2, ub2, vb2⟩ : ∃ j : Nat, 1 * g 3 + 2 = (j : Int) ∧ g 10 = m 23 j := i10
  obtain ⟨c0, c1, c2, c3, c4, c5, c6, c7, c8, c9, c10, _⟩ := hc
  have c0 : 1 * g 5 ≤ 1 := d1 c0
  have c1 : (-1) * g 5 ≤ (-1) := d1 c1
  have c2 : (-1) * g 3 + 1 * g 6 ≤ 3 := d2 c2
  have c3 : 1 * g 3 + (-1) * g 6 ≤ (-3) := d2 c3
  have c4 : 1 * g 8 ≤ 110 := d1 c4
  have c5 : (-1) * g 8 ≤ (-110) := d1 c5
  have c6 : 1 * g 9 ≤ 111 := d1 c6
  have c7 : (-1) * g 9 ≤ (-111) := d1 c7
  have c8 : 1 * g 10 ≤ 119 := d1 c8
  have c9 : (-1) * g 10 ≤ (-119) := d1 c9
  have c10 : (-1) * g 4 ≤ (-25) := d1 c10
  obtain ⟨h0, k_tok, k_sc1, k_sc2, k_T, k_I, k_F, k_N, k_Y, k_Z, k_A, k_B, k_C, k_X, k_R, k_f4⟩ := hS (by rw [t1199]; exact fun e => by cases e)
  have k_tok0 := k_tok
  obtain ⟨h_L, h_n, h_nF⟩ := k_tok0
  have k_I0 := k_I
  obtain ⟨h_p, h_pc, h_ip, h_iP, h_PC, h_PN⟩ := k_I0
  obtain ⟨hn0, _, hNT⟩ := h_nF _ t1102
  have hXL : ((tx9 m).2 : Int) = m 110 1 := by
    show (((m 110 1).toNat : Nat) : Int) = _
    omega
  obtain ⟨⟨hi0, hi1⟩, hpi⟩ := h_ip _ _ _ t1102 t1122 t1123
  have hTK := (h_nF _ t1102).2.1.1 (g 2).toNat (by omega)
  have hSL := St_L (X := tx9 m) (i := (g 2).toNat)
  have hcc := h_pc _ _ t1123 t1124
  rw [show (g 3).toNat = Tp9 (tx9 m) (g 2).toNat by omega] at hcc
  have hko := kd_of (X := tx9 m) (p := Tp9 (tx9 m) (g 2).toNat)
  rw [show jk = (g 2).toNat by omega] at vk
  rw [show jv = (g 2).toNat by omega] at vv
  have hL9 := h_L _ t1100
  have hTk := hTK.1.2
  have hk1 : kd9 (tx9 m) (Tp9 (tx9 m) (g 2).toNat) = 1 := by omega
  have hTe := hTK.2.1 hk1
  have hta := (te_al hk1).1
  have hb0 : by9 (tx9 m) ((Tp9 (tx9 m) (g 2).toNat) + 0) = 110 := by
    rw [by_m (by omega), ← hL9.2 ((Tp9 (tx9 m) (g 2).toNat) + 0) (by omega), show (Tp9 (tx9 m) (g 2).toNat) + 0 = jb0 by omega]
    omega
  have hb1 : by9 (tx9 m) ((Tp9 (tx9 m) (g 2).toNat) + 1) = 111 := by
    rw [by_m (by omega), ← hL9.2 ((Tp9 (tx9 m) (g 2).toNat) + 1) (by omega), show (Tp9 (tx9 m) (g 2).toNat) + 1 = jb1 by omega]
    omega
  have hb2 : by9 (tx9 m) ((Tp9 (tx9 m) (g 2).toNat) + 2) = 119 := by
    rw [by_m (by omega), ← hL9.2 ((Tp9 (tx9 m) (g 2).toNat) + 2) (by omega), show (Tp9 (tx9 m) (g 2).toNat) + 2 = jb2 by omega]
    omega
  have hrc := wd_to (X := tx9 m) (p := (Tp9 (tx9 m) (g 2).toNat)) (c := 24) (l := [110, 111, 119]) hk1 (by show _ = _ + 3; omega) (by
    show [by9 (tx9 m) ((Tp9 (tx9 m) (g 2).toNat) + 0), by9 (tx9 m) ((Tp9 (tx9 m) (g 2).toNat) + 1), by9 (tx9 m) ((Tp9 (tx9 m) (g 2).toNat) + 2)] = _
    rw [hb0, hb1, hb2]) (by decide) (by decide)
  exfalso
  omega
noncomputable def ru_hw_age : Ru := ([(0, (1199, (0, (0, 0)))), (0, (1102, (0, (0, 0)))), (0, (1122, (0, (0, 0)))), (0, (1123, (0, (0, 0)))), (0, (1124, (0, (0, 0)))), (17, (0, (3, (3, 0)))), (10, (0, (3, (0, 0)))), (4, (0, (0, (97, 0)))), (10, (0, (3, (1, 0)))), (4, (0, (0, (103, 0)))), (10, (0, (3, (2, 0)))), (4, (0, (0, (101, 0)))), (0, (1100, (0, (0, 0))))], ([], ([([(4, 1)], 25), ([(4, (-1))], (-25))], (false, ([], ([(26, (2, 5)), (23, (6, 7)), (23, (8, 9)), (23, (10, 11))], ([], none)))))))
theorem rk_hw_age : RuOk SR ru_hw_age := by
  intro τ m g hi hc ha hS
  obtain ⟨i0, i1, i2, i3, i4, i5, i6, i7, i8, i9, i10, i11, i12, _⟩ := hi
  have t1199 : τ 1199 = some (g 0) := i0
  have t1102 : τ 1102 = some (g 1) := i1
  have t1122 : τ 1122 = some (g 2) := i2
  have t1123 : τ 1123 = some (g 3) := i3
  have t1124 : τ 1124 = some (g 4) := i4
  have xe : g 5 = g 3 + 3 := i5
  have xx0 : g 6 = g 3 + 0 := i6
  have xb0 : g 7 = 97 := i7
  have xx1 : g 8 = g 3 + 1 := i8
  have xb1 : g 9 = 103 := i9
  have xx2 : g 10 = g 3 + 2 := i10
  have xb2 : g 11 = 101 := i11
  have t1100 : τ 1100 = some (g 12) := i12
  obtain ⟨c0, c1, _⟩ := hc
  have c0 : 1 * g 4 ≤ 25 := d1 c0
  have c1 : (-1) * g 4 ≤ (-25) := d1 c1
  obtain ⟨h0, k_tok, k_sc1, k_sc2, k_T, k_I, k_F, k_N, k_Y, k_Z, k_A, k_B, k_C, k_X, k_R, k_f4⟩ := hS (by rw [t1199]; exact fun e => by cases e)
  have k_tok0 := k_tok
  obtain ⟨h_L, h_n, h_nF⟩ := k_tok0
  have k_I0 := k_I
  obtain ⟨h_p, h_pc, h_ip, h_iP, h_PC, h_PN⟩ := k_I0
  obtain ⟨hn0, _, hNT⟩ := h_nF _ t1102
  have hXL : ((tx9 m).2 : Int) = m 110 1 := by
    show (((m 110 1).toNat : Nat) : Int) = _
    omega
  obtain ⟨⟨hi0, hi1⟩, hpi⟩ := h_ip _ _ _ t1102 t1122 t1123
  have hTK := (h_nF _ t1102).2.1.1 (g 2).toNat (by omega)
  have hSL := St_L (X := tx9 m) (i := (g 2).toNat)
  have hcc := h_pc _ _ t1123 t1124
  rw [show (g 3).toNat = Tp9 (tx9 m) (g 2).toNat by omega] at hcc
  have hko := kd_of (X := tx9 m) (p := Tp9 (tx9 m) (g 2).toNat)
  have hL9 := h_L _ t1100
  obtain ⟨hk1, hte, hbs⟩ := wd_of (X := tx9 m) (p := (Tp9 (tx9 m) (g 2).toNat)) (c := 25) (v := 6383461) (l := [97, 103, 101]) (by omega) (by decide) (by decide) (by decide) (by decide) (by decide)
  have hte : te9 (tx9 m) (Tp9 (tx9 m) (g 2).toNat) = (Tp9 (tx9 m) (g 2).toNat) + 3 := hte
  have hta := (te_al hk1).1
  have hTe := hTK.2.1 hk1
  have hb0 : by9 (tx9 m) ((Tp9 (tx9 m) (g 2).toNat) + 0) = 97 := by
    have := congrArg (fun l => l[0]?) hbs
    exact Option.some.inj this
  have hm0 := by_m (m := m) (p := (Tp9 (tx9 m) (g 2).toNat) + 0) (by omega)
  have hl0 := hL9.2 ((Tp9 (tx9 m) (g 2).toNat) + 0) (by omega)
  have hb1 : by9 (tx9 m) ((Tp9 (tx9 m) (g 2).toNat) + 1) = 103 := by
    have := congrArg (fun l => l[1]?) hbs
    exact Option.some.inj this
  have hm1 := by_m (m := m) (p := (Tp9 (tx9 m) (g 2).toNat) + 1) (by omega)
  have hl1 := hL9.2 ((Tp9 (tx9 m) (g 2).toNat) + 1) (by omega)
  have hb2 : by9 (tx9 m) ((Tp9 (tx9 m) (g 2).toNat) + 2) = 101 := by
    have := congrArg (fun l => l[2]?) hbs
    exact Option.some.inj this
  have hm2 := by_m (m := m) (p := (Tp9 (tx9 m) (g 2).toNat) + 2) (by omega)
  have hl2 := hL9.2 ((Tp9 (tx9 m) (g 2).toNat) + 2) (by omega)
  exact ⟨rfl, trivial, ⟨⟨(g 2).toNat, (show g 2 = (((g 2).toNat : Nat) : Int) by omega), (show g 5 = m 26 (g 2).toNat by omega)⟩, ⟨(Tp9 (tx9 m) (g 2).toNat) + 0, (show g 6 = (((Tp9 (tx9 m) (g 2).toNat) + 0 : Nat) : Int) by omega), (show g 7 = m 23 ((Tp9 (tx9 m) (g 2).toNat) + 0) by omega)⟩, ⟨(Tp9 (tx9 m) (g 2).toNat) + 1, (show g 8 = (((Tp9 (tx9 m) (g 2).toNat) + 1 : Nat) : Int) by omega), (show g 9 = m 23 ((Tp9 (tx9 m) (g 2).toNat) + 1) by omega)⟩, ⟨(Tp9 (tx9 m) (g 2).toNat) + 2, (show g 10 = (((Tp9 (tx9 m) (g 2).toNat) + 2 : Nat) : Int) by omega), (show g 11 = m 23 ((Tp9 (tx9 m) (g 2).toNat) + 2) by omega)⟩, trivial⟩, fun _ => ⟨h0, k_tok, k_sc1, k_sc2, k_T, k_I, k_F, k_N, k_Y, k_Z, k_A, k_B, k_C, k_X, k_R, k_f4⟩⟩
noncomputable def ru_hL_age : Ru := ([(0, (1199, (0, (0, 0)))), (0, (1102, (0, (0, 0)))), (0, (1122, (0, (0, 0)))), (0, (1123, (0, (0, 0)))), (0, (1124, (0, (0, 0)))), (9, (24, (2, (1, 0)))), (9, (26, (2, (1, 0)))), (0, (1100, (0, (0, 0)))), (9, (23, (3, (1, 0)))), (9, (23, (3, (1, 1)))), (9, (23, (3, (1, 2))))], ([], ([([(5, 1)], 1), ([(5, (-1))], (-1)), ([(3, (-1)), (6, 1)], 3), ([(3, 1), (6, (-1))], (-3)), ([(8, 1)], 97), ([(8, (-1))], (-97)), ([(9, 1)], 103), ([(9, (-1))], (-103)), ([(10, 1)], 101), ([(10, (-1))], (-101)), ([(4, 1)], 24)], (true, ([], ([], ([], none)))))))
theorem rk_hL_age : RuOk SR ru_hL_age := by
  intro τ m g hi hc ha hS
  obtain ⟨i0, i1, i2, i3, i4, i5, i6, i7, i8, i9, i10, _⟩ := hi
  have t1199 : τ 1199 = some (g 0) := i0
  have t1102 : τ 1102 = some (g 1) := i1
  have t1122 : τ 1122 = some (g 2) := i2
  have t1123 : τ 1123 = some (g 3) := i3
  have t1124 : τ 1124 = some (g 4) := i4
  obtain ⟨jk, uk, vk⟩ : ∃ j : Nat, 1 * g 2 + 0 = (j : Int) ∧ g 5 = m 24 j := i5
  obtain ⟨jv, uv, vv⟩ : ∃ j : Nat, 1 * g 2 + 0 = (j : Int) ∧ g 6 = m 26 j := i6
  have t1100 : τ 1100 = some (g 7) := i7
  obtain ⟨jb0, ub0, vb0⟩ : ∃ j : Nat, 1 * g 3 + 0 = (j : Int) ∧ g 8 = m 23 j := i8
  obtain ⟨jb1, ub1, vb1⟩ : ∃ j : Nat, 1 * g 3 + 1 = (j : Int) ∧ g 9 = m 23 j := i9
  obtain ⟨jb2, ub2, vb2⟩ : ∃ j : Nat, 1 * g 3 + 2 = (j : Int) ∧ g 10 = m 23 j := i10
  obtain ⟨c0, c1, c2, c3, c4, c5, c6, c7, c8, c9, c10, _⟩ := hc
  have c0 : 1 * g 5 ≤ 1 := d1 c0
  have c1 : (-1) * g 5 ≤ (-1) := d1 c1
  have c2 : (-1) * g 3 + 1 * g 6 ≤ 3 := d2 c2
  have c3 : 1 * g 3 + (-1) * g 6 ≤ (-3) := d2 c3
  have c4 : 1 * g 8 ≤ 97 := d1 c4
  have c5 : (-1) * g 8 ≤ (-97) := d1 c5
  have c6 : 1 * g 9 ≤ 103 := d1 c6
  have c7 : (-1) * g 9 ≤ (-103) := d1 c7
  have c8 : 1 * g 10 ≤ 101 := d1 c8
  have c9 : (-1) * g 10 ≤ (-101) := d1 c9
  have c10 : 1 * g 4 ≤ 24 := d1 c10
  obtain ⟨h0, k_tok, k_sc1, k_sc2, k_T, k_I, k_F, k_N, k_Y, k_Z, k_A, k_B, k_C, k_X, k_R, k_f4⟩ := hS (by rw [t1199]; exact fun e => by cases e)
  have k_tok0 := k_tok
  obtain ⟨h_L, h_n, h_nF⟩ := k_tok0
  have k_I0 := k_I
  obtain ⟨h_p, h_pc, h_ip, h_iP, h_PC, h_PN⟩ := k_I0
  obtain ⟨hn0, _, hNT⟩ := h_nF _ t1102
  have hXL : ((tx9 m).2 : Int) = m 110 1 := by
    show (((m 110 1).toNat : Nat) : Int) = _
    omega
  obtain ⟨⟨hi0, hi1⟩, hpi⟩ := h_ip _ _ _ t1102 t1122 t1123
  have hTK := (h_nF _ t1102).2.1.1 (g 2).toNat (by omega)
  have hSL := St_L (X := tx9 m) (i := (g 2).toNat)
  have hcc := h_pc _ _ t1123 t1124
  rw [show (g 3).toNat = Tp9 (tx9 m) (g 2).toNat by omega] at hcc
  have hko := kd_of (X := tx9 m) (p := Tp9 (tx9 m) (g 2).toNat)
  rw [show jk = (g 2).toNat by omega] at vk
  rw [show jv = (g 2).toNat by omega] at vv
  have hL9 := h_L _ t1100
  have hTk := hTK.1.2
  have hk1 : kd9 (tx9 m) (Tp9 (tx9 m) (g 2).toNat) = 1 := by omega
  have hTe := hTK.2.1 hk1
  have hta := (te_al hk1).1
  have hb0 : by9 (tx9 m) ((Tp9 (tx9 m) (g 2).toNat) + 0) = 97 := by
    rw [by_m (by omega), ← hL9.2 ((Tp9 (tx9 m) (g 2).toNat) + 0) (by omega), show (Tp9 (tx9 m) (g 2).toNat) + 0 = jb0 by omega]
    omega
  have hb1 : by9 (tx9 m) ((Tp9 (tx9 m) (g 2).toNat) + 1) = 103 := by
    rw [by_m (by omega), ← hL9.2 ((Tp9 (tx9 m) (g 2).toNat) + 1) (by omega), show (Tp9 (tx9 m) (g 2).toNat) + 1 = jb1 by omega]
    omega
  have hb2 : by9 (tx9 m) ((Tp9 (tx9 m) (g 2).toNat) + 2) = 101 := by
    rw [by_m (by omega), ← hL9.2 ((Tp9 (tx9 m) (g 2).toNat) + 2) (by omega), show (Tp9 (tx9 m) (g 2).toNat) + 2 = jb2 by omega]
    omega
  have hrc := wd_to (X := tx9 m) (p := (Tp9 (tx9 m) (g 2).toNat)) (c := 25) (l := [97, 103, 101]) hk1 (by show _ = _ + 3; omega) (by
    show [by9 (tx9 m) ((Tp9 (tx9 m) (g 2).toNat) + 0), by9 (tx9 m) ((Tp9 (tx9 m) (g 2).toNat) + 1), by9 (tx9 m) ((Tp9 (tx9 m) (g 2).toNat) + 2)] = _
    rw [hb0, hb1, hb2]) (by decide) (by decide)
  exfalso
  omega
noncomputable def ru_hG_age : Ru := ([(0, (1199, (0, (0, 0)))), (0, (1102, (0, (0, 0)))), (0, (1122, (0, (0, 0)))), (0, (1123, (0, (0, 0)))), (0, (1124, (0, (0, 0)))), (9, (24, (2, (1, 0)))), (9, (26, (2, (1, 0)))), (0, (1100, (0, (0, 0)))), (9, (23, (3, (1, 0)))), (9, (23, (3, (1, 1)))), (9, (23, (3, (1, 2))))], ([], ([([(5, 1)], 1), ([(5, (-1))], (-1)), ([(3, (-1)), (6, 1)], 3), ([(3, 1), (6, (-1))], (-3)), ([(8, 1)], 97), ([(8, (-1))], (-97)), ([(9, 1)], 103), ([(9, (-1))], (-103)), ([(10, 1)], 101), ([(10, (-1))], (-101)), ([(4, (-1))], (-26))], (true, ([], ([], ([], none)))))))
theorem rk_hG_age : RuOk SR ru_hG_age := by
  intro τ m g hi hc ha hS
  obtain ⟨i0, i1, i2, i3, i4, i5, i6, i7, i8, i9, i10, _⟩ := hi
  have t1199 : τ 1199 = some (g 0) := i0
  have t1102 : τ 1102 = some (g 1) := i1
  have t1122 : τ 1122 = some (g 2) := i2
  have t1123 : τ 1123 = some (g 3) := i3
  have t1124 : τ 1124 = some (g 4) := i4
  obtain ⟨jk, uk, vk⟩ : ∃ j : Nat, 1 * g 2 + 0 = (j : Int) ∧ g 5 = m 24 j := i5
  obtain ⟨jv, uv, vv⟩ : ∃ j : Nat, 1 * g 2 + 0 = (j : Int) ∧ g 6 = m 26 j := i6
  have t1100 : τ 1100 = some (g 7) := i7
  obtain ⟨jb0, ub0, vb0⟩ : ∃ j : Nat, 1 * g 3 + 0 = (j : Int) ∧ g 8 = m 23 j := i8
  obtain ⟨jb1, ub1, vb1⟩ : ∃ j : Nat, 1 * g 3 + 1 = (j : Int) ∧ g 9 = m 23 j := i9
  obtain ⟨jb2, ub2, vb2⟩ : ∃ j : Nat, 1 * g 3 + 2 = (j : Int) ∧ g 10 = m 23 j := i10
  obtain ⟨c0, c1, c2, c3, c4, c5, c6, c7, c8, c9, c10, _⟩ := hc
  have c0 : 1 * g 5 ≤ 1 := d1 c0
  have c1 : (-1) * g 5 ≤ (-1) := d1 c1
  have c2 : (-1) * g 3 + 1 * g 6 ≤ 3 := d2 c2
  have c3 : 1 * g 3 + (-1) * g 6 ≤ (-3) := d2 c3
  have c4 : 1 * g 8 ≤ 97 := d1 c4
  have c5 : (-1) * g 8 ≤ (-97) := d1 c5
  have c6 : 1 * g 9 ≤ 103 := d1 c6
  have c7 : (-1) * g 9 ≤ (-103) := d1 c7
  have c8 : 1 * g 10 ≤ 101 := d1 c8
  have c9 : (-1) * g 10 ≤ (-101) := d1 c9
  have c10 : (-1) * g 4 ≤ (-26) := d1 c10
  obtain ⟨h0, k_tok, k_sc1, k_sc2, k_T, k_I, k_F, k_N, k_Y, k_Z, k_A, k_B, k_C, k_X, k_R, k_f4⟩ := hS (by rw [t1199]; exact fun e => by cases e)
  have k_tok0 := k_tok
  obtain ⟨h_L, h_n, h_nF⟩ := k_tok0
  have k_I0 := k_I
  obtain ⟨h_p, h_pc, h_ip, h_iP, h_PC, h_PN⟩ := k_I0
  obtain ⟨hn0, _, hNT⟩ := h_nF _ t1102
  have hXL : ((tx9 m).2 : Int) = m 110 1 := by
    show (((m 110 1).toNat : Nat) : Int) = _
    omega
  obtain ⟨⟨hi0, hi1⟩, hpi⟩ := h_ip _ _ _ t1102 t1122 t1123
  have hTK := (h_nF _ t1102).2.1.1 (g 2).toNat (by omega)
  have hSL := St_L (X := tx9 m) (i := (g 2).toNat)
  have hcc := h_pc _ _ t1123 t1124
  rw [show (g 3).toNat = Tp9 (tx9 m) (g 2).toNat by omega] at hcc
  have hko := kd_of (X := tx9 m) (p := Tp9 (tx9 m) (g 2).toNat)
  rw [show jk = (g 2).toNat by omega] at vk
  rw [show jv = (g 2).toNat by omega] at vv
  have hL9 := h_L _ t1100
  have hTk := hTK.1.2
  have hk1 : kd9 (tx9 m) (Tp9 (tx9 m) (g 2).toNat) = 1 := by omega
  have hTe := hTK.2.1 hk1
  have hta := (te_al hk1).1
  have hb0 : by9 (tx9 m) ((Tp9 (tx9 m) (g 2).toNat) + 0) = 97 := by
    rw [by_m (by omega), ← hL9.2 ((Tp9 (tx9 m) (g 2).toNat) + 0) (by omega), show (Tp9 (tx9 m) (g 2).toNat) + 0 = jb0 by omega]
    omega
  have hb1 : by9 (tx9 m) ((Tp9 (tx9 m) (g 2).toNat) + 1) = 103 := by
    rw [by_m (by omega), ← hL9.2 ((Tp9 (tx9 m) (g 2).toNat) + 1) (by omega), show (Tp9 (tx9 m) (g 2).toNat) + 1 = jb1 by omega]
    omega
  have hb2 : by9 (tx9 m) ((Tp9 (tx9 m) (g 2).toNat) + 2) = 101 := by
    rw [by_m (by omega), ← hL9.2 ((Tp9 (tx9 m) (g 2).toNat) + 2) (by omega), show (Tp9 (tx9 m) (g 2).toNat) + 2 = jb2 by omega]
    omega
  have hrc := wd_to (X := tx9 m) (p := (Tp9 (tx9 m) (g 2).toNat)) (c := 25) (l := [97, 103, 101]) hk1 (by show _ = _ + 3; omega) (by
    show [by9 (tx9 m) ((Tp9 (tx9 m) (g 2).toNat) + 0), by9 (tx9 m) ((Tp9 (tx9 m) (g 2).toNat) + 1), by9 (tx9 m) ((Tp9 (tx9 m) (g 2).toNat) + 2)] = _
    rw [hb0, hb1, hb2]) (by decide) (by decide)
  exfalso
  omega
noncomputable def ru_hw_size : Ru := ([(0, (1199, (0, (0, 0)))), (0, (1102, (0, (0, 0)))), (0, (1122, (0, (0, 0)))), (0, (1123, (0, (0, 0)))), (0, (1124, (0, (0, 0)))), (17, (0, (3, (4, 0)))), (10, (0, (3, (0, 0)))), (4, (0, (0, (115, 0)))), (10, (0, (3, (1, 0)))), (4, (0, (0, (105, 0)))), (10, (0, (3, (2, 0)))), (4, (0, (0, (122, 0)))), (10, (0, (3, (3, 0)))), (4, (0, (0, (101, 0)))), (0, (1100, (0, (0, 0))))], ([], ([([(4, 1)], 26), ([(4, (-1))], (-26))], (false, ([], ([(26, (2, 5)), (23, (6, 7)), (23, (8, 9)), (23, (10, 11)), (23, (12, 13))], ([], none)))))))
theorem rk_hw_size : RuOk SR ru_hw_size := by
  intro τ m g hi hc ha hS
  obtain ⟨i0, i1, i2, i3, i4, i5, i6, i7, i8, i9, i10, i11, i12, i13, i14, _⟩ := hi
  have t1199 : τ 1199 = some (g 0) := i0
  have t1102 : τ 1102 = some (g 1) := i1
  have t1122 : τ 1122 = some (g 2) := i2
  have t1123 : τ 1123 = some (g 3) := i3
  have t1124 : τ 1124 = some (g 4) := i4
  have xe : g 5 = g 3 + 4 := i5
  have xx0 : g 6 = g 3 + 0 := i6
  have xb0 : g 7 = 115 := i7
  have xx1 : g 8 = g 3 + 1 := i8
  have xb1 : g 9 = 105 := i9
  have xx2 : g 10 = g 3 + 2 := i10
  have xb2 : g 11 = 122 := i11
  have xx3 : g 12 = g 3 + 3 := i12
  have xb3 : g 13 = 101 := i13
  have t1100 : τ 1100 = some (g 14) := i14
  obtain ⟨c0, c1, _⟩ := hc
  have c0 : 1 * g 4 ≤ 26 := d1 c0
  have c1 : (-1) * g 4 ≤ (-26) := d1 c1
  obtain ⟨h0, k_tok, k_sc1, k_sc2, k_T, k_I, k_F, k_N, k_Y, k_Z, k_A, k_B, k_C, k_X, k_R, k_f4⟩ := hS (by rw [t1199]; exact fun e => by cases e)
  have k_tok0 := k_tok
  obtain ⟨h_L, h_n, h_nF⟩ := k_tok0
  have k_I0 := k_I
  obtain ⟨h_p, h_pc, h_ip, h_iP, h_PC, h_PN⟩ := k_I0
  obtain ⟨hn0, _, hNT⟩ := h_nF _ t1102
  have hXL : ((tx9 m).2 : Int) = m 110 1 := by
    show (((m 110 1).toNat : Nat) : Int) = _
    omega
  obtain ⟨⟨hi0, hi1⟩, hpi⟩ := h_ip _ _ _ t1102 t1122 t1123
  have hTK := (h_nF _ t1102).2.1.1 (g 2).toNat (by omega)
  have hSL := St_L (X := tx9 m) (i := (g 2).toNat)
  have hcc := h_pc _ _ t1123 t1124
  rw [show (g 3).toNat = Tp9 (tx9 m) (g 2).toNat by omega] at hcc
  have hko := kd_of (X := tx9 m) (p := Tp9 (tx9 m) (g 2).toNat)
  have hL9 := h_L _ t1100
  obtain ⟨hk1, hte, hbs⟩ := wd_of (X := tx9 m) (p := (Tp9 (tx9 m) (g 2).toNat)) (c := 26) (v := 1936292453) (l := [115, 105, 122, 101]) (by omega) (by decide) (by decide) (by decide) (by decide) (by decide)
  have hte : te9 (tx9 m) (Tp9 (tx9 m) (g 2).toNat) = (Tp9 (tx9 m) (g 2).toNat) + 4 := hte
  have hta := (te_al hk1).1
  have hTe := hTK.2.1 hk1
  have hb0 : by9 (tx9 m) ((Tp9 (tx9 m) (g 2).toNat) + 0) = 115 := by
    have := congrArg (fun l => l[0]?) hbs
    exact Option.some.inj this
  have hm0 := by_m (m := m) (p := (Tp9 (tx9 m) (g 2).toNat) + 0) (by omega)
  have hl0 := hL9.2 ((Tp9 (tx9 m) (g 2).toNat) + 0) (by omega)
  have hb1 : by9 (tx9 m) ((Tp9 (tx9 m) (g 2).toNat) + 1) = 105 := by
    have := congrArg (fun l => l[1]?) hbs
    exact Option.some.inj this
  have hm1 := by_m (m := m) (p := (Tp9 (tx9 m) (g 2).toNat) + 1) (by omega)
  have hl1 := hL9.2 ((Tp9 (tx9 m) (g 2).toNat) + 1) (by omega)
  have hb2 : by9 (tx9 m) ((Tp9 (tx9 m) (g 2).toNat) + 2) = 122 := by
    have := congrArg (fun l => l[2]?) hbs
    exact Option.some.inj this
  have hm2 := by_m (m := m) (p := (Tp9 (tx9 m) (g 2).toNat) + 2) (by omega)
  have hl2 := hL9.2 ((Tp9 (tx9 m) (g 2).toNat) + 2) (by omega)
  have hb3 : by9 (tx9 m) ((Tp9 (tx9 m) (g 2).toNat) + 3) = 101 := by
    have := congrArg (fun l => l[3]?) hbs
    exact Option.some.inj this
  have hm3 := by_m (m := m) (p := (Tp9 (tx9 m) (g 2).toNat) + 3) (by omega)
  have hl3 := hL9.2 ((Tp9 (tx9 m) (g 2).toNat) + 3) (by omega)
  exact ⟨rfl, trivial, ⟨⟨(g 2).toNat, (show g 2 = (((g 2).toNat : Nat) : Int) by omega), (show g 5 = m 26 (g 2).toNat by omega)⟩, ⟨(Tp9 (tx9 m) (g 2).toNat) + 0, (show g 6 = (((Tp9 (tx9 m) (g 2).toNat) + 0 : Nat) : Int) by omega), (show g 7 = m 23 ((Tp9 (tx9 m) (g 2).toNat) + 0) by omega)⟩, ⟨(Tp9 (tx9 m) (g 2).toNat) + 1, (show g 8 = (((Tp9 (tx9 m) (g 2).toNat) + 1 : Nat) : Int) by omega), (show g 9 = m 23 ((Tp9 (tx9 m) (g 2).toNat) + 1) by omega)⟩, ⟨(Tp9 (tx9 m) (g 2).toNat) + 2, (show g 10 = (((Tp9 (tx9 m) (g 2).toNat) + 2 : Nat) : Int) by omega), (show g 11 = m 23 ((Tp9 (tx9 m) (g 2).toNat) + 2) by omega)⟩, ⟨(Tp9 (tx9 m) (g 2).toNat) + 3, (show g 12 = (((Tp9 (tx9 m) (g 2).toNat) + 3 : Nat) : Int) by omega), (show g 13 = m 23 ((Tp9 (tx9 m) (g 2).toNat) + 3) by omega)⟩, trivial⟩, fun _ => ⟨h0, k_tok, k_sc1, k_sc2, k_T, k_I, k_F, k_N, k_Y, k_Z, k_A, k_B, k_C, k_X, k_R, k_f4⟩⟩
noncomputable def ru_hL_size : Ru := ([(0, (1199, (0, (0, 0)))), (0, (1102, (0, (0, 0)))), (0, (1122, (0, (0, 0)))), (0, (1123, (0, (0, 0)))), (0, (1124, (0, (0, 0)))), (9, (24, (2, (1, 0)))), (9, (26, (2, (1, 0)))), (0, (1100, (0, (0, 0)))), (9, (23, (3, (1, 0)))), (9, (23, (3, (1, 1)))), (9, (23, (3, (1, 2)))), (9, (23, (3, (1, 3))))], ([], ([([(5, 1)], 1), ([(5, (-1))], (-1)), ([(3, (-1)), (6, 1)], 4), ([(3, 1), (6, (-1))], (-4)), ([(8, 1)], 115), ([(8, (-1))], (-115)), ([(9, 1)], 105), ([(9, (-1))], (-105)), ([(10, 1)], 122), ([(10, (-1))], (-122)), ([(11, 1)], 101), ([(11, (-1))], (-101)), ([(4, 1)], 25)], (true, ([], ([], ([], none)))))))
theorem rk_hL_size : RuOk SR ru_hL_size := by
  intro τ m g hi hc ha hS
  obtain ⟨i0, i1, i2, i3, i4, i5, i6, i7, i8, i9, i10, i11, _⟩ := hi
  have t1199 : τ 1199 = some (g 0) := i0
  have t1102 : τ 1102 = some (g 1) := i1
  have t1122 : τ 1122 = some (g 2) := i2
  have t1123 : τ 1123 = some (g 3) := i3
  have t1124 : τ 1124 = some (g 4) := i4
  obtain ⟨jk, uk, vk⟩ : ∃ j : Nat, 1 * g 2 + 0 = (j : Int) ∧ g 5 = m 24 j := i5
  obtain ⟨jv, uv, vv⟩ : ∃ j : Nat, 1 * g 2 + 0 = (j : Int) ∧ g 6 = m 26 j := i6
  have t1100 : τ 1100 = some (g 7) := i7
  obtain ⟨jb0, ub0, vb0⟩ : ∃ j : Nat, 1 * g 3 + 0 = (j : Int) ∧ g 8 = m 23 j := i8
  obtain ⟨jb1, ub1, vb1⟩ : ∃ j : Nat, 1 * g 3 + 1 = (j : Int) ∧ g 9 = m 23 j := i9
  obtain ⟨jb2, ub2, vb2⟩ : ∃ j : Nat, 1 * g 3 + 2 = (j : Int) ∧ g 10 = m 23 j := i10
  obtain ⟨jb3, ub3, vb3⟩ : ∃ j : Nat, 1 * g 3 + 3 = (j : Int) ∧ g 11 = m 23 j := i11
  obtain ⟨c0, c1, c2, c3, c4, c5, c6, c7, c8, c9, c10, c11, c12, _⟩ := hc
  have c0 : 1 * g 5 ≤ 1 := d1 c0
  have c1 : (-1) * g 5 ≤ (-1) := d1 c1
  have c2 : (-1) * g 3 + 1 * g 6 ≤ 4 := d2 c2
  have c3 : 1 * g 3 + (-1) * g 6 ≤ (-4) := d2 c3
  have c4 : 1 * g 8 ≤ 115 := d1 c4
  have c5 : (-1) * g 8 ≤ (-115) := d1 c5
  have c6 : 1 * g 9 ≤ 105 := d1 c6
  have c7 : (-1) * g 9 ≤ (-105) := d1 c7
  have c8 : 1 * g 10 ≤ 122 := d1 c8
  have c9 : (-1) * g 10 ≤ (-122) := d1 c9
  have c10 : 1 * g 11 ≤ 101 := d1 c10
  have c11 : (-1) * g 11 ≤ (-101) := d1 c11
  have c12 : 1 * g 4 ≤ 25 := d1 c12
  obtain ⟨h0, k_tok, k_sc1, k_sc2, k_T, k_I, k_F, k_N, k_Y, k_Z, k_A, k_B, k_C, k_X, k_R, k_f4⟩ := hS (by rw [t1199]; exact fun e => by cases e)
  have k_tok0 := k_tok
  obtain ⟨h_L, h_n, h_nF⟩ := k_tok0
  have k_I0 := k_I
  obtain ⟨h_p, h_pc, h_ip, h_iP, h_PC, h_PN⟩ := k_I0
  obtain ⟨hn0, _, hNT⟩ := h_nF _ t1102
  have hXL : ((tx9 m).2 : Int) = m 110 1 := by
    show (((m 110 1).toNat : Nat) : Int) = _
    omega
  obtain ⟨⟨hi0, hi1⟩, hpi⟩ := h_ip _ _ _ t1102 t1122 t1123
  have hTK := (h_nF _ t1102).2.1.1 (g 2).toNat (by omega)
  have hSL := St_L (X := tx9 m) (i := (g 2).toNat)
  have hcc := h_pc _ _ t1123 t1124
  rw [show (g 3).toNat = Tp9 (tx9 m) (g 2).toNat by omega] at hcc
  have hko := kd_of (X := tx9 m) (p := Tp9 (tx9 m) (g 2).toNat)
  rw [show jk = (g 2).toNat by omega] at vk
  rw [show jv = (g 2).toNat by omega] at vv
  have hL9 := h_L _ t1100
  have hTk := hTK.1.2
  have hk1 : kd9 (tx9 m) (Tp9 (tx9 m) (g 2).toNat) = 1 := by omega
  have hTe := hTK.2.1 hk1
  have hta := (te_al hk1).1
  have hb0 : by9 (tx9 m) ((Tp9 (tx9 m) (g 2).toNat) + 0) = 115 := by
    rw [by_m (by omega), ← hL9.2 ((Tp9 (tx9 m) (g 2).toNat) + 0) (by omega), show (Tp9 (tx9 m) (g 2).toNat) + 0 = jb0 by omega]
    omega
  have hb1 : by9 (tx9 m) ((Tp9 (tx9 m) (g 2).toNat) + 1) = 105 := by
    rw [by_m (by omega), ← hL9.2 ((Tp9 (tx9 m) (g 2).toNat) + 1) (by omega), show (Tp9 (tx9 m) (g 2).toNat) + 1 = jb1 by omega]
    omega
  have hb2 : by9 (tx9 m) ((Tp9 (tx9 m) (g 2).toNat) + 2) = 122 := by
    rw [by_m (by omega), ← hL9.2 ((Tp9 (tx9 m) (g 2).toNat) + 2) (by omega), show (Tp9 (tx9 m) (g 2).toNat) + 2 = jb2 by omega]
    omega
  have hb3 : by9 (tx9 m) ((Tp9 (tx9 m) (g 2).toNat) + 3) = 101 := by
    rw [by_m (by omega), ← hL9.2 ((Tp9 (tx9 m) (g 2).toNat) + 3) (by omega), show (Tp9 (tx9 m) (g 2).toNat) + 3 = jb3 by omega]
    omega
  have hrc := wd_to (X := tx9 m) (p := (Tp9 (tx9 m) (g 2).toNat)) (c := 26) (l := [115, 105, 122, 101]) hk1 (by show _ = _ + 4; omega) (by
    show [by9 (tx9 m) ((Tp9 (tx9 m) (g 2).toNat) + 0), by9 (tx9 m) ((Tp9 (tx9 m) (g 2).toNat) + 1), by9 (tx9 m) ((Tp9 (tx9 m) (g 2).toNat) + 2), by9 (tx9 m) ((Tp9 (tx9 m) (g 2).toNat) + 3)] = _
    rw [hb0, hb1, hb2, hb3]) (by decide) (by decide)
  exfalso
  omega
noncomputable def ru_hG_size : Ru := ([(0, (1199, (0, (0, 0)))), (0, (1102, (0, (0, 0)))), (0, (1122, (0, (0, 0)))), (0, (1123, (0, (0, 0)))), (0, (1124, (0, (0, 0)))), (9, (24, (2, (1, 0)))), (9, (26, (2, (1, 0)))), (0, (1100, (0, (0, 0)))), (9, (23, (3, (1, 0)))), (9, (23, (3, (1, 1)))), (9, (23, (3, (1, 2)))), (9, (23, (3, (1, 3))))], ([], ([([(5, 1)], 1), ([(5, (-1))], (-1)), ([(3, (-1)), (6, 1)], 4), ([(3, 1), (6, (-1))], (-4)), ([(8, 1)], 115), ([(8, (-1))], (-115)), ([(9, 1)], 105), ([(9, (-1))], (-105)), ([(10, 1)], 122), ([(10, (-1))], (-122)), ([(11, 1)], 101), ([(11, (-1))], (-101)), ([(4, (-1))], (-27))], (true, ([], ([], ([], none)))))))
theorem rk_hG_size : RuOk SR ru_hG_size := by
  intro τ m g hi hc ha hS
  obtain ⟨i0, i1, i2, i3, i4, i5, i6, i7, i8, i9, i10, i11, _⟩ := hi
  have t1199 : τ 1199 = some (g 0) := i0
  have t1102 : τ 1102 = some (g 1) := i1
  have t1122 : τ 1122 = some (g 2) := i2
  have t1123 : τ 1123 = some (g 3) := i3
  have t1124 : τ 1124 = some (g 4) := i4
  obtain ⟨jk, uk, vk⟩ : ∃ j : Nat, 1 * g 2 + 0 = (j : Int) ∧ g 5 = m 24 j := i5
  obtain ⟨jv, uv, vv⟩ : ∃ j : Nat, 1 * g 2 + 0 = (j : Int) ∧ g 6 = m 26 j := i6
  have t1100 : τ 1100 = some (g 7) := i7
  obtain ⟨jb0, ub0, vb0⟩ : ∃ j : Nat, 1 * g 3 + 0 = (j : Int) ∧ g 8 = m 23 j := i8
  obtain ⟨jb1, ub1, vb1⟩ : ∃ j : Nat, 1 * g 3 + 1 = (j : Int) ∧ g 9 = m 23 j := i9
  obtain ⟨jb2, ub2, vb2⟩ : ∃ j : Nat, 1 * g 3 + 2 = (j : Int) ∧ g 10 = m 23 j := i10
  obtain ⟨jb3, ub3, vb3⟩ : ∃ j : Nat, 1 * g 3 + 3 = (j : Int) ∧ g 11 = m 23 j := i11
  obtain ⟨c0, c1, c2, c3, c4, c5, c6, c7, c8, c9, c10, c11, c12, _⟩ := hc
  have c0 : 1 * g 5 ≤ 1 := d1 c0
  have c1 : (-1) * g 5 ≤ (-1) := d1 c1
  have c2 : (-1) * g 3 + 1 * g 6 ≤ 4 := d2 c2
  have c3 : 1 * g 3 + (-1) * g 6 ≤ (-4) := d2 c3
  have c4 : 1 * g 8 ≤ 115 := d1 c4
  have c5 : (-1) * g 8 ≤ (-115) := d1 c5
  have c6 : 1 * g 9 ≤ 105 := d1 c6
  have c7 : (-1) * g 9 ≤ (-105) := d1 c7
  have c8 : 1 * g 10 ≤ 122 := d1 c8
  have c9 : (-1) * g 10 ≤ (-122) := d1 c9
  have c10 : 1 * g 11 ≤ 101 := d1 c10
  have c11 : (-1) * g 11 ≤ (-101) := d1 c11
  have c12 : (-1) * g 4 ≤ (-27) := d1 c12
  obtain ⟨h0, k_tok, k_sc1, k_sc2, k_T, k_I, k_F, k_N, k_Y, k_Z, k_A, k_B, k_C, k_X, k_R, k_f4⟩ := hS (by rw [t1199]; exact fun e => by cases e)
  have k_tok0 := k_tok
  obtain ⟨h_L, h_n, h_nF⟩ := k_tok0
  have k_I0 := k_I
  obtain ⟨h_p, h_pc, h_ip, h_iP, h_PC, h_PN⟩ := k_I0
  obtain ⟨hn0, _, hNT⟩ := h_nF _ t1102
  have hXL : ((tx9 m).2 : Int) = m 110 1 := by
    show (((m 110 1).toNat : Nat) : Int) = _
    omega
  obtain ⟨⟨hi0, hi1⟩, hpi⟩ := h_ip _ _ _ t1102 t1122 t1123
  have hTK := (h_nF _ t1102).2.1.1 (g 2).toNat (by omega)
  have hSL := St_L (X := tx9 m) (i := (g 2).toNat)
  have hcc := h_pc _ _ t1123 t1124
  rw [show (g 3).toNat = Tp9 (tx9 m) (g 2).toNat by omega] at hcc
  have hko := kd_of (X := tx9 m) (p := Tp9 (tx9 m) (g 2).toNat)
  rw [show jk = (g 2).toNat by omega] at vk
  rw [show jv = (g 2).toNat by omega] at vv
  have hL9 := h_L _ t1100
  have hTk := hTK.1.2
  have hk1 : kd9 (tx9 m) (Tp9 (tx9 m) (g 2).toNat) = 1 := by omega
  have hTe := hTK.2.1 hk1
  have hta := (te_al hk1).1
  have hb0 : by9 (tx9 m) ((Tp9 (tx9 m) (g 2).toNat) + 0) = 115 := by
    rw [by_m (by omega), ← hL9.2 ((Tp9 (tx9 m) (g 2).toNat) + 0) (by omega), show (Tp9 (tx9 m) (g 2).toNat) + 0 = jb0 by omega]
    omega
  have hb1 : by9 (tx9 m) ((Tp9 (tx9 m) (g 2).toNat) + 1) = 105 := by
    rw [by_m (by omega), ← hL9.2 ((Tp9 (tx9 m) (g 2).toNat) + 1) (by omega), show (Tp9 (tx9 m) (g 2).toNat) + 1 = jb1 by omega]
    omega
  have hb2 : by9 (tx9 m) ((Tp9 (tx9 m) (g 2).toNat) + 2) = 122 := by
    rw [by_m (by omega), ← hL9.2 ((Tp9 (tx9 m) (g 2).toNat) + 2) (by omega), show (Tp9 (tx9 m) (g 2).toNat) + 2 = jb2 by omega]
    omega
  have hb3 : by9 (tx9 m) ((Tp9 (tx9 m) (g 2).toNat) + 3) = 101 := by
    rw [by_m (by omega), ← hL9.2 ((Tp9 (tx9 m) (g 2).toNat) + 3) (by omega), show (Tp9 (tx9 m) (g 2).toNat) + 3 = jb3 by omega]
    omega
  have hrc := wd_to (X := tx9 m) (p := (Tp9 (tx9 m) (g 2).toNat)) (c := 26) (l := [115, 105, 122, 101]) hk1 (by show _ = _ + 4; omega) (by
    show [by9 (tx9 m) ((Tp9 (tx9 m) (g 2).toNat) + 0), by9 (tx9 m) ((Tp9 (tx9 m) (g 2).toNat) + 1), by9 (tx9 m) ((Tp9 (tx9 m) (g 2).toNat) + 2), by9 (tx9 m) ((Tp9 (tx9 m) (g 2).toNat) + 3)] = _
    rw [hb0, hb1, hb2, hb3]) (by decide) (by decide)
  exfalso
  omega
noncomputable def ru_hw_in : Ru := ([(0, (1199, (0, (0, 0)))), (0, (1102, (0, (0, 0)))), (0, (1122, (0, (0, 0)))), (0, (1123, (0, (0, 0)))), (0, (1124, (0, (0, 0)))), (17, (0, (3, (2, 0)))), (10, (0, (3, (0, 0)))), (4, (0, (0, (105, 0)))), (10, (0, (3, (1, 0)))), (4, (0, (0, (110, 0)))), (0, (1100, (0, (0, 0))))], ([], ([([(4, 1)], 29), ([(4, (-1))], (-29))], (false, ([], ([(26, (2, 5)), (23, (6, 7)), (23, (8, 9))], ([], none)))))))
theorem rk_hw_in : RuOk SR ru_hw_in := by
  intro τ m g hi hc ha hS
  obtain ⟨i0, i1, i2, i3, i4, i5, i6, i7, i8, i9, i10, _⟩ := hi
  have t1199 : τ 1199 = some (g 0) := i0
  have t1102 : τ 1102 = some (g 1) := i1
  have t1122 : τ 1122 = some (g 2) := i2
  have t1123 : τ 1123 = some (g 3) := i3
  have t1124 : τ 1124 = some (g 4) := i4
  have xe : g 5 = g 3 + 2 := i5
  have xx0 : g 6 = g 3 + 0 := i6
  have xb0 : g 7 = 105 := i7
  have xx1 : g 8 = g 3 + 1 := i8
  have xb1 : g 9 = 110 := i9
  have t1100 : τ 1100 = some (g 10) := i10
  obtain ⟨c0, c1, _⟩ := hc
  have c0 : 1 * g 4 ≤ 29 := d1 c0
  have c1 : (-1) * g 4 ≤ (-29) := d1 c1
  obtain ⟨h0, k_tok, k_sc1, k_sc2, k_T, k_I, k_F, k_N, k_Y, k_Z, k_A, k_B, k_C, k_X, k_R, k_f4⟩ := hS (by rw [t1199]; exact fun e => by cases e)
  have k_tok0 := k_tok
  obtain ⟨h_L, h_n, h_nF⟩ := k_tok0
  have k_I0 := k_I
  obtain ⟨h_p, h_pc, h_ip, h_iP, h_PC, h_PN⟩ := k_I0
  obtain ⟨hn0, _, hNT⟩ := h_nF _ t1102
  have hXL : ((tx9 m).2 : Int) = m 110 1 := by
    show (((m 110 1).toNat : Nat) : Int) = _
    omega
  obtain ⟨⟨hi0, hi1⟩, hpi⟩ := h_ip _ _ _ t1102 t1122 t1123
  have hTK := (h_nF _ t1102).2.1.1 (g 2).toNat (by omega)
  have hSL := St_L (X := tx9 m) (i := (g 2).toNat)
  have hcc := h_pc _ _ t1123 t1124
  rw [show (g 3).toNat = Tp9 (tx9 m) (g 2).toNat by omega] at hcc
  have hko := kd_of (X := tx9 m) (p := Tp9 (tx9 m) (g 2).toNat)
  have hL9 := h_L _ t1100
  obtain ⟨hk1, hte, hbs⟩ := wd_of (X := tx9 m) (p := (Tp9 (tx9 m) (g 2).toNat)) (c := 29) (v := 26990) (l := [105, 110]) (by omega) (by decide) (by decide) (by decide) (by decide) (by decide)
  have hte : te9 (tx9 m) (Tp9 (tx9 m) (g 2).toNat) = (Tp9 (tx9 m) (g 2).toNat) + 2 := hte
  have hta := (te_al hk1).1
  have hTe := hTK.2.1 hk1
  have hb0 : by9 (tx9 m) ((Tp9 (tx9 m) (g 2).toNat) + 0) = 105 := by
    have := congrArg (fun l => l[0]?) hbs
    exact Option.some.inj this
  have hm0 := by_m (m := m) (p := (Tp9 (tx9 m) (g 2).toNat) + 0) (by omega)
  have hl0 := hL9.2 ((Tp9 (tx9 m) (g 2).toNat) + 0) (by omega)
  have hb1 : by9 (tx9 m) ((Tp9 (tx9 m) (g 2).toNat) + 1) = 110 := by
    have := congrArg (fun l => l[1]?) hbs
    exact Option.some.inj this
  have hm1 := by_m (m := m) (p := (Tp9 (tx9 m) (g 2).toNat) + 1) (by omega)
  have hl1 := hL9.2 ((Tp9 (tx9 m) (g 2).toNat) + 1) (by omega)
  exact ⟨rfl, trivial, ⟨⟨(g 2).toNat, (show g 2 = (((g 2).toNat : Nat) : Int) by omega), (show g 5 = m 26 (g 2).toNat by omega)⟩, ⟨(Tp9 (tx9 m) (g 2).toNat) + 0, (show g 6 = (((Tp9 (tx9 m) (g 2).toNat) + 0 : Nat) : Int) by omega), (show g 7 = m 23 ((Tp9 (tx9 m) (g 2).toNat) + 0) by omega)⟩, ⟨(Tp9 (tx9 m) (g 2).toNat) + 1, (show g 8 = (((Tp9 (tx9 m) (g 2).toNat) + 1 : Nat) : Int) by omega), (show g 9 = m 23 ((Tp9 (tx9 m) (g 2).toNat) + 1) by omega)⟩, trivial⟩, fun _ => ⟨h0, k_tok, k_sc1, k_sc2, k_T, k_I, k_F, k_N, k_Y, k_Z, k_A, k_B, k_C, k_X, k_R, k_f4⟩⟩
noncomputable def ru_hL_in : Ru := ([(0, (1199, (0, (0, 0)))), (0, (1102, (0, (0, 0)))), (0, (1122, (0, (0, 0)))), (0, (1123, (0, (0, 0)))), (0, (1124, (0, (0, 0)))), (9, (24, (2, (1, 0)))), (9, (26, (2, (1, 0)))), (0, (1100, (0, (0, 0)))), (9, (23, (3, (1, 0)))), (9, (23, (3, (1, 1))))], ([], ([([(5, 1)], 1), ([(5, (-1))], (-1)), ([(3, (-1)), (6, 1)], 2), ([(3, 1), (6, (-1))], (-2)), ([(8, 1)], 105), ([(8, (-1))], (-105)), ([(9, 1)], 110), ([(9, (-1))], (-110)), ([(4, 1)], 28)], (true, ([], ([], ([], none)))))))
theorem rk_hL_in : RuOk SR ru_hL_in := by
  intro τ m g hi hc ha hS
  obtain ⟨i0, i1, i2, i3, i4, i5, i6, i7, i8, i9, _⟩ := hi
  have t1199 : τ 1199 = some (g 0) := i0
  have t1102 : τ 1102 = some (g 1) := i1
  have t1122 : τ 1122 = some (g 2) := i2
  have t1123 : τ 1123 = some (g 3) := i3
  have t1124 : τ 1124 = some (g 4) := i4
  obtain ⟨jk, uk, vk⟩ : ∃ j : Nat, 1 * g 2 + 0 = (j : Int) ∧ g 5 = m 24 j := i5
  obtain ⟨jv, uv, vv⟩ : ∃ j : Nat, 1 * g 2 + 0 = (j : Int) ∧ g 6 = m 26 j := i6
  have t1100 : τ 1100 = some (g 7) := i7
  obtain ⟨jb0, ub0, vb0⟩ : ∃ j : Nat, 1 * g 3 + 0 = (j : Int) ∧ g 8 = m 23 j := i8
  obtain ⟨jb1, ub1, vb1⟩ : ∃ j : Nat, 1 * g 3 + 1 = (j : Int) ∧ g 9 = m 23 j := i9
  obtain ⟨c0, c1, c2, c3, c4, c5, c6, c7, c8, _⟩ := hc
  have c0 : 1 * g 5 ≤ 1 := d1 c0
  have c1 : (-1) * g 5 ≤ (-1) := d1 c1
  have c2 : (-1) * g 3 + 1 * g 6 ≤ 2 := d2 c2
  have c3 : 1 * g 3 + (-1) * g 6 ≤ (-2) := d2 c3
  have c4 : 1 * g 8 ≤ 105 := d1 c4
  have c5 : (-1) * g 8 ≤ (-105) := d1 c5
  have c6 : 1 * g 9 ≤ 110 := d1 c6
  have c7 : (-1) * g 9 ≤ (-110) := d1 c7
  have c8 : 1 * g 4 ≤ 28 := d1 c8
  obtain ⟨h0, k_tok, k_sc1, k_sc2, k_T, k_I, k_F, k_N, k_Y, k_Z, k_A, k_B, k_C, k_X, k_R, k_f4⟩ := hS (by rw [t1199]; exact fun e => by cases e)
  have k_tok0 := k_tok
  obtain ⟨h_L, h_n, h_nF⟩ := k_tok0
  have k_I0 := k_I
  obtain ⟨h_p, h_pc, h_ip, h_iP, h_PC, h_PN⟩ := k_I0
  obtain ⟨hn0, _, hNT⟩ := h_nF _ t1102
  have hXL : ((tx9 m).2 : Int) = m 110 1 := by
    show (((m 110 1).toNat : Nat) : Int) = _
    omega
  obtain ⟨⟨hi0, hi1⟩, hpi⟩ := h_ip _ _ _ t1102 t1122 t1123
  have hTK := (h_nF _ t1102).2.1.1 (g 2).toNat (by omega)
  have hSL := St_L (X := tx9 m) (i := (g 2).toNat)
  have hcc := h_pc _ _ t1123 t1124
  rw [show (g 3).toNat = Tp9 (tx9 m) (g 2).toNat by omega] at hcc
  have hko := kd_of (X := tx9 m) (p := Tp9 (tx9 m) (g 2).toNat)
  rw [show jk = (g 2).toNat by omega] at vk
  rw [show jv = (g 2).toNat by omega] at vv
  have hL9 := h_L _ t1100
  have hTk := hTK.1.2
  have hk1 : kd9 (tx9 m) (Tp9 (tx9 m) (g 2).toNat) = 1 := by omega
  have hTe := hTK.2.1 hk1
  have hta := (te_al hk1).1
  have hb0 : by9 (tx9 m) ((Tp9 (tx9 m) (g 2).toNat) + 0) = 105 := by
    rw [by_m (by omega), ← hL9.2 ((Tp9 (tx9 m) (g 2).toNat) + 0) (by omega), show (Tp9 (tx9 m) (g 2).toNat) + 0 = jb0 by omega]
    omega
  have hb1 : by9 (tx9 m) ((Tp9 (tx9 m) (g 2).toNat) + 1) = 110 := by
    rw [by_m (by omega), ← hL9.2 ((Tp9 (tx9 m) (g 2).toNat) + 1) (by omega), show (Tp9 (tx9 m) (g 2).toNat) + 1 = jb1 by omega]
    omega
  have hrc := wd_to (X := tx9 m) (p := (Tp9 (tx9 m) (g 2).toNat)) (c := 29) (l := [105, 110]) hk1 (by show _ = _ + 2; omega) (by
    show [by9 (tx9 m) ((Tp9 (tx9 m) (g 2).toNat) + 0), by9 (tx9 m) ((Tp9 (tx9 m) (g 2).toNat) + 1)] = _
    rw [hb0, hb1]) (by decide) (by decide)
  exfalso
  omega
noncomputable def ru_hG_in : Ru := ([(0, (1199, (0, (0, 0)))), (0, (1102, (0, (0, 0)))), (0, (1122, (0, (0, 0)))), (0, (1123, (0, (0, 0)))), (0, (1124, (0, (0, 0)))), (9, (24, (2, (1, 0)))), (9, (26, (2, (1, 0)))), (0, (1100, (0, (0, 0)))), (9, (23, (3, (1, 0)))), (9, (23, (3, (1, 1))))], ([], ([([(5, 1)], 1), ([(5, (-1))], (-1)), ([(3, (-1)), (6, 1)], 2), ([(3, 1), (6, (-1))], (-2)), ([(8, 1)], 105), ([(8, (-1))], (-105)), ([(9, 1)], 110), ([(9, (-1))], (-110)), ([(4, (-1))], (-30))], (true, ([], ([], ([], none)))))))
theorem rk_hG_in : RuOk SR ru_hG_in := by
  intro τ m g hi hc ha hS
  obtain ⟨i0, i1, i2, i3, i4, i5, i6, i7, i8, i9, _⟩ := hi
  have t1199 : τ 1199 = some (g 0) := i0
  have t1102 : τ 1102 = some (g 1) := i1
  have t1122 : τ 1122 = some (g 2) := i2
  have t1123 : τ 1123 = some (g 3) := i3
  have t1124 : τ 1124 = some (g 4) := i4
  obtain ⟨jk, uk, vk⟩ : ∃ j : Nat, 1 * g 2 + 0 = (j : Int) ∧ g 5 = m 24 j := i5
  obtain ⟨jv, uv, vv⟩ : ∃ j : Nat, 1 * g 2 + 0 = (j : Int) ∧ g 6 = m 26 j := i6
  have t1100 : τ 1100 = some (g 7) := i7
  obtain ⟨jb0, ub0, vb0⟩ : ∃ j : Nat, 1 * g 3 + 0 = (j : Int) ∧ g 8 = m 23 j := i8
  obtain ⟨jb1, ub1, vb1⟩ : ∃ j : Nat, 1 * g 3 + 1 = (j : Int) ∧ g 9 = m 23 j := i9
  obtain ⟨c0, c1, c2, c3, c4, c5, c6, c7, c8, _⟩ := hc
  have c0 : 1 * g 5 ≤ 1 := d1 c0
  have c1 : (-1) * g 5 ≤ (-1) := d1 c1
  have c2 : (-1) * g 3 + 1 * g 6 ≤ 2 := d2 c2
  have c3 : 1 * g 3 + (-1) * g 6 ≤ (-2) := d2 c3
  have c4 : 1 * g 8 ≤ 105 := d1 c4
  have c5 : (-1) * g 8 ≤ (-105) := d1 c5
  have c6 : 1 * g 9 ≤ 110 := d1 c6
  have c7 : (-1) * g 9 ≤ (-110) := d1 c7
  have c8 : (-1) * g 4 ≤ (-30) := d1 c8
  obtain ⟨h0, k_tok, k_sc1, k_sc2, k_T, k_I, k_F, k_N, k_Y, k_Z, k_A, k_B, k_C, k_X, k_R, k_f4⟩ := hS (by rw [t1199]; exact fun e => by cases e)
  have k_tok0 := k_tok
  obtain ⟨h_L, h_n, h_nF⟩ := k_tok0
  have k_I0 := k_I
  obtain ⟨h_p, h_pc, h_ip, h_iP, h_PC, h_PN⟩ := k_I0
  obtain ⟨hn0, _, hNT⟩ := h_nF _ t1102
  have hXL : ((tx9 m).2 : Int) = m 110 1 := by
    show (((m 110 1).toNat : Nat) : Int) = _
    omega
  obtain ⟨⟨hi0, hi1⟩, hpi⟩ := h_ip _ _ _ t1102 t1122 t1123
  have hTK := (h_nF _ t1102).2.1.1 (g 2).toNat (by omega)
  have hSL := St_L (X := tx9 m) (i := (g 2).toNat)
  have hcc := h_pc _ _ t1123 t1124
  rw [show (g 3).toNat = Tp9 (tx9 m) (g 2).toNat by omega] at hcc
  have hko := kd_of (X := tx9 m) (p := Tp9 (tx9 m) (g 2).toNat)
  rw [show jk = (g 2).toNat by omega] at vk
  rw [show jv = (g 2).toNat by omega] at vv
  have hL9 := h_L _ t1100
  have hTk := hTK.1.2
  have hk1 : kd9 (tx9 m) (Tp9 (tx9 m) (g 2).toNat) = 1 := by omega
  have hTe := hTK.2.1 hk1
  have hta := (te_al hk1).1
  have hb0 : by9 (tx9 m) ((Tp9 (tx9 m) (g 2).toNat) + 0) = 105 := by
    rw [by_m (by omega), ← hL9.2 ((Tp9 (tx9 m) (g 2).toNat) + 0) (by omega), show (Tp9 (tx9 m) (g 2).toNat) + 0 = jb0 by omega]
    omega
  have hb1 : by9 (tx9 m) ((Tp9 (tx9 m) (g 2).toNat) + 1) = 110 := by
    rw [by_m (by omega), ← hL9.2 ((Tp9 (tx9 m) (g 2).toNat) + 1) (by omega), show (Tp9 (tx9 m) (g 2).toNat) + 1 = jb1 by omega]
    omega
  have hrc := wd_to (X := tx9 m) (p := (Tp9 (tx9 m) (g 2).toNat)) (c := 29) (l := [105, 110]) hk1 (by show _ = _ + 2; omega) (by
    show [by9 (tx9 m) ((Tp9 (tx9 m) (g 2).toNat) + 0), by9 (tx9 m) ((Tp9 (tx9 m) (g 2).toNat) + 1)] = _
    rw [hb0, hb1]) (by decide) (by decide)
  exfalso
  omega
noncomputable def ru_hw_and : Ru := ([(0, (1199, (0, (0, 0)))), (0, (1102, (0, (0, 0)))), (0, (1122, (0, (0, 0)))), (0, (1123, (0, (0, 0)))), (0, (1124, (0, (0, 0)))), (17, (0, (3, (3, 0)))), (10, (0, (3, (0, 0)))), (4, (0, (0, (97, 0)))), (10, (0, (3, (1, 0)))), (4, (0, (0, (110, 0)))), (10, (0, (3, (2, 0)))), (4, (0, (0, (100, 0)))), (0, (1100, (0, (0, 0))))], ([], ([([(4, 1)], 30), ([(4, (-1))], (-30))], (false, ([], ([(26, (2, 5)), (23, (6, 7)), (23, (8, 9)), (23, (10, 11))], ([], none)))))))
theorem rk_hw_and : RuOk SR ru_hw_and := by
  intro τ m g hi hc ha hS
  obtain ⟨i0, i1, i2, i3, i4, i5, i6, i7, i8, i9, i10, i11, i12, _⟩ := hi
  have t1199 : τ 1199 = some (g 0) := i0
  have t1102 : τ 1102 = some (g 1) := i1
  have t1122 : τ 1122 = some (g 2) := i2
  have t1123 : τ 1123 = some (g 3) := i3
  have t1124 : τ 1124 = some (g 4) := i4
  have xe : g 5 = g 3 + 3 := i5
  have xx0 : g 6 = g 3 + 0 := i6
  have xb0 : g 7 = 97 := i7
  have xx1 : g 8 = g 3 + 1 := i8
  have xb1 : g 9 = 110 := i9
  have xx2 : g 10 = g 3 + 2 := i10
  have xb2 : g 11 = 100 := i11
  have t1100 : τ 1100 = some (g 12) := i12
  obtain ⟨c0, c1, _⟩ := hc
  have c0 : 1 * g 4 ≤ 30 := d1 c0
  have c1 : (-1) * g 4 ≤ (-30) := d1 c1
  obtain ⟨h0, k_tok, k_sc1, k_sc2, k_T, k_I, k_F, k_N, k_Y, k_Z, k_A, k_B, k_C, k_X, k_R, k_f4⟩ := hS (by rw [t1199]; exact fun e => by cases e)
  have k_tok0 := k_tok
  obtain ⟨h_L, h_n, h_nF⟩ := k_tok0
  have k_I0 := k_I
  obtain ⟨h_p, h_pc, h_ip, h_iP, h_PC, h_PN⟩ := k_I0
  obtain ⟨hn0, _, hNT⟩ := h_nF _ t1102
  have hXL : ((tx9 m).2 : Int) = m 110 1 := by
    show (((m 110 1).toNat : Nat) : Int) = _
    omega
  obtain ⟨⟨hi0, hi1⟩, hpi⟩ := h_ip _ _ _ t1102 t1122 t1123
  have hTK := (h_nF _ t1102).2.1.1 (g 2).toNat (by omega)
  have hSL := St_L (X := tx9 m) (i := (g 2).toNat)
  have hcc := h_pc _ _ t1123 t1124
  rw [show (g 3).toNat = Tp9 (tx9 m) (g 2).toNat by omega] at hcc
  have hko := kd_of (X := tx9 m) (p := Tp9 (tx9 m) (g 2).toNat)
  have hL9 := h_L _ t1100
  obtain ⟨hk1, hte, hbs⟩ := wd_of (X := tx9 m) (p := (Tp9 (tx9 m) (g 2).toNat)) (c := 30) (v := 6385252) (l := [97, 110, 100]) (by omega) (by decide) (by decide) (by decide) (by decide) (by decide)
  have hte : te9 (tx9 m) (Tp9 (tx9 m) (g 2).toNat) = (Tp9 (tx9 m) (g 2).toNat) + 3 := hte
  have hta := (te_al hk1).1
  have hTe := hTK.2.1 hk1
  have hb0 : by9 (tx9 m) ((Tp9 (tx9 m) (g 2).toNat) + 0) = 97 := by
    have := congrArg (fun l => l[0]?) hbs
    exact Option.some.inj this
  have hm0 := by_m (m := m) (p := (Tp9 (tx9 m) (g 2).toNat) + 0) (by omega)
  have hl0 := hL9.2 ((Tp9 (tx9 m) (g 2).toNat) + 0) (by omega)
  have hb1 : by9 (tx9 m) ((Tp9 (tx9 m) (g 2).toNat) + 1) = 110 := by
    have := congrArg (fun l => l[1]?) hbs
    exact Option.some.inj this
  have hm1 := by_m (m := m) (p := (Tp9 (tx9 m) (g 2).toNat) + 1) (by omega)
  have hl1 := hL9.2 ((Tp9 (tx9 m) (g 2).toNat) + 1) (by omega)
  have hb2 : by9 (tx9 m) ((Tp9 (tx9 m) (g 2).toNat) + 2) = 100 := by
    have := congrArg (fun l => l[2]?) hbs
    exact Option.some.inj this
  have hm2 := by_m (m := m) (p := (Tp9 (tx9 m) (g 2).toNat) + 2) (by omega)
  have hl2 := hL9.2 ((Tp9 (tx9 m) (g 2).toNat) + 2) (by omega)
  exact ⟨rfl, trivial, ⟨⟨(g 2).toNat, (show g 2 = (((g 2).toNat : Nat) : Int) by omega), (show g 5 = m 26 (g 2).toNat by omega)⟩, ⟨(Tp9 (tx9 m) (g 2).toNat) + 0, (show g 6 = (((Tp9 (tx9 m) (g 2).toNat) + 0 : Nat) : Int) by omega), (show g 7 = m 23 ((Tp9 (tx9 m) (g 2).toNat) + 0) by omega)⟩, ⟨(Tp9 (tx9 m) (g 2).toNat) + 1, (show g 8 = (((Tp9 (tx9 m) (g 2).toNat) + 1 : Nat) : Int) by omega), (show g 9 = m 23 ((Tp9 (tx9 m) (g 2).toNat) + 1) by omega)⟩, ⟨(Tp9 (tx9 m) (g 2).toNat) + 2, (show g 10 = (((Tp9 (tx9 m) (g 2).toNat) + 2 : Nat) : Int) by omega), (show g 11 = m 23 ((Tp9 (tx9 m) (g 2).toNat) + 2) by omega)⟩, trivial⟩, fun _ => ⟨h0, k_tok, k_sc1, k_sc2, k_T, k_I, k_F, k_N, k_Y, k_Z, k_A, k_B, k_C, k_X, k_R, k_f4⟩⟩
noncomputable def ru_hL_and : Ru := ([(0, (1199, (0, (0, 0)))), (0, (1102, (0, (0, 0)))), (0, (1122, (0, (0, 0)))), (0, (1123, (0, (0, 0)))), (0, (1124, (0, (0, 0)))), (9, (24, (2, (1, 0)))), (9, (26, (2, (1, 0)))), (0, (1100, (0, (0, 0)))), (9, (23, (3, (1, 0)))), (9, (23, (3, (1, 1)))), (9, (23, (3, (1, 2))))], ([], ([([(5, 1)], 1), ([(5, (-1))], (-1)), ([(3, (-1)), (6, 1)], 3), ([(3, 1), (6, (-1))], (-3)), ([(8, 1)], 97), ([(8, (-1))], (-97)), ([(9, 1)], 110), ([(9, (-1))], (-110)), ([(10, 1)], 100), ([(10, (-1))], (-100)), ([(4, 1)], 29)], (true, ([], ([], ([], none)))))))
theorem rk_hL_and : RuOk SR ru_hL_and := by
  intro τ m g hi hc ha hS
  obtain ⟨i0, i1, i2, i3, i4, i5, i6, i7, i8, i9, i10, _⟩ := hi
  have t1199 : τ 1199 = some (g 0) := i0
  have t1102 : τ 1102 = some (g 1) := i1
  have t1122 : τ 1122 = some (g 2) := i2
  have t1123 : τ 1123 = some (g 3) := i3
  have t1124 : τ 1124 = some (g 4) := i4
  obtain ⟨jk, uk, vk⟩ : ∃ j : Nat, 1 * g 2 + 0 = (j : Int) ∧ g 5 = m 24 j := i5
  obtain ⟨jv, uv, vv⟩ : ∃ j : Nat, 1 * g 2 + 0 = (j : Int) ∧ g 6 = m 26 j := i6
  have t1100 : τ 1100 = some (g 7) := i7
  obtain ⟨jb0, ub0, vb0⟩ : ∃ j : Nat, 1 * g 3 + 0 = (j : Int) ∧ g 8 = m 23 j := i8
  obtain ⟨jb1, ub1, vb1⟩ : ∃ j : Nat, 1 * g 3 + 1 = (j : Int) ∧ g 9 = m 23 j := i9
  obtain ⟨jb2, ub2, vb2⟩ : ∃ j : Nat, 1 * g 3 + 2 = (j : Int) ∧ g 10 = m 23 j := i10
  obtain ⟨c0, c1, c2, c3, c4, c5, c6, c7, c8, c9, c10, _⟩ := hc
  have c0 : 1 * g 5 ≤ 1 := d1 c0
  have c1 : (-1) * g 5 ≤ (-1) := d1 c1
  have c2 : (-1) * g 3 + 1 * g 6 ≤ 3 := d2 c2
  have c3 : 1 * g 3 + (-1) * g 6 ≤ (-3) := d2 c3
  have c4 : 1 * g 8 ≤ 97 := d1 c4
  have c5 : (-1) * g 8 ≤ (-97) := d1 c5
  have c6 : 1 * g 9 ≤ 110 := d1 c6
  have c7 : (-1) * g 9 ≤ (-110) := d1 c7
  have c8 : 1 * g 10 ≤ 100 := d1 c8
  have c9 : (-1) * g 10 ≤ (-100) := d1 c9
  have c10 : 1 * g 4 ≤ 29 := d1 c10
  obtain ⟨h0, k_tok, k_sc1, k_sc2, k_T, k_I, k_F, k_N, k_Y, k_Z, k_A, k_B, k_C, k_X, k_R, k_f4⟩ := hS (by rw [t1199]; exact fun e => by cases e)
  have k_tok0 := k_tok
  obtain ⟨h_L, h_n, h_nF⟩ := k_tok0
  have k_I0 := k_I
  obtain ⟨h_p, h_pc, h_ip, h_iP, h_PC, h_PN⟩ := k_I0
  obtain ⟨hn0, _, hNT⟩ := h_nF _ t1102
  have hXL : ((tx9 m).2 : Int) = m 110 1 := by
    show (((m 110 1).toNat : Nat) : Int) = _
    omega
  obtain ⟨⟨hi0, hi1⟩, hpi⟩ := h_ip _ _ _ t1102 t1122 t1123
  have hTK := (h_nF _ t1102).2.1.1 (g 2).toNat (by omega)
  have hSL := St_L (X := tx9 m) (i := (g 2).toNat)
  have hcc := h_pc _ _ t1123 t1124
  rw [show (g 3).toNat = Tp9 (tx9 m) (g 2).toNat by omega] at hcc
  have hko := kd_of (X := tx9 m) (p := Tp9 (tx9 m) (g 2).toNat)
  rw [show jk = (g 2).toNat by omega] at vk
  rw [show jv = (g 2).toNat by omega] at vv
  have hL9 := h_L _ t1100
  have hTk := hTK.1.2
  have hk1 : kd9 (tx9 m) (Tp9 (tx9 m) (g 2).toNat) = 1 := by omega
  have hTe := hTK.2.1 hk1
  have hta := (te_al hk1).1
  have hb0 : by9 (tx9 m) ((Tp9 (tx9 m) (g 2).toNat) + 0) = 97 := by
    rw [by_m (by omega), ← hL9.2 ((Tp9 (tx9 m) (g 2).toNat) + 0) (by omega), show (Tp9 (tx9 m) (g 2).toNat) + 0 = jb0 by omega]
    omega
  have hb1 : by9 (tx9 m) ((Tp9 (tx9 m) (g 2).toNat) + 1) = 110 := by
    rw [by_m (by omega), ← hL9.2 ((Tp9 (tx9 m) (g 2).toNat) + 1) (by omega), show (Tp9 (tx9 m) (g 2).toNat) + 1 = jb1 by omega]
    omega
  have hb2 : by9 (tx9 m) ((Tp9 (tx9 m) (g 2).toNat) + 2) = 100 := by
    rw [by_m (by omega), ← hL9.2 ((Tp9 (tx9 m) (g 2).toNat) + 2) (by omega), show (Tp9 (tx9 m) (g 2).toNat) + 2 = jb2 by omega]
    omega
  have hrc := wd_to (X := tx9 m) (p := (Tp9 (tx9 m) (g 2).toNat)) (c := 30) (l := [97, 110, 100]) hk1 (by show _ = _ + 3; omega) (by
    show [by9 (tx9 m) ((Tp9 (tx9 m) (g 2).toNat) + 0), by9 (tx9 m) ((Tp9 (tx9 m) (g 2).toNat) + 1), by9 (tx9 m) ((Tp9 (tx9 m) (g 2).toNat) + 2)] = _
    rw [hb0, hb1, hb2]) (by decide) (by decide)
  exfalso
  omega
noncomputable def ru_hG_and : Ru := ([(0, (1199, (0, (0, 0)))), (0, (1102, (0, (0, 0)))), (0, (1122, (0, (0, 0)))), (0, (1123, (0, (0, 0)))), (0, (1124, (0, (0, 0)))), (9, (24, (2, (1, 0)))), (9, (26, (2, (1, 0)))), (0, (1100, (0, (0, 0)))), (9, (23, (3, (1, 0)))), (9, (23, (3, (1, 1)))), (9, (23, (3, (1, 2))))], ([], ([([(5, 1)], 1), ([(5, (-1))], (-1)), ([(3, (-1)), (6, 1)], 3), ([(3, 1), (6, (-1))], (-3)), ([(8, 1)], 97), ([(8, (-1))], (-97)), ([(9, 1)], 110), ([(9, (-1))], (-110)), ([(10, 1)], 100), ([(10, (-1))], (-100)), ([(4, (-1))], (-31))], (true, ([], ([], ([], none)))))))
theorem rk_hG_and : RuOk SR ru_hG_and := by
  intro τ m g hi hc ha hS
  obtain ⟨i0, i1, i2, i3, i4, i5, i6, i7, i8, i9, i10, _⟩ := hi
  have t1199 : τ 1199 = some (g 0) := i0
  have t1102 : τ 1102 = some (g 1) := i1
  have t1122 : τ 1122 = some (g 2) := i2
  have t1123 : τ 1123 = some (g 3) := i3
  have t1124 : τ 1124 = some (g 4) := i4
  obtain ⟨jk, uk, vk⟩ : ∃ j : Nat, 1 * g 2 + 0 = (j : Int) ∧ g 5 = m 24 j := i5
  obtain ⟨jv, uv, vv⟩ : ∃ j : Nat, 1 * g 2 + 0 = (j : Int) ∧ g 6 = m 26 j := i6
  have t1100 : τ 1100 = some (g 7) := i7
  obtain ⟨jb0, ub0, vb0⟩ : ∃ j : Nat, 1 * g 3 + 0 = (j : Int) ∧ g 8 = m 23 j := i8
  obtain ⟨jb1, ub1, vb1⟩ : ∃ j : Nat, 1 * g 3 + 1 = (j : Int) ∧ g 9 = m 23 j := i9
  obtain ⟨jb2, ub2, vb2⟩ : ∃ j : Nat, 1 * g 3 + 2 = (j : Int) ∧ g 10 = m 23 j := i10
  obtain ⟨c0, c1, c2, c3, c4, c5, c6, c7, c8, c9, c10, _⟩ := hc
  have c0 : 1 * g 5 ≤ 1 := d1 c0
  have c1 : (-1) * g 5 ≤ (-1) := d1 c1
  have c2 : (-1) * g 3 + 1 * g 6 ≤ 3 := d2 c2
  have c3 : 1 * g 3 + (-1) * g 6 ≤ (-3) := d2 c3
  have c4 : 1 * g 8 ≤ 97 := d1 c4
  have c5 : (-1) * g 8 ≤ (-97) := d1 c5
  have c6 : 1 * g 9 ≤ 110 := d1 c6
  have c7 : (-1) * g 9 ≤ (-110) := d1 c7
  have c8 : 1 * g 10 ≤ 100 := d1 c8
  have c9 : (-1) * g 10 ≤ (-100) := d1 c9
  have c10 : (-1) * g 4 ≤ (-31) := d1 c10
  obtain ⟨h0, k_tok, k_sc1, k_sc2, k_T, k_I, k_F, k_N, k_Y, k_Z, k_A, k_B, k_C, k_X, k_R, k_f4⟩ := hS (by rw [t1199]; exact fun e => by cases e)
  have k_tok0 := k_tok
  obtain ⟨h_L, h_n, h_nF⟩ := k_tok0
  have k_I0 := k_I
  obtain ⟨h_p, h_pc, h_ip, h_iP, h_PC, h_PN⟩ := k_I0
  obtain ⟨hn0, _, hNT⟩ := h_nF _ t1102
  have hXL : ((tx9 m).2 : Int) = m 110 1 := by
    show (((m 110 1).toNat : Nat) : Int) = _
    omega
  obtain ⟨⟨hi0, hi1⟩, hpi⟩ := h_ip _ _ _ t1102 t1122 t1123
  have hTK := (h_nF _ t1102).2.1.1 (g 2).toNat (by omega)
  have hSL := St_L (X := tx9 m) (i := (g 2).toNat)
  have hcc := h_pc _ _ t1123 t1124
  rw [show (g 3).toNat = Tp9 (tx9 m) (g 2).toNat by omega] at hcc
  have hko := kd_of (X := tx9 m) (p := Tp9 (tx9 m) (g 2).toNat)
  rw [show jk = (g 2).toNat by omega] at vk
  rw [show jv = (g 2).toNat by omega] at vv
  have hL9 := h_L _ t1100
  have hTk := hTK.1.2
  have hk1 : kd9 (tx9 m) (Tp9 (tx9 m) (g 2).toNat) = 1 := by omega
  have hTe := hTK.2.1 hk1
  have hta := (te_al hk1).1
  have hb0 : by9 (tx9 m) ((Tp9 (tx9 m) (g 2).toNat) + 0) = 97 := by
    rw [by_m (by omega), ← hL9.2 ((Tp9 (tx9 m) (g 2).toNat) + 0) (by omega), show (Tp9 (tx9 m) (g 2).toNat) + 0 = jb0 by omega]
    omega
  have hb1 : by9 (tx9 m) ((Tp9 (tx9 m) (g 2).toNat) + 1) = 110 := by
    rw [by_m (by omega), ← hL9.2 ((Tp9 (tx9 m) (g 2).toNat) + 1) (by omega), show (Tp9 (tx9 m) (g 2).toNat) + 1 = jb1 by omega]
    omega
  have hb2 : by9 (tx9 m) ((Tp9 (tx9 m) (g 2).toNat) + 2) = 100 := by
    rw [by_m (by omega), ← hL9.2 ((Tp9 (tx9 m) (g 2).toNat) + 2) (by omega), show (Tp9 (tx9 m) (g 2).toNat) + 2 = jb2 by omega]
    omega
  have hrc := wd_to (X := tx9 m) (p := (Tp9 (tx9 m) (g 2).toNat)) (c := 30) (l := [97, 110, 100]) hk1 (by show _ = _ + 3; omega) (by
    show [by9 (tx9 m) ((Tp9 (tx9 m) (g 2).toNat) + 0), by9 (tx9 m) ((Tp9 (tx9 m) (g 2).toNat) + 1), by9 (tx9 m) ((Tp9 (tx9 m) (g 2).toNat) + 2)] = _
    rw [hb0, hb1, hb2]) (by decide) (by decide)
  exfalso
  omega
noncomputable def ru_hw_or : Ru := ([(0, (1199, (0, (0, 0)))), (0, (1102, (0, (0, 0)))), (0, (1122, (0, (0, 0)))), (0, (1123, (0, (0, 0)))), (0, (1124, (0, (0, 0)))), (17, (0, (3, (2, 0)))), (10, (0, (3, (0, 0)))), (4, (0, (0, (111, 0)))), (10, (0, (3, (1, 0)))), (4, (0, (0, (114, 0)))), (0, (1100, (0, (0, 0))))], ([], ([([(4, 1)], 31), ([(4, (-1))], (-31))], (false, ([], ([(26, (2, 5)), (23, (6, 7)), (23, (8, 9))], ([], none)))))))
theorem rk_hw_or : RuOk SR ru_hw_or := by
  intro τ m g hi hc ha hS
  obtain ⟨i0, i1, i2, i3, i4, i5, i6, i7, i8, i9, i10, _⟩ := hi
  have t1199 : τ 1199 = some (g 0) := i0
  have t1102 : τ 1102 = some (g 1) := i1
  have t1122 : τ 1122 = some (g 2) := i2
  have t1123 : τ 1123 = some (g 3) := i3
  have t1124 : τ 1124 = some (g 4) := i4
  have xe : g 5 = g 3 + 2 := i5
  have xx0 : g 6 = g 3 + 0 := i6
  have xb0 : g 7 = 111 := i7
  have xx1 : g 8 = g 3 + 1 := i8
  have xb1 : g 9 = 114 := i9
  have t1100 : τ 1100 = some (g 10) := i10
  obtain ⟨c0, c1, _⟩ := hc
  have c0 : 1 * g 4 ≤ 31 := d1 c0
  have c1 : (-1) * g 4 ≤ (-31) := d1 c1
  obtain ⟨h0, k_tok, k_sc1, k_sc2, k_T, k_I, k_F, k_N, k_Y, k_Z, k_A, k_B, k_C, k_X, k_R, k_f4⟩ := hS (by rw [t1199]; exact fun e => by cases e)
  have k_tok0 := k_tok
  obtain ⟨h_L, h_n, h_nF⟩ := k_tok0
  have k_I0 := k_I
  obtain ⟨h_p, h_pc, h_ip, h_iP, h_PC, h_PN⟩ := k_I0
  obtain ⟨hn0, _, hNT⟩ := h_nF _ t1102
  have hXL : ((tx9 m).2 : Int) = m 110 1 := by
    show (((m 110 1).toNat : Nat) : Int) = _
    omega
  obtain ⟨⟨hi0, hi1⟩, hpi⟩ := h_ip _ _ _ t1102 t1122 t1123
  have hTK := (h_nF _ t1102).2.1.1 (g 2).toNat (by omega)
  have hSL := St_L (X := tx9 m) (i := (g 2).toNat)
  have hcc := h_pc _ _ t1123 t1124
  rw [show (g 3).toNat = Tp9 (tx9 m) (g 2).toNat by omega] at hcc
  have hko := kd_of (X := tx9 m) (p := Tp9 (tx9 m) (g 2).toNat)
  have hL9 := h_L _ t1100
  obtain ⟨hk1, hte, hbs⟩ := wd_of (X := tx9 m) (p := (Tp9 (tx9 m) (g 2).toNat)) (c := 31) (v := 28530) (l := [111, 114]) (by omega) (by decide) (by decide) (by decide) (by decide) (by decide)
  have hte : te9 (tx9 m) (Tp9 (tx9 m) (g 2).toNat) = (Tp9 (tx9 m) (g 2).toNat) + 2 := hte
  have hta := (te_al hk1).1
  have hTe := hTK.2.1 hk1
  have hb0 : by9 (tx9 m) ((Tp9 (tx9 m) (g 2).toNat) + 0) = 111 := by
    have := congrArg (fun l => l[0]?) hbs
    exact Option.some.inj this
  have hm0 := by_m (m := m) (p := (Tp9 (tx9 m) (g 2).toNat) + 0) (by omega)
  have hl0 := hL9.2 ((Tp9 (tx9 m) (g 2).toNat) + 0) (by omega)
  have hb1 : by9 (tx9 m) ((Tp9 (tx9 m) (g 2).toNat) + 1) = 114 := by
    have := congrArg (fun l => l[1]?) hbs
    exact Option.some.inj this
  have hm1 := by_m (m := m) (p := (Tp9 (tx9 m) (g 2).toNat) + 1) (by omega)
  have hl1 := hL9.2 ((Tp9 (tx9 m) (g 2).toNat) + 1) (by omega)
  exact ⟨rfl, trivial, ⟨⟨(g 2).toNat, (show g 2 = (((g 2).toNat : Nat) : Int) by omega), (show g 5 = m 26 (g 2).toNat by omega)⟩, ⟨(Tp9 (tx9 m) (g 2).toNat) + 0, (show g 6 = (((Tp9 (tx9 m) (g 2).toNat) + 0 : Nat) : Int) by omega), (show g 7 = m 23 ((Tp9 (tx9 m) (g 2).toNat) + 0) by omega)⟩, ⟨(Tp9 (tx9 m) (g 2).toNat) + 1, (show g 8 = (((Tp9 (tx9 m) (g 2).toNat) + 1 : Nat) : Int) by omega), (show g 9 = m 23 ((Tp9 (tx9 m) (g 2).toNat) + 1) by omega)⟩, trivial⟩, fun _ => ⟨h0, k_tok, k_sc1, k_sc2, k_T, k_I, k_F, k_N, k_Y, k_Z, k_A, k_B, k_C, k_X, k_R, k_f4⟩⟩
noncomputable def ru_hL_or : Ru := ([(0, (1199, (0, (0, 0)))), (0, (1102, (0, (0, 0)))), (0, (1122, (0, (0, 0)))), (0, (1123, (0, (0, 0)))), (0, (1124, (0, (0, 0)))), (9, (24, (2, (1, 0)))), (9, (26, (2, (1, 0)))), (0, (1100, (0, (0, 0)))), (9, (23, (3, (1, 0)))), (9, (23, (3, (1, 1))))], ([], ([([(5, 1)], 1), ([(5, (-1))], (-1)), ([(3, (-1)), (6, 1)], 2), ([(3, 1), (6, (-1))], (-2)), ([(8, 1)], 111), ([(8, (-1))], (-111)), ([(9, 1)], 114), ([(9, (-1))], (-114)), ([(4, 1)], 30)], (true, ([], ([], ([], none)))))))
theorem rk_hL_or : RuOk SR ru_hL_or := by
  intro τ m g hi hc ha hS
  obtain ⟨i0, i1, i2, i3, i4, i5, i6, i7, i8, i9, _⟩ := hi
  have t1199 : τ 1199 = some (g 0) := i0
  have t1102 : τ 1102 = some (g 1) := i1
  have t1122 : τ 1122 = some (g 2) := i2
  have t1123 : τ 1123 = some (g 3) := i3
  have t1124 : τ 1124 = some (g 4) := i4
  obtain ⟨jk, uk, vk⟩ : ∃ j : Nat, 1 * g 2 + 0 = (j : Int) ∧ g 5 = m 24 j := i5
  obtain ⟨jv, uv, vv⟩ : ∃ j : Nat, 1 * g 2 + 0 = (j : Int) ∧ g 6 = m 26 j := i6
  have t1100 : τ 1100 = some (g 7) := i7
  obtain ⟨jb0, ub0, vb0⟩ : ∃ j : Nat, 1 * g 3 + 0 = (j : Int) ∧ g 8 = m 23 j := i8
  obtain ⟨jb1, ub1, vb1⟩ : ∃ j : Nat, 1 * g 3 + 1 = (j : Int) ∧ g 9 = m 23 j := i9
  obtain ⟨c0, c1, c2, c3, c4, c5, c6, c7, c8, _⟩ := hc
  have c0 : 1 * g 5 ≤ 1 := d1 c0
  have c1 : (-1) * g 5 ≤ (-1) := d1 c1
  have c2 : (-1) * g 3 + 1 * g 6 ≤ 2 := d2 c2
  have c3 : 1 * g 3 + (-1) * g 6 ≤ (-2) := d2 c3
  have c4 : 1 * g 8 ≤ 111 := d1 c4
  have c5 : (-1) * g 8 ≤ (-111) := d1 c5
  have c6 : 1 * g 9 ≤ 114 := d1 c6
  have c7 : (-1) * g 9 ≤ (-114) := d1 c7
  have c8 : 1 * g 4 ≤ 30 := d1 c8
  obtain ⟨h0, k_tok, k_sc1, k_sc2, k_T, k_I, k_F, k_N, k_Y, k_Z, k_A, k_B, k_C, k_X, k_R, k_f4⟩ := hS (by rw [t1199]; exact fun e => by cases e)
  have k_tok0 := k_tok
  obtain ⟨h_L, h_n, h_nF⟩ := k_tok0
  have k_I0 := k_I
  obtain ⟨h_p, h_pc, h_ip, h_iP, h_PC, h_PN⟩ := k_I0
  obtain ⟨hn0, _, hNT⟩ := h_nF _ t1102
  have hXL : ((tx9 m).2 : Int) = m 110 1 := by
    show (((m 110 1).toNat : Nat) : Int) = _
    omega
  obtain ⟨⟨hi0, hi1⟩, hpi⟩ := h_ip _ _ _ t1102 t1122 t1123
  have hTK := (h_nF _ t1102).2.1.1 (g 2).toNat (by omega)
  have hSL := St_L (X := tx9 m) (i := (g 2).toNat)
  have hcc := h_pc _ _ t1123 t1124
  rw [show (g 3).toNat = Tp9 (tx9 m) (g 2).toNat by omega] at hcc
  have hko := kd_of (X := tx9 m) (p := Tp9 (tx9 m) (g 2).toNat)
  rw [show jk = (g 2).toNat by omega] at vk
  rw [show jv = (g 2).toNat by omega] at vv
  have hL9 := h_L _ t1100
  have hTk := hTK.1.2
  have hk1 : kd9 (tx9 m) (Tp9 (tx9 m) (g 2).toNat) = 1 := by omega
  have hTe := hTK.2.1 hk1
  have hta := (te_al hk1).1
  have hb0 : by9 (tx9 m) ((Tp9 (tx9 m) (g 2).toNat) + 0) = 111 := by
    rw [by_m (by omega), ← hL9.2 ((Tp9 (tx9 m) (g 2).toNat) + 0) (by omega), show (Tp9 (tx9 m) (g 2).toNat) + 0 = jb0 by omega]
    omega
  have hb1 : by9 (tx9 m) ((Tp9 (tx9 m) (g 2).toNat) + 1) = 114 := by
    rw [by_m (by omega), ← hL9.2 ((Tp9 (tx9 m) (g 2).toNat) + 1) (by omega), show (Tp9 (tx9 m) (g 2).toNat) + 1 = jb1 by omega]
    omega
  have hrc := wd_to (X := tx9 m) (p := (Tp9 (tx9 m) (g 2).toNat)) (c := 31) (l := [111, 114]) hk1 (by show _ = _ + 2; omega) (by
    show [by9 (tx9 m) ((Tp9 (tx9 m) (g 2).toNat) + 0), by9 (tx9 m) ((Tp9 (tx9 m) (g 2).toNat) + 1)] = _
    rw [hb0, hb1]) (by decide) (by decide)
  exfalso
  omega
noncomputable def ru_hG_or : Ru := ([(0, (1199, (0, (0, 0)))), (0, (1102, (0, (0, 0)))), (0, (1122, (0, (0, 0)))), (0, (1123, (0, (0, 0)))), (0, (1124, (0, (0, 0)))), (9, (24, (2, (1, 0)))), (9, (26, (2, (1, 0)))), (0, (1100, (0, (0, 0)))), (9, (23, (3, (1, 0)))), (9, (23, (3, (1, 1))))], ([], ([([(5, 1)], 1), ([(5, (-1))], (-1)), ([(3, (-1)), (6, 1)], 2), ([(3, 1), (6, (-1))], (-2)), ([(8, 1)], 111), ([(8, (-1))], (-111)), ([(9, 1)], 114), ([(9, (-1))], (-114)), ([(4, (-1))], (-32))], (true, ([], ([], ([], none)))))))
theorem rk_hG_or : RuOk SR ru_hG_or := by
  intro τ m g hi hc ha hS
  obtain ⟨i0, i1, i2, i3, i4, i5, i6, i7, i8, i9, _⟩ := hi
  have t1199 : τ 1199 = some (g 0) := i0
  have t1102 : τ 1102 = some (g 1) := i1
  have t1122 : τ 1122 = some (g 2) := i2
  have t1123 : τ 1123 = some (g 3) := i3
  have t1124 : τ 1124 = some (g 4) := i4
  obtain ⟨jk, uk, vk⟩ : ∃ j : Nat, 1 * g 2 + 0 = (j : Int) ∧ g 5 = m 24 j := i5
  obtain ⟨jv, uv, vv⟩ : ∃ j : Nat, 1 * g 2 + 0 = (j : Int) ∧ g 6 = m 26 j := i6
  have t1100 : τ 1100 = some (g 7) := i7
  obtain ⟨jb0, ub0, vb0⟩ : ∃ j : Nat, 1 * g 3 + 0 = (j : Int) ∧ g 8 = m 23 j := i8
  obtain ⟨jb1, ub1, vb1⟩ : ∃ j : Nat, 1 * g 3 + 1 = (j : Int) ∧ g 9 = m 23 j := i9
  obtain ⟨c0, c1, c2, c3, c4, c5, c6, c7, c8, _⟩ := hc
  have c0 : 1 * g 5 ≤ 1 := d1 c0
  have c1 : (-1) * g 5 ≤ (-1) := d1 c1
  have c2 : (-1) * g 3 + 1 * g 6 ≤ 2 := d2 c2
  have c3 : 1 * g 3 + (-1) * g 6 ≤ (-2) := d2 c3
  have c4 : 1 * g 8 ≤ 111 := d1 c4
  have c5 : (-1) * g 8 ≤ (-111) := d1 c5
  have c6 : 1 * g 9 ≤ 114 := d1 c6
  have c7 : (-1) * g 9 ≤ (-114) := d1 c7
  have c8 : (-1) * g 4 ≤ (-32) := d1 c8
  obtain ⟨h0, k_tok, k_sc1, k_sc2, k_T, k_I, k_F, k_N, k_Y, k_Z, k_A, k_B, k_C, k_X, k_R, k_f4⟩ := hS (by rw [t1199]; exact fun e => by cases e)
  have k_tok0 := k_tok
  obtain ⟨h_L, h_n, h_nF⟩ := k_tok0
  have k_I0 := k_I
  obtain ⟨h_p, h_pc, h_ip, h_iP, h_PC, h_PN⟩ := k_I0
  obtain ⟨hn0, _, hNT⟩ := h_nF _ t1102
  have hXL : ((tx9 m).2 : Int) = m 110 1 := by
    show (((m 110 1).toNat : Nat) : Int) = _
    omega
  obtain ⟨⟨hi0, hi1⟩, hpi⟩ := h_ip _ _ _ t1102 t1122 t1123
  have hTK := (h_nF _ t1102).2.1.1 (g 2).toNat (by omega)
  have hSL := St_L (X := tx9 m) (i := (g 2).toNat)
  have hcc := h_pc _ _ t1123 t1124
  rw [show (g 3).toNat = Tp9 (tx9 m) (g 2).toNat by omega] at hcc
  have hko := kd_of (X := tx9 m) (p := Tp9 (tx9 m) (g 2).toNat)
  rw [show jk = (g 2).toNat by omega] at vk
  rw [show jv = (g 2).toNat by omega] at vv
  have hL9 := h_L _ t1100
  have hTk := hTK.1.2
  have hk1 : kd9 (tx9 m) (Tp9 (tx9 m) (g 2).toNat) = 1 := by omega
  have hTe := hTK.2.1 hk1
  have hta := (te_al hk1).1
  have hb0 : by9 (tx9 m) ((Tp9 (tx9 m) (g 2).toNat) + 0) = 111 := by
    rw [by_m (by omega), ← hL9.2 ((Tp9 (tx9 m) (g 2).toNat) + 0) (by omega), show (Tp9 (tx9 m) (g 2).toNat) + 0 = jb0 by omega]
    omega
  have hb1 : by9 (tx9 m) ((Tp9 (tx9 m) (g 2).toNat) + 1) = 114 := by
    rw [by_m (by omega), ← hL9.2 ((Tp9 (tx9 m) (g 2).toNat) + 1) (by omega), show (Tp9 (tx9 m) (g 2).toNat) + 1 = jb1 by omega]
    omega
  have hrc := wd_to (X := tx9 m) (p := (Tp9 (tx9 m) (g 2).toNat)) (c := 31) (l := [111, 114]) hk1 (by show _ = _ + 2; omega) (by
    show [by9 (tx9 m) ((Tp9 (tx9 m) (g 2).toNat) + 0), by9 (tx9 m) ((Tp9 (tx9 m) (g 2).toNat) + 1)] = _
    rw [hb0, hb1]) (by decide) (by decide)
  exfalso
  omega
noncomputable def ru_hw_must : Ru := ([(0, (1199, (0, (0, 0)))), (0, (1102, (0, (0, 0)))), (0, (1122, (0, (0, 0)))), (0, (1123, (0, (0, 0)))), (0, (1124, (0, (0, 0)))), (17, (0, (3, (4, 0)))), (10, (0, (3, (0, 0)))), (4, (0, (0, (109, 0)))), (10, (0, (3, (1, 0)))), (4, (0, (0, (117, 0)))), (10, (0, (3, (2, 0)))), (4, (0, (0, (115, 0)))), (10, (0, (3, (3, 0)))), (4, (0, (0, (116, 0)))), (0, (1100, (0, (0, 0))))], ([], ([([(4, 1)], 32), ([(4, (-1))], (-32))], (false, ([], ([(26, (2, 5)), (23, (6, 7)), (23, (8, 9)), (23, (10, 11)), (23, (12, 13))], ([], none)))))))
theorem rk_hw_must : RuOk SR ru_hw_must := by
  intro τ m g hi hc ha hS
  obtain ⟨i0, i1, i2, i3, i4, i5, i6, i7, i8, i9, i10, i11, i12, i13, i14, _⟩ := hi
  have t1199 : τ 1199 = some (g 0) := i0
  have t1102 : τ 1102 = some (g 1) := i1
  have t1122 : τ 1122 = some (g 2) := i2
  have t1123 : τ 1123 = some (g 3) := i3
  have t1124 : τ 1124 = some (g 4) := i4
  have xe : g 5 = g 3 + 4 := i5
  have xx0 : g 6 = g 3 + 0 := i6
  have xb0 : g 7 = 109 := i7
  have xx1 : g 8 = g 3 + 1 := i8
  have xb1 : g 9 = 117 := i9
  have xx2 : g 10 = g 3 + 2 := i10
  have xb2 : g 11 = 115 := i11
  have xx3 : g 12 = g 3 + 3 := i12
  have xb3 : g 13 = 116 := i13
  have t1100 : τ 1100 = some (g 14) := i14
  obtain ⟨c0, c1, _⟩ := hc
  have c0 : 1 * g 4 ≤ 32 := d1 c0
  have c1 : (-1) * g 4 ≤ (-32) := d1 c1
  obtain ⟨h0, k_tok, k_sc1, k_sc2, k_T, k_I, k_F, k_N, k_Y, k_Z, k_A, k_B, k_C, k_X, k_R, k_f4⟩ := hS (by rw [t1199]; exact fun e => by cases e)
  have k_tok0 := k_tok
  obtain ⟨h_L, h_n, h_nF⟩ := k_tok0
  have k_I0 := k_I
  obtain ⟨h_p, h_pc, h_ip, h_iP, h_PC, h_PN⟩ := k_I0
  obtain ⟨hn0, _, hNT⟩ := h_nF _ t1102
  have hXL : ((tx9 m).2 : Int) = m 110 1 := by
    show (((m 110 1).toNat : Nat) : Int) = _
    omega
  obtain ⟨⟨hi0, hi1⟩, hpi⟩ := h_ip _ _ _ t1102 t1122 t1123
  have hTK := (h_nF _ t1102).2.1.1 (g 2).toNat (by omega)
  have hSL := St_L (X := tx9 m) (i := (g 2).toNat)
  have hcc := h_pc _ _ t1123 t1124
  rw [show (g 3).toNat = Tp9 (tx9 m) (g 2).toNat by omega] at hcc
  have hko := kd_of (X := tx9 m) (p := Tp9 (tx9 m) (g 2).toNat)
  have hL9 := h_L _ t1100
  obtain ⟨hk1, hte, hbs⟩ := wd_of (X := tx9 m) (p := (Tp9 (tx9 m) (g 2).toNat)) (c := 32) (v := 1836413812) (l := [109, 117, 115, 116]) (by omega) (by decide) (by decide) (by decide) (by decide) (by decide)
  have hte : te9 (tx9 m) (Tp9 (tx9 m) (g 2).toNat) = (Tp9 (tx9 m) (g 2).toNat) + 4 := hte
  have hta := (te_al hk1).1
  have hTe := hTK.2.1 hk1
  have hb0 : by9 (tx9 m) ((Tp9 (tx9 m) (g 2).toNat) + 0) = 109 := by
    have := congrArg (fun l => l[0]?) hbs
    exact Option.some.inj this
  have hm0 := by_m (m := m) (p := (Tp9 (tx9 m) (g 2).toNat) + 0) (by omega)
  have hl0 := hL9.2 ((Tp9 (tx9 m) (g 2).toNat) + 0) (by omega)
  have hb1 : by9 (tx9 m) ((Tp9 (tx9 m) (g 2).toNat) + 1) = 117 := by
    have := congrArg (fun l => l[1]?) hbs
    exact Option.some.inj this
  have hm1 := by_m (m := m) (p := (Tp9 (tx9 m) (g 2).toNat) + 1) (by omega)
  have hl1 := hL9.2 ((Tp9 (tx9 m) (g 2).toNat) + 1) (by omega)
  have hb2 : by9 (tx9 m) ((Tp9 (tx9 m) (g 2).toNat) + 2) = 115 := by
    have := congrArg (fun l => l[2]?) hbs
    exact Option.some.inj this
  have hm2 := by_m (m := m) (p := (Tp9 (tx9 m) (g 2).toNat) + 2) (by omega)
  have hl2 := hL9.2 ((Tp9 (tx9 m) (g 2).toNat) + 2) (by omega)
  have hb3 : by9 (tx9 m) ((Tp9 (tx9 m) (g 2).toNat) + 3) = 116 := by
    have := congrArg (fun l => l[3]?) hbs
    exact Option.some.inj this
  have hm3 := by_m (m := m) (p := (Tp9 (tx9 m) (g 2).toNat) + 3) (by omega)
  have hl3 := hL9.2 ((Tp9 (tx9 m) (g 2).toNat) + 3) (by omega)
  exact ⟨rfl, trivial, ⟨⟨(g 2).toNat, (show g 2 = (((g 2).toNat : Nat) : Int) by omega), (show g 5 = m 26 (g 2).toNat by omega)⟩, ⟨(Tp9 (tx9 m) (g 2).toNat) + 0, (show g 6 = (((Tp9 (tx9 m) (g 2).toNat) + 0 : Nat) : Int) by omega), (show g 7 = m 23 ((Tp9 (tx9 m) (g 2).toNat) + 0) by omega)⟩, ⟨(Tp9 (tx9 m) (g 2).toNat) + 1, (show g 8 = (((Tp9 (tx9 m) (g 2).toNat) + 1 : Nat) : Int) by omega), (show g 9 = m 23 ((Tp9 (tx9 m) (g 2).toNat) + 1) by omega)⟩, ⟨(Tp9 (tx9 m) (g 2).toNat) + 2, (show g 10 = (((Tp9 (tx9 m) (g 2).toNat) + 2 : Nat) : Int) by omega), (show g 11 = m 23 ((Tp9 (tx9 m) (g 2).toNat) + 2) by omega)⟩, ⟨(Tp9 (tx9 m) (g 2).toNat) + 3, (show g 12 = (((Tp9 (tx9 m) (g 2).toNat) + 3 : Nat) : Int) by omega), (show g 13 = m 23 ((Tp9 (tx9 m) (g 2).toNat) + 3) by omega)⟩, trivial⟩, fun _ => ⟨h0, k_tok, k_sc1, k_sc2, k_T, k_I, k_F, k_N, k_Y, k_Z, k_A, k_B, k_C, k_X, k_R, k_f4⟩⟩
noncomputable def ru_hL_must : Ru := ([(0, (1199, (0, (0, 0)))), (0, (1102, (0, (0, 0)))), (0, (1122, (0, (0, 0)))), (0, (1123, (0, (0, 0)))), (0, (1124, (0, (0, 0)))), (9, (24, (2, (1, 0)))), (9, (26, (2, (1, 0)))), (0, (1100, (0, (0, 0)))), (9, (23, (3, (1, 0)))), (9, (23, (3, (1, 1)))), (9, (23, (3, (1, 2)))), (9, (23, (3, (1, 3))))], ([], ([([(5, 1)], 1), ([(5, (-1))], (-1)), ([(3, (-1)), (6, 1)], 4), ([(3, 1), (6, (-1))], (-4)), ([(8, 1)], 109), ([(8, (-1))], (-109)), ([(9, 1)], 117), ([(9, (-1))], (-117)), ([(10, 1)], 115), ([(10, (-1))], (-115)), ([(11, 1)], 116), ([(11, (-1))], (-116)), ([(4, 1)], 31)], (true, ([], ([], ([], none)))))))
theorem rk_hL_must : RuOk SR ru_hL_must := by
  intro τ m g hi hc ha hS
  obtain ⟨i0, i1, i2, i3, i4, i5, i6, i7, i8, i9, i10, i11, _⟩ := hi
  have t1199 : τ 1199 = some (g 0) := i0
  have t1102 : τ 1102 = some (g 1) := i1
  have t1122 : τ 1122 = some (g 2) := i2
  have t1123 : τ 1123 = some (g 3) := i3
  have t1124 : τ 1124 = some (g 4) := i4
  obtain ⟨jk, uk, vk⟩ : ∃ j : Nat, 1 * g 2 + 0 = (j : Int) ∧ g 5 = m 24 j := i5
  obtain ⟨jv, uv, vv⟩ : ∃ j : Nat, 1 * g 2 + 0 = (j : Int) ∧ g 6 = m 26 j := i6
  have t1100 : τ 1100 = some (g 7) := i7
  obtain ⟨jb0, ub0, vb0⟩ : ∃ j : Nat, 1 * g 3 + 0 = (j : Int) ∧ g 8 = m 23 j := i8
  obtain ⟨jb1, ub1, vb1⟩ : ∃ j : Nat, 1 * g 3 + 1 = (j : Int) ∧ g 9 = m 23 j := i9
  obtain ⟨jb2, ub2, vb2⟩ : ∃ j : Nat, 1 * g 3 + 2 = (j : Int) ∧ g 10 = m 23 j := i10
  obtain ⟨jb3, ub3, vb3⟩ : ∃ j : Nat, 1 * g 3 + 3 = (j : Int) ∧ g 11 = m 23 j := i11
  obtain ⟨c0, c1, c2, c3, c4, c5, c6, c7, c8, c9, c10, c11, c12, _⟩ := hc
  have c0 : 1 * g 5 ≤ 1 := d1 c0
  have c1 : (-1) * g 5 ≤ (-1) := d1 c1
  have c2 : (-1) * g 3 + 1 * g 6 ≤ 4 := d2 c2
  have c3 : 1 * g 3 + (-1) * g 6 ≤ (-4) := d2 c3
  have c4 : 1 * g 8 ≤ 109 := d1 c4
  have c5 : (-1) * g 8 ≤ (-109) := d1 c5
  have c6 : 1 * g 9 ≤ 117 := d1 c6
  have c7 : (-1) * g 9 ≤ (-117) := d1 c7
  have c8 : 1 * g 10 ≤ 115 := d1 c8
  have c9 : (-1) * g 10 ≤ (-115) := d1 c9
  have c10 : 1 * g 11 ≤ 116 := d1 c10
  have c11 : (-1) * g 11 ≤ (-116) := d1 c11
  have c12 : 1 * g 4 ≤ 31 := d1 c12
  obtain ⟨h0, k_tok, k_sc1, k_sc2, k_T, k_I, k_F, k_N, k_Y, k_Z, k_A, k_B, k_C, k_X, k_R, k_f4⟩ := hS (by rw [t1199]; exact fun e => by cases e)
  have k_tok0 := k_tok
  obtain ⟨h_L, h_n, h_nF⟩ := k_tok0
  have k_I0 := k_I
  obtain ⟨h_p, h_pc, h_ip, h_iP, h_PC, h_PN⟩ := k_I0
  obtain ⟨hn0, _, hNT⟩ := h_nF _ t1102
  have hXL : ((tx9 m).2 : Int) = m 110 1 := by
    show (((m 110 1).toNat : Nat) : Int) = _
    omega
  obtain ⟨⟨hi0, hi1⟩, hpi⟩ := h_ip _ _ _ t1102 t1122 t1123
  have hTK := (h_nF _ t1102).2.1.1 (g 2).toNat (by omega)
  have hSL := St_L (X := tx9 m) (i := (g 2).toNat)
  have hcc := h_pc _ _ t1123 t1124
  rw [show (g 3).toNat = Tp9 (tx9 m) (g 2).toNat by omega] at hcc
  have hko := kd_of (X := tx9 m) (p := Tp9 (tx9 m) (g 2).toNat)
  rw [show jk = (g 2).toNat by omega] at vk
  rw [show jv = (g 2).toNat by omega] at vv
  have hL9 := h_L _ t1100
  have hTk := hTK.1.2
  have hk1 : kd9 (tx9 m) (Tp9 (tx9 m) (g 2).toNat) = 1 := by omega
  have hTe := hTK.2.1 hk1
  have hta := (te_al hk1).1
  have hb0 : by9 (tx9 m) ((Tp9 (tx9 m) (g 2).toNat) + 0) = 109 := by
    rw [by_m (by omega), ← hL9.2 ((Tp9 (tx9 m) (g 2).toNat) + 0) (by omega), show (Tp9 (tx9 m) (g 2).toNat) + 0 = jb0 by omega]
    omega
  have hb1 : by9 (tx9 m) ((Tp9 (tx9 m) (g 2).toNat) + 1) = 117 := by
    rw [by_m (by omega), ← hL9.2 ((Tp9 (tx9 m) (g 2).toNat) + 1) (by omega), show (Tp9 (tx9 m) (g 2).toNat) + 1 = jb1 by omega]
    omega
  have hb2 : by9 (tx9 m) ((Tp9 (tx9 m) (g 2).toNat) + 2) = 115 := by
    rw [by_m (by omega), ← hL9.2 ((Tp9 (tx9 m) (g 2).toNat) + 2) (by omega), show (Tp9 (tx9 m) (g 2).toNat) + 2 = jb2 by omega]
    omega
  have hb3 : by9 (tx9 m) ((Tp9 (tx9 m) (g 2).toNat) + 3) = 116 := by
    rw [by_m (by omega), ← hL9.2 ((Tp9 (tx9 m) (g 2).toNat) + 3) (by omega), show (Tp9 (tx9 m) (g 2).toNat) + 3 = jb3 by omega]
    omega
  have hrc := wd_to (X := tx9 m) (p := (Tp9 (tx9 m) (g 2).toNat)) (c := 32) (l := [109, 117, 115, 116]) hk1 (by show _ = _ + 4; omega) (by
    show [by9 (tx9 m) ((Tp9 (tx9 m) (g 2).toNat) + 0), by9 (tx9 m) ((Tp9 (tx9 m) (g 2).toNat) + 1), by9 (tx9 m) ((Tp9 (tx9 m) (g 2).toNat) + 2), by9 (tx9 m) ((Tp9 (tx9 m) (g 2).toNat) + 3)] = _
    rw [hb0, hb1, hb2, hb3]) (by decide) (by decide)
  exfalso
  omega
noncomputable def ru_hG_must : Ru := ([(0, (1199, (0, (0, 0)))), (0, (1102, (0, (0, 0)))), (0, (1122, (0, (0, 0)))), (0, (1123, (0, (0, 0)))), (0, (1124, (0, (0, 0)))), (9, (24, (2, (1, 0)))), (9, (26, (2, (1, 0)))), (0, (1100, (0, (0, 0)))), (9, (23, (3, (1, 0)))), (9, (23, (3, (1, 1)))), (9, (23, (3, (1, 2)))), (9, (23, (3, (1, 3))))], ([], ([([(5, 1)], 1), ([(5, (-1))], (-1)), ([(3, (-1)), (6, 1)], 4), ([(3, 1), (6, (-1))], (-4)), ([(8, 1)], 109), ([(8, (-1))], (-109)), ([(9, 1)], 117), ([(9, (-1))], (-117)), ([(10, 1)], 115), ([(10, (-1))], (-115)), ([(11, 1)], 116), ([(11, (-1))], (-116)), ([(4, (-1))], (-33))], (true, ([], ([], ([], none)))))))
theorem rk_hG_must : RuOk SR ru_hG_must := by
  intro τ m g hi hc ha hS
  obtain ⟨i0, i1, i2, i3, i4, i5, i6, i7, i8, i9, i10, i11, _⟩ := hi
  have t1199 : τ 1199 = some (g 0) := i0
  have t1102 : τ 1102 = some (g 1) := i1
  have t1122 : τ 1122 = some (g 2) := i2
  have t1123 : τ 1123 = some (g 3) := i3
  have t1124 : τ 1124 = some (g 4) := i4
  obtain ⟨jk, uk, vk⟩ : ∃ j : Nat, 1 * g 2 + 0 = (j : Int) ∧ g 5 = m 24 j := i5
  obtain ⟨jv, uv, vv⟩ : ∃ j : Nat, 1 * g 2 + 0 = (j : Int) ∧ g 6 = m 26 j := i6
  have t1100 : τ 1100 = some (g 7) := i7
  obtain ⟨jb0, ub0, vb0⟩ : ∃ j : Nat, 1 * g 3 + 0 = (j : Int) ∧ g 8 = m 23 j := i8
  obtain ⟨jb1, ub1, vb1⟩ : ∃ j : Nat, 1 * g 3 + 1 = (j : Int) ∧ g 9 = m 23 j := i9
  obtain ⟨jb2, ub2, vb2⟩ : ∃ j : Nat, 1 * g 3 + 2 = (j : Int) ∧ g 10 = m 23 j := i10
  obtain ⟨jb3, ub3, vb3⟩ : ∃ j : Nat, 1 * g 3 + 3 = (j : Int) ∧ g 11 = m 23 j := i11
  obtain ⟨c0, c1, c2, c3, c4, c5, c6, c7, c8, c9, c10, c11, c12, _⟩ := hc
  have c0 : 1 * g 5 ≤ 1 := d1 c0
  have c1 : (-1) * g 5 ≤ (-1) := d1 c1
  have c2 : (-1) * g 3 + 1 * g 6 ≤ 4 := d2 c2
  have c3 : 1 * g 3 + (-1) * g 6 ≤ (-4) := d2 c3
  have c4 : 1 * g 8 ≤ 109 := d1 c4
  have c5 : (-1) * g 8 ≤ (-109) := d1 c5
  have c6 : 1 * g 9 ≤ 117 := d1 c6
  have c7 : (-1) * g 9 ≤ (-117) := d1 c7
  have c8 : 1 * g 10 ≤ 115 := d1 c8
  have c9 : (-1) * g 10 ≤ (-115) := d1 c9
  have c10 : 1 * g 11 ≤ 116 := d1 c10
  have c11 : (-1) * g 11 ≤ (-116) := d1 c11
  have c12 : (-1) * g 4 ≤ (-33) := d1 c12
  obtain ⟨h0, k_tok, k_sc1, k_sc2, k_T, k_I, k_F, k_N, k_Y, k_Z, k_A, k_B, k_C, k_X, k_R, k_f4⟩ := hS (by rw [t1199]; exact fun e => by cases e)
  have k_tok0 := k_tok
  obtain ⟨h_L, h_n, h_nF⟩ := k_tok0
  have k_I0 := k_I
  obtain ⟨h_p, h_pc, h_ip, h_iP, h_PC, h_PN⟩ := k_I0
  obtain ⟨hn0, _, hNT⟩ := h_nF _ t1102
  have hXL : ((tx9 m).2 : Int) = m 110 1 := by
    show (((m 110 1).toNat : Nat) : Int) = _
    omega
  obtain ⟨⟨hi0, hi1⟩, hpi⟩ := h_ip _ _ _ t1102 t1122 t1123
  have hTK := (h_nF _ t1102).2.1.1 (g 2).toNat (by omega)
  have hSL := St_L (X := tx9 m) (i := (g 2).toNat)
  have hcc := h_pc _ _ t1123 t1124
  rw [show (g 3).toNat = Tp9 (tx9 m) (g 2).toNat by omega] at hcc
  have hko := kd_of (X := tx9 m) (p := Tp9 (tx9 m) (g 2).toNat)
  rw [show jk = (g 2).toNat by omega] at vk
  rw [show jv = (g 2).toNat by omega] at vv
  have hL9 := h_L _ t1100
  have hTk := hTK.1.2
  have hk1 : kd9 (tx9 m) (Tp9 (tx9 m) (g 2).toNat) = 1 := by omega
  have hTe := hTK.2.1 hk1
  have hta := (te_al hk1).1
  have hb0 : by9 (tx9 m) ((Tp9 (tx9 m) (g 2).toNat) + 0) = 109 := by
    rw [by_m (by omega), ← hL9.2 ((Tp9 (tx9 m) (g 2).toNat) + 0) (by omega), show (Tp9 (tx9 m) (g 2).toNat) + 0 = jb0 by omega]
    omega
  have hb1 : by9 (tx9 m) ((Tp9 (tx9 m) (g 2).toNat) + 1) = 117 := by
    rw [by_m (by omega), ← hL9.2 ((Tp9 (tx9 m) (g 2).toNat) + 1) (by omega), show (Tp9 (tx9 m) (g 2).toNat) + 1 = jb1 by omega]
    omega
  have hb2 : by9 (tx9 m) ((Tp9 (tx9 m) (g 2).toNat) + 2) = 115 := by
    rw [by_m (by omega), ← hL9.2 ((Tp9 (tx9 m) (g 2).toNat) + 2) (by omega), show (Tp9 (tx9 m) (g 2).toNat) + 2 = jb2 by omega]
    omega
  have hb3 : by9 (tx9 m) ((Tp9 (tx9 m) (g 2).toNat) + 3) = 116 := by
    rw [by_m (by omega), ← hL9.2 ((Tp9 (tx9 m) (g 2).toNat) + 3) (by omega), show (Tp9 (tx9 m) (g 2).toNat) + 3 = jb3 by omega]
    omega
  have hrc := wd_to (X := tx9 m) (p := (Tp9 (tx9 m) (g 2).toNat)) (c := 32) (l := [109, 117, 115, 116]) hk1 (by show _ = _ + 4; omega) (by
    show [by9 (tx9 m) ((Tp9 (tx9 m) (g 2).toNat) + 0), by9 (tx9 m) ((Tp9 (tx9 m) (g 2).toNat) + 1), by9 (tx9 m) ((Tp9 (tx9 m) (g 2).toNat) + 2), by9 (tx9 m) ((Tp9 (tx9 m) (g 2).toNat) + 3)] = _
    rw [hb0, hb1, hb2, hb3]) (by decide) (by decide)
  exfalso
  omega
noncomputable def ru_hw_r : Ru := ([(0, (1199, (0, (0, 0)))), (0, (1102, (0, (0, 0)))), (0, (1122, (0, (0, 0)))), (0, (1123, (0, (0, 0)))), (0, (1124, (0, (0, 0)))), (17, (0, (3, (1, 0)))), (10, (0, (3, (0, 0)))), (4, (0, (0, (114, 0)))), (0, (1100, (0, (0, 0))))], ([], ([([(4, 1)], 48), ([(4, (-1))], (-48))], (false, ([], ([(26, (2, 5)), (23, (6, 7))], ([], none)))))))
theorem rk_hw_r : RuOk SR ru_hw_r := by
  intro τ m g hi hc ha hS
  obtain ⟨i0, i1, i2, i3, i4, i5, i6, i7, i8, _⟩ := hi
  have t1199 : τ 1199 = some (g 0) := i0
  have t1102 : τ 1102 = some (g 1) := i1
  have t1122 : τ 1122 = some (g 2) := i2
  have t1123 : τ 1123 = some (g 3) := i3
  have t1124 : τ 1124 = some (g 4) := i4
  have xe : g 5 = g 3 + 1 := i5
  have xx0 : g 6 = g 3 + 0 := i6
  have xb0 : g 7 = 114 := i7
  have t1100 : τ 1100 = some (g 8) := i8
  obtain ⟨c0, c1, _⟩ := hc
  have c0 : 1 * g 4 ≤ 48 := d1 c0
  have c1 : (-1) * g 4 ≤ (-48) := d1 c1
  obtain ⟨h0, k_tok, k_sc1, k_sc2, k_T, k_I, k_F, k_N, k_Y, k_Z, k_A, k_B, k_C, k_X, k_R, k_f4⟩ := hS (by rw [t1199]; exact fun e => by cases e)
  have k_tok0 := k_tok
  obtain ⟨h_L, h_n, h_nF⟩ := k_tok0
  have k_I0 := k_I
  obtain ⟨h_p, h_pc, h_ip, h_iP, h_PC, h_PN⟩ := k_I0
  obtain ⟨hn0, _, hNT⟩ := h_nF _ t1102
  have hXL : ((tx9 m).2 : Int) = m 110 1 := by
    show (((m 110 1).toNat : Nat) : Int) = _
    omega
  obtain ⟨⟨hi0, hi1⟩, hpi⟩ := h_ip _ _ _ t1102 t1122 t1123
  have hTK := (h_nF _ t1102).2.1.1 (g 2).toNat (by omega)
  have hSL := St_L (X := tx9 m) (i := (g 2).toNat)
  have hcc := h_pc _ _ t1123 t1124
  rw [show (g 3).toNat = Tp9 (tx9 m) (g 2).toNat by omega] at hcc
  have hko := kd_of (X := tx9 m) (p := Tp9 (tx9 m) (g 2).toNat)
  have hL9 := h_L _ t1100
  obtain ⟨hk1, hte, hbs⟩ := wd_of (X := tx9 m) (p := (Tp9 (tx9 m) (g 2).toNat)) (c := 48) (v := 114) (l := [114]) (by omega) (by decide) (by decide) (by decide) (by decide) (by decide)
  have hte : te9 (tx9 m) (Tp9 (tx9 m) (g 2).toNat) = (Tp9 (tx9 m) (g 2).toNat) + 1 := hte
  have hta := (te_al hk1).1
  have hTe := hTK.2.1 hk1
  have hb0 : by9 (tx9 m) ((Tp9 (tx9 m) (g 2).toNat) + 0) = 114 := by
    have := congrArg (fun l => l[0]?) hbs
    exact Option.some.inj this
  have hm0 := by_m (m := m) (p := (Tp9 (tx9 m) (g 2).toNat) + 0) (by omega)
  have hl0 := hL9.2 ((Tp9 (tx9 m) (g 2).toNat) + 0) (by omega)
  exact ⟨rfl, trivial, ⟨⟨(g 2).toNat, (show g 2 = (((g 2).toNat : Nat) : Int) by omega), (show g 5 = m 26 (g 2).toNat by omega)⟩, ⟨(Tp9 (tx9 m) (g 2).toNat) + 0, (show g 6 = (((Tp9 (tx9 m) (g 2).toNat) + 0 : Nat) : Int) by omega), (show g 7 = m 23 ((Tp9 (tx9 m) (g 2).toNat) + 0) by omega)⟩, trivial⟩, fun _ => ⟨h0, k_tok, k_sc1, k_sc2, k_T, k_I, k_F, k_N, k_Y, k_Z, k_A, k_B, k_C, k_X, k_R, k_f4⟩⟩
noncomputable def ru_hw_w : Ru := ([(0, (1199, (0, (0, 0)))), (0, (1102, (0, (0, 0)))), (0, (1122, (0, (0, 0)))), (0, (1123, (0, (0, 0)))), (0, (1124, (0, (0, 0)))), (17, (0, (3, (1, 0)))), (10, (0, (3, (0, 0)))), (4, (0, (0, (119, 0)))), (0, (1100, (0, (0, 0))))], ([], ([([(4, 1)], 49), ([(4, (-1))], (-49))], (false, ([], ([(26, (2, 5)), (23, (6, 7))], ([], none)))))))
theorem rk_hw_w : RuOk SR ru_hw_w := by
  intro τ m g hi hc ha hS
  obtain ⟨i0, i1, i2, i3, i4, i5, i6, i7, i8, _⟩ := hi
  have t1199 : τ 1199 = some (g 0) := i0
  have t1102 : τ 1102 = some (g 1) := i1
  have t1122 : τ 1122 = some (g 2) := i2
  have t1123 : τ 1123 = some (g 3) := i3
  have t1124 : τ 1124 = some (g 4) := i4
  have xe : g 5 = g 3 + 1 := i5
  have xx0 : g 6 = g 3 + 0 := i6
  have xb0 : g 7 = 119 := i7
  have t1100 : τ 1100 = some (g 8) := i8
  obtain ⟨c0, c1, _⟩ := hc
  have c0 : 1 * g 4 ≤ 49 := d1 c0
  have c1 : (-1) * g 4 ≤ (-49) := d1 c1
  obtain ⟨h0, k_tok, k_sc1, k_sc2, k_T, k_I, k_F, k_N, k_Y, k_Z, k_A, k_B, k_C, k_X, k_R, k_f4⟩ := hS (by rw [t1199]; exact fun e => by cases e)
  have k_tok0 := k_tok
  obtain ⟨h_L, h_n, h_nF⟩ := k_tok0
  have k_I0 := k_I
  obtain ⟨h_p, h_pc, h_ip, h_iP, h_PC, h_PN⟩ := k_I0
  obtain ⟨hn0, _, hNT⟩ := h_nF _ t1102
  have hXL : ((tx9 m).2 : Int) = m 110 1 := by
    show (((m 110 1).toNat : Nat) : Int) = _
    omega
  obtain ⟨⟨hi0, hi1⟩, hpi⟩ := h_ip _ _ _ t1102 t1122 t1123
  have hTK := (h_nF _ t1102).2.1.1 (g 2).toNat (by omega)
  have hSL := St_L (X := tx9 m) (i := (g 2).toNat)
  have hcc := h_pc _ _ t1123 t1124
  rw [show (g 3).toNat = Tp9 (tx9 m) (g 2).toNat by omega] at hcc
  have hko := kd_of (X := tx9 m) (p := Tp9 (tx9 m) (g 2).toNat)
  have hL9 := h_L _ t1100
  obtain ⟨hk1, hte, hbs⟩ := wd_of (X := tx9 m) (p := (Tp9 (tx9 m) (g 2).toNat)) (c := 49) (v := 119) (l := [119]) (by omega) (by decide) (by decide) (by decide) (by decide) (by decide)
  have hte : te9 (tx9 m) (Tp9 (tx9 m) (g 2).toNat) = (Tp9 (tx9 m) (g 2).toNat) + 1 := hte
  have hta := (te_al hk1).1
  have hTe := hTK.2.1 hk1
  have hb0 : by9 (tx9 m) ((Tp9 (tx9 m) (g 2).toNat) + 0) = 119 := by
    have := congrArg (fun l => l[0]?) hbs
    exact Option.some.inj this
  have hm0 := by_m (m := m) (p := (Tp9 (tx9 m) (g 2).toNat) + 0) (by omega)
  have hl0 := hL9.2 ((Tp9 (tx9 m) (g 2).toNat) + 0) (by omega)
  exact ⟨rfl, trivial, ⟨⟨(g 2).toNat, (show g 2 = (((g 2).toNat : Nat) : Int) by omega), (show g 5 = m 26 (g 2).toNat by omega)⟩, ⟨(Tp9 (tx9 m) (g 2).toNat) + 0, (show g 6 = (((Tp9 (tx9 m) (g 2).toNat) + 0 : Nat) : Int) by omega), (show g 7 = m 23 ((Tp9 (tx9 m) (g 2).toNat) + 0) by omega)⟩, trivial⟩, fun _ => ⟨h0, k_tok, k_sc1, k_sc2, k_T, k_I, k_F, k_N, k_Y, k_Z, k_A, k_B, k_C, k_X, k_R, k_f4⟩⟩
noncomputable def ru_hw_x : Ru := ([(0, (1199, (0, (0, 0)))), (0, (1102, (0, (0, 0)))), (0, (1122, (0, (0, 0)))), (0, (1123, (0, (0, 0)))), (0, (1124, (0, (0, 0)))), (17, (0, (3, (1, 0)))), (10, (0, (3, (0, 0)))), (4, (0, (0, (120, 0)))), (0, (1100, (0, (0, 0))))], ([], ([([(4, 1)], 50), ([(4, (-1))], (-50))], (false, ([], ([(26, (2, 5)), (23, (6, 7))], ([], none)))))))
theorem rk_hw_x : RuOk SR ru_hw_x := by
  intro τ m g hi hc ha hS
  obtain ⟨i0, i1, i2, i3, i4, i5, i6, i7, i8, _⟩ := hi
  have t1199 : τ 1199 = some (g 0) := i0
  have t1102 : τ 1102 = some (g 1) := i1
  have t1122 : τ 1122 = some (g 2) := i2
  have t1123 : τ 1123 = some (g 3) := i3
  have t1124 : τ 1124 = some (g 4) := i4
  have xe : g 5 = g 3 + 1 := i5
  have xx0 : g 6 = g 3 + 0 := i6
  have xb0 : g 7 = 120 := i7
  have t1100 : τ 1100 = some (g 8) := i8
  obtain ⟨c0, c1, _⟩ := hc
  have c0 : 1 * g 4 ≤ 50 := d1 c0
  have c1 : (-1) * g 4 ≤ (-50) := d1 c1
  obtain ⟨h0, k_tok, k_sc1, k_sc2, k_T, k_I, k_F, k_N, k_Y, k_Z, k_A, k_B, k_C, k_X, k_R, k_f4⟩ := hS (by rw [t1199]; exact fun e => by cases e)
  have k_tok0 := k_tok
  obtain ⟨h_L, h_n, h_nF⟩ := k_tok0
  have k_I0 := k_I
  obtain ⟨h_p, h_pc, h_ip, h_iP, h_PC, h_PN⟩ := k_I0
  obtain ⟨hn0, _, hNT⟩ := h_nF _ t1102
  have hXL : ((tx9 m).2 : Int) = m 110 1 := by
    show (((m 110 1).toNat : Nat) : Int) = _
    omega
  obtain ⟨⟨hi0, hi1⟩, hpi⟩ := h_ip _ _ _ t1102 t1122 t1123
  have hTK := (h_nF _ t1102).2.1.1 (g 2).toNat (by omega)
  have hSL := St_L (X := tx9 m) (i := (g 2).toNat)
  have hcc := h_pc _ _ t1123 t1124
  rw [show (g 3).toNat = Tp9 (tx9 m) (g 2).toNat by omega] at hcc
  have hko := kd_of (X := tx9 m) (p := Tp9 (tx9 m) (g 2).toNat)
  have hL9 := h_L _ t1100
  obtain ⟨hk1, hte, hbs⟩ := wd_of (X := tx9 m) (p := (Tp9 (tx9 m) (g 2).toNat)) (c := 50) (v := 120) (l := [120]) (by omega) (by decide) (by decide) (by decide) (by decide) (by decide)
  have hte : te9 (tx9 m) (Tp9 (tx9 m) (g 2).toNat) = (Tp9 (tx9 m) (g 2).toNat) + 1 := hte
  have hta := (te_al hk1).1
  have hTe := hTK.2.1 hk1
  have hb0 : by9 (tx9 m) ((Tp9 (tx9 m) (g 2).toNat) + 0) = 120 := by
    have := congrArg (fun l => l[0]?) hbs
    exact Option.some.inj this
  have hm0 := by_m (m := m) (p := (Tp9 (tx9 m) (g 2).toNat) + 0) (by omega)
  have hl0 := hL9.2 ((Tp9 (tx9 m) (g 2).toNat) + 0) (by omega)
  exact ⟨rfl, trivial, ⟨⟨(g 2).toNat, (show g 2 = (((g 2).toNat : Nat) : Int) by omega), (show g 5 = m 26 (g 2).toNat by omega)⟩, ⟨(Tp9 (tx9 m) (g 2).toNat) + 0, (show g 6 = (((Tp9 (tx9 m) (g 2).toNat) + 0 : Nat) : Int) by omega), (show g 7 = m 23 ((Tp9 (tx9 m) (g 2).toNat) + 0) by omega)⟩, trivial⟩, fun _ => ⟨h0, k_tok, k_sc1, k_sc2, k_T, k_I, k_F, k_N, k_Y, k_Z, k_A, k_B, k_C, k_X, k_R, k_f4⟩⟩
noncomputable def ru_hw_d : Ru := ([(0, (1199, (0, (0, 0)))), (0, (1102, (0, (0, 0)))), (0, (1122, (0, (0, 0)))), (0, (1123, (0, (0, 0)))), (0, (1124, (0, (0, 0)))), (17, (0, (3, (1, 0)))), (10, (0, (3, (0, 0)))), (4, (0, (0, (100, 0)))), (0, (1100, (0, (0, 0))))], ([], ([([(4, 1)], 43), ([(4, (-1))], (-43))], (false, ([], ([(26, (2, 5)), (23, (6, 7))], ([], none)))))))
theorem rk_hw_d : RuOk SR ru_hw_d := by
  intro τ m g hi hc ha hS
  obtain ⟨i0, i1, i2, i3, i4, i5, i6, i7, i8, _⟩ := hi
  have t1199 : τ 1199 = some (g 0) := i0
  have t1102 : τ 1102 = some (g 1) := i1
  have t1122 : τ 1122 = some (g 2) := i2
  have t1123 : τ 1123 = some (g 3) := i3
  have t1124 : τ 1124 = some (g 4) := i4
  have xe : g 5 = g 3 + 1 := i5
  have xx0 : g 6 = g 3 + 0 := i6
  have xb0 : g 7 = 100 := i7
  have t1100 : τ 1100 = some (g 8) := i8
  obtain ⟨c0, c1, _⟩ := hc
  have c0 : 1 * g 4 ≤ 43 := d1 c0
  have c1 : (-1) * g 4 ≤ (-43) := d1 c1
  obtain ⟨h0, k_tok, k_sc1, k_sc2, k_T, k_I, k_F, k_N, k_Y, k_Z, k_A, k_B, k_C, k_X, k_R, k_f4⟩ := hS (by rw [t1199]; exact fun e => by cases e)
  have k_tok0 := k_tok
  obtain ⟨h_L, h_n, h_nF⟩ := k_tok0
  have k_I0 := k_I
  obtain ⟨h_p, h_pc, h_ip, h_iP, h_PC, h_PN⟩ := k_I0
  obtain ⟨hn0, _, hNT⟩ := h_nF _ t1102
  have hXL : ((tx9 m).2 : Int) = m 110 1 := by
    show (((m 110 1).toNat : Nat) : Int) = _
    omega
  obtain ⟨⟨hi0, hi1⟩, hpi⟩ := h_ip _ _ _ t1102 t1122 t1123
  have hTK := (h_nF _ t1102).2.1.1 (g 2).toNat (by omega)
  have hSL := St_L (X := tx9 m) (i := (g 2).toNat)
  have hcc := h_pc _ _ t1123 t1124
  rw [show (g 3).toNat = Tp9 (tx9 m) (g 2).toNat by omega] at hcc
  have hko := kd_of (X := tx9 m) (p := Tp9 (tx9 m) (g 2).toNat)
  have hL9 := h_L _ t1100
  obtain ⟨hk1, hte, hbs⟩ := wd_of (X := tx9 m) (p := (Tp9 (tx9 m) (g 2).toNat)) (c := 43) (v := 100) (l := [100]) (by omega) (by decide) (by decide) (by decide) (by decide) (by decide)
  have hte : te9 (tx9 m) (Tp9 (tx9 m) (g 2).toNat) = (Tp9 (tx9 m) (g 2).toNat) + 1 := hte
  have hta := (te_al hk1).1
  have hTe := hTK.2.1 hk1
  have hb0 : by9 (tx9 m) ((Tp9 (tx9 m) (g 2).toNat) + 0) = 100 := by
    have := congrArg (fun l => l[0]?) hbs
    exact Option.some.inj this
  have hm0 := by_m (m := m) (p := (Tp9 (tx9 m) (g 2).toNat) + 0) (by omega)
  have hl0 := hL9.2 ((Tp9 (tx9 m) (g 2).toNat) + 0) (by omega)
  exact ⟨rfl, trivial, ⟨⟨(g 2).toNat, (show g 2 = (((g 2).toNat : Nat) : Int) by omega), (show g 5 = m 26 (g 2).toNat by omega)⟩, ⟨(Tp9 (tx9 m) (g 2).toNat) + 0, (show g 6 = (((Tp9 (tx9 m) (g 2).toNat) + 0 : Nat) : Int) by omega), (show g 7 = m 23 ((Tp9 (tx9 m) (g 2).toNat) + 0) by omega)⟩, trivial⟩, fun _ => ⟨h0, k_tok, k_sc1, k_sc2, k_T, k_I, k_F, k_N, k_Y, k_Z, k_A, k_B, k_C, k_X, k_R, k_f4⟩⟩
noncomputable def ru_hw_g : Ru := ([(0, (1199, (0, (0, 0)))), (0, (1102, (0, (0, 0)))), (0, (1122, (0, (0, 0)))), (0, (1123, (0, (0, 0)))), (0, (1124, (0, (0, 0)))), (17, (0, (3, (1, 0)))), (10, (0, (3, (0, 0)))), (4, (0, (0, (103, 0)))), (0, (1100, (0, (0, 0))))], ([], ([([(4, 1)], 46), ([(4, (-1))], (-46))], (false, ([], ([(26, (2, 5)), (23, (6, 7))], ([], none)))))))
theorem rk_hw_g : RuOk SR ru_hw_g := by
  intro τ m g hi hc ha hS
  obtain ⟨i0, i1, i2, i3, i4, i5, i6, i7, i8, _⟩ := hi
  have t1199 : τ 1199 = some (g 0) := i0
  have t1102 : τ 1102 = some (g 1) := i1
  have t1122 : τ 1122 = some (g 2) := i2
  have t1123 : τ 1123 = some (g 3) := i3
  have t1124 : τ 1124 = some (g 4) := i4
  have xe : g 5 = g 3 + 1 := i5
  have xx0 : g 6 = g 3 + 0 := i6
  have xb0 : g 7 = 103 := i7
  have t1100 : τ 1100 = some (g 8) := i8
  obtain ⟨c0, c1, _⟩ := hc
  have c0 : 1 * g 4 ≤ 46 := d1 c0
  have c1 : (-1) * g 4 ≤ (-46) := d1 c1
  obtain ⟨h0, k_tok, k_sc1, k_sc2, k_T, k_I, k_F, k_N, k_Y, k_Z, k_A, k_B, k_C, k_X, k_R, k_f4⟩ := hS (by rw [t1199]; exact fun e => by cases e)
  have k_tok0 := k_tok
  obtain ⟨h_L, h_n, h_nF⟩ := k_tok0
  have k_I0 := k_I
  obtain ⟨h_p, h_pc, h_ip, h_iP, h_PC, h_PN⟩ := k_I0
  obtain ⟨hn0, _, hNT⟩ := h_nF _ t1102
  have hXL : ((tx9 m).2 : Int) = m 110 1 := by
    show (((m 110 1).toNat : Nat) : Int) = _
    omega
  obtain ⟨⟨hi0, hi1⟩, hpi⟩ := h_ip _ _ _ t1102 t1122 t1123
  have hTK := (h_nF _ t1102).2.1.1 (g 2).toNat (by omega)
  have hSL := St_L (X := tx9 m) (i := (g 2).toNat)
  have hcc := h_pc _ _ t1123 t1124
  rw [show (g 3).toNat = Tp9 (tx9 m) (g 2).toNat by omega] at hcc
  have hko := kd_of (X := tx9 m) (p := Tp9 (tx9 m) (g 2).toNat)
  have hL9 := h_L _ t1100
  obtain ⟨hk1, hte, hbs⟩ := wd_of (X := tx9 m) (p := (Tp9 (tx9 m) (g 2).toNat)) (c := 46) (v := 103) (l := [103]) (by omega) (by decide) (by decide) (by decide) (by decide) (by decide)
  have hte : te9 (tx9 m) (Tp9 (tx9 m) (g 2).toNat) = (Tp9 (tx9 m) (g 2).toNat) + 1 := hte
  have hta := (te_al hk1).1
  have hTe := hTK.2.1 hk1
  have hb0 : by9 (tx9 m) ((Tp9 (tx9 m) (g 2).toNat) + 0) = 103 := by
    have := congrArg (fun l => l[0]?) hbs
    exact Option.some.inj this
  have hm0 := by_m (m := m) (p := (Tp9 (tx9 m) (g 2).toNat) + 0) (by omega)
  have hl0 := hL9.2 ((Tp9 (tx9 m) (g 2).toNat) + 0) (by omega)
  exact ⟨rfl, trivial, ⟨⟨(g 2).toNat, (show g 2 = (((g 2).toNat : Nat) : Int) by omega), (show g 5 = m 26 (g 2).toNat by omega)⟩, ⟨(Tp9 (tx9 m) (g 2).toNat) + 0, (show g 6 = (((Tp9 (tx9 m) (g 2).toNat) + 0 : Nat) : Int) by omega), (show g 7 = m 23 ((Tp9 (tx9 m) (g 2).toNat) + 0) by omega)⟩, trivial⟩, fun _ => ⟨h0, k_tok, k_sc1, k_sc2, k_T, k_I, k_F, k_N, k_Y, k_Z, k_A, k_B, k_C, k_X, k_R, k_f4⟩⟩
noncomputable def ru_hw_o : Ru := ([(0, (1199, (0, (0, 0)))), (0, (1102, (0, (0, 0)))), (0, (1122, (0, (0, 0)))), (0, (1123, (0, (0, 0)))), (0, (1124, (0, (0, 0)))), (17, (0, (3, (1, 0)))), (10, (0, (3, (0, 0)))), (4, (0, (0, (111, 0)))), (0, (1100, (0, (0, 0))))], ([], ([([(4, 1)], 51), ([(4, (-1))], (-51))], (false, ([], ([(26, (2, 5)), (23, (6, 7))], ([], none)))))))
theorem rk_hw_o : RuOk SR ru_hw_o := by
  intro τ m g hi hc ha hS
  obtain ⟨i0, i1, i2, i3, i4, i5, i6, i7, i8, _⟩ := hi
  have t1199 : τ 1199 = some (g 0) := i0
  have t1102 : τ 1102 = some (g 1) := i1
  have t1122 : τ 1122 = some (g 2) := i2
  have t1123 : τ 1123 = some (g 3) := i3
  have t1124 : τ 1124 = some (g 4) := i4
  have xe : g 5 = g 3 + 1 := i5
  have xx0 : g 6 = g 3 + 0 := i6
  have xb0 : g 7 = 111 := i7
  have t1100 : τ 1100 = some (g 8) := i8
  obtain ⟨c0, c1, _⟩ := hc
  have c0 : 1 * g 4 ≤ 51 := d1 c0
  have c1 : (-1) * g 4 ≤ (-51) := d1 c1
  obtain ⟨h0, k_tok, k_sc1, k_sc2, k_T, k_I, k_F, k_N, k_Y, k_Z, k_A, k_B, k_C, k_X, k_R, k_f4⟩ := hS (by rw [t1199]; exact fun e => by cases e)
  have k_tok0 := k_tok
  obtain ⟨h_L, h_n, h_nF⟩ := k_tok0
  have k_I0 := k_I
  obtain ⟨h_p, h_pc, h_ip, h_iP, h_PC, h_PN⟩ := k_I0
  obtain ⟨hn0, _, hNT⟩ := h_nF _ t1102
  have hXL : ((tx9 m).2 : Int) = m 110 1 := by
    show (((m 110 1).toNat : Nat) : Int) = _
    omega
  obtain ⟨⟨hi0, hi1⟩, hpi⟩ := h_ip _ _ _ t1102 t1122 t1123
  have hTK := (h_nF _ t1102).2.1.1 (g 2).toNat (by omega)
  have hSL := St_L (X := tx9 m) (i := (g 2).toNat)
  have hcc := h_pc _ _ t1123 t1124
  rw [show (g 3).toNat = Tp9 (tx9 m) (g 2).toNat by omega] at hcc
  have hko := kd_of (X := tx9 m) (p := Tp9 (tx9 m) (g 2).toNat)
  have hL9 := h_L _ t1100
  obtain ⟨hk1, hte, hbs⟩ := wd_of (X := tx9 m) (p := (Tp9 (tx9 m) (g 2).toNat)) (c := 51) (v := 111) (l := [111]) (by omega) (by decide) (by decide) (by decide) (by decide) (by decide)
  have hte : te9 (tx9 m) (Tp9 (tx9 m) (g 2).toNat) = (Tp9 (tx9 m) (g 2).toNat) + 1 := hte
  have hta := (te_al hk1).1
  have hTe := hTK.2.1 hk1
  have hb0 : by9 (tx9 m) ((Tp9 (tx9 m) (g 2).toNat) + 0) = 111 := by
    have := congrArg (fun l => l[0]?) hbs
    exact Option.some.inj this
  have hm0 := by_m (m := m) (p := (Tp9 (tx9 m) (g 2).toNat) + 0) (by omega)
  have hl0 := hL9.2 ((Tp9 (tx9 m) (g 2).toNat) + 0) (by omega)
  exact ⟨rfl, trivial, ⟨⟨(g 2).toNat, (show g 2 = (((g 2).toNat : Nat) : Int) by omega), (show g 5 = m 26 (g 2).toNat by omega)⟩, ⟨(Tp9 (tx9 m) (g 2).toNat) + 0, (show g 6 = (((Tp9 (tx9 m) (g 2).toNat) + 0 : Nat) : Int) by omega), (show g 7 = m 23 ((Tp9 (tx9 m) (g 2).toNat) + 0) by omega)⟩, trivial⟩, fun _ => ⟨h0, k_tok, k_sc1, k_sc2, k_T, k_I, k_F, k_N, k_Y, k_Z, k_A, k_B, k_C, k_X, k_R, k_f4⟩⟩
noncomputable def ru_hl : Ru := ([(0, (1199, (0, (0, 0)))), (0, (1102, (0, (0, 0)))), (0, (1122, (0, (0, 0)))), (0, (1123, (0, (0, 0)))), (0, (1124, (0, (0, 0)))), (17, (0, (3, (1, 0)))), (10, (0, (4, (57, 0)))), (0, (1100, (0, (0, 0))))], ([], ([([(4, (-1))], (-40)), ([(4, 1)], 47)], (false, ([], ([(26, (2, 5)), (23, (3, 6))], ([], none)))))))
theorem rk_hl : RuOk SR ru_hl := by
  intro τ m g hi hc ha hS
  obtain ⟨i0, i1, i2, i3, i4, i5, i6, i7, _⟩ := hi
  have t1199 : τ 1199 = some (g 0) := i0
  have t1102 : τ 1102 = some (g 1) := i1
  have t1122 : τ 1122 = some (g 2) := i2
  have t1123 : τ 1123 = some (g 3) := i3
  have t1124 : τ 1124 = some (g 4) := i4
  have xe : g 5 = g 3 + 1 := i5
  have xb : g 6 = g 4 + 57 := i6
  have t1100 : τ 1100 = some (g 7) := i7
  obtain ⟨c0, c1, _⟩ := hc
  have c0 : (-1) * g 4 ≤ (-40) := d1 c0
  have c1 : 1 * g 4 ≤ 47 := d1 c1
  obtain ⟨h0, k_tok, k_sc1, k_sc2, k_T, k_I, k_F, k_N, k_Y, k_Z, k_A, k_B, k_C, k_X, k_R, k_f4⟩ := hS (by rw [t1199]; exact fun e => by cases e)
  have k_tok0 := k_tok
  obtain ⟨h_L, h_n, h_nF⟩ := k_tok0
  have k_I0 := k_I
  obtain ⟨h_p, h_pc, h_ip, h_iP, h_PC, h_PN⟩ := k_I0
  obtain ⟨hn0, _, hNT⟩ := h_nF _ t1102
  have hXL : ((tx9 m).2 : Int) = m 110 1 := by
    show (((m 110 1).toNat : Nat) : Int) = _
    omega
  obtain ⟨⟨hi0, hi1⟩, hpi⟩ := h_ip _ _ _ t1102 t1122 t1123
  have hTK := (h_nF _ t1102).2.1.1 (g 2).toNat (by omega)
  have hSL := St_L (X := tx9 m) (i := (g 2).toNat)
  have hcc := h_pc _ _ t1123 t1124
  rw [show (g 3).toNat = Tp9 (tx9 m) (g 2).toNat by omega] at hcc
  have hko := kd_of (X := tx9 m) (p := Tp9 (tx9 m) (g 2).toNat)
  have hL9 := h_L _ t1100
  obtain ⟨hk1, hwv⟩ := let_of (X := tx9 m) (p := (Tp9 (tx9 m) (g 2).toNat)) (by omega) (by omega)
  obtain ⟨hte, hby⟩ := one_ofX hk1 hwv (by omega) (by omega)
  have hta := (te_al hk1).1
  have hTe := hTK.2.1 hk1
  have hm0 := by_m (m := m) (p := (Tp9 (tx9 m) (g 2).toNat)) (by omega)
  have hl0 := hL9.2 (Tp9 (tx9 m) (g 2).toNat) (by omega)
  exact ⟨rfl, trivial, ⟨⟨(g 2).toNat, (show g 2 = (((g 2).toNat : Nat) : Int) by omega), (show g 5 = m 26 (g 2).toNat by omega)⟩, ⟨(Tp9 (tx9 m) (g 2).toNat), (show g 3 = (((Tp9 (tx9 m) (g 2).toNat) : Nat) : Int) by omega), (show g 6 = m 23 (Tp9 (tx9 m) (g 2).toNat) by omega)⟩, trivial⟩, fun _ => ⟨h0, k_tok, k_sc1, k_sc2, k_T, k_I, k_F, k_N, k_Y, k_Z, k_A, k_B, k_C, k_X, k_R, k_f4⟩⟩
noncomputable def ru_h1L : Ru := ([(0, (1199, (0, (0, 0)))), (0, (1102, (0, (0, 0)))), (0, (1122, (0, (0, 0)))), (0, (1123, (0, (0, 0)))), (0, (1124, (0, (0, 0)))), (9, (24, (2, (1, 0)))), (9, (26, (2, (1, 0)))), (0, (1100, (0, (0, 0)))), (9, (23, (3, (1, 0)))), (12, (5, (8, (0, 0))))], ([], ([([(5, 1)], 1), ([(5, (-1))], (-1)), ([(3, (-1)), (6, 1)], 1), ([(3, 1), (6, (-1))], (-1)), ([(9, (-1))], (-22)), ([(4, 1), (9, (-1))], (-1))], (true, ([], ([], ([], none)))))))
theorem rk_h1L : RuOk SR ru_h1L := by
  intro τ m g hi hc ha hS
  obtain ⟨i0, i1, i2, i3, i4, i5, i6, i7, i8, i9, _⟩ := hi
  have t1199 : τ 1199 = some (g 0) := i0
  have t1102 : τ 1102 = some (g 1) := i1
  have t1122 : τ 1122 = some (g 2) := i2
  have t1123 : τ 1123 = some (g 3) := i3
  have t1124 : τ 1124 = some (g 4) := i4
  obtain ⟨jk, uk, vk⟩ : ∃ j : Nat, 1 * g 2 + 0 = (j : Int) ∧ g 5 = m 24 j := i5
  obtain ⟨jv, uv, vv⟩ : ∃ j : Nat, 1 * g 2 + 0 = (j : Int) ∧ g 6 = m 26 j := i6
  have t1100 : τ 1100 = some (g 7) := i7
  obtain ⟨jb, ub, vb⟩ : ∃ j : Nat, 1 * g 3 + 0 = (j : Int) ∧ g 8 = m 23 j := i8
  have xcc : g 9 = tb9 5 (g 8) := i9
  obtain ⟨c0, c1, c2, c3, c4, c5, _⟩ := hc
  have c0 : 1 * g 5 ≤ 1 := d1 c0
  have c1 : (-1) * g 5 ≤ (-1) := d1 c1
  have c2 : (-1) * g 3 + 1 * g 6 ≤ 1 := d2 c2
  have c3 : 1 * g 3 + (-1) * g 6 ≤ (-1) := d2 c3
  have c4 : (-1) * g 9 ≤ (-22) := d1 c4
  have c5 : 1 * g 4 + (-1) * g 9 ≤ (-1) := d2 c5
  obtain ⟨h0, k_tok, k_sc1, k_sc2, k_T, k_I, k_F, k_N, k_Y, k_Z, k_A, k_B, k_C, k_X, k_R, k_f4⟩ := hS (by rw [t1199]; exact fun e => by cases e)
  have k_tok0 := k_tok
  obtain ⟨h_L, h_n, h_nF⟩ := k_tok0
  have k_I0 := k_I
  obtain ⟨h_p, h_pc, h_ip, h_iP, h_PC, h_PN⟩ := k_I0
  obtain ⟨hn0, _, hNT⟩ := h_nF _ t1102
  have hXL : ((tx9 m).2 : Int) = m 110 1 := by
    show (((m 110 1).toNat : Nat) : Int) = _
    omega
  obtain ⟨⟨hi0, hi1⟩, hpi⟩ := h_ip _ _ _ t1102 t1122 t1123
  have hTK := (h_nF _ t1102).2.1.1 (g 2).toNat (by omega)
  have hSL := St_L (X := tx9 m) (i := (g 2).toNat)
  have hcc := h_pc _ _ t1123 t1124
  rw [show (g 3).toNat = Tp9 (tx9 m) (g 2).toNat by omega] at hcc
  have hko := kd_of (X := tx9 m) (p := Tp9 (tx9 m) (g 2).toNat)
  rw [show jk = (g 2).toNat by omega] at vk
  rw [show jv = (g 2).toNat by omega] at vv
  have hL9 := h_L _ t1100
  have hTk := hTK.1.2
  have hk1 : kd9 (tx9 m) (Tp9 (tx9 m) (g 2).toNat) = 1 := by omega
  have hTe := hTK.2.1 hk1
  have hta := (te_al hk1).1
  have hwv : wv9 (tx9 m) (Tp9 (tx9 m) (g 2).toNat) = g 8 := by
    rw [one_toX hk1 (by omega), by_m (by omega), ← hL9.2 (Tp9 (tx9 m) (g 2).toNat) (by omega), show (Tp9 (tx9 m) (g 2).toNat) = jb by omega]
    exact vb.symm
  rw [← hwv] at xcc
  have hw5 := rc_w5 hk1 (by omega)
  exfalso
  omega
noncomputable def ru_h1G : Ru := ([(0, (1199, (0, (0, 0)))), (0, (1102, (0, (0, 0)))), (0, (1122, (0, (0, 0)))), (0, (1123, (0, (0, 0)))), (0, (1124, (0, (0, 0)))), (9, (24, (2, (1, 0)))), (9, (26, (2, (1, 0)))), (0, (1100, (0, (0, 0)))), (9, (23, (3, (1, 0)))), (12, (5, (8, (0, 0))))], ([], ([([(5, 1)], 1), ([(5, (-1))], (-1)), ([(3, (-1)), (6, 1)], 1), ([(3, 1), (6, (-1))], (-1)), ([(9, (-1))], (-22)), ([(4, (-1)), (9, 1)], (-1))], (true, ([], ([], ([], none)))))))
theorem rk_h1G : RuOk SR ru_h1G := by
  intro τ m g hi hc ha hS
  obtain ⟨i0, i1, i2, i3, i4, i5, i6, i7, i8, i9, _⟩ := hi
  have t1199 : τ 1199 = some (g 0) := i0
  have t1102 : τ 1102 = some (g 1) := i1
  have t1122 : τ 1122 = some (g 2) := i2
  have t1123 : τ 1123 = some (g 3) := i3
  have t1124 : τ 1124 = some (g 4) := i4
  obtain ⟨jk, uk, vk⟩ : ∃ j : Nat, 1 * g 2 + 0 = (j : Int) ∧ g 5 = m 24 j := i5
  obtain ⟨jv, uv, vv⟩ : ∃ j : Nat, 1 * g 2 + 0 = (j : Int) ∧ g 6 = m 26 j := i6
  have t1100 : τ 1100 = some (g 7) := i7
  obtain ⟨jb, ub, vb⟩ : ∃ j : Nat, 1 * g 3 + 0 = (j : Int) ∧ g 8 = m 23 j := i8
  have xcc : g 9 = tb9 5 (g 8) := i9
  obtain ⟨c0, c1, c2, c3, c4, c5, _⟩ := hc
  have c0 : 1 * g 5 ≤ 1 := d1 c0
  have c1 : (-1) * g 5 ≤ (-1) := d1 c1
  have c2 : (-1) * g 3 + 1 * g 6 ≤ 1 := d2 c2
  have c3 : 1 * g 3 + (-1) * g 6 ≤ (-1) := d2 c3
  have c4 : (-1) * g 9 ≤ (-22) := d1 c4
  have c5 : (-1) * g 4 + 1 * g 9 ≤ (-1) := d2 c5
  obtain ⟨h0, k_tok, k_sc1, k_sc2, k_T, k_I, k_F, k_N, k_Y, k_Z, k_A, k_B, k_C, k_X, k_R, k_f4⟩ := hS (by rw [t1199]; exact fun e => by cases e)
  have k_tok0 := k_tok
  obtain ⟨h_L, h_n, h_nF⟩ := k_tok0
  have k_I0 := k_I
  obtain ⟨h_p, h_pc, h_ip, h_iP, h_PC, h_PN⟩ := k_I0
  obtain ⟨hn0, _, hNT⟩ := h_nF _ t1102
  have hXL : ((tx9 m).2 : Int) = m 110 1 := by
    show (((m 110 1).toNat : Nat) : Int) = _
    omega
  obtain ⟨⟨hi0, hi1⟩, hpi⟩ := h_ip _ _ _ t1102 t1122 t1123
  have hTK := (h_nF _ t1102).2.1.1 (g 2).toNat (by omega)
  have hSL := St_L (X := tx9 m) (i := (g 2).toNat)
  have hcc := h_pc _ _ t1123 t1124
  rw [show (g 3).toNat = Tp9 (tx9 m) (g 2).toNat by omega] at hcc
  have hko := kd_of (X := tx9 m) (p := Tp9 (tx9 m) (g 2).toNat)
  rw [show jk = (g 2).toNat by omega] at vk
  rw [show jv = (g 2).toNat by omega] at vv
  have hL9 := h_L _ t1100
  have hTk := hTK.1.2
  have hk1 : kd9 (tx9 m) (Tp9 (tx9 m) (g 2).toNat) = 1 := by omega
  have hTe := hTK.2.1 hk1
  have hta := (te_al hk1).1
  have hwv : wv9 (tx9 m) (Tp9 (tx9 m) (g 2).toNat) = g 8 := by
    rw [one_toX hk1 (by omega), by_m (by omega), ← hL9.2 (Tp9 (tx9 m) (g 2).toNat) (by omega), show (Tp9 (tx9 m) (g 2).toNat) = jb by omega]
    exact vb.symm
  rw [← hwv] at xcc
  have hw5 := rc_w5 hk1 (by omega)
  exfalso
  omega
noncomputable def ru_toB : Ru := ([(0, (1199, (0, (0, 0)))), (0, (1102, (0, (0, 0)))), (0, (1122, (0, (0, 0)))), (0, (1123, (0, (0, 0)))), (0, (1130, (0, (0, 0)))), (0, (1131, (0, (0, 0)))), (0, (1132, (0, (0, 0)))), (0, (1133, (0, (0, 0)))), (0, (1134, (0, (0, 0))))], ([1140, 1141, 1142, 1143, 1144, 1145, 1146, 1147, 1200, 1201, 1202, 1203, 1204, 1205], ([([(2, (-1)), (5, 1)], 0), ([(2, 1), (5, (-1))], 0)], (false, ([], ([], ([(1140, some (4, 0)), (1141, some (5, 0)), (1142, some (6, 0)), (1143, some (7, 0)), (1144, some (8, 0)), (1200, some (4, 0)), (1201, some (5, 0)), (1202, some (6, 0)), (1203, some (7, 0)), (1204, some (8, 0)), (1205, some (3, 0)), (1130, none), (1131, none), (1132, none), (1133, none), (1134, none)], none)))))))
theorem rk_toB : RuOk SR ru_toB := by
  intro τ m g hi hc ha hS
  obtain ⟨i0, i1, i2, i3, i4, i5, i6, i7, i8, _⟩ := hi
  have t1199 : τ 1199 = some (g 0) := i0
  have t1102 : τ 1102 = some (g 1) := i1
  have t1122 : τ 1122 = some (g 2) := i2
  have t1123 : τ 1123 = some (g 3) := i3
  have t1130 : τ 1130 = some (g 4) := i4
  have t1131 : τ 1131 = some (g 5) := i5
  have t1132 : τ 1132 = some (g 6) := i6
  have t1133 : τ 1133 = some (g 7) := i7
  have t1134 : τ 1134 = some (g 8) := i8
  obtain ⟨c0, c1, _⟩ := hc
  have c0 : (-1) * g 2 + 1 * g 5 ≤ 0 := d2 c0
  have c1 : 1 * g 2 + (-1) * g 5 ≤ 0 := d2 c1
  obtain ⟨a0, a1, a2, a3, a4, a5, a6, a7, a8, a9, a10, a11, a12, a13, _⟩ := ha
  have n1140 : τ 1140 = none := a0
  have n1141 : τ 1141 = none := a1
  have n1142 : τ 1142 = none := a2
  have n1143 : τ 1143 = none := a3
  have n1144 : τ 1144 = none := a4
  have n1145 : τ 1145 = none := a5
  have n1146 : τ 1146 = none := a6
  have n1147 : τ 1147 = none := a7
  have n1200 : τ 1200 = none := a8
  have n1201 : τ 1201 = none := a9
  have n1202 : τ 1202 = none := a10
  have n1203 : τ 1203 = none := a11
  have n1204 : τ 1204 = none := a12
  have n1205 : τ 1205 = none := a13
  obtain ⟨h0, k_tok, k_sc1, k_sc2, k_T, k_I, k_F, k_N, k_Y, k_Z, k_A, k_B, k_C, k_X, k_R, k_f4⟩ := hS (by rw [t1199]; exact fun e => by cases e)
  have k_tok0 := k_tok
  obtain ⟨h_L, h_n, h_nF⟩ := k_tok0
  have k_I0 := k_I
  obtain ⟨h_p, h_pc, h_ip, h_iP, h_PC, h_PN⟩ := k_I0
  have k_A0 := k_A
  obtain ⟨h_A0, h_A⟩ := k_A0
  have k_B0 := k_B
  obtain ⟨h_B0, h_B, h_Bd0, h_B26, h_B22, h_Bs⟩ := k_B0
  have k_C0 := k_C
  obtain ⟨h_C0, h_C, h_Ci0, h_Cp⟩ := k_C0
  obtain ⟨hn0, _, hNT⟩ := h_nF _ t1102
  have hS1 := h_A _ _ _ _ _ _ t1102 t1130 t1131 t1132 t1133 t1134
  have hS0 := h_A0 _ _ _ _ _ t1102 t1130 t1131 t1132 t1134
  exact ⟨rfl, trivial, trivial, fun _ => ⟨h0, k_tok, k_sc1, k_sc2, k_T, k_I, k_F, k_N, k_Y, k_Z, ⟨fun _ _ _ _ _ e0 e1 e2 e3 e4 => no9 (o := none) rfl e1, fun _ _ _ _ _ _ e0 e1 e2 e3 e4 e5 => no9 (o := none) rfl e1⟩, ⟨fun nF Bd Bi Br Bm e0 e1 e2 e3 e4 => by
      have e0 : g 1 = nF := Option.some.inj (t1102.symm.trans e0)
      subst e0
      have e1 : g 4 + 0 = Bd := Option.some.inj e1
      subst e1
      have e2 : g 5 + 0 = Bi := Option.some.inj e2
      subst e2
      have e3 : g 6 + 0 = Br := Option.some.inj e3
      subst e3
      have e4 : g 8 + 0 = Bm := Option.some.inj e4
      subst e4
      simp only [Int.add_zero]
      exact ⟨_, hS1⟩, fun nF Bd Bi Br Bx Bm e0 e1 e2 e3 e4 e5 => by
      have e0 : g 1 = nF := Option.some.inj (t1102.symm.trans e0)
      subst e0
      have e1 : g 4 + 0 = Bd := Option.some.inj e1
      subst e1
      have e2 : g 5 + 0 = Bi := Option.some.inj e2
      subst e2
      have e3 : g 6 + 0 = Br := Option.some.inj e3
      subst e3
      have e4 : g 7 + 0 = Bx := Option.some.inj e4
      subst e4
      have e5 : g 8 + 0 = Bm := Option.some.inj e5
      subst e5
      simp only [Int.add_zero]
      exact hS1, fun Bd e0 => by
      have e0 : g 4 + 0 = Bd := Option.some.inj e0
      subst e0
      have y := hS1.1.2.1
      omega, fun Bd Bi Bm e0 e1 e2 => by
      have e0 : g 4 + 0 = Bd := Option.some.inj e0
      subst e0
      have e1 : g 5 + 0 = Bi := Option.some.inj e1
      subst e1
      have e2 : g 8 + 0 = Bm := Option.some.inj e2
      subst e2
      intro h
      omega, fun _ _ _ _ e0 e1 e2 e3 => no9 n1145 e3, h_Bs⟩, ⟨fun nF Cd Ci Cr Cm e0 e1 e2 e3 e4 => by
      have e0 : g 1 = nF := Option.some.inj (t1102.symm.trans e0)
      subst e0
      have e1 : g 4 + 0 = Cd := Option.some.inj e1
      subst e1
      have e2 : g 5 + 0 = Ci := Option.some.inj e2
      subst e2
      have e3 : g 6 + 0 = Cr := Option.some.inj e3
      subst e3
      have e4 : g 8 + 0 = Cm := Option.some.inj e4
      subst e4
      simp only [Int.add_zero]
      exact ⟨by omega, _, hS1⟩, fun nF Cd Ci Cr Cx Cm e0 e1 e2 e3 e4 e5 => by
      have e0 : g 1 = nF := Option.some.inj (t1102.symm.trans e0)
      subst e0
      have e1 : g 4 + 0 = Cd := Option.some.inj e1
      subst e1
      have e2 : g 5 + 0 = Ci := Option.some.inj e2
      subst e2
      have e3 : g 6 + 0 = Cr := Option.some.inj e3
      subst e3
      have e4 : g 7 + 0 = Cx := Option.some.inj e4
      subst e4
      have e5 : g 8 + 0 = Cm := Option.some.inj e5
      subst e5
      simp only [Int.add_zero]
      exact hS1, fun Ci e0 => by
      have e0 : g 5 + 0 = Ci := Option.some.inj e0
      subst e0
      have y := hS1.1.2.2.1
      omega, fun Ci Cp e0 e1 => by
      have e0 : g 5 + 0 = Ci := Option.some.inj e0
      subst e0
      have e1 : g 3 + 0 = Cp := Option.some.inj e1
      subst e1
      simp only [Int.add_zero]
      have hpo := (h_ip _ _ _ t1102 t1122 t1123).2
      rw [show g 5 = g 2 by omega]
      exact hpo⟩, k_X, k_R, k_f4⟩⟩
noncomputable def ru_toA : Ru := ([(0, (1199, (0, (0, 0)))), (0, (1102, (0, (0, 0)))), (0, (1200, (0, (0, 0)))), (0, (1201, (0, (0, 0)))), (0, (1202, (0, (0, 0)))), (0, (1203, (0, (0, 0)))), (0, (1204, (0, (0, 0))))], ([1130, 1131, 1132, 1133, 1134], ([], (false, ([], ([], ([(1130, some (2, 0)), (1131, some (3, 0)), (1132, some (4, 0)), (1133, some (5, 0)), (1134, some (6, 0)), (1200, none), (1201, none), (1202, none), (1203, none), (1204, none), (1205, none), (1140, none), (1141, none), (1142, none), (1143, none), (1144, none), (1145, none), (1146, none), (1147, none)], none)))))))
theorem rk_toA : RuOk SR ru_toA := by
  intro τ m g hi hc ha hS
  obtain ⟨i0, i1, i2, i3, i4, i5, i6, _⟩ := hi
  have t1199 : τ 1199 = some (g 0) := i0
  have t1102 : τ 1102 = some (g 1) := i1
  have t1200 : τ 1200 = some (g 2) := i2
  have t1201 : τ 1201 = some (g 3) := i3
  have t1202 : τ 1202 = some (g 4) := i4
  have t1203 : τ 1203 = some (g 5) := i5
  have t1204 : τ 1204 = some (g 6) := i6
  obtain ⟨a0, a1, a2, a3, a4, _⟩ := ha
  have n1130 : τ 1130 = none := a0
  have n1131 : τ 1131 = none := a1
  have n1132 : τ 1132 = none := a2
  have n1133 : τ 1133 = none := a3
  have n1134 : τ 1134 = none := a4
  obtain ⟨h0, k_tok, k_sc1, k_sc2, k_T, k_I, k_F, k_N, k_Y, k_Z, k_A, k_B, k_C, k_X, k_R, k_f4⟩ := hS (by rw [t1199]; exact fun e => by cases e)
  have k_tok0 := k_tok
  obtain ⟨h_L, h_n, h_nF⟩ := k_tok0
  have k_A0 := k_A
  obtain ⟨h_A0, h_A⟩ := k_A0
  have k_C0 := k_C
  obtain ⟨h_C0, h_C, h_Ci0, h_Cp⟩ := k_C0
  have k_B0 := k_B
  obtain ⟨h_B0, h_B, h_Bd0, h_B26, h_B22, h_Bs⟩ := k_B0
  obtain ⟨hn0, _, hNT⟩ := h_nF _ t1102
  have hS1 := h_C _ _ _ _ _ _ t1102 t1200 t1201 t1202 t1203 t1204
  have hS0 := h_C0 _ _ _ _ _ t1102 t1200 t1201 t1202 t1204
  exact ⟨rfl, trivial, trivial, fun _ => ⟨h0, k_tok, k_sc1, k_sc2, k_T, k_I, k_F, k_N, k_Y, k_Z, ⟨fun nF Ad Ai Ar Am e0 e1 e2 e3 e4 => by
      have e0 : g 1 = nF := Option.some.inj (t1102.symm.trans e0)
      subst e0
      have e1 : g 2 + 0 = Ad := Option.some.inj e1
      subst e1
      have e2 : g 3 + 0 = Ai := Option.some.inj e2
      subst e2
      have e3 : g 4 + 0 = Ar := Option.some.inj e3
      subst e3
      have e4 : g 6 + 0 = Am := Option.some.inj e4
      subst e4
      simp only [Int.add_zero]
      exact ⟨by omega, _, hS1⟩, fun nF Ad Ai Ar Ax Am e0 e1 e2 e3 e4 e5 => by
      have e0 : g 1 = nF := Option.some.inj (t1102.symm.trans e0)
      subst e0
      have e1 : g 2 + 0 = Ad := Option.some.inj e1
      subst e1
      have e2 : g 3 + 0 = Ai := Option.some.inj e2
      subst e2
      have e3 : g 4 + 0 = Ar := Option.some.inj e3
      subst e3
      have e4 : g 5 + 0 = Ax := Option.some.inj e4
      subst e4
      have e5 : g 6 + 0 = Am := Option.some.inj e5
      subst e5
      simp only [Int.add_zero]
      exact hS1⟩, ⟨fun _ _ _ _ _ e0 e1 e2 e3 e4 => no9 (o := none) rfl e1, fun _ _ _ _ _ _ e0 e1 e2 e3 e4 e5 => no9 (o := none) rfl e1, fun _ e0 => no9 (o := none) rfl e0, fun _ _ _ e0 e1 e2 => no9 (o := none) rfl e0, fun _ _ _ _ e0 e1 e2 e3 => no9 (o := none) rfl e0, fun _ _ _ e0 e1 e2 => no9 (o := none) rfl e1⟩, ⟨fun _ _ _ _ _ e0 e1 e2 e3 e4 => no9 (o := none) rfl e1, fun _ _ _ _ _ _ e0 e1 e2 e3 e4 e5 => no9 (o := none) rfl e1, fun _ e0 => no9 (o := none) rfl e0, fun _ _ e0 e1 => no9 (o := none) rfl e0⟩, k_X, k_R, k_f4⟩⟩
noncomputable def ru_bA : Ru := ([(0, (1199, (0, (0, 0)))), (0, (1102, (0, (0, 0)))), (0, (1140, (0, (0, 0)))), (0, (1141, (0, (0, 0)))), (0, (1142, (0, (0, 0)))), (0, (1143, (0, (0, 0)))), (0, (1144, (0, (0, 0))))], ([1130, 1131, 1132, 1133, 1134], ([([(6, 1)], 21)], (false, ([], ([], ([(1130, some (2, 0)), (1131, some (3, 0)), (1132, some (4, 0)), (1133, some (5, 0)), (1134, some (6, 0)), (1200, none), (1201, none), (1202, none), (1203, none), (1204, none), (1205, none), (1140, none), (1141, none), (1142, none), (1143, none), (1144, none), (1145, none), (1146, none), (1147, none)], none)))))))
theorem rk_bA : RuOk SR ru_bA := by
  intro τ m g hi hc ha hS
  obtain ⟨i0, i1, i2, i3, i4, i5, i6, _⟩ := hi
  have t1199 : τ 1199 = some (g 0) := i0
  have t1102 : τ 1102 = some (g 1) := i1
  have t1140 : τ 1140 = some (g 2) := i2
  have t1141 : τ 1141 = some (g 3) := i3
  have t1142 : τ 1142 = some (g 4) := i4
  have t1143 : τ 1143 = some (g 5) := i5
  have t1144 : τ 1144 = some (g 6) := i6
  obtain ⟨c0, _⟩ := hc
  have c0 : 1 * g 6 ≤ 21 := d1 c0
  obtain ⟨a0, a1, a2, a3, a4, _⟩ := ha
  have n1130 : τ 1130 = none := a0
  have n1131 : τ 1131 = none := a1
  have n1132 : τ 1132 = none := a2
  have n1133 : τ 1133 = none := a3
  have n1134 : τ 1134 = none := a4
  obtain ⟨h0, k_tok, k_sc1, k_sc2, k_T, k_I, k_F, k_N, k_Y, k_Z, k_A, k_B, k_C, k_X, k_R, k_f4⟩ := hS (by rw [t1199]; exact fun e => by cases e)
  have k_tok0 := k_tok
  obtain ⟨h_L, h_n, h_nF⟩ := k_tok0
  have k_A0 := k_A
  obtain ⟨h_A0, h_A⟩ := k_A0
  have k_B0 := k_B
  obtain ⟨h_B0, h_B, h_Bd0, h_B26, h_B22, h_Bs⟩ := k_B0
  have k_C0 := k_C
  obtain ⟨h_C0, h_C, h_Ci0, h_Cp⟩ := k_C0
  obtain ⟨hn0, _, hNT⟩ := h_nF _ t1102
  have hS1 := h_B _ _ _ _ _ _ t1102 t1140 t1141 t1142 t1143 t1144
  have hS0 := h_B0 _ _ _ _ _ t1102 t1140 t1141 t1142 t1144
  exact ⟨rfl, trivial, trivial, fun _ => ⟨h0, k_tok, k_sc1, k_sc2, k_T, k_I, k_F, k_N, k_Y, k_Z, ⟨fun nF Ad Ai Ar Am e0 e1 e2 e3 e4 => by
      have e0 : g 1 = nF := Option.some.inj (t1102.symm.trans e0)
      subst e0
      have e1 : g 2 + 0 = Ad := Option.some.inj e1
      subst e1
      have e2 : g 3 + 0 = Ai := Option.some.inj e2
      subst e2
      have e3 : g 4 + 0 = Ar := Option.some.inj e3
      subst e3
      have e4 : g 6 + 0 = Am := Option.some.inj e4
      subst e4
      simp only [Int.add_zero]
      exact ⟨by omega, _, hS1⟩, fun nF Ad Ai Ar Ax Am e0 e1 e2 e3 e4 e5 => by
      have e0 : g 1 = nF := Option.some.inj (t1102.symm.trans e0)
      subst e0
      have e1 : g 2 + 0 = Ad := Option.some.inj e1
      subst e1
      have e2 : g 3 + 0 = Ai := Option.some.inj e2
      subst e2
      have e3 : g 4 + 0 = Ar := Option.some.inj e3
      subst e3
      have e4 : g 5 + 0 = Ax := Option.some.inj e4
      subst e4
      have e5 : g 6 + 0 = Am := Option.some.inj e5
      subst e5
      simp only [Int.add_zero]
      exact hS1⟩, ⟨fun _ _ _ _ _ e0 e1 e2 e3 e4 => no9 (o := none) rfl e1, fun _ _ _ _ _ _ e0 e1 e2 e3 e4 e5 => no9 (o := none) rfl e1, fun _ e0 => no9 (o := none) rfl e0, fun _ _ _ e0 e1 e2 => no9 (o := none) rfl e0, fun _ _ _ _ e0 e1 e2 e3 => no9 (o := none) rfl e0, fun _ _ _ e0 e1 e2 => no9 (o := none) rfl e1⟩, ⟨fun _ _ _ _ _ e0 e1 e2 e3 e4 => no9 (o := none) rfl e1, fun _ _ _ _ _ _ e0 e1 e2 e3 e4 e5 => no9 (o := none) rfl e1, fun _ e0 => no9 (o := none) rfl e0, fun _ _ e0 e1 => no9 (o := none) rfl e0⟩, k_X, k_R, k_f4⟩⟩
noncomputable def ru_toA2 : Ru := ([(0, (1199, (0, (0, 0)))), (0, (1102, (0, (0, 0)))), (0, (1200, (0, (0, 0)))), (0, (1201, (0, (0, 0)))), (0, (1202, (0, (0, 0)))), (0, (1203, (0, (0, 0)))), (0, (1204, (0, (0, 0))))], ([], ([], (false, ([], ([], ([(1130, some (2, 0)), (1131, some (3, 0)), (1132, some (4, 0)), (1133, some (5, 0)), (1134, some (6, 0)), (1200, none), (1201, none), (1202, none), (1203, none), (1204, none), (1205, none), (1140, none), (1141, none), (1142, none), (1143, none), (1144, none), (1145, none), (1146, none), (1147, none), (1124, none), (1125, none)], none)))))))
theorem rk_toA2 : RuOk SR ru_toA2 := by
  intro τ m g hi hc ha hS
  obtain ⟨i0, i1, i2, i3, i4, i5, i6, _⟩ := hi
  have t1199 : τ 1199 = some (g 0) := i0
  have t1102 : τ 1102 = some (g 1) := i1
  have t1200 : τ 1200 = some (g 2) := i2
  have t1201 : τ 1201 = some (g 3) := i3
  have t1202 : τ 1202 = some (g 4) := i4
  have t1203 : τ 1203 = some (g 5) := i5
  have t1204 : τ 1204 = some (g 6) := i6
  obtain ⟨h0, k_tok, k_sc1, k_sc2, k_T, k_I, k_F, k_N, k_Y, k_Z, k_A, k_B, k_C, k_X, k_R, k_f4⟩ := hS (by rw [t1199]; exact fun e => by cases e)
  have k_tok0 := k_tok
  obtain ⟨h_L, h_n, h_nF⟩ := k_tok0
  have k_A0 := k_A
  obtain ⟨h_A0, h_A⟩ := k_A0
  have k_C0 := k_C
  obtain ⟨h_C0, h_C, h_Ci0, h_Cp⟩ := k_C0
  have k_I0 := k_I
  obtain ⟨h_p, h_pc, h_ip, h_iP, h_PC, h_PN⟩ := k_I0
  have k_B0 := k_B
  obtain ⟨h_B0, h_B, h_Bd0, h_B26, h_B22, h_Bs⟩ := k_B0
  obtain ⟨hn0, _, hNT⟩ := h_nF _ t1102
  have hS1 := h_C _ _ _ _ _ _ t1102 t1200 t1201 t1202 t1203 t1204
  have hS0 := h_C0 _ _ _ _ _ t1102 t1200 t1201 t1202 t1204
  exact ⟨rfl, trivial, trivial, fun _ => ⟨h0, k_tok, k_sc1, k_sc2, k_T, ⟨h_p, fun _ _ e0 e1 => no9 (o := none) rfl e1, h_ip, fun _ _ _ e0 e1 e2 => no9 (o := none) rfl e2, fun _ _ e0 e1 => no9 (o := none) rfl e0, fun _ _ _ e0 e1 e2 => no9 (o := none) rfl e0⟩, k_F, k_N, k_Y, k_Z, ⟨fun nF Ad Ai Ar Am e0 e1 e2 e3 e4 => by
      have e0 : g 1 = nF := Option.some.inj (t1102.symm.trans e0)
      subst e0
      have e1 : g 2 + 0 = Ad := Option.some.inj e1
      subst e1
      have e2 : g 3 + 0 = Ai := Option.some.inj e2
      subst e2
      have e3 : g 4 + 0 = Ar := Option.some.inj e3
      subst e3
      have e4 : g 6 + 0 = Am := Option.some.inj e4
      subst e4
      simp only [Int.add_zero]
      exact ⟨by omega, _, hS1⟩, fun nF Ad Ai Ar Ax Am e0 e1 e2 e3 e4 e5 => by
      have e0 : g 1 = nF := Option.some.inj (t1102.symm.trans e0)
      subst e0
      have e1 : g 2 + 0 = Ad := Option.some.inj e1
      subst e1
      have e2 : g 3 + 0 = Ai := Option.some.inj e2
      subst e2
      have e3 : g 4 + 0 = Ar := Option.some.inj e3
      subst e3
      have e4 : g 5 + 0 = Ax := Option.some.inj e4
      subst e4
      have e5 : g 6 + 0 = Am := Option.some.inj e5
      subst e5
      simp only [Int.add_zero]
      exact hS1⟩, ⟨fun _ _ _ _ _ e0 e1 e2 e3 e4 => no9 (o := none) rfl e1, fun _ _ _ _ _ _ e0 e1 e2 e3 e4 e5 => no9 (o := none) rfl e1, fun _ e0 => no9 (o := none) rfl e0, fun _ _ _ e0 e1 e2 => no9 (o := none) rfl e0, fun _ _ _ _ e0 e1 e2 e3 => no9 (o := none) rfl e0, fun _ _ _ e0 e1 e2 => no9 (o := none) rfl e1⟩, ⟨fun _ _ _ _ _ e0 e1 e2 e3 e4 => no9 (o := none) rfl e1, fun _ _ _ _ _ _ e0 e1 e2 e3 e4 e5 => no9 (o := none) rfl e1, fun _ e0 => no9 (o := none) rfl e0, fun _ _ e0 e1 => no9 (o := none) rfl e0⟩, k_X, k_R, k_f4⟩⟩
noncomputable def ru_toF : Ru := ([(0, (1199, (0, (0, 0)))), (0, (1102, (0, (0, 0)))), (0, (1200, (0, (0, 0)))), (0, (1201, (0, (0, 0)))), (0, (1202, (0, (0, 0)))), (0, (1203, (0, (0, 0)))), (0, (1204, (0, (0, 0))))], ([], ([], (false, ([], ([], ([(1130, some (2, 0)), (1131, some (3, 0)), (1132, some (4, 0)), (1133, some (5, 0)), (1134, some (6, 0)), (1200, none), (1201, none), (1202, none), (1203, none), (1204, none), (1205, none), (1140, none), (1141, none), (1142, none), (1143, none), (1144, none), (1145, none), (1146, none), (1147, none), (1124, none), (1125, none), (1122, none), (1123, none)], none)))))))
theorem rk_toF : RuOk SR ru_toF := by
  intro τ m g hi hc ha hS
  obtain ⟨i0, i1, i2, i3, i4, i5, i6, _⟩ := hi
  have t1199 : τ 1199 = some (g 0) := i0
  have t1102 : τ 1102 = some (g 1) := i1
  have t1200 : τ 1200 = some (g 2) := i2
  have t1201 : τ 1201 = some (g 3) := i3
  have t1202 : τ 1202 = some (g 4) := i4
  have t1203 : τ 1203 = some (g 5) := i5
  have t1204 : τ 1204 = some (g 6) := i6
  obtain ⟨h0, k_tok, k_sc1, k_sc2, k_T, k_I, k_F, k_N, k_Y, k_Z, k_A, k_B, k_C, k_X, k_R, k_f4⟩ := hS (by rw [t1199]; exact fun e => by cases e)
  have k_tok0 := k_tok
  obtain ⟨h_L, h_n, h_nF⟩ := k_tok0
  have k_A0 := k_A
  obtain ⟨h_A0, h_A⟩ := k_A0
  have k_C0 := k_C
  obtain ⟨h_C0, h_C, h_Ci0, h_Cp⟩ := k_C0
  have k_I0 := k_I
  obtain ⟨h_p, h_pc, h_ip, h_iP, h_PC, h_PN⟩ := k_I0
  have k_B0 := k_B
  obtain ⟨h_B0, h_B, h_Bd0, h_B26, h_B22, h_Bs⟩ := k_B0
  obtain ⟨hn0, _, hNT⟩ := h_nF _ t1102
  have hS1 := h_C _ _ _ _ _ _ t1102 t1200 t1201 t1202 t1203 t1204
  have hS0 := h_C0 _ _ _ _ _ t1102 t1200 t1201 t1202 t1204
  exact ⟨rfl, trivial, trivial, fun _ => ⟨h0, k_tok, k_sc1, k_sc2, k_T, ⟨fun _ e0 => no9 (o := none) rfl e0, fun _ _ e0 e1 => no9 (o := none) rfl e0, fun _ _ _ e0 e1 e2 => no9 (o := none) rfl e1, fun _ _ _ e0 e1 e2 => no9 (o := none) rfl e0, fun _ _ e0 e1 => no9 (o := none) rfl e0, fun _ _ _ e0 e1 e2 => no9 (o := none) rfl e0⟩, k_F, k_N, k_Y, k_Z, ⟨fun nF Ad Ai Ar Am e0 e1 e2 e3 e4 => by
      have e0 : g 1 = nF := Option.some.inj (t1102.symm.trans e0)
      subst e0
      have e1 : g 2 + 0 = Ad := Option.some.inj e1
      subst e1
      have e2 : g 3 + 0 = Ai := Option.some.inj e2
      subst e2
      have e3 : g 4 + 0 = Ar := Option.some.inj e3
      subst e3
      have e4 : g 6 + 0 = Am := Option.some.inj e4
      subst e4
      simp only [Int.add_zero]
      exact ⟨by omega, _, hS1⟩, fun nF Ad Ai Ar Ax Am e0 e1 e2 e3 e4 e5 => by
      have e0 : g 1 = nF := Option.some.inj (t1102.symm.trans e0)
      subst e0
      have e1 : g 2 + 0 = Ad := Option.some.inj e1
      subst e1
      have e2 : g 3 + 0 = Ai := Option.some.inj e2
      subst e2
      have e3 : g 4 + 0 = Ar := Option.some.inj e3
      subst e3
      have e4 : g 5 + 0 = Ax := Option.some.inj e4
      subst e4
      have e5 : g 6 + 0 = Am := Option.some.inj e5
      subst e5
      simp only [Int.add_zero]
      exact hS1⟩, ⟨fun _ _ _ _ _ e0 e1 e2 e3 e4 => no9 (o := none) rfl e1, fun _ _ _ _ _ _ e0 e1 e2 e3 e4 e5 => no9 (o := none) rfl e1, fun _ e0 => no9 (o := none) rfl e0, fun _ _ _ e0 e1 e2 => no9 (o := none) rfl e0, fun _ _ _ _ e0 e1 e2 e3 => no9 (o := none) rfl e0, fun _ _ _ e0 e1 e2 => no9 (o := none) rfl e1⟩, ⟨fun _ _ _ _ _ e0 e1 e2 e3 e4 => no9 (o := none) rfl e1, fun _ _ _ _ _ _ e0 e1 e2 e3 e4 e5 => no9 (o := none) rfl e1, fun _ e0 => no9 (o := none) rfl e0, fun _ _ e0 e1 => no9 (o := none) rfl e0⟩, k_X, k_R, k_f4⟩⟩
noncomputable def ru_pz : Ru := ([(0, (1199, (0, (0, 0)))), (0, (1102, (0, (0, 0)))), (0, (1122, (0, (0, 0)))), (0, (1123, (0, (0, 0)))), (5, (110, (1, (0, 0))))], ([], ([], (false, ([([(3, 1), (4, (-1))], 0)], ([], ([], none)))))))
theorem rk_pz : RuOk SR ru_pz := by
  intro τ m g hi hc ha hS
  obtain ⟨i0, i1, i2, i3, i4, _⟩ := hi
  have t1199 : τ 1199 = some (g 0) := i0
  have t1102 : τ 1102 = some (g 1) := i1
  have t1122 : τ 1122 = some (g 2) := i2
  have t1123 : τ 1123 = some (g 3) := i3
  have xL : g 4 = m 110 1 := i4
  obtain ⟨h0, k_tok, k_sc1, k_sc2, k_T, k_I, k_F, k_N, k_Y, k_Z, k_A, k_B, k_C, k_X, k_R, k_f4⟩ := hS (by rw [t1199]; exact fun e => by cases e)
  have k_tok0 := k_tok
  obtain ⟨h_L, h_n, h_nF⟩ := k_tok0
  have k_I0 := k_I
  obtain ⟨h_p, h_pc, h_ip, h_iP, h_PC, h_PN⟩ := k_I0
  have hp := h_p _ t1123
  exact ⟨rfl, ⟨f2 (by omega), trivial⟩, trivial, fun _ => ⟨h0, k_tok, k_sc1, k_sc2, k_T, k_I, k_F, k_N, k_Y, k_Z, k_A, k_B, k_C, k_X, k_R, k_f4⟩⟩
noncomputable def ru_s1xx : Ru := ([], ([], ([], (false, ([], ([], ([], none)))))))
theorem rk_s1xx : RuOk SR ru_s1xx := by
  intro τ m g hi hc ha hS
  refine ⟨rfl, trivial, trivial, fun hM => ?_⟩
  obtain ⟨h0, k_tok, k_sc1, k_sc2, k_T, k_I, k_F, k_N, k_Y, k_Z, k_A, k_B, k_C, k_X, k_R, k_f4⟩ := hS hM
  exact ⟨h0, k_tok, k_sc1, k_sc2, k_T, k_I, k_F, k_N, k_Y, k_Z, k_A, k_B, k_C, k_X, k_R, k_f4⟩
end
