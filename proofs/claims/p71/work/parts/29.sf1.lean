noncomputable section
/-! ===== THE GUARD, 89: rules ===== -/
def ru_dA0 : Ru := ([(0, (920, (0, (0, 0)))), (0, (921, (0, (0, 0)))), (0, (873, (0, (0, 0)))), (4, (0, (0, (0, 0)))), (0, (840, (0, (0, 0)))), (0, (841, (0, (0, 0)))), (0, (842, (0, (0, 0))))], ([923, 924, 925, 926, 928, 981], ([([(2, (-1)), (4, 1)], 0), ([(2, 1), (4, (-1))], 0), ([(0, (-1)), (5, 1)], 0), ([(0, 1), (5, (-1))], 0), ([(6, 1)], 0), ([(6, (-1))], 0), ([(1, 1)], 0), ([(1, (-1))], 0), ([(0, (-1))], 0), ([(0, 1)], 3)], (false, ([], ([], ([(920, some (0, 1)), (840, none), (841, none), (842, none)], none)))))))
theorem rk_dA0 : RuOk SGd ru_dA0 := by
  intro τ m g hi hc ha hS
  obtain ⟨i0, i1, i2, i3, i4, i5, i6, _⟩ := hi
  have t920 : τ 920 = some (g 0) := i0
  have t921 : τ 921 = some (g 1) := i1
  have t873 : τ 873 = some (g 2) := i2
  have xzero : g 3 = 0 := i3
  have t840 : τ 840 = some (g 4) := i4
  have t841 : τ 841 = some (g 5) := i5
  have t842 : τ 842 = some (g 6) := i6
  obtain ⟨c0, c1, c2, c3, c4, c5, c6, c7, c8, c9, _⟩ := hc
  have c0 : (-1) * g 2 + 1 * g 4 ≤ 0 := d2 c0
  have c1 : 1 * g 2 + (-1) * g 4 ≤ 0 := d2 c1
  have c2 : (-1) * g 0 + 1 * g 5 ≤ 0 := d2 c2
  have c3 : 1 * g 0 + (-1) * g 5 ≤ 0 := d2 c3
  have c4 : 1 * g 6 ≤ 0 := d1 c4
  have c5 : (-1) * g 6 ≤ 0 := d1 c5
  have c6 : 1 * g 1 ≤ 0 := d1 c6
  have c7 : (-1) * g 1 ≤ 0 := d1 c7
  have c8 : (-1) * g 0 ≤ 0 := d1 c8
  have c9 : 1 * g 0 ≤ 3 := d1 c9
  obtain ⟨a0, a1, a2, a3, a4, a5, _⟩ := ha
  have n923 : τ 923 = none := a0
  have n924 : τ 924 = none := a1
  have n925 : τ 925 = none := a2
  have n926 : τ 926 = none := a3
  have n928 : τ 928 = none := a4
  have n981 : τ 981 = none := a5
  obtain ⟨⟨h_p1, h_p2, h_td⟩, k_b, k_q, k_c, k_d, k_l, k_k, k_e, k_t, k_n, k_j⟩ := hS
  have k_q0 := k_q
  obtain ⟨h_vs, h_qc, h_qr, h_qk, h_qn, h_ub⟩ := k_q0
  have k_b0 := k_b
  obtain ⟨h_bit, h_one, h_or, h_and, h_shr, h_m1, h_m2, h_dv, h_r1, h_r2, h_nz⟩ := k_b0
  have k_d0 := k_d
  obtain ⟨h_dn, h_di, h_dh, h_dw, h_dx, h_dg, h_dy, h_df⟩ := k_d0
  exact ⟨rfl, trivial, trivial, ⟨h_p1, h_p2, h_td⟩, ⟨fun _ _ _ e0 e1 e2 => no9 (o := none) rfl e0, h_one, h_or, h_and, h_shr, h_m1, h_m2, h_dv, h_r1, h_r2, h_nz⟩, k_q, k_c, ⟨(fun qa qb A I n e0 e1 e2 e3 e4 => by
      have e2 : g 0 + 1 = A := Option.some.inj e2
      subst e2
      have e3 : g 1 = I := Option.some.inj (t921.symm.trans e3)
      subst e3
      have hb := R840x (h_bit _ _ _ t840 t841 t842) (by omega) (by omega)
      have eb : (g 5).toNat = (g 0).toNat := by omega
      have ex : g 4 = g 2 := by omega
      rw [eb, ex] at hb
      have hq := (h_qc _ _ _ e0 e1 t873 n981).2.2 (g 0).toNat (by omega)
      obtain ⟨h1, h2, L, hL⟩ := h_dn _ _ _ _ _ e0 e1 t920 t921 e4
      refine ⟨by omega, h2, L, en_same hL (fun s => ?_)⟩
      have ei : g 1 = 0 := by omega
      rw [ei]
      exact ts_next (by omega) (Or.inl (fun hi => absurd (hq.mpr hi) (by omega))) s), fun _ _ _ _ e0 e1 e2 e3 => no9 n923 e3, fun _ _ _ _ e0 e1 e2 e3 => no9 n924 e3, fun _ _ _ _ _ e0 e1 e2 e3 e4 => no9 n925 e4, fun _ _ _ _ _ e0 e1 e2 e3 e4 => no9 n925 e3, fun _ _ _ _ _ e0 e1 e2 e3 e4 => no9 n926 e3, h_dy, fun _ _ _ _ _ e0 e1 e2 e3 e4 => no9 n925 e3⟩, k_l, k_k, k_e, k_t, k_n, k_j⟩
def ru_din : Ru := ([(0, (920, (0, (0, 0)))), (0, (873, (0, (0, 0)))), (4, (0, (0, (1, 0)))), (0, (840, (0, (0, 0)))), (0, (841, (0, (0, 0)))), (0, (842, (0, (0, 0))))], ([923, 981], ([([(1, (-1)), (3, 1)], 0), ([(1, 1), (3, (-1))], 0), ([(0, (-1)), (4, 1)], 0), ([(0, 1), (4, (-1))], 0), ([(5, (-1))], (-1)), ([(0, (-1))], 0), ([(0, 1)], 3)], (false, ([], ([], ([(923, some (2, 0)), (840, none), (841, none), (842, none)], none)))))))
theorem rk_din : RuOk SGd ru_din := by
  intro τ m g hi hc ha hS
  obtain ⟨i0, i1, i2, i3, i4, i5, _⟩ := hi
  have t920 : τ 920 = some (g 0) := i0
  have t873 : τ 873 = some (g 1) := i1
  have xone : g 2 = 1 := i2
  have t840 : τ 840 = some (g 3) := i3
  have t841 : τ 841 = some (g 4) := i4
  have t842 : τ 842 = some (g 5) := i5
  obtain ⟨c0, c1, c2, c3, c4, c5, c6, _⟩ := hc
  have c0 : (-1) * g 1 + 1 * g 3 ≤ 0 := d2 c0
  have c1 : 1 * g 1 + (-1) * g 3 ≤ 0 := d2 c1
  have c2 : (-1) * g 0 + 1 * g 4 ≤ 0 := d2 c2
  have c3 : 1 * g 0 + (-1) * g 4 ≤ 0 := d2 c3
  have c4 : (-1) * g 5 ≤ (-1) := d1 c4
  have c5 : (-1) * g 0 ≤ 0 := d1 c5
  have c6 : 1 * g 0 ≤ 3 := d1 c6
  obtain ⟨a0, a1, _⟩ := ha
  have n923 : τ 923 = none := a0
  have n981 : τ 981 = none := a1
  obtain ⟨⟨h_p1, h_p2, h_td⟩, k_b, k_q, k_c, k_d, k_l, k_k, k_e, k_t, k_n, k_j⟩ := hS
  have k_q0 := k_q
  obtain ⟨h_vs, h_qc, h_qr, h_qk, h_qn, h_ub⟩ := k_q0
  have k_b0 := k_b
  obtain ⟨h_bit, h_one, h_or, h_and, h_shr, h_m1, h_m2, h_dv, h_r1, h_r2, h_nz⟩ := k_b0
  have k_d0 := k_d
  obtain ⟨h_dn, h_di, h_dh, h_dw, h_dx, h_dg, h_dy, h_df⟩ := k_d0
  exact ⟨rfl, trivial, trivial, ⟨h_p1, h_p2, h_td⟩, ⟨fun _ _ _ e0 e1 e2 => no9 (o := none) rfl e0, h_one, h_or, h_and, h_shr, h_m1, h_m2, h_dv, h_r1, h_r2, h_nz⟩, k_q, k_c, ⟨h_dn, (fun qa qb A in9 e0 e1 e2 e3 => by
      have e2 : g 0 = A := Option.some.inj (t920.symm.trans e2)
      subst e2
      have e3 : g 2 + 0 = in9 := Option.some.inj e3
      subst e3
      have hb := R840x (h_bit _ _ _ t840 t841 t842) (by omega) (by omega)
      have eb : (g 4).toNat = (g 0).toNat := by omega
      have ex : g 3 = g 1 := by omega
      rw [eb, ex] at hb
      have hq := (h_qc _ _ _ e0 e1 t873 n981).2.2 (g 0).toNat (by omega)
      have h7 := b2i_le (bitN (Int32.ofInt (g 1)) (g 0).toNat)
      have h8 : g 5 = b2i (bitN (Int32.ofInt (g 1)) (g 0).toNat) := hb
      exact ⟨by omega, hq.mp (by show b2i (bitN (Int32.ofInt (g 1)) (g 0).toNat) = 1; omega)⟩), h_dh, h_dw, h_dx, h_dg, h_dy, h_df⟩, k_l, k_k, k_e, k_t, k_n, k_j⟩
def ru_dA1 : Ru := ([(0, (920, (0, (0, 0)))), (0, (921, (0, (0, 0)))), (9, (199, (0, (1, 0)))), (0, (923, (0, (0, 0)))), (4, (0, (0, (0, 0))))], ([924, 925, 926, 928], ([([(1, (-1)), (2, 1)], 0), ([(0, (-1))], 0), ([(0, 1)], 3)], (false, ([], ([], ([(920, some (0, 1)), (921, some (4, 0)), (923, none)], none)))))))
theorem rk_dA1 : RuOk SGd ru_dA1 := by
  intro τ m g hi hc ha hS
  obtain ⟨i0, i1, i2, i3, i4, _⟩ := hi
  have t920 : τ 920 = some (g 0) := i0
  have t921 : τ 921 = some (g 1) := i1
  obtain ⟨jn, un, vn⟩ : ∃ j : Nat, 1 * g 0 + 0 = (j : Int) ∧ g 2 = m 199 j := i2
  have t923 : τ 923 = some (g 3) := i3
  have xzero : g 4 = 0 := i4
  obtain ⟨c0, c1, c2, _⟩ := hc
  have c0 : (-1) * g 1 + 1 * g 2 ≤ 0 := d2 c0
  have c1 : (-1) * g 0 ≤ 0 := d1 c1
  have c2 : 1 * g 0 ≤ 3 := d1 c2
  obtain ⟨a0, a1, a2, a3, _⟩ := ha
  have n924 : τ 924 = none := a0
  have n925 : τ 925 = none := a1
  have n926 : τ 926 = none := a2
  have n928 : τ 928 = none := a3
  obtain ⟨⟨h_p1, h_p2, h_td⟩, k_b, k_q, k_c, k_d, k_l, k_k, k_e, k_t, k_n, k_j⟩ := hS
  have k_d0 := k_d
  obtain ⟨h_dn, h_di, h_dh, h_dw, h_dx, h_dg, h_dy, h_df⟩ := k_d0
  exact ⟨rfl, trivial, trivial, ⟨h_p1, h_p2, h_td⟩, k_b, k_q, k_c, ⟨(fun qa qb A I n e0 e1 e2 e3 e4 => by
      have e2 : g 0 + 1 = A := Option.some.inj e2
      subst e2
      have e3 : g 4 + 0 = I := Option.some.inj e3
      subst e3
      obtain ⟨h1, h2, L, hL⟩ := h_dn _ _ _ _ _ e0 e1 t920 t921 e4
      have ejn : jn = (g 0).toNat := by omega
      subst ejn
      have z : g 4 + 0 = 0 := by omega
      rw [z]
      exact ⟨by omega, h2, L, en_same hL (fun s => ts_next (by omega) (Or.inr (fun i h1 _ => by omega)) s)⟩), fun _ _ _ _ e0 e1 e2 e3 => no9 (o := none) rfl e3, fun _ _ _ _ e0 e1 e2 e3 => no9 n924 e3, fun _ _ _ _ _ e0 e1 e2 e3 e4 => no9 n925 e4, fun _ _ _ _ _ e0 e1 e2 e3 e4 => no9 n925 e3, fun _ _ _ _ _ e0 e1 e2 e3 e4 => no9 n926 e3, h_dy, fun _ _ _ _ _ e0 e1 e2 e3 e4 => no9 n925 e3⟩, k_l, k_k, k_e, k_t, k_n, k_j⟩
def ru_dH0 : Ru := ([(0, (920, (0, (0, 0)))), (0, (871, (0, (0, 0)))), (0, (872, (0, (0, 0)))), (0, (873, (0, (0, 0)))), (3, (0, (0, (0, 0)))), (0, (830, (0, (0, 0)))), (0, (831, (0, (0, 0)))), (0, (832, (0, (0, 0))))], ([924, 981], ([([(0, 1)], 0), ([(0, (-1))], 0), ([(3, (-1)), (5, 1)], 0), ([(3, 1), (5, (-1))], 0), ([(6, 1)], 0), ([(6, (-1))], 0), ([(4, 1), (7, (-1))], 0), ([(4, (-1)), (7, 1)], 0)], (false, ([([(7, (-1))], 0), ([(7, 1)], 0)], ([], ([(924, some (7, 0)), (830, none), (831, none), (832, none)], none)))))))
theorem rk_dH0 : RuOk SGd ru_dH0 := by
  intro τ m g hi hc ha hS
  obtain ⟨i0, i1, i2, i3, i4, i5, i6, i7, _⟩ := hi
  have t920 : τ 920 = some (g 0) := i0
  have t871 : τ 871 = some (g 1) := i1
  have t872 : τ 872 = some (g 2) := i2
  have t873 : τ 873 = some (g 3) := i3
  have t830 : τ 830 = some (g 5) := i5
  have t831 : τ 831 = some (g 6) := i6
  have t832 : τ 832 = some (g 7) := i7
  obtain ⟨c0, c1, c2, c3, c4, c5, c6, c7, _⟩ := hc
  have c0 : 1 * g 0 ≤ 0 := d1 c0
  have c1 : (-1) * g 0 ≤ 0 := d1 c1
  have c2 : (-1) * g 3 + 1 * g 5 ≤ 0 := d2 c2
  have c3 : 1 * g 3 + (-1) * g 5 ≤ 0 := d2 c3
  have c4 : 1 * g 6 ≤ 0 := d1 c4
  have c5 : (-1) * g 6 ≤ 0 := d1 c5
  have c6 : 1 * g 4 + (-1) * g 7 ≤ 0 := d2 c6
  have c7 : (-1) * g 4 + 1 * g 7 ≤ 0 := d2 c7
  obtain ⟨a0, a1, _⟩ := ha
  have n924 : τ 924 = none := a0
  have n981 : τ 981 = none := a1
  obtain ⟨⟨h_p1, h_p2, h_td⟩, k_b, k_q, k_c, k_d, k_l, k_k, k_e, k_t, k_n, k_j⟩ := hS
  have k_q0 := k_q
  obtain ⟨h_vs, h_qc, h_qr, h_qk, h_qn, h_ub⟩ := k_q0
  have k_b0 := k_b
  obtain ⟨h_bit, h_one, h_or, h_and, h_shr, h_m1, h_m2, h_dv, h_r1, h_r2, h_nz⟩ := k_b0
  have k_d0 := k_d
  obtain ⟨h_dn, h_di, h_dh, h_dw, h_dx, h_dg, h_dy, h_df⟩ := k_d0
  have h1 := h_qc _ _ _ t871 t872 t873 n981
  have h2 := h_and _ _ _ t830 t831 t832
  rw [(show g 5 = g 3 by omega), (show g 6 = ((2 ^ 0 : Nat) : Int) - 1 by omega)] at h2
  have h3 := fun i hi => andx 0 (by decide) h1.2.1.1 h1.2.1.2 h2 i hi
  have h4 := (h3 0 (by decide)).1
  exact ⟨rfl, ⟨f1 (by omega), f1 (by omega), trivial⟩, trivial, ⟨h_p1, h_p2, h_td⟩, ⟨h_bit, h_one, h_or, fun _ _ _ e0 e1 e2 => no9 (o := none) rfl e0, h_shr, h_m1, h_m2, h_dv, h_r1, h_r2, h_nz⟩, k_q, k_c, ⟨h_dn, h_di, (fun qa qb A hd e0 e1 e2 e3 => by
      have e0 : g 1 = qa := Option.some.inj (t871.symm.trans e0)
      subst e0
      have e1 : g 2 = qb := Option.some.inj (t872.symm.trans e1)
      subst e1
      have e2 : g 0 = A := Option.some.inj (t920.symm.trans e2)
      subst e2
      have e3 : g 7 + 0 = hd := Option.some.inj e3
      subst e3
      intro x hx
      have ev : g 7 + 0 = g 7 := by omega
      rw [ev, (h3 x hx).2, h1.2.2 x hx]
      exact ⟨fun q => ⟨q.1, by omega⟩, fun q => ⟨q.1, by omega⟩⟩), h_dw, h_dx, h_dg, h_dy, h_df⟩, k_l, k_k, k_e, k_t, k_n, k_j⟩
def ru_dH1 : Ru := ([(0, (920, (0, (0, 0)))), (0, (871, (0, (0, 0)))), (0, (872, (0, (0, 0)))), (0, (873, (0, (0, 0)))), (3, (0, (0, (0, 0)))), (0, (830, (0, (0, 0)))), (0, (831, (0, (0, 0)))), (0, (832, (0, (0, 0))))], ([924, 981], ([([(0, 1)], 1), ([(0, (-1))], (-1)), ([(3, (-1)), (5, 1)], 0), ([(3, 1), (5, (-1))], 0), ([(6, 1)], 1), ([(6, (-1))], (-1)), ([(4, 1), (7, (-1))], 0), ([(4, (-1)), (7, 1)], 0)], (false, ([([(7, (-1))], 0), ([(7, 1)], 1)], ([], ([(924, some (7, 0)), (830, none), (831, none), (832, none)], none)))))))
theorem rk_dH1 : RuOk SGd ru_dH1 := by
  intro τ m g hi hc ha hS
  obtain ⟨i0, i1, i2, i3, i4, i5, i6, i7, _⟩ := hi
  have t920 : τ 920 = some (g 0) := i0
  have t871 : τ 871 = some (g 1) := i1
  have t872 : τ 872 = some (g 2) := i2
  have t873 : τ 873 = some (g 3) := i3
  have t830 : τ 830 = some (g 5) := i5
  have t831 : τ 831 = some (g 6) := i6
  have t832 : τ 832 = some (g 7) := i7
  obtain ⟨c0, c1, c2, c3, c4, c5, c6, c7, _⟩ := hc
  have c0 : 1 * g 0 ≤ 1 := d1 c0
  have c1 : (-1) * g 0 ≤ (-1) := d1 c1
  have c2 : (-1) * g 3 + 1 * g 5 ≤ 0 := d2 c2
  have c3 : 1 * g 3 + (-1) * g 5 ≤ 0 := d2 c3
  have c4 : 1 * g 6 ≤ 1 := d1 c4
  have c5 : (-1) * g 6 ≤ (-1) := d1 c5
  have c6 : 1 * g 4 + (-1) * g 7 ≤ 0 := d2 c6
  have c7 : (-1) * g 4 + 1 * g 7 ≤ 0 := d2 c7
  obtain ⟨a0, a1, _⟩ := ha
  have n924 : τ 924 = none := a0
  have n981 : τ 981 = none := a1
  obtain ⟨⟨h_p1, h_p2, h_td⟩, k_b, k_q, k_c, k_d, k_l, k_k, k_e, k_t, k_n, k_j⟩ := hS
  have k_q0 := k_q
  obtain ⟨h_vs, h_qc, h_qr, h_qk, h_qn, h_ub⟩ := k_q0
  have k_b0 := k_b
  obtain ⟨h_bit, h_one, h_or, h_and, h_shr, h_m1, h_m2, h_dv, h_r1, h_r2, h_nz⟩ := k_b0
  have k_d0 := k_d
  obtain ⟨h_dn, h_di, h_dh, h_dw, h_dx, h_dg, h_dy, h_df⟩ := k_d0
  have h1 := h_qc _ _ _ t871 t872 t873 n981
  have h2 := h_and _ _ _ t830 t831 t832
  rw [(show g 5 = g 3 by omega), (show g 6 = ((2 ^ 1 : Nat) : Int) - 1 by omega)] at h2
  have h3 := fun i hi => andx 1 (by decide) h1.2.1.1 h1.2.1.2 h2 i hi
  have h4 := (h3 0 (by decide)).1
  exact ⟨rfl, ⟨f1 (by omega), f1 (by omega), trivial⟩, trivial, ⟨h_p1, h_p2, h_td⟩, ⟨h_bit, h_one, h_or, fun _ _ _ e0 e1 e2 => no9 (o := none) rfl e0, h_shr, h_m1, h_m2, h_dv, h_r1, h_r2, h_nz⟩, k_q, k_c, ⟨h_dn, h_di, (fun qa qb A hd e0 e1 e2 e3 => by
      have e0 : g 1 = qa := Option.some.inj (t871.symm.trans e0)
      subst e0
      have e1 : g 2 = qb := Option.some.inj (t872.symm.trans e1)
      subst e1
      have e2 : g 0 = A := Option.some.inj (t920.symm.trans e2)
      subst e2
      have e3 : g 7 + 0 = hd := Option.some.inj e3
      subst e3
      intro x hx
      have ev : g 7 + 0 = g 7 := by omega
      rw [ev, (h3 x hx).2, h1.2.2 x hx]
      exact ⟨fun q => ⟨q.1, by omega⟩, fun q => ⟨q.1, by omega⟩⟩), h_dw, h_dx, h_dg, h_dy, h_df⟩, k_l, k_k, k_e, k_t, k_n, k_j⟩
def ru_dH2 : Ru := ([(0, (920, (0, (0, 0)))), (0, (871, (0, (0, 0)))), (0, (872, (0, (0, 0)))), (0, (873, (0, (0, 0)))), (3, (0, (0, (0, 0)))), (0, (830, (0, (0, 0)))), (0, (831, (0, (0, 0)))), (0, (832, (0, (0, 0))))], ([924, 981], ([([(0, 1)], 2), ([(0, (-1))], (-2)), ([(3, (-1)), (5, 1)], 0), ([(3, 1), (5, (-1))], 0), ([(6, 1)], 3), ([(6, (-1))], (-3)), ([(4, 1), (7, (-1))], 0), ([(4, (-1)), (7, 1)], 0)], (false, ([([(7, (-1))], 0), ([(7, 1)], 3)], ([], ([(924, some (7, 0)), (830, none), (831, none), (832, none)], none)))))))
theorem rk_dH2 : RuOk SGd ru_dH2 := by
  intro τ m g hi hc ha hS
  obtain ⟨i0, i1, i2, i3, i4, i5, i6, i7, _⟩ := hi
  have t920 : τ 920 = some (g 0) := i0
  have t871 : τ 871 = some (g 1) := i1
  have t872 : τ 872 = some (g 2) := i2
  have t873 : τ 873 = some (g 3) := i3
  have t830 : τ 830 = some (g 5) := i5
  have t831 : τ 831 = some (g 6) := i6
  have t832 : τ 832 = some (g 7) := i7
  obtain ⟨c0, c1, c2, c3, c4, c5, c6, c7, _⟩ := hc
  have c0 : 1 * g 0 ≤ 2 := d1 c0
  have c1 : (-1) * g 0 ≤ (-2) := d1 c1
  have c2 : (-1) * g 3 + 1 * g 5 ≤ 0 := d2 c2
  have c3 : 1 * g 3 + (-1) * g 5 ≤ 0 := d2 c3
  have c4 : 1 * g 6 ≤ 3 := d1 c4
  have c5 : (-1) * g 6 ≤ (-3) := d1 c5
  have c6 : 1 * g 4 + (-1) * g 7 ≤ 0 := d2 c6
  have c7 : (-1) * g 4 + 1 * g 7 ≤ 0 := d2 c7
  obtain ⟨a0, a1, _⟩ := ha
  have n924 : τ 924 = none := a0
  have n981 : τ 981 = none := a1
  obtain ⟨⟨h_p1, h_p2, h_td⟩, k_b, k_q, k_c, k_d, k_l, k_k, k_e, k_t, k_n, k_j⟩ := hS
  have k_q0 := k_q
  obtain ⟨h_vs, h_qc, h_qr, h_qk, h_qn, h_ub⟩ := k_q0
  have k_b0 := k_b
  obtain ⟨h_bit, h_one, h_or, h_and, h_shr, h_m1, h_m2, h_dv, h_r1, h_r2, h_nz⟩ := k_b0
  have k_d0 := k_d
  obtain ⟨h_dn, h_di, h_dh, h_dw, h_dx, h_dg, h_dy, h_df⟩ := k_d0
  have h1 := h_qc _ _ _ t871 t872 t873 n981
  have h2 := h_and _ _ _ t830 t831 t832
  rw [(show g 5 = g 3 by omega), (show g 6 = ((2 ^ 2 : Nat) : Int) - 1 by omega)] at h2
  have h3 := fun i hi => andx 2 (by decide) h1.2.1.1 h1.2.1.2 h2 i hi
  have h4 := (h3 0 (by decide)).1
  exact ⟨rfl, ⟨f1 (by omega), f1 (by omega), trivial⟩, trivial, ⟨h_p1, h_p2, h_td⟩, ⟨h_bit, h_one, h_or, fun _ _ _ e0 e1 e2 => no9 (o := none) rfl e0, h_shr, h_m1, h_m2, h_dv, h_r1, h_r2, h_nz⟩, k_q, k_c, ⟨h_dn, h_di, (fun qa qb A hd e0 e1 e2 e3 => by
      have e0 : g 1 = qa := Option.some.inj (t871.symm.trans e0)
      subst e0
      have e1 : g 2 = qb := Option.some.inj (t872.symm.trans e1)
      subst e1
      have e2 : g 0 = A := Option.some.inj (t920.symm.trans e2)
      subst e2
      have e3 : g 7 + 0 = hd := Option.some.inj e3
      subst e3
      intro x hx
      have ev : g 7 + 0 = g 7 := by omega
      rw [ev, (h3 x hx).2, h1.2.2 x hx]
      exact ⟨fun q => ⟨q.1, by omega⟩, fun q => ⟨q.1, by omega⟩⟩), h_dw, h_dx, h_dg, h_dy, h_df⟩, k_l, k_k, k_e, k_t, k_n, k_j⟩
def ru_dH3 : Ru := ([(0, (920, (0, (0, 0)))), (0, (871, (0, (0, 0)))), (0, (872, (0, (0, 0)))), (0, (873, (0, (0, 0)))), (3, (0, (0, (0, 0)))), (0, (830, (0, (0, 0)))), (0, (831, (0, (0, 0)))), (0, (832, (0, (0, 0))))], ([924, 981], ([([(0, 1)], 3), ([(0, (-1))], (-3)), ([(3, (-1)), (5, 1)], 0), ([(3, 1), (5, (-1))], 0), ([(6, 1)], 7), ([(6, (-1))], (-7)), ([(4, 1), (7, (-1))], 0), ([(4, (-1)), (7, 1)], 0)], (false, ([([(7, (-1))], 0), ([(7, 1)], 7)], ([], ([(924, some (7, 0)), (830, none), (831, none), (832, none)], none)))))))
theorem rk_dH3 : RuOk SGd ru_dH3 := by
  intro τ m g hi hc ha hS
  obtain ⟨i0, i1, i2, i3, i4, i5, i6, i7, _⟩ := hi
  have t920 : τ 920 = some (g 0) := i0
  have t871 : τ 871 = some (g 1) := i1
  have t872 : τ 872 = some (g 2) := i2
  have t873 : τ 873 = some (g 3) := i3
  have t830 : τ 830 = some (g 5) := i5
  have t831 : τ 831 = some (g 6) := i6
  have t832 : τ 832 = some (g 7) := i7
  obtain ⟨c0, c1, c2, c3, c4, c5, c6, c7, _⟩ := hc
  have c0 : 1 * g 0 ≤ 3 := d1 c0
  have c1 : (-1) * g 0 ≤ (-3) := d1 c1
  have c2 : (-1) * g 3 + 1 * g 5 ≤ 0 := d2 c2
  have c3 : 1 * g 3 + (-1) * g 5 ≤ 0 := d2 c3
  have c4 : 1 * g 6 ≤ 7 := d1 c4
  have c5 : (-1) * g 6 ≤ (-7) := d1 c5
  have c6 : 1 * g 4 + (-1) * g 7 ≤ 0 := d2 c6
  have c7 : (-1) * g 4 + 1 * g 7 ≤ 0 := d2 c7
  obtain ⟨a0, a1, _⟩ := ha
  have n924 : τ 924 = none := a0
  have n981 : τ 981 = none := a1
  obtain ⟨⟨h_p1, h_p2, h_td⟩, k_b, k_q, k_c, k_d, k_l, k_k, k_e, k_t, k_n, k_j⟩ := hS
  have k_q0 := k_q
  obtain ⟨h_vs, h_qc, h_qr, h_qk, h_qn, h_ub⟩ := k_q0
  have k_b0 := k_b
  obtain ⟨h_bit, h_one, h_or, h_and, h_shr, h_m1, h_m2, h_dv, h_r1, h_r2, h_nz⟩ := k_b0
  have k_d0 := k_d
  obtain ⟨h_dn, h_di, h_dh, h_dw, h_dx, h_dg, h_dy, h_df⟩ := k_d0
  have h1 := h_qc _ _ _ t871 t872 t873 n981
  have h2 := h_and _ _ _ t830 t831 t832
  rw [(show g 5 = g 3 by omega), (show g 6 = ((2 ^ 3 : Nat) : Int) - 1 by omega)] at h2
  have h3 := fun i hi => andx 3 (by decide) h1.2.1.1 h1.2.1.2 h2 i hi
  have h4 := (h3 0 (by decide)).1
  exact ⟨rfl, ⟨f1 (by omega), f1 (by omega), trivial⟩, trivial, ⟨h_p1, h_p2, h_td⟩, ⟨h_bit, h_one, h_or, fun _ _ _ e0 e1 e2 => no9 (o := none) rfl e0, h_shr, h_m1, h_m2, h_dv, h_r1, h_r2, h_nz⟩, k_q, k_c, ⟨h_dn, h_di, (fun qa qb A hd e0 e1 e2 e3 => by
      have e0 : g 1 = qa := Option.some.inj (t871.symm.trans e0)
      subst e0
      have e1 : g 2 = qb := Option.some.inj (t872.symm.trans e1)
      subst e1
      have e2 : g 0 = A := Option.some.inj (t920.symm.trans e2)
      subst e2
      have e3 : g 7 + 0 = hd := Option.some.inj e3
      subst e3
      intro x hx
      have ev : g 7 + 0 = g 7 := by omega
      rw [ev, (h3 x hx).2, h1.2.2 x hx]
      exact ⟨fun q => ⟨q.1, by omega⟩, fun q => ⟨q.1, by omega⟩⟩), h_dw, h_dx, h_dg, h_dy, h_df⟩, k_l, k_k, k_e, k_t, k_n, k_j⟩
def ru_dHz : Ru := ([(0, (920, (0, (0, 0)))), (0, (873, (0, (0, 0)))), (3, (0, (0, (0, 0))))], ([924, 830], ([([(0, 1)], 0), ([(0, (-1))], 0), ([(2, 1)], 0), ([(2, (-1))], 0)], (false, ([], ([], ([(924, some (2, 0))], none)))))))
theorem rk_dHz : RuOk SGd ru_dHz := by
  intro τ m g hi hc ha hS
  obtain ⟨i0, i1, i2, _⟩ := hi
  have t920 : τ 920 = some (g 0) := i0
  have t873 : τ 873 = some (g 1) := i1
  obtain ⟨c0, c1, c2, c3, _⟩ := hc
  have c0 : 1 * g 0 ≤ 0 := d1 c0
  have c1 : (-1) * g 0 ≤ 0 := d1 c1
  have c2 : 1 * g 2 ≤ 0 := d1 c2
  have c3 : (-1) * g 2 ≤ 0 := d1 c3
  obtain ⟨a0, a1, _⟩ := ha
  have n924 : τ 924 = none := a0
  have n830 : τ 830 = none := a1
  obtain ⟨⟨h_p1, h_p2, h_td⟩, k_b, k_q, k_c, k_d, k_l, k_k, k_e, k_t, k_n, k_j⟩ := hS
  have k_d0 := k_d
  obtain ⟨h_dn, h_di, h_dh, h_dw, h_dx, h_dg, h_dy, h_df⟩ := k_d0
  exact ⟨rfl, trivial, trivial, ⟨h_p1, h_p2, h_td⟩, k_b, k_q, k_c, ⟨h_dn, h_di, (fun qa qb A hd e0 e1 e2 e3 => by
      have e2 : g 0 = A := Option.some.inj (t920.symm.trans e2)
      subst e2
      have e3 : g 2 + 0 = hd := Option.some.inj e3
      subst e3
      intro x hx
      have eh : g 2 + 0 = 0 := by omega
      rw [eh, bx_zero x (by omega)]
      exact ⟨fun q => by omega, fun q => by omega⟩), h_dw, h_dx, h_dg, h_dy, h_df⟩, k_l, k_k, k_e, k_t, k_n, k_j⟩
def ru_dS : Ru := ([(0, (920, (0, (0, 0)))), (0, (921, (0, (0, 0)))), (0, (923, (0, (0, 0)))), (0, (924, (0, (0, 0)))), (9, (199, (0, (1, 0)))), (3, (0, (0, (0, 0)))), (19, (198, (0, (40, 1)))), (4, (0, (0, (0, 0))))], ([925, 926, 927, 928, 929], ([([(5, 1), (6, (-1))], 0), ([(5, (-1)), (6, 1)], 0), ([(1, (-1))], 0), ([(1, 1), (4, (-1))], (-1)), ([(4, 1)], 40), ([(0, (-1))], 0), ([(0, 1)], 3)], (false, ([], ([], ([(925, some (5, 0)), (926, some (7, 0))], none)))))))
theorem rk_dS : RuOk SGd ru_dS := by
  intro τ m g hi hc ha hS
  obtain ⟨i0, i1, i2, i3, i4, i5, i6, i7, _⟩ := hi
  have t920 : τ 920 = some (g 0) := i0
  have t921 : τ 921 = some (g 1) := i1
  have t923 : τ 923 = some (g 2) := i2
  have t924 : τ 924 = some (g 3) := i3
  obtain ⟨jn, un, vn⟩ : ∃ j : Nat, 1 * g 0 + 0 = (j : Int) ∧ g 4 = m 199 j := i4
  obtain ⟨jx, ux, vx⟩ : ∃ j : Nat, 40 * g 0 + g 1 = (j : Int) ∧ g 6 = m 198 j := i6
  have xzero : g 7 = 0 := i7
  obtain ⟨c0, c1, c2, c3, c4, c5, c6, _⟩ := hc
  have c0 : 1 * g 5 + (-1) * g 6 ≤ 0 := d2 c0
  have c1 : (-1) * g 5 + 1 * g 6 ≤ 0 := d2 c1
  have c2 : (-1) * g 1 ≤ 0 := d1 c2
  have c3 : 1 * g 1 + (-1) * g 4 ≤ (-1) := d2 c3
  have c4 : 1 * g 4 ≤ 40 := d1 c4
  have c5 : (-1) * g 0 ≤ 0 := d1 c5
  have c6 : 1 * g 0 ≤ 3 := d1 c6
  obtain ⟨a0, a1, a2, a3, a4, _⟩ := ha
  have n925 : τ 925 = none := a0
  have n926 : τ 926 = none := a1
  have n927 : τ 927 = none := a2
  have n928 : τ 928 = none := a3
  have n929 : τ 929 = none := a4
  obtain ⟨⟨h_p1, h_p2, h_td⟩, k_b, k_q, k_c, k_d, k_l, k_k, k_e, k_t, k_n, k_j⟩ := hS
  have k_d0 := k_d
  obtain ⟨h_dn, h_di, h_dh, h_dw, h_dx, h_dg, h_dy, h_df⟩ := k_d0
  have ejn : jn = (g 0).toNat := by omega
  subst ejn
  have ejx : jx = 40 * (g 0).toNat + (g 1).toNat := by omega
  subst ejx
  exact ⟨rfl, trivial, trivial, ⟨h_p1, h_p2, h_td⟩, k_b, k_q, k_c, ⟨h_dn, h_di, h_dh, (fun qa qb A I w e0 e1 e2 e3 e4 => by
      have e2 : g 0 = A := Option.some.inj (t920.symm.trans e2)
      subst e2
      have e3 : g 1 = I := Option.some.inj (t921.symm.trans e3)
      subst e3
      have e4 : g 5 + 0 = w := Option.some.inj e4
      subst e4
      exact ⟨by omega, by omega⟩), (fun qa qb A w X e0 e1 e2 e3 e4 => by
      have e2 : g 0 = A := Option.some.inj (t920.symm.trans e2)
      subst e2
      have e3 : g 5 + 0 = w := Option.some.inj e3
      subst e3
      have e4 : g 7 + 0 = X := Option.some.inj e4
      subst e4
      exact ⟨by omega, fun y i h1 => by omega⟩), fun _ _ _ _ _ e0 e1 e2 e3 e4 => no9 n929 e4, fun _ _ _ e0 e1 e2 => no9 n927 e2, fun _ _ _ _ _ e0 e1 e2 e3 e4 => no9 n928 e4⟩, k_l, k_k, k_e, k_t, k_n, k_j⟩
def ru_dg : Ru := ([(0, (920, (0, (0, 0)))), (0, (924, (0, (0, 0)))), (0, (925, (0, (0, 0)))), (0, (926, (0, (0, 0)))), (4, (0, (0, (0, 0)))), (4, (0, (0, (1, 0)))), (0, (840, (0, (0, 0)))), (0, (841, (0, (0, 0)))), (0, (842, (0, (0, 0))))], ([927, 928, 929], ([([(1, (-1)), (6, 1)], 0), ([(1, 1), (6, (-1))], 0), ([(3, (-1)), (7, 1)], 0), ([(3, 1), (7, (-1))], 0), ([(8, 1)], 1), ([(8, (-1))], (-1)), ([(3, (-1))], 0), ([(3, 1)], 3)], (false, ([], ([], ([(929, some (5, 0)), (927, some (4, 0)), (840, none), (841, none), (842, none)], none)))))))
theorem rk_dg : RuOk SGd ru_dg := by
  intro τ m g hi hc ha hS
  obtain ⟨i0, i1, i2, i3, i4, i5, i6, i7, i8, _⟩ := hi
  have t920 : τ 920 = some (g 0) := i0
  have t924 : τ 924 = some (g 1) := i1
  have t925 : τ 925 = some (g 2) := i2
  have t926 : τ 926 = some (g 3) := i3
  have xzero : g 4 = 0 := i4
  have xone : g 5 = 1 := i5
  have t840 : τ 840 = some (g 6) := i6
  have t841 : τ 841 = some (g 7) := i7
  have t842 : τ 842 = some (g 8) := i8
  obtain ⟨c0, c1, c2, c3, c4, c5, c6, c7, _⟩ := hc
  have c0 : (-1) * g 1 + 1 * g 6 ≤ 0 := d2 c0
  have c1 : 1 * g 1 + (-1) * g 6 ≤ 0 := d2 c1
  have c2 : (-1) * g 3 + 1 * g 7 ≤ 0 := d2 c2
  have c3 : 1 * g 3 + (-1) * g 7 ≤ 0 := d2 c3
  have c4 : 1 * g 8 ≤ 1 := d1 c4
  have c5 : (-1) * g 8 ≤ (-1) := d1 c5
  have c6 : (-1) * g 3 ≤ 0 := d1 c6
  have c7 : 1 * g 3 ≤ 3 := d1 c7
  obtain ⟨a0, a1, a2, _⟩ := ha
  have n927 : τ 927 = none := a0
  have n928 : τ 928 = none := a1
  have n929 : τ 929 = none := a2
  obtain ⟨⟨h_p1, h_p2, h_td⟩, k_b, k_q, k_c, k_d, k_l, k_k, k_e, k_t, k_n, k_j⟩ := hS
  have k_d0 := k_d
  obtain ⟨h_dn, h_di, h_dh, h_dw, h_dx, h_dg, h_dy, h_df⟩ := k_d0
  have k_b0 := k_b
  obtain ⟨h_bit, h_one, h_or, h_and, h_shr, h_m1, h_m2, h_dv, h_r1, h_r2, h_nz⟩ := k_b0
  exact ⟨rfl, trivial, trivial, ⟨h_p1, h_p2, h_td⟩, ⟨fun _ _ _ e0 e1 e2 => no9 (o := none) rfl e0, h_one, h_or, h_and, h_shr, h_m1, h_m2, h_dv, h_r1, h_r2, h_nz⟩, k_q, k_c, ⟨h_dn, h_di, h_dh, h_dw, h_dx, (fun qa qb A X gg e0 e1 e2 e3 e4 => by
      have e2 : g 0 = A := Option.some.inj (t920.symm.trans e2)
      subst e2
      have e3 : g 3 = X := Option.some.inj (t926.symm.trans e3)
      subst e3
      have e4 : g 5 + 0 = gg := Option.some.inj e4
      subst e4
      have hb := R840x (h_bit _ _ _ t840 t841 t842) (by omega) (by omega)
      have eb : (g 7).toNat = (g 3).toNat := by omega
      have ex : g 6 = g 1 := by omega
      rw [eb, ex] at hb
      have hq := (h_dh _ _ _ _ e0 e1 t920 t924 (g 3).toNat (by omega)).mp (by omega)
      exact ⟨by omega, hq.1, by omega⟩), (fun w X Y e0 e1 e2 => by
      have e0 : g 2 = w := Option.some.inj (t925.symm.trans e0)
      subst e0
      have e1 : g 3 = X := Option.some.inj (t926.symm.trans e1)
      subst e1
      have e2 : g 4 + 0 = Y := Option.some.inj e2
      subst e2
      exact ⟨by omega, fun i h1 => by omega⟩), h_df⟩, k_l, k_k, k_e, k_t, k_n, k_j⟩
def ru_dnb : Ru := ([(0, (920, (0, (0, 0)))), (0, (924, (0, (0, 0)))), (0, (925, (0, (0, 0)))), (0, (926, (0, (0, 0)))), (0, (840, (0, (0, 0)))), (0, (841, (0, (0, 0)))), (0, (842, (0, (0, 0))))], ([927, 928, 929], ([([(1, (-1)), (4, 1)], 0), ([(1, 1), (4, (-1))], 0), ([(3, (-1)), (5, 1)], 0), ([(3, 1), (5, (-1))], 0), ([(6, 1)], 0), ([(6, (-1))], 0), ([(3, (-1))], 0), ([(3, 1)], 3)], (false, ([], ([], ([(926, some (3, 1)), (840, none), (841, none), (842, none)], none)))))))
theorem rk_dnb : RuOk SGd ru_dnb := by
  intro τ m g hi hc ha hS
  obtain ⟨i0, i1, i2, i3, i4, i5, i6, _⟩ := hi
  have t920 : τ 920 = some (g 0) := i0
  have t924 : τ 924 = some (g 1) := i1
  have t925 : τ 925 = some (g 2) := i2
  have t926 : τ 926 = some (g 3) := i3
  have t840 : τ 840 = some (g 4) := i4
  have t841 : τ 841 = some (g 5) := i5
  have t842 : τ 842 = some (g 6) := i6
  obtain ⟨c0, c1, c2, c3, c4, c5, c6, c7, _⟩ := hc
  have c0 : (-1) * g 1 + 1 * g 4 ≤ 0 := d2 c0
  have c1 : 1 * g 1 + (-1) * g 4 ≤ 0 := d2 c1
  have c2 : (-1) * g 3 + 1 * g 5 ≤ 0 := d2 c2
  have c3 : 1 * g 3 + (-1) * g 5 ≤ 0 := d2 c3
  have c4 : 1 * g 6 ≤ 0 := d1 c4
  have c5 : (-1) * g 6 ≤ 0 := d1 c5
  have c6 : (-1) * g 3 ≤ 0 := d1 c6
  have c7 : 1 * g 3 ≤ 3 := d1 c7
  obtain ⟨a0, a1, a2, _⟩ := ha
  have n927 : τ 927 = none := a0
  have n928 : τ 928 = none := a1
  have n929 : τ 929 = none := a2
  obtain ⟨⟨h_p1, h_p2, h_td⟩, k_b, k_q, k_c, k_d, k_l, k_k, k_e, k_t, k_n, k_j⟩ := hS
  have k_d0 := k_d
  obtain ⟨h_dn, h_di, h_dh, h_dw, h_dx, h_dg, h_dy, h_df⟩ := k_d0
  have k_b0 := k_b
  obtain ⟨h_bit, h_one, h_or, h_and, h_shr, h_m1, h_m2, h_dv, h_r1, h_r2, h_nz⟩ := k_b0
  exact ⟨rfl, trivial, trivial, ⟨h_p1, h_p2, h_td⟩, ⟨fun _ _ _ e0 e1 e2 => no9 (o := none) rfl e0, h_one, h_or, h_and, h_shr, h_m1, h_m2, h_dv, h_r1, h_r2, h_nz⟩, k_q, k_c, ⟨h_dn, h_di, h_dh, h_dw, (fun qa qb A w X e0 e1 e2 e3 e4 => by
      have e2 : g 0 = A := Option.some.inj (t920.symm.trans e2)
      subst e2
      have e3 : g 2 = w := Option.some.inj (t925.symm.trans e3)
      subst e3
      have e4 : g 3 + 1 = X := Option.some.inj e4
      subst e4
      have hb := R840x (h_bit _ _ _ t840 t841 t842) (by omega) (by omega)
      have eb : (g 5).toNat = (g 3).toNat := by omega
      have ex : g 4 = g 1 := by omega
      rw [eb, ex] at hb
      refine ⟨by omega, fun y i h1 h2 h3 h4 h5 h6 => ?_⟩
      by_cases e : (y : Int) = g 3
      · exfalso
        have ey : y = (g 3).toNat := by omega
        rw [ey] at h3 h4
        have hq := (h_dh _ _ _ _ e0 e1 t920 t924 (g 3).toNat (by omega)).mpr ⟨h3, h4⟩
        omega
      · exact (h_dx _ _ _ _ _ e0 e1 t920 t925 t926).2 y i (by omega) h2 h3 h4 h5 h6), fun _ _ _ _ _ e0 e1 e2 e3 e4 => no9 n929 e4, fun _ _ _ e0 e1 e2 => no9 n927 e2, h_df⟩, k_l, k_k, k_e, k_t, k_n, k_j⟩
def ru_dnbz : Ru := ([(0, (920, (0, (0, 0)))), (0, (924, (0, (0, 0)))), (0, (925, (0, (0, 0)))), (0, (926, (0, (0, 0))))], ([840, 841, 842, 927, 928, 929], ([([(1, 1)], 0), ([(1, (-1))], 0), ([(3, (-1))], 0), ([(3, 1)], 3)], (false, ([], ([], ([(926, some (3, 1))], none)))))))
theorem rk_dnbz : RuOk SGd ru_dnbz := by
  intro τ m g hi hc ha hS
  obtain ⟨i0, i1, i2, i3, _⟩ := hi
  have t920 : τ 920 = some (g 0) := i0
  have t924 : τ 924 = some (g 1) := i1
  have t925 : τ 925 = some (g 2) := i2
  have t926 : τ 926 = some (g 3) := i3
  obtain ⟨c0, c1, c2, c3, _⟩ := hc
  have c0 : 1 * g 1 ≤ 0 := d1 c0
  have c1 : (-1) * g 1 ≤ 0 := d1 c1
  have c2 : (-1) * g 3 ≤ 0 := d1 c2
  have c3 : 1 * g 3 ≤ 3 := d1 c3
  obtain ⟨a0, a1, a2, a3, a4, a5, _⟩ := ha
  have n840 : τ 840 = none := a0
  have n841 : τ 841 = none := a1
  have n842 : τ 842 = none := a2
  have n927 : τ 927 = none := a3
  have n928 : τ 928 = none := a4
  have n929 : τ 929 = none := a5
  obtain ⟨⟨h_p1, h_p2, h_td⟩, k_b, k_q, k_c, k_d, k_l, k_k, k_e, k_t, k_n, k_j⟩ := hS
  have k_d0 := k_d
  obtain ⟨h_dn, h_di, h_dh, h_dw, h_dx, h_dg, h_dy, h_df⟩ := k_d0
  exact ⟨rfl, trivial, trivial, ⟨h_p1, h_p2, h_td⟩, k_b, k_q, k_c, ⟨h_dn, h_di, h_dh, h_dw, (fun qa qb A w X e0 e1 e2 e3 e4 => by
      have e2 : g 0 = A := Option.some.inj (t920.symm.trans e2)
      subst e2
      have e3 : g 2 = w := Option.some.inj (t925.symm.trans e3)
      subst e3
      have e4 : g 3 + 1 = X := Option.some.inj e4
      subst e4
      have hb : bxG (g 1) (g 3).toNat = 0 := by rw [(show g 1 = 0 by omega)]; exact bx_zero _ (by omega)
      refine ⟨by omega, fun y i h1 h2 h3 h4 h5 h6 => ?_⟩
      by_cases e : (y : Int) = g 3
      · exfalso
        have ey : y = (g 3).toNat := by omega
        rw [ey] at h3 h4
        have hq := (h_dh _ _ _ _ e0 e1 t920 t924 (g 3).toNat (by omega)).mpr ⟨h3, h4⟩
        omega
      · exact (h_dx _ _ _ _ _ e0 e1 t920 t925 t926).2 y i (by omega) h2 h3 h4 h5 h6), fun _ _ _ _ _ e0 e1 e2 e3 e4 => no9 n929 e4, fun _ _ _ e0 e1 e2 => no9 n927 e2, h_df⟩, k_l, k_k, k_e, k_t, k_n, k_j⟩
def ru_dl : Ru := ([(0, (920, (0, (0, 0)))), (0, (924, (0, (0, 0)))), (0, (925, (0, (0, 0)))), (0, (926, (0, (0, 0)))), (0, (927, (0, (0, 0)))), (0, (929, (0, (0, 0)))), (19, (198, (3, (40, 4)))), (9, (199, (3, (1, 0))))], ([], ([([(4, (-1))], 0), ([(4, 1), (7, (-1))], (-1)), ([(7, 1)], 40), ([(3, (-1))], 0), ([(3, 1)], 3), ([(2, (-1)), (6, 1)], (-1))], (false, ([], ([], ([(927, some (4, 1))], none)))))))
theorem rk_dl : RuOk SGd ru_dl := by
  intro τ m g hi hc ha hS
  obtain ⟨i0, i1, i2, i3, i4, i5, i6, i7, _⟩ := hi
  have t920 : τ 920 = some (g 0) := i0
  have t924 : τ 924 = some (g 1) := i1
  have t925 : τ 925 = some (g 2) := i2
  have t926 : τ 926 = some (g 3) := i3
  have t927 : τ 927 = some (g 4) := i4
  have t929 : τ 929 = some (g 5) := i5
  obtain ⟨jx, ux, vx⟩ : ∃ j : Nat, 40 * g 3 + g 4 = (j : Int) ∧ g 6 = m 198 j := i6
  obtain ⟨jn, un, vn⟩ : ∃ j : Nat, 1 * g 3 + 0 = (j : Int) ∧ g 7 = m 199 j := i7
  obtain ⟨c0, c1, c2, c3, c4, c5, _⟩ := hc
  have c0 : (-1) * g 4 ≤ 0 := d1 c0
  have c1 : 1 * g 4 + (-1) * g 7 ≤ (-1) := d2 c1
  have c2 : 1 * g 7 ≤ 40 := d1 c2
  have c3 : (-1) * g 3 ≤ 0 := d1 c3
  have c4 : 1 * g 3 ≤ 3 := d1 c4
  have c5 : (-1) * g 2 + 1 * g 6 ≤ (-1) := d2 c5
  obtain ⟨⟨h_p1, h_p2, h_td⟩, k_b, k_q, k_c, k_d, k_l, k_k, k_e, k_t, k_n, k_j⟩ := hS
  have k_d0 := k_d
  obtain ⟨h_dn, h_di, h_dh, h_dw, h_dx, h_dg, h_dy, h_df⟩ := k_d0
  exact ⟨rfl, trivial, trivial, ⟨h_p1, h_p2, h_td⟩, k_b, k_q, k_c, ⟨h_dn, h_di, h_dh, h_dw, h_dx, h_dg, (fun w X Y e0 e1 e2 => by
      have e0 : g 2 = w := Option.some.inj (t925.symm.trans e0)
      subst e0
      have e1 : g 3 = X := Option.some.inj (t926.symm.trans e1)
      subst e1
      have e2 : g 4 + 1 = Y := Option.some.inj e2
      subst e2
      have ejx : jx = 40 * (g 3).toNat + (g 4).toNat := by omega
      subst ejx
      have h1 := h_dy _ _ _ t925 t926 t927
      refine ⟨by omega, fun i h2 => ?_⟩
      by_cases e : (i : Int) = g 4
      · have ei : i = (g 4).toNat := by omega
        rw [ei]; omega
      · exact h1.2 i (by omega)), h_df⟩, k_l, k_k, k_e, k_t, k_n, k_j⟩
def ru_dm : Ru := ([(0, (920, (0, (0, 0)))), (0, (924, (0, (0, 0)))), (0, (925, (0, (0, 0)))), (0, (926, (0, (0, 0)))), (0, (927, (0, (0, 0)))), (0, (929, (0, (0, 0)))), (19, (198, (3, (40, 4)))), (9, (199, (3, (1, 0))))], ([], ([([(4, (-1))], 0), ([(4, 1), (7, (-1))], (-1)), ([(7, 1)], 40), ([(3, (-1))], 0), ([(3, 1)], 3), ([(2, 1), (6, (-1))], (-1))], (false, ([], ([], ([(927, some (4, 1))], none)))))))
theorem rk_dm : RuOk SGd ru_dm := by
  intro τ m g hi hc ha hS
  obtain ⟨i0, i1, i2, i3, i4, i5, i6, i7, _⟩ := hi
  have t920 : τ 920 = some (g 0) := i0
  have t924 : τ 924 = some (g 1) := i1
  have t925 : τ 925 = some (g 2) := i2
  have t926 : τ 926 = some (g 3) := i3
  have t927 : τ 927 = some (g 4) := i4
  have t929 : τ 929 = some (g 5) := i5
  obtain ⟨jx, ux, vx⟩ : ∃ j : Nat, 40 * g 3 + g 4 = (j : Int) ∧ g 6 = m 198 j := i6
  obtain ⟨jn, un, vn⟩ : ∃ j : Nat, 1 * g 3 + 0 = (j : Int) ∧ g 7 = m 199 j := i7
  obtain ⟨c0, c1, c2, c3, c4, c5, _⟩ := hc
  have c0 : (-1) * g 4 ≤ 0 := d1 c0
  have c1 : 1 * g 4 + (-1) * g 7 ≤ (-1) := d2 c1
  have c2 : 1 * g 7 ≤ 40 := d1 c2
  have c3 : (-1) * g 3 ≤ 0 := d1 c3
  have c4 : 1 * g 3 ≤ 3 := d1 c4
  have c5 : 1 * g 2 + (-1) * g 6 ≤ (-1) := d2 c5
  obtain ⟨⟨h_p1, h_p2, h_td⟩, k_b, k_q, k_c, k_d, k_l, k_k, k_e, k_t, k_n, k_j⟩ := hS
  have k_d0 := k_d
  obtain ⟨h_dn, h_di, h_dh, h_dw, h_dx, h_dg, h_dy, h_df⟩ := k_d0
  exact ⟨rfl, trivial, trivial, ⟨h_p1, h_p2, h_td⟩, k_b, k_q, k_c, ⟨h_dn, h_di, h_dh, h_dw, h_dx, h_dg, (fun w X Y e0 e1 e2 => by
      have e0 : g 2 = w := Option.some.inj (t925.symm.trans e0)
      subst e0
      have e1 : g 3 = X := Option.some.inj (t926.symm.trans e1)
      subst e1
      have e2 : g 4 + 1 = Y := Option.some.inj e2
      subst e2
      have ejx : jx = 40 * (g 3).toNat + (g 4).toNat := by omega
      subst ejx
      have h1 := h_dy _ _ _ t925 t926 t927
      refine ⟨by omega, fun i h2 => ?_⟩
      by_cases e : (i : Int) = g 4
      · have ei : i = (g 4).toNat := by omega
        rw [ei]; omega
      · exact h1.2 i (by omega)), h_df⟩, k_l, k_k, k_e, k_t, k_n, k_j⟩
def ru_df : Ru := ([(0, (920, (0, (0, 0)))), (0, (924, (0, (0, 0)))), (0, (925, (0, (0, 0)))), (0, (926, (0, (0, 0)))), (0, (927, (0, (0, 0)))), (0, (929, (0, (0, 0)))), (19, (198, (3, (40, 4)))), (9, (199, (3, (1, 0)))), (4, (0, (0, (1, 0))))], ([928], ([([(4, (-1))], 0), ([(4, 1), (7, (-1))], (-1)), ([(7, 1)], 40), ([(3, (-1))], 0), ([(3, 1)], 3), ([(2, (-1)), (6, 1)], 0), ([(2, 1), (6, (-1))], 0)], (false, ([], ([], ([(928, some (8, 0)), (926, none), (927, none), (929, none)], none)))))))
theorem rk_df : RuOk SGd ru_df := by
  intro τ m g hi hc ha hS
  obtain ⟨i0, i1, i2, i3, i4, i5, i6, i7, i8, _⟩ := hi
  have t920 : τ 920 = some (g 0) := i0
  have t924 : τ 924 = some (g 1) := i1
  have t925 : τ 925 = some (g 2) := i2
  have t926 : τ 926 = some (g 3) := i3
  have t927 : τ 927 = some (g 4) := i4
  have t929 : τ 929 = some (g 5) := i5
  obtain ⟨jx, ux, vx⟩ : ∃ j : Nat, 40 * g 3 + g 4 = (j : Int) ∧ g 6 = m 198 j := i6
  obtain ⟨jn, un, vn⟩ : ∃ j : Nat, 1 * g 3 + 0 = (j : Int) ∧ g 7 = m 199 j := i7
  have xone : g 8 = 1 := i8
  obtain ⟨c0, c1, c2, c3, c4, c5, c6, _⟩ := hc
  have c0 : (-1) * g 4 ≤ 0 := d1 c0
  have c1 : 1 * g 4 + (-1) * g 7 ≤ (-1) := d2 c1
  have c2 : 1 * g 7 ≤ 40 := d1 c2
  have c3 : (-1) * g 3 ≤ 0 := d1 c3
  have c4 : 1 * g 3 ≤ 3 := d1 c4
  have c5 : (-1) * g 2 + 1 * g 6 ≤ 0 := d2 c5
  have c6 : 1 * g 2 + (-1) * g 6 ≤ 0 := d2 c6
  obtain ⟨a0, _⟩ := ha
  have n928 : τ 928 = none := a0
  obtain ⟨⟨h_p1, h_p2, h_td⟩, k_b, k_q, k_c, k_d, k_l, k_k, k_e, k_t, k_n, k_j⟩ := hS
  have k_d0 := k_d
  obtain ⟨h_dn, h_di, h_dh, h_dw, h_dx, h_dg, h_dy, h_df⟩ := k_d0
  exact ⟨rfl, trivial, trivial, ⟨h_p1, h_p2, h_td⟩, k_b, k_q, k_c, ⟨h_dn, h_di, h_dh, h_dw, fun _ _ _ _ _ e0 e1 e2 e3 e4 => no9 (o := none) rfl e4, fun _ _ _ _ _ e0 e1 e2 e3 e4 => no9 (o := none) rfl e3, fun _ _ _ e0 e1 e2 => no9 (o := none) rfl e1, (fun qa qb A w f e0 e1 e2 e3 e4 => by
      have e2 : g 0 = A := Option.some.inj (t920.symm.trans e2)
      subst e2
      have e3 : g 2 = w := Option.some.inj (t925.symm.trans e3)
      subst e3
      have e4 : g 8 + 0 = f := Option.some.inj e4
      subst e4
      have ejx : jx = 40 * (g 3).toNat + (g 4).toNat := by omega
      subst ejx
      have ejn : jn = (g 3).toNat := by omega
      subst ejn
      have h1 := h_dg _ _ _ _ _ e0 e1 t920 t926 t929
      exact Or.inl ⟨by omega, (g 3).toNat, (g 4).toNat, by omega, h1.2.1, ⟨by omega, by omega⟩, Or.inl (by omega), by omega⟩)⟩, k_l, k_k, k_e, k_t, k_n, k_j⟩
def ru_dx : Ru := ([(0, (920, (0, (0, 0)))), (0, (924, (0, (0, 0)))), (0, (925, (0, (0, 0)))), (0, (926, (0, (0, 0)))), (0, (927, (0, (0, 0)))), (0, (929, (0, (0, 0)))), (9, (199, (3, (1, 0))))], ([], ([([(4, (-1)), (6, 1)], 0), ([(3, (-1))], 0), ([(3, 1)], 3)], (false, ([], ([], ([(926, some (3, 1)), (927, none), (929, none)], none)))))))
theorem rk_dx : RuOk SGd ru_dx := by
  intro τ m g hi hc ha hS
  obtain ⟨i0, i1, i2, i3, i4, i5, i6, _⟩ := hi
  have t920 : τ 920 = some (g 0) := i0
  have t924 : τ 924 = some (g 1) := i1
  have t925 : τ 925 = some (g 2) := i2
  have t926 : τ 926 = some (g 3) := i3
  have t927 : τ 927 = some (g 4) := i4
  have t929 : τ 929 = some (g 5) := i5
  obtain ⟨jn, un, vn⟩ : ∃ j : Nat, 1 * g 3 + 0 = (j : Int) ∧ g 6 = m 199 j := i6
  obtain ⟨c0, c1, c2, _⟩ := hc
  have c0 : (-1) * g 4 + 1 * g 6 ≤ 0 := d2 c0
  have c1 : (-1) * g 3 ≤ 0 := d1 c1
  have c2 : 1 * g 3 ≤ 3 := d1 c2
  obtain ⟨⟨h_p1, h_p2, h_td⟩, k_b, k_q, k_c, k_d, k_l, k_k, k_e, k_t, k_n, k_j⟩ := hS
  have k_d0 := k_d
  obtain ⟨h_dn, h_di, h_dh, h_dw, h_dx, h_dg, h_dy, h_df⟩ := k_d0
  exact ⟨rfl, trivial, trivial, ⟨h_p1, h_p2, h_td⟩, k_b, k_q, k_c, ⟨h_dn, h_di, h_dh, h_dw, (fun qa qb A w X e0 e1 e2 e3 e4 => by
      have e2 : g 0 = A := Option.some.inj (t920.symm.trans e2)
      subst e2
      have e3 : g 2 = w := Option.some.inj (t925.symm.trans e3)
      subst e3
      have e4 : g 3 + 1 = X := Option.some.inj e4
      subst e4
      have ejn : jn = (g 3).toNat := by omega
      subst ejn
      have h1 := h_dy _ _ _ t925 t926 t927
      refine ⟨by omega, fun y i h2 h3 h4 h5 h6 h7 => ?_⟩
      by_cases e : (y : Int) = g 3
      · have ey : y = (g 3).toNat := by omega
        rw [ey] at h6 ⊢
        exact h1.2 i (by omega)
      · exact (h_dx _ _ _ _ _ e0 e1 t920 t925 t926).2 y i (by omega) h3 h4 h5 h6 h7), fun _ _ _ _ _ e0 e1 e2 e3 e4 => no9 (o := none) rfl e4, fun _ _ _ e0 e1 e2 => no9 (o := none) rfl e2, h_df⟩, k_l, k_k, k_e, k_t, k_n, k_j⟩
def ru_dz : Ru := ([(0, (920, (0, (0, 0)))), (0, (924, (0, (0, 0)))), (0, (925, (0, (0, 0)))), (0, (926, (0, (0, 0)))), (4, (0, (0, (0, 0))))], ([927, 928, 929], ([([(3, (-1))], (-4))], (false, ([], ([], ([(928, some (4, 0)), (926, none)], none)))))))
theorem rk_dz : RuOk SGd ru_dz := by
  intro τ m g hi hc ha hS
  obtain ⟨i0, i1, i2, i3, i4, _⟩ := hi
  have t920 : τ 920 = some (g 0) := i0
  have t924 : τ 924 = some (g 1) := i1
  have t925 : τ 925 = some (g 2) := i2
  have t926 : τ 926 = some (g 3) := i3
  have xzero : g 4 = 0 := i4
  obtain ⟨c0, _⟩ := hc
  have c0 : (-1) * g 3 ≤ (-4) := d1 c0
  obtain ⟨a0, a1, a2, _⟩ := ha
  have n927 : τ 927 = none := a0
  have n928 : τ 928 = none := a1
  have n929 : τ 929 = none := a2
  obtain ⟨⟨h_p1, h_p2, h_td⟩, k_b, k_q, k_c, k_d, k_l, k_k, k_e, k_t, k_n, k_j⟩ := hS
  have k_d0 := k_d
  obtain ⟨h_dn, h_di, h_dh, h_dw, h_dx, h_dg, h_dy, h_df⟩ := k_d0
  exact ⟨rfl, trivial, trivial, ⟨h_p1, h_p2, h_td⟩, k_b, k_q, k_c, ⟨h_dn, h_di, h_dh, h_dw, fun _ _ _ _ _ e0 e1 e2 e3 e4 => no9 (o := none) rfl e4, fun _ _ _ _ _ e0 e1 e2 e3 e4 => no9 (o := none) rfl e3, fun _ _ _ e0 e1 e2 => no9 (o := none) rfl e1, (fun qa qb A w f e0 e1 e2 e3 e4 => by
      have e2 : g 0 = A := Option.some.inj (t920.symm.trans e2)
      subst e2
      have e3 : g 2 = w := Option.some.inj (t925.symm.trans e3)
      subst e3
      have e4 : g 4 + 0 = f := Option.some.inj e4
      subst e4
      have h1 := h_dx _ _ _ _ _ e0 e1 t920 t925 t926
      refine Or.inr ⟨by omega, fun hs => ?_⟩
      obtain ⟨y, i, h2, h3, h4, h5, h6⟩ := hs
      exact h1.2 y i (by omega) h2 h3 (by omega) h4.1 h4.2 h6.symm)⟩, k_l, k_k, k_e, k_t, k_n, k_j⟩
def ru_dc1 : Ru := ([(0, (920, (0, (0, 0)))), (0, (921, (0, (0, 0)))), (0, (922, (0, (0, 0)))), (0, (923, (0, (0, 0)))), (0, (924, (0, (0, 0)))), (0, (925, (0, (0, 0)))), (0, (928, (0, (0, 0))))], ([926], ([([(6, (-1))], (-1))], (false, ([], ([], ([(921, some (1, 1)), (924, none), (925, none), (928, none)], none)))))))
theorem rk_dc1 : RuOk SGd ru_dc1 := by
  intro τ m g hi hc ha hS
  obtain ⟨i0, i1, i2, i3, i4, i5, i6, _⟩ := hi
  have t920 : τ 920 = some (g 0) := i0
  have t921 : τ 921 = some (g 1) := i1
  have t922 : τ 922 = some (g 2) := i2
  have t923 : τ 923 = some (g 3) := i3
  have t924 : τ 924 = some (g 4) := i4
  have t925 : τ 925 = some (g 5) := i5
  have t928 : τ 928 = some (g 6) := i6
  obtain ⟨c0, _⟩ := hc
  have c0 : (-1) * g 6 ≤ (-1) := d1 c0
  obtain ⟨a0, _⟩ := ha
  have n926 : τ 926 = none := a0
  obtain ⟨⟨h_p1, h_p2, h_td⟩, k_b, k_q, k_c, k_d, k_l, k_k, k_e, k_t, k_n, k_j⟩ := hS
  have k_d0 := k_d
  obtain ⟨h_dn, h_di, h_dh, h_dw, h_dx, h_dg, h_dy, h_df⟩ := k_d0
  exact ⟨rfl, trivial, trivial, ⟨h_p1, h_p2, h_td⟩, k_b, k_q, k_c, ⟨(fun qa qb A I n e0 e1 e2 e3 e4 => by
      have e2 : g 0 = A := Option.some.inj (t920.symm.trans e2)
      subst e2
      have e3 : g 1 + 1 = I := Option.some.inj e3
      subst e3
      have e4 : g 2 = n := Option.some.inj (t922.symm.trans e4)
      subst e4
      obtain ⟨h1, h2, L, hL⟩ := h_dn _ _ _ _ _ e0 e1 t920 t921 t922
      have h3 := h_di _ _ _ _ e0 e1 t920 t923
      have h4 := h_dw _ _ _ _ _ e0 e1 t920 t921 t925
      have h5 := h_df _ _ _ _ _ e0 e1 t920 t925 t928
      have ho := fun s => ts_one (s := s) (show 0 ≤ g 0 ∧ g 0 ≤ 3 by omega) (show 0 ≤ g 1 ∧ g 1 < m 199 (g 0).toNat ∧ g 1 < 40 by omega) h3.2
      rw [← h4.2] at ho
      have h6 : tsG m qa qb (g 0) (g 1) (g 5) := by
        rcases h5 with q | q
        · obtain ⟨y, i, a1, a2, a3, a4, a5⟩ := q.2
          exact ⟨y, i, a1, a2, a3, by omega, a5⟩
        · omega
      exact ⟨by omega, h2, L, en_same hL (fun s => (ho s).trans ⟨fun q => q.elim id (fun q => by rw [q]; exact h6), Or.inl⟩)⟩), h_di, fun _ _ _ _ e0 e1 e2 e3 => no9 (o := none) rfl e3, fun _ _ _ _ _ e0 e1 e2 e3 e4 => no9 (o := none) rfl e4, fun _ _ _ _ _ e0 e1 e2 e3 e4 => no9 (o := none) rfl e3, h_dg, fun _ _ _ e0 e1 e2 => no9 (o := none) rfl e0, fun _ _ _ _ _ e0 e1 e2 e3 e4 => no9 (o := none) rfl e3⟩, k_l, k_k, k_e, k_t, k_n, k_j⟩
def ru_dc0 : Ru := ([(0, (920, (0, (0, 0)))), (0, (921, (0, (0, 0)))), (0, (922, (0, (0, 0)))), (0, (923, (0, (0, 0)))), (0, (924, (0, (0, 0)))), (0, (925, (0, (0, 0)))), (0, (928, (0, (0, 0))))], ([926], ([([(6, 1)], 0)], (false, ([], ([], ([(921, some (1, 1)), (922, some (2, 1)), (924, none), (925, none), (928, none)], none)))))))
theorem rk_dc0 : RuOk SGd ru_dc0 := by
  intro τ m g hi hc ha hS
  obtain ⟨i0, i1, i2, i3, i4, i5, i6, _⟩ := hi
  have t920 : τ 920 = some (g 0) := i0
  have t921 : τ 921 = some (g 1) := i1
  have t922 : τ 922 = some (g 2) := i2
  have t923 : τ 923 = some (g 3) := i3
  have t924 : τ 924 = some (g 4) := i4
  have t925 : τ 925 = some (g 5) := i5
  have t928 : τ 928 = some (g 6) := i6
  obtain ⟨c0, _⟩ := hc
  have c0 : 1 * g 6 ≤ 0 := d1 c0
  obtain ⟨a0, _⟩ := ha
  have n926 : τ 926 = none := a0
  obtain ⟨⟨h_p1, h_p2, h_td⟩, k_b, k_q, k_c, k_d, k_l, k_k, k_e, k_t, k_n, k_j⟩ := hS
  have k_d0 := k_d
  obtain ⟨h_dn, h_di, h_dh, h_dw, h_dx, h_dg, h_dy, h_df⟩ := k_d0
  exact ⟨rfl, trivial, trivial, ⟨h_p1, h_p2, h_td⟩, k_b, k_q, k_c, ⟨(fun qa qb A I n e0 e1 e2 e3 e4 => by
      have e2 : g 0 = A := Option.some.inj (t920.symm.trans e2)
      subst e2
      have e3 : g 1 + 1 = I := Option.some.inj e3
      subst e3
      have e4 : g 2 + 1 = n := Option.some.inj e4
      subst e4
      obtain ⟨h1, h2, L, hL⟩ := h_dn _ _ _ _ _ e0 e1 t920 t921 t922
      have h3 := h_di _ _ _ _ e0 e1 t920 t923
      have h4 := h_dw _ _ _ _ _ e0 e1 t920 t921 t925
      have h5 := h_df _ _ _ _ _ e0 e1 t920 t925 t928
      have ho := fun s => ts_one (s := s) (show 0 ≤ g 0 ∧ g 0 ≤ 3 by omega) (show 0 ≤ g 1 ∧ g 1 < m 199 (g 0).toNat ∧ g 1 < 40 by omega) h3.2
      rw [← h4.2] at ho
      have h6 : ¬ tsG m qa qb (g 0) (g 1) (g 5) := by
        rcases h5 with q | q
        · omega
        · rintro ⟨y, i, a1, a2, a3, a4, a5⟩
          rcases a4 with a4 | a4
          · exact q.2 ⟨y, i, a1, a2, a3, Or.inl a4, a5⟩
          · have ey : y = (g 0).toNat := by omega
            rw [ey] at a5
            have hd := ((h_td.2 (g 0).toNat (by omega)).2 (g 1).toNat (by omega)).2.2 i (by omega)
            exact hd (by rw [← a5]; exact h4.2)
      have e9 : (g 2 + 1).toNat = (g 2).toNat + 1 := by omega
      exact ⟨by omega, by omega, _, by rw [e9]; exact en_more hL h6 ho⟩), h_di, fun _ _ _ _ e0 e1 e2 e3 => no9 (o := none) rfl e3, fun _ _ _ _ _ e0 e1 e2 e3 e4 => no9 (o := none) rfl e4, fun _ _ _ _ _ e0 e1 e2 e3 e4 => no9 (o := none) rfl e3, h_dg, fun _ _ _ e0 e1 e2 => no9 (o := none) rfl e0, fun _ _ _ _ _ e0 e1 e2 e3 e4 => no9 (o := none) rfl e3⟩, k_l, k_k, k_e, k_t, k_n, k_j⟩
def ru_dbd : Ru := ([(0, (871, (0, (0, 0)))), (0, (872, (0, (0, 0)))), (0, (920, (0, (0, 0)))), (0, (921, (0, (0, 0)))), (0, (922, (0, (0, 0))))], ([], ([], (false, ([([(4, (-1))], 0), ([(4, 1)], 160)], ([], ([], none)))))))
theorem rk_dbd : RuOk SGd ru_dbd := by
  intro τ m g hi hc ha hS
  obtain ⟨i0, i1, i2, i3, i4, _⟩ := hi
  have t871 : τ 871 = some (g 0) := i0
  have t872 : τ 872 = some (g 1) := i1
  have t920 : τ 920 = some (g 2) := i2
  have t921 : τ 921 = some (g 3) := i3
  have t922 : τ 922 = some (g 4) := i4
  obtain ⟨⟨h_p1, h_p2, h_td⟩, k_b, k_q, k_c, k_d, k_l, k_k, k_e, k_t, k_n, k_j⟩ := hS
  have k_d0 := k_d
  obtain ⟨h_dn, h_di, h_dh, h_dw, h_dx, h_dg, h_dy, h_df⟩ := k_d0
  obtain ⟨h1, h2, L, hL⟩ := h_dn _ _ _ _ _ t871 t872 t920 t921 t922
  have hc := en_card hL
  exact ⟨rfl, ⟨f1 (by omega), f1 (by omega), trivial⟩, trivial, ⟨h_p1, h_p2, h_td⟩, k_b, k_q, k_c, k_d, k_l, k_k, k_e, k_t, k_n, k_j⟩
def ru_dend : Ru := ([(0, (920, (0, (0, 0)))), (0, (921, (0, (0, 0)))), (0, (922, (0, (0, 0))))], ([923, 925], ([([(0, 1)], 4), ([(0, (-1))], (-4)), ([(1, 1)], 0), ([(1, (-1))], 0)], (false, ([], ([], ([(877, some (2, 0)), (920, none), (921, none), (922, none)], none)))))))
theorem rk_dend : RuOk SGd ru_dend := by
  intro τ m g hi hc ha hS
  obtain ⟨i0, i1, i2, _⟩ := hi
  have t920 : τ 920 = some (g 0) := i0
  have t921 : τ 921 = some (g 1) := i1
  have t922 : τ 922 = some (g 2) := i2
  obtain ⟨c0, c1, c2, c3, _⟩ := hc
  have c0 : 1 * g 0 ≤ 4 := d1 c0
  have c1 : (-1) * g 0 ≤ (-4) := d1 c1
  have c2 : 1 * g 1 ≤ 0 := d1 c2
  have c3 : (-1) * g 1 ≤ 0 := d1 c3
  obtain ⟨a0, a1, _⟩ := ha
  have n923 : τ 923 = none := a0
  have n925 : τ 925 = none := a1
  obtain ⟨⟨h_p1, h_p2, h_td⟩, k_b, k_q, k_c, k_d, k_l, k_k, k_e, k_t, k_n, k_j⟩ := hS
  have k_d0 := k_d
  obtain ⟨h_dn, h_di, h_dh, h_dw, h_dx, h_dg, h_dy, h_df⟩ := k_d0
  have k_q0 := k_q
  obtain ⟨h_vs, h_qc, h_qr, h_qk, h_qn, h_ub⟩ := k_q0
  exact ⟨rfl, trivial, trivial, ⟨h_p1, h_p2, h_td⟩, k_b, ⟨h_vs, h_qc, h_qr, h_qk, (fun qa qb qn e0 e1 e2 => by
      have e2 : g 2 + 0 = qn := Option.some.inj e2
      subst e2
      obtain ⟨h1, h2, L, hL⟩ := h_dn _ _ _ _ _ e0 e1 t920 t921 t922
      have ea : g 0 = 4 := by omega
      have ei : g 1 = 0 := by omega
      have en : g 2 + 0 = g 2 := by omega
      rw [ea, ei] at hL
      rw [en]
      exact ⟨h2, L, hL⟩), h_ub⟩, k_c, ⟨fun _ _ _ _ _ e0 e1 e2 e3 e4 => no9 (o := none) rfl e2, fun _ _ _ _ e0 e1 e2 e3 => no9 (o := none) rfl e2, fun _ _ _ _ e0 e1 e2 e3 => no9 (o := none) rfl e2, fun _ _ _ _ _ e0 e1 e2 e3 e4 => no9 (o := none) rfl e2, fun _ _ _ _ _ e0 e1 e2 e3 e4 => no9 (o := none) rfl e2, fun _ _ _ _ _ e0 e1 e2 e3 e4 => no9 (o := none) rfl e2, h_dy, fun _ _ _ _ _ e0 e1 e2 e3 e4 => no9 (o := none) rfl e2⟩, k_l, k_k, k_e, k_t, k_n, k_j⟩
def ru_k0 : Ru := ([(1, (1, (0, (0, 0)))), (1, (2, (0, (0, 0)))), (4, (0, (0, (0, 0))))], ([930, 931, 932, 933, 934, 935, 936, 937, 938, 939, 940, 941, 942, 943, 944, 945, 946, 947, 948, 949, 950, 951, 952, 953, 954, 955, 956, 957, 958, 959, 960, 961, 962, 963, 964, 965, 966, 967, 968, 969, 970, 971, 972, 973, 974, 910, 911, 912, 913, 914, 915], ([([(0, (-1))], 0), ([(0, 1)], 3), ([(1, (-1))], 0), ([(1, 1)], 3)], (false, ([], ([], ([(930, some (0, 0)), (931, some (1, 0)), (932, some (2, 0))], none)))))))
theorem rk_k0 : RuOk SGd ru_k0 := by
  intro τ m g hi hc ha hS
  obtain ⟨i0, i1, i2, _⟩ := hi
  have xzero : g 2 = 0 := i2
  obtain ⟨c0, c1, c2, c3, _⟩ := hc
  have c0 : (-1) * g 0 ≤ 0 := d1 c0
  have c1 : 1 * g 0 ≤ 3 := d1 c1
  have c2 : (-1) * g 1 ≤ 0 := d1 c2
  have c3 : 1 * g 1 ≤ 3 := d1 c3
  obtain ⟨a0, a1, a2, a3, a4, a5, a6, a7, a8, a9, a10, a11, a12, a13, a14, a15, a16, a17, a18, a19, a20, a21, a22, a23, a24, a25, a26, a27, a28, a29, a30, a31, a32, a33, a34, a35, a36, a37, a38, a39, a40, a41, a42, a43, a44, a45, a46, a47, a48, a49, a50, _⟩ := ha
  have n930 : τ 930 = none := a0
  have n931 : τ 931 = none := a1
  have n932 : τ 932 = none := a2
  have n933 : τ 933 = none := a3
  have n934 : τ 934 = none := a4
  have n935 : τ 935 = none := a5
  have n936 : τ 936 = none := a6
  have n937 : τ 937 = none := a7
  have n938 : τ 938 = none := a8
  have n939 : τ 939 = none := a9
  have n940 : τ 940 = none := a10
  have n941 : τ 941 = none := a11
  have n942 : τ 942 = none := a12
  have n943 : τ 943 = none := a13
  have n944 : τ 944 = none := a14
  have n945 : τ 945 = none := a15
  have n946 : τ 946 = none := a16
  have n947 : τ 947 = none := a17
  have n948 : τ 948 = none := a18
  have n949 : τ 949 = none := a19
  have n950 : τ 950 = none := a20
  have n951 : τ 951 = none := a21
  have n952 : τ 952 = none := a22
  have n953 : τ 953 = none := a23
  have n954 : τ 954 = none := a24
  have n955 : τ 955 = none := a25
  have n956 : τ 956 = none := a26
  have n957 : τ 957 = none := a27
  have n958 : τ 958 = none := a28
  have n959 : τ 959 = none := a29
  have n960 : τ 960 = none := a30
  have n961 : τ 961 = none := a31
  have n962 : τ 962 = none := a32
  have n963 : τ 963 = none := a33
  have n964 : τ 964 = none := a34
  have n965 : τ 965 = none := a35
  have n966 : τ 966 = none := a36
  have n967 : τ 967 = none := a37
  have n968 : τ 968 = none := a38
  have n969 : τ 969 = none := a39
  have n970 : τ 970 = none := a40
  have n971 : τ 971 = none := a41
  have n972 : τ 972 = none := a42
  have n973 : τ 973 = none := a43
  have n974 : τ 974 = none := a44
  have n910 : τ 910 = none := a45
  have n911 : τ 911 = none := a46
  have n912 : τ 912 = none := a47
  have n913 : τ 913 = none := a48
  have n914 : τ 914 = none := a49
  have n915 : τ 915 = none := a50
  obtain ⟨⟨h_p1, h_p2, h_td⟩, k_b, k_q, k_c, k_d, k_l, k_k, k_e, k_t, k_n, k_j⟩ := hS
  have k_l0 := k_l
  obtain ⟨h_l0, h_lk, h_lg, h_lp, h_la, h_lc⟩ := k_l0
  have k_k0 := k_k
  obtain ⟨h_k0, h_ks, h_kk, h_kl, h_kw, h_kd, h_kz⟩ := k_k0
  exact ⟨rfl, trivial, trivial, ⟨h_p1, h_p2, h_td⟩, k_b, k_q, k_c, k_d, ⟨(fun La Lb e0 e1 => by
      have e0 : g 0 + 0 = La := Option.some.inj e0
      subst e0
      have e1 : g 1 + 0 = Lb := Option.some.inj e1
      subst e1
      omega), (fun La Lb k e0 e1 e2 => by
      have e0 : g 0 + 0 = La := Option.some.inj e0
      subst e0
      have e1 : g 1 + 0 = Lb := Option.some.inj e1
      subst e1
      have e2 : g 2 + 0 = k := Option.some.inj e2
      subst e2
      exact ⟨by omega, fun x h1 => by omega⟩), fun _ _ _ e0 e1 e2 => no9 n933 e2, h_lp, fun _ _ _ _ e0 e1 e2 e3 => no9 n933 e2, fun _ _ _ e0 e1 e2 => no9 n936 e2⟩, ⟨fun _ _ _ _ e0 e1 e2 e3 => no9 n937 e2, h_ks, h_kk, fun _ _ _ _ _ _ e0 e1 e2 e3 e4 e5 => no9 n937 e2, fun _ _ _ _ _ _ _ e0 e1 e2 e3 e4 e5 e6 => no9 n937 e2, fun _ _ _ _ _ _ e0 e1 e2 e3 e4 e5 => no9 n937 e2, fun _ _ _ e0 e1 e2 => no9 n915 e2⟩, k_e, k_t, k_n, k_j⟩
def ru_g0 : Ru := ([(0, (930, (0, (0, 0)))), (0, (931, (0, (0, 0)))), (0, (932, (0, (0, 0)))), (4, (0, (0, (0, 0))))], ([933, 934, 935], ([([(2, (-1))], (-4))], (false, ([], ([], ([(933, some (3, 0)), (932, none)], none)))))))
theorem rk_g0 : RuOk SGd ru_g0 := by
  intro τ m g hi hc ha hS
  obtain ⟨i0, i1, i2, i3, _⟩ := hi
  have t930 : τ 930 = some (g 0) := i0
  have t931 : τ 931 = some (g 1) := i1
  have t932 : τ 932 = some (g 2) := i2
  have xzero : g 3 = 0 := i3
  obtain ⟨c0, _⟩ := hc
  have c0 : (-1) * g 2 ≤ (-4) := d1 c0
  obtain ⟨a0, a1, a2, _⟩ := ha
  have n933 : τ 933 = none := a0
  have n934 : τ 934 = none := a1
  have n935 : τ 935 = none := a2
  obtain ⟨⟨h_p1, h_p2, h_td⟩, k_b, k_q, k_c, k_d, k_l, k_k, k_e, k_t, k_n, k_j⟩ := hS
  have k_l0 := k_l
  obtain ⟨h_l0, h_lk, h_lg, h_lp, h_la, h_lc⟩ := k_l0
  exact ⟨rfl, trivial, trivial, ⟨h_p1, h_p2, h_td⟩, k_b, k_q, k_c, k_d, ⟨h_l0, fun _ _ _ e0 e1 e2 => no9 (o := none) rfl e2, (fun La Lb g9 e0 e1 e2 => by
      have e0 : g 0 = La := Option.some.inj (t930.symm.trans e0)
      subst e0
      have e1 : g 1 = Lb := Option.some.inj (t931.symm.trans e1)
      subst e1
      have e2 : g 3 + 0 = g9 := Option.some.inj e2
      subst e2
      have h1 := h_lk _ _ _ t930 t931 t932
      have h0 := h_l0 _ _ t930 t931
      refine ⟨fun x hx h2 => ?_, (h1.2 _ (by omega)).mpr (by omega), (h1.2 _ (by omega)).mpr (by omega)⟩
      rcases (h1.2 x (by omega)).mp h2 with e | e
      · have ex : x = (g 0).toNat := by omega
        rw [ex]; exact Or.inl (RS_refl m _)
      · have ex : x = (g 1).toNat := by omega
        rw [ex]; exact Or.inr (RS_refl m _)), fun _ _ e0 e1 => no9 n934 e1, fun _ _ _ _ e0 e1 e2 e3 => no9 n935 e3, h_lc⟩, k_k, k_e, k_t, k_n, k_j⟩
def ru_gp : Ru := ([(0, (933, (0, (0, 0)))), (4, (0, (0, (0, 0))))], ([935], ([], (false, ([], ([], ([(934, some (1, 0))], none)))))))
theorem rk_gp : RuOk SGd ru_gp := by
  intro τ m g hi hc ha hS
  obtain ⟨i0, i1, _⟩ := hi
  have t933 : τ 933 = some (g 0) := i0
  have xzero : g 1 = 0 := i1
  obtain ⟨a0, _⟩ := ha
  have n935 : τ 935 = none := a0
  obtain ⟨⟨h_p1, h_p2, h_td⟩, k_b, k_q, k_c, k_d, k_l, k_k, k_e, k_t, k_n, k_j⟩ := hS
  have k_l0 := k_l
  obtain ⟨h_l0, h_lk, h_lg, h_lp, h_la, h_lc⟩ := k_l0
  exact ⟨rfl, trivial, trivial, ⟨h_p1, h_p2, h_td⟩, k_b, k_q, k_c, k_d, ⟨h_l0, h_lk, h_lg, (fun g9 p e0 e1 => by
      have e0 : g 0 = g9 := Option.some.inj (t933.symm.trans e0)
      subst e0
      have e1 : g 1 + 0 = p := Option.some.inj e1
      subst e1
      exact ⟨by omega, fun u v h1 h2 h3 => by omega⟩), h_la, h_lc⟩, k_k, k_e, k_t, k_n, k_j⟩
def ru_gs1 : Ru := ([(0, (933, (0, (0, 0)))), (0, (934, (0, (0, 0)))), (1, (2, (0, (0, 0)))), (1, (3, (0, (0, 0)))), (9, (201, (2, (1, 0))))], ([], ([([(1, 1), (2, (-4)), (3, (-1))], 0), ([(1, (-1)), (2, 4), (3, 1)], 0), ([(2, (-1))], 0), ([(2, 1)], 3), ([(3, (-1))], 0), ([(3, 1)], 3), ([(4, 1)], 0), ([(4, (-1))], 0)], (false, ([], ([], ([(934, some (1, 1))], none)))))))
theorem rk_gs1 : RuOk SGd ru_gs1 := by
  intro τ m g hi hc ha hS
  obtain ⟨i0, i1, i2, i3, i4, _⟩ := hi
  have t933 : τ 933 = some (g 0) := i0
  have t934 : τ 934 = some (g 1) := i1
  obtain ⟨jx, ux, vx⟩ : ∃ j : Nat, 1 * g 2 + 0 = (j : Int) ∧ g 4 = m 201 j := i4
  obtain ⟨c0, c1, c2, c3, c4, c5, c6, c7, _⟩ := hc
  have c0 : 1 * g 1 + (-4) * g 2 + (-1) * g 3 ≤ 0 := d3 c0
  have c1 : (-1) * g 1 + 4 * g 2 + 1 * g 3 ≤ 0 := d3 c1
  have c2 : (-1) * g 2 ≤ 0 := d1 c2
  have c3 : 1 * g 2 ≤ 3 := d1 c3
  have c4 : (-1) * g 3 ≤ 0 := d1 c4
  have c5 : 1 * g 3 ≤ 3 := d1 c5
  have c6 : 1 * g 4 ≤ 0 := d1 c6
  have c7 : (-1) * g 4 ≤ 0 := d1 c7
  obtain ⟨⟨h_p1, h_p2, h_td⟩, k_b, k_q, k_c, k_d, k_l, k_k, k_e, k_t, k_n, k_j⟩ := hS
  have k_l0 := k_l
  obtain ⟨h_l0, h_lk, h_lg, h_lp, h_la, h_lc⟩ := k_l0
  exact ⟨rfl, trivial, trivial, ⟨h_p1, h_p2, h_td⟩, k_b, k_q, k_c, k_d, ⟨h_l0, h_lk, h_lg, (fun g9 p e0 e1 => by
      have e0 : g 0 = g9 := Option.some.inj (t933.symm.trans e0)
      subst e0
      have e1 : g 1 + 1 = p := Option.some.inj e1
      subst e1
      have h1 := h_lp _ _ t933 t934
      refine ⟨by omega, fun u v hu hv h2 h3 h4 => ?_⟩
      by_cases e : 4 * (u : Int) + v = g 1
      · have eu : u = (g 2).toNat := by omega
        have ev : v = (g 3).toNat := by omega
        subst eu
        subst ev
        exfalso
        have ejx : jx = (g 2).toNat := by omega
        rw [← ejx] at h3; omega
      · exact h1.2 u v hu hv (by omega) h3 h4), h_la, h_lc⟩, k_k, k_e, k_t, k_n, k_j⟩
def ru_gs2 : Ru := ([(0, (933, (0, (0, 0)))), (0, (934, (0, (0, 0)))), (1, (2, (0, (0, 0)))), (1, (3, (0, (0, 0)))), (19, (200, (2, (4, 3))))], ([], ([([(1, 1), (2, (-4)), (3, (-1))], 0), ([(1, (-1)), (2, 4), (3, 1)], 0), ([(2, (-1))], 0), ([(2, 1)], 3), ([(3, (-1))], 0), ([(3, 1)], 3), ([(4, 1)], 0), ([(4, (-1))], 0)], (false, ([], ([], ([(934, some (1, 1))], none)))))))
theorem rk_gs2 : RuOk SGd ru_gs2 := by
  intro τ m g hi hc ha hS
  obtain ⟨i0, i1, i2, i3, i4, _⟩ := hi
  have t933 : τ 933 = some (g 0) := i0
  have t934 : τ 934 = some (g 1) := i1
  obtain ⟨jx, ux, vx⟩ : ∃ j : Nat, 4 * g 2 + g 3 = (j : Int) ∧ g 4 = m 200 j := i4
  obtain ⟨c0, c1, c2, c3, c4, c5, c6, c7, _⟩ := hc
  have c0 : 1 * g 1 + (-4) * g 2 + (-1) * g 3 ≤ 0 := d3 c0
  have c1 : (-1) * g 1 + 4 * g 2 + 1 * g 3 ≤ 0 := d3 c1
  have c2 : (-1) * g 2 ≤ 0 := d1 c2
  have c3 : 1 * g 2 ≤ 3 := d1 c3
  have c4 : (-1) * g 3 ≤ 0 := d1 c4
  have c5 : 1 * g 3 ≤ 3 := d1 c5
  have c6 : 1 * g 4 ≤ 0 := d1 c6
  have c7 : (-1) * g 4 ≤ 0 := d1 c7
  obtain ⟨⟨h_p1, h_p2, h_td⟩, k_b, k_q, k_c, k_d, k_l, k_k, k_e, k_t, k_n, k_j⟩ := hS
  have k_l0 := k_l
  obtain ⟨h_l0, h_lk, h_lg, h_lp, h_la, h_lc⟩ := k_l0
  exact ⟨rfl, trivial, trivial, ⟨h_p1, h_p2, h_td⟩, k_b, k_q, k_c, k_d, ⟨h_l0, h_lk, h_lg, (fun g9 p e0 e1 => by
      have e0 : g 0 = g9 := Option.some.inj (t933.symm.trans e0)
      subst e0
      have e1 : g 1 + 1 = p := Option.some.inj e1
      subst e1
      have h1 := h_lp _ _ t933 t934
      refine ⟨by omega, fun u v hu hv h2 h3 h4 => ?_⟩
      by_cases e : 4 * (u : Int) + v = g 1
      · have eu : u = (g 2).toNat := by omega
        have ev : v = (g 3).toNat := by omega
        subst eu
        subst ev
        exfalso
        have ejx : jx = 4 * (g 2).toNat + (g 3).toNat := by omega
        rw [← ejx] at h4; omega
      · exact h1.2 u v hu hv (by omega) h3 h4), h_la, h_lc⟩, k_k, k_e, k_t, k_n, k_j⟩
def ru_gs3 : Ru := ([(0, (933, (0, (0, 0)))), (0, (934, (0, (0, 0)))), (1, (2, (0, (0, 0)))), (1, (3, (0, (0, 0)))), (9, (201, (3, (1, 0))))], ([], ([([(1, 1), (2, (-4)), (3, (-1))], 0), ([(1, (-1)), (2, 4), (3, 1)], 0), ([(2, (-1))], 0), ([(2, 1)], 3), ([(3, (-1))], 0), ([(3, 1)], 3), ([(4, (-1))], (-1))], (false, ([], ([], ([(934, some (1, 1))], none)))))))
theorem rk_gs3 : RuOk SGd ru_gs3 := by
  intro τ m g hi hc ha hS
  obtain ⟨i0, i1, i2, i3, i4, _⟩ := hi
  have t933 : τ 933 = some (g 0) := i0
  have t934 : τ 934 = some (g 1) := i1
  obtain ⟨jx, ux, vx⟩ : ∃ j : Nat, 1 * g 3 + 0 = (j : Int) ∧ g 4 = m 201 j := i4
  obtain ⟨c0, c1, c2, c3, c4, c5, c6, _⟩ := hc
  have c0 : 1 * g 1 + (-4) * g 2 + (-1) * g 3 ≤ 0 := d3 c0
  have c1 : (-1) * g 1 + 4 * g 2 + 1 * g 3 ≤ 0 := d3 c1
  have c2 : (-1) * g 2 ≤ 0 := d1 c2
  have c3 : 1 * g 2 ≤ 3 := d1 c3
  have c4 : (-1) * g 3 ≤ 0 := d1 c4
  have c5 : 1 * g 3 ≤ 3 := d1 c5
  have c6 : (-1) * g 4 ≤ (-1) := d1 c6
  obtain ⟨⟨h_p1, h_p2, h_td⟩, k_b, k_q, k_c, k_d, k_l, k_k, k_e, k_t, k_n, k_j⟩ := hS
  have k_l0 := k_l
  obtain ⟨h_l0, h_lk, h_lg, h_lp, h_la, h_lc⟩ := k_l0
  exact ⟨rfl, trivial, trivial, ⟨h_p1, h_p2, h_td⟩, k_b, k_q, k_c, k_d, ⟨h_l0, h_lk, h_lg, (fun g9 p e0 e1 => by
      have e0 : g 0 = g9 := Option.some.inj (t933.symm.trans e0)
      subst e0
      have e1 : g 1 + 1 = p := Option.some.inj e1
      subst e1
      have h1 := h_lp _ _ t933 t934
      refine ⟨by omega, fun u v hu hv h2 h3 h4 => ?_⟩
      by_cases e : 4 * (u : Int) + v = g 1
      · have eu : u = (g 2).toNat := by omega
        have ev : v = (g 3).toNat := by omega
        subst eu
        subst ev
        have ejx : jx = (g 3).toNat := by omega
        rw [← ejx]; omega
      · exact h1.2 u v hu hv (by omega) h3 h4), h_la, h_lc⟩, k_k, k_e, k_t, k_n, k_j⟩
def ru_ga : Ru := ([(0, (933, (0, (0, 0)))), (1, (2, (0, (0, 0)))), (1, (3, (0, (0, 0)))), (9, (201, (1, (1, 0)))), (19, (200, (1, (4, 2))))], ([], ([([(1, (-1))], 0), ([(1, 1)], 3), ([(2, (-1))], 0), ([(2, 1)], 3), ([(3, (-1))], (-1)), ([(4, (-1))], (-1))], (false, ([], ([], ([(934, none), (935, some (2, 0))], none)))))))
theorem rk_ga : RuOk SGd ru_ga := by
  intro τ m g hi hc ha hS
  obtain ⟨i0, i1, i2, i3, i4, _⟩ := hi
  have t933 : τ 933 = some (g 0) := i0
  obtain ⟨jx, ux, vx⟩ : ∃ j : Nat, 1 * g 1 + 0 = (j : Int) ∧ g 3 = m 201 j := i3
  obtain ⟨jy, uy, vy⟩ : ∃ j : Nat, 4 * g 1 + g 2 = (j : Int) ∧ g 4 = m 200 j := i4
  obtain ⟨c0, c1, c2, c3, c4, c5, _⟩ := hc
  have c0 : (-1) * g 1 ≤ 0 := d1 c0
  have c1 : 1 * g 1 ≤ 3 := d1 c1
  have c2 : (-1) * g 2 ≤ 0 := d1 c2
  have c3 : 1 * g 2 ≤ 3 := d1 c3
  have c4 : (-1) * g 3 ≤ (-1) := d1 c4
  have c5 : (-1) * g 4 ≤ (-1) := d1 c5
  obtain ⟨⟨h_p1, h_p2, h_td⟩, k_b, k_q, k_c, k_d, k_l, k_k, k_e, k_t, k_n, k_j⟩ := hS
  have k_l0 := k_l
  obtain ⟨h_l0, h_lk, h_lg, h_lp, h_la, h_lc⟩ := k_l0
  exact ⟨rfl, trivial, trivial, ⟨h_p1, h_p2, h_td⟩, k_b, k_q, k_c, k_d, ⟨h_l0, h_lk, h_lg, fun _ _ e0 e1 => no9 (o := none) rfl e1, (fun La Lb g9 b9 e0 e1 e2 e3 => by
      have e2 : g 0 = g9 := Option.some.inj (t933.symm.trans e2)
      subst e2
      have e3 : g 2 + 0 = b9 := Option.some.inj e3
      subst e3
      have h1 := h_lg _ _ _ e0 e1 t933
      have ejx : jx = (g 1).toNat := by omega
      have ejy : jy = 4 * (g 1).toNat + (g 2).toNat := by omega
      have eb : (g 2 + 0).toNat = (g 2).toNat := by omega
      subst ejx
      subst ejy
      have h2 := h1.1 (g 1).toNat (by omega) (by omega)
      refine ⟨by omega, ?_⟩
      rw [eb]
      rcases h2 with q | q
      · exact Or.inl (RS_step q (by omega) (by omega) (by omega))
      · exact Or.inr (RS_step q (by omega) (by omega) (by omega))), h_lc⟩, k_k, k_e, k_t, k_n, k_j⟩
def ru_gc : Ru := ([(0, (930, (0, (0, 0)))), (0, (931, (0, (0, 0)))), (0, (933, (0, (0, 0)))), (0, (934, (0, (0, 0)))), (4, (0, (0, (0, 0))))], ([936, 937], ([([(3, (-1))], (-16))], (false, ([], ([], ([(936, some (4, 0)), (933, none), (934, none)], none)))))))
theorem rk_gc : RuOk SGd ru_gc := by
  intro τ m g hi hc ha hS
  obtain ⟨i0, i1, i2, i3, i4, _⟩ := hi
  have t930 : τ 930 = some (g 0) := i0
  have t931 : τ 931 = some (g 1) := i1
  have t933 : τ 933 = some (g 2) := i2
  have t934 : τ 934 = some (g 3) := i3
  have xzero : g 4 = 0 := i4
  obtain ⟨c0, _⟩ := hc
  have c0 : (-1) * g 3 ≤ (-16) := d1 c0
  obtain ⟨a0, a1, _⟩ := ha
  have n936 : τ 936 = none := a0
  have n937 : τ 937 = none := a1
  obtain ⟨⟨h_p1, h_p2, h_td⟩, k_b, k_q, k_c, k_d, k_l, k_k, k_e, k_t, k_n, k_j⟩ := hS
  have k_l0 := k_l
  obtain ⟨h_l0, h_lk, h_lg, h_lp, h_la, h_lc⟩ := k_l0
  exact ⟨rfl, trivial, trivial, ⟨h_p1, h_p2, h_td⟩, k_b, k_q, k_c, k_d, ⟨h_l0, h_lk, fun _ _ _ e0 e1 e2 => no9 (o := none) rfl e2, fun _ _ e0 e1 => no9 (o := none) rfl e0, fun _ _ _ _ e0 e1 e2 e3 => no9 (o := none) rfl e2, (fun La Lb c9 e0 e1 e2 => by
      have e0 : g 0 = La := Option.some.inj (t930.symm.trans e0)
      subst e0
      have e1 : g 1 = Lb := Option.some.inj (t931.symm.trans e1)
      subst e1
      have e2 : g 4 + 0 = c9 := Option.some.inj e2
      subst e2
      have h0 := h_l0 _ _ t930 t931
      have h1 := h_lg _ _ _ t930 t931 t933
      have h2 := h_lp _ _ t933 t934
      exact fun x hx => link_end h0.1 h0.2 h1.1 h1.2.1 h1.2.2 (fun u v hu hv => h2.2 u v hu hv (by omega)) x hx)⟩, k_k, k_e, k_t, k_n, k_j⟩
def ru_n0 : Ru := ([(0, (930, (0, (0, 0)))), (0, (931, (0, (0, 0)))), (0, (936, (0, (0, 0)))), (5, (110, (134, (0, 0)))), (4, (0, (0, (0, 0))))], ([937, 938, 939, 940, 941, 942], ([([(3, 1)], 0), ([(3, (-1))], 0)], (false, ([], ([], ([(937, some (4, 0)), (938, some (4, 0))], none)))))))
theorem rk_n0 : RuOk SGd ru_n0 := by
  intro τ m g hi hc ha hS
  obtain ⟨i0, i1, i2, i3, i4, _⟩ := hi
  have t930 : τ 930 = some (g 0) := i0
  have t931 : τ 931 = some (g 1) := i1
  have t936 : τ 936 = some (g 2) := i2
  have xkc : g 3 = m 110 134 := i3
  have xzero : g 4 = 0 := i4
  obtain ⟨c0, c1, _⟩ := hc
  have c0 : 1 * g 3 ≤ 0 := d1 c0
  have c1 : (-1) * g 3 ≤ 0 := d1 c1
  obtain ⟨a0, a1, a2, a3, a4, a5, _⟩ := ha
  have n937 : τ 937 = none := a0
  have n938 : τ 938 = none := a1
  have n939 : τ 939 = none := a2
  have n940 : τ 940 = none := a3
  have n941 : τ 941 = none := a4
  have n942 : τ 942 = none := a5
  obtain ⟨⟨h_p1, h_p2, h_td⟩, k_b, k_q, k_c, k_d, k_l, k_k, k_e, k_t, k_n, k_j⟩ := hS
  have k_k0 := k_k
  obtain ⟨h_k0, h_ks, h_kk, h_kl, h_kw, h_kd, h_kz⟩ := k_k0
  exact ⟨rfl, trivial, trivial, ⟨h_p1, h_p2, h_td⟩, k_b, k_q, k_c, k_d, k_l, ⟨(fun La Lb A I e0 e1 e2 e3 => by
      have e0 : g 0 = La := Option.some.inj (t930.symm.trans e0)
      subst e0
      have e1 : g 1 = Lb := Option.some.inj (t931.symm.trans e1)
      subst e1
      have e2 : g 4 + 0 = A := Option.some.inj e2
      subst e2
      have e3 : g 4 + 0 = I := Option.some.inj e3
      subst e3
      have z : g 4 + 0 = 0 := by omega
      have ek : (m 110 134).toNat = 0 := by omega
      rw [z]
      refine ⟨by omega, by omega, fun _ _ _ => ?_⟩
      rw [ek]
      exact ⟨fun i hi => absurd hi (Nat.not_lt_zero i), fun i j hi => absurd hi (Nat.not_lt_zero i), fun s hs => by obtain ⟨y, i, h1, h2, h3, h4, h5⟩ := hs; omega⟩), h_ks, h_kk, fun _ _ _ _ _ _ e0 e1 e2 e3 e4 e5 => no9 n939 e4, fun _ _ _ _ _ _ _ e0 e1 e2 e3 e4 e5 e6 => no9 n939 e4, fun _ _ _ _ _ _ e0 e1 e2 e3 e4 e5 => no9 n939 e4, h_kz⟩, k_e, k_t, k_n, k_j⟩
def ru_nA0 : Ru := ([(0, (930, (0, (0, 0)))), (0, (931, (0, (0, 0)))), (0, (936, (0, (0, 0)))), (0, (937, (0, (0, 0)))), (0, (938, (0, (0, 0)))), (9, (201, (3, (1, 0)))), (4, (0, (0, (0, 0))))], ([939], ([([(5, 1)], 0), ([(5, (-1))], 0), ([(3, (-1))], 0), ([(3, 1)], 3)], (false, ([], ([], ([(937, some (3, 1)), (938, some (6, 0))], none)))))))
theorem rk_nA0 : RuOk SGd ru_nA0 := by
  intro τ m g hi hc ha hS
  obtain ⟨i0, i1, i2, i3, i4, i5, i6, _⟩ := hi
  have t930 : τ 930 = some (g 0) := i0
  have t931 : τ 931 = some (g 1) := i1
  have t936 : τ 936 = some (g 2) := i2
  have t937 : τ 937 = some (g 3) := i3
  have t938 : τ 938 = some (g 4) := i4
  obtain ⟨jx, ux, vx⟩ : ∃ j : Nat, 1 * g 3 + 0 = (j : Int) ∧ g 5 = m 201 j := i5
  have xzero : g 6 = 0 := i6
  obtain ⟨c0, c1, c2, c3, _⟩ := hc
  have c0 : 1 * g 5 ≤ 0 := d1 c0
  have c1 : (-1) * g 5 ≤ 0 := d1 c1
  have c2 : (-1) * g 3 ≤ 0 := d1 c2
  have c3 : 1 * g 3 ≤ 3 := d1 c3
  obtain ⟨a0, _⟩ := ha
  have n939 : τ 939 = none := a0
  obtain ⟨⟨h_p1, h_p2, h_td⟩, k_b, k_q, k_c, k_d, k_l, k_k, k_e, k_t, k_n, k_j⟩ := hS
  have k_l0 := k_l
  obtain ⟨h_l0, h_lk, h_lg, h_lp, h_la, h_lc⟩ := k_l0
  have k_k0 := k_k
  obtain ⟨h_k0, h_ks, h_kk, h_kl, h_kw, h_kd, h_kz⟩ := k_k0
  exact ⟨rfl, trivial, trivial, ⟨h_p1, h_p2, h_td⟩, k_b, k_q, k_c, k_d, k_l, ⟨(fun La Lb A I e0 e1 e2 e3 => by
      have e0 : g 0 = La := Option.some.inj (t930.symm.trans e0)
      subst e0
      have e1 : g 1 = Lb := Option.some.inj (t931.symm.trans e1)
      subst e1
      have e2 : g 3 + 1 = A := Option.some.inj e2
      subst e2
      have e3 : g 6 + 0 = I := Option.some.inj e3
      subst e3
      have h1 := h_k0 _ _ _ _ t930 t931 t937 t938
      have h2 := h_lc _ _ _ t930 t931 t936 (g 3).toNat (by omega)
      have ejx : jx = (g 3).toNat := by omega
      subst ejx
      have z : g 6 + 0 = 0 := by omega
      rw [z]
      exact ⟨by omega, h1.2.1, fun e4 e5 e6 => en_same (h1.2.2 e4 e5 e6) (fun s => ts_next (by omega) (Or.inl (fun hi => absurd (h2.mpr hi) (by omega))) s)⟩), h_ks, h_kk, fun _ _ _ _ _ _ e0 e1 e2 e3 e4 e5 => no9 n939 e4, fun _ _ _ _ _ _ _ e0 e1 e2 e3 e4 e5 e6 => no9 n939 e4, fun _ _ _ _ _ _ e0 e1 e2 e3 e4 e5 => no9 n939 e4, h_kz⟩, k_e, k_t, k_n, k_j⟩
def ru_nA1 : Ru := ([(0, (930, (0, (0, 0)))), (0, (931, (0, (0, 0)))), (0, (936, (0, (0, 0)))), (0, (937, (0, (0, 0)))), (0, (938, (0, (0, 0)))), (9, (199, (3, (1, 0)))), (4, (0, (0, (0, 0))))], ([939], ([([(4, (-1)), (5, 1)], 0), ([(3, (-1))], 0), ([(3, 1)], 3)], (false, ([], ([], ([(937, some (3, 1)), (938, some (6, 0))], none)))))))
theorem rk_nA1 : RuOk SGd ru_nA1 := by
  intro τ m g hi hc ha hS
  obtain ⟨i0, i1, i2, i3, i4, i5, i6, _⟩ := hi
  have t930 : τ 930 = some (g 0) := i0
  have t931 : τ 931 = some (g 1) := i1
  have t936 : τ 936 = some (g 2) := i2
  have t937 : τ 937 = some (g 3) := i3
  have t938 : τ 938 = some (g 4) := i4
  obtain ⟨jn, un, vn⟩ : ∃ j : Nat, 1 * g 3 + 0 = (j : Int) ∧ g 5 = m 199 j := i5
  have xzero : g 6 = 0 := i6
  obtain ⟨c0, c1, c2, _⟩ := hc
  have c0 : (-1) * g 4 + 1 * g 5 ≤ 0 := d2 c0
  have c1 : (-1) * g 3 ≤ 0 := d1 c1
  have c2 : 1 * g 3 ≤ 3 := d1 c2
  obtain ⟨a0, _⟩ := ha
  have n939 : τ 939 = none := a0
  obtain ⟨⟨h_p1, h_p2, h_td⟩, k_b, k_q, k_c, k_d, k_l, k_k, k_e, k_t, k_n, k_j⟩ := hS
  have k_l0 := k_l
  obtain ⟨h_l0, h_lk, h_lg, h_lp, h_la, h_lc⟩ := k_l0
  have k_k0 := k_k
  obtain ⟨h_k0, h_ks, h_kk, h_kl, h_kw, h_kd, h_kz⟩ := k_k0
  exact ⟨rfl, trivial, trivial, ⟨h_p1, h_p2, h_td⟩, k_b, k_q, k_c, k_d, k_l, ⟨(fun La Lb A I e0 e1 e2 e3 => by
      have e0 : g 0 = La := Option.some.inj (t930.symm.trans e0)
      subst e0
      have e1 : g 1 = Lb := Option.some.inj (t931.symm.trans e1)
      subst e1
      have e2 : g 3 + 1 = A := Option.some.inj e2
      subst e2
      have e3 : g 6 + 0 = I := Option.some.inj e3
      subst e3
      have h1 := h_k0 _ _ _ _ t930 t931 t937 t938
      have ejn : jn = (g 3).toNat := by omega
      subst ejn
      have z : g 6 + 0 = 0 := by omega
      rw [z]
      exact ⟨by omega, h1.2.1, fun e4 e5 e6 => en_same (h1.2.2 e4 e5 e6) (fun s => ts_next (by omega) (Or.inr (fun i h1 _ => by omega)) s)⟩), h_ks, h_kk, fun _ _ _ _ _ _ e0 e1 e2 e3 e4 e5 => no9 n939 e4, fun _ _ _ _ _ _ _ e0 e1 e2 e3 e4 e5 e6 => no9 n939 e4, fun _ _ _ _ _ _ e0 e1 e2 e3 e4 e5 => no9 n939 e4, h_kz⟩, k_e, k_t, k_n, k_j⟩
def ru_ns : Ru := ([(0, (930, (0, (0, 0)))), (0, (931, (0, (0, 0)))), (0, (936, (0, (0, 0)))), (0, (937, (0, (0, 0)))), (0, (938, (0, (0, 0)))), (9, (199, (3, (1, 0)))), (9, (201, (3, (1, 0)))), (3, (0, (0, (0, 0)))), (19, (198, (3, (40, 4)))), (4, (0, (0, (0, 0)))), (4, (0, (0, (1, 0))))], ([939, 910, 911, 912, 913, 914, 915], ([([(7, 1), (8, (-1))], 0), ([(7, (-1)), (8, 1)], 0), ([(4, (-1))], 0), ([(4, 1), (5, (-1))], (-1)), ([(5, 1)], 40), ([(6, (-1))], (-1)), ([(3, (-1))], 0), ([(3, 1)], 3)], (false, ([([(7, (-1))], (-1)), ([(7, 1)], 1048575)], ([], ([(939, some (7, 0)), (910, some (9, 0)), (912, some (10, 0))], none)))))))
theorem rk_ns : RuOk SGd ru_ns := by
  intro τ m g hi hc ha hS
  obtain ⟨i0, i1, i2, i3, i4, i5, i6, i7, i8, i9, i10, _⟩ := hi
  have t930 : τ 930 = some (g 0) := i0
  have t931 : τ 931 = some (g 1) := i1
  have t936 : τ 936 = some (g 2) := i2
  have t937 : τ 937 = some (g 3) := i3
  have t938 : τ 938 = some (g 4) := i4
  obtain ⟨jn, un, vn⟩ : ∃ j : Nat, 1 * g 3 + 0 = (j : Int) ∧ g 5 = m 199 j := i5
  obtain ⟨jy, uy, vy⟩ : ∃ j : Nat, 1 * g 3 + 0 = (j : Int) ∧ g 6 = m 201 j := i6
  obtain ⟨jx, ux, vx⟩ : ∃ j : Nat, 40 * g 3 + g 4 = (j : Int) ∧ g 8 = m 198 j := i8
  have xzero : g 9 = 0 := i9
  have xone : g 10 = 1 := i10
  obtain ⟨c0, c1, c2, c3, c4, c5, c6, c7, _⟩ := hc
  have c0 : 1 * g 7 + (-1) * g 8 ≤ 0 := d2 c0
  have c1 : (-1) * g 7 + 1 * g 8 ≤ 0 := d2 c1
  have c2 : (-1) * g 4 ≤ 0 := d1 c2
  have c3 : 1 * g 4 + (-1) * g 5 ≤ (-1) := d2 c3
  have c4 : 1 * g 5 ≤ 40 := d1 c4
  have c5 : (-1) * g 6 ≤ (-1) := d1 c5
  have c6 : (-1) * g 3 ≤ 0 := d1 c6
  have c7 : 1 * g 3 ≤ 3 := d1 c7
  obtain ⟨a0, a1, a2, a3, a4, a5, a6, _⟩ := ha
  have n939 : τ 939 = none := a0
  have n910 : τ 910 = none := a1
  have n911 : τ 911 = none := a2
  have n912 : τ 912 = none := a3
  have n913 : τ 913 = none := a4
  have n914 : τ 914 = none := a5
  have n915 : τ 915 = none := a6
  obtain ⟨⟨h_p1, h_p2, h_td⟩, k_b, k_q, k_c, k_d, k_l, k_k, k_e, k_t, k_n, k_j⟩ := hS
  have k_l0 := k_l
  obtain ⟨h_l0, h_lk, h_lg, h_lp, h_la, h_lc⟩ := k_l0
  have k_k0 := k_k
  obtain ⟨h_k0, h_ks, h_kk, h_kl, h_kw, h_kd, h_kz⟩ := k_k0
  have ejn : jn = (g 3).toNat := by omega
  subst ejn
  have ejx : jx = 40 * (g 3).toNat + (g 4).toNat := by omega
  subst ejx
  have ejy : jy = (g 3).toNat := by omega
  subst ejy
  have htd := (h_td.2 (g 3).toNat (by omega)).2 (g 4).toNat (by omega)
  have hli := (h_lc _ _ _ t930 t931 t936 (g 3).toNat (by omega)).mp (by omega)
  exact ⟨rfl, ⟨f1 (by omega), f1 (by omega), trivial⟩, trivial, ⟨h_p1, h_p2, h_td⟩, k_b, k_q, k_c, k_d, k_l, ⟨h_k0, (fun s e0 => by
      have e0 : g 7 + 0 = s := Option.some.inj e0
      subst e0
      omega), (fun s K e0 e1 => by
      have e0 : g 7 + 0 = s := Option.some.inj e0
      subst e0
      have e1 : g 9 + 0 = K := Option.some.inj e1
      subst e1
      exact ⟨by omega, fun i h1 _ => by omega⟩), (fun La Lb A I s ls9 e0 e1 e2 e3 e4 e5 => by
      have e0 : g 0 = La := Option.some.inj (t930.symm.trans e0)
      subst e0
      have e1 : g 1 = Lb := Option.some.inj (t931.symm.trans e1)
      subst e1
      have e2 : g 3 = A := Option.some.inj (t937.symm.trans e2)
      subst e2
      have e3 : g 4 = I := Option.some.inj (t938.symm.trans e3)
      subst e3
      have e4 : g 7 + 0 = s := Option.some.inj e4
      subst e4
      have e5 : g 10 + 0 = ls9 := Option.some.inj e5
      subst e5
      exact ⟨by omega, hli, by omega⟩), fun _ _ _ _ _ _ _ e0 e1 e2 e3 e4 e5 e6 => no9 n913 e6, fun _ _ _ _ _ _ e0 e1 e2 e3 e4 e5 => no9 n914 e5, h_kz⟩, k_e, k_t, k_n, k_j⟩
def ru_nsx : Ru := ([(0, (930, (0, (0, 0)))), (0, (931, (0, (0, 0)))), (0, (936, (0, (0, 0)))), (0, (937, (0, (0, 0)))), (0, (938, (0, (0, 0)))), (3, (0, (0, (0, 0)))), (4, (0, (0, (0, 0))))], ([939, 910, 911, 912, 913, 914, 915], ([([(3, 1)], 4), ([(3, (-1))], (-4)), ([(4, 1)], 0), ([(4, (-1))], 0), ([(5, (-1))], (-1)), ([(5, 1)], 1048575)], (false, ([], ([], ([(939, some (5, 0)), (910, some (6, 0))], none)))))))
theorem rk_nsx : RuOk SGd ru_nsx := by
  intro τ m g hi hc ha hS
  obtain ⟨i0, i1, i2, i3, i4, i5, i6, _⟩ := hi
  have t930 : τ 930 = some (g 0) := i0
  have t931 : τ 931 = some (g 1) := i1
  have t936 : τ 936 = some (g 2) := i2
  have t937 : τ 937 = some (g 3) := i3
  have t938 : τ 938 = some (g 4) := i4
  have xzero : g 6 = 0 := i6
  obtain ⟨c0, c1, c2, c3, c4, c5, _⟩ := hc
  have c0 : 1 * g 3 ≤ 4 := d1 c0
  have c1 : (-1) * g 3 ≤ (-4) := d1 c1
  have c2 : 1 * g 4 ≤ 0 := d1 c2
  have c3 : (-1) * g 4 ≤ 0 := d1 c3
  have c4 : (-1) * g 5 ≤ (-1) := d1 c4
  have c5 : 1 * g 5 ≤ 1048575 := d1 c5
  obtain ⟨a0, a1, a2, a3, a4, a5, a6, _⟩ := ha
  have n939 : τ 939 = none := a0
  have n910 : τ 910 = none := a1
  have n911 : τ 911 = none := a2
  have n912 : τ 912 = none := a3
  have n913 : τ 913 = none := a4
  have n914 : τ 914 = none := a5
  have n915 : τ 915 = none := a6
  obtain ⟨⟨h_p1, h_p2, h_td⟩, k_b, k_q, k_c, k_d, k_l, k_k, k_e, k_t, k_n, k_j⟩ := hS
  have k_k0 := k_k
  obtain ⟨h_k0, h_ks, h_kk, h_kl, h_kw, h_kd, h_kz⟩ := k_k0
  exact ⟨rfl, trivial, trivial, ⟨h_p1, h_p2, h_td⟩, k_b, k_q, k_c, k_d, k_l, ⟨h_k0, (fun s e0 => by
      have e0 : g 5 + 0 = s := Option.some.inj e0
      subst e0
      omega), (fun s K e0 e1 => by
      have e0 : g 5 + 0 = s := Option.some.inj e0
      subst e0
      have e1 : g 6 + 0 = K := Option.some.inj e1
      subst e1
      exact ⟨by omega, fun i h1 _ => by omega⟩), fun _ _ _ _ _ _ e0 e1 e2 e3 e4 e5 => no9 n912 e5, fun _ _ _ _ _ _ _ e0 e1 e2 e3 e4 e5 e6 => no9 n913 e6, fun _ _ _ _ _ _ e0 e1 e2 e3 e4 e5 => no9 n914 e5, h_kz⟩, k_e, k_t, k_n, k_j⟩
def ru_nl : Ru := ([(0, (939, (0, (0, 0)))), (0, (910, (0, (0, 0)))), (9, (202, (1, (1, 0)))), (5, (110, (134, (0, 0))))], ([913], ([([(1, (-1))], 0), ([(1, 1), (3, (-1))], (-1)), ([(0, (-1)), (2, 1)], (-1))], (false, ([], ([], ([(910, some (1, 1))], none)))))))
theorem rk_nl : RuOk SGd ru_nl := by
  intro τ m g hi hc ha hS
  obtain ⟨i0, i1, i2, i3, _⟩ := hi
  have t939 : τ 939 = some (g 0) := i0
  have t910 : τ 910 = some (g 1) := i1
  obtain ⟨jx, ux, vx⟩ : ∃ j : Nat, 1 * g 1 + 0 = (j : Int) ∧ g 2 = m 202 j := i2
  have xkc : g 3 = m 110 134 := i3
  obtain ⟨c0, c1, c2, _⟩ := hc
  have c0 : (-1) * g 1 ≤ 0 := d1 c0
  have c1 : 1 * g 1 + (-1) * g 3 ≤ (-1) := d2 c1
  have c2 : (-1) * g 0 + 1 * g 2 ≤ (-1) := d2 c2
  obtain ⟨a0, _⟩ := ha
  have n913 : τ 913 = none := a0
  obtain ⟨⟨h_p1, h_p2, h_td⟩, k_b, k_q, k_c, k_d, k_l, k_k, k_e, k_t, k_n, k_j⟩ := hS
  have k_k0 := k_k
  obtain ⟨h_k0, h_ks, h_kk, h_kl, h_kw, h_kd, h_kz⟩ := k_k0
  exact ⟨rfl, trivial, trivial, ⟨h_p1, h_p2, h_td⟩, k_b, k_q, k_c, k_d, k_l, ⟨h_k0, h_ks, (fun s K e0 e1 => by
      have e0 : g 0 = s := Option.some.inj (t939.symm.trans e0)
      subst e0
      have e1 : g 1 + 1 = K := Option.some.inj e1
      subst e1
      have h1 := h_kk _ _ t939 t910
      have ejx : jx = (g 1).toNat := by omega
      subst ejx
      refine ⟨by omega, fun i h2 h3 => ?_⟩
      by_cases e : (i : Int) = g 1
      · have ei : i = (g 1).toNat := by omega
        rw [ei]; omega
      · exact h1.2 i (by omega) h3), h_kl, fun _ _ _ _ _ _ _ e0 e1 e2 e3 e4 e5 e6 => no9 n913 e6, h_kd, h_kz⟩, k_e, k_t, k_n, k_j⟩
def ru_nm : Ru := ([(0, (939, (0, (0, 0)))), (0, (910, (0, (0, 0)))), (9, (202, (1, (1, 0)))), (5, (110, (134, (0, 0))))], ([913], ([([(1, (-1))], 0), ([(1, 1), (3, (-1))], (-1)), ([(0, 1), (2, (-1))], (-1))], (false, ([], ([], ([(910, some (1, 1))], none)))))))
theorem rk_nm : RuOk SGd ru_nm := by
  intro τ m g hi hc ha hS
  obtain ⟨i0, i1, i2, i3, _⟩ := hi
  have t939 : τ 939 = some (g 0) := i0
  have t910 : τ 910 = some (g 1) := i1
  obtain ⟨jx, ux, vx⟩ : ∃ j : Nat, 1 * g 1 + 0 = (j : Int) ∧ g 2 = m 202 j := i2
  have xkc : g 3 = m 110 134 := i3
  obtain ⟨c0, c1, c2, _⟩ := hc
  have c0 : (-1) * g 1 ≤ 0 := d1 c0
  have c1 : 1 * g 1 + (-1) * g 3 ≤ (-1) := d2 c1
  have c2 : 1 * g 0 + (-1) * g 2 ≤ (-1) := d2 c2
  obtain ⟨a0, _⟩ := ha
  have n913 : τ 913 = none := a0
  obtain ⟨⟨h_p1, h_p2, h_td⟩, k_b, k_q, k_c, k_d, k_l, k_k, k_e, k_t, k_n, k_j⟩ := hS
  have k_k0 := k_k
  obtain ⟨h_k0, h_ks, h_kk, h_kl, h_kw, h_kd, h_kz⟩ := k_k0
  exact ⟨rfl, trivial, trivial, ⟨h_p1, h_p2, h_td⟩, k_b, k_q, k_c, k_d, k_l, ⟨h_k0, h_ks, (fun s K e0 e1 => by
      have e0 : g 0 = s := Option.some.inj (t939.symm.trans e0)
      subst e0
      have e1 : g 1 + 1 = K := Option.some.inj e1
      subst e1
      have h1 := h_kk _ _ t939 t910
      have ejx : jx = (g 1).toNat := by omega
      subst ejx
      refine ⟨by omega, fun i h2 h3 => ?_⟩
      by_cases e : (i : Int) = g 1
      · have ei : i = (g 1).toNat := by omega
        rw [ei]; omega
      · exact h1.2 i (by omega) h3), h_kl, fun _ _ _ _ _ _ _ e0 e1 e2 e3 e4 e5 e6 => no9 n913 e6, h_kd, h_kz⟩, k_e, k_t, k_n, k_j⟩
def ru_nf : Ru := ([(0, (939, (0, (0, 0)))), (0, (910, (0, (0, 0)))), (9, (202, (1, (1, 0)))), (5, (110, (134, (0, 0)))), (4, (0, (0, (1, 0))))], ([913, 914, 915], ([([(1, (-1))], 0), ([(1, 1), (3, (-1))], (-1)), ([(0, (-1)), (2, 1)], 0), ([(0, 1), (2, (-1))], 0)], (false, ([], ([], ([(914, some (4, 0)), (910, none)], none)))))))
theorem rk_nf : RuOk SGd ru_nf := by
  intro τ m g hi hc ha hS
  obtain ⟨i0, i1, i2, i3, i4, _⟩ := hi
  have t939 : τ 939 = some (g 0) := i0
  have t910 : τ 910 = some (g 1) := i1
  obtain ⟨jx, ux, vx⟩ : ∃ j : Nat, 1 * g 1 + 0 = (j : Int) ∧ g 2 = m 202 j := i2
  have xkc : g 3 = m 110 134 := i3
  have xone : g 4 = 1 := i4
  obtain ⟨c0, c1, c2, c3, _⟩ := hc
  have c0 : (-1) * g 1 ≤ 0 := d1 c0
  have c1 : 1 * g 1 + (-1) * g 3 ≤ (-1) := d2 c1
  have c2 : (-1) * g 0 + 1 * g 2 ≤ 0 := d2 c2
  have c3 : 1 * g 0 + (-1) * g 2 ≤ 0 := d2 c3
  obtain ⟨a0, a1, a2, _⟩ := ha
  have n913 : τ 913 = none := a0
  have n914 : τ 914 = none := a1
  have n915 : τ 915 = none := a2
  obtain ⟨⟨h_p1, h_p2, h_td⟩, k_b, k_q, k_c, k_d, k_l, k_k, k_e, k_t, k_n, k_j⟩ := hS
  have k_k0 := k_k
  obtain ⟨h_k0, h_ks, h_kk, h_kl, h_kw, h_kd, h_kz⟩ := k_k0
  exact ⟨rfl, trivial, trivial, ⟨h_p1, h_p2, h_td⟩, k_b, k_q, k_c, k_d, k_l, ⟨(fun La Lb A I e0 e1 e2 e3 => by
      have h1 := h_k0 _ _ _ _ e0 e1 e2 e3
      exact ⟨h1.1, h1.2.1, fun _ e5 _ => no9 e5 rfl⟩), h_ks, fun _ _ e0 e1 => no9 (o := none) rfl e1, h_kl, fun _ _ _ _ _ _ _ e0 e1 e2 e3 e4 e5 e6 => no9 (o := none) rfl e5, (fun La Lb A I s D e0 e1 e2 e3 e4 e5 => by
      have e4 : g 0 = s := Option.some.inj (t939.symm.trans e4)
      subst e4
      have e5 : g 4 + 0 = D := Option.some.inj e5
      subst e5
      have h1 := h_k0 _ _ _ _ e0 e1 e2 e3
      have ejx : jx = (g 1).toNat := by omega
      subst ejx
      have h2 := h1.2.2 n913 n914 n915
      have h3 := h2.1 (g 1).toNat (by omega)
      refine ⟨n915, en_same h2 (fun z => ⟨fun q => q.elim id (fun q => ?_), Or.inl⟩)⟩
      rw [q, ← (show g 2 = g 0 by omega), vx]; exact h3), h_kz⟩, k_e, k_t, k_n, k_j⟩
def ru_nd : Ru := ([(0, (930, (0, (0, 0)))), (0, (931, (0, (0, 0)))), (0, (936, (0, (0, 0)))), (0, (937, (0, (0, 0)))), (0, (938, (0, (0, 0)))), (0, (939, (0, (0, 0)))), (0, (914, (0, (0, 0)))), (0, (912, (0, (0, 0))))], ([910, 913], ([], (false, ([], ([], ([(938, some (4, 1)), (939, none), (914, none), (912, none)], none)))))))
theorem rk_nd : RuOk SGd ru_nd := by
  intro τ m g hi hc ha hS
  obtain ⟨i0, i1, i2, i3, i4, i5, i6, i7, _⟩ := hi
  have t930 : τ 930 = some (g 0) := i0
  have t931 : τ 931 = some (g 1) := i1
  have t936 : τ 936 = some (g 2) := i2
  have t937 : τ 937 = some (g 3) := i3
  have t938 : τ 938 = some (g 4) := i4
  have t939 : τ 939 = some (g 5) := i5
  have t914 : τ 914 = some (g 6) := i6
  have t912 : τ 912 = some (g 7) := i7
  obtain ⟨a0, a1, _⟩ := ha
  have n910 : τ 910 = none := a0
  have n913 : τ 913 = none := a1
  obtain ⟨⟨h_p1, h_p2, h_td⟩, k_b, k_q, k_c, k_d, k_l, k_k, k_e, k_t, k_n, k_j⟩ := hS
  have k_k0 := k_k
  obtain ⟨h_k0, h_ks, h_kk, h_kl, h_kw, h_kd, h_kz⟩ := k_k0
  exact ⟨rfl, trivial, trivial, ⟨h_p1, h_p2, h_td⟩, k_b, k_q, k_c, k_d, k_l, ⟨(fun La Lb A I e0 e1 e2 e3 => by
      have e0 : g 0 = La := Option.some.inj (t930.symm.trans e0)
      subst e0
      have e1 : g 1 = Lb := Option.some.inj (t931.symm.trans e1)
      subst e1
      have e2 : g 3 = A := Option.some.inj (t937.symm.trans e2)
      subst e2
      have e3 : g 4 + 1 = I := Option.some.inj e3
      subst e3
      have h1 := h_k0 _ _ _ _ t930 t931 t937 t938
      have h2 := h_kd _ _ _ _ _ _ t930 t931 t937 t938 t939 t914
      have h3 := h_kl _ _ _ _ _ _ t930 t931 t937 t938 t939 t912
      refine ⟨by omega, h1.2.1, fun _ _ _ => en_same h2.2 (fun s => ?_)⟩
      rw [ts_one (by omega) (by omega) h3.2.1 s, h3.2.2]), fun _ e0 => no9 (o := none) rfl e0, fun _ _ e0 e1 => no9 (o := none) rfl e0, fun _ _ _ _ _ _ e0 e1 e2 e3 e4 e5 => no9 (o := none) rfl e4, fun _ _ _ _ _ _ _ e0 e1 e2 e3 e4 e5 e6 => no9 (o := none) rfl e4, fun _ _ _ _ _ _ e0 e1 e2 e3 e4 e5 => no9 (o := none) rfl e4, h_kz⟩, k_e, k_t, k_n, k_j⟩
def ru_ndx : Ru := ([(0, (930, (0, (0, 0)))), (0, (931, (0, (0, 0)))), (0, (936, (0, (0, 0)))), (0, (937, (0, (0, 0)))), (0, (938, (0, (0, 0)))), (0, (939, (0, (0, 0)))), (0, (914, (0, (0, 0))))], ([910, 912, 913, 915], ([([(3, 1)], 4), ([(3, (-1))], (-4)), ([(4, 1)], 0), ([(4, (-1))], 0)], (false, ([], ([], ([(915, some (5, 0)), (939, none), (914, none)], none)))))))
theorem rk_ndx : RuOk SGd ru_ndx := by
  intro τ m g hi hc ha hS
  obtain ⟨i0, i1, i2, i3, i4, i5, i6, _⟩ := hi
  have t930 : τ 930 = some (g 0) := i0
  have t931 : τ 931 = some (g 1) := i1
  have t936 : τ 936 = some (g 2) := i2
  have t937 : τ 937 = some (g 3) := i3
  have t938 : τ 938 = some (g 4) := i4
  have t939 : τ 939 = some (g 5) := i5
  have t914 : τ 914 = some (g 6) := i6
  obtain ⟨c0, c1, c2, c3, _⟩ := hc
  have c0 : 1 * g 3 ≤ 4 := d1 c0
  have c1 : (-1) * g 3 ≤ (-4) := d1 c1
  have c2 : 1 * g 4 ≤ 0 := d1 c2
  have c3 : (-1) * g 4 ≤ 0 := d1 c3
  obtain ⟨a0, a1, a2, a3, _⟩ := ha
  have n910 : τ 910 = none := a0
  have n912 : τ 912 = none := a1
  have n913 : τ 913 = none := a2
  have n915 : τ 915 = none := a3
  obtain ⟨⟨h_p1, h_p2, h_td⟩, k_b, k_q, k_c, k_d, k_l, k_k, k_e, k_t, k_n, k_j⟩ := hS
  have k_k0 := k_k
  obtain ⟨h_k0, h_ks, h_kk, h_kl, h_kw, h_kd, h_kz⟩ := k_k0
  exact ⟨rfl, trivial, trivial, ⟨h_p1, h_p2, h_td⟩, k_b, k_q, k_c, k_d, k_l, ⟨(fun La Lb A I e0 e1 e2 e3 => by
      have e0 : g 0 = La := Option.some.inj (t930.symm.trans e0)
      subst e0
      have e1 : g 1 = Lb := Option.some.inj (t931.symm.trans e1)
      subst e1
      have e2 : g 3 = A := Option.some.inj (t937.symm.trans e2)
      subst e2
      have e3 : g 4 = I := Option.some.inj (t938.symm.trans e3)
      subst e3
      have h1 := h_k0 _ _ _ _ t930 t931 t937 t938
      exact ⟨h1.1, h1.2.1, fun _ _ e6 => no9 e6 rfl⟩), fun _ e0 => no9 (o := none) rfl e0, fun _ _ e0 e1 => no9 (o := none) rfl e0, fun _ _ _ _ _ _ e0 e1 e2 e3 e4 e5 => no9 (o := none) rfl e4, fun _ _ _ _ _ _ _ e0 e1 e2 e3 e4 e5 e6 => no9 (o := none) rfl e4, fun _ _ _ _ _ _ e0 e1 e2 e3 e4 e5 => no9 (o := none) rfl e4, (fun La Lb s e0 e1 e2 => by
      have e0 : g 0 = La := Option.some.inj (t930.symm.trans e0)
      subst e0
      have e1 : g 1 = Lb := Option.some.inj (t931.symm.trans e1)
      subst e1
      have e2 : g 5 + 0 = s := Option.some.inj e2
      subst e2
      have h1 := h_k0 _ _ _ _ t930 t931 t937 t938
      have h2 := h_kd _ _ _ _ _ _ t930 t931 t937 t938 t939 t914
      have h3 := h_ks _ t939
      have ea : g 3 = 4 := by omega
      have ei : g 4 = 0 := by omega
      have ew : g 5 + 0 = g 5 := by omega
      rw [ea, ei] at h2
      rw [ew]
      exact ⟨h3, h1.2.1, h2.2⟩)⟩, k_e, k_t, k_n, k_j⟩
def ru_kbd : Ru := ([(0, (930, (0, (0, 0)))), (0, (931, (0, (0, 0)))), (0, (936, (0, (0, 0)))), (0, (937, (0, (0, 0)))), (0, (938, (0, (0, 0)))), (5, (110, (134, (0, 0))))], ([913, 914, 915], ([], (false, ([([(5, 1)], 160), ([(5, (-1))], 0)], ([], ([], none)))))))
theorem rk_kbd : RuOk SGd ru_kbd := by
  intro τ m g hi hc ha hS
  obtain ⟨i0, i1, i2, i3, i4, i5, _⟩ := hi
  have t930 : τ 930 = some (g 0) := i0
  have t931 : τ 931 = some (g 1) := i1
  have t936 : τ 936 = some (g 2) := i2
  have t937 : τ 937 = some (g 3) := i3
  have t938 : τ 938 = some (g 4) := i4
  have xkc : g 5 = m 110 134 := i5
  obtain ⟨a0, a1, a2, _⟩ := ha
  have n913 : τ 913 = none := a0
  have n914 : τ 914 = none := a1
  have n915 : τ 915 = none := a2
  obtain ⟨⟨h_p1, h_p2, h_td⟩, k_b, k_q, k_c, k_d, k_l, k_k, k_e, k_t, k_n, k_j⟩ := hS
  have k_k0 := k_k
  obtain ⟨h_k0, h_ks, h_kk, h_kl, h_kw, h_kd, h_kz⟩ := k_k0
  have h1 := h_k0 _ _ _ _ t930 t931 t937 t938
  have hc := en_card (h1.2.2 n913 n914 n915)
  exact ⟨rfl, ⟨f1 (by omega), f1 (by omega), trivial⟩, trivial, ⟨h_p1, h_p2, h_td⟩, k_b, k_q, k_c, k_d, k_l, k_k, k_e, k_t, k_n, k_j⟩
def ru_m0 : Ru := ([(1, (1, (0, (0, 0)))), (1, (2, (0, (0, 0)))), (5, (110, (134, (0, 0)))), (4, (0, (0, (0, 0))))], ([940, 941, 942, 943, 944, 945, 946, 947, 948, 949, 950, 951, 952, 953, 954, 955, 956, 957, 958, 959, 960, 961, 962, 963, 964, 965, 966, 967, 968, 969], ([([(0, 1)], 0), ([(0, (-1))], 0), ([(1, 1), (2, (-1))], 0), ([(1, (-1)), (2, 1)], 0), ([(2, (-1))], 0)], (false, ([], ([], ([(940, some (1, 0)), (941, some (0, 0)), (942, some (3, 0)), (943, some (3, 0))], none)))))))
theorem rk_m0 : RuOk SGd ru_m0 := by
  intro τ m g hi hc ha hS
  obtain ⟨i0, i1, i2, i3, _⟩ := hi
  have xkc : g 2 = m 110 134 := i2
  have xzero : g 3 = 0 := i3
  obtain ⟨c0, c1, c2, c3, c4, _⟩ := hc
  have c0 : 1 * g 0 ≤ 0 := d1 c0
  have c1 : (-1) * g 0 ≤ 0 := d1 c1
  have c2 : 1 * g 1 + (-1) * g 2 ≤ 0 := d2 c2
  have c3 : (-1) * g 1 + 1 * g 2 ≤ 0 := d2 c3
  have c4 : (-1) * g 2 ≤ 0 := d1 c4
  obtain ⟨a0, a1, a2, a3, a4, a5, a6, a7, a8, a9, a10, a11, a12, a13, a14, a15, a16, a17, a18, a19, a20, a21, a22, a23, a24, a25, a26, a27, a28, a29, _⟩ := ha
  have n940 : τ 940 = none := a0
  have n941 : τ 941 = none := a1
  have n942 : τ 942 = none := a2
  have n943 : τ 943 = none := a3
  have n944 : τ 944 = none := a4
  have n945 : τ 945 = none := a5
  have n946 : τ 946 = none := a6
  have n947 : τ 947 = none := a7
  have n948 : τ 948 = none := a8
  have n949 : τ 949 = none := a9
  have n950 : τ 950 = none := a10
  have n951 : τ 951 = none := a11
  have n952 : τ 952 = none := a12
  have n953 : τ 953 = none := a13
  have n954 : τ 954 = none := a14
  have n955 : τ 955 = none := a15
  have n956 : τ 956 = none := a16
  have n957 : τ 957 = none := a17
  have n958 : τ 958 = none := a18
  have n959 : τ 959 = none := a19
  have n960 : τ 960 = none := a20
  have n961 : τ 961 = none := a21
  have n962 : τ 962 = none := a22
  have n963 : τ 963 = none := a23
  have n964 : τ 964 = none := a24
  have n965 : τ 965 = none := a25
  have n966 : τ 966 = none := a26
  have n967 : τ 967 = none := a27
  have n968 : τ 968 = none := a28
  have n969 : τ 969 = none := a29
  obtain ⟨⟨h_p1, h_p2, h_td⟩, k_b, k_q, k_c, k_d, k_l, k_k, k_e, k_t, k_n, k_j⟩ := hS
  have k_e0 := k_e
  obtain ⟨h_en, h_ef, h_ew, h_er, h_ep, h_ez, h_es, h_ed, h_pw, h_pv, h_eb, h_ei, h_ek, h_rr⟩ := k_e0
  exact ⟨rfl, trivial, trivial, ⟨h_p1, h_p2, h_td⟩, k_b, k_q, k_c, k_d, k_l, k_k, ⟨(fun N9 s e0 e1 => by
      have e0 : g 1 + 0 = N9 := Option.some.inj e0
      subst e0
      have e1 : g 0 + 0 = s := Option.some.inj e1
      subst e1
      refine ⟨by omega, ?_⟩
      split <;> omega), (fun N9 s I J e0 e1 e2 e3 => by
      have e0 : g 1 + 0 = N9 := Option.some.inj e0
      subst e0
      have e1 : g 0 + 0 = s := Option.some.inj e1
      subst e1
      have e2 : g 3 + 0 = I := Option.some.inj e2
      subst e2
      have e3 : g 3 + 0 = J := Option.some.inj e3
      subst e3
      exact ⟨by omega, fun i c h1 h2 => by omega⟩), fun _ _ _ e0 e1 e2 => no9 n944 e2, fun _ _ _ _ e0 e1 e2 e3 => no9 n945 e2, fun _ _ _ _ _ e0 e1 e2 e3 e4 => no9 n945 e2, fun _ _ _ _ _ _ e0 e1 e2 e3 e4 e5 => no9 n945 e2, fun _ _ _ _ _ _ _ e0 e1 e2 e3 e4 e5 e6 => no9 n945 e2, fun _ _ _ _ _ e0 e1 e2 e3 e4 => no9 n945 e2, h_pw, h_pv, fun _ _ _ _ _ _ e0 e1 e2 e3 e4 e5 => no9 n945 e2, fun _ _ _ _ _ _ _ e0 e1 e2 e3 e4 e5 e6 => no9 n945 e2, fun _ _ _ _ _ _ _ _ _ e0 e1 e2 e3 e4 e5 e6 e7 e8 => no9 n945 e2, h_rr⟩, k_t, k_n, k_j⟩
def ru_m1 : Ru := ([(1, (1, (0, (0, 0)))), (1, (2, (0, (0, 0)))), (5, (110, (134, (0, 0)))), (4, (0, (0, (0, 0))))], ([940, 941, 942, 943, 944, 945, 946, 947, 948, 949, 950, 951, 952, 953, 954, 955, 956, 957, 958, 959, 960, 961, 962, 963, 964, 965, 966, 967, 968, 969], ([([(0, (-1))], (-1)), ([(0, 1)], 1048575), ([(1, 1), (2, (-1))], 1), ([(1, (-1)), (2, 1)], (-1)), ([(2, (-1))], 0)], (false, ([], ([], ([(940, some (1, 0)), (941, some (0, 0)), (942, some (3, 0)), (943, some (3, 0))], none)))))))
theorem rk_m1 : RuOk SGd ru_m1 := by
  intro τ m g hi hc ha hS
  obtain ⟨i0, i1, i2, i3, _⟩ := hi
  have xkc : g 2 = m 110 134 := i2
  have xzero : g 3 = 0 := i3
  obtain ⟨c0, c1, c2, c3, c4, _⟩ := hc
  have c0 : (-1) * g 0 ≤ (-1) := d1 c0
  have c1 : 1 * g 0 ≤ 1048575 := d1 c1
  have c2 : 1 * g 1 + (-1) * g 2 ≤ 1 := d2 c2
  have c3 : (-1) * g 1 + 1 * g 2 ≤ (-1) := d2 c3
  have c4 : (-1) * g 2 ≤ 0 := d1 c4
  obtain ⟨a0, a1, a2, a3, a4, a5, a6, a7, a8, a9, a10, a11, a12, a13, a14, a15, a16, a17, a18, a19, a20, a21, a22, a23, a24, a25, a26, a27, a28, a29, _⟩ := ha
  have n940 : τ 940 = none := a0
  have n941 : τ 941 = none := a1
  have n942 : τ 942 = none := a2
  have n943 : τ 943 = none := a3
  have n944 : τ 944 = none := a4
  have n945 : τ 945 = none := a5
  have n946 : τ 946 = none := a6
  have n947 : τ 947 = none := a7
  have n948 : τ 948 = none := a8
  have n949 : τ 949 = none := a9
  have n950 : τ 950 = none := a10
  have n951 : τ 951 = none := a11
  have n952 : τ 952 = none := a12
  have n953 : τ 953 = none := a13
  have n954 : τ 954 = none := a14
  have n955 : τ 955 = none := a15
  have n956 : τ 956 = none := a16
  have n957 : τ 957 = none := a17
  have n958 : τ 958 = none := a18
  have n959 : τ 959 = none := a19
  have n960 : τ 960 = none := a20
  have n961 : τ 961 = none := a21
  have n962 : τ 962 = none := a22
  have n963 : τ 963 = none := a23
  have n964 : τ 964 = none := a24
  have n965 : τ 965 = none := a25
  have n966 : τ 966 = none := a26
  have n967 : τ 967 = none := a27
  have n968 : τ 968 = none := a28
  have n969 : τ 969 = none := a29
  obtain ⟨⟨h_p1, h_p2, h_td⟩, k_b, k_q, k_c, k_d, k_l, k_k, k_e, k_t, k_n, k_j⟩ := hS
  have k_e0 := k_e
  obtain ⟨h_en, h_ef, h_ew, h_er, h_ep, h_ez, h_es, h_ed, h_pw, h_pv, h_eb, h_ei, h_ek, h_rr⟩ := k_e0
  exact ⟨rfl, trivial, trivial, ⟨h_p1, h_p2, h_td⟩, k_b, k_q, k_c, k_d, k_l, k_k, ⟨(fun N9 s e0 e1 => by
      have e0 : g 1 + 0 = N9 := Option.some.inj e0
      subst e0
      have e1 : g 0 + 0 = s := Option.some.inj e1
      subst e1
      refine ⟨by omega, ?_⟩
      split <;> omega), (fun N9 s I J e0 e1 e2 e3 => by
      have e0 : g 1 + 0 = N9 := Option.some.inj e0
      subst e0
      have e1 : g 0 + 0 = s := Option.some.inj e1
      subst e1
      have e2 : g 3 + 0 = I := Option.some.inj e2
      subst e2
      have e3 : g 3 + 0 = J := Option.some.inj e3
      subst e3
      exact ⟨by omega, fun i c h1 h2 => by omega⟩), fun _ _ _ e0 e1 e2 => no9 n944 e2, fun _ _ _ _ e0 e1 e2 e3 => no9 n945 e2, fun _ _ _ _ _ e0 e1 e2 e3 e4 => no9 n945 e2, fun _ _ _ _ _ _ e0 e1 e2 e3 e4 e5 => no9 n945 e2, fun _ _ _ _ _ _ _ e0 e1 e2 e3 e4 e5 e6 => no9 n945 e2, fun _ _ _ _ _ e0 e1 e2 e3 e4 => no9 n945 e2, h_pw, h_pv, fun _ _ _ _ _ _ e0 e1 e2 e3 e4 e5 => no9 n945 e2, fun _ _ _ _ _ _ _ e0 e1 e2 e3 e4 e5 e6 => no9 n945 e2, fun _ _ _ _ _ _ _ _ _ e0 e1 e2 e3 e4 e5 e6 e7 e8 => no9 n945 e2, h_rr⟩, k_t, k_n, k_j⟩
def ru_mw1 : Ru := ([(0, (940, (0, (0, 0)))), (0, (941, (0, (0, 0)))), (0, (942, (0, (0, 0)))), (0, (943, (0, (0, 0)))), (5, (110, (134, (0, 0)))), (1, (4, (0, (0, 0)))), (9, (202, (2, (1, 0))))], ([944], ([([(2, (-1))], 0), ([(2, 1), (4, (-1))], (-1)), ([(5, 1), (6, (-1))], 0), ([(5, (-1)), (6, 1)], 0)], (false, ([], ([], ([(944, some (5, 0))], none)))))))
theorem rk_mw1 : RuOk SGd ru_mw1 := by
  intro τ m g hi hc ha hS
  obtain ⟨i0, i1, i2, i3, i4, i5, i6, _⟩ := hi
  have t940 : τ 940 = some (g 0) := i0
  have t941 : τ 941 = some (g 1) := i1
  have t942 : τ 942 = some (g 2) := i2
  have t943 : τ 943 = some (g 3) := i3
  have xkc : g 4 = m 110 134 := i4
  obtain ⟨jx, ux, vx⟩ : ∃ j : Nat, 1 * g 2 + 0 = (j : Int) ∧ g 6 = m 202 j := i6
  obtain ⟨c0, c1, c2, c3, _⟩ := hc
  have c0 : (-1) * g 2 ≤ 0 := d1 c0
  have c1 : 1 * g 2 + (-1) * g 4 ≤ (-1) := d2 c1
  have c2 : 1 * g 5 + (-1) * g 6 ≤ 0 := d2 c2
  have c3 : (-1) * g 5 + 1 * g 6 ≤ 0 := d2 c3
  obtain ⟨a0, _⟩ := ha
  have n944 : τ 944 = none := a0
  obtain ⟨⟨h_p1, h_p2, h_td⟩, k_b, k_q, k_c, k_d, k_l, k_k, k_e, k_t, k_n, k_j⟩ := hS
  have k_e0 := k_e
  obtain ⟨h_en, h_ef, h_ew, h_er, h_ep, h_ez, h_es, h_ed, h_pw, h_pv, h_eb, h_ei, h_ek, h_rr⟩ := k_e0
  exact ⟨rfl, trivial, trivial, ⟨h_p1, h_p2, h_td⟩, k_b, k_q, k_c, k_d, k_l, k_k, ⟨h_en, h_ef, (fun s I w e0 e1 e2 => by
      have e0 : g 1 = s := Option.some.inj (t941.symm.trans e0)
      subst e0
      have e1 : g 2 = I := Option.some.inj (t942.symm.trans e1)
      subst e1
      have e2 : g 5 + 0 = w := Option.some.inj e2
      subst e2
      have ejx : jx = (g 2).toNat := by omega
      subst ejx
      unfold fmG
      rw [if_pos (by omega)]
      have ew : g 5 + 0 = m 202 (g 2).toNat := by omega
      rw [ew]), h_er, h_ep, h_ez, h_es, h_ed, h_pw, h_pv, h_eb, h_ei, h_ek, h_rr⟩, k_t, k_n, k_j⟩
def ru_mw2 : Ru := ([(0, (940, (0, (0, 0)))), (0, (941, (0, (0, 0)))), (0, (942, (0, (0, 0)))), (0, (943, (0, (0, 0)))), (5, (110, (134, (0, 0)))), (1, (4, (0, (0, 0))))], ([944], ([([(2, (-1)), (4, 1)], 0), ([(1, (-1)), (5, 1)], 0), ([(1, 1), (5, (-1))], 0)], (false, ([], ([], ([(944, some (5, 0))], none)))))))
theorem rk_mw2 : RuOk SGd ru_mw2 := by
  intro τ m g hi hc ha hS
  obtain ⟨i0, i1, i2, i3, i4, i5, _⟩ := hi
  have t940 : τ 940 = some (g 0) := i0
  have t941 : τ 941 = some (g 1) := i1
  have t942 : τ 942 = some (g 2) := i2
  have t943 : τ 943 = some (g 3) := i3
  have xkc : g 4 = m 110 134 := i4
  obtain ⟨c0, c1, c2, _⟩ := hc
  have c0 : (-1) * g 2 + 1 * g 4 ≤ 0 := d2 c0
  have c1 : (-1) * g 1 + 1 * g 5 ≤ 0 := d2 c1
  have c2 : 1 * g 1 + (-1) * g 5 ≤ 0 := d2 c2
  obtain ⟨a0, _⟩ := ha
  have n944 : τ 944 = none := a0
  obtain ⟨⟨h_p1, h_p2, h_td⟩, k_b, k_q, k_c, k_d, k_l, k_k, k_e, k_t, k_n, k_j⟩ := hS
  have k_e0 := k_e
  obtain ⟨h_en, h_ef, h_ew, h_er, h_ep, h_ez, h_es, h_ed, h_pw, h_pv, h_eb, h_ei, h_ek, h_rr⟩ := k_e0
  exact ⟨rfl, trivial, trivial, ⟨h_p1, h_p2, h_td⟩, k_b, k_q, k_c, k_d, k_l, k_k, ⟨h_en, h_ef, (fun s I w e0 e1 e2 => by
      have e0 : g 1 = s := Option.some.inj (t941.symm.trans e0)
      subst e0
      have e1 : g 2 = I := Option.some.inj (t942.symm.trans e1)
      subst e1
      have e2 : g 5 + 0 = w := Option.some.inj e2
      subst e2
      have h1 := h_ef _ _ _ _ t940 t941 t942 t943
      unfold fmG
      rw [if_neg (by omega)]
      have ew : g 5 + 0 = g 1 := by omega
      rw [ew]), h_er, h_ep, h_ez, h_es, h_ed, h_pw, h_pv, h_eb, h_ei, h_ek, h_rr⟩, k_t, k_n, k_j⟩
def ru_mi : Ru := ([(0, (940, (0, (0, 0)))), (0, (941, (0, (0, 0)))), (0, (942, (0, (0, 0)))), (0, (943, (0, (0, 0)))), (0, (944, (0, (0, 0)))), (4, (0, (0, (0, 0))))], ([], ([([(3, (-1))], (-20))], (false, ([], ([], ([(942, some (2, 1)), (943, some (5, 0)), (944, none)], none)))))))
theorem rk_mi : RuOk SGd ru_mi := by
  intro τ m g hi hc ha hS
  obtain ⟨i0, i1, i2, i3, i4, i5, _⟩ := hi
  have t940 : τ 940 = some (g 0) := i0
  have t941 : τ 941 = some (g 1) := i1
  have t942 : τ 942 = some (g 2) := i2
  have t943 : τ 943 = some (g 3) := i3
  have t944 : τ 944 = some (g 4) := i4
  have xzero : g 5 = 0 := i5
  obtain ⟨c0, _⟩ := hc
  have c0 : (-1) * g 3 ≤ (-20) := d1 c0
  obtain ⟨⟨h_p1, h_p2, h_td⟩, k_b, k_q, k_c, k_d, k_l, k_k, k_e, k_t, k_n, k_j⟩ := hS
  have k_e0 := k_e
  obtain ⟨h_en, h_ef, h_ew, h_er, h_ep, h_ez, h_es, h_ed, h_pw, h_pv, h_eb, h_ei, h_ek, h_rr⟩ := k_e0
  exact ⟨rfl, trivial, trivial, ⟨h_p1, h_p2, h_td⟩, k_b, k_q, k_c, k_d, k_l, k_k, ⟨h_en, (fun N9 s I J e0 e1 e2 e3 => by
      have e0 : g 0 = N9 := Option.some.inj (t940.symm.trans e0)
      subst e0
      have e1 : g 1 = s := Option.some.inj (t941.symm.trans e1)
      subst e1
      have e2 : g 2 + 1 = I := Option.some.inj e2
      subst e2
      have e3 : g 5 + 0 = J := Option.some.inj e3
      subst e3
      have h1 := h_ef _ _ _ _ t940 t941 t942 t943
      exact ⟨by omega, fun i c h2 h3 => h1.2 i c h2 (by omega)⟩), fun _ _ _ e0 e1 e2 => no9 (o := none) rfl e2, h_er, h_ep, h_ez, h_es, h_ed, h_pw, h_pv, h_eb, h_ei, h_ek, h_rr⟩, k_t, k_n, k_j⟩
def ru_e0 : Ru := ([(0, (940, (0, (0, 0)))), (0, (941, (0, (0, 0)))), (0, (942, (0, (0, 0)))), (0, (943, (0, (0, 0)))), (4, (0, (0, (0, 0))))], ([944, 945, 946, 947, 948, 949, 952, 959, 960, 961], ([([(0, 1), (2, (-1))], 0), ([(3, 1)], 0), ([(3, (-1))], 0)], (false, ([], ([], ([(945, some (4, 0)), (946, some (4, 0)), (942, none), (943, none)], none)))))))
theorem rk_e0 : RuOk SGd ru_e0 := by
  intro τ m g hi hc ha hS
  obtain ⟨i0, i1, i2, i3, i4, _⟩ := hi
  have t940 : τ 940 = some (g 0) := i0
  have t941 : τ 941 = some (g 1) := i1
  have t942 : τ 942 = some (g 2) := i2
  have t943 : τ 943 = some (g 3) := i3
  have xzero : g 4 = 0 := i4
  obtain ⟨c0, c1, c2, _⟩ := hc
  have c0 : 1 * g 0 + (-1) * g 2 ≤ 0 := d2 c0
  have c1 : 1 * g 3 ≤ 0 := d1 c1
  have c2 : (-1) * g 3 ≤ 0 := d1 c2
  obtain ⟨a0, a1, a2, a3, a4, a5, a6, a7, a8, a9, _⟩ := ha
  have n944 : τ 944 = none := a0
  have n945 : τ 945 = none := a1
  have n946 : τ 946 = none := a2
  have n947 : τ 947 = none := a3
  have n948 : τ 948 = none := a4
  have n949 : τ 949 = none := a5
  have n952 : τ 952 = none := a6
  have n959 : τ 959 = none := a7
  have n960 : τ 960 = none := a8
  have n961 : τ 961 = none := a9
  obtain ⟨⟨h_p1, h_p2, h_td⟩, k_b, k_q, k_c, k_d, k_l, k_k, k_e, k_t, k_n, k_j⟩ := hS
  have k_e0 := k_e
  obtain ⟨h_en, h_ef, h_ew, h_er, h_ep, h_ez, h_es, h_ed, h_pw, h_pv, h_eb, h_ei, h_ek, h_rr⟩ := k_e0
  exact ⟨rfl, trivial, trivial, ⟨h_p1, h_p2, h_td⟩, k_b, k_q, k_c, k_d, k_l, k_k, ⟨h_en, fun _ _ _ _ e0 e1 e2 e3 => no9 (o := none) rfl e2, fun _ _ _ e0 e1 e2 => no9 (o := none) rfl e1, (fun N9 s r j e0 e1 e2 e3 => by
      have e0 : g 0 = N9 := Option.some.inj (t940.symm.trans e0)
      subst e0
      have e1 : g 1 = s := Option.some.inj (t941.symm.trans e1)
      subst e1
      have e2 : g 4 + 0 = r := Option.some.inj e2
      subst e2
      have e3 : g 4 + 0 = j := Option.some.inj e3
      subst e3
      have h1 := h_ef _ _ _ _ t940 t941 t942 t943
      have h2 := h_en _ _ t940 t941
      have z : (g 4 + 0).toNat = 0 := by omega
      have hM : ∀ i c, i < (g 0).toNat → c < 20 → MmG m i c = fmG m (g 1) i c := fun i c hi hc => by
        unfold MmG; rw [if_pos hc]; exact h1.2 i c hc (by omega)
      rw [z]
      refine ⟨by split at h2 <;> omega, fun _ _ => ⟨EL_init hM, fun i c hi hc => ?_⟩⟩
      rw [hM i c hi hc]
      rcases bv01 (if (i : Int) < m 110 134 then m 202 i else g 1) c with e | e
      · show 0 ≤ bvG _ c ∧ bvG _ c < pG; rw [e]; decide
      · show 0 ≤ bvG _ c ∧ bvG _ c < pG; rw [e]; decide), fun _ _ _ _ _ e0 e1 e2 e3 e4 => no9 n947 e4, fun _ _ _ _ _ _ e0 e1 e2 e3 e4 e5 => no9 n947 e4, fun _ _ _ _ _ _ _ e0 e1 e2 e3 e4 e5 e6 => no9 n947 e4, fun _ _ _ _ _ e0 e1 e2 e3 e4 => no9 n952 e4, h_pw, h_pv, fun _ _ _ _ _ _ e0 e1 e2 e3 e4 e5 => no9 n952 e4, fun _ _ _ _ _ _ _ e0 e1 e2 e3 e4 e5 e6 => no9 n952 e4, fun _ _ _ _ _ _ _ _ _ e0 e1 e2 e3 e4 e5 e6 e7 e8 => no9 n952 e4, h_rr⟩, k_t, k_n, k_j⟩
def ru_ep : Ru := ([(0, (940, (0, (0, 0)))), (0, (941, (0, (0, 0)))), (0, (945, (0, (0, 0)))), (0, (946, (0, (0, 0))))], ([947, 948, 949, 952, 959, 960], ([], (false, ([], ([], ([(947, some (2, 0))], none)))))))
theorem rk_ep : RuOk SGd ru_ep := by
  intro τ m g hi hc ha hS
  obtain ⟨i0, i1, i2, i3, _⟩ := hi
  have t940 : τ 940 = some (g 0) := i0
  have t941 : τ 941 = some (g 1) := i1
  have t945 : τ 945 = some (g 2) := i2
  have t946 : τ 946 = some (g 3) := i3
  obtain ⟨a0, a1, a2, a3, a4, a5, _⟩ := ha
  have n947 : τ 947 = none := a0
  have n948 : τ 948 = none := a1
  have n949 : τ 949 = none := a2
  have n952 : τ 952 = none := a3
  have n959 : τ 959 = none := a4
  have n960 : τ 960 = none := a5
  obtain ⟨⟨h_p1, h_p2, h_td⟩, k_b, k_q, k_c, k_d, k_l, k_k, k_e, k_t, k_n, k_j⟩ := hS
  have k_e0 := k_e
  obtain ⟨h_en, h_ef, h_ew, h_er, h_ep, h_ez, h_es, h_ed, h_pw, h_pv, h_eb, h_ei, h_ek, h_rr⟩ := k_e0
  exact ⟨rfl, trivial, trivial, ⟨h_p1, h_p2, h_td⟩, k_b, k_q, k_c, k_d, k_l, k_k, ⟨h_en, h_ef, h_ew, h_er, (fun N9 s r j p e0 e1 e2 e3 e4 => by
      have e0 : g 0 = N9 := Option.some.inj (t940.symm.trans e0)
      subst e0
      have e1 : g 1 = s := Option.some.inj (t941.symm.trans e1)
      subst e1
      have e2 : g 2 = r := Option.some.inj (t945.symm.trans e2)
      subst e2
      have e3 : g 3 = j := Option.some.inj (t946.symm.trans e3)
      subst e3
      have e4 : g 2 + 0 = p := Option.some.inj e4
      subst e4
      exact ⟨by omega, fun _ i h1 h2 h3 => by omega⟩), fun _ _ _ _ _ _ e0 e1 e2 e3 e4 e5 => no9 n948 e5, fun _ _ _ _ _ _ _ e0 e1 e2 e3 e4 e5 e6 => no9 n948 e5, h_ed, h_pw, h_pv, h_eb, h_ei, h_ek, h_rr⟩, k_t, k_n, k_j⟩
def ru_ebd : Ru := ([(0, (940, (0, (0, 0)))), (0, (941, (0, (0, 0)))), (0, (945, (0, (0, 0)))), (0, (946, (0, (0, 0)))), (0, (947, (0, (0, 0)))), (19, (203, (4, (20, 3))))], ([949, 961], ([([(4, (-1))], 0), ([(0, (-1)), (4, 1)], (-1)), ([(3, (-1))], 0), ([(3, 1)], 19)], (false, ([([(5, (-1))], 0), ([(5, 1)], 2147483646)], ([], ([], none)))))))
theorem rk_ebd : RuOk SGd ru_ebd := by
  intro τ m g hi hc ha hS
  obtain ⟨i0, i1, i2, i3, i4, i5, _⟩ := hi
  have t940 : τ 940 = some (g 0) := i0
  have t941 : τ 941 = some (g 1) := i1
  have t945 : τ 945 = some (g 2) := i2
  have t946 : τ 946 = some (g 3) := i3
  have t947 : τ 947 = some (g 4) := i4
  obtain ⟨jy, uy, vy⟩ : ∃ j : Nat, 20 * g 4 + g 3 = (j : Int) ∧ g 5 = m 203 j := i5
  obtain ⟨c0, c1, c2, c3, _⟩ := hc
  have c0 : (-1) * g 4 ≤ 0 := d1 c0
  have c1 : (-1) * g 0 + 1 * g 4 ≤ (-1) := d2 c1
  have c2 : (-1) * g 3 ≤ 0 := d1 c2
  have c3 : 1 * g 3 ≤ 19 := d1 c3
  obtain ⟨a0, a1, _⟩ := ha
  have n949 : τ 949 = none := a0
  have n961 : τ 961 = none := a1
  obtain ⟨⟨h_p1, h_p2, h_td⟩, k_b, k_q, k_c, k_d, k_l, k_k, k_e, k_t, k_n, k_j⟩ := hS
  have k_e0 := k_e
  obtain ⟨h_en, h_ef, h_ew, h_er, h_ep, h_ez, h_es, h_ed, h_pw, h_pv, h_eb, h_ei, h_ek, h_rr⟩ := k_e0
  have h9 := h_er _ _ _ _ t940 t941 t945 t946
  have ejy : jy = 20 * (g 4).toNat + (g 3).toNat := by omega
  subst ejy
  have hMy : MmG m (g 4).toNat (g 3).toNat = m 203 (20 * (g 4).toNat + (g 3).toNat) := by unfold MmG; rw [if_pos (by omega)]
  have hb := (h9.2 n949 n961).2 (g 4).toNat (g 3).toNat (by omega) (by omega)
  rw [hMy] at hb
  simp only [pG] at hb
  exact ⟨rfl, ⟨f1 (by omega), f1 (by omega), trivial⟩, trivial, ⟨h_p1, h_p2, h_td⟩, k_b, k_q, k_c, k_d, k_l, k_k, k_e, k_t, k_n, k_j⟩
def ru_ez : Ru := ([(0, (940, (0, (0, 0)))), (0, (941, (0, (0, 0)))), (0, (945, (0, (0, 0)))), (0, (946, (0, (0, 0)))), (0, (947, (0, (0, 0)))), (19, (203, (4, (20, 3))))], ([948, 949], ([([(4, (-1))], 0), ([(0, (-1)), (4, 1)], (-1)), ([(3, (-1))], 0), ([(3, 1)], 19), ([(5, 1)], 0), ([(5, (-1))], 0)], (false, ([], ([], ([(947, some (4, 1))], none)))))))
theorem rk_ez : RuOk SGd ru_ez := by
  intro τ m g hi hc ha hS
  obtain ⟨i0, i1, i2, i3, i4, i5, _⟩ := hi
  have t940 : τ 940 = some (g 0) := i0
  have t941 : τ 941 = some (g 1) := i1
  have t945 : τ 945 = some (g 2) := i2
  have t946 : τ 946 = some (g 3) := i3
  have t947 : τ 947 = some (g 4) := i4
  obtain ⟨jy, uy, vy⟩ : ∃ j : Nat, 20 * g 4 + g 3 = (j : Int) ∧ g 5 = m 203 j := i5
  obtain ⟨c0, c1, c2, c3, c4, c5, _⟩ := hc
  have c0 : (-1) * g 4 ≤ 0 := d1 c0
  have c1 : (-1) * g 0 + 1 * g 4 ≤ (-1) := d2 c1
  have c2 : (-1) * g 3 ≤ 0 := d1 c2
  have c3 : 1 * g 3 ≤ 19 := d1 c3
  have c4 : 1 * g 5 ≤ 0 := d1 c4
  have c5 : (-1) * g 5 ≤ 0 := d1 c5
  obtain ⟨a0, a1, _⟩ := ha
  have n948 : τ 948 = none := a0
  have n949 : τ 949 = none := a1
  obtain ⟨⟨h_p1, h_p2, h_td⟩, k_b, k_q, k_c, k_d, k_l, k_k, k_e, k_t, k_n, k_j⟩ := hS
  have k_e0 := k_e
  obtain ⟨h_en, h_ef, h_ew, h_er, h_ep, h_ez, h_es, h_ed, h_pw, h_pv, h_eb, h_ei, h_ek, h_rr⟩ := k_e0
  have ejy : jy = 20 * (g 4).toNat + (g 3).toNat := by omega
  subst ejy
  have hMy : MmG m (g 4).toNat (g 3).toNat = m 203 (20 * (g 4).toNat + (g 3).toNat) := by unfold MmG; rw [if_pos (by omega)]
  exact ⟨rfl, trivial, trivial, ⟨h_p1, h_p2, h_td⟩, k_b, k_q, k_c, k_d, k_l, k_k, ⟨h_en, h_ef, h_ew, h_er, (fun N9 s r j p e0 e1 e2 e3 e4 => by
      have e0 : g 0 = N9 := Option.some.inj (t940.symm.trans e0)
      subst e0
      have e1 : g 1 = s := Option.some.inj (t941.symm.trans e1)
      subst e1
      have e2 : g 2 = r := Option.some.inj (t945.symm.trans e2)
      subst e2
      have e3 : g 3 = j := Option.some.inj (t946.symm.trans e3)
      subst e3
      have e4 : g 4 + 1 = p := Option.some.inj e4
      subst e4
      have h1 := h_ep _ _ _ _ _ t940 t941 t945 t946 t947
      refine ⟨by omega, fun e9 i h2 h3 h4 => ?_⟩
      by_cases e : (i : Int) = g 4
      · have ei : i = (g 4).toNat := by omega
        rw [ei, hMy]; omega
      · exact h1.2 n949 i h2 h3 (by omega)), fun _ _ _ _ _ _ e0 e1 e2 e3 e4 e5 => no9 n948 e5, fun _ _ _ _ _ _ _ e0 e1 e2 e3 e4 e5 e6 => no9 n948 e5, h_ed, h_pw, h_pv, h_eb, h_ei, h_ek, h_rr⟩, k_t, k_n, k_j⟩
def ru_en : Ru := ([(0, (940, (0, (0, 0)))), (0, (941, (0, (0, 0)))), (0, (945, (0, (0, 0)))), (0, (946, (0, (0, 0)))), (0, (947, (0, (0, 0)))), (19, (203, (4, (20, 3)))), (4, (0, (0, (0, 0))))], ([948, 949, 950, 951, 961], ([([(4, (-1))], 0), ([(0, (-1)), (4, 1)], (-1)), ([(3, (-1))], 0), ([(3, 1)], 19), ([(5, (-1))], (-1))], (false, ([], ([], ([(948, some (6, 0)), (949, some (6, 0))], none)))))))
theorem rk_en : RuOk SGd ru_en := by
  intro τ m g hi hc ha hS
  obtain ⟨i0, i1, i2, i3, i4, i5, i6, _⟩ := hi
  have t940 : τ 940 = some (g 0) := i0
  have t941 : τ 941 = some (g 1) := i1
  have t945 : τ 945 = some (g 2) := i2
  have t946 : τ 946 = some (g 3) := i3
  have t947 : τ 947 = some (g 4) := i4
  obtain ⟨jy, uy, vy⟩ : ∃ j : Nat, 20 * g 4 + g 3 = (j : Int) ∧ g 5 = m 203 j := i5
  have xzero : g 6 = 0 := i6
  obtain ⟨c0, c1, c2, c3, c4, _⟩ := hc
  have c0 : (-1) * g 4 ≤ 0 := d1 c0
  have c1 : (-1) * g 0 + 1 * g 4 ≤ (-1) := d2 c1
  have c2 : (-1) * g 3 ≤ 0 := d1 c2
  have c3 : 1 * g 3 ≤ 19 := d1 c3
  have c4 : (-1) * g 5 ≤ (-1) := d1 c4
  obtain ⟨a0, a1, a2, a3, a4, _⟩ := ha
  have n948 : τ 948 = none := a0
  have n949 : τ 949 = none := a1
  have n950 : τ 950 = none := a2
  have n951 : τ 951 = none := a3
  have n961 : τ 961 = none := a4
  obtain ⟨⟨h_p1, h_p2, h_td⟩, k_b, k_q, k_c, k_d, k_l, k_k, k_e, k_t, k_n, k_j⟩ := hS
  have k_e0 := k_e
  obtain ⟨h_en, h_ef, h_ew, h_er, h_ep, h_ez, h_es, h_ed, h_pw, h_pv, h_eb, h_ei, h_ek, h_rr⟩ := k_e0
  have h9 := h_er _ _ _ _ t940 t941 t945 t946
  have ejy : jy = 20 * (g 4).toNat + (g 3).toNat := by omega
  subst ejy
  have hMy : MmG m (g 4).toNat (g 3).toNat = m 203 (20 * (g 4).toNat + (g 3).toNat) := by unfold MmG; rw [if_pos (by omega)]
  have hb9 := (h9.2 n949 n961).2 (g 4).toNat (g 3).toNat (by omega) (by omega)
  rw [hMy] at hb9
  simp only [pG] at hb9
  have hnd : ¬ pG ∣ m 203 (20 * (g 4).toNat + (g 3).toNat) := fun q => by
    have := dvd_small _ (by simp only [pG]; omega) (by simp only [pG]; omega) q
    omega
  exact ⟨rfl, trivial, trivial, ⟨h_p1, h_p2, h_td⟩, k_b, k_q, k_c, k_d, k_l, k_k, ⟨h_en, h_ef, h_ew, (fun N9 s r j e0 e1 e2 e3 => by
      have e0 : g 0 = N9 := Option.some.inj (t940.symm.trans e0)
      subst e0
      have e1 : g 1 = s := Option.some.inj (t941.symm.trans e1)
      subst e1
      have e2 : g 2 = r := Option.some.inj (t945.symm.trans e2)
      subst e2
      have e3 : g 3 = j := Option.some.inj (t946.symm.trans e3)
      subst e3
      exact ⟨h9.1, fun e8 _ => no9 e8 rfl⟩), (fun N9 s r j p e0 e1 e2 e3 e4 => by
      have e0 : g 0 = N9 := Option.some.inj (t940.symm.trans e0)
      subst e0
      have e1 : g 1 = s := Option.some.inj (t941.symm.trans e1)
      subst e1
      have e2 : g 2 = r := Option.some.inj (t945.symm.trans e2)
      subst e2
      have e3 : g 3 = j := Option.some.inj (t946.symm.trans e3)
      subst e3
      have e4 : g 4 = p := Option.some.inj (t947.symm.trans e4)
      subst e4
      have h1 := h_ep _ _ _ _ _ t940 t941 t945 t946 t947
      exact ⟨h1.1, fun e8 => no9 e8 rfl⟩), (fun N9 s r j p z9 e0 e1 e2 e3 e4 e5 => by
      have e0 : g 0 = N9 := Option.some.inj (t940.symm.trans e0)
      subst e0
      have e1 : g 1 = s := Option.some.inj (t941.symm.trans e1)
      subst e1
      have e2 : g 2 = r := Option.some.inj (t945.symm.trans e2)
      subst e2
      have e3 : g 3 = j := Option.some.inj (t946.symm.trans e3)
      subst e3
      have e4 : g 4 = p := Option.some.inj (t947.symm.trans e4)
      subst e4
      have e5 : g 6 + 0 = z9 := Option.some.inj e5
      subst e5
      exact ⟨by omega, by omega, fun e8 => no9 e8 rfl⟩), (fun N9 s r j p z9 k e0 e1 e2 e3 e4 e5 e6 => by
      have e0 : g 0 = N9 := Option.some.inj (t940.symm.trans e0)
      subst e0
      have e1 : g 1 = s := Option.some.inj (t941.symm.trans e1)
      subst e1
      have e2 : g 2 = r := Option.some.inj (t945.symm.trans e2)
      subst e2
      have e3 : g 3 = j := Option.some.inj (t946.symm.trans e3)
      subst e3
      have e4 : g 4 = p := Option.some.inj (t947.symm.trans e4)
      subst e4
      have e5 : g 6 + 0 = z9 := Option.some.inj e5
      subst e5
      have e6 : g 6 + 0 = k := Option.some.inj e6
      subst e6
      have z : (g 6 + 0).toNat = 0 := by omega
      refine ⟨by omega, ?_⟩
      show SwG m (τ 950) (τ 951) _ _ _ _ _ _
      rw [n950, n951]
      refine Or.inl ⟨rfl, ?_, fun v ev => no9 rfl ev⟩
      rw [z]
      exact SW_zero (h9.2 n949 n961) (by rw [hMy]; exact hnd)), h_ed, h_pw, h_pv, h_eb, h_ei, h_ek, h_rr⟩, k_t, k_n, k_j⟩
end
