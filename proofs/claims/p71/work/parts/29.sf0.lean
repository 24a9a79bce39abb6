noncomputable section
/-! ===== THE GUARD, 89: rules ===== -/
def ru_qset : Ru := ([(1, (1, (0, (0, 0)))), (9, (74, (0, (1, 0))))], ([871, 872, 873, 874, 875, 876, 877, 980, 880, 881, 882, 883, 884, 885, 886, 887, 888, 889, 890, 891, 892, 893, 894, 895, 896, 897, 898, 899, 905, 906, 907, 920, 921, 922, 923, 924, 925, 926, 927, 928, 929], ([([(0, (-1))], 0), ([(0, 1)], 3)], (false, ([], ([], ([(871, some (0, 0)), (872, some (0, 0)), (873, some (1, 0))], none)))))))
theorem rk_qset : RuOk SGd ru_qset := by
  intro τ m g hi hc ha hS
  obtain ⟨i0, i1, _⟩ := hi
  obtain ⟨jc, uc, vc⟩ : ∃ j : Nat, 1 * g 0 + 0 = (j : Int) ∧ g 1 = m 74 j := i1
  obtain ⟨c0, c1, _⟩ := hc
  have c0 : (-1) * g 0 ≤ 0 := d1 c0
  have c1 : 1 * g 0 ≤ 3 := d1 c1
  obtain ⟨a0, a1, a2, a3, a4, a5, a6, a7, a8, a9, a10, a11, a12, a13, a14, a15, a16, a17, a18, a19, a20, a21, a22, a23, a24, a25, a26, a27, a28, a29, a30, a31, a32, a33, a34, a35, a36, a37, a38, a39, a40, _⟩ := ha
  have n871 : τ 871 = none := a0
  have n872 : τ 872 = none := a1
  have n873 : τ 873 = none := a2
  have n874 : τ 874 = none := a3
  have n875 : τ 875 = none := a4
  have n876 : τ 876 = none := a5
  have n877 : τ 877 = none := a6
  have n980 : τ 980 = none := a7
  have n880 : τ 880 = none := a8
  have n881 : τ 881 = none := a9
  have n882 : τ 882 = none := a10
  have n883 : τ 883 = none := a11
  have n884 : τ 884 = none := a12
  have n885 : τ 885 = none := a13
  have n886 : τ 886 = none := a14
  have n887 : τ 887 = none := a15
  have n888 : τ 888 = none := a16
  have n889 : τ 889 = none := a17
  have n890 : τ 890 = none := a18
  have n891 : τ 891 = none := a19
  have n892 : τ 892 = none := a20
  have n893 : τ 893 = none := a21
  have n894 : τ 894 = none := a22
  have n895 : τ 895 = none := a23
  have n896 : τ 896 = none := a24
  have n897 : τ 897 = none := a25
  have n898 : τ 898 = none := a26
  have n899 : τ 899 = none := a27
  have n905 : τ 905 = none := a28
  have n906 : τ 906 = none := a29
  have n907 : τ 907 = none := a30
  have n920 : τ 920 = none := a31
  have n921 : τ 921 = none := a32
  have n922 : τ 922 = none := a33
  have n923 : τ 923 = none := a34
  have n924 : τ 924 = none := a35
  have n925 : τ 925 = none := a36
  have n926 : τ 926 = none := a37
  have n927 : τ 927 = none := a38
  have n928 : τ 928 = none := a39
  have n929 : τ 929 = none := a40
  obtain ⟨⟨h_p1, h_p2, h_td⟩, k_b, k_q, k_c, k_d, k_l, k_k, k_e, k_t, k_n, k_j⟩ := hS
  have k_q0 := k_q
  obtain ⟨h_vs, h_qc, h_qr, h_qk, h_qn, h_ub⟩ := k_q0
  have k_c0 := k_c
  obtain ⟨h_ga, h_in, h_ls, h_ld, h_w, h_rd, h_lead, h_ps, h_E, h_up, h_D, h_Z, h_s, h_sp⟩ := k_c0
  have k_d0 := k_d
  obtain ⟨h_dn, h_di, h_dh, h_dw, h_dx, h_dg, h_dy, h_df⟩ := k_d0
  have h_jn := k_j
  exact ⟨rfl, trivial, trivial, ⟨h_p1, h_p2, h_td⟩, k_b, ⟨h_vs, (fun qa qb qc e0 e1 e2 => by
      have e0 : g 0 + 0 = qa := Option.some.inj e0
      subst e0
      have e1 : g 0 + 0 = qb := Option.some.inj e1
      subst e1
      have e2 : g 1 + 0 = qc := Option.some.inj e2
      subst e2
      have ejc : jc = (g 0).toNat := by omega
      subst ejc
      have ea : g 0 + 0 = g 0 := by omega
      have ec : g 1 + 0 = m 74 (g 0).toNat := by omega
      rw [ea, ec]
      intro _
      have h1 := fun x hx => h_p1 n980 (g 0).toNat x (by omega) hx
      refine ⟨by omega, (h1 0 (by omega)).1, fun x hx => (h1 x hx).2.trans ?_⟩
      exact ⟨Or.inl, fun q => q.elim id id⟩), fun _ _ _ _ e0 e1 e2 e3 => no9 n874 e2, fun _ _ _ e0 e1 e2 => no9 n876 e2, fun _ _ _ e0 e1 e2 => no9 n877 e2, h_ub⟩, ⟨fun _ _ _ _ e0 e1 e2 e3 => no9 n880 e2, fun _ _ _ _ e0 e1 e2 e3 => no9 n880 e2, fun _ _ _ _ _ _ e0 e1 e2 e3 e4 e5 => no9 n880 e2, fun _ _ _ _ _ _ e0 e1 e2 e3 e4 e5 => no9 n880 e2, h_w, h_rd, h_lead, h_ps, h_E, fun _ _ _ _ _ _ _ _ _ e0 e1 e2 e3 e4 e5 e6 e7 e8 => no9 n880 e2, fun _ _ _ _ _ e0 e1 e2 e3 e4 => no9 n880 e2, fun _ _ _ e0 e1 e2 => no9 n882 e2, h_s, h_sp⟩, ⟨fun _ _ _ _ _ e0 e1 e2 e3 e4 => no9 n920 e2, fun _ _ _ _ e0 e1 e2 e3 => no9 n920 e2, fun _ _ _ _ e0 e1 e2 e3 => no9 n920 e2, fun _ _ _ _ _ e0 e1 e2 e3 e4 => no9 n920 e2, fun _ _ _ _ _ e0 e1 e2 e3 e4 => no9 n920 e2, fun _ _ _ _ _ e0 e1 e2 e3 e4 => no9 n920 e2, h_dy, fun _ _ _ _ _ e0 e1 e2 e3 e4 => no9 n920 e2⟩, k_l, k_k, k_e, k_t, k_n, fun _ _ _ _ e0 e1 e2 e3 => no9 n980 e3⟩
def ru_qor : Ru := ([(1, (1, (0, (0, 0)))), (1, (2, (0, (0, 0)))), (9, (74, (0, (1, 0)))), (9, (74, (1, (1, 0)))), (0, (847, (0, (0, 0)))), (0, (848, (0, (0, 0)))), (0, (849, (0, (0, 0))))], ([871, 872, 873, 874, 875, 876, 877, 980, 880, 881, 882, 883, 884, 885, 886, 887, 888, 889, 890, 891, 892, 893, 894, 895, 896, 897, 898, 899, 905, 906, 907, 920, 921, 922, 923, 924, 925, 926, 927, 928, 929], ([([(0, (-1))], 0), ([(0, 1)], 3), ([(1, (-1))], 0), ([(1, 1)], 3), ([(2, (-1)), (4, 1)], 0), ([(2, 1), (4, (-1))], 0), ([(3, (-1)), (5, 1)], 0), ([(3, 1), (5, (-1))], 0)], (false, ([], ([], ([(871, some (0, 0)), (872, some (1, 0)), (873, some (6, 0)), (847, none), (848, none), (849, none)], none)))))))
theorem rk_qor : RuOk SGd ru_qor := by
  intro τ m g hi hc ha hS
  obtain ⟨i0, i1, i2, i3, i4, i5, i6, _⟩ := hi
  obtain ⟨jc, uc, vc⟩ : ∃ j : Nat, 1 * g 0 + 0 = (j : Int) ∧ g 2 = m 74 j := i2
  obtain ⟨je, ue, ve⟩ : ∃ j : Nat, 1 * g 1 + 0 = (j : Int) ∧ g 3 = m 74 j := i3
  have t847 : τ 847 = some (g 4) := i4
  have t848 : τ 848 = some (g 5) := i5
  have t849 : τ 849 = some (g 6) := i6
  obtain ⟨c0, c1, c2, c3, c4, c5, c6, c7, _⟩ := hc
  have c0 : (-1) * g 0 ≤ 0 := d1 c0
  have c1 : 1 * g 0 ≤ 3 := d1 c1
  have c2 : (-1) * g 1 ≤ 0 := d1 c2
  have c3 : 1 * g 1 ≤ 3 := d1 c3
  have c4 : (-1) * g 2 + 1 * g 4 ≤ 0 := d2 c4
  have c5 : 1 * g 2 + (-1) * g 4 ≤ 0 := d2 c5
  have c6 : (-1) * g 3 + 1 * g 5 ≤ 0 := d2 c6
  have c7 : 1 * g 3 + (-1) * g 5 ≤ 0 := d2 c7
  obtain ⟨a0, a1, a2, a3, a4, a5, a6, a7, a8, a9, a10, a11, a12, a13, a14, a15, a16, a17, a18, a19, a20, a21, a22, a23, a24, a25, a26, a27, a28, a29, a30, a31, a32, a33, a34, a35, a36, a37, a38, a39, a40, _⟩ := ha
  have n871 : τ 871 = none := a0
  have n872 : τ 872 = none := a1
  have n873 : τ 873 = none := a2
  have n874 : τ 874 = none := a3
  have n875 : τ 875 = none := a4
  have n876 : τ 876 = none := a5
  have n877 : τ 877 = none := a6
  have n980 : τ 980 = none := a7
  have n880 : τ 880 = none := a8
  have n881 : τ 881 = none := a9
  have n882 : τ 882 = none := a10
  have n883 : τ 883 = none := a11
  have n884 : τ 884 = none := a12
  have n885 : τ 885 = none := a13
  have n886 : τ 886 = none := a14
  have n887 : τ 887 = none := a15
  have n888 : τ 888 = none := a16
  have n889 : τ 889 = none := a17
  have n890 : τ 890 = none := a18
  have n891 : τ 891 = none := a19
  have n892 : τ 892 = none := a20
  have n893 : τ 893 = none := a21
  have n894 : τ 894 = none := a22
  have n895 : τ 895 = none := a23
  have n896 : τ 896 = none := a24
  have n897 : τ 897 = none := a25
  have n898 : τ 898 = none := a26
  have n899 : τ 899 = none := a27
  have n905 : τ 905 = none := a28
  have n906 : τ 906 = none := a29
  have n907 : τ 907 = none := a30
  have n920 : τ 920 = none := a31
  have n921 : τ 921 = none := a32
  have n922 : τ 922 = none := a33
  have n923 : τ 923 = none := a34
  have n924 : τ 924 = none := a35
  have n925 : τ 925 = none := a36
  have n926 : τ 926 = none := a37
  have n927 : τ 927 = none := a38
  have n928 : τ 928 = none := a39
  have n929 : τ 929 = none := a40
  obtain ⟨⟨h_p1, h_p2, h_td⟩, k_b, k_q, k_c, k_d, k_l, k_k, k_e, k_t, k_n, k_j⟩ := hS
  have k_q0 := k_q
  obtain ⟨h_vs, h_qc, h_qr, h_qk, h_qn, h_ub⟩ := k_q0
  have k_b0 := k_b
  obtain ⟨h_bit, h_one, h_or, h_and, h_shr, h_m1, h_m2, h_dv, h_r1, h_r2, h_nz⟩ := k_b0
  have k_c0 := k_c
  obtain ⟨h_ga, h_in, h_ls, h_ld, h_w, h_rd, h_lead, h_ps, h_E, h_up, h_D, h_Z, h_s, h_sp⟩ := k_c0
  have k_d0 := k_d
  obtain ⟨h_dn, h_di, h_dh, h_dw, h_dx, h_dg, h_dy, h_df⟩ := k_d0
  have h_jn := k_j
  exact ⟨rfl, trivial, trivial, ⟨h_p1, h_p2, h_td⟩, ⟨h_bit, h_one, fun _ _ _ e0 e1 e2 => no9 (o := none) rfl e0, h_and, h_shr, h_m1, h_m2, h_dv, h_r1, h_r2, h_nz⟩, ⟨h_vs, (fun qa qb qc e0 e1 e2 => by
      have e0 : g 0 + 0 = qa := Option.some.inj e0
      subst e0
      have e1 : g 1 + 0 = qb := Option.some.inj e1
      subst e1
      have e2 : g 6 + 0 = qc := Option.some.inj e2
      subst e2
      have ejc : jc = (g 0).toNat := by omega
      have eje : je = (g 1).toNat := by omega
      subst ejc
      subst eje
      have ea : g 0 + 0 = g 0 := by omega
      have eo : g 1 + 0 = g 1 := by omega
      have ev : g 6 + 0 = g 6 := by omega
      rw [ea, eo, ev]
      intro _
      have h1 := fun x hx => h_p1 n980 (g 0).toNat x (by omega) hx
      have h2 := fun x hx => h_p1 n980 (g 1).toNat x (by omega) hx
      have h3 := h_or _ _ _ t847 t848 t849
      rw [(show g 4 = m 74 (g 0).toNat by omega), (show g 5 = m 74 (g 1).toNat by omega)] at h3
      have h4 := fun x hx => orx9 (h1 0 (by omega)).1 (h2 0 (by omega)).1 h3 x hx
      refine ⟨by omega, (h4 0 (by omega)).1, fun x hx => ?_⟩
      rw [(h4 x hx).2, (h1 x hx).2, (h2 x hx).2]
      exact Iff.rfl), fun _ _ _ _ e0 e1 e2 e3 => no9 n874 e2, fun _ _ _ e0 e1 e2 => no9 n876 e2, fun _ _ _ e0 e1 e2 => no9 n877 e2, h_ub⟩, ⟨fun _ _ _ _ e0 e1 e2 e3 => no9 n880 e2, fun _ _ _ _ e0 e1 e2 e3 => no9 n880 e2, fun _ _ _ _ _ _ e0 e1 e2 e3 e4 e5 => no9 n880 e2, fun _ _ _ _ _ _ e0 e1 e2 e3 e4 e5 => no9 n880 e2, h_w, h_rd, h_lead, h_ps, h_E, fun _ _ _ _ _ _ _ _ _ e0 e1 e2 e3 e4 e5 e6 e7 e8 => no9 n880 e2, fun _ _ _ _ _ e0 e1 e2 e3 e4 => no9 n880 e2, fun _ _ _ e0 e1 e2 => no9 n882 e2, h_s, h_sp⟩, ⟨fun _ _ _ _ _ e0 e1 e2 e3 e4 => no9 n920 e2, fun _ _ _ _ e0 e1 e2 e3 => no9 n920 e2, fun _ _ _ _ e0 e1 e2 e3 => no9 n920 e2, fun _ _ _ _ _ e0 e1 e2 e3 e4 => no9 n920 e2, fun _ _ _ _ _ e0 e1 e2 e3 e4 => no9 n920 e2, fun _ _ _ _ _ e0 e1 e2 e3 e4 => no9 n920 e2, h_dy, fun _ _ _ _ _ e0 e1 e2 e3 e4 => no9 n920 e2⟩, k_l, k_k, k_e, k_t, k_n, fun _ _ _ _ e0 e1 e2 e3 => no9 n980 e3⟩
def ru_qbit : Ru := ([(1, (1, (0, (0, 0)))), (1, (2, (0, (0, 0)))), (9, (74, (0, (1, 0)))), (0, (840, (0, (0, 0)))), (0, (841, (0, (0, 0)))), (0, (842, (0, (0, 0))))], ([878, 879, 868, 980], ([([(0, (-1))], 0), ([(0, 1)], 3), ([(1, (-1))], 0), ([(1, 1)], 3), ([(2, (-1)), (3, 1)], 0), ([(2, 1), (3, (-1))], 0), ([(1, (-1)), (4, 1)], 0), ([(1, 1), (4, (-1))], 0)], (false, ([], ([], ([(878, some (0, 0)), (879, some (1, 0)), (868, some (5, 0)), (840, none), (841, none), (842, none)], none)))))))
theorem rk_qbit : RuOk SGd ru_qbit := by
  intro τ m g hi hc ha hS
  obtain ⟨i0, i1, i2, i3, i4, i5, _⟩ := hi
  obtain ⟨jc, uc, vc⟩ : ∃ j : Nat, 1 * g 0 + 0 = (j : Int) ∧ g 2 = m 74 j := i2
  have t840 : τ 840 = some (g 3) := i3
  have t841 : τ 841 = some (g 4) := i4
  have t842 : τ 842 = some (g 5) := i5
  obtain ⟨c0, c1, c2, c3, c4, c5, c6, c7, _⟩ := hc
  have c0 : (-1) * g 0 ≤ 0 := d1 c0
  have c1 : 1 * g 0 ≤ 3 := d1 c1
  have c2 : (-1) * g 1 ≤ 0 := d1 c2
  have c3 : 1 * g 1 ≤ 3 := d1 c3
  have c4 : (-1) * g 2 + 1 * g 3 ≤ 0 := d2 c4
  have c5 : 1 * g 2 + (-1) * g 3 ≤ 0 := d2 c5
  have c6 : (-1) * g 1 + 1 * g 4 ≤ 0 := d2 c6
  have c7 : 1 * g 1 + (-1) * g 4 ≤ 0 := d2 c7
  obtain ⟨a0, a1, a2, a3, _⟩ := ha
  have n878 : τ 878 = none := a0
  have n879 : τ 879 = none := a1
  have n868 : τ 868 = none := a2
  have n980 : τ 980 = none := a3
  obtain ⟨⟨h_p1, h_p2, h_td⟩, k_b, k_q, k_c, k_d, k_l, k_k, k_e, k_t, k_n, k_j⟩ := hS
  have k_b0 := k_b
  obtain ⟨h_bit, h_one, h_or, h_and, h_shr, h_m1, h_m2, h_dv, h_r1, h_r2, h_nz⟩ := k_b0
  have k_q0 := k_q
  obtain ⟨h_vs, h_qc, h_qr, h_qk, h_qn, h_ub⟩ := k_q0
  exact ⟨rfl, trivial, trivial, ⟨h_p1, h_p2, h_td⟩, ⟨fun _ _ _ e0 e1 e2 => no9 (o := none) rfl e0, h_one, h_or, h_and, h_shr, h_m1, h_m2, h_dv, h_r1, h_r2, h_nz⟩, ⟨h_vs, h_qc, h_qr, h_qk, h_qn, (fun ua uo ub e0 e1 e2 => by
      have e0 : g 0 + 0 = ua := Option.some.inj e0
      subst e0
      have e1 : g 1 + 0 = uo := Option.some.inj e1
      subst e1
      have e2 : g 5 + 0 = ub := Option.some.inj e2
      subst e2
      have hb := R840x (h_bit _ _ _ t840 t841 t842) (by omega) (by omega)
      have ejc : jc = (g 0).toNat := by omega
      subst ejc
      have eo : (g 4).toNat = (g 1 + 0).toNat := by omega
      have ex : g 3 = m 74 (g 0).toNat := by omega
      have ea : (g 0 + 0).toNat = (g 0).toNat := by omega
      rw [eo, ex] at hb
      have h1 := (h_p1 n980 (g 0).toNat (g 1 + 0).toNat (by omega) (by omega)).2
      have h7 := b2i_le (bitN (Int32.ofInt (m 74 (g 0).toNat)) (g 1 + 0).toNat)
      have h8 : g 5 = b2i (bitN (Int32.ofInt (m 74 (g 0).toNat)) (g 1 + 0).toNat) := hb
      rw [ea, ← h1]
      refine ⟨by omega, by omega, ?_⟩
      show g 5 + 0 = 1 ↔ b2i (bitN (Int32.ofInt (m 74 (g 0).toNat)) (g 1 + 0).toNat) = 1
      rw [← h8]
      omega)⟩, k_c, k_d, k_l, k_k, k_e, k_t, k_n, k_j⟩
def ru_bits : Ru := ([], ([], ([], (false, ([], ([], ([(840, none), (841, none), (842, none), (850, none), (851, none), (852, none), (853, none), (854, none), (855, none)], none)))))))
theorem rk_bits : RuOk SGd ru_bits := by
  intro τ m g hi hc ha hS
  obtain ⟨⟨h_p1, h_p2, h_td⟩, k_b, k_q, k_c, k_d, k_l, k_k, k_e, k_t, k_n, k_j⟩ := hS
  have k_b0 := k_b
  obtain ⟨h_bit, h_one, h_or, h_and, h_shr, h_m1, h_m2, h_dv, h_r1, h_r2, h_nz⟩ := k_b0
  exact ⟨rfl, trivial, trivial, ⟨h_p1, h_p2, h_td⟩, ⟨fun _ _ _ e0 e1 e2 => no9 (o := none) rfl e0, h_one, h_or, h_and, h_shr, fun _ _ _ e0 e1 e2 => no9 (o := none) rfl e0, fun _ _ _ e0 e1 e2 => no9 (o := none) rfl e0, h_dv, h_r1, h_r2, h_nz⟩, k_q, k_c, k_d, k_l, k_k, k_e, k_t, k_n, k_j⟩
def ru_vs : Ru := ([(0, (833, (0, (0, 0)))), (0, (834, (0, (0, 0)))), (0, (835, (0, (0, 0)))), (5, (110, (6, (0, 0))))], ([], ([([(2, 1)], 0), ([(2, (-1))], 0), ([(0, (-1))], (-1)), ([(0, 1)], 9223372036854775807), ([(1, 1), (3, (-1))], 0), ([(1, (-1)), (3, 1)], 0), ([(3, (-1))], 0), ([(3, 1)], 20)], (false, ([([(0, 1)], 1048575)], ([], ([], none)))))))
theorem rk_vs : RuOk SGd ru_vs := by
  intro τ m g hi hc ha hS
  obtain ⟨i0, i1, i2, i3, _⟩ := hi
  have t833 : τ 833 = some (g 0) := i0
  have t834 : τ 834 = some (g 1) := i1
  have t835 : τ 835 = some (g 2) := i2
  have xpe : g 3 = m 110 6 := i3
  obtain ⟨c0, c1, c2, c3, c4, c5, c6, c7, _⟩ := hc
  have c0 : 1 * g 2 ≤ 0 := d1 c0
  have c1 : (-1) * g 2 ≤ 0 := d1 c1
  have c2 : (-1) * g 0 ≤ (-1) := d1 c2
  have c3 : 1 * g 0 ≤ 9223372036854775807 := d1 c3
  have c4 : 1 * g 1 + (-1) * g 3 ≤ 0 := d2 c4
  have c5 : (-1) * g 1 + 1 * g 3 ≤ 0 := d2 c5
  have c6 : (-1) * g 3 ≤ 0 := d1 c6
  have c7 : 1 * g 3 ≤ 20 := d1 c7
  obtain ⟨⟨h_p1, h_p2, h_td⟩, k_b, k_q, k_c, k_d, k_l, k_k, k_e, k_t, k_n, k_j⟩ := hS
  have k_b0 := k_b
  obtain ⟨h_bit, h_one, h_or, h_and, h_shr, h_m1, h_m2, h_dv, h_r1, h_r2, h_nz⟩ := k_b0
  have h1 := shr9 (h_shr _ _ _ t833 t834 t835) (by omega) (by omega) (by omega) (by omega)
  have h2 : (2 : Nat) ^ (g 1).toNat ≤ 2 ^ 20 := Nat.pow_le_pow_right (by decide) (by omega)
  have h3 : (2 : Nat) ^ 20 = 1048576 := by decide
  exact ⟨rfl, ⟨f1 (by omega), trivial⟩, trivial, ⟨h_p1, h_p2, h_td⟩, k_b, k_q, k_c, k_d, k_l, k_k, k_e, k_t, k_n, k_j⟩
def ru_vsi : Ru := ([(0, (833, (0, (0, 0)))), (0, (834, (0, (0, 0)))), (0, (835, (0, (0, 0)))), (5, (110, (6, (0, 0)))), (1, (4, (0, (0, 0))))], ([], ([([(2, 1)], 0), ([(2, (-1))], 0), ([(0, (-1))], (-1)), ([(0, 1)], 9223372036854775807), ([(1, 1), (3, (-1))], 0), ([(1, (-1)), (3, 1)], 0), ([(3, (-1))], 0), ([(3, 1)], 20), ([(0, (-1)), (4, 1)], 0), ([(0, 1), (4, (-1))], 0)], (false, ([], ([], ([(870, some (4, 0)), (833, none), (834, none), (835, none)], none)))))))
theorem rk_vsi : RuOk SGd ru_vsi := by
  intro τ m g hi hc ha hS
  obtain ⟨i0, i1, i2, i3, i4, _⟩ := hi
  have t833 : τ 833 = some (g 0) := i0
  have t834 : τ 834 = some (g 1) := i1
  have t835 : τ 835 = some (g 2) := i2
  have xpe : g 3 = m 110 6 := i3
  obtain ⟨c0, c1, c2, c3, c4, c5, c6, c7, c8, c9, _⟩ := hc
  have c0 : 1 * g 2 ≤ 0 := d1 c0
  have c1 : (-1) * g 2 ≤ 0 := d1 c1
  have c2 : (-1) * g 0 ≤ (-1) := d1 c2
  have c3 : 1 * g 0 ≤ 9223372036854775807 := d1 c3
  have c4 : 1 * g 1 + (-1) * g 3 ≤ 0 := d2 c4
  have c5 : (-1) * g 1 + 1 * g 3 ≤ 0 := d2 c5
  have c6 : (-1) * g 3 ≤ 0 := d1 c6
  have c7 : 1 * g 3 ≤ 20 := d1 c7
  have c8 : (-1) * g 0 + 1 * g 4 ≤ 0 := d2 c8
  have c9 : 1 * g 0 + (-1) * g 4 ≤ 0 := d2 c9
  obtain ⟨⟨h_p1, h_p2, h_td⟩, k_b, k_q, k_c, k_d, k_l, k_k, k_e, k_t, k_n, k_j⟩ := hS
  have k_b0 := k_b
  obtain ⟨h_bit, h_one, h_or, h_and, h_shr, h_m1, h_m2, h_dv, h_r1, h_r2, h_nz⟩ := k_b0
  have k_q0 := k_q
  obtain ⟨h_vs, h_qc, h_qr, h_qk, h_qn, h_ub⟩ := k_q0
  have h1 := shr9 (h_shr _ _ _ t833 t834 t835) (by omega) (by omega) (by omega) (by omega)
  have h2 : (2 : Nat) ^ (g 1).toNat ≤ 2 ^ 20 := Nat.pow_le_pow_right (by decide) (by omega)
  have h3 : (2 : Nat) ^ 20 = 1048576 := by decide
  exact ⟨rfl, trivial, trivial, ⟨h_p1, h_p2, h_td⟩, ⟨h_bit, h_one, h_or, h_and, fun _ _ _ e0 e1 e2 => no9 (o := none) rfl e0, h_m1, h_m2, h_dv, h_r1, h_r2, h_nz⟩, ⟨(fun s e0 => by
      have e0 : g 4 + 0 = s := Option.some.inj e0
      subst e0
      have ew : g 4 + 0 = g 0 := by omega
      rw [ew]
      exact ⟨by omega, fun c hc => bits_out (by omega) h1 (by omega)⟩), h_qc, h_qr, h_qk, h_qn, h_ub⟩, k_c, k_d, k_l, k_k, k_e, k_t, k_n, k_j⟩
def ru_vz : Ru := ([(0, (870, (0, (0, 0)))), (5, (110, (6, (0, 0)))), (0, (840, (0, (0, 0)))), (0, (841, (0, (0, 0)))), (0, (842, (0, (0, 0))))], ([], ([([(0, (-1)), (2, 1)], 0), ([(0, 1), (2, (-1))], 0), ([(1, 1), (3, (-1))], 0), ([(3, 1)], 19)], (false, ([([(4, 1)], 0), ([(4, (-1))], 0)], ([], ([], none)))))))
theorem rk_vz : RuOk SGd ru_vz := by
  intro τ m g hi hc ha hS
  obtain ⟨i0, i1, i2, i3, i4, _⟩ := hi
  have t870 : τ 870 = some (g 0) := i0
  have xpe : g 1 = m 110 6 := i1
  have t840 : τ 840 = some (g 2) := i2
  have t841 : τ 841 = some (g 3) := i3
  have t842 : τ 842 = some (g 4) := i4
  obtain ⟨c0, c1, c2, c3, _⟩ := hc
  have c0 : (-1) * g 0 + 1 * g 2 ≤ 0 := d2 c0
  have c1 : 1 * g 0 + (-1) * g 2 ≤ 0 := d2 c1
  have c2 : 1 * g 1 + (-1) * g 3 ≤ 0 := d2 c2
  have c3 : 1 * g 3 ≤ 19 := d1 c3
  obtain ⟨⟨h_p1, h_p2, h_td⟩, k_b, k_q, k_c, k_d, k_l, k_k, k_e, k_t, k_n, k_j⟩ := hS
  have k_b0 := k_b
  obtain ⟨h_bit, h_one, h_or, h_and, h_shr, h_m1, h_m2, h_dv, h_r1, h_r2, h_nz⟩ := k_b0
  have k_q0 := k_q
  obtain ⟨h_vs, h_qc, h_qr, h_qk, h_qn, h_ub⟩ := k_q0
  have hb := R840x (h_bit _ _ _ t840 t841 t842) (by have := h_td.1; omega) (by omega)
  have h1 := (h_vs _ t870).2 (g 3).toNat (by have := h_td.1; omega)
  have hv : bvG (g 0) (g 3).toNat = bxG (g 0) (g 3).toNat := by unfold bvG; rw [if_pos (by omega)]
  rw [hv] at h1
  rw [(show g 2 = g 0 by omega)] at hb
  exact ⟨rfl, ⟨f1 (by omega), f1 (by omega), trivial⟩, trivial, ⟨h_p1, h_p2, h_td⟩, k_b, k_q, k_c, k_d, k_l, k_k, k_e, k_t, k_n, k_j⟩
def ru_vb : Ru := ([(0, (870, (0, (0, 0)))), (5, (110, (6, (0, 0)))), (0, (840, (0, (0, 0)))), (0, (841, (0, (0, 0)))), (0, (842, (0, (0, 0))))], ([], ([([(0, (-1)), (2, 1)], 0), ([(0, 1), (2, (-1))], 0), ([(1, 1), (3, (-1))], 0), ([(3, 1)], 19), ([(4, (-1))], (-1))], (true, ([], ([], ([], none)))))))
theorem rk_vb : RuOk SGd ru_vb := by
  intro τ m g hi hc ha hS
  obtain ⟨i0, i1, i2, i3, i4, _⟩ := hi
  have t870 : τ 870 = some (g 0) := i0
  have xpe : g 1 = m 110 6 := i1
  have t840 : τ 840 = some (g 2) := i2
  have t841 : τ 841 = some (g 3) := i3
  have t842 : τ 842 = some (g 4) := i4
  obtain ⟨c0, c1, c2, c3, c4, _⟩ := hc
  have c0 : (-1) * g 0 + 1 * g 2 ≤ 0 := d2 c0
  have c1 : 1 * g 0 + (-1) * g 2 ≤ 0 := d2 c1
  have c2 : 1 * g 1 + (-1) * g 3 ≤ 0 := d2 c2
  have c3 : 1 * g 3 ≤ 19 := d1 c3
  have c4 : (-1) * g 4 ≤ (-1) := d1 c4
  obtain ⟨⟨h_p1, h_p2, h_td⟩, k_b, k_q, k_c, k_d, k_l, k_k, k_e, k_t, k_n, k_j⟩ := hS
  have k_b0 := k_b
  obtain ⟨h_bit, h_one, h_or, h_and, h_shr, h_m1, h_m2, h_dv, h_r1, h_r2, h_nz⟩ := k_b0
  have k_q0 := k_q
  obtain ⟨h_vs, h_qc, h_qr, h_qk, h_qn, h_ub⟩ := k_q0
  have hb := R840x (h_bit _ _ _ t840 t841 t842) (by have := h_td.1; omega) (by omega)
  have h1 := (h_vs _ t870).2 (g 3).toNat (by have := h_td.1; omega)
  have hv : bvG (g 0) (g 3).toNat = bxG (g 0) (g 3).toNat := by unfold bvG; rw [if_pos (by omega)]
  rw [hv] at h1
  rw [(show g 2 = g 0 by omega)] at hb
  omega
def ru_vo : Ru := ([], ([], ([], (false, ([], ([], ([(833, none), (834, none), (835, none)], none)))))))
theorem rk_vo : RuOk SGd ru_vo := by
  intro τ m g hi hc ha hS
  obtain ⟨⟨h_p1, h_p2, h_td⟩, k_b, k_q, k_c, k_d, k_l, k_k, k_e, k_t, k_n, k_j⟩ := hS
  have k_b0 := k_b
  obtain ⟨h_bit, h_one, h_or, h_and, h_shr, h_m1, h_m2, h_dv, h_r1, h_r2, h_nz⟩ := k_b0
  exact ⟨rfl, trivial, trivial, ⟨h_p1, h_p2, h_td⟩, ⟨h_bit, h_one, h_or, h_and, fun _ _ _ e0 e1 e2 => no9 (o := none) rfl e0, h_m1, h_m2, h_dv, h_r1, h_r2, h_nz⟩, k_q, k_c, k_d, k_l, k_k, k_e, k_t, k_n, k_j⟩
def ru_cst : Ru := ([(5, (70, (6, (0, 0)))), (4, (0, (0, (7, 0)))), (9, (1000, (1, (1, 0)))), (0, (871, (0, (0, 0)))), (0, (872, (0, (0, 0)))), (0, (873, (0, (0, 0)))), (4, (0, (0, (0, 0))))], ([880, 881, 882, 883, 884, 885, 886, 887, 888, 889, 890, 891, 892, 893, 894, 895, 896, 897, 898, 899, 905, 906, 907], ([([(0, 1)], 0), ([(0, (-1))], 0), ([(2, 1)], 1), ([(2, (-1))], (-1))], (false, ([], ([], ([(880, some (6, 0)), (881, some (6, 0))], none)))))))
theorem rk_cst : RuOk SGd ru_cst := by
  intro τ m g hi hc ha hS
  obtain ⟨i0, i1, i2, i3, i4, i5, i6, _⟩ := hi
  have xk : g 0 = m 70 6 := i0
  have xjc : g 1 = 7 := i1
  obtain ⟨jd, ud, vd⟩ : ∃ j : Nat, 1 * g 1 + 0 = (j : Int) ∧ g 2 = m 1000 j := i2
  have t871 : τ 871 = some (g 3) := i3
  have t872 : τ 872 = some (g 4) := i4
  have t873 : τ 873 = some (g 5) := i5
  have xzero : g 6 = 0 := i6
  obtain ⟨c0, c1, c2, c3, _⟩ := hc
  have c0 : 1 * g 0 ≤ 0 := d1 c0
  have c1 : (-1) * g 0 ≤ 0 := d1 c1
  have c2 : 1 * g 2 ≤ 1 := d1 c2
  have c3 : (-1) * g 2 ≤ (-1) := d1 c3
  obtain ⟨a0, a1, a2, a3, a4, a5, a6, a7, a8, a9, a10, a11, a12, a13, a14, a15, a16, a17, a18, a19, a20, a21, a22, _⟩ := ha
  have n880 : τ 880 = none := a0
  have n881 : τ 881 = none := a1
  have n882 : τ 882 = none := a2
  have n883 : τ 883 = none := a3
  have n884 : τ 884 = none := a4
  have n885 : τ 885 = none := a5
  have n886 : τ 886 = none := a6
  have n887 : τ 887 = none := a7
  have n888 : τ 888 = none := a8
  have n889 : τ 889 = none := a9
  have n890 : τ 890 = none := a10
  have n891 : τ 891 = none := a11
  have n892 : τ 892 = none := a12
  have n893 : τ 893 = none := a13
  have n894 : τ 894 = none := a14
  have n895 : τ 895 = none := a15
  have n896 : τ 896 = none := a16
  have n897 : τ 897 = none := a17
  have n898 : τ 898 = none := a18
  have n899 : τ 899 = none := a19
  have n905 : τ 905 = none := a20
  have n906 : τ 906 = none := a21
  have n907 : τ 907 = none := a22
  obtain ⟨⟨h_p1, h_p2, h_td⟩, k_b, k_q, k_c, k_d, k_l, k_k, k_e, k_t, k_n, k_j⟩ := hS
  have k_c0 := k_c
  obtain ⟨h_ga, h_in, h_ls, h_ld, h_w, h_rd, h_lead, h_ps, h_E, h_up, h_D, h_Z, h_s, h_sp⟩ := k_c0
  exact ⟨rfl, trivial, trivial, ⟨h_p1, h_p2, h_td⟩, k_b, k_q, ⟨(fun qa qb A I e0 e1 e2 e3 => by
      have e0 : g 3 = qa := Option.some.inj (t871.symm.trans e0)
      subst e0
      have e1 : g 4 = qb := Option.some.inj (t872.symm.trans e1)
      subst e1
      have e2 : g 6 + 0 = A := Option.some.inj e2
      subst e2
      have e3 : g 6 + 0 = I := Option.some.inj e3
      subst e3
      have ej : jd = 7 := by omega
      subst ej
      have z : g 6 + 0 = 0 := by omega
      rw [z]
      exact ⟨by omega, fun _ _ => GAm_nil (by omega) (by omega)⟩), fun _ _ _ _ e0 e1 e2 e3 => no9 n885 e3, fun _ _ _ _ _ _ e0 e1 e2 e3 e4 e5 => no9 n883 e4, fun _ _ _ _ _ _ e0 e1 e2 e3 e4 e5 => no9 n899 e4, h_w, h_rd, h_lead, h_ps, h_E, fun _ _ _ _ _ _ _ _ _ e0 e1 e2 e3 e4 e5 e6 e7 e8 => no9 n883 e4, fun _ _ _ _ _ e0 e1 e2 e3 e4 => no9 n899 e4, h_Z, h_s, h_sp⟩, k_d, k_l, k_k, k_e, k_t, k_n, k_j⟩
def ru_cin : Ru := ([(0, (880, (0, (0, 0)))), (0, (873, (0, (0, 0)))), (4, (0, (0, (1, 0)))), (0, (840, (0, (0, 0)))), (0, (841, (0, (0, 0)))), (0, (842, (0, (0, 0))))], ([885, 981], ([([(1, (-1)), (3, 1)], 0), ([(1, 1), (3, (-1))], 0), ([(0, (-1)), (4, 1)], 0), ([(0, 1), (4, (-1))], 0), ([(5, 1)], 1), ([(5, (-1))], (-1)), ([(0, (-1))], 0), ([(0, 1)], 3)], (false, ([], ([], ([(885, some (2, 0)), (840, none), (841, none), (842, none)], none)))))))
theorem rk_cin : RuOk SGd ru_cin := by
  intro τ m g hi hc ha hS
  obtain ⟨i0, i1, i2, i3, i4, i5, _⟩ := hi
  have t880 : τ 880 = some (g 0) := i0
  have t873 : τ 873 = some (g 1) := i1
  have xone : g 2 = 1 := i2
  have t840 : τ 840 = some (g 3) := i3
  have t841 : τ 841 = some (g 4) := i4
  have t842 : τ 842 = some (g 5) := i5
  obtain ⟨c0, c1, c2, c3, c4, c5, c6, c7, _⟩ := hc
  have c0 : (-1) * g 1 + 1 * g 3 ≤ 0 := d2 c0
  have c1 : 1 * g 1 + (-1) * g 3 ≤ 0 := d2 c1
  have c2 : (-1) * g 0 + 1 * g 4 ≤ 0 := d2 c2
  have c3 : 1 * g 0 + (-1) * g 4 ≤ 0 := d2 c3
  have c4 : 1 * g 5 ≤ 1 := d1 c4
  have c5 : (-1) * g 5 ≤ (-1) := d1 c5
  have c6 : (-1) * g 0 ≤ 0 := d1 c6
  have c7 : 1 * g 0 ≤ 3 := d1 c7
  obtain ⟨a0, a1, _⟩ := ha
  have n885 : τ 885 = none := a0
  have n981 : τ 981 = none := a1
  obtain ⟨⟨h_p1, h_p2, h_td⟩, k_b, k_q, k_c, k_d, k_l, k_k, k_e, k_t, k_n, k_j⟩ := hS
  have k_q0 := k_q
  obtain ⟨h_vs, h_qc, h_qr, h_qk, h_qn, h_ub⟩ := k_q0
  have k_b0 := k_b
  obtain ⟨h_bit, h_one, h_or, h_and, h_shr, h_m1, h_m2, h_dv, h_r1, h_r2, h_nz⟩ := k_b0
  have k_c0 := k_c
  obtain ⟨h_ga, h_in, h_ls, h_ld, h_w, h_rd, h_lead, h_ps, h_E, h_up, h_D, h_Z, h_s, h_sp⟩ := k_c0
  exact ⟨rfl, trivial, trivial, ⟨h_p1, h_p2, h_td⟩, ⟨fun _ _ _ e0 e1 e2 => no9 (o := none) rfl e0, h_one, h_or, h_and, h_shr, h_m1, h_m2, h_dv, h_r1, h_r2, h_nz⟩, k_q, ⟨h_ga, (fun qa qb A in9 e0 e1 e2 e3 => by
      have e2 : g 0 = A := Option.some.inj (t880.symm.trans e2)
      subst e2
      have e3 : g 2 + 0 = in9 := Option.some.inj e3
      subst e3
      have hb := R840x (h_bit _ _ _ t840 t841 t842) (by omega) (by omega)
      have eb : (g 4).toNat = (g 0).toNat := by omega
      have ex : g 3 = g 1 := by omega
      rw [eb, ex] at hb
      have hq := (h_qc _ _ _ e0 e1 t873 n981).2.2 (g 0).toNat (by omega)
      exact ⟨by omega, hq.mp (by omega)⟩), h_ls, h_ld, h_w, h_rd, h_lead, h_ps, h_E, h_up, h_D, h_Z, h_s, h_sp⟩, k_d, k_l, k_k, k_e, k_t, k_n, k_j⟩
def ru_cA0 : Ru := ([(0, (880, (0, (0, 0)))), (0, (881, (0, (0, 0)))), (0, (873, (0, (0, 0)))), (4, (0, (0, (0, 0)))), (0, (840, (0, (0, 0)))), (0, (841, (0, (0, 0)))), (0, (842, (0, (0, 0))))], ([883, 885, 892, 899, 981], ([([(2, (-1)), (4, 1)], 0), ([(2, 1), (4, (-1))], 0), ([(0, (-1)), (5, 1)], 0), ([(0, 1), (5, (-1))], 0), ([(6, 1)], 0), ([(6, (-1))], 0), ([(1, 1)], 0), ([(1, (-1))], 0), ([(0, (-1))], 0), ([(0, 1)], 3)], (false, ([], ([], ([(880, some (0, 1)), (881, some (3, 0)), (840, none), (841, none), (842, none)], none)))))))
theorem rk_cA0 : RuOk SGd ru_cA0 := by
  intro τ m g hi hc ha hS
  obtain ⟨i0, i1, i2, i3, i4, i5, i6, _⟩ := hi
  have t880 : τ 880 = some (g 0) := i0
  have t881 : τ 881 = some (g 1) := i1
  have t873 : τ 873 = some (g 2) := i2
  have xzero : g 3 = 0 := i3
  have t840 : τ 840 = some (g 4) := i4
  have t841 : τ 841 = some (g 5) := i5
  have t842 : τ 842 = some (g 6) := i6
  obtain ⟨c0, c1, c2, c3, c4, c5, c6, c7, c8, c9, _⟩ := hc
  have c0 : (-1) * g 2 + 1 * g 4 ≤ 0 := d2 c0
  have c1 : 1 * g 2 + (-1) * g 4 ≤ 0 := d2 c1
  have c2 : (-1) * g 0 + 1 * g 5 ≤ 0 := d2 c2
  have c3 : 1 * g 0 + (-1) * g 5 ≤ 0 := d2 c3
  have c4 : 1 * g 6 ≤ 0 := d1 c4
  have c5 : (-1) * g 6 ≤ 0 := d1 c5
  have c6 : 1 * g 1 ≤ 0 := d1 c6
  have c7 : (-1) * g 1 ≤ 0 := d1 c7
  have c8 : (-1) * g 0 ≤ 0 := d1 c8
  have c9 : 1 * g 0 ≤ 3 := d1 c9
  obtain ⟨a0, a1, a2, a3, a4, _⟩ := ha
  have n883 : τ 883 = none := a0
  have n885 : τ 885 = none := a1
  have n892 : τ 892 = none := a2
  have n899 : τ 899 = none := a3
  have n981 : τ 981 = none := a4
  obtain ⟨⟨h_p1, h_p2, h_td⟩, k_b, k_q, k_c, k_d, k_l, k_k, k_e, k_t, k_n, k_j⟩ := hS
  have k_q0 := k_q
  obtain ⟨h_vs, h_qc, h_qr, h_qk, h_qn, h_ub⟩ := k_q0
  have k_b0 := k_b
  obtain ⟨h_bit, h_one, h_or, h_and, h_shr, h_m1, h_m2, h_dv, h_r1, h_r2, h_nz⟩ := k_b0
  have k_c0 := k_c
  obtain ⟨h_ga, h_in, h_ls, h_ld, h_w, h_rd, h_lead, h_ps, h_E, h_up, h_D, h_Z, h_s, h_sp⟩ := k_c0
  exact ⟨rfl, trivial, trivial, ⟨h_p1, h_p2, h_td⟩, ⟨fun _ _ _ e0 e1 e2 => no9 (o := none) rfl e0, h_one, h_or, h_and, h_shr, h_m1, h_m2, h_dv, h_r1, h_r2, h_nz⟩, k_q, ⟨(fun qa qb A I e0 e1 e2 e3 => by
      have e2 : g 0 + 1 = A := Option.some.inj e2
      subst e2
      have e3 : g 3 + 0 = I := Option.some.inj e3
      subst e3
      have hb := R840x (h_bit _ _ _ t840 t841 t842) (by omega) (by omega)
      have eb : (g 5).toNat = (g 0).toNat := by omega
      have ex : g 4 = g 2 := by omega
      rw [eb, ex] at hb
      have hq := (h_qc _ _ _ e0 e1 t873 n981).2.2 (g 0).toNat (by omega)
      have h1 := h_ga _ _ _ _ e0 e1 t880 t881
      refine ⟨by omega, fun e8 e9 => GAm_iff (h1.2 n892 n899) (fun x => ?_)⟩
      have z : g 3 + 0 = 0 := by omega
      rw [z]
      exact Pf_of (fun s => (ts_next (by omega) (Or.inl (fun hi => absurd (hq.mpr hi) (by omega))) s).symm) x), fun _ _ _ _ e0 e1 e2 e3 => no9 n885 e3, fun _ _ _ _ _ _ e0 e1 e2 e3 e4 e5 => no9 n883 e4, fun _ _ _ _ _ _ e0 e1 e2 e3 e4 e5 => no9 n899 e4, h_w, h_rd, h_lead, h_ps, h_E, fun _ _ _ _ _ _ _ _ _ e0 e1 e2 e3 e4 e5 e6 e7 e8 => no9 n883 e4, fun _ _ _ _ _ e0 e1 e2 e3 e4 => no9 n899 e4, h_Z, h_s, h_sp⟩, k_d, k_l, k_k, k_e, k_t, k_n, k_j⟩
def ru_cA1 : Ru := ([(0, (880, (0, (0, 0)))), (0, (881, (0, (0, 0)))), (9, (199, (0, (1, 0)))), (0, (885, (0, (0, 0)))), (4, (0, (0, (0, 0))))], ([883, 892, 899], ([([(1, (-1)), (2, 1)], 0), ([(0, (-1))], 0), ([(0, 1)], 3)], (false, ([], ([], ([(880, some (0, 1)), (881, some (4, 0)), (885, none)], none)))))))
theorem rk_cA1 : RuOk SGd ru_cA1 := by
  intro τ m g hi hc ha hS
  obtain ⟨i0, i1, i2, i3, i4, _⟩ := hi
  have t880 : τ 880 = some (g 0) := i0
  have t881 : τ 881 = some (g 1) := i1
  obtain ⟨jn, un, vn⟩ : ∃ j : Nat, 1 * g 0 + 0 = (j : Int) ∧ g 2 = m 199 j := i2
  have t885 : τ 885 = some (g 3) := i3
  have xzero : g 4 = 0 := i4
  obtain ⟨c0, c1, c2, _⟩ := hc
  have c0 : (-1) * g 1 + 1 * g 2 ≤ 0 := d2 c0
  have c1 : (-1) * g 0 ≤ 0 := d1 c1
  have c2 : 1 * g 0 ≤ 3 := d1 c2
  obtain ⟨a0, a1, a2, _⟩ := ha
  have n883 : τ 883 = none := a0
  have n892 : τ 892 = none := a1
  have n899 : τ 899 = none := a2
  obtain ⟨⟨h_p1, h_p2, h_td⟩, k_b, k_q, k_c, k_d, k_l, k_k, k_e, k_t, k_n, k_j⟩ := hS
  have k_c0 := k_c
  obtain ⟨h_ga, h_in, h_ls, h_ld, h_w, h_rd, h_lead, h_ps, h_E, h_up, h_D, h_Z, h_s, h_sp⟩ := k_c0
  exact ⟨rfl, trivial, trivial, ⟨h_p1, h_p2, h_td⟩, k_b, k_q, ⟨(fun qa qb A I e0 e1 e2 e3 => by
      have e2 : g 0 + 1 = A := Option.some.inj e2
      subst e2
      have e3 : g 4 + 0 = I := Option.some.inj e3
      subst e3
      have h1 := h_ga _ _ _ _ e0 e1 t880 t881
      refine ⟨by omega, fun e8 e9 => GAm_iff (h1.2 n892 n899) (fun x => ?_)⟩
      have z : g 4 + 0 = 0 := by omega
      have ejn : jn = (g 0).toNat := by omega
      subst ejn
      rw [z]
      exact Pf_of (fun s => (ts_next (by omega) (Or.inr (fun i h1 _ => by omega)) s).symm) x), fun _ _ _ _ e0 e1 e2 e3 => no9 (o := none) rfl e3, fun _ _ _ _ _ _ e0 e1 e2 e3 e4 e5 => no9 n883 e4, fun _ _ _ _ _ _ e0 e1 e2 e3 e4 e5 => no9 n899 e4, h_w, h_rd, h_lead, h_ps, h_E, fun _ _ _ _ _ _ _ _ _ e0 e1 e2 e3 e4 e5 e6 e7 e8 => no9 n883 e4, fun _ _ _ _ _ e0 e1 e2 e3 e4 => no9 n899 e4, h_Z, h_s, h_sp⟩, k_d, k_l, k_k, k_e, k_t, k_n, k_j⟩
def ru_cW : Ru := ([(0, (880, (0, (0, 0)))), (0, (881, (0, (0, 0)))), (0, (885, (0, (0, 0)))), (9, (199, (0, (1, 0)))), (3, (0, (0, (0, 0)))), (19, (198, (0, (40, 1)))), (4, (0, (0, (1, 0))))], ([883, 884, 886, 887, 888, 892, 899], ([([(4, 1), (5, (-1))], 0), ([(4, (-1)), (5, 1)], 0), ([(1, (-1))], 0), ([(1, 1), (3, (-1))], (-1)), ([(3, 1)], 40), ([(0, (-1))], 0), ([(0, 1)], 3)], (false, ([([(4, (-1))], (-1)), ([(4, 1)], 1048575)], ([], ([(883, some (4, 0)), (884, some (6, 0))], none)))))))
theorem rk_cW : RuOk SGd ru_cW := by
  intro τ m g hi hc ha hS
  obtain ⟨i0, i1, i2, i3, i4, i5, i6, _⟩ := hi
  have t880 : τ 880 = some (g 0) := i0
  have t881 : τ 881 = some (g 1) := i1
  have t885 : τ 885 = some (g 2) := i2
  obtain ⟨jn, un, vn⟩ : ∃ j : Nat, 1 * g 0 + 0 = (j : Int) ∧ g 3 = m 199 j := i3
  obtain ⟨jx, ux, vx⟩ : ∃ j : Nat, 40 * g 0 + g 1 = (j : Int) ∧ g 5 = m 198 j := i5
  have xone : g 6 = 1 := i6
  obtain ⟨c0, c1, c2, c3, c4, c5, c6, _⟩ := hc
  have c0 : 1 * g 4 + (-1) * g 5 ≤ 0 := d2 c0
  have c1 : (-1) * g 4 + 1 * g 5 ≤ 0 := d2 c1
  have c2 : (-1) * g 1 ≤ 0 := d1 c2
  have c3 : 1 * g 1 + (-1) * g 3 ≤ (-1) := d2 c3
  have c4 : 1 * g 3 ≤ 40 := d1 c4
  have c5 : (-1) * g 0 ≤ 0 := d1 c5
  have c6 : 1 * g 0 ≤ 3 := d1 c6
  obtain ⟨a0, a1, a2, a3, a4, a5, a6, _⟩ := ha
  have n883 : τ 883 = none := a0
  have n884 : τ 884 = none := a1
  have n886 : τ 886 = none := a2
  have n887 : τ 887 = none := a3
  have n888 : τ 888 = none := a4
  have n892 : τ 892 = none := a5
  have n899 : τ 899 = none := a6
  obtain ⟨⟨h_p1, h_p2, h_td⟩, k_b, k_q, k_c, k_d, k_l, k_k, k_e, k_t, k_n, k_j⟩ := hS
  have k_c0 := k_c
  obtain ⟨h_ga, h_in, h_ls, h_ld, h_w, h_rd, h_lead, h_ps, h_E, h_up, h_D, h_Z, h_s, h_sp⟩ := k_c0
  have ejn : jn = (g 0).toNat := by omega
  subst ejn
  have ejx : jx = 40 * (g 0).toNat + (g 1).toNat := by omega
  subst ejx
  have htd := (h_td.2 (g 0).toNat (by omega)).2 (g 1).toNat (by omega)
  exact ⟨rfl, ⟨f1 (by omega), f1 (by omega), trivial⟩, trivial, ⟨h_p1, h_p2, h_td⟩, k_b, k_q, ⟨h_ga, h_in, (fun qa qb A I w ls9 e0 e1 e2 e3 e4 e5 => by
      have e2 : g 0 = A := Option.some.inj (t880.symm.trans e2)
      subst e2
      have e3 : g 1 = I := Option.some.inj (t881.symm.trans e3)
      subst e3
      have e4 : g 4 + 0 = w := Option.some.inj e4
      subst e4
      have e5 : g 6 + 0 = ls9 := Option.some.inj e5
      subst e5
      exact ⟨by omega, (h_in _ _ _ _ e0 e1 t880 t885).2, by omega⟩), fun _ _ _ _ _ _ e0 e1 e2 e3 e4 e5 => no9 n899 e4, (fun w e0 => by
      have e0 : g 4 + 0 = w := Option.some.inj e0
      subst e0
      omega), fun _ _ e0 e1 => no9 n886 e1, fun _ _ _ e0 e1 e2 => no9 n887 e1, fun _ _ _ _ e0 e1 e2 e3 => no9 n886 e1, fun _ _ _ e0 e1 e2 => no9 n886 e1, fun _ _ _ _ _ _ _ _ _ e0 e1 e2 e3 e4 e5 e6 e7 e8 => no9 n892 e5, h_D, h_Z, h_s, h_sp⟩, k_d, k_l, k_k, k_e, k_t, k_n, k_j⟩
def ru_cX : Ru := ([(0, (880, (0, (0, 0)))), (0, (881, (0, (0, 0)))), (1, (2, (0, (0, 0))))], ([883, 884, 885, 886, 887, 888, 892, 899], ([([(0, 1)], 4), ([(0, (-1))], (-4)), ([(1, 1)], 0), ([(1, (-1))], 0), ([(2, (-1))], 0), ([(2, 1)], 1048575)], (false, ([], ([], ([(883, some (2, 0))], none)))))))
theorem rk_cX : RuOk SGd ru_cX := by
  intro τ m g hi hc ha hS
  obtain ⟨i0, i1, i2, _⟩ := hi
  have t880 : τ 880 = some (g 0) := i0
  have t881 : τ 881 = some (g 1) := i1
  obtain ⟨c0, c1, c2, c3, c4, c5, _⟩ := hc
  have c0 : 1 * g 0 ≤ 4 := d1 c0
  have c1 : (-1) * g 0 ≤ (-4) := d1 c1
  have c2 : 1 * g 1 ≤ 0 := d1 c2
  have c3 : (-1) * g 1 ≤ 0 := d1 c3
  have c4 : (-1) * g 2 ≤ 0 := d1 c4
  have c5 : 1 * g 2 ≤ 1048575 := d1 c5
  obtain ⟨a0, a1, a2, a3, a4, a5, a6, a7, _⟩ := ha
  have n883 : τ 883 = none := a0
  have n884 : τ 884 = none := a1
  have n885 : τ 885 = none := a2
  have n886 : τ 886 = none := a3
  have n887 : τ 887 = none := a4
  have n888 : τ 888 = none := a5
  have n892 : τ 892 = none := a6
  have n899 : τ 899 = none := a7
  obtain ⟨⟨h_p1, h_p2, h_td⟩, k_b, k_q, k_c, k_d, k_l, k_k, k_e, k_t, k_n, k_j⟩ := hS
  have k_c0 := k_c
  obtain ⟨h_ga, h_in, h_ls, h_ld, h_w, h_rd, h_lead, h_ps, h_E, h_up, h_D, h_Z, h_s, h_sp⟩ := k_c0
  exact ⟨rfl, trivial, trivial, ⟨h_p1, h_p2, h_td⟩, k_b, k_q, ⟨h_ga, h_in, fun _ _ _ _ _ _ e0 e1 e2 e3 e4 e5 => no9 n884 e5, h_ld, (fun w e0 => by
      have e0 : g 2 + 0 = w := Option.some.inj e0
      subst e0
      omega), fun _ _ e0 e1 => no9 n886 e1, fun _ _ _ e0 e1 e2 => no9 n887 e1, fun _ _ _ _ e0 e1 e2 e3 => no9 n886 e1, fun _ _ _ e0 e1 e2 => no9 n886 e1, fun _ _ _ _ _ _ _ _ _ e0 e1 e2 e3 e4 e5 e6 e7 e8 => no9 n892 e5, h_D, h_Z, h_s, h_sp⟩, k_d, k_l, k_k, k_e, k_t, k_n, k_j⟩
def ru_r0 : Ru := ([(0, (883, (0, (0, 0)))), (0, (880, (0, (0, 0)))), (0, (881, (0, (0, 0)))), (4, (0, (0, (20, 0)))), (4, (0, (0, ((-4), 0))))], ([886, 887, 888, 889, 890, 891, 892, 899], ([], (false, ([], ([], ([(886, some (3, 0)), (887, some (3, 0)), (888, some (4, 0))], none)))))))
theorem rk_r0 : RuOk SGd ru_r0 := by
  intro τ m g hi hc ha hS
  obtain ⟨i0, i1, i2, i3, i4, _⟩ := hi
  have t883 : τ 883 = some (g 0) := i0
  have t880 : τ 880 = some (g 1) := i1
  have t881 : τ 881 = some (g 2) := i2
  have xc20 : g 3 = 20 := i3
  have xnone : g 4 = (-4) := i4
  obtain ⟨a0, a1, a2, a3, a4, a5, a6, a7, _⟩ := ha
  have n886 : τ 886 = none := a0
  have n887 : τ 887 = none := a1
  have n888 : τ 888 = none := a2
  have n889 : τ 889 = none := a3
  have n890 : τ 890 = none := a4
  have n891 : τ 891 = none := a5
  have n892 : τ 892 = none := a6
  have n899 : τ 899 = none := a7
  obtain ⟨⟨h_p1, h_p2, h_td⟩, k_b, k_q, k_c, k_d, k_l, k_k, k_e, k_t, k_n, k_j⟩ := hS
  have k_c0 := k_c
  obtain ⟨h_ga, h_in, h_ls, h_ld, h_w, h_rd, h_lead, h_ps, h_E, h_up, h_D, h_Z, h_s, h_sp⟩ := k_c0
  exact ⟨rfl, trivial, trivial, ⟨h_p1, h_p2, h_td⟩, k_b, k_q, ⟨h_ga, h_in, h_ls, h_ld, h_w, (fun w P e0 e1 => by
      have e0 : g 0 = w := Option.some.inj (t883.symm.trans e0)
      subst e0
      have e1 : g 3 + 0 = P := Option.some.inj e1
      subst e1
      exact ⟨by omega, fun c h1 h2 => by omega⟩), (fun w K L e0 e1 e2 => by
      have e0 : g 0 = w := Option.some.inj (t883.symm.trans e0)
      subst e0
      have e1 : g 3 + 0 = K := Option.some.inj e1
      subst e1
      have e2 : g 4 + 0 = L := Option.some.inj e2
      subst e2
      exact ⟨by omega, Or.inl ⟨by omega, fun c h1 h2 => by omega⟩⟩), fun _ _ _ _ e0 e1 e2 e3 => no9 n889 e2, fun _ _ _ e0 e1 e2 => no9 n891 e2, h_up, h_D, h_Z, h_s, h_sp⟩, k_d, k_l, k_k, k_e, k_t, k_n, k_j⟩
def ru_bC : Ru := ([(0, (880, (0, (0, 0)))), (0, (881, (0, (0, 0)))), (0, (871, (0, (0, 0)))), (0, (872, (0, (0, 0)))), (4, (0, (0, (7, 0)))), (9, (1000, (4, (1, 0))))], ([882, 892, 899], ([], (false, ([([(5, (-1))], 134217727), ([(5, 1)], 134217727)], ([], ([], none)))))))
theorem rk_bC : RuOk SGd ru_bC := by
  intro τ m g hi hc ha hS
  obtain ⟨i0, i1, i2, i3, i4, i5, _⟩ := hi
  have t880 : τ 880 = some (g 0) := i0
  have t881 : τ 881 = some (g 1) := i1
  have t871 : τ 871 = some (g 2) := i2
  have t872 : τ 872 = some (g 3) := i3
  have xjc : g 4 = 7 := i4
  obtain ⟨jd, ud, vd⟩ : ∃ j : Nat, 1 * g 4 + 0 = (j : Int) ∧ g 5 = m 1000 j := i5
  obtain ⟨a0, a1, a2, _⟩ := ha
  have n882 : τ 882 = none := a0
  have n892 : τ 892 = none := a1
  have n899 : τ 899 = none := a2
  obtain ⟨⟨h_p1, h_p2, h_td⟩, k_b, k_q, k_c, k_d, k_l, k_k, k_e, k_t, k_n, k_j⟩ := hS
  have k_c0 := k_c
  obtain ⟨h_ga, h_in, h_ls, h_ld, h_w, h_rd, h_lead, h_ps, h_E, h_up, h_D, h_Z, h_s, h_sp⟩ := k_c0
  have hG := (h_ga _ _ _ _ t871 t872 t880 t881).2 n892 n899
  have ejd : jd = 7 := by omega
  subst ejd
  have hd : -134217728 < m 1000 7 ∧ m 1000 7 < 134217728 := GA_dsmall hG.2.2
  exact ⟨rfl, ⟨f1 (by omega), f1 (by omega), trivial⟩, trivial, ⟨h_p1, h_p2, h_td⟩, k_b, k_q, k_c, k_d, k_l, k_k, k_e, k_t, k_n, k_j⟩
def ru_rS : Ru := ([(0, (883, (0, (0, 0)))), (0, (886, (0, (0, 0)))), (1, (3, (0, (0, 0)))), (13, (4, (0, (0, 0)))), (4, (0, (0, (0, 0)))), (4, (0, (0, (7, 0)))), (9, (1000, (5, (1, 0)))), (0, (840, (0, (0, 0)))), (0, (841, (0, (0, 0)))), (0, (842, (0, (0, 0)))), (0, (850, (0, (0, 0)))), (0, (851, (0, (0, 0)))), (0, (852, (0, (0, 0))))], ([889, 890, 891], ([([(0, (-1)), (7, 1)], 0), ([(0, 1), (7, (-1))], 0), ([(2, (-1)), (8, 1)], 0), ([(2, 1), (8, (-1))], 0), ([(1, (-1)), (2, 1)], (-1)), ([(1, 1), (2, (-1))], 1), ([(2, (-1))], 0), ([(2, 1)], 19), ([(6, (-1)), (10, 1)], 0), ([(6, 1), (10, (-1))], 0), ([(9, (-1)), (11, 1)], 0), ([(9, 1), (11, (-1))], 0), ([(3, 1), (12, (-1))], 0), ([(3, (-1)), (12, 1)], 0)], (false, ([], ([], ([(889, some (4, 0)), (890, some (3, 0)), (840, none), (841, none), (842, none), (850, none), (851, none), (852, none)], none)))))))
theorem rk_rS : RuOk SGd ru_rS := by
  intro τ m g hi hc ha hS
  obtain ⟨i0, i1, i2, i3, i4, i5, i6, i7, i8, i9, i10, i11, i12, _⟩ := hi
  have t883 : τ 883 = some (g 0) := i0
  have t886 : τ 886 = some (g 1) := i1
  have xzero : g 4 = 0 := i4
  have xjc : g 5 = 7 := i5
  obtain ⟨jd, ud, vd⟩ : ∃ j : Nat, 1 * g 5 + 0 = (j : Int) ∧ g 6 = m 1000 j := i6
  have t840 : τ 840 = some (g 7) := i7
  have t841 : τ 841 = some (g 8) := i8
  have t842 : τ 842 = some (g 9) := i9
  have t850 : τ 850 = some (g 10) := i10
  have t851 : τ 851 = some (g 11) := i11
  have t852 : τ 852 = some (g 12) := i12
  obtain ⟨c0, c1, c2, c3, c4, c5, c6, c7, c8, c9, c10, c11, c12, c13, _⟩ := hc
  have c0 : (-1) * g 0 + 1 * g 7 ≤ 0 := d2 c0
  have c1 : 1 * g 0 + (-1) * g 7 ≤ 0 := d2 c1
  have c2 : (-1) * g 2 + 1 * g 8 ≤ 0 := d2 c2
  have c3 : 1 * g 2 + (-1) * g 8 ≤ 0 := d2 c3
  have c4 : (-1) * g 1 + 1 * g 2 ≤ (-1) := d2 c4
  have c5 : 1 * g 1 + (-1) * g 2 ≤ 1 := d2 c5
  have c6 : (-1) * g 2 ≤ 0 := d1 c6
  have c7 : 1 * g 2 ≤ 19 := d1 c7
  have c8 : (-1) * g 6 + 1 * g 10 ≤ 0 := d2 c8
  have c9 : 1 * g 6 + (-1) * g 10 ≤ 0 := d2 c9
  have c10 : (-1) * g 9 + 1 * g 11 ≤ 0 := d2 c10
  have c11 : 1 * g 9 + (-1) * g 11 ≤ 0 := d2 c11
  have c12 : 1 * g 3 + (-1) * g 12 ≤ 0 := d2 c12
  have c13 : (-1) * g 3 + 1 * g 12 ≤ 0 := d2 c13
  obtain ⟨a0, a1, a2, _⟩ := ha
  have n889 : τ 889 = none := a0
  have n890 : τ 890 = none := a1
  have n891 : τ 891 = none := a2
  obtain ⟨⟨h_p1, h_p2, h_td⟩, k_b, k_q, k_c, k_d, k_l, k_k, k_e, k_t, k_n, k_j⟩ := hS
  have k_c0 := k_c
  obtain ⟨h_ga, h_in, h_ls, h_ld, h_w, h_rd, h_lead, h_ps, h_E, h_up, h_D, h_Z, h_s, h_sp⟩ := k_c0
  have k_b0 := k_b
  obtain ⟨h_bit, h_one, h_or, h_and, h_shr, h_m1, h_m2, h_dv, h_r1, h_r2, h_nz⟩ := k_b0
  exact ⟨rfl, trivial, trivial, ⟨h_p1, h_p2, h_td⟩, ⟨fun _ _ _ e0 e1 e2 => no9 (o := none) rfl e0, h_one, h_or, h_and, h_shr, fun _ _ _ e0 e1 e2 => no9 (o := none) rfl e0, h_m2, h_dv, h_r1, h_r2, h_nz⟩, k_q, ⟨h_ga, h_in, h_ls, h_ld, h_w, h_rd, h_lead, (fun w P Rr S e0 e1 e2 e3 => by
      have e0 : g 0 = w := Option.some.inj (t883.symm.trans e0)
      subst e0
      have e1 : g 1 = P := Option.some.inj (t886.symm.trans e1)
      subst e1
      have e2 : g 4 + 0 = Rr := Option.some.inj e2
      subst e2
      have e3 : g 3 + 0 = S := Option.some.inj e3
      subst e3
      have hb := R840x (h_bit _ _ _ t840 t841 t842) (by omega) (by omega)
      have hm := h_m1 _ _ _ t850 t851 t852
      have h2 := h_rd _ _ t883 t886
      have ejd : jd = 7 := by omega
      subst ejd
      have z : g 4 + 0 = 0 := by omega
      have ep : (g 8).toNat = (g 1).toNat - 1 := by omega
      rw [z]
      refine ⟨by omega, by omega, ?_⟩
      show g 3 + 0 = psG m (g 0) 0 ((g 1).toNat - 1)
      rw [ps_zero]
      have ex : g 7 = g 0 := by omega
      rw [ep, ex] at hb
      have hv : bvG (g 0) ((g 1).toNat - 1) = bxG (g 0) ((g 1).toNat - 1) := by unfold bvG; rw [if_pos (by omega)]
      rw [hv, ← hb]
      show g 3 + 0 = m 1000 7 * g 9
      rw [← vd, ← (show g 10 = g 6 by omega), ← (show g 11 = g 9 by omega), ← hm]
      omega), h_E, h_up, h_D, h_Z, h_s, h_sp⟩, k_d, k_l, k_k, k_e, k_t, k_n, k_j⟩
def ru_rbS : Ru := ([(0, (880, (0, (0, 0)))), (0, (881, (0, (0, 0)))), (0, (871, (0, (0, 0)))), (0, (872, (0, (0, 0)))), (0, (890, (0, (0, 0)))), (0, (889, (0, (0, 0)))), (0, (886, (0, (0, 0)))), (0, (883, (0, (0, 0))))], ([892, 899], ([([(6, (-1))], (-1))], (false, ([([(4, (-1))], 2952790000), ([(4, 1)], 2952790000)], ([], ([], none)))))))
theorem rk_rbS : RuOk SGd ru_rbS := by
  intro τ m g hi hc ha hS
  obtain ⟨i0, i1, i2, i3, i4, i5, i6, i7, _⟩ := hi
  have t880 : τ 880 = some (g 0) := i0
  have t881 : τ 881 = some (g 1) := i1
  have t871 : τ 871 = some (g 2) := i2
  have t872 : τ 872 = some (g 3) := i3
  have t890 : τ 890 = some (g 4) := i4
  have t889 : τ 889 = some (g 5) := i5
  have t886 : τ 886 = some (g 6) := i6
  have t883 : τ 883 = some (g 7) := i7
  obtain ⟨c0, _⟩ := hc
  have c0 : (-1) * g 6 ≤ (-1) := d1 c0
  obtain ⟨a0, a1, _⟩ := ha
  have n892 : τ 892 = none := a0
  have n899 : τ 899 = none := a1
  obtain ⟨⟨h_p1, h_p2, h_td⟩, k_b, k_q, k_c, k_d, k_l, k_k, k_e, k_t, k_n, k_j⟩ := hS
  have k_c0 := k_c
  obtain ⟨h_ga, h_in, h_ls, h_ld, h_w, h_rd, h_lead, h_ps, h_E, h_up, h_D, h_Z, h_s, h_sp⟩ := k_c0
  have hG := (h_ga _ _ _ _ t871 t872 t880 t881).2 n892 n899
  have h2 := h_ps _ _ _ _ t883 t886 t889 t890
  have hs := ps_small hG (g 7) ((g 6).toNat - 1) (g 5).toNat (by omega)
  have hk : kGm m ≤ 20 := by obtain ⟨_, _, q, _⟩ := hG.2.2; exact q
  rw [← h2.2.2] at hs
  exact ⟨rfl, ⟨f1 (by omega), f1 (by omega), trivial⟩, trivial, ⟨h_p1, h_p2, h_td⟩, k_b, k_q, k_c, k_d, k_l, k_k, k_e, k_t, k_n, k_j⟩
def ru_rbB : Ru := ([(0, (880, (0, (0, 0)))), (0, (881, (0, (0, 0)))), (0, (871, (0, (0, 0)))), (0, (872, (0, (0, 0)))), (1, (6, (0, (0, 0)))), (1, (3, (0, (0, 0)))), (18, (76, (4, (5, 0)))), (5, (70, (6, (0, 0))))], ([882, 892, 899], ([([(4, (-1))], 0), ([(4, 1), (7, (-1))], (-1)), ([(5, (-1))], 0), ([(5, 1)], 19)], (false, ([([(6, (-1))], 134217727), ([(6, 1)], 134217727)], ([], ([], none)))))))
theorem rk_rbB : RuOk SGd ru_rbB := by
  intro τ m g hi hc ha hS
  obtain ⟨i0, i1, i2, i3, i4, i5, i6, i7, _⟩ := hi
  have t880 : τ 880 = some (g 0) := i0
  have t881 : τ 881 = some (g 1) := i1
  have t871 : τ 871 = some (g 2) := i2
  have t872 : τ 872 = some (g 3) := i3
  obtain ⟨ry, jy, ly, uy, wy, vy⟩ : ∃ r j : Nat, r < 20 ∧ g 4 = (r : Int) ∧ g 5 = (j : Int) ∧ g 6 = m (76 + r) j := i6
  have xk : g 7 = m 70 6 := i7
  obtain ⟨c0, c1, c2, c3, _⟩ := hc
  have c0 : (-1) * g 4 ≤ 0 := d1 c0
  have c1 : 1 * g 4 + (-1) * g 7 ≤ (-1) := d2 c1
  have c2 : (-1) * g 5 ≤ 0 := d1 c2
  have c3 : 1 * g 5 ≤ 19 := d1 c3
  obtain ⟨a0, a1, a2, _⟩ := ha
  have n882 : τ 882 = none := a0
  have n892 : τ 892 = none := a1
  have n899 : τ 899 = none := a2
  obtain ⟨⟨h_p1, h_p2, h_td⟩, k_b, k_q, k_c, k_d, k_l, k_k, k_e, k_t, k_n, k_j⟩ := hS
  have k_c0 := k_c
  obtain ⟨h_ga, h_in, h_ls, h_ld, h_w, h_rd, h_lead, h_ps, h_E, h_up, h_D, h_Z, h_s, h_sp⟩ := k_c0
  have hG := (h_ga _ _ _ _ t871 t872 t880 t881).2 n892 n899
  have hs := GA_small hG.2.2 ry jy (by show ry < (m 70 6).toNat; omega)
  have hB : BGm m ry jy = m (76 + ry) jy := by unfold BGm; rw [if_pos (by omega)]
  rw [hB] at hs
  exact ⟨rfl, ⟨f1 (by omega), f1 (by omega), trivial⟩, trivial, ⟨h_p1, h_p2, h_td⟩, k_b, k_q, k_c, k_d, k_l, k_k, k_e, k_t, k_n, k_j⟩
def ru_rA : Ru := ([(0, (880, (0, (0, 0)))), (0, (881, (0, (0, 0)))), (0, (871, (0, (0, 0)))), (0, (872, (0, (0, 0)))), (0, (883, (0, (0, 0)))), (0, (886, (0, (0, 0)))), (0, (889, (0, (0, 0)))), (0, (890, (0, (0, 0)))), (1, (3, (0, (0, 0)))), (13, (4, (0, (0, 0)))), (9, (96, (6, (1, 0)))), (18, (76, (6, (8, 0)))), (5, (70, (6, (0, 0)))), (0, (840, (0, (0, 0)))), (0, (841, (0, (0, 0)))), (0, (842, (0, (0, 0)))), (0, (853, (0, (0, 0)))), (0, (854, (0, (0, 0)))), (0, (855, (0, (0, 0))))], ([892, 899], ([([(5, (-1)), (8, 1)], (-1)), ([(5, 1), (8, (-1))], 1), ([(8, (-1))], 0), ([(8, 1)], 19), ([(4, (-1)), (13, 1)], 0), ([(4, 1), (13, (-1))], 0), ([(10, (-1)), (14, 1)], 0), ([(10, 1), (14, (-1))], 0), ([(15, (-1)), (16, 1)], 0), ([(15, 1), (16, (-1))], 0), ([(11, (-1)), (17, 1)], 0), ([(11, 1), (17, (-1))], 0), ([(7, (-1)), (9, 1), (18, 1)], 0), ([(7, 1), (9, (-1)), (18, (-1))], 0), ([(6, (-1))], 0), ([(6, 1), (12, (-1))], (-1))], (false, ([], ([], ([(889, some (6, 1)), (890, some (9, 0)), (840, none), (841, none), (842, none), (853, none), (854, none), (855, none)], none)))))))
theorem rk_rA : RuOk SGd ru_rA := by
  intro τ m g hi hc ha hS
  obtain ⟨i0, i1, i2, i3, i4, i5, i6, i7, i8, i9, i10, i11, i12, i13, i14, i15, i16, i17, i18, _⟩ := hi
  have t880 : τ 880 = some (g 0) := i0
  have t881 : τ 881 = some (g 1) := i1
  have t871 : τ 871 = some (g 2) := i2
  have t872 : τ 872 = some (g 3) := i3
  have t883 : τ 883 = some (g 4) := i4
  have t886 : τ 886 = some (g 5) := i5
  have t889 : τ 889 = some (g 6) := i6
  have t890 : τ 890 = some (g 7) := i7
  obtain ⟨jpv, upv, vpv⟩ : ∃ j : Nat, 1 * g 6 + 0 = (j : Int) ∧ g 10 = m 96 j := i10
  obtain ⟨ry, jy, ly, uy, wy, vy⟩ : ∃ r j : Nat, r < 20 ∧ g 6 = (r : Int) ∧ g 8 = (j : Int) ∧ g 11 = m (76 + r) j := i11
  have xk : g 12 = m 70 6 := i12
  have t840 : τ 840 = some (g 13) := i13
  have t841 : τ 841 = some (g 14) := i14
  have t842 : τ 842 = some (g 15) := i15
  have t853 : τ 853 = some (g 16) := i16
  have t854 : τ 854 = some (g 17) := i17
  have t855 : τ 855 = some (g 18) := i18
  obtain ⟨c0, c1, c2, c3, c4, c5, c6, c7, c8, c9, c10, c11, c12, c13, c14, c15, _⟩ := hc
  have c0 : (-1) * g 5 + 1 * g 8 ≤ (-1) := d2 c0
  have c1 : 1 * g 5 + (-1) * g 8 ≤ 1 := d2 c1
  have c2 : (-1) * g 8 ≤ 0 := d1 c2
  have c3 : 1 * g 8 ≤ 19 := d1 c3
  have c4 : (-1) * g 4 + 1 * g 13 ≤ 0 := d2 c4
  have c5 : 1 * g 4 + (-1) * g 13 ≤ 0 := d2 c5
  have c6 : (-1) * g 10 + 1 * g 14 ≤ 0 := d2 c6
  have c7 : 1 * g 10 + (-1) * g 14 ≤ 0 := d2 c7
  have c8 : (-1) * g 15 + 1 * g 16 ≤ 0 := d2 c8
  have c9 : 1 * g 15 + (-1) * g 16 ≤ 0 := d2 c9
  have c10 : (-1) * g 11 + 1 * g 17 ≤ 0 := d2 c10
  have c11 : 1 * g 11 + (-1) * g 17 ≤ 0 := d2 c11
  have c12 : (-1) * g 7 + 1 * g 9 + 1 * g 18 ≤ 0 := d3 c12
  have c13 : 1 * g 7 + (-1) * g 9 + (-1) * g 18 ≤ 0 := d3 c13
  have c14 : (-1) * g 6 ≤ 0 := d1 c14
  have c15 : 1 * g 6 + (-1) * g 12 ≤ (-1) := d2 c15
  obtain ⟨a0, a1, _⟩ := ha
  have n892 : τ 892 = none := a0
  have n899 : τ 899 = none := a1
  obtain ⟨⟨h_p1, h_p2, h_td⟩, k_b, k_q, k_c, k_d, k_l, k_k, k_e, k_t, k_n, k_j⟩ := hS
  have k_c0 := k_c
  obtain ⟨h_ga, h_in, h_ls, h_ld, h_w, h_rd, h_lead, h_ps, h_E, h_up, h_D, h_Z, h_s, h_sp⟩ := k_c0
  have k_b0 := k_b
  obtain ⟨h_bit, h_one, h_or, h_and, h_shr, h_m1, h_m2, h_dv, h_r1, h_r2, h_nz⟩ := k_b0
  exact ⟨rfl, trivial, trivial, ⟨h_p1, h_p2, h_td⟩, ⟨fun _ _ _ e0 e1 e2 => no9 (o := none) rfl e0, h_one, h_or, h_and, h_shr, h_m1, fun _ _ _ e0 e1 e2 => no9 (o := none) rfl e0, h_dv, h_r1, h_r2, h_nz⟩, k_q, ⟨h_ga, h_in, h_ls, h_ld, h_w, h_rd, h_lead, (fun w P Rr S e0 e1 e2 e3 => by
      have e0 : g 4 = w := Option.some.inj (t883.symm.trans e0)
      subst e0
      have e1 : g 5 = P := Option.some.inj (t886.symm.trans e1)
      subst e1
      have e2 : g 6 + 1 = Rr := Option.some.inj e2
      subst e2
      have e3 : g 9 + 0 = S := Option.some.inj e3
      subst e3
      have hG := (h_ga _ _ _ _ t871 t872 t880 t881).2 n892 n899
      have ejp : jpv = (g 6).toNat := by omega
      subst ejp
      have hp0 := hG.2.1 (g 6).toNat (by show (g 6).toNat < (m 70 6).toNat; omega)
      have hp1 : (m 96 (g 6).toNat).toNat < 20 := by obtain ⟨_, _, _, q, _⟩ := hG.2.2; exact q (g 6).toNat (by show (g 6).toNat < (m 70 6).toNat; omega)
      have hb := R840x (h_bit _ _ _ t840 t841 t842) (by omega) (by omega)
      have hm := h_m2 _ _ _ t853 t854 t855
      have h2 := h_ps _ _ _ _ t883 t886 t889 t890
      have h3 := h_rd _ _ t883 t886
      have er : ry = (g 6).toNat := by omega
      have ejy : jy = (g 5).toNat - 1 := by omega
      subst er
      subst ejy
      have e9 : (g 6 + 1).toNat = (g 6).toNat + 1 := by omega
      refine ⟨⟨by omega, by show g 6 + 1 ≤ ((m 70 6).toNat : Int); omega⟩, by omega, ?_⟩
      rw [e9, ps_succ, ← h2.2.2]
      have ex : g 13 = g 4 := by omega
      have eo : (g 14).toNat = qGm m (g 6).toNat := by show (g 14).toNat = (m 96 (g 6).toNat).toNat; omega
      rw [eo, ex] at hb
      have hv : bvG (g 4) (qGm m (g 6).toNat) = bxG (g 4) (qGm m (g 6).toNat) := by unfold bvG; rw [if_pos (by rw [← eo]; omega)]
      have hB : BGm m (g 6).toNat ((g 5).toNat - 1) = m (76 + (g 6).toNat) ((g 5).toNat - 1) := by unfold BGm; rw [if_pos (by omega)]
      rw [hv, ← hb, hB, ← vy, ← (show g 16 = g 15 by omega), ← (show g 17 = g 11 by omega), ← hm]
      omega), h_E, h_up, h_D, h_Z, h_s, h_sp⟩, k_d, k_l, k_k, k_e, k_t, k_n, k_j⟩
def ru_l0 : Ru := ([(0, (891, (0, (0, 0)))), (0, (886, (0, (0, 0)))), (0, (887, (0, (0, 0)))), (0, (888, (0, (0, 0)))), (0, (883, (0, (0, 0))))], ([], ([([(0, 1)], 0), ([(0, (-1))], 0), ([(1, (-1)), (2, 1)], 1), ([(1, 1), (2, (-1))], (-1)), ([(1, (-1))], 0)], (false, ([], ([], ([(887, some (1, 0)), (891, none)], none)))))))
theorem rk_l0 : RuOk SGd ru_l0 := by
  intro τ m g hi hc ha hS
  obtain ⟨i0, i1, i2, i3, i4, _⟩ := hi
  have t891 : τ 891 = some (g 0) := i0
  have t886 : τ 886 = some (g 1) := i1
  have t887 : τ 887 = some (g 2) := i2
  have t888 : τ 888 = some (g 3) := i3
  have t883 : τ 883 = some (g 4) := i4
  obtain ⟨c0, c1, c2, c3, c4, _⟩ := hc
  have c0 : 1 * g 0 ≤ 0 := d1 c0
  have c1 : (-1) * g 0 ≤ 0 := d1 c1
  have c2 : (-1) * g 1 + 1 * g 2 ≤ 1 := d2 c2
  have c3 : 1 * g 1 + (-1) * g 2 ≤ (-1) := d2 c3
  have c4 : (-1) * g 1 ≤ 0 := d1 c4
  obtain ⟨⟨h_p1, h_p2, h_td⟩, k_b, k_q, k_c, k_d, k_l, k_k, k_e, k_t, k_n, k_j⟩ := hS
  have k_c0 := k_c
  obtain ⟨h_ga, h_in, h_ls, h_ld, h_w, h_rd, h_lead, h_ps, h_E, h_up, h_D, h_Z, h_s, h_sp⟩ := k_c0
  exact ⟨rfl, trivial, trivial, ⟨h_p1, h_p2, h_td⟩, k_b, k_q, ⟨h_ga, h_in, h_ls, h_ld, h_w, h_rd, (fun w K L e0 e1 e2 => by
      have e0 : g 4 = w := Option.some.inj (t883.symm.trans e0)
      subst e0
      have e1 : g 1 + 0 = K := Option.some.inj e1
      subst e1
      have e2 : g 3 = L := Option.some.inj (t888.symm.trans e2)
      subst e2
      have h1 := h_lead _ _ _ t883 t887 t888
      have h2 := h_E _ _ _ t883 t886 t891
      refine ⟨by omega, ?_⟩
      rcases h1.2 with ⟨q1, q2⟩ | q
      · refine Or.inl ⟨q1, fun c h3 h4 => ?_⟩
        by_cases e : (c : Int) = g 1
        · have e9 : c = (g 1).toNat := by omega
          rw [e9, ← h2.2]; omega
        · exact q2 c (by omega) h4
      · exact Or.inr q), h_ps, fun _ _ _ e0 e1 e2 => no9 (o := none) rfl e2, h_up, h_D, h_Z, h_s, h_sp⟩, k_d, k_l, k_k, k_e, k_t, k_n, k_j⟩
def ru_lp : Ru := ([(0, (891, (0, (0, 0)))), (0, (886, (0, (0, 0)))), (0, (887, (0, (0, 0)))), (0, (888, (0, (0, 0)))), (0, (883, (0, (0, 0)))), (1, (3, (0, (0, 0))))], ([], ([([(0, (-1))], (-1)), ([(1, (-1)), (2, 1)], 1), ([(1, 1), (2, (-1))], (-1)), ([(1, (-1)), (5, 1)], 0), ([(1, 1), (5, (-1))], 0), ([(1, (-1))], 0), ([(1, 1)], 19)], (false, ([], ([], ([(887, some (1, 0)), (888, some (5, 0)), (891, none)], none)))))))
theorem rk_lp : RuOk SGd ru_lp := by
  intro τ m g hi hc ha hS
  obtain ⟨i0, i1, i2, i3, i4, i5, _⟩ := hi
  have t891 : τ 891 = some (g 0) := i0
  have t886 : τ 886 = some (g 1) := i1
  have t887 : τ 887 = some (g 2) := i2
  have t888 : τ 888 = some (g 3) := i3
  have t883 : τ 883 = some (g 4) := i4
  obtain ⟨c0, c1, c2, c3, c4, c5, c6, _⟩ := hc
  have c0 : (-1) * g 0 ≤ (-1) := d1 c0
  have c1 : (-1) * g 1 + 1 * g 2 ≤ 1 := d2 c1
  have c2 : 1 * g 1 + (-1) * g 2 ≤ (-1) := d2 c2
  have c3 : (-1) * g 1 + 1 * g 5 ≤ 0 := d2 c3
  have c4 : 1 * g 1 + (-1) * g 5 ≤ 0 := d2 c4
  have c5 : (-1) * g 1 ≤ 0 := d1 c5
  have c6 : 1 * g 1 ≤ 19 := d1 c6
  obtain ⟨⟨h_p1, h_p2, h_td⟩, k_b, k_q, k_c, k_d, k_l, k_k, k_e, k_t, k_n, k_j⟩ := hS
  have k_c0 := k_c
  obtain ⟨h_ga, h_in, h_ls, h_ld, h_w, h_rd, h_lead, h_ps, h_E, h_up, h_D, h_Z, h_s, h_sp⟩ := k_c0
  exact ⟨rfl, trivial, trivial, ⟨h_p1, h_p2, h_td⟩, k_b, k_q, ⟨h_ga, h_in, h_ls, h_ld, h_w, h_rd, (fun w K L e0 e1 e2 => by
      have e0 : g 4 = w := Option.some.inj (t883.symm.trans e0)
      subst e0
      have e1 : g 1 + 0 = K := Option.some.inj e1
      subst e1
      have e2 : g 5 + 0 = L := Option.some.inj e2
      subst e2
      have h1 := h_lead _ _ _ t883 t887 t888
      have h2 := h_E _ _ _ t883 t886 t891
      have e9 : (g 5 + 0).toNat = (g 1).toNat := by omega
      refine ⟨by omega, Or.inr ⟨by omega, ?_⟩⟩
      rw [e9, ← h2.2]; omega), h_ps, fun _ _ _ e0 e1 e2 => no9 (o := none) rfl e2, h_up, h_D, h_Z, h_s, h_sp⟩, k_d, k_l, k_k, k_e, k_t, k_n, k_j⟩
def ru_ln : Ru := ([(0, (891, (0, (0, 0)))), (0, (886, (0, (0, 0)))), (0, (887, (0, (0, 0)))), (0, (888, (0, (0, 0)))), (0, (883, (0, (0, 0)))), (1, (3, (0, (0, 0))))], ([], ([([(0, 1)], (-1)), ([(1, (-1)), (2, 1)], 1), ([(1, 1), (2, (-1))], (-1)), ([(1, (-1)), (5, 1)], 0), ([(1, 1), (5, (-1))], 0), ([(1, (-1))], 0), ([(1, 1)], 19)], (false, ([], ([], ([(887, some (1, 0)), (888, some (5, 0)), (891, none)], none)))))))
theorem rk_ln : RuOk SGd ru_ln := by
  intro τ m g hi hc ha hS
  obtain ⟨i0, i1, i2, i3, i4, i5, _⟩ := hi
  have t891 : τ 891 = some (g 0) := i0
  have t886 : τ 886 = some (g 1) := i1
  have t887 : τ 887 = some (g 2) := i2
  have t888 : τ 888 = some (g 3) := i3
  have t883 : τ 883 = some (g 4) := i4
  obtain ⟨c0, c1, c2, c3, c4, c5, c6, _⟩ := hc
  have c0 : 1 * g 0 ≤ (-1) := d1 c0
  have c1 : (-1) * g 1 + 1 * g 2 ≤ 1 := d2 c1
  have c2 : 1 * g 1 + (-1) * g 2 ≤ (-1) := d2 c2
  have c3 : (-1) * g 1 + 1 * g 5 ≤ 0 := d2 c3
  have c4 : 1 * g 1 + (-1) * g 5 ≤ 0 := d2 c4
  have c5 : (-1) * g 1 ≤ 0 := d1 c5
  have c6 : 1 * g 1 ≤ 19 := d1 c6
  obtain ⟨⟨h_p1, h_p2, h_td⟩, k_b, k_q, k_c, k_d, k_l, k_k, k_e, k_t, k_n, k_j⟩ := hS
  have k_c0 := k_c
  obtain ⟨h_ga, h_in, h_ls, h_ld, h_w, h_rd, h_lead, h_ps, h_E, h_up, h_D, h_Z, h_s, h_sp⟩ := k_c0
  exact ⟨rfl, trivial, trivial, ⟨h_p1, h_p2, h_td⟩, k_b, k_q, ⟨h_ga, h_in, h_ls, h_ld, h_w, h_rd, (fun w K L e0 e1 e2 => by
      have e0 : g 4 = w := Option.some.inj (t883.symm.trans e0)
      subst e0
      have e1 : g 1 + 0 = K := Option.some.inj e1
      subst e1
      have e2 : g 5 + 0 = L := Option.some.inj e2
      subst e2
      have h1 := h_lead _ _ _ t883 t887 t888
      have h2 := h_E _ _ _ t883 t886 t891
      have e9 : (g 5 + 0).toNat = (g 1).toNat := by omega
      refine ⟨by omega, Or.inr ⟨by omega, ?_⟩⟩
      rw [e9, ← h2.2]; omega), h_ps, fun _ _ _ e0 e1 e2 => no9 (o := none) rfl e2, h_up, h_D, h_Z, h_s, h_sp⟩, k_d, k_l, k_k, k_e, k_t, k_n, k_j⟩
def ru_lr : Ru := ([(0, (886, (0, (0, 0)))), (0, (887, (0, (0, 0)))), (0, (888, (0, (0, 0)))), (0, (883, (0, (0, 0))))], ([892], ([([(2, (-1))], 3)], (false, ([([(2, (-1))], 0), ([(2, 1)], 19)], ([], ([], none)))))))
theorem rk_lr : RuOk SGd ru_lr := by
  intro τ m g hi hc ha hS
  obtain ⟨i0, i1, i2, i3, _⟩ := hi
  have t886 : τ 886 = some (g 0) := i0
  have t887 : τ 887 = some (g 1) := i1
  have t888 : τ 888 = some (g 2) := i2
  have t883 : τ 883 = some (g 3) := i3
  obtain ⟨c0, _⟩ := hc
  have c0 : (-1) * g 2 ≤ 3 := d1 c0
  obtain ⟨a0, _⟩ := ha
  have n892 : τ 892 = none := a0
  obtain ⟨⟨h_p1, h_p2, h_td⟩, k_b, k_q, k_c, k_d, k_l, k_k, k_e, k_t, k_n, k_j⟩ := hS
  have k_c0 := k_c
  obtain ⟨h_ga, h_in, h_ls, h_ld, h_w, h_rd, h_lead, h_ps, h_E, h_up, h_D, h_Z, h_s, h_sp⟩ := k_c0
  have h1 := h_lead _ _ _ t883 t887 t888
  exact ⟨rfl, ⟨f1 (by omega), f1 (by omega), trivial⟩, trivial, ⟨h_p1, h_p2, h_td⟩, k_b, k_q, k_c, k_d, k_l, k_k, k_e, k_t, k_n, k_j⟩
def ru_z : Ru := ([(0, (886, (0, (0, 0)))), (0, (887, (0, (0, 0)))), (0, (888, (0, (0, 0)))), (0, (883, (0, (0, 0))))], ([889, 891, 892, 899], ([([(0, 1)], 0), ([(0, (-1))], 0), ([(1, 1)], 0), ([(1, (-1))], 0), ([(2, 1)], (-4)), ([(2, (-1))], 4)], (false, ([], ([], ([(899, some (3, 0)), (883, none), (886, none), (887, none), (888, none)], none)))))))
theorem rk_z : RuOk SGd ru_z := by
  intro τ m g hi hc ha hS
  obtain ⟨i0, i1, i2, i3, _⟩ := hi
  have t886 : τ 886 = some (g 0) := i0
  have t887 : τ 887 = some (g 1) := i1
  have t888 : τ 888 = some (g 2) := i2
  have t883 : τ 883 = some (g 3) := i3
  obtain ⟨c0, c1, c2, c3, c4, c5, _⟩ := hc
  have c0 : 1 * g 0 ≤ 0 := d1 c0
  have c1 : (-1) * g 0 ≤ 0 := d1 c1
  have c2 : 1 * g 1 ≤ 0 := d1 c2
  have c3 : (-1) * g 1 ≤ 0 := d1 c3
  have c4 : 1 * g 2 ≤ (-4) := d1 c4
  have c5 : (-1) * g 2 ≤ 4 := d1 c5
  obtain ⟨a0, a1, a2, a3, _⟩ := ha
  have n889 : τ 889 = none := a0
  have n891 : τ 891 = none := a1
  have n892 : τ 892 = none := a2
  have n899 : τ 899 = none := a3
  obtain ⟨⟨h_p1, h_p2, h_td⟩, k_b, k_q, k_c, k_d, k_l, k_k, k_e, k_t, k_n, k_j⟩ := hS
  have k_c0 := k_c
  obtain ⟨h_ga, h_in, h_ls, h_ld, h_w, h_rd, h_lead, h_ps, h_E, h_up, h_D, h_Z, h_s, h_sp⟩ := k_c0
  exact ⟨rfl, trivial, trivial, ⟨h_p1, h_p2, h_td⟩, k_b, k_q, ⟨(fun qa qb A I e0 e1 e2 e3 => by
      have h1 := h_ga _ _ _ _ e0 e1 e2 e3
      exact ⟨h1.1, fun _ e8 => no9 e8 rfl⟩), h_in, fun _ _ _ _ _ _ e0 e1 e2 e3 e4 e5 => no9 (o := none) rfl e4, (fun qa qb A I D ls9 e0 e1 e2 e3 e4 e5 => by
      have e4 : g 3 + 0 = D := Option.some.inj e4
      subst e4
      have h1 := h_ls _ _ _ _ _ _ e0 e1 e2 e3 t883 e5
      exact ⟨h1.1, h1.2.1, by have := h1.2.2; omega⟩), fun _ e0 => no9 (o := none) rfl e0, fun _ _ e0 e1 => no9 (o := none) rfl e0, fun _ _ _ e0 e1 e2 => no9 (o := none) rfl e0, fun _ _ _ _ e0 e1 e2 e3 => no9 (o := none) rfl e0, fun _ _ _ e0 e1 e2 => no9 (o := none) rfl e0, fun _ _ _ _ _ _ _ _ _ e0 e1 e2 e3 e4 e5 e6 e7 e8 => no9 (o := none) rfl e4, (fun qa qb A I D e0 e1 e2 e3 e4 => by
      have e4 : g 3 + 0 = D := Option.some.inj e4
      subst e4
      have h1 := h_ga _ _ _ _ e0 e1 e2 e3
      have h2 := h_lead _ _ _ t883 t887 t888
      have h3 := h_w _ t883
      have z : g 3 + 0 = g 3 := by omega
      rw [z]
      have hz : ∀ c, lfG (kGm m) (qGm m) (dGm m) (BGm m) (bvG (g 3)) c = 0 := fun c => by
        rcases h2.2 with q | q
        · by_cases e : c < 20
          · exact q.2 c (by omega) e
          · exact lfm_out m (g 3) c (by omega)
        · omega
      have hG := h1.2 n892 n899
      exact ⟨h3, hG.1, hG.2.1, GA_same hG.2.2 hz (fun x => Iff.rfl)⟩), h_Z, h_s, h_sp⟩, k_d, k_l, k_k, k_e, k_t, k_n, k_j⟩
def ru_zR : Ru := ([(0, (886, (0, (0, 0)))), (0, (887, (0, (0, 0)))), (0, (888, (0, (0, 0)))), (0, (883, (0, (0, 0)))), (0, (880, (0, (0, 0)))), (0, (881, (0, (0, 0)))), (0, (871, (0, (0, 0)))), (0, (872, (0, (0, 0)))), (5, (70, (6, (0, 0))))], ([892, 899], ([([(0, 1)], 0), ([(0, (-1))], 0), ([(1, 1)], 0), ([(1, (-1))], 0), ([(2, (-1))], 0), ([(8, (-1))], (-20))], (true, ([], ([], ([], none)))))))
theorem rk_zR : RuOk SGd ru_zR := by
  intro τ m g hi hc ha hS
  obtain ⟨i0, i1, i2, i3, i4, i5, i6, i7, i8, _⟩ := hi
  have t886 : τ 886 = some (g 0) := i0
  have t887 : τ 887 = some (g 1) := i1
  have t888 : τ 888 = some (g 2) := i2
  have t883 : τ 883 = some (g 3) := i3
  have t880 : τ 880 = some (g 4) := i4
  have t881 : τ 881 = some (g 5) := i5
  have t871 : τ 871 = some (g 6) := i6
  have t872 : τ 872 = some (g 7) := i7
  have xk : g 8 = m 70 6 := i8
  obtain ⟨c0, c1, c2, c3, c4, c5, _⟩ := hc
  have c0 : 1 * g 0 ≤ 0 := d1 c0
  have c1 : (-1) * g 0 ≤ 0 := d1 c1
  have c2 : 1 * g 1 ≤ 0 := d1 c2
  have c3 : (-1) * g 1 ≤ 0 := d1 c3
  have c4 : (-1) * g 2 ≤ 0 := d1 c4
  have c5 : (-1) * g 8 ≤ (-20) := d1 c5
  obtain ⟨a0, a1, _⟩ := ha
  have n892 : τ 892 = none := a0
  have n899 : τ 899 = none := a1
  obtain ⟨⟨h_p1, h_p2, h_td⟩, k_b, k_q, k_c, k_d, k_l, k_k, k_e, k_t, k_n, k_j⟩ := hS
  have k_c0 := k_c
  obtain ⟨h_ga, h_in, h_ls, h_ld, h_w, h_rd, h_lead, h_ps, h_E, h_up, h_D, h_Z, h_s, h_sp⟩ := k_c0
  have hG := (h_ga _ _ _ _ t871 t872 t880 t881).2 n892 n899
  have h1 := h_lead _ _ _ t883 t887 t888
  have hk : kGm m < 20 := by
    rcases h1.2 with q | q
    · omega
    · exact GA_room hG.2.2 (g 2).toNat (by omega) q.2
  have : (m 70 6).toNat < 20 := hk
  omega
def ru_zC : Ru := ([(0, (886, (0, (0, 0)))), (0, (887, (0, (0, 0)))), (0, (888, (0, (0, 0)))), (0, (883, (0, (0, 0)))), (0, (880, (0, (0, 0)))), (0, (881, (0, (0, 0)))), (0, (871, (0, (0, 0)))), (0, (872, (0, (0, 0)))), (4, (0, (0, (7, 0)))), (9, (1000, (8, (1, 0))))], ([892, 899], ([([(9, 1)], 0), ([(9, (-1))], 0)], (true, ([], ([], ([], none)))))))
theorem rk_zC : RuOk SGd ru_zC := by
  intro τ m g hi hc ha hS
  obtain ⟨i0, i1, i2, i3, i4, i5, i6, i7, i8, i9, _⟩ := hi
  have t886 : τ 886 = some (g 0) := i0
  have t887 : τ 887 = some (g 1) := i1
  have t888 : τ 888 = some (g 2) := i2
  have t883 : τ 883 = some (g 3) := i3
  have t880 : τ 880 = some (g 4) := i4
  have t881 : τ 881 = some (g 5) := i5
  have t871 : τ 871 = some (g 6) := i6
  have t872 : τ 872 = some (g 7) := i7
  have xjc : g 8 = 7 := i8
  obtain ⟨jd, ud, vd⟩ : ∃ j : Nat, 1 * g 8 + 0 = (j : Int) ∧ g 9 = m 1000 j := i9
  obtain ⟨c0, c1, _⟩ := hc
  have c0 : 1 * g 9 ≤ 0 := d1 c0
  have c1 : (-1) * g 9 ≤ 0 := d1 c1
  obtain ⟨a0, a1, _⟩ := ha
  have n892 : τ 892 = none := a0
  have n899 : τ 899 = none := a1
  obtain ⟨⟨h_p1, h_p2, h_td⟩, k_b, k_q, k_c, k_d, k_l, k_k, k_e, k_t, k_n, k_j⟩ := hS
  have k_c0 := k_c
  obtain ⟨h_ga, h_in, h_ls, h_ld, h_w, h_rd, h_lead, h_ps, h_E, h_up, h_D, h_Z, h_s, h_sp⟩ := k_c0
  have hG := (h_ga _ _ _ _ t871 t872 t880 t881).2 n892 n899
  have ejd : jd = 7 := by omega
  subst ejd
  have hd : m 1000 7 ≠ 0 := by obtain ⟨_, q, _⟩ := hG.2.2; exact q.1
  omega
def ru_y : Ru := ([(0, (886, (0, (0, 0)))), (0, (887, (0, (0, 0)))), (0, (888, (0, (0, 0)))), (0, (883, (0, (0, 0)))), (0, (880, (0, (0, 0)))), (0, (881, (0, (0, 0)))), (0, (871, (0, (0, 0)))), (0, (872, (0, (0, 0)))), (5, (70, (6, (0, 0)))), (4, (0, (0, (0, 0))))], ([889, 891, 892, 893, 894, 895, 896, 897, 899], ([([(0, 1)], 0), ([(0, (-1))], 0), ([(1, 1)], 0), ([(1, (-1))], 0), ([(2, (-1))], 0), ([(2, 1)], 19)], (false, ([], ([], ([(892, some (2, 0)), (893, some (8, 0)), (894, some (9, 0)), (895, some (9, 0)), (886, none), (887, none), (888, none)], none)))))))
theorem rk_y : RuOk SGd ru_y := by
  intro τ m g hi hc ha hS
  obtain ⟨i0, i1, i2, i3, i4, i5, i6, i7, i8, i9, _⟩ := hi
  have t886 : τ 886 = some (g 0) := i0
  have t887 : τ 887 = some (g 1) := i1
  have t888 : τ 888 = some (g 2) := i2
  have t883 : τ 883 = some (g 3) := i3
  have t880 : τ 880 = some (g 4) := i4
  have t881 : τ 881 = some (g 5) := i5
  have t871 : τ 871 = some (g 6) := i6
  have t872 : τ 872 = some (g 7) := i7
  have xk : g 8 = m 70 6 := i8
  have xzero : g 9 = 0 := i9
  obtain ⟨c0, c1, c2, c3, c4, c5, _⟩ := hc
  have c0 : 1 * g 0 ≤ 0 := d1 c0
  have c1 : (-1) * g 0 ≤ 0 := d1 c1
  have c2 : 1 * g 1 ≤ 0 := d1 c2
  have c3 : (-1) * g 1 ≤ 0 := d1 c3
  have c4 : (-1) * g 2 ≤ 0 := d1 c4
  have c5 : 1 * g 2 ≤ 19 := d1 c5
  obtain ⟨a0, a1, a2, a3, a4, a5, a6, a7, a8, _⟩ := ha
  have n889 : τ 889 = none := a0
  have n891 : τ 891 = none := a1
  have n892 : τ 892 = none := a2
  have n893 : τ 893 = none := a3
  have n894 : τ 894 = none := a4
  have n895 : τ 895 = none := a5
  have n896 : τ 896 = none := a6
  have n897 : τ 897 = none := a7
  have n899 : τ 899 = none := a8
  obtain ⟨⟨h_p1, h_p2, h_td⟩, k_b, k_q, k_c, k_d, k_l, k_k, k_e, k_t, k_n, k_j⟩ := hS
  have k_c0 := k_c
  obtain ⟨h_ga, h_in, h_ls, h_ld, h_w, h_rd, h_lead, h_ps, h_E, h_up, h_D, h_Z, h_s, h_sp⟩ := k_c0
  exact ⟨rfl, trivial, trivial, ⟨h_p1, h_p2, h_td⟩, k_b, k_q, ⟨(fun qa qb A I e0 e1 e2 e3 => by
      have e0 : g 6 = qa := Option.some.inj (t871.symm.trans e0)
      subst e0
      have e1 : g 7 = qb := Option.some.inj (t872.symm.trans e1)
      subst e1
      have e2 : g 4 = A := Option.some.inj (t880.symm.trans e2)
      subst e2
      have e3 : g 5 = I := Option.some.inj (t881.symm.trans e3)
      subst e3
      exact ⟨(h_ga _ _ _ _ t871 t872 t880 t881).1, fun e8 _ => no9 e8 rfl⟩), h_in, h_ls, h_ld, h_w, fun _ _ e0 e1 => no9 (o := none) rfl e1, fun _ _ _ e0 e1 e2 => no9 (o := none) rfl e1, fun _ _ _ _ e0 e1 e2 e3 => no9 (o := none) rfl e1, fun _ _ _ e0 e1 e2 => no9 (o := none) rfl e1, (fun qa qb A I w Y N U V e0 e1 e2 e3 e4 e5 e6 e7 e8 => by
      have e0 : g 6 = qa := Option.some.inj (t871.symm.trans e0)
      subst e0
      have e1 : g 7 = qb := Option.some.inj (t872.symm.trans e1)
      subst e1
      have e2 : g 4 = A := Option.some.inj (t880.symm.trans e2)
      subst e2
      have e3 : g 5 = I := Option.some.inj (t881.symm.trans e3)
      subst e3
      have e4 : g 3 = w := Option.some.inj (t883.symm.trans e4)
      subst e4
      have e5 : g 2 + 0 = Y := Option.some.inj e5
      subst e5
      have e6 : g 8 + 0 = N := Option.some.inj e6
      subst e6
      have e7 : g 9 + 0 = U := Option.some.inj e7
      subst e7
      have e8 : g 9 + 0 = V := Option.some.inj e8
      subst e8
      show UpG m (τ 896) (τ 897) _ _ _ _ _ _
      rw [n896, n897]
      have hG := (h_ga _ _ _ _ t871 t872 t880 t881).2 n892 n899
      have h1 := h_lead _ _ _ t883 t887 t888
      have h2 := h_rd _ _ t883 t886
      have eN : (g 8 + 0).toNat = kGm m := by show (g 8 + 0).toNat = (m 70 6).toNat; omega
      have eY : (g 2 + 0).toNat = (g 2).toNat := by omega
      have hL : lfm m (g 3) (g 2).toNat ≠ 0 := by
        rcases h1.2 with q | q
        · omega
        · exact q.2
      have hk := GA_room hG.2.2 (g 2).toNat (by omega) hL
      have hk9 : (m 70 6).toNat < 20 := hk
      have h0 := hG.1
      refine ⟨qGm m, dGm m, BGm m, ⟨by rw [eN]; exact hG.2.2, by omega, by omega, by omega, by omega⟩, ⟨by rw [eN, eY]; exact hL, fun c hc => by rw [eN]; exact h2.2 c (by omega) hc⟩, fun r c hr hc => ?_, fun r c hc => by unfold BGm; rw [if_neg (by omega)], fun f9 ef => no9 rfl ef, ⟨fun r hr => ?_, rfl⟩, Or.inl ⟨rfl, by omega⟩⟩
      · rw [if_neg (by omega)]
        intro _
        rfl
      · have := hG.2.1 r (by rw [eN] at hr; exact hr)
        show m 96 r = ((m 96 r).toNat : Int)
        omega), h_D, h_Z, h_s, h_sp⟩, k_d, k_l, k_k, k_e, k_t, k_n, k_j⟩
def ru_uk : Ru := ([(0, (883, (0, (0, 0)))), (0, (892, (0, (0, 0)))), (0, (893, (0, (0, 0)))), (0, (894, (0, (0, 0)))), (0, (895, (0, (0, 0)))), (0, (880, (0, (0, 0)))), (0, (881, (0, (0, 0)))), (0, (871, (0, (0, 0)))), (0, (872, (0, (0, 0)))), (5, (70, (6, (0, 0))))], ([897], ([], (false, ([([(2, (-1)), (9, 1)], 0), ([(2, 1), (9, (-1))], 0), ([(2, (-1))], 0), ([(2, 1)], 19)], ([], ([], none)))))))
theorem rk_uk : RuOk SGd ru_uk := by
  intro τ m g hi hc ha hS
  obtain ⟨i0, i1, i2, i3, i4, i5, i6, i7, i8, i9, _⟩ := hi
  have t883 : τ 883 = some (g 0) := i0
  have t892 : τ 892 = some (g 1) := i1
  have t893 : τ 893 = some (g 2) := i2
  have t894 : τ 894 = some (g 3) := i3
  have t895 : τ 895 = some (g 4) := i4
  have t880 : τ 880 = some (g 5) := i5
  have t881 : τ 881 = some (g 6) := i6
  have t871 : τ 871 = some (g 7) := i7
  have t872 : τ 872 = some (g 8) := i8
  have xk : g 9 = m 70 6 := i9
  obtain ⟨a0, _⟩ := ha
  have n897 : τ 897 = none := a0
  obtain ⟨⟨h_p1, h_p2, h_td⟩, k_b, k_q, k_c, k_d, k_l, k_k, k_e, k_t, k_n, k_j⟩ := hS
  have k_c0 := k_c
  obtain ⟨h_ga, h_in, h_ls, h_ld, h_w, h_rd, h_lead, h_ps, h_E, h_up, h_D, h_Z, h_s, h_sp⟩ := k_c0
  obtain ⟨q, d9, B9, ⟨u1, uN, uY, uU, uV⟩, ⟨u2, u3⟩, u4, u5, u6, ⟨u7, u8⟩, u9⟩ := (h_up _ _ _ _ _ _ _ _ _ t871 t872 t880 t881 t883 t892 t893 t894 t895)
  have uk : m 70 6 = g 2 := by
    rcases u9 with q9 | q9 | q9
    · exact q9.2
    · rw [n897] at q9; cases q9.1
    · rw [n897] at q9; cases q9.1
  exact ⟨rfl, ⟨f2 (by omega), f2 (by omega), f1 (by omega), f1 (by omega), trivial⟩, trivial, ⟨h_p1, h_p2, h_td⟩, k_b, k_q, k_c, k_d, k_l, k_k, k_e, k_t, k_n, k_j⟩
def ru_uF : Ru := ([(0, (883, (0, (0, 0)))), (0, (892, (0, (0, 0)))), (0, (893, (0, (0, 0)))), (0, (894, (0, (0, 0)))), (0, (895, (0, (0, 0)))), (0, (880, (0, (0, 0)))), (0, (881, (0, (0, 0)))), (0, (871, (0, (0, 0)))), (0, (872, (0, (0, 0)))), (13, (4, (0, (0, 0)))), (18, (76, (3, (1, 0))))], ([896, 897], ([([(4, 1)], 0), ([(4, (-1))], 0), ([(3, (-1))], 0), ([(2, (-1)), (3, 1)], (-1)), ([(9, 1), (10, (-1))], 0), ([(9, (-1)), (10, 1)], 0)], (false, ([], ([], ([(896, some (9, 0))], none)))))))
theorem rk_uF : RuOk SGd ru_uF := by
  intro τ m g hi hc ha hS
  obtain ⟨i0, i1, i2, i3, i4, i5, i6, i7, i8, i9, i10, _⟩ := hi
  have t883 : τ 883 = some (g 0) := i0
  have t892 : τ 892 = some (g 1) := i1
  have t893 : τ 893 = some (g 2) := i2
  have t894 : τ 894 = some (g 3) := i3
  have t895 : τ 895 = some (g 4) := i4
  have t880 : τ 880 = some (g 5) := i5
  have t881 : τ 881 = some (g 6) := i6
  have t871 : τ 871 = some (g 7) := i7
  have t872 : τ 872 = some (g 8) := i8
  obtain ⟨ry, jy, ly, uy, wy, vy⟩ : ∃ r j : Nat, r < 20 ∧ g 3 = (r : Int) ∧ g 1 = (j : Int) ∧ g 10 = m (76 + r) j := i10
  obtain ⟨c0, c1, c2, c3, c4, c5, _⟩ := hc
  have c0 : 1 * g 4 ≤ 0 := d1 c0
  have c1 : (-1) * g 4 ≤ 0 := d1 c1
  have c2 : (-1) * g 3 ≤ 0 := d1 c2
  have c3 : (-1) * g 2 + 1 * g 3 ≤ (-1) := d2 c3
  have c4 : 1 * g 9 + (-1) * g 10 ≤ 0 := d2 c4
  have c5 : (-1) * g 9 + 1 * g 10 ≤ 0 := d2 c5
  obtain ⟨a0, a1, _⟩ := ha
  have n896 : τ 896 = none := a0
  have n897 : τ 897 = none := a1
  obtain ⟨⟨h_p1, h_p2, h_td⟩, k_b, k_q, k_c, k_d, k_l, k_k, k_e, k_t, k_n, k_j⟩ := hS
  have k_c0 := k_c
  obtain ⟨h_ga, h_in, h_ls, h_ld, h_w, h_rd, h_lead, h_ps, h_E, h_up, h_D, h_Z, h_s, h_sp⟩ := k_c0
  exact ⟨rfl, trivial, trivial, ⟨h_p1, h_p2, h_td⟩, k_b, k_q, ⟨h_ga, h_in, h_ls, h_ld, h_w, h_rd, h_lead, h_ps, h_E, (fun qa qb A I w Y N U V e0 e1 e2 e3 e4 e5 e6 e7 e8 => by
      have e0 : g 7 = qa := Option.some.inj (t871.symm.trans e0)
      subst e0
      have e1 : g 8 = qb := Option.some.inj (t872.symm.trans e1)
      subst e1
      have e2 : g 5 = A := Option.some.inj (t880.symm.trans e2)
      subst e2
      have e3 : g 6 = I := Option.some.inj (t881.symm.trans e3)
      subst e3
      have e4 : g 0 = w := Option.some.inj (t883.symm.trans e4)
      subst e4
      have e5 : g 1 = Y := Option.some.inj (t892.symm.trans e5)
      subst e5
      have e6 : g 2 = N := Option.some.inj (t893.symm.trans e6)
      subst e6
      have e7 : g 3 = U := Option.some.inj (t894.symm.trans e7)
      subst e7
      have e8 : g 4 = V := Option.some.inj (t895.symm.trans e8)
      subst e8
      show UpG m (some (g 9 + 0)) (τ 897) _ _ _ _ _ _
      obtain ⟨q, d9, B9, ⟨u1, uN, uY, uU, uV⟩, ⟨u2, u3⟩, u4, u5, u6, ⟨u7, u8⟩, u9⟩ := (h_up _ _ _ _ _ _ _ _ _ t871 t872 t880 t881 t883 t892 t893 t894 t895)
      have er : ry = (g 3).toNat := by omega
      have ejy : jy = (g 1).toNat := by omega
      subst er
      subst ejy
      have h4 := u4 (g 3).toNat (g 1).toNat (by omega) (by omega)
      have hB : BGm m (g 3).toNat (g 1).toNat = m (76 + (g 3).toNat) (g 1).toNat := by unfold BGm; rw [if_pos (by omega)]
      rw [if_neg (by omega), hB] at h4
      refine ⟨q, d9, B9, ⟨u1, uN, uY, uU, uV⟩, ⟨u2, u3⟩, u4, u5, fun f9 ef => ?_, ⟨u7, u8⟩, u9⟩
      have ef := Option.some.inj ef
      rw [← h4 (by omega)]; omega), h_D, h_Z, h_s, h_sp⟩, k_d, k_l, k_k, k_e, k_t, k_n, k_j⟩
def ru_ubR : Ru := ([(0, (883, (0, (0, 0)))), (0, (892, (0, (0, 0)))), (0, (893, (0, (0, 0)))), (0, (894, (0, (0, 0)))), (0, (895, (0, (0, 0)))), (0, (880, (0, (0, 0)))), (0, (881, (0, (0, 0)))), (0, (871, (0, (0, 0)))), (0, (872, (0, (0, 0)))), (9, (97, (1, (1, 0))))], ([897], ([], (false, ([([(9, (-1))], 134217727), ([(9, 1)], 134217727)], ([], ([], none)))))))
theorem rk_ubR : RuOk SGd ru_ubR := by
  intro τ m g hi hc ha hS
  obtain ⟨i0, i1, i2, i3, i4, i5, i6, i7, i8, i9, _⟩ := hi
  have t883 : τ 883 = some (g 0) := i0
  have t892 : τ 892 = some (g 1) := i1
  have t893 : τ 893 = some (g 2) := i2
  have t894 : τ 894 = some (g 3) := i3
  have t895 : τ 895 = some (g 4) := i4
  have t880 : τ 880 = some (g 5) := i5
  have t881 : τ 881 = some (g 6) := i6
  have t871 : τ 871 = some (g 7) := i7
  have t872 : τ 872 = some (g 8) := i8
  obtain ⟨jx, ux, vx⟩ : ∃ j : Nat, 1 * g 1 + 0 = (j : Int) ∧ g 9 = m 97 j := i9
  obtain ⟨a0, _⟩ := ha
  have n897 : τ 897 = none := a0
  obtain ⟨⟨h_p1, h_p2, h_td⟩, k_b, k_q, k_c, k_d, k_l, k_k, k_e, k_t, k_n, k_j⟩ := hS
  have k_c0 := k_c
  obtain ⟨h_ga, h_in, h_ls, h_ld, h_w, h_rd, h_lead, h_ps, h_E, h_up, h_D, h_Z, h_s, h_sp⟩ := k_c0
  obtain ⟨q, d9, B9, ⟨u1, uN, uY, uU, uV⟩, ⟨u2, u3⟩, u4, u5, u6, ⟨u7, u8⟩, u9⟩ := (h_up _ _ _ _ _ _ _ _ _ t871 t872 t880 t881 t883 t892 t893 t894 t895)
  have ejx : jx = (g 1).toNat := by omega
  subst ejx
  have hs := GA_lfsmall u1 (fun c => bv01 (g 0) c) (c := (g 1).toNat) (by omega)
  rw [← u3 (g 1).toNat (by omega)] at hs
  exact ⟨rfl, ⟨f1 (by omega), f1 (by omega), trivial⟩, trivial, ⟨h_p1, h_p2, h_td⟩, k_b, k_q, k_c, k_d, k_l, k_k, k_e, k_t, k_n, k_j⟩
def ru_ubB : Ru := ([(0, (883, (0, (0, 0)))), (0, (892, (0, (0, 0)))), (0, (893, (0, (0, 0)))), (0, (894, (0, (0, 0)))), (0, (895, (0, (0, 0)))), (0, (880, (0, (0, 0)))), (0, (881, (0, (0, 0)))), (0, (871, (0, (0, 0)))), (0, (872, (0, (0, 0)))), (1, (6, (0, (0, 0)))), (18, (76, (3, (9, 0))))], ([897], ([([(4, (-1)), (9, 1)], 0), ([(4, 1), (9, (-1))], 0), ([(4, (-1))], 0), ([(4, 1)], 19), ([(3, (-1))], 0), ([(2, (-1)), (3, 1)], (-1))], (false, ([([(10, (-1))], 134217727), ([(10, 1)], 134217727)], ([], ([], none)))))))
theorem rk_ubB : RuOk SGd ru_ubB := by
  intro τ m g hi hc ha hS
  obtain ⟨i0, i1, i2, i3, i4, i5, i6, i7, i8, i9, i10, _⟩ := hi
  have t883 : τ 883 = some (g 0) := i0
  have t892 : τ 892 = some (g 1) := i1
  have t893 : τ 893 = some (g 2) := i2
  have t894 : τ 894 = some (g 3) := i3
  have t895 : τ 895 = some (g 4) := i4
  have t880 : τ 880 = some (g 5) := i5
  have t881 : τ 881 = some (g 6) := i6
  have t871 : τ 871 = some (g 7) := i7
  have t872 : τ 872 = some (g 8) := i8
  obtain ⟨ry, jy, ly, uy, wy, vy⟩ : ∃ r j : Nat, r < 20 ∧ g 3 = (r : Int) ∧ g 9 = (j : Int) ∧ g 10 = m (76 + r) j := i10
  obtain ⟨c0, c1, c2, c3, c4, c5, _⟩ := hc
  have c0 : (-1) * g 4 + 1 * g 9 ≤ 0 := d2 c0
  have c1 : 1 * g 4 + (-1) * g 9 ≤ 0 := d2 c1
  have c2 : (-1) * g 4 ≤ 0 := d1 c2
  have c3 : 1 * g 4 ≤ 19 := d1 c3
  have c4 : (-1) * g 3 ≤ 0 := d1 c4
  have c5 : (-1) * g 2 + 1 * g 3 ≤ (-1) := d2 c5
  obtain ⟨a0, _⟩ := ha
  have n897 : τ 897 = none := a0
  obtain ⟨⟨h_p1, h_p2, h_td⟩, k_b, k_q, k_c, k_d, k_l, k_k, k_e, k_t, k_n, k_j⟩ := hS
  have k_c0 := k_c
  obtain ⟨h_ga, h_in, h_ls, h_ld, h_w, h_rd, h_lead, h_ps, h_E, h_up, h_D, h_Z, h_s, h_sp⟩ := k_c0
  obtain ⟨q, d9, B9, ⟨u1, uN, uY, uU, uV⟩, ⟨u2, u3⟩, u4, u5, u6, ⟨u7, u8⟩, u9⟩ := (h_up _ _ _ _ _ _ _ _ _ t871 t872 t880 t881 t883 t892 t893 t894 t895)
  have er : ry = (g 3).toNat := by omega
  have ejy : jy = (g 4).toNat := by omega
  subst er
  subst ejy
  have h4 := u4 (g 3).toNat (g 4).toNat (by omega) (by omega)
  have hB : BGm m (g 3).toNat (g 4).toNat = m (76 + (g 3).toNat) (g 4).toNat := by unfold BGm; rw [if_pos (by omega)]
  rw [if_neg (by omega), hB] at h4
  have hs := GA_small u1 (g 3).toNat (g 4).toNat (by omega)
  rw [← h4 (by omega)] at hs
  exact ⟨rfl, ⟨f1 (by omega), f1 (by omega), trivial⟩, trivial, ⟨h_p1, h_p2, h_td⟩, k_b, k_q, k_c, k_d, k_l, k_k, k_e, k_t, k_n, k_j⟩
def ru_ubF : Ru := ([(0, (883, (0, (0, 0)))), (0, (892, (0, (0, 0)))), (0, (893, (0, (0, 0)))), (0, (894, (0, (0, 0)))), (0, (895, (0, (0, 0)))), (0, (880, (0, (0, 0)))), (0, (881, (0, (0, 0)))), (0, (871, (0, (0, 0)))), (0, (872, (0, (0, 0)))), (0, (896, (0, (0, 0))))], ([897], ([([(3, (-1))], 0), ([(2, (-1)), (3, 1)], (-1))], (false, ([([(9, (-1))], 134217727), ([(9, 1)], 134217727)], ([], ([], none)))))))
theorem rk_ubF : RuOk SGd ru_ubF := by
  intro τ m g hi hc ha hS
  obtain ⟨i0, i1, i2, i3, i4, i5, i6, i7, i8, i9, _⟩ := hi
  have t883 : τ 883 = some (g 0) := i0
  have t892 : τ 892 = some (g 1) := i1
  have t893 : τ 893 = some (g 2) := i2
  have t894 : τ 894 = some (g 3) := i3
  have t895 : τ 895 = some (g 4) := i4
  have t880 : τ 880 = some (g 5) := i5
  have t881 : τ 881 = some (g 6) := i6
  have t871 : τ 871 = some (g 7) := i7
  have t872 : τ 872 = some (g 8) := i8
  have t896 : τ 896 = some (g 9) := i9
  obtain ⟨c0, c1, _⟩ := hc
  have c0 : (-1) * g 3 ≤ 0 := d1 c0
  have c1 : (-1) * g 2 + 1 * g 3 ≤ (-1) := d2 c1
  obtain ⟨a0, _⟩ := ha
  have n897 : τ 897 = none := a0
  obtain ⟨⟨h_p1, h_p2, h_td⟩, k_b, k_q, k_c, k_d, k_l, k_k, k_e, k_t, k_n, k_j⟩ := hS
  have k_c0 := k_c
  obtain ⟨h_ga, h_in, h_ls, h_ld, h_w, h_rd, h_lead, h_ps, h_E, h_up, h_D, h_Z, h_s, h_sp⟩ := k_c0
  obtain ⟨q, d9, B9, ⟨u1, uN, uY, uU, uV⟩, ⟨u2, u3⟩, u4, u5, u6, ⟨u7, u8⟩, u9⟩ := (h_up _ _ _ _ _ _ _ _ _ t871 t872 t880 t881 t883 t892 t893 t894 t895)
  have hs := GA_small u1 (g 3).toNat (g 1).toNat (by omega)
  rw [← u6 _ t896] at hs
  exact ⟨rfl, ⟨f1 (by omega), f1 (by omega), trivial⟩, trivial, ⟨h_p1, h_p2, h_td⟩, k_b, k_q, k_c, k_d, k_l, k_k, k_e, k_t, k_n, k_j⟩
def ru_ubP : Ru := ([(0, (883, (0, (0, 0)))), (0, (892, (0, (0, 0)))), (0, (893, (0, (0, 0)))), (0, (894, (0, (0, 0)))), (0, (895, (0, (0, 0)))), (0, (880, (0, (0, 0)))), (0, (881, (0, (0, 0)))), (0, (871, (0, (0, 0)))), (0, (872, (0, (0, 0)))), (1, (6, (0, (0, 0)))), (9, (97, (9, (1, 0))))], ([897], ([([(9, (-1))], 0), ([(9, 1)], 19)], (false, ([([(10, (-1))], 134217727), ([(10, 1)], 134217727)], ([], ([], none)))))))
theorem rk_ubP : RuOk SGd ru_ubP := by
  intro τ m g hi hc ha hS
  obtain ⟨i0, i1, i2, i3, i4, i5, i6, i7, i8, i9, i10, _⟩ := hi
  have t883 : τ 883 = some (g 0) := i0
  have t892 : τ 892 = some (g 1) := i1
  have t893 : τ 893 = some (g 2) := i2
  have t894 : τ 894 = some (g 3) := i3
  have t895 : τ 895 = some (g 4) := i4
  have t880 : τ 880 = some (g 5) := i5
  have t881 : τ 881 = some (g 6) := i6
  have t871 : τ 871 = some (g 7) := i7
  have t872 : τ 872 = some (g 8) := i8
  obtain ⟨jx, ux, vx⟩ : ∃ j : Nat, 1 * g 9 + 0 = (j : Int) ∧ g 10 = m 97 j := i10
  obtain ⟨c0, c1, _⟩ := hc
  have c0 : (-1) * g 9 ≤ 0 := d1 c0
  have c1 : 1 * g 9 ≤ 19 := d1 c1
  obtain ⟨a0, _⟩ := ha
  have n897 : τ 897 = none := a0
  obtain ⟨⟨h_p1, h_p2, h_td⟩, k_b, k_q, k_c, k_d, k_l, k_k, k_e, k_t, k_n, k_j⟩ := hS
  have k_c0 := k_c
  obtain ⟨h_ga, h_in, h_ls, h_ld, h_w, h_rd, h_lead, h_ps, h_E, h_up, h_D, h_Z, h_s, h_sp⟩ := k_c0
  obtain ⟨q, d9, B9, ⟨u1, uN, uY, uU, uV⟩, ⟨u2, u3⟩, u4, u5, u6, ⟨u7, u8⟩, u9⟩ := (h_up _ _ _ _ _ _ _ _ _ t871 t872 t880 t881 t883 t892 t893 t894 t895)
  have ejx : jx = (g 9).toNat := by omega
  subst ejx
  have hs := GA_lfsmall u1 (fun c => bv01 (g 0) c) (c := (g 9).toNat) (by omega)
  rw [← u3 (g 9).toNat (by omega)] at hs
  exact ⟨rfl, ⟨f1 (by omega), f1 (by omega), trivial⟩, trivial, ⟨h_p1, h_p2, h_td⟩, k_b, k_q, k_c, k_d, k_l, k_k, k_e, k_t, k_n, k_j⟩
def ru_unz : Ru := ([(0, (883, (0, (0, 0)))), (0, (892, (0, (0, 0)))), (0, (893, (0, (0, 0)))), (0, (894, (0, (0, 0)))), (0, (895, (0, (0, 0)))), (0, (880, (0, (0, 0)))), (0, (881, (0, (0, 0)))), (0, (871, (0, (0, 0)))), (0, (872, (0, (0, 0)))), (4, (0, (0, (7, 0)))), (9, (1000, (9, (1, 0))))], ([897], ([], (false, ([], ([], ([(869, some (10, 0))], none)))))))
theorem rk_unz : RuOk SGd ru_unz := by
  intro τ m g hi hc ha hS
  obtain ⟨i0, i1, i2, i3, i4, i5, i6, i7, i8, i9, i10, _⟩ := hi
  have t883 : τ 883 = some (g 0) := i0
  have t892 : τ 892 = some (g 1) := i1
  have t893 : τ 893 = some (g 2) := i2
  have t894 : τ 894 = some (g 3) := i3
  have t895 : τ 895 = some (g 4) := i4
  have t880 : τ 880 = some (g 5) := i5
  have t881 : τ 881 = some (g 6) := i6
  have t871 : τ 871 = some (g 7) := i7
  have t872 : τ 872 = some (g 8) := i8
  have xjc : g 9 = 7 := i9
  obtain ⟨jd, ud, vd⟩ : ∃ j : Nat, 1 * g 9 + 0 = (j : Int) ∧ g 10 = m 1000 j := i10
  obtain ⟨a0, _⟩ := ha
  have n897 : τ 897 = none := a0
  obtain ⟨⟨h_p1, h_p2, h_td⟩, k_b, k_q, k_c, k_d, k_l, k_k, k_e, k_t, k_n, k_j⟩ := hS
  have k_c0 := k_c
  obtain ⟨h_ga, h_in, h_ls, h_ld, h_w, h_rd, h_lead, h_ps, h_E, h_up, h_D, h_Z, h_s, h_sp⟩ := k_c0
  have k_b0 := k_b
  obtain ⟨h_bit, h_one, h_or, h_and, h_shr, h_m1, h_m2, h_dv, h_r1, h_r2, h_nz⟩ := k_b0
  obtain ⟨q, d9, B9, ⟨u1, uN, uY, uU, uV⟩, ⟨u2, u3⟩, u4, u5, u6, ⟨u7, u8⟩, u9⟩ := (h_up _ _ _ _ _ _ _ _ _ t871 t872 t880 t881 t883 t892 t893 t894 t895)
  have ejd : jd = 7 := by omega
  subst ejd
  have hd : d9 ≠ 0 := by obtain ⟨_, q9, _⟩ := u1; exact q9.1
  exact ⟨rfl, trivial, trivial, ⟨h_p1, h_p2, h_td⟩, ⟨h_bit, h_one, h_or, h_and, h_shr, h_m1, h_m2, h_dv, h_r1, h_r2, (fun z e0 => by
      have e0 : g 10 + 0 = z := Option.some.inj e0
      subst e0
      rw [← u8] at hd; omega)⟩, k_q, k_c, k_d, k_l, k_k, k_e, k_t, k_n, k_j⟩
def ru_upl : Ru := ([(0, (883, (0, (0, 0)))), (0, (892, (0, (0, 0)))), (0, (893, (0, (0, 0)))), (0, (894, (0, (0, 0)))), (0, (895, (0, (0, 0)))), (0, (880, (0, (0, 0)))), (0, (881, (0, (0, 0)))), (0, (871, (0, (0, 0)))), (0, (872, (0, (0, 0)))), (0, (896, (0, (0, 0)))), (4, (0, (0, (0, 0))))], ([897], ([([(4, (-1))], (-20)), ([(3, (-1))], 0), ([(2, (-1)), (3, 1)], (-1))], (false, ([], ([], ([(894, some (3, 1)), (895, some (10, 0)), (896, none)], none)))))))
theorem rk_upl : RuOk SGd ru_upl := by
  intro τ m g hi hc ha hS
  obtain ⟨i0, i1, i2, i3, i4, i5, i6, i7, i8, i9, i10, _⟩ := hi
  have t883 : τ 883 = some (g 0) := i0
  have t892 : τ 892 = some (g 1) := i1
  have t893 : τ 893 = some (g 2) := i2
  have t894 : τ 894 = some (g 3) := i3
  have t895 : τ 895 = some (g 4) := i4
  have t880 : τ 880 = some (g 5) := i5
  have t881 : τ 881 = some (g 6) := i6
  have t871 : τ 871 = some (g 7) := i7
  have t872 : τ 872 = some (g 8) := i8
  have t896 : τ 896 = some (g 9) := i9
  have xzero : g 10 = 0 := i10
  obtain ⟨c0, c1, c2, _⟩ := hc
  have c0 : (-1) * g 4 ≤ (-20) := d1 c0
  have c1 : (-1) * g 3 ≤ 0 := d1 c1
  have c2 : (-1) * g 2 + 1 * g 3 ≤ (-1) := d2 c2
  obtain ⟨a0, _⟩ := ha
  have n897 : τ 897 = none := a0
  obtain ⟨⟨h_p1, h_p2, h_td⟩, k_b, k_q, k_c, k_d, k_l, k_k, k_e, k_t, k_n, k_j⟩ := hS
  have k_c0 := k_c
  obtain ⟨h_ga, h_in, h_ls, h_ld, h_w, h_rd, h_lead, h_ps, h_E, h_up, h_D, h_Z, h_s, h_sp⟩ := k_c0
  exact ⟨rfl, trivial, trivial, ⟨h_p1, h_p2, h_td⟩, k_b, k_q, ⟨h_ga, h_in, h_ls, h_ld, h_w, h_rd, h_lead, h_ps, h_E, (fun qa qb A I w Y N U V e0 e1 e2 e3 e4 e5 e6 e7 e8 => by
      have e0 : g 7 = qa := Option.some.inj (t871.symm.trans e0)
      subst e0
      have e1 : g 8 = qb := Option.some.inj (t872.symm.trans e1)
      subst e1
      have e2 : g 5 = A := Option.some.inj (t880.symm.trans e2)
      subst e2
      have e3 : g 6 = I := Option.some.inj (t881.symm.trans e3)
      subst e3
      have e4 : g 0 = w := Option.some.inj (t883.symm.trans e4)
      subst e4
      have e5 : g 1 = Y := Option.some.inj (t892.symm.trans e5)
      subst e5
      have e6 : g 2 = N := Option.some.inj (t893.symm.trans e6)
      subst e6
      have e7 : g 3 + 1 = U := Option.some.inj e7
      subst e7
      have e8 : g 10 + 0 = V := Option.some.inj e8
      subst e8
      show UpG m none (τ 897) _ _ _ _ _ _
      obtain ⟨q, d9, B9, ⟨u1, uN, uY, uU, uV⟩, ⟨u2, u3⟩, u4, u5, u6, ⟨u7, u8⟩, u9⟩ := (h_up _ _ _ _ _ _ _ _ _ t871 t872 t880 t881 t883 t892 t893 t894 t895)
      refine ⟨q, d9, B9, ⟨u1, uN, uY, by omega, by omega⟩, ⟨u2, u3⟩, fun r c hr hc => ?_, u5, fun f9 ef => no9 rfl ef, ⟨u7, u8⟩, ?_⟩
      · have h4 := u4 r c hr hc
        by_cases e : (r : Int) < g 3 ∨ ((r : Int) = g 3 ∧ (c : Int) < g 4)
        · rw [if_pos e] at h4; rw [if_pos (by omega)]; exact h4
        · rw [if_neg e] at h4; rw [if_neg (by omega)]; exact h4
      · rcases u9 with q9 | q9 | q9
        · exact Or.inl q9
        · rw [n897] at q9; cases q9.1
        · rw [n897] at q9; cases q9.1), h_D, h_Z, h_s, h_sp⟩, k_d, k_l, k_k, k_e, k_t, k_n, k_j⟩
def ru_cdL : Ru := ([(0, (899, (0, (0, 0)))), (0, (880, (0, (0, 0)))), (0, (881, (0, (0, 0)))), (0, (885, (0, (0, 0)))), (0, (884, (0, (0, 0))))], ([883, 892], ([], (false, ([], ([], ([(881, some (2, 1)), (899, none), (884, none)], none)))))))
theorem rk_cdL : RuOk SGd ru_cdL := by
  intro τ m g hi hc ha hS
  obtain ⟨i0, i1, i2, i3, i4, _⟩ := hi
  have t899 : τ 899 = some (g 0) := i0
  have t880 : τ 880 = some (g 1) := i1
  have t881 : τ 881 = some (g 2) := i2
  have t885 : τ 885 = some (g 3) := i3
  have t884 : τ 884 = some (g 4) := i4
  obtain ⟨a0, a1, _⟩ := ha
  have n883 : τ 883 = none := a0
  have n892 : τ 892 = none := a1
  obtain ⟨⟨h_p1, h_p2, h_td⟩, k_b, k_q, k_c, k_d, k_l, k_k, k_e, k_t, k_n, k_j⟩ := hS
  have k_c0 := k_c
  obtain ⟨h_ga, h_in, h_ls, h_ld, h_w, h_rd, h_lead, h_ps, h_E, h_up, h_D, h_Z, h_s, h_sp⟩ := k_c0
  exact ⟨rfl, trivial, trivial, ⟨h_p1, h_p2, h_td⟩, k_b, k_q, ⟨(fun qa qb A I e0 e1 e2 e3 => by
      have e2 : g 1 = A := Option.some.inj (t880.symm.trans e2)
      subst e2
      have e3 : g 2 + 1 = I := Option.some.inj e3
      subst e3
      have h1 := h_ga _ _ _ _ e0 e1 t880 t881
      have h2 := h_ld _ _ _ _ _ _ e0 e1 t880 t881 t899 t884
      have h3 := h_D _ _ _ _ _ e0 e1 t880 t881 t899
      exact ⟨by omega, fun _ _ => GAm_iff h3.2 (fun x => by rw [Pf_one (by omega) (by omega) h2.2.1 x, h2.2.2])⟩), h_in, fun _ _ _ _ _ _ e0 e1 e2 e3 e4 e5 => no9 (o := none) rfl e5, fun _ _ _ _ _ _ e0 e1 e2 e3 e4 e5 => no9 (o := none) rfl e4, h_w, h_rd, h_lead, h_ps, h_E, fun _ _ _ _ _ _ _ _ _ e0 e1 e2 e3 e4 e5 e6 e7 e8 => no9 n883 e4, fun _ _ _ _ _ e0 e1 e2 e3 e4 => no9 (o := none) rfl e4, h_Z, h_s, h_sp⟩, k_d, k_l, k_k, k_e, k_t, k_n, k_j⟩
def ru_cdX : Ru := ([(0, (899, (0, (0, 0)))), (0, (880, (0, (0, 0)))), (0, (881, (0, (0, 0))))], ([883, 884, 885, 892, 905, 906, 907], ([([(1, 1)], 4), ([(1, (-1))], (-4)), ([(2, 1)], 0), ([(2, (-1))], 0)], (false, ([], ([], ([(882, some (0, 0)), (899, none), (880, none), (881, none)], none)))))))
theorem rk_cdX : RuOk SGd ru_cdX := by
  intro τ m g hi hc ha hS
  obtain ⟨i0, i1, i2, _⟩ := hi
  have t899 : τ 899 = some (g 0) := i0
  have t880 : τ 880 = some (g 1) := i1
  have t881 : τ 881 = some (g 2) := i2
  obtain ⟨c0, c1, c2, c3, _⟩ := hc
  have c0 : 1 * g 1 ≤ 4 := d1 c0
  have c1 : (-1) * g 1 ≤ (-4) := d1 c1
  have c2 : 1 * g 2 ≤ 0 := d1 c2
  have c3 : (-1) * g 2 ≤ 0 := d1 c3
  obtain ⟨a0, a1, a2, a3, a4, a5, a6, _⟩ := ha
  have n883 : τ 883 = none := a0
  have n884 : τ 884 = none := a1
  have n885 : τ 885 = none := a2
  have n892 : τ 892 = none := a3
  have n905 : τ 905 = none := a4
  have n906 : τ 906 = none := a5
  have n907 : τ 907 = none := a6
  obtain ⟨⟨h_p1, h_p2, h_td⟩, k_b, k_q, k_c, k_d, k_l, k_k, k_e, k_t, k_n, k_j⟩ := hS
  have k_c0 := k_c
  obtain ⟨h_ga, h_in, h_ls, h_ld, h_w, h_rd, h_lead, h_ps, h_E, h_up, h_D, h_Z, h_s, h_sp⟩ := k_c0
  exact ⟨rfl, trivial, trivial, ⟨h_p1, h_p2, h_td⟩, k_b, k_q, ⟨fun _ _ _ _ e0 e1 e2 e3 => no9 (o := none) rfl e2, fun _ _ _ _ e0 e1 e2 e3 => no9 (o := none) rfl e2, fun _ _ _ _ _ _ e0 e1 e2 e3 e4 e5 => no9 (o := none) rfl e2, fun _ _ _ _ _ _ e0 e1 e2 e3 e4 e5 => no9 (o := none) rfl e2, h_w, h_rd, h_lead, h_ps, h_E, fun _ _ _ _ _ _ _ _ _ e0 e1 e2 e3 e4 e5 e6 e7 e8 => no9 (o := none) rfl e2, fun _ _ _ _ _ e0 e1 e2 e3 e4 => no9 (o := none) rfl e2, (fun qa qb Z e0 e1 e2 => by
      have e2 : g 0 + 0 = Z := Option.some.inj e2
      subst e2
      have h3 := h_D _ _ _ _ _ e0 e1 t880 t881 t899
      have ea : g 1 = 4 := by omega
      have ei : g 2 = 0 := by omega
      have ed : g 0 + 0 = g 0 := by omega
      rw [ea, ei] at h3
      rw [ed]
      exact GAm_px _ (fun e c => by rw [e]; exact bv_zero c) h3.2), fun _ _ e0 e1 => no9 n905 e1, h_sp⟩, k_d, k_l, k_k, k_e, k_t, k_n, k_j⟩
def ru_rk : Ru := ([(0, (880, (0, (0, 0)))), (0, (881, (0, (0, 0)))), (5, (70, (6, (0, 0))))], ([883, 885, 892, 899], ([([(0, 1)], 4), ([(0, (-1))], (-4)), ([(1, 1)], 0), ([(1, (-1))], 0)], (false, ([], ([], ([(876, some (2, 0)), (880, none), (881, none)], none)))))))
theorem rk_rk : RuOk SGd ru_rk := by
  intro τ m g hi hc ha hS
  obtain ⟨i0, i1, i2, _⟩ := hi
  have t880 : τ 880 = some (g 0) := i0
  have t881 : τ 881 = some (g 1) := i1
  have xk : g 2 = m 70 6 := i2
  obtain ⟨c0, c1, c2, c3, _⟩ := hc
  have c0 : 1 * g 0 ≤ 4 := d1 c0
  have c1 : (-1) * g 0 ≤ (-4) := d1 c1
  have c2 : 1 * g 1 ≤ 0 := d1 c2
  have c3 : (-1) * g 1 ≤ 0 := d1 c3
  obtain ⟨a0, a1, a2, a3, _⟩ := ha
  have n883 : τ 883 = none := a0
  have n885 : τ 885 = none := a1
  have n892 : τ 892 = none := a2
  have n899 : τ 899 = none := a3
  obtain ⟨⟨h_p1, h_p2, h_td⟩, k_b, k_q, k_c, k_d, k_l, k_k, k_e, k_t, k_n, k_j⟩ := hS
  have k_c0 := k_c
  obtain ⟨h_ga, h_in, h_ls, h_ld, h_w, h_rd, h_lead, h_ps, h_E, h_up, h_D, h_Z, h_s, h_sp⟩ := k_c0
  have k_q0 := k_q
  obtain ⟨h_vs, h_qc, h_qr, h_qk, h_qn, h_ub⟩ := k_q0
  exact ⟨rfl, trivial, trivial, ⟨h_p1, h_p2, h_td⟩, k_b, ⟨h_vs, h_qc, h_qr, (fun qa qb qk e0 e1 e2 => by
      have e2 : g 2 + 0 = qk := Option.some.inj e2
      subst e2
      have h1 := (h_ga _ _ _ _ e0 e1 t880 t881).2 n892 n899
      have ea : g 0 = 4 := by omega
      have ei : g 1 = 0 := by omega
      rw [ea, ei] at h1
      have ek : (g 2 + 0).toNat = kGm m := by show (g 2 + 0).toNat = (m 70 6).toNat; omega
      exact ⟨by have := h1.1; omega, _, _, _, ek ▸ h1.2.2⟩), h_qn, h_ub⟩, ⟨fun _ _ _ _ e0 e1 e2 e3 => no9 (o := none) rfl e2, fun _ _ _ _ e0 e1 e2 e3 => no9 (o := none) rfl e2, fun _ _ _ _ _ _ e0 e1 e2 e3 e4 e5 => no9 (o := none) rfl e2, fun _ _ _ _ _ _ e0 e1 e2 e3 e4 e5 => no9 (o := none) rfl e2, h_w, h_rd, h_lead, h_ps, h_E, fun _ _ _ _ _ _ _ _ _ e0 e1 e2 e3 e4 e5 e6 e7 e8 => no9 (o := none) rfl e2, fun _ _ _ _ _ e0 e1 e2 e3 e4 => no9 (o := none) rfl e2, h_Z, h_s, h_sp⟩, k_d, k_l, k_k, k_e, k_t, k_n, k_j⟩
def ru_s0 : Ru := ([(0, (882, (0, (0, 0)))), (4, (0, (0, (0, 0))))], ([905, 906, 907], ([], (false, ([], ([], ([(905, some (1, 0))], none)))))))
theorem rk_s0 : RuOk SGd ru_s0 := by
  intro τ m g hi hc ha hS
  obtain ⟨i0, i1, _⟩ := hi
  have t882 : τ 882 = some (g 0) := i0
  have xzero : g 1 = 0 := i1
  obtain ⟨a0, a1, a2, _⟩ := ha
  have n905 : τ 905 = none := a0
  have n906 : τ 906 = none := a1
  have n907 : τ 907 = none := a2
  obtain ⟨⟨h_p1, h_p2, h_td⟩, k_b, k_q, k_c, k_d, k_l, k_k, k_e, k_t, k_n, k_j⟩ := hS
  have k_c0 := k_c
  obtain ⟨h_ga, h_in, h_ls, h_ld, h_w, h_rd, h_lead, h_ps, h_E, h_up, h_D, h_Z, h_s, h_sp⟩ := k_c0
  exact ⟨rfl, trivial, trivial, ⟨h_p1, h_p2, h_td⟩, k_b, k_q, ⟨h_ga, h_in, h_ls, h_ld, h_w, h_rd, h_lead, h_ps, h_E, h_up, h_D, h_Z, (fun Z s e0 e1 => by
      have e0 : g 0 = Z := Option.some.inj (t882.symm.trans e0)
      subst e0
      have e1 : g 1 + 0 = s := Option.some.inj e1
      subst e1
      exact ⟨by omega, fun r h1 _ => by omega⟩), fun _ _ _ e0 e1 e2 => no9 n906 e1⟩, k_d, k_l, k_k, k_e, k_t, k_n, k_j⟩
def ru_sc : Ru := ([(0, (882, (0, (0, 0)))), (0, (905, (0, (0, 0)))), (4, (0, (0, (0, 0))))], ([906, 907], ([], (false, ([], ([], ([(906, some (2, 0)), (907, some (2, 0))], none)))))))
theorem rk_sc : RuOk SGd ru_sc := by
  intro τ m g hi hc ha hS
  obtain ⟨i0, i1, i2, _⟩ := hi
  have t882 : τ 882 = some (g 0) := i0
  have t905 : τ 905 = some (g 1) := i1
  have xzero : g 2 = 0 := i2
  obtain ⟨a0, a1, _⟩ := ha
  have n906 : τ 906 = none := a0
  have n907 : τ 907 = none := a1
  obtain ⟨⟨h_p1, h_p2, h_td⟩, k_b, k_q, k_c, k_d, k_l, k_k, k_e, k_t, k_n, k_j⟩ := hS
  have k_c0 := k_c
  obtain ⟨h_ga, h_in, h_ls, h_ld, h_w, h_rd, h_lead, h_ps, h_E, h_up, h_D, h_Z, h_s, h_sp⟩ := k_c0
  exact ⟨rfl, trivial, trivial, ⟨h_p1, h_p2, h_td⟩, k_b, k_q, ⟨h_ga, h_in, h_ls, h_ld, h_w, h_rd, h_lead, h_ps, h_E, h_up, h_D, h_Z, h_s, (fun s p c e0 e1 e2 => by
      have e0 : g 1 = s := Option.some.inj (t905.symm.trans e0)
      subst e0
      have e1 : g 2 + 0 = p := Option.some.inj e1
      subst e1
      have e2 : g 2 + 0 = c := Option.some.inj e2
      subst e2
      have z : (g 2 + 0).toNat = 0 := by omega
      exact ⟨by omega, by rw [z]; show g 2 + 0 = 0; omega⟩)⟩, k_d, k_l, k_k, k_e, k_t, k_n, k_j⟩
def ru_sn : Ru := ([(0, (882, (0, (0, 0)))), (0, (905, (0, (0, 0)))), (0, (906, (0, (0, 0)))), (0, (907, (0, (0, 0)))), (18, (76, (1, (2, 0)))), (5, (70, (6, (0, 0))))], ([], ([([(2, (-1))], 0), ([(2, 1)], 19), ([(1, (-1))], 0), ([(1, 1), (5, (-1))], (-1)), ([(4, 1)], 0), ([(4, (-1))], 0)], (false, ([], ([], ([(906, some (2, 1))], none)))))))
theorem rk_sn : RuOk SGd ru_sn := by
  intro τ m g hi hc ha hS
  obtain ⟨i0, i1, i2, i3, i4, i5, _⟩ := hi
  have t882 : τ 882 = some (g 0) := i0
  have t905 : τ 905 = some (g 1) := i1
  have t906 : τ 906 = some (g 2) := i2
  have t907 : τ 907 = some (g 3) := i3
  obtain ⟨ry, jy, ly, uy, wy, vy⟩ : ∃ r j : Nat, r < 20 ∧ g 1 = (r : Int) ∧ g 2 = (j : Int) ∧ g 4 = m (76 + r) j := i4
  have xk : g 5 = m 70 6 := i5
  obtain ⟨c0, c1, c2, c3, c4, c5, _⟩ := hc
  have c0 : (-1) * g 2 ≤ 0 := d1 c0
  have c1 : 1 * g 2 ≤ 19 := d1 c1
  have c2 : (-1) * g 1 ≤ 0 := d1 c2
  have c3 : 1 * g 1 + (-1) * g 5 ≤ (-1) := d2 c3
  have c4 : 1 * g 4 ≤ 0 := d1 c4
  have c5 : (-1) * g 4 ≤ 0 := d1 c5
  obtain ⟨⟨h_p1, h_p2, h_td⟩, k_b, k_q, k_c, k_d, k_l, k_k, k_e, k_t, k_n, k_j⟩ := hS
  have k_c0 := k_c
  obtain ⟨h_ga, h_in, h_ls, h_ld, h_w, h_rd, h_lead, h_ps, h_E, h_up, h_D, h_Z, h_s, h_sp⟩ := k_c0
  exact ⟨rfl, trivial, trivial, ⟨h_p1, h_p2, h_td⟩, k_b, k_q, ⟨h_ga, h_in, h_ls, h_ld, h_w, h_rd, h_lead, h_ps, h_E, h_up, h_D, h_Z, h_s, (fun s p c e0 e1 e2 => by
      have e0 : g 1 = s := Option.some.inj (t905.symm.trans e0)
      subst e0
      have e1 : g 2 + 1 = p := Option.some.inj e1
      subst e1
      have e2 : g 3 = c := Option.some.inj (t907.symm.trans e2)
      subst e2
      have h1 := h_sp _ _ _ t905 t906 t907
      have er : ry = (g 1).toNat := by omega
      have ej : jy = (g 2).toNat := by omega
      subst er
      subst ej
      have hB : BGm m (g 1).toNat (g 2).toNat = m (76 + (g 1).toNat) (g 2).toNat := by unfold BGm; rw [if_pos (by omega)]
      have e9 : (g 2 + 1).toNat = (g 2).toNat + 1 := by omega
      exact ⟨by omega, by rw [e9, nz_succ, hB, ← vy, if_pos (by omega), ← h1.2]; omega⟩)⟩, k_d, k_l, k_k, k_e, k_t, k_n, k_j⟩
def ru_sp : Ru := ([(0, (882, (0, (0, 0)))), (0, (905, (0, (0, 0)))), (0, (906, (0, (0, 0)))), (0, (907, (0, (0, 0)))), (18, (76, (1, (2, 0)))), (5, (70, (6, (0, 0))))], ([], ([([(2, (-1))], 0), ([(2, 1)], 19), ([(1, (-1))], 0), ([(1, 1), (5, (-1))], (-1)), ([(4, (-1))], (-1))], (false, ([], ([], ([(906, some (2, 1)), (907, some (3, 1))], none)))))))
theorem rk_sp : RuOk SGd ru_sp := by
  intro τ m g hi hc ha hS
  obtain ⟨i0, i1, i2, i3, i4, i5, _⟩ := hi
  have t882 : τ 882 = some (g 0) := i0
  have t905 : τ 905 = some (g 1) := i1
  have t906 : τ 906 = some (g 2) := i2
  have t907 : τ 907 = some (g 3) := i3
  obtain ⟨ry, jy, ly, uy, wy, vy⟩ : ∃ r j : Nat, r < 20 ∧ g 1 = (r : Int) ∧ g 2 = (j : Int) ∧ g 4 = m (76 + r) j := i4
  have xk : g 5 = m 70 6 := i5
  obtain ⟨c0, c1, c2, c3, c4, _⟩ := hc
  have c0 : (-1) * g 2 ≤ 0 := d1 c0
  have c1 : 1 * g 2 ≤ 19 := d1 c1
  have c2 : (-1) * g 1 ≤ 0 := d1 c2
  have c3 : 1 * g 1 + (-1) * g 5 ≤ (-1) := d2 c3
  have c4 : (-1) * g 4 ≤ (-1) := d1 c4
  obtain ⟨⟨h_p1, h_p2, h_td⟩, k_b, k_q, k_c, k_d, k_l, k_k, k_e, k_t, k_n, k_j⟩ := hS
  have k_c0 := k_c
  obtain ⟨h_ga, h_in, h_ls, h_ld, h_w, h_rd, h_lead, h_ps, h_E, h_up, h_D, h_Z, h_s, h_sp⟩ := k_c0
  exact ⟨rfl, trivial, trivial, ⟨h_p1, h_p2, h_td⟩, k_b, k_q, ⟨h_ga, h_in, h_ls, h_ld, h_w, h_rd, h_lead, h_ps, h_E, h_up, h_D, h_Z, h_s, (fun s p c e0 e1 e2 => by
      have e0 : g 1 = s := Option.some.inj (t905.symm.trans e0)
      subst e0
      have e1 : g 2 + 1 = p := Option.some.inj e1
      subst e1
      have e2 : g 3 + 1 = c := Option.some.inj e2
      subst e2
      have h1 := h_sp _ _ _ t905 t906 t907
      have er : ry = (g 1).toNat := by omega
      have ej : jy = (g 2).toNat := by omega
      subst er
      subst ej
      have hB : BGm m (g 1).toNat (g 2).toNat = m (76 + (g 1).toNat) (g 2).toNat := by unfold BGm; rw [if_pos (by omega)]
      have e9 : (g 2 + 1).toNat = (g 2).toNat + 1 := by omega
      exact ⟨by omega, by rw [e9, nz_succ, hB, ← vy, if_neg (by omega), ← h1.2]⟩)⟩, k_d, k_l, k_k, k_e, k_t, k_n, k_j⟩
def ru_sm : Ru := ([(0, (882, (0, (0, 0)))), (0, (905, (0, (0, 0)))), (0, (906, (0, (0, 0)))), (0, (907, (0, (0, 0)))), (18, (76, (1, (2, 0)))), (5, (70, (6, (0, 0))))], ([], ([([(2, (-1))], 0), ([(2, 1)], 19), ([(1, (-1))], 0), ([(1, 1), (5, (-1))], (-1)), ([(4, 1)], (-1))], (false, ([], ([], ([(906, some (2, 1)), (907, some (3, 1))], none)))))))
theorem rk_sm : RuOk SGd ru_sm := by
  intro τ m g hi hc ha hS
  obtain ⟨i0, i1, i2, i3, i4, i5, _⟩ := hi
  have t882 : τ 882 = some (g 0) := i0
  have t905 : τ 905 = some (g 1) := i1
  have t906 : τ 906 = some (g 2) := i2
  have t907 : τ 907 = some (g 3) := i3
  obtain ⟨ry, jy, ly, uy, wy, vy⟩ : ∃ r j : Nat, r < 20 ∧ g 1 = (r : Int) ∧ g 2 = (j : Int) ∧ g 4 = m (76 + r) j := i4
  have xk : g 5 = m 70 6 := i5
  obtain ⟨c0, c1, c2, c3, c4, _⟩ := hc
  have c0 : (-1) * g 2 ≤ 0 := d1 c0
  have c1 : 1 * g 2 ≤ 19 := d1 c1
  have c2 : (-1) * g 1 ≤ 0 := d1 c2
  have c3 : 1 * g 1 + (-1) * g 5 ≤ (-1) := d2 c3
  have c4 : 1 * g 4 ≤ (-1) := d1 c4
  obtain ⟨⟨h_p1, h_p2, h_td⟩, k_b, k_q, k_c, k_d, k_l, k_k, k_e, k_t, k_n, k_j⟩ := hS
  have k_c0 := k_c
  obtain ⟨h_ga, h_in, h_ls, h_ld, h_w, h_rd, h_lead, h_ps, h_E, h_up, h_D, h_Z, h_s, h_sp⟩ := k_c0
  exact ⟨rfl, trivial, trivial, ⟨h_p1, h_p2, h_td⟩, k_b, k_q, ⟨h_ga, h_in, h_ls, h_ld, h_w, h_rd, h_lead, h_ps, h_E, h_up, h_D, h_Z, h_s, (fun s p c e0 e1 e2 => by
      have e0 : g 1 = s := Option.some.inj (t905.symm.trans e0)
      subst e0
      have e1 : g 2 + 1 = p := Option.some.inj e1
      subst e1
      have e2 : g 3 + 1 = c := Option.some.inj e2
      subst e2
      have h1 := h_sp _ _ _ t905 t906 t907
      have er : ry = (g 1).toNat := by omega
      have ej : jy = (g 2).toNat := by omega
      subst er
      subst ej
      have hB : BGm m (g 1).toNat (g 2).toNat = m (76 + (g 1).toNat) (g 2).toNat := by unfold BGm; rw [if_pos (by omega)]
      have e9 : (g 2 + 1).toNat = (g 2).toNat + 1 := by omega
      exact ⟨by omega, by rw [e9, nz_succ, hB, ← vy, if_neg (by omega), ← h1.2]⟩)⟩, k_d, k_l, k_k, k_e, k_t, k_n, k_j⟩
def ru_one : Ru := ([(0, (882, (0, (0, 0)))), (0, (905, (0, (0, 0)))), (0, (906, (0, (0, 0)))), (0, (907, (0, (0, 0)))), (5, (70, (6, (0, 0)))), (0, (871, (0, (0, 0)))), (0, (872, (0, (0, 0)))), (4, (0, (0, (1, 0))))], ([874, 875], ([([(2, 1)], 20), ([(2, (-1))], (-20)), ([(3, 1)], 1), ([(3, (-1))], (-1)), ([(1, (-1))], 0), ([(1, 1), (4, (-1))], (-1))], (false, ([], ([], ([(874, some (0, 0)), (875, some (7, 0)), (882, none), (905, none), (906, none), (907, none)], none)))))))
theorem rk_one : RuOk SGd ru_one := by
  intro τ m g hi hc ha hS
  obtain ⟨i0, i1, i2, i3, i4, i5, i6, i7, _⟩ := hi
  have t882 : τ 882 = some (g 0) := i0
  have t905 : τ 905 = some (g 1) := i1
  have t906 : τ 906 = some (g 2) := i2
  have t907 : τ 907 = some (g 3) := i3
  have xk : g 4 = m 70 6 := i4
  have t871 : τ 871 = some (g 5) := i5
  have t872 : τ 872 = some (g 6) := i6
  have xone : g 7 = 1 := i7
  obtain ⟨c0, c1, c2, c3, c4, c5, _⟩ := hc
  have c0 : 1 * g 2 ≤ 20 := d1 c0
  have c1 : (-1) * g 2 ≤ (-20) := d1 c1
  have c2 : 1 * g 3 ≤ 1 := d1 c2
  have c3 : (-1) * g 3 ≤ (-1) := d1 c3
  have c4 : (-1) * g 1 ≤ 0 := d1 c4
  have c5 : 1 * g 1 + (-1) * g 4 ≤ (-1) := d2 c5
  obtain ⟨a0, a1, _⟩ := ha
  have n874 : τ 874 = none := a0
  have n875 : τ 875 = none := a1
  obtain ⟨⟨h_p1, h_p2, h_td⟩, k_b, k_q, k_c, k_d, k_l, k_k, k_e, k_t, k_n, k_j⟩ := hS
  have k_c0 := k_c
  obtain ⟨h_ga, h_in, h_ls, h_ld, h_w, h_rd, h_lead, h_ps, h_E, h_up, h_D, h_Z, h_s, h_sp⟩ := k_c0
  have k_q0 := k_q
  obtain ⟨h_vs, h_qc, h_qr, h_qk, h_qn, h_ub⟩ := k_q0
  exact ⟨rfl, trivial, trivial, ⟨h_p1, h_p2, h_td⟩, k_b, ⟨h_vs, h_qc, (fun qa qb qs qr e0 e1 e2 e3 => by
      have e0 : g 5 = qa := Option.some.inj (t871.symm.trans e0)
      subst e0
      have e1 : g 6 = qb := Option.some.inj (t872.symm.trans e1)
      subst e1
      have e2 : g 0 + 0 = qs := Option.some.inj e2
      subst e2
      have e3 : g 7 + 0 = qr := Option.some.inj e3
      subst e3
      have h1 := h_sp _ _ _ t905 t906 t907
      have h2 := h_Z _ _ _ t871 t872 t882
      have ep : (g 2).toNat = 20 := by omega
      rw [ep] at h1
      have z : g 0 + 0 = g 0 := by omega
      rw [z]
      refine ⟨by omega, fun _ => (tell_iff h2).mpr ⟨(g 1).toNat, by show (g 1).toNat < (m 70 6).toNat; omega, by rw [← h1.2]; omega⟩, fun _ => by omega⟩), h_qk, h_qn, h_ub⟩, ⟨h_ga, h_in, h_ls, h_ld, h_w, h_rd, h_lead, h_ps, h_E, h_up, h_D, fun _ _ _ e0 e1 e2 => no9 (o := none) rfl e2, fun _ _ e0 e1 => no9 (o := none) rfl e0, fun _ _ _ e0 e1 e2 => no9 (o := none) rfl e0⟩, k_d, k_l, k_k, k_e, k_t, k_n, k_j⟩
def ru_nx0 : Ru := ([(0, (882, (0, (0, 0)))), (0, (905, (0, (0, 0)))), (0, (906, (0, (0, 0)))), (0, (907, (0, (0, 0)))), (5, (70, (6, (0, 0)))), (0, (871, (0, (0, 0)))), (0, (872, (0, (0, 0))))], ([], ([([(2, 1)], 20), ([(2, (-1))], (-20)), ([(3, 1)], 0), ([(1, (-1))], 0), ([(1, 1), (4, (-1))], (-1))], (false, ([], ([], ([(905, some (1, 1)), (906, none), (907, none)], none)))))))
theorem rk_nx0 : RuOk SGd ru_nx0 := by
  intro τ m g hi hc ha hS
  obtain ⟨i0, i1, i2, i3, i4, i5, i6, _⟩ := hi
  have t882 : τ 882 = some (g 0) := i0
  have t905 : τ 905 = some (g 1) := i1
  have t906 : τ 906 = some (g 2) := i2
  have t907 : τ 907 = some (g 3) := i3
  have xk : g 4 = m 70 6 := i4
  have t871 : τ 871 = some (g 5) := i5
  have t872 : τ 872 = some (g 6) := i6
  obtain ⟨c0, c1, c2, c3, c4, _⟩ := hc
  have c0 : 1 * g 2 ≤ 20 := d1 c0
  have c1 : (-1) * g 2 ≤ (-20) := d1 c1
  have c2 : 1 * g 3 ≤ 0 := d1 c2
  have c3 : (-1) * g 1 ≤ 0 := d1 c3
  have c4 : 1 * g 1 + (-1) * g 4 ≤ (-1) := d2 c4
  obtain ⟨⟨h_p1, h_p2, h_td⟩, k_b, k_q, k_c, k_d, k_l, k_k, k_e, k_t, k_n, k_j⟩ := hS
  have k_c0 := k_c
  obtain ⟨h_ga, h_in, h_ls, h_ld, h_w, h_rd, h_lead, h_ps, h_E, h_up, h_D, h_Z, h_s, h_sp⟩ := k_c0
  exact ⟨rfl, trivial, trivial, ⟨h_p1, h_p2, h_td⟩, k_b, k_q, ⟨h_ga, h_in, h_ls, h_ld, h_w, h_rd, h_lead, h_ps, h_E, h_up, h_D, h_Z, (fun Z s e0 e1 => by
      have e0 : g 0 = Z := Option.some.inj (t882.symm.trans e0)
      subst e0
      have e1 : g 1 + 1 = s := Option.some.inj e1
      subst e1
      have h1 := h_sp _ _ _ t905 t906 t907
      have h2 := h_s _ _ t882 t905
      have ep : (g 2).toNat = 20 := by omega
      rw [ep] at h1
      refine ⟨by omega, fun r hr hk => ?_⟩
      by_cases e : (r : Int) = g 1
      · have er : r = (g 1).toNat := by omega
        rw [er, ← h1.2]; omega
      · exact h2.2 r (by omega) hk), fun _ _ _ e0 e1 e2 => no9 (o := none) rfl e1⟩, k_d, k_l, k_k, k_e, k_t, k_n, k_j⟩
def ru_nx2 : Ru := ([(0, (882, (0, (0, 0)))), (0, (905, (0, (0, 0)))), (0, (906, (0, (0, 0)))), (0, (907, (0, (0, 0)))), (5, (70, (6, (0, 0)))), (0, (871, (0, (0, 0)))), (0, (872, (0, (0, 0))))], ([], ([([(2, 1)], 20), ([(2, (-1))], (-20)), ([(3, (-1))], (-2)), ([(1, (-1))], 0), ([(1, 1), (4, (-1))], (-1))], (false, ([], ([], ([(905, some (1, 1)), (906, none), (907, none)], none)))))))
theorem rk_nx2 : RuOk SGd ru_nx2 := by
  intro τ m g hi hc ha hS
  obtain ⟨i0, i1, i2, i3, i4, i5, i6, _⟩ := hi
  have t882 : τ 882 = some (g 0) := i0
  have t905 : τ 905 = some (g 1) := i1
  have t906 : τ 906 = some (g 2) := i2
  have t907 : τ 907 = some (g 3) := i3
  have xk : g 4 = m 70 6 := i4
  have t871 : τ 871 = some (g 5) := i5
  have t872 : τ 872 = some (g 6) := i6
  obtain ⟨c0, c1, c2, c3, c4, _⟩ := hc
  have c0 : 1 * g 2 ≤ 20 := d1 c0
  have c1 : (-1) * g 2 ≤ (-20) := d1 c1
  have c2 : (-1) * g 3 ≤ (-2) := d1 c2
  have c3 : (-1) * g 1 ≤ 0 := d1 c3
  have c4 : 1 * g 1 + (-1) * g 4 ≤ (-1) := d2 c4
  obtain ⟨⟨h_p1, h_p2, h_td⟩, k_b, k_q, k_c, k_d, k_l, k_k, k_e, k_t, k_n, k_j⟩ := hS
  have k_c0 := k_c
  obtain ⟨h_ga, h_in, h_ls, h_ld, h_w, h_rd, h_lead, h_ps, h_E, h_up, h_D, h_Z, h_s, h_sp⟩ := k_c0
  exact ⟨rfl, trivial, trivial, ⟨h_p1, h_p2, h_td⟩, k_b, k_q, ⟨h_ga, h_in, h_ls, h_ld, h_w, h_rd, h_lead, h_ps, h_E, h_up, h_D, h_Z, (fun Z s e0 e1 => by
      have e0 : g 0 = Z := Option.some.inj (t882.symm.trans e0)
      subst e0
      have e1 : g 1 + 1 = s := Option.some.inj e1
      subst e1
      have h1 := h_sp _ _ _ t905 t906 t907
      have h2 := h_s _ _ t882 t905
      have ep : (g 2).toNat = 20 := by omega
      rw [ep] at h1
      refine ⟨by omega, fun r hr hk => ?_⟩
      by_cases e : (r : Int) = g 1
      · have er : r = (g 1).toNat := by omega
        rw [er, ← h1.2]; omega
      · exact h2.2 r (by omega) hk), fun _ _ _ e0 e1 e2 => no9 (o := none) rfl e1⟩, k_d, k_l, k_k, k_e, k_t, k_n, k_j⟩
def ru_non : Ru := ([(0, (882, (0, (0, 0)))), (0, (905, (0, (0, 0)))), (5, (70, (6, (0, 0)))), (0, (871, (0, (0, 0)))), (0, (872, (0, (0, 0)))), (4, (0, (0, (0, 0))))], ([874, 875, 906], ([([(1, (-1)), (2, 1)], 0)], (false, ([], ([], ([(874, some (0, 0)), (875, some (5, 0)), (882, none), (905, none)], none)))))))
theorem rk_non : RuOk SGd ru_non := by
  intro τ m g hi hc ha hS
  obtain ⟨i0, i1, i2, i3, i4, i5, _⟩ := hi
  have t882 : τ 882 = some (g 0) := i0
  have t905 : τ 905 = some (g 1) := i1
  have xk : g 2 = m 70 6 := i2
  have t871 : τ 871 = some (g 3) := i3
  have t872 : τ 872 = some (g 4) := i4
  have xzero : g 5 = 0 := i5
  obtain ⟨c0, _⟩ := hc
  have c0 : (-1) * g 1 + 1 * g 2 ≤ 0 := d2 c0
  obtain ⟨a0, a1, a2, _⟩ := ha
  have n874 : τ 874 = none := a0
  have n875 : τ 875 = none := a1
  have n906 : τ 906 = none := a2
  obtain ⟨⟨h_p1, h_p2, h_td⟩, k_b, k_q, k_c, k_d, k_l, k_k, k_e, k_t, k_n, k_j⟩ := hS
  have k_c0 := k_c
  obtain ⟨h_ga, h_in, h_ls, h_ld, h_w, h_rd, h_lead, h_ps, h_E, h_up, h_D, h_Z, h_s, h_sp⟩ := k_c0
  have k_q0 := k_q
  obtain ⟨h_vs, h_qc, h_qr, h_qk, h_qn, h_ub⟩ := k_q0
  exact ⟨rfl, trivial, trivial, ⟨h_p1, h_p2, h_td⟩, k_b, ⟨h_vs, h_qc, (fun qa qb qs qr e0 e1 e2 e3 => by
      have e0 : g 3 = qa := Option.some.inj (t871.symm.trans e0)
      subst e0
      have e1 : g 4 = qb := Option.some.inj (t872.symm.trans e1)
      subst e1
      have e2 : g 0 + 0 = qs := Option.some.inj e2
      subst e2
      have e3 : g 5 + 0 = qr := Option.some.inj e3
      subst e3
      have h1 := h_s _ _ t882 t905
      have h2 := h_Z _ _ _ t871 t872 t882
      have z : g 0 + 0 = g 0 := by omega
      rw [z]
      refine ⟨by omega, fun q => by omega, fun q => ?_⟩
      obtain ⟨r, hr, hn⟩ := (tell_iff h2).mp q
      have hr9 : r < (m 70 6).toNat := hr
      exact absurd hn (h1.2 r (by omega) hr)), h_qk, h_qn, h_ub⟩, ⟨h_ga, h_in, h_ls, h_ld, h_w, h_rd, h_lead, h_ps, h_E, h_up, h_D, fun _ _ _ e0 e1 e2 => no9 (o := none) rfl e2, fun _ _ e0 e1 => no9 (o := none) rfl e0, fun _ _ _ e0 e1 e2 => no9 (o := none) rfl e0⟩, k_d, k_l, k_k, k_e, k_t, k_n, k_j⟩
def ru_d0 : Ru := ([(0, (871, (0, (0, 0)))), (0, (872, (0, (0, 0)))), (0, (873, (0, (0, 0)))), (4, (0, (0, (0, 0))))], ([920, 921, 922, 923, 924, 925, 926, 927, 928, 929], ([], (false, ([], ([], ([(920, some (3, 0)), (921, some (3, 0)), (922, some (3, 0))], none)))))))
theorem rk_d0 : RuOk SGd ru_d0 := by
  intro τ m g hi hc ha hS
  obtain ⟨i0, i1, i2, i3, _⟩ := hi
  have t871 : τ 871 = some (g 0) := i0
  have t872 : τ 872 = some (g 1) := i1
  have t873 : τ 873 = some (g 2) := i2
  have xzero : g 3 = 0 := i3
  obtain ⟨a0, a1, a2, a3, a4, a5, a6, a7, a8, a9, _⟩ := ha
  have n920 : τ 920 = none := a0
  have n921 : τ 921 = none := a1
  have n922 : τ 922 = none := a2
  have n923 : τ 923 = none := a3
  have n924 : τ 924 = none := a4
  have n925 : τ 925 = none := a5
  have n926 : τ 926 = none := a6
  have n927 : τ 927 = none := a7
  have n928 : τ 928 = none := a8
  have n929 : τ 929 = none := a9
  obtain ⟨⟨h_p1, h_p2, h_td⟩, k_b, k_q, k_c, k_d, k_l, k_k, k_e, k_t, k_n, k_j⟩ := hS
  have k_d0 := k_d
  obtain ⟨h_dn, h_di, h_dh, h_dw, h_dx, h_dg, h_dy, h_df⟩ := k_d0
  exact ⟨rfl, trivial, trivial, ⟨h_p1, h_p2, h_td⟩, k_b, k_q, k_c, ⟨(fun qa qb A I n e0 e1 e2 e3 e4 => by
      have e0 : g 0 = qa := Option.some.inj (t871.symm.trans e0)
      subst e0
      have e1 : g 1 = qb := Option.some.inj (t872.symm.trans e1)
      subst e1
      have e2 : g 3 + 0 = A := Option.some.inj e2
      subst e2
      have e3 : g 3 + 0 = I := Option.some.inj e3
      subst e3
      have e4 : g 3 + 0 = n := Option.some.inj e4
      subst e4
      have z : g 3 + 0 = 0 := by omega
      rw [z]
      refine ⟨by omega, by omega, fun _ => 0, fun i hi => absurd hi (Nat.not_lt_zero i), fun i j hi => absurd hi (Nat.not_lt_zero i), fun s hs => ?_⟩
      obtain ⟨y, i, h1, h2, h3, h4, h5⟩ := hs
      omega), fun _ _ _ _ e0 e1 e2 e3 => no9 n923 e3, fun _ _ _ _ e0 e1 e2 e3 => no9 n924 e3, fun _ _ _ _ _ e0 e1 e2 e3 e4 => no9 n925 e4, fun _ _ _ _ _ e0 e1 e2 e3 e4 => no9 n925 e3, fun _ _ _ _ _ e0 e1 e2 e3 e4 => no9 n926 e3, h_dy, fun _ _ _ _ _ e0 e1 e2 e3 e4 => no9 n925 e3⟩, k_l, k_k, k_e, k_t, k_n, k_j⟩
end
