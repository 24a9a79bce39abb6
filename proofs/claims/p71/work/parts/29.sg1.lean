noncomputable section
/-! ===== THE GUARD, 90: writes ===== -/
def wu_Bu0 : Ru := ([(7, (0, (0, (0, 0)))), (8, (0, (0, (0, 0)))), (0, (883, (0, (0, 0)))), (0, (892, (0, (0, 0)))), (0, (893, (0, (0, 0)))), (0, (894, (0, (0, 0)))), (0, (895, (0, (0, 0)))), (0, (880, (0, (0, 0)))), (0, (881, (0, (0, 0)))), (0, (871, (0, (0, 0)))), (0, (872, (0, (0, 0)))), (0, (896, (0, (0, 0)))), (0, (850, (0, (0, 0)))), (0, (851, (0, (0, 0)))), (0, (852, (0, (0, 0)))), (0, (853, (0, (0, 0)))), (0, (854, (0, (0, 0)))), (0, (855, (0, (0, 0)))), (0, (856, (0, (0, 0)))), (0, (857, (0, (0, 0)))), (0, (858, (0, (0, 0)))), (9, (97, (3, (1, 0)))), (9, (97, (0, (1, 0)))), (9, (76, (0, (1, 0)))), (4, (0, (0, (7, 0)))), (9, (1000, (24, (1, 0))))], ([897, 882, 886, 887, 889, 891, 899, 905, 930, 931, 932, 933, 934, 935, 936, 937, 938, 939, 910, 911, 912, 913, 914, 915, 940, 941, 942, 943, 944, 945, 946, 947, 948, 949, 950, 951, 952, 953, 954, 955, 956, 957, 958, 959, 960, 961, 962, 963, 964, 965, 966, 967, 968, 969, 970, 971, 972, 973, 974, 920, 921, 922, 923, 924, 925, 926, 927, 928, 929], ([([(5, 1)], 0), ([(5, (-1))], 0), ([(4, (-1)), (5, 1)], (-1)), ([(0, 1), (6, (-1))], 0), ([(0, (-1)), (6, 1)], 0), ([(0, (-1))], 0), ([(0, 1)], 19), ([(12, 1), (21, (-1))], 0), ([(12, (-1)), (21, 1)], 0), ([(13, 1), (23, (-1))], 0), ([(13, (-1)), (23, 1)], 0), ([(11, (-1)), (15, 1)], 0), ([(11, 1), (15, (-1))], 0), ([(16, 1), (22, (-1))], 0), ([(16, (-1)), (22, 1)], 0), ([(14, (-1)), (17, 1), (18, 1)], 0), ([(14, 1), (17, (-1)), (18, (-1))], 0), ([(19, 1), (25, (-1))], 0), ([(19, (-1)), (25, 1)], 0), ([(1, 1), (20, (-1))], 0), ([(1, (-1)), (20, 1)], 0)], (false, ([], ([], ([(895, some (6, 1)), (850, none), (851, none), (852, none), (853, none), (854, none), (855, none), (856, none), (857, none), (858, none), (869, none)], none)))))))
theorem wk_Bu0 : WrOk SGd 76 wu_Bu0 := by
  intro τ m g j x hi hc ha hS
  obtain ⟨i0, i1, i2, i3, i4, i5, i6, i7, i8, i9, i10, i11, i12, i13, i14, i15, i16, i17, i18, i19, i20, i21, i22, i23, i24, i25, _⟩ := hi
  have xp : g 0 = (j : Int) := i0
  have xv : g 1 = x := i1
  have t883 : τ 883 = some (g 2) := i2
  have t892 : τ 892 = some (g 3) := i3
  have t893 : τ 893 = some (g 4) := i4
  have t894 : τ 894 = some (g 5) := i5
  have t895 : τ 895 = some (g 6) := i6
  have t880 : τ 880 = some (g 7) := i7
  have t881 : τ 881 = some (g 8) := i8
  have t871 : τ 871 = some (g 9) := i9
  have t872 : τ 872 = some (g 10) := i10
  have t896 : τ 896 = some (g 11) := i11
  have t850 : τ 850 = some (g 12) := i12
  have t851 : τ 851 = some (g 13) := i13
  have t852 : τ 852 = some (g 14) := i14
  have t853 : τ 853 = some (g 15) := i15
  have t854 : τ 854 = some (g 16) := i16
  have t855 : τ 855 = some (g 17) := i17
  have t856 : τ 856 = some (g 18) := i18
  have t857 : τ 857 = some (g 19) := i19
  have t858 : τ 858 = some (g 20) := i20
  obtain ⟨jrl, url, vrl⟩ : ∃ j : Nat, 1 * g 3 + 0 = (j : Int) ∧ g 21 = m 97 j := i21
  obtain ⟨jrp, urp, vrp⟩ : ∃ j : Nat, 1 * g 0 + 0 = (j : Int) ∧ g 22 = m 97 j := i22
  obtain ⟨jy, uy, vy⟩ : ∃ j : Nat, 1 * g 0 + 0 = (j : Int) ∧ g 23 = m 76 j := i23
  have xjc : g 24 = 7 := i24
  obtain ⟨jd, ud, vd⟩ : ∃ j : Nat, 1 * g 24 + 0 = (j : Int) ∧ g 25 = m 1000 j := i25
  obtain ⟨c0, c1, c2, c3, c4, c5, c6, c7, c8, c9, c10, c11, c12, c13, c14, c15, c16, c17, c18, c19, c20, _⟩ := hc
  have c0 : 1 * g 5 ≤ 0 := d1 c0
  have c1 : (-1) * g 5 ≤ 0 := d1 c1
  have c2 : (-1) * g 4 + 1 * g 5 ≤ (-1) := d2 c2
  have c3 : 1 * g 0 + (-1) * g 6 ≤ 0 := d2 c3
  have c4 : (-1) * g 0 + 1 * g 6 ≤ 0 := d2 c4
  have c5 : (-1) * g 0 ≤ 0 := d1 c5
  have c6 : 1 * g 0 ≤ 19 := d1 c6
  have c7 : 1 * g 12 + (-1) * g 21 ≤ 0 := d2 c7
  have c8 : (-1) * g 12 + 1 * g 21 ≤ 0 := d2 c8
  have c9 : 1 * g 13 + (-1) * g 23 ≤ 0 := d2 c9
  have c10 : (-1) * g 13 + 1 * g 23 ≤ 0 := d2 c10
  have c11 : (-1) * g 11 + 1 * g 15 ≤ 0 := d2 c11
  have c12 : 1 * g 11 + (-1) * g 15 ≤ 0 := d2 c12
  have c13 : 1 * g 16 + (-1) * g 22 ≤ 0 := d2 c13
  have c14 : (-1) * g 16 + 1 * g 22 ≤ 0 := d2 c14
  have c15 : (-1) * g 14 + 1 * g 17 + 1 * g 18 ≤ 0 := d3 c15
  have c16 : 1 * g 14 + (-1) * g 17 + (-1) * g 18 ≤ 0 := d3 c16
  have c17 : 1 * g 19 + (-1) * g 25 ≤ 0 := d2 c17
  have c18 : (-1) * g 19 + 1 * g 25 ≤ 0 := d2 c18
  have c19 : 1 * g 1 + (-1) * g 20 ≤ 0 := d2 c19
  have c20 : (-1) * g 1 + 1 * g 20 ≤ 0 := d2 c20
  obtain ⟨a0, a1, a2, a3, a4, a5, a6, a7, a8, a9, a10, a11, a12, a13, a14, a15, a16, a17, a18, a19, a20, a21, a22, a23, a24, a25, a26, a27, a28, a29, a30, a31, a32, a33, a34, a35, a36, a37, a38, a39, a40, a41, a42, a43, a44, a45, a46, a47, a48, a49, a50, a51, a52, a53, a54, a55, a56, a57, a58, a59, a60, a61, a62, a63, a64, a65, a66, a67, a68, _⟩ := ha
  have n897 : τ 897 = none := a0
  have n882 : τ 882 = none := a1
  have n886 : τ 886 = none := a2
  have n887 : τ 887 = none := a3
  have n889 : τ 889 = none := a4
  have n891 : τ 891 = none := a5
  have n899 : τ 899 = none := a6
  have n905 : τ 905 = none := a7
  have n930 : τ 930 = none := a8
  have n931 : τ 931 = none := a9
  have n932 : τ 932 = none := a10
  have n933 : τ 933 = none := a11
  have n934 : τ 934 = none := a12
  have n935 : τ 935 = none := a13
  have n936 : τ 936 = none := a14
  have n937 : τ 937 = none := a15
  have n938 : τ 938 = none := a16
  have n939 : τ 939 = none := a17
  have n910 : τ 910 = none := a18
  have n911 : τ 911 = none := a19
  have n912 : τ 912 = none := a20
  have n913 : τ 913 = none := a21
  have n914 : τ 914 = none := a22
  have n915 : τ 915 = none := a23
  have n940 : τ 940 = none := a24
  have n941 : τ 941 = none := a25
  have n942 : τ 942 = none := a26
  have n943 : τ 943 = none := a27
  have n944 : τ 944 = none := a28
  have n945 : τ 945 = none := a29
  have n946 : τ 946 = none := a30
  have n947 : τ 947 = none := a31
  have n948 : τ 948 = none := a32
  have n949 : τ 949 = none := a33
  have n950 : τ 950 = none := a34
  have n951 : τ 951 = none := a35
  have n952 : τ 952 = none := a36
  have n953 : τ 953 = none := a37
  have n954 : τ 954 = none := a38
  have n955 : τ 955 = none := a39
  have n956 : τ 956 = none := a40
  have n957 : τ 957 = none := a41
  have n958 : τ 958 = none := a42
  have n959 : τ 959 = none := a43
  have n960 : τ 960 = none := a44
  have n961 : τ 961 = none := a45
  have n962 : τ 962 = none := a46
  have n963 : τ 963 = none := a47
  have n964 : τ 964 = none := a48
  have n965 : τ 965 = none := a49
  have n966 : τ 966 = none := a50
  have n967 : τ 967 = none := a51
  have n968 : τ 968 = none := a52
  have n969 : τ 969 = none := a53
  have n970 : τ 970 = none := a54
  have n971 : τ 971 = none := a55
  have n972 : τ 972 = none := a56
  have n973 : τ 973 = none := a57
  have n974 : τ 974 = none := a58
  have n920 : τ 920 = none := a59
  have n921 : τ 921 = none := a60
  have n922 : τ 922 = none := a61
  have n923 : τ 923 = none := a62
  have n924 : τ 924 = none := a63
  have n925 : τ 925 = none := a64
  have n926 : τ 926 = none := a65
  have n927 : τ 927 = none := a66
  have n928 : τ 928 = none := a67
  have n929 : τ 929 = none := a68
  obtain ⟨⟨h_p1, h_p2, h_td⟩, k_b, k_q, k_c, k_d, k_l, k_k, k_e, k_t, k_n, k_j⟩ := hS
  have k_c0 := k_c
  obtain ⟨h_ga, h_in, h_ls, h_ld, h_w, h_rd, h_lead, h_ps, h_E, h_up, h_D, h_Z, h_s, h_sp⟩ := k_c0
  have k_b0 := k_b
  obtain ⟨h_bit, h_one, h_or, h_and, h_shr, h_m1, h_m2, h_dv, h_r1, h_r2, h_nz⟩ := k_b0
  have qS : eGS m (wrM m 76 j x) := ⟨fun _ => rfl, fun _ => rfl, fun _ => rfl⟩
  have qL : eGL m (wrM m 76 j x) := fun _ => rfl
  have qK : eGK m (wrM m 76 j x) := ⟨fun _ => rfl, rfl⟩
  have qM : eGM m (wrM m 76 j x) := fun _ => rfl
  have qP : eGP m (wrM m 76 j x) := rfl
  have qC : eGC m (wrM m 76 j x) := fun _ => rfl
  have k_q := e_q qS qP k_q
  have k_d := e_d qS k_d
  have k_l := e_l qS qL k_l
  have k_k := e_k qS qK k_k
  have k_e := e_e qK qM k_e
  have k_t := e_t qK qP k_t
  have k_n := e_n qS k_n
  have k_j := e_j qS qC k_j
  exact ⟨⟨h_p1, h_p2, h_td⟩, ⟨h_bit, h_one, h_or, h_and, h_shr, fun _ _ _ e0 e1 e2 => no9 (o := none) rfl e0, fun _ _ _ e0 e1 e2 => no9 (o := none) rfl e0, fun _ _ _ e0 e1 e2 => no9 (o := none) rfl e0, h_r1, h_r2, fun _ e0 => no9 (o := none) rfl e0⟩, k_q, ⟨(fun qa qb A I e0 e1 e2 e3 => by
      have e0 : g 9 = qa := Option.some.inj (t871.symm.trans e0)
      subst e0
      have e1 : g 10 = qb := Option.some.inj (t872.symm.trans e1)
      subst e1
      have e2 : g 7 = A := Option.some.inj (t880.symm.trans e2)
      subst e2
      have e3 : g 8 = I := Option.some.inj (t881.symm.trans e3)
      subst e3
      exact ⟨(h_ga _ _ _ _ t871 t872 t880 t881).1, fun e8 _ => no9 e8 t892⟩), h_in, h_ls, fun _ _ _ _ _ _ e0 e1 e2 e3 e4 e5 => no9 n899 e4, h_w, fun _ _ e0 e1 => no9 n886 e1, fun _ _ _ e0 e1 e2 => no9 n887 e1, fun _ _ _ _ e0 e1 e2 e3 => no9 n886 e1, fun _ _ _ e0 e1 e2 => no9 n886 e1, (fun qa qb A I w Y N U V e0 e1 e2 e3 e4 e5 e6 e7 e8 => by
      have e0 : g 9 = qa := Option.some.inj (t871.symm.trans e0)
      subst e0
      have e1 : g 10 = qb := Option.some.inj (t872.symm.trans e1)
      subst e1
      have e2 : g 7 = A := Option.some.inj (t880.symm.trans e2)
      subst e2
      have e3 : g 8 = I := Option.some.inj (t881.symm.trans e3)
      subst e3
      have e4 : g 2 = w := Option.some.inj (t883.symm.trans e4)
      subst e4
      have e5 : g 3 = Y := Option.some.inj (t892.symm.trans e5)
      subst e5
      have e6 : g 4 = N := Option.some.inj (t893.symm.trans e6)
      subst e6
      have e7 : g 5 = U := Option.some.inj (t894.symm.trans e7)
      subst e7
      have e8 : g 6 + 1 = V := Option.some.inj e8
      subst e8
      show UpG (wrM m 76 j x) (τ 896) (τ 897) (PfG (wrM m 76 j x) (g 9) (g 10) (g 7) (g 8)) (g 2) (g 3) (g 4) (g 5) (g 6 + 1)
      obtain ⟨q, d9, B9, ⟨u1, uN, uY, uU, uV⟩, ⟨u2, u3⟩, u4, u5, u6, ⟨u7, u8⟩, u9⟩ := (h_up _ _ _ _ _ _ _ _ _ t871 t872 t880 t881 t883 t892 t893 t894 t895)
      have hm1 := h_m1 _ _ _ t850 t851 t852
      have hm2 := h_m2 _ _ _ t853 t854 t855
      have hdv := h_dv _ _ _ t856 t857 t858
      have ejl : jrl = (g 3).toNat := by omega
      have ejp : jrp = j := by omega
      have ejy : jy = j := by omega
      have ejd : jd = 7 := by omega
      subst ejl ejd
      rw [ejp] at vrp
      rw [ejy] at vy
      have eU : (g 5).toNat = 0 := by omega
      have h4 := u4 0 j (by omega) (by omega)
      rw [if_neg (by omega)] at h4
      have h4 := h4 (by omega)
      have hB : BGm m 0 j = m 76 j := by unfold BGm; rw [if_pos (by omega)]
      have a1 : g 14 = g 21 * g 23 := by rw [hm1, show g 12 = g 21 by omega, show g 13 = g 23 by omega]
      have a2 : g 17 = g 11 * g 22 := by rw [hm2, show g 15 = g 11 by omega, show g 16 = g 22 by omega]
      have a3 : g 20 = (g 21 * g 23 - g 11 * g 22).tdiv (g 25) := by rw [hdv, show g 19 = g 25 by omega, show g 18 = g 14 - g 17 by omega, a1, a2]
      have u6' := u6 _ t896
      rw [eU] at u6'
      have hx : x = nbG (g 4).toNat q d9 B9 (bvG (g 2)) (g 3).toNat 0 j := by
        unfold nbG
        rw [if_neg (by omega), ← u3 (g 3).toNat (by omega), ← u3 j (by omega), ← h4, ← u6', ← u8, hB, ← vrl, ← vy, ← vrp, ← vd, ← a3]; omega
      rw [PfG_e qS]
      refine ⟨q, d9, B9, ⟨u1, uN, uY, uU, by omega⟩, ⟨u2, u3⟩, fun r c hr hc => ?_, u5, u6, ⟨u7, u8⟩, ?_⟩
      · have h5 := u4 r c hr hc
        rw [BGm_w (r0 := 0) rfl (by omega) r c hc (by omega)]
        by_cases e : r = 0 ∧ c = j
        · rw [if_pos (by omega), if_pos e, e.1, e.2]; exact hx
        · rw [if_neg e]
          by_cases e2 : (r : Int) < g 5 ∨ ((r : Int) = g 5 ∧ (c : Int) < g 6)
          · rw [if_pos e2] at h5; rw [if_pos (by omega)]; exact h5
          · rw [if_neg e2] at h5; rw [if_neg (by omega)]; exact h5
      · rcases u9 with q9 | q9 | q9
        · exact Or.inl q9
        · rw [n897] at q9; cases q9.1
        · rw [n897] at q9; cases q9.1), fun _ _ _ _ _ e0 e1 e2 e3 e4 => no9 n899 e4, fun _ _ _ e0 e1 e2 => no9 n882 e2, fun _ _ e0 e1 => no9 n882 e0, fun _ _ _ e0 e1 e2 => no9 n905 e0⟩, k_d, k_l, k_k, k_e, k_t, k_n, k_j⟩
def wu_Bl0 : Ru := ([(7, (0, (0, (0, 0)))), (8, (0, (0, (0, 0)))), (0, (883, (0, (0, 0)))), (0, (892, (0, (0, 0)))), (0, (893, (0, (0, 0)))), (0, (894, (0, (0, 0)))), (0, (895, (0, (0, 0)))), (0, (880, (0, (0, 0)))), (0, (881, (0, (0, 0)))), (0, (871, (0, (0, 0)))), (0, (872, (0, (0, 0)))), (9, (97, (0, (1, 0))))], ([896, 897, 882, 886, 887, 889, 891, 899, 905, 930, 931, 932, 933, 934, 935, 936, 937, 938, 939, 910, 911, 912, 913, 914, 915, 940, 941, 942, 943, 944, 945, 946, 947, 948, 949, 950, 951, 952, 953, 954, 955, 956, 957, 958, 959, 960, 961, 962, 963, 964, 965, 966, 967, 968, 969, 970, 971, 972, 973, 974, 920, 921, 922, 923, 924, 925, 926, 927, 928, 929], ([([(5, 1)], 0), ([(5, (-1))], 0), ([(4, (-1)), (5, 1)], 0), ([(4, 1), (5, (-1))], 0), ([(0, 1), (6, (-1))], 0), ([(0, (-1)), (6, 1)], 0), ([(0, (-1))], 0), ([(0, 1)], 19), ([(1, 1), (11, (-1))], 0), ([(1, (-1)), (11, 1)], 0)], (false, ([], ([], ([(895, some (6, 1))], none)))))))
theorem wk_Bl0 : WrOk SGd 76 wu_Bl0 := by
  intro τ m g j x hi hc ha hS
  obtain ⟨i0, i1, i2, i3, i4, i5, i6, i7, i8, i9, i10, i11, _⟩ := hi
  have xp : g 0 = (j : Int) := i0
  have xv : g 1 = x := i1
  have t883 : τ 883 = some (g 2) := i2
  have t892 : τ 892 = some (g 3) := i3
  have t893 : τ 893 = some (g 4) := i4
  have t894 : τ 894 = some (g 5) := i5
  have t895 : τ 895 = some (g 6) := i6
  have t880 : τ 880 = some (g 7) := i7
  have t881 : τ 881 = some (g 8) := i8
  have t871 : τ 871 = some (g 9) := i9
  have t872 : τ 872 = some (g 10) := i10
  obtain ⟨jrp, urp, vrp⟩ : ∃ j : Nat, 1 * g 0 + 0 = (j : Int) ∧ g 11 = m 97 j := i11
  obtain ⟨c0, c1, c2, c3, c4, c5, c6, c7, c8, c9, _⟩ := hc
  have c0 : 1 * g 5 ≤ 0 := d1 c0
  have c1 : (-1) * g 5 ≤ 0 := d1 c1
  have c2 : (-1) * g 4 + 1 * g 5 ≤ 0 := d2 c2
  have c3 : 1 * g 4 + (-1) * g 5 ≤ 0 := d2 c3
  have c4 : 1 * g 0 + (-1) * g 6 ≤ 0 := d2 c4
  have c5 : (-1) * g 0 + 1 * g 6 ≤ 0 := d2 c5
  have c6 : (-1) * g 0 ≤ 0 := d1 c6
  have c7 : 1 * g 0 ≤ 19 := d1 c7
  have c8 : 1 * g 1 + (-1) * g 11 ≤ 0 := d2 c8
  have c9 : (-1) * g 1 + 1 * g 11 ≤ 0 := d2 c9
  obtain ⟨a0, a1, a2, a3, a4, a5, a6, a7, a8, a9, a10, a11, a12, a13, a14, a15, a16, a17, a18, a19, a20, a21, a22, a23, a24, a25, a26, a27, a28, a29, a30, a31, a32, a33, a34, a35, a36, a37, a38, a39, a40, a41, a42, a43, a44, a45, a46, a47, a48, a49, a50, a51, a52, a53, a54, a55, a56, a57, a58, a59, a60, a61, a62, a63, a64, a65, a66, a67, a68, a69, _⟩ := ha
  have n896 : τ 896 = none := a0
  have n897 : τ 897 = none := a1
  have n882 : τ 882 = none := a2
  have n886 : τ 886 = none := a3
  have n887 : τ 887 = none := a4
  have n889 : τ 889 = none := a5
  have n891 : τ 891 = none := a6
  have n899 : τ 899 = none := a7
  have n905 : τ 905 = none := a8
  have n930 : τ 930 = none := a9
  have n931 : τ 931 = none := a10
  have n932 : τ 932 = none := a11
  have n933 : τ 933 = none := a12
  have n934 : τ 934 = none := a13
  have n935 : τ 935 = none := a14
  have n936 : τ 936 = none := a15
  have n937 : τ 937 = none := a16
  have n938 : τ 938 = none := a17
  have n939 : τ 939 = none := a18
  have n910 : τ 910 = none := a19
  have n911 : τ 911 = none := a20
  have n912 : τ 912 = none := a21
  have n913 : τ 913 = none := a22
  have n914 : τ 914 = none := a23
  have n915 : τ 915 = none := a24
  have n940 : τ 940 = none := a25
  have n941 : τ 941 = none := a26
  have n942 : τ 942 = none := a27
  have n943 : τ 943 = none := a28
  have n944 : τ 944 = none := a29
  have n945 : τ 945 = none := a30
  have n946 : τ 946 = none := a31
  have n947 : τ 947 = none := a32
  have n948 : τ 948 = none := a33
  have n949 : τ 949 = none := a34
  have n950 : τ 950 = none := a35
  have n951 : τ 951 = none := a36
  have n952 : τ 952 = none := a37
  have n953 : τ 953 = none := a38
  have n954 : τ 954 = none := a39
  have n955 : τ 955 = none := a40
  have n956 : τ 956 = none := a41
  have n957 : τ 957 = none := a42
  have n958 : τ 958 = none := a43
  have n959 : τ 959 = none := a44
  have n960 : τ 960 = none := a45
  have n961 : τ 961 = none := a46
  have n962 : τ 962 = none := a47
  have n963 : τ 963 = none := a48
  have n964 : τ 964 = none := a49
  have n965 : τ 965 = none := a50
  have n966 : τ 966 = none := a51
  have n967 : τ 967 = none := a52
  have n968 : τ 968 = none := a53
  have n969 : τ 969 = none := a54
  have n970 : τ 970 = none := a55
  have n971 : τ 971 = none := a56
  have n972 : τ 972 = none := a57
  have n973 : τ 973 = none := a58
  have n974 : τ 974 = none := a59
  have n920 : τ 920 = none := a60
  have n921 : τ 921 = none := a61
  have n922 : τ 922 = none := a62
  have n923 : τ 923 = none := a63
  have n924 : τ 924 = none := a64
  have n925 : τ 925 = none := a65
  have n926 : τ 926 = none := a66
  have n927 : τ 927 = none := a67
  have n928 : τ 928 = none := a68
  have n929 : τ 929 = none := a69
  obtain ⟨⟨h_p1, h_p2, h_td⟩, k_b, k_q, k_c, k_d, k_l, k_k, k_e, k_t, k_n, k_j⟩ := hS
  have k_c0 := k_c
  obtain ⟨h_ga, h_in, h_ls, h_ld, h_w, h_rd, h_lead, h_ps, h_E, h_up, h_D, h_Z, h_s, h_sp⟩ := k_c0
  have qS : eGS m (wrM m 76 j x) := ⟨fun _ => rfl, fun _ => rfl, fun _ => rfl⟩
  have qL : eGL m (wrM m 76 j x) := fun _ => rfl
  have qK : eGK m (wrM m 76 j x) := ⟨fun _ => rfl, rfl⟩
  have qM : eGM m (wrM m 76 j x) := fun _ => rfl
  have qP : eGP m (wrM m 76 j x) := rfl
  have qC : eGC m (wrM m 76 j x) := fun _ => rfl
  have k_q := e_q qS qP k_q
  have k_d := e_d qS k_d
  have k_l := e_l qS qL k_l
  have k_k := e_k qS qK k_k
  have k_e := e_e qK qM k_e
  have k_t := e_t qK qP k_t
  have k_n := e_n qS k_n
  have k_j := e_j qS qC k_j
  exact ⟨⟨h_p1, h_p2, h_td⟩, k_b, k_q, ⟨(fun qa qb A I e0 e1 e2 e3 => by
      have e0 : g 9 = qa := Option.some.inj (t871.symm.trans e0)
      subst e0
      have e1 : g 10 = qb := Option.some.inj (t872.symm.trans e1)
      subst e1
      have e2 : g 7 = A := Option.some.inj (t880.symm.trans e2)
      subst e2
      have e3 : g 8 = I := Option.some.inj (t881.symm.trans e3)
      subst e3
      exact ⟨(h_ga _ _ _ _ t871 t872 t880 t881).1, fun e8 _ => no9 e8 t892⟩), h_in, h_ls, fun _ _ _ _ _ _ e0 e1 e2 e3 e4 e5 => no9 n899 e4, h_w, fun _ _ e0 e1 => no9 n886 e1, fun _ _ _ e0 e1 e2 => no9 n887 e1, fun _ _ _ _ e0 e1 e2 e3 => no9 n886 e1, fun _ _ _ e0 e1 e2 => no9 n886 e1, (fun qa qb A I w Y N U V e0 e1 e2 e3 e4 e5 e6 e7 e8 => by
      have e0 : g 9 = qa := Option.some.inj (t871.symm.trans e0)
      subst e0
      have e1 : g 10 = qb := Option.some.inj (t872.symm.trans e1)
      subst e1
      have e2 : g 7 = A := Option.some.inj (t880.symm.trans e2)
      subst e2
      have e3 : g 8 = I := Option.some.inj (t881.symm.trans e3)
      subst e3
      have e4 : g 2 = w := Option.some.inj (t883.symm.trans e4)
      subst e4
      have e5 : g 3 = Y := Option.some.inj (t892.symm.trans e5)
      subst e5
      have e6 : g 4 = N := Option.some.inj (t893.symm.trans e6)
      subst e6
      have e7 : g 5 = U := Option.some.inj (t894.symm.trans e7)
      subst e7
      have e8 : g 6 + 1 = V := Option.some.inj e8
      subst e8
      show UpG (wrM m 76 j x) (τ 896) (τ 897) (PfG (wrM m 76 j x) (g 9) (g 10) (g 7) (g 8)) (g 2) (g 3) (g 4) (g 5) (g 6 + 1)
      obtain ⟨q, d9, B9, ⟨u1, uN, uY, uU, uV⟩, ⟨u2, u3⟩, u4, u5, u6, ⟨u7, u8⟩, u9⟩ := (h_up _ _ _ _ _ _ _ _ _ t871 t872 t880 t881 t883 t892 t893 t894 t895)
      have ejp : jrp = j := by omega
      have eN : (g 4).toNat = 0 := by omega
      have hx : x = nbG (g 4).toNat q d9 B9 (bvG (g 2)) (g 3).toNat 0 j := by
        unfold nbG
        rw [if_pos eN.symm, ← u3 j (by omega), ← ejp, ← vrp]; omega
      rw [PfG_e qS]
      refine ⟨q, d9, B9, ⟨u1, uN, uY, uU, by omega⟩, ⟨u2, u3⟩, fun r c hr hc => ?_, u5, u6, ⟨u7, u8⟩, ?_⟩
      · have h5 := u4 r c hr hc
        rw [BGm_w (r0 := 0) rfl (by omega) r c hc (by omega)]
        by_cases e : r = 0 ∧ c = j
        · rw [if_pos (by omega), if_pos e, e.1, e.2]; exact hx
        · rw [if_neg e]
          by_cases e2 : (r : Int) < g 5 ∨ ((r : Int) = g 5 ∧ (c : Int) < g 6)
          · rw [if_pos e2] at h5; rw [if_pos (by omega)]; exact h5
          · rw [if_neg e2] at h5; rw [if_neg (by omega)]; exact h5
      · rcases u9 with q9 | q9 | q9
        · exact Or.inl q9
        · rw [n897] at q9; cases q9.1
        · rw [n897] at q9; cases q9.1), fun _ _ _ _ _ e0 e1 e2 e3 e4 => no9 n899 e4, fun _ _ _ e0 e1 e2 => no9 n882 e2, fun _ _ e0 e1 => no9 n882 e0, fun _ _ _ e0 e1 e2 => no9 n905 e0⟩, k_d, k_l, k_k, k_e, k_t, k_n, k_j⟩
def wu_Bu1 : Ru := ([(7, (0, (0, (0, 0)))), (8, (0, (0, (0, 0)))), (0, (883, (0, (0, 0)))), (0, (892, (0, (0, 0)))), (0, (893, (0, (0, 0)))), (0, (894, (0, (0, 0)))), (0, (895, (0, (0, 0)))), (0, (880, (0, (0, 0)))), (0, (881, (0, (0, 0)))), (0, (871, (0, (0, 0)))), (0, (872, (0, (0, 0)))), (0, (896, (0, (0, 0)))), (0, (850, (0, (0, 0)))), (0, (851, (0, (0, 0)))), (0, (852, (0, (0, 0)))), (0, (853, (0, (0, 0)))), (0, (854, (0, (0, 0)))), (0, (855, (0, (0, 0)))), (0, (856, (0, (0, 0)))), (0, (857, (0, (0, 0)))), (0, (858, (0, (0, 0)))), (9, (97, (3, (1, 0)))), (9, (97, (0, (1, 0)))), (9, (77, (0, (1, 0)))), (4, (0, (0, (7, 0)))), (9, (1000, (24, (1, 0))))], ([897, 882, 886, 887, 889, 891, 899, 905, 930, 931, 932, 933, 934, 935, 936, 937, 938, 939, 910, 911, 912, 913, 914, 915, 940, 941, 942, 943, 944, 945, 946, 947, 948, 949, 950, 951, 952, 953, 954, 955, 956, 957, 958, 959, 960, 961, 962, 963, 964, 965, 966, 967, 968, 969, 970, 971, 972, 973, 974, 920, 921, 922, 923, 924, 925, 926, 927, 928, 929], ([([(5, 1)], 1), ([(5, (-1))], (-1)), ([(4, (-1)), (5, 1)], (-1)), ([(0, 1), (6, (-1))], 0), ([(0, (-1)), (6, 1)], 0), ([(0, (-1))], 0), ([(0, 1)], 19), ([(12, 1), (21, (-1))], 0), ([(12, (-1)), (21, 1)], 0), ([(13, 1), (23, (-1))], 0), ([(13, (-1)), (23, 1)], 0), ([(11, (-1)), (15, 1)], 0), ([(11, 1), (15, (-1))], 0), ([(16, 1), (22, (-1))], 0), ([(16, (-1)), (22, 1)], 0), ([(14, (-1)), (17, 1), (18, 1)], 0), ([(14, 1), (17, (-1)), (18, (-1))], 0), ([(19, 1), (25, (-1))], 0), ([(19, (-1)), (25, 1)], 0), ([(1, 1), (20, (-1))], 0), ([(1, (-1)), (20, 1)], 0)], (false, ([], ([], ([(895, some (6, 1)), (850, none), (851, none), (852, none), (853, none), (854, none), (855, none), (856, none), (857, none), (858, none), (869, none)], none)))))))
theorem wk_Bu1 : WrOk SGd 77 wu_Bu1 := by
  intro τ m g j x hi hc ha hS
  obtain ⟨i0, i1, i2, i3, i4, i5, i6, i7, i8, i9, i10, i11, i12, i13, i14, i15, i16, i17, i18, i19, i20, i21, i22, i23, i24, i25, _⟩ := hi
  have xp : g 0 = (j : Int) := i0
  have xv : g 1 = x := i1
  have t883 : τ 883 = some (g 2) := i2
  have t892 : τ 892 = some (g 3) := i3
  have t893 : τ 893 = some (g 4) := i4
  have t894 : τ 894 = some (g 5) := i5
  have t895 : τ 895 = some (g 6) := i6
  have t880 : τ 880 = some (g 7) := i7
  have t881 : τ 881 = some (g 8) := i8
  have t871 : τ 871 = some (g 9) := i9
  have t872 : τ 872 = some (g 10) := i10
  have t896 : τ 896 = some (g 11) := i11
  have t850 : τ 850 = some (g 12) := i12
  have t851 : τ 851 = some (g 13) := i13
  have t852 : τ 852 = some (g 14) := i14
  have t853 : τ 853 = some (g 15) := i15
  have t854 : τ 854 = some (g 16) := i16
  have t855 : τ 855 = some (g 17) := i17
  have t856 : τ 856 = some (g 18) := i18
  have t857 : τ 857 = some (g 19) := i19
  have t858 : τ 858 = some (g 20) := i20
  obtain ⟨jrl, url, vrl⟩ : ∃ j : Nat, 1 * g 3 + 0 = (j : Int) ∧ g 21 = m 97 j := i21
  obtain ⟨jrp, urp, vrp⟩ : ∃ j : Nat, 1 * g 0 + 0 = (j : Int) ∧ g 22 = m 97 j := i22
  obtain ⟨jy, uy, vy⟩ : ∃ j : Nat, 1 * g 0 + 0 = (j : Int) ∧ g 23 = m 77 j := i23
  have xjc : g 24 = 7 := i24
  obtain ⟨jd, ud, vd⟩ : ∃ j : Nat, 1 * g 24 + 0 = (j : Int) ∧ g 25 = m 1000 j := i25
  obtain ⟨c0, c1, c2, c3, c4, c5, c6, c7, c8, c9, c10, c11, c12, c13, c14, c15, c16, c17, c18, c19, c20, _⟩ := hc
  have c0 : 1 * g 5 ≤ 1 := d1 c0
  have c1 : (-1) * g 5 ≤ (-1) := d1 c1
  have c2 : (-1) * g 4 + 1 * g 5 ≤ (-1) := d2 c2
  have c3 : 1 * g 0 + (-1) * g 6 ≤ 0 := d2 c3
  have c4 : (-1) * g 0 + 1 * g 6 ≤ 0 := d2 c4
  have c5 : (-1) * g 0 ≤ 0 := d1 c5
  have c6 : 1 * g 0 ≤ 19 := d1 c6
  have c7 : 1 * g 12 + (-1) * g 21 ≤ 0 := d2 c7
  have c8 : (-1) * g 12 + 1 * g 21 ≤ 0 := d2 c8
  have c9 : 1 * g 13 + (-1) * g 23 ≤ 0 := d2 c9
  have c10 : (-1) * g 13 + 1 * g 23 ≤ 0 := d2 c10
  have c11 : (-1) * g 11 + 1 * g 15 ≤ 0 := d2 c11
  have c12 : 1 * g 11 + (-1) * g 15 ≤ 0 := d2 c12
  have c13 : 1 * g 16 + (-1) * g 22 ≤ 0 := d2 c13
  have c14 : (-1) * g 16 + 1 * g 22 ≤ 0 := d2 c14
  have c15 : (-1) * g 14 + 1 * g 17 + 1 * g 18 ≤ 0 := d3 c15
  have c16 : 1 * g 14 + (-1) * g 17 + (-1) * g 18 ≤ 0 := d3 c16
  have c17 : 1 * g 19 + (-1) * g 25 ≤ 0 := d2 c17
  have c18 : (-1) * g 19 + 1 * g 25 ≤ 0 := d2 c18
  have c19 : 1 * g 1 + (-1) * g 20 ≤ 0 := d2 c19
  have c20 : (-1) * g 1 + 1 * g 20 ≤ 0 := d2 c20
  obtain ⟨a0, a1, a2, a3, a4, a5, a6, a7, a8, a9, a10, a11, a12, a13, a14, a15, a16, a17, a18, a19, a20, a21, a22, a23, a24, a25, a26, a27, a28, a29, a30, a31, a32, a33, a34, a35, a36, a37, a38, a39, a40, a41, a42, a43, a44, a45, a46, a47, a48, a49, a50, a51, a52, a53, a54, a55, a56, a57, a58, a59, a60, a61, a62, a63, a64, a65, a66, a67, a68, _⟩ := ha
  have n897 : τ 897 = none := a0
  have n882 : τ 882 = none := a1
  have n886 : τ 886 = none := a2
  have n887 : τ 887 = none := a3
  have n889 : τ 889 = none := a4
  have n891 : τ 891 = none := a5
  have n899 : τ 899 = none := a6
  have n905 : τ 905 = none := a7
  have n930 : τ 930 = none := a8
  have n931 : τ 931 = none := a9
  have n932 : τ 932 = none := a10
  have n933 : τ 933 = none := a11
  have n934 : τ 934 = none := a12
  have n935 : τ 935 = none := a13
  have n936 : τ 936 = none := a14
  have n937 : τ 937 = none := a15
  have n938 : τ 938 = none := a16
  have n939 : τ 939 = none := a17
  have n910 : τ 910 = none := a18
  have n911 : τ 911 = none := a19
  have n912 : τ 912 = none := a20
  have n913 : τ 913 = none := a21
  have n914 : τ 914 = none := a22
  have n915 : τ 915 = none := a23
  have n940 : τ 940 = none := a24
  have n941 : τ 941 = none := a25
  have n942 : τ 942 = none := a26
  have n943 : τ 943 = none := a27
  have n944 : τ 944 = none := a28
  have n945 : τ 945 = none := a29
  have n946 : τ 946 = none := a30
  have n947 : τ 947 = none := a31
  have n948 : τ 948 = none := a32
  have n949 : τ 949 = none := a33
  have n950 : τ 950 = none := a34
  have n951 : τ 951 = none := a35
  have n952 : τ 952 = none := a36
  have n953 : τ 953 = none := a37
  have n954 : τ 954 = none := a38
  have n955 : τ 955 = none := a39
  have n956 : τ 956 = none := a40
  have n957 : τ 957 = none := a41
  have n958 : τ 958 = none := a42
  have n959 : τ 959 = none := a43
  have n960 : τ 960 = none := a44
  have n961 : τ 961 = none := a45
  have n962 : τ 962 = none := a46
  have n963 : τ 963 = none := a47
  have n964 : τ 964 = none := a48
  have n965 : τ 965 = none := a49
  have n966 : τ 966 = none := a50
  have n967 : τ 967 = none := a51
  have n968 : τ 968 = none := a52
  have n969 : τ 969 = none := a53
  have n970 : τ 970 = none := a54
  have n971 : τ 971 = none := a55
  have n972 : τ 972 = none := a56
  have n973 : τ 973 = none := a57
  have n974 : τ 974 = none := a58
  have n920 : τ 920 = none := a59
  have n921 : τ 921 = none := a60
  have n922 : τ 922 = none := a61
  have n923 : τ 923 = none := a62
  have n924 : τ 924 = none := a63
  have n925 : τ 925 = none := a64
  have n926 : τ 926 = none := a65
  have n927 : τ 927 = none := a66
  have n928 : τ 928 = none := a67
  have n929 : τ 929 = none := a68
  obtain ⟨⟨h_p1, h_p2, h_td⟩, k_b, k_q, k_c, k_d, k_l, k_k, k_e, k_t, k_n, k_j⟩ := hS
  have k_c0 := k_c
  obtain ⟨h_ga, h_in, h_ls, h_ld, h_w, h_rd, h_lead, h_ps, h_E, h_up, h_D, h_Z, h_s, h_sp⟩ := k_c0
  have k_b0 := k_b
  obtain ⟨h_bit, h_one, h_or, h_and, h_shr, h_m1, h_m2, h_dv, h_r1, h_r2, h_nz⟩ := k_b0
  have qS : eGS m (wrM m 77 j x) := ⟨fun _ => rfl, fun _ => rfl, fun _ => rfl⟩
  have qL : eGL m (wrM m 77 j x) := fun _ => rfl
  have qK : eGK m (wrM m 77 j x) := ⟨fun _ => rfl, rfl⟩
  have qM : eGM m (wrM m 77 j x) := fun _ => rfl
  have qP : eGP m (wrM m 77 j x) := rfl
  have qC : eGC m (wrM m 77 j x) := fun _ => rfl
  have k_q := e_q qS qP k_q
  have k_d := e_d qS k_d
  have k_l := e_l qS qL k_l
  have k_k := e_k qS qK k_k
  have k_e := e_e qK qM k_e
  have k_t := e_t qK qP k_t
  have k_n := e_n qS k_n
  have k_j := e_j qS qC k_j
  exact ⟨⟨h_p1, h_p2, h_td⟩, ⟨h_bit, h_one, h_or, h_and, h_shr, fun _ _ _ e0 e1 e2 => no9 (o := none) rfl e0, fun _ _ _ e0 e1 e2 => no9 (o := none) rfl e0, fun _ _ _ e0 e1 e2 => no9 (o := none) rfl e0, h_r1, h_r2, fun _ e0 => no9 (o := none) rfl e0⟩, k_q, ⟨(fun qa qb A I e0 e1 e2 e3 => by
      have e0 : g 9 = qa := Option.some.inj (t871.symm.trans e0)
      subst e0
      have e1 : g 10 = qb := Option.some.inj (t872.symm.trans e1)
      subst e1
      have e2 : g 7 = A := Option.some.inj (t880.symm.trans e2)
      subst e2
      have e3 : g 8 = I := Option.some.inj (t881.symm.trans e3)
      subst e3
      exact ⟨(h_ga _ _ _ _ t871 t872 t880 t881).1, fun e8 _ => no9 e8 t892⟩), h_in, h_ls, fun _ _ _ _ _ _ e0 e1 e2 e3 e4 e5 => no9 n899 e4, h_w, fun _ _ e0 e1 => no9 n886 e1, fun _ _ _ e0 e1 e2 => no9 n887 e1, fun _ _ _ _ e0 e1 e2 e3 => no9 n886 e1, fun _ _ _ e0 e1 e2 => no9 n886 e1, (fun qa qb A I w Y N U V e0 e1 e2 e3 e4 e5 e6 e7 e8 => by
      have e0 : g 9 = qa := Option.some.inj (t871.symm.trans e0)
      subst e0
      have e1 : g 10 = qb := Option.some.inj (t872.symm.trans e1)
      subst e1
      have e2 : g 7 = A := Option.some.inj (t880.symm.trans e2)
      subst e2
      have e3 : g 8 = I := Option.some.inj (t881.symm.trans e3)
      subst e3
      have e4 : g 2 = w := Option.some.inj (t883.symm.trans e4)
      subst e4
      have e5 : g 3 = Y := Option.some.inj (t892.symm.trans e5)
      subst e5
      have e6 : g 4 = N := Option.some.inj (t893.symm.trans e6)
      subst e6
      have e7 : g 5 = U := Option.some.inj (t894.symm.trans e7)
      subst e7
      have e8 : g 6 + 1 = V := Option.some.inj e8
      subst e8
      show UpG (wrM m 77 j x) (τ 896) (τ 897) (PfG (wrM m 77 j x) (g 9) (g 10) (g 7) (g 8)) (g 2) (g 3) (g 4) (g 5) (g 6 + 1)
      obtain ⟨q, d9, B9, ⟨u1, uN, uY, uU, uV⟩, ⟨u2, u3⟩, u4, u5, u6, ⟨u7, u8⟩, u9⟩ := (h_up _ _ _ _ _ _ _ _ _ t871 t872 t880 t881 t883 t892 t893 t894 t895)
      have hm1 := h_m1 _ _ _ t850 t851 t852
      have hm2 := h_m2 _ _ _ t853 t854 t855
      have hdv := h_dv _ _ _ t856 t857 t858
      have ejl : jrl = (g 3).toNat := by omega
      have ejp : jrp = j := by omega
      have ejy : jy = j := by omega
      have ejd : jd = 7 := by omega
      subst ejl ejd
      rw [ejp] at vrp
      rw [ejy] at vy
      have eU : (g 5).toNat = 1 := by omega
      have h4 := u4 1 j (by omega) (by omega)
      rw [if_neg (by omega)] at h4
      have h4 := h4 (by omega)
      have hB : BGm m 1 j = m 77 j := by unfold BGm; rw [if_pos (by omega)]
      have a1 : g 14 = g 21 * g 23 := by rw [hm1, show g 12 = g 21 by omega, show g 13 = g 23 by omega]
      have a2 : g 17 = g 11 * g 22 := by rw [hm2, show g 15 = g 11 by omega, show g 16 = g 22 by omega]
      have a3 : g 20 = (g 21 * g 23 - g 11 * g 22).tdiv (g 25) := by rw [hdv, show g 19 = g 25 by omega, show g 18 = g 14 - g 17 by omega, a1, a2]
      have u6' := u6 _ t896
      rw [eU] at u6'
      have hx : x = nbG (g 4).toNat q d9 B9 (bvG (g 2)) (g 3).toNat 1 j := by
        unfold nbG
        rw [if_neg (by omega), ← u3 (g 3).toNat (by omega), ← u3 j (by omega), ← h4, ← u6', ← u8, hB, ← vrl, ← vy, ← vrp, ← vd, ← a3]; omega
      rw [PfG_e qS]
      refine ⟨q, d9, B9, ⟨u1, uN, uY, uU, by omega⟩, ⟨u2, u3⟩, fun r c hr hc => ?_, u5, u6, ⟨u7, u8⟩, ?_⟩
      · have h5 := u4 r c hr hc
        rw [BGm_w (r0 := 1) rfl (by omega) r c hc (by omega)]
        by_cases e : r = 1 ∧ c = j
        · rw [if_pos (by omega), if_pos e, e.1, e.2]; exact hx
        · rw [if_neg e]
          by_cases e2 : (r : Int) < g 5 ∨ ((r : Int) = g 5 ∧ (c : Int) < g 6)
          · rw [if_pos e2] at h5; rw [if_pos (by omega)]; exact h5
          · rw [if_neg e2] at h5; rw [if_neg (by omega)]; exact h5
      · rcases u9 with q9 | q9 | q9
        · exact Or.inl q9
        · rw [n897] at q9; cases q9.1
        · rw [n897] at q9; cases q9.1), fun _ _ _ _ _ e0 e1 e2 e3 e4 => no9 n899 e4, fun _ _ _ e0 e1 e2 => no9 n882 e2, fun _ _ e0 e1 => no9 n882 e0, fun _ _ _ e0 e1 e2 => no9 n905 e0⟩, k_d, k_l, k_k, k_e, k_t, k_n, k_j⟩
def wu_Bl1 : Ru := ([(7, (0, (0, (0, 0)))), (8, (0, (0, (0, 0)))), (0, (883, (0, (0, 0)))), (0, (892, (0, (0, 0)))), (0, (893, (0, (0, 0)))), (0, (894, (0, (0, 0)))), (0, (895, (0, (0, 0)))), (0, (880, (0, (0, 0)))), (0, (881, (0, (0, 0)))), (0, (871, (0, (0, 0)))), (0, (872, (0, (0, 0)))), (9, (97, (0, (1, 0))))], ([896, 897, 882, 886, 887, 889, 891, 899, 905, 930, 931, 932, 933, 934, 935, 936, 937, 938, 939, 910, 911, 912, 913, 914, 915, 940, 941, 942, 943, 944, 945, 946, 947, 948, 949, 950, 951, 952, 953, 954, 955, 956, 957, 958, 959, 960, 961, 962, 963, 964, 965, 966, 967, 968, 969, 970, 971, 972, 973, 974, 920, 921, 922, 923, 924, 925, 926, 927, 928, 929], ([([(5, 1)], 1), ([(5, (-1))], (-1)), ([(4, (-1)), (5, 1)], 0), ([(4, 1), (5, (-1))], 0), ([(0, 1), (6, (-1))], 0), ([(0, (-1)), (6, 1)], 0), ([(0, (-1))], 0), ([(0, 1)], 19), ([(1, 1), (11, (-1))], 0), ([(1, (-1)), (11, 1)], 0)], (false, ([], ([], ([(895, some (6, 1))], none)))))))
theorem wk_Bl1 : WrOk SGd 77 wu_Bl1 := by
  intro τ m g j x hi hc ha hS
  obtain ⟨i0, i1, i2, i3, i4, i5, i6, i7, i8, i9, i10, i11, _⟩ := hi
  have xp : g 0 = (j : Int) := i0
  have xv : g 1 = x := i1
  have t883 : τ 883 = some (g 2) := i2
  have t892 : τ 892 = some (g 3) := i3
  have t893 : τ 893 = some (g 4) := i4
  have t894 : τ 894 = some (g 5) := i5
  have t895 : τ 895 = some (g 6) := i6
  have t880 : τ 880 = some (g 7) := i7
  have t881 : τ 881 = some (g 8) := i8
  have t871 : τ 871 = some (g 9) := i9
  have t872 : τ 872 = some (g 10) := i10
  obtain ⟨jrp, urp, vrp⟩ : ∃ j : Nat, 1 * g 0 + 0 = (j : Int) ∧ g 11 = m 97 j := i11
  obtain ⟨c0, c1, c2, c3, c4, c5, c6, c7, c8, c9, _⟩ := hc
  have c0 : 1 * g 5 ≤ 1 := d1 c0
  have c1 : (-1) * g 5 ≤ (-1) := d1 c1
  have c2 : (-1) * g 4 + 1 * g 5 ≤ 0 := d2 c2
  have c3 : 1 * g 4 + (-1) * g 5 ≤ 0 := d2 c3
  have c4 : 1 * g 0 + (-1) * g 6 ≤ 0 := d2 c4
  have c5 : (-1) * g 0 + 1 * g 6 ≤ 0 := d2 c5
  have c6 : (-1) * g 0 ≤ 0 := d1 c6
  have c7 : 1 * g 0 ≤ 19 := d1 c7
  have c8 : 1 * g 1 + (-1) * g 11 ≤ 0 := d2 c8
  have c9 : (-1) * g 1 + 1 * g 11 ≤ 0 := d2 c9
  obtain ⟨a0, a1, a2, a3, a4, a5, a6, a7, a8, a9, a10, a11, a12, a13, a14, a15, a16, a17, a18, a19, a20, a21, a22, a23, a24, a25, a26, a27, a28, a29, a30, a31, a32, a33, a34, a35, a36, a37, a38, a39, a40, a41, a42, a43, a44, a45, a46, a47, a48, a49, a50, a51, a52, a53, a54, a55, a56, a57, a58, a59, a60, a61, a62, a63, a64, a65, a66, a67, a68, a69, _⟩ := ha
  have n896 : τ 896 = none := a0
  have n897 : τ 897 = none := a1
  have n882 : τ 882 = none := a2
  have n886 : τ 886 = none := a3
  have n887 : τ 887 = none := a4
  have n889 : τ 889 = none := a5
  have n891 : τ 891 = none := a6
  have n899 : τ 899 = none := a7
  have n905 : τ 905 = none := a8
  have n930 : τ 930 = none := a9
  have n931 : τ 931 = none := a10
  have n932 : τ 932 = none := a11
  have n933 : τ 933 = none := a12
  have n934 : τ 934 = none := a13
  have n935 : τ 935 = none := a14
  have n936 : τ 936 = none := a15
  have n937 : τ 937 = none := a16
  have n938 : τ 938 = none := a17
  have n939 : τ 939 = none := a18
  have n910 : τ 910 = none := a19
  have n911 : τ 911 = none := a20
  have n912 : τ 912 = none := a21
  have n913 : τ 913 = none := a22
  have n914 : τ 914 = none := a23
  have n915 : τ 915 = none := a24
  have n940 : τ 940 = none := a25
  have n941 : τ 941 = none := a26
  have n942 : τ 942 = none := a27
  have n943 : τ 943 = none := a28
  have n944 : τ 944 = none := a29
  have n945 : τ 945 = none := a30
  have n946 : τ 946 = none := a31
  have n947 : τ 947 = none := a32
  have n948 : τ 948 = none := a33
  have n949 : τ 949 = none := a34
  have n950 : τ 950 = none := a35
  have n951 : τ 951 = none := a36
  have n952 : τ 952 = none := a37
  have n953 : τ 953 = none := a38
  have n954 : τ 954 = none := a39
  have n955 : τ 955 = none := a40
  have n956 : τ 956 = none := a41
  have n957 : τ 957 = none := a42
  have n958 : τ 958 = none := a43
  have n959 : τ 959 = none := a44
  have n960 : τ 960 = none := a45
  have n961 : τ 961 = none := a46
  have n962 : τ 962 = none := a47
  have n963 : τ 963 = none := a48
  have n964 : τ 964 = none := a49
  have n965 : τ 965 = none := a50
  have n966 : τ 966 = none := a51
  have n967 : τ 967 = none := a52
  have n968 : τ 968 = none := a53
  have n969 : τ 969 = none := a54
  have n970 : τ 970 = none := a55
  have n971 : τ 971 = none := a56
  have n972 : τ 972 = none := a57
  have n973 : τ 973 = none := a58
  have n974 : τ 974 = none := a59
  have n920 : τ 920 = none := a60
  have n921 : τ 921 = none := a61
  have n922 : τ 922 = none := a62
  have n923 : τ 923 = none := a63
  have n924 : τ 924 = none := a64
  have n925 : τ 925 = none := a65
  have n926 : τ 926 = none := a66
  have n927 : τ 927 = none := a67
  have n928 : τ 928 = none := a68
  have n929 : τ 929 = none := a69
  obtain ⟨⟨h_p1, h_p2, h_td⟩, k_b, k_q, k_c, k_d, k_l, k_k, k_e, k_t, k_n, k_j⟩ := hS
  have k_c0 := k_c
  obtain ⟨h_ga, h_in, h_ls, h_ld, h_w, h_rd, h_lead, h_ps, h_E, h_up, h_D, h_Z, h_s, h_sp⟩ := k_c0
  have qS : eGS m (wrM m 77 j x) := ⟨fun _ => rfl, fun _ => rfl, fun _ => rfl⟩
  have qL : eGL m (wrM m 77 j x) := fun _ => rfl
  have qK : eGK m (wrM m 77 j x) := ⟨fun _ => rfl, rfl⟩
  have qM : eGM m (wrM m 77 j x) := fun _ => rfl
  have qP : eGP m (wrM m 77 j x) := rfl
  have qC : eGC m (wrM m 77 j x) := fun _ => rfl
  have k_q := e_q qS qP k_q
  have k_d := e_d qS k_d
  have k_l := e_l qS qL k_l
  have k_k := e_k qS qK k_k
  have k_e := e_e qK qM k_e
  have k_t := e_t qK qP k_t
  have k_n := e_n qS k_n
  have k_j := e_j qS qC k_j
  exact ⟨⟨h_p1, h_p2, h_td⟩, k_b, k_q, ⟨(fun qa qb A I e0 e1 e2 e3 => by
      have e0 : g 9 = qa := Option.some.inj (t871.symm.trans e0)
      subst e0
      have e1 : g 10 = qb := Option.some.inj (t872.symm.trans e1)
      subst e1
      have e2 : g 7 = A := Option.some.inj (t880.symm.trans e2)
      subst e2
      have e3 : g 8 = I := Option.some.inj (t881.symm.trans e3)
      subst e3
      exact ⟨(h_ga _ _ _ _ t871 t872 t880 t881).1, fun e8 _ => no9 e8 t892⟩), h_in, h_ls, fun _ _ _ _ _ _ e0 e1 e2 e3 e4 e5 => no9 n899 e4, h_w, fun _ _ e0 e1 => no9 n886 e1, fun _ _ _ e0 e1 e2 => no9 n887 e1, fun _ _ _ _ e0 e1 e2 e3 => no9 n886 e1, fun _ _ _ e0 e1 e2 => no9 n886 e1, (fun qa qb A I w Y N U V e0 e1 e2 e3 e4 e5 e6 e7 e8 => by
      have e0 : g 9 = qa := Option.some.inj (t871.symm.trans e0)
      subst e0
      have e1 : g 10 = qb := Option.some.inj (t872.symm.trans e1)
      subst e1
      have e2 : g 7 = A := Option.some.inj (t880.symm.trans e2)
      subst e2
      have e3 : g 8 = I := Option.some.inj (t881.symm.trans e3)
      subst e3
      have e4 : g 2 = w := Option.some.inj (t883.symm.trans e4)
      subst e4
      have e5 : g 3 = Y := Option.some.inj (t892.symm.trans e5)
      subst e5
      have e6 : g 4 = N := Option.some.inj (t893.symm.trans e6)
      subst e6
      have e7 : g 5 = U := Option.some.inj (t894.symm.trans e7)
      subst e7
      have e8 : g 6 + 1 = V := Option.some.inj e8
      subst e8
      show UpG (wrM m 77 j x) (τ 896) (τ 897) (PfG (wrM m 77 j x) (g 9) (g 10) (g 7) (g 8)) (g 2) (g 3) (g 4) (g 5) (g 6 + 1)
      obtain ⟨q, d9, B9, ⟨u1, uN, uY, uU, uV⟩, ⟨u2, u3⟩, u4, u5, u6, ⟨u7, u8⟩, u9⟩ := (h_up _ _ _ _ _ _ _ _ _ t871 t872 t880 t881 t883 t892 t893 t894 t895)
      have ejp : jrp = j := by omega
      have eN : (g 4).toNat = 1 := by omega
      have hx : x = nbG (g 4).toNat q d9 B9 (bvG (g 2)) (g 3).toNat 1 j := by
        unfold nbG
        rw [if_pos eN.symm, ← u3 j (by omega), ← ejp, ← vrp]; omega
      rw [PfG_e qS]
      refine ⟨q, d9, B9, ⟨u1, uN, uY, uU, by omega⟩, ⟨u2, u3⟩, fun r c hr hc => ?_, u5, u6, ⟨u7, u8⟩, ?_⟩
      · have h5 := u4 r c hr hc
        rw [BGm_w (r0 := 1) rfl (by omega) r c hc (by omega)]
        by_cases e : r = 1 ∧ c = j
        · rw [if_pos (by omega), if_pos e, e.1, e.2]; exact hx
        · rw [if_neg e]
          by_cases e2 : (r : Int) < g 5 ∨ ((r : Int) = g 5 ∧ (c : Int) < g 6)
          · rw [if_pos e2] at h5; rw [if_pos (by omega)]; exact h5
          · rw [if_neg e2] at h5; rw [if_neg (by omega)]; exact h5
      · rcases u9 with q9 | q9 | q9
        · exact Or.inl q9
        · rw [n897] at q9; cases q9.1
        · rw [n897] at q9; cases q9.1), fun _ _ _ _ _ e0 e1 e2 e3 e4 => no9 n899 e4, fun _ _ _ e0 e1 e2 => no9 n882 e2, fun _ _ e0 e1 => no9 n882 e0, fun _ _ _ e0 e1 e2 => no9 n905 e0⟩, k_d, k_l, k_k, k_e, k_t, k_n, k_j⟩
def wu_Bu2 : Ru := ([(7, (0, (0, (0, 0)))), (8, (0, (0, (0, 0)))), (0, (883, (0, (0, 0)))), (0, (892, (0, (0, 0)))), (0, (893, (0, (0, 0)))), (0, (894, (0, (0, 0)))), (0, (895, (0, (0, 0)))), (0, (880, (0, (0, 0)))), (0, (881, (0, (0, 0)))), (0, (871, (0, (0, 0)))), (0, (872, (0, (0, 0)))), (0, (896, (0, (0, 0)))), (0, (850, (0, (0, 0)))), (0, (851, (0, (0, 0)))), (0, (852, (0, (0, 0)))), (0, (853, (0, (0, 0)))), (0, (854, (0, (0, 0)))), (0, (855, (0, (0, 0)))), (0, (856, (0, (0, 0)))), (0, (857, (0, (0, 0)))), (0, (858, (0, (0, 0)))), (9, (97, (3, (1, 0)))), (9, (97, (0, (1, 0)))), (9, (78, (0, (1, 0)))), (4, (0, (0, (7, 0)))), (9, (1000, (24, (1, 0))))], ([897, 882, 886, 887, 889, 891, 899, 905, 930, 931, 932, 933, 934, 935, 936, 937, 938, 939, 910, 911, 912, 913, 914, 915, 940, 941, 942, 943, 944, 945, 946, 947, 948, 949, 950, 951, 952, 953, 954, 955, 956, 957, 958, 959, 960, 961, 962, 963, 964, 965, 966, 967, 968, 969, 970, 971, 972, 973, 974, 920, 921, 922, 923, 924, 925, 926, 927, 928, 929], ([([(5, 1)], 2), ([(5, (-1))], (-2)), ([(4, (-1)), (5, 1)], (-1)), ([(0, 1), (6, (-1))], 0), ([(0, (-1)), (6, 1)], 0), ([(0, (-1))], 0), ([(0, 1)], 19), ([(12, 1), (21, (-1))], 0), ([(12, (-1)), (21, 1)], 0), ([(13, 1), (23, (-1))], 0), ([(13, (-1)), (23, 1)], 0), ([(11, (-1)), (15, 1)], 0), ([(11, 1), (15, (-1))], 0), ([(16, 1), (22, (-1))], 0), ([(16, (-1)), (22, 1)], 0), ([(14, (-1)), (17, 1), (18, 1)], 0), ([(14, 1), (17, (-1)), (18, (-1))], 0), ([(19, 1), (25, (-1))], 0), ([(19, (-1)), (25, 1)], 0), ([(1, 1), (20, (-1))], 0), ([(1, (-1)), (20, 1)], 0)], (false, ([], ([], ([(895, some (6, 1)), (850, none), (851, none), (852, none), (853, none), (854, none), (855, none), (856, none), (857, none), (858, none), (869, none)], none)))))))
theorem wk_Bu2 : WrOk SGd 78 wu_Bu2 := by
  intro τ m g j x hi hc ha hS
  obtain ⟨i0, i1, i2, i3, i4, i5, i6, i7, i8, i9, i10, i11, i12, i13, i14, i15, i16, i17, i18, i19, i20, i21, i22, i23, i24, i25, _⟩ := hi
  have xp : g 0 = (j : Int) := i0
  have xv : g 1 = x := i1
  have t883 : τ 883 = some (g 2) := i2
  have t892 : τ 892 = some (g 3) := i3
  have t893 : τ 893 = some (g 4) := i4
  have t894 : τ 894 = some (g 5) := i5
  have t895 : τ 895 = some (g 6) := i6
  have t880 : τ 880 = some (g 7) := i7
  have t881 : τ 881 = some (g 8) := i8
  have t871 : τ 871 = some (g 9) := i9
  have t872 : τ 872 = some (g 10) := i10
  have t896 : τ 896 = some (g 11) := i11
  have t850 : τ 850 = some (g 12) := i12
  have t851 : τ 851 = some (g 13) := i13
  have t852 : τ 852 = some (g 14) := i14
  have t853 : τ 853 = some (g 15) := i15
  have t854 : τ 854 = some (g 16) := i16
  have t855 : τ 855 = some (g 17) := i17
  have t856 : τ 856 = some (g 18) := i18
  have t857 : τ 857 = some (g 19) := i19
  have t858 : τ 858 = some (g 20) := i20
  obtain ⟨jrl, url, vrl⟩ : ∃ j : Nat, 1 * g 3 + 0 = (j : Int) ∧ g 21 = m 97 j := i21
  obtain ⟨jrp, urp, vrp⟩ : ∃ j : Nat, 1 * g 0 + 0 = (j : Int) ∧ g 22 = m 97 j := i22
  obtain ⟨jy, uy, vy⟩ : ∃ j : Nat, 1 * g 0 + 0 = (j : Int) ∧ g 23 = m 78 j := i23
  have xjc : g 24 = 7 := i24
  obtain ⟨jd, ud, vd⟩ : ∃ j : Nat, 1 * g 24 + 0 = (j : Int) ∧ g 25 = m 1000 j := i25
  obtain ⟨c0, c1, c2, c3, c4, c5, c6, c7, c8, c9, c10, c11, c12, c13, c14, c15, c16, c17, c18, c19, c20, _⟩ := hc
  have c0 : 1 * g 5 ≤ 2 := d1 c0
  have c1 : (-1) * g 5 ≤ (-2) := d1 c1
  have c2 : (-1) * g 4 + 1 * g 5 ≤ (-1) := d2 c2
  have c3 : 1 * g 0 + (-1) * g 6 ≤ 0 := d2 c3
  have c4 : (-1) * g 0 + 1 * g 6 ≤ 0 := d2 c4
  have c5 : (-1) * g 0 ≤ 0 := d1 c5
  have c6 : 1 * g 0 ≤ 19 := d1 c6
  have c7 : 1 * g 12 + (-1) * g 21 ≤ 0 := d2 c7
  have c8 : (-1) * g 12 + 1 * g 21 ≤ 0 := d2 c8
  have c9 : 1 * g 13 + (-1) * g 23 ≤ 0 := d2 c9
  have c10 : (-1) * g 13 + 1 * g 23 ≤ 0 := d2 c10
  have c11 : (-1) * g 11 + 1 * g 15 ≤ 0 := d2 c11
  have c12 : 1 * g 11 + (-1) * g 15 ≤ 0 := d2 c12
  have c13 : 1 * g 16 + (-1) * g 22 ≤ 0 := d2 c13
  have c14 : (-1) * g 16 + 1 * g 22 ≤ 0 := d2 c14
  have c15 : (-1) * g 14 + 1 * g 17 + 1 * g 18 ≤ 0 := d3 c15
  have c16 : 1 * g 14 + (-1) * g 17 + (-1) * g 18 ≤ 0 := d3 c16
  have c17 : 1 * g 19 + (-1) * g 25 ≤ 0 := d2 c17
  have c18 : (-1) * g 19 + 1 * g 25 ≤ 0 := d2 c18
  have c19 : 1 * g 1 + (-1) * g 20 ≤ 0 := d2 c19
  have c20 : (-1) * g 1 + 1 * g 20 ≤ 0 := d2 c20
  obtain ⟨a0, a1, a2, a3, a4, a5, a6, a7, a8, a9, a10, a11, a12, a13, a14, a15, a16, a17, a18, a19, a20, a21, a22, a23, a24, a25, a26, a27, a28, a29, a30, a31, a32, a33, a34, a35, a36, a37, a38, a39, a40, a41, a42, a43, a44, a45, a46, a47, a48, a49, a50, a51, a52, a53, a54, a55, a56, a57, a58, a59, a60, a61, a62, a63, a64, a65, a66, a67, a68, _⟩ := ha
  have n897 : τ 897 = none := a0
  have n882 : τ 882 = none := a1
  have n886 : τ 886 = none := a2
  have n887 : τ 887 = none := a3
  have n889 : τ 889 = none := a4
  have n891 : τ 891 = none := a5
  have n899 : τ 899 = none := a6
  have n905 : τ 905 = none := a7
  have n930 : τ 930 = none := a8
  have n931 : τ 931 = none := a9
  have n932 : τ 932 = none := a10
  have n933 : τ 933 = none := a11
  have n934 : τ 934 = none := a12
  have n935 : τ 935 = none := a13
  have n936 : τ 936 = none := a14
  have n937 : τ 937 = none := a15
  have n938 : τ 938 = none := a16
  have n939 : τ 939 = none := a17
  have n910 : τ 910 = none := a18
  have n911 : τ 911 = none := a19
  have n912 : τ 912 = none := a20
  have n913 : τ 913 = none := a21
  have n914 : τ 914 = none := a22
  have n915 : τ 915 = none := a23
  have n940 : τ 940 = none := a24
  have n941 : τ 941 = none := a25
  have n942 : τ 942 = none := a26
  have n943 : τ 943 = none := a27
  have n944 : τ 944 = none := a28
  have n945 : τ 945 = none := a29
  have n946 : τ 946 = none := a30
  have n947 : τ 947 = none := a31
  have n948 : τ 948 = none := a32
  have n949 : τ 949 = none := a33
  have n950 : τ 950 = none := a34
  have n951 : τ 951 = none := a35
  have n952 : τ 952 = none := a36
  have n953 : τ 953 = none := a37
  have n954 : τ 954 = none := a38
  have n955 : τ 955 = none := a39
  have n956 : τ 956 = none := a40
  have n957 : τ 957 = none := a41
  have n958 : τ 958 = none := a42
  have n959 : τ 959 = none := a43
  have n960 : τ 960 = none := a44
  have n961 : τ 961 = none := a45
  have n962 : τ 962 = none := a46
  have n963 : τ 963 = none := a47
  have n964 : τ 964 = none := a48
  have n965 : τ 965 = none := a49
  have n966 : τ 966 = none := a50
  have n967 : τ 967 = none := a51
  have n968 : τ 968 = none := a52
  have n969 : τ 969 = none := a53
  have n970 : τ 970 = none := a54
  have n971 : τ 971 = none := a55
  have n972 : τ 972 = none := a56
  have n973 : τ 973 = none := a57
  have n974 : τ 974 = none := a58
  have n920 : τ 920 = none := a59
  have n921 : τ 921 = none := a60
  have n922 : τ 922 = none := a61
  have n923 : τ 923 = none := a62
  have n924 : τ 924 = none := a63
  have n925 : τ 925 = none := a64
  have n926 : τ 926 = none := a65
  have n927 : τ 927 = none := a66
  have n928 : τ 928 = none := a67
  have n929 : τ 929 = none := a68
  obtain ⟨⟨h_p1, h_p2, h_td⟩, k_b, k_q, k_c, k_d, k_l, k_k, k_e, k_t, k_n, k_j⟩ := hS
  have k_c0 := k_c
  obtain ⟨h_ga, h_in, h_ls, h_ld, h_w, h_rd, h_lead, h_ps, h_E, h_up, h_D, h_Z, h_s, h_sp⟩ := k_c0
  have k_b0 := k_b
  obtain ⟨h_bit, h_one, h_or, h_and, h_shr, h_m1, h_m2, h_dv, h_r1, h_r2, h_nz⟩ := k_b0
  have qS : eGS m (wrM m 78 j x) := ⟨fun _ => rfl, fun _ => rfl, fun _ => rfl⟩
  have qL : eGL m (wrM m 78 j x) := fun _ => rfl
  have qK : eGK m (wrM m 78 j x) := ⟨fun _ => rfl, rfl⟩
  have qM : eGM m (wrM m 78 j x) := fun _ => rfl
  have qP : eGP m (wrM m 78 j x) := rfl
  have qC : eGC m (wrM m 78 j x) := fun _ => rfl
  have k_q := e_q qS qP k_q
  have k_d := e_d qS k_d
  have k_l := e_l qS qL k_l
  have k_k := e_k qS qK k_k
  have k_e := e_e qK qM k_e
  have k_t := e_t qK qP k_t
  have k_n := e_n qS k_n
  have k_j := e_j qS qC k_j
  exact ⟨⟨h_p1, h_p2, h_td⟩, ⟨h_bit, h_one, h_or, h_and, h_shr, fun _ _ _ e0 e1 e2 => no9 (o := none) rfl e0, fun _ _ _ e0 e1 e2 => no9 (o := none) rfl e0, fun _ _ _ e0 e1 e2 => no9 (o := none) rfl e0, h_r1, h_r2, fun _ e0 => no9 (o := none) rfl e0⟩, k_q, ⟨(fun qa qb A I e0 e1 e2 e3 => by
      have e0 : g 9 = qa := Option.some.inj (t871.symm.trans e0)
      subst e0
      have e1 : g 10 = qb := Option.some.inj (t872.symm.trans e1)
      subst e1
      have e2 : g 7 = A := Option.some.inj (t880.symm.trans e2)
      subst e2
      have e3 : g 8 = I := Option.some.inj (t881.symm.trans e3)
      subst e3
      exact ⟨(h_ga _ _ _ _ t871 t872 t880 t881).1, fun e8 _ => no9 e8 t892⟩), h_in, h_ls, fun _ _ _ _ _ _ e0 e1 e2 e3 e4 e5 => no9 n899 e4, h_w, fun _ _ e0 e1 => no9 n886 e1, fun _ _ _ e0 e1 e2 => no9 n887 e1, fun _ _ _ _ e0 e1 e2 e3 => no9 n886 e1, fun _ _ _ e0 e1 e2 => no9 n886 e1, (fun qa qb A I w Y N U V e0 e1 e2 e3 e4 e5 e6 e7 e8 => by
      have e0 : g 9 = qa := Option.some.inj (t871.symm.trans e0)
      subst e0
      have e1 : g 10 = qb := Option.some.inj (t872.symm.trans e1)
      subst e1
      have e2 : g 7 = A := Option.some.inj (t880.symm.trans e2)
      subst e2
      have e3 : g 8 = I := Option.some.inj (t881.symm.trans e3)
      subst e3
      have e4 : g 2 = w := Option.some.inj (t883.symm.trans e4)
      subst e4
      have e5 : g 3 = Y := Option.some.inj (t892.symm.trans e5)
      subst e5
      have e6 : g 4 = N := Option.some.inj (t893.symm.trans e6)
      subst e6
      have e7 : g 5 = U := Option.some.inj (t894.symm.trans e7)
      subst e7
      have e8 : g 6 + 1 = V := Option.some.inj e8
      subst e8
      show UpG (wrM m 78 j x) (τ 896) (τ 897) (PfG (wrM m 78 j x) (g 9) (g 10) (g 7) (g 8)) (g 2) (g 3) (g 4) (g 5) (g 6 + 1)
      obtain ⟨q, d9, B9, ⟨u1, uN, uY, uU, uV⟩, ⟨u2, u3⟩, u4, u5, u6, ⟨u7, u8⟩, u9⟩ := (h_up _ _ _ _ _ _ _ _ _ t871 t872 t880 t881 t883 t892 t893 t894 t895)
      have hm1 := h_m1 _ _ _ t850 t851 t852
      have hm2 := h_m2 _ _ _ t853 t854 t855
      have hdv := h_dv _ _ _ t856 t857 t858
      have ejl : jrl = (g 3).toNat := by omega
      have ejp : jrp = j := by omega
      have ejy : jy = j := by omega
      have ejd : jd = 7 := by omega
      subst ejl ejd
      rw [ejp] at vrp
      rw [ejy] at vy
      have eU : (g 5).toNat = 2 := by omega
      have h4 := u4 2 j (by omega) (by omega)
      rw [if_neg (by omega)] at h4
      have h4 := h4 (by omega)
      have hB : BGm m 2 j = m 78 j := by unfold BGm; rw [if_pos (by omega)]
      have a1 : g 14 = g 21 * g 23 := by rw [hm1, show g 12 = g 21 by omega, show g 13 = g 23 by omega]
      have a2 : g 17 = g 11 * g 22 := by rw [hm2, show g 15 = g 11 by omega, show g 16 = g 22 by omega]
      have a3 : g 20 = (g 21 * g 23 - g 11 * g 22).tdiv (g 25) := by rw [hdv, show g 19 = g 25 by omega, show g 18 = g 14 - g 17 by omega, a1, a2]
      have u6' := u6 _ t896
      rw [eU] at u6'
      have hx : x = nbG (g 4).toNat q d9 B9 (bvG (g 2)) (g 3).toNat 2 j := by
        unfold nbG
        rw [if_neg (by omega), ← u3 (g 3).toNat (by omega), ← u3 j (by omega), ← h4, ← u6', ← u8, hB, ← vrl, ← vy, ← vrp, ← vd, ← a3]; omega
      rw [PfG_e qS]
      refine ⟨q, d9, B9, ⟨u1, uN, uY, uU, by omega⟩, ⟨u2, u3⟩, fun r c hr hc => ?_, u5, u6, ⟨u7, u8⟩, ?_⟩
      · have h5 := u4 r c hr hc
        rw [BGm_w (r0 := 2) rfl (by omega) r c hc (by omega)]
        by_cases e : r = 2 ∧ c = j
        · rw [if_pos (by omega), if_pos e, e.1, e.2]; exact hx
        · rw [if_neg e]
          by_cases e2 : (r : Int) < g 5 ∨ ((r : Int) = g 5 ∧ (c : Int) < g 6)
          · rw [if_pos e2] at h5; rw [if_pos (by omega)]; exact h5
          · rw [if_neg e2] at h5; rw [if_neg (by omega)]; exact h5
      · rcases u9 with q9 | q9 | q9
        · exact Or.inl q9
        · rw [n897] at q9; cases q9.1
        · rw [n897] at q9; cases q9.1), fun _ _ _ _ _ e0 e1 e2 e3 e4 => no9 n899 e4, fun _ _ _ e0 e1 e2 => no9 n882 e2, fun _ _ e0 e1 => no9 n882 e0, fun _ _ _ e0 e1 e2 => no9 n905 e0⟩, k_d, k_l, k_k, k_e, k_t, k_n, k_j⟩
def wu_Bl2 : Ru := ([(7, (0, (0, (0, 0)))), (8, (0, (0, (0, 0)))), (0, (883, (0, (0, 0)))), (0, (892, (0, (0, 0)))), (0, (893, (0, (0, 0)))), (0, (894, (0, (0, 0)))), (0, (895, (0, (0, 0)))), (0, (880, (0, (0, 0)))), (0, (881, (0, (0, 0)))), (0, (871, (0, (0, 0)))), (0, (872, (0, (0, 0)))), (9, (97, (0, (1, 0))))], ([896, 897, 882, 886, 887, 889, 891, 899, 905, 930, 931, 932, 933, 934, 935, 936, 937, 938, 939, 910, 911, 912, 913, 914, 915, 940, 941, 942, 943, 944, 945, 946, 947, 948, 949, 950, 951, 952, 953, 954, 955, 956, 957, 958, 959, 960, 961, 962, 963, 964, 965, 966, 967, 968, 969, 970, 971, 972, 973, 974, 920, 921, 922, 923, 924, 925, 926, 927, 928, 929], ([([(5, 1)], 2), ([(5, (-1))], (-2)), ([(4, (-1)), (5, 1)], 0), ([(4, 1), (5, (-1))], 0), ([(0, 1), (6, (-1))], 0), ([(0, (-1)), (6, 1)], 0), ([(0, (-1))], 0), ([(0, 1)], 19), ([(1, 1), (11, (-1))], 0), ([(1, (-1)), (11, 1)], 0)], (false, ([], ([], ([(895, some (6, 1))], none)))))))
theorem wk_Bl2 : WrOk SGd 78 wu_Bl2 := by
  intro τ m g j x hi hc ha hS
  obtain ⟨i0, i1, i2, i3, i4, i5, i6, i7, i8, i9, i10, i11, _⟩ := hi
  have xp : g 0 = (j : Int) := i0
  have xv : g 1 = x := i1
  have t883 : τ 883 = some (g 2) := i2
  have t892 : τ 892 = some (g 3) := i3
  have t893 : τ 893 = some (g 4) := i4
  have t894 : τ 894 = some (g 5) := i5
  have t895 : τ 895 = some (g 6) := i6
  have t880 : τ 880 = some (g 7) := i7
  have t881 : τ 881 = some (g 8) := i8
  have t871 : τ 871 = some (g 9) := i9
  have t872 : τ 872 = some (g 10) := i10
  obtain ⟨jrp, urp, vrp⟩ : ∃ j : Nat, 1 * g 0 + 0 = (j : Int) ∧ g 11 = m 97 j := i11
  obtain ⟨c0, c1, c2, c3, c4, c5, c6, c7, c8, c9, _⟩ := hc
  have c0 : 1 * g 5 ≤ 2 := d1 c0
  have c1 : (-1) * g 5 ≤ (-2) := d1 c1
  have c2 : (-1) * g 4 + 1 * g 5 ≤ 0 := d2 c2
  have c3 : 1 * g 4 + (-1) * g 5 ≤ 0 := d2 c3
  have c4 : 1 * g 0 + (-1) * g 6 ≤ 0 := d2 c4
  have c5 : (-1) * g 0 + 1 * g 6 ≤ 0 := d2 c5
  have c6 : (-1) * g 0 ≤ 0 := d1 c6
  have c7 : 1 * g 0 ≤ 19 := d1 c7
  have c8 : 1 * g 1 + (-1) * g 11 ≤ 0 := d2 c8
  have c9 : (-1) * g 1 + 1 * g 11 ≤ 0 := d2 c9
  obtain ⟨a0, a1, a2, a3, a4, a5, a6, a7, a8, a9, a10, a11, a12, a13, a14, a15, a16, a17, a18, a19, a20, a21, a22, a23, a24, a25, a26, a27, a28, a29, a30, a31, a32, a33, a34, a35, a36, a37, a38, a39, a40, a41, a42, a43, a44, a45, a46, a47, a48, a49, a50, a51, a52, a53, a54, a55, a56, a57, a58, a59, a60, a61, a62, a63, a64, a65, a66, a67, a68, a69, _⟩ := ha
  have n896 : τ 896 = none := a0
  have n897 : τ 897 = none := a1
  have n882 : τ 882 = none := a2
  have n886 : τ 886 = none := a3
  have n887 : τ 887 = none := a4
  have n889 : τ 889 = none := a5
  have n891 : τ 891 = none := a6
  have n899 : τ 899 = none := a7
  have n905 : τ 905 = none := a8
  have n930 : τ 930 = none := a9
  have n931 : τ 931 = none := a10
  have n932 : τ 932 = none := a11
  have n933 : τ 933 = none := a12
  have n934 : τ 934 = none := a13
  have n935 : τ 935 = none := a14
  have n936 : τ 936 = none := a15
  have n937 : τ 937 = none := a16
  have n938 : τ 938 = none := a17
  have n939 : τ 939 = none := a18
  have n910 : τ 910 = none := a19
  have n911 : τ 911 = none := a20
  have n912 : τ 912 = none := a21
  have n913 : τ 913 = none := a22
  have n914 : τ 914 = none := a23
  have n915 : τ 915 = none := a24
  have n940 : τ 940 = none := a25
  have n941 : τ 941 = none := a26
  have n942 : τ 942 = none := a27
  have n943 : τ 943 = none := a28
  have n944 : τ 944 = none := a29
  have n945 : τ 945 = none := a30
  have n946 : τ 946 = none := a31
  have n947 : τ 947 = none := a32
  have n948 : τ 948 = none := a33
  have n949 : τ 949 = none := a34
  have n950 : τ 950 = none := a35
  have n951 : τ 951 = none := a36
  have n952 : τ 952 = none := a37
  have n953 : τ 953 = none := a38
  have n954 : τ 954 = none := a39
  have n955 : τ 955 = none := a40
  have n956 : τ 956 = none := a41
  have n957 : τ 957 = none := a42
  have n958 : τ 958 = none := a43
  have n959 : τ 959 = none := a44
  have n960 : τ 960 = none := a45
  have n961 : τ 961 = none := a46
  have n962 : τ 962 = none := a47
  have n963 : τ 963 = none := a48
  have n964 : τ 964 = none := a49
  have n965 : τ 965 = none := a50
  have n966 : τ 966 = none := a51
  have n967 : τ 967 = none := a52
  have n968 : τ 968 = none := a53
  have n969 : τ 969 = none := a54
  have n970 : τ 970 = none := a55
  have n971 : τ 971 = none := a56
  have n972 : τ 972 = none := a57
  have n973 : τ 973 = none := a58
  have n974 : τ 974 = none := a59
  have n920 : τ 920 = none := a60
  have n921 : τ 921 = none := a61
  have n922 : τ 922 = none := a62
  have n923 : τ 923 = none := a63
  have n924 : τ 924 = none := a64
  have n925 : τ 925 = none := a65
  have n926 : τ 926 = none := a66
  have n927 : τ 927 = none := a67
  have n928 : τ 928 = none := a68
  have n929 : τ 929 = none := a69
  obtain ⟨⟨h_p1, h_p2, h_td⟩, k_b, k_q, k_c, k_d, k_l, k_k, k_e, k_t, k_n, k_j⟩ := hS
  have k_c0 := k_c
  obtain ⟨h_ga, h_in, h_ls, h_ld, h_w, h_rd, h_lead, h_ps, h_E, h_up, h_D, h_Z, h_s, h_sp⟩ := k_c0
  have qS : eGS m (wrM m 78 j x) := ⟨fun _ => rfl, fun _ => rfl, fun _ => rfl⟩
  have qL : eGL m (wrM m 78 j x) := fun _ => rfl
  have qK : eGK m (wrM m 78 j x) := ⟨fun _ => rfl, rfl⟩
  have qM : eGM m (wrM m 78 j x) := fun _ => rfl
  have qP : eGP m (wrM m 78 j x) := rfl
  have qC : eGC m (wrM m 78 j x) := fun _ => rfl
  have k_q := e_q qS qP k_q
  have k_d := e_d qS k_d
  have k_l := e_l qS qL k_l
  have k_k := e_k qS qK k_k
  have k_e := e_e qK qM k_e
  have k_t := e_t qK qP k_t
  have k_n := e_n qS k_n
  have k_j := e_j qS qC k_j
  exact ⟨⟨h_p1, h_p2, h_td⟩, k_b, k_q, ⟨(fun qa qb A I e0 e1 e2 e3 => by
      have e0 : g 9 = qa := Option.some.inj (t871.symm.trans e0)
      subst e0
      have e1 : g 10 = qb := Option.some.inj (t872.symm.trans e1)
      subst e1
      have e2 : g 7 = A := Option.some.inj (t880.symm.trans e2)
      subst e2
      have e3 : g 8 = I := Option.some.inj (t881.symm.trans e3)
      subst e3
      exact ⟨(h_ga _ _ _ _ t871 t872 t880 t881).1, fun e8 _ => no9 e8 t892⟩), h_in, h_ls, fun _ _ _ _ _ _ e0 e1 e2 e3 e4 e5 => no9 n899 e4, h_w, fun _ _ e0 e1 => no9 n886 e1, fun _ _ _ e0 e1 e2 => no9 n887 e1, fun _ _ _ _ e0 e1 e2 e3 => no9 n886 e1, fun _ _ _ e0 e1 e2 => no9 n886 e1, (fun qa qb A I w Y N U V e0 e1 e2 e3 e4 e5 e6 e7 e8 => by
      have e0 : g 9 = qa := Option.some.inj (t871.symm.trans e0)
      subst e0
      have e1 : g 10 = qb := Option.some.inj (t872.symm.trans e1)
      subst e1
      have e2 : g 7 = A := Option.some.inj (t880.symm.trans e2)
      subst e2
      have e3 : g 8 = I := Option.some.inj (t881.symm.trans e3)
      subst e3
      have e4 : g 2 = w := Option.some.inj (t883.symm.trans e4)
      subst e4
      have e5 : g 3 = Y := Option.some.inj (t892.symm.trans e5)
      subst e5
      have e6 : g 4 = N := Option.some.inj (t893.symm.trans e6)
      subst e6
      have e7 : g 5 = U := Option.some.inj (t894.symm.trans e7)
      subst e7
      have e8 : g 6 + 1 = V := Option.some.inj e8
      subst e8
      show UpG (wrM m 78 j x) (τ 896) (τ 897) (PfG (wrM m 78 j x) (g 9) (g 10) (g 7) (g 8)) (g 2) (g 3) (g 4) (g 5) (g 6 + 1)
      obtain ⟨q, d9, B9, ⟨u1, uN, uY, uU, uV⟩, ⟨u2, u3⟩, u4, u5, u6, ⟨u7, u8⟩, u9⟩ := (h_up _ _ _ _ _ _ _ _ _ t871 t872 t880 t881 t883 t892 t893 t894 t895)
      have ejp : jrp = j := by omega
      have eN : (g 4).toNat = 2 := by omega
      have hx : x = nbG (g 4).toNat q d9 B9 (bvG (g 2)) (g 3).toNat 2 j := by
        unfold nbG
        rw [if_pos eN.symm, ← u3 j (by omega), ← ejp, ← vrp]; omega
      rw [PfG_e qS]
      refine ⟨q, d9, B9, ⟨u1, uN, uY, uU, by omega⟩, ⟨u2, u3⟩, fun r c hr hc => ?_, u5, u6, ⟨u7, u8⟩, ?_⟩
      · have h5 := u4 r c hr hc
        rw [BGm_w (r0 := 2) rfl (by omega) r c hc (by omega)]
        by_cases e : r = 2 ∧ c = j
        · rw [if_pos (by omega), if_pos e, e.1, e.2]; exact hx
        · rw [if_neg e]
          by_cases e2 : (r : Int) < g 5 ∨ ((r : Int) = g 5 ∧ (c : Int) < g 6)
          · rw [if_pos e2] at h5; rw [if_pos (by omega)]; exact h5
          · rw [if_neg e2] at h5; rw [if_neg (by omega)]; exact h5
      · rcases u9 with q9 | q9 | q9
        · exact Or.inl q9
        · rw [n897] at q9; cases q9.1
        · rw [n897] at q9; cases q9.1), fun _ _ _ _ _ e0 e1 e2 e3 e4 => no9 n899 e4, fun _ _ _ e0 e1 e2 => no9 n882 e2, fun _ _ e0 e1 => no9 n882 e0, fun _ _ _ e0 e1 e2 => no9 n905 e0⟩, k_d, k_l, k_k, k_e, k_t, k_n, k_j⟩
def wu_Bu3 : Ru := ([(7, (0, (0, (0, 0)))), (8, (0, (0, (0, 0)))), (0, (883, (0, (0, 0)))), (0, (892, (0, (0, 0)))), (0, (893, (0, (0, 0)))), (0, (894, (0, (0, 0)))), (0, (895, (0, (0, 0)))), (0, (880, (0, (0, 0)))), (0, (881, (0, (0, 0)))), (0, (871, (0, (0, 0)))), (0, (872, (0, (0, 0)))), (0, (896, (0, (0, 0)))), (0, (850, (0, (0, 0)))), (0, (851, (0, (0, 0)))), (0, (852, (0, (0, 0)))), (0, (853, (0, (0, 0)))), (0, (854, (0, (0, 0)))), (0, (855, (0, (0, 0)))), (0, (856, (0, (0, 0)))), (0, (857, (0, (0, 0)))), (0, (858, (0, (0, 0)))), (9, (97, (3, (1, 0)))), (9, (97, (0, (1, 0)))), (9, (79, (0, (1, 0)))), (4, (0, (0, (7, 0)))), (9, (1000, (24, (1, 0))))], ([897, 882, 886, 887, 889, 891, 899, 905, 930, 931, 932, 933, 934, 935, 936, 937, 938, 939, 910, 911, 912, 913, 914, 915, 940, 941, 942, 943, 944, 945, 946, 947, 948, 949, 950, 951, 952, 953, 954, 955, 956, 957, 958, 959, 960, 961, 962, 963, 964, 965, 966, 967, 968, 969, 970, 971, 972, 973, 974, 920, 921, 922, 923, 924, 925, 926, 927, 928, 929], ([([(5, 1)], 3), ([(5, (-1))], (-3)), ([(4, (-1)), (5, 1)], (-1)), ([(0, 1), (6, (-1))], 0), ([(0, (-1)), (6, 1)], 0), ([(0, (-1))], 0), ([(0, 1)], 19), ([(12, 1), (21, (-1))], 0), ([(12, (-1)), (21, 1)], 0), ([(13, 1), (23, (-1))], 0), ([(13, (-1)), (23, 1)], 0), ([(11, (-1)), (15, 1)], 0), ([(11, 1), (15, (-1))], 0), ([(16, 1), (22, (-1))], 0), ([(16, (-1)), (22, 1)], 0), ([(14, (-1)), (17, 1), (18, 1)], 0), ([(14, 1), (17, (-1)), (18, (-1))], 0), ([(19, 1), (25, (-1))], 0), ([(19, (-1)), (25, 1)], 0), ([(1, 1), (20, (-1))], 0), ([(1, (-1)), (20, 1)], 0)], (false, ([], ([], ([(895, some (6, 1)), (850, none), (851, none), (852, none), (853, none), (854, none), (855, none), (856, none), (857, none), (858, none), (869, none)], none)))))))
theorem wk_Bu3 : WrOk SGd 79 wu_Bu3 := by
  intro τ m g j x hi hc ha hS
  obtain ⟨i0, i1, i2, i3, i4, i5, i6, i7, i8, i9, i10, i11, i12, i13, i14, i15, i16, i17, i18, i19, i20, i21, i22, i23, i24, i25, _⟩ := hi
  have xp : g 0 = (j : Int) := i0
  have xv : g 1 = x := i1
  have t883 : τ 883 = some (g 2) := i2
  have t892 : τ 892 = some (g 3) := i3
  have t893 : τ 893 = some (g 4) := i4
  have t894 : τ 894 = some (g 5) := i5
  have t895 : τ 895 = some (g 6) := i6
  have t880 : τ 880 = some (g 7) := i7
  have t881 : τ 881 = some (g 8) := i8
  have t871 : τ 871 = some (g 9) := i9
  have t872 : τ 872 = some (g 10) := i10
  have t896 : τ 896 = some (g 11) := i11
  have t850 : τ 850 = some (g 12) := i12
  have t851 : τ 851 = some (g 13) := i13
  have t852 : τ 852 = some (g 14) := i14
  have t853 : τ 853 = some (g 15) := i15
  have t854 : τ 854 = some (g 16) := i16
  have t855 : τ 855 = some (g 17) := i17
  have t856 : τ 856 = some (g 18) := i18
  have t857 : τ 857 = some (g 19) := i19
  have t858 : τ 858 = some (g 20) := i20
  obtain ⟨jrl, url, vrl⟩ : ∃ j : Nat, 1 * g 3 + 0 = (j : Int) ∧ g 21 = m 97 j := i21
  obtain ⟨jrp, urp, vrp⟩ : ∃ j : Nat, 1 * g 0 + 0 = (j : Int) ∧ g 22 = m 97 j := i22
  obtain ⟨jy, uy, vy⟩ : ∃ j : Nat, 1 * g 0 + 0 = (j : Int) ∧ g 23 = m 79 j := i23
  have xjc : g 24 = 7 := i24
  obtain ⟨jd, ud, vd⟩ : ∃ j : Nat, 1 * g 24 + 0 = (j : Int) ∧ g 25 = m 1000 j := i25
  obtain ⟨c0, c1, c2, c3, c4, c5, c6, c7, c8, c9, c10, c11, c12, c13, c14, c15, c16, c17, c18, c19, c20, _⟩ := hc
  have c0 : 1 * g 5 ≤ 3 := d1 c0
  have c1 : (-1) * g 5 ≤ (-3) := d1 c1
  have c2 : (-1) * g 4 + 1 * g 5 ≤ (-1) := d2 c2
  have c3 : 1 * g 0 + (-1) * g 6 ≤ 0 := d2 c3
  have c4 : (-1) * g 0 + 1 * g 6 ≤ 0 := d2 c4
  have c5 : (-1) * g 0 ≤ 0 := d1 c5
  have c6 : 1 * g 0 ≤ 19 := d1 c6
  have c7 : 1 * g 12 + (-1) * g 21 ≤ 0 := d2 c7
  have c8 : (-1) * g 12 + 1 * g 21 ≤ 0 := d2 c8
  have c9 : 1 * g 13 + (-1) * g 23 ≤ 0 := d2 c9
  have c10 : (-1) * g 13 + 1 * g 23 ≤ 0 := d2 c10
  have c11 : (-1) * g 11 + 1 * g 15 ≤ 0 := d2 c11
  have c12 : 1 * g 11 + (-1) * g 15 ≤ 0 := d2 c12
  have c13 : 1 * g 16 + (-1) * g 22 ≤ 0 := d2 c13
  have c14 : (-1) * g 16 + 1 * g 22 ≤ 0 := d2 c14
  have c15 : (-1) * g 14 + 1 * g 17 + 1 * g 18 ≤ 0 := d3 c15
  have c16 : 1 * g 14 + (-1) * g 17 + (-1) * g 18 ≤ 0 := d3 c16
  have c17 : 1 * g 19 + (-1) * g 25 ≤ 0 := d2 c17
  have c18 : (-1) * g 19 + 1 * g 25 ≤ 0 := d2 c18
  have c19 : 1 * g 1 + (-1) * g 20 ≤ 0 := d2 c19
  have c20 : (-1) * g 1 + 1 * g 20 ≤ 0 := d2 c20
  obtain ⟨a0, a1, a2, a3, a4, a5, a6, a7, a8, a9, a10, a11, a12, a13, a14, a15, a16, a17, a18, a19, a20, a21, a22, a23, a24, a25, a26, a27, a28, a29, a30, a31, a32, a33, a34, a35, a36, a37, a38, a39, a40, a41, a42, a43, a44, a45, a46, a47, a48, a49, a50, a51, a52, a53, a54, a55, a56, a57, a58, a59, a60, a61, a62, a63, a64, a65, a66, a67, a68, _⟩ := ha
  have n897 : τ 897 = none := a0
  have n882 : τ 882 = none := a1
  have n886 : τ 886 = none := a2
  have n887 : τ 887 = none := a3
  have n889 : τ 889 = none := a4
  have n891 : τ 891 = none := a5
  have n899 : τ 899 = none := a6
  have n905 : τ 905 = none := a7
  have n930 : τ 930 = none := a8
  have n931 : τ 931 = none := a9
  have n932 : τ 932 = none := a10
  have n933 : τ 933 = none := a11
  have n934 : τ 934 = none := a12
  have n935 : τ 935 = none := a13
  have n936 : τ 936 = none := a14
  have n937 : τ 937 = none := a15
  have n938 : τ 938 = none := a16
  have n939 : τ 939 = none := a17
  have n910 : τ 910 = none := a18
  have n911 : τ 911 = none := a19
  have n912 : τ 912 = none := a20
  have n913 : τ 913 = none := a21
  have n914 : τ 914 = none := a22
  have n915 : τ 915 = none := a23
  have n940 : τ 940 = none := a24
  have n941 : τ 941 = none := a25
  have n942 : τ 942 = none := a26
  have n943 : τ 943 = none := a27
  have n944 : τ 944 = none := a28
  have n945 : τ 945 = none := a29
  have n946 : τ 946 = none := a30
  have n947 : τ 947 = none := a31
  have n948 : τ 948 = none := a32
  have n949 : τ 949 = none := a33
  have n950 : τ 950 = none := a34
  have n951 : τ 951 = none := a35
  have n952 : τ 952 = none := a36
  have n953 : τ 953 = none := a37
  have n954 : τ 954 = none := a38
  have n955 : τ 955 = none := a39
  have n956 : τ 956 = none := a40
  have n957 : τ 957 = none := a41
  have n958 : τ 958 = none := a42
  have n959 : τ 959 = none := a43
  have n960 : τ 960 = none := a44
  have n961 : τ 961 = none := a45
  have n962 : τ 962 = none := a46
  have n963 : τ 963 = none := a47
  have n964 : τ 964 = none := a48
  have n965 : τ 965 = none := a49
  have n966 : τ 966 = none := a50
  have n967 : τ 967 = none := a51
  have n968 : τ 968 = none := a52
  have n969 : τ 969 = none := a53
  have n970 : τ 970 = none := a54
  have n971 : τ 971 = none := a55
  have n972 : τ 972 = none := a56
  have n973 : τ 973 = none := a57
  have n974 : τ 974 = none := a58
  have n920 : τ 920 = none := a59
  have n921 : τ 921 = none := a60
  have n922 : τ 922 = none := a61
  have n923 : τ 923 = none := a62
  have n924 : τ 924 = none := a63
  have n925 : τ 925 = none := a64
  have n926 : τ 926 = none := a65
  have n927 : τ 927 = none := a66
  have n928 : τ 928 = none := a67
  have n929 : τ 929 = none := a68
  obtain ⟨⟨h_p1, h_p2, h_td⟩, k_b, k_q, k_c, k_d, k_l, k_k, k_e, k_t, k_n, k_j⟩ := hS
  have k_c0 := k_c
  obtain ⟨h_ga, h_in, h_ls, h_ld, h_w, h_rd, h_lead, h_ps, h_E, h_up, h_D, h_Z, h_s, h_sp⟩ := k_c0
  have k_b0 := k_b
  obtain ⟨h_bit, h_one, h_or, h_and, h_shr, h_m1, h_m2, h_dv, h_r1, h_r2, h_nz⟩ := k_b0
  have qS : eGS m (wrM m 79 j x) := ⟨fun _ => rfl, fun _ => rfl, fun _ => rfl⟩
  have qL : eGL m (wrM m 79 j x) := fun _ => rfl
  have qK : eGK m (wrM m 79 j x) := ⟨fun _ => rfl, rfl⟩
  have qM : eGM m (wrM m 79 j x) := fun _ => rfl
  have qP : eGP m (wrM m 79 j x) := rfl
  have qC : eGC m (wrM m 79 j x) := fun _ => rfl
  have k_q := e_q qS qP k_q
  have k_d := e_d qS k_d
  have k_l := e_l qS qL k_l
  have k_k := e_k qS qK k_k
  have k_e := e_e qK qM k_e
  have k_t := e_t qK qP k_t
  have k_n := e_n qS k_n
  have k_j := e_j qS qC k_j
  exact ⟨⟨h_p1, h_p2, h_td⟩, ⟨h_bit, h_one, h_or, h_and, h_shr, fun _ _ _ e0 e1 e2 => no9 (o := none) rfl e0, fun _ _ _ e0 e1 e2 => no9 (o := none) rfl e0, fun _ _ _ e0 e1 e2 => no9 (o := none) rfl e0, h_r1, h_r2, fun _ e0 => no9 (o := none) rfl e0⟩, k_q, ⟨(fun qa qb A I e0 e1 e2 e3 => by
      have e0 : g 9 = qa := Option.some.inj (t871.symm.trans e0)
      subst e0
      have e1 : g 10 = qb := Option.some.inj (t872.symm.trans e1)
      subst e1
      have e2 : g 7 = A := Option.some.inj (t880.symm.trans e2)
      subst e2
      have e3 : g 8 = I := Option.some.inj (t881.symm.trans e3)
      subst e3
      exact ⟨(h_ga _ _ _ _ t871 t872 t880 t881).1, fun e8 _ => no9 e8 t892⟩), h_in, h_ls, fun _ _ _ _ _ _ e0 e1 e2 e3 e4 e5 => no9 n899 e4, h_w, fun _ _ e0 e1 => no9 n886 e1, fun _ _ _ e0 e1 e2 => no9 n887 e1, fun _ _ _ _ e0 e1 e2 e3 => no9 n886 e1, fun _ _ _ e0 e1 e2 => no9 n886 e1, (fun qa qb A I w Y N U V e0 e1 e2 e3 e4 e5 e6 e7 e8 => by
      have e0 : g 9 = qa := Option.some.inj (t871.symm.trans e0)
      subst e0
      have e1 : g 10 = qb := Option.some.inj (t872.symm.trans e1)
      subst e1
      have e2 : g 7 = A := Option.some.inj (t880.symm.trans e2)
      subst e2
      have e3 : g 8 = I := Option.some.inj (t881.symm.trans e3)
      subst e3
      have e4 : g 2 = w := Option.some.inj (t883.symm.trans e4)
      subst e4
      have e5 : g 3 = Y := Option.some.inj (t892.symm.trans e5)
      subst e5
      have e6 : g 4 = N := Option.some.inj (t893.symm.trans e6)
      subst e6
      have e7 : g 5 = U := Option.some.inj (t894.symm.trans e7)
      subst e7
      have e8 : g 6 + 1 = V := Option.some.inj e8
      subst e8
      show UpG (wrM m 79 j x) (τ 896) (τ 897) (PfG (wrM m 79 j x) (g 9) (g 10) (g 7) (g 8)) (g 2) (g 3) (g 4) (g 5) (g 6 + 1)
      obtain ⟨q, d9, B9, ⟨u1, uN, uY, uU, uV⟩, ⟨u2, u3⟩, u4, u5, u6, ⟨u7, u8⟩, u9⟩ := (h_up _ _ _ _ _ _ _ _ _ t871 t872 t880 t881 t883 t892 t893 t894 t895)
      have hm1 := h_m1 _ _ _ t850 t851 t852
      have hm2 := h_m2 _ _ _ t853 t854 t855
      have hdv := h_dv _ _ _ t856 t857 t858
      have ejl : jrl = (g 3).toNat := by omega
      have ejp : jrp = j := by omega
      have ejy : jy = j := by omega
      have ejd : jd = 7 := by omega
      subst ejl ejd
      rw [ejp] at vrp
      rw [ejy] at vy
      have eU : (g 5).toNat = 3 := by omega
      have h4 := u4 3 j (by omega) (by omega)
      rw [if_neg (by omega)] at h4
      have h4 := h4 (by omega)
      have hB : BGm m 3 j = m 79 j := by unfold BGm; rw [if_pos (by omega)]
      have a1 : g 14 = g 21 * g 23 := by rw [hm1, show g 12 = g 21 by omega, show g 13 = g 23 by omega]
      have a2 : g 17 = g 11 * g 22 := by rw [hm2, show g 15 = g 11 by omega, show g 16 = g 22 by omega]
      have a3 : g 20 = (g 21 * g 23 - g 11 * g 22).tdiv (g 25) := by rw [hdv, show g 19 = g 25 by omega, show g 18 = g 14 - g 17 by omega, a1, a2]
      have u6' := u6 _ t896
      rw [eU] at u6'
      have hx : x = nbG (g 4).toNat q d9 B9 (bvG (g 2)) (g 3).toNat 3 j := by
        unfold nbG
        rw [if_neg (by omega), ← u3 (g 3).toNat (by omega), ← u3 j (by omega), ← h4, ← u6', ← u8, hB, ← vrl, ← vy, ← vrp, ← vd, ← a3]; omega
      rw [PfG_e qS]
      refine ⟨q, d9, B9, ⟨u1, uN, uY, uU, by omega⟩, ⟨u2, u3⟩, fun r c hr hc => ?_, u5, u6, ⟨u7, u8⟩, ?_⟩
      · have h5 := u4 r c hr hc
        rw [BGm_w (r0 := 3) rfl (by omega) r c hc (by omega)]
        by_cases e : r = 3 ∧ c = j
        · rw [if_pos (by omega), if_pos e, e.1, e.2]; exact hx
        · rw [if_neg e]
          by_cases e2 : (r : Int) < g 5 ∨ ((r : Int) = g 5 ∧ (c : Int) < g 6)
          · rw [if_pos e2] at h5; rw [if_pos (by omega)]; exact h5
          · rw [if_neg e2] at h5; rw [if_neg (by omega)]; exact h5
      · rcases u9 with q9 | q9 | q9
        · exact Or.inl q9
        · rw [n897] at q9; cases q9.1
        · rw [n897] at q9; cases q9.1), fun _ _ _ _ _ e0 e1 e2 e3 e4 => no9 n899 e4, fun _ _ _ e0 e1 e2 => no9 n882 e2, fun _ _ e0 e1 => no9 n882 e0, fun _ _ _ e0 e1 e2 => no9 n905 e0⟩, k_d, k_l, k_k, k_e, k_t, k_n, k_j⟩
def wu_Bl3 : Ru := ([(7, (0, (0, (0, 0)))), (8, (0, (0, (0, 0)))), (0, (883, (0, (0, 0)))), (0, (892, (0, (0, 0)))), (0, (893, (0, (0, 0)))), (0, (894, (0, (0, 0)))), (0, (895, (0, (0, 0)))), (0, (880, (0, (0, 0)))), (0, (881, (0, (0, 0)))), (0, (871, (0, (0, 0)))), (0, (872, (0, (0, 0)))), (9, (97, (0, (1, 0))))], ([896, 897, 882, 886, 887, 889, 891, 899, 905, 930, 931, 932, 933, 934, 935, 936, 937, 938, 939, 910, 911, 912, 913, 914, 915, 940, 941, 942, 943, 944, 945, 946, 947, 948, 949, 950, 951, 952, 953, 954, 955, 956, 957, 958, 959, 960, 961, 962, 963, 964, 965, 966, 967, 968, 969, 970, 971, 972, 973, 974, 920, 921, 922, 923, 924, 925, 926, 927, 928, 929], ([([(5, 1)], 3), ([(5, (-1))], (-3)), ([(4, (-1)), (5, 1)], 0), ([(4, 1), (5, (-1))], 0), ([(0, 1), (6, (-1))], 0), ([(0, (-1)), (6, 1)], 0), ([(0, (-1))], 0), ([(0, 1)], 19), ([(1, 1), (11, (-1))], 0), ([(1, (-1)), (11, 1)], 0)], (false, ([], ([], ([(895, some (6, 1))], none)))))))
theorem wk_Bl3 : WrOk SGd 79 wu_Bl3 := by
  intro τ m g j x hi hc ha hS
  obtain ⟨i0, i1, i2, i3, i4, i5, i6, i7, i8, i9, i10, i11, _⟩ := hi
  have xp : g 0 = (j : Int) := i0
  have xv : g 1 = x := i1
  have t883 : τ 883 = some (g 2) := i2
  have t892 : τ 892 = some (g 3) := i3
  have t893 : τ 893 = some (g 4) := i4
  have t894 : τ 894 = some (g 5) := i5
  have t895 : τ 895 = some (g 6) := i6
  have t880 : τ 880 = some (g 7) := i7
  have t881 : τ 881 = some (g 8) := i8
  have t871 : τ 871 = some (g 9) := i9
  have t872 : τ 872 = some (g 10) := i10
  obtain ⟨jrp, urp, vrp⟩ : ∃ j : Nat, 1 * g 0 + 0 = (j : Int) ∧ g 11 = m 97 j := i11
  obtain ⟨c0, c1, c2, c3, c4, c5, c6, c7, c8, c9, _⟩ := hc
  have c0 : 1 * g 5 ≤ 3 := d1 c0
  have c1 : (-1) * g 5 ≤ (-3) := d1 c1
  have c2 : (-1) * g 4 + 1 * g 5 ≤ 0 := d2 c2
  have c3 : 1 * g 4 + (-1) * g 5 ≤ 0 := d2 c3
  have c4 : 1 * g 0 + (-1) * g 6 ≤ 0 := d2 c4
  have c5 : (-1) * g 0 + 1 * g 6 ≤ 0 := d2 c5
  have c6 : (-1) * g 0 ≤ 0 := d1 c6
  have c7 : 1 * g 0 ≤ 19 := d1 c7
  have c8 : 1 * g 1 + (-1) * g 11 ≤ 0 := d2 c8
  have c9 : (-1) * g 1 + 1 * g 11 ≤ 0 := d2 c9
  obtain ⟨a0, a1, a2, a3, a4, a5, a6, a7, a8, a9, a10, a11, a12, a13, a14, a15, a16, a17, a18, a19, a20, a21, a22, a23, a24, a25, a26, a27, a28, a29, a30, a31, a32, a33, a34, a35, a36, a37, a38, a39, a40, a41, a42, a43, a44, a45, a46, a47, a48, a49, a50, a51, a52, a53, a54, a55, a56, a57, a58, a59, a60, a61, a62, a63, a64, a65, a66, a67, a68, a69, _⟩ := ha
  have n896 : τ 896 = none := a0
  have n897 : τ 897 = none := a1
  have n882 : τ 882 = none := a2
  have n886 : τ 886 = none := a3
  have n887 : τ 887 = none := a4
  have n889 : τ 889 = none := a5
  have n891 : τ 891 = none := a6
  have n899 : τ 899 = none := a7
  have n905 : τ 905 = none := a8
  have n930 : τ 930 = none := a9
  have n931 : τ 931 = none := a10
  have n932 : τ 932 = none := a11
  have n933 : τ 933 = none := a12
  have n934 : τ 934 = none := a13
  have n935 : τ 935 = none := a14
  have n936 : τ 936 = none := a15
  have n937 : τ 937 = none := a16
  have n938 : τ 938 = none := a17
  have n939 : τ 939 = none := a18
  have n910 : τ 910 = none := a19
  have n911 : τ 911 = none := a20
  have n912 : τ 912 = none := a21
  have n913 : τ 913 = none := a22
  have n914 : τ 914 = none := a23
  have n915 : τ 915 = none := a24
  have n940 : τ 940 = none := a25
  have n941 : τ 941 = none := a26
  have n942 : τ 942 = none := a27
  have n943 : τ 943 = none := a28
  have n944 : τ 944 = none := a29
  have n945 : τ 945 = none := a30
  have n946 : τ 946 = none := a31
  have n947 : τ 947 = none := a32
  have n948 : τ 948 = none := a33
  have n949 : τ 949 = none := a34
  have n950 : τ 950 = none := a35
  have n951 : τ 951 = none := a36
  have n952 : τ 952 = none := a37
  have n953 : τ 953 = none := a38
  have n954 : τ 954 = none := a39
  have n955 : τ 955 = none := a40
  have n956 : τ 956 = none := a41
  have n957 : τ 957 = none := a42
  have n958 : τ 958 = none := a43
  have n959 : τ 959 = none := a44
  have n960 : τ 960 = none := a45
  have n961 : τ 961 = none := a46
  have n962 : τ 962 = none := a47
  have n963 : τ 963 = none := a48
  have n964 : τ 964 = none := a49
  have n965 : τ 965 = none := a50
  have n966 : τ 966 = none := a51
  have n967 : τ 967 = none := a52
  have n968 : τ 968 = none := a53
  have n969 : τ 969 = none := a54
  have n970 : τ 970 = none := a55
  have n971 : τ 971 = none := a56
  have n972 : τ 972 = none := a57
  have n973 : τ 973 = none := a58
  have n974 : τ 974 = none := a59
  have n920 : τ 920 = none := a60
  have n921 : τ 921 = none := a61
  have n922 : τ 922 = none := a62
  have n923 : τ 923 = none := a63
  have n924 : τ 924 = none := a64
  have n925 : τ 925 = none := a65
  have n926 : τ 926 = none := a66
  have n927 : τ 927 = none := a67
  have n928 : τ 928 = none := a68
  have n929 : τ 929 = none := a69
  obtain ⟨⟨h_p1, h_p2, h_td⟩, k_b, k_q, k_c, k_d, k_l, k_k, k_e, k_t, k_n, k_j⟩ := hS
  have k_c0 := k_c
  obtain ⟨h_ga, h_in, h_ls, h_ld, h_w, h_rd, h_lead, h_ps, h_E, h_up, h_D, h_Z, h_s, h_sp⟩ := k_c0
  have qS : eGS m (wrM m 79 j x) := ⟨fun _ => rfl, fun _ => rfl, fun _ => rfl⟩
  have qL : eGL m (wrM m 79 j x) := fun _ => rfl
  have qK : eGK m (wrM m 79 j x) := ⟨fun _ => rfl, rfl⟩
  have qM : eGM m (wrM m 79 j x) := fun _ => rfl
  have qP : eGP m (wrM m 79 j x) := rfl
  have qC : eGC m (wrM m 79 j x) := fun _ => rfl
  have k_q := e_q qS qP k_q
  have k_d := e_d qS k_d
  have k_l := e_l qS qL k_l
  have k_k := e_k qS qK k_k
  have k_e := e_e qK qM k_e
  have k_t := e_t qK qP k_t
  have k_n := e_n qS k_n
  have k_j := e_j qS qC k_j
  exact ⟨⟨h_p1, h_p2, h_td⟩, k_b, k_q, ⟨(fun qa qb A I e0 e1 e2 e3 => by
      have e0 : g 9 = qa := Option.some.inj (t871.symm.trans e0)
      subst e0
      have e1 : g 10 = qb := Option.some.inj (t872.symm.trans e1)
      subst e1
      have e2 : g 7 = A := Option.some.inj (t880.symm.trans e2)
      subst e2
      have e3 : g 8 = I := Option.some.inj (t881.symm.trans e3)
      subst e3
      exact ⟨(h_ga _ _ _ _ t871 t872 t880 t881).1, fun e8 _ => no9 e8 t892⟩), h_in, h_ls, fun _ _ _ _ _ _ e0 e1 e2 e3 e4 e5 => no9 n899 e4, h_w, fun _ _ e0 e1 => no9 n886 e1, fun _ _ _ e0 e1 e2 => no9 n887 e1, fun _ _ _ _ e0 e1 e2 e3 => no9 n886 e1, fun _ _ _ e0 e1 e2 => no9 n886 e1, (fun qa qb A I w Y N U V e0 e1 e2 e3 e4 e5 e6 e7 e8 => by
      have e0 : g 9 = qa := Option.some.inj (t871.symm.trans e0)
      subst e0
      have e1 : g 10 = qb := Option.some.inj (t872.symm.trans e1)
      subst e1
      have e2 : g 7 = A := Option.some.inj (t880.symm.trans e2)
      subst e2
      have e3 : g 8 = I := Option.some.inj (t881.symm.trans e3)
      subst e3
      have e4 : g 2 = w := Option.some.inj (t883.symm.trans e4)
      subst e4
      have e5 : g 3 = Y := Option.some.inj (t892.symm.trans e5)
      subst e5
      have e6 : g 4 = N := Option.some.inj (t893.symm.trans e6)
      subst e6
      have e7 : g 5 = U := Option.some.inj (t894.symm.trans e7)
      subst e7
      have e8 : g 6 + 1 = V := Option.some.inj e8
      subst e8
      show UpG (wrM m 79 j x) (τ 896) (τ 897) (PfG (wrM m 79 j x) (g 9) (g 10) (g 7) (g 8)) (g 2) (g 3) (g 4) (g 5) (g 6 + 1)
      obtain ⟨q, d9, B9, ⟨u1, uN, uY, uU, uV⟩, ⟨u2, u3⟩, u4, u5, u6, ⟨u7, u8⟩, u9⟩ := (h_up _ _ _ _ _ _ _ _ _ t871 t872 t880 t881 t883 t892 t893 t894 t895)
      have ejp : jrp = j := by omega
      have eN : (g 4).toNat = 3 := by omega
      have hx : x = nbG (g 4).toNat q d9 B9 (bvG (g 2)) (g 3).toNat 3 j := by
        unfold nbG
        rw [if_pos eN.symm, ← u3 j (by omega), ← ejp, ← vrp]; omega
      rw [PfG_e qS]
      refine ⟨q, d9, B9, ⟨u1, uN, uY, uU, by omega⟩, ⟨u2, u3⟩, fun r c hr hc => ?_, u5, u6, ⟨u7, u8⟩, ?_⟩
      · have h5 := u4 r c hr hc
        rw [BGm_w (r0 := 3) rfl (by omega) r c hc (by omega)]
        by_cases e : r = 3 ∧ c = j
        · rw [if_pos (by omega), if_pos e, e.1, e.2]; exact hx
        · rw [if_neg e]
          by_cases e2 : (r : Int) < g 5 ∨ ((r : Int) = g 5 ∧ (c : Int) < g 6)
          · rw [if_pos e2] at h5; rw [if_pos (by omega)]; exact h5
          · rw [if_neg e2] at h5; rw [if_neg (by omega)]; exact h5
      · rcases u9 with q9 | q9 | q9
        · exact Or.inl q9
        · rw [n897] at q9; cases q9.1
        · rw [n897] at q9; cases q9.1), fun _ _ _ _ _ e0 e1 e2 e3 e4 => no9 n899 e4, fun _ _ _ e0 e1 e2 => no9 n882 e2, fun _ _ e0 e1 => no9 n882 e0, fun _ _ _ e0 e1 e2 => no9 n905 e0⟩, k_d, k_l, k_k, k_e, k_t, k_n, k_j⟩
def wu_Bu4 : Ru := ([(7, (0, (0, (0, 0)))), (8, (0, (0, (0, 0)))), (0, (883, (0, (0, 0)))), (0, (892, (0, (0, 0)))), (0, (893, (0, (0, 0)))), (0, (894, (0, (0, 0)))), (0, (895, (0, (0, 0)))), (0, (880, (0, (0, 0)))), (0, (881, (0, (0, 0)))), (0, (871, (0, (0, 0)))), (0, (872, (0, (0, 0)))), (0, (896, (0, (0, 0)))), (0, (850, (0, (0, 0)))), (0, (851, (0, (0, 0)))), (0, (852, (0, (0, 0)))), (0, (853, (0, (0, 0)))), (0, (854, (0, (0, 0)))), (0, (855, (0, (0, 0)))), (0, (856, (0, (0, 0)))), (0, (857, (0, (0, 0)))), (0, (858, (0, (0, 0)))), (9, (97, (3, (1, 0)))), (9, (97, (0, (1, 0)))), (9, (80, (0, (1, 0)))), (4, (0, (0, (7, 0)))), (9, (1000, (24, (1, 0))))], ([897, 882, 886, 887, 889, 891, 899, 905, 930, 931, 932, 933, 934, 935, 936, 937, 938, 939, 910, 911, 912, 913, 914, 915, 940, 941, 942, 943, 944, 945, 946, 947, 948, 949, 950, 951, 952, 953, 954, 955, 956, 957, 958, 959, 960, 961, 962, 963, 964, 965, 966, 967, 968, 969, 970, 971, 972, 973, 974, 920, 921, 922, 923, 924, 925, 926, 927, 928, 929], ([([(5, 1)], 4), ([(5, (-1))], (-4)), ([(4, (-1)), (5, 1)], (-1)), ([(0, 1), (6, (-1))], 0), ([(0, (-1)), (6, 1)], 0), ([(0, (-1))], 0), ([(0, 1)], 19), ([(12, 1), (21, (-1))], 0), ([(12, (-1)), (21, 1)], 0), ([(13, 1), (23, (-1))], 0), ([(13, (-1)), (23, 1)], 0), ([(11, (-1)), (15, 1)], 0), ([(11, 1), (15, (-1))], 0), ([(16, 1), (22, (-1))], 0), ([(16, (-1)), (22, 1)], 0), ([(14, (-1)), (17, 1), (18, 1)], 0), ([(14, 1), (17, (-1)), (18, (-1))], 0), ([(19, 1), (25, (-1))], 0), ([(19, (-1)), (25, 1)], 0), ([(1, 1), (20, (-1))], 0), ([(1, (-1)), (20, 1)], 0)], (false, ([], ([], ([(895, some (6, 1)), (850, none), (851, none), (852, none), (853, none), (854, none), (855, none), (856, none), (857, none), (858, none), (869, none)], none)))))))
theorem wk_Bu4 : WrOk SGd 80 wu_Bu4 := by
  intro τ m g j x hi hc ha hS
  obtain ⟨i0, i1, i2, i3, i4, i5, i6, i7, i8, i9, i10, i11, i12, i13, i14, i15, i16, i17, i18, i19, i20, i21, i22, i23, i24, i25, _⟩ := hi
  have xp : g 0 = (j : Int) := i0
  have xv : g 1 = x := i1
  have t883 : τ 883 = some (g 2) := i2
  have t892 : τ 892 = some (g 3) := i3
  have t893 : τ 893 = some (g 4) := i4
  have t894 : τ 894 = some (g 5) := i5
  have t895 : τ 895 = some (g 6) := i6
  have t880 : τ 880 = some (g 7) := i7
  have t881 : τ 881 = some (g 8) := i8
  have t871 : τ 871 = some (g 9) := i9
  have t872 : τ 872 = some (g 10) := i10
  have t896 : τ 896 = some (g 11) := i11
  have t850 : τ 850 = some (g 12) := i12
  have t851 : τ 851 = some (g 13) := i13
  have t852 : τ 852 = some (g 14) := i14
  have t853 : τ 853 = some (g 15) := i15
  have t854 : τ 854 = some (g 16) := i16
  have t855 : τ 855 = some (g 17) := i17
  have t856 : τ 856 = some (g 18) := i18
  have t857 : τ 857 = some (g 19) := i19
  have t858 : τ 858 = some (g 20) := i20
  obtain ⟨jrl, url, vrl⟩ : ∃ j : Nat, 1 * g 3 + 0 = (j : Int) ∧ g 21 = m 97 j := i21
  obtain ⟨jrp, urp, vrp⟩ : ∃ j : Nat, 1 * g 0 + 0 = (j : Int) ∧ g 22 = m 97 j := i22
  obtain ⟨jy, uy, vy⟩ : ∃ j : Nat, 1 * g 0 + 0 = (j : Int) ∧ g 23 = m 80 j := i23
  have xjc : g 24 = 7 := i24
  obtain ⟨jd, ud, vd⟩ : ∃ j : Nat, 1 * g 24 + 0 = (j : Int) ∧ g 25 = m 1000 j := i25
  obtain ⟨c0, c1, c2, c3, c4, c5, c6, c7, c8, c9, c10, c11, c12, c13, c14, c15, c16, c17, c18, c19, c20, _⟩ := hc
  have c0 : 1 * g 5 ≤ 4 := d1 c0
  have c1 : (-1) * g 5 ≤ (-4) := d1 c1
  have c2 : (-1) * g 4 + 1 * g 5 ≤ (-1) := d2 c2
  have c3 : 1 * g 0 + (-1) * g 6 ≤ 0 := d2 c3
  have c4 : (-1) * g 0 + 1 * g 6 ≤ 0 := d2 c4
  have c5 : (-1) * g 0 ≤ 0 := d1 c5
  have c6 : 1 * g 0 ≤ 19 := d1 c6
  have c7 : 1 * g 12 + (-1) * g 21 ≤ 0 := d2 c7
  have c8 : (-1) * g 12 + 1 * g 21 ≤ 0 := d2 c8
  have c9 : 1 * g 13 + (-1) * g 23 ≤ 0 := d2 c9
  have c10 : (-1) * g 13 + 1 * g 23 ≤ 0 := d2 c10
  have c11 : (-1) * g 11 + 1 * g 15 ≤ 0 := d2 c11
  have c12 : 1 * g 11 + (-1) * g 15 ≤ 0 := d2 c12
  have c13 : 1 * g 16 + (-1) * g 22 ≤ 0 := d2 c13
  have c14 : (-1) * g 16 + 1 * g 22 ≤ 0 := d2 c14
  have c15 : (-1) * g 14 + 1 * g 17 + 1 * g 18 ≤ 0 := d3 c15
  have c16 : 1 * g 14 + (-1) * g 17 + (-1) * g 18 ≤ 0 := d3 c16
  have c17 : 1 * g 19 + (-1) * g 25 ≤ 0 := d2 c17
  have c18 : (-1) * g 19 + 1 * g 25 ≤ 0 := d2 c18
  have c19 : 1 * g 1 + (-1) * g 20 ≤ 0 := d2 c19
  have c20 : (-1) * g 1 + 1 * g 20 ≤ 0 := d2 c20
  obtain ⟨a0, a1, a2, a3, a4, a5, a6, a7, a8, a9, a10, a11, a12, a13, a14, a15, a16, a17, a18, a19, a20, a21, a22, a23, a24, a25, a26, a27, a28, a29, a30, a31, a32, a33, a34, a35, a36, a37, a38, a39, a40, a41, a42, a43, a44, a45, a46, a47, a48, a49, a50, a51, a52, a53, a54, a55, a56, a57, a58, a59, a60, a61, a62, a63, a64, a65, a66, a67, a68, _⟩ := ha
  have n897 : τ 897 = none := a0
  have n882 : τ 882 = none := a1
  have n886 : τ 886 = none := a2
  have n887 : τ 887 = none := a3
  have n889 : τ 889 = none := a4
  have n891 : τ 891 = none := a5
  have n899 : τ 899 = none := a6
  have n905 : τ 905 = none := a7
  have n930 : τ 930 = none := a8
  have n931 : τ 931 = none := a9
  have n932 : τ 932 = none := a10
  have n933 : τ 933 = none := a11
  have n934 : τ 934 = none := a12
  have n935 : τ 935 = none := a13
  have n936 : τ 936 = none := a14
  have n937 : τ 937 = none := a15
  have n938 : τ 938 = none := a16
  have n939 : τ 939 = none := a17
  have n910 : τ 910 = none := a18
  have n911 : τ 911 = none := a19
  have n912 : τ 912 = none := a20
  have n913 : τ 913 = none := a21
  have n914 : τ 914 = none := a22
  have n915 : τ 915 = none := a23
  have n940 : τ 940 = none := a24
  have n941 : τ 941 = none := a25
  have n942 : τ 942 = none := a26
  have n943 : τ 943 = none := a27
  have n944 : τ 944 = none := a28
  have n945 : τ 945 = none := a29
  have n946 : τ 946 = none := a30
  have n947 : τ 947 = none := a31
  have n948 : τ 948 = none := a32
  have n949 : τ 949 = none := a33
  have n950 : τ 950 = none := a34
  have n951 : τ 951 = none := a35
  have n952 : τ 952 = none := a36
  have n953 : τ 953 = none := a37
  have n954 : τ 954 = none := a38
  have n955 : τ 955 = none := a39
  have n956 : τ 956 = none := a40
  have n957 : τ 957 = none := a41
  have n958 : τ 958 = none := a42
  have n959 : τ 959 = none := a43
  have n960 : τ 960 = none := a44
  have n961 : τ 961 = none := a45
  have n962 : τ 962 = none := a46
  have n963 : τ 963 = none := a47
  have n964 : τ 964 = none := a48
  have n965 : τ 965 = none := a49
  have n966 : τ 966 = none := a50
  have n967 : τ 967 = none := a51
  have n968 : τ 968 = none := a52
  have n969 : τ 969 = none := a53
  have n970 : τ 970 = none := a54
  have n971 : τ 971 = none := a55
  have n972 : τ 972 = none := a56
  have n973 : τ 973 = none := a57
  have n974 : τ 974 = none := a58
  have n920 : τ 920 = none := a59
  have n921 : τ 921 = none := a60
  have n922 : τ 922 = none := a61
  have n923 : τ 923 = none := a62
  have n924 : τ 924 = none := a63
  have n925 : τ 925 = none := a64
  have n926 : τ 926 = none := a65
  have n927 : τ 927 = none := a66
  have n928 : τ 928 = none := a67
  have n929 : τ 929 = none := a68
  obtain ⟨⟨h_p1, h_p2, h_td⟩, k_b, k_q, k_c, k_d, k_l, k_k, k_e, k_t, k_n, k_j⟩ := hS
  have k_c0 := k_c
  obtain ⟨h_ga, h_in, h_ls, h_ld, h_w, h_rd, h_lead, h_ps, h_E, h_up, h_D, h_Z, h_s, h_sp⟩ := k_c0
  have k_b0 := k_b
  obtain ⟨h_bit, h_one, h_or, h_and, h_shr, h_m1, h_m2, h_dv, h_r1, h_r2, h_nz⟩ := k_b0
  have qS : eGS m (wrM m 80 j x) := ⟨fun _ => rfl, fun _ => rfl, fun _ => rfl⟩
  have qL : eGL m (wrM m 80 j x) := fun _ => rfl
  have qK : eGK m (wrM m 80 j x) := ⟨fun _ => rfl, rfl⟩
  have qM : eGM m (wrM m 80 j x) := fun _ => rfl
  have qP : eGP m (wrM m 80 j x) := rfl
  have qC : eGC m (wrM m 80 j x) := fun _ => rfl
  have k_q := e_q qS qP k_q
  have k_d := e_d qS k_d
  have k_l := e_l qS qL k_l
  have k_k := e_k qS qK k_k
  have k_e := e_e qK qM k_e
  have k_t := e_t qK qP k_t
  have k_n := e_n qS k_n
  have k_j := e_j qS qC k_j
  exact ⟨⟨h_p1, h_p2, h_td⟩, ⟨h_bit, h_one, h_or, h_and, h_shr, fun _ _ _ e0 e1 e2 => no9 (o := none) rfl e0, fun _ _ _ e0 e1 e2 => no9 (o := none) rfl e0, fun _ _ _ e0 e1 e2 => no9 (o := none) rfl e0, h_r1, h_r2, fun _ e0 => no9 (o := none) rfl e0⟩, k_q, ⟨(fun qa qb A I e0 e1 e2 e3 => by
      have e0 : g 9 = qa := Option.some.inj (t871.symm.trans e0)
      subst e0
      have e1 : g 10 = qb := Option.some.inj (t872.symm.trans e1)
      subst e1
      have e2 : g 7 = A := Option.some.inj (t880.symm.trans e2)
      subst e2
      have e3 : g 8 = I := Option.some.inj (t881.symm.trans e3)
      subst e3
      exact ⟨(h_ga _ _ _ _ t871 t872 t880 t881).1, fun e8 _ => no9 e8 t892⟩), h_in, h_ls, fun _ _ _ _ _ _ e0 e1 e2 e3 e4 e5 => no9 n899 e4, h_w, fun _ _ e0 e1 => no9 n886 e1, fun _ _ _ e0 e1 e2 => no9 n887 e1, fun _ _ _ _ e0 e1 e2 e3 => no9 n886 e1, fun _ _ _ e0 e1 e2 => no9 n886 e1, (fun qa qb A I w Y N U V e0 e1 e2 e3 e4 e5 e6 e7 e8 => by
      have e0 : g 9 = qa := Option.some.inj (t871.symm.trans e0)
      subst e0
      have e1 : g 10 = qb := Option.some.inj (t872.symm.trans e1)
      subst e1
      have e2 : g 7 = A := Option.some.inj (t880.symm.trans e2)
      subst e2
      have e3 : g 8 = I := Option.some.inj (t881.symm.trans e3)
      subst e3
      have e4 : g 2 = w := Option.some.inj (t883.symm.trans e4)
      subst e4
      have e5 : g 3 = Y := Option.some.inj (t892.symm.trans e5)
      subst e5
      have e6 : g 4 = N := Option.some.inj (t893.symm.trans e6)
      subst e6
      have e7 : g 5 = U := Option.some.inj (t894.symm.trans e7)
      subst e7
      have e8 : g 6 + 1 = V := Option.some.inj e8
      subst e8
      show UpG (wrM m 80 j x) (τ 896) (τ 897) (PfG (wrM m 80 j x) (g 9) (g 10) (g 7) (g 8)) (g 2) (g 3) (g 4) (g 5) (g 6 + 1)
      obtain ⟨q, d9, B9, ⟨u1, uN, uY, uU, uV⟩, ⟨u2, u3⟩, u4, u5, u6, ⟨u7, u8⟩, u9⟩ := (h_up _ _ _ _ _ _ _ _ _ t871 t872 t880 t881 t883 t892 t893 t894 t895)
      have hm1 := h_m1 _ _ _ t850 t851 t852
      have hm2 := h_m2 _ _ _ t853 t854 t855
      have hdv := h_dv _ _ _ t856 t857 t858
      have ejl : jrl = (g 3).toNat := by omega
      have ejp : jrp = j := by omega
      have ejy : jy = j := by omega
      have ejd : jd = 7 := by omega
      subst ejl ejd
      rw [ejp] at vrp
      rw [ejy] at vy
      have eU : (g 5).toNat = 4 := by omega
      have h4 := u4 4 j (by omega) (by omega)
      rw [if_neg (by omega)] at h4
      have h4 := h4 (by omega)
      have hB : BGm m 4 j = m 80 j := by unfold BGm; rw [if_pos (by omega)]
      have a1 : g 14 = g 21 * g 23 := by rw [hm1, show g 12 = g 21 by omega, show g 13 = g 23 by omega]
      have a2 : g 17 = g 11 * g 22 := by rw [hm2, show g 15 = g 11 by omega, show g 16 = g 22 by omega]
      have a3 : g 20 = (g 21 * g 23 - g 11 * g 22).tdiv (g 25) := by rw [hdv, show g 19 = g 25 by omega, show g 18 = g 14 - g 17 by omega, a1, a2]
      have u6' := u6 _ t896
      rw [eU] at u6'
      have hx : x = nbG (g 4).toNat q d9 B9 (bvG (g 2)) (g 3).toNat 4 j := by
        unfold nbG
        rw [if_neg (by omega), ← u3 (g 3).toNat (by omega), ← u3 j (by omega), ← h4, ← u6', ← u8, hB, ← vrl, ← vy, ← vrp, ← vd, ← a3]; omega
      rw [PfG_e qS]
      refine ⟨q, d9, B9, ⟨u1, uN, uY, uU, by omega⟩, ⟨u2, u3⟩, fun r c hr hc => ?_, u5, u6, ⟨u7, u8⟩, ?_⟩
      · have h5 := u4 r c hr hc
        rw [BGm_w (r0 := 4) rfl (by omega) r c hc (by omega)]
        by_cases e : r = 4 ∧ c = j
        · rw [if_pos (by omega), if_pos e, e.1, e.2]; exact hx
        · rw [if_neg e]
          by_cases e2 : (r : Int) < g 5 ∨ ((r : Int) = g 5 ∧ (c : Int) < g 6)
          · rw [if_pos e2] at h5; rw [if_pos (by omega)]; exact h5
          · rw [if_neg e2] at h5; rw [if_neg (by omega)]; exact h5
      · rcases u9 with q9 | q9 | q9
        · exact Or.inl q9
        · rw [n897] at q9; cases q9.1
        · rw [n897] at q9; cases q9.1), fun _ _ _ _ _ e0 e1 e2 e3 e4 => no9 n899 e4, fun _ _ _ e0 e1 e2 => no9 n882 e2, fun _ _ e0 e1 => no9 n882 e0, fun _ _ _ e0 e1 e2 => no9 n905 e0⟩, k_d, k_l, k_k, k_e, k_t, k_n, k_j⟩
def wu_Bl4 : Ru := ([(7, (0, (0, (0, 0)))), (8, (0, (0, (0, 0)))), (0, (883, (0, (0, 0)))), (0, (892, (0, (0, 0)))), (0, (893, (0, (0, 0)))), (0, (894, (0, (0, 0)))), (0, (895, (0, (0, 0)))), (0, (880, (0, (0, 0)))), (0, (881, (0, (0, 0)))), (0, (871, (0, (0, 0)))), (0, (872, (0, (0, 0)))), (9, (97, (0, (1, 0))))], ([896, 897, 882, 886, 887, 889, 891, 899, 905, 930, 931, 932, 933, 934, 935, 936, 937, 938, 939, 910, 911, 912, 913, 914, 915, 940, 941, 942, 943, 944, 945, 946, 947, 948, 949, 950, 951, 952, 953, 954, 955, 956, 957, 958, 959, 960, 961, 962, 963, 964, 965, 966, 967, 968, 969, 970, 971, 972, 973, 974, 920, 921, 922, 923, 924, 925, 926, 927, 928, 929], ([([(5, 1)], 4), ([(5, (-1))], (-4)), ([(4, (-1)), (5, 1)], 0), ([(4, 1), (5, (-1))], 0), ([(0, 1), (6, (-1))], 0), ([(0, (-1)), (6, 1)], 0), ([(0, (-1))], 0), ([(0, 1)], 19), ([(1, 1), (11, (-1))], 0), ([(1, (-1)), (11, 1)], 0)], (false, ([], ([], ([(895, some (6, 1))], none)))))))
theorem wk_Bl4 : WrOk SGd 80 wu_Bl4 := by
  intro τ m g j x hi hc ha hS
  obtain ⟨i0, i1, i2, i3, i4, i5, i6, i7, i8, i9, i10, i11, _⟩ := hi
  have xp : g 0 = (j : Int) := i0
  have xv : g 1 = x := i1
  have t883 : τ 883 = some (g 2) := i2
  have t892 : τ 892 = some (g 3) := i3
  have t893 : τ 893 = some (g 4) := i4
  have t894 : τ 894 = some (g 5) := i5
  have t895 : τ 895 = some (g 6) := i6
  have t880 : τ 880 = some (g 7) := i7
  have t881 : τ 881 = some (g 8) := i8
  have t871 : τ 871 = some (g 9) := i9
  have t872 : τ 872 = some (g 10) := i10
  obtain ⟨jrp, urp, vrp⟩ : ∃ j : Nat, 1 * g 0 + 0 = (j : Int) ∧ g 11 = m 97 j := i11
  obtain ⟨c0, c1, c2, c3, c4, c5, c6, c7, c8, c9, _⟩ := hc
  have c0 : 1 * g 5 ≤ 4 := d1 c0
  have c1 : (-1) * g 5 ≤ (-4) := d1 c1
  have c2 : (-1) * g 4 + 1 * g 5 ≤ 0 := d2 c2
  have c3 : 1 * g 4 + (-1) * g 5 ≤ 0 := d2 c3
  have c4 : 1 * g 0 + (-1) * g 6 ≤ 0 := d2 c4
  have c5 : (-1) * g 0 + 1 * g 6 ≤ 0 := d2 c5
  have c6 : (-1) * g 0 ≤ 0 := d1 c6
  have c7 : 1 * g 0 ≤ 19 := d1 c7
  have c8 : 1 * g 1 + (-1) * g 11 ≤ 0 := d2 c8
  have c9 : (-1) * g 1 + 1 * g 11 ≤ 0 := d2 c9
  obtain ⟨a0, a1, a2, a3, a4, a5, a6, a7, a8, a9, a10, a11, a12, a13, a14, a15, a16, a17, a18, a19, a20, a21, a22, a23, a24, a25, a26, a27, a28, a29, a30, a31, a32, a33, a34, a35, a36, a37, a38, a39, a40, a41, a42, a43, a44, a45, a46, a47, a48, a49, a50, a51, a52, a53, a54, a55, a56, a57, a58, a59, a60, a61, a62, a63, a64, a65, a66, a67, a68, a69, _⟩ := ha
  have n896 : τ 896 = none := a0
  have n897 : τ 897 = none := a1
  have n882 : τ 882 = none := a2
  have n886 : τ 886 = none := a3
  have n887 : τ 887 = none := a4
  have n889 : τ 889 = none := a5
  have n891 : τ 891 = none := a6
  have n899 : τ 899 = none := a7
  have n905 : τ 905 = none := a8
  have n930 : τ 930 = none := a9
  have n931 : τ 931 = none := a10
  have n932 : τ 932 = none := a11
  have n933 : τ 933 = none := a12
  have n934 : τ 934 = none := a13
  have n935 : τ 935 = none := a14
  have n936 : τ 936 = none := a15
  have n937 : τ 937 = none := a16
  have n938 : τ 938 = none := a17
  have n939 : τ 939 = none := a18
  have n910 : τ 910 = none := a19
  have n911 : τ 911 = none := a20
  have n912 : τ 912 = none := a21
  have n913 : τ 913 = none := a22
  have n914 : τ 914 = none := a23
  have n915 : τ 915 = none := a24
  have n940 : τ 940 = none := a25
  have n941 : τ 941 = none := a26
  have n942 : τ 942 = none := a27
  have n943 : τ 943 = none := a28
  have n944 : τ 944 = none := a29
  have n945 : τ 945 = none := a30
  have n946 : τ 946 = none := a31
  have n947 : τ 947 = none := a32
  have n948 : τ 948 = none := a33
  have n949 : τ 949 = none := a34
  have n950 : τ 950 = none := a35
  have n951 : τ 951 = none := a36
  have n952 : τ 952 = none := a37
  have n953 : τ 953 = none := a38
  have n954 : τ 954 = none := a39
  have n955 : τ 955 = none := a40
  have n956 : τ 956 = none := a41
  have n957 : τ 957 = none := a42
  have n958 : τ 958 = none := a43
  have n959 : τ 959 = none := a44
  have n960 : τ 960 = none := a45
  have n961 : τ 961 = none := a46
  have n962 : τ 962 = none := a47
  have n963 : τ 963 = none := a48
  have n964 : τ 964 = none := a49
  have n965 : τ 965 = none := a50
  have n966 : τ 966 = none := a51
  have n967 : τ 967 = none := a52
  have n968 : τ 968 = none := a53
  have n969 : τ 969 = none := a54
  have n970 : τ 970 = none := a55
  have n971 : τ 971 = none := a56
  have n972 : τ 972 = none := a57
  have n973 : τ 973 = none := a58
  have n974 : τ 974 = none := a59
  have n920 : τ 920 = none := a60
  have n921 : τ 921 = none := a61
  have n922 : τ 922 = none := a62
  have n923 : τ 923 = none := a63
  have n924 : τ 924 = none := a64
  have n925 : τ 925 = none := a65
  have n926 : τ 926 = none := a66
  have n927 : τ 927 = none := a67
  have n928 : τ 928 = none := a68
  have n929 : τ 929 = none := a69
  obtain ⟨⟨h_p1, h_p2, h_td⟩, k_b, k_q, k_c, k_d, k_l, k_k, k_e, k_t, k_n, k_j⟩ := hS
  have k_c0 := k_c
  obtain ⟨h_ga, h_in, h_ls, h_ld, h_w, h_rd, h_lead, h_ps, h_E, h_up, h_D, h_Z, h_s, h_sp⟩ := k_c0
  have qS : eGS m (wrM m 80 j x) := ⟨fun _ => rfl, fun _ => rfl, fun _ => rfl⟩
  have qL : eGL m (wrM m 80 j x) := fun _ => rfl
  have qK : eGK m (wrM m 80 j x) := ⟨fun _ => rfl, rfl⟩
  have qM : eGM m (wrM m 80 j x) := fun _ => rfl
  have qP : eGP m (wrM m 80 j x) := rfl
  have qC : eGC m (wrM m 80 j x) := fun _ => rfl
  have k_q := e_q qS qP k_q
  have k_d := e_d qS k_d
  have k_l := e_l qS qL k_l
  have k_k := e_k qS qK k_k
  have k_e := e_e qK qM k_e
  have k_t := e_t qK qP k_t
  have k_n := e_n qS k_n
  have k_j := e_j qS qC k_j
  exact ⟨⟨h_p1, h_p2, h_td⟩, k_b, k_q, ⟨(fun qa qb A I e0 e1 e2 e3 => by
      have e0 : g 9 = qa := Option.some.inj (t871.symm.trans e0)
      subst e0
      have e1 : g 10 = qb := Option.some.inj (t872.symm.trans e1)
      subst e1
      have e2 : g 7 = A := Option.some.inj (t880.symm.trans e2)
      subst e2
      have e3 : g 8 = I := Option.some.inj (t881.symm.trans e3)
      subst e3
      exact ⟨(h_ga _ _ _ _ t871 t872 t880 t881).1, fun e8 _ => no9 e8 t892⟩), h_in, h_ls, fun _ _ _ _ _ _ e0 e1 e2 e3 e4 e5 => no9 n899 e4, h_w, fun _ _ e0 e1 => no9 n886 e1, fun _ _ _ e0 e1 e2 => no9 n887 e1, fun _ _ _ _ e0 e1 e2 e3 => no9 n886 e1, fun _ _ _ e0 e1 e2 => no9 n886 e1, (fun qa qb A I w Y N U V e0 e1 e2 e3 e4 e5 e6 e7 e8 => by
      have e0 : g 9 = qa := Option.some.inj (t871.symm.trans e0)
      subst e0
      have e1 : g 10 = qb := Option.some.inj (t872.symm.trans e1)
      subst e1
      have e2 : g 7 = A := Option.some.inj (t880.symm.trans e2)
      subst e2
      have e3 : g 8 = I := Option.some.inj (t881.symm.trans e3)
      subst e3
      have e4 : g 2 = w := Option.some.inj (t883.symm.trans e4)
      subst e4
      have e5 : g 3 = Y := Option.some.inj (t892.symm.trans e5)
      subst e5
      have e6 : g 4 = N := Option.some.inj (t893.symm.trans e6)
      subst e6
      have e7 : g 5 = U := Option.some.inj (t894.symm.trans e7)
      subst e7
      have e8 : g 6 + 1 = V := Option.some.inj e8
      subst e8
      show UpG (wrM m 80 j x) (τ 896) (τ 897) (PfG (wrM m 80 j x) (g 9) (g 10) (g 7) (g 8)) (g 2) (g 3) (g 4) (g 5) (g 6 + 1)
      obtain ⟨q, d9, B9, ⟨u1, uN, uY, uU, uV⟩, ⟨u2, u3⟩, u4, u5, u6, ⟨u7, u8⟩, u9⟩ := (h_up _ _ _ _ _ _ _ _ _ t871 t872 t880 t881 t883 t892 t893 t894 t895)
      have ejp : jrp = j := by omega
      have eN : (g 4).toNat = 4 := by omega
      have hx : x = nbG (g 4).toNat q d9 B9 (bvG (g 2)) (g 3).toNat 4 j := by
        unfold nbG
        rw [if_pos eN.symm, ← u3 j (by omega), ← ejp, ← vrp]; omega
      rw [PfG_e qS]
      refine ⟨q, d9, B9, ⟨u1, uN, uY, uU, by omega⟩, ⟨u2, u3⟩, fun r c hr hc => ?_, u5, u6, ⟨u7, u8⟩, ?_⟩
      · have h5 := u4 r c hr hc
        rw [BGm_w (r0 := 4) rfl (by omega) r c hc (by omega)]
        by_cases e : r = 4 ∧ c = j
        · rw [if_pos (by omega), if_pos e, e.1, e.2]; exact hx
        · rw [if_neg e]
          by_cases e2 : (r : Int) < g 5 ∨ ((r : Int) = g 5 ∧ (c : Int) < g 6)
          · rw [if_pos e2] at h5; rw [if_pos (by omega)]; exact h5
          · rw [if_neg e2] at h5; rw [if_neg (by omega)]; exact h5
      · rcases u9 with q9 | q9 | q9
        · exact Or.inl q9
        · rw [n897] at q9; cases q9.1
        · rw [n897] at q9; cases q9.1), fun _ _ _ _ _ e0 e1 e2 e3 e4 => no9 n899 e4, fun _ _ _ e0 e1 e2 => no9 n882 e2, fun _ _ e0 e1 => no9 n882 e0, fun _ _ _ e0 e1 e2 => no9 n905 e0⟩, k_d, k_l, k_k, k_e, k_t, k_n, k_j⟩
def wu_Bu5 : Ru := ([(7, (0, (0, (0, 0)))), (8, (0, (0, (0, 0)))), (0, (883, (0, (0, 0)))), (0, (892, (0, (0, 0)))), (0, (893, (0, (0, 0)))), (0, (894, (0, (0, 0)))), (0, (895, (0, (0, 0)))), (0, (880, (0, (0, 0)))), (0, (881, (0, (0, 0)))), (0, (871, (0, (0, 0)))), (0, (872, (0, (0, 0)))), (0, (896, (0, (0, 0)))), (0, (850, (0, (0, 0)))), (0, (851, (0, (0, 0)))), (0, (852, (0, (0, 0)))), (0, (853, (0, (0, 0)))), (0, (854, (0, (0, 0)))), (0, (855, (0, (0, 0)))), (0, (856, (0, (0, 0)))), (0, (857, (0, (0, 0)))), (0, (858, (0, (0, 0)))), (9, (97, (3, (1, 0)))), (9, (97, (0, (1, 0)))), (9, (81, (0, (1, 0)))), (4, (0, (0, (7, 0)))), (9, (1000, (24, (1, 0))))], ([897, 882, 886, 887, 889, 891, 899, 905, 930, 931, 932, 933, 934, 935, 936, 937, 938, 939, 910, 911, 912, 913, 914, 915, 940, 941, 942, 943, 944, 945, 946, 947, 948, 949, 950, 951, 952, 953, 954, 955, 956, 957, 958, 959, 960, 961, 962, 963, 964, 965, 966, 967, 968, 969, 970, 971, 972, 973, 974, 920, 921, 922, 923, 924, 925, 926, 927, 928, 929], ([([(5, 1)], 5), ([(5, (-1))], (-5)), ([(4, (-1)), (5, 1)], (-1)), ([(0, 1), (6, (-1))], 0), ([(0, (-1)), (6, 1)], 0), ([(0, (-1))], 0), ([(0, 1)], 19), ([(12, 1), (21, (-1))], 0), ([(12, (-1)), (21, 1)], 0), ([(13, 1), (23, (-1))], 0), ([(13, (-1)), (23, 1)], 0), ([(11, (-1)), (15, 1)], 0), ([(11, 1), (15, (-1))], 0), ([(16, 1), (22, (-1))], 0), ([(16, (-1)), (22, 1)], 0), ([(14, (-1)), (17, 1), (18, 1)], 0), ([(14, 1), (17, (-1)), (18, (-1))], 0), ([(19, 1), (25, (-1))], 0), ([(19, (-1)), (25, 1)], 0), ([(1, 1), (20, (-1))], 0), ([(1, (-1)), (20, 1)], 0)], (false, ([], ([], ([(895, some (6, 1)), (850, none), (851, none), (852, none), (853, none), (854, none), (855, none), (856, none), (857, none), (858, none), (869, none)], none)))))))
theorem wk_Bu5 : WrOk SGd 81 wu_Bu5 := by
  intro τ m g j x hi hc ha hS
  obtain ⟨i0, i1, i2, i3, i4, i5, i6, i7, i8, i9, i10, i11, i12, i13, i14, i15, i16, i17, i18, i19, i20, i21, i22, i23, i24, i25, _⟩ := hi
  have xp : g 0 = (j : Int) := i0
  have xv : g 1 = x := i1
  have t883 : τ 883 = some (g 2) := i2
  have t892 : τ 892 = some (g 3) := i3
  have t893 : τ 893 = some (g 4) := i4
  have t894 : τ 894 = some (g 5) := i5
  have t895 : τ 895 = some (g 6) := i6
  have t880 : τ 880 = some (g 7) := i7
  have t881 : τ 881 = some (g 8) := i8
  have t871 : τ 871 = some (g 9) := i9
  have t872 : τ 872 = some (g 10) := i10
  have t896 : τ 896 = some (g 11) := i11
  have t850 : τ 850 = some (g 12) := i12
  have t851 : τ 851 = some (g 13) := i13
  have t852 : τ 852 = some (g 14) := i14
  have t853 : τ 853 = some (g 15) := i15
  have t854 : τ 854 = some (g 16) := i16
  have t855 : τ 855 = some (g 17) := i17
  have t856 : τ 856 = some (g 18) := i18
  have t857 : τ 857 = some (g 19) := i19
  have t858 : τ 858 = some (g 20) := i20
  obtain ⟨jrl, url, vrl⟩ : ∃ j : Nat, 1 * g 3 + 0 = (j : Int) ∧ g 21 = m 97 j := i21
  obtain ⟨jrp, urp, vrp⟩ : ∃ j : Nat, 1 * g 0 + 0 = (j : Int) ∧ g 22 = m 97 j := i22
  obtain ⟨jy, uy, vy⟩ : ∃ j : Nat, 1 * g 0 + 0 = (j : Int) ∧ g 23 = m 81 j := i23
  have xjc : g 24 = 7 := i24
  obtain ⟨jd, ud, vd⟩ : ∃ j : Nat, 1 * g 24 + 0 = (j : Int) ∧ g 25 = m 1000 j := i25
  obtain ⟨c0, c1, c2, c3, c4, c5, c6, c7, c8, c9, c10, c11, c12, c13, c14, c15, c16, c17, c18, c19, c20, _⟩ := hc
  have c0 : 1 * g 5 ≤ 5 := d1 c0
  have c1 : (-1) * g 5 ≤ (-5) := d1 c1
  have c2 : (-1) * g 4 + 1 * g 5 ≤ (-1) := d2 c2
  have c3 : 1 * g 0 + (-1) * g 6 ≤ 0 := d2 c3
  have c4 : (-1) * g 0 + 1 * g 6 ≤ 0 := d2 c4
  have c5 : (-1) * g 0 ≤ 0 := d1 c5
  have c6 : 1 * g 0 ≤ 19 := d1 c6
  have c7 : 1 * g 12 + (-1) * g 21 ≤ 0 := d2 c7
  have c8 : (-1) * g 12 + 1 * g 21 ≤ 0 := d2 c8
  have c9 : 1 * g 13 + (-1) * g 23 ≤ 0 := d2 c9
  have c10 : (-1) * g 13 + 1 * g 23 ≤ 0 := d2 c10
  have c11 : (-1) * g 11 + 1 * g 15 ≤ 0 := d2 c11
  have c12 : 1 * g 11 + (-1) * g 15 ≤ 0 := d2 c12
  have c13 : 1 * g 16 + (-1) * g 22 ≤ 0 := d2 c13
  have c14 : (-1) * g 16 + 1 * g 22 ≤ 0 := d2 c14
  have c15 : (-1) * g 14 + 1 * g 17 + 1 * g 18 ≤ 0 := d3 c15
  have c16 : 1 * g 14 + (-1) * g 17 + (-1) * g 18 ≤ 0 := d3 c16
  have c17 : 1 * g 19 + (-1) * g 25 ≤ 0 := d2 c17
  have c18 : (-1) * g 19 + 1 * g 25 ≤ 0 := d2 c18
  have c19 : 1 * g 1 + (-1) * g 20 ≤ 0 := d2 c19
  have c20 : (-1) * g 1 + 1 * g 20 ≤ 0 := d2 c20
  obtain ⟨a0, a1, a2, a3, a4, a5, a6, a7, a8, a9, a10, a11, a12, a13, a14, a15, a16, a17, a18, a19, a20, a21, a22, a23, a24, a25, a26, a27, a28, a29, a30, a31, a32, a33, a34, a35, a36, a37, a38, a39, a40, a41, a42, a43, a44, a45, a46, a47, a48, a49, a50, a51, a52, a53, a54, a55, a56, a57, a58, a59, a60, a61, a62, a63, a64, a65, a66, a67, a68, _⟩ := ha
  have n897 : τ 897 = none := a0
  have n882 : τ 882 = none := a1
  have n886 : τ 886 = none := a2
  have n887 : τ 887 = none := a3
  have n889 : τ 889 = none := a4
  have n891 : τ 891 = none := a5
  have n899 : τ 899 = none := a6
  have n905 : τ 905 = none := a7
  have n930 : τ 930 = none := a8
  have n931 : τ 931 = none := a9
  have n932 : τ 932 = none := a10
  have n933 : τ 933 = none := a11
  have n934 : τ 934 = none := a12
  have n935 : τ 935 = none := a13
  have n936 : τ 936 = none := a14
  have n937 : τ 937 = none := a15
  have n938 : τ 938 = none := a16
  have n939 : τ 939 = none := a17
  have n910 : τ 910 = none := a18
  have n911 : τ 911 = none := a19
  have n912 : τ 912 = none := a20
  have n913 : τ 913 = none := a21
  have n914 : τ 914 = none := a22
  have n915 : τ 915 = none := a23
  have n940 : τ 940 = none := a24
  have n941 : τ 941 = none := a25
  have n942 : τ 942 = none := a26
  have n943 : τ 943 = none := a27
  have n944 : τ 944 = none := a28
  have n945 : τ 945 = none := a29
  have n946 : τ 946 = none := a30
  have n947 : τ 947 = none := a31
  have n948 : τ 948 = none := a32
  have n949 : τ 949 = none := a33
  have n950 : τ 950 = none := a34
  have n951 : τ 951 = none := a35
  have n952 : τ 952 = none := a36
  have n953 : τ 953 = none := a37
  have n954 : τ 954 = none := a38
  have n955 : τ 955 = none := a39
  have n956 : τ 956 = none := a40
  have n957 : τ 957 = none := a41
  have n958 : τ 958 = none := a42
  have n959 : τ 959 = none := a43
  have n960 : τ 960 = none := a44
  have n961 : τ 961 = none := a45
  have n962 : τ 962 = none := a46
  have n963 : τ 963 = none := a47
  have n964 : τ 964 = none := a48
  have n965 : τ 965 = none := a49
  have n966 : τ 966 = none := a50
  have n967 : τ 967 = none := a51
  have n968 : τ 968 = none := a52
  have n969 : τ 969 = none := a53
  have n970 : τ 970 = none := a54
  have n971 : τ 971 = none := a55
  have n972 : τ 972 = none := a56
  have n973 : τ 973 = none := a57
  have n974 : τ 974 = none := a58
  have n920 : τ 920 = none := a59
  have n921 : τ 921 = none := a60
  have n922 : τ 922 = none := a61
  have n923 : τ 923 = none := a62
  have n924 : τ 924 = none := a63
  have n925 : τ 925 = none := a64
  have n926 : τ 926 = none := a65
  have n927 : τ 927 = none := a66
  have n928 : τ 928 = none := a67
  have n929 : τ 929 = none := a68
  obtain ⟨⟨h_p1, h_p2, h_td⟩, k_b, k_q, k_c, k_d, k_l, k_k, k_e, k_t, k_n, k_j⟩ := hS
  have k_c0 := k_c
  obtain ⟨h_ga, h_in, h_ls, h_ld, h_w, h_rd, h_lead, h_ps, h_E, h_up, h_D, h_Z, h_s, h_sp⟩ := k_c0
  have k_b0 := k_b
  obtain ⟨h_bit, h_one, h_or, h_and, h_shr, h_m1, h_m2, h_dv, h_r1, h_r2, h_nz⟩ := k_b0
  have qS : eGS m (wrM m 81 j x) := ⟨fun _ => rfl, fun _ => rfl, fun _ => rfl⟩
  have qL : eGL m (wrM m 81 j x) := fun _ => rfl
  have qK : eGK m (wrM m 81 j x) := ⟨fun _ => rfl, rfl⟩
  have qM : eGM m (wrM m 81 j x) := fun _ => rfl
  have qP : eGP m (wrM m 81 j x) := rfl
  have qC : eGC m (wrM m 81 j x) := fun _ => rfl
  have k_q := e_q qS qP k_q
  have k_d := e_d qS k_d
  have k_l := e_l qS qL k_l
  have k_k := e_k qS qK k_k
  have k_e := e_e qK qM k_e
  have k_t := e_t qK qP k_t
  have k_n := e_n qS k_n
  have k_j := e_j qS qC k_j
  exact ⟨⟨h_p1, h_p2, h_td⟩, ⟨h_bit, h_one, h_or, h_and, h_shr, fun _ _ _ e0 e1 e2 => no9 (o := none) rfl e0, fun _ _ _ e0 e1 e2 => no9 (o := none) rfl e0, fun _ _ _ e0 e1 e2 => no9 (o := none) rfl e0, h_r1, h_r2, fun _ e0 => no9 (o := none) rfl e0⟩, k_q, ⟨(fun qa qb A I e0 e1 e2 e3 => by
      have e0 : g 9 = qa := Option.some.inj (t871.symm.trans e0)
      subst e0
      have e1 : g 10 = qb := Option.some.inj (t872.symm.trans e1)
      subst e1
      have e2 : g 7 = A := Option.some.inj (t880.symm.trans e2)
      subst e2
      have e3 : g 8 = I := Option.some.inj (t881.symm.trans e3)
      subst e3
      exact ⟨(h_ga _ _ _ _ t871 t872 t880 t881).1, fun e8 _ => no9 e8 t892⟩), h_in, h_ls, fun _ _ _ _ _ _ e0 e1 e2 e3 e4 e5 => no9 n899 e4, h_w, fun _ _ e0 e1 => no9 n886 e1, fun _ _ _ e0 e1 e2 => no9 n887 e1, fun _ _ _ _ e0 e1 e2 e3 => no9 n886 e1, fun _ _ _ e0 e1 e2 => no9 n886 e1, (fun qa qb A I w Y N U V e0 e1 e2 e3 e4 e5 e6 e7 e8 => by
      have e0 : g 9 = qa := Option.some.inj (t871.symm.trans e0)
      subst e0
      have e1 : g 10 = qb := Option.some.inj (t872.symm.trans e1)
      subst e1
      have e2 : g 7 = A := Option.some.inj (t880.symm.trans e2)
      subst e2
      have e3 : g 8 = I := Option.some.inj (t881.symm.trans e3)
      subst e3
      have e4 : g 2 = w := Option.some.inj (t883.symm.trans e4)
      subst e4
      have e5 : g 3 = Y := Option.some.inj (t892.symm.trans e5)
      subst e5
      have e6 : g 4 = N := Option.some.inj (t893.symm.trans e6)
      subst e6
      have e7 : g 5 = U := Option.some.inj (t894.symm.trans e7)
      subst e7
      have e8 : g 6 + 1 = V := Option.some.inj e8
      subst e8
      show UpG (wrM m 81 j x) (τ 896) (τ 897) (PfG (wrM m 81 j x) (g 9) (g 10) (g 7) (g 8)) (g 2) (g 3) (g 4) (g 5) (g 6 + 1)
      obtain ⟨q, d9, B9, ⟨u1, uN, uY, uU, uV⟩, ⟨u2, u3⟩, u4, u5, u6, ⟨u7, u8⟩, u9⟩ := (h_up _ _ _ _ _ _ _ _ _ t871 t872 t880 t881 t883 t892 t893 t894 t895)
      have hm1 := h_m1 _ _ _ t850 t851 t852
      have hm2 := h_m2 _ _ _ t853 t854 t855
      have hdv := h_dv _ _ _ t856 t857 t858
      have ejl : jrl = (g 3).toNat := by omega
      have ejp : jrp = j := by omega
      have ejy : jy = j := by omega
      have ejd : jd = 7 := by omega
      subst ejl ejd
      rw [ejp] at vrp
      rw [ejy] at vy
      have eU : (g 5).toNat = 5 := by omega
      have h4 := u4 5 j (by omega) (by omega)
      rw [if_neg (by omega)] at h4
      have h4 := h4 (by omega)
      have hB : BGm m 5 j = m 81 j := by unfold BGm; rw [if_pos (by omega)]
      have a1 : g 14 = g 21 * g 23 := by rw [hm1, show g 12 = g 21 by omega, show g 13 = g 23 by omega]
      have a2 : g 17 = g 11 * g 22 := by rw [hm2, show g 15 = g 11 by omega, show g 16 = g 22 by omega]
      have a3 : g 20 = (g 21 * g 23 - g 11 * g 22).tdiv (g 25) := by rw [hdv, show g 19 = g 25 by omega, show g 18 = g 14 - g 17 by omega, a1, a2]
      have u6' := u6 _ t896
      rw [eU] at u6'
      have hx : x = nbG (g 4).toNat q d9 B9 (bvG (g 2)) (g 3).toNat 5 j := by
        unfold nbG
        rw [if_neg (by omega), ← u3 (g 3).toNat (by omega), ← u3 j (by omega), ← h4, ← u6', ← u8, hB, ← vrl, ← vy, ← vrp, ← vd, ← a3]; omega
      rw [PfG_e qS]
      refine ⟨q, d9, B9, ⟨u1, uN, uY, uU, by omega⟩, ⟨u2, u3⟩, fun r c hr hc => ?_, u5, u6, ⟨u7, u8⟩, ?_⟩
      · have h5 := u4 r c hr hc
        rw [BGm_w (r0 := 5) rfl (by omega) r c hc (by omega)]
        by_cases e : r = 5 ∧ c = j
        · rw [if_pos (by omega), if_pos e, e.1, e.2]; exact hx
        · rw [if_neg e]
          by_cases e2 : (r : Int) < g 5 ∨ ((r : Int) = g 5 ∧ (c : Int) < g 6)
          · rw [if_pos e2] at h5; rw [if_pos (by omega)]; exact h5
          · rw [if_neg e2] at h5; rw [if_neg (by omega)]; exact h5
      · rcases u9 with q9 | q9 | q9
        · exact Or.inl q9
        · rw [n897] at q9; cases q9.1
        · rw [n897] at q9; cases q9.1), fun _ _ _ _ _ e0 e1 e2 e3 e4 => no9 n899 e4, fun _ _ _ e0 e1 e2 => no9 n882 e2, fun _ _ e0 e1 => no9 n882 e0, fun _ _ _ e0 e1 e2 => no9 n905 e0⟩, k_d, k_l, k_k, k_e, k_t, k_n, k_j⟩
def wu_Bl5 : Ru := ([(7, (0, (0, (0, 0)))), (8, (0, (0, (0, 0)))), (0, (883, (0, (0, 0)))), (0, (892, (0, (0, 0)))), (0, (893, (0, (0, 0)))), (0, (894, (0, (0, 0)))), (0, (895, (0, (0, 0)))), (0, (880, (0, (0, 0)))), (0, (881, (0, (0, 0)))), (0, (871, (0, (0, 0)))), (0, (872, (0, (0, 0)))), (9, (97, (0, (1, 0))))], ([896, 897, 882, 886, 887, 889, 891, 899, 905, 930, 931, 932, 933, 934, 935, 936, 937, 938, 939, 910, 911, 912, 913, 914, 915, 940, 941, 942, 943, 944, 945, 946, 947, 948, 949, 950, 951, 952, 953, 954, 955, 956, 957, 958, 959, 960, 961, 962, 963, 964, 965, 966, 967, 968, 969, 970, 971, 972, 973, 974, 920, 921, 922, 923, 924, 925, 926, 927, 928, 929], ([([(5, 1)], 5), ([(5, (-1))], (-5)), ([(4, (-1)), (5, 1)], 0), ([(4, 1), (5, (-1))], 0), ([(0, 1), (6, (-1))], 0), ([(0, (-1)), (6, 1)], 0), ([(0, (-1))], 0), ([(0, 1)], 19), ([(1, 1), (11, (-1))], 0), ([(1, (-1)), (11, 1)], 0)], (false, ([], ([], ([(895, some (6, 1))], none)))))))
theorem wk_Bl5 : WrOk SGd 81 wu_Bl5 := by
  intro τ m g j x hi hc ha hS
  obtain ⟨i0, i1, i2, i3, i4, i5, i6, i7, i8, i9, i10, i11, _⟩ := hi
  have xp : g 0 = (j : Int) := i0
  have xv : g 1 = x := i1
  have t883 : τ 883 = some (g 2) := i2
  have t892 : τ 892 = some (g 3) := i3
  have t893 : τ 893 = some (g 4) := i4
  have t894 : τ 894 = some (g 5) := i5
  have t895 : τ 895 = some (g 6) := i6
  have t880 : τ 880 = some (g 7) := i7
  have t881 : τ 881 = some (g 8) := i8
  have t871 : τ 871 = some (g 9) := i9
  have t872 : τ 872 = some (g 10) := i10
  obtain ⟨jrp, urp, vrp⟩ : ∃ j : Nat, 1 * g 0 + 0 = (j : Int) ∧ g 11 = m 97 j := i11
  obtain ⟨c0, c1, c2, c3, c4, c5, c6, c7, c8, c9, _⟩ := hc
  have c0 : 1 * g 5 ≤ 5 := d1 c0
  have c1 : (-1) * g 5 ≤ (-5) := d1 c1
  have c2 : (-1) * g 4 + 1 * g 5 ≤ 0 := d2 c2
  have c3 : 1 * g 4 + (-1) * g 5 ≤ 0 := d2 c3
  have c4 : 1 * g 0 + (-1) * g 6 ≤ 0 := d2 c4
  have c5 : (-1) * g 0 + 1 * g 6 ≤ 0 := d2 c5
  have c6 : (-1) * g 0 ≤ 0 := d1 c6
  have c7 : 1 * g 0 ≤ 19 := d1 c7
  have c8 : 1 * g 1 + (-1) * g 11 ≤ 0 := d2 c8
  have c9 : (-1) * g 1 + 1 * g 11 ≤ 0 := d2 c9
  obtain ⟨a0, a1, a2, a3, a4, a5, a6, a7, a8, a9, a10, a11, a12, a13, a14, a15, a16, a17, a18, a19, a20, a21, a22, a23, a24, a25, a26, a27, a28, a29, a30, a31, a32, a33, a34, a35, a36, a37, a38, a39, a40, a41, a42, a43, a44, a45, a46, a47, a48, a49, a50, a51, a52, a53, a54, a55, a56, a57, a58, a59, a60, a61, a62, a63, a64, a65, a66, a67, a68, a69, _⟩ := ha
  have n896 : τ 896 = none := a0
  have n897 : τ 897 = none := a1
  have n882 : τ 882 = none := a2
  have n886 : τ 886 = none := a3
  have n887 : τ 887 = none := a4
  have n889 : τ 889 = none := a5
  have n891 : τ 891 = none := a6
  have n899 : τ 899 = none := a7
  have n905 : τ 905 = none := a8
  have n930 : τ 930 = none := a9
  have n931 : τ 931 = none := a10
  have n932 : τ 932 = none := a11
  have n933 : τ 933 = none := a12
  have n934 : τ 934 = none := a13
  have n935 : τ 935 = none := a14
  have n936 : τ 936 = none := a15
  have n937 : τ 937 = none := a16
  have n938 : τ 938 = none := a17
  have n939 : τ 939 = none := a18
  have n910 : τ 910 = none := a19
  have n911 : τ 911 = none := a20
  have n912 : τ 912 = none := a21
  have n913 : τ 913 = none := a22
  have n914 : τ 914 = none := a23
  have n915 : τ 915 = none := a24
  have n940 : τ 940 = none := a25
  have n941 : τ 941 = none := a26
  have n942 : τ 942 = none := a27
  have n943 : τ 943 = none := a28
  have n944 : τ 944 = none := a29
  have n945 : τ 945 = none := a30
  have n946 : τ 946 = none := a31
  have n947 : τ 947 = none := a32
  have n948 : τ 948 = none := a33
  have n949 : τ 949 = none := a34
  have n950 : τ 950 = none := a35
  have n951 : τ 951 = none := a36
  have n952 : τ 952 = none := a37
  have n953 : τ 953 = none := a38
  have n954 : τ 954 = none := a39
  have n955 : τ 955 = none := a40
  have n956 : τ 956 = none := a41
  have n957 : τ 957 = none := a42
  have n958 : τ 958 = none := a43
  have n959 : τ 959 = none := a44
  have n960 : τ 960 = none := a45
  have n961 : τ 961 = none := a46
  have n962 : τ 962 = none := a47
  have n963 : τ 963 = none := a48
  have n964 : τ 964 = none := a49
  have n965 : τ 965 = none := a50
  have n966 : τ 966 = none := a51
  have n967 : τ 967 = none := a52
  have n968 : τ 968 = none := a53
  have n969 : τ 969 = none := a54
  have n970 : τ 970 = none := a55
  have n971 : τ 971 = none := a56
  have n972 : τ 972 = none := a57
  have n973 : τ 973 = none := a58
  have n974 : τ 974 = none := a59
  have n920 : τ 920 = none := a60
  have n921 : τ 921 = none := a61
  have n922 : τ 922 = none := a62
  have n923 : τ 923 = none := a63
  have n924 : τ 924 = none := a64
  have n925 : τ 925 = none := a65
  have n926 : τ 926 = none := a66
  have n927 : τ 927 = none := a67
  have n928 : τ 928 = none := a68
  have n929 : τ 929 = none := a69
  obtain ⟨⟨h_p1, h_p2, h_td⟩, k_b, k_q, k_c, k_d, k_l, k_k, k_e, k_t, k_n, k_j⟩ := hS
  have k_c0 := k_c
  obtain ⟨h_ga, h_in, h_ls, h_ld, h_w, h_rd, h_lead, h_ps, h_E, h_up, h_D, h_Z, h_s, h_sp⟩ := k_c0
  have qS : eGS m (wrM m 81 j x) := ⟨fun _ => rfl, fun _ => rfl, fun _ => rfl⟩
  have qL : eGL m (wrM m 81 j x) := fun _ => rfl
  have qK : eGK m (wrM m 81 j x) := ⟨fun _ => rfl, rfl⟩
  have qM : eGM m (wrM m 81 j x) := fun _ => rfl
  have qP : eGP m (wrM m 81 j x) := rfl
  have qC : eGC m (wrM m 81 j x) := fun _ => rfl
  have k_q := e_q qS qP k_q
  have k_d := e_d qS k_d
  have k_l := e_l qS qL k_l
  have k_k := e_k qS qK k_k
  have k_e := e_e qK qM k_e
  have k_t := e_t qK qP k_t
  have k_n := e_n qS k_n
  have k_j := e_j qS qC k_j
  exact ⟨⟨h_p1, h_p2, h_td⟩, k_b, k_q, ⟨(fun qa qb A I e0 e1 e2 e3 => by
      have e0 : g 9 = qa := Option.some.inj (t871.symm.trans e0)
      subst e0
      have e1 : g 10 = qb := Option.some.inj (t872.symm.trans e1)
      subst e1
      have e2 : g 7 = A := Option.some.inj (t880.symm.trans e2)
      subst e2
      have e3 : g 8 = I := Option.some.inj (t881.symm.trans e3)
      subst e3
      exact ⟨(h_ga _ _ _ _ t871 t872 t880 t881).1, fun e8 _ => no9 e8 t892⟩), h_in, h_ls, fun _ _ _ _ _ _ e0 e1 e2 e3 e4 e5 => no9 n899 e4, h_w, fun _ _ e0 e1 => no9 n886 e1, fun _ _ _ e0 e1 e2 => no9 n887 e1, fun _ _ _ _ e0 e1 e2 e3 => no9 n886 e1, fun _ _ _ e0 e1 e2 => no9 n886 e1, (fun qa qb A I w Y N U V e0 e1 e2 e3 e4 e5 e6 e7 e8 => by
      have e0 : g 9 = qa := Option.some.inj (t871.symm.trans e0)
      subst e0
      have e1 : g 10 = qb := Option.some.inj (t872.symm.trans e1)
      subst e1
      have e2 : g 7 = A := Option.some.inj (t880.symm.trans e2)
      subst e2
      have e3 : g 8 = I := Option.some.inj (t881.symm.trans e3)
      subst e3
      have e4 : g 2 = w := Option.some.inj (t883.symm.trans e4)
      subst e4
      have e5 : g 3 = Y := Option.some.inj (t892.symm.trans e5)
      subst e5
      have e6 : g 4 = N := Option.some.inj (t893.symm.trans e6)
      subst e6
      have e7 : g 5 = U := Option.some.inj (t894.symm.trans e7)
      subst e7
      have e8 : g 6 + 1 = V := Option.some.inj e8
      subst e8
      show UpG (wrM m 81 j x) (τ 896) (τ 897) (PfG (wrM m 81 j x) (g 9) (g 10) (g 7) (g 8)) (g 2) (g 3) (g 4) (g 5) (g 6 + 1)
      obtain ⟨q, d9, B9, ⟨u1, uN, uY, uU, uV⟩, ⟨u2, u3⟩, u4, u5, u6, ⟨u7, u8⟩, u9⟩ := (h_up _ _ _ _ _ _ _ _ _ t871 t872 t880 t881 t883 t892 t893 t894 t895)
      have ejp : jrp = j := by omega
      have eN : (g 4).toNat = 5 := by omega
      have hx : x = nbG (g 4).toNat q d9 B9 (bvG (g 2)) (g 3).toNat 5 j := by
        unfold nbG
        rw [if_pos eN.symm, ← u3 j (by omega), ← ejp, ← vrp]; omega
      rw [PfG_e qS]
      refine ⟨q, d9, B9, ⟨u1, uN, uY, uU, by omega⟩, ⟨u2, u3⟩, fun r c hr hc => ?_, u5, u6, ⟨u7, u8⟩, ?_⟩
      · have h5 := u4 r c hr hc
        rw [BGm_w (r0 := 5) rfl (by omega) r c hc (by omega)]
        by_cases e : r = 5 ∧ c = j
        · rw [if_pos (by omega), if_pos e, e.1, e.2]; exact hx
        · rw [if_neg e]
          by_cases e2 : (r : Int) < g 5 ∨ ((r : Int) = g 5 ∧ (c : Int) < g 6)
          · rw [if_pos e2] at h5; rw [if_pos (by omega)]; exact h5
          · rw [if_neg e2] at h5; rw [if_neg (by omega)]; exact h5
      · rcases u9 with q9 | q9 | q9
        · exact Or.inl q9
        · rw [n897] at q9; cases q9.1
        · rw [n897] at q9; cases q9.1), fun _ _ _ _ _ e0 e1 e2 e3 e4 => no9 n899 e4, fun _ _ _ e0 e1 e2 => no9 n882 e2, fun _ _ e0 e1 => no9 n882 e0, fun _ _ _ e0 e1 e2 => no9 n905 e0⟩, k_d, k_l, k_k, k_e, k_t, k_n, k_j⟩
def wu_Bu6 : Ru := ([(7, (0, (0, (0, 0)))), (8, (0, (0, (0, 0)))), (0, (883, (0, (0, 0)))), (0, (892, (0, (0, 0)))), (0, (893, (0, (0, 0)))), (0, (894, (0, (0, 0)))), (0, (895, (0, (0, 0)))), (0, (880, (0, (0, 0)))), (0, (881, (0, (0, 0)))), (0, (871, (0, (0, 0)))), (0, (872, (0, (0, 0)))), (0, (896, (0, (0, 0)))), (0, (850, (0, (0, 0)))), (0, (851, (0, (0, 0)))), (0, (852, (0, (0, 0)))), (0, (853, (0, (0, 0)))), (0, (854, (0, (0, 0)))), (0, (855, (0, (0, 0)))), (0, (856, (0, (0, 0)))), (0, (857, (0, (0, 0)))), (0, (858, (0, (0, 0)))), (9, (97, (3, (1, 0)))), (9, (97, (0, (1, 0)))), (9, (82, (0, (1, 0)))), (4, (0, (0, (7, 0)))), (9, (1000, (24, (1, 0))))], ([897, 882, 886, 887, 889, 891, 899, 905, 930, 931, 932, 933, 934, 935, 936, 937, 938, 939, 910, 911, 912, 913, 914, 915, 940, 941, 942, 943, 944, 945, 946, 947, 948, 949, 950, 951, 952, 953, 954, 955, 956, 957, 958, 959, 960, 961, 962, 963, 964, 965, 966, 967, 968, 969, 970, 971, 972, 973, 974, 920, 921, 922, 923, 924, 925, 926, 927, 928, 929], ([([(5, 1)], 6), ([(5, (-1))], (-6)), ([(4, (-1)), (5, 1)], (-1)), ([(0, 1), (6, (-1))], 0), ([(0, (-1)), (6, 1)], 0), ([(0, (-1))], 0), ([(0, 1)], 19), ([(12, 1), (21, (-1))], 0), ([(12, (-1)), (21, 1)], 0), ([(13, 1), (23, (-1))], 0), ([(13, (-1)), (23, 1)], 0), ([(11, (-1)), (15, 1)], 0), ([(11, 1), (15, (-1))], 0), ([(16, 1), (22, (-1))], 0), ([(16, (-1)), (22, 1)], 0), ([(14, (-1)), (17, 1), (18, 1)], 0), ([(14, 1), (17, (-1)), (18, (-1))], 0), ([(19, 1), (25, (-1))], 0), ([(19, (-1)), (25, 1)], 0), ([(1, 1), (20, (-1))], 0), ([(1, (-1)), (20, 1)], 0)], (false, ([], ([], ([(895, some (6, 1)), (850, none), (851, none), (852, none), (853, none), (854, none), (855, none), (856, none), (857, none), (858, none), (869, none)], none)))))))
theorem wk_Bu6 : WrOk SGd 82 wu_Bu6 := by
  intro τ m g j x hi hc ha hS
  obtain ⟨i0, i1, i2, i3, i4, i5, i6, i7, i8, i9, i10, i11, i12, i13, i14, i15, i16, i17, i18, i19, i20, i21, i22, i23, i24, i25, _⟩ := hi
  have xp : g 0 = (j : Int) := i0
  have xv : g 1 = x := i1
  have t883 : τ 883 = some (g 2) := i2
  have t892 : τ 892 = some (g 3) := i3
  have t893 : τ 893 = some (g 4) := i4
  have t894 : τ 894 = some (g 5) := i5
  have t895 : τ 895 = some (g 6) := i6
  have t880 : τ 880 = some (g 7) := i7
  have t881 : τ 881 = some (g 8) := i8
  have t871 : τ 871 = some (g 9) := i9
  have t872 : τ 872 = some (g 10) := i10
  have t896 : τ 896 = some (g 11) := i11
  have t850 : τ 850 = some (g 12) := i12
  have t851 : τ 851 = some (g 13) := i13
  have t852 : τ 852 = some (g 14) := i14
  have t853 : τ 853 = some (g 15) := i15
  have t854 : τ 854 = some (g 16) := i16
  have t855 : τ 855 = some (g 17) := i17
  have t856 : τ 856 = some (g 18) := i18
  have t857 : τ 857 = some (g 19) := i19
  have t858 : τ 858 = some (g 20) := i20
  obtain ⟨jrl, url, vrl⟩ : ∃ j : Nat, 1 * g 3 + 0 = (j : Int) ∧ g 21 = m 97 j := i21
  obtain ⟨jrp, urp, vrp⟩ : ∃ j : Nat, 1 * g 0 + 0 = (j : Int) ∧ g 22 = m 97 j := i22
  obtain ⟨jy, uy, vy⟩ : ∃ j : Nat, 1 * g 0 + 0 = (j : Int) ∧ g 23 = m 82 j := i23
  have xjc : g 24 = 7 := i24
  obtain ⟨jd, ud, vd⟩ : ∃ j : Nat, 1 * g 24 + 0 = (j : Int) ∧ g 25 = m 1000 j := i25
  obtain ⟨c0, c1, c2, c3, c4, c5, c6, c7, c8, c9, c10, c11, c12, c13, c14, c15, c16, c17, c18, c19, c20, _⟩ := hc
  have c0 : 1 * g 5 ≤ 6 := d1 c0
  have c1 : (-1) * g 5 ≤ (-6) := d1 c1
  have c2 : (-1) * g 4 + 1 * g 5 ≤ (-1) := d2 c2
  have c3 : 1 * g 0 + (-1) * g 6 ≤ 0 := d2 c3
  have c4 : (-1) * g 0 + 1 * g 6 ≤ 0 := d2 c4
  have c5 : (-1) * g 0 ≤ 0 := d1 c5
  have c6 : 1 * g 0 ≤ 19 := d1 c6
  have c7 : 1 * g 12 + (-1) * g 21 ≤ 0 := d2 c7
  have c8 : (-1) * g 12 + 1 * g 21 ≤ 0 := d2 c8
  have c9 : 1 * g 13 + (-1) * g 23 ≤ 0 := d2 c9
  have c10 : (-1) * g 13 + 1 * g 23 ≤ 0 := d2 c10
  have c11 : (-1) * g 11 + 1 * g 15 ≤ 0 := d2 c11
  have c12 : 1 * g 11 + (-1) * g 15 ≤ 0 := d2 c12
  have c13 : 1 * g 16 + (-1) * g 22 ≤ 0 := d2 c13
  have c14 : (-1) * g 16 + 1 * g 22 ≤ 0 := d2 c14
  have c15 : (-1) * g 14 + 1 * g 17 + 1 * g 18 ≤ 0 := d3 c15
  have c16 : 1 * g 14 + (-1) * g 17 + (-1) * g 18 ≤ 0 := d3 c16
  have c17 : 1 * g 19 + (-1) * g 25 ≤ 0 := d2 c17
  have c18 : (-1) * g 19 + 1 * g 25 ≤ 0 := d2 c18
  have c19 : 1 * g 1 + (-1) * g 20 ≤ 0 := d2 c19
  have c20 : (-1) * g 1 + 1 * g 20 ≤ 0 := d2 c20
  obtain ⟨a0, a1, a2, a3, a4, a5, a6, a7, a8, a9, a10, a11, a12, a13, a14, a15, a16, a17, a18, a19, a20, a21, a22, a23, a24, a25, a26, a27, a28, a29, a30, a31, a32, a33, a34, a35, a36, a37, a38, a39, a40, a41, a42, a43, a44, a45, a46, a47, a48, a49, a50, a51, a52, a53, a54, a55, a56, a57, a58, a59, a60, a61, a62, a63, a64, a65, a66, a67, a68, _⟩ := ha
  have n897 : τ 897 = none := a0
  have n882 : τ 882 = none := a1
  have n886 : τ 886 = none := a2
  have n887 : τ 887 = none := a3
  have n889 : τ 889 = none := a4
  have n891 : τ 891 = none := a5
  have n899 : τ 899 = none := a6
  have n905 : τ 905 = none := a7
  have n930 : τ 930 = none := a8
  have n931 : τ 931 = none := a9
  have n932 : τ 932 = none := a10
  have n933 : τ 933 = none := a11
  have n934 : τ 934 = none := a12
  have n935 : τ 935 = none := a13
  have n936 : τ 936 = none := a14
  have n937 : τ 937 = none := a15
  have n938 : τ 938 = none := a16
  have n939 : τ 939 = none := a17
  have n910 : τ 910 = none := a18
  have n911 : τ 911 = none := a19
  have n912 : τ 912 = none := a20
  have n913 : τ 913 = none := a21
  have n914 : τ 914 = none := a22
  have n915 : τ 915 = none := a23
  have n940 : τ 940 = none := a24
  have n941 : τ 941 = none := a25
  have n942 : τ 942 = none := a26
  have n943 : τ 943 = none := a27
  have n944 : τ 944 = none := a28
  have n945 : τ 945 = none := a29
  have n946 : τ 946 = none := a30
  have n947 : τ 947 = none := a31
  have n948 : τ 948 = none := a32
  have n949 : τ 949 = none := a33
  have n950 : τ 950 = none := a34
  have n951 : τ 951 = none := a35
  have n952 : τ 952 = none := a36
  have n953 : τ 953 = none := a37
  have n954 : τ 954 = none := a38
  have n955 : τ 955 = none := a39
  have n956 : τ 956 = none := a40
  have n957 : τ 957 = none := a41
  have n958 : τ 958 = none := a42
  have n959 : τ 959 = none := a43
  have n960 : τ 960 = none := a44
  have n961 : τ 961 = none := a45
  have n962 : τ 962 = none := a46
  have n963 : τ 963 = none := a47
  have n964 : τ 964 = none := a48
  have n965 : τ 965 = none := a49
  have n966 : τ 966 = none := a50
  have n967 : τ 967 = none := a51
  have n968 : τ 968 = none := a52
  have n969 : τ 969 = none := a53
  have n970 : τ 970 = none := a54
  have n971 : τ 971 = none := a55
  have n972 : τ 972 = none := a56
  have n973 : τ 973 = none := a57
  have n974 : τ 974 = none := a58
  have n920 : τ 920 = none := a59
  have n921 : τ 921 = none := a60
  have n922 : τ 922 = none := a61
  have n923 : τ 923 = none := a62
  have n924 : τ 924 = none := a63
  have n925 : τ 925 = none := a64
  have n926 : τ 926 = none := a65
  have n927 : τ 927 = none := a66
  have n928 : τ 928 = none := a67
  have n929 : τ 929 = none := a68
  obtain ⟨⟨h_p1, h_p2, h_td⟩, k_b, k_q, k_c, k_d, k_l, k_k, k_e, k_t, k_n, k_j⟩ := hS
  have k_c0 := k_c
  obtain ⟨h_ga, h_in, h_ls, h_ld, h_w, h_rd, h_lead, h_ps, h_E, h_up, h_D, h_Z, h_s, h_sp⟩ := k_c0
  have k_b0 := k_b
  obtain ⟨h_bit, h_one, h_or, h_and, h_shr, h_m1, h_m2, h_dv, h_r1, h_r2, h_nz⟩ := k_b0
  have qS : eGS m (wrM m 82 j x) := ⟨fun _ => rfl, fun _ => rfl, fun _ => rfl⟩
  have qL : eGL m (wrM m 82 j x) := fun _ => rfl
  have qK : eGK m (wrM m 82 j x) := ⟨fun _ => rfl, rfl⟩
  have qM : eGM m (wrM m 82 j x) := fun _ => rfl
  have qP : eGP m (wrM m 82 j x) := rfl
  have qC : eGC m (wrM m 82 j x) := fun _ => rfl
  have k_q := e_q qS qP k_q
  have k_d := e_d qS k_d
  have k_l := e_l qS qL k_l
  have k_k := e_k qS qK k_k
  have k_e := e_e qK qM k_e
  have k_t := e_t qK qP k_t
  have k_n := e_n qS k_n
  have k_j := e_j qS qC k_j
  exact ⟨⟨h_p1, h_p2, h_td⟩, ⟨h_bit, h_one, h_or, h_and, h_shr, fun _ _ _ e0 e1 e2 => no9 (o := none) rfl e0, fun _ _ _ e0 e1 e2 => no9 (o := none) rfl e0, fun _ _ _ e0 e1 e2 => no9 (o := none) rfl e0, h_r1, h_r2, fun _ e0 => no9 (o := none) rfl e0⟩, k_q, ⟨(fun qa qb A I e0 e1 e2 e3 => by
      have e0 : g 9 = qa := Option.some.inj (t871.symm.trans e0)
      subst e0
      have e1 : g 10 = qb := Option.some.inj (t872.symm.trans e1)
      subst e1
      have e2 : g 7 = A := Option.some.inj (t880.symm.trans e2)
      subst e2
      have e3 : g 8 = I := Option.some.inj (t881.symm.trans e3)
      subst e3
      exact ⟨(h_ga _ _ _ _ t871 t872 t880 t881).1, fun e8 _ => no9 e8 t892⟩), h_in, h_ls, fun _ _ _ _ _ _ e0 e1 e2 e3 e4 e5 => no9 n899 e4, h_w, fun _ _ e0 e1 => no9 n886 e1, fun _ _ _ e0 e1 e2 => no9 n887 e1, fun _ _ _ _ e0 e1 e2 e3 => no9 n886 e1, fun _ _ _ e0 e1 e2 => no9 n886 e1, (fun qa qb A I w Y N U V e0 e1 e2 e3 e4 e5 e6 e7 e8 => by
      have e0 : g 9 = qa := Option.some.inj (t871.symm.trans e0)
      subst e0
      have e1 : g 10 = qb := Option.some.inj (t872.symm.trans e1)
      subst e1
      have e2 : g 7 = A := Option.some.inj (t880.symm.trans e2)
      subst e2
      have e3 : g 8 = I := Option.some.inj (t881.symm.trans e3)
      subst e3
      have e4 : g 2 = w := Option.some.inj (t883.symm.trans e4)
      subst e4
      have e5 : g 3 = Y := Option.some.inj (t892.symm.trans e5)
      subst e5
      have e6 : g 4 = N := Option.some.inj (t893.symm.trans e6)
      subst e6
      have e7 : g 5 = U := Option.some.inj (t894.symm.trans e7)
      subst e7
      have e8 : g 6 + 1 = V := Option.some.inj e8
      subst e8
      show UpG (wrM m 82 j x) (τ 896) (τ 897) (PfG (wrM m 82 j x) (g 9) (g 10) (g 7) (g 8)) (g 2) (g 3) (g 4) (g 5) (g 6 + 1)
      obtain ⟨q, d9, B9, ⟨u1, uN, uY, uU, uV⟩, ⟨u2, u3⟩, u4, u5, u6, ⟨u7, u8⟩, u9⟩ := (h_up _ _ _ _ _ _ _ _ _ t871 t872 t880 t881 t883 t892 t893 t894 t895)
      have hm1 := h_m1 _ _ _ t850 t851 t852
      have hm2 := h_m2 _ _ _ t853 t854 t855
      have hdv := h_dv _ _ _ t856 t857 t858
      have ejl : jrl = (g 3).toNat := by omega
      have ejp : jrp = j := by omega
      have ejy : jy = j := by omega
      have ejd : jd = 7 := by omega
      subst ejl ejd
      rw [ejp] at vrp
      rw [ejy] at vy
      have eU : (g 5).toNat = 6 := by omega
      have h4 := u4 6 j (by omega) (by omega)
      rw [if_neg (by omega)] at h4
      have h4 := h4 (by omega)
      have hB : BGm m 6 j = m 82 j := by unfold BGm; rw [if_pos (by omega)]
      have a1 : g 14 = g 21 * g 23 := by rw [hm1, show g 12 = g 21 by omega, show g 13 = g 23 by omega]
      have a2 : g 17 = g 11 * g 22 := by rw [hm2, show g 15 = g 11 by omega, show g 16 = g 22 by omega]
      have a3 : g 20 = (g 21 * g 23 - g 11 * g 22).tdiv (g 25) := by rw [hdv, show g 19 = g 25 by omega, show g 18 = g 14 - g 17 by omega, a1, a2]
      have u6' := u6 _ t896
      rw [eU] at u6'
      have hx : x = nbG (g 4).toNat q d9 B9 (bvG (g 2)) (g 3).toNat 6 j := by
        unfold nbG
        rw [if_neg (by omega), ← u3 (g 3).toNat (by omega), ← u3 j (by omega), ← h4, ← u6', ← u8, hB, ← vrl, ← vy, ← vrp, ← vd, ← a3]; omega
      rw [PfG_e qS]
      refine ⟨q, d9, B9, ⟨u1, uN, uY, uU, by omega⟩, ⟨u2, u3⟩, fun r c hr hc => ?_, u5, u6, ⟨u7, u8⟩, ?_⟩
      · have h5 := u4 r c hr hc
        rw [BGm_w (r0 := 6) rfl (by omega) r c hc (by omega)]
        by_cases e : r = 6 ∧ c = j
        · rw [if_pos (by omega), if_pos e, e.1, e.2]; exact hx
        · rw [if_neg e]
          by_cases e2 : (r : Int) < g 5 ∨ ((r : Int) = g 5 ∧ (c : Int) < g 6)
          · rw [if_pos e2] at h5; rw [if_pos (by omega)]; exact h5
          · rw [if_neg e2] at h5; rw [if_neg (by omega)]; exact h5
      · rcases u9 with q9 | q9 | q9
        · exact Or.inl q9
        · rw [n897] at q9; cases q9.1
        · rw [n897] at q9; cases q9.1), fun _ _ _ _ _ e0 e1 e2 e3 e4 => no9 n899 e4, fun _ _ _ e0 e1 e2 => no9 n882 e2, fun _ _ e0 e1 => no9 n882 e0, fun _ _ _ e0 e1 e2 => no9 n905 e0⟩, k_d, k_l, k_k, k_e, k_t, k_n, k_j⟩
def wu_Bl6 : Ru := ([(7, (0, (0, (0, 0)))), (8, (0, (0, (0, 0)))), (0, (883, (0, (0, 0)))), (0, (892, (0, (0, 0)))), (0, (893, (0, (0, 0)))), (0, (894, (0, (0, 0)))), (0, (895, (0, (0, 0)))), (0, (880, (0, (0, 0)))), (0, (881, (0, (0, 0)))), (0, (871, (0, (0, 0)))), (0, (872, (0, (0, 0)))), (9, (97, (0, (1, 0))))], ([896, 897, 882, 886, 887, 889, 891, 899, 905, 930, 931, 932, 933, 934, 935, 936, 937, 938, 939, 910, 911, 912, 913, 914, 915, 940, 941, 942, 943, 944, 945, 946, 947, 948, 949, 950, 951, 952, 953, 954, 955, 956, 957, 958, 959, 960, 961, 962, 963, 964, 965, 966, 967, 968, 969, 970, 971, 972, 973, 974, 920, 921, 922, 923, 924, 925, 926, 927, 928, 929], ([([(5, 1)], 6), ([(5, (-1))], (-6)), ([(4, (-1)), (5, 1)], 0), ([(4, 1), (5, (-1))], 0), ([(0, 1), (6, (-1))], 0), ([(0, (-1)), (6, 1)], 0), ([(0, (-1))], 0), ([(0, 1)], 19), ([(1, 1), (11, (-1))], 0), ([(1, (-1)), (11, 1)], 0)], (false, ([], ([], ([(895, some (6, 1))], none)))))))
theorem wk_Bl6 : WrOk SGd 82 wu_Bl6 := by
  intro τ m g j x hi hc ha hS
  obtain ⟨i0, i1, i2, i3, i4, i5, i6, i7, i8, i9, i10, i11, _⟩ := hi
  have xp : g 0 = (j : Int) := i0
  have xv : g 1 = x := i1
  have t883 : τ 883 = some (g 2) := i2
  have t892 : τ 892 = some (g 3) := i3
  have t893 : τ 893 = some (g 4) := i4
  have t894 : τ 894 = some (g 5) := i5
  have t895 : τ 895 = some (g 6) := i6
  have t880 : τ 880 = some (g 7) := i7
  have t881 : τ 881 = some (g 8) := i8
  have t871 : τ 871 = some (g 9) := i9
  have t872 : τ 872 = some (g 10) := i10
  obtain ⟨jrp, urp, vrp⟩ : ∃ j : Nat, 1 * g 0 + 0 = (j : Int) ∧ g 11 = m 97 j := i11
  obtain ⟨c0, c1, c2, c3, c4, c5, c6, c7, c8, c9, _⟩ := hc
  have c0 : 1 * g 5 ≤ 6 := d1 c0
  have c1 : (-1) * g 5 ≤ (-6) := d1 c1
  have c2 : (-1) * g 4 + 1 * g 5 ≤ 0 := d2 c2
  have c3 : 1 * g 4 + (-1) * g 5 ≤ 0 := d2 c3
  have c4 : 1 * g 0 + (-1) * g 6 ≤ 0 := d2 c4
  have c5 : (-1) * g 0 + 1 * g 6 ≤ 0 := d2 c5
  have c6 : (-1) * g 0 ≤ 0 := d1 c6
  have c7 : 1 * g 0 ≤ 19 := d1 c7
  have c8 : 1 * g 1 + (-1) * g 11 ≤ 0 := d2 c8
  have c9 : (-1) * g 1 + 1 * g 11 ≤ 0 := d2 c9
  obtain ⟨a0, a1, a2, a3, a4, a5, a6, a7, a8, a9, a10, a11, a12, a13, a14, a15, a16, a17, a18, a19, a20, a21, a22, a23, a24, a25, a26, a27, a28, a29, a30, a31, a32, a33, a34, a35, a36, a37, a38, a39, a40, a41, a42, a43, a44, a45, a46, a47, a48, a49, a50, a51, a52, a53, a54, a55, a56, a57, a58, a59, a60, a61, a62, a63, a64, a65, a66, a67, a68, a69, _⟩ := ha
  have n896 : τ 896 = none := a0
  have n897 : τ 897 = none := a1
  have n882 : τ 882 = none := a2
  have n886 : τ 886 = none := a3
  have n887 : τ 887 = none := a4
  have n889 : τ 889 = none := a5
  have n891 : τ 891 = none := a6
  have n899 : τ 899 = none := a7
  have n905 : τ 905 = none := a8
  have n930 : τ 930 = none := a9
  have n931 : τ 931 = none := a10
  have n932 : τ 932 = none := a11
  have n933 : τ 933 = none := a12
  have n934 : τ 934 = none := a13
  have n935 : τ 935 = none := a14
  have n936 : τ 936 = none := a15
  have n937 : τ 937 = none := a16
  have n938 : τ 938 = none := a17
  have n939 : τ 939 = none := a18
  have n910 : τ 910 = none := a19
  have n911 : τ 911 = none := a20
  have n912 : τ 912 = none := a21
  have n913 : τ 913 = none := a22
  have n914 : τ 914 = none := a23
  have n915 : τ 915 = none := a24
  have n940 : τ 940 = none := a25
  have n941 : τ 941 = none := a26
  have n942 : τ 942 = none := a27
  have n943 : τ 943 = none := a28
  have n944 : τ 944 = none := a29
  have n945 : τ 945 = none := a30
  have n946 : τ 946 = none := a31
  have n947 : τ 947 = none := a32
  have n948 : τ 948 = none := a33
  have n949 : τ 949 = none := a34
  have n950 : τ 950 = none := a35
  have n951 : τ 951 = none := a36
  have n952 : τ 952 = none := a37
  have n953 : τ 953 = none := a38
  have n954 : τ 954 = none := a39
  have n955 : τ 955 = none := a40
  have n956 : τ 956 = none := a41
  have n957 : τ 957 = none := a42
  have n958 : τ 958 = none := a43
  have n959 : τ 959 = none := a44
  have n960 : τ 960 = none := a45
  have n961 : τ 961 = none := a46
  have n962 : τ 962 = none := a47
  have n963 : τ 963 = none := a48
  have n964 : τ 964 = none := a49
  have n965 : τ 965 = none := a50
  have n966 : τ 966 = none := a51
  have n967 : τ 967 = none := a52
  have n968 : τ 968 = none := a53
  have n969 : τ 969 = none := a54
  have n970 : τ 970 = none := a55
  have n971 : τ 971 = none := a56
  have n972 : τ 972 = none := a57
  have n973 : τ 973 = none := a58
  have n974 : τ 974 = none := a59
  have n920 : τ 920 = none := a60
  have n921 : τ 921 = none := a61
  have n922 : τ 922 = none := a62
  have n923 : τ 923 = none := a63
  have n924 : τ 924 = none := a64
  have n925 : τ 925 = none := a65
  have n926 : τ 926 = none := a66
  have n927 : τ 927 = none := a67
  have n928 : τ 928 = none := a68
  have n929 : τ 929 = none := a69
  obtain ⟨⟨h_p1, h_p2, h_td⟩, k_b, k_q, k_c, k_d, k_l, k_k, k_e, k_t, k_n, k_j⟩ := hS
  have k_c0 := k_c
  obtain ⟨h_ga, h_in, h_ls, h_ld, h_w, h_rd, h_lead, h_ps, h_E, h_up, h_D, h_Z, h_s, h_sp⟩ := k_c0
  have qS : eGS m (wrM m 82 j x) := ⟨fun _ => rfl, fun _ => rfl, fun _ => rfl⟩
  have qL : eGL m (wrM m 82 j x) := fun _ => rfl
  have qK : eGK m (wrM m 82 j x) := ⟨fun _ => rfl, rfl⟩
  have qM : eGM m (wrM m 82 j x) := fun _ => rfl
  have qP : eGP m (wrM m 82 j x) := rfl
  have qC : eGC m (wrM m 82 j x) := fun _ => rfl
  have k_q := e_q qS qP k_q
  have k_d := e_d qS k_d
  have k_l := e_l qS qL k_l
  have k_k := e_k qS qK k_k
  have k_e := e_e qK qM k_e
  have k_t := e_t qK qP k_t
  have k_n := e_n qS k_n
  have k_j := e_j qS qC k_j
  exact ⟨⟨h_p1, h_p2, h_td⟩, k_b, k_q, ⟨(fun qa qb A I e0 e1 e2 e3 => by
      have e0 : g 9 = qa := Option.some.inj (t871.symm.trans e0)
      subst e0
      have e1 : g 10 = qb := Option.some.inj (t872.symm.trans e1)
      subst e1
      have e2 : g 7 = A := Option.some.inj (t880.symm.trans e2)
      subst e2
      have e3 : g 8 = I := Option.some.inj (t881.symm.trans e3)
      subst e3
      exact ⟨(h_ga _ _ _ _ t871 t872 t880 t881).1, fun e8 _ => no9 e8 t892⟩), h_in, h_ls, fun _ _ _ _ _ _ e0 e1 e2 e3 e4 e5 => no9 n899 e4, h_w, fun _ _ e0 e1 => no9 n886 e1, fun _ _ _ e0 e1 e2 => no9 n887 e1, fun _ _ _ _ e0 e1 e2 e3 => no9 n886 e1, fun _ _ _ e0 e1 e2 => no9 n886 e1, (fun qa qb A I w Y N U V e0 e1 e2 e3 e4 e5 e6 e7 e8 => by
      have e0 : g 9 = qa := Option.some.inj (t871.symm.trans e0)
      subst e0
      have e1 : g 10 = qb := Option.some.inj (t872.symm.trans e1)
      subst e1
      have e2 : g 7 = A := Option.some.inj (t880.symm.trans e2)
      subst e2
      have e3 : g 8 = I := Option.some.inj (t881.symm.trans e3)
      subst e3
      have e4 : g 2 = w := Option.some.inj (t883.symm.trans e4)
      subst e4
      have e5 : g 3 = Y := Option.some.inj (t892.symm.trans e5)
      subst e5
      have e6 : g 4 = N := Option.some.inj (t893.symm.trans e6)
      subst e6
      have e7 : g 5 = U := Option.some.inj (t894.symm.trans e7)
      subst e7
      have e8 : g 6 + 1 = V := Option.some.inj e8
      subst e8
      show UpG (wrM m 82 j x) (τ 896) (τ 897) (PfG (wrM m 82 j x) (g 9) (g 10) (g 7) (g 8)) (g 2) (g 3) (g 4) (g 5) (g 6 + 1)
      obtain ⟨q, d9, B9, ⟨u1, uN, uY, uU, uV⟩, ⟨u2, u3⟩, u4, u5, u6, ⟨u7, u8⟩, u9⟩ := (h_up _ _ _ _ _ _ _ _ _ t871 t872 t880 t881 t883 t892 t893 t894 t895)
      have ejp : jrp = j := by omega
      have eN : (g 4).toNat = 6 := by omega
      have hx : x = nbG (g 4).toNat q d9 B9 (bvG (g 2)) (g 3).toNat 6 j := by
        unfold nbG
        rw [if_pos eN.symm, ← u3 j (by omega), ← ejp, ← vrp]; omega
      rw [PfG_e qS]
      refine ⟨q, d9, B9, ⟨u1, uN, uY, uU, by omega⟩, ⟨u2, u3⟩, fun r c hr hc => ?_, u5, u6, ⟨u7, u8⟩, ?_⟩
      · have h5 := u4 r c hr hc
        rw [BGm_w (r0 := 6) rfl (by omega) r c hc (by omega)]
        by_cases e : r = 6 ∧ c = j
        · rw [if_pos (by omega), if_pos e, e.1, e.2]; exact hx
        · rw [if_neg e]
          by_cases e2 : (r : Int) < g 5 ∨ ((r : Int) = g 5 ∧ (c : Int) < g 6)
          · rw [if_pos e2] at h5; rw [if_pos (by omega)]; exact h5
          · rw [if_neg e2] at h5; rw [if_neg (by omega)]; exact h5
      · rcases u9 with q9 | q9 | q9
        · exact Or.inl q9
        · rw [n897] at q9; cases q9.1
        · rw [n897] at q9; cases q9.1), fun _ _ _ _ _ e0 e1 e2 e3 e4 => no9 n899 e4, fun _ _ _ e0 e1 e2 => no9 n882 e2, fun _ _ e0 e1 => no9 n882 e0, fun _ _ _ e0 e1 e2 => no9 n905 e0⟩, k_d, k_l, k_k, k_e, k_t, k_n, k_j⟩
def wu_Bu7 : Ru := ([(7, (0, (0, (0, 0)))), (8, (0, (0, (0, 0)))), (0, (883, (0, (0, 0)))), (0, (892, (0, (0, 0)))), (0, (893, (0, (0, 0)))), (0, (894, (0, (0, 0)))), (0, (895, (0, (0, 0)))), (0, (880, (0, (0, 0)))), (0, (881, (0, (0, 0)))), (0, (871, (0, (0, 0)))), (0, (872, (0, (0, 0)))), (0, (896, (0, (0, 0)))), (0, (850, (0, (0, 0)))), (0, (851, (0, (0, 0)))), (0, (852, (0, (0, 0)))), (0, (853, (0, (0, 0)))), (0, (854, (0, (0, 0)))), (0, (855, (0, (0, 0)))), (0, (856, (0, (0, 0)))), (0, (857, (0, (0, 0)))), (0, (858, (0, (0, 0)))), (9, (97, (3, (1, 0)))), (9, (97, (0, (1, 0)))), (9, (83, (0, (1, 0)))), (4, (0, (0, (7, 0)))), (9, (1000, (24, (1, 0))))], ([897, 882, 886, 887, 889, 891, 899, 905, 930, 931, 932, 933, 934, 935, 936, 937, 938, 939, 910, 911, 912, 913, 914, 915, 940, 941, 942, 943, 944, 945, 946, 947, 948, 949, 950, 951, 952, 953, 954, 955, 956, 957, 958, 959, 960, 961, 962, 963, 964, 965, 966, 967, 968, 969, 970, 971, 972, 973, 974, 920, 921, 922, 923, 924, 925, 926, 927, 928, 929], ([([(5, 1)], 7), ([(5, (-1))], (-7)), ([(4, (-1)), (5, 1)], (-1)), ([(0, 1), (6, (-1))], 0), ([(0, (-1)), (6, 1)], 0), ([(0, (-1))], 0), ([(0, 1)], 19), ([(12, 1), (21, (-1))], 0), ([(12, (-1)), (21, 1)], 0), ([(13, 1), (23, (-1))], 0), ([(13, (-1)), (23, 1)], 0), ([(11, (-1)), (15, 1)], 0), ([(11, 1), (15, (-1))], 0), ([(16, 1), (22, (-1))], 0), ([(16, (-1)), (22, 1)], 0), ([(14, (-1)), (17, 1), (18, 1)], 0), ([(14, 1), (17, (-1)), (18, (-1))], 0), ([(19, 1), (25, (-1))], 0), ([(19, (-1)), (25, 1)], 0), ([(1, 1), (20, (-1))], 0), ([(1, (-1)), (20, 1)], 0)], (false, ([], ([], ([(895, some (6, 1)), (850, none), (851, none), (852, none), (853, none), (854, none), (855, none), (856, none), (857, none), (858, none), (869, none)], none)))))))
theorem wk_Bu7 : WrOk SGd 83 wu_Bu7 := by
  intro τ m g j x hi hc ha hS
  obtain ⟨i0, i1, i2, i3, i4, i5, i6, i7, i8, i9, i10, i11, i12, i13, i14, i15, i16, i17, i18, i19, i20, i21, i22, i23, i24, i25, _⟩ := hi
  have xp : g 0 = (j : Int) := i0
  have xv : g 1 = x := i1
  have t883 : τ 883 = some (g 2) := i2
  have t892 : τ 892 = some (g 3) := i3
  have t893 : τ 893 = some (g 4) := i4
  have t894 : τ 894 = some (g 5) := i5
  have t895 : τ 895 = some (g 6) := i6
  have t880 : τ 880 = some (g 7) := i7
  have t881 : τ 881 = some (g 8) := i8
  have t871 : τ 871 = some (g 9) := i9
  have t872 : τ 872 = some (g 10) := i10
  have t896 : τ 896 = some (g 11) := i11
  have t850 : τ 850 = some (g 12) := i12
  have t851 : τ 851 = some (g 13) := i13
  have t852 : τ 852 = some (g 14) := i14
  have t853 : τ 853 = some (g 15) := i15
  have t854 : τ 854 = some (g 16) := i16
  have t855 : τ 855 = some (g 17) := i17
  have t856 : τ 856 = some (g 18) := i18
  have t857 : τ 857 = some (g 19) := i19
  have t858 : τ 858 = some (g 20) := i20
  obtain ⟨jrl, url, vrl⟩ : ∃ j : Nat, 1 * g 3 + 0 = (j : Int) ∧ g 21 = m 97 j := i21
  obtain ⟨jrp, urp, vrp⟩ : ∃ j : Nat, 1 * g 0 + 0 = (j : Int) ∧ g 22 = m 97 j := i22
  obtain ⟨jy, uy, vy⟩ : ∃ j : Nat, 1 * g 0 + 0 = (j : Int) ∧ g 23 = m 83 j := i23
  have xjc : g 24 = 7 := i24
  obtain ⟨jd, ud, vd⟩ : ∃ j : Nat, 1 * g 24 + 0 = (j : Int) ∧ g 25 = m 1000 j := i25
  obtain ⟨c0, c1, c2, c3, c4, c5, c6, c7, c8, c9, c10, c11, c12, c13, c14, c15, c16, c17, c18, c19, c20, _⟩ := hc
  have c0 : 1 * g 5 ≤ 7 := d1 c0
  have c1 : (-1) * g 5 ≤ (-7) := d1 c1
  have c2 : (-1) * g 4 + 1 * g 5 ≤ (-1) := d2 c2
  have c3 : 1 * g 0 + (-1) * g 6 ≤ 0 := d2 c3
  have c4 : (-1) * g 0 + 1 * g 6 ≤ 0 := d2 c4
  have c5 : (-1) * g 0 ≤ 0 := d1 c5
  have c6 : 1 * g 0 ≤ 19 := d1 c6
  have c7 : 1 * g 12 + (-1) * g 21 ≤ 0 := d2 c7
  have c8 : (-1) * g 12 + 1 * g 21 ≤ 0 := d2 c8
  have c9 : 1 * g 13 + (-1) * g 23 ≤ 0 := d2 c9
  have c10 : (-1) * g 13 + 1 * g 23 ≤ 0 := d2 c10
  have c11 : (-1) * g 11 + 1 * g 15 ≤ 0 := d2 c11
  have c12 : 1 * g 11 + (-1) * g 15 ≤ 0 := d2 c12
  have c13 : 1 * g 16 + (-1) * g 22 ≤ 0 := d2 c13
  have c14 : (-1) * g 16 + 1 * g 22 ≤ 0 := d2 c14
  have c15 : (-1) * g 14 + 1 * g 17 + 1 * g 18 ≤ 0 := d3 c15
  have c16 : 1 * g 14 + (-1) * g 17 + (-1) * g 18 ≤ 0 := d3 c16
  have c17 : 1 * g 19 + (-1) * g 25 ≤ 0 := d2 c17
  have c18 : (-1) * g 19 + 1 * g 25 ≤ 0 := d2 c18
  have c19 : 1 * g 1 + (-1) * g 20 ≤ 0 := d2 c19
  have c20 : (-1) * g 1 + 1 * g 20 ≤ 0 := d2 c20
  obtain ⟨a0, a1, a2, a3, a4, a5, a6, a7, a8, a9, a10, a11, a12, a13, a14, a15, a16, a17, a18, a19, a20, a21, a22, a23, a24, a25, a26, a27, a28, a29, a30, a31, a32, a33, a34, a35, a36, a37, a38, a39, a40, a41, a42, a43, a44, a45, a46, a47, a48, a49, a50, a51, a52, a53, a54, a55, a56, a57, a58, a59, a60, a61, a62, a63, a64, a65, a66, a67, a68, _⟩ := ha
  have n897 : τ 897 = none := a0
  have n882 : τ 882 = none := a1
  have n886 : τ 886 = none := a2
  have n887 : τ 887 = none := a3
  have n889 : τ 889 = none := a4
  have n891 : τ 891 = none := a5
  have n899 : τ 899 = none := a6
  have n905 : τ 905 = none := a7
  have n930 : τ 930 = none := a8
  have n931 : τ 931 = none := a9
  have n932 : τ 932 = none := a10
  have n933 : τ 933 = none := a11
  have n934 : τ 934 = none := a12
  have n935 : τ 935 = none := a13
  have n936 : τ 936 = none := a14
  have n937 : τ 937 = none := a15
  have n938 : τ 938 = none := a16
  have n939 : τ 939 = none := a17
  have n910 : τ 910 = none := a18
  have n911 : τ 911 = none := a19
  have n912 : τ 912 = none := a20
  have n913 : τ 913 = none := a21
  have n914 : τ 914 = none := a22
  have n915 : τ 915 = none := a23
  have n940 : τ 940 = none := a24
  have n941 : τ 941 = none := a25
  have n942 : τ 942 = none := a26
  have n943 : τ 943 = none := a27
  have n944 : τ 944 = none := a28
  have n945 : τ 945 = none := a29
  have n946 : τ 946 = none := a30
  have n947 : τ 947 = none := a31
  have n948 : τ 948 = none := a32
  have n949 : τ 949 = none := a33
  have n950 : τ 950 = none := a34
  have n951 : τ 951 = none := a35
  have n952 : τ 952 = none := a36
  have n953 : τ 953 = none := a37
  have n954 : τ 954 = none := a38
  have n955 : τ 955 = none := a39
  have n956 : τ 956 = none := a40
  have n957 : τ 957 = none := a41
  have n958 : τ 958 = none := a42
  have n959 : τ 959 = none := a43
  have n960 : τ 960 = none := a44
  have n961 : τ 961 = none := a45
  have n962 : τ 962 = none := a46
  have n963 : τ 963 = none := a47
  have n964 : τ 964 = none := a48
  have n965 : τ 965 = none := a49
  have n966 : τ 966 = none := a50
  have n967 : τ 967 = none := a51
  have n968 : τ 968 = none := a52
  have n969 : τ 969 = none := a53
  have n970 : τ 970 = none := a54
  have n971 : τ 971 = none := a55
  have n972 : τ 972 = none := a56
  have n973 : τ 973 = none := a57
  have n974 : τ 974 = none := a58
  have n920 : τ 920 = none := a59
  have n921 : τ 921 = none := a60
  have n922 : τ 922 = none := a61
  have n923 : τ 923 = none := a62
  have n924 : τ 924 = none := a63
  have n925 : τ 925 = none := a64
  have n926 : τ 926 = none := a65
  have n927 : τ 927 = none := a66
  have n928 : τ 928 = none := a67
  have n929 : τ 929 = none := a68
  obtain ⟨⟨h_p1, h_p2, h_td⟩, k_b, k_q, k_c, k_d, k_l, k_k, k_e, k_t, k_n, k_j⟩ := hS
  have k_c0 := k_c
  obtain ⟨h_ga, h_in, h_ls, h_ld, h_w, h_rd, h_lead, h_ps, h_E, h_up, h_D, h_Z, h_s, h_sp⟩ := k_c0
  have k_b0 := k_b
  obtain ⟨h_bit, h_one, h_or, h_and, h_shr, h_m1, h_m2, h_dv, h_r1, h_r2, h_nz⟩ := k_b0
  have qS : eGS m (wrM m 83 j x) := ⟨fun _ => rfl, fun _ => rfl, fun _ => rfl⟩
  have qL : eGL m (wrM m 83 j x) := fun _ => rfl
  have qK : eGK m (wrM m 83 j x) := ⟨fun _ => rfl, rfl⟩
  have qM : eGM m (wrM m 83 j x) := fun _ => rfl
  have qP : eGP m (wrM m 83 j x) := rfl
  have qC : eGC m (wrM m 83 j x) := fun _ => rfl
  have k_q := e_q qS qP k_q
  have k_d := e_d qS k_d
  have k_l := e_l qS qL k_l
  have k_k := e_k qS qK k_k
  have k_e := e_e qK qM k_e
  have k_t := e_t qK qP k_t
  have k_n := e_n qS k_n
  have k_j := e_j qS qC k_j
  exact ⟨⟨h_p1, h_p2, h_td⟩, ⟨h_bit, h_one, h_or, h_and, h_shr, fun _ _ _ e0 e1 e2 => no9 (o := none) rfl e0, fun _ _ _ e0 e1 e2 => no9 (o := none) rfl e0, fun _ _ _ e0 e1 e2 => no9 (o := none) rfl e0, h_r1, h_r2, fun _ e0 => no9 (o := none) rfl e0⟩, k_q, ⟨(fun qa qb A I e0 e1 e2 e3 => by
      have e0 : g 9 = qa := Option.some.inj (t871.symm.trans e0)
      subst e0
      have e1 : g 10 = qb := Option.some.inj (t872.symm.trans e1)
      subst e1
      have e2 : g 7 = A := Option.some.inj (t880.symm.trans e2)
      subst e2
      have e3 : g 8 = I := Option.some.inj (t881.symm.trans e3)
      subst e3
      exact ⟨(h_ga _ _ _ _ t871 t872 t880 t881).1, fun e8 _ => no9 e8 t892⟩), h_in, h_ls, fun _ _ _ _ _ _ e0 e1 e2 e3 e4 e5 => no9 n899 e4, h_w, fun _ _ e0 e1 => no9 n886 e1, fun _ _ _ e0 e1 e2 => no9 n887 e1, fun _ _ _ _ e0 e1 e2 e3 => no9 n886 e1, fun _ _ _ e0 e1 e2 => no9 n886 e1, (fun qa qb A I w Y N U V e0 e1 e2 e3 e4 e5 e6 e7 e8 => by
      have e0 : g 9 = qa := Option.some.inj (t871.symm.trans e0)
      subst e0
      have e1 : g 10 = qb := Option.some.inj (t872.symm.trans e1)
      subst e1
      have e2 : g 7 = A := Option.some.inj (t880.symm.trans e2)
      subst e2
      have e3 : g 8 = I := Option.some.inj (t881.symm.trans e3)
      subst e3
      have e4 : g 2 = w := Option.some.inj (t883.symm.trans e4)
      subst e4
      have e5 : g 3 = Y := Option.some.inj (t892.symm.trans e5)
      subst e5
      have e6 : g 4 = N := Option.some.inj (t893.symm.trans e6)
      subst e6
      have e7 : g 5 = U := Option.some.inj (t894.symm.trans e7)
      subst e7
      have e8 : g 6 + 1 = V := Option.some.inj e8
      subst e8
      show UpG (wrM m 83 j x) (τ 896) (τ 897) (PfG (wrM m 83 j x) (g 9) (g 10) (g 7) (g 8)) (g 2) (g 3) (g 4) (g 5) (g 6 + 1)
      obtain ⟨q, d9, B9, ⟨u1, uN, uY, uU, uV⟩, ⟨u2, u3⟩, u4, u5, u6, ⟨u7, u8⟩, u9⟩ := (h_up _ _ _ _ _ _ _ _ _ t871 t872 t880 t881 t883 t892 t893 t894 t895)
      have hm1 := h_m1 _ _ _ t850 t851 t852
      have hm2 := h_m2 _ _ _ t853 t854 t855
      have hdv := h_dv _ _ _ t856 t857 t858
      have ejl : jrl = (g 3).toNat := by omega
      have ejp : jrp = j := by omega
      have ejy : jy = j := by omega
      have ejd : jd = 7 := by omega
      subst ejl ejd
      rw [ejp] at vrp
      rw [ejy] at vy
      have eU : (g 5).toNat = 7 := by omega
      have h4 := u4 7 j (by omega) (by omega)
      rw [if_neg (by omega)] at h4
      have h4 := h4 (by omega)
      have hB : BGm m 7 j = m 83 j := by unfold BGm; rw [if_pos (by omega)]
      have a1 : g 14 = g 21 * g 23 := by rw [hm1, show g 12 = g 21 by omega, show g 13 = g 23 by omega]
      have a2 : g 17 = g 11 * g 22 := by rw [hm2, show g 15 = g 11 by omega, show g 16 = g 22 by omega]
      have a3 : g 20 = (g 21 * g 23 - g 11 * g 22).tdiv (g 25) := by rw [hdv, show g 19 = g 25 by omega, show g 18 = g 14 - g 17 by omega, a1, a2]
      have u6' := u6 _ t896
      rw [eU] at u6'
      have hx : x = nbG (g 4).toNat q d9 B9 (bvG (g 2)) (g 3).toNat 7 j := by
        unfold nbG
        rw [if_neg (by omega), ← u3 (g 3).toNat (by omega), ← u3 j (by omega), ← h4, ← u6', ← u8, hB, ← vrl, ← vy, ← vrp, ← vd, ← a3]; omega
      rw [PfG_e qS]
      refine ⟨q, d9, B9, ⟨u1, uN, uY, uU, by omega⟩, ⟨u2, u3⟩, fun r c hr hc => ?_, u5, u6, ⟨u7, u8⟩, ?_⟩
      · have h5 := u4 r c hr hc
        rw [BGm_w (r0 := 7) rfl (by omega) r c hc (by omega)]
        by_cases e : r = 7 ∧ c = j
        · rw [if_pos (by omega), if_pos e, e.1, e.2]; exact hx
        · rw [if_neg e]
          by_cases e2 : (r : Int) < g 5 ∨ ((r : Int) = g 5 ∧ (c : Int) < g 6)
          · rw [if_pos e2] at h5; rw [if_pos (by omega)]; exact h5
          · rw [if_neg e2] at h5; rw [if_neg (by omega)]; exact h5
      · rcases u9 with q9 | q9 | q9
        · exact Or.inl q9
        · rw [n897] at q9; cases q9.1
        · rw [n897] at q9; cases q9.1), fun _ _ _ _ _ e0 e1 e2 e3 e4 => no9 n899 e4, fun _ _ _ e0 e1 e2 => no9 n882 e2, fun _ _ e0 e1 => no9 n882 e0, fun _ _ _ e0 e1 e2 => no9 n905 e0⟩, k_d, k_l, k_k, k_e, k_t, k_n, k_j⟩
def wu_Bl7 : Ru := ([(7, (0, (0, (0, 0)))), (8, (0, (0, (0, 0)))), (0, (883, (0, (0, 0)))), (0, (892, (0, (0, 0)))), (0, (893, (0, (0, 0)))), (0, (894, (0, (0, 0)))), (0, (895, (0, (0, 0)))), (0, (880, (0, (0, 0)))), (0, (881, (0, (0, 0)))), (0, (871, (0, (0, 0)))), (0, (872, (0, (0, 0)))), (9, (97, (0, (1, 0))))], ([896, 897, 882, 886, 887, 889, 891, 899, 905, 930, 931, 932, 933, 934, 935, 936, 937, 938, 939, 910, 911, 912, 913, 914, 915, 940, 941, 942, 943, 944, 945, 946, 947, 948, 949, 950, 951, 952, 953, 954, 955, 956, 957, 958, 959, 960, 961, 962, 963, 964, 965, 966, 967, 968, 969, 970, 971, 972, 973, 974, 920, 921, 922, 923, 924, 925, 926, 927, 928, 929], ([([(5, 1)], 7), ([(5, (-1))], (-7)), ([(4, (-1)), (5, 1)], 0), ([(4, 1), (5, (-1))], 0), ([(0, 1), (6, (-1))], 0), ([(0, (-1)), (6, 1)], 0), ([(0, (-1))], 0), ([(0, 1)], 19), ([(1, 1), (11, (-1))], 0), ([(1, (-1)), (11, 1)], 0)], (false, ([], ([], ([(895, some (6, 1))], none)))))))
theorem wk_Bl7 : WrOk SGd 83 wu_Bl7 := by
  intro τ m g j x hi hc ha hS
  obtain ⟨i0, i1, i2, i3, i4, i5, i6, i7, i8, i9, i10, i11, _⟩ := hi
  have xp : g 0 = (j : Int) := i0
  have xv : g 1 = x := i1
  have t883 : τ 883 = some (g 2) := i2
  have t892 : τ 892 = some (g 3) := i3
  have t893 : τ 893 = some (g 4) := i4
  have t894 : τ 894 = some (g 5) := i5
  have t895 : τ 895 = some (g 6) := i6
  have t880 : τ 880 = some (g 7) := i7
  have t881 : τ 881 = some (g 8) := i8
  have t871 : τ 871 = some (g 9) := i9
  have t872 : τ 872 = some (g 10) := i10
  obtain ⟨jrp, urp, vrp⟩ : ∃ j : Nat, 1 * g 0 + 0 = (j : Int) ∧ g 11 = m 97 j := i11
  obtain ⟨c0, c1, c2, c3, c4, c5, c6, c7, c8, c9, _⟩ := hc
  have c0 : 1 * g 5 ≤ 7 := d1 c0
  have c1 : (-1) * g 5 ≤ (-7) := d1 c1
  have c2 : (-1) * g 4 + 1 * g 5 ≤ 0 := d2 c2
  have c3 : 1 * g 4 + (-1) * g 5 ≤ 0 := d2 c3
  have c4 : 1 * g 0 + (-1) * g 6 ≤ 0 := d2 c4
  have c5 : (-1) * g 0 + 1 * g 6 ≤ 0 := d2 c5
  have c6 : (-1) * g 0 ≤ 0 := d1 c6
  have c7 : 1 * g 0 ≤ 19 := d1 c7
  have c8 : 1 * g 1 + (-1) * g 11 ≤ 0 := d2 c8
  have c9 : (-1) * g 1 + 1 * g 11 ≤ 0 := d2 c9
  obtain ⟨a0, a1, a2, a3, a4, a5, a6, a7, a8, a9, a10, a11, a12, a13, a14, a15, a16, a17, a18, a19, a20, a21, a22, a23, a24, a25, a26, a27, a28, a29, a30, a31, a32, a33, a34, a35, a36, a37, a38, a39, a40, a41, a42, a43, a44, a45, a46, a47, a48, a49, a50, a51, a52, a53, a54, a55, a56, a57, a58, a59, a60, a61, a62, a63, a64, a65, a66, a67, a68, a69, _⟩ := ha
  have n896 : τ 896 = none := a0
  have n897 : τ 897 = none := a1
  have n882 : τ 882 = none := a2
  have n886 : τ 886 = none := a3
  have n887 : τ 887 = none := a4
  have n889 : τ 889 = none := a5
  have n891 : τ 891 = none := a6
  have n899 : τ 899 = none := a7
  have n905 : τ 905 = none := a8
  have n930 : τ 930 = none := a9
  have n931 : τ 931 = none := a10
  have n932 : τ 932 = none := a11
  have n933 : τ 933 = none := a12
  have n934 : τ 934 = none := a13
  have n935 : τ 935 = none := a14
  have n936 : τ 936 = none := a15
  have n937 : τ 937 = none := a16
  have n938 : τ 938 = none := a17
  have n939 : τ 939 = none := a18
  have n910 : τ 910 = none := a19
  have n911 : τ 911 = none := a20
  have n912 : τ 912 = none := a21
  have n913 : τ 913 = none := a22
  have n914 : τ 914 = none := a23
  have n915 : τ 915 = none := a24
  have n940 : τ 940 = none := a25
  have n941 : τ 941 = none := a26
  have n942 : τ 942 = none := a27
  have n943 : τ 943 = none := a28
  have n944 : τ 944 = none := a29
  have n945 : τ 945 = none := a30
  have n946 : τ 946 = none := a31
  have n947 : τ 947 = none := a32
  have n948 : τ 948 = none := a33
  have n949 : τ 949 = none := a34
  have n950 : τ 950 = none := a35
  have n951 : τ 951 = none := a36
  have n952 : τ 952 = none := a37
  have n953 : τ 953 = none := a38
  have n954 : τ 954 = none := a39
  have n955 : τ 955 = none := a40
  have n956 : τ 956 = none := a41
  have n957 : τ 957 = none := a42
  have n958 : τ 958 = none := a43
  have n959 : τ 959 = none := a44
  have n960 : τ 960 = none := a45
  have n961 : τ 961 = none := a46
  have n962 : τ 962 = none := a47
  have n963 : τ 963 = none := a48
  have n964 : τ 964 = none := a49
  have n965 : τ 965 = none := a50
  have n966 : τ 966 = none := a51
  have n967 : τ 967 = none := a52
  have n968 : τ 968 = none := a53
  have n969 : τ 969 = none := a54
  have n970 : τ 970 = none := a55
  have n971 : τ 971 = none := a56
  have n972 : τ 972 = none := a57
  have n973 : τ 973 = none := a58
  have n974 : τ 974 = none := a59
  have n920 : τ 920 = none := a60
  have n921 : τ 921 = none := a61
  have n922 : τ 922 = none := a62
  have n923 : τ 923 = none := a63
  have n924 : τ 924 = none := a64
  have n925 : τ 925 = none := a65
  have n926 : τ 926 = none := a66
  have n927 : τ 927 = none := a67
  have n928 : τ 928 = none := a68
  have n929 : τ 929 = none := a69
  obtain ⟨⟨h_p1, h_p2, h_td⟩, k_b, k_q, k_c, k_d, k_l, k_k, k_e, k_t, k_n, k_j⟩ := hS
  have k_c0 := k_c
  obtain ⟨h_ga, h_in, h_ls, h_ld, h_w, h_rd, h_lead, h_ps, h_E, h_up, h_D, h_Z, h_s, h_sp⟩ := k_c0
  have qS : eGS m (wrM m 83 j x) := ⟨fun _ => rfl, fun _ => rfl, fun _ => rfl⟩
  have qL : eGL m (wrM m 83 j x) := fun _ => rfl
  have qK : eGK m (wrM m 83 j x) := ⟨fun _ => rfl, rfl⟩
  have qM : eGM m (wrM m 83 j x) := fun _ => rfl
  have qP : eGP m (wrM m 83 j x) := rfl
  have qC : eGC m (wrM m 83 j x) := fun _ => rfl
  have k_q := e_q qS qP k_q
  have k_d := e_d qS k_d
  have k_l := e_l qS qL k_l
  have k_k := e_k qS qK k_k
  have k_e := e_e qK qM k_e
  have k_t := e_t qK qP k_t
  have k_n := e_n qS k_n
  have k_j := e_j qS qC k_j
  exact ⟨⟨h_p1, h_p2, h_td⟩, k_b, k_q, ⟨(fun qa qb A I e0 e1 e2 e3 => by
      have e0 : g 9 = qa := Option.some.inj (t871.symm.trans e0)
      subst e0
      have e1 : g 10 = qb := Option.some.inj (t872.symm.trans e1)
      subst e1
      have e2 : g 7 = A := Option.some.inj (t880.symm.trans e2)
      subst e2
      have e3 : g 8 = I := Option.some.inj (t881.symm.trans e3)
      subst e3
      exact ⟨(h_ga _ _ _ _ t871 t872 t880 t881).1, fun e8 _ => no9 e8 t892⟩), h_in, h_ls, fun _ _ _ _ _ _ e0 e1 e2 e3 e4 e5 => no9 n899 e4, h_w, fun _ _ e0 e1 => no9 n886 e1, fun _ _ _ e0 e1 e2 => no9 n887 e1, fun _ _ _ _ e0 e1 e2 e3 => no9 n886 e1, fun _ _ _ e0 e1 e2 => no9 n886 e1, (fun qa qb A I w Y N U V e0 e1 e2 e3 e4 e5 e6 e7 e8 => by
      have e0 : g 9 = qa := Option.some.inj (t871.symm.trans e0)
      subst e0
      have e1 : g 10 = qb := Option.some.inj (t872.symm.trans e1)
      subst e1
      have e2 : g 7 = A := Option.some.inj (t880.symm.trans e2)
      subst e2
      have e3 : g 8 = I := Option.some.inj (t881.symm.trans e3)
      subst e3
      have e4 : g 2 = w := Option.some.inj (t883.symm.trans e4)
      subst e4
      have e5 : g 3 = Y := Option.some.inj (t892.symm.trans e5)
      subst e5
      have e6 : g 4 = N := Option.some.inj (t893.symm.trans e6)
      subst e6
      have e7 : g 5 = U := Option.some.inj (t894.symm.trans e7)
      subst e7
      have e8 : g 6 + 1 = V := Option.some.inj e8
      subst e8
      show UpG (wrM m 83 j x) (τ 896) (τ 897) (PfG (wrM m 83 j x) (g 9) (g 10) (g 7) (g 8)) (g 2) (g 3) (g 4) (g 5) (g 6 + 1)
      obtain ⟨q, d9, B9, ⟨u1, uN, uY, uU, uV⟩, ⟨u2, u3⟩, u4, u5, u6, ⟨u7, u8⟩, u9⟩ := (h_up _ _ _ _ _ _ _ _ _ t871 t872 t880 t881 t883 t892 t893 t894 t895)
      have ejp : jrp = j := by omega
      have eN : (g 4).toNat = 7 := by omega
      have hx : x = nbG (g 4).toNat q d9 B9 (bvG (g 2)) (g 3).toNat 7 j := by
        unfold nbG
        rw [if_pos eN.symm, ← u3 j (by omega), ← ejp, ← vrp]; omega
      rw [PfG_e qS]
      refine ⟨q, d9, B9, ⟨u1, uN, uY, uU, by omega⟩, ⟨u2, u3⟩, fun r c hr hc => ?_, u5, u6, ⟨u7, u8⟩, ?_⟩
      · have h5 := u4 r c hr hc
        rw [BGm_w (r0 := 7) rfl (by omega) r c hc (by omega)]
        by_cases e : r = 7 ∧ c = j
        · rw [if_pos (by omega), if_pos e, e.1, e.2]; exact hx
        · rw [if_neg e]
          by_cases e2 : (r : Int) < g 5 ∨ ((r : Int) = g 5 ∧ (c : Int) < g 6)
          · rw [if_pos e2] at h5; rw [if_pos (by omega)]; exact h5
          · rw [if_neg e2] at h5; rw [if_neg (by omega)]; exact h5
      · rcases u9 with q9 | q9 | q9
        · exact Or.inl q9
        · rw [n897] at q9; cases q9.1
        · rw [n897] at q9; cases q9.1), fun _ _ _ _ _ e0 e1 e2 e3 e4 => no9 n899 e4, fun _ _ _ e0 e1 e2 => no9 n882 e2, fun _ _ e0 e1 => no9 n882 e0, fun _ _ _ e0 e1 e2 => no9 n905 e0⟩, k_d, k_l, k_k, k_e, k_t, k_n, k_j⟩
def wu_Bu8 : Ru := ([(7, (0, (0, (0, 0)))), (8, (0, (0, (0, 0)))), (0, (883, (0, (0, 0)))), (0, (892, (0, (0, 0)))), (0, (893, (0, (0, 0)))), (0, (894, (0, (0, 0)))), (0, (895, (0, (0, 0)))), (0, (880, (0, (0, 0)))), (0, (881, (0, (0, 0)))), (0, (871, (0, (0, 0)))), (0, (872, (0, (0, 0)))), (0, (896, (0, (0, 0)))), (0, (850, (0, (0, 0)))), (0, (851, (0, (0, 0)))), (0, (852, (0, (0, 0)))), (0, (853, (0, (0, 0)))), (0, (854, (0, (0, 0)))), (0, (855, (0, (0, 0)))), (0, (856, (0, (0, 0)))), (0, (857, (0, (0, 0)))), (0, (858, (0, (0, 0)))), (9, (97, (3, (1, 0)))), (9, (97, (0, (1, 0)))), (9, (84, (0, (1, 0)))), (4, (0, (0, (7, 0)))), (9, (1000, (24, (1, 0))))], ([897, 882, 886, 887, 889, 891, 899, 905, 930, 931, 932, 933, 934, 935, 936, 937, 938, 939, 910, 911, 912, 913, 914, 915, 940, 941, 942, 943, 944, 945, 946, 947, 948, 949, 950, 951, 952, 953, 954, 955, 956, 957, 958, 959, 960, 961, 962, 963, 964, 965, 966, 967, 968, 969, 970, 971, 972, 973, 974, 920, 921, 922, 923, 924, 925, 926, 927, 928, 929], ([([(5, 1)], 8), ([(5, (-1))], (-8)), ([(4, (-1)), (5, 1)], (-1)), ([(0, 1), (6, (-1))], 0), ([(0, (-1)), (6, 1)], 0), ([(0, (-1))], 0), ([(0, 1)], 19), ([(12, 1), (21, (-1))], 0), ([(12, (-1)), (21, 1)], 0), ([(13, 1), (23, (-1))], 0), ([(13, (-1)), (23, 1)], 0), ([(11, (-1)), (15, 1)], 0), ([(11, 1), (15, (-1))], 0), ([(16, 1), (22, (-1))], 0), ([(16, (-1)), (22, 1)], 0), ([(14, (-1)), (17, 1), (18, 1)], 0), ([(14, 1), (17, (-1)), (18, (-1))], 0), ([(19, 1), (25, (-1))], 0), ([(19, (-1)), (25, 1)], 0), ([(1, 1), (20, (-1))], 0), ([(1, (-1)), (20, 1)], 0)], (false, ([], ([], ([(895, some (6, 1)), (850, none), (851, none), (852, none), (853, none), (854, none), (855, none), (856, none), (857, none), (858, none), (869, none)], none)))))))
theorem wk_Bu8 : WrOk SGd 84 wu_Bu8 := by
  intro τ m g j x hi hc ha hS
  obtain ⟨i0, i1, i2, i3, i4, i5, i6, i7, i8, i9, i10, i11, i12, i13, i14, i15, i16, i17, i18, i19, i20, i21, i22, i23, i24, i25, _⟩ := hi
  have xp : g 0 = (j : Int) := i0
  have xv : g 1 = x := i1
  have t883 : τ 883 = some (g 2) := i2
  have t892 : τ 892 = some (g 3) := i3
  have t893 : τ 893 = some (g 4) := i4
  have t894 : τ 894 = some (g 5) := i5
  have t895 : τ 895 = some (g 6) := i6
  have t880 : τ 880 = some (g 7) := i7
  have t881 : τ 881 = some (g 8) := i8
  have t871 : τ 871 = some (g 9) := i9
  have t872 : τ 872 = some (g 10) := i10
  have t896 : τ 896 = some (g 11) := i11
  have t850 : τ 850 = some (g 12) := i12
  have t851 : τ 851 = some (g 13) := i13
  have t852 : τ 852 = some (g 14) := i14
  have t853 : τ 853 = some (g 15) := i15
  have t854 : τ 854 = some (g 16) := i16
  have t855 : τ 855 = some (g 17) := i17
  have t856 : τ 856 = some (g 18) := i18
  have t857 : τ 857 = some (g 19) := i19
  have t858 : τ 858 = some (g 20) := i20
  obtain ⟨jrl, url, vrl⟩ : ∃ j : Nat, 1 * g 3 + 0 = (j : Int) ∧ g 21 = m 97 j := i21
  obtain ⟨jrp, urp, vrp⟩ : ∃ j : Nat, 1 * g 0 + 0 = (j : Int) ∧ g 22 = m 97 j := i22
  obtain ⟨jy, uy, vy⟩ : ∃ j : Nat, 1 * g 0 + 0 = (j : Int) ∧ g 23 = m 84 j := i23
  have xjc : g 24 = 7 := i24
  obtain ⟨jd, ud, vd⟩ : ∃ j : Nat, 1 * g 24 + 0 = (j : Int) ∧ g 25 = m 1000 j := i25
  obtain ⟨c0, c1, c2, c3, c4, c5, c6, c7, c8, c9, c10, c11, c12, c13, c14, c15, c16, c17, c18, c19, c20, _⟩ := hc
  have c0 : 1 * g 5 ≤ 8 := d1 c0
  have c1 : (-1) * g 5 ≤ (-8) := d1 c1
  have c2 : (-1) * g 4 + 1 * g 5 ≤ (-1) := d2 c2
  have c3 : 1 * g 0 + (-1) * g 6 ≤ 0 := d2 c3
  have c4 : (-1) * g 0 + 1 * g 6 ≤ 0 := d2 c4
  have c5 : (-1) * g 0 ≤ 0 := d1 c5
  have c6 : 1 * g 0 ≤ 19 := d1 c6
  have c7 : 1 * g 12 + (-1) * g 21 ≤ 0 := d2 c7
  have c8 : (-1) * g 12 + 1 * g 21 ≤ 0 := d2 c8
  have c9 : 1 * g 13 + (-1) * g 23 ≤ 0 := d2 c9
  have c10 : (-1) * g 13 + 1 * g 23 ≤ 0 := d2 c10
  have c11 : (-1) * g 11 + 1 * g 15 ≤ 0 := d2 c11
  have c12 : 1 * g 11 + (-1) * g 15 ≤ 0 := d2 c12
  have c13 : 1 * g 16 + (-1) * g 22 ≤ 0 := d2 c13
  have c14 : (-1) * g 16 + 1 * g 22 ≤ 0 := d2 c14
  have c15 : (-1) * g 14 + 1 * g 17 + 1 * g 18 ≤ 0 := d3 c15
  have c16 : 1 * g 14 + (-1) * g 17 + (-1) * g 18 ≤ 0 := d3 c16
  have c17 : 1 * g 19 + (-1) * g 25 ≤ 0 := d2 c17
  have c18 : (-1) * g 19 + 1 * g 25 ≤ 0 := d2 c18
  have c19 : 1 * g 1 + (-1) * g 20 ≤ 0 := d2 c19
  have c20 : (-1) * g 1 + 1 * g 20 ≤ 0 := d2 c20
  obtain ⟨a0, a1, a2, a3, a4, a5, a6, a7, a8, a9, a10, a11, a12, a13, a14, a15, a16, a17, a18, a19, a20, a21, a22, a23, a24, a25, a26, a27, a28, a29, a30, a31, a32, a33, a34, a35, a36, a37, a38, a39, a40, a41, a42, a43, a44, a45, a46, a47, a48, a49, a50, a51, a52, a53, a54, a55, a56, a57, a58, a59, a60, a61, a62, a63, a64, a65, a66, a67, a68, _⟩ := ha
  have n897 : τ 897 = none := a0
  have n882 : τ 882 = none := a1
  have n886 : τ 886 = none := a2
  have n887 : τ 887 = none := a3
  have n889 : τ 889 = none := a4
  have n891 : τ 891 = none := a5
  have n899 : τ 899 = none := a6
  have n905 : τ 905 = none := a7
  have n930 : τ 930 = none := a8
  have n931 : τ 931 = none := a9
  have n932 : τ 932 = none := a10
  have n933 : τ 933 = none := a11
  have n934 : τ 934 = none := a12
  have n935 : τ 935 = none := a13
  have n936 : τ 936 = none := a14
  have n937 : τ 937 = none := a15
  have n938 : τ 938 = none := a16
  have n939 : τ 939 = none := a17
  have n910 : τ 910 = none := a18
  have n911 : τ 911 = none := a19
  have n912 : τ 912 = none := a20
  have n913 : τ 913 = none := a21
  have n914 : τ 914 = none := a22
  have n915 : τ 915 = none := a23
  have n940 : τ 940 = none := a24
  have n941 : τ 941 = none := a25
  have n942 : τ 942 = none := a26
  have n943 : τ 943 = none := a27
  have n944 : τ 944 = none := a28
  have n945 : τ 945 = none := a29
  have n946 : τ 946 = none := a30
  have n947 : τ 947 = none := a31
  have n948 : τ 948 = none := a32
  have n949 : τ 949 = none := a33
  have n950 : τ 950 = none := a34
  have n951 : τ 951 = none := a35
  have n952 : τ 952 = none := a36
  have n953 : τ 953 = none := a37
  have n954 : τ 954 = none := a38
  have n955 : τ 955 = none := a39
  have n956 : τ 956 = none := a40
  have n957 : τ 957 = none := a41
  have n958 : τ 958 = none := a42
  have n959 : τ 959 = none := a43
  have n960 : τ 960 = none := a44
  have n961 : τ 961 = none := a45
  have n962 : τ 962 = none := a46
  have n963 : τ 963 = none := a47
  have n964 : τ 964 = none := a48
  have n965 : τ 965 = none := a49
  have n966 : τ 966 = none := a50
  have n967 : τ 967 = none := a51
  have n968 : τ 968 = none := a52
  have n969 : τ 969 = none := a53
  have n970 : τ 970 = none := a54
  have n971 : τ 971 = none := a55
  have n972 : τ 972 = none := a56
  have n973 : τ 973 = none := a57
  have n974 : τ 974 = none := a58
  have n920 : τ 920 = none := a59
  have n921 : τ 921 = none := a60
  have n922 : τ 922 = none := a61
  have n923 : τ 923 = none := a62
  have n924 : τ 924 = none := a63
  have n925 : τ 925 = none := a64
  have n926 : τ 926 = none := a65
  have n927 : τ 927 = none := a66
  have n928 : τ 928 = none := a67
  have n929 : τ 929 = none := a68
  obtain ⟨⟨h_p1, h_p2, h_td⟩, k_b, k_q, k_c, k_d, k_l, k_k, k_e, k_t, k_n, k_j⟩ := hS
  have k_c0 := k_c
  obtain ⟨h_ga, h_in, h_ls, h_ld, h_w, h_rd, h_lead, h_ps, h_E, h_up, h_D, h_Z, h_s, h_sp⟩ := k_c0
  have k_b0 := k_b
  obtain ⟨h_bit, h_one, h_or, h_and, h_shr, h_m1, h_m2, h_dv, h_r1, h_r2, h_nz⟩ := k_b0
  have qS : eGS m (wrM m 84 j x) := ⟨fun _ => rfl, fun _ => rfl, fun _ => rfl⟩
  have qL : eGL m (wrM m 84 j x) := fun _ => rfl
  have qK : eGK m (wrM m 84 j x) := ⟨fun _ => rfl, rfl⟩
  have qM : eGM m (wrM m 84 j x) := fun _ => rfl
  have qP : eGP m (wrM m 84 j x) := rfl
  have qC : eGC m (wrM m 84 j x) := fun _ => rfl
  have k_q := e_q qS qP k_q
  have k_d := e_d qS k_d
  have k_l := e_l qS qL k_l
  have k_k := e_k qS qK k_k
  have k_e := e_e qK qM k_e
  have k_t := e_t qK qP k_t
  have k_n := e_n qS k_n
  have k_j := e_j qS qC k_j
  exact ⟨⟨h_p1, h_p2, h_td⟩, ⟨h_bit, h_one, h_or, h_and, h_shr, fun _ _ _ e0 e1 e2 => no9 (o := none) rfl e0, fun _ _ _ e0 e1 e2 => no9 (o := none) rfl e0, fun _ _ _ e0 e1 e2 => no9 (o := none) rfl e0, h_r1, h_r2, fun _ e0 => no9 (o := none) rfl e0⟩, k_q, ⟨(fun qa qb A I e0 e1 e2 e3 => by
      have e0 : g 9 = qa := Option.some.inj (t871.symm.trans e0)
      subst e0
      have e1 : g 10 = qb := Option.some.inj (t872.symm.trans e1)
      subst e1
      have e2 : g 7 = A := Option.some.inj (t880.symm.trans e2)
      subst e2
      have e3 : g 8 = I := Option.some.inj (t881.symm.trans e3)
      subst e3
      exact ⟨(h_ga _ _ _ _ t871 t872 t880 t881).1, fun e8 _ => no9 e8 t892⟩), h_in, h_ls, fun _ _ _ _ _ _ e0 e1 e2 e3 e4 e5 => no9 n899 e4, h_w, fun _ _ e0 e1 => no9 n886 e1, fun _ _ _ e0 e1 e2 => no9 n887 e1, fun _ _ _ _ e0 e1 e2 e3 => no9 n886 e1, fun _ _ _ e0 e1 e2 => no9 n886 e1, (fun qa qb A I w Y N U V e0 e1 e2 e3 e4 e5 e6 e7 e8 => by
      have e0 : g 9 = qa := Option.some.inj (t871.symm.trans e0)
      subst e0
      have e1 : g 10 = qb := Option.some.inj (t872.symm.trans e1)
      subst e1
      have e2 : g 7 = A := Option.some.inj (t880.symm.trans e2)
      subst e2
      have e3 : g 8 = I := Option.some.inj (t881.symm.trans e3)
      subst e3
      have e4 : g 2 = w := Option.some.inj (t883.symm.trans e4)
      subst e4
      have e5 : g 3 = Y := Option.some.inj (t892.symm.trans e5)
      subst e5
      have e6 : g 4 = N := Option.some.inj (t893.symm.trans e6)
      subst e6
      have e7 : g 5 = U := Option.some.inj (t894.symm.trans e7)
      subst e7
      have e8 : g 6 + 1 = V := Option.some.inj e8
      subst e8
      show UpG (wrM m 84 j x) (τ 896) (τ 897) (PfG (wrM m 84 j x) (g 9) (g 10) (g 7) (g 8)) (g 2) (g 3) (g 4) (g 5) (g 6 + 1)
      obtain ⟨q, d9, B9, ⟨u1, uN, uY, uU, uV⟩, ⟨u2, u3⟩, u4, u5, u6, ⟨u7, u8⟩, u9⟩ := (h_up _ _ _ _ _ _ _ _ _ t871 t872 t880 t881 t883 t892 t893 t894 t895)
      have hm1 := h_m1 _ _ _ t850 t851 t852
      have hm2 := h_m2 _ _ _ t853 t854 t855
      have hdv := h_dv _ _ _ t856 t857 t858
      have ejl : jrl = (g 3).toNat := by omega
      have ejp : jrp = j := by omega
      have ejy : jy = j := by omega
      have ejd : jd = 7 := by omega
      subst ejl ejd
      rw [ejp] at vrp
      rw [ejy] at vy
      have eU : (g 5).toNat = 8 := by omega
      have h4 := u4 8 j (by omega) (by omega)
      rw [if_neg (by omega)] at h4
      have h4 := h4 (by omega)
      have hB : BGm m 8 j = m 84 j := by unfold BGm; rw [if_pos (by omega)]
      have a1 : g 14 = g 21 * g 23 := by rw [hm1, show g 12 = g 21 by omega, show g 13 = g 23 by omega]
      have a2 : g 17 = g 11 * g 22 := by rw [hm2, show g 15 = g 11 by omega, show g 16 = g 22 by omega]
      have a3 : g 20 = (g 21 * g 23 - g 11 * g 22).tdiv (g 25) := by rw [hdv, show g 19 = g 25 by omega, show g 18 = g 14 - g 17 by omega, a1, a2]
      have u6' := u6 _ t896
      rw [eU] at u6'
      have hx : x = nbG (g 4).toNat q d9 B9 (bvG (g 2)) (g 3).toNat 8 j := by
        unfold nbG
        rw [if_neg (by omega), ← u3 (g 3).toNat (by omega), ← u3 j (by omega), ← h4, ← u6', ← u8, hB, ← vrl, ← vy, ← vrp, ← vd, ← a3]; omega
      rw [PfG_e qS]
      refine ⟨q, d9, B9, ⟨u1, uN, uY, uU, by omega⟩, ⟨u2, u3⟩, fun r c hr hc => ?_, u5, u6, ⟨u7, u8⟩, ?_⟩
      · have h5 := u4 r c hr hc
        rw [BGm_w (r0 := 8) rfl (by omega) r c hc (by omega)]
        by_cases e : r = 8 ∧ c = j
        · rw [if_pos (by omega), if_pos e, e.1, e.2]; exact hx
        · rw [if_neg e]
          by_cases e2 : (r : Int) < g 5 ∨ ((r : Int) = g 5 ∧ (c : Int) < g 6)
          · rw [if_pos e2] at h5; rw [if_pos (by omega)]; exact h5
          · rw [if_neg e2] at h5; rw [if_neg (by omega)]; exact h5
      · rcases u9 with q9 | q9 | q9
        · exact Or.inl q9
        · rw [n897] at q9; cases q9.1
        · rw [n897] at q9; cases q9.1), fun _ _ _ _ _ e0 e1 e2 e3 e4 => no9 n899 e4, fun _ _ _ e0 e1 e2 => no9 n882 e2, fun _ _ e0 e1 => no9 n882 e0, fun _ _ _ e0 e1 e2 => no9 n905 e0⟩, k_d, k_l, k_k, k_e, k_t, k_n, k_j⟩
def wu_Bl8 : Ru := ([(7, (0, (0, (0, 0)))), (8, (0, (0, (0, 0)))), (0, (883, (0, (0, 0)))), (0, (892, (0, (0, 0)))), (0, (893, (0, (0, 0)))), (0, (894, (0, (0, 0)))), (0, (895, (0, (0, 0)))), (0, (880, (0, (0, 0)))), (0, (881, (0, (0, 0)))), (0, (871, (0, (0, 0)))), (0, (872, (0, (0, 0)))), (9, (97, (0, (1, 0))))], ([896, 897, 882, 886, 887, 889, 891, 899, 905, 930, 931, 932, 933, 934, 935, 936, 937, 938, 939, 910, 911, 912, 913, 914, 915, 940, 941, 942, 943, 944, 945, 946, 947, 948, 949, 950, 951, 952, 953, 954, 955, 956, 957, 958, 959, 960, 961, 962, 963, 964, 965, 966, 967, 968, 969, 970, 971, 972, 973, 974, 920, 921, 922, 923, 924, 925, 926, 927, 928, 929], ([([(5, 1)], 8), ([(5, (-1))], (-8)), ([(4, (-1)), (5, 1)], 0), ([(4, 1), (5, (-1))], 0), ([(0, 1), (6, (-1))], 0), ([(0, (-1)), (6, 1)], 0), ([(0, (-1))], 0), ([(0, 1)], 19), ([(1, 1), (11, (-1))], 0), ([(1, (-1)), (11, 1)], 0)], (false, ([], ([], ([(895, some (6, 1))], none)))))))
theorem wk_Bl8 : WrOk SGd 84 wu_Bl8 := by
  intro τ m g j x hi hc ha hS
  obtain ⟨i0, i1, i2, i3, i4, i5, i6, i7, i8, i9, i10, i11, _⟩ := hi
  have xp : g 0 = (j : Int) := i0
  have xv : g 1 = x := i1
  have t883 : τ 883 = some (g 2) := i2
  have t892 : τ 892 = some (g 3) := i3
  have t893 : τ 893 = some (g 4) := i4
  have t894 : τ 894 = some (g 5) := i5
  have t895 : τ 895 = some (g 6) := i6
  have t880 : τ 880 = some (g 7) := i7
  have t881 : τ 881 = some (g 8) := i8
  have t871 : τ 871 = some (g 9) := i9
  have t872 : τ 872 = some (g 10) := i10
  obtain ⟨jrp, urp, vrp⟩ : ∃ j : Nat, 1 * g 0 + 0 = (j : Int) ∧ g 11 = m 97 j := i11
  obtain ⟨c0, c1, c2, c3, c4, c5, c6, c7, c8, c9, _⟩ := hc
  have c0 : 1 * g 5 ≤ 8 := d1 c0
  have c1 : (-1) * g 5 ≤ (-8) := d1 c1
  have c2 : (-1) * g 4 + 1 * g 5 ≤ 0 := d2 c2
  have c3 : 1 * g 4 + (-1) * g 5 ≤ 0 := d2 c3
  have c4 : 1 * g 0 + (-1) * g 6 ≤ 0 := d2 c4
  have c5 : (-1) * g 0 + 1 * g 6 ≤ 0 := d2 c5
  have c6 : (-1) * g 0 ≤ 0 := d1 c6
  have c7 : 1 * g 0 ≤ 19 := d1 c7
  have c8 : 1 * g 1 + (-1) * g 11 ≤ 0 := d2 c8
  have c9 : (-1) * g 1 + 1 * g 11 ≤ 0 := d2 c9
  obtain ⟨a0, a1, a2, a3, a4, a5, a6, a7, a8, a9, a10, a11, a12, a13, a14, a15, a16, a17, a18, a19, a20, a21, a22, a23, a24, a25, a26, a27, a28, a29, a30, a31, a32, a33, a34, a35, a36, a37, a38, a39, a40, a41, a42, a43, a44, a45, a46, a47, a48, a49, a50, a51, a52, a53, a54, a55, a56, a57, a58, a59, a60, a61, a62, a63, a64, a65, a66, a67, a68, a69, _⟩ := ha
  have n896 : τ 896 = none := a0
  have n897 : τ 897 = none := a1
  have n882 : τ 882 = none := a2
  have n886 : τ 886 = none := a3
  have n887 : τ 887 = none := a4
  have n889 : τ 889 = none := a5
  have n891 : τ 891 = none := a6
  have n899 : τ 899 = none := a7
  have n905 : τ 905 = none := a8
  have n930 : τ 930 = none := a9
  have n931 : τ 931 = none := a10
  have n932 : τ 932 = none := a11
  have n933 : τ 933 = none := a12
  have n934 : τ 934 = none := a13
  have n935 : τ 935 = none := a14
  have n936 : τ 936 = none := a15
  have n937 : τ 937 = none := a16
  have n938 : τ 938 = none := a17
  have n939 : τ 939 = none := a18
  have n910 : τ 910 = none := a19
  have n911 : τ 911 = none := a20
  have n912 : τ 912 = none := a21
  have n913 : τ 913 = none := a22
  have n914 : τ 914 = none := a23
  have n915 : τ 915 = none := a24
  have n940 : τ 940 = none := a25
  have n941 : τ 941 = none := a26
  have n942 : τ 942 = none := a27
  have n943 : τ 943 = none := a28
  have n944 : τ 944 = none := a29
  have n945 : τ 945 = none := a30
  have n946 : τ 946 = none := a31
  have n947 : τ 947 = none := a32
  have n948 : τ 948 = none := a33
  have n949 : τ 949 = none := a34
  have n950 : τ 950 = none := a35
  have n951 : τ 951 = none := a36
  have n952 : τ 952 = none := a37
  have n953 : τ 953 = none := a38
  have n954 : τ 954 = none := a39
  have n955 : τ 955 = none := a40
  have n956 : τ 956 = none := a41
  have n957 : τ 957 = none := a42
  have n958 : τ 958 = none := a43
  have n959 : τ 959 = none := a44
  have n960 : τ 960 = none := a45
  have n961 : τ 961 = none := a46
  have n962 : τ 962 = none := a47
  have n963 : τ 963 = none := a48
  have n964 : τ 964 = none := a49
  have n965 : τ 965 = none := a50
  have n966 : τ 966 = none := a51
  have n967 : τ 967 = none := a52
  have n968 : τ 968 = none := a53
  have n969 : τ 969 = none := a54
  have n970 : τ 970 = none := a55
  have n971 : τ 971 = none := a56
  have n972 : τ 972 = none := a57
  have n973 : τ 973 = none := a58
  have n974 : τ 974 = none := a59
  have n920 : τ 920 = none := a60
  have n921 : τ 921 = none := a61
  have n922 : τ 922 = none := a62
  have n923 : τ 923 = none := a63
  have n924 : τ 924 = none := a64
  have n925 : τ 925 = none := a65
  have n926 : τ 926 = none := a66
  have n927 : τ 927 = none := a67
  have n928 : τ 928 = none := a68
  have n929 : τ 929 = none := a69
  obtain ⟨⟨h_p1, h_p2, h_td⟩, k_b, k_q, k_c, k_d, k_l, k_k, k_e, k_t, k_n, k_j⟩ := hS
  have k_c0 := k_c
  obtain ⟨h_ga, h_in, h_ls, h_ld, h_w, h_rd, h_lead, h_ps, h_E, h_up, h_D, h_Z, h_s, h_sp⟩ := k_c0
  have qS : eGS m (wrM m 84 j x) := ⟨fun _ => rfl, fun _ => rfl, fun _ => rfl⟩
  have qL : eGL m (wrM m 84 j x) := fun _ => rfl
  have qK : eGK m (wrM m 84 j x) := ⟨fun _ => rfl, rfl⟩
  have qM : eGM m (wrM m 84 j x) := fun _ => rfl
  have qP : eGP m (wrM m 84 j x) := rfl
  have qC : eGC m (wrM m 84 j x) := fun _ => rfl
  have k_q := e_q qS qP k_q
  have k_d := e_d qS k_d
  have k_l := e_l qS qL k_l
  have k_k := e_k qS qK k_k
  have k_e := e_e qK qM k_e
  have k_t := e_t qK qP k_t
  have k_n := e_n qS k_n
  have k_j := e_j qS qC k_j
  exact ⟨⟨h_p1, h_p2, h_td⟩, k_b, k_q, ⟨(fun qa qb A I e0 e1 e2 e3 => by
      have e0 : g 9 = qa := Option.some.inj (t871.symm.trans e0)
      subst e0
      have e1 : g 10 = qb := Option.some.inj (t872.symm.trans e1)
      subst e1
      have e2 : g 7 = A := Option.some.inj (t880.symm.trans e2)
      subst e2
      have e3 : g 8 = I := Option.some.inj (t881.symm.trans e3)
      subst e3
      exact ⟨(h_ga _ _ _ _ t871 t872 t880 t881).1, fun e8 _ => no9 e8 t892⟩), h_in, h_ls, fun _ _ _ _ _ _ e0 e1 e2 e3 e4 e5 => no9 n899 e4, h_w, fun _ _ e0 e1 => no9 n886 e1, fun _ _ _ e0 e1 e2 => no9 n887 e1, fun _ _ _ _ e0 e1 e2 e3 => no9 n886 e1, fun _ _ _ e0 e1 e2 => no9 n886 e1, (fun qa qb A I w Y N U V e0 e1 e2 e3 e4 e5 e6 e7 e8 => by
      have e0 : g 9 = qa := Option.some.inj (t871.symm.trans e0)
      subst e0
      have e1 : g 10 = qb := Option.some.inj (t872.symm.trans e1)
      subst e1
      have e2 : g 7 = A := Option.some.inj (t880.symm.trans e2)
      subst e2
      have e3 : g 8 = I := Option.some.inj (t881.symm.trans e3)
      subst e3
      have e4 : g 2 = w := Option.some.inj (t883.symm.trans e4)
      subst e4
      have e5 : g 3 = Y := Option.some.inj (t892.symm.trans e5)
      subst e5
      have e6 : g 4 = N := Option.some.inj (t893.symm.trans e6)
      subst e6
      have e7 : g 5 = U := Option.some.inj (t894.symm.trans e7)
      subst e7
      have e8 : g 6 + 1 = V := Option.some.inj e8
      subst e8
      show UpG (wrM m 84 j x) (τ 896) (τ 897) (PfG (wrM m 84 j x) (g 9) (g 10) (g 7) (g 8)) (g 2) (g 3) (g 4) (g 5) (g 6 + 1)
      obtain ⟨q, d9, B9, ⟨u1, uN, uY, uU, uV⟩, ⟨u2, u3⟩, u4, u5, u6, ⟨u7, u8⟩, u9⟩ := (h_up _ _ _ _ _ _ _ _ _ t871 t872 t880 t881 t883 t892 t893 t894 t895)
      have ejp : jrp = j := by omega
      have eN : (g 4).toNat = 8 := by omega
      have hx : x = nbG (g 4).toNat q d9 B9 (bvG (g 2)) (g 3).toNat 8 j := by
        unfold nbG
        rw [if_pos eN.symm, ← u3 j (by omega), ← ejp, ← vrp]; omega
      rw [PfG_e qS]
      refine ⟨q, d9, B9, ⟨u1, uN, uY, uU, by omega⟩, ⟨u2, u3⟩, fun r c hr hc => ?_, u5, u6, ⟨u7, u8⟩, ?_⟩
      · have h5 := u4 r c hr hc
        rw [BGm_w (r0 := 8) rfl (by omega) r c hc (by omega)]
        by_cases e : r = 8 ∧ c = j
        · rw [if_pos (by omega), if_pos e, e.1, e.2]; exact hx
        · rw [if_neg e]
          by_cases e2 : (r : Int) < g 5 ∨ ((r : Int) = g 5 ∧ (c : Int) < g 6)
          · rw [if_pos e2] at h5; rw [if_pos (by omega)]; exact h5
          · rw [if_neg e2] at h5; rw [if_neg (by omega)]; exact h5
      · rcases u9 with q9 | q9 | q9
        · exact Or.inl q9
        · rw [n897] at q9; cases q9.1
        · rw [n897] at q9; cases q9.1), fun _ _ _ _ _ e0 e1 e2 e3 e4 => no9 n899 e4, fun _ _ _ e0 e1 e2 => no9 n882 e2, fun _ _ e0 e1 => no9 n882 e0, fun _ _ _ e0 e1 e2 => no9 n905 e0⟩, k_d, k_l, k_k, k_e, k_t, k_n, k_j⟩
def wu_Bu9 : Ru := ([(7, (0, (0, (0, 0)))), (8, (0, (0, (0, 0)))), (0, (883, (0, (0, 0)))), (0, (892, (0, (0, 0)))), (0, (893, (0, (0, 0)))), (0, (894, (0, (0, 0)))), (0, (895, (0, (0, 0)))), (0, (880, (0, (0, 0)))), (0, (881, (0, (0, 0)))), (0, (871, (0, (0, 0)))), (0, (872, (0, (0, 0)))), (0, (896, (0, (0, 0)))), (0, (850, (0, (0, 0)))), (0, (851, (0, (0, 0)))), (0, (852, (0, (0, 0)))), (0, (853, (0, (0, 0)))), (0, (854, (0, (0, 0)))), (0, (855, (0, (0, 0)))), (0, (856, (0, (0, 0)))), (0, (857, (0, (0, 0)))), (0, (858, (0, (0, 0)))), (9, (97, (3, (1, 0)))), (9, (97, (0, (1, 0)))), (9, (85, (0, (1, 0)))), (4, (0, (0, (7, 0)))), (9, (1000, (24, (1, 0))))], ([897, 882, 886, 887, 889, 891, 899, 905, 930, 931, 932, 933, 934, 935, 936, 937, 938, 939, 910, 911, 912, 913, 914, 915, 940, 941, 942, 943, 944, 945, 946, 947, 948, 949, 950, 951, 952, 953, 954, 955, 956, 957, 958, 959, 960, 961, 962, 963, 964, 965, 966, 967, 968, 969, 970, 971, 972, 973, 974, 920, 921, 922, 923, 924, 925, 926, 927, 928, 929], ([([(5, 1)], 9), ([(5, (-1))], (-9)), ([(4, (-1)), (5, 1)], (-1)), ([(0, 1), (6, (-1))], 0), ([(0, (-1)), (6, 1)], 0), ([(0, (-1))], 0), ([(0, 1)], 19), ([(12, 1), (21, (-1))], 0), ([(12, (-1)), (21, 1)], 0), ([(13, 1), (23, (-1))], 0), ([(13, (-1)), (23, 1)], 0), ([(11, (-1)), (15, 1)], 0), ([(11, 1), (15, (-1))], 0), ([(16, 1), (22, (-1))], 0), ([(16, (-1)), (22, 1)], 0), ([(14, (-1)), (17, 1), (18, 1)], 0), ([(14, 1), (17, (-1)), (18, (-1))], 0), ([(19, 1), (25, (-1))], 0), ([(19, (-1)), (25, 1)], 0), ([(1, 1), (20, (-1))], 0), ([(1, (-1)), (20, 1)], 0)], (false, ([], ([], ([(895, some (6, 1)), (850, none), (851, none), (852, none), (853, none), (854, none), (855, none), (856, none), (857, none), (858, none), (869, none)], none)))))))
theorem wk_Bu9 : WrOk SGd 85 wu_Bu9 := by
  intro τ m g j x hi hc ha hS
  obtain ⟨i0, i1, i2, i3, i4, i5, i6, i7, i8, i9, i10, i11, i12, i13, i14, i15, i16, i17, i18, i19, i20, i21, i22, i23, i24, i25, _⟩ := hi
  have xp : g 0 = (j : Int) := i0
  have xv : g 1 = x := i1
  have t883 : τ 883 = some (g 2) := i2
  have t892 : τ 892 = some (g 3) := i3
  have t893 : τ 893 = some (g 4) := i4
  have t894 : τ 894 = some (g 5) := i5
  have t895 : τ 895 = some (g 6) := i6
  have t880 : τ 880 = some (g 7) := i7
  have t881 : τ 881 = some (g 8) := i8
  have t871 : τ 871 = some (g 9) := i9
  have t872 : τ 872 = some (g 10) := i10
  have t896 : τ 896 = some (g 11) := i11
  have t850 : τ 850 = some (g 12) := i12
  have t851 : τ 851 = some (g 13) := i13
  have t852 : τ 852 = some (g 14) := i14
  have t853 : τ 853 = some (g 15) := i15
  have t854 : τ 854 = some (g 16) := i16
  have t855 : τ 855 = some (g 17) := i17
  have t856 : τ 856 = some (g 18) := i18
  have t857 : τ 857 = some (g 19) := i19
  have t858 : τ 858 = some (g 20) := i20
  obtain ⟨jrl, url, vrl⟩ : ∃ j : Nat, 1 * g 3 + 0 = (j : Int) ∧ g 21 = m 97 j := i21
  obtain ⟨jrp, urp, vrp⟩ : ∃ j : Nat, 1 * g 0 + 0 = (j : Int) ∧ g 22 = m 97 j := i22
  obtain ⟨jy, uy, vy⟩ : ∃ j : Nat, 1 * g 0 + 0 = (j : Int) ∧ g 23 = m 85 j := i23
  have xjc : g 24 = 7 := i24
  obtain ⟨jd, ud, vd⟩ : ∃ j : Nat, 1 * g 24 + 0 = (j : Int) ∧ g 25 = m 1000 j := i25
  obtain ⟨c0, c1, c2, c3, c4, c5, c6, c7, c8, c9, c10, c11, c12, c13, c14, c15, c16, c17, c18, c19, c20, _⟩ := hc
  have c0 : 1 * g 5 ≤ 9 := d1 c0
  have c1 : (-1) * g 5 ≤ (-9) := d1 c1
  have c2 : (-1) * g 4 + 1 * g 5 ≤ (-1) := d2 c2
  have c3 : 1 * g 0 + (-1) * g 6 ≤ 0 := d2 c3
  have c4 : (-1) * g 0 + 1 * g 6 ≤ 0 := d2 c4
  have c5 : (-1) * g 0 ≤ 0 := d1 c5
  have c6 : 1 * g 0 ≤ 19 := d1 c6
  have c7 : 1 * g 12 + (-1) * g 21 ≤ 0 := d2 c7
  have c8 : (-1) * g 12 + 1 * g 21 ≤ 0 := d2 c8
  have c9 : 1 * g 13 + (-1) * g 23 ≤ 0 := d2 c9
  have c10 : (-1) * g 13 + 1 * g 23 ≤ 0 := d2 c10
  have c11 : (-1) * g 11 + 1 * g 15 ≤ 0 := d2 c11
  have c12 : 1 * g 11 + (-1) * g 15 ≤ 0 := d2 c12
  have c13 : 1 * g 16 + (-1) * g 22 ≤ 0 := d2 c13
  have c14 : (-1) * g 16 + 1 * g 22 ≤ 0 := d2 c14
  have c15 : (-1) * g 14 + 1 * g 17 + 1 * g 18 ≤ 0 := d3 c15
  have c16 : 1 * g 14 + (-1) * g 17 + (-1) * g 18 ≤ 0 := d3 c16
  have c17 : 1 * g 19 + (-1) * g 25 ≤ 0 := d2 c17
  have c18 : (-1) * g 19 + 1 * g 25 ≤ 0 := d2 c18
  have c19 : 1 * g 1 + (-1) * g 20 ≤ 0 := d2 c19
  have c20 : (-1) * g 1 + 1 * g 20 ≤ 0 := d2 c20
  obtain ⟨a0, a1, a2, a3, a4, a5, a6, a7, a8, a9, a10, a11, a12, a13, a14, a15, a16, a17, a18, a19, a20, a21, a22, a23, a24, a25, a26, a27, a28, a29, a30, a31, a32, a33, a34, a35, a36, a37, a38, a39, a40, a41, a42, a43, a44, a45, a46, a47, a48, a49, a50, a51, a52, a53, a54, a55, a56, a57, a58, a59, a60, a61, a62, a63, a64, a65, a66, a67, a68, _⟩ := ha
  have n897 : τ 897 = none := a0
  have n882 : τ 882 = none := a1
  have n886 : τ 886 = none := a2
  have n887 : τ 887 = none := a3
  have n889 : τ 889 = none := a4
  have n891 : τ 891 = none := a5
  have n899 : τ 899 = none := a6
  have n905 : τ 905 = none := a7
  have n930 : τ 930 = none := a8
  have n931 : τ 931 = none := a9
  have n932 : τ 932 = none := a10
  have n933 : τ 933 = none := a11
  have n934 : τ 934 = none := a12
  have n935 : τ 935 = none := a13
  have n936 : τ 936 = none := a14
  have n937 : τ 937 = none := a15
  have n938 : τ 938 = none := a16
  have n939 : τ 939 = none := a17
  have n910 : τ 910 = none := a18
  have n911 : τ 911 = none := a19
  have n912 : τ 912 = none := a20
  have n913 : τ 913 = none := a21
  have n914 : τ 914 = none := a22
  have n915 : τ 915 = none := a23
  have n940 : τ 940 = none := a24
  have n941 : τ 941 = none := a25
  have n942 : τ 942 = none := a26
  have n943 : τ 943 = none := a27
  have n944 : τ 944 = none := a28
  have n945 : τ 945 = none := a29
  have n946 : τ 946 = none := a30
  have n947 : τ 947 = none := a31
  have n948 : τ 948 = none := a32
  have n949 : τ 949 = none := a33
  have n950 : τ 950 = none := a34
  have n951 : τ 951 = none := a35
  have n952 : τ 952 = none := a36
  have n953 : τ 953 = none := a37
  have n954 : τ 954 = none := a38
  have n955 : τ 955 = none := a39
  have n956 : τ 956 = none := a40
  have n957 : τ 957 = none := a41
  have n958 : τ 958 = none := a42
  have n959 : τ 959 = none := a43
  have n960 : τ 960 = none := a44
  have n961 : τ 961 = none := a45
  have n962 : τ 962 = none := a46
  have n963 : τ 963 = none := a47
  have n964 : τ 964 = none := a48
  have n965 : τ 965 = none := a49
  have n966 : τ 966 = none := a50
  have n967 : τ 967 = none := a51
  have n968 : τ 968 = none := a52
  have n969 : τ 969 = none := a53
  have n970 : τ 970 = none := a54
  have n971 : τ 971 = none := a55
  have n972 : τ 972 = none := a56
  have n973 : τ 973 = none := a57
  have n974 : τ 974 = none := a58
  have n920 : τ 920 = none := a59
  have n921 : τ 921 = none := a60
  have n922 : τ 922 = none := a61
  have n923 : τ 923 = none := a62
  have n924 : τ 924 = none := a63
  have n925 : τ 925 = none := a64
  have n926 : τ 926 = none := a65
  have n927 : τ 927 = none := a66
  have n928 : τ 928 = none := a67
  have n929 : τ 929 = none := a68
  obtain ⟨⟨h_p1, h_p2, h_td⟩, k_b, k_q, k_c, k_d, k_l, k_k, k_e, k_t, k_n, k_j⟩ := hS
  have k_c0 := k_c
  obtain ⟨h_ga, h_in, h_ls, h_ld, h_w, h_rd, h_lead, h_ps, h_E, h_up, h_D, h_Z, h_s, h_sp⟩ := k_c0
  have k_b0 := k_b
  obtain ⟨h_bit, h_one, h_or, h_and, h_shr, h_m1, h_m2, h_dv, h_r1, h_r2, h_nz⟩ := k_b0
  have qS : eGS m (wrM m 85 j x) := ⟨fun _ => rfl, fun _ => rfl, fun _ => rfl⟩
  have qL : eGL m (wrM m 85 j x) := fun _ => rfl
  have qK : eGK m (wrM m 85 j x) := ⟨fun _ => rfl, rfl⟩
  have qM : eGM m (wrM m 85 j x) := fun _ => rfl
  have qP : eGP m (wrM m 85 j x) := rfl
  have qC : eGC m (wrM m 85 j x) := fun _ => rfl
  have k_q := e_q qS qP k_q
  have k_d := e_d qS k_d
  have k_l := e_l qS qL k_l
  have k_k := e_k qS qK k_k
  have k_e := e_e qK qM k_e
  have k_t := e_t qK qP k_t
  have k_n := e_n qS k_n
  have k_j := e_j qS qC k_j
  exact ⟨⟨h_p1, h_p2, h_td⟩, ⟨h_bit, h_one, h_or, h_and, h_shr, fun _ _ _ e0 e1 e2 => no9 (o := none) rfl e0, fun _ _ _ e0 e1 e2 => no9 (o := none) rfl e0, fun _ _ _ e0 e1 e2 => no9 (o := none) rfl e0, h_r1, h_r2, fun _ e0 => no9 (o := none) rfl e0⟩, k_q, ⟨(fun qa qb A I e0 e1 e2 e3 => by
      have e0 : g 9 = qa := Option.some.inj (t871.symm.trans e0)
      subst e0
      have e1 : g 10 = qb := Option.some.inj (t872.symm.trans e1)
      subst e1
      have e2 : g 7 = A := Option.some.inj (t880.symm.trans e2)
      subst e2
      have e3 : g 8 = I := Option.some.inj (t881.symm.trans e3)
      subst e3
      exact ⟨(h_ga _ _ _ _ t871 t872 t880 t881).1, fun e8 _ => no9 e8 t892⟩), h_in, h_ls, fun _ _ _ _ _ _ e0 e1 e2 e3 e4 e5 => no9 n899 e4, h_w, fun _ _ e0 e1 => no9 n886 e1, fun _ _ _ e0 e1 e2 => no9 n887 e1, fun _ _ _ _ e0 e1 e2 e3 => no9 n886 e1, fun _ _ _ e0 e1 e2 => no9 n886 e1, (fun qa qb A I w Y N U V e0 e1 e2 e3 e4 e5 e6 e7 e8 => by
      have e0 : g 9 = qa := Option.some.inj (t871.symm.trans e0)
      subst e0
      have e1 : g 10 = qb := Option.some.inj (t872.symm.trans e1)
      subst e1
      have e2 : g 7 = A := Option.some.inj (t880.symm.trans e2)
      subst e2
      have e3 : g 8 = I := Option.some.inj (t881.symm.trans e3)
      subst e3
      have e4 : g 2 = w := Option.some.inj (t883.symm.trans e4)
      subst e4
      have e5 : g 3 = Y := Option.some.inj (t892.symm.trans e5)
      subst e5
      have e6 : g 4 = N := Option.some.inj (t893.symm.trans e6)
      subst e6
      have e7 : g 5 = U := Option.some.inj (t894.symm.trans e7)
      subst e7
      have e8 : g 6 + 1 = V := Option.some.inj e8
      subst e8
      show UpG (wrM m 85 j x) (τ 896) (τ 897) (PfG (wrM m 85 j x) (g 9) (g 10) (g 7) (g 8)) (g 2) (g 3) (g 4) (g 5) (g 6 + 1)
      obtain ⟨q, d9, B9, ⟨u1, uN, uY, uU, uV⟩, ⟨u2, u3⟩, u4, u5, u6, ⟨u7, u8⟩, u9⟩ := (h_up _ _ _ _ _ _ _ _ _ t871 t872 t880 t881 t883 t892 t893 t894 t895)
      have hm1 := h_m1 _ _ _ t850 t851 t852
      have hm2 := h_m2 _ _ _ t853 t854 t855
      have hdv := h_dv _ _ _ t856 t857 t858
      have ejl : jrl = (g 3).toNat := by omega
      have ejp : jrp = j := by omega
      have ejy : jy = j := by omega
      have ejd : jd = 7 := by omega
      subst ejl ejd
      rw [ejp] at vrp
      rw [ejy] at vy
      have eU : (g 5).toNat = 9 := by omega
      have h4 := u4 9 j (by omega) (by omega)
      rw [if_neg (by omega)] at h4
      have h4 := h4 (by omega)
      have hB : BGm m 9 j = m 85 j := by unfold BGm; rw [if_pos (by omega)]
      have a1 : g 14 = g 21 * g 23 := by rw [hm1, show g 12 = g 21 by omega, show g 13 = g 23 by omega]
      have a2 : g 17 = g 11 * g 22 := by rw [hm2, show g 15 = g 11 by omega, show g 16 = g 22 by omega]
      have a3 : g 20 = (g 21 * g 23 - g 11 * g 22).tdiv (g 25) := by rw [hdv, show g 19 = g 25 by omega, show g 18 = g 14 - g 17 by omega, a1, a2]
      have u6' := u6 _ t896
      rw [eU] at u6'
      have hx : x = nbG (g 4).toNat q d9 B9 (bvG (g 2)) (g 3).toNat 9 j := by
        unfold nbG
        rw [if_neg (by omega), ← u3 (g 3).toNat (by omega), ← u3 j (by omega), ← h4, ← u6', ← u8, hB, ← vrl, ← vy, ← vrp, ← vd, ← a3]; omega
      rw [PfG_e qS]
      refine ⟨q, d9, B9, ⟨u1, uN, uY, uU, by omega⟩, ⟨u2, u3⟩, fun r c hr hc => ?_, u5, u6, ⟨u7, u8⟩, ?_⟩
      · have h5 := u4 r c hr hc
        rw [BGm_w (r0 := 9) rfl (by omega) r c hc (by omega)]
        by_cases e : r = 9 ∧ c = j
        · rw [if_pos (by omega), if_pos e, e.1, e.2]; exact hx
        · rw [if_neg e]
          by_cases e2 : (r : Int) < g 5 ∨ ((r : Int) = g 5 ∧ (c : Int) < g 6)
          · rw [if_pos e2] at h5; rw [if_pos (by omega)]; exact h5
          · rw [if_neg e2] at h5; rw [if_neg (by omega)]; exact h5
      · rcases u9 with q9 | q9 | q9
        · exact Or.inl q9
        · rw [n897] at q9; cases q9.1
        · rw [n897] at q9; cases q9.1), fun _ _ _ _ _ e0 e1 e2 e3 e4 => no9 n899 e4, fun _ _ _ e0 e1 e2 => no9 n882 e2, fun _ _ e0 e1 => no9 n882 e0, fun _ _ _ e0 e1 e2 => no9 n905 e0⟩, k_d, k_l, k_k, k_e, k_t, k_n, k_j⟩
def wu_Bl9 : Ru := ([(7, (0, (0, (0, 0)))), (8, (0, (0, (0, 0)))), (0, (883, (0, (0, 0)))), (0, (892, (0, (0, 0)))), (0, (893, (0, (0, 0)))), (0, (894, (0, (0, 0)))), (0, (895, (0, (0, 0)))), (0, (880, (0, (0, 0)))), (0, (881, (0, (0, 0)))), (0, (871, (0, (0, 0)))), (0, (872, (0, (0, 0)))), (9, (97, (0, (1, 0))))], ([896, 897, 882, 886, 887, 889, 891, 899, 905, 930, 931, 932, 933, 934, 935, 936, 937, 938, 939, 910, 911, 912, 913, 914, 915, 940, 941, 942, 943, 944, 945, 946, 947, 948, 949, 950, 951, 952, 953, 954, 955, 956, 957, 958, 959, 960, 961, 962, 963, 964, 965, 966, 967, 968, 969, 970, 971, 972, 973, 974, 920, 921, 922, 923, 924, 925, 926, 927, 928, 929], ([([(5, 1)], 9), ([(5, (-1))], (-9)), ([(4, (-1)), (5, 1)], 0), ([(4, 1), (5, (-1))], 0), ([(0, 1), (6, (-1))], 0), ([(0, (-1)), (6, 1)], 0), ([(0, (-1))], 0), ([(0, 1)], 19), ([(1, 1), (11, (-1))], 0), ([(1, (-1)), (11, 1)], 0)], (false, ([], ([], ([(895, some (6, 1))], none)))))))
theorem wk_Bl9 : WrOk SGd 85 wu_Bl9 := by
  intro τ m g j x hi hc ha hS
  obtain ⟨i0, i1, i2, i3, i4, i5, i6, i7, i8, i9, i10, i11, _⟩ := hi
  have xp : g 0 = (j : Int) := i0
  have xv : g 1 = x := i1
  have t883 : τ 883 = some (g 2) := i2
  have t892 : τ 892 = some (g 3) := i3
  have t893 : τ 893 = some (g 4) := i4
  have t894 : τ 894 = some (g 5) := i5
  have t895 : τ 895 = some (g 6) := i6
  have t880 : τ 880 = some (g 7) := i7
  have t881 : τ 881 = some (g 8) := i8
  have t871 : τ 871 = some (g 9) := i9
  have t872 : τ 872 = some (g 10) := i10
  obtain ⟨jrp, urp, vrp⟩ : ∃ j : Nat, 1 * g 0 + 0 = (j : Int) ∧ g 11 = m 97 j := i11
  obtain ⟨c0, c1, c2, c3, c4, c5, c6, c7, c8, c9, _⟩ := hc
  have c0 : 1 * g 5 ≤ 9 := d1 c0
  have c1 : (-1) * g 5 ≤ (-9) := d1 c1
  have c2 : (-1) * g 4 + 1 * g 5 ≤ 0 := d2 c2
  have c3 : 1 * g 4 + (-1) * g 5 ≤ 0 := d2 c3
  have c4 : 1 * g 0 + (-1) * g 6 ≤ 0 := d2 c4
  have c5 : (-1) * g 0 + 1 * g 6 ≤ 0 := d2 c5
  have c6 : (-1) * g 0 ≤ 0 := d1 c6
  have c7 : 1 * g 0 ≤ 19 := d1 c7
  have c8 : 1 * g 1 + (-1) * g 11 ≤ 0 := d2 c8
  have c9 : (-1) * g 1 + 1 * g 11 ≤ 0 := d2 c9
  obtain ⟨a0, a1, a2, a3, a4, a5, a6, a7, a8, a9, a10, a11, a12, a13, a14, a15, a16, a17, a18, a19, a20, a21, a22, a23, a24, a25, a26, a27, a28, a29, a30, a31, a32, a33, a34, a35, a36, a37, a38, a39, a40, a41, a42, a43, a44, a45, a46, a47, a48, a49, a50, a51, a52, a53, a54, a55, a56, a57, a58, a59, a60, a61, a62, a63, a64, a65, a66, a67, a68, a69, _⟩ := ha
  have n896 : τ 896 = none := a0
  have n897 : τ 897 = none := a1
  have n882 : τ 882 = none := a2
  have n886 : τ 886 = none := a3
  have n887 : τ 887 = none := a4
  have n889 : τ 889 = none := a5
  have n891 : τ 891 = none := a6
  have n899 : τ 899 = none := a7
  have n905 : τ 905 = none := a8
  have n930 : τ 930 = none := a9
  have n931 : τ 931 = none := a10
  have n932 : τ 932 = none := a11
  have n933 : τ 933 = none := a12
  have n934 : τ 934 = none := a13
  have n935 : τ 935 = none := a14
  have n936 : τ 936 = none := a15
  have n937 : τ 937 = none := a16
  have n938 : τ 938 = none := a17
  have n939 : τ 939 = none := a18
  have n910 : τ 910 = none := a19
  have n911 : τ 911 = none := a20
  have n912 : τ 912 = none := a21
  have n913 : τ 913 = none := a22
  have n914 : τ 914 = none := a23
  have n915 : τ 915 = none := a24
  have n940 : τ 940 = none := a25
  have n941 : τ 941 = none := a26
  have n942 : τ 942 = none := a27
  have n943 : τ 943 = none := a28
  have n944 : τ 944 = none := a29
  have n945 : τ 945 = none := a30
  have n946 : τ 946 = none := a31
  have n947 : τ 947 = none := a32
  have n948 : τ 948 = none := a33
  have n949 : τ 949 = none := a34
  have n950 : τ 950 = none := a35
  have n951 : τ 951 = none := a36
  have n952 : τ 952 = none := a37
  have n953 : τ 953 = none := a38
  have n954 : τ 954 = none := a39
  have n955 : τ 955 = none := a40
  have n956 : τ 956 = none := a41
  have n957 : τ 957 = none := a42
  have n958 : τ 958 = none := a43
  have n959 : τ 959 = none := a44
  have n960 : τ 960 = none := a45
  have n961 : τ 961 = none := a46
  have n962 : τ 962 = none := a47
  have n963 : τ 963 = none := a48
  have n964 : τ 964 = none := a49
  have n965 : τ 965 = none := a50
  have n966 : τ 966 = none := a51
  have n967 : τ 967 = none := a52
  have n968 : τ 968 = none := a53
  have n969 : τ 969 = none := a54
  have n970 : τ 970 = none := a55
  have n971 : τ 971 = none := a56
  have n972 : τ 972 = none := a57
  have n973 : τ 973 = none := a58
  have n974 : τ 974 = none := a59
  have n920 : τ 920 = none := a60
  have n921 : τ 921 = none := a61
  have n922 : τ 922 = none := a62
  have n923 : τ 923 = none := a63
  have n924 : τ 924 = none := a64
  have n925 : τ 925 = none := a65
  have n926 : τ 926 = none := a66
  have n927 : τ 927 = none := a67
  have n928 : τ 928 = none := a68
  have n929 : τ 929 = none := a69
  obtain ⟨⟨h_p1, h_p2, h_td⟩, k_b, k_q, k_c, k_d, k_l, k_k, k_e, k_t, k_n, k_j⟩ := hS
  have k_c0 := k_c
  obtain ⟨h_ga, h_in, h_ls, h_ld, h_w, h_rd, h_lead, h_ps, h_E, h_up, h_D, h_Z, h_s, h_sp⟩ := k_c0
  have qS : eGS m (wrM m 85 j x) := ⟨fun _ => rfl, fun _ => rfl, fun _ => rfl⟩
  have qL : eGL m (wrM m 85 j x) := fun _ => rfl
  have qK : eGK m (wrM m 85 j x) := ⟨fun _ => rfl, rfl⟩
  have qM : eGM m (wrM m 85 j x) := fun _ => rfl
  have qP : eGP m (wrM m 85 j x) := rfl
  have qC : eGC m (wrM m 85 j x) := fun _ => rfl
  have k_q := e_q qS qP k_q
  have k_d := e_d qS k_d
  have k_l := e_l qS qL k_l
  have k_k := e_k qS qK k_k
  have k_e := e_e qK qM k_e
  have k_t := e_t qK qP k_t
  have k_n := e_n qS k_n
  have k_j := e_j qS qC k_j
  exact ⟨⟨h_p1, h_p2, h_td⟩, k_b, k_q, ⟨(fun qa qb A I e0 e1 e2 e3 => by
      have e0 : g 9 = qa := Option.some.inj (t871.symm.trans e0)
      subst e0
      have e1 : g 10 = qb := Option.some.inj (t872.symm.trans e1)
      subst e1
      have e2 : g 7 = A := Option.some.inj (t880.symm.trans e2)
      subst e2
      have e3 : g 8 = I := Option.some.inj (t881.symm.trans e3)
      subst e3
      exact ⟨(h_ga _ _ _ _ t871 t872 t880 t881).1, fun e8 _ => no9 e8 t892⟩), h_in, h_ls, fun _ _ _ _ _ _ e0 e1 e2 e3 e4 e5 => no9 n899 e4, h_w, fun _ _ e0 e1 => no9 n886 e1, fun _ _ _ e0 e1 e2 => no9 n887 e1, fun _ _ _ _ e0 e1 e2 e3 => no9 n886 e1, fun _ _ _ e0 e1 e2 => no9 n886 e1, (fun qa qb A I w Y N U V e0 e1 e2 e3 e4 e5 e6 e7 e8 => by
      have e0 : g 9 = qa := Option.some.inj (t871.symm.trans e0)
      subst e0
      have e1 : g 10 = qb := Option.some.inj (t872.symm.trans e1)
      subst e1
      have e2 : g 7 = A := Option.some.inj (t880.symm.trans e2)
      subst e2
      have e3 : g 8 = I := Option.some.inj (t881.symm.trans e3)
      subst e3
      have e4 : g 2 = w := Option.some.inj (t883.symm.trans e4)
      subst e4
      have e5 : g 3 = Y := Option.some.inj (t892.symm.trans e5)
      subst e5
      have e6 : g 4 = N := Option.some.inj (t893.symm.trans e6)
      subst e6
      have e7 : g 5 = U := Option.some.inj (t894.symm.trans e7)
      subst e7
      have e8 : g 6 + 1 = V := Option.some.inj e8
      subst e8
      show UpG (wrM m 85 j x) (τ 896) (τ 897) (PfG (wrM m 85 j x) (g 9) (g 10) (g 7) (g 8)) (g 2) (g 3) (g 4) (g 5) (g 6 + 1)
      obtain ⟨q, d9, B9, ⟨u1, uN, uY, uU, uV⟩, ⟨u2, u3⟩, u4, u5, u6, ⟨u7, u8⟩, u9⟩ := (h_up _ _ _ _ _ _ _ _ _ t871 t872 t880 t881 t883 t892 t893 t894 t895)
      have ejp : jrp = j := by omega
      have eN : (g 4).toNat = 9 := by omega
      have hx : x = nbG (g 4).toNat q d9 B9 (bvG (g 2)) (g 3).toNat 9 j := by
        unfold nbG
        rw [if_pos eN.symm, ← u3 j (by omega), ← ejp, ← vrp]; omega
      rw [PfG_e qS]
      refine ⟨q, d9, B9, ⟨u1, uN, uY, uU, by omega⟩, ⟨u2, u3⟩, fun r c hr hc => ?_, u5, u6, ⟨u7, u8⟩, ?_⟩
      · have h5 := u4 r c hr hc
        rw [BGm_w (r0 := 9) rfl (by omega) r c hc (by omega)]
        by_cases e : r = 9 ∧ c = j
        · rw [if_pos (by omega), if_pos e, e.1, e.2]; exact hx
        · rw [if_neg e]
          by_cases e2 : (r : Int) < g 5 ∨ ((r : Int) = g 5 ∧ (c : Int) < g 6)
          · rw [if_pos e2] at h5; rw [if_pos (by omega)]; exact h5
          · rw [if_neg e2] at h5; rw [if_neg (by omega)]; exact h5
      · rcases u9 with q9 | q9 | q9
        · exact Or.inl q9
        · rw [n897] at q9; cases q9.1
        · rw [n897] at q9; cases q9.1), fun _ _ _ _ _ e0 e1 e2 e3 e4 => no9 n899 e4, fun _ _ _ e0 e1 e2 => no9 n882 e2, fun _ _ e0 e1 => no9 n882 e0, fun _ _ _ e0 e1 e2 => no9 n905 e0⟩, k_d, k_l, k_k, k_e, k_t, k_n, k_j⟩
end
