noncomputable section
/-! ===== THE GUARD, 90: writes ===== -/
def wu_Bu10 : Ru := ([(7, (0, (0, (0, 0)))), (8, (0, (0, (0, 0)))), (0, (883, (0, (0, 0)))), (0, (892, (0, (0, 0)))), (0, (893, (0, (0, 0)))), (0, (894, (0, (0, 0)))), (0, (895, (0, (0, 0)))), (0, (880, (0, (0, 0)))), (0, (881, (0, (0, 0)))), (0, (871, (0, (0, 0)))), (0, (872, (0, (0, 0)))), (0, (896, (0, (0, 0)))), (0, (850, (0, (0, 0)))), (0, (851, (0, (0, 0)))), (0, (852, (0, (0, 0)))), (0, (853, (0, (0, 0)))), (0, (854, (0, (0, 0)))), (0, (855, (0, (0, 0)))), (0, (856, (0, (0, 0)))), (0, (857, (0, (0, 0)))), (0, (858, (0, (0, 0)))), (9, (97, (3, (1, 0)))), (9, (97, (0, (1, 0)))), (9, (86, (0, (1, 0)))), (4, (0, (0, (7, 0)))), (9, (1000, (24, (1, 0))))], ([897, 882, 886, 887, 889, 891, 899, 905, 930, 931, 932, 933, 934, 935, 936, 937, 938, 939, 910, 911, 912, 913, 914, 915, 940, 941, 942, 943, 944, 945, 946, 947, 948, 949, 950, 951, 952, 953, 954, 955, 956, 957, 958, 959, 960, 961, 962, 963, 964, 965, 966, 967, 968, 969, 970, 971, 972, 973, 974, 920, 921, 922, 923, 924, 925, 926, 927, 928, 929], ([([(5, 1)], 10), ([(5, (-1))], (-10)), ([(4, (-1)), (5, 1)], (-1)), ([(0, 1), (6, (-1))], 0), ([(0, (-1)), (6, 1)], 0), ([(0, (-1))], 0), ([(0, 1)], 19), ([(12, 1), (21, (-1))], 0), ([(12, (-1)), (21, 1)], 0), ([(13, 1), (23, (-1))], 0), ([(13, (-1)), (23, 1)], 0), ([(11, (-1)), (15, 1)], 0), ([(11, 1), (15, (-1))], 0), ([(16, 1), (22, (-1))], 0), ([(16, (-1)), (22, 1)], 0), ([(14, (-1)), (17, 1), (18, 1)], 0), ([(14, 1), (17, (-1)), (18, (-1))], 0), ([(19, 1), (25, (-1))], 0), ([(19, (-1)), (25, 1)], 0), ([(1, 1), (20, (-1))], 0), ([(1, (-1)), (20, 1)], 0)], (false, ([], ([], ([(895, some (6, 1)), (850, none), (851, none), (852, none), (853, none), (854, none), (855, none), (856, none), (857, none), (858, none), (869, none)], none)))))))
theorem wk_Bu10 : WrOk SGd 86 wu_Bu10 := by
  intro τ m g j x hi hc ha hS
  obtain ⟨i0, i1, i2, i3, i4, i5, i6, i7, i8, i9, i10, i11, i12, i13, i14, i15, i16, i17, i18, i19, i20, i21, i22, i23, i24, i25, _⟩ := hi
  have xp : g 0 = (j : Int) := i0
  have xv : g 1 = x := i1
  have t883 : τ 883 = some (g 2) := i2
  have t892 : τ 892 = some (g 3) := i3
  have t893 : τ 893 = some (g 4) := i4
  have t894 : τ 894 = some (g 5) := i5
  have t895 : τ 895 = some (g 6) := i6
  have t880 : τ 880 = some (g 7) := i7
  have t881 : τ 881 = some (g 8) := i8
  have t871 : τ 871 = some (g 9) := i9
  have t872 : τ 872 = some (g 10) := i10
  have t896 : τ 896 = some (g 11) := i11
  have t850 : τ 850 = some (g 12) := i12
  have t851 : τ 851 = some (g 13) := i13
  have t852 : τ 852 = some (g 14) := i14
  have t853 : τ 853 = some (g 15) := i15
  have t854 : τ 854 = some (g 16) := i16
  have t855 : τ 855 = some (g 17) := i17
  have t856 : τ 856 = some (g 18) := i18
  have t857 : τ 857 = some (g 19) := i19
  have t858 : τ 858 = some (g 20) := i20
  obtain ⟨jrl, url, vrl⟩ : ∃ j : Nat, 1 * g 3 + 0 = (j : Int) ∧ g 21 = m 97 j := i21
  obtain ⟨jrp, urp, vrp⟩ : ∃ j : Nat, 1 * g 0 + 0 = (j : Int) ∧ g 22 = m 97 j := i22
  obtain ⟨jy, uy, vy⟩ : ∃ j : Nat, 1 * g 0 + 0 = (j : Int) ∧ g 23 = m 86 j := i23
  have xjc : g 24 = 7 := i24
  obtain ⟨jd, ud, vd⟩ : ∃ j : Nat, 1 * g 24 + 0 = (j : Int) ∧ g 25 = m 1000 j := i25
  obtain ⟨c0, c1, c2, c3, c4, c5, c6, c7, c8, c9, c10, c11, c12, c13, c14, c15, c16, c17, c18, c19, c20, _⟩ := hc
  have c0 : 1 * g 5 ≤ 10 := d1 c0
  have c1 : (-1) * g 5 ≤ (-10) := d1 c1
  have c2 : (-1) * g 4 + 1 * g 5 ≤ (-1) := d2 c2
  have c3 : 1 * g 0 + (-1) * g 6 ≤ 0 := d2 c3
  have c4 : (-1) * g 0 + 1 * g 6 ≤ 0 := d2 c4
  have c5 : (-1) * g 0 ≤ 0 := d1 c5
  have c6 : 1 * g 0 ≤ 19 := d1 c6
  have c7 : 1 * g 12 + (-1) * g 21 ≤ 0 := d2 c7
  have c8 : (-1) * g 12 + 1 * g 21 ≤ 0 := d2 c8
  have c9 : 1 * g 13 + (-1) * g 23 ≤ 0 := d2 c9
  have c10 : (-1) * g 13 + 1 * g 23 ≤ 0 := d2 c10
  have c11 : (-1) * g 11 + 1 * g 15 ≤ 0 := d2 c11
  have c12 : 1 * g 11 + (-1) * g 15 ≤ 0 := d2 c12
  have c13 : 1 * g 16 + (-1) * g 22 ≤ 0 := d2 c13
  have c14 : (-1) * g 16 + 1 * g 22 ≤ 0 := d2 c14
  have c15 : (-1) * g 14 + 1 * g 17 + 1 * g 18 ≤ 0 := d3 c15
  have c16 : 1 * g 14 + (-1) * g 17 + (-1) * g 18 ≤ 0 := d3 c16
  have c17 : 1 * g 19 + (-1) * g 25 ≤ 0 := d2 c17
  have c18 : (-1) * g 19 + 1 * g 25 ≤ 0 := d2 c18
  have c19 : 1 * g 1 + (-1) * g 20 ≤ 0 := d2 c19
  have c20 : (-1) * g 1 + 1 * g 20 ≤ 0 := d2 c20
  obtain ⟨a0, a1, a2, a3, a4, a5, a6, a7, a8, a9, a10, a11, a12, a13, a14, a15, a16, a17, a18, a19, a20, a21, a22, a23, a24, a25, a26, a27, a28, a29, a30, a31, a32, a33, a34, a35, a36, a37, a38, a39, a40, a41, a42, a43, a44, a45, a46, a47, a48, a49, a50, a51, a52, a53, a54, a55, a56, a57, a58, a59, a60, a61, a62, a63, a64, a65, a66, a67, a68, _⟩ := ha
  have n897 : τ 897 = none := a0
  have n882 : τ 882 = none := a1
  have n886 : τ 886 = none := a2
  have n887 : τ 887 = none := a3
  have n889 : τ 889 = none := a4
  have n891 : τ 891 = none := a5
  have n899 : τ 899 = none := a6
  have n905 : τ 905 = none := a7
  have n930 : τ 930 = none := a8
  have n931 : τ 931 = none := a9
  have n932 : τ 932 = none := a10
  have n933 : τ 933 = none := a11
  have n934 : τ 934 = none := a12
  have n935 : τ 935 = none := a13
  have n936 : τ 936 = none := a14
  have n937 : τ 937 = none := a15
  have n938 : τ 938 = none := a16
  have n939 : τ 939 = none := a17
  have n910 : τ 910 = none := a18
  have n911 : τ 911 = none := a19
  have n912 : τ 912 = none := a20
  have n913 : τ 913 = none := a21
  have n914 : τ 914 = none := a22
  have n915 : τ 915 = none := a23
  have n940 : τ 940 = none := a24
  have n941 : τ 941 = none := a25
  have n942 : τ 942 = none := a26
  have n943 : τ 943 = none := a27
  have n944 : τ 944 = none := a28
  have n945 : τ 945 = none := a29
  have n946 : τ 946 = none := a30
  have n947 : τ 947 = none := a31
  have n948 : τ 948 = none := a32
  have n949 : τ 949 = none := a33
  have n950 : τ 950 = none := a34
  have n951 : τ 951 = none := a35
  have n952 : τ 952 = none := a36
  have n953 : τ 953 = none := a37
  have n954 : τ 954 = none := a38
  have n955 : τ 955 = none := a39
  have n956 : τ 956 = none := a40
  have n957 : τ 957 = none := a41
  have n958 : τ 958 = none := a42
  have n959 : τ 959 = none := a43
  have n960 : τ 960 = none := a44
  have n961 : τ 961 = none := a45
  have n962 : τ 962 = none := a46
  have n963 : τ 963 = none := a47
  have n964 : τ 964 = none := a48
  have n965 : τ 965 = none := a49
  have n966 : τ 966 = none := a50
  have n967 : τ 967 = none := a51
  have n968 : τ 968 = none := a52
  have n969 : τ 969 = none := a53
  have n970 : τ 970 = none := a54
  have n971 : τ 971 = none := a55
  have n972 : τ 972 = none := a56
  have n973 : τ 973 = none := a57
  have n974 : τ 974 = none := a58
  have n920 : τ 920 = none := a59
  have n921 : τ 921 = none := a60
  have n922 : τ 922 = none := a61
  have n923 : τ 923 = none := a62
  have n924 : τ 924 = none := a63
  have n925 : τ 925 = none := a64
  have n926 : τ 926 = none := a65
  have n927 : τ 927 = none := a66
  have n928 : τ 928 = none := a67
  have n929 : τ 929 = none := a68
  obtain ⟨⟨h_p1, h_p2, h_td⟩, k_b, k_q, k_c, k_d, k_l, k_k, k_e, k_t, k_n, k_j⟩ := hS
  have k_c0 := k_c
  obtain ⟨h_ga, h_in, h_ls, h_ld, h_w, h_rd, h_lead, h_ps, h_E, h_up, h_D, h_Z, h_s, h_sp⟩ := k_c0
  have k_b0 := k_b
  obtain ⟨h_bit, h_one, h_or, h_and, h_shr, h_m1, h_m2, h_dv, h_r1, h_r2, h_nz⟩ := k_b0
  have qS : eGS m (wrM m 86 j x) := ⟨fun _ => rfl, fun _ => rfl, fun _ => rfl⟩
  have qL : eGL m (wrM m 86 j x) := fun _ => rfl
  have qK : eGK m (wrM m 86 j x) := ⟨fun _ => rfl, rfl⟩
  have qM : eGM m (wrM m 86 j x) := fun _ => rfl
  have qP : eGP m (wrM m 86 j x) := rfl
  have qC : eGC m (wrM m 86 j x) := fun _ => rfl
  have k_q := e_q qS qP k_q
  have k_d := e_d qS k_d
  have k_l := e_l qS qL k_l
  have k_k := e_k qS qK k_k
  have k_e := e_e qK qM k_e
  have k_t := e_t qK qP k_t
  have k_n := e_n qS k_n
  have k_j := e_j qS qC k_j
  exact ⟨⟨h_p1, h_p2, h_td⟩, ⟨h_bit, h_one, h_or, h_and, h_shr, fun _ _ _ e0 e1 e2 => no9 (o := none) rfl e0, fun _ _ _ e0 e1 e2 => no9 (o := none) rfl e0, fun _ _ _ e0 e1 e2 => no9 (o := none) rfl e0, h_r1, h_r2, fun _ e0 => no9 (o := none) rfl e0⟩, k_q, ⟨(fun qa qb A I e0 e1 e2 e3 => by
      have e0 : g 9 = qa := Option.some.inj (t871.symm.trans e0)
      subst e0
      have e1 : g 10 = qb := Option.some.inj (t872.symm.trans e1)
      subst e1
      have e2 : g 7 = A := Option.some.inj (t880.symm.trans e2)
      subst e2
      have e3 : g 8 = I := Option.some.inj (t881.symm.trans e3)
      subst e3
      exact ⟨(h_ga _ _ _ _ t871 t872 t880 t881).1, fun e8 _ => no9 e8 t892⟩), h_in, h_ls, fun _ _ _ _ _ _ e0 e1 e2 e3 e4 e5 => no9 n899 e4, h_w, fun _ _ e0 e1 => no9 n886 e1, fun _ _ _ e0 e1 e2 => no9 n887 e1, fun _ _ _ _ e0 e1 e2 e3 => no9 n886 e1, fun _ _ _ e0 e1 e2 => no9 n886 e1, (fun qa qb A I w Y N U V e0 e1 e2 e3 e4 e5 e6 e7 e8 => by
      have e0 : g 9 = qa := Option.some.inj (t871.symm.trans e0)
      subst e0
      have e1 : g 10 = qb := Option.some.inj (t872.symm.trans e1)
      subst e1
      have e2 : g 7 = A := Option.some.inj (t880.symm.trans e2)
      subst e2
      have e3 : g 8 = I := Option.some.inj (t881.symm.trans e3)
      subst e3
      have e4 : g 2 = w := Option.some.inj (t883.symm.trans e4)
      subst e4
      have e5 : g 3 = Y := Option.some.inj (t892.symm.trans e5)
      subst e5
      have e6 : g 4 = N := Option.some.inj (t893.symm.trans e6)
      subst e6
      have e7 : g 5 = U := Option.some.inj (t894.symm.trans e7)
      subst e7
      have e8 : g 6 + 1 = V := Option.some.inj e8
      subst e8
      show UpG (wrM m 86 j x) (τ 896) (τ 897) (PfG (wrM m 86 j x) (g 9) (g 10) (g 7) (g 8)) (g 2) (g 3) (g 4) (g 5) (g 6 + 1)
      obtain ⟨q, d9, B9, ⟨u1, uN, uY, uU, uV⟩, ⟨u2, u3⟩, u4, u5, u6, ⟨u7, u8⟩, u9⟩ := (h_up _ _ _ _ _ _ _ _ _ t871 t872 t880 t881 t883 t892 t893 t894 t895)
      have hm1 := h_m1 _ _ _ t850 t851 t852
      have hm2 := h_m2 _ _ _ t853 t854 t855
      have hdv := h_dv _ _ _ t856 t857 t858
      have ejl : jrl = (g 3).toNat := by omega
      have ejp : jrp = j := by omega
      have ejy : jy = j := by omega
      have ejd : jd = 7 := by omega
      subst ejl ejd
      rw [ejp] at vrp
      rw [ejy] at vy
      have eU : (g 5).toNat = 10 := by omega
      have h4 := u4 10 j (by omega) (by omega)
      rw [if_neg (by omega)] at h4
      have h4 := h4 (by omega)
      have hB : BGm m 10 j = m 86 j := by unfold BGm; rw [if_pos (by omega)]
      have a1 : g 14 = g 21 * g 23 := by rw [hm1, show g 12 = g 21 by omega, show g 13 = g 23 by omega]
      have a2 : g 17 = g 11 * g 22 := by rw [hm2, show g 15 = g 11 by omega, show g 16 = g 22 by omega]
      have a3 : g 20 = (g 21 * g 23 - g 11 * g 22).tdiv (g 25) := by rw [hdv, show g 19 = g 25 by omega, show g 18 = g 14 - g 17 by omega, a1, a2]
      have u6' := u6 _ t896
      rw [eU] at u6'
      have hx : x = nbG (g 4).toNat q d9 B9 (bvG (g 2)) (g 3).toNat 10 j := by
        unfold nbG
        rw [if_neg (by omega), ← u3 (g 3).toNat (by omega), ← u3 j (by omega), ← h4, ← u6', ← u8, hB, ← vrl, ← vy, ← vrp, ← vd, ← a3]; omega
      rw [PfG_e qS]
      refine ⟨q, d9, B9, ⟨u1, uN, uY, uU, by omega⟩, ⟨u2, u3⟩, fun r c hr hc => ?_, u5, u6, ⟨u7, u8⟩, ?_⟩
      · have h5 := u4 r c hr hc
        rw [BGm_w (r0 := 10) rfl (by omega) r c hc (by omega)]
        by_cases e : r = 10 ∧ c = j
        · rw [if_pos (by omega), if_pos e, e.1, e.2]; exact hx
        · rw [if_neg e]
          by_cases e2 : (r : Int) < g 5 ∨ ((r : Int) = g 5 ∧ (c : Int) < g 6)
          · rw [if_pos e2] at h5; rw [if_pos (by omega)]; exact h5
          · rw [if_neg e2] at h5; rw [if_neg (by omega)]; exact h5
      · rcases u9 with q9 | q9 | q9
        · exact Or.inl q9
        · rw [n897] at q9; cases q9.1
        · rw [n897] at q9; cases q9.1), fun _ _ _ _ _ e0 e1 e2 e3 e4 => no9 n899 e4, fun _ _ _ e0 e1 e2 => no9 n882 e2, fun _ _ e0 e1 => no9 n882 e0, fun _ _ _ e0 e1 e2 => no9 n905 e0⟩, k_d, k_l, k_k, k_e, k_t, k_n, k_j⟩
def wu_Bl10 : Ru := ([(7, (0, (0, (0, 0)))), (8, (0, (0, (0, 0)))), (0, (883, (0, (0, 0)))), (0, (892, (0, (0, 0)))), (0, (893, (0, (0, 0)))), (0, (894, (0, (0, 0)))), (0, (895, (0, (0, 0)))), (0, (880, (0, (0, 0)))), (0, (881, (0, (0, 0)))), (0, (871, (0, (0, 0)))), (0, (872, (0, (0, 0)))), (9, (97, (0, (1, 0))))], ([896, 897, 882, 886, 887, 889, 891, 899, 905, 930, 931, 932, 933, 934, 935, 936, 937, 938, 939, 910, 911, 912, 913, 914, 915, 940, 941, 942, 943, 944, 945, 946, 947, 948, 949, 950, 951, 952, 953, 954, 955, 956, 957, 958, 959, 960, 961, 962, 963, 964, 965, 966, 967, 968, 969, 970, 971, 972, 973, 974, 920, 921, 922, 923, 924, 925, 926, 927, 928, 929], ([([(5, 1)], 10), ([(5, (-1))], (-10)), ([(4, (-1)), (5, 1)], 0), ([(4, 1), (5, (-1))], 0), ([(0, 1), (6, (-1))], 0), ([(0, (-1)), (6, 1)], 0), ([(0, (-1))], 0), ([(0, 1)], 19), ([(1, 1), (11, (-1))], 0), ([(1, (-1)), (11, 1)], 0)], (false, ([], ([], ([(895, some (6, 1))], none)))))))
theorem wk_Bl10 : WrOk SGd 86 wu_Bl10 := by
  intro τ m g j x hi hc ha hS
  obtain ⟨i0, i1, i2, i3, i4, i5, i6, i7, i8, i9, i10, i11, _⟩ := hi
  have xp : g 0 = (j : Int) := i0
  have xv : g 1 = x := i1
  have t883 : τ 883 = some (g 2) := i2
  have t892 : τ 892 = some (g 3) := i3
  have t893 : τ 893 = some (g 4) := i4
  have t894 : τ 894 = some (g 5) := i5
  have t895 : τ 895 = some (g 6) := i6
  have t880 : τ 880 = some (g 7) := i7
  have t881 : τ 881 = some (g 8) := i8
  have t871 : τ 871 = some (g 9) := i9
  have t872 : τ 872 = some (g 10) := i10
  obtain ⟨jrp, urp, vrp⟩ : ∃ j : Nat, 1 * g 0 + 0 = (j : Int) ∧ g 11 = m 97 j := i11
  obtain ⟨c0, c1, c2, c3, c4, c5, c6, c7, c8, c9, _⟩ := hc
  have c0 : 1 * g 5 ≤ 10 := d1 c0
  have c1 : (-1) * g 5 ≤ (-10) := d1 c1
  have c2 : (-1) * g 4 + 1 * g 5 ≤ 0 := d2 c2
  have c3 : 1 * g 4 + (-1) * g 5 ≤ 0 := d2 c3
  have c4 : 1 * g 0 + (-1) * g 6 ≤ 0 := d2 c4
  have c5 : (-1) * g 0 + 1 * g 6 ≤ 0 := d2 c5
  have c6 : (-1) * g 0 ≤ 0 := d1 c6
  have c7 : 1 * g 0 ≤ 19 := d1 c7
  have c8 : 1 * g 1 + (-1) * g 11 ≤ 0 := d2 c8
  have c9 : (-1) * g 1 + 1 * g 11 ≤ 0 := d2 c9
  obtain ⟨a0, a1, a2, a3, a4, a5, a6, a7, a8, a9, a10, a11, a12, a13, a14, a15, a16, a17, a18, a19, a20, a21, a22, a23, a24, a25, a26, a27, a28, a29, a30, a31, a32, a33, a34, a35, a36, a37, a38, a39, a40, a41, a42, a43, a44, a45, a46, a47, a48, a49, a50, a51, a52, a53, a54, a55, a56, a57, a58, a59, a60, a61, a62, a63, a64, a65, a66, a67, a68, a69, _⟩ := ha
  have n896 : τ 896 = none := a0
  have n897 : τ 897 = none := a1
  have n882 : τ 882 = none := a2
  have n886 : τ 886 = none := a3
  have n887 : τ 887 = none := a4
  have n889 : τ 889 = none := a5
  have n891 : τ 891 = none := a6
  have n899 : τ 899 = none := a7
  have n905 : τ 905 = none := a8
  have n930 : τ 930 = none := a9
  have n931 : τ 931 = none := a10
  have n932 : τ 932 = none := a11
  have n933 : τ 933 = none := a12
  have n934 : τ 934 = none := a13
  have n935 : τ 935 = none := a14
  have n936 : τ 936 = none := a15
  have n937 : τ 937 = none := a16
  have n938 : τ 938 = none := a17
  have n939 : τ 939 = none := a18
  have n910 : τ 910 = none := a19
  have n911 : τ 911 = none := a20
  have n912 : τ 912 = none := a21
  have n913 : τ 913 = none := a22
  have n914 : τ 914 = none := a23
  have n915 : τ 915 = none := a24
  have n940 : τ 940 = none := a25
  have n941 : τ 941 = none := a26
  have n942 : τ 942 = none := a27
  have n943 : τ 943 = none := a28
  have n944 : τ 944 = none := a29
  have n945 : τ 945 = none := a30
  have n946 : τ 946 = none := a31
  have n947 : τ 947 = none := a32
  have n948 : τ 948 = none := a33
  have n949 : τ 949 = none := a34
  have n950 : τ 950 = none := a35
  have n951 : τ 951 = none := a36
  have n952 : τ 952 = none := a37
  have n953 : τ 953 = none := a38
  have n954 : τ 954 = none := a39
  have n955 : τ 955 = none := a40
  have n956 : τ 956 = none := a41
  have n957 : τ 957 = none := a42
  have n958 : τ 958 = none := a43
  have n959 : τ 959 = none := a44
  have n960 : τ 960 = none := a45
  have n961 : τ 961 = none := a46
  have n962 : τ 962 = none := a47
  have n963 : τ 963 = none := a48
  have n964 : τ 964 = none := a49
  have n965 : τ 965 = none := a50
  have n966 : τ 966 = none := a51
  have n967 : τ 967 = none := a52
  have n968 : τ 968 = none := a53
  have n969 : τ 969 = none := a54
  have n970 : τ 970 = none := a55
  have n971 : τ 971 = none := a56
  have n972 : τ 972 = none := a57
  have n973 : τ 973 = none := a58
  have n974 : τ 974 = none := a59
  have n920 : τ 920 = none := a60
  have n921 : τ 921 = none := a61
  have n922 : τ 922 = none := a62
  have n923 : τ 923 = none := a63
  have n924 : τ 924 = none := a64
  have n925 : τ 925 = none := a65
  have n926 : τ 926 = none := a66
  have n927 : τ 927 = none := a67
  have n928 : τ 928 = none := a68
  have n929 : τ 929 = none := a69
  obtain ⟨⟨h_p1, h_p2, h_td⟩, k_b, k_q, k_c, k_d, k_l, k_k, k_e, k_t, k_n, k_j⟩ := hS
  have k_c0 := k_c
  obtain ⟨h_ga, h_in, h_ls, h_ld, h_w, h_rd, h_lead, h_ps, h_E, h_up, h_D, h_Z, h_s, h_sp⟩ := k_c0
  have qS : eGS m (wrM m 86 j x) := ⟨fun _ => rfl, fun _ => rfl, fun _ => rfl⟩
  have qL : eGL m (wrM m 86 j x) := fun _ => rfl
  have qK : eGK m (wrM m 86 j x) := ⟨fun _ => rfl, rfl⟩
  have qM : eGM m (wrM m 86 j x) := fun _ => rfl
  have qP : eGP m (wrM m 86 j x) := rfl
  have qC : eGC m (wrM m 86 j x) := fun _ => rfl
  have k_q := e_q qS qP k_q
  have k_d := e_d qS k_d
  have k_l := e_l qS qL k_l
  have k_k := e_k qS qK k_k
  have k_e := e_e qK qM k_e
  have k_t := e_t qK qP k_t
  have k_n := e_n qS k_n
  have k_j := e_j qS qC k_j
  exact ⟨⟨h_p1, h_p2, h_td⟩, k_b, k_q, ⟨(fun qa qb A I e0 e1 e2 e3 => by
      have e0 : g 9 = qa := Option.some.inj (t871.symm.trans e0)
      subst e0
      have e1 : g 10 = qb := Option.some.inj (t872.symm.trans e1)
      subst e1
      have e2 : g 7 = A := Option.some.inj (t880.symm.trans e2)
      subst e2
      have e3 : g 8 = I := Option.some.inj (t881.symm.trans e3)
      subst e3
      exact ⟨(h_ga _ _ _ _ t871 t872 t880 t881).1, fun e8 _ => no9 e8 t892⟩), h_in, h_ls, fun _ _ _ _ _ _ e0 e1 e2 e3 e4 e5 => no9 n899 e4, h_w, fun _ _ e0 e1 => no9 n886 e1, fun _ _ _ e0 e1 e2 => no9 n887 e1, fun _ _ _ _ e0 e1 e2 e3 => no9 n886 e1, fun _ _ _ e0 e1 e2 => no9 n886 e1, (fun qa qb A I w Y N U V e0 e1 e2 e3 e4 e5 e6 e7 e8 => by
      have e0 : g 9 = qa := Option.some.inj (t871.symm.trans e0)
      subst e0
      have e1 : g 10 = qb := Option.some.inj (t872.symm.trans e1)
      subst e1
      have e2 : g 7 = A := Option.some.inj (t880.symm.trans e2)
      subst e2
      have e3 : g 8 = I := Option.some.inj (t881.symm.trans e3)
      subst e3
      have e4 : g 2 = w := Option.some.inj (t883.symm.trans e4)
      subst e4
      have e5 : g 3 = Y := Option.some.inj (t892.symm.trans e5)
      subst e5
      have e6 : g 4 = N := Option.some.inj (t893.symm.trans e6)
      subst e6
      have e7 : g 5 = U := Option.some.inj (t894.symm.trans e7)
      subst e7
      have e8 : g 6 + 1 = V := Option.some.inj e8
      subst e8
      show UpG (wrM m 86 j x) (τ 896) (τ 897) (PfG (wrM m 86 j x) (g 9) (g 10) (g 7) (g 8)) (g 2) (g 3) (g 4) (g 5) (g 6 + 1)
      obtain ⟨q, d9, B9, ⟨u1, uN, uY, uU, uV⟩, ⟨u2, u3⟩, u4, u5, u6, ⟨u7, u8⟩, u9⟩ := (h_up _ _ _ _ _ _ _ _ _ t871 t872 t880 t881 t883 t892 t893 t894 t895)
      have ejp : jrp = j := by omega
      have eN : (g 4).toNat = 10 := by omega
      have hx : x = nbG (g 4).toNat q d9 B9 (bvG (g 2)) (g 3).toNat 10 j := by
        unfold nbG
        rw [if_pos eN.symm, ← u3 j (by omega), ← ejp, ← vrp]; omega
      rw [PfG_e qS]
      refine ⟨q, d9, B9, ⟨u1, uN, uY, uU, by omega⟩, ⟨u2, u3⟩, fun r c hr hc => ?_, u5, u6, ⟨u7, u8⟩, ?_⟩
      · have h5 := u4 r c hr hc
        rw [BGm_w (r0 := 10) rfl (by omega) r c hc (by omega)]
        by_cases e : r = 10 ∧ c = j
        · rw [if_pos (by omega), if_pos e, e.1, e.2]; exact hx
        · rw [if_neg e]
          by_cases e2 : (r : Int) < g 5 ∨ ((r : Int) = g 5 ∧ (c : Int) < g 6)
          · rw [if_pos e2] at h5; rw [if_pos (by omega)]; exact h5
          · rw [if_neg e2] at h5; rw [if_neg (by omega)]; exact h5
      · rcases u9 with q9 | q9 | q9
        · exact Or.inl q9
        · rw [n897] at q9; cases q9.1
        · rw [n897] at q9; cases q9.1), fun _ _ _ _ _ e0 e1 e2 e3 e4 => no9 n899 e4, fun _ _ _ e0 e1 e2 => no9 n882 e2, fun _ _ e0 e1 => no9 n882 e0, fun _ _ _ e0 e1 e2 => no9 n905 e0⟩, k_d, k_l, k_k, k_e, k_t, k_n, k_j⟩
def wu_Bu11 : Ru := ([(7, (0, (0, (0, 0)))), (8, (0, (0, (0, 0)))), (0, (883, (0, (0, 0)))), (0, (892, (0, (0, 0)))), (0, (893, (0, (0, 0)))), (0, (894, (0, (0, 0)))), (0, (895, (0, (0, 0)))), (0, (880, (0, (0, 0)))), (0, (881, (0, (0, 0)))), (0, (871, (0, (0, 0)))), (0, (872, (0, (0, 0)))), (0, (896, (0, (0, 0)))), (0, (850, (0, (0, 0)))), (0, (851, (0, (0, 0)))), (0, (852, (0, (0, 0)))), (0, (853, (0, (0, 0)))), (0, (854, (0, (0, 0)))), (0, (855, (0, (0, 0)))), (0, (856, (0, (0, 0)))), (0, (857, (0, (0, 0)))), (0, (858, (0, (0, 0)))), (9, (97, (3, (1, 0)))), (9, (97, (0, (1, 0)))), (9, (87, (0, (1, 0)))), (4, (0, (0, (7, 0)))), (9, (1000, (24, (1, 0))))], ([897, 882, 886, 887, 889, 891, 899, 905, 930, 931, 932, 933, 934, 935, 936, 937, 938, 939, 910, 911, 912, 913, 914, 915, 940, 941, 942, 943, 944, 945, 946, 947, 948, 949, 950, 951, 952, 953, 954, 955, 956, 957, 958, 959, 960, 961, 962, 963, 964, 965, 966, 967, 968, 969, 970, 971, 972, 973, 974, 920, 921, 922, 923, 924, 925, 926, 927, 928, 929], ([([(5, 1)], 11), ([(5, (-1))], (-11)), ([(4, (-1)), (5, 1)], (-1)), ([(0, 1), (6, (-1))], 0), ([(0, (-1)), (6, 1)], 0), ([(0, (-1))], 0), ([(0, 1)], 19), ([(12, 1), (21, (-1))], 0), ([(12, (-1)), (21, 1)], 0), ([(13, 1), (23, (-1))], 0), ([(13, (-1)), (23, 1)], 0), ([(11, (-1)), (15, 1)], 0), ([(11, 1), (15, (-1))], 0), ([(16, 1), (22, (-1))], 0), ([(16, (-1)), (22, 1)], 0), ([(14, (-1)), (17, 1), (18, 1)], 0), ([(14, 1), (17, (-1)), (18, (-1))], 0), ([(19, 1), (25, (-1))], 0), ([(19, (-1)), (25, 1)], 0), ([(1, 1), (20, (-1))], 0), ([(1, (-1)), (20, 1)], 0)], (false, ([], ([], ([(895, some (6, 1)), (850, none), (851, none), (852, none), (853, none), (854, none), (855, none), (856, none), (857, none), (858, none), (869, none)], none)))))))
theorem wk_Bu11 : WrOk SGd 87 wu_Bu11 := by
  intro τ m g j x hi hc ha hS
  obtain ⟨i0, i1, i2, i3, i4, i5, i6, i7, i8, i9, i10, i11, i12, i13, i14, i15, i16, i17, i18, i19, i20, i21, i22, i23, i24, i25, _⟩ := hi
  have xp : g 0 = (j : Int) := i0
  have xv : g 1 = x := i1
  have t883 : τ 883 = some (g 2) := i2
  have t892 : τ 892 = some (g 3) := i3
  have t893 : τ 893 = some (g 4) := i4
  have t894 : τ 894 = some (g 5) := i5
  have t895 : τ 895 = some (g 6) := i6
  have t880 : τ 880 = some (g 7) := i7
  have t881 : τ 881 = some (g 8) := i8
  have t871 : τ 871 = some (g 9) := i9
  have t872 : τ 872 = some (g 10) := i10
  have t896 : τ 896 = some (g 11) := i11
  have t850 : τ 850 = some (g 12) := i12
  have t851 : τ 851 = some (g 13) := i13
  have t852 : τ 852 = some (g 14) := i14
  have t853 : τ 853 = some (g 15) := i15
  have t854 : τ 854 = some (g 16) := i16
  have t855 : τ 855 = some (g 17) := i17
  have t856 : τ 856 = some (g 18) := i18
  have t857 : τ 857 = some (g 19) := i19
  have t858 : τ 858 = some (g 20) := i20
  obtain ⟨jrl, url, vrl⟩ : ∃ j : Nat, 1 * g 3 + 0 = (j : Int) ∧ g 21 = m 97 j := i21
  obtain ⟨jrp, urp, vrp⟩ : ∃ j : Nat, 1 * g 0 + 0 = (j : Int) ∧ g 22 = m 97 j := i22
  obtain ⟨jy, uy, vy⟩ : ∃ j : Nat, 1 * g 0 + 0 = (j : Int) ∧ g 23 = m 87 j := i23
  have xjc : g 24 = 7 := i24
  obtain ⟨jd, ud, vd⟩ : ∃ j : Nat, 1 * g 24 + 0 = (j : Int) ∧ g 25 = m 1000 j := i25
  obtain ⟨c0, c1, c2, c3, c4, c5, c6, c7, c8, c9, c10, c11, c12, c13, c14, c15, c16, c17, c18, c19, c20, _⟩ := hc
  have c0 : 1 * g 5 ≤ 11 := d1 c0
  have c1 : (-1) * g 5 ≤ (-11) := d1 c1
  have c2 : (-1) * g 4 + 1 * g 5 ≤ (-1) := d2 c2
  have c3 : 1 * g 0 + (-1) * g 6 ≤ 0 := d2 c3
  have c4 : (-1) * g 0 + 1 * g 6 ≤ 0 := d2 c4
  have c5 : (-1) * g 0 ≤ 0 := d1 c5
  have c6 : 1 * g 0 ≤ 19 := d1 c6
  have c7 : 1 * g 12 + (-1) * g 21 ≤ 0 := d2 c7
  have c8 : (-1) * g 12 + 1 * g 21 ≤ 0 := d2 c8
  have c9 : 1 * g 13 + (-1) * g 23 ≤ 0 := d2 c9
  have c10 : (-1) * g 13 + 1 * g 23 ≤ 0 := d2 c10
  have c11 : (-1) * g 11 + 1 * g 15 ≤ 0 := d2 c11
  have c12 : 1 * g 11 + (-1) * g 15 ≤ 0 := d2 c12
  have c13 : 1 * g 16 + (-1) * g 22 ≤ 0 := d2 c13
  have c14 : (-1) * g 16 + 1 * g 22 ≤ 0 := d2 c14
  have c15 : (-1) * g 14 + 1 * g 17 + 1 * g 18 ≤ 0 := d3 c15
  have c16 : 1 * g 14 + (-1) * g 17 + (-1) * g 18 ≤ 0 := d3 c16
  have c17 : 1 * g 19 + (-1) * g 25 ≤ 0 := d2 c17
  have c18 : (-1) * g 19 + 1 * g 25 ≤ 0 := d2 c18
  have c19 : 1 * g 1 + (-1) * g 20 ≤ 0 := d2 c19
  have c20 : (-1) * g 1 + 1 * g 20 ≤ 0 := d2 c20
  obtain ⟨a0, a1, a2, a3, a4, a5, a6, a7, a8, a9, a10, a11, a12, a13, a14, a15, a16, a17, a18, a19, a20, a21, a22, a23, a24, a25, a26, a27, a28, a29, a30, a31, a32, a33, a34, a35, a36, a37, a38, a39, a40, a41, a42, a43, a44, a45, a46, a47, a48, a49, a50, a51, a52, a53, a54, a55, a56, a57, a58, a59, a60, a61, a62, a63, a64, a65, a66, a67, a68, _⟩ := ha
  have n897 : τ 897 = none := a0
  have n882 : τ 882 = none := a1
  have n886 : τ 886 = none := a2
  have n887 : τ 887 = none := a3
  have n889 : τ 889 = none := a4
  have n891 : τ 891 = none := a5
  have n899 : τ 899 = none := a6
  have n905 : τ 905 = none := a7
  have n930 : τ 930 = none := a8
  have n931 : τ 931 = none := a9
  have n932 : τ 932 = none := a10
  have n933 : τ 933 = none := a11
  have n934 : τ 934 = none := a12
  have n935 : τ 935 = none := a13
  have n936 : τ 936 = none := a14
  have n937 : τ 937 = none := a15
  have n938 : τ 938 = none := a16
  have n939 : τ 939 = none := a17
  have n910 : τ 910 = none := a18
  have n911 : τ 911 = none := a19
  have n912 : τ 912 = none := a20
  have n913 : τ 913 = none := a21
  have n914 : τ 914 = none := a22
  have n915 : τ 915 = none := a23
  have n940 : τ 940 = none := a24
  have n941 : τ 941 = none := a25
  have n942 : τ 942 = none := a26
  have n943 : τ 943 = none := a27
  have n944 : τ 944 = none := a28
  have n945 : τ 945 = none := a29
  have n946 : τ 946 = none := a30
  have n947 : τ 947 = none := a31
  have n948 : τ 948 = none := a32
  have n949 : τ 949 = none := a33
  have n950 : τ 950 = none := a34
  have n951 : τ 951 = none := a35
  have n952 : τ 952 = none := a36
  have n953 : τ 953 = none := a37
  have n954 : τ 954 = none := a38
  have n955 : τ 955 = none := a39
  have n956 : τ 956 = none := a40
  have n957 : τ 957 = none := a41
  have n958 : τ 958 = none := a42
  have n959 : τ 959 = none := a43
  have n960 : τ 960 = none := a44
  have n961 : τ 961 = none := a45
  have n962 : τ 962 = none := a46
  have n963 : τ 963 = none := a47
  have n964 : τ 964 = none := a48
  have n965 : τ 965 = none := a49
  have n966 : τ 966 = none := a50
  have n967 : τ 967 = none := a51
  have n968 : τ 968 = none := a52
  have n969 : τ 969 = none := a53
  have n970 : τ 970 = none := a54
  have n971 : τ 971 = none := a55
  have n972 : τ 972 = none := a56
  have n973 : τ 973 = none := a57
  have n974 : τ 974 = none := a58
  have n920 : τ 920 = none := a59
  have n921 : τ 921 = none := a60
  have n922 : τ 922 = none := a61
  have n923 : τ 923 = none := a62
  have n924 : τ 924 = none := a63
  have n925 : τ 925 = none := a64
  have n926 : τ 926 = none := a65
  have n927 : τ 927 = none := a66
  have n928 : τ 928 = none := a67
  have n929 : τ 929 = none := a68
  obtain ⟨⟨h_p1, h_p2, h_td⟩, k_b, k_q, k_c, k_d, k_l, k_k, k_e, k_t, k_n, k_j⟩ := hS
  have k_c0 := k_c
  obtain ⟨h_ga, h_in, h_ls, h_ld, h_w, h_rd, h_lead, h_ps, h_E, h_up, h_D, h_Z, h_s, h_sp⟩ := k_c0
  have k_b0 := k_b
  obtain ⟨h_bit, h_one, h_or, h_and, h_shr, h_m1, h_m2, h_dv, h_r1, h_r2, h_nz⟩ := k_b0
  have qS : eGS m (wrM m 87 j x) := ⟨fun _ => rfl, fun _ => rfl, fun _ => rfl⟩
  have qL : eGL m (wrM m 87 j x) := fun _ => rfl
  have qK : eGK m (wrM m 87 j x) := ⟨fun _ => rfl, rfl⟩
  have qM : eGM m (wrM m 87 j x) := fun _ => rfl
  have qP : eGP m (wrM m 87 j x) := rfl
  have qC : eGC m (wrM m 87 j x) := fun _ => rfl
  have k_q := e_q qS qP k_q
  have k_d := e_d qS k_d
  have k_l := e_l qS qL k_l
  have k_k := e_k qS qK k_k
  have k_e := e_e qK qM k_e
  have k_t := e_t qK qP k_t
  have k_n := e_n qS k_n
  have k_j := e_j qS qC k_j
  exact ⟨⟨h_p1, h_p2, h_td⟩, ⟨h_bit, h_one, h_or, h_and, h_shr, fun _ _ _ e0 e1 e2 => no9 (o := none) rfl e0, fun _ _ _ e0 e1 e2 => no9 (o := none) rfl e0, fun _ _ _ e0 e1 e2 => no9 (o := none) rfl e0, h_r1, h_r2, fun _ e0 => no9 (o := none) rfl e0⟩, k_q, ⟨(fun qa qb A I e0 e1 e2 e3 => by
      have e0 : g 9 = qa := Option.some.inj (t871.symm.trans e0)
      subst e0
      have e1 : g 10 = qb := Option.some.inj (t872.symm.trans e1)
      subst e1
      have e2 : g 7 = A := Option.some.inj (t880.symm.trans e2)
      subst e2
      have e3 : g 8 = I := Option.some.inj (t881.symm.trans e3)
      subst e3
      exact ⟨(h_ga _ _ _ _ t871 t872 t880 t881).1, fun e8 _ => no9 e8 t892⟩), h_in, h_ls, fun _ _ _ _ _ _ e0 e1 e2 e3 e4 e5 => no9 n899 e4, h_w, fun _ _ e0 e1 => no9 n886 e1, fun _ _ _ e0 e1 e2 => no9 n887 e1, fun _ _ _ _ e0 e1 e2 e3 => no9 n886 e1, fun _ _ _ e0 e1 e2 => no9 n886 e1, (fun qa qb A I w Y N U V e0 e1 e2 e3 e4 e5 e6 e7 e8 => by
      have e0 : g 9 = qa := Option.some.inj (t871.symm.trans e0)
      subst e0
      have e1 : g 10 = qb := Option.some.inj (t872.symm.trans e1)
      subst e1
      have e2 : g 7 = A := Option.some.inj (t880.symm.trans e2)
      subst e2
      have e3 : g 8 = I := Option.some.inj (t881.symm.trans e3)
      subst e3
      have e4 : g 2 = w := Option.some.inj (t883.symm.trans e4)
      subst e4
      have e5 : g 3 = Y := Option.some.inj (t892.symm.trans e5)
      subst e5
      have e6 : g 4 = N := Option.some.inj (t893.symm.trans e6)
      subst e6
      have e7 : g 5 = U := Option.some.inj (t894.symm.trans e7)
      subst e7
      have e8 : g 6 + 1 = V := Option.some.inj e8
      subst e8
      show UpG (wrM m 87 j x) (τ 896) (τ 897) (PfG (wrM m 87 j x) (g 9) (g 10) (g 7) (g 8)) (g 2) (g 3) (g 4) (g 5) (g 6 + 1)
      obtain ⟨q, d9, B9, ⟨u1, uN, uY, uU, uV⟩, ⟨u2, u3⟩, u4, u5, u6, ⟨u7, u8⟩, u9⟩ := (h_up _ _ _ _ _ _ _ _ _ t871 t872 t880 t881 t883 t892 t893 t894 t895)
      have hm1 := h_m1 _ _ _ t850 t851 t852
      have hm2 := h_m2 _ _ _ t853 t854 t855
      have hdv := h_dv _ _ _ t856 t857 t858
      have ejl : jrl = (g 3).toNat := by omega
      have ejp : jrp = j := by omega
      have ejy : jy = j := by omega
      have ejd : jd = 7 := by omega
      subst ejl ejd
      rw [ejp] at vrp
      rw [ejy] at vy
      have eU : (g 5).toNat = 11 := by omega
      have h4 := u4 11 j (by omega) (by omega)
      rw [if_neg (by omega)] at h4
      have h4 := h4 (by omega)
      have hB : BGm m 11 j = m 87 j := by unfold BGm; rw [if_pos (by omega)]
      have a1 : g 14 = g 21 * g 23 := by rw [hm1, show g 12 = g 21 by omega, show g 13 = g 23 by omega]
      have a2 : g 17 = g 11 * g 22 := by rw [hm2, show g 15 = g 11 by omega, show g 16 = g 22 by omega]
      have a3 : g 20 = (g 21 * g 23 - g 11 * g 22).tdiv (g 25) := by rw [hdv, show g 19 = g 25 by omega, show g 18 = g 14 - g 17 by omega, a1, a2]
      have u6' := u6 _ t896
      rw [eU] at u6'
      have hx : x = nbG (g 4).toNat q d9 B9 (bvG (g 2)) (g 3).toNat 11 j := by
        unfold nbG
        rw [if_neg (by omega), ← u3 (g 3).toNat (by omega), ← u3 j (by omega), ← h4, ← u6', ← u8, hB, ← vrl, ← vy, ← vrp, ← vd, ← a3]; omega
      rw [PfG_e qS]
      refine ⟨q, d9, B9, ⟨u1, uN, uY, uU, by omega⟩, ⟨u2, u3⟩, fun r c hr hc => ?_, u5, u6, ⟨u7, u8⟩, ?_⟩
      · have h5 := u4 r c hr hc
        rw [BGm_w (r0 := 11) rfl (by omega) r c hc (by omega)]
        by_cases e : r = 11 ∧ c = j
        · rw [if_pos (by omega), if_pos e, e.1, e.2]; exact hx
        · rw [if_neg e]
          by_cases e2 : (r : Int) < g 5 ∨ ((r : Int) = g 5 ∧ (c : Int) < g 6)
          · rw [if_pos e2] at h5; rw [if_pos (by omega)]; exact h5
          · rw [if_neg e2] at h5; rw [if_neg (by omega)]; exact h5
      · rcases u9 with q9 | q9 | q9
        · exact Or.inl q9
        · rw [n897] at q9; cases q9.1
        · rw [n897] at q9; cases q9.1), fun _ _ _ _ _ e0 e1 e2 e3 e4 => no9 n899 e4, fun _ _ _ e0 e1 e2 => no9 n882 e2, fun _ _ e0 e1 => no9 n882 e0, fun _ _ _ e0 e1 e2 => no9 n905 e0⟩, k_d, k_l, k_k, k_e, k_t, k_n, k_j⟩
def wu_Bl11 : Ru := ([(7, (0, (0, (0, 0)))), (8, (0, (0, (0, 0)))), (0, (883, (0, (0, 0)))), (0, (892, (0, (0, 0)))), (0, (893, (0, (0, 0)))), (0, (894, (0, (0, 0)))), (0, (895, (0, (0, 0)))), (0, (880, (0, (0, 0)))), (0, (881, (0, (0, 0)))), (0, (871, (0, (0, 0)))), (0, (872, (0, (0, 0)))), (9, (97, (0, (1, 0))))], ([896, 897, 882, 886, 887, 889, 891, 899, 905, 930, 931, 932, 933, 934, 935, 936, 937, 938, 939, 910, 911, 912, 913, 914, 915, 940, 941, 942, 943, 944, 945, 946, 947, 948, 949, 950, 951, 952, 953, 954, 955, 956, 957, 958, 959, 960, 961, 962, 963, 964, 965, 966, 967, 968, 969, 970, 971, 972, 973, 974, 920, 921, 922, 923, 924, 925, 926, 927, 928, 929], ([([(5, 1)], 11), ([(5, (-1))], (-11)), ([(4, (-1)), (5, 1)], 0), ([(4, 1), (5, (-1))], 0), ([(0, 1), (6, (-1))], 0), ([(0, (-1)), (6, 1)], 0), ([(0, (-1))], 0), ([(0, 1)], 19), ([(1, 1), (11, (-1))], 0), ([(1, (-1)), (11, 1)], 0)], (false, ([], ([], ([(895, some (6, 1))], none)))))))
theorem wk_Bl11 : WrOk SGd 87 wu_Bl11 := by
  intro τ m g j x hi hc ha hS
  obtain ⟨i0, i1, i2, i3, i4, i5, i6, i7, i8, i9, i10, i11, _⟩ := hi
  have xp : g 0 = (j : Int) := i0
  have xv : g 1 = x := i1
  have t883 : τ 883 = some (g 2) := i2
  have t892 : τ 892 = some (g 3) := i3
  have t893 : τ 893 = some (g 4) := i4
  have t894 : τ 894 = some (g 5) := i5
  have t895 : τ 895 = some (g 6) := i6
  have t880 : τ 880 = some (g 7) := i7
  have t881 : τ 881 = some (g 8) := i8
  have t871 : τ 871 = some (g 9) := i9
  have t872 : τ 872 = some (g 10) := i10
  obtain ⟨jrp, urp, vrp⟩ : ∃ j : Nat, 1 * g 0 + 0 = (j : Int) ∧ g 11 = m 97 j := i11
  obtain ⟨c0, c1, c2, c3, c4, c5, c6, c7, c8, c9, _⟩ := hc
  have c0 : 1 * g 5 ≤ 11 := d1 c0
  have c1 : (-1) * g 5 ≤ (-11) := d1 c1
  have c2 : (-1) * g 4 + 1 * g 5 ≤ 0 := d2 c2
  have c3 : 1 * g 4 + (-1) * g 5 ≤ 0 := d2 c3
  have c4 : 1 * g 0 + (-1) * g 6 ≤ 0 := d2 c4
  have c5 : (-1) * g 0 + 1 * g 6 ≤ 0 := d2 c5
  have c6 : (-1) * g 0 ≤ 0 := d1 c6
  have c7 : 1 * g 0 ≤ 19 := d1 c7
  have c8 : 1 * g 1 + (-1) * g 11 ≤ 0 := d2 c8
  have c9 : (-1) * g 1 + 1 * g 11 ≤ 0 := d2 c9
  obtain ⟨a0, a1, a2, a3, a4, a5, a6, a7, a8, a9, a10, a11, a12, a13, a14, a15, a16, a17, a18, a19, a20, a21, a22, a23, a24, a25, a26, a27, a28, a29, a30, a31, a32, a33, a34, a35, a36, a37, a38, a39, a40, a41, a42, a43, a44, a45, a46, a47, a48, a49, a50, a51, a52, a53, a54, a55, a56, a57, a58, a59, a60, a61, a62, a63, a64, a65, a66, a67, a68, a69, _⟩ := ha
  have n896 : τ 896 = none := a0
  have n897 : τ 897 = none := a1
  have n882 : τ 882 = none := a2
  have n886 : τ 886 = none := a3
  have n887 : τ 887 = none := a4
  have n889 : τ 889 = none := a5
  have n891 : τ 891 = none := a6
  have n899 : τ 899 = none := a7
  have n905 : τ 905 = none := a8
  have n930 : τ 930 = none := a9
  have n931 : τ 931 = none := a10
  have n932 : τ 932 = none := a11
  have n933 : τ 933 = none := a12
  have n934 : τ 934 = none := a13
  have n935 : τ 935 = none := a14
  have n936 : τ 936 = none := a15
  have n937 : τ 937 = none := a16
  have n938 : τ 938 = none := a17
  have n939 : τ 939 = none := a18
  have n910 : τ 910 = none := a19
  have n911 : τ 911 = none := a20
  have n912 : τ 912 = none := a21
  have n913 : τ 913 = none := a22
  have n914 : τ 914 = none := a23
  have n915 : τ 915 = none := a24
  have n940 : τ 940 = none := a25
  have n941 : τ 941 = none := a26
  have n942 : τ 942 = none := a27
  have n943 : τ 943 = none := a28
  have n944 : τ 944 = none := a29
  have n945 : τ 945 = none := a30
  have n946 : τ 946 = none := a31
  have n947 : τ 947 = none := a32
  have n948 : τ 948 = none := a33
  have n949 : τ 949 = none := a34
  have n950 : τ 950 = none := a35
  have n951 : τ 951 = none := a36
  have n952 : τ 952 = none := a37
  have n953 : τ 953 = none := a38
  have n954 : τ 954 = none := a39
  have n955 : τ 955 = none := a40
  have n956 : τ 956 = none := a41
  have n957 : τ 957 = none := a42
  have n958 : τ 958 = none := a43
  have n959 : τ 959 = none := a44
  have n960 : τ 960 = none := a45
  have n961 : τ 961 = none := a46
  have n962 : τ 962 = none := a47
  have n963 : τ 963 = none := a48
  have n964 : τ 964 = none := a49
  have n965 : τ 965 = none := a50
  have n966 : τ 966 = none := a51
  have n967 : τ 967 = none := a52
  have n968 : τ 968 = none := a53
  have n969 : τ 969 = none := a54
  have n970 : τ 970 = none := a55
  have n971 : τ 971 = none := a56
  have n972 : τ 972 = none := a57
  have n973 : τ 973 = none := a58
  have n974 : τ 974 = none := a59
  have n920 : τ 920 = none := a60
  have n921 : τ 921 = none := a61
  have n922 : τ 922 = none := a62
  have n923 : τ 923 = none := a63
  have n924 : τ 924 = none := a64
  have n925 : τ 925 = none := a65
  have n926 : τ 926 = none := a66
  have n927 : τ 927 = none := a67
  have n928 : τ 928 = none := a68
  have n929 : τ 929 = none := a69
  obtain ⟨⟨h_p1, h_p2, h_td⟩, k_b, k_q, k_c, k_d, k_l, k_k, k_e, k_t, k_n, k_j⟩ := hS
  have k_c0 := k_c
  obtain ⟨h_ga, h_in, h_ls, h_ld, h_w, h_rd, h_lead, h_ps, h_E, h_up, h_D, h_Z, h_s, h_sp⟩ := k_c0
  have qS : eGS m (wrM m 87 j x) := ⟨fun _ => rfl, fun _ => rfl, fun _ => rfl⟩
  have qL : eGL m (wrM m 87 j x) := fun _ => rfl
  have qK : eGK m (wrM m 87 j x) := ⟨fun _ => rfl, rfl⟩
  have qM : eGM m (wrM m 87 j x) := fun _ => rfl
  have qP : eGP m (wrM m 87 j x) := rfl
  have qC : eGC m (wrM m 87 j x) := fun _ => rfl
  have k_q := e_q qS qP k_q
  have k_d := e_d qS k_d
  have k_l := e_l qS qL k_l
  have k_k := e_k qS qK k_k
  have k_e := e_e qK qM k_e
  have k_t := e_t qK qP k_t
  have k_n := e_n qS k_n
  have k_j := e_j qS qC k_j
  exact ⟨⟨h_p1, h_p2, h_td⟩, k_b, k_q, ⟨(fun qa qb A I e0 e1 e2 e3 => by
      have e0 : g 9 = qa := Option.some.inj (t871.symm.trans e0)
      subst e0
      have e1 : g 10 = qb := Option.some.inj (t872.symm.trans e1)
      subst e1
      have e2 : g 7 = A := Option.some.inj (t880.symm.trans e2)
      subst e2
      have e3 : g 8 = I := Option.some.inj (t881.symm.trans e3)
      subst e3
      exact ⟨(h_ga _ _ _ _ t871 t872 t880 t881).1, fun e8 _ => no9 e8 t892⟩), h_in, h_ls, fun _ _ _ _ _ _ e0 e1 e2 e3 e4 e5 => no9 n899 e4, h_w, fun _ _ e0 e1 => no9 n886 e1, fun _ _ _ e0 e1 e2 => no9 n887 e1, fun _ _ _ _ e0 e1 e2 e3 => no9 n886 e1, fun _ _ _ e0 e1 e2 => no9 n886 e1, (fun qa qb A I w Y N U V e0 e1 e2 e3 e4 e5 e6 e7 e8 => by
      have e0 : g 9 = qa := Option.some.inj (t871.symm.trans e0)
      subst e0
      have e1 : g 10 = qb := Option.some.inj (t872.symm.trans e1)
      subst e1
      have e2 : g 7 = A := Option.some.inj (t880.symm.trans e2)
      subst e2
      have e3 : g 8 = I := Option.some.inj (t881.symm.trans e3)
      subst e3
      have e4 : g 2 = w := Option.some.inj (t883.symm.trans e4)
      subst e4
      have e5 : g 3 = Y := Option.some.inj (t892.symm.trans e5)
      subst e5
      have e6 : g 4 = N := Option.some.inj (t893.symm.trans e6)
      subst e6
      have e7 : g 5 = U := Option.some.inj (t894.symm.trans e7)
      subst e7
      have e8 : g 6 + 1 = V := Option.some.inj e8
      subst e8
      show UpG (wrM m 87 j x) (τ 896) (τ 897) (PfG (wrM m 87 j x) (g 9) (g 10) (g 7) (g 8)) (g 2) (g 3) (g 4) (g 5) (g 6 + 1)
      obtain ⟨q, d9, B9, ⟨u1, uN, uY, uU, uV⟩, ⟨u2, u3⟩, u4, u5, u6, ⟨u7, u8⟩, u9⟩ := (h_up _ _ _ _ _ _ _ _ _ t871 t872 t880 t881 t883 t892 t893 t894 t895)
      have ejp : jrp = j := by omega
      have eN : (g 4).toNat = 11 := by omega
      have hx : x = nbG (g 4).toNat q d9 B9 (bvG (g 2)) (g 3).toNat 11 j := by
        unfold nbG
        rw [if_pos eN.symm, ← u3 j (by omega), ← ejp, ← vrp]; omega
      rw [PfG_e qS]
      refine ⟨q, d9, B9, ⟨u1, uN, uY, uU, by omega⟩, ⟨u2, u3⟩, fun r c hr hc => ?_, u5, u6, ⟨u7, u8⟩, ?_⟩
      · have h5 := u4 r c hr hc
        rw [BGm_w (r0 := 11) rfl (by omega) r c hc (by omega)]
        by_cases e : r = 11 ∧ c = j
        · rw [if_pos (by omega), if_pos e, e.1, e.2]; exact hx
        · rw [if_neg e]
          by_cases e2 : (r : Int) < g 5 ∨ ((r : Int) = g 5 ∧ (c : Int) < g 6)
          · rw [if_pos e2] at h5; rw [if_pos (by omega)]; exact h5
          · rw [if_neg e2] at h5; rw [if_neg (by omega)]; exact h5
      · rcases u9 with q9 | q9 | q9
        · exact Or.inl q9
        · rw [n897] at q9; cases q9.1
        · rw [n897] at q9; cases q9.1), fun _ _ _ _ _ e0 e1 e2 e3 e4 => no9 n899 e4, fun _ _ _ e0 e1 e2 => no9 n882 e2, fun _ _ e0 e1 => no9 n882 e0, fun _ _ _ e0 e1 e2 => no9 n905 e0⟩, k_d, k_l, k_k, k_e, k_t, k_n, k_j⟩
def wu_Bu12 : Ru := ([(7, (0, (0, (0, 0)))), (8, (0, (0, (0, 0)))), (0, (883, (0, (0, 0)))), (0, (892, (0, (0, 0)))), (0, (893, (0, (0, 0)))), (0, (894, (0, (0, 0)))), (0, (895, (0, (0, 0)))), (0, (880, (0, (0, 0)))), (0, (881, (0, (0, 0)))), (0, (871, (0, (0, 0)))), (0, (872, (0, (0, 0)))), (0, (896, (0, (0, 0)))), (0, (850, (0, (0, 0)))), (0, (851, (0, (0, 0)))), (0, (852, (0, (0, 0)))), (0, (853, (0, (0, 0)))), (0, (854, (0, (0, 0)))), (0, (855, (0, (0, 0)))), (0, (856, (0, (0, 0)))), (0, (857, (0, (0, 0)))), (0, (858, (0, (0, 0)))), (9, (97, (3, (1, 0)))), (9, (97, (0, (1, 0)))), (9, (88, (0, (1, 0)))), (4, (0, (0, (7, 0)))), (9, (1000, (24, (1, 0))))], ([897, 882, 886, 887, 889, 891, 899, 905, 930, 931, 932, 933, 934, 935, 936, 937, 938, 939, 910, 911, 912, 913, 914, 915, 940, 941, 942, 943, 944, 945, 946, 947, 948, 949, 950, 951, 952, 953, 954, 955, 956, 957, 958, 959, 960, 961, 962, 963, 964, 965, 966, 967, 968, 969, 970, 971, 972, 973, 974, 920, 921, 922, 923, 924, 925, 926, 927, 928, 929], ([([(5, 1)], 12), ([(5, (-1))], (-12)), ([(4, (-1)), (5, 1)], (-1)), ([(0, 1), (6, (-1))], 0), ([(0, (-1)), (6, 1)], 0), ([(0, (-1))], 0), ([(0, 1)], 19), ([(12, 1), (21, (-1))], 0), ([(12, (-1)), (21, 1)], 0), ([(13, 1), (23, (-1))], 0), ([(13, (-1)), (23, 1)], 0), ([(11, (-1)), (15, 1)], 0), ([(11, 1), (15, (-1))], 0), ([(16, 1), (22, (-1))], 0), ([(16, (-1)), (22, 1)], 0), ([(14, (-1)), (17, 1), (18, 1)], 0), ([(14, 1), (17, (-1)), (18, (-1))], 0), ([(19, 1), (25, (-1))], 0), ([(19, (-1)), (25, 1)], 0), ([(1, 1), (20, (-1))], 0), ([(1, (-1)), (20, 1)], 0)], (false, ([], ([], ([(895, some (6, 1)), (850, none), (851, none), (852, none), (853, none), (854, none), (855, none), (856, none), (857, none), (858, none), (869, none)], none)))))))
theorem wk_Bu12 : WrOk SGd 88 wu_Bu12 := by
  intro τ m g j x hi hc ha hS
  obtain ⟨i0, i1, i2, i3, i4, i5, i6, i7, i8, i9, i10, i11, i12, i13, i14, i15, i16, i17, i18, i19, i20, i21, i22, i23, i24, i25, _⟩ := hi
  have xp : g 0 = (j : Int) := i0
  have xv : g 1 = x := i1
  have t883 : τ 883 = some (g 2) := i2
  have t892 : τ 892 = some (g 3) := i3
  have t893 : τ 893 = some (g 4) := i4
  have t894 : τ 894 = some (g 5) := i5
  have t895 : τ 895 = some (g 6) := i6
  have t880 : τ 880 = some (g 7) := i7
  have t881 : τ 881 = some (g 8) := i8
  have t871 : τ 871 = some (g 9) := i9
  have t872 : τ 872 = some (g 10) := i10
  have t896 : τ 896 = some (g 11) := i11
  have t850 : τ 850 = some (g 12) := i12
  have t851 : τ 851 = some (g 13) := i13
  have t852 : τ 852 = some (g 14) := i14
  have t853 : τ 853 = some (g 15) := i15
  have t854 : τ 854 = some (g 16) := i16
  have t855 : τ 855 = some (g 17) := i17
  have t856 : τ 856 = some (g 18) := i18
  have t857 : τ 857 = some (g 19) := i19
  have t858 : τ 858 = some (g 20) := i20
  obtain ⟨jrl, url, vrl⟩ : ∃ j : Nat, 1 * g 3 + 0 = (j : Int) ∧ g 21 = m 97 j := i21
  obtain ⟨jrp, urp, vrp⟩ : ∃ j : Nat, 1 * g 0 + 0 = (j : Int) ∧ g 22 = m 97 j := i22
  obtain ⟨jy, uy, vy⟩ : ∃ j : Nat, 1 * g 0 + 0 = (j : Int) ∧ g 23 = m 88 j := i23
  have xjc : g 24 = 7 := i24
  obtain ⟨jd, ud, vd⟩ : ∃ j : Nat, 1 * g 24 + 0 = (j : Int) ∧ g 25 = m 1000 j := i25
  obtain ⟨c0, c1, c2, c3, c4, c5, c6, c7, c8, c9, c10, c11, c12, c13, c14, c15, c16, c17, c18, c19, c20, _⟩ := hc
  have c0 : 1 * g 5 ≤ 12 := d1 c0
  have c1 : (-1) * g 5 ≤ (-12) := d1 c1
  have c2 : (-1) * g 4 + 1 * g 5 ≤ (-1) := d2 c2
  have c3 : 1 * g 0 + (-1) * g 6 ≤ 0 := d2 c3
  have c4 : (-1) * g 0 + 1 * g 6 ≤ 0 := d2 c4
  have c5 : (-1) * g 0 ≤ 0 := d1 c5
  have c6 : 1 * g 0 ≤ 19 := d1 c6
  have c7 : 1 * g 12 + (-1) * g 21 ≤ 0 := d2 c7
  have c8 : (-1) * g 12 + 1 * g 21 ≤ 0 := d2 c8
  have c9 : 1 * g 13 + (-1) * g 23 ≤ 0 := d2 c9
  have c10 : (-1) * g 13 + 1 * g 23 ≤ 0 := d2 c10
  have c11 : (-1) * g 11 + 1 * g 15 ≤ 0 := d2 c11
  have c12 : 1 * g 11 + (-1) * g 15 ≤ 0 := d2 c12
  have c13 : 1 * g 16 + (-1) * g 22 ≤ 0 := d2 c13
  have c14 : (-1) * g 16 + 1 * g 22 ≤ 0 := d2 c14
  have c15 : (-1) * g 14 + 1 * g 17 + 1 * g 18 ≤ 0 := d3 c15
  have c16 : 1 * g 14 + (-1) * g 17 + (-1) * g 18 ≤ 0 := d3 c16
  have c17 : 1 * g 19 + (-1) * g 25 ≤ 0 := d2 c17
  have c18 : (-1) * g 19 + 1 * g 25 ≤ 0 := d2 c18
  have c19 : 1 * g 1 + (-1) * g 20 ≤ 0 := d2 c19
  have c20 : (-1) * g 1 + 1 * g 20 ≤ 0 := d2 c20
  obtain ⟨a0, a1, a2, a3, a4, a5, a6, a7, a8, a9, a10, a11, a12, a13, a14, a15, a16, a17, a18, a19, a20, a21, a22, a23, a24, a25, a26, a27, a28, a29, a30, a31, a32, a33, a34, a35, a36, a37, a38, a39, a40, a41, a42, a43, a44, a45, a46, a47, a48, a49, a50, a51, a52, a53, a54, a55, a56, a57, a58, a59, a60, a61, a62, a63, a64, a65, a66, a67, a68, _⟩ := ha
  have n897 : τ 897 = none := a0
  have n882 : τ 882 = none := a1
  have n886 : τ 886 = none := a2
  have n887 : τ 887 = none := a3
  have n889 : τ 889 = none := a4
  have n891 : τ 891 = none := a5
  have n899 : τ 899 = none := a6
  have n905 : τ 905 = none := a7
  have n930 : τ 930 = none := a8
  have n931 : τ 931 = none := a9
  have n932 : τ 932 = none := a10
  have n933 : τ 933 = none := a11
  have n934 : τ 934 = none := a12
  have n935 : τ 935 = none := a13
  have n936 : τ 936 = none := a14
  have n937 : τ 937 = none := a15
  have n938 : τ 938 = none := a16
  have n939 : τ 939 = none := a17
  have n910 : τ 910 = none := a18
  have n911 : τ 911 = none := a19
  have n912 : τ 912 = none := a20
  have n913 : τ 913 = none := a21
  have n914 : τ 914 = none := a22
  have n915 : τ 915 = none := a23
  have n940 : τ 940 = none := a24
  have n941 : τ 941 = none := a25
  have n942 : τ 942 = none := a26
  have n943 : τ 943 = none := a27
  have n944 : τ 944 = none := a28
  have n945 : τ 945 = none := a29
  have n946 : τ 946 = none := a30
  have n947 : τ 947 = none := a31
  have n948 : τ 948 = none := a32
  have n949 : τ 949 = none := a33
  have n950 : τ 950 = none := a34
  have n951 : τ 951 = none := a35
  have n952 : τ 952 = none := a36
  have n953 : τ 953 = none := a37
  have n954 : τ 954 = none := a38
  have n955 : τ 955 = none := a39
  have n956 : τ 956 = none := a40
  have n957 : τ 957 = none := a41
  have n958 : τ 958 = none := a42
  have n959 : τ 959 = none := a43
  have n960 : τ 960 = none := a44
  have n961 : τ 961 = none := a45
  have n962 : τ 962 = none := a46
  have n963 : τ 963 = none := a47
  have n964 : τ 964 = none := a48
  have n965 : τ 965 = none := a49
  have n966 : τ 966 = none := a50
  have n967 : τ 967 = none := a51
  have n968 : τ 968 = none := a52
  have n969 : τ 969 = none := a53
  have n970 : τ 970 = none := a54
  have n971 : τ 971 = none := a55
  have n972 : τ 972 = none := a56
  have n973 : τ 973 = none := a57
  have n974 : τ 974 = none := a58
  have n920 : τ 920 = none := a59
  have n921 : τ 921 = none := a60
  have n922 : τ 922 = none := a61
  have n923 : τ 923 = none := a62
  have n924 : τ 924 = none := a63
  have n925 : τ 925 = none := a64
  have n926 : τ 926 = none := a65
  have n927 : τ 927 = none := a66
  have n928 : τ 928 = none := a67
  have n929 : τ 929 = none := a68
  obtain ⟨⟨h_p1, h_p2, h_td⟩, k_b, k_q, k_c, k_d, k_l, k_k, k_e, k_t, k_n, k_j⟩ := hS
  have k_c0 := k_c
  obtain ⟨h_ga, h_in, h_ls, h_ld, h_w, h_rd, h_lead, h_ps, h_E, h_up, h_D, h_Z, h_s, h_sp⟩ := k_c0
  have k_b0 := k_b
  obtain ⟨h_bit, h_one, h_or, h_and, h_shr, h_m1, h_m2, h_dv, h_r1, h_r2, h_nz⟩ := k_b0
  have qS : eGS m (wrM m 88 j x) := ⟨fun _ => rfl, fun _ => rfl, fun _ => rfl⟩
  have qL : eGL m (wrM m 88 j x) := fun _ => rfl
  have qK : eGK m (wrM m 88 j x) := ⟨fun _ => rfl, rfl⟩
  have qM : eGM m (wrM m 88 j x) := fun _ => rfl
  have qP : eGP m (wrM m 88 j x) := rfl
  have qC : eGC m (wrM m 88 j x) := fun _ => rfl
  have k_q := e_q qS qP k_q
  have k_d := e_d qS k_d
  have k_l := e_l qS qL k_l
  have k_k := e_k qS qK k_k
  have k_e := e_e qK qM k_e
  have k_t := e_t qK qP k_t
  have k_n := e_n qS k_n
  have k_j := e_j qS qC k_j
  exact ⟨⟨h_p1, h_p2, h_td⟩, ⟨h_bit, h_one, h_or, h_and, h_shr, fun _ _ _ e0 e1 e2 => no9 (o := none) rfl e0, fun _ _ _ e0 e1 e2 => no9 (o := none) rfl e0, fun _ _ _ e0 e1 e2 => no9 (o := none) rfl e0, h_r1, h_r2, fun _ e0 => no9 (o := none) rfl e0⟩, k_q, ⟨(fun qa qb A I e0 e1 e2 e3 => by
      have e0 : g 9 = qa := Option.some.inj (t871.symm.trans e0)
      subst e0
      have e1 : g 10 = qb := Option.some.inj (t872.symm.trans e1)
      subst e1
      have e2 : g 7 = A := Option.some.inj (t880.symm.trans e2)
      subst e2
      have e3 : g 8 = I := Option.some.inj (t881.symm.trans e3)
      subst e3
      exact ⟨(h_ga _ _ _ _ t871 t872 t880 t881).1, fun e8 _ => no9 e8 t892⟩), h_in, h_ls, fun _ _ _ _ _ _ e0 e1 e2 e3 e4 e5 => no9 n899 e4, h_w, fun _ _ e0 e1 => no9 n886 e1, fun _ _ _ e0 e1 e2 => no9 n887 e1, fun _ _ _ _ e0 e1 e2 e3 => no9 n886 e1, fun _ _ _ e0 e1 e2 => no9 n886 e1, (fun qa qb A I w Y N U V e0 e1 e2 e3 e4 e5 e6 e7 e8 => by
      have e0 : g 9 = qa := Option.some.inj (t871.symm.trans e0)
      subst e0
      have e1 : g 10 = qb := Option.some.inj (t872.symm.trans e1)
      subst e1
      have e2 : g 7 = A := Option.some.inj (t880.symm.trans e2)
      subst e2
      have e3 : g 8 = I := Option.some.inj (t881.symm.trans e3)
      subst e3
      have e4 : g 2 = w := Option.some.inj (t883.symm.trans e4)
      subst e4
      have e5 : g 3 = Y := Option.some.inj (t892.symm.trans e5)
      subst e5
      have e6 : g 4 = N := Option.some.inj (t893.symm.trans e6)
      subst e6
      have e7 : g 5 = U := Option.some.inj (t894.symm.trans e7)
      subst e7
      have e8 : g 6 + 1 = V := Option.some.inj e8
      subst e8
      show UpG (wrM m 88 j x) (τ 896) (τ 897) (PfG (wrM m 88 j x) (g 9) (g 10) (g 7) (g 8)) (g 2) (g 3) (g 4) (g 5) (g 6 + 1)
      obtain ⟨q, d9, B9, ⟨u1, uN, uY, uU, uV⟩, ⟨u2, u3⟩, u4, u5, u6, ⟨u7, u8⟩, u9⟩ := (h_up _ _ _ _ _ _ _ _ _ t871 t872 t880 t881 t883 t892 t893 t894 t895)
      have hm1 := h_m1 _ _ _ t850 t851 t852
      have hm2 := h_m2 _ _ _ t853 t854 t855
      have hdv := h_dv _ _ _ t856 t857 t858
      have ejl : jrl = (g 3).toNat := by omega
      have ejp : jrp = j := by omega
      have ejy : jy = j := by omega
      have ejd : jd = 7 := by omega
      subst ejl ejd
      rw [ejp] at vrp
      rw [ejy] at vy
      have eU : (g 5).toNat = 12 := by omega
      have h4 := u4 12 j (by omega) (by omega)
      rw [if_neg (by omega)] at h4
      have h4 := h4 (by omega)
      have hB : BGm m 12 j = m 88 j := by unfold BGm; rw [if_pos (by omega)]
      have a1 : g 14 = g 21 * g 23 := by rw [hm1, show g 12 = g 21 by omega, show g 13 = g 23 by omega]
      have a2 : g 17 = g 11 * g 22 := by rw [hm2, show g 15 = g 11 by omega, show g 16 = g 22 by omega]
      have a3 : g 20 = (g 21 * g 23 - g 11 * g 22).tdiv (g 25) := by rw [hdv, show g 19 = g 25 by omega, show g 18 = g 14 - g 17 by omega, a1, a2]
      have u6' := u6 _ t896
      rw [eU] at u6'
      have hx : x = nbG (g 4).toNat q d9 B9 (bvG (g 2)) (g 3).toNat 12 j := by
        unfold nbG
        rw [if_neg (by omega), ← u3 (g 3).toNat (by omega), ← u3 j (by omega), ← h4, ← u6', ← u8, hB, ← vrl, ← vy, ← vrp, ← vd, ← a3]; omega
      rw [PfG_e qS]
      refine ⟨q, d9, B9, ⟨u1, uN, uY, uU, by omega⟩, ⟨u2, u3⟩, fun r c hr hc => ?_, u5, u6, ⟨u7, u8⟩, ?_⟩
      · have h5 := u4 r c hr hc
        rw [BGm_w (r0 := 12) rfl (by omega) r c hc (by omega)]
        by_cases e : r = 12 ∧ c = j
        · rw [if_pos (by omega), if_pos e, e.1, e.2]; exact hx
        · rw [if_neg e]
          by_cases e2 : (r : Int) < g 5 ∨ ((r : Int) = g 5 ∧ (c : Int) < g 6)
          · rw [if_pos e2] at h5; rw [if_pos (by omega)]; exact h5
          · rw [if_neg e2] at h5; rw [if_neg (by omega)]; exact h5
      · rcases u9 with q9 | q9 | q9
        · exact Or.inl q9
        · rw [n897] at q9; cases q9.1
        · rw [n897] at q9; cases q9.1), fun _ _ _ _ _ e0 e1 e2 e3 e4 => no9 n899 e4, fun _ _ _ e0 e1 e2 => no9 n882 e2, fun _ _ e0 e1 => no9 n882 e0, fun _ _ _ e0 e1 e2 => no9 n905 e0⟩, k_d, k_l, k_k, k_e, k_t, k_n, k_j⟩
def wu_Bl12 : Ru := ([(7, (0, (0, (0, 0)))), (8, (0, (0, (0, 0)))), (0, (883, (0, (0, 0)))), (0, (892, (0, (0, 0)))), (0, (893, (0, (0, 0)))), (0, (894, (0, (0, 0)))), (0, (895, (0, (0, 0)))), (0, (880, (0, (0, 0)))), (0, (881, (0, (0, 0)))), (0, (871, (0, (0, 0)))), (0, (872, (0, (0, 0)))), (9, (97, (0, (1, 0))))], ([896, 897, 882, 886, 887, 889, 891, 899, 905, 930, 931, 932, 933, 934, 935, 936, 937, 938, 939, 910, 911, 912, 913, 914, 915, 940, 941, 942, 943, 944, 945, 946, 947, 948, 949, 950, 951, 952, 953, 954, 955, 956, 957, 958, 959, 960, 961, 962, 963, 964, 965, 966, 967, 968, 969, 970, 971, 972, 973, 974, 920, 921, 922, 923, 924, 925, 926, 927, 928, 929], ([([(5, 1)], 12), ([(5, (-1))], (-12)), ([(4, (-1)), (5, 1)], 0), ([(4, 1), (5, (-1))], 0), ([(0, 1), (6, (-1))], 0), ([(0, (-1)), (6, 1)], 0), ([(0, (-1))], 0), ([(0, 1)], 19), ([(1, 1), (11, (-1))], 0), ([(1, (-1)), (11, 1)], 0)], (false, ([], ([], ([(895, some (6, 1))], none)))))))
theorem wk_Bl12 : WrOk SGd 88 wu_Bl12 := by
  intro τ m g j x hi hc ha hS
  obtain ⟨i0, i1, i2, i3, i4, i5, i6, i7, i8, i9, i10, i11, _⟩ := hi
  have xp : g 0 = (j : Int) := i0
  have xv : g 1 = x := i1
  have t883 : τ 883 = some (g 2) := i2
  have t892 : τ 892 = some (g 3) := i3
  have t893 : τ 893 = some (g 4) := i4
  have t894 : τ 894 = some (g 5) := i5
  have t895 : τ 895 = some (g 6) := i6
  have t880 : τ 880 = some (g 7) := i7
  have t881 : τ 881 = some (g 8) := i8
  have t871 : τ 871 = some (g 9) := i9
  have t872 : τ 872 = some (g 10) := i10
  obtain ⟨jrp, urp, vrp⟩ : ∃ j : Nat, 1 * g 0 + 0 = (j : Int) ∧ g 11 = m 97 j := i11
  obtain ⟨c0, c1, c2, c3, c4, c5, c6, c7, c8, c9, _⟩ := hc
  have c0 : 1 * g 5 ≤ 12 := d1 c0
  have c1 : (-1) * g 5 ≤ (-12) := d1 c1
  have c2 : (-1) * g 4 + 1 * g 5 ≤ 0 := d2 c2
  have c3 : 1 * g 4 + (-1) * g 5 ≤ 0 := d2 c3
  have c4 : 1 * g 0 + (-1) * g 6 ≤ 0 := d2 c4
  have c5 : (-1) * g 0 + 1 * g 6 ≤ 0 := d2 c5
  have c6 : (-1) * g 0 ≤ 0 := d1 c6
  have c7 : 1 * g 0 ≤ 19 := d1 c7
  have c8 : 1 * g 1 + (-1) * g 11 ≤ 0 := d2 c8
  have c9 : (-1) * g 1 + 1 * g 11 ≤ 0 := d2 c9
  obtain ⟨a0, a1, a2, a3, a4, a5, a6, a7, a8, a9, a10, a11, a12, a13, a14, a15, a16, a17, a18, a19, a20, a21, a22, a23, a24, a25, a26, a27, a28, a29, a30, a31, a32, a33, a34, a35, a36, a37, a38, a39, a40, a41, a42, a43, a44, a45, a46, a47, a48, a49, a50, a51, a52, a53, a54, a55, a56, a57, a58, a59, a60, a61, a62, a63, a64, a65, a66, a67, a68, a69, _⟩ := ha
  have n896 : τ 896 = none := a0
  have n897 : τ 897 = none := a1
  have n882 : τ 882 = none := a2
  have n886 : τ 886 = none := a3
  have n887 : τ 887 = none := a4
  have n889 : τ 889 = none := a5
  have n891 : τ 891 = none := a6
  have n899 : τ 899 = none := a7
  have n905 : τ 905 = none := a8
  have n930 : τ 930 = none := a9
  have n931 : τ 931 = none := a10
  have n932 : τ 932 = none := a11
  have n933 : τ 933 = none := a12
  have n934 : τ 934 = none := a13
  have n935 : τ 935 = none := a14
  have n936 : τ 936 = none := a15
  have n937 : τ 937 = none := a16
  have n938 : τ 938 = none := a17
  have n939 : τ 939 = none := a18
  have n910 : τ 910 = none := a19
  have n911 : τ 911 = none := a20
  have n912 : τ 912 = none := a21
  have n913 : τ 913 = none := a22
  have n914 : τ 914 = none := a23
  have n915 : τ 915 = none := a24
  have n940 : τ 940 = none := a25
  have n941 : τ 941 = none := a26
  have n942 : τ 942 = none := a27
  have n943 : τ 943 = none := a28
  have n944 : τ 944 = none := a29
  have n945 : τ 945 = none := a30
  have n946 : τ 946 = none := a31
  have n947 : τ 947 = none := a32
  have n948 : τ 948 = none := a33
  have n949 : τ 949 = none := a34
  have n950 : τ 950 = none := a35
  have n951 : τ 951 = none := a36
  have n952 : τ 952 = none := a37
  have n953 : τ 953 = none := a38
  have n954 : τ 954 = none := a39
  have n955 : τ 955 = none := a40
  have n956 : τ 956 = none := a41
  have n957 : τ 957 = none := a42
  have n958 : τ 958 = none := a43
  have n959 : τ 959 = none := a44
  have n960 : τ 960 = none := a45
  have n961 : τ 961 = none := a46
  have n962 : τ 962 = none := a47
  have n963 : τ 963 = none := a48
  have n964 : τ 964 = none := a49
  have n965 : τ 965 = none := a50
  have n966 : τ 966 = none := a51
  have n967 : τ 967 = none := a52
  have n968 : τ 968 = none := a53
  have n969 : τ 969 = none := a54
  have n970 : τ 970 = none := a55
  have n971 : τ 971 = none := a56
  have n972 : τ 972 = none := a57
  have n973 : τ 973 = none := a58
  have n974 : τ 974 = none := a59
  have n920 : τ 920 = none := a60
  have n921 : τ 921 = none := a61
  have n922 : τ 922 = none := a62
  have n923 : τ 923 = none := a63
  have n924 : τ 924 = none := a64
  have n925 : τ 925 = none := a65
  have n926 : τ 926 = none := a66
  have n927 : τ 927 = none := a67
  have n928 : τ 928 = none := a68
  have n929 : τ 929 = none := a69
  obtain ⟨⟨h_p1, h_p2, h_td⟩, k_b, k_q, k_c, k_d, k_l, k_k, k_e, k_t, k_n, k_j⟩ := hS
  have k_c0 := k_c
  obtain ⟨h_ga, h_in, h_ls, h_ld, h_w, h_rd, h_lead, h_ps, h_E, h_up, h_D, h_Z, h_s, h_sp⟩ := k_c0
  have qS : eGS m (wrM m 88 j x) := ⟨fun _ => rfl, fun _ => rfl, fun _ => rfl⟩
  have qL : eGL m (wrM m 88 j x) := fun _ => rfl
  have qK : eGK m (wrM m 88 j x) := ⟨fun _ => rfl, rfl⟩
  have qM : eGM m (wrM m 88 j x) := fun _ => rfl
  have qP : eGP m (wrM m 88 j x) := rfl
  have qC : eGC m (wrM m 88 j x) := fun _ => rfl
  have k_q := e_q qS qP k_q
  have k_d := e_d qS k_d
  have k_l := e_l qS qL k_l
  have k_k := e_k qS qK k_k
  have k_e := e_e qK qM k_e
  have k_t := e_t qK qP k_t
  have k_n := e_n qS k_n
  have k_j := e_j qS qC k_j
  exact ⟨⟨h_p1, h_p2, h_td⟩, k_b, k_q, ⟨(fun qa qb A I e0 e1 e2 e3 => by
      have e0 : g 9 = qa := Option.some.inj (t871.symm.trans e0)
      subst e0
      have e1 : g 10 = qb := Option.some.inj (t872.symm.trans e1)
      subst e1
      have e2 : g 7 = A := Option.some.inj (t880.symm.trans e2)
      subst e2
      have e3 : g 8 = I := Option.some.inj (t881.symm.trans e3)
      subst e3
      exact ⟨(h_ga _ _ _ _ t871 t872 t880 t881).1, fun e8 _ => no9 e8 t892⟩), h_in, h_ls, fun _ _ _ _ _ _ e0 e1 e2 e3 e4 e5 => no9 n899 e4, h_w, fun _ _ e0 e1 => no9 n886 e1, fun _ _ _ e0 e1 e2 => no9 n887 e1, fun _ _ _ _ e0 e1 e2 e3 => no9 n886 e1, fun _ _ _ e0 e1 e2 => no9 n886 e1, (fun qa qb A I w Y N U V e0 e1 e2 e3 e4 e5 e6 e7 e8 => by
      have e0 : g 9 = qa := Option.some.inj (t871.symm.trans e0)
      subst e0
      have e1 : g 10 = qb := Option.some.inj (t872.symm.trans e1)
      subst e1
      have e2 : g 7 = A := Option.some.inj (t880.symm.trans e2)
      subst e2
      have e3 : g 8 = I := Option.some.inj (t881.symm.trans e3)
      subst e3
      have e4 : g 2 = w := Option.some.inj (t883.symm.trans e4)
      subst e4
      have e5 : g 3 = Y := Option.some.inj (t892.symm.trans e5)
      subst e5
      have e6 : g 4 = N := Option.some.inj (t893.symm.trans e6)
      subst e6
      have e7 : g 5 = U := Option.some.inj (t894.symm.trans e7)
      subst e7
      have e8 : g 6 + 1 = V := Option.some.inj e8
      subst e8
      show UpG (wrM m 88 j x) (τ 896) (τ 897) (PfG (wrM m 88 j x) (g 9) (g 10) (g 7) (g 8)) (g 2) (g 3) (g 4) (g 5) (g 6 + 1)
      obtain ⟨q, d9, B9, ⟨u1, uN, uY, uU, uV⟩, ⟨u2, u3⟩, u4, u5, u6, ⟨u7, u8⟩, u9⟩ := (h_up _ _ _ _ _ _ _ _ _ t871 t872 t880 t881 t883 t892 t893 t894 t895)
      have ejp : jrp = j := by omega
      have eN : (g 4).toNat = 12 := by omega
      have hx : x = nbG (g 4).toNat q d9 B9 (bvG (g 2)) (g 3).toNat 12 j := by
        unfold nbG
        rw [if_pos eN.symm, ← u3 j (by omega), ← ejp, ← vrp]; omega
      rw [PfG_e qS]
      refine ⟨q, d9, B9, ⟨u1, uN, uY, uU, by omega⟩, ⟨u2, u3⟩, fun r c hr hc => ?_, u5, u6, ⟨u7, u8⟩, ?_⟩
      · have h5 := u4 r c hr hc
        rw [BGm_w (r0 := 12) rfl (by omega) r c hc (by omega)]
        by_cases e : r = 12 ∧ c = j
        · rw [if_pos (by omega), if_pos e, e.1, e.2]; exact hx
        · rw [if_neg e]
          by_cases e2 : (r : Int) < g 5 ∨ ((r : Int) = g 5 ∧ (c : Int) < g 6)
          · rw [if_pos e2] at h5; rw [if_pos (by omega)]; exact h5
          · rw [if_neg e2] at h5; rw [if_neg (by omega)]; exact h5
      · rcases u9 with q9 | q9 | q9
        · exact Or.inl q9
        · rw [n897] at q9; cases q9.1
        · rw [n897] at q9; cases q9.1), fun _ _ _ _ _ e0 e1 e2 e3 e4 => no9 n899 e4, fun _ _ _ e0 e1 e2 => no9 n882 e2, fun _ _ e0 e1 => no9 n882 e0, fun _ _ _ e0 e1 e2 => no9 n905 e0⟩, k_d, k_l, k_k, k_e, k_t, k_n, k_j⟩
def wu_Bu13 : Ru := ([(7, (0, (0, (0, 0)))), (8, (0, (0, (0, 0)))), (0, (883, (0, (0, 0)))), (0, (892, (0, (0, 0)))), (0, (893, (0, (0, 0)))), (0, (894, (0, (0, 0)))), (0, (895, (0, (0, 0)))), (0, (880, (0, (0, 0)))), (0, (881, (0, (0, 0)))), (0, (871, (0, (0, 0)))), (0, (872, (0, (0, 0)))), (0, (896, (0, (0, 0)))), (0, (850, (0, (0, 0)))), (0, (851, (0, (0, 0)))), (0, (852, (0, (0, 0)))), (0, (853, (0, (0, 0)))), (0, (854, (0, (0, 0)))), (0, (855, (0, (0, 0)))), (0, (856, (0, (0, 0)))), (0, (857, (0, (0, 0)))), (0, (858, (0, (0, 0)))), (9, (97, (3, (1, 0)))), (9, (97, (0, (1, 0)))), (9, (89, (0, (1, 0)))), (4, (0, (0, (7, 0)))), (9, (1000, (24, (1, 0))))], ([897, 882, 886, 887, 889, 891, 899, 905, 930, 931, 932, 933, 934, 935, 936, 937, 938, 939, 910, 911, 912, 913, 914, 915, 940, 941, 942, 943, 944, 945, 946, 947, 948, 949, 950, 951, 952, 953, 954, 955, 956, 957, 958, 959, 960, 961, 962, 963, 964, 965, 966, 967, 968, 969, 970, 971, 972, 973, 974, 920, 921, 922, 923, 924, 925, 926, 927, 928, 929], ([([(5, 1)], 13), ([(5, (-1))], (-13)), ([(4, (-1)), (5, 1)], (-1)), ([(0, 1), (6, (-1))], 0), ([(0, (-1)), (6, 1)], 0), ([(0, (-1))], 0), ([(0, 1)], 19), ([(12, 1), (21, (-1))], 0), ([(12, (-1)), (21, 1)], 0), ([(13, 1), (23, (-1))], 0), ([(13, (-1)), (23, 1)], 0), ([(11, (-1)), (15, 1)], 0), ([(11, 1), (15, (-1))], 0), ([(16, 1), (22, (-1))], 0), ([(16, (-1)), (22, 1)], 0), ([(14, (-1)), (17, 1), (18, 1)], 0), ([(14, 1), (17, (-1)), (18, (-1))], 0), ([(19, 1), (25, (-1))], 0), ([(19, (-1)), (25, 1)], 0), ([(1, 1), (20, (-1))], 0), ([(1, (-1)), (20, 1)], 0)], (false, ([], ([], ([(895, some (6, 1)), (850, none), (851, none), (852, none), (853, none), (854, none), (855, none), (856, none), (857, none), (858, none), (869, none)], none)))))))
theorem wk_Bu13 : WrOk SGd 89 wu_Bu13 := by
  intro τ m g j x hi hc ha hS
  obtain ⟨i0, i1, i2, i3, i4, i5, i6, i7, i8, i9, i10, i11, i12, i13, i14, i15, i16, i17, i18, i19, i20, i21, i22, i23, i24, i25, _⟩ := hi
  have xp : g 0 = (j : Int) := i0
  have xv : g 1 = x := i1
  have t883 : τ 883 = some (g 2) := i2
  have t892 : τ 892 = some (g 3) := i3
  have t893 : τ 893 = some (g 4) := i4
  have t894 : τ 894 = some (g 5) := i5
  have t895 : τ 895 = some (g 6) := i6
  have t880 : τ 880 = some (g 7) := i7
  have t881 : τ 881 = some (g 8) := i8
  have t871 : τ 871 = some (g 9) := i9
  have t872 : τ 872 = some (g 10) := i10
  have t896 : τ 896 = some (g 11) := i11
  have t850 : τ 850 = some (g 12) := i12
  have t851 : τ 851 = some (g 13) := i13
  have t852 : τ 852 = some (g 14) := i14
  have t853 : τ 853 = some (g 15) := i15
  have t854 : τ 854 = some (g 16) := i16
  have t855 : τ 855 = some (g 17) := i17
  have t856 : τ 856 = some (g 18) := i18
  have t857 : τ 857 = some (g 19) := i19
  have t858 : τ 858 = some (g 20) := i20
  obtain ⟨jrl, url, vrl⟩ : ∃ j : Nat, 1 * g 3 + 0 = (j : Int) ∧ g 21 = m 97 j := i21
  obtain ⟨jrp, urp, vrp⟩ : ∃ j : Nat, 1 * g 0 + 0 = (j : Int) ∧ g 22 = m 97 j := i22
  obtain ⟨jy, uy, vy⟩ : ∃ j : Nat, 1 * g 0 + 0 = (j : Int) ∧ g 23 = m 89 j := i23
  have xjc : g 24 = 7 := i24
  obtain ⟨jd, ud, vd⟩ : ∃ j : Nat, 1 * g 24 + 0 = (j : Int) ∧ g 25 = m 1000 j := i25
  obtain ⟨c0, c1, c2, c3, c4, c5, c6, c7, c8, c9, c10, c11, c12, c13, c14, c15, c16, c17, c18, c19, c20, _⟩ := hc
  have c0 : 1 * g 5 ≤ 13 := d1 c0
  have c1 : (-1) * g 5 ≤ (-13) := d1 c1
  have c2 : (-1) * g 4 + 1 * g 5 ≤ (-1) := d2 c2
  have c3 : 1 * g 0 + (-1) * g 6 ≤ 0 := d2 c3
  have c4 : (-1) * g 0 + 1 * g 6 ≤ 0 := d2 c4
  have c5 : (-1) * g 0 ≤ 0 := d1 c5
  have c6 : 1 * g 0 ≤ 19 := d1 c6
  have c7 : 1 * g 12 + (-1) * g 21 ≤ 0 := d2 c7
  have c8 : (-1) * g 12 + 1 * g 21 ≤ 0 := d2 c8
  have c9 : 1 * g 13 + (-1) * g 23 ≤ 0 := d2 c9
  have c10 : (-1) * g 13 + 1 * g 23 ≤ 0 := d2 c10
  have c11 : (-1) * g 11 + 1 * g 15 ≤ 0 := d2 c11
  have c12 : 1 * g 11 + (-1) * g 15 ≤ 0 := d2 c12
  have c13 : 1 * g 16 + (-1) * g 22 ≤ 0 := d2 c13
  have c14 : (-1) * g 16 + 1 * g 22 ≤ 0 := d2 c14
  have c15 : (-1) * g 14 + 1 * g 17 + 1 * g 18 ≤ 0 := d3 c15
  have c16 : 1 * g 14 + (-1) * g 17 + (-1) * g 18 ≤ 0 := d3 c16
  have c17 : 1 * g 19 + (-1) * g 25 ≤ 0 := d2 c17
  have c18 : (-1) * g 19 + 1 * g 25 ≤ 0 := d2 c18
  have c19 : 1 * g 1 + (-1) * g 20 ≤ 0 := d2 c19
  have c20 : (-1) * g 1 + 1 * g 20 ≤ 0 := d2 c20
  obtain ⟨a0, a1, a2, a3, a4, a5, a6, a7, a8, a9, a10, a11, a12, a13, a14, a15, a16, a17, a18, a19, a20, a21, a22, a23, a24, a25, a26, a27, a28, a29, a30, a31, a32, a33, a34, a35, a36, a37, a38, a39, a40, a41, a42, a43, a44, a45, a46, a47, a48, a49, a50, a51, a52, a53, a54, a55, a56, a57, a58, a59, a60, a61, a62, a63, a64, a65, a66, a67, a68, _⟩ := ha
  have n897 : τ 897 = none := a0
  have n882 : τ 882 = none := a1
  have n886 : τ 886 = none := a2
  have n887 : τ 887 = none := a3
  have n889 : τ 889 = none := a4
  have n891 : τ 891 = none := a5
  have n899 : τ 899 = none := a6
  have n905 : τ 905 = none := a7
  have n930 : τ 930 = none := a8
  have n931 : τ 931 = none := a9
  have n932 : τ 932 = none := a10
  have n933 : τ 933 = none := a11
  have n934 : τ 934 = none := a12
  have n935 : τ 935 = none := a13
  have n936 : τ 936 = none := a14
  have n937 : τ 937 = none := a15
  have n938 : τ 938 = none := a16
  have n939 : τ 939 = none := a17
  have n910 : τ 910 = none := a18
  have n911 : τ 911 = none := a19
  have n912 : τ 912 = none := a20
  have n913 : τ 913 = none := a21
  have n914 : τ 914 = none := a22
  have n915 : τ 915 = none := a23
  have n940 : τ 940 = none := a24
  have n941 : τ 941 = none := a25
  have n942 : τ 942 = none := a26
  have n943 : τ 943 = none := a27
  have n944 : τ 944 = none := a28
  have n945 : τ 945 = none := a29
  have n946 : τ 946 = none := a30
  have n947 : τ 947 = none := a31
  have n948 : τ 948 = none := a32
  have n949 : τ 949 = none := a33
  have n950 : τ 950 = none := a34
  have n951 : τ 951 = none := a35
  have n952 : τ 952 = none := a36
  have n953 : τ 953 = none := a37
  have n954 : τ 954 = none := a38
  have n955 : τ 955 = none := a39
  have n956 : τ 956 = none := a40
  have n957 : τ 957 = none := a41
  have n958 : τ 958 = none := a42
  have n959 : τ 959 = none := a43
  have n960 : τ 960 = none := a44
  have n961 : τ 961 = none := a45
  have n962 : τ 962 = none := a46
  have n963 : τ 963 = none := a47
  have n964 : τ 964 = none := a48
  have n965 : τ 965 = none := a49
  have n966 : τ 966 = none := a50
  have n967 : τ 967 = none := a51
  have n968 : τ 968 = none := a52
  have n969 : τ 969 = none := a53
  have n970 : τ 970 = none := a54
  have n971 : τ 971 = none := a55
  have n972 : τ 972 = none := a56
  have n973 : τ 973 = none := a57
  have n974 : τ 974 = none := a58
  have n920 : τ 920 = none := a59
  have n921 : τ 921 = none := a60
  have n922 : τ 922 = none := a61
  have n923 : τ 923 = none := a62
  have n924 : τ 924 = none := a63
  have n925 : τ 925 = none := a64
  have n926 : τ 926 = none := a65
  have n927 : τ 927 = none := a66
  have n928 : τ 928 = none := a67
  have n929 : τ 929 = none := a68
  obtain ⟨⟨h_p1, h_p2, h_td⟩, k_b, k_q, k_c, k_d, k_l, k_k, k_e, k_t, k_n, k_j⟩ := hS
  have k_c0 := k_c
  obtain ⟨h_ga, h_in, h_ls, h_ld, h_w, h_rd, h_lead, h_ps, h_E, h_up, h_D, h_Z, h_s, h_sp⟩ := k_c0
  have k_b0 := k_b
  obtain ⟨h_bit, h_one, h_or, h_and, h_shr, h_m1, h_m2, h_dv, h_r1, h_r2, h_nz⟩ := k_b0
  have qS : eGS m (wrM m 89 j x) := ⟨fun _ => rfl, fun _ => rfl, fun _ => rfl⟩
  have qL : eGL m (wrM m 89 j x) := fun _ => rfl
  have qK : eGK m (wrM m 89 j x) := ⟨fun _ => rfl, rfl⟩
  have qM : eGM m (wrM m 89 j x) := fun _ => rfl
  have qP : eGP m (wrM m 89 j x) := rfl
  have qC : eGC m (wrM m 89 j x) := fun _ => rfl
  have k_q := e_q qS qP k_q
  have k_d := e_d qS k_d
  have k_l := e_l qS qL k_l
  have k_k := e_k qS qK k_k
  have k_e := e_e qK qM k_e
  have k_t := e_t qK qP k_t
  have k_n := e_n qS k_n
  have k_j := e_j qS qC k_j
  exact ⟨⟨h_p1, h_p2, h_td⟩, ⟨h_bit, h_one, h_or, h_and, h_shr, fun _ _ _ e0 e1 e2 => no9 (o := none) rfl e0, fun _ _ _ e0 e1 e2 => no9 (o := none) rfl e0, fun _ _ _ e0 e1 e2 => no9 (o := none) rfl e0, h_r1, h_r2, fun _ e0 => no9 (o := none) rfl e0⟩, k_q, ⟨(fun qa qb A I e0 e1 e2 e3 => by
      have e0 : g 9 = qa := Option.some.inj (t871.symm.trans e0)
      subst e0
      have e1 : g 10 = qb := Option.some.inj (t872.symm.trans e1)
      subst e1
      have e2 : g 7 = A := Option.some.inj (t880.symm.trans e2)
      subst e2
      have e3 : g 8 = I := Option.some.inj (t881.symm.trans e3)
      subst e3
      exact ⟨(h_ga _ _ _ _ t871 t872 t880 t881).1, fun e8 _ => no9 e8 t892⟩), h_in, h_ls, fun _ _ _ _ _ _ e0 e1 e2 e3 e4 e5 => no9 n899 e4, h_w, fun _ _ e0 e1 => no9 n886 e1, fun _ _ _ e0 e1 e2 => no9 n887 e1, fun _ _ _ _ e0 e1 e2 e3 => no9 n886 e1, fun _ _ _ e0 e1 e2 => no9 n886 e1, (fun qa qb A I w Y N U V e0 e1 e2 e3 e4 e5 e6 e7 e8 => by
      have e0 : g 9 = qa := Option.some.inj (t871.symm.trans e0)
      subst e0
      have e1 : g 10 = qb := Option.some.inj (t872.symm.trans e1)
      subst e1
      have e2 : g 7 = A := Option.some.inj (t880.symm.trans e2)
      subst e2
      have e3 : g 8 = I := Option.some.inj (t881.symm.trans e3)
      subst e3
      have e4 : g 2 = w := Option.some.inj (t883.symm.trans e4)
      subst e4
      have e5 : g 3 = Y := Option.some.inj (t892.symm.trans e5)
      subst e5
      have e6 : g 4 = N := Option.some.inj (t893.symm.trans e6)
      subst e6
      have e7 : g 5 = U := Option.some.inj (t894.symm.trans e7)
      subst e7
      have e8 : g 6 + 1 = V := Option.some.inj e8
      subst e8
      show UpG (wrM m 89 j x) (τ 896) (τ 897) (PfG (wrM m 89 j x) (g 9) (g 10) (g 7) (g 8)) (g 2) (g 3) (g 4) (g 5) (g 6 + 1)
      obtain ⟨q, d9, B9, ⟨u1, uN, uY, uU, uV⟩, ⟨u2, u3⟩, u4, u5, u6, ⟨u7, u8⟩, u9⟩ := (h_up _ _ _ _ _ _ _ _ _ t871 t872 t880 t881 t883 t892 t893 t894 t895)
      have hm1 := h_m1 _ _ _ t850 t851 t852
      have hm2 := h_m2 _ _ _ t853 t854 t855
      have hdv := h_dv _ _ _ t856 t857 t858
      have ejl : jrl = (g 3).toNat := by omega
      have ejp : jrp = j := by omega
      have ejy : jy = j := by omega
      have ejd : jd = 7 := by omega
      subst ejl ejd
      rw [ejp] at vrp
      rw [ejy] at vy
      have eU : (g 5).toNat = 13 := by omega
      have h4 := u4 13 j (by omega) (by omega)
      rw [if_neg (by omega)] at h4
      have h4 := h4 (by omega)
      have hB : BGm m 13 j = m 89 j := by unfold BGm; rw [if_pos (by omega)]
      have a1 : g 14 = g 21 * g 23 := by rw [hm1, show g 12 = g 21 by omega, show g 13 = g 23 by omega]
      have a2 : g 17 = g 11 * g 22 := by rw [hm2, show g 15 = g 11 by omega, show g 16 = g 22 by omega]
      have a3 : g 20 = (g 21 * g 23 - g 11 * g 22).tdiv (g 25) := by rw [hdv, show g 19 = g 25 by omega, show g 18 = g 14 - g 17 by omega, a1, a2]
      have u6' := u6 _ t896
      rw [eU] at u6'
      have hx : x = nbG (g 4).toNat q d9 B9 (bvG (g 2)) (g 3).toNat 13 j := by
        unfold nbG
        rw [if_neg (by omega), ← u3 (g 3).toNat (by omega), ← u3 j (by omega), ← h4, ← u6', ← u8, hB, ← vrl, ← vy, ← vrp, ← vd, ← a3]; omega
      rw [PfG_e qS]
      refine ⟨q, d9, B9, ⟨u1, uN, uY, uU, by omega⟩, ⟨u2, u3⟩, fun r c hr hc => ?_, u5, u6, ⟨u7, u8⟩, ?_⟩
      · have h5 := u4 r c hr hc
        rw [BGm_w (r0 := 13) rfl (by omega) r c hc (by omega)]
        by_cases e : r = 13 ∧ c = j
        · rw [if_pos (by omega), if_pos e, e.1, e.2]; exact hx
        · rw [if_neg e]
          by_cases e2 : (r : Int) < g 5 ∨ ((r : Int) = g 5 ∧ (c : Int) < g 6)
          · rw [if_pos e2] at h5; rw [if_pos (by omega)]; exact h5
          · rw [if_neg e2] at h5; rw [if_neg (by omega)]; exact h5
      · rcases u9 with q9 | q9 | q9
        · exact Or.inl q9
        · rw [n897] at q9; cases q9.1
        · rw [n897] at q9; cases q9.1), fun _ _ _ _ _ e0 e1 e2 e3 e4 => no9 n899 e4, fun _ _ _ e0 e1 e2 => no9 n882 e2, fun _ _ e0 e1 => no9 n882 e0, fun _ _ _ e0 e1 e2 => no9 n905 e0⟩, k_d, k_l, k_k, k_e, k_t, k_n, k_j⟩
def wu_Bl13 : Ru := ([(7, (0, (0, (0, 0)))), (8, (0, (0, (0, 0)))), (0, (883, (0, (0, 0)))), (0, (892, (0, (0, 0)))), (0, (893, (0, (0, 0)))), (0, (894, (0, (0, 0)))), (0, (895, (0, (0, 0)))), (0, (880, (0, (0, 0)))), (0, (881, (0, (0, 0)))), (0, (871, (0, (0, 0)))), (0, (872, (0, (0, 0)))), (9, (97, (0, (1, 0))))], ([896, 897, 882, 886, 887, 889, 891, 899, 905, 930, 931, 932, 933, 934, 935, 936, 937, 938, 939, 910, 911, 912, 913, 914, 915, 940, 941, 942, 943, 944, 945, 946, 947, 948, 949, 950, 951, 952, 953, 954, 955, 956, 957, 958, 959, 960, 961, 962, 963, 964, 965, 966, 967, 968, 969, 970, 971, 972, 973, 974, 920, 921, 922, 923, 924, 925, 926, 927, 928, 929], ([([(5, 1)], 13), ([(5, (-1))], (-13)), ([(4, (-1)), (5, 1)], 0), ([(4, 1), (5, (-1))], 0), ([(0, 1), (6, (-1))], 0), ([(0, (-1)), (6, 1)], 0), ([(0, (-1))], 0), ([(0, 1)], 19), ([(1, 1), (11, (-1))], 0), ([(1, (-1)), (11, 1)], 0)], (false, ([], ([], ([(895, some (6, 1))], none)))))))
theorem wk_Bl13 : WrOk SGd 89 wu_Bl13 := by
  intro τ m g j x hi hc ha hS
  obtain ⟨i0, i1, i2, i3, i4, i5, i6, i7, i8, i9, i10, i11, _⟩ := hi
  have xp : g 0 = (j : Int) := i0
  have xv : g 1 = x := i1
  have t883 : τ 883 = some (g 2) := i2
  have t892 : τ 892 = some (g 3) := i3
  have t893 : τ 893 = some (g 4) := i4
  have t894 : τ 894 = some (g 5) := i5
  have t895 : τ 895 = some (g 6) := i6
  have t880 : τ 880 = some (g 7) := i7
  have t881 : τ 881 = some (g 8) := i8
  have t871 : τ 871 = some (g 9) := i9
  have t872 : τ 872 = some (g 10) := i10
  obtain ⟨jrp, urp, vrp⟩ : ∃ j : Nat, 1 * g 0 + 0 = (j : Int) ∧ g 11 = m 97 j := i11
  obtain ⟨c0, c1, c2, c3, c4, c5, c6, c7, c8, c9, _⟩ := hc
  have c0 : 1 * g 5 ≤ 13 := d1 c0
  have c1 : (-1) * g 5 ≤ (-13) := d1 c1
  have c2 : (-1) * g 4 + 1 * g 5 ≤ 0 := d2 c2
  have c3 : 1 * g 4 + (-1) * g 5 ≤ 0 := d2 c3
  have c4 : 1 * g 0 + (-1) * g 6 ≤ 0 := d2 c4
  have c5 : (-1) * g 0 + 1 * g 6 ≤ 0 := d2 c5
  have c6 : (-1) * g 0 ≤ 0 := d1 c6
  have c7 : 1 * g 0 ≤ 19 := d1 c7
  have c8 : 1 * g 1 + (-1) * g 11 ≤ 0 := d2 c8
  have c9 : (-1) * g 1 + 1 * g 11 ≤ 0 := d2 c9
  obtain ⟨a0, a1, a2, a3, a4, a5, a6, a7, a8, a9, a10, a11, a12, a13, a14, a15, a16, a17, a18, a19, a20, a21, a22, a23, a24, a25, a26, a27, a28, a29, a30, a31, a32, a33, a34, a35, a36, a37, a38, a39, a40, a41, a42, a43, a44, a45, a46, a47, a48, a49, a50, a51, a52, a53, a54, a55, a56, a57, a58, a59, a60, a61, a62, a63, a64, a65, a66, a67, a68, a69, _⟩ := ha
  have n896 : τ 896 = none := a0
  have n897 : τ 897 = none := a1
  have n882 : τ 882 = none := a2
  have n886 : τ 886 = none := a3
  have n887 : τ 887 = none := a4
  have n889 : τ 889 = none := a5
  have n891 : τ 891 = none := a6
  have n899 : τ 899 = none := a7
  have n905 : τ 905 = none := a8
  have n930 : τ 930 = none := a9
  have n931 : τ 931 = none := a10
  have n932 : τ 932 = none := a11
  have n933 : τ 933 = none := a12
  have n934 : τ 934 = none := a13
  have n935 : τ 935 = none := a14
  have n936 : τ 936 = none := a15
  have n937 : τ 937 = none := a16
  have n938 : τ 938 = none := a17
  have n939 : τ 939 = none := a18
  have n910 : τ 910 = none := a19
  have n911 : τ 911 = none := a20
  have n912 : τ 912 = none := a21
  have n913 : τ 913 = none := a22
  have n914 : τ 914 = none := a23
  have n915 : τ 915 = none := a24
  have n940 : τ 940 = none := a25
  have n941 : τ 941 = none := a26
  have n942 : τ 942 = none := a27
  have n943 : τ 943 = none := a28
  have n944 : τ 944 = none := a29
  have n945 : τ 945 = none := a30
  have n946 : τ 946 = none := a31
  have n947 : τ 947 = none := a32
  have n948 : τ 948 = none := a33
  have n949 : τ 949 = none := a34
  have n950 : τ 950 = none := a35
  have n951 : τ 951 = none := a36
  have n952 : τ 952 = none := a37
  have n953 : τ 953 = none := a38
  have n954 : τ 954 = none := a39
  have n955 : τ 955 = none := a40
  have n956 : τ 956 = none := a41
  have n957 : τ 957 = none := a42
  have n958 : τ 958 = none := a43
  have n959 : τ 959 = none := a44
  have n960 : τ 960 = none := a45
  have n961 : τ 961 = none := a46
  have n962 : τ 962 = none := a47
  have n963 : τ 963 = none := a48
  have n964 : τ 964 = none := a49
  have n965 : τ 965 = none := a50
  have n966 : τ 966 = none := a51
  have n967 : τ 967 = none := a52
  have n968 : τ 968 = none := a53
  have n969 : τ 969 = none := a54
  have n970 : τ 970 = none := a55
  have n971 : τ 971 = none := a56
  have n972 : τ 972 = none := a57
  have n973 : τ 973 = none := a58
  have n974 : τ 974 = none := a59
  have n920 : τ 920 = none := a60
  have n921 : τ 921 = none := a61
  have n922 : τ 922 = none := a62
  have n923 : τ 923 = none := a63
  have n924 : τ 924 = none := a64
  have n925 : τ 925 = none := a65
  have n926 : τ 926 = none := a66
  have n927 : τ 927 = none := a67
  have n928 : τ 928 = none := a68
  have n929 : τ 929 = none := a69
  obtain ⟨⟨h_p1, h_p2, h_td⟩, k_b, k_q, k_c, k_d, k_l, k_k, k_e, k_t, k_n, k_j⟩ := hS
  have k_c0 := k_c
  obtain ⟨h_ga, h_in, h_ls, h_ld, h_w, h_rd, h_lead, h_ps, h_E, h_up, h_D, h_Z, h_s, h_sp⟩ := k_c0
  have qS : eGS m (wrM m 89 j x) := ⟨fun _ => rfl, fun _ => rfl, fun _ => rfl⟩
  have qL : eGL m (wrM m 89 j x) := fun _ => rfl
  have qK : eGK m (wrM m 89 j x) := ⟨fun _ => rfl, rfl⟩
  have qM : eGM m (wrM m 89 j x) := fun _ => rfl
  have qP : eGP m (wrM m 89 j x) := rfl
  have qC : eGC m (wrM m 89 j x) := fun _ => rfl
  have k_q := e_q qS qP k_q
  have k_d := e_d qS k_d
  have k_l := e_l qS qL k_l
  have k_k := e_k qS qK k_k
  have k_e := e_e qK qM k_e
  have k_t := e_t qK qP k_t
  have k_n := e_n qS k_n
  have k_j := e_j qS qC k_j
  exact ⟨⟨h_p1, h_p2, h_td⟩, k_b, k_q, ⟨(fun qa qb A I e0 e1 e2 e3 => by
      have e0 : g 9 = qa := Option.some.inj (t871.symm.trans e0)
      subst e0
      have e1 : g 10 = qb := Option.some.inj (t872.symm.trans e1)
      subst e1
      have e2 : g 7 = A := Option.some.inj (t880.symm.trans e2)
      subst e2
      have e3 : g 8 = I := Option.some.inj (t881.symm.trans e3)
      subst e3
      exact ⟨(h_ga _ _ _ _ t871 t872 t880 t881).1, fun e8 _ => no9 e8 t892⟩), h_in, h_ls, fun _ _ _ _ _ _ e0 e1 e2 e3 e4 e5 => no9 n899 e4, h_w, fun _ _ e0 e1 => no9 n886 e1, fun _ _ _ e0 e1 e2 => no9 n887 e1, fun _ _ _ _ e0 e1 e2 e3 => no9 n886 e1, fun _ _ _ e0 e1 e2 => no9 n886 e1, (fun qa qb A I w Y N U V e0 e1 e2 e3 e4 e5 e6 e7 e8 => by
      have e0 : g 9 = qa := Option.some.inj (t871.symm.trans e0)
      subst e0
      have e1 : g 10 = qb := Option.some.inj (t872.symm.trans e1)
      subst e1
      have e2 : g 7 = A := Option.some.inj (t880.symm.trans e2)
      subst e2
      have e3 : g 8 = I := Option.some.inj (t881.symm.trans e3)
      subst e3
      have e4 : g 2 = w := Option.some.inj (t883.symm.trans e4)
      subst e4
      have e5 : g 3 = Y := Option.some.inj (t892.symm.trans e5)
      subst e5
      have e6 : g 4 = N := Option.some.inj (t893.symm.trans e6)
      subst e6
      have e7 : g 5 = U := Option.some.inj (t894.symm.trans e7)
      subst e7
      have e8 : g 6 + 1 = V := Option.some.inj e8
      subst e8
      show UpG (wrM m 89 j x) (τ 896) (τ 897) (PfG (wrM m 89 j x) (g 9) (g 10) (g 7) (g 8)) (g 2) (g 3) (g 4) (g 5) (g 6 + 1)
      obtain ⟨q, d9, B9, ⟨u1, uN, uY, uU, uV⟩, ⟨u2, u3⟩, u4, u5, u6, ⟨u7, u8⟩, u9⟩ := (h_up _ _ _ _ _ _ _ _ _ t871 t872 t880 t881 t883 t892 t893 t894 t895)
      have ejp : jrp = j := by omega
      have eN : (g 4).toNat = 13 := by omega
      have hx : x = nbG (g 4).toNat q d9 B9 (bvG (g 2)) (g 3).toNat 13 j := by
        unfold nbG
        rw [if_pos eN.symm, ← u3 j (by omega), ← ejp, ← vrp]; omega
      rw [PfG_e qS]
      refine ⟨q, d9, B9, ⟨u1, uN, uY, uU, by omega⟩, ⟨u2, u3⟩, fun r c hr hc => ?_, u5, u6, ⟨u7, u8⟩, ?_⟩
      · have h5 := u4 r c hr hc
        rw [BGm_w (r0 := 13) rfl (by omega) r c hc (by omega)]
        by_cases e : r = 13 ∧ c = j
        · rw [if_pos (by omega), if_pos e, e.1, e.2]; exact hx
        · rw [if_neg e]
          by_cases e2 : (r : Int) < g 5 ∨ ((r : Int) = g 5 ∧ (c : Int) < g 6)
          · rw [if_pos e2] at h5; rw [if_pos (by omega)]; exact h5
          · rw [if_neg e2] at h5; rw [if_neg (by omega)]; exact h5
      · rcases u9 with q9 | q9 | q9
        · exact Or.inl q9
        · rw [n897] at q9; cases q9.1
        · rw [n897] at q9; cases q9.1), fun _ _ _ _ _ e0 e1 e2 e3 e4 => no9 n899 e4, fun _ _ _ e0 e1 e2 => no9 n882 e2, fun _ _ e0 e1 => no9 n882 e0, fun _ _ _ e0 e1 e2 => no9 n905 e0⟩, k_d, k_l, k_k, k_e, k_t, k_n, k_j⟩
def wu_Bu14 : Ru := ([(7, (0, (0, (0, 0)))), (8, (0, (0, (0, 0)))), (0, (883, (0, (0, 0)))), (0, (892, (0, (0, 0)))), (0, (893, (0, (0, 0)))), (0, (894, (0, (0, 0)))), (0, (895, (0, (0, 0)))), (0, (880, (0, (0, 0)))), (0, (881, (0, (0, 0)))), (0, (871, (0, (0, 0)))), (0, (872, (0, (0, 0)))), (0, (896, (0, (0, 0)))), (0, (850, (0, (0, 0)))), (0, (851, (0, (0, 0)))), (0, (852, (0, (0, 0)))), (0, (853, (0, (0, 0)))), (0, (854, (0, (0, 0)))), (0, (855, (0, (0, 0)))), (0, (856, (0, (0, 0)))), (0, (857, (0, (0, 0)))), (0, (858, (0, (0, 0)))), (9, (97, (3, (1, 0)))), (9, (97, (0, (1, 0)))), (9, (90, (0, (1, 0)))), (4, (0, (0, (7, 0)))), (9, (1000, (24, (1, 0))))], ([897, 882, 886, 887, 889, 891, 899, 905, 930, 931, 932, 933, 934, 935, 936, 937, 938, 939, 910, 911, 912, 913, 914, 915, 940, 941, 942, 943, 944, 945, 946, 947, 948, 949, 950, 951, 952, 953, 954, 955, 956, 957, 958, 959, 960, 961, 962, 963, 964, 965, 966, 967, 968, 969, 970, 971, 972, 973, 974, 920, 921, 922, 923, 924, 925, 926, 927, 928, 929], ([([(5, 1)], 14), ([(5, (-1))], (-14)), ([(4, (-1)), (5, 1)], (-1)), ([(0, 1), (6, (-1))], 0), ([(0, (-1)), (6, 1)], 0), ([(0, (-1))], 0), ([(0, 1)], 19), ([(12, 1), (21, (-1))], 0), ([(12, (-1)), (21, 1)], 0), ([(13, 1), (23, (-1))], 0), ([(13, (-1)), (23, 1)], 0), ([(11, (-1)), (15, 1)], 0), ([(11, 1), (15, (-1))], 0), ([(16, 1), (22, (-1))], 0), ([(16, (-1)), (22, 1)], 0), ([(14, (-1)), (17, 1), (18, 1)], 0), ([(14, 1), (17, (-1)), (18, (-1))], 0), ([(19, 1), (25, (-1))], 0), ([(19, (-1)), (25, 1)], 0), ([(1, 1), (20, (-1))], 0), ([(1, (-1)), (20, 1)], 0)], (false, ([], ([], ([(895, some (6, 1)), (850, none), (851, none), (852, none), (853, none), (854, none), (855, none), (856, none), (857, none), (858, none), (869, none)], none)))))))
theorem wk_Bu14 : WrOk SGd 90 wu_Bu14 := by
  intro τ m g j x hi hc ha hS
  obtain ⟨i0, i1, i2, i3, i4, i5, i6, i7, i8, i9, i10, i11, i12, i13, i14, i15, i16, i17, i18, i19, i20, i21, i22, i23, i24, i25, _⟩ := hi
  have xp : g 0 = (j : Int) := i0
  have xv : g 1 = x := i1
  have t883 : τ 883 = some (g 2) := i2
  have t892 : τ 892 = some (g 3) := i3
  have t893 : τ 893 = some (g 4) := i4
  have t894 : τ 894 = some (g 5) := i5
  have t895 : τ 895 = some (g 6) := i6
  have t880 : τ 880 = some (g 7) := i7
  have t881 : τ 881 = some (g 8) := i8
  have t871 : τ 871 = some (g 9) := i9
  have t872 : τ 872 = some (g 10) := i10
  have t896 : τ 896 = some (g 11) := i11
  have t850 : τ 850 = some (g 12) := i12
  have t851 : τ 851 = some (g 13) := i13
  have t852 : τ 852 = some (g 14) := i14
  have t853 : τ 853 = some (g 15) := i15
  have t854 : τ 854 = some (g 16) := i16
  have t855 : τ 855 = some (g 17) := i17
  have t856 : τ 856 = some (g 18) := i18
  have t857 : τ 857 = some (g 19) := i19
  have t858 : τ 858 = some (g 20) := i20
  obtain ⟨jrl, url, vrl⟩ : ∃ j : Nat, 1 * g 3 + 0 = (j : Int) ∧ g 21 = m 97 j := i21
  obtain ⟨jrp, urp, vrp⟩ : ∃ j : Nat, 1 * g 0 + 0 = (j : Int) ∧ g 22 = m 97 j := i22
  obtain ⟨jy, uy, vy⟩ : ∃ j : Nat, 1 * g 0 + 0 = (j : Int) ∧ g 23 = m 90 j := i23
  have xjc : g 24 = 7 := i24
  obtain ⟨jd, ud, vd⟩ : ∃ j : Nat, 1 * g 24 + 0 = (j : Int) ∧ g 25 = m 1000 j := i25
  obtain ⟨c0, c1, c2, c3, c4, c5, c6, c7, c8, c9, c10, c11, c12, c13, c14, c15, c16, c17, c18, c19, c20, _⟩ := hc
  have c0 : 1 * g 5 ≤ 14 := d1 c0
  have c1 : (-1) * g 5 ≤ (-14) := d1 c1
  have c2 : (-1) * g 4 + 1 * g 5 ≤ (-1) := d2 c2
  have c3 : 1 * g 0 + (-1) * g 6 ≤ 0 := d2 c3
  have c4 : (-1) * g 0 + 1 * g 6 ≤ 0 := d2 c4
  have c5 : (-1) * g 0 ≤ 0 := d1 c5
  have c6 : 1 * g 0 ≤ 19 := d1 c6
  have c7 : 1 * g 12 + (-1) * g 21 ≤ 0 := d2 c7
  have c8 : (-1) * g 12 + 1 * g 21 ≤ 0 := d2 c8
  have c9 : 1 * g 13 + (-1) * g 23 ≤ 0 := d2 c9
  have c10 : (-1) * g 13 + 1 * g 23 ≤ 0 := d2 c10
  have c11 : (-1) * g 11 + 1 * g 15 ≤ 0 := d2 c11
  have c12 : 1 * g 11 + (-1) * g 15 ≤ 0 := d2 c12
  have c13 : 1 * g 16 + (-1) * g 22 ≤ 0 := d2 c13
  have c14 : (-1) * g 16 + 1 * g 22 ≤ 0 := d2 c14
  have c15 : (-1) * g 14 + 1 * g 17 + 1 * g 18 ≤ 0 := d3 c15
  have c16 : 1 * g 14 + (-1) * g 17 + (-1) * g 18 ≤ 0 := d3 c16
  have c17 : 1 * g 19 + (-1) * g 25 ≤ 0 := d2 c17
  have c18 : (-1) * g 19 + 1 * g 25 ≤ 0 := d2 c18
  have c19 : 1 * g 1 + (-1) * g 20 ≤ 0 := d2 c19
  have c20 : (-1) * g 1 + 1 * g 20 ≤ 0 := d2 c20
  obtain ⟨a0, a1, a2, a3, a4, a5, a6, a7, a8, a9, a10, a11, a12, a13, a14, a15, a16, a17, a18, a19, a20, a21, a22, a23, a24, a25, a26, a27, a28, a29, a30, a31, a32, a33, a34, a35, a36, a37, a38, a39, a40, a41, a42, a43, a44, a45, a46, a47, a48, a49, a50, a51, a52, a53, a54, a55, a56, a57, a58, a59, a60, a61, a62, a63, a64, a65, a66, a67, a68, _⟩ := ha
  have n897 : τ 897 = none := a0
  have n882 : τ 882 = none := a1
  have n886 : τ 886 = none := a2
  have n887 : τ 887 = none := a3
  have n889 : τ 889 = none := a4
  have n891 : τ 891 = none := a5
  have n899 : τ 899 = none := a6
  have n905 : τ 905 = none := a7
  have n930 : τ 930 = none := a8
  have n931 : τ 931 = none := a9
  have n932 : τ 932 = none := a10
  have n933 : τ 933 = none := a11
  have n934 : τ 934 = none := a12
  have n935 : τ 935 = none := a13
  have n936 : τ 936 = none := a14
  have n937 : τ 937 = none := a15
  have n938 : τ 938 = none := a16
  have n939 : τ 939 = none := a17
  have n910 : τ 910 = none := a18
  have n911 : τ 911 = none := a19
  have n912 : τ 912 = none := a20
  have n913 : τ 913 = none := a21
  have n914 : τ 914 = none := a22
  have n915 : τ 915 = none := a23
  have n940 : τ 940 = none := a24
  have n941 : τ 941 = none := a25
  have n942 : τ 942 = none := a26
  have n943 : τ 943 = none := a27
  have n944 : τ 944 = none := a28
  have n945 : τ 945 = none := a29
  have n946 : τ 946 = none := a30
  have n947 : τ 947 = none := a31
  have n948 : τ 948 = none := a32
  have n949 : τ 949 = none := a33
  have n950 : τ 950 = none := a34
  have n951 : τ 951 = none := a35
  have n952 : τ 952 = none := a36
  have n953 : τ 953 = none := a37
  have n954 : τ 954 = none := a38
  have n955 : τ 955 = none := a39
  have n956 : τ 956 = none := a40
  have n957 : τ 957 = none := a41
  have n958 : τ 958 = none := a42
  have n959 : τ 959 = none := a43
  have n960 : τ 960 = none := a44
  have n961 : τ 961 = none := a45
  have n962 : τ 962 = none := a46
  have n963 : τ 963 = none := a47
  have n964 : τ 964 = none := a48
  have n965 : τ 965 = none := a49
  have n966 : τ 966 = none := a50
  have n967 : τ 967 = none := a51
  have n968 : τ 968 = none := a52
  have n969 : τ 969 = none := a53
  have n970 : τ 970 = none := a54
  have n971 : τ 971 = none := a55
  have n972 : τ 972 = none := a56
  have n973 : τ 973 = none := a57
  have n974 : τ 974 = none := a58
  have n920 : τ 920 = none := a59
  have n921 : τ 921 = none := a60
  have n922 : τ 922 = none := a61
  have n923 : τ 923 = none := a62
  have n924 : τ 924 = none := a63
  have n925 : τ 925 = none := a64
  have n926 : τ 926 = none := a65
  have n927 : τ 927 = none := a66
  have n928 : τ 928 = none := a67
  have n929 : τ 929 = none := a68
  obtain ⟨⟨h_p1, h_p2, h_td⟩, k_b, k_q, k_c, k_d, k_l, k_k, k_e, k_t, k_n, k_j⟩ := hS
  have k_c0 := k_c
  obtain ⟨h_ga, h_in, h_ls, h_ld, h_w, h_rd, h_lead, h_ps, h_E, h_up, h_D, h_Z, h_s, h_sp⟩ := k_c0
  have k_b0 := k_b
  obtain ⟨h_bit, h_one, h_or, h_and, h_shr, h_m1, h_m2, h_dv, h_r1, h_r2, h_nz⟩ := k_b0
  have qS : eGS m (wrM m 90 j x) := ⟨fun _ => rfl, fun _ => rfl, fun _ => rfl⟩
  have qL : eGL m (wrM m 90 j x) := fun _ => rfl
  have qK : eGK m (wrM m 90 j x) := ⟨fun _ => rfl, rfl⟩
  have qM : eGM m (wrM m 90 j x) := fun _ => rfl
  have qP : eGP m (wrM m 90 j x) := rfl
  have qC : eGC m (wrM m 90 j x) := fun _ => rfl
  have k_q := e_q qS qP k_q
  have k_d := e_d qS k_d
  have k_l := e_l qS qL k_l
  have k_k := e_k qS qK k_k
  have k_e := e_e qK qM k_e
  have k_t := e_t qK qP k_t
  have k_n := e_n qS k_n
  have k_j := e_j qS qC k_j
  exact ⟨⟨h_p1, h_p2, h_td⟩, ⟨h_bit, h_one, h_or, h_and, h_shr, fun _ _ _ e0 e1 e2 => no9 (o := none) rfl e0, fun _ _ _ e0 e1 e2 => no9 (o := none) rfl e0, fun _ _ _ e0 e1 e2 => no9 (o := none) rfl e0, h_r1, h_r2, fun _ e0 => no9 (o := none) rfl e0⟩, k_q, ⟨(fun qa qb A I e0 e1 e2 e3 => by
      have e0 : g 9 = qa := Option.some.inj (t871.symm.trans e0)
      subst e0
      have e1 : g 10 = qb := Option.some.inj (t872.symm.trans e1)
      subst e1
      have e2 : g 7 = A := Option.some.inj (t880.symm.trans e2)
      subst e2
      have e3 : g 8 = I := Option.some.inj (t881.symm.trans e3)
      subst e3
      exact ⟨(h_ga _ _ _ _ t871 t872 t880 t881).1, fun e8 _ => no9 e8 t892⟩), h_in, h_ls, fun _ _ _ _ _ _ e0 e1 e2 e3 e4 e5 => no9 n899 e4, h_w, fun _ _ e0 e1 => no9 n886 e1, fun _ _ _ e0 e1 e2 => no9 n887 e1, fun _ _ _ _ e0 e1 e2 e3 => no9 n886 e1, fun _ _ _ e0 e1 e2 => no9 n886 e1, (fun qa qb A I w Y N U V e0 e1 e2 e3 e4 e5 e6 e7 e8 => by
      have e0 : g 9 = qa := Option.some.inj (t871.symm.trans e0)
      subst e0
      have e1 : g 10 = qb := Option.some.inj (t872.symm.trans e1)
      subst e1
      have e2 : g 7 = A := Option.some.inj (t880.symm.trans e2)
      subst e2
      have e3 : g 8 = I := Option.some.inj (t881.symm.trans e3)
      subst e3
      have e4 : g 2 = w := Option.some.inj (t883.symm.trans e4)
      subst e4
      have e5 : g 3 = Y := Option.some.inj (t892.symm.trans e5)
      subst e5
      have e6 : g 4 = N := Option.some.inj (t893.symm.trans e6)
      subst e6
      have e7 : g 5 = U := Option.some.inj (t894.symm.trans e7)
      subst e7
      have e8 : g 6 + 1 = V := Option.some.inj e8
      subst e8
      show UpG (wrM m 90 j x) (τ 896) (τ 897) (PfG (wrM m 90 j x) (g 9) (g 10) (g 7) (g 8)) (g 2) (g 3) (g 4) (g 5) (g 6 + 1)
      obtain ⟨q, d9, B9, ⟨u1, uN, uY, uU, uV⟩, ⟨u2, u3⟩, u4, u5, u6, ⟨u7, u8⟩, u9⟩ := (h_up _ _ _ _ _ _ _ _ _ t871 t872 t880 t881 t883 t892 t893 t894 t895)
      have hm1 := h_m1 _ _ _ t850 t851 t852
      have hm2 := h_m2 _ _ _ t853 t854 t855
      have hdv := h_dv _ _ _ t856 t857 t858
      have ejl : jrl = (g 3).toNat := by omega
      have ejp : jrp = j := by omega
      have ejy : jy = j := by omega
      have ejd : jd = 7 := by omega
      subst ejl ejd
      rw [ejp] at vrp
      rw [ejy] at vy
      have eU : (g 5).toNat = 14 := by omega
      have h4 := u4 14 j (by omega) (by omega)
      rw [if_neg (by omega)] at h4
      have h4 := h4 (by omega)
      have hB : BGm m 14 j = m 90 j := by unfold BGm; rw [if_pos (by omega)]
      have a1 : g 14 = g 21 * g 23 := by rw [hm1, show g 12 = g 21 by omega, show g 13 = g 23 by omega]
      have a2 : g 17 = g 11 * g 22 := by rw [hm2, show g 15 = g 11 by omega, show g 16 = g 22 by omega]
      have a3 : g 20 = (g 21 * g 23 - g 11 * g 22).tdiv (g 25) := by rw [hdv, show g 19 = g 25 by omega, show g 18 = g 14 - g 17 by omega, a1, a2]
      have u6' := u6 _ t896
      rw [eU] at u6'
      have hx : x = nbG (g 4).toNat q d9 B9 (bvG (g 2)) (g 3).toNat 14 j := by
        unfold nbG
        rw [if_neg (by omega), ← u3 (g 3).toNat (by omega), ← u3 j (by omega), ← h4, ← u6', ← u8, hB, ← vrl, ← vy, ← vrp, ← vd, ← a3]; omega
      rw [PfG_e qS]
      refine ⟨q, d9, B9, ⟨u1, uN, uY, uU, by omega⟩, ⟨u2, u3⟩, fun r c hr hc => ?_, u5, u6, ⟨u7, u8⟩, ?_⟩
      · have h5 := u4 r c hr hc
        rw [BGm_w (r0 := 14) rfl (by omega) r c hc (by omega)]
        by_cases e : r = 14 ∧ c = j
        · rw [if_pos (by omega), if_pos e, e.1, e.2]; exact hx
        · rw [if_neg e]
          by_cases e2 : (r : Int) < g 5 ∨ ((r : Int) = g 5 ∧ (c : Int) < g 6)
          · rw [if_pos e2] at h5; rw [if_pos (by omega)]; exact h5
          · rw [if_neg e2] at h5; rw [if_neg (by omega)]; exact h5
      · rcases u9 with q9 | q9 | q9
        · exact Or.inl q9
        · rw [n897] at q9; cases q9.1
        · rw [n897] at q9; cases q9.1), fun _ _ _ _ _ e0 e1 e2 e3 e4 => no9 n899 e4, fun _ _ _ e0 e1 e2 => no9 n882 e2, fun _ _ e0 e1 => no9 n882 e0, fun _ _ _ e0 e1 e2 => no9 n905 e0⟩, k_d, k_l, k_k, k_e, k_t, k_n, k_j⟩
def wu_Bl14 : Ru := ([(7, (0, (0, (0, 0)))), (8, (0, (0, (0, 0)))), (0, (883, (0, (0, 0)))), (0, (892, (0, (0, 0)))), (0, (893, (0, (0, 0)))), (0, (894, (0, (0, 0)))), (0, (895, (0, (0, 0)))), (0, (880, (0, (0, 0)))), (0, (881, (0, (0, 0)))), (0, (871, (0, (0, 0)))), (0, (872, (0, (0, 0)))), (9, (97, (0, (1, 0))))], ([896, 897, 882, 886, 887, 889, 891, 899, 905, 930, 931, 932, 933, 934, 935, 936, 937, 938, 939, 910, 911, 912, 913, 914, 915, 940, 941, 942, 943, 944, 945, 946, 947, 948, 949, 950, 951, 952, 953, 954, 955, 956, 957, 958, 959, 960, 961, 962, 963, 964, 965, 966, 967, 968, 969, 970, 971, 972, 973, 974, 920, 921, 922, 923, 924, 925, 926, 927, 928, 929], ([([(5, 1)], 14), ([(5, (-1))], (-14)), ([(4, (-1)), (5, 1)], 0), ([(4, 1), (5, (-1))], 0), ([(0, 1), (6, (-1))], 0), ([(0, (-1)), (6, 1)], 0), ([(0, (-1))], 0), ([(0, 1)], 19), ([(1, 1), (11, (-1))], 0), ([(1, (-1)), (11, 1)], 0)], (false, ([], ([], ([(895, some (6, 1))], none)))))))
theorem wk_Bl14 : WrOk SGd 90 wu_Bl14 := by
  intro τ m g j x hi hc ha hS
  obtain ⟨i0, i1, i2, i3, i4, i5, i6, i7, i8, i9, i10, i11, _⟩ := hi
  have xp : g 0 = (j : Int) := i0
  have xv : g 1 = x := i1
  have t883 : τ 883 = some (g 2) := i2
  have t892 : τ 892 = some (g 3) := i3
  have t893 : τ 893 = some (g 4) := i4
  have t894 : τ 894 = some (g 5) := i5
  have t895 : τ 895 = some (g 6) := i6
  have t880 : τ 880 = some (g 7) := i7
  have t881 : τ 881 = some (g 8) := i8
  have t871 : τ 871 = some (g 9) := i9
  have t872 : τ 872 = some (g 10) := i10
  obtain ⟨jrp, urp, vrp⟩ : ∃ j : Nat, 1 * g 0 + 0 = (j : Int) ∧ g 11 = m 97 j := i11
  obtain ⟨c0, c1, c2, c3, c4, c5, c6, c7, c8, c9, _⟩ := hc
  have c0 : 1 * g 5 ≤ 14 := d1 c0
  have c1 : (-1) * g 5 ≤ (-14) := d1 c1
  have c2 : (-1) * g 4 + 1 * g 5 ≤ 0 := d2 c2
  have c3 : 1 * g 4 + (-1) * g 5 ≤ 0 := d2 c3
  have c4 : 1 * g 0 + (-1) * g 6 ≤ 0 := d2 c4
  have c5 : (-1) * g 0 + 1 * g 6 ≤ 0 := d2 c5
  have c6 : (-1) * g 0 ≤ 0 := d1 c6
  have c7 : 1 * g 0 ≤ 19 := d1 c7
  have c8 : 1 * g 1 + (-1) * g 11 ≤ 0 := d2 c8
  have c9 : (-1) * g 1 + 1 * g 11 ≤ 0 := d2 c9
  obtain ⟨a0, a1, a2, a3, a4, a5, a6, a7, a8, a9, a10, a11, a12, a13, a14, a15, a16, a17, a18, a19, a20, a21, a22, a23, a24, a25, a26, a27, a28, a29, a30, a31, a32, a33, a34, a35, a36, a37, a38, a39, a40, a41, a42, a43, a44, a45, a46, a47, a48, a49, a50, a51, a52, a53, a54, a55, a56, a57, a58, a59, a60, a61, a62, a63, a64, a65, a66, a67, a68, a69, _⟩ := ha
  have n896 : τ 896 = none := a0
  have n897 : τ 897 = none := a1
  have n882 : τ 882 = none := a2
  have n886 : τ 886 = none := a3
  have n887 : τ 887 = none := a4
  have n889 : τ 889 = none := a5
  have n891 : τ 891 = none := a6
  have n899 : τ 899 = none := a7
  have n905 : τ 905 = none := a8
  have n930 : τ 930 = none := a9
  have n931 : τ 931 = none := a10
  have n932 : τ 932 = none := a11
  have n933 : τ 933 = none := a12
  have n934 : τ 934 = none := a13
  have n935 : τ 935 = none := a14
  have n936 : τ 936 = none := a15
  have n937 : τ 937 = none := a16
  have n938 : τ 938 = none := a17
  have n939 : τ 939 = none := a18
  have n910 : τ 910 = none := a19
  have n911 : τ 911 = none := a20
  have n912 : τ 912 = none := a21
  have n913 : τ 913 = none := a22
  have n914 : τ 914 = none := a23
  have n915 : τ 915 = none := a24
  have n940 : τ 940 = none := a25
  have n941 : τ 941 = none := a26
  have n942 : τ 942 = none := a27
  have n943 : τ 943 = none := a28
  have n944 : τ 944 = none := a29
  have n945 : τ 945 = none := a30
  have n946 : τ 946 = none := a31
  have n947 : τ 947 = none := a32
  have n948 : τ 948 = none := a33
  have n949 : τ 949 = none := a34
  have n950 : τ 950 = none := a35
  have n951 : τ 951 = none := a36
  have n952 : τ 952 = none := a37
  have n953 : τ 953 = none := a38
  have n954 : τ 954 = none := a39
  have n955 : τ 955 = none := a40
  have n956 : τ 956 = none := a41
  have n957 : τ 957 = none := a42
  have n958 : τ 958 = none := a43
  have n959 : τ 959 = none := a44
  have n960 : τ 960 = none := a45
  have n961 : τ 961 = none := a46
  have n962 : τ 962 = none := a47
  have n963 : τ 963 = none := a48
  have n964 : τ 964 = none := a49
  have n965 : τ 965 = none := a50
  have n966 : τ 966 = none := a51
  have n967 : τ 967 = none := a52
  have n968 : τ 968 = none := a53
  have n969 : τ 969 = none := a54
  have n970 : τ 970 = none := a55
  have n971 : τ 971 = none := a56
  have n972 : τ 972 = none := a57
  have n973 : τ 973 = none := a58
  have n974 : τ 974 = none := a59
  have n920 : τ 920 = none := a60
  have n921 : τ 921 = none := a61
  have n922 : τ 922 = none := a62
  have n923 : τ 923 = none := a63
  have n924 : τ 924 = none := a64
  have n925 : τ 925 = none := a65
  have n926 : τ 926 = none := a66
  have n927 : τ 927 = none := a67
  have n928 : τ 928 = none := a68
  have n929 : τ 929 = none := a69
  obtain ⟨⟨h_p1, h_p2, h_td⟩, k_b, k_q, k_c, k_d, k_l, k_k, k_e, k_t, k_n, k_j⟩ := hS
  have k_c0 := k_c
  obtain ⟨h_ga, h_in, h_ls, h_ld, h_w, h_rd, h_lead, h_ps, h_E, h_up, h_D, h_Z, h_s, h_sp⟩ := k_c0
  have qS : eGS m (wrM m 90 j x) := ⟨fun _ => rfl, fun _ => rfl, fun _ => rfl⟩
  have qL : eGL m (wrM m 90 j x) := fun _ => rfl
  have qK : eGK m (wrM m 90 j x) := ⟨fun _ => rfl, rfl⟩
  have qM : eGM m (wrM m 90 j x) := fun _ => rfl
  have qP : eGP m (wrM m 90 j x) := rfl
  have qC : eGC m (wrM m 90 j x) := fun _ => rfl
  have k_q := e_q qS qP k_q
  have k_d := e_d qS k_d
  have k_l := e_l qS qL k_l
  have k_k := e_k qS qK k_k
  have k_e := e_e qK qM k_e
  have k_t := e_t qK qP k_t
  have k_n := e_n qS k_n
  have k_j := e_j qS qC k_j
  exact ⟨⟨h_p1, h_p2, h_td⟩, k_b, k_q, ⟨(fun qa qb A I e0 e1 e2 e3 => by
      have e0 : g 9 = qa := Option.some.inj (t871.symm.trans e0)
      subst e0
      have e1 : g 10 = qb := Option.some.inj (t872.symm.trans e1)
      subst e1
      have e2 : g 7 = A := Option.some.inj (t880.symm.trans e2)
      subst e2
      have e3 : g 8 = I := Option.some.inj (t881.symm.trans e3)
      subst e3
      exact ⟨(h_ga _ _ _ _ t871 t872 t880 t881).1, fun e8 _ => no9 e8 t892⟩), h_in, h_ls, fun _ _ _ _ _ _ e0 e1 e2 e3 e4 e5 => no9 n899 e4, h_w, fun _ _ e0 e1 => no9 n886 e1, fun _ _ _ e0 e1 e2 => no9 n887 e1, fun _ _ _ _ e0 e1 e2 e3 => no9 n886 e1, fun _ _ _ e0 e1 e2 => no9 n886 e1, (fun qa qb A I w Y N U V e0 e1 e2 e3 e4 e5 e6 e7 e8 => by
      have e0 : g 9 = qa := Option.some.inj (t871.symm.trans e0)
      subst e0
      have e1 : g 10 = qb := Option.some.inj (t872.symm.trans e1)
      subst e1
      have e2 : g 7 = A := Option.some.inj (t880.symm.trans e2)
      subst e2
      have e3 : g 8 = I := Option.some.inj (t881.symm.trans e3)
      subst e3
      have e4 : g 2 = w := Option.some.inj (t883.symm.trans e4)
      subst e4
      have e5 : g 3 = Y := Option.some.inj (t892.symm.trans e5)
      subst e5
      have e6 : g 4 = N := Option.some.inj (t893.symm.trans e6)
      subst e6
      have e7 : g 5 = U := Option.some.inj (t894.symm.trans e7)
      subst e7
      have e8 : g 6 + 1 = V := Option.some.inj e8
      subst e8
      show UpG (wrM m 90 j x) (τ 896) (τ 897) (PfG (wrM m 90 j x) (g 9) (g 10) (g 7) (g 8)) (g 2) (g 3) (g 4) (g 5) (g 6 + 1)
      obtain ⟨q, d9, B9, ⟨u1, uN, uY, uU, uV⟩, ⟨u2, u3⟩, u4, u5, u6, ⟨u7, u8⟩, u9⟩ := (h_up _ _ _ _ _ _ _ _ _ t871 t872 t880 t881 t883 t892 t893 t894 t895)
      have ejp : jrp = j := by omega
      have eN : (g 4).toNat = 14 := by omega
      have hx : x = nbG (g 4).toNat q d9 B9 (bvG (g 2)) (g 3).toNat 14 j := by
        unfold nbG
        rw [if_pos eN.symm, ← u3 j (by omega), ← ejp, ← vrp]; omega
      rw [PfG_e qS]
      refine ⟨q, d9, B9, ⟨u1, uN, uY, uU, by omega⟩, ⟨u2, u3⟩, fun r c hr hc => ?_, u5, u6, ⟨u7, u8⟩, ?_⟩
      · have h5 := u4 r c hr hc
        rw [BGm_w (r0 := 14) rfl (by omega) r c hc (by omega)]
        by_cases e : r = 14 ∧ c = j
        · rw [if_pos (by omega), if_pos e, e.1, e.2]; exact hx
        · rw [if_neg e]
          by_cases e2 : (r : Int) < g 5 ∨ ((r : Int) = g 5 ∧ (c : Int) < g 6)
          · rw [if_pos e2] at h5; rw [if_pos (by omega)]; exact h5
          · rw [if_neg e2] at h5; rw [if_neg (by omega)]; exact h5
      · rcases u9 with q9 | q9 | q9
        · exact Or.inl q9
        · rw [n897] at q9; cases q9.1
        · rw [n897] at q9; cases q9.1), fun _ _ _ _ _ e0 e1 e2 e3 e4 => no9 n899 e4, fun _ _ _ e0 e1 e2 => no9 n882 e2, fun _ _ e0 e1 => no9 n882 e0, fun _ _ _ e0 e1 e2 => no9 n905 e0⟩, k_d, k_l, k_k, k_e, k_t, k_n, k_j⟩
def wu_Bu15 : Ru := ([(7, (0, (0, (0, 0)))), (8, (0, (0, (0, 0)))), (0, (883, (0, (0, 0)))), (0, (892, (0, (0, 0)))), (0, (893, (0, (0, 0)))), (0, (894, (0, (0, 0)))), (0, (895, (0, (0, 0)))), (0, (880, (0, (0, 0)))), (0, (881, (0, (0, 0)))), (0, (871, (0, (0, 0)))), (0, (872, (0, (0, 0)))), (0, (896, (0, (0, 0)))), (0, (850, (0, (0, 0)))), (0, (851, (0, (0, 0)))), (0, (852, (0, (0, 0)))), (0, (853, (0, (0, 0)))), (0, (854, (0, (0, 0)))), (0, (855, (0, (0, 0)))), (0, (856, (0, (0, 0)))), (0, (857, (0, (0, 0)))), (0, (858, (0, (0, 0)))), (9, (97, (3, (1, 0)))), (9, (97, (0, (1, 0)))), (9, (91, (0, (1, 0)))), (4, (0, (0, (7, 0)))), (9, (1000, (24, (1, 0))))], ([897, 882, 886, 887, 889, 891, 899, 905, 930, 931, 932, 933, 934, 935, 936, 937, 938, 939, 910, 911, 912, 913, 914, 915, 940, 941, 942, 943, 944, 945, 946, 947, 948, 949, 950, 951, 952, 953, 954, 955, 956, 957, 958, 959, 960, 961, 962, 963, 964, 965, 966, 967, 968, 969, 970, 971, 972, 973, 974, 920, 921, 922, 923, 924, 925, 926, 927, 928, 929], ([([(5, 1)], 15), ([(5, (-1))], (-15)), ([(4, (-1)), (5, 1)], (-1)), ([(0, 1), (6, (-1))], 0), ([(0, (-1)), (6, 1)], 0), ([(0, (-1))], 0), ([(0, 1)], 19), ([(12, 1), (21, (-1))], 0), ([(12, (-1)), (21, 1)], 0), ([(13, 1), (23, (-1))], 0), ([(13, (-1)), (23, 1)], 0), ([(11, (-1)), (15, 1)], 0), ([(11, 1), (15, (-1))], 0), ([(16, 1), (22, (-1))], 0), ([(16, (-1)), (22, 1)], 0), ([(14, (-1)), (17, 1), (18, 1)], 0), ([(14, 1), (17, (-1)), (18, (-1))], 0), ([(19, 1), (25, (-1))], 0), ([(19, (-1)), (25, 1)], 0), ([(1, 1), (20, (-1))], 0), ([(1, (-1)), (20, 1)], 0)], (false, ([], ([], ([(895, some (6, 1)), (850, none), (851, none), (852, none), (853, none), (854, none), (855, none), (856, none), (857, none), (858, none), (869, none)], none)))))))
theorem wk_Bu15 : WrOk SGd 91 wu_Bu15 := by
  intro τ m g j x hi hc ha hS
  obtain ⟨i0, i1, i2, i3, i4, i5, i6, i7, i8, i9, i10, i11, i12, i13, i14, i15, i16, i17, i18, i19, i20, i21, i22, i23, i24, i25, _⟩ := hi
  have xp : g 0 = (j : Int) := i0
  have xv : g 1 = x := i1
  have t883 : τ 883 = some (g 2) := i2
  have t892 : τ 892 = some (g 3) := i3
  have t893 : τ 893 = some (g 4) := i4
  have t894 : τ 894 = some (g 5) := i5
  have t895 : τ 895 = some (g 6) := i6
  have t880 : τ 880 = some (g 7) := i7
  have t881 : τ 881 = some (g 8) := i8
  have t871 : τ 871 = some (g 9) := i9
  have t872 : τ 872 = some (g 10) := i10
  have t896 : τ 896 = some (g 11) := i11
  have t850 : τ 850 = some (g 12) := i12
  have t851 : τ 851 = some (g 13) := i13
  have t852 : τ 852 = some (g 14) := i14
  have t853 : τ 853 = some (g 15) := i15
  have t854 : τ 854 = some (g 16) := i16
  have t855 : τ 855 = some (g 17) := i17
  have t856 : τ 856 = some (g 18) := i18
  have t857 : τ 857 = some (g 19) := i19
  have t858 : τ 858 = some (g 20) := i20
  obtain ⟨jrl, url, vrl⟩ : ∃ j : Nat, 1 * g 3 + 0 = (j : Int) ∧ g 21 = m 97 j := i21
  obtain ⟨jrp, urp, vrp⟩ : ∃ j : Nat, 1 * g 0 + 0 = (j : Int) ∧ g 22 = m 97 j := i22
  obtain ⟨jy, uy, vy⟩ : ∃ j : Nat, 1 * g 0 + 0 = (j : Int) ∧ g 23 = m 91 j := i23
  have xjc : g 24 = 7 := i24
  obtain ⟨jd, ud, vd⟩ : ∃ j : Nat, 1 * g 24 + 0 = (j : Int) ∧ g 25 = m 1000 j := i25
  obtain ⟨c0, c1, c2, c3, c4, c5, c6, c7, c8, c9, c10, c11, c12, c13, c14, c15, c16, c17, c18, c19, c20, _⟩ := hc
  have c0 : 1 * g 5 ≤ 15 := d1 c0
  have c1 : (-1) * g 5 ≤ (-15) := d1 c1
  have c2 : (-1) * g 4 + 1 * g 5 ≤ (-1) := d2 c2
  have c3 : 1 * g 0 + (-1) * g 6 ≤ 0 := d2 c3
  have c4 : (-1) * g 0 + 1 * g 6 ≤ 0 := d2 c4
  have c5 : (-1) * g 0 ≤ 0 := d1 c5
  have c6 : 1 * g 0 ≤ 19 := d1 c6
  have c7 : 1 * g 12 + (-1) * g 21 ≤ 0 := d2 c7
  have c8 : (-1) * g 12 + 1 * g 21 ≤ 0 := d2 c8
  have c9 : 1 * g 13 + (-1) * g 23 ≤ 0 := d2 c9
  have c10 : (-1) * g 13 + 1 * g 23 ≤ 0 := d2 c10
  have c11 : (-1) * g 11 + 1 * g 15 ≤ 0 := d2 c11
  have c12 : 1 * g 11 + (-1) * g 15 ≤ 0 := d2 c12
  have c13 : 1 * g 16 + (-1) * g 22 ≤ 0 := d2 c13
  have c14 : (-1) * g 16 + 1 * g 22 ≤ 0 := d2 c14
  have c15 : (-1) * g 14 + 1 * g 17 + 1 * g 18 ≤ 0 := d3 c15
  have c16 : 1 * g 14 + (-1) * g 17 + (-1) * g 18 ≤ 0 := d3 c16
  have c17 : 1 * g 19 + (-1) * g 25 ≤ 0 := d2 c17
  have c18 : (-1) * g 19 + 1 * g 25 ≤ 0 := d2 c18
  have c19 : 1 * g 1 + (-1) * g 20 ≤ 0 := d2 c19
  have c20 : (-1) * g 1 + 1 * g 20 ≤ 0 := d2 c20
  obtain ⟨a0, a1, a2, a3, a4, a5, a6, a7, a8, a9, a10, a11, a12, a13, a14, a15, a16, a17, a18, a19, a20, a21, a22, a23, a24, a25, a26, a27, a28, a29, a30, a31, a32, a33, a34, a35, a36, a37, a38, a39, a40, a41, a42, a43, a44, a45, a46, a47, a48, a49, a50, a51, a52, a53, a54, a55, a56, a57, a58, a59, a60, a61, a62, a63, a64, a65, a66, a67, a68, _⟩ := ha
  have n897 : τ 897 = none := a0
  have n882 : τ 882 = none := a1
  have n886 : τ 886 = none := a2
  have n887 : τ 887 = none := a3
  have n889 : τ 889 = none := a4
  have n891 : τ 891 = none := a5
  have n899 : τ 899 = none := a6
  have n905 : τ 905 = none := a7
  have n930 : τ 930 = none := a8
  have n931 : τ 931 = none := a9
  have n932 : τ 932 = none := a10
  have n933 : τ 933 = none := a11
  have n934 : τ 934 = none := a12
  have n935 : τ 935 = none := a13
  have n936 : τ 936 = none := a14
  have n937 : τ 937 = none := a15
  have n938 : τ 938 = none := a16
  have n939 : τ 939 = none := a17
  have n910 : τ 910 = none := a18
  have n911 : τ 911 = none := a19
  have n912 : τ 912 = none := a20
  have n913 : τ 913 = none := a21
  have n914 : τ 914 = none := a22
  have n915 : τ 915 = none := a23
  have n940 : τ 940 = none := a24
  have n941 : τ 941 = none := a25
  have n942 : τ 942 = none := a26
  have n943 : τ 943 = none := a27
  have n944 : τ 944 = none := a28
  have n945 : τ 945 = none := a29
  have n946 : τ 946 = none := a30
  have n947 : τ 947 = none := a31
  have n948 : τ 948 = none := a32
  have n949 : τ 949 = none := a33
  have n950 : τ 950 = none := a34
  have n951 : τ 951 = none := a35
  have n952 : τ 952 = none := a36
  have n953 : τ 953 = none := a37
  have n954 : τ 954 = none := a38
  have n955 : τ 955 = none := a39
  have n956 : τ 956 = none := a40
  have n957 : τ 957 = none := a41
  have n958 : τ 958 = none := a42
  have n959 : τ 959 = none := a43
  have n960 : τ 960 = none := a44
  have n961 : τ 961 = none := a45
  have n962 : τ 962 = none := a46
  have n963 : τ 963 = none := a47
  have n964 : τ 964 = none := a48
  have n965 : τ 965 = none := a49
  have n966 : τ 966 = none := a50
  have n967 : τ 967 = none := a51
  have n968 : τ 968 = none := a52
  have n969 : τ 969 = none := a53
  have n970 : τ 970 = none := a54
  have n971 : τ 971 = none := a55
  have n972 : τ 972 = none := a56
  have n973 : τ 973 = none := a57
  have n974 : τ 974 = none := a58
  have n920 : τ 920 = none := a59
  have n921 : τ 921 = none := a60
  have n922 : τ 922 = none := a61
  have n923 : τ 923 = none := a62
  have n924 : τ 924 = none := a63
  have n925 : τ 925 = none := a64
  have n926 : τ 926 = none := a65
  have n927 : τ 927 = none := a66
  have n928 : τ 928 = none := a67
  have n929 : τ 929 = none := a68
  obtain ⟨⟨h_p1, h_p2, h_td⟩, k_b, k_q, k_c, k_d, k_l, k_k, k_e, k_t, k_n, k_j⟩ := hS
  have k_c0 := k_c
  obtain ⟨h_ga, h_in, h_ls, h_ld, h_w, h_rd, h_lead, h_ps, h_E, h_up, h_D, h_Z, h_s, h_sp⟩ := k_c0
  have k_b0 := k_b
  obtain ⟨h_bit, h_one, h_or, h_and, h_shr, h_m1, h_m2, h_dv, h_r1, h_r2, h_nz⟩ := k_b0
  have qS : eGS m (wrM m 91 j x) := ⟨fun _ => rfl, fun _ => rfl, fun _ => rfl⟩
  have qL : eGL m (wrM m 91 j x) := fun _ => rfl
  have qK : eGK m (wrM m 91 j x) := ⟨fun _ => rfl, rfl⟩
  have qM : eGM m (wrM m 91 j x) := fun _ => rfl
  have qP : eGP m (wrM m 91 j x) := rfl
  have qC : eGC m (wrM m 91 j x) := fun _ => rfl
  have k_q := e_q qS qP k_q
  have k_d := e_d qS k_d
  have k_l := e_l qS qL k_l
  have k_k := e_k qS qK k_k
  have k_e := e_e qK qM k_e
  have k_t := e_t qK qP k_t
  have k_n := e_n qS k_n
  have k_j := e_j qS qC k_j
  exact ⟨⟨h_p1, h_p2, h_td⟩, ⟨h_bit, h_one, h_or, h_and, h_shr, fun _ _ _ e0 e1 e2 => no9 (o := none) rfl e0, fun _ _ _ e0 e1 e2 => no9 (o := none) rfl e0, fun _ _ _ e0 e1 e2 => no9 (o := none) rfl e0, h_r1, h_r2, fun _ e0 => no9 (o := none) rfl e0⟩, k_q, ⟨(fun qa qb A I e0 e1 e2 e3 => by
      have e0 : g 9 = qa := Option.some.inj (t871.symm.trans e0)
      subst e0
      have e1 : g 10 = qb := Option.some.inj (t872.symm.trans e1)
      subst e1
      have e2 : g 7 = A := Option.some.inj (t880.symm.trans e2)
      subst e2
      have e3 : g 8 = I := Option.some.inj (t881.symm.trans e3)
      subst e3
      exact ⟨(h_ga _ _ _ _ t871 t872 t880 t881).1, fun e8 _ => no9 e8 t892⟩), h_in, h_ls, fun _ _ _ _ _ _ e0 e1 e2 e3 e4 e5 => no9 n899 e4, h_w, fun _ _ e0 e1 => no9 n886 e1, fun _ _ _ e0 e1 e2 => no9 n887 e1, fun _ _ _ _ e0 e1 e2 e3 => no9 n886 e1, fun _ _ _ e0 e1 e2 => no9 n886 e1, (fun qa qb A I w Y N U V e0 e1 e2 e3 e4 e5 e6 e7 e8 => by
      have e0 : g 9 = qa := Option.some.inj (t871.symm.trans e0)
      subst e0
      have e1 : g 10 = qb := Option.some.inj (t872.symm.trans e1)
      subst e1
      have e2 : g 7 = A := Option.some.inj (t880.symm.trans e2)
      subst e2
      have e3 : g 8 = I := Option.some.inj (t881.symm.trans e3)
      subst e3
      have e4 : g 2 = w := Option.some.inj (t883.symm.trans e4)
      subst e4
      have e5 : g 3 = Y := Option.some.inj (t892.symm.trans e5)
      subst e5
      have e6 : g 4 = N := Option.some.inj (t893.symm.trans e6)
      subst e6
      have e7 : g 5 = U := Option.some.inj (t894.symm.trans e7)
      subst e7
      have e8 : g 6 + 1 = V := Option.some.inj e8
      subst e8
      show UpG (wrM m 91 j x) (τ 896) (τ 897) (PfG (wrM m 91 j x) (g 9) (g 10) (g 7) (g 8)) (g 2) (g 3) (g 4) (g 5) (g 6 + 1)
      obtain ⟨q, d9, B9, ⟨u1, uN, uY, uU, uV⟩, ⟨u2, u3⟩, u4, u5, u6, ⟨u7, u8⟩, u9⟩ := (h_up _ _ _ _ _ _ _ _ _ t871 t872 t880 t881 t883 t892 t893 t894 t895)
      have hm1 := h_m1 _ _ _ t850 t851 t852
      have hm2 := h_m2 _ _ _ t853 t854 t855
      have hdv := h_dv _ _ _ t856 t857 t858
      have ejl : jrl = (g 3).toNat := by omega
      have ejp : jrp = j := by omega
      have ejy : jy = j := by omega
      have ejd : jd = 7 := by omega
      subst ejl ejd
      rw [ejp] at vrp
      rw [ejy] at vy
      have eU : (g 5).toNat = 15 := by omega
      have h4 := u4 15 j (by omega) (by omega)
      rw [if_neg (by omega)] at h4
      have h4 := h4 (by omega)
      have hB : BGm m 15 j = m 91 j := by unfold BGm; rw [if_pos (by omega)]
      have a1 : g 14 = g 21 * g 23 := by rw [hm1, show g 12 = g 21 by omega, show g 13 = g 23 by omega]
      have a2 : g 17 = g 11 * g 22 := by rw [hm2, show g 15 = g 11 by omega, show g 16 = g 22 by omega]
      have a3 : g 20 = (g 21 * g 23 - g 11 * g 22).tdiv (g 25) := by rw [hdv, show g 19 = g 25 by omega, show g 18 = g 14 - g 17 by omega, a1, a2]
      have u6' := u6 _ t896
      rw [eU] at u6'
      have hx : x = nbG (g 4).toNat q d9 B9 (bvG (g 2)) (g 3).toNat 15 j := by
        unfold nbG
        rw [if_neg (by omega), ← u3 (g 3).toNat (by omega), ← u3 j (by omega), ← h4, ← u6', ← u8, hB, ← vrl, ← vy, ← vrp, ← vd, ← a3]; omega
      rw [PfG_e qS]
      refine ⟨q, d9, B9, ⟨u1, uN, uY, uU, by omega⟩, ⟨u2, u3⟩, fun r c hr hc => ?_, u5, u6, ⟨u7, u8⟩, ?_⟩
      · have h5 := u4 r c hr hc
        rw [BGm_w (r0 := 15) rfl (by omega) r c hc (by omega)]
        by_cases e : r = 15 ∧ c = j
        · rw [if_pos (by omega), if_pos e, e.1, e.2]; exact hx
        · rw [if_neg e]
          by_cases e2 : (r : Int) < g 5 ∨ ((r : Int) = g 5 ∧ (c : Int) < g 6)
          · rw [if_pos e2] at h5; rw [if_pos (by omega)]; exact h5
          · rw [if_neg e2] at h5; rw [if_neg (by omega)]; exact h5
      · rcases u9 with q9 | q9 | q9
        · exact Or.inl q9
        · rw [n897] at q9; cases q9.1
        · rw [n897] at q9; cases q9.1), fun _ _ _ _ _ e0 e1 e2 e3 e4 => no9 n899 e4, fun _ _ _ e0 e1 e2 => no9 n882 e2, fun _ _ e0 e1 => no9 n882 e0, fun _ _ _ e0 e1 e2 => no9 n905 e0⟩, k_d, k_l, k_k, k_e, k_t, k_n, k_j⟩
def wu_Bl15 : Ru := ([(7, (0, (0, (0, 0)))), (8, (0, (0, (0, 0)))), (0, (883, (0, (0, 0)))), (0, (892, (0, (0, 0)))), (0, (893, (0, (0, 0)))), (0, (894, (0, (0, 0)))), (0, (895, (0, (0, 0)))), (0, (880, (0, (0, 0)))), (0, (881, (0, (0, 0)))), (0, (871, (0, (0, 0)))), (0, (872, (0, (0, 0)))), (9, (97, (0, (1, 0))))], ([896, 897, 882, 886, 887, 889, 891, 899, 905, 930, 931, 932, 933, 934, 935, 936, 937, 938, 939, 910, 911, 912, 913, 914, 915, 940, 941, 942, 943, 944, 945, 946, 947, 948, 949, 950, 951, 952, 953, 954, 955, 956, 957, 958, 959, 960, 961, 962, 963, 964, 965, 966, 967, 968, 969, 970, 971, 972, 973, 974, 920, 921, 922, 923, 924, 925, 926, 927, 928, 929], ([([(5, 1)], 15), ([(5, (-1))], (-15)), ([(4, (-1)), (5, 1)], 0), ([(4, 1), (5, (-1))], 0), ([(0, 1), (6, (-1))], 0), ([(0, (-1)), (6, 1)], 0), ([(0, (-1))], 0), ([(0, 1)], 19), ([(1, 1), (11, (-1))], 0), ([(1, (-1)), (11, 1)], 0)], (false, ([], ([], ([(895, some (6, 1))], none)))))))
theorem wk_Bl15 : WrOk SGd 91 wu_Bl15 := by
  intro τ m g j x hi hc ha hS
  obtain ⟨i0, i1, i2, i3, i4, i5, i6, i7, i8, i9, i10, i11, _⟩ := hi
  have xp : g 0 = (j : Int) := i0
  have xv : g 1 = x := i1
  have t883 : τ 883 = some (g 2) := i2
  have t892 : τ 892 = some (g 3) := i3
  have t893 : τ 893 = some (g 4) := i4
  have t894 : τ 894 = some (g 5) := i5
  have t895 : τ 895 = some (g 6) := i6
  have t880 : τ 880 = some (g 7) := i7
  have t881 : τ 881 = some (g 8) := i8
  have t871 : τ 871 = some (g 9) := i9
  have t872 : τ 872 = some (g 10) := i10
  obtain ⟨jrp, urp, vrp⟩ : ∃ j : Nat, 1 * g 0 + 0 = (j : Int) ∧ g 11 = m 97 j := i11
  obtain ⟨c0, c1, c2, c3, c4, c5, c6, c7, c8, c9, _⟩ := hc
  have c0 : 1 * g 5 ≤ 15 := d1 c0
  have c1 : (-1) * g 5 ≤ (-15) := d1 c1
  have c2 : (-1) * g 4 + 1 * g 5 ≤ 0 := d2 c2
  have c3 : 1 * g 4 + (-1) * g 5 ≤ 0 := d2 c3
  have c4 : 1 * g 0 + (-1) * g 6 ≤ 0 := d2 c4
  have c5 : (-1) * g 0 + 1 * g 6 ≤ 0 := d2 c5
  have c6 : (-1) * g 0 ≤ 0 := d1 c6
  have c7 : 1 * g 0 ≤ 19 := d1 c7
  have c8 : 1 * g 1 + (-1) * g 11 ≤ 0 := d2 c8
  have c9 : (-1) * g 1 + 1 * g 11 ≤ 0 := d2 c9
  obtain ⟨a0, a1, a2, a3, a4, a5, a6, a7, a8, a9, a10, a11, a12, a13, a14, a15, a16, a17, a18, a19, a20, a21, a22, a23, a24, a25, a26, a27, a28, a29, a30, a31, a32, a33, a34, a35, a36, a37, a38, a39, a40, a41, a42, a43, a44, a45, a46, a47, a48, a49, a50, a51, a52, a53, a54, a55, a56, a57, a58, a59, a60, a61, a62, a63, a64, a65, a66, a67, a68, a69, _⟩ := ha
  have n896 : τ 896 = none := a0
  have n897 : τ 897 = none := a1
  have n882 : τ 882 = none := a2
  have n886 : τ 886 = none := a3
  have n887 : τ 887 = none := a4
  have n889 : τ 889 = none := a5
  have n891 : τ 891 = none := a6
  have n899 : τ 899 = none := a7
  have n905 : τ 905 = none := a8
  have n930 : τ 930 = none := a9
  have n931 : τ 931 = none := a10
  have n932 : τ 932 = none := a11
  have n933 : τ 933 = none := a12
  have n934 : τ 934 = none := a13
  have n935 : τ 935 = none := a14
  have n936 : τ 936 = none := a15
  have n937 : τ 937 = none := a16
  have n938 : τ 938 = none := a17
  have n939 : τ 939 = none := a18
  have n910 : τ 910 = none := a19
  have n911 : τ 911 = none := a20
  have n912 : τ 912 = none := a21
  have n913 : τ 913 = none := a22
  have n914 : τ 914 = none := a23
  have n915 : τ 915 = none := a24
  have n940 : τ 940 = none := a25
  have n941 : τ 941 = none := a26
  have n942 : τ 942 = none := a27
  have n943 : τ 943 = none := a28
  have n944 : τ 944 = none := a29
  have n945 : τ 945 = none := a30
  have n946 : τ 946 = none := a31
  have n947 : τ 947 = none := a32
  have n948 : τ 948 = none := a33
  have n949 : τ 949 = none := a34
  have n950 : τ 950 = none := a35
  have n951 : τ 951 = none := a36
  have n952 : τ 952 = none := a37
  have n953 : τ 953 = none := a38
  have n954 : τ 954 = none := a39
  have n955 : τ 955 = none := a40
  have n956 : τ 956 = none := a41
  have n957 : τ 957 = none := a42
  have n958 : τ 958 = none := a43
  have n959 : τ 959 = none := a44
  have n960 : τ 960 = none := a45
  have n961 : τ 961 = none := a46
  have n962 : τ 962 = none := a47
  have n963 : τ 963 = none := a48
  have n964 : τ 964 = none := a49
  have n965 : τ 965 = none := a50
  have n966 : τ 966 = none := a51
  have n967 : τ 967 = none := a52
  have n968 : τ 968 = none := a53
  have n969 : τ 969 = none := a54
  have n970 : τ 970 = none := a55
  have n971 : τ 971 = none := a56
  have n972 : τ 972 = none := a57
  have n973 : τ 973 = none := a58
  have n974 : τ 974 = none := a59
  have n920 : τ 920 = none := a60
  have n921 : τ 921 = none := a61
  have n922 : τ 922 = none := a62
  have n923 : τ 923 = none := a63
  have n924 : τ 924 = none := a64
  have n925 : τ 925 = none := a65
  have n926 : τ 926 = none := a66
  have n927 : τ 927 = none := a67
  have n928 : τ 928 = none := a68
  have n929 : τ 929 = none := a69
  obtain ⟨⟨h_p1, h_p2, h_td⟩, k_b, k_q, k_c, k_d, k_l, k_k, k_e, k_t, k_n, k_j⟩ := hS
  have k_c0 := k_c
  obtain ⟨h_ga, h_in, h_ls, h_ld, h_w, h_rd, h_lead, h_ps, h_E, h_up, h_D, h_Z, h_s, h_sp⟩ := k_c0
  have qS : eGS m (wrM m 91 j x) := ⟨fun _ => rfl, fun _ => rfl, fun _ => rfl⟩
  have qL : eGL m (wrM m 91 j x) := fun _ => rfl
  have qK : eGK m (wrM m 91 j x) := ⟨fun _ => rfl, rfl⟩
  have qM : eGM m (wrM m 91 j x) := fun _ => rfl
  have qP : eGP m (wrM m 91 j x) := rfl
  have qC : eGC m (wrM m 91 j x) := fun _ => rfl
  have k_q := e_q qS qP k_q
  have k_d := e_d qS k_d
  have k_l := e_l qS qL k_l
  have k_k := e_k qS qK k_k
  have k_e := e_e qK qM k_e
  have k_t := e_t qK qP k_t
  have k_n := e_n qS k_n
  have k_j := e_j qS qC k_j
  exact ⟨⟨h_p1, h_p2, h_td⟩, k_b, k_q, ⟨(fun qa qb A I e0 e1 e2 e3 => by
      have e0 : g 9 = qa := Option.some.inj (t871.symm.trans e0)
      subst e0
      have e1 : g 10 = qb := Option.some.inj (t872.symm.trans e1)
      subst e1
      have e2 : g 7 = A := Option.some.inj (t880.symm.trans e2)
      subst e2
      have e3 : g 8 = I := Option.some.inj (t881.symm.trans e3)
      subst e3
      exact ⟨(h_ga _ _ _ _ t871 t872 t880 t881).1, fun e8 _ => no9 e8 t892⟩), h_in, h_ls, fun _ _ _ _ _ _ e0 e1 e2 e3 e4 e5 => no9 n899 e4, h_w, fun _ _ e0 e1 => no9 n886 e1, fun _ _ _ e0 e1 e2 => no9 n887 e1, fun _ _ _ _ e0 e1 e2 e3 => no9 n886 e1, fun _ _ _ e0 e1 e2 => no9 n886 e1, (fun qa qb A I w Y N U V e0 e1 e2 e3 e4 e5 e6 e7 e8 => by
      have e0 : g 9 = qa := Option.some.inj (t871.symm.trans e0)
      subst e0
      have e1 : g 10 = qb := Option.some.inj (t872.symm.trans e1)
      subst e1
      have e2 : g 7 = A := Option.some.inj (t880.symm.trans e2)
      subst e2
      have e3 : g 8 = I := Option.some.inj (t881.symm.trans e3)
      subst e3
      have e4 : g 2 = w := Option.some.inj (t883.symm.trans e4)
      subst e4
      have e5 : g 3 = Y := Option.some.inj (t892.symm.trans e5)
      subst e5
      have e6 : g 4 = N := Option.some.inj (t893.symm.trans e6)
      subst e6
      have e7 : g 5 = U := Option.some.inj (t894.symm.trans e7)
      subst e7
      have e8 : g 6 + 1 = V := Option.some.inj e8
      subst e8
      show UpG (wrM m 91 j x) (τ 896) (τ 897) (PfG (wrM m 91 j x) (g 9) (g 10) (g 7) (g 8)) (g 2) (g 3) (g 4) (g 5) (g 6 + 1)
      obtain ⟨q, d9, B9, ⟨u1, uN, uY, uU, uV⟩, ⟨u2, u3⟩, u4, u5, u6, ⟨u7, u8⟩, u9⟩ := (h_up _ _ _ _ _ _ _ _ _ t871 t872 t880 t881 t883 t892 t893 t894 t895)
      have ejp : jrp = j := by omega
      have eN : (g 4).toNat = 15 := by omega
      have hx : x = nbG (g 4).toNat q d9 B9 (bvG (g 2)) (g 3).toNat 15 j := by
        unfold nbG
        rw [if_pos eN.symm, ← u3 j (by omega), ← ejp, ← vrp]; omega
      rw [PfG_e qS]
      refine ⟨q, d9, B9, ⟨u1, uN, uY, uU, by omega⟩, ⟨u2, u3⟩, fun r c hr hc => ?_, u5, u6, ⟨u7, u8⟩, ?_⟩
      · have h5 := u4 r c hr hc
        rw [BGm_w (r0 := 15) rfl (by omega) r c hc (by omega)]
        by_cases e : r = 15 ∧ c = j
        · rw [if_pos (by omega), if_pos e, e.1, e.2]; exact hx
        · rw [if_neg e]
          by_cases e2 : (r : Int) < g 5 ∨ ((r : Int) = g 5 ∧ (c : Int) < g 6)
          · rw [if_pos e2] at h5; rw [if_pos (by omega)]; exact h5
          · rw [if_neg e2] at h5; rw [if_neg (by omega)]; exact h5
      · rcases u9 with q9 | q9 | q9
        · exact Or.inl q9
        · rw [n897] at q9; cases q9.1
        · rw [n897] at q9; cases q9.1), fun _ _ _ _ _ e0 e1 e2 e3 e4 => no9 n899 e4, fun _ _ _ e0 e1 e2 => no9 n882 e2, fun _ _ e0 e1 => no9 n882 e0, fun _ _ _ e0 e1 e2 => no9 n905 e0⟩, k_d, k_l, k_k, k_e, k_t, k_n, k_j⟩
def wu_Bu16 : Ru := ([(7, (0, (0, (0, 0)))), (8, (0, (0, (0, 0)))), (0, (883, (0, (0, 0)))), (0, (892, (0, (0, 0)))), (0, (893, (0, (0, 0)))), (0, (894, (0, (0, 0)))), (0, (895, (0, (0, 0)))), (0, (880, (0, (0, 0)))), (0, (881, (0, (0, 0)))), (0, (871, (0, (0, 0)))), (0, (872, (0, (0, 0)))), (0, (896, (0, (0, 0)))), (0, (850, (0, (0, 0)))), (0, (851, (0, (0, 0)))), (0, (852, (0, (0, 0)))), (0, (853, (0, (0, 0)))), (0, (854, (0, (0, 0)))), (0, (855, (0, (0, 0)))), (0, (856, (0, (0, 0)))), (0, (857, (0, (0, 0)))), (0, (858, (0, (0, 0)))), (9, (97, (3, (1, 0)))), (9, (97, (0, (1, 0)))), (9, (92, (0, (1, 0)))), (4, (0, (0, (7, 0)))), (9, (1000, (24, (1, 0))))], ([897, 882, 886, 887, 889, 891, 899, 905, 930, 931, 932, 933, 934, 935, 936, 937, 938, 939, 910, 911, 912, 913, 914, 915, 940, 941, 942, 943, 944, 945, 946, 947, 948, 949, 950, 951, 952, 953, 954, 955, 956, 957, 958, 959, 960, 961, 962, 963, 964, 965, 966, 967, 968, 969, 970, 971, 972, 973, 974, 920, 921, 922, 923, 924, 925, 926, 927, 928, 929], ([([(5, 1)], 16), ([(5, (-1))], (-16)), ([(4, (-1)), (5, 1)], (-1)), ([(0, 1), (6, (-1))], 0), ([(0, (-1)), (6, 1)], 0), ([(0, (-1))], 0), ([(0, 1)], 19), ([(12, 1), (21, (-1))], 0), ([(12, (-1)), (21, 1)], 0), ([(13, 1), (23, (-1))], 0), ([(13, (-1)), (23, 1)], 0), ([(11, (-1)), (15, 1)], 0), ([(11, 1), (15, (-1))], 0), ([(16, 1), (22, (-1))], 0), ([(16, (-1)), (22, 1)], 0), ([(14, (-1)), (17, 1), (18, 1)], 0), ([(14, 1), (17, (-1)), (18, (-1))], 0), ([(19, 1), (25, (-1))], 0), ([(19, (-1)), (25, 1)], 0), ([(1, 1), (20, (-1))], 0), ([(1, (-1)), (20, 1)], 0)], (false, ([], ([], ([(895, some (6, 1)), (850, none), (851, none), (852, none), (853, none), (854, none), (855, none), (856, none), (857, none), (858, none), (869, none)], none)))))))
theorem wk_Bu16 : WrOk SGd 92 wu_Bu16 := by
  intro τ m g j x hi hc ha hS
  obtain ⟨i0, i1, i2, i3, i4, i5, i6, i7, i8, i9, i10, i11, i12, i13, i14, i15, i16, i17, i18, i19, i20, i21, i22, i23, i24, i25, _⟩ := hi
  have xp : g 0 = (j : Int) := i0
  have xv : g 1 = x := i1
  have t883 : τ 883 = some (g 2) := i2
  have t892 : τ 892 = some (g 3) := i3
  have t893 : τ 893 = some (g 4) := i4
  have t894 : τ 894 = some (g 5) := i5
  have t895 : τ 895 = some (g 6) := i6
  have t880 : τ 880 = some (g 7) := i7
  have t881 : τ 881 = some (g 8) := i8
  have t871 : τ 871 = some (g 9) := i9
  have t872 : τ 872 = some (g 10) := i10
  have t896 : τ 896 = some (g 11) := i11
  have t850 : τ 850 = some (g 12) := i12
  have t851 : τ 851 = some (g 13) := i13
  have t852 : τ 852 = some (g 14) := i14
  have t853 : τ 853 = some (g 15) := i15
  have t854 : τ 854 = some (g 16) := i16
  have t855 : τ 855 = some (g 17) := i17
  have t856 : τ 856 = some (g 18) := i18
  have t857 : τ 857 = some (g 19) := i19
  have t858 : τ 858 = some (g 20) := i20
  obtain ⟨jrl, url, vrl⟩ : ∃ j : Nat, 1 * g 3 + 0 = (j : Int) ∧ g 21 = m 97 j := i21
  obtain ⟨jrp, urp, vrp⟩ : ∃ j : Nat, 1 * g 0 + 0 = (j : Int) ∧ g 22 = m 97 j := i22
  obtain ⟨jy, uy, vy⟩ : ∃ j : Nat, 1 * g 0 + 0 = (j : Int) ∧ g 23 = m 92 j := i23
  have xjc : g 24 = 7 := i24
  obtain ⟨jd, ud, vd⟩ : ∃ j : Nat, 1 * g 24 + 0 = (j : Int) ∧ g 25 = m 1000 j := i25
  obtain ⟨c0, c1, c2, c3, c4, c5, c6, c7, c8, c9, c10, c11, c12, c13, c14, c15, c16, c17, c18, c19, c20, _⟩ := hc
  have c0 : 1 * g 5 ≤ 16 := d1 c0
  have c1 : (-1) * g 5 ≤ (-16) := d1 c1
  have c2 : (-1) * g 4 + 1 * g 5 ≤ (-1) := d2 c2
  have c3 : 1 * g 0 + (-1) * g 6 ≤ 0 := d2 c3
  have c4 : (-1) * g 0 + 1 * g 6 ≤ 0 := d2 c4
  have c5 : (-1) * g 0 ≤ 0 := d1 c5
  have c6 : 1 * g 0 ≤ 19 := d1 c6
  have c7 : 1 * g 12 + (-1) * g 21 ≤ 0 := d2 c7
  have c8 : (-1) * g 12 + 1 * g 21 ≤ 0 := d2 c8
  have c9 : 1 * g 13 + (-1) * g 23 ≤ 0 := d2 c9
  have c10 : (-1) * g 13 + 1 * g 23 ≤ 0 := d2 c10
  have c11 : (-1) * g 11 + 1 * g 15 ≤ 0 := d2 c11
  have c12 : 1 * g 11 + (-1) * g 15 ≤ 0 := d2 c12
  have c13 : 1 * g 16 + (-1) * g 22 ≤ 0 := d2 c13
  have c14 : (-1) * g 16 + 1 * g 22 ≤ 0 := d2 c14
  have c15 : (-1) * g 14 + 1 * g 17 + 1 * g 18 ≤ 0 := d3 c15
  have c16 : 1 * g 14 + (-1) * g 17 + (-1) * g 18 ≤ 0 := d3 c16
  have c17 : 1 * g 19 + (-1) * g 25 ≤ 0 := d2 c17
  have c18 : (-1) * g 19 + 1 * g 25 ≤ 0 := d2 c18
  have c19 : 1 * g 1 + (-1) * g 20 ≤ 0 := d2 c19
  have c20 : (-1) * g 1 + 1 * g 20 ≤ 0 := d2 c20
  obtain ⟨a0, a1, a2, a3, a4, a5, a6, a7, a8, a9, a10, a11, a12, a13, a14, a15, a16, a17, a18, a19, a20, a21, a22, a23, a24, a25, a26, a27, a28, a29, a30, a31, a32, a33, a34, a35, a36, a37, a38, a39, a40, a41, a42, a43, a44, a45, a46, a47, a48, a49, a50, a51, a52, a53, a54, a55, a56, a57, a58, a59, a60, a61, a62, a63, a64, a65, a66, a67, a68, _⟩ := ha
  have n897 : τ 897 = none := a0
  have n882 : τ 882 = none := a1
  have n886 : τ 886 = none := a2
  have n887 : τ 887 = none := a3
  have n889 : τ 889 = none := a4
  have n891 : τ 891 = none := a5
  have n899 : τ 899 = none := a6
  have n905 : τ 905 = none := a7
  have n930 : τ 930 = none := a8
  have n931 : τ 931 = none := a9
  have n932 : τ 932 = none := a10
  have n933 : τ 933 = none := a11
  have n934 : τ 934 = none := a12
  have n935 : τ 935 = none := a13
  have n936 : τ 936 = none := a14
  have n937 : τ 937 = none := a15
  have n938 : τ 938 = none := a16
  have n939 : τ 939 = none := a17
  have n910 : τ 910 = none := a18
  have n911 : τ 911 = none := a19
  have n912 : τ 912 = none := a20
  have n913 : τ 913 = none := a21
  have n914 : τ 914 = none := a22
  have n915 : τ 915 = none := a23
  have n940 : τ 940 = none := a24
  have n941 : τ 941 = none := a25
  have n942 : τ 942 = none := a26
  have n943 : τ 943 = none := a27
  have n944 : τ 944 = none := a28
  have n945 : τ 945 = none := a29
  have n946 : τ 946 = none := a30
  have n947 : τ 947 = none := a31
  have n948 : τ 948 = none := a32
  have n949 : τ 949 = none := a33
  have n950 : τ 950 = none := a34
  have n951 : τ 951 = none := a35
  have n952 : τ 952 = none := a36
  have n953 : τ 953 = none := a37
  have n954 : τ 954 = none := a38
  have n955 : τ 955 = none := a39
  have n956 : τ 956 = none := a40
  have n957 : τ 957 = none := a41
  have n958 : τ 958 = none := a42
  have n959 : τ 959 = none := a43
  have n960 : τ 960 = none := a44
  have n961 : τ 961 = none := a45
  have n962 : τ 962 = none := a46
  have n963 : τ 963 = none := a47
  have n964 : τ 964 = none := a48
  have n965 : τ 965 = none := a49
  have n966 : τ 966 = none := a50
  have n967 : τ 967 = none := a51
  have n968 : τ 968 = none := a52
  have n969 : τ 969 = none := a53
  have n970 : τ 970 = none := a54
  have n971 : τ 971 = none := a55
  have n972 : τ 972 = none := a56
  have n973 : τ 973 = none := a57
  have n974 : τ 974 = none := a58
  have n920 : τ 920 = none := a59
  have n921 : τ 921 = none := a60
  have n922 : τ 922 = none := a61
  have n923 : τ 923 = none := a62
  have n924 : τ 924 = none := a63
  have n925 : τ 925 = none := a64
  have n926 : τ 926 = none := a65
  have n927 : τ 927 = none := a66
  have n928 : τ 928 = none := a67
  have n929 : τ 929 = none := a68
  obtain ⟨⟨h_p1, h_p2, h_td⟩, k_b, k_q, k_c, k_d, k_l, k_k, k_e, k_t, k_n, k_j⟩ := hS
  have k_c0 := k_c
  obtain ⟨h_ga, h_in, h_ls, h_ld, h_w, h_rd, h_lead, h_ps, h_E, h_up, h_D, h_Z, h_s, h_sp⟩ := k_c0
  have k_b0 := k_b
  obtain ⟨h_bit, h_one, h_or, h_and, h_shr, h_m1, h_m2, h_dv, h_r1, h_r2, h_nz⟩ := k_b0
  have qS : eGS m (wrM m 92 j x) := ⟨fun _ => rfl, fun _ => rfl, fun _ => rfl⟩
  have qL : eGL m (wrM m 92 j x) := fun _ => rfl
  have qK : eGK m (wrM m 92 j x) := ⟨fun _ => rfl, rfl⟩
  have qM : eGM m (wrM m 92 j x) := fun _ => rfl
  have qP : eGP m (wrM m 92 j x) := rfl
  have qC : eGC m (wrM m 92 j x) := fun _ => rfl
  have k_q := e_q qS qP k_q
  have k_d := e_d qS k_d
  have k_l := e_l qS qL k_l
  have k_k := e_k qS qK k_k
  have k_e := e_e qK qM k_e
  have k_t := e_t qK qP k_t
  have k_n := e_n qS k_n
  have k_j := e_j qS qC k_j
  exact ⟨⟨h_p1, h_p2, h_td⟩, ⟨h_bit, h_one, h_or, h_and, h_shr, fun _ _ _ e0 e1 e2 => no9 (o := none) rfl e0, fun _ _ _ e0 e1 e2 => no9 (o := none) rfl e0, fun _ _ _ e0 e1 e2 => no9 (o := none) rfl e0, h_r1, h_r2, fun _ e0 => no9 (o := none) rfl e0⟩, k_q, ⟨(fun qa qb A I e0 e1 e2 e3 => by
      have e0 : g 9 = qa := Option.some.inj (t871.symm.trans e0)
      subst e0
      have e1 : g 10 = qb := Option.some.inj (t872.symm.trans e1)
      subst e1
      have e2 : g 7 = A := Option.some.inj (t880.symm.trans e2)
      subst e2
      have e3 : g 8 = I := Option.some.inj (t881.symm.trans e3)
      subst e3
      exact ⟨(h_ga _ _ _ _ t871 t872 t880 t881).1, fun e8 _ => no9 e8 t892⟩), h_in, h_ls, fun _ _ _ _ _ _ e0 e1 e2 e3 e4 e5 => no9 n899 e4, h_w, fun _ _ e0 e1 => no9 n886 e1, fun _ _ _ e0 e1 e2 => no9 n887 e1, fun _ _ _ _ e0 e1 e2 e3 => no9 n886 e1, fun _ _ _ e0 e1 e2 => no9 n886 e1, (fun qa qb A I w Y N U V e0 e1 e2 e3 e4 e5 e6 e7 e8 => by
      have e0 : g 9 = qa := Option.some.inj (t871.symm.trans e0)
      subst e0
      have e1 : g 10 = qb := Option.some.inj (t872.symm.trans e1)
      subst e1
      have e2 : g 7 = A := Option.some.inj (t880.symm.trans e2)
      subst e2
      have e3 : g 8 = I := Option.some.inj (t881.symm.trans e3)
      subst e3
      have e4 : g 2 = w := Option.some.inj (t883.symm.trans e4)
      subst e4
      have e5 : g 3 = Y := Option.some.inj (t892.symm.trans e5)
      subst e5
      have e6 : g 4 = N := Option.some.inj (t893.symm.trans e6)
      subst e6
      have e7 : g 5 = U := Option.some.inj (t894.symm.trans e7)
      subst e7
      have e8 : g 6 + 1 = V := Option.some.inj e8
      subst e8
      show UpG (wrM m 92 j x) (τ 896) (τ 897) (PfG (wrM m 92 j x) (g 9) (g 10) (g 7) (g 8)) (g 2) (g 3) (g 4) (g 5) (g 6 + 1)
      obtain ⟨q, d9, B9, ⟨u1, uN, uY, uU, uV⟩, ⟨u2, u3⟩, u4, u5, u6, ⟨u7, u8⟩, u9⟩ := (h_up _ _ _ _ _ _ _ _ _ t871 t872 t880 t881 t883 t892 t893 t894 t895)
      have hm1 := h_m1 _ _ _ t850 t851 t852
      have hm2 := h_m2 _ _ _ t853 t854 t855
      have hdv := h_dv _ _ _ t856 t857 t858
      have ejl : jrl = (g 3).toNat := by omega
      have ejp : jrp = j := by omega
      have ejy : jy = j := by omega
      have ejd : jd = 7 := by omega
      subst ejl ejd
      rw [ejp] at vrp
      rw [ejy] at vy
      have eU : (g 5).toNat = 16 := by omega
      have h4 := u4 16 j (by omega) (by omega)
      rw [if_neg (by omega)] at h4
      have h4 := h4 (by omega)
      have hB : BGm m 16 j = m 92 j := by unfold BGm; rw [if_pos (by omega)]
      have a1 : g 14 = g 21 * g 23 := by rw [hm1, show g 12 = g 21 by omega, show g 13 = g 23 by omega]
      have a2 : g 17 = g 11 * g 22 := by rw [hm2, show g 15 = g 11 by omega, show g 16 = g 22 by omega]
      have a3 : g 20 = (g 21 * g 23 - g 11 * g 22).tdiv (g 25) := by rw [hdv, show g 19 = g 25 by omega, show g 18 = g 14 - g 17 by omega, a1, a2]
      have u6' := u6 _ t896
      rw [eU] at u6'
      have hx : x = nbG (g 4).toNat q d9 B9 (bvG (g 2)) (g 3).toNat 16 j := by
        unfold nbG
        rw [if_neg (by omega), ← u3 (g 3).toNat (by omega), ← u3 j (by omega), ← h4, ← u6', ← u8, hB, ← vrl, ← vy, ← vrp, ← vd, ← a3]; omega
      rw [PfG_e qS]
      refine ⟨q, d9, B9, ⟨u1, uN, uY, uU, by omega⟩, ⟨u2, u3⟩, fun r c hr hc => ?_, u5, u6, ⟨u7, u8⟩, ?_⟩
      · have h5 := u4 r c hr hc
        rw [BGm_w (r0 := 16) rfl (by omega) r c hc (by omega)]
        by_cases e : r = 16 ∧ c = j
        · rw [if_pos (by omega), if_pos e, e.1, e.2]; exact hx
        · rw [if_neg e]
          by_cases e2 : (r : Int) < g 5 ∨ ((r : Int) = g 5 ∧ (c : Int) < g 6)
          · rw [if_pos e2] at h5; rw [if_pos (by omega)]; exact h5
          · rw [if_neg e2] at h5; rw [if_neg (by omega)]; exact h5
      · rcases u9 with q9 | q9 | q9
        · exact Or.inl q9
        · rw [n897] at q9; cases q9.1
        · rw [n897] at q9; cases q9.1), fun _ _ _ _ _ e0 e1 e2 e3 e4 => no9 n899 e4, fun _ _ _ e0 e1 e2 => no9 n882 e2, fun _ _ e0 e1 => no9 n882 e0, fun _ _ _ e0 e1 e2 => no9 n905 e0⟩, k_d, k_l, k_k, k_e, k_t, k_n, k_j⟩
def wu_Bl16 : Ru := ([(7, (0, (0, (0, 0)))), (8, (0, (0, (0, 0)))), (0, (883, (0, (0, 0)))), (0, (892, (0, (0, 0)))), (0, (893, (0, (0, 0)))), (0, (894, (0, (0, 0)))), (0, (895, (0, (0, 0)))), (0, (880, (0, (0, 0)))), (0, (881, (0, (0, 0)))), (0, (871, (0, (0, 0)))), (0, (872, (0, (0, 0)))), (9, (97, (0, (1, 0))))], ([896, 897, 882, 886, 887, 889, 891, 899, 905, 930, 931, 932, 933, 934, 935, 936, 937, 938, 939, 910, 911, 912, 913, 914, 915, 940, 941, 942, 943, 944, 945, 946, 947, 948, 949, 950, 951, 952, 953, 954, 955, 956, 957, 958, 959, 960, 961, 962, 963, 964, 965, 966, 967, 968, 969, 970, 971, 972, 973, 974, 920, 921, 922, 923, 924, 925, 926, 927, 928, 929], ([([(5, 1)], 16), ([(5, (-1))], (-16)), ([(4, (-1)), (5, 1)], 0), ([(4, 1), (5, (-1))], 0), ([(0, 1), (6, (-1))], 0), ([(0, (-1)), (6, 1)], 0), ([(0, (-1))], 0), ([(0, 1)], 19), ([(1, 1), (11, (-1))], 0), ([(1, (-1)), (11, 1)], 0)], (false, ([], ([], ([(895, some (6, 1))], none)))))))
theorem wk_Bl16 : WrOk SGd 92 wu_Bl16 := by
  intro τ m g j x hi hc ha hS
  obtain ⟨i0, i1, i2, i3, i4, i5, i6, i7, i8, i9, i10, i11, _⟩ := hi
  have xp : g 0 = (j : Int) := i0
  have xv : g 1 = x := i1
  have t883 : τ 883 = some (g 2) := i2
  have t892 : τ 892 = some (g 3) := i3
  have t893 : τ 893 = some (g 4) := i4
  have t894 : τ 894 = some (g 5) := i5
  have t895 : τ 895 = some (g 6) := i6
  have t880 : τ 880 = some (g 7) := i7
  have t881 : τ 881 = some (g 8) := i8
  have t871 : τ 871 = some (g 9) := i9
  have t872 : τ 872 = some (g 10) := i10
  obtain ⟨jrp, urp, vrp⟩ : ∃ j : Nat, 1 * g 0 + 0 = (j : Int) ∧ g 11 = m 97 j := i11
  obtain ⟨c0, c1, c2, c3, c4, c5, c6, c7, c8, c9, _⟩ := hc
  have c0 : 1 * g 5 ≤ 16 := d1 c0
  have c1 : (-1) * g 5 ≤ (-16) := d1 c1
  have c2 : (-1) * g 4 + 1 * g 5 ≤ 0 := d2 c2
  have c3 : 1 * g 4 + (-1) * g 5 ≤ 0 := d2 c3
  have c4 : 1 * g 0 + (-1) * g 6 ≤ 0 := d2 c4
  have c5 : (-1) * g 0 + 1 * g 6 ≤ 0 := d2 c5
  have c6 : (-1) * g 0 ≤ 0 := d1 c6
  have c7 : 1 * g 0 ≤ 19 := d1 c7
  have c8 : 1 * g 1 + (-1) * g 11 ≤ 0 := d2 c8
  have c9 : (-1) * g 1 + 1 * g 11 ≤ 0 := d2 c9
  obtain ⟨a0, a1, a2, a3, a4, a5, a6, a7, a8, a9, a10, a11, a12, a13, a14, a15, a16, a17, a18, a19, a20, a21, a22, a23, a24, a25, a26, a27, a28, a29, a30, a31, a32, a33, a34, a35, a36, a37, a38, a39, a40, a41, a42, a43, a44, a45, a46, a47, a48, a49, a50, a51, a52, a53, a54, a55, a56, a57, a58, a59, a60, a61, a62, a63, a64, a65, a66, a67, a68, a69, _⟩ := ha
  have n896 : τ 896 = none := a0
  have n897 : τ 897 = none := a1
  have n882 : τ 882 = none := a2
  have n886 : τ 886 = none := a3
  have n887 : τ 887 = none := a4
  have n889 : τ 889 = none := a5
  have n891 : τ 891 = none := a6
  have n899 : τ 899 = none := a7
  have n905 : τ 905 = none := a8
  have n930 : τ 930 = none := a9
  have n931 : τ 931 = none := a10
  have n932 : τ 932 = none := a11
  have n933 : τ 933 = none := a12
  have n934 : τ 934 = none := a13
  have n935 : τ 935 = none := a14
  have n936 : τ 936 = none := a15
  have n937 : τ 937 = none := a16
  have n938 : τ 938 = none := a17
  have n939 : τ 939 = none := a18
  have n910 : τ 910 = none := a19
  have n911 : τ 911 = none := a20
  have n912 : τ 912 = none := a21
  have n913 : τ 913 = none := a22
  have n914 : τ 914 = none := a23
  have n915 : τ 915 = none := a24
  have n940 : τ 940 = none := a25
  have n941 : τ 941 = none := a26
  have n942 : τ 942 = none := a27
  have n943 : τ 943 = none := a28
  have n944 : τ 944 = none := a29
  have n945 : τ 945 = none := a30
  have n946 : τ 946 = none := a31
  have n947 : τ 947 = none := a32
  have n948 : τ 948 = none := a33
  have n949 : τ 949 = none := a34
  have n950 : τ 950 = none := a35
  have n951 : τ 951 = none := a36
  have n952 : τ 952 = none := a37
  have n953 : τ 953 = none := a38
  have n954 : τ 954 = none := a39
  have n955 : τ 955 = none := a40
  have n956 : τ 956 = none := a41
  have n957 : τ 957 = none := a42
  have n958 : τ 958 = none := a43
  have n959 : τ 959 = none := a44
  have n960 : τ 960 = none := a45
  have n961 : τ 961 = none := a46
  have n962 : τ 962 = none := a47
  have n963 : τ 963 = none := a48
  have n964 : τ 964 = none := a49
  have n965 : τ 965 = none := a50
  have n966 : τ 966 = none := a51
  have n967 : τ 967 = none := a52
  have n968 : τ 968 = none := a53
  have n969 : τ 969 = none := a54
  have n970 : τ 970 = none := a55
  have n971 : τ 971 = none := a56
  have n972 : τ 972 = none := a57
  have n973 : τ 973 = none := a58
  have n974 : τ 974 = none := a59
  have n920 : τ 920 = none := a60
  have n921 : τ 921 = none := a61
  have n922 : τ 922 = none := a62
  have n923 : τ 923 = none := a63
  have n924 : τ 924 = none := a64
  have n925 : τ 925 = none := a65
  have n926 : τ 926 = none := a66
  have n927 : τ 927 = none := a67
  have n928 : τ 928 = none := a68
  have n929 : τ 929 = none := a69
  obtain ⟨⟨h_p1, h_p2, h_td⟩, k_b, k_q, k_c, k_d, k_l, k_k, k_e, k_t, k_n, k_j⟩ := hS
  have k_c0 := k_c
  obtain ⟨h_ga, h_in, h_ls, h_ld, h_w, h_rd, h_lead, h_ps, h_E, h_up, h_D, h_Z, h_s, h_sp⟩ := k_c0
  have qS : eGS m (wrM m 92 j x) := ⟨fun _ => rfl, fun _ => rfl, fun _ => rfl⟩
  have qL : eGL m (wrM m 92 j x) := fun _ => rfl
  have qK : eGK m (wrM m 92 j x) := ⟨fun _ => rfl, rfl⟩
  have qM : eGM m (wrM m 92 j x) := fun _ => rfl
  have qP : eGP m (wrM m 92 j x) := rfl
  have qC : eGC m (wrM m 92 j x) := fun _ => rfl
  have k_q := e_q qS qP k_q
  have k_d := e_d qS k_d
  have k_l := e_l qS qL k_l
  have k_k := e_k qS qK k_k
  have k_e := e_e qK qM k_e
  have k_t := e_t qK qP k_t
  have k_n := e_n qS k_n
  have k_j := e_j qS qC k_j
  exact ⟨⟨h_p1, h_p2, h_td⟩, k_b, k_q, ⟨(fun qa qb A I e0 e1 e2 e3 => by
      have e0 : g 9 = qa := Option.some.inj (t871.symm.trans e0)
      subst e0
      have e1 : g 10 = qb := Option.some.inj (t872.symm.trans e1)
      subst e1
      have e2 : g 7 = A := Option.some.inj (t880.symm.trans e2)
      subst e2
      have e3 : g 8 = I := Option.some.inj (t881.symm.trans e3)
      subst e3
      exact ⟨(h_ga _ _ _ _ t871 t872 t880 t881).1, fun e8 _ => no9 e8 t892⟩), h_in, h_ls, fun _ _ _ _ _ _ e0 e1 e2 e3 e4 e5 => no9 n899 e4, h_w, fun _ _ e0 e1 => no9 n886 e1, fun _ _ _ e0 e1 e2 => no9 n887 e1, fun _ _ _ _ e0 e1 e2 e3 => no9 n886 e1, fun _ _ _ e0 e1 e2 => no9 n886 e1, (fun qa qb A I w Y N U V e0 e1 e2 e3 e4 e5 e6 e7 e8 => by
      have e0 : g 9 = qa := Option.some.inj (t871.symm.trans e0)
      subst e0
      have e1 : g 10 = qb := Option.some.inj (t872.symm.trans e1)
      subst e1
      have e2 : g 7 = A := Option.some.inj (t880.symm.trans e2)
      subst e2
      have e3 : g 8 = I := Option.some.inj (t881.symm.trans e3)
      subst e3
      have e4 : g 2 = w := Option.some.inj (t883.symm.trans e4)
      subst e4
      have e5 : g 3 = Y := Option.some.inj (t892.symm.trans e5)
      subst e5
      have e6 : g 4 = N := Option.some.inj (t893.symm.trans e6)
      subst e6
      have e7 : g 5 = U := Option.some.inj (t894.symm.trans e7)
      subst e7
      have e8 : g 6 + 1 = V := Option.some.inj e8
      subst e8
      show UpG (wrM m 92 j x) (τ 896) (τ 897) (PfG (wrM m 92 j x) (g 9) (g 10) (g 7) (g 8)) (g 2) (g 3) (g 4) (g 5) (g 6 + 1)
      obtain ⟨q, d9, B9, ⟨u1, uN, uY, uU, uV⟩, ⟨u2, u3⟩, u4, u5, u6, ⟨u7, u8⟩, u9⟩ := (h_up _ _ _ _ _ _ _ _ _ t871 t872 t880 t881 t883 t892 t893 t894 t895)
      have ejp : jrp = j := by omega
      have eN : (g 4).toNat = 16 := by omega
      have hx : x = nbG (g 4).toNat q d9 B9 (bvG (g 2)) (g 3).toNat 16 j := by
        unfold nbG
        rw [if_pos eN.symm, ← u3 j (by omega), ← ejp, ← vrp]; omega
      rw [PfG_e qS]
      refine ⟨q, d9, B9, ⟨u1, uN, uY, uU, by omega⟩, ⟨u2, u3⟩, fun r c hr hc => ?_, u5, u6, ⟨u7, u8⟩, ?_⟩
      · have h5 := u4 r c hr hc
        rw [BGm_w (r0 := 16) rfl (by omega) r c hc (by omega)]
        by_cases e : r = 16 ∧ c = j
        · rw [if_pos (by omega), if_pos e, e.1, e.2]; exact hx
        · rw [if_neg e]
          by_cases e2 : (r : Int) < g 5 ∨ ((r : Int) = g 5 ∧ (c : Int) < g 6)
          · rw [if_pos e2] at h5; rw [if_pos (by omega)]; exact h5
          · rw [if_neg e2] at h5; rw [if_neg (by omega)]; exact h5
      · rcases u9 with q9 | q9 | q9
        · exact Or.inl q9
        · rw [n897] at q9; cases q9.1
        · rw [n897] at q9; cases q9.1), fun _ _ _ _ _ e0 e1 e2 e3 e4 => no9 n899 e4, fun _ _ _ e0 e1 e2 => no9 n882 e2, fun _ _ e0 e1 => no9 n882 e0, fun _ _ _ e0 e1 e2 => no9 n905 e0⟩, k_d, k_l, k_k, k_e, k_t, k_n, k_j⟩
def wu_Bu17 : Ru := ([(7, (0, (0, (0, 0)))), (8, (0, (0, (0, 0)))), (0, (883, (0, (0, 0)))), (0, (892, (0, (0, 0)))), (0, (893, (0, (0, 0)))), (0, (894, (0, (0, 0)))), (0, (895, (0, (0, 0)))), (0, (880, (0, (0, 0)))), (0, (881, (0, (0, 0)))), (0, (871, (0, (0, 0)))), (0, (872, (0, (0, 0)))), (0, (896, (0, (0, 0)))), (0, (850, (0, (0, 0)))), (0, (851, (0, (0, 0)))), (0, (852, (0, (0, 0)))), (0, (853, (0, (0, 0)))), (0, (854, (0, (0, 0)))), (0, (855, (0, (0, 0)))), (0, (856, (0, (0, 0)))), (0, (857, (0, (0, 0)))), (0, (858, (0, (0, 0)))), (9, (97, (3, (1, 0)))), (9, (97, (0, (1, 0)))), (9, (93, (0, (1, 0)))), (4, (0, (0, (7, 0)))), (9, (1000, (24, (1, 0))))], ([897, 882, 886, 887, 889, 891, 899, 905, 930, 931, 932, 933, 934, 935, 936, 937, 938, 939, 910, 911, 912, 913, 914, 915, 940, 941, 942, 943, 944, 945, 946, 947, 948, 949, 950, 951, 952, 953, 954, 955, 956, 957, 958, 959, 960, 961, 962, 963, 964, 965, 966, 967, 968, 969, 970, 971, 972, 973, 974, 920, 921, 922, 923, 924, 925, 926, 927, 928, 929], ([([(5, 1)], 17), ([(5, (-1))], (-17)), ([(4, (-1)), (5, 1)], (-1)), ([(0, 1), (6, (-1))], 0), ([(0, (-1)), (6, 1)], 0), ([(0, (-1))], 0), ([(0, 1)], 19), ([(12, 1), (21, (-1))], 0), ([(12, (-1)), (21, 1)], 0), ([(13, 1), (23, (-1))], 0), ([(13, (-1)), (23, 1)], 0), ([(11, (-1)), (15, 1)], 0), ([(11, 1), (15, (-1))], 0), ([(16, 1), (22, (-1))], 0), ([(16, (-1)), (22, 1)], 0), ([(14, (-1)), (17, 1), (18, 1)], 0), ([(14, 1), (17, (-1)), (18, (-1))], 0), ([(19, 1), (25, (-1))], 0), ([(19, (-1)), (25, 1)], 0), ([(1, 1), (20, (-1))], 0), ([(1, (-1)), (20, 1)], 0)], (false, ([], ([], ([(895, some (6, 1)), (850, none), (851, none), (852, none), (853, none), (854, none), (855, none), (856, none), (857, none), (858, none), (869, none)], none)))))))
theorem wk_Bu17 : WrOk SGd 93 wu_Bu17 := by
  intro τ m g j x hi hc ha hS
  obtain ⟨i0, i1, i2, i3, i4, i5, i6, i7, i8, i9, i10, i11, i12, i13, i14, i15, i16, i17, i18, i19, i20, i21, i22, i23, i24, i25, _⟩ := hi
  have xp : g 0 = (j : Int) := i0
  have xv : g 1 = x := i1
  have t883 : τ 883 = some (g 2) := i2
  have t892 : τ 892 = some (g 3) := i3
  have t893 : τ 893 = some (g 4) := i4
  have t894 : τ 894 = some (g 5) := i5
  have t895 : τ 895 = some (g 6) := i6
  have t880 : τ 880 = some (g 7) := i7
  have t881 : τ 881 = some (g 8) := i8
  have t871 : τ 871 = some (g 9) := i9
  have t872 : τ 872 = some (g 10) := i10
  have t896 : τ 896 = some (g 11) := i11
  have t850 : τ 850 = some (g 12) := i12
  have t851 : τ 851 = some (g 13) := i13
  have t852 : τ 852 = some (g 14) := i14
  have t853 : τ 853 = some (g 15) := i15
  have t854 : τ 854 = some (g 16) := i16
  have t855 : τ 855 = some (g 17) := i17
  have t856 : τ 856 = some (g 18) := i18
  have t857 : τ 857 = some (g 19) := i19
  have t858 : τ 858 = some (g 20) := i20
  obtain ⟨jrl, url, vrl⟩ : ∃ j : Nat, 1 * g 3 + 0 = (j : Int) ∧ g 21 = m 97 j := i21
  obtain ⟨jrp, urp, vrp⟩ : ∃ j : Nat, 1 * g 0 + 0 = (j : Int) ∧ g 22 = m 97 j := i22
  obtain ⟨jy, uy, vy⟩ : ∃ j : Nat, 1 * g 0 + 0 = (j : Int) ∧ g 23 = m 93 j := i23
  have xjc : g 24 = 7 := i24
  obtain ⟨jd, ud, vd⟩ : ∃ j : Nat, 1 * g 24 + 0 = (j : Int) ∧ g 25 = m 1000 j := i25
  obtain ⟨c0, c1, c2, c3, c4, c5, c6, c7, c8, c9, c10, c11, c12, c13, c14, c15, c16, c17, c18, c19, c20, _⟩ := hc
  have c0 : 1 * g 5 ≤ 17 := d1 c0
  have c1 : (-1) * g 5 ≤ (-17) := d1 c1
  have c2 : (-1) * g 4 + 1 * g 5 ≤ (-1) := d2 c2
  have c3 : 1 * g 0 + (-1) * g 6 ≤ 0 := d2 c3
  have c4 : (-1) * g 0 + 1 * g 6 ≤ 0 := d2 c4
  have c5 : (-1) * g 0 ≤ 0 := d1 c5
  have c6 : 1 * g 0 ≤ 19 := d1 c6
  have c7 : 1 * g 12 + (-1) * g 21 ≤ 0 := d2 c7
  have c8 : (-1) * g 12 + 1 * g 21 ≤ 0 := d2 c8
  have c9 : 1 * g 13 + (-1) * g 23 ≤ 0 := d2 c9
  have c10 : (-1) * g 13 + 1 * g 23 ≤ 0 := d2 c10
  have c11 : (-1) * g 11 + 1 * g 15 ≤ 0 := d2 c11
  have c12 : 1 * g 11 + (-1) * g 15 ≤ 0 := d2 c12
  have c13 : 1 * g 16 + (-1) * g 22 ≤ 0 := d2 c13
  have c14 : (-1) * g 16 + 1 * g 22 ≤ 0 := d2 c14
  have c15 : (-1) * g 14 + 1 * g 17 + 1 * g 18 ≤ 0 := d3 c15
  have c16 : 1 * g 14 + (-1) * g 17 + (-1) * g 18 ≤ 0 := d3 c16
  have c17 : 1 * g 19 + (-1) * g 25 ≤ 0 := d2 c17
  have c18 : (-1) * g 19 + 1 * g 25 ≤ 0 := d2 c18
  have c19 : 1 * g 1 + (-1) * g 20 ≤ 0 := d2 c19
  have c20 : (-1) * g 1 + 1 * g 20 ≤ 0 := d2 c20
  obtain ⟨a0, a1, a2, a3, a4, a5, a6, a7, a8, a9, a10, a11, a12, a13, a14, a15, a16, a17, a18, a19, a20, a21, a22, a23, a24, a25, a26, a27, a28, a29, a30, a31, a32, a33, a34, a35, a36, a37, a38, a39, a40, a41, a42, a43, a44, a45, a46, a47, a48, a49, a50, a51, a52, a53, a54, a55, a56, a57, a58, a59, a60, a61, a62, a63, a64, a65, a66, a67, a68, _⟩ := ha
  have n897 : τ 897 = none := a0
  have n882 : τ 882 = none := a1
  have n886 : τ 886 = none := a2
  have n887 : τ 887 = none := a3
  have n889 : τ 889 = none := a4
  have n891 : τ 891 = none := a5
  have n899 : τ 899 = none := a6
  have n905 : τ 905 = none := a7
  have n930 : τ 930 = none := a8
  have n931 : τ 931 = none := a9
  have n932 : τ 932 = none := a10
  have n933 : τ 933 = none := a11
  have n934 : τ 934 = none := a12
  have n935 : τ 935 = none := a13
  have n936 : τ 936 = none := a14
  have n937 : τ 937 = none := a15
  have n938 : τ 938 = none := a16
  have n939 : τ 939 = none := a17
  have n910 : τ 910 = none := a18
  have n911 : τ 911 = none := a19
  have n912 : τ 912 = none := a20
  have n913 : τ 913 = none := a21
  have n914 : τ 914 = none := a22
  have n915 : τ 915 = none := a23
  have n940 : τ 940 = none := a24
  have n941 : τ 941 = none := a25
  have n942 : τ 942 = none := a26
  have n943 : τ 943 = none := a27
  have n944 : τ 944 = none := a28
  have n945 : τ 945 = none := a29
  have n946 : τ 946 = none := a30
  have n947 : τ 947 = none := a31
  have n948 : τ 948 = none := a32
  have n949 : τ 949 = none := a33
  have n950 : τ 950 = none := a34
  have n951 : τ 951 = none := a35
  have n952 : τ 952 = none := a36
  have n953 : τ 953 = none := a37
  have n954 : τ 954 = none := a38
  have n955 : τ 955 = none := a39
  have n956 : τ 956 = none := a40
  have n957 : τ 957 = none := a41
  have n958 : τ 958 = none := a42
  have n959 : τ 959 = none := a43
  have n960 : τ 960 = none := a44
  have n961 : τ 961 = none := a45
  have n962 : τ 962 = none := a46
  have n963 : τ 963 = none := a47
  have n964 : τ 964 = none := a48
  have n965 : τ 965 = none := a49
  have n966 : τ 966 = none := a50
  have n967 : τ 967 = none := a51
  have n968 : τ 968 = none := a52
  have n969 : τ 969 = none := a53
  have n970 : τ 970 = none := a54
  have n971 : τ 971 = none := a55
  have n972 : τ 972 = none := a56
  have n973 : τ 973 = none := a57
  have n974 : τ 974 = none := a58
  have n920 : τ 920 = none := a59
  have n921 : τ 921 = none := a60
  have n922 : τ 922 = none := a61
  have n923 : τ 923 = none := a62
  have n924 : τ 924 = none := a63
  have n925 : τ 925 = none := a64
  have n926 : τ 926 = none := a65
  have n927 : τ 927 = none := a66
  have n928 : τ 928 = none := a67
  have n929 : τ 929 = none := a68
  obtain ⟨⟨h_p1, h_p2, h_td⟩, k_b, k_q, k_c, k_d, k_l, k_k, k_e, k_t, k_n, k_j⟩ := hS
  have k_c0 := k_c
  obtain ⟨h_ga, h_in, h_ls, h_ld, h_w, h_rd, h_lead, h_ps, h_E, h_up, h_D, h_Z, h_s, h_sp⟩ := k_c0
  have k_b0 := k_b
  obtain ⟨h_bit, h_one, h_or, h_and, h_shr, h_m1, h_m2, h_dv, h_r1, h_r2, h_nz⟩ := k_b0
  have qS : eGS m (wrM m 93 j x) := ⟨fun _ => rfl, fun _ => rfl, fun _ => rfl⟩
  have qL : eGL m (wrM m 93 j x) := fun _ => rfl
  have qK : eGK m (wrM m 93 j x) := ⟨fun _ => rfl, rfl⟩
  have qM : eGM m (wrM m 93 j x) := fun _ => rfl
  have qP : eGP m (wrM m 93 j x) := rfl
  have qC : eGC m (wrM m 93 j x) := fun _ => rfl
  have k_q := e_q qS qP k_q
  have k_d := e_d qS k_d
  have k_l := e_l qS qL k_l
  have k_k := e_k qS qK k_k
  have k_e := e_e qK qM k_e
  have k_t := e_t qK qP k_t
  have k_n := e_n qS k_n
  have k_j := e_j qS qC k_j
  exact ⟨⟨h_p1, h_p2, h_td⟩, ⟨h_bit, h_one, h_or, h_and, h_shr, fun _ _ _ e0 e1 e2 => no9 (o := none) rfl e0, fun _ _ _ e0 e1 e2 => no9 (o := none) rfl e0, fun _ _ _ e0 e1 e2 => no9 (o := none) rfl e0, h_r1, h_r2, fun _ e0 => no9 (o := none) rfl e0⟩, k_q, ⟨(fun qa qb A I e0 e1 e2 e3 => by
      have e0 : g 9 = qa := Option.some.inj (t871.symm.trans e0)
      subst e0
      have e1 : g 10 = qb := Option.some.inj (t872.symm.trans e1)
      subst e1
      have e2 : g 7 = A := Option.some.inj (t880.symm.trans e2)
      subst e2
      have e3 : g 8 = I := Option.some.inj (t881.symm.trans e3)
      subst e3
      exact ⟨(h_ga _ _ _ _ t871 t872 t880 t881).1, fun e8 _ => no9 e8 t892⟩), h_in, h_ls, fun _ _ _ _ _ _ e0 e1 e2 e3 e4 e5 => no9 n899 e4, h_w, fun _ _ e0 e1 => no9 n886 e1, fun _ _ _ e0 e1 e2 => no9 n887 e1, fun _ _ _ _ e0 e1 e2 e3 => no9 n886 e1, fun _ _ _ e0 e1 e2 => no9 n886 e1, (fun qa qb A I w Y N U V e0 e1 e2 e3 e4 e5 e6 e7 e8 => by
      have e0 : g 9 = qa := Option.some.inj (t871.symm.trans e0)
      subst e0
      have e1 : g 10 = qb := Option.some.inj (t872.symm.trans e1)
      subst e1
      have e2 : g 7 = A := Option.some.inj (t880.symm.trans e2)
      subst e2
      have e3 : g 8 = I := Option.some.inj (t881.symm.trans e3)
      subst e3
      have e4 : g 2 = w := Option.some.inj (t883.symm.trans e4)
      subst e4
      have e5 : g 3 = Y := Option.some.inj (t892.symm.trans e5)
      subst e5
      have e6 : g 4 = N := Option.some.inj (t893.symm.trans e6)
      subst e6
      have e7 : g 5 = U := Option.some.inj (t894.symm.trans e7)
      subst e7
      have e8 : g 6 + 1 = V := Option.some.inj e8
      subst e8
      show UpG (wrM m 93 j x) (τ 896) (τ 897) (PfG (wrM m 93 j x) (g 9) (g 10) (g 7) (g 8)) (g 2) (g 3) (g 4) (g 5) (g 6 + 1)
      obtain ⟨q, d9, B9, ⟨u1, uN, uY, uU, uV⟩, ⟨u2, u3⟩, u4, u5, u6, ⟨u7, u8⟩, u9⟩ := (h_up _ _ _ _ _ _ _ _ _ t871 t872 t880 t881 t883 t892 t893 t894 t895)
      have hm1 := h_m1 _ _ _ t850 t851 t852
      have hm2 := h_m2 _ _ _ t853 t854 t855
      have hdv := h_dv _ _ _ t856 t857 t858
      have ejl : jrl = (g 3).toNat := by omega
      have ejp : jrp = j := by omega
      have ejy : jy = j := by omega
      have ejd : jd = 7 := by omega
      subst ejl ejd
      rw [ejp] at vrp
      rw [ejy] at vy
      have eU : (g 5).toNat = 17 := by omega
      have h4 := u4 17 j (by omega) (by omega)
      rw [if_neg (by omega)] at h4
      have h4 := h4 (by omega)
      have hB : BGm m 17 j = m 93 j := by unfold BGm; rw [if_pos (by omega)]
      have a1 : g 14 = g 21 * g 23 := by rw [hm1, show g 12 = g 21 by omega, show g 13 = g 23 by omega]
      have a2 : g 17 = g 11 * g 22 := by rw [hm2, show g 15 = g 11 by omega, show g 16 = g 22 by omega]
      have a3 : g 20 = (g 21 * g 23 - g 11 * g 22).tdiv (g 25) := by rw [hdv, show g 19 = g 25 by omega, show g 18 = g 14 - g 17 by omega, a1, a2]
      have u6' := u6 _ t896
      rw [eU] at u6'
      have hx : x = nbG (g 4).toNat q d9 B9 (bvG (g 2)) (g 3).toNat 17 j := by
        unfold nbG
        rw [if_neg (by omega), ← u3 (g 3).toNat (by omega), ← u3 j (by omega), ← h4, ← u6', ← u8, hB, ← vrl, ← vy, ← vrp, ← vd, ← a3]; omega
      rw [PfG_e qS]
      refine ⟨q, d9, B9, ⟨u1, uN, uY, uU, by omega⟩, ⟨u2, u3⟩, fun r c hr hc => ?_, u5, u6, ⟨u7, u8⟩, ?_⟩
      · have h5 := u4 r c hr hc
        rw [BGm_w (r0 := 17) rfl (by omega) r c hc (by omega)]
        by_cases e : r = 17 ∧ c = j
        · rw [if_pos (by omega), if_pos e, e.1, e.2]; exact hx
        · rw [if_neg e]
          by_cases e2 : (r : Int) < g 5 ∨ ((r : Int) = g 5 ∧ (c : Int) < g 6)
          · rw [if_pos e2] at h5; rw [if_pos (by omega)]; exact h5
          · rw [if_neg e2] at h5; rw [if_neg (by omega)]; exact h5
      · rcases u9 with q9 | q9 | q9
        · exact Or.inl q9
        · rw [n897] at q9; cases q9.1
        · rw [n897] at q9; cases q9.1), fun _ _ _ _ _ e0 e1 e2 e3 e4 => no9 n899 e4, fun _ _ _ e0 e1 e2 => no9 n882 e2, fun _ _ e0 e1 => no9 n882 e0, fun _ _ _ e0 e1 e2 => no9 n905 e0⟩, k_d, k_l, k_k, k_e, k_t, k_n, k_j⟩
def wu_Bl17 : Ru := ([(7, (0, (0, (0, 0)))), (8, (0, (0, (0, 0)))), (0, (883, (0, (0, 0)))), (0, (892, (0, (0, 0)))), (0, (893, (0, (0, 0)))), (0, (894, (0, (0, 0)))), (0, (895, (0, (0, 0)))), (0, (880, (0, (0, 0)))), (0, (881, (0, (0, 0)))), (0, (871, (0, (0, 0)))), (0, (872, (0, (0, 0)))), (9, (97, (0, (1, 0))))], ([896, 897, 882, 886, 887, 889, 891, 899, 905, 930, 931, 932, 933, 934, 935, 936, 937, 938, 939, 910, 911, 912, 913, 914, 915, 940, 941, 942, 943, 944, 945, 946, 947, 948, 949, 950, 951, 952, 953, 954, 955, 956, 957, 958, 959, 960, 961, 962, 963, 964, 965, 966, 967, 968, 969, 970, 971, 972, 973, 974, 920, 921, 922, 923, 924, 925, 926, 927, 928, 929], ([([(5, 1)], 17), ([(5, (-1))], (-17)), ([(4, (-1)), (5, 1)], 0), ([(4, 1), (5, (-1))], 0), ([(0, 1), (6, (-1))], 0), ([(0, (-1)), (6, 1)], 0), ([(0, (-1))], 0), ([(0, 1)], 19), ([(1, 1), (11, (-1))], 0), ([(1, (-1)), (11, 1)], 0)], (false, ([], ([], ([(895, some (6, 1))], none)))))))
theorem wk_Bl17 : WrOk SGd 93 wu_Bl17 := by
  intro τ m g j x hi hc ha hS
  obtain ⟨i0, i1, i2, i3, i4, i5, i6, i7, i8, i9, i10, i11, _⟩ := hi
  have xp : g 0 = (j : Int) := i0
  have xv : g 1 = x := i1
  have t883 : τ 883 = some (g 2) := i2
  have t892 : τ 892 = some (g 3) := i3
  have t893 : τ 893 = some (g 4) := i4
  have t894 : τ 894 = some (g 5) := i5
  have t895 : τ 895 = some (g 6) := i6
  have t880 : τ 880 = some (g 7) := i7
  have t881 : τ 881 = some (g 8) := i8
  have t871 : τ 871 = some (g 9) := i9
  have t872 : τ 872 = some (g 10) := i10
  obtain ⟨jrp, urp, vrp⟩ : ∃ j : Nat, 1 * g 0 + 0 = (j : Int) ∧ g 11 = m 97 j := i11
  obtain ⟨c0, c1, c2, c3, c4, c5, c6, c7, c8, c9, _⟩ := hc
  have c0 : 1 * g 5 ≤ 17 := d1 c0
  have c1 : (-1) * g 5 ≤ (-17) := d1 c1
  have c2 : (-1) * g 4 + 1 * g 5 ≤ 0 := d2 c2
  have c3 : 1 * g 4 + (-1) * g 5 ≤ 0 := d2 c3
  have c4 : 1 * g 0 + (-1) * g 6 ≤ 0 := d2 c4
  have c5 : (-1) * g 0 + 1 * g 6 ≤ 0 := d2 c5
  have c6 : (-1) * g 0 ≤ 0 := d1 c6
  have c7 : 1 * g 0 ≤ 19 := d1 c7
  have c8 : 1 * g 1 + (-1) * g 11 ≤ 0 := d2 c8
  have c9 : (-1) * g 1 + 1 * g 11 ≤ 0 := d2 c9
  obtain ⟨a0, a1, a2, a3, a4, a5, a6, a7, a8, a9, a10, a11, a12, a13, a14, a15, a16, a17, a18, a19, a20, a21, a22, a23, a24, a25, a26, a27, a28, a29, a30, a31, a32, a33, a34, a35, a36, a37, a38, a39, a40, a41, a42, a43, a44, a45, a46, a47, a48, a49, a50, a51, a52, a53, a54, a55, a56, a57, a58, a59, a60, a61, a62, a63, a64, a65, a66, a67, a68, a69, _⟩ := ha
  have n896 : τ 896 = none := a0
  have n897 : τ 897 = none := a1
  have n882 : τ 882 = none := a2
  have n886 : τ 886 = none := a3
  have n887 : τ 887 = none := a4
  have n889 : τ 889 = none := a5
  have n891 : τ 891 = none := a6
  have n899 : τ 899 = none := a7
  have n905 : τ 905 = none := a8
  have n930 : τ 930 = none := a9
  have n931 : τ 931 = none := a10
  have n932 : τ 932 = none := a11
  have n933 : τ 933 = none := a12
  have n934 : τ 934 = none := a13
  have n935 : τ 935 = none := a14
  have n936 : τ 936 = none := a15
  have n937 : τ 937 = none := a16
  have n938 : τ 938 = none := a17
  have n939 : τ 939 = none := a18
  have n910 : τ 910 = none := a19
  have n911 : τ 911 = none := a20
  have n912 : τ 912 = none := a21
  have n913 : τ 913 = none := a22
  have n914 : τ 914 = none := a23
  have n915 : τ 915 = none := a24
  have n940 : τ 940 = none := a25
  have n941 : τ 941 = none := a26
  have n942 : τ 942 = none := a27
  have n943 : τ 943 = none := a28
  have n944 : τ 944 = none := a29
  have n945 : τ 945 = none := a30
  have n946 : τ 946 = none := a31
  have n947 : τ 947 = none := a32
  have n948 : τ 948 = none := a33
  have n949 : τ 949 = none := a34
  have n950 : τ 950 = none := a35
  have n951 : τ 951 = none := a36
  have n952 : τ 952 = none := a37
  have n953 : τ 953 = none := a38
  have n954 : τ 954 = none := a39
  have n955 : τ 955 = none := a40
  have n956 : τ 956 = none := a41
  have n957 : τ 957 = none := a42
  have n958 : τ 958 = none := a43
  have n959 : τ 959 = none := a44
  have n960 : τ 960 = none := a45
  have n961 : τ 961 = none := a46
  have n962 : τ 962 = none := a47
  have n963 : τ 963 = none := a48
  have n964 : τ 964 = none := a49
  have n965 : τ 965 = none := a50
  have n966 : τ 966 = none := a51
  have n967 : τ 967 = none := a52
  have n968 : τ 968 = none := a53
  have n969 : τ 969 = none := a54
  have n970 : τ 970 = none := a55
  have n971 : τ 971 = none := a56
  have n972 : τ 972 = none := a57
  have n973 : τ 973 = none := a58
  have n974 : τ 974 = none := a59
  have n920 : τ 920 = none := a60
  have n921 : τ 921 = none := a61
  have n922 : τ 922 = none := a62
  have n923 : τ 923 = none := a63
  have n924 : τ 924 = none := a64
  have n925 : τ 925 = none := a65
  have n926 : τ 926 = none := a66
  have n927 : τ 927 = none := a67
  have n928 : τ 928 = none := a68
  have n929 : τ 929 = none := a69
  obtain ⟨⟨h_p1, h_p2, h_td⟩, k_b, k_q, k_c, k_d, k_l, k_k, k_e, k_t, k_n, k_j⟩ := hS
  have k_c0 := k_c
  obtain ⟨h_ga, h_in, h_ls, h_ld, h_w, h_rd, h_lead, h_ps, h_E, h_up, h_D, h_Z, h_s, h_sp⟩ := k_c0
  have qS : eGS m (wrM m 93 j x) := ⟨fun _ => rfl, fun _ => rfl, fun _ => rfl⟩
  have qL : eGL m (wrM m 93 j x) := fun _ => rfl
  have qK : eGK m (wrM m 93 j x) := ⟨fun _ => rfl, rfl⟩
  have qM : eGM m (wrM m 93 j x) := fun _ => rfl
  have qP : eGP m (wrM m 93 j x) := rfl
  have qC : eGC m (wrM m 93 j x) := fun _ => rfl
  have k_q := e_q qS qP k_q
  have k_d := e_d qS k_d
  have k_l := e_l qS qL k_l
  have k_k := e_k qS qK k_k
  have k_e := e_e qK qM k_e
  have k_t := e_t qK qP k_t
  have k_n := e_n qS k_n
  have k_j := e_j qS qC k_j
  exact ⟨⟨h_p1, h_p2, h_td⟩, k_b, k_q, ⟨(fun qa qb A I e0 e1 e2 e3 => by
      have e0 : g 9 = qa := Option.some.inj (t871.symm.trans e0)
      subst e0
      have e1 : g 10 = qb := Option.some.inj (t872.symm.trans e1)
      subst e1
      have e2 : g 7 = A := Option.some.inj (t880.symm.trans e2)
      subst e2
      have e3 : g 8 = I := Option.some.inj (t881.symm.trans e3)
      subst e3
      exact ⟨(h_ga _ _ _ _ t871 t872 t880 t881).1, fun e8 _ => no9 e8 t892⟩), h_in, h_ls, fun _ _ _ _ _ _ e0 e1 e2 e3 e4 e5 => no9 n899 e4, h_w, fun _ _ e0 e1 => no9 n886 e1, fun _ _ _ e0 e1 e2 => no9 n887 e1, fun _ _ _ _ e0 e1 e2 e3 => no9 n886 e1, fun _ _ _ e0 e1 e2 => no9 n886 e1, (fun qa qb A I w Y N U V e0 e1 e2 e3 e4 e5 e6 e7 e8 => by
      have e0 : g 9 = qa := Option.some.inj (t871.symm.trans e0)
      subst e0
      have e1 : g 10 = qb := Option.some.inj (t872.symm.trans e1)
      subst e1
      have e2 : g 7 = A := Option.some.inj (t880.symm.trans e2)
      subst e2
      have e3 : g 8 = I := Option.some.inj (t881.symm.trans e3)
      subst e3
      have e4 : g 2 = w := Option.some.inj (t883.symm.trans e4)
      subst e4
      have e5 : g 3 = Y := Option.some.inj (t892.symm.trans e5)
      subst e5
      have e6 : g 4 = N := Option.some.inj (t893.symm.trans e6)
      subst e6
      have e7 : g 5 = U := Option.some.inj (t894.symm.trans e7)
      subst e7
      have e8 : g 6 + 1 = V := Option.some.inj e8
      subst e8
      show UpG (wrM m 93 j x) (τ 896) (τ 897) (PfG (wrM m 93 j x) (g 9) (g 10) (g 7) (g 8)) (g 2) (g 3) (g 4) (g 5) (g 6 + 1)
      obtain ⟨q, d9, B9, ⟨u1, uN, uY, uU, uV⟩, ⟨u2, u3⟩, u4, u5, u6, ⟨u7, u8⟩, u9⟩ := (h_up _ _ _ _ _ _ _ _ _ t871 t872 t880 t881 t883 t892 t893 t894 t895)
      have ejp : jrp = j := by omega
      have eN : (g 4).toNat = 17 := by omega
      have hx : x = nbG (g 4).toNat q d9 B9 (bvG (g 2)) (g 3).toNat 17 j := by
        unfold nbG
        rw [if_pos eN.symm, ← u3 j (by omega), ← ejp, ← vrp]; omega
      rw [PfG_e qS]
      refine ⟨q, d9, B9, ⟨u1, uN, uY, uU, by omega⟩, ⟨u2, u3⟩, fun r c hr hc => ?_, u5, u6, ⟨u7, u8⟩, ?_⟩
      · have h5 := u4 r c hr hc
        rw [BGm_w (r0 := 17) rfl (by omega) r c hc (by omega)]
        by_cases e : r = 17 ∧ c = j
        · rw [if_pos (by omega), if_pos e, e.1, e.2]; exact hx
        · rw [if_neg e]
          by_cases e2 : (r : Int) < g 5 ∨ ((r : Int) = g 5 ∧ (c : Int) < g 6)
          · rw [if_pos e2] at h5; rw [if_pos (by omega)]; exact h5
          · rw [if_neg e2] at h5; rw [if_neg (by omega)]; exact h5
      · rcases u9 with q9 | q9 | q9
        · exact Or.inl q9
        · rw [n897] at q9; cases q9.1
        · rw [n897] at q9; cases q9.1), fun _ _ _ _ _ e0 e1 e2 e3 e4 => no9 n899 e4, fun _ _ _ e0 e1 e2 => no9 n882 e2, fun _ _ e0 e1 => no9 n882 e0, fun _ _ _ e0 e1 e2 => no9 n905 e0⟩, k_d, k_l, k_k, k_e, k_t, k_n, k_j⟩
def wu_Bu18 : Ru := ([(7, (0, (0, (0, 0)))), (8, (0, (0, (0, 0)))), (0, (883, (0, (0, 0)))), (0, (892, (0, (0, 0)))), (0, (893, (0, (0, 0)))), (0, (894, (0, (0, 0)))), (0, (895, (0, (0, 0)))), (0, (880, (0, (0, 0)))), (0, (881, (0, (0, 0)))), (0, (871, (0, (0, 0)))), (0, (872, (0, (0, 0)))), (0, (896, (0, (0, 0)))), (0, (850, (0, (0, 0)))), (0, (851, (0, (0, 0)))), (0, (852, (0, (0, 0)))), (0, (853, (0, (0, 0)))), (0, (854, (0, (0, 0)))), (0, (855, (0, (0, 0)))), (0, (856, (0, (0, 0)))), (0, (857, (0, (0, 0)))), (0, (858, (0, (0, 0)))), (9, (97, (3, (1, 0)))), (9, (97, (0, (1, 0)))), (9, (94, (0, (1, 0)))), (4, (0, (0, (7, 0)))), (9, (1000, (24, (1, 0))))], ([897, 882, 886, 887, 889, 891, 899, 905, 930, 931, 932, 933, 934, 935, 936, 937, 938, 939, 910, 911, 912, 913, 914, 915, 940, 941, 942, 943, 944, 945, 946, 947, 948, 949, 950, 951, 952, 953, 954, 955, 956, 957, 958, 959, 960, 961, 962, 963, 964, 965, 966, 967, 968, 969, 970, 971, 972, 973, 974, 920, 921, 922, 923, 924, 925, 926, 927, 928, 929], ([([(5, 1)], 18), ([(5, (-1))], (-18)), ([(4, (-1)), (5, 1)], (-1)), ([(0, 1), (6, (-1))], 0), ([(0, (-1)), (6, 1)], 0), ([(0, (-1))], 0), ([(0, 1)], 19), ([(12, 1), (21, (-1))], 0), ([(12, (-1)), (21, 1)], 0), ([(13, 1), (23, (-1))], 0), ([(13, (-1)), (23, 1)], 0), ([(11, (-1)), (15, 1)], 0), ([(11, 1), (15, (-1))], 0), ([(16, 1), (22, (-1))], 0), ([(16, (-1)), (22, 1)], 0), ([(14, (-1)), (17, 1), (18, 1)], 0), ([(14, 1), (17, (-1)), (18, (-1))], 0), ([(19, 1), (25, (-1))], 0), ([(19, (-1)), (25, 1)], 0), ([(1, 1), (20, (-1))], 0), ([(1, (-1)), (20, 1)], 0)], (false, ([], ([], ([(895, some (6, 1)), (850, none), (851, none), (852, none), (853, none), (854, none), (855, none), (856, none), (857, none), (858, none), (869, none)], none)))))))
theorem wk_Bu18 : WrOk SGd 94 wu_Bu18 := by
  intro τ m g j x hi hc ha hS
  obtain ⟨i0, i1, i2, i3, i4, i5, i6, i7, i8, i9, i10, i11, i12, i13, i14, i15, i16, i17, i18, i19, i20, i21, i22, i23, i24, i25, _⟩ := hi
  have xp : g 0 = (j : Int) := i0
  have xv : g 1 = x := i1
  have t883 : τ 883 = some (g 2) := i2
  have t892 : τ 892 = some (g 3) := i3
  have t893 : τ 893 = some (g 4) := i4
  have t894 : τ 894 = some (g 5) := i5
  have t895 : τ 895 = some (g 6) := i6
  have t880 : τ 880 = some (g 7) := i7
  have t881 : τ 881 = some (g 8) := i8
  have t871 : τ 871 = some (g 9) := i9
  have t872 : τ 872 = some (g 10) := i10
  have t896 : τ 896 = some (g 11) := i11
  have t850 : τ 850 = some (g 12) := i12
  have t851 : τ 851 = some (g 13) := i13
  have t852 : τ 852 = some (g 14) := i14
  have t853 : τ 853 = some (g 15) := i15
  have t854 : τ 854 = some (g 16) := i16
  have t855 : τ 855 = some (g 17) := i17
  have t856 : τ 856 = some (g 18) := i18
  have t857 : τ 857 = some (g 19) := i19
  have t858 : τ 858 = some (g 20) := i20
  obtain ⟨jrl, url, vrl⟩ : ∃ j : Nat, 1 * g 3 + 0 = (j : Int) ∧ g 21 = m 97 j := i21
  obtain ⟨jrp, urp, vrp⟩ : ∃ j : Nat, 1 * g 0 + 0 = (j : Int) ∧ g 22 = m 97 j := i22
  obtain ⟨jy, uy, vy⟩ : ∃ j : Nat, 1 * g 0 + 0 = (j : Int) ∧ g 23 = m 94 j := i23
  have xjc : g 24 = 7 := i24
  obtain ⟨jd, ud, vd⟩ : ∃ j : Nat, 1 * g 24 + 0 = (j : Int) ∧ g 25 = m 1000 j := i25
  obtain ⟨c0, c1, c2, c3, c4, c5, c6, c7, c8, c9, c10, c11, c12, c13, c14, c15, c16, c17, c18, c19, c20, _⟩ := hc
  have c0 : 1 * g 5 ≤ 18 := d1 c0
  have c1 : (-1) * g 5 ≤ (-18) := d1 c1
  have c2 : (-1) * g 4 + 1 * g 5 ≤ (-1) := d2 c2
  have c3 : 1 * g 0 + (-1) * g 6 ≤ 0 := d2 c3
  have c4 : (-1) * g 0 + 1 * g 6 ≤ 0 := d2 c4
  have c5 : (-1) * g 0 ≤ 0 := d1 c5
  have c6 : 1 * g 0 ≤ 19 := d1 c6
  have c7 : 1 * g 12 + (-1) * g 21 ≤ 0 := d2 c7
  have c8 : (-1) * g 12 + 1 * g 21 ≤ 0 := d2 c8
  have c9 : 1 * g 13 + (-1) * g 23 ≤ 0 := d2 c9
  have c10 : (-1) * g 13 + 1 * g 23 ≤ 0 := d2 c10
  have c11 : (-1) * g 11 + 1 * g 15 ≤ 0 := d2 c11
  have c12 : 1 * g 11 + (-1) * g 15 ≤ 0 := d2 c12
  have c13 : 1 * g 16 + (-1) * g 22 ≤ 0 := d2 c13
  have c14 : (-1) * g 16 + 1 * g 22 ≤ 0 := d2 c14
  have c15 : (-1) * g 14 + 1 * g 17 + 1 * g 18 ≤ 0 := d3 c15
  have c16 : 1 * g 14 + (-1) * g 17 + (-1) * g 18 ≤ 0 := d3 c16
  have c17 : 1 * g 19 + (-1) * g 25 ≤ 0 := d2 c17
  have c18 : (-1) * g 19 + 1 * g 25 ≤ 0 := d2 c18
  have c19 : 1 * g 1 + (-1) * g 20 ≤ 0 := d2 c19
  have c20 : (-1) * g 1 + 1 * g 20 ≤ 0 := d2 c20
  obtain ⟨a0, a1, a2, a3, a4, a5, a6, a7, a8, a9, a10, a11, a12, a13, a14, a15, a16, a17, a18, a19, a20, a21, a22, a23, a24, a25, a26, a27, a28, a29, a30, a31, a32, a33, a34, a35, a36, a37, a38, a39, a40, a41, a42, a43, a44, a45, a46, a47, a48, a49, a50, a51, a52, a53, a54, a55, a56, a57, a58, a59, a60, a61, a62, a63, a64, a65, a66, a67, a68, _⟩ := ha
  have n897 : τ 897 = none := a0
  have n882 : τ 882 = none := a1
  have n886 : τ 886 = none := a2
  have n887 : τ 887 = none := a3
  have n889 : τ 889 = none := a4
  have n891 : τ 891 = none := a5
  have n899 : τ 899 = none := a6
  have n905 : τ 905 = none := a7
  have n930 : τ 930 = none := a8
  have n931 : τ 931 = none := a9
  have n932 : τ 932 = none := a10
  have n933 : τ 933 = none := a11
  have n934 : τ 934 = none := a12
  have n935 : τ 935 = none := a13
  have n936 : τ 936 = none := a14
  have n937 : τ 937 = none := a15
  have n938 : τ 938 = none := a16
  have n939 : τ 939 = none := a17
  have n910 : τ 910 = none := a18
  have n911 : τ 911 = none := a19
  have n912 : τ 912 = none := a20
  have n913 : τ 913 = none := a21
  have n914 : τ 914 = none := a22
  have n915 : τ 915 = none := a23
  have n940 : τ 940 = none := a24
  have n941 : τ 941 = none := a25
  have n942 : τ 942 = none := a26
  have n943 : τ 943 = none := a27
  have n944 : τ 944 = none := a28
  have n945 : τ 945 = none := a29
  have n946 : τ 946 = none := a30
  have n947 : τ 947 = none := a31
  have n948 : τ 948 = none := a32
  have n949 : τ 949 = none := a33
  have n950 : τ 950 = none := a34
  have n951 : τ 951 = none := a35
  have n952 : τ 952 = none := a36
  have n953 : τ 953 = none := a37
  have n954 : τ 954 = none := a38
  have n955 : τ 955 = none := a39
  have n956 : τ 956 = none := a40
  have n957 : τ 957 = none := a41
  have n958 : τ 958 = none := a42
  have n959 : τ 959 = none := a43
  have n960 : τ 960 = none := a44
  have n961 : τ 961 = none := a45
  have n962 : τ 962 = none := a46
  have n963 : τ 963 = none := a47
  have n964 : τ 964 = none := a48
  have n965 : τ 965 = none := a49
  have n966 : τ 966 = none := a50
  have n967 : τ 967 = none := a51
  have n968 : τ 968 = none := a52
  have n969 : τ 969 = none := a53
  have n970 : τ 970 = none := a54
  have n971 : τ 971 = none := a55
  have n972 : τ 972 = none := a56
  have n973 : τ 973 = none := a57
  have n974 : τ 974 = none := a58
  have n920 : τ 920 = none := a59
  have n921 : τ 921 = none := a60
  have n922 : τ 922 = none := a61
  have n923 : τ 923 = none := a62
  have n924 : τ 924 = none := a63
  have n925 : τ 925 = none := a64
  have n926 : τ 926 = none := a65
  have n927 : τ 927 = none := a66
  have n928 : τ 928 = none := a67
  have n929 : τ 929 = none := a68
  obtain ⟨⟨h_p1, h_p2, h_td⟩, k_b, k_q, k_c, k_d, k_l, k_k, k_e, k_t, k_n, k_j⟩ := hS
  have k_c0 := k_c
  obtain ⟨h_ga, h_in, h_ls, h_ld, h_w, h_rd, h_lead, h_ps, h_E, h_up, h_D, h_Z, h_s, h_sp⟩ := k_c0
  have k_b0 := k_b
  obtain ⟨h_bit, h_one, h_or, h_and, h_shr, h_m1, h_m2, h_dv, h_r1, h_r2, h_nz⟩ := k_b0
  have qS : eGS m (wrM m 94 j x) := ⟨fun _ => rfl, fun _ => rfl, fun _ => rfl⟩
  have qL : eGL m (wrM m 94 j x) := fun _ => rfl
  have qK : eGK m (wrM m 94 j x) := ⟨fun _ => rfl, rfl⟩
  have qM : eGM m (wrM m 94 j x) := fun _ => rfl
  have qP : eGP m (wrM m 94 j x) := rfl
  have qC : eGC m (wrM m 94 j x) := fun _ => rfl
  have k_q := e_q qS qP k_q
  have k_d := e_d qS k_d
  have k_l := e_l qS qL k_l
  have k_k := e_k qS qK k_k
  have k_e := e_e qK qM k_e
  have k_t := e_t qK qP k_t
  have k_n := e_n qS k_n
  have k_j := e_j qS qC k_j
  exact ⟨⟨h_p1, h_p2, h_td⟩, ⟨h_bit, h_one, h_or, h_and, h_shr, fun _ _ _ e0 e1 e2 => no9 (o := none) rfl e0, fun _ _ _ e0 e1 e2 => no9 (o := none) rfl e0, fun _ _ _ e0 e1 e2 => no9 (o := none) rfl e0, h_r1, h_r2, fun _ e0 => no9 (o := none) rfl e0⟩, k_q, ⟨(fun qa qb A I e0 e1 e2 e3 => by
      have e0 : g 9 = qa := Option.some.inj (t871.symm.trans e0)
      subst e0
      have e1 : g 10 = qb := Option.some.inj (t872.symm.trans e1)
      subst e1
      have e2 : g 7 = A := Option.some.inj (t880.symm.trans e2)
      subst e2
      have e3 : g 8 = I := Option.some.inj (t881.symm.trans e3)
      subst e3
      exact ⟨(h_ga _ _ _ _ t871 t872 t880 t881).1, fun e8 _ => no9 e8 t892⟩), h_in, h_ls, fun _ _ _ _ _ _ e0 e1 e2 e3 e4 e5 => no9 n899 e4, h_w, fun _ _ e0 e1 => no9 n886 e1, fun _ _ _ e0 e1 e2 => no9 n887 e1, fun _ _ _ _ e0 e1 e2 e3 => no9 n886 e1, fun _ _ _ e0 e1 e2 => no9 n886 e1, (fun qa qb A I w Y N U V e0 e1 e2 e3 e4 e5 e6 e7 e8 => by
      have e0 : g 9 = qa := Option.some.inj (t871.symm.trans e0)
      subst e0
      have e1 : g 10 = qb := Option.some.inj (t872.symm.trans e1)
      subst e1
      have e2 : g 7 = A := Option.some.inj (t880.symm.trans e2)
      subst e2
      have e3 : g 8 = I := Option.some.inj (t881.symm.trans e3)
      subst e3
      have e4 : g 2 = w := Option.some.inj (t883.symm.trans e4)
      subst e4
      have e5 : g 3 = Y := Option.some.inj (t892.symm.trans e5)
      subst e5
      have e6 : g 4 = N := Option.some.inj (t893.symm.trans e6)
      subst e6
      have e7 : g 5 = U := Option.some.inj (t894.symm.trans e7)
      subst e7
      have e8 : g 6 + 1 = V := Option.some.inj e8
      subst e8
      show UpG (wrM m 94 j x) (τ 896) (τ 897) (PfG (wrM m 94 j x) (g 9) (g 10) (g 7) (g 8)) (g 2) (g 3) (g 4) (g 5) (g 6 + 1)
      obtain ⟨q, d9, B9, ⟨u1, uN, uY, uU, uV⟩, ⟨u2, u3⟩, u4, u5, u6, ⟨u7, u8⟩, u9⟩ := (h_up _ _ _ _ _ _ _ _ _ t871 t872 t880 t881 t883 t892 t893 t894 t895)
      have hm1 := h_m1 _ _ _ t850 t851 t852
      have hm2 := h_m2 _ _ _ t853 t854 t855
      have hdv := h_dv _ _ _ t856 t857 t858
      have ejl : jrl = (g 3).toNat := by omega
      have ejp : jrp = j := by omega
      have ejy : jy = j := by omega
      have ejd : jd = 7 := by omega
      subst ejl ejd
      rw [ejp] at vrp
      rw [ejy] at vy
      have eU : (g 5).toNat = 18 := by omega
      have h4 := u4 18 j (by omega) (by omega)
      rw [if_neg (by omega)] at h4
      have h4 := h4 (by omega)
      have hB : BGm m 18 j = m 94 j := by unfold BGm; rw [if_pos (by omega)]
      have a1 : g 14 = g 21 * g 23 := by rw [hm1, show g 12 = g 21 by omega, show g 13 = g 23 by omega]
      have a2 : g 17 = g 11 * g 22 := by rw [hm2, show g 15 = g 11 by omega, show g 16 = g 22 by omega]
      have a3 : g 20 = (g 21 * g 23 - g 11 * g 22).tdiv (g 25) := by rw [hdv, show g 19 = g 25 by omega, show g 18 = g 14 - g 17 by omega, a1, a2]
      have u6' := u6 _ t896
      rw [eU] at u6'
      have hx : x = nbG (g 4).toNat q d9 B9 (bvG (g 2)) (g 3).toNat 18 j := by
        unfold nbG
        rw [if_neg (by omega), ← u3 (g 3).toNat (by omega), ← u3 j (by omega), ← h4, ← u6', ← u8, hB, ← vrl, ← vy, ← vrp, ← vd, ← a3]; omega
      rw [PfG_e qS]
      refine ⟨q, d9, B9, ⟨u1, uN, uY, uU, by omega⟩, ⟨u2, u3⟩, fun r c hr hc => ?_, u5, u6, ⟨u7, u8⟩, ?_⟩
      · have h5 := u4 r c hr hc
        rw [BGm_w (r0 := 18) rfl (by omega) r c hc (by omega)]
        by_cases e : r = 18 ∧ c = j
        · rw [if_pos (by omega), if_pos e, e.1, e.2]; exact hx
        · rw [if_neg e]
          by_cases e2 : (r : Int) < g 5 ∨ ((r : Int) = g 5 ∧ (c : Int) < g 6)
          · rw [if_pos e2] at h5; rw [if_pos (by omega)]; exact h5
          · rw [if_neg e2] at h5; rw [if_neg (by omega)]; exact h5
      · rcases u9 with q9 | q9 | q9
        · exact Or.inl q9
        · rw [n897] at q9; cases q9.1
        · rw [n897] at q9; cases q9.1), fun _ _ _ _ _ e0 e1 e2 e3 e4 => no9 n899 e4, fun _ _ _ e0 e1 e2 => no9 n882 e2, fun _ _ e0 e1 => no9 n882 e0, fun _ _ _ e0 e1 e2 => no9 n905 e0⟩, k_d, k_l, k_k, k_e, k_t, k_n, k_j⟩
def wu_Bl18 : Ru := ([(7, (0, (0, (0, 0)))), (8, (0, (0, (0, 0)))), (0, (883, (0, (0, 0)))), (0, (892, (0, (0, 0)))), (0, (893, (0, (0, 0)))), (0, (894, (0, (0, 0)))), (0, (895, (0, (0, 0)))), (0, (880, (0, (0, 0)))), (0, (881, (0, (0, 0)))), (0, (871, (0, (0, 0)))), (0, (872, (0, (0, 0)))), (9, (97, (0, (1, 0))))], ([896, 897, 882, 886, 887, 889, 891, 899, 905, 930, 931, 932, 933, 934, 935, 936, 937, 938, 939, 910, 911, 912, 913, 914, 915, 940, 941, 942, 943, 944, 945, 946, 947, 948, 949, 950, 951, 952, 953, 954, 955, 956, 957, 958, 959, 960, 961, 962, 963, 964, 965, 966, 967, 968, 969, 970, 971, 972, 973, 974, 920, 921, 922, 923, 924, 925, 926, 927, 928, 929], ([([(5, 1)], 18), ([(5, (-1))], (-18)), ([(4, (-1)), (5, 1)], 0), ([(4, 1), (5, (-1))], 0), ([(0, 1), (6, (-1))], 0), ([(0, (-1)), (6, 1)], 0), ([(0, (-1))], 0), ([(0, 1)], 19), ([(1, 1), (11, (-1))], 0), ([(1, (-1)), (11, 1)], 0)], (false, ([], ([], ([(895, some (6, 1))], none)))))))
theorem wk_Bl18 : WrOk SGd 94 wu_Bl18 := by
  intro τ m g j x hi hc ha hS
  obtain ⟨i0, i1, i2, i3, i4, i5, i6, i7, i8, i9, i10, i11, _⟩ := hi
  have xp : g 0 = (j : Int) := i0
  have xv : g 1 = x := i1
  have t883 : τ 883 = some (g 2) := i2
  have t892 : τ 892 = some (g 3) := i3
  have t893 : τ 893 = some (g 4) := i4
  have t894 : τ 894 = some (g 5) := i5
  have t895 : τ 895 = some (g 6) := i6
  have t880 : τ 880 = some (g 7) := i7
  have t881 : τ 881 = some (g 8) := i8
  have t871 : τ 871 = some (g 9) := i9
  have t872 : τ 872 = some (g 10) := i10
  obtain ⟨jrp, urp, vrp⟩ : ∃ j : Nat, 1 * g 0 + 0 = (j : Int) ∧ g 11 = m 97 j := i11
  obtain ⟨c0, c1, c2, c3, c4, c5, c6, c7, c8, c9, _⟩ := hc
  have c0 : 1 * g 5 ≤ 18 := d1 c0
  have c1 : (-1) * g 5 ≤ (-18) := d1 c1
  have c2 : (-1) * g 4 + 1 * g 5 ≤ 0 := d2 c2
  have c3 : 1 * g 4 + (-1) * g 5 ≤ 0 := d2 c3
  have c4 : 1 * g 0 + (-1) * g 6 ≤ 0 := d2 c4
  have c5 : (-1) * g 0 + 1 * g 6 ≤ 0 := d2 c5
  have c6 : (-1) * g 0 ≤ 0 := d1 c6
  have c7 : 1 * g 0 ≤ 19 := d1 c7
  have c8 : 1 * g 1 + (-1) * g 11 ≤ 0 := d2 c8
  have c9 : (-1) * g 1 + 1 * g 11 ≤ 0 := d2 c9
  obtain ⟨a0, a1, a2, a3, a4, a5, a6, a7, a8, a9, a10, a11, a12, a13, a14, a15, a16, a17, a18, a19, a20, a21, a22, a23, a24, a25, a26, a27, a28, a29, a30, a31, a32, a33, a34, a35, a36, a37, a38, a39, a40, a41, a42, a43, a44, a45, a46, a47, a48, a49, a50, a51, a52, a53, a54, a55, a56, a57, a58, a59, a60, a61, a62, a63, a64, a65, a66, a67, a68, a69, _⟩ := ha
  have n896 : τ 896 = none := a0
  have n897 : τ 897 = none := a1
  have n882 : τ 882 = none := a2
  have n886 : τ 886 = none := a3
  have n887 : τ 887 = none := a4
  have n889 : τ 889 = none := a5
  have n891 : τ 891 = none := a6
  have n899 : τ 899 = none := a7
  have n905 : τ 905 = none := a8
  have n930 : τ 930 = none := a9
  have n931 : τ 931 = none := a10
  have n932 : τ 932 = none := a11
  have n933 : τ 933 = none := a12
  have n934 : τ 934 = none := a13
  have n935 : τ 935 = none := a14
  have n936 : τ 936 = none := a15
  have n937 : τ 937 = none := a16
  have n938 : τ 938 = none := a17
  have n939 : τ 939 = none := a18
  have n910 : τ 910 = none := a19
  have n911 : τ 911 = none := a20
  have n912 : τ 912 = none := a21
  have n913 : τ 913 = none := a22
  have n914 : τ 914 = none := a23
  have n915 : τ 915 = none := a24
  have n940 : τ 940 = none := a25
  have n941 : τ 941 = none := a26
  have n942 : τ 942 = none := a27
  have n943 : τ 943 = none := a28
  have n944 : τ 944 = none := a29
  have n945 : τ 945 = none := a30
  have n946 : τ 946 = none := a31
  have n947 : τ 947 = none := a32
  have n948 : τ 948 = none := a33
  have n949 : τ 949 = none := a34
  have n950 : τ 950 = none := a35
  have n951 : τ 951 = none := a36
  have n952 : τ 952 = none := a37
  have n953 : τ 953 = none := a38
  have n954 : τ 954 = none := a39
  have n955 : τ 955 = none := a40
  have n956 : τ 956 = none := a41
  have n957 : τ 957 = none := a42
  have n958 : τ 958 = none := a43
  have n959 : τ 959 = none := a44
  have n960 : τ 960 = none := a45
  have n961 : τ 961 = none := a46
  have n962 : τ 962 = none := a47
  have n963 : τ 963 = none := a48
  have n964 : τ 964 = none := a49
  have n965 : τ 965 = none := a50
  have n966 : τ 966 = none := a51
  have n967 : τ 967 = none := a52
  have n968 : τ 968 = none := a53
  have n969 : τ 969 = none := a54
  have n970 : τ 970 = none := a55
  have n971 : τ 971 = none := a56
  have n972 : τ 972 = none := a57
  have n973 : τ 973 = none := a58
  have n974 : τ 974 = none := a59
  have n920 : τ 920 = none := a60
  have n921 : τ 921 = none := a61
  have n922 : τ 922 = none := a62
  have n923 : τ 923 = none := a63
  have n924 : τ 924 = none := a64
  have n925 : τ 925 = none := a65
  have n926 : τ 926 = none := a66
  have n927 : τ 927 = none := a67
  have n928 : τ 928 = none := a68
  have n929 : τ 929 = none := a69
  obtain ⟨⟨h_p1, h_p2, h_td⟩, k_b, k_q, k_c, k_d, k_l, k_k, k_e, k_t, k_n, k_j⟩ := hS
  have k_c0 := k_c
  obtain ⟨h_ga, h_in, h_ls, h_ld, h_w, h_rd, h_lead, h_ps, h_E, h_up, h_D, h_Z, h_s, h_sp⟩ := k_c0
  have qS : eGS m (wrM m 94 j x) := ⟨fun _ => rfl, fun _ => rfl, fun _ => rfl⟩
  have qL : eGL m (wrM m 94 j x) := fun _ => rfl
  have qK : eGK m (wrM m 94 j x) := ⟨fun _ => rfl, rfl⟩
  have qM : eGM m (wrM m 94 j x) := fun _ => rfl
  have qP : eGP m (wrM m 94 j x) := rfl
  have qC : eGC m (wrM m 94 j x) := fun _ => rfl
  have k_q := e_q qS qP k_q
  have k_d := e_d qS k_d
  have k_l := e_l qS qL k_l
  have k_k := e_k qS qK k_k
  have k_e := e_e qK qM k_e
  have k_t := e_t qK qP k_t
  have k_n := e_n qS k_n
  have k_j := e_j qS qC k_j
  exact ⟨⟨h_p1, h_p2, h_td⟩, k_b, k_q, ⟨(fun qa qb A I e0 e1 e2 e3 => by
      have e0 : g 9 = qa := Option.some.inj (t871.symm.trans e0)
      subst e0
      have e1 : g 10 = qb := Option.some.inj (t872.symm.trans e1)
      subst e1
      have e2 : g 7 = A := Option.some.inj (t880.symm.trans e2)
      subst e2
      have e3 : g 8 = I := Option.some.inj (t881.symm.trans e3)
      subst e3
      exact ⟨(h_ga _ _ _ _ t871 t872 t880 t881).1, fun e8 _ => no9 e8 t892⟩), h_in, h_ls, fun _ _ _ _ _ _ e0 e1 e2 e3 e4 e5 => no9 n899 e4, h_w, fun _ _ e0 e1 => no9 n886 e1, fun _ _ _ e0 e1 e2 => no9 n887 e1, fun _ _ _ _ e0 e1 e2 e3 => no9 n886 e1, fun _ _ _ e0 e1 e2 => no9 n886 e1, (fun qa qb A I w Y N U V e0 e1 e2 e3 e4 e5 e6 e7 e8 => by
      have e0 : g 9 = qa := Option.some.inj (t871.symm.trans e0)
      subst e0
      have e1 : g 10 = qb := Option.some.inj (t872.symm.trans e1)
      subst e1
      have e2 : g 7 = A := Option.some.inj (t880.symm.trans e2)
      subst e2
      have e3 : g 8 = I := Option.some.inj (t881.symm.trans e3)
      subst e3
      have e4 : g 2 = w := Option.some.inj (t883.symm.trans e4)
      subst e4
      have e5 : g 3 = Y := Option.some.inj (t892.symm.trans e5)
      subst e5
      have e6 : g 4 = N := Option.some.inj (t893.symm.trans e6)
      subst e6
      have e7 : g 5 = U := Option.some.inj (t894.symm.trans e7)
      subst e7
      have e8 : g 6 + 1 = V := Option.some.inj e8
      subst e8
      show UpG (wrM m 94 j x) (τ 896) (τ 897) (PfG (wrM m 94 j x) (g 9) (g 10) (g 7) (g 8)) (g 2) (g 3) (g 4) (g 5) (g 6 + 1)
      obtain ⟨q, d9, B9, ⟨u1, uN, uY, uU, uV⟩, ⟨u2, u3⟩, u4, u5, u6, ⟨u7, u8⟩, u9⟩ := (h_up _ _ _ _ _ _ _ _ _ t871 t872 t880 t881 t883 t892 t893 t894 t895)
      have ejp : jrp = j := by omega
      have eN : (g 4).toNat = 18 := by omega
      have hx : x = nbG (g 4).toNat q d9 B9 (bvG (g 2)) (g 3).toNat 18 j := by
        unfold nbG
        rw [if_pos eN.symm, ← u3 j (by omega), ← ejp, ← vrp]; omega
      rw [PfG_e qS]
      refine ⟨q, d9, B9, ⟨u1, uN, uY, uU, by omega⟩, ⟨u2, u3⟩, fun r c hr hc => ?_, u5, u6, ⟨u7, u8⟩, ?_⟩
      · have h5 := u4 r c hr hc
        rw [BGm_w (r0 := 18) rfl (by omega) r c hc (by omega)]
        by_cases e : r = 18 ∧ c = j
        · rw [if_pos (by omega), if_pos e, e.1, e.2]; exact hx
        · rw [if_neg e]
          by_cases e2 : (r : Int) < g 5 ∨ ((r : Int) = g 5 ∧ (c : Int) < g 6)
          · rw [if_pos e2] at h5; rw [if_pos (by omega)]; exact h5
          · rw [if_neg e2] at h5; rw [if_neg (by omega)]; exact h5
      · rcases u9 with q9 | q9 | q9
        · exact Or.inl q9
        · rw [n897] at q9; cases q9.1
        · rw [n897] at q9; cases q9.1), fun _ _ _ _ _ e0 e1 e2 e3 e4 => no9 n899 e4, fun _ _ _ e0 e1 e2 => no9 n882 e2, fun _ _ e0 e1 => no9 n882 e0, fun _ _ _ e0 e1 e2 => no9 n905 e0⟩, k_d, k_l, k_k, k_e, k_t, k_n, k_j⟩
def wu_Bu19 : Ru := ([(7, (0, (0, (0, 0)))), (8, (0, (0, (0, 0)))), (0, (883, (0, (0, 0)))), (0, (892, (0, (0, 0)))), (0, (893, (0, (0, 0)))), (0, (894, (0, (0, 0)))), (0, (895, (0, (0, 0)))), (0, (880, (0, (0, 0)))), (0, (881, (0, (0, 0)))), (0, (871, (0, (0, 0)))), (0, (872, (0, (0, 0)))), (0, (896, (0, (0, 0)))), (0, (850, (0, (0, 0)))), (0, (851, (0, (0, 0)))), (0, (852, (0, (0, 0)))), (0, (853, (0, (0, 0)))), (0, (854, (0, (0, 0)))), (0, (855, (0, (0, 0)))), (0, (856, (0, (0, 0)))), (0, (857, (0, (0, 0)))), (0, (858, (0, (0, 0)))), (9, (97, (3, (1, 0)))), (9, (97, (0, (1, 0)))), (9, (95, (0, (1, 0)))), (4, (0, (0, (7, 0)))), (9, (1000, (24, (1, 0))))], ([897, 882, 886, 887, 889, 891, 899, 905, 930, 931, 932, 933, 934, 935, 936, 937, 938, 939, 910, 911, 912, 913, 914, 915, 940, 941, 942, 943, 944, 945, 946, 947, 948, 949, 950, 951, 952, 953, 954, 955, 956, 957, 958, 959, 960, 961, 962, 963, 964, 965, 966, 967, 968, 969, 970, 971, 972, 973, 974, 920, 921, 922, 923, 924, 925, 926, 927, 928, 929], ([([(5, 1)], 19), ([(5, (-1))], (-19)), ([(4, (-1)), (5, 1)], (-1)), ([(0, 1), (6, (-1))], 0), ([(0, (-1)), (6, 1)], 0), ([(0, (-1))], 0), ([(0, 1)], 19), ([(12, 1), (21, (-1))], 0), ([(12, (-1)), (21, 1)], 0), ([(13, 1), (23, (-1))], 0), ([(13, (-1)), (23, 1)], 0), ([(11, (-1)), (15, 1)], 0), ([(11, 1), (15, (-1))], 0), ([(16, 1), (22, (-1))], 0), ([(16, (-1)), (22, 1)], 0), ([(14, (-1)), (17, 1), (18, 1)], 0), ([(14, 1), (17, (-1)), (18, (-1))], 0), ([(19, 1), (25, (-1))], 0), ([(19, (-1)), (25, 1)], 0), ([(1, 1), (20, (-1))], 0), ([(1, (-1)), (20, 1)], 0)], (false, ([], ([], ([(895, some (6, 1)), (850, none), (851, none), (852, none), (853, none), (854, none), (855, none), (856, none), (857, none), (858, none), (869, none)], none)))))))
theorem wk_Bu19 : WrOk SGd 95 wu_Bu19 := by
  intro τ m g j x hi hc ha hS
  obtain ⟨i0, i1, i2, i3, i4, i5, i6, i7, i8, i9, i10, i11, i12, i13, i14, i15, i16, i17, i18, i19, i20, i21, i22, i23, i24, i25, _⟩ := hi
  have xp : g 0 = (j : Int) := i0
  have xv : g 1 = x := i1
  have t883 : τ 883 = some (g 2) := i2
  have t892 : τ 892 = some (g 3) := i3
  have t893 : τ 893 = some (g 4) := i4
  have t894 : τ 894 = some (g 5) := i5
  have t895 : τ 895 = some (g 6) := i6
  have t880 : τ 880 = some (g 7) := i7
  have t881 : τ 881 = some (g 8) := i8
  have t871 : τ 871 = some (g 9) := i9
  have t872 : τ 872 = some (g 10) := i10
  have t896 : τ 896 = some (g 11) := i11
  have t850 : τ 850 = some (g 12) := i12
  have t851 : τ 851 = some (g 13) := i13
  have t852 : τ 852 = some (g 14) := i14
  have t853 : τ 853 = some (g 15) := i15
  have t854 : τ 854 = some (g 16) := i16
  have t855 : τ 855 = some (g 17) := i17
  have t856 : τ 856 = some (g 18) := i18
  have t857 : τ 857 = some (g 19) := i19
  have t858 : τ 858 = some (g 20) := i20
  obtain ⟨jrl, url, vrl⟩ : ∃ j : Nat, 1 * g 3 + 0 = (j : Int) ∧ g 21 = m 97 j := i21
  obtain ⟨jrp, urp, vrp⟩ : ∃ j : Nat, 1 * g 0 + 0 = (j : Int) ∧ g 22 = m 97 j := i22
  obtain ⟨jy, uy, vy⟩ : ∃ j : Nat, 1 * g 0 + 0 = (j : Int) ∧ g 23 = m 95 j := i23
  have xjc : g 24 = 7 := i24
  obtain ⟨jd, ud, vd⟩ : ∃ j : Nat, 1 * g 24 + 0 = (j : Int) ∧ g 25 = m 1000 j := i25
  obtain ⟨c0, c1, c2, c3, c4, c5, c6, c7, c8, c9, c10, c11, c12, c13, c14, c15, c16, c17, c18, c19, c20, _⟩ := hc
  have c0 : 1 * g 5 ≤ 19 := d1 c0
  have c1 : (-1) * g 5 ≤ (-19) := d1 c1
  have c2 : (-1) * g 4 + 1 * g 5 ≤ (-1) := d2 c2
  have c3 : 1 * g 0 + (-1) * g 6 ≤ 0 := d2 c3
  have c4 : (-1) * g 0 + 1 * g 6 ≤ 0 := d2 c4
  have c5 : (-1) * g 0 ≤ 0 := d1 c5
  have c6 : 1 * g 0 ≤ 19 := d1 c6
  have c7 : 1 * g 12 + (-1) * g 21 ≤ 0 := d2 c7
  have c8 : (-1) * g 12 + 1 * g 21 ≤ 0 := d2 c8
  have c9 : 1 * g 13 + (-1) * g 23 ≤ 0 := d2 c9
  have c10 : (-1) * g 13 + 1 * g 23 ≤ 0 := d2 c10
  have c11 : (-1) * g 11 + 1 * g 15 ≤ 0 := d2 c11
  have c12 : 1 * g 11 + (-1) * g 15 ≤ 0 := d2 c12
  have c13 : 1 * g 16 + (-1) * g 22 ≤ 0 := d2 c13
  have c14 : (-1) * g 16 + 1 * g 22 ≤ 0 := d2 c14
  have c15 : (-1) * g 14 + 1 * g 17 + 1 * g 18 ≤ 0 := d3 c15
  have c16 : 1 * g 14 + (-1) * g 17 + (-1) * g 18 ≤ 0 := d3 c16
  have c17 : 1 * g 19 + (-1) * g 25 ≤ 0 := d2 c17
  have c18 : (-1) * g 19 + 1 * g 25 ≤ 0 := d2 c18
  have c19 : 1 * g 1 + (-1) * g 20 ≤ 0 := d2 c19
  have c20 : (-1) * g 1 + 1 * g 20 ≤ 0 := d2 c20
  obtain ⟨a0, a1, a2, a3, a4, a5, a6, a7, a8, a9, a10, a11, a12, a13, a14, a15, a16, a17, a18, a19, a20, a21, a22, a23, a24, a25, a26, a27, a28, a29, a30, a31, a32, a33, a34, a35, a36, a37, a38, a39, a40, a41, a42, a43, a44, a45, a46, a47, a48, a49, a50, a51, a52, a53, a54, a55, a56, a57, a58, a59, a60, a61, a62, a63, a64, a65, a66, a67, a68, _⟩ := ha
  have n897 : τ 897 = none := a0
  have n882 : τ 882 = none := a1
  have n886 : τ 886 = none := a2
  have n887 : τ 887 = none := a3
  have n889 : τ 889 = none := a4
  have n891 : τ 891 = none := a5
  have n899 : τ 899 = none := a6
  have n905 : τ 905 = none := a7
  have n930 : τ 930 = none := a8
  have n931 : τ 931 = none := a9
  have n932 : τ 932 = none := a10
  have n933 : τ 933 = none := a11
  have n934 : τ 934 = none := a12
  have n935 : τ 935 = none := a13
  have n936 : τ 936 = none := a14
  have n937 : τ 937 = none := a15
  have n938 : τ 938 = none := a16
  have n939 : τ 939 = none := a17
  have n910 : τ 910 = none := a18
  have n911 : τ 911 = none := a19
  have n912 : τ 912 = none := a20
  have n913 : τ 913 = none := a21
  have n914 : τ 914 = none := a22
  have n915 : τ 915 = none := a23
  have n940 : τ 940 = none := a24
  have n941 : τ 941 = none := a25
  have n942 : τ 942 = none := a26
  have n943 : τ 943 = none := a27
  have n944 : τ 944 = none := a28
  have n945 : τ 945 = none := a29
  have n946 : τ 946 = none := a30
  have n947 : τ 947 = none := a31
  have n948 : τ 948 = none := a32
  have n949 : τ 949 = none := a33
  have n950 : τ 950 = none := a34
  have n951 : τ 951 = none := a35
  have n952 : τ 952 = none := a36
  have n953 : τ 953 = none := a37
  have n954 : τ 954 = none := a38
  have n955 : τ 955 = none := a39
  have n956 : τ 956 = none := a40
  have n957 : τ 957 = none := a41
  have n958 : τ 958 = none := a42
  have n959 : τ 959 = none := a43
  have n960 : τ 960 = none := a44
  have n961 : τ 961 = none := a45
  have n962 : τ 962 = none := a46
  have n963 : τ 963 = none := a47
  have n964 : τ 964 = none := a48
  have n965 : τ 965 = none := a49
  have n966 : τ 966 = none := a50
  have n967 : τ 967 = none := a51
  have n968 : τ 968 = none := a52
  have n969 : τ 969 = none := a53
  have n970 : τ 970 = none := a54
  have n971 : τ 971 = none := a55
  have n972 : τ 972 = none := a56
  have n973 : τ 973 = none := a57
  have n974 : τ 974 = none := a58
  have n920 : τ 920 = none := a59
  have n921 : τ 921 = none := a60
  have n922 : τ 922 = none := a61
  have n923 : τ 923 = none := a62
  have n924 : τ 924 = none := a63
  have n925 : τ 925 = none := a64
  have n926 : τ 926 = none := a65
  have n927 : τ 927 = none := a66
  have n928 : τ 928 = none := a67
  have n929 : τ 929 = none := a68
  obtain ⟨⟨h_p1, h_p2, h_td⟩, k_b, k_q, k_c, k_d, k_l, k_k, k_e, k_t, k_n, k_j⟩ := hS
  have k_c0 := k_c
  obtain ⟨h_ga, h_in, h_ls, h_ld, h_w, h_rd, h_lead, h_ps, h_E, h_up, h_D, h_Z, h_s, h_sp⟩ := k_c0
  have k_b0 := k_b
  obtain ⟨h_bit, h_one, h_or, h_and, h_shr, h_m1, h_m2, h_dv, h_r1, h_r2, h_nz⟩ := k_b0
  have qS : eGS m (wrM m 95 j x) := ⟨fun _ => rfl, fun _ => rfl, fun _ => rfl⟩
  have qL : eGL m (wrM m 95 j x) := fun _ => rfl
  have qK : eGK m (wrM m 95 j x) := ⟨fun _ => rfl, rfl⟩
  have qM : eGM m (wrM m 95 j x) := fun _ => rfl
  have qP : eGP m (wrM m 95 j x) := rfl
  have qC : eGC m (wrM m 95 j x) := fun _ => rfl
  have k_q := e_q qS qP k_q
  have k_d := e_d qS k_d
  have k_l := e_l qS qL k_l
  have k_k := e_k qS qK k_k
  have k_e := e_e qK qM k_e
  have k_t := e_t qK qP k_t
  have k_n := e_n qS k_n
  have k_j := e_j qS qC k_j
  exact ⟨⟨h_p1, h_p2, h_td⟩, ⟨h_bit, h_one, h_or, h_and, h_shr, fun _ _ _ e0 e1 e2 => no9 (o := none) rfl e0, fun _ _ _ e0 e1 e2 => no9 (o := none) rfl e0, fun _ _ _ e0 e1 e2 => no9 (o := none) rfl e0, h_r1, h_r2, fun _ e0 => no9 (o := none) rfl e0⟩, k_q, ⟨(fun qa qb A I e0 e1 e2 e3 => by
      have e0 : g 9 = qa := Option.some.inj (t871.symm.trans e0)
      subst e0
      have e1 : g 10 = qb := Option.some.inj (t872.symm.trans e1)
      subst e1
      have e2 : g 7 = A := Option.some.inj (t880.symm.trans e2)
      subst e2
      have e3 : g 8 = I := Option.some.inj (t881.symm.trans e3)
      subst e3
      exact ⟨(h_ga _ _ _ _ t871 t872 t880 t881).1, fun e8 _ => no9 e8 t892⟩), h_in, h_ls, fun _ _ _ _ _ _ e0 e1 e2 e3 e4 e5 => no9 n899 e4, h_w, fun _ _ e0 e1 => no9 n886 e1, fun _ _ _ e0 e1 e2 => no9 n887 e1, fun _ _ _ _ e0 e1 e2 e3 => no9 n886 e1, fun _ _ _ e0 e1 e2 => no9 n886 e1, (fun qa qb A I w Y N U V e0 e1 e2 e3 e4 e5 e6 e7 e8 => by
      have e0 : g 9 = qa := Option.some.inj (t871.symm.trans e0)
      subst e0
      have e1 : g 10 = qb := Option.some.inj (t872.symm.trans e1)
      subst e1
      have e2 : g 7 = A := Option.some.inj (t880.symm.trans e2)
      subst e2
      have e3 : g 8 = I := Option.some.inj (t881.symm.trans e3)
      subst e3
      have e4 : g 2 = w := Option.some.inj (t883.symm.trans e4)
      subst e4
      have e5 : g 3 = Y := Option.some.inj (t892.symm.trans e5)
      subst e5
      have e6 : g 4 = N := Option.some.inj (t893.symm.trans e6)
      subst e6
      have e7 : g 5 = U := Option.some.inj (t894.symm.trans e7)
      subst e7
      have e8 : g 6 + 1 = V := Option.some.inj e8
      subst e8
      show UpG (wrM m 95 j x) (τ 896) (τ 897) (PfG (wrM m 95 j x) (g 9) (g 10) (g 7) (g 8)) (g 2) (g 3) (g 4) (g 5) (g 6 + 1)
      obtain ⟨q, d9, B9, ⟨u1, uN, uY, uU, uV⟩, ⟨u2, u3⟩, u4, u5, u6, ⟨u7, u8⟩, u9⟩ := (h_up _ _ _ _ _ _ _ _ _ t871 t872 t880 t881 t883 t892 t893 t894 t895)
      have hm1 := h_m1 _ _ _ t850 t851 t852
      have hm2 := h_m2 _ _ _ t853 t854 t855
      have hdv := h_dv _ _ _ t856 t857 t858
      have ejl : jrl = (g 3).toNat := by omega
      have ejp : jrp = j := by omega
      have ejy : jy = j := by omega
      have ejd : jd = 7 := by omega
      subst ejl ejd
      rw [ejp] at vrp
      rw [ejy] at vy
      have eU : (g 5).toNat = 19 := by omega
      have h4 := u4 19 j (by omega) (by omega)
      rw [if_neg (by omega)] at h4
      have h4 := h4 (by omega)
      have hB : BGm m 19 j = m 95 j := by unfold BGm; rw [if_pos (by omega)]
      have a1 : g 14 = g 21 * g 23 := by rw [hm1, show g 12 = g 21 by omega, show g 13 = g 23 by omega]
      have a2 : g 17 = g 11 * g 22 := by rw [hm2, show g 15 = g 11 by omega, show g 16 = g 22 by omega]
      have a3 : g 20 = (g 21 * g 23 - g 11 * g 22).tdiv (g 25) := by rw [hdv, show g 19 = g 25 by omega, show g 18 = g 14 - g 17 by omega, a1, a2]
      have u6' := u6 _ t896
      rw [eU] at u6'
      have hx : x = nbG (g 4).toNat q d9 B9 (bvG (g 2)) (g 3).toNat 19 j := by
        unfold nbG
        rw [if_neg (by omega), ← u3 (g 3).toNat (by omega), ← u3 j (by omega), ← h4, ← u6', ← u8, hB, ← vrl, ← vy, ← vrp, ← vd, ← a3]; omega
      rw [PfG_e qS]
      refine ⟨q, d9, B9, ⟨u1, uN, uY, uU, by omega⟩, ⟨u2, u3⟩, fun r c hr hc => ?_, u5, u6, ⟨u7, u8⟩, ?_⟩
      · have h5 := u4 r c hr hc
        rw [BGm_w (r0 := 19) rfl (by omega) r c hc (by omega)]
        by_cases e : r = 19 ∧ c = j
        · rw [if_pos (by omega), if_pos e, e.1, e.2]; exact hx
        · rw [if_neg e]
          by_cases e2 : (r : Int) < g 5 ∨ ((r : Int) = g 5 ∧ (c : Int) < g 6)
          · rw [if_pos e2] at h5; rw [if_pos (by omega)]; exact h5
          · rw [if_neg e2] at h5; rw [if_neg (by omega)]; exact h5
      · rcases u9 with q9 | q9 | q9
        · exact Or.inl q9
        · rw [n897] at q9; cases q9.1
        · rw [n897] at q9; cases q9.1), fun _ _ _ _ _ e0 e1 e2 e3 e4 => no9 n899 e4, fun _ _ _ e0 e1 e2 => no9 n882 e2, fun _ _ e0 e1 => no9 n882 e0, fun _ _ _ e0 e1 e2 => no9 n905 e0⟩, k_d, k_l, k_k, k_e, k_t, k_n, k_j⟩
def wu_Bl19 : Ru := ([(7, (0, (0, (0, 0)))), (8, (0, (0, (0, 0)))), (0, (883, (0, (0, 0)))), (0, (892, (0, (0, 0)))), (0, (893, (0, (0, 0)))), (0, (894, (0, (0, 0)))), (0, (895, (0, (0, 0)))), (0, (880, (0, (0, 0)))), (0, (881, (0, (0, 0)))), (0, (871, (0, (0, 0)))), (0, (872, (0, (0, 0)))), (9, (97, (0, (1, 0))))], ([896, 897, 882, 886, 887, 889, 891, 899, 905, 930, 931, 932, 933, 934, 935, 936, 937, 938, 939, 910, 911, 912, 913, 914, 915, 940, 941, 942, 943, 944, 945, 946, 947, 948, 949, 950, 951, 952, 953, 954, 955, 956, 957, 958, 959, 960, 961, 962, 963, 964, 965, 966, 967, 968, 969, 970, 971, 972, 973, 974, 920, 921, 922, 923, 924, 925, 926, 927, 928, 929], ([([(5, 1)], 19), ([(5, (-1))], (-19)), ([(4, (-1)), (5, 1)], 0), ([(4, 1), (5, (-1))], 0), ([(0, 1), (6, (-1))], 0), ([(0, (-1)), (6, 1)], 0), ([(0, (-1))], 0), ([(0, 1)], 19), ([(1, 1), (11, (-1))], 0), ([(1, (-1)), (11, 1)], 0)], (false, ([], ([], ([(895, some (6, 1))], none)))))))
theorem wk_Bl19 : WrOk SGd 95 wu_Bl19 := by
  intro τ m g j x hi hc ha hS
  obtain ⟨i0, i1, i2, i3, i4, i5, i6, i7, i8, i9, i10, i11, _⟩ := hi
  have xp : g 0 = (j : Int) := i0
  have xv : g 1 = x := i1
  have t883 : τ 883 = some (g 2) := i2
  have t892 : τ 892 = some (g 3) := i3
  have t893 : τ 893 = some (g 4) := i4
  have t894 : τ 894 = some (g 5) := i5
  have t895 : τ 895 = some (g 6) := i6
  have t880 : τ 880 = some (g 7) := i7
  have t881 : τ 881 = some (g 8) := i8
  have t871 : τ 871 = some (g 9) := i9
  have t872 : τ 872 = some (g 10) := i10
  obtain ⟨jrp, urp, vrp⟩ : ∃ j : Nat, 1 * g 0 + 0 = (j : Int) ∧ g 11 = m 97 j := i11
  obtain ⟨c0, c1, c2, c3, c4, c5, c6, c7, c8, c9, _⟩ := hc
  have c0 : 1 * g 5 ≤ 19 := d1 c0
  have c1 : (-1) * g 5 ≤ (-19) := d1 c1
  have c2 : (-1) * g 4 + 1 * g 5 ≤ 0 := d2 c2
  have c3 : 1 * g 4 + (-1) * g 5 ≤ 0 := d2 c3
  have c4 : 1 * g 0 + (-1) * g 6 ≤ 0 := d2 c4
  have c5 : (-1) * g 0 + 1 * g 6 ≤ 0 := d2 c5
  have c6 : (-1) * g 0 ≤ 0 := d1 c6
  have c7 : 1 * g 0 ≤ 19 := d1 c7
  have c8 : 1 * g 1 + (-1) * g 11 ≤ 0 := d2 c8
  have c9 : (-1) * g 1 + 1 * g 11 ≤ 0 := d2 c9
  obtain ⟨a0, a1, a2, a3, a4, a5, a6, a7, a8, a9, a10, a11, a12, a13, a14, a15, a16, a17, a18, a19, a20, a21, a22, a23, a24, a25, a26, a27, a28, a29, a30, a31, a32, a33, a34, a35, a36, a37, a38, a39, a40, a41, a42, a43, a44, a45, a46, a47, a48, a49, a50, a51, a52, a53, a54, a55, a56, a57, a58, a59, a60, a61, a62, a63, a64, a65, a66, a67, a68, a69, _⟩ := ha
  have n896 : τ 896 = none := a0
  have n897 : τ 897 = none := a1
  have n882 : τ 882 = none := a2
  have n886 : τ 886 = none := a3
  have n887 : τ 887 = none := a4
  have n889 : τ 889 = none := a5
  have n891 : τ 891 = none := a6
  have n899 : τ 899 = none := a7
  have n905 : τ 905 = none := a8
  have n930 : τ 930 = none := a9
  have n931 : τ 931 = none := a10
  have n932 : τ 932 = none := a11
  have n933 : τ 933 = none := a12
  have n934 : τ 934 = none := a13
  have n935 : τ 935 = none := a14
  have n936 : τ 936 = none := a15
  have n937 : τ 937 = none := a16
  have n938 : τ 938 = none := a17
  have n939 : τ 939 = none := a18
  have n910 : τ 910 = none := a19
  have n911 : τ 911 = none := a20
  have n912 : τ 912 = none := a21
  have n913 : τ 913 = none := a22
  have n914 : τ 914 = none := a23
  have n915 : τ 915 = none := a24
  have n940 : τ 940 = none := a25
  have n941 : τ 941 = none := a26
  have n942 : τ 942 = none := a27
  have n943 : τ 943 = none := a28
  have n944 : τ 944 = none := a29
  have n945 : τ 945 = none := a30
  have n946 : τ 946 = none := a31
  have n947 : τ 947 = none := a32
  have n948 : τ 948 = none := a33
  have n949 : τ 949 = none := a34
  have n950 : τ 950 = none := a35
  have n951 : τ 951 = none := a36
  have n952 : τ 952 = none := a37
  have n953 : τ 953 = none := a38
  have n954 : τ 954 = none := a39
  have n955 : τ 955 = none := a40
  have n956 : τ 956 = none := a41
  have n957 : τ 957 = none := a42
  have n958 : τ 958 = none := a43
  have n959 : τ 959 = none := a44
  have n960 : τ 960 = none := a45
  have n961 : τ 961 = none := a46
  have n962 : τ 962 = none := a47
  have n963 : τ 963 = none := a48
  have n964 : τ 964 = none := a49
  have n965 : τ 965 = none := a50
  have n966 : τ 966 = none := a51
  have n967 : τ 967 = none := a52
  have n968 : τ 968 = none := a53
  have n969 : τ 969 = none := a54
  have n970 : τ 970 = none := a55
  have n971 : τ 971 = none := a56
  have n972 : τ 972 = none := a57
  have n973 : τ 973 = none := a58
  have n974 : τ 974 = none := a59
  have n920 : τ 920 = none := a60
  have n921 : τ 921 = none := a61
  have n922 : τ 922 = none := a62
  have n923 : τ 923 = none := a63
  have n924 : τ 924 = none := a64
  have n925 : τ 925 = none := a65
  have n926 : τ 926 = none := a66
  have n927 : τ 927 = none := a67
  have n928 : τ 928 = none := a68
  have n929 : τ 929 = none := a69
  obtain ⟨⟨h_p1, h_p2, h_td⟩, k_b, k_q, k_c, k_d, k_l, k_k, k_e, k_t, k_n, k_j⟩ := hS
  have k_c0 := k_c
  obtain ⟨h_ga, h_in, h_ls, h_ld, h_w, h_rd, h_lead, h_ps, h_E, h_up, h_D, h_Z, h_s, h_sp⟩ := k_c0
  have qS : eGS m (wrM m 95 j x) := ⟨fun _ => rfl, fun _ => rfl, fun _ => rfl⟩
  have qL : eGL m (wrM m 95 j x) := fun _ => rfl
  have qK : eGK m (wrM m 95 j x) := ⟨fun _ => rfl, rfl⟩
  have qM : eGM m (wrM m 95 j x) := fun _ => rfl
  have qP : eGP m (wrM m 95 j x) := rfl
  have qC : eGC m (wrM m 95 j x) := fun _ => rfl
  have k_q := e_q qS qP k_q
  have k_d := e_d qS k_d
  have k_l := e_l qS qL k_l
  have k_k := e_k qS qK k_k
  have k_e := e_e qK qM k_e
  have k_t := e_t qK qP k_t
  have k_n := e_n qS k_n
  have k_j := e_j qS qC k_j
  exact ⟨⟨h_p1, h_p2, h_td⟩, k_b, k_q, ⟨(fun qa qb A I e0 e1 e2 e3 => by
      have e0 : g 9 = qa := Option.some.inj (t871.symm.trans e0)
      subst e0
      have e1 : g 10 = qb := Option.some.inj (t872.symm.trans e1)
      subst e1
      have e2 : g 7 = A := Option.some.inj (t880.symm.trans e2)
      subst e2
      have e3 : g 8 = I := Option.some.inj (t881.symm.trans e3)
      subst e3
      exact ⟨(h_ga _ _ _ _ t871 t872 t880 t881).1, fun e8 _ => no9 e8 t892⟩), h_in, h_ls, fun _ _ _ _ _ _ e0 e1 e2 e3 e4 e5 => no9 n899 e4, h_w, fun _ _ e0 e1 => no9 n886 e1, fun _ _ _ e0 e1 e2 => no9 n887 e1, fun _ _ _ _ e0 e1 e2 e3 => no9 n886 e1, fun _ _ _ e0 e1 e2 => no9 n886 e1, (fun qa qb A I w Y N U V e0 e1 e2 e3 e4 e5 e6 e7 e8 => by
      have e0 : g 9 = qa := Option.some.inj (t871.symm.trans e0)
      subst e0
      have e1 : g 10 = qb := Option.some.inj (t872.symm.trans e1)
      subst e1
      have e2 : g 7 = A := Option.some.inj (t880.symm.trans e2)
      subst e2
      have e3 : g 8 = I := Option.some.inj (t881.symm.trans e3)
      subst e3
      have e4 : g 2 = w := Option.some.inj (t883.symm.trans e4)
      subst e4
      have e5 : g 3 = Y := Option.some.inj (t892.symm.trans e5)
      subst e5
      have e6 : g 4 = N := Option.some.inj (t893.symm.trans e6)
      subst e6
      have e7 : g 5 = U := Option.some.inj (t894.symm.trans e7)
      subst e7
      have e8 : g 6 + 1 = V := Option.some.inj e8
      subst e8
      show UpG (wrM m 95 j x) (τ 896) (τ 897) (PfG (wrM m 95 j x) (g 9) (g 10) (g 7) (g 8)) (g 2) (g 3) (g 4) (g 5) (g 6 + 1)
      obtain ⟨q, d9, B9, ⟨u1, uN, uY, uU, uV⟩, ⟨u2, u3⟩, u4, u5, u6, ⟨u7, u8⟩, u9⟩ := (h_up _ _ _ _ _ _ _ _ _ t871 t872 t880 t881 t883 t892 t893 t894 t895)
      have ejp : jrp = j := by omega
      have eN : (g 4).toNat = 19 := by omega
      have hx : x = nbG (g 4).toNat q d9 B9 (bvG (g 2)) (g 3).toNat 19 j := by
        unfold nbG
        rw [if_pos eN.symm, ← u3 j (by omega), ← ejp, ← vrp]; omega
      rw [PfG_e qS]
      refine ⟨q, d9, B9, ⟨u1, uN, uY, uU, by omega⟩, ⟨u2, u3⟩, fun r c hr hc => ?_, u5, u6, ⟨u7, u8⟩, ?_⟩
      · have h5 := u4 r c hr hc
        rw [BGm_w (r0 := 19) rfl (by omega) r c hc (by omega)]
        by_cases e : r = 19 ∧ c = j
        · rw [if_pos (by omega), if_pos e, e.1, e.2]; exact hx
        · rw [if_neg e]
          by_cases e2 : (r : Int) < g 5 ∨ ((r : Int) = g 5 ∧ (c : Int) < g 6)
          · rw [if_pos e2] at h5; rw [if_pos (by omega)]; exact h5
          · rw [if_neg e2] at h5; rw [if_neg (by omega)]; exact h5
      · rcases u9 with q9 | q9 | q9
        · exact Or.inl q9
        · rw [n897] at q9; cases q9.1
        · rw [n897] at q9; cases q9.1), fun _ _ _ _ _ e0 e1 e2 e3 e4 => no9 n899 e4, fun _ _ _ e0 e1 e2 => no9 n882 e2, fun _ _ e0 e1 => no9 n882 e0, fun _ _ _ e0 e1 e2 => no9 n905 e0⟩, k_d, k_l, k_k, k_e, k_t, k_n, k_j⟩
end
