noncomputable section
/-! ===== THE GUARD, 89: rules ===== -/
def ru_sk : Ru := ([(0, (940, (0, (0, 0)))), (0, (941, (0, (0, 0)))), (0, (945, (0, (0, 0)))), (0, (946, (0, (0, 0)))), (0, (947, (0, (0, 0))))], ([948, 949, 952, 959, 960, 961], ([([(0, 1), (4, (-1))], 0), ([(3, (-1))], 0), ([(3, 1)], 19)], (false, ([], ([], ([(946, some (3, 1)), (947, none)], none)))))))
theorem rk_sk : RuOk SGd ru_sk := by
  intro τ m g hi hc ha hS
  obtain ⟨i0, i1, i2, i3, i4, _⟩ := hi
  have t940 : τ 940 = some (g 0) := i0
  have t941 : τ 941 = some (g 1) := i1
  have t945 : τ 945 = some (g 2) := i2
  have t946 : τ 946 = some (g 3) := i3
  have t947 : τ 947 = some (g 4) := i4
  obtain ⟨c0, c1, c2, _⟩ := hc
  have c0 : 1 * g 0 + (-1) * g 4 ≤ 0 := d2 c0
  have c1 : (-1) * g 3 ≤ 0 := d1 c1
  have c2 : 1 * g 3 ≤ 19 := d1 c2
  obtain ⟨a0, a1, a2, a3, a4, a5, _⟩ := ha
  have n948 : τ 948 = none := a0
  have n949 : τ 949 = none := a1
  have n952 : τ 952 = none := a2
  have n959 : τ 959 = none := a3
  have n960 : τ 960 = none := a4
  have n961 : τ 961 = none := a5
  obtain ⟨⟨h_p1, h_p2, h_td⟩, k_b, k_q, k_c, k_d, k_l, k_k, k_e, k_t, k_n, k_j⟩ := hS
  have k_e0 := k_e
  obtain ⟨h_en, h_ef, h_ew, h_er, h_ep, h_ez, h_es, h_ed, h_pw, h_pv, h_eb, h_ei, h_ek, h_rr⟩ := k_e0
  have h9 := h_er _ _ _ _ t940 t941 t945 t946
  have h1 := h_ep _ _ _ _ _ t940 t941 t945 t946 t947
  exact ⟨rfl, trivial, trivial, ⟨h_p1, h_p2, h_td⟩, k_b, k_q, k_c, k_d, k_l, k_k, ⟨h_en, h_ef, h_ew, (fun N9 s r j e0 e1 e2 e3 => by
      have e0 : g 0 = N9 := Option.some.inj (t940.symm.trans e0)
      subst e0
      have e1 : g 1 = s := Option.some.inj (t941.symm.trans e1)
      subst e1
      have e2 : g 2 = r := Option.some.inj (t945.symm.trans e2)
      subst e2
      have e3 : g 3 + 1 = j := Option.some.inj e3
      subst e3
      have ej : (g 3 + 1).toNat = (g 3).toNat + 1 := by omega
      rw [ej]
      refine ⟨by omega, fun _ _ => ⟨EL_skip (h9.2 n949 n961).1 (fun i hi hr => ?_), (h9.2 n949 n961).2⟩⟩
      rw [h1.2 n949 i hi (by omega) (by omega)]; exact Int.dvd_zero _), fun _ _ _ _ _ e0 e1 e2 e3 e4 => no9 (o := none) rfl e4, fun _ _ _ _ _ _ e0 e1 e2 e3 e4 e5 => no9 (o := none) rfl e4, fun _ _ _ _ _ _ _ e0 e1 e2 e3 e4 e5 e6 => no9 (o := none) rfl e4, fun _ _ _ _ _ e0 e1 e2 e3 e4 => no9 n952 e4, h_pw, h_pv, fun _ _ _ _ _ _ e0 e1 e2 e3 e4 e5 => no9 n952 e4, fun _ _ _ _ _ _ _ e0 e1 e2 e3 e4 e5 e6 => no9 n952 e4, fun _ _ _ _ _ _ _ _ _ e0 e1 e2 e3 e4 e5 e6 e7 e8 => no9 n952 e4, h_rr⟩, k_t, k_n, k_j⟩
def ru_sbv : Ru := ([(0, (940, (0, (0, 0)))), (0, (941, (0, (0, 0)))), (0, (945, (0, (0, 0)))), (0, (946, (0, (0, 0)))), (0, (947, (0, (0, 0)))), (0, (948, (0, (0, 0)))), (0, (949, (0, (0, 0)))), (13, (7, (0, (0, 0)))), (19, (203, (4, (20, 6))))], ([950, 951], ([([(7, 1), (8, (-1))], 0), ([(7, (-1)), (8, 1)], 0), ([(6, (-1))], 0), ([(6, 1)], 19)], (false, ([], ([], ([(950, some (7, 0))], none)))))))
theorem rk_sbv : RuOk SGd ru_sbv := by
  intro τ m g hi hc ha hS
  obtain ⟨i0, i1, i2, i3, i4, i5, i6, i7, i8, _⟩ := hi
  have t940 : τ 940 = some (g 0) := i0
  have t941 : τ 941 = some (g 1) := i1
  have t945 : τ 945 = some (g 2) := i2
  have t946 : τ 946 = some (g 3) := i3
  have t947 : τ 947 = some (g 4) := i4
  have t948 : τ 948 = some (g 5) := i5
  have t949 : τ 949 = some (g 6) := i6
  obtain ⟨jy, uy, vy⟩ : ∃ j : Nat, 20 * g 4 + g 6 = (j : Int) ∧ g 8 = m 203 j := i8
  obtain ⟨c0, c1, c2, c3, _⟩ := hc
  have c0 : 1 * g 7 + (-1) * g 8 ≤ 0 := d2 c0
  have c1 : (-1) * g 7 + 1 * g 8 ≤ 0 := d2 c1
  have c2 : (-1) * g 6 ≤ 0 := d1 c2
  have c3 : 1 * g 6 ≤ 19 := d1 c3
  obtain ⟨a0, a1, _⟩ := ha
  have n950 : τ 950 = none := a0
  have n951 : τ 951 = none := a1
  obtain ⟨⟨h_p1, h_p2, h_td⟩, k_b, k_q, k_c, k_d, k_l, k_k, k_e, k_t, k_n, k_j⟩ := hS
  have k_e0 := k_e
  obtain ⟨h_en, h_ef, h_ew, h_er, h_ep, h_ez, h_es, h_ed, h_pw, h_pv, h_eb, h_ei, h_ek, h_rr⟩ := k_e0
  have ejy : jy = 20 * (g 4).toNat + (g 6).toNat := by omega
  subst ejy
  have hMy : MmG m (g 4).toNat (g 6).toNat = m 203 (20 * (g 4).toNat + (g 6).toNat) := by unfold MmG; rw [if_pos (by omega)]
  obtain ⟨hk, hsw⟩ := h_es _ _ _ _ _ _ _ t940 t941 t945 t946 t947 t948 t949
  rw [n951] at hsw
  rcases hsw with ⟨_, hsw, hsv⟩ | ⟨hsw, _⟩
  case inr => exact absurd rfl hsw
  exact ⟨rfl, trivial, trivial, ⟨h_p1, h_p2, h_td⟩, k_b, k_q, k_c, k_d, k_l, k_k, ⟨h_en, h_ef, h_ew, h_er, h_ep, h_ez, (fun N9 s r j p z9 k e0 e1 e2 e3 e4 e5 e6 => by
      have e0 : g 0 = N9 := Option.some.inj (t940.symm.trans e0)
      subst e0
      have e1 : g 1 = s := Option.some.inj (t941.symm.trans e1)
      subst e1
      have e2 : g 2 = r := Option.some.inj (t945.symm.trans e2)
      subst e2
      have e3 : g 3 = j := Option.some.inj (t946.symm.trans e3)
      subst e3
      have e4 : g 4 = p := Option.some.inj (t947.symm.trans e4)
      subst e4
      have e5 : g 5 = z9 := Option.some.inj (t948.symm.trans e5)
      subst e5
      have e6 : g 6 = k := Option.some.inj (t949.symm.trans e6)
      subst e6
      refine ⟨hk, ?_⟩
      show SwG m (some (g 7 + 0)) (τ 951) _ _ _ _ _ _
      rw [n951]
      refine Or.inl ⟨rfl, hsw, fun v ev => ?_⟩
      have ev := Option.some.inj ev
      exact ⟨by omega, by rw [hMy]; omega⟩), h_ed, h_pw, h_pv, h_eb, h_ei, h_ek, h_rr⟩, k_t, k_n, k_j⟩
def ru_sd : Ru := ([(0, (940, (0, (0, 0)))), (0, (941, (0, (0, 0)))), (0, (945, (0, (0, 0)))), (0, (946, (0, (0, 0)))), (0, (947, (0, (0, 0)))), (0, (948, (0, (0, 0)))), (0, (949, (0, (0, 0)))), (4, (0, (0, (0, 0))))], ([950, 951, 952, 959, 960, 961], ([([(6, (-1))], (-20))], (false, ([], ([], ([(952, some (7, 0)), (947, none), (948, none), (949, none)], none)))))))
theorem rk_sd : RuOk SGd ru_sd := by
  intro τ m g hi hc ha hS
  obtain ⟨i0, i1, i2, i3, i4, i5, i6, i7, _⟩ := hi
  have t940 : τ 940 = some (g 0) := i0
  have t941 : τ 941 = some (g 1) := i1
  have t945 : τ 945 = some (g 2) := i2
  have t946 : τ 946 = some (g 3) := i3
  have t947 : τ 947 = some (g 4) := i4
  have t948 : τ 948 = some (g 5) := i5
  have t949 : τ 949 = some (g 6) := i6
  have xzero : g 7 = 0 := i7
  obtain ⟨c0, _⟩ := hc
  have c0 : (-1) * g 6 ≤ (-20) := d1 c0
  obtain ⟨a0, a1, a2, a3, a4, a5, _⟩ := ha
  have n950 : τ 950 = none := a0
  have n951 : τ 951 = none := a1
  have n952 : τ 952 = none := a2
  have n959 : τ 959 = none := a3
  have n960 : τ 960 = none := a4
  have n961 : τ 961 = none := a5
  obtain ⟨⟨h_p1, h_p2, h_td⟩, k_b, k_q, k_c, k_d, k_l, k_k, k_e, k_t, k_n, k_j⟩ := hS
  have k_e0 := k_e
  obtain ⟨h_en, h_ef, h_ew, h_er, h_ep, h_ez, h_es, h_ed, h_pw, h_pv, h_eb, h_ei, h_ek, h_rr⟩ := k_e0
  have h9 := h_er _ _ _ _ t940 t941 t945 t946
  obtain ⟨hk, hsw⟩ := h_es _ _ _ _ _ _ _ t940 t941 t945 t946 t947 t948 t949
  rw [n951] at hsw
  rcases hsw with ⟨_, hsw, hsv⟩ | ⟨hsw, _⟩
  case inr => exact absurd rfl hsw
  have h1 := h_ep _ _ _ _ _ t940 t941 t945 t946 t947
  have h2 := h_ez _ _ _ _ _ _ t940 t941 t945 t946 t947 t948
  have hse := SW_end hsw (by omega) (fun i c hc => by unfold MmG; rw [if_neg (by omega)]) (by omega) (by omega) (by omega)
  exact ⟨rfl, trivial, trivial, ⟨h_p1, h_p2, h_td⟩, k_b, k_q, k_c, k_d, k_l, k_k, ⟨h_en, h_ef, h_ew, (fun N9 s r j e0 e1 e2 e3 => by
      have e0 : g 0 = N9 := Option.some.inj (t940.symm.trans e0)
      subst e0
      have e1 : g 1 = s := Option.some.inj (t941.symm.trans e1)
      subst e1
      have e2 : g 2 = r := Option.some.inj (t945.symm.trans e2)
      subst e2
      have e3 : g 3 = j := Option.some.inj (t946.symm.trans e3)
      subst e3
      exact ⟨h9.1, fun _ _ => hse.1⟩), fun _ _ _ _ _ e0 e1 e2 e3 e4 => no9 (o := none) rfl e4, fun _ _ _ _ _ _ e0 e1 e2 e3 e4 e5 => no9 (o := none) rfl e4, fun _ _ _ _ _ _ _ e0 e1 e2 e3 e4 e5 e6 => no9 (o := none) rfl e4, (fun N9 s r j d9 e0 e1 e2 e3 e4 => by
      have e0 : g 0 = N9 := Option.some.inj (t940.symm.trans e0)
      subst e0
      have e1 : g 1 = s := Option.some.inj (t941.symm.trans e1)
      subst e1
      have e2 : g 2 = r := Option.some.inj (t945.symm.trans e2)
      subst e2
      have e3 : g 3 = j := Option.some.inj (t946.symm.trans e3)
      subst e3
      have e4 : g 7 + 0 = d9 := Option.some.inj e4
      subst e4
      exact ⟨by omega, fun _ => hse.2⟩), h_pw, h_pv, fun _ _ _ _ _ _ e0 e1 e2 e3 e4 e5 => no9 n959 e5, fun _ _ _ _ _ _ _ e0 e1 e2 e3 e4 e5 e6 => no9 n959 e5, fun _ _ _ _ _ _ _ _ _ e0 e1 e2 e3 e4 e5 e6 e7 e8 => no9 n959 e5, h_rr⟩, k_t, k_n, k_j⟩
def ru_edb : Ru := ([(0, (940, (0, (0, 0)))), (0, (941, (0, (0, 0)))), (0, (945, (0, (0, 0)))), (0, (946, (0, (0, 0)))), (0, (952, (0, (0, 0)))), (19, (203, (2, (20, 3))))], ([949, 960, 961], ([([(3, (-1))], 0), ([(3, 1)], 19)], (false, ([([(5, (-1))], (-1)), ([(5, 1)], 2147483646)], ([], ([], none)))))))
theorem rk_edb : RuOk SGd ru_edb := by
  intro τ m g hi hc ha hS
  obtain ⟨i0, i1, i2, i3, i4, i5, _⟩ := hi
  have t940 : τ 940 = some (g 0) := i0
  have t941 : τ 941 = some (g 1) := i1
  have t945 : τ 945 = some (g 2) := i2
  have t946 : τ 946 = some (g 3) := i3
  have t952 : τ 952 = some (g 4) := i4
  obtain ⟨jy, uy, vy⟩ : ∃ j : Nat, 20 * g 2 + g 3 = (j : Int) ∧ g 5 = m 203 j := i5
  obtain ⟨c0, c1, _⟩ := hc
  have c0 : (-1) * g 3 ≤ 0 := d1 c0
  have c1 : 1 * g 3 ≤ 19 := d1 c1
  obtain ⟨a0, a1, a2, _⟩ := ha
  have n949 : τ 949 = none := a0
  have n960 : τ 960 = none := a1
  have n961 : τ 961 = none := a2
  obtain ⟨⟨h_p1, h_p2, h_td⟩, k_b, k_q, k_c, k_d, k_l, k_k, k_e, k_t, k_n, k_j⟩ := hS
  have k_e0 := k_e
  obtain ⟨h_en, h_ef, h_ew, h_er, h_ep, h_ez, h_es, h_ed, h_pw, h_pv, h_eb, h_ei, h_ek, h_rr⟩ := k_e0
  have h9 := h_er _ _ _ _ t940 t941 t945 t946
  have ejy : jy = 20 * (g 2).toNat + (g 3).toNat := by omega
  subst ejy
  have hMy : MmG m (g 2).toNat (g 3).toNat = m 203 (20 * (g 2).toNat + (g 3).toNat) := by unfold MmG; rw [if_pos (by omega)]
  have h1 := h_ed _ _ _ _ _ t940 t941 t945 t946 t952
  have hb9 := (h9.2 n949 n961).2 (g 2).toNat (g 3).toNat (by omega) (by omega)
  have hn := h1.2 n961
  rw [hMy] at hb9 hn
  simp only [pG] at hb9
  have hz : g 5 ≠ 0 := fun e => hn (by rw [← vy, e]; exact Int.dvd_zero _)
  exact ⟨rfl, ⟨f1 (by omega), f1 (by omega), trivial⟩, trivial, ⟨h_p1, h_p2, h_td⟩, k_b, k_q, k_c, k_d, k_l, k_k, k_e, k_t, k_n, k_j⟩
def ru_p0 : Ru := ([(13, (0, (0, (0, 0)))), (13, (4, (0, (0, 0)))), (13, (6, (0, (0, 0)))), (13, (8, (0, (0, 0))))], ([953, 954, 955, 956, 957], ([([(1, 1)], 1), ([(1, (-1))], (-1)), ([(0, (-1)), (2, 1)], 0), ([(0, 1), (2, (-1))], 0), ([(3, 1)], 2147483645), ([(3, (-1))], (-2147483645)), ([(0, (-1))], (-1)), ([(0, 1)], 2147483646)], (false, ([], ([], ([(953, some (0, 0)), (954, some (1, 0)), (955, some (2, 0)), (956, some (3, 0))], none)))))))
theorem rk_p0 : RuOk SGd ru_p0 := by
  intro τ m g hi hc ha hS
  obtain ⟨i0, i1, i2, i3, _⟩ := hi
  obtain ⟨c0, c1, c2, c3, c4, c5, c6, c7, _⟩ := hc
  have c0 : 1 * g 1 ≤ 1 := d1 c0
  have c1 : (-1) * g 1 ≤ (-1) := d1 c1
  have c2 : (-1) * g 0 + 1 * g 2 ≤ 0 := d2 c2
  have c3 : 1 * g 0 + (-1) * g 2 ≤ 0 := d2 c3
  have c4 : 1 * g 3 ≤ 2147483645 := d1 c4
  have c5 : (-1) * g 3 ≤ (-2147483645) := d1 c5
  have c6 : (-1) * g 0 ≤ (-1) := d1 c6
  have c7 : 1 * g 0 ≤ 2147483646 := d1 c7
  obtain ⟨a0, a1, a2, a3, a4, _⟩ := ha
  have n953 : τ 953 = none := a0
  have n954 : τ 954 = none := a1
  have n955 : τ 955 = none := a2
  have n956 : τ 956 = none := a3
  have n957 : τ 957 = none := a4
  obtain ⟨⟨h_p1, h_p2, h_td⟩, k_b, k_q, k_c, k_d, k_l, k_k, k_e, k_t, k_n, k_j⟩ := hS
  have k_e0 := k_e
  obtain ⟨h_en, h_ef, h_ew, h_er, h_ep, h_ez, h_es, h_ed, h_pw, h_pv, h_eb, h_ei, h_ek, h_rr⟩ := k_e0
  exact ⟨rfl, trivial, trivial, ⟨h_p1, h_p2, h_td⟩, k_b, k_q, k_c, k_d, k_l, k_k, ⟨h_en, h_ef, h_ew, h_er, h_ep, h_ez, h_es, h_ed, (fun x rr b k e0 e1 e2 e3 => by
      have e0 : g 0 + 0 = x := Option.some.inj e0
      subst e0
      have e1 : g 1 + 0 = rr := Option.some.inj e1
      subst e1
      have e2 : g 2 + 0 = b := Option.some.inj e2
      subst e2
      have e3 : g 3 + 0 = k := Option.some.inj e3
      subst e3
      have er : g 1 + 0 = 1 := by omega
      have eb : g 2 + 0 = g 0 + 0 := by omega
      rw [er, eb]
      simp only [pG]
      exact ⟨by omega, by omega, by omega, by omega, Pw_zero _ _ (by omega)⟩), h_pv, h_eb, h_ei, h_ek, h_rr⟩, k_t, k_n, k_j⟩
def ru_po : Ru := ([(0, (953, (0, (0, 0)))), (0, (954, (0, (0, 0)))), (0, (955, (0, (0, 0)))), (0, (956, (0, (0, 0)))), (0, (850, (0, (0, 0)))), (0, (851, (0, (0, 0)))), (0, (852, (0, (0, 0)))), (0, (859, (0, (0, 0)))), (0, (860, (0, (0, 0)))), (0, (861, (0, (0, 0)))), (0, (853, (0, (0, 0)))), (0, (854, (0, (0, 0)))), (0, (855, (0, (0, 0)))), (0, (865, (0, (0, 0)))), (0, (866, (0, (0, 0)))), (0, (867, (0, (0, 0)))), (13, (8, (0, (0, 0)))), (13, (4, (0, (0, 0)))), (13, (6, (0, (0, 0))))], ([], ([([(1, (-1)), (4, 1)], 0), ([(1, 1), (4, (-1))], 0), ([(2, (-1)), (5, 1)], 0), ([(2, 1), (5, (-1))], 0), ([(6, (-1)), (7, 1)], 0), ([(6, 1), (7, (-1))], 0), ([(8, 1)], 2147483647), ([(8, (-1))], (-2147483647)), ([(2, (-1)), (10, 1)], 0), ([(2, 1), (10, (-1))], 0), ([(2, (-1)), (11, 1)], 0), ([(2, 1), (11, (-1))], 0), ([(12, (-1)), (13, 1)], 0), ([(12, 1), (13, (-1))], 0), ([(14, 1)], 2147483647), ([(14, (-1))], (-2147483647)), ([(9, (-1)), (17, 1)], 0), ([(9, 1), (17, (-1))], 0), ([(15, (-1)), (18, 1)], 0), ([(15, 1), (18, (-1))], 0), ([(3, 1), (16, (-2))], 1), ([(3, (-1)), (16, 2)], (-1)), ([(16, (-1))], 0)], (false, ([], ([], ([(954, some (17, 0)), (955, some (18, 0)), (956, some (16, 0)), (850, none), (851, none), (852, none), (853, none), (854, none), (855, none), (859, none), (860, none), (861, none), (865, none), (866, none), (867, none)], none)))))))
theorem rk_po : RuOk SGd ru_po := by
  intro τ m g hi hc ha hS
  obtain ⟨i0, i1, i2, i3, i4, i5, i6, i7, i8, i9, i10, i11, i12, i13, i14, i15, i16, i17, i18, _⟩ := hi
  have t953 : τ 953 = some (g 0) := i0
  have t954 : τ 954 = some (g 1) := i1
  have t955 : τ 955 = some (g 2) := i2
  have t956 : τ 956 = some (g 3) := i3
  have t850 : τ 850 = some (g 4) := i4
  have t851 : τ 851 = some (g 5) := i5
  have t852 : τ 852 = some (g 6) := i6
  have t859 : τ 859 = some (g 7) := i7
  have t860 : τ 860 = some (g 8) := i8
  have t861 : τ 861 = some (g 9) := i9
  have t853 : τ 853 = some (g 10) := i10
  have t854 : τ 854 = some (g 11) := i11
  have t855 : τ 855 = some (g 12) := i12
  have t865 : τ 865 = some (g 13) := i13
  have t866 : τ 866 = some (g 14) := i14
  have t867 : τ 867 = some (g 15) := i15
  obtain ⟨c0, c1, c2, c3, c4, c5, c6, c7, c8, c9, c10, c11, c12, c13, c14, c15, c16, c17, c18, c19, c20, c21, c22, _⟩ := hc
  have c0 : (-1) * g 1 + 1 * g 4 ≤ 0 := d2 c0
  have c1 : 1 * g 1 + (-1) * g 4 ≤ 0 := d2 c1
  have c2 : (-1) * g 2 + 1 * g 5 ≤ 0 := d2 c2
  have c3 : 1 * g 2 + (-1) * g 5 ≤ 0 := d2 c3
  have c4 : (-1) * g 6 + 1 * g 7 ≤ 0 := d2 c4
  have c5 : 1 * g 6 + (-1) * g 7 ≤ 0 := d2 c5
  have c6 : 1 * g 8 ≤ 2147483647 := d1 c6
  have c7 : (-1) * g 8 ≤ (-2147483647) := d1 c7
  have c8 : (-1) * g 2 + 1 * g 10 ≤ 0 := d2 c8
  have c9 : 1 * g 2 + (-1) * g 10 ≤ 0 := d2 c9
  have c10 : (-1) * g 2 + 1 * g 11 ≤ 0 := d2 c10
  have c11 : 1 * g 2 + (-1) * g 11 ≤ 0 := d2 c11
  have c12 : (-1) * g 12 + 1 * g 13 ≤ 0 := d2 c12
  have c13 : 1 * g 12 + (-1) * g 13 ≤ 0 := d2 c13
  have c14 : 1 * g 14 ≤ 2147483647 := d1 c14
  have c15 : (-1) * g 14 ≤ (-2147483647) := d1 c15
  have c16 : (-1) * g 9 + 1 * g 17 ≤ 0 := d2 c16
  have c17 : 1 * g 9 + (-1) * g 17 ≤ 0 := d2 c17
  have c18 : (-1) * g 15 + 1 * g 18 ≤ 0 := d2 c18
  have c19 : 1 * g 15 + (-1) * g 18 ≤ 0 := d2 c19
  have c20 : 1 * g 3 + (-2) * g 16 ≤ 1 := d2 c20
  have c21 : (-1) * g 3 + 2 * g 16 ≤ (-1) := d2 c21
  have c22 : (-1) * g 16 ≤ 0 := d1 c22
  obtain ⟨⟨h_p1, h_p2, h_td⟩, k_b, k_q, k_c, k_d, k_l, k_k, k_e, k_t, k_n, k_j⟩ := hS
  have k_e0 := k_e
  obtain ⟨h_en, h_ef, h_ew, h_er, h_ep, h_ez, h_es, h_ed, h_pw, h_pv, h_eb, h_ei, h_ek, h_rr⟩ := k_e0
  have k_b0 := k_b
  obtain ⟨h_bit, h_one, h_or, h_and, h_shr, h_m1, h_m2, h_dv, h_r1, h_r2, h_nz⟩ := k_b0
  exact ⟨rfl, trivial, trivial, ⟨h_p1, h_p2, h_td⟩, ⟨h_bit, h_one, h_or, h_and, h_shr, fun _ _ _ e0 e1 e2 => no9 (o := none) rfl e0, fun _ _ _ e0 e1 e2 => no9 (o := none) rfl e0, h_dv, fun _ _ _ e0 e1 e2 => no9 (o := none) rfl e0, fun _ _ _ e0 e1 e2 => no9 (o := none) rfl e0, h_nz⟩, k_q, k_c, k_d, k_l, k_k, ⟨h_en, h_ef, h_ew, h_er, h_ep, h_ez, h_es, h_ed, (fun x rr b k e0 e1 e2 e3 => by
      have e0 : g 0 = x := Option.some.inj (t953.symm.trans e0)
      subst e0
      have e1 : g 17 + 0 = rr := Option.some.inj e1
      subst e1
      have e2 : g 18 + 0 = b := Option.some.inj e2
      subst e2
      have e3 : g 16 + 0 = k := Option.some.inj e3
      subst e3
      have h1 := h_pw _ _ _ _ t953 t954 t955 t956
      have a2 := h_m2 _ _ _ t853 t854 t855
      have a4 := h_r2 _ _ _ t865 t866 t867
      have a1 := h_m1 _ _ _ t850 t851 t852
      have a3 := h_r1 _ _ _ t859 t860 t861
      have hb : g 18 + 0 = (g 2 * g 2) % pG := by
        rw [(show g 18 + 0 = g 15 by omega), a4, (show g 14 = pG by simp only [pG]; omega), (show g 13 = g 12 by omega), a2, (show g 10 = g 2 by omega), (show g 11 = g 2 by omega)]
      have hbb := Int.emod_nonneg (g 2 * g 2) (show pG ≠ 0 by decide)
      have hbl := Int.emod_lt_of_pos (g 2 * g 2) (show (0 : Int) < pG by decide)
      have hr : g 17 + 0 = (g 1 * g 2) % pG := by
        rw [(show g 17 + 0 = g 9 by omega), a3, (show g 8 = pG by simp only [pG]; omega), (show g 7 = g 6 by omega), a1, (show g 4 = g 1 by omega), (show g 5 = g 2 by omega)]
      have hrr := Int.emod_nonneg (g 1 * g 2) (show pG ≠ 0 by decide)
      have hrl := Int.emod_lt_of_pos (g 1 * g 2) (show (0 : Int) < pG by decide)
      have ek : (g 3).toNat = 2 * (g 16 + 0).toNat + 1 := by omega
      rw [ek] at h1
      exact ⟨h1.1, by rw [hr]; exact ⟨hrr, hrl⟩, by rw [hb]; exact ⟨hbb, hbl⟩, by omega, Pw_odd h1.2.2.2.2 hr hb⟩), h_pv, h_eb, h_ei, h_ek, h_rr⟩, k_t, k_n, k_j⟩
def ru_pe : Ru := ([(0, (953, (0, (0, 0)))), (0, (954, (0, (0, 0)))), (0, (955, (0, (0, 0)))), (0, (956, (0, (0, 0)))), (0, (853, (0, (0, 0)))), (0, (854, (0, (0, 0)))), (0, (855, (0, (0, 0)))), (0, (865, (0, (0, 0)))), (0, (866, (0, (0, 0)))), (0, (867, (0, (0, 0)))), (13, (8, (0, (0, 0)))), (13, (4, (0, (0, 0)))), (13, (6, (0, (0, 0))))], ([850, 859], ([([(2, (-1)), (4, 1)], 0), ([(2, 1), (4, (-1))], 0), ([(2, (-1)), (5, 1)], 0), ([(2, 1), (5, (-1))], 0), ([(6, (-1)), (7, 1)], 0), ([(6, 1), (7, (-1))], 0), ([(8, 1)], 2147483647), ([(8, (-1))], (-2147483647)), ([(1, (-1)), (11, 1)], 0), ([(1, 1), (11, (-1))], 0), ([(9, (-1)), (12, 1)], 0), ([(9, 1), (12, (-1))], 0), ([(3, 1), (10, (-2))], 0), ([(3, (-1)), (10, 2)], 0), ([(10, (-1))], 0)], (false, ([], ([], ([(955, some (12, 0)), (956, some (10, 0)), (853, none), (854, none), (855, none), (865, none), (866, none), (867, none)], none)))))))
theorem rk_pe : RuOk SGd ru_pe := by
  intro τ m g hi hc ha hS
  obtain ⟨i0, i1, i2, i3, i4, i5, i6, i7, i8, i9, i10, i11, i12, _⟩ := hi
  have t953 : τ 953 = some (g 0) := i0
  have t954 : τ 954 = some (g 1) := i1
  have t955 : τ 955 = some (g 2) := i2
  have t956 : τ 956 = some (g 3) := i3
  have t853 : τ 853 = some (g 4) := i4
  have t854 : τ 854 = some (g 5) := i5
  have t855 : τ 855 = some (g 6) := i6
  have t865 : τ 865 = some (g 7) := i7
  have t866 : τ 866 = some (g 8) := i8
  have t867 : τ 867 = some (g 9) := i9
  obtain ⟨c0, c1, c2, c3, c4, c5, c6, c7, c8, c9, c10, c11, c12, c13, c14, _⟩ := hc
  have c0 : (-1) * g 2 + 1 * g 4 ≤ 0 := d2 c0
  have c1 : 1 * g 2 + (-1) * g 4 ≤ 0 := d2 c1
  have c2 : (-1) * g 2 + 1 * g 5 ≤ 0 := d2 c2
  have c3 : 1 * g 2 + (-1) * g 5 ≤ 0 := d2 c3
  have c4 : (-1) * g 6 + 1 * g 7 ≤ 0 := d2 c4
  have c5 : 1 * g 6 + (-1) * g 7 ≤ 0 := d2 c5
  have c6 : 1 * g 8 ≤ 2147483647 := d1 c6
  have c7 : (-1) * g 8 ≤ (-2147483647) := d1 c7
  have c8 : (-1) * g 1 + 1 * g 11 ≤ 0 := d2 c8
  have c9 : 1 * g 1 + (-1) * g 11 ≤ 0 := d2 c9
  have c10 : (-1) * g 9 + 1 * g 12 ≤ 0 := d2 c10
  have c11 : 1 * g 9 + (-1) * g 12 ≤ 0 := d2 c11
  have c12 : 1 * g 3 + (-2) * g 10 ≤ 0 := d2 c12
  have c13 : (-1) * g 3 + 2 * g 10 ≤ 0 := d2 c13
  have c14 : (-1) * g 10 ≤ 0 := d1 c14
  obtain ⟨a0, a1, _⟩ := ha
  have n850 : τ 850 = none := a0
  have n859 : τ 859 = none := a1
  obtain ⟨⟨h_p1, h_p2, h_td⟩, k_b, k_q, k_c, k_d, k_l, k_k, k_e, k_t, k_n, k_j⟩ := hS
  have k_e0 := k_e
  obtain ⟨h_en, h_ef, h_ew, h_er, h_ep, h_ez, h_es, h_ed, h_pw, h_pv, h_eb, h_ei, h_ek, h_rr⟩ := k_e0
  have k_b0 := k_b
  obtain ⟨h_bit, h_one, h_or, h_and, h_shr, h_m1, h_m2, h_dv, h_r1, h_r2, h_nz⟩ := k_b0
  exact ⟨rfl, trivial, trivial, ⟨h_p1, h_p2, h_td⟩, ⟨h_bit, h_one, h_or, h_and, h_shr, h_m1, fun _ _ _ e0 e1 e2 => no9 (o := none) rfl e0, h_dv, h_r1, fun _ _ _ e0 e1 e2 => no9 (o := none) rfl e0, h_nz⟩, k_q, k_c, k_d, k_l, k_k, ⟨h_en, h_ef, h_ew, h_er, h_ep, h_ez, h_es, h_ed, (fun x rr b k e0 e1 e2 e3 => by
      have e0 : g 0 = x := Option.some.inj (t953.symm.trans e0)
      subst e0
      have e1 : g 1 = rr := Option.some.inj (t954.symm.trans e1)
      subst e1
      have e2 : g 12 + 0 = b := Option.some.inj e2
      subst e2
      have e3 : g 10 + 0 = k := Option.some.inj e3
      subst e3
      have h1 := h_pw _ _ _ _ t953 t954 t955 t956
      have a2 := h_m2 _ _ _ t853 t854 t855
      have a4 := h_r2 _ _ _ t865 t866 t867
      have hb : g 12 + 0 = (g 2 * g 2) % pG := by
        rw [(show g 12 + 0 = g 9 by omega), a4, (show g 8 = pG by simp only [pG]; omega), (show g 7 = g 6 by omega), a2, (show g 4 = g 2 by omega), (show g 5 = g 2 by omega)]
      have hbb := Int.emod_nonneg (g 2 * g 2) (show pG ≠ 0 by decide)
      have hbl := Int.emod_lt_of_pos (g 2 * g 2) (show (0 : Int) < pG by decide)
      have ek : (g 3).toNat = 2 * (g 10 + 0).toNat := by omega
      rw [ek] at h1
      exact ⟨h1.1, h1.2.1, by rw [hb]; exact ⟨hbb, hbl⟩, by omega, Pw_even h1.2.2.2.2 hb⟩), h_pv, h_eb, h_ei, h_ek, h_rr⟩, k_t, k_n, k_j⟩
def ru_px : Ru := ([(0, (953, (0, (0, 0)))), (0, (954, (0, (0, 0)))), (0, (955, (0, (0, 0)))), (0, (956, (0, (0, 0))))], ([957, 958], ([([(3, 1)], 0), ([(3, (-1))], 0)], (false, ([], ([], ([(957, some (0, 0)), (958, some (1, 0)), (953, none), (954, none), (955, none), (956, none)], none)))))))
theorem rk_px : RuOk SGd ru_px := by
  intro τ m g hi hc ha hS
  obtain ⟨i0, i1, i2, i3, _⟩ := hi
  have t953 : τ 953 = some (g 0) := i0
  have t954 : τ 954 = some (g 1) := i1
  have t955 : τ 955 = some (g 2) := i2
  have t956 : τ 956 = some (g 3) := i3
  obtain ⟨c0, c1, _⟩ := hc
  have c0 : 1 * g 3 ≤ 0 := d1 c0
  have c1 : (-1) * g 3 ≤ 0 := d1 c1
  obtain ⟨a0, a1, _⟩ := ha
  have n957 : τ 957 = none := a0
  have n958 : τ 958 = none := a1
  obtain ⟨⟨h_p1, h_p2, h_td⟩, k_b, k_q, k_c, k_d, k_l, k_k, k_e, k_t, k_n, k_j⟩ := hS
  have k_e0 := k_e
  obtain ⟨h_en, h_ef, h_ew, h_er, h_ep, h_ez, h_es, h_ed, h_pw, h_pv, h_eb, h_ei, h_ek, h_rr⟩ := k_e0
  exact ⟨rfl, trivial, trivial, ⟨h_p1, h_p2, h_td⟩, k_b, k_q, k_c, k_d, k_l, k_k, ⟨h_en, h_ef, h_ew, h_er, h_ep, h_ez, h_es, h_ed, fun _ _ _ _ e0 e1 e2 e3 => no9 (o := none) rfl e0, (fun x v e0 e1 => by
      have e0 : g 0 + 0 = x := Option.some.inj e0
      subst e0
      have e1 : g 1 + 0 = v := Option.some.inj e1
      subst e1
      have h1 := h_pw _ _ _ _ t953 t954 t955 t956
      have ek : (g 3).toNat = 0 := by omega
      have ex : g 0 + 0 = g 0 := by omega
      have er : g 1 + 0 = g 1 := by omega
      rw [ek] at h1
      rw [ex, er]
      exact ⟨h1.2.1, fun q => Pw_inv h1.2.2.2.2 (by omega) q⟩), h_eb, h_ei, h_ek, h_rr⟩, k_t, k_n, k_j⟩
def ru_eb : Ru := ([(0, (940, (0, (0, 0)))), (0, (941, (0, (0, 0)))), (0, (945, (0, (0, 0)))), (0, (946, (0, (0, 0)))), (0, (952, (0, (0, 0)))), (0, (957, (0, (0, 0)))), (0, (958, (0, (0, 0)))), (19, (203, (2, (20, 3)))), (13, (6, (0, (0, 0))))], ([959, 960, 961], ([([(5, 1), (7, (-1))], 0), ([(5, (-1)), (7, 1)], 0), ([(6, (-1)), (8, 1)], 0), ([(6, 1), (8, (-1))], 0), ([(3, (-1))], 0), ([(3, 1)], 19)], (false, ([], ([], ([(959, some (8, 0)), (960, some (2, 1)), (957, none), (958, none)], none)))))))
theorem rk_eb : RuOk SGd ru_eb := by
  intro τ m g hi hc ha hS
  obtain ⟨i0, i1, i2, i3, i4, i5, i6, i7, i8, _⟩ := hi
  have t940 : τ 940 = some (g 0) := i0
  have t941 : τ 941 = some (g 1) := i1
  have t945 : τ 945 = some (g 2) := i2
  have t946 : τ 946 = some (g 3) := i3
  have t952 : τ 952 = some (g 4) := i4
  have t957 : τ 957 = some (g 5) := i5
  have t958 : τ 958 = some (g 6) := i6
  obtain ⟨jy, uy, vy⟩ : ∃ j : Nat, 20 * g 2 + g 3 = (j : Int) ∧ g 7 = m 203 j := i7
  obtain ⟨c0, c1, c2, c3, c4, c5, _⟩ := hc
  have c0 : 1 * g 5 + (-1) * g 7 ≤ 0 := d2 c0
  have c1 : (-1) * g 5 + 1 * g 7 ≤ 0 := d2 c1
  have c2 : (-1) * g 6 + 1 * g 8 ≤ 0 := d2 c2
  have c3 : 1 * g 6 + (-1) * g 8 ≤ 0 := d2 c3
  have c4 : (-1) * g 3 ≤ 0 := d1 c4
  have c5 : 1 * g 3 ≤ 19 := d1 c5
  obtain ⟨a0, a1, a2, _⟩ := ha
  have n959 : τ 959 = none := a0
  have n960 : τ 960 = none := a1
  have n961 : τ 961 = none := a2
  obtain ⟨⟨h_p1, h_p2, h_td⟩, k_b, k_q, k_c, k_d, k_l, k_k, k_e, k_t, k_n, k_j⟩ := hS
  have k_e0 := k_e
  obtain ⟨h_en, h_ef, h_ew, h_er, h_ep, h_ez, h_es, h_ed, h_pw, h_pv, h_eb, h_ei, h_ek, h_rr⟩ := k_e0
  have ejy : jy = 20 * (g 2).toNat + (g 3).toNat := by omega
  subst ejy
  have hMy : MmG m (g 2).toNat (g 3).toNat = m 203 (20 * (g 2).toNat + (g 3).toNat) := by unfold MmG; rw [if_pos (by omega)]
  have h1 := h_ed _ _ _ _ _ t940 t941 t945 t946 t952
  have h2 := h_pv _ _ t957 t958
  exact ⟨rfl, trivial, trivial, ⟨h_p1, h_p2, h_td⟩, k_b, k_q, k_c, k_d, k_l, k_k, ⟨h_en, h_ef, h_ew, h_er, h_ep, h_ez, h_es, h_ed, h_pw, fun _ _ e0 e1 => no9 (o := none) rfl e0, (fun N9 s r j d9 B e0 e1 e2 e3 e4 e5 => by
      have e0 : g 0 = N9 := Option.some.inj (t940.symm.trans e0)
      subst e0
      have e1 : g 1 = s := Option.some.inj (t941.symm.trans e1)
      subst e1
      have e2 : g 2 = r := Option.some.inj (t945.symm.trans e2)
      subst e2
      have e3 : g 3 = j := Option.some.inj (t946.symm.trans e3)
      subst e3
      have e4 : g 4 = d9 := Option.some.inj (t952.symm.trans e4)
      subst e4
      have e5 : g 8 + 0 = B := Option.some.inj e5
      subst e5
      have eb : g 8 + 0 = g 6 := by omega
      rw [eb]
      refine ⟨h2.1, fun _ => ?_⟩
      have h3 := h1.2 n961
      rw [hMy, ← vy, ← (show g 5 = g 7 by omega)] at h3 ⊢
      exact h2.2 h3), (fun N9 s r j d9 B i e0 e1 e2 e3 e4 e5 e6 => by
      have e0 : g 0 = N9 := Option.some.inj (t940.symm.trans e0)
      subst e0
      have e1 : g 1 = s := Option.some.inj (t941.symm.trans e1)
      subst e1
      have e2 : g 2 = r := Option.some.inj (t945.symm.trans e2)
      subst e2
      have e3 : g 3 = j := Option.some.inj (t946.symm.trans e3)
      subst e3
      have e4 : g 4 = d9 := Option.some.inj (t952.symm.trans e4)
      subst e4
      have e5 : g 8 + 0 = B := Option.some.inj e5
      subst e5
      have e6 : g 2 + 1 = i := Option.some.inj e6
      subst e6
      exact ⟨by omega, fun _ q h3 h4 h5 => by omega⟩), fun _ _ _ _ _ _ _ _ _ e0 e1 e2 e3 e4 e5 e6 e7 e8 => no9 n961 e7, h_rr⟩, k_t, k_n, k_j⟩
def ru_eib : Ru := ([(0, (940, (0, (0, 0)))), (0, (941, (0, (0, 0)))), (0, (945, (0, (0, 0)))), (0, (946, (0, (0, 0)))), (0, (952, (0, (0, 0)))), (0, (959, (0, (0, 0)))), (0, (960, (0, (0, 0)))), (19, (203, (6, (20, 3))))], ([949, 961], ([([(6, (-1))], 0), ([(0, (-1)), (6, 1)], (-1)), ([(3, (-1))], 0), ([(3, 1)], 19)], (false, ([([(7, (-1))], 0), ([(7, 1)], 2147483646)], ([], ([], none)))))))
theorem rk_eib : RuOk SGd ru_eib := by
  intro τ m g hi hc ha hS
  obtain ⟨i0, i1, i2, i3, i4, i5, i6, i7, _⟩ := hi
  have t940 : τ 940 = some (g 0) := i0
  have t941 : τ 941 = some (g 1) := i1
  have t945 : τ 945 = some (g 2) := i2
  have t946 : τ 946 = some (g 3) := i3
  have t952 : τ 952 = some (g 4) := i4
  have t959 : τ 959 = some (g 5) := i5
  have t960 : τ 960 = some (g 6) := i6
  obtain ⟨jy, uy, vy⟩ : ∃ j : Nat, 20 * g 6 + g 3 = (j : Int) ∧ g 7 = m 203 j := i7
  obtain ⟨c0, c1, c2, c3, _⟩ := hc
  have c0 : (-1) * g 6 ≤ 0 := d1 c0
  have c1 : (-1) * g 0 + 1 * g 6 ≤ (-1) := d2 c1
  have c2 : (-1) * g 3 ≤ 0 := d1 c2
  have c3 : 1 * g 3 ≤ 19 := d1 c3
  obtain ⟨a0, a1, _⟩ := ha
  have n949 : τ 949 = none := a0
  have n961 : τ 961 = none := a1
  obtain ⟨⟨h_p1, h_p2, h_td⟩, k_b, k_q, k_c, k_d, k_l, k_k, k_e, k_t, k_n, k_j⟩ := hS
  have k_e0 := k_e
  obtain ⟨h_en, h_ef, h_ew, h_er, h_ep, h_ez, h_es, h_ed, h_pw, h_pv, h_eb, h_ei, h_ek, h_rr⟩ := k_e0
  have h9 := h_er _ _ _ _ t940 t941 t945 t946
  have ejy : jy = 20 * (g 6).toNat + (g 3).toNat := by omega
  subst ejy
  have hMy : MmG m (g 6).toNat (g 3).toNat = m 203 (20 * (g 6).toNat + (g 3).toNat) := by unfold MmG; rw [if_pos (by omega)]
  have hb9 := (h9.2 n949 n961).2 (g 6).toNat (g 3).toNat (by omega) (by omega)
  rw [hMy] at hb9
  simp only [pG] at hb9
  exact ⟨rfl, ⟨f1 (by omega), f1 (by omega), trivial⟩, trivial, ⟨h_p1, h_p2, h_td⟩, k_b, k_q, k_c, k_d, k_l, k_k, k_e, k_t, k_n, k_j⟩
def ru_eBb : Ru := ([(0, (940, (0, (0, 0)))), (0, (941, (0, (0, 0)))), (0, (945, (0, (0, 0)))), (0, (946, (0, (0, 0)))), (0, (952, (0, (0, 0)))), (0, (959, (0, (0, 0)))), (0, (960, (0, (0, 0))))], ([], ([], (false, ([([(5, (-1))], 0), ([(5, 1)], 2147483646)], ([], ([], none)))))))
theorem rk_eBb : RuOk SGd ru_eBb := by
  intro τ m g hi hc ha hS
  obtain ⟨i0, i1, i2, i3, i4, i5, i6, _⟩ := hi
  have t940 : τ 940 = some (g 0) := i0
  have t941 : τ 941 = some (g 1) := i1
  have t945 : τ 945 = some (g 2) := i2
  have t946 : τ 946 = some (g 3) := i3
  have t952 : τ 952 = some (g 4) := i4
  have t959 : τ 959 = some (g 5) := i5
  have t960 : τ 960 = some (g 6) := i6
  obtain ⟨⟨h_p1, h_p2, h_td⟩, k_b, k_q, k_c, k_d, k_l, k_k, k_e, k_t, k_n, k_j⟩ := hS
  have k_e0 := k_e
  obtain ⟨h_en, h_ef, h_ew, h_er, h_ep, h_ez, h_es, h_ed, h_pw, h_pv, h_eb, h_ei, h_ek, h_rr⟩ := k_e0
  have h1 := h_eb _ _ _ _ _ _ t940 t941 t945 t946 t952 t959
  simp only [pG] at h1
  exact ⟨rfl, ⟨f1 (by omega), f1 (by omega), trivial⟩, trivial, ⟨h_p1, h_p2, h_td⟩, k_b, k_q, k_c, k_d, k_l, k_k, k_e, k_t, k_n, k_j⟩
def ru_ef : Ru := ([(0, (940, (0, (0, 0)))), (0, (941, (0, (0, 0)))), (0, (945, (0, (0, 0)))), (0, (946, (0, (0, 0)))), (0, (952, (0, (0, 0)))), (0, (959, (0, (0, 0)))), (0, (960, (0, (0, 0)))), (0, (850, (0, (0, 0)))), (0, (851, (0, (0, 0)))), (0, (852, (0, (0, 0)))), (0, (859, (0, (0, 0)))), (0, (860, (0, (0, 0)))), (0, (861, (0, (0, 0)))), (19, (203, (6, (20, 3)))), (13, (9, (0, (0, 0))))], ([949, 961, 962], ([([(7, 1), (13, (-1))], 0), ([(7, (-1)), (13, 1)], 0), ([(5, (-1)), (8, 1)], 0), ([(5, 1), (8, (-1))], 0), ([(9, (-1)), (10, 1)], 0), ([(9, 1), (10, (-1))], 0), ([(11, 1)], 2147483647), ([(11, (-1))], (-2147483647)), ([(12, (-1)), (14, 1)], 0), ([(12, 1), (14, (-1))], 0), ([(0, (-1)), (6, 1)], (-1)), ([(3, (-1))], 0), ([(3, 1)], 19)], (false, ([], ([], ([(961, some (14, 0)), (962, some (3, 0)), (850, none), (851, none), (852, none), (859, none), (860, none), (861, none)], none)))))))
theorem rk_ef : RuOk SGd ru_ef := by
  intro τ m g hi hc ha hS
  obtain ⟨i0, i1, i2, i3, i4, i5, i6, i7, i8, i9, i10, i11, i12, i13, i14, _⟩ := hi
  have t940 : τ 940 = some (g 0) := i0
  have t941 : τ 941 = some (g 1) := i1
  have t945 : τ 945 = some (g 2) := i2
  have t946 : τ 946 = some (g 3) := i3
  have t952 : τ 952 = some (g 4) := i4
  have t959 : τ 959 = some (g 5) := i5
  have t960 : τ 960 = some (g 6) := i6
  have t850 : τ 850 = some (g 7) := i7
  have t851 : τ 851 = some (g 8) := i8
  have t852 : τ 852 = some (g 9) := i9
  have t859 : τ 859 = some (g 10) := i10
  have t860 : τ 860 = some (g 11) := i11
  have t861 : τ 861 = some (g 12) := i12
  obtain ⟨jy, uy, vy⟩ : ∃ j : Nat, 20 * g 6 + g 3 = (j : Int) ∧ g 13 = m 203 j := i13
  obtain ⟨c0, c1, c2, c3, c4, c5, c6, c7, c8, c9, c10, c11, c12, _⟩ := hc
  have c0 : 1 * g 7 + (-1) * g 13 ≤ 0 := d2 c0
  have c1 : (-1) * g 7 + 1 * g 13 ≤ 0 := d2 c1
  have c2 : (-1) * g 5 + 1 * g 8 ≤ 0 := d2 c2
  have c3 : 1 * g 5 + (-1) * g 8 ≤ 0 := d2 c3
  have c4 : (-1) * g 9 + 1 * g 10 ≤ 0 := d2 c4
  have c5 : 1 * g 9 + (-1) * g 10 ≤ 0 := d2 c5
  have c6 : 1 * g 11 ≤ 2147483647 := d1 c6
  have c7 : (-1) * g 11 ≤ (-2147483647) := d1 c7
  have c8 : (-1) * g 12 + 1 * g 14 ≤ 0 := d2 c8
  have c9 : 1 * g 12 + (-1) * g 14 ≤ 0 := d2 c9
  have c10 : (-1) * g 0 + 1 * g 6 ≤ (-1) := d2 c10
  have c11 : (-1) * g 3 ≤ 0 := d1 c11
  have c12 : 1 * g 3 ≤ 19 := d1 c12
  obtain ⟨a0, a1, a2, _⟩ := ha
  have n949 : τ 949 = none := a0
  have n961 : τ 961 = none := a1
  have n962 : τ 962 = none := a2
  obtain ⟨⟨h_p1, h_p2, h_td⟩, k_b, k_q, k_c, k_d, k_l, k_k, k_e, k_t, k_n, k_j⟩ := hS
  have k_e0 := k_e
  obtain ⟨h_en, h_ef, h_ew, h_er, h_ep, h_ez, h_es, h_ed, h_pw, h_pv, h_eb, h_ei, h_ek, h_rr⟩ := k_e0
  have k_b0 := k_b
  obtain ⟨h_bit, h_one, h_or, h_and, h_shr, h_m1, h_m2, h_dv, h_r1, h_r2, h_nz⟩ := k_b0
  have h9 := h_er _ _ _ _ t940 t941 t945 t946
  have ejy : jy = 20 * (g 6).toNat + (g 3).toNat := by omega
  subst ejy
  have hMy : MmG m (g 6).toNat (g 3).toNat = m 203 (20 * (g 6).toNat + (g 3).toNat) := by unfold MmG; rw [if_pos (by omega)]
  have h1 := h_ed _ _ _ _ _ t940 t941 t945 t946 t952
  have h2 := h_eb _ _ _ _ _ _ t940 t941 t945 t946 t952 t959
  have h3 := h_ei _ _ _ _ _ _ _ t940 t941 t945 t946 t952 t959 t960
  have a1 := h_m1 _ _ _ t850 t851 t852
  have a3 := h_r1 _ _ _ t859 t860 t861
  have hf : g 14 + 0 = (MmG m (g 6).toNat (g 3).toNat * g 5) % pG := by
    rw [hMy, ← vy, (show g 14 + 0 = g 12 by omega), a3, (show g 11 = pG by simp only [pG]; omega), (show g 10 = g 9 by omega), a1, (show g 7 = g 13 by omega), (show g 8 = g 5 by omega)]
  have hf0 := Int.emod_nonneg (MmG m (g 6).toNat (g 3).toNat * g 5) (show pG ≠ 0 by decide)
  have hfl := Int.emod_lt_of_pos (MmG m (g 6).toNat (g 3).toNat * g 5) (show (0 : Int) < pG by decide)
  exact ⟨rfl, trivial, trivial, ⟨h_p1, h_p2, h_td⟩, ⟨h_bit, h_one, h_or, h_and, h_shr, fun _ _ _ e0 e1 e2 => no9 (o := none) rfl e0, h_m2, h_dv, fun _ _ _ e0 e1 e2 => no9 (o := none) rfl e0, h_r2, h_nz⟩, k_q, k_c, k_d, k_l, k_k, ⟨h_en, h_ef, h_ew, (fun N9 s r j e0 e1 e2 e3 => by
      have e0 : g 0 = N9 := Option.some.inj (t940.symm.trans e0)
      subst e0
      have e1 : g 1 = s := Option.some.inj (t941.symm.trans e1)
      subst e1
      have e2 : g 2 = r := Option.some.inj (t945.symm.trans e2)
      subst e2
      have e3 : g 3 = j := Option.some.inj (t946.symm.trans e3)
      subst e3
      exact ⟨h9.1, fun _ e8 => no9 e8 rfl⟩), h_ep, h_ez, h_es, (fun N9 s r j d9 e0 e1 e2 e3 e4 => by
      have e0 : g 0 = N9 := Option.some.inj (t940.symm.trans e0)
      subst e0
      have e1 : g 1 = s := Option.some.inj (t941.symm.trans e1)
      subst e1
      have e2 : g 2 = r := Option.some.inj (t945.symm.trans e2)
      subst e2
      have e3 : g 3 = j := Option.some.inj (t946.symm.trans e3)
      subst e3
      have e4 : g 4 = d9 := Option.some.inj (t952.symm.trans e4)
      subst e4
      exact ⟨h1.1, fun e8 => no9 e8 rfl⟩), h_pw, h_pv, (fun N9 s r j d9 B e0 e1 e2 e3 e4 e5 => by
      have e0 : g 0 = N9 := Option.some.inj (t940.symm.trans e0)
      subst e0
      have e1 : g 1 = s := Option.some.inj (t941.symm.trans e1)
      subst e1
      have e2 : g 2 = r := Option.some.inj (t945.symm.trans e2)
      subst e2
      have e3 : g 3 = j := Option.some.inj (t946.symm.trans e3)
      subst e3
      have e4 : g 4 = d9 := Option.some.inj (t952.symm.trans e4)
      subst e4
      have e5 : g 5 = B := Option.some.inj (t959.symm.trans e5)
      subst e5
      exact ⟨h2.1, fun e8 => no9 e8 rfl⟩), (fun N9 s r j d9 B i e0 e1 e2 e3 e4 e5 e6 => by
      have e0 : g 0 = N9 := Option.some.inj (t940.symm.trans e0)
      subst e0
      have e1 : g 1 = s := Option.some.inj (t941.symm.trans e1)
      subst e1
      have e2 : g 2 = r := Option.some.inj (t945.symm.trans e2)
      subst e2
      have e3 : g 3 = j := Option.some.inj (t946.symm.trans e3)
      subst e3
      have e4 : g 4 = d9 := Option.some.inj (t952.symm.trans e4)
      subst e4
      have e5 : g 5 = B := Option.some.inj (t959.symm.trans e5)
      subst e5
      have e6 : g 6 = i := Option.some.inj (t960.symm.trans e6)
      subst e6
      exact ⟨h3.1, fun e8 => no9 e8 rfl⟩), (fun N9 s r j d9 B i f k e0 e1 e2 e3 e4 e5 e6 e7 e8 => by
      have e0 : g 0 = N9 := Option.some.inj (t940.symm.trans e0)
      subst e0
      have e1 : g 1 = s := Option.some.inj (t941.symm.trans e1)
      subst e1
      have e2 : g 2 = r := Option.some.inj (t945.symm.trans e2)
      subst e2
      have e3 : g 3 = j := Option.some.inj (t946.symm.trans e3)
      subst e3
      have e4 : g 4 = d9 := Option.some.inj (t952.symm.trans e4)
      subst e4
      have e5 : g 5 = B := Option.some.inj (t959.symm.trans e5)
      subst e5
      have e6 : g 6 = i := Option.some.inj (t960.symm.trans e6)
      subst e6
      have e7 : g 14 + 0 = f := Option.some.inj e7
      subst e7
      have e8 : g 3 + 0 = k := Option.some.inj e8
      subst e8
      refine ⟨⟨by omega, by rw [hf]; exact ⟨hf0, hfl⟩⟩, MmG m, h9.2 n949 n961, ⟨h1.2 n961, h2.2 n961, fun q h4 h5 h6 => h3.2 n961 q h4 (by omega) h6⟩, hf, fun _ _ _ => rfl, fun c => ?_⟩
      rw [if_neg (by omega)]), h_rr⟩, k_t, k_n, k_j⟩
def ru_ekr : Ru := ([(0, (940, (0, (0, 0)))), (0, (941, (0, (0, 0)))), (0, (945, (0, (0, 0)))), (0, (946, (0, (0, 0)))), (0, (952, (0, (0, 0)))), (0, (959, (0, (0, 0)))), (0, (960, (0, (0, 0)))), (0, (961, (0, (0, 0)))), (0, (962, (0, (0, 0)))), (19, (203, (2, (20, 8))))], ([], ([([(8, (-1))], 0), ([(8, 1)], 19)], (false, ([([(9, (-1))], 0), ([(9, 1)], 2147483646)], ([], ([], none)))))))
theorem rk_ekr : RuOk SGd ru_ekr := by
  intro τ m g hi hc ha hS
  obtain ⟨i0, i1, i2, i3, i4, i5, i6, i7, i8, i9, _⟩ := hi
  have t940 : τ 940 = some (g 0) := i0
  have t941 : τ 941 = some (g 1) := i1
  have t945 : τ 945 = some (g 2) := i2
  have t946 : τ 946 = some (g 3) := i3
  have t952 : τ 952 = some (g 4) := i4
  have t959 : τ 959 = some (g 5) := i5
  have t960 : τ 960 = some (g 6) := i6
  have t961 : τ 961 = some (g 7) := i7
  have t962 : τ 962 = some (g 8) := i8
  obtain ⟨jy, uy, vy⟩ : ∃ j : Nat, 20 * g 2 + g 8 = (j : Int) ∧ g 9 = m 203 j := i9
  obtain ⟨c0, c1, _⟩ := hc
  have c0 : (-1) * g 8 ≤ 0 := d1 c0
  have c1 : 1 * g 8 ≤ 19 := d1 c1
  obtain ⟨⟨h_p1, h_p2, h_td⟩, k_b, k_q, k_c, k_d, k_l, k_k, k_e, k_t, k_n, k_j⟩ := hS
  have k_e0 := k_e
  obtain ⟨h_en, h_ef, h_ew, h_er, h_ep, h_ez, h_es, h_ed, h_pw, h_pv, h_eb, h_ei, h_ek, h_rr⟩ := k_e0
  obtain ⟨⟨hik, hf0, hfl⟩, M0, r1, ⟨r2, r3, r4⟩, r5, r6, r7⟩ := h_ek _ _ _ _ _ _ _ _ _ t940 t941 t945 t946 t952 t959 t960 t961 t962
  have h3 := h_ei _ _ _ _ _ _ _ t940 t941 t945 t946 t952 t959 t960
  have h1 := h_ed _ _ _ _ _ t940 t941 t945 t946 t952
  have h9 := h_er _ _ _ _ t940 t941 t945 t946
  have ejy : jy = 20 * (g 2).toNat + (g 8).toNat := by omega
  subst ejy
  have hMy : MmG m (g 2).toNat (g 8).toNat = m 203 (20 * (g 2).toNat + (g 8).toNat) := by unfold MmG; rw [if_pos (by omega)]
  have hb9 := r1.2 (g 2).toNat (g 8).toNat (by omega) (by omega)
  rw [← r6 _ _ (by omega), hMy] at hb9
  simp only [pG] at hb9
  exact ⟨rfl, ⟨f1 (by omega), f1 (by omega), trivial⟩, trivial, ⟨h_p1, h_p2, h_td⟩, k_b, k_q, k_c, k_d, k_l, k_k, k_e, k_t, k_n, k_j⟩
def ru_eki : Ru := ([(0, (940, (0, (0, 0)))), (0, (941, (0, (0, 0)))), (0, (945, (0, (0, 0)))), (0, (946, (0, (0, 0)))), (0, (952, (0, (0, 0)))), (0, (959, (0, (0, 0)))), (0, (960, (0, (0, 0)))), (0, (961, (0, (0, 0)))), (0, (962, (0, (0, 0)))), (19, (203, (6, (20, 8))))], ([], ([([(8, (-1))], 0), ([(8, 1)], 19), ([(0, (-1)), (6, 1)], (-1))], (false, ([([(9, (-1))], 0), ([(9, 1)], 2147483646)], ([], ([], none)))))))
theorem rk_eki : RuOk SGd ru_eki := by
  intro τ m g hi hc ha hS
  obtain ⟨i0, i1, i2, i3, i4, i5, i6, i7, i8, i9, _⟩ := hi
  have t940 : τ 940 = some (g 0) := i0
  have t941 : τ 941 = some (g 1) := i1
  have t945 : τ 945 = some (g 2) := i2
  have t946 : τ 946 = some (g 3) := i3
  have t952 : τ 952 = some (g 4) := i4
  have t959 : τ 959 = some (g 5) := i5
  have t960 : τ 960 = some (g 6) := i6
  have t961 : τ 961 = some (g 7) := i7
  have t962 : τ 962 = some (g 8) := i8
  obtain ⟨jy, uy, vy⟩ : ∃ j : Nat, 20 * g 6 + g 8 = (j : Int) ∧ g 9 = m 203 j := i9
  obtain ⟨c0, c1, c2, _⟩ := hc
  have c0 : (-1) * g 8 ≤ 0 := d1 c0
  have c1 : 1 * g 8 ≤ 19 := d1 c1
  have c2 : (-1) * g 0 + 1 * g 6 ≤ (-1) := d2 c2
  obtain ⟨⟨h_p1, h_p2, h_td⟩, k_b, k_q, k_c, k_d, k_l, k_k, k_e, k_t, k_n, k_j⟩ := hS
  have k_e0 := k_e
  obtain ⟨h_en, h_ef, h_ew, h_er, h_ep, h_ez, h_es, h_ed, h_pw, h_pv, h_eb, h_ei, h_ek, h_rr⟩ := k_e0
  obtain ⟨⟨hik, hf0, hfl⟩, M0, r1, ⟨r2, r3, r4⟩, r5, r6, r7⟩ := h_ek _ _ _ _ _ _ _ _ _ t940 t941 t945 t946 t952 t959 t960 t961 t962
  have h3 := h_ei _ _ _ _ _ _ _ t940 t941 t945 t946 t952 t959 t960
  have ejy : jy = 20 * (g 6).toNat + (g 8).toNat := by omega
  subst ejy
  have hMy : MmG m (g 6).toNat (g 8).toNat = m 203 (20 * (g 6).toNat + (g 8).toNat) := by unfold MmG; rw [if_pos (by omega)]
  have hb9 := r1.2 (g 6).toNat (g 8).toNat (by omega) (by omega)
  have hq := r7 (g 8).toNat
  rw [if_neg (by omega)] at hq
  rw [← hq, hMy] at hb9
  simp only [pG] at hb9
  exact ⟨rfl, ⟨f1 (by omega), f1 (by omega), trivial⟩, trivial, ⟨h_p1, h_p2, h_td⟩, k_b, k_q, k_c, k_d, k_l, k_k, k_e, k_t, k_n, k_j⟩
def ru_ekf : Ru := ([(0, (940, (0, (0, 0)))), (0, (941, (0, (0, 0)))), (0, (945, (0, (0, 0)))), (0, (946, (0, (0, 0)))), (0, (952, (0, (0, 0)))), (0, (959, (0, (0, 0)))), (0, (960, (0, (0, 0)))), (0, (961, (0, (0, 0)))), (0, (962, (0, (0, 0))))], ([], ([], (false, ([([(7, (-1))], 0), ([(7, 1)], 2147483646)], ([], ([], none)))))))
theorem rk_ekf : RuOk SGd ru_ekf := by
  intro τ m g hi hc ha hS
  obtain ⟨i0, i1, i2, i3, i4, i5, i6, i7, i8, _⟩ := hi
  have t940 : τ 940 = some (g 0) := i0
  have t941 : τ 941 = some (g 1) := i1
  have t945 : τ 945 = some (g 2) := i2
  have t946 : τ 946 = some (g 3) := i3
  have t952 : τ 952 = some (g 4) := i4
  have t959 : τ 959 = some (g 5) := i5
  have t960 : τ 960 = some (g 6) := i6
  have t961 : τ 961 = some (g 7) := i7
  have t962 : τ 962 = some (g 8) := i8
  obtain ⟨⟨h_p1, h_p2, h_td⟩, k_b, k_q, k_c, k_d, k_l, k_k, k_e, k_t, k_n, k_j⟩ := hS
  have k_e0 := k_e
  obtain ⟨h_en, h_ef, h_ew, h_er, h_ep, h_ez, h_es, h_ed, h_pw, h_pv, h_eb, h_ei, h_ek, h_rr⟩ := k_e0
  obtain ⟨⟨hik, hf0, hfl⟩, M0, r1, ⟨r2, r3, r4⟩, r5, r6, r7⟩ := h_ek _ _ _ _ _ _ _ _ _ t940 t941 t945 t946 t952 t959 t960 t961 t962
  have h3 := h_ei _ _ _ _ _ _ _ t940 t941 t945 t946 t952 t959 t960
  simp only [pG] at hf0 hfl
  exact ⟨rfl, ⟨f1 (by omega), f1 (by omega), trivial⟩, trivial, ⟨h_p1, h_p2, h_td⟩, k_b, k_q, k_c, k_d, k_l, k_k, k_e, k_t, k_n, k_j⟩
def ru_er1 : Ru := ([(0, (940, (0, (0, 0)))), (0, (941, (0, (0, 0)))), (0, (945, (0, (0, 0)))), (0, (946, (0, (0, 0)))), (0, (952, (0, (0, 0)))), (0, (959, (0, (0, 0)))), (0, (960, (0, (0, 0)))), (0, (961, (0, (0, 0)))), (0, (962, (0, (0, 0))))], ([], ([([(8, (-1))], (-20)), ([(0, (-1)), (6, 1)], (-1))], (false, ([], ([], ([(960, some (6, 1)), (961, none), (962, none)], none)))))))
theorem rk_er1 : RuOk SGd ru_er1 := by
  intro τ m g hi hc ha hS
  obtain ⟨i0, i1, i2, i3, i4, i5, i6, i7, i8, _⟩ := hi
  have t940 : τ 940 = some (g 0) := i0
  have t941 : τ 941 = some (g 1) := i1
  have t945 : τ 945 = some (g 2) := i2
  have t946 : τ 946 = some (g 3) := i3
  have t952 : τ 952 = some (g 4) := i4
  have t959 : τ 959 = some (g 5) := i5
  have t960 : τ 960 = some (g 6) := i6
  have t961 : τ 961 = some (g 7) := i7
  have t962 : τ 962 = some (g 8) := i8
  obtain ⟨c0, c1, _⟩ := hc
  have c0 : (-1) * g 8 ≤ (-20) := d1 c0
  have c1 : (-1) * g 0 + 1 * g 6 ≤ (-1) := d2 c1
  obtain ⟨⟨h_p1, h_p2, h_td⟩, k_b, k_q, k_c, k_d, k_l, k_k, k_e, k_t, k_n, k_j⟩ := hS
  have k_e0 := k_e
  obtain ⟨h_en, h_ef, h_ew, h_er, h_ep, h_ez, h_es, h_ed, h_pw, h_pv, h_eb, h_ei, h_ek, h_rr⟩ := k_e0
  obtain ⟨⟨hik, hf0, hfl⟩, M0, r1, ⟨r2, r3, r4⟩, r5, r6, r7⟩ := h_ek _ _ _ _ _ _ _ _ _ t940 t941 t945 t946 t952 t959 t960 t961 t962
  have h3 := h_ei _ _ _ _ _ _ _ t940 t941 t945 t946 t952 t959 t960
  have h9 := h_er _ _ _ _ t940 t941 t945 t946
  have h1 := h_ed _ _ _ _ _ t940 t941 t945 t946 t952
  have h2 := h_eb _ _ _ _ _ _ t940 t941 t945 t946 t952 t959
  have hq : pG ∣ M0 (g 6).toNat (g 3).toNat - g 7 * M0 (g 2).toNat (g 3).toNat := f_ok r3 r5
  have hre := RW_end (k := (g 8).toNat) r1.1 r1.2 ⟨r2, fun q a b c => r4 q a b (by omega)⟩ r6 r7 (Or.inl (by omega)) (by omega) (by omega) (by omega) hq
  exact ⟨rfl, trivial, trivial, ⟨h_p1, h_p2, h_td⟩, k_b, k_q, k_c, k_d, k_l, k_k, ⟨h_en, h_ef, h_ew, (fun N9 s r j e0 e1 e2 e3 => by
      have e0 : g 0 = N9 := Option.some.inj (t940.symm.trans e0)
      subst e0
      have e1 : g 1 = s := Option.some.inj (t941.symm.trans e1)
      subst e1
      have e2 : g 2 = r := Option.some.inj (t945.symm.trans e2)
      subst e2
      have e3 : g 3 = j := Option.some.inj (t946.symm.trans e3)
      subst e3
      exact ⟨h9.1, fun _ _ => hre.1⟩), h_ep, h_ez, h_es, (fun N9 s r j d9 e0 e1 e2 e3 e4 => by
      have e0 : g 0 = N9 := Option.some.inj (t940.symm.trans e0)
      subst e0
      have e1 : g 1 = s := Option.some.inj (t941.symm.trans e1)
      subst e1
      have e2 : g 2 = r := Option.some.inj (t945.symm.trans e2)
      subst e2
      have e3 : g 3 = j := Option.some.inj (t946.symm.trans e3)
      subst e3
      have e4 : g 4 = d9 := Option.some.inj (t952.symm.trans e4)
      subst e4
      exact ⟨h1.1, fun _ => hre.2.1⟩), h_pw, h_pv, (fun N9 s r j d9 B e0 e1 e2 e3 e4 e5 => by
      have e0 : g 0 = N9 := Option.some.inj (t940.symm.trans e0)
      subst e0
      have e1 : g 1 = s := Option.some.inj (t941.symm.trans e1)
      subst e1
      have e2 : g 2 = r := Option.some.inj (t945.symm.trans e2)
      subst e2
      have e3 : g 3 = j := Option.some.inj (t946.symm.trans e3)
      subst e3
      have e4 : g 4 = d9 := Option.some.inj (t952.symm.trans e4)
      subst e4
      have e5 : g 5 = B := Option.some.inj (t959.symm.trans e5)
      subst e5
      exact ⟨h2.1, fun _ => by rw [r6 _ _ (by omega)]; exact r3⟩), (fun N9 s r j d9 B i e0 e1 e2 e3 e4 e5 e6 => by
      have e0 : g 0 = N9 := Option.some.inj (t940.symm.trans e0)
      subst e0
      have e1 : g 1 = s := Option.some.inj (t941.symm.trans e1)
      subst e1
      have e2 : g 2 = r := Option.some.inj (t945.symm.trans e2)
      subst e2
      have e3 : g 3 = j := Option.some.inj (t946.symm.trans e3)
      subst e3
      have e4 : g 4 = d9 := Option.some.inj (t952.symm.trans e4)
      subst e4
      have e5 : g 5 = B := Option.some.inj (t959.symm.trans e5)
      subst e5
      have e6 : g 6 + 1 = i := Option.some.inj e6
      subst e6
      exact ⟨by omega, fun _ q a b c => hre.2.2 q a (by omega) (by omega)⟩), fun _ _ _ _ _ _ _ _ _ e0 e1 e2 e3 e4 e5 e6 e7 e8 => no9 (o := none) rfl e7, h_rr⟩, k_t, k_n, k_j⟩
def ru_er0 : Ru := ([(0, (940, (0, (0, 0)))), (0, (941, (0, (0, 0)))), (0, (945, (0, (0, 0)))), (0, (946, (0, (0, 0)))), (0, (952, (0, (0, 0)))), (0, (959, (0, (0, 0)))), (0, (960, (0, (0, 0)))), (0, (961, (0, (0, 0)))), (0, (962, (0, (0, 0))))], ([], ([([(7, 1)], 0), ([(7, (-1))], 0), ([(0, (-1)), (6, 1)], (-1))], (false, ([], ([], ([(960, some (6, 1)), (961, none), (962, none)], none)))))))
theorem rk_er0 : RuOk SGd ru_er0 := by
  intro τ m g hi hc ha hS
  obtain ⟨i0, i1, i2, i3, i4, i5, i6, i7, i8, _⟩ := hi
  have t940 : τ 940 = some (g 0) := i0
  have t941 : τ 941 = some (g 1) := i1
  have t945 : τ 945 = some (g 2) := i2
  have t946 : τ 946 = some (g 3) := i3
  have t952 : τ 952 = some (g 4) := i4
  have t959 : τ 959 = some (g 5) := i5
  have t960 : τ 960 = some (g 6) := i6
  have t961 : τ 961 = some (g 7) := i7
  have t962 : τ 962 = some (g 8) := i8
  obtain ⟨c0, c1, c2, _⟩ := hc
  have c0 : 1 * g 7 ≤ 0 := d1 c0
  have c1 : (-1) * g 7 ≤ 0 := d1 c1
  have c2 : (-1) * g 0 + 1 * g 6 ≤ (-1) := d2 c2
  obtain ⟨⟨h_p1, h_p2, h_td⟩, k_b, k_q, k_c, k_d, k_l, k_k, k_e, k_t, k_n, k_j⟩ := hS
  have k_e0 := k_e
  obtain ⟨h_en, h_ef, h_ew, h_er, h_ep, h_ez, h_es, h_ed, h_pw, h_pv, h_eb, h_ei, h_ek, h_rr⟩ := k_e0
  obtain ⟨⟨hik, hf0, hfl⟩, M0, r1, ⟨r2, r3, r4⟩, r5, r6, r7⟩ := h_ek _ _ _ _ _ _ _ _ _ t940 t941 t945 t946 t952 t959 t960 t961 t962
  have h3 := h_ei _ _ _ _ _ _ _ t940 t941 t945 t946 t952 t959 t960
  have h9 := h_er _ _ _ _ t940 t941 t945 t946
  have h1 := h_ed _ _ _ _ _ t940 t941 t945 t946 t952
  have h2 := h_eb _ _ _ _ _ _ t940 t941 t945 t946 t952 t959
  have hq : pG ∣ M0 (g 6).toNat (g 3).toNat - g 7 * M0 (g 2).toNat (g 3).toNat := f_ok r3 r5
  have hre := RW_end (k := (g 8).toNat) r1.1 r1.2 ⟨r2, fun q a b c => r4 q a b (by omega)⟩ r6 r7 (Or.inr (by omega)) (by omega) (by omega) (by omega) hq
  exact ⟨rfl, trivial, trivial, ⟨h_p1, h_p2, h_td⟩, k_b, k_q, k_c, k_d, k_l, k_k, ⟨h_en, h_ef, h_ew, (fun N9 s r j e0 e1 e2 e3 => by
      have e0 : g 0 = N9 := Option.some.inj (t940.symm.trans e0)
      subst e0
      have e1 : g 1 = s := Option.some.inj (t941.symm.trans e1)
      subst e1
      have e2 : g 2 = r := Option.some.inj (t945.symm.trans e2)
      subst e2
      have e3 : g 3 = j := Option.some.inj (t946.symm.trans e3)
      subst e3
      exact ⟨h9.1, fun _ _ => hre.1⟩), h_ep, h_ez, h_es, (fun N9 s r j d9 e0 e1 e2 e3 e4 => by
      have e0 : g 0 = N9 := Option.some.inj (t940.symm.trans e0)
      subst e0
      have e1 : g 1 = s := Option.some.inj (t941.symm.trans e1)
      subst e1
      have e2 : g 2 = r := Option.some.inj (t945.symm.trans e2)
      subst e2
      have e3 : g 3 = j := Option.some.inj (t946.symm.trans e3)
      subst e3
      have e4 : g 4 = d9 := Option.some.inj (t952.symm.trans e4)
      subst e4
      exact ⟨h1.1, fun _ => hre.2.1⟩), h_pw, h_pv, (fun N9 s r j d9 B e0 e1 e2 e3 e4 e5 => by
      have e0 : g 0 = N9 := Option.some.inj (t940.symm.trans e0)
      subst e0
      have e1 : g 1 = s := Option.some.inj (t941.symm.trans e1)
      subst e1
      have e2 : g 2 = r := Option.some.inj (t945.symm.trans e2)
      subst e2
      have e3 : g 3 = j := Option.some.inj (t946.symm.trans e3)
      subst e3
      have e4 : g 4 = d9 := Option.some.inj (t952.symm.trans e4)
      subst e4
      have e5 : g 5 = B := Option.some.inj (t959.symm.trans e5)
      subst e5
      exact ⟨h2.1, fun _ => by rw [r6 _ _ (by omega)]; exact r3⟩), (fun N9 s r j d9 B i e0 e1 e2 e3 e4 e5 e6 => by
      have e0 : g 0 = N9 := Option.some.inj (t940.symm.trans e0)
      subst e0
      have e1 : g 1 = s := Option.some.inj (t941.symm.trans e1)
      subst e1
      have e2 : g 2 = r := Option.some.inj (t945.symm.trans e2)
      subst e2
      have e3 : g 3 = j := Option.some.inj (t946.symm.trans e3)
      subst e3
      have e4 : g 4 = d9 := Option.some.inj (t952.symm.trans e4)
      subst e4
      have e5 : g 5 = B := Option.some.inj (t959.symm.trans e5)
      subst e5
      have e6 : g 6 + 1 = i := Option.some.inj e6
      subst e6
      exact ⟨by omega, fun _ q a b c => hre.2.2 q a (by omega) (by omega)⟩), fun _ _ _ _ _ _ _ _ _ e0 e1 e2 e3 e4 e5 e6 e7 e8 => no9 (o := none) rfl e7, h_rr⟩, k_t, k_n, k_j⟩
def ru_en1 : Ru := ([(0, (940, (0, (0, 0)))), (0, (941, (0, (0, 0)))), (0, (945, (0, (0, 0)))), (0, (946, (0, (0, 0)))), (0, (952, (0, (0, 0)))), (0, (959, (0, (0, 0)))), (0, (960, (0, (0, 0))))], ([947, 948, 949, 961, 962], ([([(0, 1), (6, (-1))], 0), ([(3, (-1))], 0), ([(3, 1)], 19)], (false, ([], ([], ([(945, some (2, 1)), (946, some (3, 1)), (952, none), (959, none), (960, none)], none)))))))
theorem rk_en1 : RuOk SGd ru_en1 := by
  intro τ m g hi hc ha hS
  obtain ⟨i0, i1, i2, i3, i4, i5, i6, _⟩ := hi
  have t940 : τ 940 = some (g 0) := i0
  have t941 : τ 941 = some (g 1) := i1
  have t945 : τ 945 = some (g 2) := i2
  have t946 : τ 946 = some (g 3) := i3
  have t952 : τ 952 = some (g 4) := i4
  have t959 : τ 959 = some (g 5) := i5
  have t960 : τ 960 = some (g 6) := i6
  obtain ⟨c0, c1, c2, _⟩ := hc
  have c0 : 1 * g 0 + (-1) * g 6 ≤ 0 := d2 c0
  have c1 : (-1) * g 3 ≤ 0 := d1 c1
  have c2 : 1 * g 3 ≤ 19 := d1 c2
  obtain ⟨a0, a1, a2, a3, a4, _⟩ := ha
  have n947 : τ 947 = none := a0
  have n948 : τ 948 = none := a1
  have n949 : τ 949 = none := a2
  have n961 : τ 961 = none := a3
  have n962 : τ 962 = none := a4
  obtain ⟨⟨h_p1, h_p2, h_td⟩, k_b, k_q, k_c, k_d, k_l, k_k, k_e, k_t, k_n, k_j⟩ := hS
  have k_e0 := k_e
  obtain ⟨h_en, h_ef, h_ew, h_er, h_ep, h_ez, h_es, h_ed, h_pw, h_pv, h_eb, h_ei, h_ek, h_rr⟩ := k_e0
  have h9 := h_er _ _ _ _ t940 t941 t945 t946
  have h1 := h_ed _ _ _ _ _ t940 t941 t945 t946 t952
  have h3 := h_ei _ _ _ _ _ _ _ t940 t941 t945 t946 t952 t959 t960
  exact ⟨rfl, trivial, trivial, ⟨h_p1, h_p2, h_td⟩, k_b, k_q, k_c, k_d, k_l, k_k, ⟨h_en, h_ef, h_ew, (fun N9 s r j e0 e1 e2 e3 => by
      have e0 : g 0 = N9 := Option.some.inj (t940.symm.trans e0)
      subst e0
      have e1 : g 1 = s := Option.some.inj (t941.symm.trans e1)
      subst e1
      have e2 : g 2 + 1 = r := Option.some.inj e2
      subst e2
      have e3 : g 3 + 1 = j := Option.some.inj e3
      subst e3
      have er : (g 2 + 1).toNat = (g 2).toNat + 1 := by omega
      have ej : (g 3 + 1).toNat = (g 3).toNat + 1 := by omega
      rw [er, ej]
      refine ⟨by omega, fun _ _ => ⟨EL_next (h9.2 n949 n961).1 (by omega) (h1.2 n961) (fun i hi hr => ?_), (h9.2 n949 n961).2⟩⟩
      rw [h3.2 n961 i hi (by omega) (by omega)]; exact Int.dvd_zero _), fun _ _ _ _ _ e0 e1 e2 e3 e4 => no9 n947 e4, fun _ _ _ _ _ _ e0 e1 e2 e3 e4 e5 => no9 n947 e4, fun _ _ _ _ _ _ _ e0 e1 e2 e3 e4 e5 e6 => no9 n947 e4, fun _ _ _ _ _ e0 e1 e2 e3 e4 => no9 (o := none) rfl e4, h_pw, h_pv, fun _ _ _ _ _ _ e0 e1 e2 e3 e4 e5 => no9 (o := none) rfl e4, fun _ _ _ _ _ _ _ e0 e1 e2 e3 e4 e5 e6 => no9 (o := none) rfl e4, fun _ _ _ _ _ _ _ _ _ e0 e1 e2 e3 e4 e5 e6 e7 e8 => no9 (o := none) rfl e4, h_rr⟩, k_t, k_n, k_j⟩
def ru_rr : Ru := ([(0, (940, (0, (0, 0)))), (0, (941, (0, (0, 0)))), (0, (945, (0, (0, 0)))), (0, (946, (0, (0, 0))))], ([947, 949, 952, 961], ([([(3, (-1))], (-20))], (false, ([], ([], ([(963, some (2, 0)), (964, some (1, 0)), (940, none), (941, none), (945, none), (946, none)], none)))))))
theorem rk_rr : RuOk SGd ru_rr := by
  intro τ m g hi hc ha hS
  obtain ⟨i0, i1, i2, i3, _⟩ := hi
  have t940 : τ 940 = some (g 0) := i0
  have t941 : τ 941 = some (g 1) := i1
  have t945 : τ 945 = some (g 2) := i2
  have t946 : τ 946 = some (g 3) := i3
  obtain ⟨c0, _⟩ := hc
  have c0 : (-1) * g 3 ≤ (-20) := d1 c0
  obtain ⟨a0, a1, a2, a3, _⟩ := ha
  have n947 : τ 947 = none := a0
  have n949 : τ 949 = none := a1
  have n952 : τ 952 = none := a2
  have n961 : τ 961 = none := a3
  obtain ⟨⟨h_p1, h_p2, h_td⟩, k_b, k_q, k_c, k_d, k_l, k_k, k_e, k_t, k_n, k_j⟩ := hS
  have k_e0 := k_e
  obtain ⟨h_en, h_ef, h_ew, h_er, h_ep, h_ez, h_es, h_ed, h_pw, h_pv, h_eb, h_ei, h_ek, h_rr⟩ := k_e0
  have h9 := h_er _ _ _ _ t940 t941 t945 t946
  have h2 := h_en _ _ t940 t941
  exact ⟨rfl, trivial, trivial, ⟨h_p1, h_p2, h_td⟩, k_b, k_q, k_c, k_d, k_l, k_k, ⟨fun _ _ e0 e1 => no9 (o := none) rfl e0, fun _ _ _ _ e0 e1 e2 e3 => no9 (o := none) rfl e0, fun _ _ _ e0 e1 e2 => no9 (o := none) rfl e0, fun _ _ _ _ e0 e1 e2 e3 => no9 (o := none) rfl e0, fun _ _ _ _ _ e0 e1 e2 e3 e4 => no9 (o := none) rfl e0, fun _ _ _ _ _ _ e0 e1 e2 e3 e4 e5 => no9 (o := none) rfl e0, fun _ _ _ _ _ _ _ e0 e1 e2 e3 e4 e5 e6 => no9 (o := none) rfl e0, fun _ _ _ _ _ e0 e1 e2 e3 e4 => no9 (o := none) rfl e0, h_pw, h_pv, fun _ _ _ _ _ _ e0 e1 e2 e3 e4 e5 => no9 (o := none) rfl e0, fun _ _ _ _ _ _ _ e0 e1 e2 e3 e4 e5 e6 => no9 (o := none) rfl e0, fun _ _ _ _ _ _ _ _ _ e0 e1 e2 e3 e4 e5 e6 e7 e8 => no9 (o := none) rfl e0, (fun rr s e0 e1 => by
      have e0 : g 2 + 0 = rr := Option.some.inj e0
      subst e0
      have e1 : g 1 + 0 = s := Option.some.inj e1
      subst e1
      have ej : (g 3).toNat = 20 := by omega
      have er : (g 2 + 0).toNat = (g 2).toNat := by omega
      have es : g 1 + 0 = g 1 := by omega
      have h5 := h9.2 n949 n961
      rw [ej] at h5
      rw [er, es, ← h2.2]
      have h6 := h5.1.2.2.2.1
      exact ⟨by omega, h2.1.1, h2.1.2, EL_RK h5.1⟩)⟩, k_t, k_n, k_j⟩
def ru_t0 : Ru := ([(0, (963, (0, (0, 0)))), (0, (964, (0, (0, 0)))), (4, (0, (0, (0, 0))))], ([970, 971, 972, 973, 974], ([([(1, 1)], 0), ([(1, (-1))], 0)], (false, ([], ([], ([(970, some (0, 0)), (971, some (2, 0)), (963, none), (964, none)], none)))))))
theorem rk_t0 : RuOk SGd ru_t0 := by
  intro τ m g hi hc ha hS
  obtain ⟨i0, i1, i2, _⟩ := hi
  have t963 : τ 963 = some (g 0) := i0
  have t964 : τ 964 = some (g 1) := i1
  have xzero : g 2 = 0 := i2
  obtain ⟨c0, c1, _⟩ := hc
  have c0 : 1 * g 1 ≤ 0 := d1 c0
  have c1 : (-1) * g 1 ≤ 0 := d1 c1
  obtain ⟨a0, a1, a2, a3, a4, _⟩ := ha
  have n970 : τ 970 = none := a0
  have n971 : τ 971 = none := a1
  have n972 : τ 972 = none := a2
  have n973 : τ 973 = none := a3
  have n974 : τ 974 = none := a4
  obtain ⟨⟨h_p1, h_p2, h_td⟩, k_b, k_q, k_c, k_d, k_l, k_k, k_e, k_t, k_n, k_j⟩ := hS
  have k_e0 := k_e
  obtain ⟨h_en, h_ef, h_ew, h_er, h_ep, h_ez, h_es, h_ed, h_pw, h_pv, h_eb, h_ei, h_ek, h_rr⟩ := k_e0
  have k_t0 := k_t
  obtain ⟨h_t0, h_tj, h_tw, h_tt⟩ := k_t0
  exact ⟨rfl, trivial, trivial, ⟨h_p1, h_p2, h_td⟩, k_b, k_q, k_c, k_d, k_l, k_k, ⟨h_en, h_ef, h_ew, h_er, h_ep, h_ez, h_es, h_ed, h_pw, h_pv, h_eb, h_ei, h_ek, fun _ _ e0 e1 => no9 (o := none) rfl e0⟩, ⟨(fun R0 e0 => by
      have e0 : g 0 + 0 = R0 := Option.some.inj e0
      subst e0
      have h1 := h_rr _ _ t963 t964
      have es : g 1 = 0 := by omega
      have er : (g 0 + 0).toNat = (g 0).toNat := by omega
      rw [es, if_pos rfl, Int.add_zero] at h1
      rw [er]
      exact ⟨by omega, h1.2.2.1, h1.2.2.2⟩), (fun R0 J e0 e1 => by
      have e0 : g 0 + 0 = R0 := Option.some.inj e0
      subst e0
      have e1 : g 2 + 0 = J := Option.some.inj e1
      subst e1
      exact ⟨by omega, fun j h1 => by omega⟩), fun _ _ e0 e1 => no9 n972 e1, fun _ _ e0 e1 => no9 n973 e1⟩, k_n, k_j⟩
def ru_tb : Ru := ([(0, (971, (0, (0, 0)))), (0, (843, (0, (0, 0)))), (0, (844, (0, (0, 0)))), (0, (845, (0, (0, 0)))), (0, (846, (0, (0, 0))))], ([972, 973], ([([(1, 1)], 0), ([(1, (-1))], 0), ([(0, (-1)), (2, 1)], 0), ([(0, 1), (2, (-1))], 0), ([(4, 1)], 1), ([(4, (-1))], (-1)), ([(0, (-1))], 0), ([(0, 1)], 19), ([(3, (-1))], (-1)), ([(3, 1)], 1048575)], (false, ([], ([], ([(972, some (3, 0)), (843, none), (844, none), (845, none), (846, none)], none)))))))
theorem rk_tb : RuOk SGd ru_tb := by
  intro τ m g hi hc ha hS
  obtain ⟨i0, i1, i2, i3, i4, _⟩ := hi
  have t971 : τ 971 = some (g 0) := i0
  have t843 : τ 843 = some (g 1) := i1
  have t844 : τ 844 = some (g 2) := i2
  have t845 : τ 845 = some (g 3) := i3
  have t846 : τ 846 = some (g 4) := i4
  obtain ⟨c0, c1, c2, c3, c4, c5, c6, c7, c8, c9, _⟩ := hc
  have c0 : 1 * g 1 ≤ 0 := d1 c0
  have c1 : (-1) * g 1 ≤ 0 := d1 c1
  have c2 : (-1) * g 0 + 1 * g 2 ≤ 0 := d2 c2
  have c3 : 1 * g 0 + (-1) * g 2 ≤ 0 := d2 c3
  have c4 : 1 * g 4 ≤ 1 := d1 c4
  have c5 : (-1) * g 4 ≤ (-1) := d1 c5
  have c6 : (-1) * g 0 ≤ 0 := d1 c6
  have c7 : 1 * g 0 ≤ 19 := d1 c7
  have c8 : (-1) * g 3 ≤ (-1) := d1 c8
  have c9 : 1 * g 3 ≤ 1048575 := d1 c9
  obtain ⟨a0, a1, _⟩ := ha
  have n972 : τ 972 = none := a0
  have n973 : τ 973 = none := a1
  obtain ⟨⟨h_p1, h_p2, h_td⟩, k_b, k_q, k_c, k_d, k_l, k_k, k_e, k_t, k_n, k_j⟩ := hS
  have k_b0 := k_b
  obtain ⟨h_bit, h_one, h_or, h_and, h_shr, h_m1, h_m2, h_dv, h_r1, h_r2, h_nz⟩ := k_b0
  have k_t0 := k_t
  obtain ⟨h_t0, h_tj, h_tw, h_tt⟩ := k_t0
  exact ⟨rfl, trivial, trivial, ⟨h_p1, h_p2, h_td⟩, ⟨h_bit, fun _ _ _ _ e0 e1 e2 e3 => no9 (o := none) rfl e0, h_or, h_and, h_shr, h_m1, h_m2, h_dv, h_r1, h_r2, h_nz⟩, k_q, k_c, k_d, k_l, k_k, k_e, ⟨h_t0, h_tj, (fun J w e0 e1 => by
      have e0 : g 0 = J := Option.some.inj (t971.symm.trans e0)
      subst e0
      have e1 : g 3 + 0 = w := Option.some.inj e1
      subst e1
      obtain ⟨x, y, hx, hy, hq⟩ := h_one _ _ _ _ t843 t844 t845 t846
      have ew : g 3 + 0 = y.toInt := by omega
      have e0 : x = Int32.ofInt 0 := by
        have : x.toInt = (Int32.ofInt 0).toInt := by rw [hx, (show g 1 = 0 by omega)]; decide
        exact Int32.toInt_inj.mp this
      refine ⟨by omega, by omega, ?_⟩
      rw [ew]
      funext c
      unfold bvG unG
      by_cases h : c < 20
      · rw [if_pos h, Int32.ofInt_toInt, hq (g 0).toNat (by omega) (by omega) c h, e0]
        by_cases e : c = (g 0).toNat
        · rw [if_pos e, if_pos e]; omega
        · rw [if_neg e, if_neg e]; exact bx_zero c h
      · rw [if_neg h, if_neg (by omega)]), h_tt⟩, k_n, k_j⟩
def ru_tb0 : Ru := ([(0, (971, (0, (0, 0)))), (3, (0, (0, (0, 0))))], ([843, 972, 973], ([([(0, 1)], 0), ([(0, (-1))], 0), ([(1, 1)], 1), ([(1, (-1))], (-1))], (false, ([], ([], ([(972, some (1, 0))], none)))))))
theorem rk_tb0 : RuOk SGd ru_tb0 := by
  intro τ m g hi hc ha hS
  obtain ⟨i0, i1, _⟩ := hi
  have t971 : τ 971 = some (g 0) := i0
  obtain ⟨c0, c1, c2, c3, _⟩ := hc
  have c0 : 1 * g 0 ≤ 0 := d1 c0
  have c1 : (-1) * g 0 ≤ 0 := d1 c1
  have c2 : 1 * g 1 ≤ 1 := d1 c2
  have c3 : (-1) * g 1 ≤ (-1) := d1 c3
  obtain ⟨a0, a1, a2, _⟩ := ha
  have n843 : τ 843 = none := a0
  have n972 : τ 972 = none := a1
  have n973 : τ 973 = none := a2
  obtain ⟨⟨h_p1, h_p2, h_td⟩, k_b, k_q, k_c, k_d, k_l, k_k, k_e, k_t, k_n, k_j⟩ := hS
  have k_t0 := k_t
  obtain ⟨h_t0, h_tj, h_tw, h_tt⟩ := k_t0
  exact ⟨rfl, trivial, trivial, ⟨h_p1, h_p2, h_td⟩, k_b, k_q, k_c, k_d, k_l, k_k, k_e, ⟨h_t0, h_tj, (fun J w e0 e1 => by
      have e0 : g 0 = J := Option.some.inj (t971.symm.trans e0)
      subst e0
      have e1 : g 1 + 0 = w := Option.some.inj e1
      subst e1
      have ew : g 1 + 0 = 1 := by omega
      have ej : (g 0).toNat = 0 := by omega
      rw [ew, ej]
      exact ⟨by omega, by omega, bv_unit0⟩), h_tt⟩, k_n, k_j⟩
def ru_te : Ru := ([(0, (970, (0, (0, 0)))), (0, (971, (0, (0, 0)))), (0, (972, (0, (0, 0)))), (0, (963, (0, (0, 0)))), (0, (964, (0, (0, 0)))), (4, (0, (0, (1, 0)))), (5, (110, (6, (0, 0))))], ([973], ([([(2, (-1)), (4, 1)], 0), ([(2, 1), (4, (-1))], 0), ([(0, (-1)), (3, 1)], 0), ([(0, 1), (3, (-1))], 0), ([(1, 1), (6, (-1))], (-1))], (false, ([], ([], ([(973, some (5, 0)), (971, none), (972, none), (963, none), (964, none)], none)))))))
theorem rk_te : RuOk SGd ru_te := by
  intro τ m g hi hc ha hS
  obtain ⟨i0, i1, i2, i3, i4, i5, i6, _⟩ := hi
  have t970 : τ 970 = some (g 0) := i0
  have t971 : τ 971 = some (g 1) := i1
  have t972 : τ 972 = some (g 2) := i2
  have t963 : τ 963 = some (g 3) := i3
  have t964 : τ 964 = some (g 4) := i4
  have xone : g 5 = 1 := i5
  have xpe : g 6 = m 110 6 := i6
  obtain ⟨c0, c1, c2, c3, c4, _⟩ := hc
  have c0 : (-1) * g 2 + 1 * g 4 ≤ 0 := d2 c0
  have c1 : 1 * g 2 + (-1) * g 4 ≤ 0 := d2 c1
  have c2 : (-1) * g 0 + 1 * g 3 ≤ 0 := d2 c2
  have c3 : 1 * g 0 + (-1) * g 3 ≤ 0 := d2 c3
  have c4 : 1 * g 1 + (-1) * g 6 ≤ (-1) := d2 c4
  obtain ⟨a0, _⟩ := ha
  have n973 : τ 973 = none := a0
  obtain ⟨⟨h_p1, h_p2, h_td⟩, k_b, k_q, k_c, k_d, k_l, k_k, k_e, k_t, k_n, k_j⟩ := hS
  have k_e0 := k_e
  obtain ⟨h_en, h_ef, h_ew, h_er, h_ep, h_ez, h_es, h_ed, h_pw, h_pv, h_eb, h_ei, h_ek, h_rr⟩ := k_e0
  have k_t0 := k_t
  obtain ⟨h_t0, h_tj, h_tw, h_tt⟩ := k_t0
  have h0 := h_t0 _ t970
  have h1 := h_rr _ _ t963 t964
  have h2 := h_tw _ _ t971 t972
  have es : g 4 ≠ 0 := by omega
  rw [if_neg es, (show g 4 = g 2 by omega)] at h1
  have htm := tell_more h0.2.1 h2.2.2 h0.2.2 h1.2.2.2
  exact ⟨rfl, trivial, trivial, ⟨h_p1, h_p2, h_td⟩, k_b, k_q, k_c, k_d, k_l, k_k, ⟨h_en, h_ef, h_ew, h_er, h_ep, h_ez, h_es, h_ed, h_pw, h_pv, h_eb, h_ei, h_ek, fun _ _ e0 e1 => no9 (o := none) rfl e0⟩, ⟨h_t0, fun _ _ e0 e1 => no9 (o := none) rfl e1, fun _ _ e0 e1 => no9 (o := none) rfl e0, (fun R0 t9 e0 e1 => by
      have e0 : g 0 = R0 := Option.some.inj (t970.symm.trans e0)
      subst e0
      have e1 : g 5 + 0 = t9 := Option.some.inj e1
      subst e1
      exact ⟨(g 1).toNat, by omega, by omega, htm.mp (by omega)⟩)⟩, k_n, k_j⟩
def ru_tl : Ru := ([(0, (970, (0, (0, 0)))), (0, (971, (0, (0, 0)))), (0, (972, (0, (0, 0)))), (0, (963, (0, (0, 0)))), (0, (964, (0, (0, 0))))], ([], ([([(2, (-1)), (4, 1)], 0), ([(2, 1), (4, (-1))], 0), ([(0, (-1)), (3, 1)], (-1))], (false, ([], ([], ([(971, some (1, 1)), (972, none), (963, none), (964, none)], none)))))))
theorem rk_tl : RuOk SGd ru_tl := by
  intro τ m g hi hc ha hS
  obtain ⟨i0, i1, i2, i3, i4, _⟩ := hi
  have t970 : τ 970 = some (g 0) := i0
  have t971 : τ 971 = some (g 1) := i1
  have t972 : τ 972 = some (g 2) := i2
  have t963 : τ 963 = some (g 3) := i3
  have t964 : τ 964 = some (g 4) := i4
  obtain ⟨c0, c1, c2, _⟩ := hc
  have c0 : (-1) * g 2 + 1 * g 4 ≤ 0 := d2 c0
  have c1 : 1 * g 2 + (-1) * g 4 ≤ 0 := d2 c1
  have c2 : (-1) * g 0 + 1 * g 3 ≤ (-1) := d2 c2
  obtain ⟨⟨h_p1, h_p2, h_td⟩, k_b, k_q, k_c, k_d, k_l, k_k, k_e, k_t, k_n, k_j⟩ := hS
  have k_e0 := k_e
  obtain ⟨h_en, h_ef, h_ew, h_er, h_ep, h_ez, h_es, h_ed, h_pw, h_pv, h_eb, h_ei, h_ek, h_rr⟩ := k_e0
  have k_t0 := k_t
  obtain ⟨h_t0, h_tj, h_tw, h_tt⟩ := k_t0
  have h0 := h_t0 _ t970
  have h1 := h_rr _ _ t963 t964
  have h2 := h_tw _ _ t971 t972
  have es : g 4 ≠ 0 := by omega
  rw [if_neg es, (show g 4 = g 2 by omega)] at h1
  have htm := tell_more h0.2.1 h2.2.2 h0.2.2 h1.2.2.2
  exact ⟨rfl, trivial, trivial, ⟨h_p1, h_p2, h_td⟩, k_b, k_q, k_c, k_d, k_l, k_k, ⟨h_en, h_ef, h_ew, h_er, h_ep, h_ez, h_es, h_ed, h_pw, h_pv, h_eb, h_ei, h_ek, fun _ _ e0 e1 => no9 (o := none) rfl e0⟩, ⟨h_t0, (fun R0 J e0 e1 => by
      have e0 : g 0 = R0 := Option.some.inj (t970.symm.trans e0)
      subst e0
      have e1 : g 1 + 1 = J := Option.some.inj e1
      subst e1
      have h3 := h_tj _ _ t970 t971
      refine ⟨by omega, fun j h4 h5 => ?_⟩
      by_cases e : (j : Int) = g 1
      · have ej : j = (g 1).toNat := by omega
        rw [ej]
        exact fun q => absurd (htm.mpr q) (by omega)
      · exact h3.2 j (by omega) h5), fun _ _ e0 e1 => no9 (o := none) rfl e1, h_tt⟩, k_n, k_j⟩
def ru_tm : Ru := ([(0, (970, (0, (0, 0)))), (0, (971, (0, (0, 0)))), (0, (972, (0, (0, 0)))), (0, (963, (0, (0, 0)))), (0, (964, (0, (0, 0))))], ([], ([([(2, (-1)), (4, 1)], 0), ([(2, 1), (4, (-1))], 0), ([(0, 1), (3, (-1))], (-1))], (false, ([], ([], ([(971, some (1, 1)), (972, none), (963, none), (964, none)], none)))))))
theorem rk_tm : RuOk SGd ru_tm := by
  intro τ m g hi hc ha hS
  obtain ⟨i0, i1, i2, i3, i4, _⟩ := hi
  have t970 : τ 970 = some (g 0) := i0
  have t971 : τ 971 = some (g 1) := i1
  have t972 : τ 972 = some (g 2) := i2
  have t963 : τ 963 = some (g 3) := i3
  have t964 : τ 964 = some (g 4) := i4
  obtain ⟨c0, c1, c2, _⟩ := hc
  have c0 : (-1) * g 2 + 1 * g 4 ≤ 0 := d2 c0
  have c1 : 1 * g 2 + (-1) * g 4 ≤ 0 := d2 c1
  have c2 : 1 * g 0 + (-1) * g 3 ≤ (-1) := d2 c2
  obtain ⟨⟨h_p1, h_p2, h_td⟩, k_b, k_q, k_c, k_d, k_l, k_k, k_e, k_t, k_n, k_j⟩ := hS
  have k_e0 := k_e
  obtain ⟨h_en, h_ef, h_ew, h_er, h_ep, h_ez, h_es, h_ed, h_pw, h_pv, h_eb, h_ei, h_ek, h_rr⟩ := k_e0
  have k_t0 := k_t
  obtain ⟨h_t0, h_tj, h_tw, h_tt⟩ := k_t0
  have h0 := h_t0 _ t970
  have h1 := h_rr _ _ t963 t964
  have h2 := h_tw _ _ t971 t972
  have es : g 4 ≠ 0 := by omega
  rw [if_neg es, (show g 4 = g 2 by omega)] at h1
  have htm := tell_more h0.2.1 h2.2.2 h0.2.2 h1.2.2.2
  exact ⟨rfl, trivial, trivial, ⟨h_p1, h_p2, h_td⟩, k_b, k_q, k_c, k_d, k_l, k_k, ⟨h_en, h_ef, h_ew, h_er, h_ep, h_ez, h_es, h_ed, h_pw, h_pv, h_eb, h_ei, h_ek, fun _ _ e0 e1 => no9 (o := none) rfl e0⟩, ⟨h_t0, (fun R0 J e0 e1 => by
      have e0 : g 0 = R0 := Option.some.inj (t970.symm.trans e0)
      subst e0
      have e1 : g 1 + 1 = J := Option.some.inj e1
      subst e1
      have h3 := h_tj _ _ t970 t971
      refine ⟨by omega, fun j h4 h5 => ?_⟩
      by_cases e : (j : Int) = g 1
      · have ej : j = (g 1).toNat := by omega
        rw [ej]
        exact fun q => absurd (htm.mpr q) (by omega)
      · exact h3.2 j (by omega) h5), fun _ _ e0 e1 => no9 (o := none) rfl e1, h_tt⟩, k_n, k_j⟩
def ru_a1s : Ru := ([(0, (930, (0, (0, 0)))), (0, (931, (0, (0, 0)))), (0, (871, (0, (0, 0)))), (0, (872, (0, (0, 0)))), (0, (874, (0, (0, 0)))), (0, (875, (0, (0, 0)))), (0, (970, (0, (0, 0)))), (0, (973, (0, (0, 0)))), (0, (915, (0, (0, 0))))], ([], ([([(0, 1), (2, (-1))], 0), ([(0, (-1)), (2, 1)], 0), ([(1, 1), (3, (-1))], 0), ([(1, (-1)), (3, 1)], 0), ([(4, (-1)), (8, 1)], 0), ([(4, 1), (8, (-1))], 0)], (false, ([([(5, 1)], 1), ([(5, (-1))], (-1))], ([], ([], none)))))))
theorem rk_a1s : RuOk SGd ru_a1s := by
  intro τ m g hi hc ha hS
  obtain ⟨i0, i1, i2, i3, i4, i5, i6, i7, i8, _⟩ := hi
  have t930 : τ 930 = some (g 0) := i0
  have t931 : τ 931 = some (g 1) := i1
  have t871 : τ 871 = some (g 2) := i2
  have t872 : τ 872 = some (g 3) := i3
  have t874 : τ 874 = some (g 4) := i4
  have t875 : τ 875 = some (g 5) := i5
  have t970 : τ 970 = some (g 6) := i6
  have t973 : τ 973 = some (g 7) := i7
  have t915 : τ 915 = some (g 8) := i8
  obtain ⟨c0, c1, c2, c3, c4, c5, _⟩ := hc
  have c0 : 1 * g 0 + (-1) * g 2 ≤ 0 := d2 c0
  have c1 : (-1) * g 0 + 1 * g 2 ≤ 0 := d2 c1
  have c2 : 1 * g 1 + (-1) * g 3 ≤ 0 := d2 c2
  have c3 : (-1) * g 1 + 1 * g 3 ≤ 0 := d2 c3
  have c4 : (-1) * g 4 + 1 * g 8 ≤ 0 := d2 c4
  have c5 : 1 * g 4 + (-1) * g 8 ≤ 0 := d2 c5
  obtain ⟨⟨h_p1, h_p2, h_td⟩, k_b, k_q, k_c, k_d, k_l, k_k, k_e, k_t, k_n, k_j⟩ := hS
  have k_k0 := k_k
  obtain ⟨h_k0, h_ks, h_kk, h_kl, h_kw, h_kd, h_kz⟩ := k_k0
  have k_q0 := k_q
  obtain ⟨h_vs, h_qc, h_qr, h_qk, h_qn, h_ub⟩ := k_q0
  have k_t0 := k_t
  obtain ⟨h_t0, h_tj, h_tw, h_tt⟩ := k_t0
  have h1 := h_kz _ _ _ t930 t931 t915
  have h2 := h_qr _ _ _ _ t871 t872 t874 t875
  rw [(show g 0 = g 2 by omega), (show g 1 = g 3 by omega), (show g 8 = g 4 by omega)] at h1
  have hP : ∀ x, PxG m (g 2) (g 3) (g 4) x ↔ ∃ z, (tsG m (g 2) (g 3) 4 0 z ∨ z = g 4) ∧ x = bvG z := fun x => by
    constructor
    · rintro (⟨z, a, b⟩ | ⟨_, b⟩)
      · exact ⟨z, Or.inl a, b⟩
      · exact ⟨_, Or.inr rfl, b⟩
    · rintro ⟨z, a | a, b⟩
      · exact Or.inl ⟨z, a, b⟩
      · exact Or.inr ⟨by omega, by rw [b, a]⟩
  have hS := sp_known h1.2.1 h1.2.2 hP
  have hv := known_vec h1.2.1 h1.2.2
  obtain ⟨j, j1, j2, j3⟩ := h_tt _ _ t970 t973
  have hq := h2.2.mpr ⟨j, j2, (hS _).mpr j3⟩
  exact ⟨rfl, ⟨f1 (by omega), f1 (by omega), trivial⟩, trivial, ⟨h_p1, h_p2, h_td⟩, k_b, k_q, k_c, k_d, k_l, k_k, k_e, k_t, k_n, k_j⟩
def ru_a1n : Ru := ([(0, (930, (0, (0, 0)))), (0, (931, (0, (0, 0)))), (0, (871, (0, (0, 0)))), (0, (872, (0, (0, 0)))), (0, (874, (0, (0, 0)))), (0, (875, (0, (0, 0)))), (0, (970, (0, (0, 0)))), (0, (973, (0, (0, 0)))), (0, (937, (0, (0, 0)))), (0, (938, (0, (0, 0))))], ([913, 914, 915, 939], ([([(0, 1), (2, (-1))], 0), ([(0, (-1)), (2, 1)], 0), ([(1, 1), (3, (-1))], 0), ([(1, (-1)), (3, 1)], 0), ([(8, 1)], 4), ([(8, (-1))], (-4)), ([(9, 1)], 0), ([(9, (-1))], 0), ([(4, 1)], 0), ([(4, (-1))], 0)], (false, ([([(5, 1)], 1), ([(5, (-1))], (-1))], ([], ([], none)))))))
theorem rk_a1n : RuOk SGd ru_a1n := by
  intro τ m g hi hc ha hS
  obtain ⟨i0, i1, i2, i3, i4, i5, i6, i7, i8, i9, _⟩ := hi
  have t930 : τ 930 = some (g 0) := i0
  have t931 : τ 931 = some (g 1) := i1
  have t871 : τ 871 = some (g 2) := i2
  have t872 : τ 872 = some (g 3) := i3
  have t874 : τ 874 = some (g 4) := i4
  have t875 : τ 875 = some (g 5) := i5
  have t970 : τ 970 = some (g 6) := i6
  have t973 : τ 973 = some (g 7) := i7
  have t937 : τ 937 = some (g 8) := i8
  have t938 : τ 938 = some (g 9) := i9
  obtain ⟨c0, c1, c2, c3, c4, c5, c6, c7, c8, c9, _⟩ := hc
  have c0 : 1 * g 0 + (-1) * g 2 ≤ 0 := d2 c0
  have c1 : (-1) * g 0 + 1 * g 2 ≤ 0 := d2 c1
  have c2 : 1 * g 1 + (-1) * g 3 ≤ 0 := d2 c2
  have c3 : (-1) * g 1 + 1 * g 3 ≤ 0 := d2 c3
  have c4 : 1 * g 8 ≤ 4 := d1 c4
  have c5 : (-1) * g 8 ≤ (-4) := d1 c5
  have c6 : 1 * g 9 ≤ 0 := d1 c6
  have c7 : (-1) * g 9 ≤ 0 := d1 c7
  have c8 : 1 * g 4 ≤ 0 := d1 c8
  have c9 : (-1) * g 4 ≤ 0 := d1 c9
  obtain ⟨a0, a1, a2, a3, _⟩ := ha
  have n913 : τ 913 = none := a0
  have n914 : τ 914 = none := a1
  have n915 : τ 915 = none := a2
  have n939 : τ 939 = none := a3
  obtain ⟨⟨h_p1, h_p2, h_td⟩, k_b, k_q, k_c, k_d, k_l, k_k, k_e, k_t, k_n, k_j⟩ := hS
  have k_k0 := k_k
  obtain ⟨h_k0, h_ks, h_kk, h_kl, h_kw, h_kd, h_kz⟩ := k_k0
  have k_q0 := k_q
  obtain ⟨h_vs, h_qc, h_qr, h_qk, h_qn, h_ub⟩ := k_q0
  have k_t0 := k_t
  obtain ⟨h_t0, h_tj, h_tw, h_tt⟩ := k_t0
  have h0 := h_k0 _ _ _ _ t930 t931 t937 t938
  have h2 := h_qr _ _ _ _ t871 t872 t874 t875
  have h1 := h0.2.2
  rw [(show g 8 = 4 by omega), (show g 9 = 0 by omega), (show g 0 = g 2 by omega), (show g 1 = g 3 by omega)] at h1
  have h1 := h1 n913 n914 n915
  have hP : ∀ x, PxG m (g 2) (g 3) (g 4) x ↔ ∃ z, tsG m (g 2) (g 3) 4 0 z ∧ x = bvG z := fun x => by
    constructor
    · rintro (q | ⟨q, _⟩)
      · exact q
      · exact absurd (show g 4 = 0 by omega) q
    · exact Or.inl
  have hS := sp_known h0.2.1 h1 hP
  have hv := known_vec h0.2.1 h1
  obtain ⟨j, j1, j2, j3⟩ := h_tt _ _ t970 t973
  have hq := h2.2.mpr ⟨j, j2, (hS _).mpr j3⟩
  exact ⟨rfl, ⟨f1 (by omega), f1 (by omega), trivial⟩, trivial, ⟨h_p1, h_p2, h_td⟩, k_b, k_q, k_c, k_d, k_l, k_k, k_e, k_t, k_n, k_j⟩
def ru_a0s : Ru := ([(0, (930, (0, (0, 0)))), (0, (931, (0, (0, 0)))), (0, (871, (0, (0, 0)))), (0, (872, (0, (0, 0)))), (0, (874, (0, (0, 0)))), (0, (875, (0, (0, 0)))), (0, (970, (0, (0, 0)))), (0, (971, (0, (0, 0)))), (0, (915, (0, (0, 0)))), (0, (870, (0, (0, 0)))), (5, (110, (6, (0, 0))))], ([972], ([([(0, 1), (2, (-1))], 0), ([(0, (-1)), (2, 1)], 0), ([(1, 1), (3, (-1))], 0), ([(1, (-1)), (3, 1)], 0), ([(4, (-1)), (8, 1)], 0), ([(4, 1), (8, (-1))], 0), ([(4, (-1)), (9, 1)], 0), ([(4, 1), (9, (-1))], 0), ([(7, (-1)), (10, 1)], 0)], (false, ([([(5, 1)], 0), ([(5, (-1))], 0)], ([], ([], none)))))))
theorem rk_a0s : RuOk SGd ru_a0s := by
  intro τ m g hi hc ha hS
  obtain ⟨i0, i1, i2, i3, i4, i5, i6, i7, i8, i9, i10, _⟩ := hi
  have t930 : τ 930 = some (g 0) := i0
  have t931 : τ 931 = some (g 1) := i1
  have t871 : τ 871 = some (g 2) := i2
  have t872 : τ 872 = some (g 3) := i3
  have t874 : τ 874 = some (g 4) := i4
  have t875 : τ 875 = some (g 5) := i5
  have t970 : τ 970 = some (g 6) := i6
  have t971 : τ 971 = some (g 7) := i7
  have t915 : τ 915 = some (g 8) := i8
  have t870 : τ 870 = some (g 9) := i9
  have xpe : g 10 = m 110 6 := i10
  obtain ⟨c0, c1, c2, c3, c4, c5, c6, c7, c8, _⟩ := hc
  have c0 : 1 * g 0 + (-1) * g 2 ≤ 0 := d2 c0
  have c1 : (-1) * g 0 + 1 * g 2 ≤ 0 := d2 c1
  have c2 : 1 * g 1 + (-1) * g 3 ≤ 0 := d2 c2
  have c3 : (-1) * g 1 + 1 * g 3 ≤ 0 := d2 c3
  have c4 : (-1) * g 4 + 1 * g 8 ≤ 0 := d2 c4
  have c5 : 1 * g 4 + (-1) * g 8 ≤ 0 := d2 c5
  have c6 : (-1) * g 4 + 1 * g 9 ≤ 0 := d2 c6
  have c7 : 1 * g 4 + (-1) * g 9 ≤ 0 := d2 c7
  have c8 : (-1) * g 7 + 1 * g 10 ≤ 0 := d2 c8
  obtain ⟨a0, _⟩ := ha
  have n972 : τ 972 = none := a0
  obtain ⟨⟨h_p1, h_p2, h_td⟩, k_b, k_q, k_c, k_d, k_l, k_k, k_e, k_t, k_n, k_j⟩ := hS
  have k_k0 := k_k
  obtain ⟨h_k0, h_ks, h_kk, h_kl, h_kw, h_kd, h_kz⟩ := k_k0
  have k_q0 := k_q
  obtain ⟨h_vs, h_qc, h_qr, h_qk, h_qn, h_ub⟩ := k_q0
  have k_t0 := k_t
  obtain ⟨h_t0, h_tj, h_tw, h_tt⟩ := k_t0
  have h1 := h_kz _ _ _ t930 t931 t915
  have h2 := h_qr _ _ _ _ t871 t872 t874 t875
  rw [(show g 0 = g 2 by omega), (show g 1 = g 3 by omega), (show g 8 = g 4 by omega)] at h1
  have hP : ∀ x, PxG m (g 2) (g 3) (g 4) x ↔ ∃ z, (tsG m (g 2) (g 3) 4 0 z ∨ z = g 4) ∧ x = bvG z := fun x => by
    constructor
    · rintro (⟨z, a, b⟩ | ⟨_, b⟩)
      · exact ⟨z, Or.inl a, b⟩
      · exact ⟨_, Or.inr rfl, b⟩
    · rintro ⟨z, a | a, b⟩
      · exact Or.inl ⟨z, a, b⟩
      · exact Or.inr ⟨by omega, by rw [b, a]⟩
  have hS := sp_known h1.2.1 h1.2.2 hP
  have hv := known_vec h1.2.1 h1.2.2
  have h3 := h_tj _ _ t970 t971
  have hq : ¬ g 5 = 1 := fun e => by
    obtain ⟨j, hj, hs⟩ := h2.2.mp e
    have hs := (hS _).mp hs
    by_cases hp : (j : Int) < g 7
    · exact h3.2 j hp hj hs
    · refine un_out hj (fun i hi => ?_) hs
      obtain ⟨z, a, b⟩ := hv.1 i hi
      rw [b]
      rcases a with a | a
      · obtain ⟨y, i9, b1, b2, b3, b4, b5⟩ := a
        rw [b5]; exact ((h_td.2 y b1).2 i9 b3.1).2.1 j (by omega)
      · rw [a, ← (show g 9 = g 4 by omega)]; exact (h_vs _ t870).2 j (by omega)
  exact ⟨rfl, ⟨f1 (by omega), f1 (by omega), trivial⟩, trivial, ⟨h_p1, h_p2, h_td⟩, k_b, k_q, k_c, k_d, k_l, k_k, k_e, k_t, k_n, k_j⟩
def ru_a0n : Ru := ([(0, (930, (0, (0, 0)))), (0, (931, (0, (0, 0)))), (0, (871, (0, (0, 0)))), (0, (872, (0, (0, 0)))), (0, (874, (0, (0, 0)))), (0, (875, (0, (0, 0)))), (0, (970, (0, (0, 0)))), (0, (971, (0, (0, 0)))), (0, (937, (0, (0, 0)))), (0, (938, (0, (0, 0)))), (5, (110, (6, (0, 0))))], ([913, 914, 915, 939, 972], ([([(0, 1), (2, (-1))], 0), ([(0, (-1)), (2, 1)], 0), ([(1, 1), (3, (-1))], 0), ([(1, (-1)), (3, 1)], 0), ([(8, 1)], 4), ([(8, (-1))], (-4)), ([(9, 1)], 0), ([(9, (-1))], 0), ([(4, 1)], 0), ([(4, (-1))], 0), ([(7, (-1)), (10, 1)], 0)], (false, ([([(5, 1)], 0), ([(5, (-1))], 0)], ([], ([], none)))))))
theorem rk_a0n : RuOk SGd ru_a0n := by
  intro τ m g hi hc ha hS
  obtain ⟨i0, i1, i2, i3, i4, i5, i6, i7, i8, i9, i10, _⟩ := hi
  have t930 : τ 930 = some (g 0) := i0
  have t931 : τ 931 = some (g 1) := i1
  have t871 : τ 871 = some (g 2) := i2
  have t872 : τ 872 = some (g 3) := i3
  have t874 : τ 874 = some (g 4) := i4
  have t875 : τ 875 = some (g 5) := i5
  have t970 : τ 970 = some (g 6) := i6
  have t971 : τ 971 = some (g 7) := i7
  have t937 : τ 937 = some (g 8) := i8
  have t938 : τ 938 = some (g 9) := i9
  have xpe : g 10 = m 110 6 := i10
  obtain ⟨c0, c1, c2, c3, c4, c5, c6, c7, c8, c9, c10, _⟩ := hc
  have c0 : 1 * g 0 + (-1) * g 2 ≤ 0 := d2 c0
  have c1 : (-1) * g 0 + 1 * g 2 ≤ 0 := d2 c1
  have c2 : 1 * g 1 + (-1) * g 3 ≤ 0 := d2 c2
  have c3 : (-1) * g 1 + 1 * g 3 ≤ 0 := d2 c3
  have c4 : 1 * g 8 ≤ 4 := d1 c4
  have c5 : (-1) * g 8 ≤ (-4) := d1 c5
  have c6 : 1 * g 9 ≤ 0 := d1 c6
  have c7 : (-1) * g 9 ≤ 0 := d1 c7
  have c8 : 1 * g 4 ≤ 0 := d1 c8
  have c9 : (-1) * g 4 ≤ 0 := d1 c9
  have c10 : (-1) * g 7 + 1 * g 10 ≤ 0 := d2 c10
  obtain ⟨a0, a1, a2, a3, a4, _⟩ := ha
  have n913 : τ 913 = none := a0
  have n914 : τ 914 = none := a1
  have n915 : τ 915 = none := a2
  have n939 : τ 939 = none := a3
  have n972 : τ 972 = none := a4
  obtain ⟨⟨h_p1, h_p2, h_td⟩, k_b, k_q, k_c, k_d, k_l, k_k, k_e, k_t, k_n, k_j⟩ := hS
  have k_k0 := k_k
  obtain ⟨h_k0, h_ks, h_kk, h_kl, h_kw, h_kd, h_kz⟩ := k_k0
  have k_q0 := k_q
  obtain ⟨h_vs, h_qc, h_qr, h_qk, h_qn, h_ub⟩ := k_q0
  have k_t0 := k_t
  obtain ⟨h_t0, h_tj, h_tw, h_tt⟩ := k_t0
  have h0 := h_k0 _ _ _ _ t930 t931 t937 t938
  have h2 := h_qr _ _ _ _ t871 t872 t874 t875
  have h1 := h0.2.2
  rw [(show g 8 = 4 by omega), (show g 9 = 0 by omega), (show g 0 = g 2 by omega), (show g 1 = g 3 by omega)] at h1
  have h1 := h1 n913 n914 n915
  have hP : ∀ x, PxG m (g 2) (g 3) (g 4) x ↔ ∃ z, tsG m (g 2) (g 3) 4 0 z ∧ x = bvG z := fun x => by
    constructor
    · rintro (q | ⟨q, _⟩)
      · exact q
      · exact absurd (show g 4 = 0 by omega) q
    · exact Or.inl
  have hS := sp_known h0.2.1 h1 hP
  have hv := known_vec h0.2.1 h1
  have h3 := h_tj _ _ t970 t971
  have hq : ¬ g 5 = 1 := fun e => by
    obtain ⟨j, hj, hs⟩ := h2.2.mp e
    have hs := (hS _).mp hs
    by_cases hp : (j : Int) < g 7
    · exact h3.2 j hp hj hs
    · refine un_out hj (fun i hi => ?_) hs
      obtain ⟨z, a, b⟩ := hv.1 i hi
      rw [b]
      obtain ⟨y, i9, b1, b2, b3, b4, b5⟩ := a
      rw [b5]; exact ((h_td.2 y b1).2 i9 b3.1).2.1 j (by omega)
  exact ⟨rfl, ⟨f1 (by omega), f1 (by omega), trivial⟩, trivial, ⟨h_p1, h_p2, h_td⟩, k_b, k_q, k_c, k_d, k_l, k_k, k_e, k_t, k_n, k_j⟩
def ru_tfr : Ru := ([], ([963, 972], ([], (false, ([], ([], ([(970, none), (971, none), (973, none)], none)))))))
theorem rk_tfr : RuOk SGd ru_tfr := by
  intro τ m g hi hc ha hS
  obtain ⟨a0, a1, _⟩ := ha
  have n963 : τ 963 = none := a0
  have n972 : τ 972 = none := a1
  obtain ⟨⟨h_p1, h_p2, h_td⟩, k_b, k_q, k_c, k_d, k_l, k_k, k_e, k_t, k_n, k_j⟩ := hS
  have k_t0 := k_t
  obtain ⟨h_t0, h_tj, h_tw, h_tt⟩ := k_t0
  exact ⟨rfl, trivial, trivial, ⟨h_p1, h_p2, h_td⟩, k_b, k_q, k_c, k_d, k_l, k_k, k_e, ⟨fun _ e0 => no9 (o := none) rfl e0, fun _ _ e0 e1 => no9 (o := none) rfl e0, fun _ _ e0 e1 => no9 (o := none) rfl e0, fun _ _ e0 e1 => no9 (o := none) rfl e0⟩, k_n, k_j⟩
def ru_kn : Ru := ([(0, (930, (0, (0, 0)))), (0, (931, (0, (0, 0)))), (0, (871, (0, (0, 0)))), (0, (872, (0, (0, 0)))), (0, (877, (0, (0, 0)))), (0, (937, (0, (0, 0)))), (0, (938, (0, (0, 0)))), (5, (110, (134, (0, 0))))], ([913, 914, 915, 939], ([([(0, 1), (2, (-1))], 0), ([(0, (-1)), (2, 1)], 0), ([(1, 1), (3, (-1))], 0), ([(1, (-1)), (3, 1)], 0), ([(5, 1)], 4), ([(5, (-1))], (-4)), ([(6, 1)], 0), ([(6, (-1))], 0)], (false, ([([(4, (-1)), (7, 1)], 0), ([(4, 1), (7, (-1))], 0)], ([], ([], none)))))))
theorem rk_kn : RuOk SGd ru_kn := by
  intro τ m g hi hc ha hS
  obtain ⟨i0, i1, i2, i3, i4, i5, i6, i7, _⟩ := hi
  have t930 : τ 930 = some (g 0) := i0
  have t931 : τ 931 = some (g 1) := i1
  have t871 : τ 871 = some (g 2) := i2
  have t872 : τ 872 = some (g 3) := i3
  have t877 : τ 877 = some (g 4) := i4
  have t937 : τ 937 = some (g 5) := i5
  have t938 : τ 938 = some (g 6) := i6
  have xkc : g 7 = m 110 134 := i7
  obtain ⟨c0, c1, c2, c3, c4, c5, c6, c7, _⟩ := hc
  have c0 : 1 * g 0 + (-1) * g 2 ≤ 0 := d2 c0
  have c1 : (-1) * g 0 + 1 * g 2 ≤ 0 := d2 c1
  have c2 : 1 * g 1 + (-1) * g 3 ≤ 0 := d2 c2
  have c3 : (-1) * g 1 + 1 * g 3 ≤ 0 := d2 c3
  have c4 : 1 * g 5 ≤ 4 := d1 c4
  have c5 : (-1) * g 5 ≤ (-4) := d1 c5
  have c6 : 1 * g 6 ≤ 0 := d1 c6
  have c7 : (-1) * g 6 ≤ 0 := d1 c7
  obtain ⟨a0, a1, a2, a3, _⟩ := ha
  have n913 : τ 913 = none := a0
  have n914 : τ 914 = none := a1
  have n915 : τ 915 = none := a2
  have n939 : τ 939 = none := a3
  obtain ⟨⟨h_p1, h_p2, h_td⟩, k_b, k_q, k_c, k_d, k_l, k_k, k_e, k_t, k_n, k_j⟩ := hS
  have k_k0 := k_k
  obtain ⟨h_k0, h_ks, h_kk, h_kl, h_kw, h_kd, h_kz⟩ := k_k0
  have k_q0 := k_q
  obtain ⟨h_vs, h_qc, h_qr, h_qk, h_qn, h_ub⟩ := k_q0
  have h1 := h_k0 _ _ _ _ t930 t931 t937 t938
  have h2 := h_qn _ _ _ t871 t872 t877
  have h3 := h1.2.2
  have ea : g 5 = 4 := by omega
  have ei : g 6 = 0 := by omega
  rw [ea, ei, (show g 0 = g 2 by omega), (show g 1 = g 3 by omega)] at h3
  obtain ⟨h4, L, h5⟩ := h2
  have h6 := en_eq (h3 n913 n914 n915) h5
  exact ⟨rfl, ⟨f2 (by omega), f2 (by omega), trivial⟩, trivial, ⟨h_p1, h_p2, h_td⟩, k_b, k_q, k_c, k_d, k_l, k_k, k_e, k_t, k_n, k_j⟩
def ru_kr : Ru := ([(0, (930, (0, (0, 0)))), (0, (931, (0, (0, 0)))), (0, (871, (0, (0, 0)))), (0, (872, (0, (0, 0)))), (0, (876, (0, (0, 0)))), (0, (963, (0, (0, 0)))), (0, (964, (0, (0, 0)))), (0, (937, (0, (0, 0)))), (0, (938, (0, (0, 0))))], ([913, 914, 915, 939], ([([(0, 1), (2, (-1))], 0), ([(0, (-1)), (2, 1)], 0), ([(1, 1), (3, (-1))], 0), ([(1, (-1)), (3, 1)], 0), ([(7, 1)], 4), ([(7, (-1))], (-4)), ([(8, 1)], 0), ([(8, (-1))], 0), ([(6, 1)], 0), ([(6, (-1))], 0)], (false, ([([(4, (-1)), (5, 1)], 0), ([(4, 1), (5, (-1))], 0)], ([], ([], none)))))))
theorem rk_kr : RuOk SGd ru_kr := by
  intro τ m g hi hc ha hS
  obtain ⟨i0, i1, i2, i3, i4, i5, i6, i7, i8, _⟩ := hi
  have t930 : τ 930 = some (g 0) := i0
  have t931 : τ 931 = some (g 1) := i1
  have t871 : τ 871 = some (g 2) := i2
  have t872 : τ 872 = some (g 3) := i3
  have t876 : τ 876 = some (g 4) := i4
  have t963 : τ 963 = some (g 5) := i5
  have t964 : τ 964 = some (g 6) := i6
  have t937 : τ 937 = some (g 7) := i7
  have t938 : τ 938 = some (g 8) := i8
  obtain ⟨c0, c1, c2, c3, c4, c5, c6, c7, c8, c9, _⟩ := hc
  have c0 : 1 * g 0 + (-1) * g 2 ≤ 0 := d2 c0
  have c1 : (-1) * g 0 + 1 * g 2 ≤ 0 := d2 c1
  have c2 : 1 * g 1 + (-1) * g 3 ≤ 0 := d2 c2
  have c3 : (-1) * g 1 + 1 * g 3 ≤ 0 := d2 c3
  have c4 : 1 * g 7 ≤ 4 := d1 c4
  have c5 : (-1) * g 7 ≤ (-4) := d1 c5
  have c6 : 1 * g 8 ≤ 0 := d1 c6
  have c7 : (-1) * g 8 ≤ 0 := d1 c7
  have c8 : 1 * g 6 ≤ 0 := d1 c8
  have c9 : (-1) * g 6 ≤ 0 := d1 c9
  obtain ⟨a0, a1, a2, a3, _⟩ := ha
  have n913 : τ 913 = none := a0
  have n914 : τ 914 = none := a1
  have n915 : τ 915 = none := a2
  have n939 : τ 939 = none := a3
  obtain ⟨⟨h_p1, h_p2, h_td⟩, k_b, k_q, k_c, k_d, k_l, k_k, k_e, k_t, k_n, k_j⟩ := hS
  have k_k0 := k_k
  obtain ⟨h_k0, h_ks, h_kk, h_kl, h_kw, h_kd, h_kz⟩ := k_k0
  have k_q0 := k_q
  obtain ⟨h_vs, h_qc, h_qr, h_qk, h_qn, h_ub⟩ := k_q0
  have k_e0 := k_e
  obtain ⟨h_en, h_ef, h_ew, h_er, h_ep, h_ez, h_es, h_ed, h_pw, h_pv, h_eb, h_ei, h_ek, h_rr⟩ := k_e0
  have h1 := h_k0 _ _ _ _ t930 t931 t937 t938
  have h3 := h1.2.2
  have ea : g 7 = 4 := by omega
  have ei : g 8 = 0 := by omega
  rw [ea, ei, (show g 0 = g 2 by omega), (show g 1 = g 3 by omega)] at h3
  have hv := known_vec h1.2.1 (h3 n913 n914 n915)
  obtain ⟨h4, q, d, B9, h5⟩ := h_qk _ _ _ t871 t872 t876
  have h6 := GA_RK h5 (m 110 134).toNat (fmG m 0) (fun i hi => by obtain ⟨z, a, b⟩ := hv.1 i hi; exact ⟨z, a, b⟩) (fun x hx => by
    obtain ⟨z, a, b⟩ := hx
    obtain ⟨i, hi, e⟩ := hv.2 z a
    exact ⟨i, hi, fun c _ => by rw [e, b]⟩)
  have h7 := h_rr _ _ t963 t964
  rw [(show g 6 = 0 by omega), if_pos rfl, Int.add_zero] at h7
  have h8 := RK_eq h6 h7.2.2.2 (fun i hi => sp_mem _ _ i hi) (fun i hi => sp_mem _ _ i hi)
  exact ⟨rfl, ⟨f2 (by omega), f2 (by omega), trivial⟩, trivial, ⟨h_p1, h_p2, h_td⟩, k_b, k_q, k_c, k_d, k_l, k_k, k_e, k_t, k_n, k_j⟩
def ru_mbit : Ru := ([(0, (930, (0, (0, 0)))), (0, (931, (0, (0, 0)))), (0, (936, (0, (0, 0)))), (0, (878, (0, (0, 0)))), (0, (879, (0, (0, 0)))), (0, (868, (0, (0, 0)))), (9, (201, (4, (1, 0))))], ([], ([([(0, 1), (3, (-1))], 0), ([(0, (-1)), (3, 1)], 0), ([(1, 1), (3, (-1))], 0), ([(1, (-1)), (3, 1)], 0), ([(6, (-1))], 0), ([(6, 1)], 1), ([(4, (-1))], 0), ([(4, 1)], 3)], (false, ([([(5, (-1)), (6, 1)], 0), ([(5, 1), (6, (-1))], 0)], ([], ([], none)))))))
theorem rk_mbit : RuOk SGd ru_mbit := by
  intro τ m g hi hc ha hS
  obtain ⟨i0, i1, i2, i3, i4, i5, i6, _⟩ := hi
  have t930 : τ 930 = some (g 0) := i0
  have t931 : τ 931 = some (g 1) := i1
  have t936 : τ 936 = some (g 2) := i2
  have t878 : τ 878 = some (g 3) := i3
  have t879 : τ 879 = some (g 4) := i4
  have t868 : τ 868 = some (g 5) := i5
  obtain ⟨jx, ux, vx⟩ : ∃ j : Nat, 1 * g 4 + 0 = (j : Int) ∧ g 6 = m 201 j := i6
  obtain ⟨c0, c1, c2, c3, c4, c5, c6, c7, _⟩ := hc
  have c0 : 1 * g 0 + (-1) * g 3 ≤ 0 := d2 c0
  have c1 : (-1) * g 0 + 1 * g 3 ≤ 0 := d2 c1
  have c2 : 1 * g 1 + (-1) * g 3 ≤ 0 := d2 c2
  have c3 : (-1) * g 1 + 1 * g 3 ≤ 0 := d2 c3
  have c4 : (-1) * g 6 ≤ 0 := d1 c4
  have c5 : 1 * g 6 ≤ 1 := d1 c5
  have c6 : (-1) * g 4 ≤ 0 := d1 c6
  have c7 : 1 * g 4 ≤ 3 := d1 c7
  obtain ⟨⟨h_p1, h_p2, h_td⟩, k_b, k_q, k_c, k_d, k_l, k_k, k_e, k_t, k_n, k_j⟩ := hS
  have k_l0 := k_l
  obtain ⟨h_l0, h_lk, h_lg, h_lp, h_la, h_lc⟩ := k_l0
  have k_q0 := k_q
  obtain ⟨h_vs, h_qc, h_qr, h_qk, h_qn, h_ub⟩ := k_q0
  have h1 := h_ub _ _ _ t878 t879 t868
  have h2 := h_lc _ _ _ t930 t931 t936 (g 4).toNat (by omega)
  have ejx : jx = (g 4).toNat := by omega
  subst ejx
  have e1 : (g 0).toNat = (g 3).toNat := by omega
  have e2 : (g 1).toNat = (g 3).toNat := by omega
  have h3 : m 201 (g 4).toNat ≠ 0 ↔ g 5 = 1 := by
    rw [h2, h1.2.2]
    unfold inG
    rw [e1, e2]
    exact ⟨fun q => q.elim id id, Or.inl⟩
  have hx : g 6 = g 5 := by
    by_cases e : g 5 = 1
    · have := h3.mpr e
      omega
    · have : ¬ m 201 (g 4).toNat ≠ 0 := fun q => e (h3.mp q)
      omega
  exact ⟨rfl, ⟨f2 (by omega), f2 (by omega), trivial⟩, trivial, ⟨h_p1, h_p2, h_td⟩, k_b, k_q, k_c, k_d, k_l, k_k, k_e, k_t, k_n, k_j⟩
def ru_lfr : Ru := ([], ([], ([], (false, ([], ([], ([(930, none), (931, none), (932, none), (933, none), (934, none), (935, none), (936, none), (937, none), (938, none), (939, none), (910, none), (911, none), (912, none), (913, none), (914, none), (915, none), (940, none), (941, none), (942, none), (943, none), (944, none), (945, none), (946, none), (947, none), (948, none), (949, none), (950, none), (951, none), (952, none), (953, none), (954, none), (955, none), (956, none), (957, none), (958, none), (959, none), (960, none), (961, none), (962, none), (963, none), (964, none), (965, none), (966, none), (967, none), (968, none), (969, none), (970, none), (971, none), (972, none), (973, none), (974, none)], none)))))))
theorem rk_lfr : RuOk SGd ru_lfr := by
  intro τ m g hi hc ha hS
  obtain ⟨⟨h_p1, h_p2, h_td⟩, k_b, k_q, k_c, k_d, k_l, k_k, k_e, k_t, k_n, k_j⟩ := hS
  have k_l0 := k_l
  obtain ⟨h_l0, h_lk, h_lg, h_lp, h_la, h_lc⟩ := k_l0
  have k_k0 := k_k
  obtain ⟨h_k0, h_ks, h_kk, h_kl, h_kw, h_kd, h_kz⟩ := k_k0
  have k_e0 := k_e
  obtain ⟨h_en, h_ef, h_ew, h_er, h_ep, h_ez, h_es, h_ed, h_pw, h_pv, h_eb, h_ei, h_ek, h_rr⟩ := k_e0
  have k_t0 := k_t
  obtain ⟨h_t0, h_tj, h_tw, h_tt⟩ := k_t0
  exact ⟨rfl, trivial, trivial, ⟨h_p1, h_p2, h_td⟩, k_b, k_q, k_c, k_d, ⟨fun _ _ e0 e1 => no9 (o := none) rfl e0, fun _ _ _ e0 e1 e2 => no9 (o := none) rfl e0, fun _ _ _ e0 e1 e2 => no9 (o := none) rfl e0, fun _ _ e0 e1 => no9 (o := none) rfl e0, fun _ _ _ _ e0 e1 e2 e3 => no9 (o := none) rfl e0, fun _ _ _ e0 e1 e2 => no9 (o := none) rfl e0⟩, ⟨fun _ _ _ _ e0 e1 e2 e3 => no9 (o := none) rfl e0, fun _ e0 => no9 (o := none) rfl e0, fun _ _ e0 e1 => no9 (o := none) rfl e0, fun _ _ _ _ _ _ e0 e1 e2 e3 e4 e5 => no9 (o := none) rfl e0, fun _ _ _ _ _ _ _ e0 e1 e2 e3 e4 e5 e6 => no9 (o := none) rfl e0, fun _ _ _ _ _ _ e0 e1 e2 e3 e4 e5 => no9 (o := none) rfl e0, fun _ _ _ e0 e1 e2 => no9 (o := none) rfl e0⟩, ⟨fun _ _ e0 e1 => no9 (o := none) rfl e0, fun _ _ _ _ e0 e1 e2 e3 => no9 (o := none) rfl e0, fun _ _ _ e0 e1 e2 => no9 (o := none) rfl e0, fun _ _ _ _ e0 e1 e2 e3 => no9 (o := none) rfl e0, fun _ _ _ _ _ e0 e1 e2 e3 e4 => no9 (o := none) rfl e0, fun _ _ _ _ _ _ e0 e1 e2 e3 e4 e5 => no9 (o := none) rfl e0, fun _ _ _ _ _ _ _ e0 e1 e2 e3 e4 e5 e6 => no9 (o := none) rfl e0, fun _ _ _ _ _ e0 e1 e2 e3 e4 => no9 (o := none) rfl e0, fun _ _ _ _ e0 e1 e2 e3 => no9 (o := none) rfl e0, fun _ _ e0 e1 => no9 (o := none) rfl e0, fun _ _ _ _ _ _ e0 e1 e2 e3 e4 e5 => no9 (o := none) rfl e0, fun _ _ _ _ _ _ _ e0 e1 e2 e3 e4 e5 e6 => no9 (o := none) rfl e0, fun _ _ _ _ _ _ _ _ _ e0 e1 e2 e3 e4 e5 e6 e7 e8 => no9 (o := none) rfl e0, fun _ _ e0 e1 => no9 (o := none) rfl e0⟩, ⟨fun _ e0 => no9 (o := none) rfl e0, fun _ _ e0 e1 => no9 (o := none) rfl e0, fun _ _ e0 e1 => no9 (o := none) rfl e0, fun _ _ e0 e1 => no9 (o := none) rfl e0⟩, k_n, k_j⟩
def ru_qfr : Ru := ([], ([880, 881, 882, 883, 884, 885, 886, 887, 888, 889, 890, 891, 892, 893, 894, 895, 896, 897, 898, 899, 905, 906, 907, 920, 921, 922, 923, 924, 925, 926, 927, 928, 929, 980], ([], (false, ([], ([], ([(871, none), (872, none), (873, none), (874, none), (875, none), (876, none), (877, none), (878, none), (879, none), (868, none), (869, none), (930, none), (931, none), (932, none), (933, none), (934, none), (935, none), (936, none), (937, none), (938, none), (939, none), (910, none), (911, none), (912, none), (913, none), (914, none), (915, none), (910, none), (911, none), (940, none), (941, none), (942, none), (943, none), (944, none), (945, none), (946, none), (947, none), (948, none), (949, none), (950, none), (951, none), (952, none), (953, none), (954, none), (955, none), (956, none), (957, none), (958, none), (959, none), (960, none), (961, none), (962, none), (963, none), (964, none), (965, none), (966, none), (967, none), (968, none), (969, none), (970, none), (971, none), (972, none), (973, none), (974, none)], none)))))))
theorem rk_qfr : RuOk SGd ru_qfr := by
  intro τ m g hi hc ha hS
  obtain ⟨a0, a1, a2, a3, a4, a5, a6, a7, a8, a9, a10, a11, a12, a13, a14, a15, a16, a17, a18, a19, a20, a21, a22, a23, a24, a25, a26, a27, a28, a29, a30, a31, a32, a33, _⟩ := ha
  have n880 : τ 880 = none := a0
  have n881 : τ 881 = none := a1
  have n882 : τ 882 = none := a2
  have n883 : τ 883 = none := a3
  have n884 : τ 884 = none := a4
  have n885 : τ 885 = none := a5
  have n886 : τ 886 = none := a6
  have n887 : τ 887 = none := a7
  have n888 : τ 888 = none := a8
  have n889 : τ 889 = none := a9
  have n890 : τ 890 = none := a10
  have n891 : τ 891 = none := a11
  have n892 : τ 892 = none := a12
  have n893 : τ 893 = none := a13
  have n894 : τ 894 = none := a14
  have n895 : τ 895 = none := a15
  have n896 : τ 896 = none := a16
  have n897 : τ 897 = none := a17
  have n898 : τ 898 = none := a18
  have n899 : τ 899 = none := a19
  have n905 : τ 905 = none := a20
  have n906 : τ 906 = none := a21
  have n907 : τ 907 = none := a22
  have n920 : τ 920 = none := a23
  have n921 : τ 921 = none := a24
  have n922 : τ 922 = none := a25
  have n923 : τ 923 = none := a26
  have n924 : τ 924 = none := a27
  have n925 : τ 925 = none := a28
  have n926 : τ 926 = none := a29
  have n927 : τ 927 = none := a30
  have n928 : τ 928 = none := a31
  have n929 : τ 929 = none := a32
  have n980 : τ 980 = none := a33
  obtain ⟨⟨h_p1, h_p2, h_td⟩, k_b, k_q, k_c, k_d, k_l, k_k, k_e, k_t, k_n, k_j⟩ := hS
  have k_b0 := k_b
  obtain ⟨h_bit, h_one, h_or, h_and, h_shr, h_m1, h_m2, h_dv, h_r1, h_r2, h_nz⟩ := k_b0
  have k_q0 := k_q
  obtain ⟨h_vs, h_qc, h_qr, h_qk, h_qn, h_ub⟩ := k_q0
  have k_c0 := k_c
  obtain ⟨h_ga, h_in, h_ls, h_ld, h_w, h_rd, h_lead, h_ps, h_E, h_up, h_D, h_Z, h_s, h_sp⟩ := k_c0
  have k_d0 := k_d
  obtain ⟨h_dn, h_di, h_dh, h_dw, h_dx, h_dg, h_dy, h_df⟩ := k_d0
  have k_l0 := k_l
  obtain ⟨h_l0, h_lk, h_lg, h_lp, h_la, h_lc⟩ := k_l0
  have k_k0 := k_k
  obtain ⟨h_k0, h_ks, h_kk, h_kl, h_kw, h_kd, h_kz⟩ := k_k0
  have k_e0 := k_e
  obtain ⟨h_en, h_ef, h_ew, h_er, h_ep, h_ez, h_es, h_ed, h_pw, h_pv, h_eb, h_ei, h_ek, h_rr⟩ := k_e0
  have k_t0 := k_t
  obtain ⟨h_t0, h_tj, h_tw, h_tt⟩ := k_t0
  have h_jn := k_j
  exact ⟨rfl, trivial, trivial, ⟨h_p1, h_p2, h_td⟩, ⟨h_bit, h_one, h_or, h_and, h_shr, h_m1, h_m2, h_dv, h_r1, h_r2, fun _ e0 => no9 (o := none) rfl e0⟩, ⟨h_vs, fun _ _ _ e0 e1 e2 => no9 (o := none) rfl e0, fun _ _ _ _ e0 e1 e2 e3 => no9 (o := none) rfl e0, fun _ _ _ e0 e1 e2 => no9 (o := none) rfl e0, fun _ _ _ e0 e1 e2 => no9 (o := none) rfl e0, fun _ _ _ e0 e1 e2 => no9 (o := none) rfl e0⟩, ⟨fun _ _ _ _ e0 e1 e2 e3 => no9 (o := none) rfl e0, fun _ _ _ _ e0 e1 e2 e3 => no9 (o := none) rfl e0, fun _ _ _ _ _ _ e0 e1 e2 e3 e4 e5 => no9 (o := none) rfl e0, fun _ _ _ _ _ _ e0 e1 e2 e3 e4 e5 => no9 (o := none) rfl e0, h_w, h_rd, h_lead, h_ps, h_E, fun _ _ _ _ _ _ _ _ _ e0 e1 e2 e3 e4 e5 e6 e7 e8 => no9 (o := none) rfl e0, fun _ _ _ _ _ e0 e1 e2 e3 e4 => no9 (o := none) rfl e0, fun _ _ _ e0 e1 e2 => no9 (o := none) rfl e0, h_s, h_sp⟩, ⟨fun _ _ _ _ _ e0 e1 e2 e3 e4 => no9 (o := none) rfl e0, fun _ _ _ _ e0 e1 e2 e3 => no9 (o := none) rfl e0, fun _ _ _ _ e0 e1 e2 e3 => no9 (o := none) rfl e0, fun _ _ _ _ _ e0 e1 e2 e3 e4 => no9 (o := none) rfl e0, fun _ _ _ _ _ e0 e1 e2 e3 e4 => no9 (o := none) rfl e0, fun _ _ _ _ _ e0 e1 e2 e3 e4 => no9 (o := none) rfl e0, h_dy, fun _ _ _ _ _ e0 e1 e2 e3 e4 => no9 (o := none) rfl e0⟩, ⟨fun _ _ e0 e1 => no9 (o := none) rfl e0, fun _ _ _ e0 e1 e2 => no9 (o := none) rfl e0, fun _ _ _ e0 e1 e2 => no9 (o := none) rfl e0, fun _ _ e0 e1 => no9 (o := none) rfl e0, fun _ _ _ _ e0 e1 e2 e3 => no9 (o := none) rfl e0, fun _ _ _ e0 e1 e2 => no9 (o := none) rfl e0⟩, ⟨fun _ _ _ _ e0 e1 e2 e3 => no9 (o := none) rfl e0, fun _ e0 => no9 (o := none) rfl e0, fun _ _ e0 e1 => no9 (o := none) rfl e0, fun _ _ _ _ _ _ e0 e1 e2 e3 e4 e5 => no9 (o := none) rfl e0, fun _ _ _ _ _ _ _ e0 e1 e2 e3 e4 e5 e6 => no9 (o := none) rfl e0, fun _ _ _ _ _ _ e0 e1 e2 e3 e4 e5 => no9 (o := none) rfl e0, fun _ _ _ e0 e1 e2 => no9 (o := none) rfl e0⟩, ⟨fun _ _ e0 e1 => no9 (o := none) rfl e0, fun _ _ _ _ e0 e1 e2 e3 => no9 (o := none) rfl e0, fun _ _ _ e0 e1 e2 => no9 (o := none) rfl e0, fun _ _ _ _ e0 e1 e2 e3 => no9 (o := none) rfl e0, fun _ _ _ _ _ e0 e1 e2 e3 e4 => no9 (o := none) rfl e0, fun _ _ _ _ _ _ e0 e1 e2 e3 e4 e5 => no9 (o := none) rfl e0, fun _ _ _ _ _ _ _ e0 e1 e2 e3 e4 e5 e6 => no9 (o := none) rfl e0, fun _ _ _ _ _ e0 e1 e2 e3 e4 => no9 (o := none) rfl e0, fun _ _ _ _ e0 e1 e2 e3 => no9 (o := none) rfl e0, fun _ _ e0 e1 => no9 (o := none) rfl e0, fun _ _ _ _ _ _ e0 e1 e2 e3 e4 e5 => no9 (o := none) rfl e0, fun _ _ _ _ _ _ _ e0 e1 e2 e3 e4 e5 e6 => no9 (o := none) rfl e0, fun _ _ _ _ _ _ _ _ _ e0 e1 e2 e3 e4 e5 e6 e7 e8 => no9 (o := none) rfl e0, fun _ _ e0 e1 => no9 (o := none) rfl e0⟩, ⟨fun _ e0 => no9 (o := none) rfl e0, fun _ _ e0 e1 => no9 (o := none) rfl e0, fun _ _ e0 e1 => no9 (o := none) rfl e0, fun _ _ e0 e1 => no9 (o := none) rfl e0⟩, k_n, fun _ _ _ _ e0 e1 e2 e3 => no9 (o := none) rfl e0⟩
def ru_nfr : Ru := ([], ([], ([], (false, ([], ([], ([(975, none), (976, none), (977, none), (978, none), (979, none)], none)))))))
theorem rk_nfr : RuOk SGd ru_nfr := by
  intro τ m g hi hc ha hS
  obtain ⟨⟨h_p1, h_p2, h_td⟩, k_b, k_q, k_c, k_d, k_l, k_k, k_e, k_t, k_n, k_j⟩ := hS
  have k_n0 := k_n
  obtain ⟨h_nk, h_nw⟩ := k_n0
  exact ⟨rfl, trivial, trivial, ⟨h_p1, h_p2, h_td⟩, k_b, k_q, k_c, k_d, k_l, k_k, k_e, k_t, ⟨fun _ _ _ e0 e1 e2 => no9 (o := none) rfl e0, fun _ _ _ e0 e1 e2 => no9 (o := none) rfl e0⟩, k_j⟩
def ru_vfr : Ru := ([], ([975], ([], (false, ([], ([], ([(870, none), (833, none), (834, none), (835, none)], none)))))))
theorem rk_vfr : RuOk SGd ru_vfr := by
  intro τ m g hi hc ha hS
  obtain ⟨a0, _⟩ := ha
  have n975 : τ 975 = none := a0
  obtain ⟨⟨h_p1, h_p2, h_td⟩, k_b, k_q, k_c, k_d, k_l, k_k, k_e, k_t, k_n, k_j⟩ := hS
  have k_b0 := k_b
  obtain ⟨h_bit, h_one, h_or, h_and, h_shr, h_m1, h_m2, h_dv, h_r1, h_r2, h_nz⟩ := k_b0
  have k_q0 := k_q
  obtain ⟨h_vs, h_qc, h_qr, h_qk, h_qn, h_ub⟩ := k_q0
  exact ⟨rfl, trivial, trivial, ⟨h_p1, h_p2, h_td⟩, ⟨h_bit, h_one, h_or, h_and, fun _ _ _ e0 e1 e2 => no9 (o := none) rfl e0, h_m1, h_m2, h_dv, h_r1, h_r2, h_nz⟩, ⟨fun _ e0 => no9 (o := none) rfl e0, h_qc, h_qr, h_qk, h_qn, h_ub⟩, k_c, k_d, k_l, k_k, k_e, k_t, k_n, k_j⟩
def ru_ufr : Ru := ([], ([], ([], (false, ([], ([], ([(878, none), (879, none), (868, none)], none)))))))
theorem rk_ufr : RuOk SGd ru_ufr := by
  intro τ m g hi hc ha hS
  obtain ⟨⟨h_p1, h_p2, h_td⟩, k_b, k_q, k_c, k_d, k_l, k_k, k_e, k_t, k_n, k_j⟩ := hS
  have k_q0 := k_q
  obtain ⟨h_vs, h_qc, h_qr, h_qk, h_qn, h_ub⟩ := k_q0
  exact ⟨rfl, trivial, trivial, ⟨h_p1, h_p2, h_td⟩, k_b, ⟨h_vs, h_qc, h_qr, h_qk, h_qn, fun _ _ _ e0 e1 e2 => no9 (o := none) rfl e0⟩, k_c, k_d, k_l, k_k, k_e, k_t, k_n, k_j⟩
def ru_sfr : Ru := ([], ([], ([], (false, ([], ([], ([(868, none), (878, none), (879, none), (874, none), (875, none), (876, none), (877, none), (930, none), (931, none), (932, none), (933, none), (934, none), (935, none), (936, none), (937, none), (938, none), (939, none), (910, none), (911, none), (912, none), (913, none), (914, none), (915, none), (940, none), (941, none), (942, none), (943, none), (944, none), (945, none), (946, none), (947, none), (948, none), (949, none), (950, none), (951, none), (952, none), (953, none), (954, none), (955, none), (956, none), (957, none), (958, none), (959, none), (960, none), (961, none), (962, none), (963, none), (964, none), (965, none), (966, none), (967, none), (968, none), (969, none), (970, none), (971, none), (972, none), (973, none), (974, none)], none)))))))
theorem rk_sfr : RuOk SGd ru_sfr := by
  intro τ m g hi hc ha hS
  obtain ⟨⟨h_p1, h_p2, h_td⟩, k_b, k_q, k_c, k_d, k_l, k_k, k_e, k_t, k_n, k_j⟩ := hS
  have k_q0 := k_q
  obtain ⟨h_vs, h_qc, h_qr, h_qk, h_qn, h_ub⟩ := k_q0
  have k_l0 := k_l
  obtain ⟨h_l0, h_lk, h_lg, h_lp, h_la, h_lc⟩ := k_l0
  have k_k0 := k_k
  obtain ⟨h_k0, h_ks, h_kk, h_kl, h_kw, h_kd, h_kz⟩ := k_k0
  have k_e0 := k_e
  obtain ⟨h_en, h_ef, h_ew, h_er, h_ep, h_ez, h_es, h_ed, h_pw, h_pv, h_eb, h_ei, h_ek, h_rr⟩ := k_e0
  have k_t0 := k_t
  obtain ⟨h_t0, h_tj, h_tw, h_tt⟩ := k_t0
  exact ⟨rfl, trivial, trivial, ⟨h_p1, h_p2, h_td⟩, k_b, ⟨h_vs, h_qc, fun _ _ _ _ e0 e1 e2 e3 => no9 (o := none) rfl e2, fun _ _ _ e0 e1 e2 => no9 (o := none) rfl e2, fun _ _ _ e0 e1 e2 => no9 (o := none) rfl e2, fun _ _ _ e0 e1 e2 => no9 (o := none) rfl e0⟩, k_c, k_d, ⟨fun _ _ e0 e1 => no9 (o := none) rfl e0, fun _ _ _ e0 e1 e2 => no9 (o := none) rfl e0, fun _ _ _ e0 e1 e2 => no9 (o := none) rfl e0, fun _ _ e0 e1 => no9 (o := none) rfl e0, fun _ _ _ _ e0 e1 e2 e3 => no9 (o := none) rfl e0, fun _ _ _ e0 e1 e2 => no9 (o := none) rfl e0⟩, ⟨fun _ _ _ _ e0 e1 e2 e3 => no9 (o := none) rfl e0, fun _ e0 => no9 (o := none) rfl e0, fun _ _ e0 e1 => no9 (o := none) rfl e0, fun _ _ _ _ _ _ e0 e1 e2 e3 e4 e5 => no9 (o := none) rfl e0, fun _ _ _ _ _ _ _ e0 e1 e2 e3 e4 e5 e6 => no9 (o := none) rfl e0, fun _ _ _ _ _ _ e0 e1 e2 e3 e4 e5 => no9 (o := none) rfl e0, fun _ _ _ e0 e1 e2 => no9 (o := none) rfl e0⟩, ⟨fun _ _ e0 e1 => no9 (o := none) rfl e0, fun _ _ _ _ e0 e1 e2 e3 => no9 (o := none) rfl e0, fun _ _ _ e0 e1 e2 => no9 (o := none) rfl e0, fun _ _ _ _ e0 e1 e2 e3 => no9 (o := none) rfl e0, fun _ _ _ _ _ e0 e1 e2 e3 e4 => no9 (o := none) rfl e0, fun _ _ _ _ _ _ e0 e1 e2 e3 e4 e5 => no9 (o := none) rfl e0, fun _ _ _ _ _ _ _ e0 e1 e2 e3 e4 e5 e6 => no9 (o := none) rfl e0, fun _ _ _ _ _ e0 e1 e2 e3 e4 => no9 (o := none) rfl e0, fun _ _ _ _ e0 e1 e2 e3 => no9 (o := none) rfl e0, fun _ _ e0 e1 => no9 (o := none) rfl e0, fun _ _ _ _ _ _ e0 e1 e2 e3 e4 e5 => no9 (o := none) rfl e0, fun _ _ _ _ _ _ _ e0 e1 e2 e3 e4 e5 e6 => no9 (o := none) rfl e0, fun _ _ _ _ _ _ _ _ _ e0 e1 e2 e3 e4 e5 e6 e7 e8 => no9 (o := none) rfl e0, fun _ _ e0 e1 => no9 (o := none) rfl e0⟩, ⟨fun _ e0 => no9 (o := none) rfl e0, fun _ _ e0 e1 => no9 (o := none) rfl e0, fun _ _ e0 e1 => no9 (o := none) rfl e0, fun _ _ e0 e1 => no9 (o := none) rfl e0⟩, k_n, k_j⟩
def ru_i0 : Ru := ([(1, (1, (0, (0, 0)))), (1, (4, (0, (0, 0)))), (4, (0, (0, (0, 0))))], ([975, 976, 977, 978, 979], ([([(0, (-1))], 0), ([(0, 1)], 3)], (false, ([], ([], ([(975, some (0, 0)), (976, some (1, 0)), (977, some (2, 0))], none)))))))
theorem rk_i0 : RuOk SGd ru_i0 := by
  intro τ m g hi hc ha hS
  obtain ⟨i0, i1, i2, _⟩ := hi
  have xzero : g 2 = 0 := i2
  obtain ⟨c0, c1, _⟩ := hc
  have c0 : (-1) * g 0 ≤ 0 := d1 c0
  have c1 : 1 * g 0 ≤ 3 := d1 c1
  obtain ⟨a0, a1, a2, a3, a4, _⟩ := ha
  have n975 : τ 975 = none := a0
  have n976 : τ 976 = none := a1
  have n977 : τ 977 = none := a2
  have n978 : τ 978 = none := a3
  have n979 : τ 979 = none := a4
  obtain ⟨⟨h_p1, h_p2, h_td⟩, k_b, k_q, k_c, k_d, k_l, k_k, k_e, k_t, k_n, k_j⟩ := hS
  have k_n0 := k_n
  obtain ⟨h_nk, h_nw⟩ := k_n0
  exact ⟨rfl, trivial, trivial, ⟨h_p1, h_p2, h_td⟩, k_b, k_q, k_c, k_d, k_l, k_k, k_e, k_t, ⟨(fun a w k e0 e1 e2 => by
      have e0 : g 0 + 0 = a := Option.some.inj e0
      subst e0
      have e1 : g 1 + 0 = w := Option.some.inj e1
      subst e1
      have e2 : g 2 + 0 = k := Option.some.inj e2
      subst e2
      exact ⟨by omega, by omega, fun i h1 _ => by omega⟩), fun _ _ _ e0 e1 e2 => no9 n978 e2⟩, k_j⟩
def ru_il : Ru := ([(0, (975, (0, (0, 0)))), (0, (976, (0, (0, 0)))), (0, (977, (0, (0, 0)))), (19, (198, (0, (40, 2)))), (9, (199, (0, (1, 0))))], ([], ([([(1, (-1)), (3, 1)], (-1)), ([(2, (-1))], 0), ([(2, 1), (4, (-1))], (-1)), ([(4, 1)], 40), ([(0, (-1))], 0), ([(0, 1)], 3)], (false, ([], ([], ([(977, some (2, 1))], none)))))))
theorem rk_il : RuOk SGd ru_il := by
  intro τ m g hi hc ha hS
  obtain ⟨i0, i1, i2, i3, i4, _⟩ := hi
  have t975 : τ 975 = some (g 0) := i0
  have t976 : τ 976 = some (g 1) := i1
  have t977 : τ 977 = some (g 2) := i2
  obtain ⟨jx, ux, vx⟩ : ∃ j : Nat, 40 * g 0 + g 2 = (j : Int) ∧ g 3 = m 198 j := i3
  obtain ⟨jn, un, vn⟩ : ∃ j : Nat, 1 * g 0 + 0 = (j : Int) ∧ g 4 = m 199 j := i4
  obtain ⟨c0, c1, c2, c3, c4, c5, _⟩ := hc
  have c0 : (-1) * g 1 + 1 * g 3 ≤ (-1) := d2 c0
  have c1 : (-1) * g 2 ≤ 0 := d1 c1
  have c2 : 1 * g 2 + (-1) * g 4 ≤ (-1) := d2 c2
  have c3 : 1 * g 4 ≤ 40 := d1 c3
  have c4 : (-1) * g 0 ≤ 0 := d1 c4
  have c5 : 1 * g 0 ≤ 3 := d1 c5
  obtain ⟨⟨h_p1, h_p2, h_td⟩, k_b, k_q, k_c, k_d, k_l, k_k, k_e, k_t, k_n, k_j⟩ := hS
  have k_n0 := k_n
  obtain ⟨h_nk, h_nw⟩ := k_n0
  exact ⟨rfl, trivial, trivial, ⟨h_p1, h_p2, h_td⟩, k_b, k_q, k_c, k_d, k_l, k_k, k_e, k_t, ⟨(fun a w k e0 e1 e2 => by
      have e0 : g 0 = a := Option.some.inj (t975.symm.trans e0)
      subst e0
      have e1 : g 1 = w := Option.some.inj (t976.symm.trans e1)
      subst e1
      have e2 : g 2 + 1 = k := Option.some.inj e2
      subst e2
      have h1 := h_nk _ _ _ t975 t976 t977
      have ejx : jx = 40 * (g 0).toNat + (g 2).toNat := by omega
      subst ejx
      refine ⟨by omega, by omega, fun i h2 h3 => ?_⟩
      by_cases e : (i : Int) = g 2
      · have ei : i = (g 2).toNat := by omega
        rw [ei]; omega
      · exact h1.2.2 i (by omega) h3), h_nw⟩, k_j⟩
def ru_im : Ru := ([(0, (975, (0, (0, 0)))), (0, (976, (0, (0, 0)))), (0, (977, (0, (0, 0)))), (19, (198, (0, (40, 2)))), (9, (199, (0, (1, 0))))], ([], ([([(1, 1), (3, (-1))], (-1)), ([(2, (-1))], 0), ([(2, 1), (4, (-1))], (-1)), ([(4, 1)], 40), ([(0, (-1))], 0), ([(0, 1)], 3)], (false, ([], ([], ([(977, some (2, 1))], none)))))))
theorem rk_im : RuOk SGd ru_im := by
  intro τ m g hi hc ha hS
  obtain ⟨i0, i1, i2, i3, i4, _⟩ := hi
  have t975 : τ 975 = some (g 0) := i0
  have t976 : τ 976 = some (g 1) := i1
  have t977 : τ 977 = some (g 2) := i2
  obtain ⟨jx, ux, vx⟩ : ∃ j : Nat, 40 * g 0 + g 2 = (j : Int) ∧ g 3 = m 198 j := i3
  obtain ⟨jn, un, vn⟩ : ∃ j : Nat, 1 * g 0 + 0 = (j : Int) ∧ g 4 = m 199 j := i4
  obtain ⟨c0, c1, c2, c3, c4, c5, _⟩ := hc
  have c0 : 1 * g 1 + (-1) * g 3 ≤ (-1) := d2 c0
  have c1 : (-1) * g 2 ≤ 0 := d1 c1
  have c2 : 1 * g 2 + (-1) * g 4 ≤ (-1) := d2 c2
  have c3 : 1 * g 4 ≤ 40 := d1 c3
  have c4 : (-1) * g 0 ≤ 0 := d1 c4
  have c5 : 1 * g 0 ≤ 3 := d1 c5
  obtain ⟨⟨h_p1, h_p2, h_td⟩, k_b, k_q, k_c, k_d, k_l, k_k, k_e, k_t, k_n, k_j⟩ := hS
  have k_n0 := k_n
  obtain ⟨h_nk, h_nw⟩ := k_n0
  exact ⟨rfl, trivial, trivial, ⟨h_p1, h_p2, h_td⟩, k_b, k_q, k_c, k_d, k_l, k_k, k_e, k_t, ⟨(fun a w k e0 e1 e2 => by
      have e0 : g 0 = a := Option.some.inj (t975.symm.trans e0)
      subst e0
      have e1 : g 1 = w := Option.some.inj (t976.symm.trans e1)
      subst e1
      have e2 : g 2 + 1 = k := Option.some.inj e2
      subst e2
      have h1 := h_nk _ _ _ t975 t976 t977
      have ejx : jx = 40 * (g 0).toNat + (g 2).toNat := by omega
      subst ejx
      refine ⟨by omega, by omega, fun i h2 h3 => ?_⟩
      by_cases e : (i : Int) = g 2
      · have ei : i = (g 2).toNat := by omega
        rw [ei]; omega
      · exact h1.2.2 i (by omega) h3), h_nw⟩, k_j⟩
def ru_j0 : Ru := ([(0, (871, (0, (0, 0)))), (0, (872, (0, (0, 0)))), (0, (873, (0, (0, 0)))), (1, (1, (0, (0, 0)))), (4, (0, (0, (0, 0))))], ([980, 981], ([([(2, (-1)), (3, 1)], 0), ([(2, 1), (3, (-1))], 0)], (false, ([], ([], ([(980, some (4, 0))], none)))))))
theorem rk_j0 : RuOk SGd ru_j0 := by
  intro τ m g hi hc ha hS
  obtain ⟨i0, i1, i2, i3, i4, _⟩ := hi
  have t871 : τ 871 = some (g 0) := i0
  have t872 : τ 872 = some (g 1) := i1
  have t873 : τ 873 = some (g 2) := i2
  have xzero : g 4 = 0 := i4
  obtain ⟨c0, c1, _⟩ := hc
  have c0 : (-1) * g 2 + 1 * g 3 ≤ 0 := d2 c0
  have c1 : 1 * g 2 + (-1) * g 3 ≤ 0 := d2 c1
  obtain ⟨a0, a1, _⟩ := ha
  have n980 : τ 980 = none := a0
  have n981 : τ 981 = none := a1
  obtain ⟨⟨h_p1, h_p2, h_td⟩, k_b, k_q, k_c, k_d, k_l, k_k, k_e, k_t, k_n, k_j⟩ := hS
  have k_q0 := k_q
  obtain ⟨h_vs, h_qc, h_qr, h_qk, h_qn, h_ub⟩ := k_q0
  have h_jn := k_j
  exact ⟨rfl, trivial, trivial, ⟨fun e => no9 e rfl, h_p2, h_td⟩, k_b, k_q, k_c, k_d, k_l, k_k, k_e, k_t, k_n, (fun qa qb qc n e0 e1 e2 e3 => by
      have e0 : g 0 = qa := Option.some.inj (t871.symm.trans e0)
      subst e0
      have e1 : g 1 = qb := Option.some.inj (t872.symm.trans e1)
      subst e1
      have e2 : g 2 = qc := Option.some.inj (t873.symm.trans e2)
      subst e2
      have e3 : g 4 + 0 = n := Option.some.inj e3
      subst e3
      show JnG m (τ 981) _ _ _ _
      rw [n981]
      have h1 := h_qc _ _ _ t871 t872 t873 n981
      exact ⟨⟨h1.1.1, h1.1.2, h1.2.1⟩, by omega, m, h_p2 n981, fun u v hu hv => ⟨Or.inl, fun q => q.elim id (fun q => absurd rfl q.1)⟩, h1.2.2, fun q => absurd rfl q, fun y x hy hx => ⟨(h_p1 n980 y x hy hx).1, Or.inr ⟨Or.inl (by omega), (h_p1 n980 y x hy hx).2⟩⟩⟩)⟩
def ru_jn : Ru := ([(0, (871, (0, (0, 0)))), (0, (872, (0, (0, 0)))), (0, (873, (0, (0, 0)))), (0, (980, (0, (0, 0)))), (0, (840, (0, (0, 0)))), (0, (841, (0, (0, 0)))), (0, (842, (0, (0, 0))))], ([981], ([([(2, (-1)), (4, 1)], 0), ([(2, 1), (4, (-1))], 0), ([(3, (-1)), (5, 1)], 0), ([(3, 1), (5, (-1))], 0), ([(6, 1)], 0), ([(6, (-1))], 0), ([(3, (-1))], 0), ([(3, 1)], 3)], (false, ([], ([], ([(980, some (3, 1)), (840, none), (841, none), (842, none)], none)))))))
theorem rk_jn : RuOk SGd ru_jn := by
  intro τ m g hi hc ha hS
  obtain ⟨i0, i1, i2, i3, i4, i5, i6, _⟩ := hi
  have t871 : τ 871 = some (g 0) := i0
  have t872 : τ 872 = some (g 1) := i1
  have t873 : τ 873 = some (g 2) := i2
  have t980 : τ 980 = some (g 3) := i3
  have t840 : τ 840 = some (g 4) := i4
  have t841 : τ 841 = some (g 5) := i5
  have t842 : τ 842 = some (g 6) := i6
  obtain ⟨c0, c1, c2, c3, c4, c5, c6, c7, _⟩ := hc
  have c0 : (-1) * g 2 + 1 * g 4 ≤ 0 := d2 c0
  have c1 : 1 * g 2 + (-1) * g 4 ≤ 0 := d2 c1
  have c2 : (-1) * g 3 + 1 * g 5 ≤ 0 := d2 c2
  have c3 : 1 * g 3 + (-1) * g 5 ≤ 0 := d2 c3
  have c4 : 1 * g 6 ≤ 0 := d1 c4
  have c5 : (-1) * g 6 ≤ 0 := d1 c5
  have c6 : (-1) * g 3 ≤ 0 := d1 c6
  have c7 : 1 * g 3 ≤ 3 := d1 c7
  obtain ⟨a0, _⟩ := ha
  have n981 : τ 981 = none := a0
  obtain ⟨⟨h_p1, h_p2, h_td⟩, k_b, k_q, k_c, k_d, k_l, k_k, k_e, k_t, k_n, k_j⟩ := hS
  have k_q0 := k_q
  obtain ⟨h_vs, h_qc, h_qr, h_qk, h_qn, h_ub⟩ := k_q0
  have k_b0 := k_b
  obtain ⟨h_bit, h_one, h_or, h_and, h_shr, h_m1, h_m2, h_dv, h_r1, h_r2, h_nz⟩ := k_b0
  have h_jn := k_j
  exact ⟨rfl, trivial, trivial, ⟨fun e => no9 e rfl, h_p2, h_td⟩, ⟨fun _ _ _ e0 e1 e2 => no9 (o := none) rfl e0, h_one, h_or, h_and, h_shr, h_m1, h_m2, h_dv, h_r1, h_r2, h_nz⟩, k_q, k_c, k_d, k_l, k_k, k_e, k_t, k_n, (fun qa qb qc n e0 e1 e2 e3 => by
      have e0 : g 0 = qa := Option.some.inj (t871.symm.trans e0)
      subst e0
      have e1 : g 1 = qb := Option.some.inj (t872.symm.trans e1)
      subst e1
      have e2 : g 2 = qc := Option.some.inj (t873.symm.trans e2)
      subst e2
      have e3 : g 3 + 1 = n := Option.some.inj e3
      subst e3
      show JnG m (τ 981) _ _ _ _
      have h1 := h_jn _ _ _ _ t871 t872 t873 t980
      rw [n981] at h1 ⊢
      obtain ⟨b1, b2, m0, b3, b4, b5, b6, b7⟩ := h1
      have hb := R840x (h_bit _ _ _ t840 t841 t842) (by omega) (by omega)
      rw [(show g 4 = g 2 by omega)] at hb
      refine ⟨b1, by omega, m0, b3, b4, b5, fun q => absurd rfl q, fun y x hy hx => ⟨(b7 y x hy hx).1, ?_⟩⟩
      rcases (b7 y x hy hx).2 with q | q
      · exact Or.inl ⟨by omega, q.2⟩
      · by_cases e : (y : Int) = g 3
        · refine Or.inr ⟨Or.inr (fun hi => ?_), q.2⟩
          have := (b5 y hy).mpr hi
          rw [(show y = (g 5).toNat by omega), ← hb] at this
          omega
        · rcases q.1 with z | z
          · exact Or.inr ⟨Or.inl (by omega), q.2⟩
          · exact Or.inr ⟨Or.inr z, q.2⟩)⟩
def ru_cbd : Ru := ([(0, (871, (0, (0, 0)))), (0, (872, (0, (0, 0)))), (0, (873, (0, (0, 0))))], ([981], ([], (false, ([([(2, (-1))], 0), ([(2, 1)], 15)], ([], ([], none)))))))
theorem rk_cbd : RuOk SGd ru_cbd := by
  intro τ m g hi hc ha hS
  obtain ⟨i0, i1, i2, _⟩ := hi
  have t871 : τ 871 = some (g 0) := i0
  have t872 : τ 872 = some (g 1) := i1
  have t873 : τ 873 = some (g 2) := i2
  obtain ⟨a0, _⟩ := ha
  have n981 : τ 981 = none := a0
  obtain ⟨⟨h_p1, h_p2, h_td⟩, k_b, k_q, k_c, k_d, k_l, k_k, k_e, k_t, k_n, k_j⟩ := hS
  have k_q0 := k_q
  obtain ⟨h_vs, h_qc, h_qr, h_qk, h_qn, h_ub⟩ := k_q0
  have h1 := h_qc _ _ _ t871 t872 t873 n981
  exact ⟨rfl, ⟨f1 (by omega), f1 (by omega), trivial⟩, trivial, ⟨h_p1, h_p2, h_td⟩, k_b, k_q, k_c, k_d, k_l, k_k, k_e, k_t, k_n, k_j⟩
end
