section
/-! ===== what calls leave of the logs ===== -/
theorem kc_H_give {E : xV} {σ : zS} (h : JJB [] σ) (hk : ∀ k ∈ KS, 0 ≤ fz σ k ∧ fz σ k ≤ 200) (x0 x1 x2 x3 : Int32) : Cz E Y_H_give [.ref 0, .int x0, .int x1, .int x2, .int x3] σ (fun v ρ => ∃ r : Int32, v = some (.int r) ∧ JJB [] ρ ∧ (∀ k ∈ KS, 0 ≤ fz ρ k ∧ fz ρ k ≤ 200) ∧ ((r.toInt < 0 ∧ LgH σ ρ ∧ LgM σ ρ) ∨ (0 ≤ r.toInt ∧ ∃ L : Nat, (σ.1 0 7).toInt = (L : Int) ∧ HwL L 2 x0 x1 x2 r σ ρ ∧ LgM σ ρ))) := by
  obtain ⟨k1, k2⟩ := pub_ok (J := JJK σ) (q := ct_H_giveK) (o := 0) (as := [.inl x0, .inl x1, .inl x2, .inl x3]) (ds := [T32, T32, T32, T32, [(0, 200)], [(0, 200)]]) (ks := [(110, 8), (5, 2)]) (σ := σ) (show pubOk ct_H_giveK 0 [false, false, false, false] [T32, T32, T32, T32, [(0, 200)], [(0, 200)]] [(110, 8), (5, 2)] = true by decide +kernel) ⟨in32 _, in32 _, in32 _, in32 _, r0 hk (k := (110, 8)) (by decide), r0 hk (k := (5, 2)) (by decide), trivial⟩ (jkK h)
  refine (all_ctK (E := E) (g9 := σ) 164 ct_H_giveK rfl _ σ _ k1 k2).mono (fun v ρ hr => ?_)
  obtain ⟨_, al, f2, ρ1, f3, f4, f5⟩ := hr
  have he : (ct_H_giveK.al.all fun al => KS.all fun k => bndAt al.2 k.1 k.2) = true := by decide +kernel
  have hks : ∀ k ∈ KS, 0 ≤ fz ρ k ∧ fz ρ k ≤ 200 := fun k hk2 => bndAt_ok (List.all_eq_true.mp (List.all_eq_true.mp he al f2) k hk2) f4
  rcases List.mem_cons.mp f2 with rfl | f2
  · obtain ⟨r, e, er⟩ := ret_i f5 rfl
    obtain ⟨j, a, b⟩ := lgE0 (g := σ) (ρ := ρ) (R := ρ1) f4.1.inv
    refine ⟨r, e, j, hks, Or.inl ⟨?_, a, b⟩⟩
    have := inD_one (enG9 f4 (i := 6) (d := [((-4), (-1))]) (by decide +kernel) er)
    omega
  rcases List.mem_cons.mp f2 with rfl | f2
  · obtain ⟨r, e, er⟩ := ret_i f5 rfl
    have h0 : ev ρ1 (.i 0 0) = some x0.toInt := rho_at f3 rfl
    have h1 : ev ρ1 (.i 1 0) = some x1.toInt := rho_at f3 rfl
    have h2 : ev ρ1 (.i 2 0) = some x2.toInt := rho_at f3 rfl
    obtain ⟨j, w⟩ := lgE1 (g := σ) (ρ := ρ) (R := ρ1) (a0 := .c 2) (a1 := .i 0 0) (a2 := .i 1 0) (a3 := .i 2 0) (a4 := .i 6 0) (k := 2) f4.1.inv (show ev ρ1 (.c 2) = some (Int32.toInt 2) from congrArg some (by decide : (2 : Int) = Int32.toInt 2)) h0 h1 h2 er
    refine ⟨r, e, j, hks, Or.inr ⟨?_, w⟩⟩
    have := inD_one (enG9 f4 (i := 6) (d := [(0, 200)]) (by decide +kernel) er)
    omega
  cases f2
theorem kc_M_give {E : xV} {σ : zS} (h : JJB [] σ) (hk : ∀ k ∈ KS, 0 ≤ fz σ k ∧ fz σ k ≤ 200) (x0 x1 x2 x3 : Int32) : Cz E Y_M_give [.ref 110, .int x0, .int x1, .int x2, .int x3] σ (fun v ρ => ∃ r : Int32, v = some (.int r) ∧ JJB [] ρ ∧ (∀ k ∈ KS, 0 ≤ fz ρ k ∧ fz ρ k ≤ 200) ∧ ((r.toInt < 0 ∧ LgH σ ρ ∧ LgM σ ρ) ∨ (0 ≤ r.toInt ∧ ∃ L : Nat, (σ.1 110 3).toInt = (L : Int) ∧ MwL L 2 x0 x1 x2 r σ ρ ∧ LgH σ ρ))) := by
  obtain ⟨k1, k2⟩ := pub_ok (J := JJK σ) (q := ct_M_giveK) (o := 110) (as := [.inl x0, .inl x1, .inl x2, .inl x3]) (ds := [T32, T32, T32, T32, [(0, 200)], [(0, 200)]]) (ks := [(110, 8), (5, 2)]) (σ := σ) (show pubOk ct_M_giveK 110 [false, false, false, false] [T32, T32, T32, T32, [(0, 200)], [(0, 200)]] [(110, 8), (5, 2)] = true by decide +kernel) ⟨in32 _, in32 _, in32 _, in32 _, r0 hk (k := (110, 8)) (by decide), r0 hk (k := (5, 2)) (by decide), trivial⟩ (jkK h)
  refine (all_ctK (E := E) (g9 := σ) 405 ct_M_giveK rfl _ σ _ k1 k2).mono (fun v ρ hr => ?_)
  obtain ⟨_, al, f2, ρ1, f3, f4, f5⟩ := hr
  have he : (ct_M_giveK.al.all fun al => KS.all fun k => bndAt al.2 k.1 k.2) = true := by decide +kernel
  have hks : ∀ k ∈ KS, 0 ≤ fz ρ k ∧ fz ρ k ≤ 200 := fun k hk2 => bndAt_ok (List.all_eq_true.mp (List.all_eq_true.mp he al f2) k hk2) f4
  rcases List.mem_cons.mp f2 with rfl | f2
  · obtain ⟨r, e, er⟩ := ret_i f5 rfl
    obtain ⟨j, a, b⟩ := lgE0 (g := σ) (ρ := ρ) (R := ρ1) f4.1.inv
    refine ⟨r, e, j, hks, Or.inl ⟨?_, a, b⟩⟩
    have := inD_one (enG9 f4 (i := 6) (d := [((-4), (-1))]) (by decide +kernel) er)
    omega
  rcases List.mem_cons.mp f2 with rfl | f2
  · obtain ⟨r, e, er⟩ := ret_i f5 rfl
    have h0 : ev ρ1 (.i 0 0) = some x0.toInt := rho_at f3 rfl
    have h1 : ev ρ1 (.i 1 0) = some x1.toInt := rho_at f3 rfl
    have h2 : ev ρ1 (.i 2 0) = some x2.toInt := rho_at f3 rfl
    obtain ⟨j, w⟩ := lgE2 (g := σ) (ρ := ρ) (R := ρ1) (a0 := .c 2) (a1 := .i 0 0) (a2 := .i 1 0) (a3 := .i 2 0) (a4 := .i 6 0) (k := 2) f4.1.inv (show ev ρ1 (.c 2) = some (Int32.toInt 2) from congrArg some (by decide : (2 : Int) = Int32.toInt 2)) h0 h1 h2 er
    refine ⟨r, e, j, hks, Or.inr ⟨?_, w⟩⟩
    have := inD_one (enG9 f4 (i := 6) (d := [(0, 200)]) (by decide +kernel) er)
    omega
  cases f2
theorem kc_H_lend {E : xV} {σ : zS} (h : JJB [] σ) (hk : ∀ k ∈ KS, 0 ≤ fz σ k ∧ fz σ k ≤ 200) (x0 x1 x2 x3 x4 x5 x6 : Int32) : Cz E Y_H_lend [.ref 0, .int x0, .int x1, .int x2, .int x3, .int x4, .int x5, .int x6] σ (fun v ρ => ∃ r : Int32, v = some (.int r) ∧ JJB [] ρ ∧ (∀ k ∈ KS, 0 ≤ fz ρ k ∧ fz ρ k ≤ 200) ∧ ((r.toInt < 0 ∧ LgH σ ρ ∧ LgM σ ρ) ∨ (0 ≤ r.toInt ∧ ∃ L : Nat, (σ.1 0 7).toInt = (L : Int) ∧ HwL L 3 x0 x1 r r σ ρ ∧ LgM σ ρ))) := by
  obtain ⟨k1, k2⟩ := pub_ok (J := JJK σ) (q := ct_H_lendK) (o := 0) (as := [.inl x0, .inl x1, .inl x2, .inl x3, .inl x4, .inl x5, .inl x6]) (ds := [T32, T32, T32, T32, T32, T32, T32, [(0, 200)], [(0, 200)]]) (ks := [(110, 8), (5, 2)]) (σ := σ) (show pubOk ct_H_lendK 0 [false, false, false, false, false, false, false] [T32, T32, T32, T32, T32, T32, T32, [(0, 200)], [(0, 200)]] [(110, 8), (5, 2)] = true by decide +kernel) ⟨in32 _, in32 _, in32 _, in32 _, in32 _, in32 _, in32 _, r0 hk (k := (110, 8)) (by decide), r0 hk (k := (5, 2)) (by decide), trivial⟩ (jkK h)
  refine (all_ctK (E := E) (g9 := σ) 200 ct_H_lendK rfl _ σ _ k1 k2).mono (fun v ρ hr => ?_)
  obtain ⟨_, al, f2, ρ1, f3, f4, f5⟩ := hr
  have he : (ct_H_lendK.al.all fun al => KS.all fun k => bndAt al.2 k.1 k.2) = true := by decide +kernel
  have hks : ∀ k ∈ KS, 0 ≤ fz ρ k ∧ fz ρ k ≤ 200 := fun k hk2 => bndAt_ok (List.all_eq_true.mp (List.all_eq_true.mp he al f2) k hk2) f4
  rcases List.mem_cons.mp f2 with rfl | f2
  · obtain ⟨r, e, er⟩ := ret_i f5 rfl
    obtain ⟨j, a, b⟩ := lgE0 (g := σ) (ρ := ρ) (R := ρ1) f4.1.inv
    refine ⟨r, e, j, hks, Or.inl ⟨?_, a, b⟩⟩
    have := inD_one (enG9 f4 (i := 9) (d := [((-4), (-1))]) (by decide +kernel) er)
    omega
  rcases List.mem_cons.mp f2 with rfl | f2
  · obtain ⟨r, e, er⟩ := ret_i f5 rfl
    have h0 : ev ρ1 (.i 0 0) = some x0.toInt := rho_at f3 rfl
    have h1 : ev ρ1 (.i 1 0) = some x1.toInt := rho_at f3 rfl
    have h2 : ev ρ1 (.i 2 0) = some x2.toInt := rho_at f3 rfl
    obtain ⟨j, w⟩ := lgE1 (g := σ) (ρ := ρ) (R := ρ1) (a0 := .c 3) (a1 := .i 0 0) (a2 := .i 1 0) (a3 := .i 9 0) (a4 := .i 9 0) (k := 3) f4.1.inv (show ev ρ1 (.c 3) = some (Int32.toInt 3) from congrArg some (by decide : (3 : Int) = Int32.toInt 3)) h0 h1 er er
    refine ⟨r, e, j, hks, Or.inr ⟨?_, w⟩⟩
    have := inD_one (enG9 f4 (i := 9) (d := [(0, 200)]) (by decide +kernel) er)
    omega
  cases f2
theorem kc_M_lend {E : xV} {σ : zS} (h : JJB [] σ) (hk : ∀ k ∈ KS, 0 ≤ fz σ k ∧ fz σ k ≤ 200) (x0 x1 x2 x3 x4 x5 x6 : Int32) : Cz E Y_M_lend [.ref 110, .int x0, .int x1, .int x2, .int x3, .int x4, .int x5, .int x6] σ (fun v ρ => ∃ r : Int32, v = some (.int r) ∧ JJB [] ρ ∧ (∀ k ∈ KS, 0 ≤ fz ρ k ∧ fz ρ k ≤ 200) ∧ ((r.toInt < 0 ∧ LgH σ ρ ∧ LgM σ ρ) ∨ (0 ≤ r.toInt ∧ ∃ L : Nat, (σ.1 110 3).toInt = (L : Int) ∧ MwL L 3 x0 x1 r r σ ρ ∧ LgH σ ρ))) := by
  obtain ⟨k1, k2⟩ := pub_ok (J := JJK σ) (q := ct_M_lendK) (o := 110) (as := [.inl x0, .inl x1, .inl x2, .inl x3, .inl x4, .inl x5, .inl x6]) (ds := [T32, T32, T32, T32, T32, T32, T32, [(0, 200)], [(0, 200)]]) (ks := [(110, 8), (5, 2)]) (σ := σ) (show pubOk ct_M_lendK 110 [false, false, false, false, false, false, false] [T32, T32, T32, T32, T32, T32, T32, [(0, 200)], [(0, 200)]] [(110, 8), (5, 2)] = true by decide +kernel) ⟨in32 _, in32 _, in32 _, in32 _, in32 _, in32 _, in32 _, r0 hk (k := (110, 8)) (by decide), r0 hk (k := (5, 2)) (by decide), trivial⟩ (jkK h)
  refine (all_ctK (E := E) (g9 := σ) 432 ct_M_lendK rfl _ σ _ k1 k2).mono (fun v ρ hr => ?_)
  obtain ⟨_, al, f2, ρ1, f3, f4, f5⟩ := hr
  have he : (ct_M_lendK.al.all fun al => KS.all fun k => bndAt al.2 k.1 k.2) = true := by decide +kernel
  have hks : ∀ k ∈ KS, 0 ≤ fz ρ k ∧ fz ρ k ≤ 200 := fun k hk2 => bndAt_ok (List.all_eq_true.mp (List.all_eq_true.mp he al f2) k hk2) f4
  rcases List.mem_cons.mp f2 with rfl | f2
  · obtain ⟨r, e, er⟩ := ret_i f5 rfl
    obtain ⟨j, a, b⟩ := lgE0 (g := σ) (ρ := ρ) (R := ρ1) f4.1.inv
    refine ⟨r, e, j, hks, Or.inl ⟨?_, a, b⟩⟩
    have := inD_one (enG9 f4 (i := 9) (d := [((-4), (-1))]) (by decide +kernel) er)
    omega
  rcases List.mem_cons.mp f2 with rfl | f2
  · obtain ⟨r, e, er⟩ := ret_i f5 rfl
    have h0 : ev ρ1 (.i 0 0) = some x0.toInt := rho_at f3 rfl
    have h1 : ev ρ1 (.i 1 0) = some x1.toInt := rho_at f3 rfl
    have h2 : ev ρ1 (.i 2 0) = some x2.toInt := rho_at f3 rfl
    obtain ⟨j, w⟩ := lgE2 (g := σ) (ρ := ρ) (R := ρ1) (a0 := .c 3) (a1 := .i 0 0) (a2 := .i 1 0) (a3 := .i 9 0) (a4 := .i 9 0) (k := 3) f4.1.inv (show ev ρ1 (.c 3) = some (Int32.toInt 3) from congrArg some (by decide : (3 : Int) = Int32.toInt 3)) h0 h1 er er
    refine ⟨r, e, j, hks, Or.inr ⟨?_, w⟩⟩
    have := inD_one (enG9 f4 (i := 9) (d := [(0, 200)]) (by decide +kernel) er)
    omega
  cases f2
theorem lg_give {E : xV} {σ : zS} (h : J0 σ) (lg : LgS σ) (x0 x1 x2 x3 : Int32) : Cz E Y_H_give [.ref 0, .int x0, .int x1, .int x2, .int x3] σ (fun v ρ => ∃ r : Int32, v = some (.int r) ∧ Cz E Y_M_give [.ref 110, .int x0, .int x1, .int x2, .int x3] ρ (fun v' τ => ∃ r2 : Int32, v' = some (.int r2) ∧ (r = r2 → LgS τ))) := by
  refine (kc_H_give (jbJ h.1) h.2.1 x0 x1 x2 x3).mono (fun v ρ q => ?_)
  obtain ⟨r, e, j, hk, w⟩ := q
  refine ⟨r, e, (kc_M_give j hk x0 x1 x2 x3).mono (fun v' τ q' => ?_)⟩
  obtain ⟨r2, e2, _, _, w'⟩ := q'
  refine ⟨r2, e2, fun eq => ?_⟩
  subst eq
  rcases w with ⟨q, a, b⟩ | ⟨q, L, hL, a, b⟩
  · rcases w' with ⟨q', a', b'⟩ | ⟨q', _⟩
    · exact lg.eq (a.tr a') (b.tr b')
    · omega
  · rcases w' with ⟨q', _⟩ | ⟨q', L', hL', a', b'⟩
    · omega
    · exact lg.two (p_now h.1) hL a b hL' a' b'
theorem lg_lend {E : xV} {σ : zS} (h : J0 σ) (lg : LgS σ) (x0 x1 x2 x3 x4 x5 x6 : Int32) : Cz E Y_H_lend [.ref 0, .int x0, .int x1, .int x2, .int x3, .int x4, .int x5, .int x6] σ (fun v ρ => ∃ r : Int32, v = some (.int r) ∧ Cz E Y_M_lend [.ref 110, .int x0, .int x1, .int x2, .int x3, .int x4, .int x5, .int x6] ρ (fun v' τ => ∃ r2 : Int32, v' = some (.int r2) ∧ (r = r2 → LgS τ))) := by
  refine (kc_H_lend (jbJ h.1) h.2.1 x0 x1 x2 x3 x4 x5 x6).mono (fun v ρ q => ?_)
  obtain ⟨r, e, j, hk, w⟩ := q
  refine ⟨r, e, (kc_M_lend j hk x0 x1 x2 x3 x4 x5 x6).mono (fun v' τ q' => ?_)⟩
  obtain ⟨r2, e2, _, _, w'⟩ := q'
  refine ⟨r2, e2, fun eq => ?_⟩
  subst eq
  rcases w with ⟨q, a, b⟩ | ⟨q, L, hL, a, b⟩
  · rcases w' with ⟨q', a', b'⟩ | ⟨q', _⟩
    · exact lg.eq (a.tr a') (b.tr b')
    · omega
  · rcases w' with ⟨q', _⟩ | ⟨q', L', hL', a', b'⟩
    · omega
    · exact lg.two (p_now h.1) hL a b hL' a' b'
theorem LG_32 {E : xV} {σ : zS} (h : J0 σ) (lg : LgS σ) : LC_32 E σ LgS := by
  intro x0 x1 x2
  refine (pub_call (E := E) (Y := Yf) (G := GXK) (J := JJK σ) (z := 158) (o := 0) (t := 1) (q := ct_H_lawK) (as := [.inl x0, .inl x1, .inl x2]) (ds := [T32, T32, T32, [(0, 200)], [(0, 200)]]) (ks := [(110, 8), (5, 2)]) (KS := KS) (all_ctK 158 _ rfl) (show pubOk ct_H_lawK 0 [false, false, false] [T32, T32, T32, [(0, 200)], [(0, 200)]] [(110, 8), (5, 2)] = true by decide +kernel) ⟨in32 _, in32 _, in32 _, r0 h.2.1 (k := (110, 8)) (by decide), r0 h.2.1 (k := (5, 2)) (by decide), trivial⟩ (by decide +kernel) (jkK (jbJ h.1))).mono (fun v ρ hv => ?_)
  obtain ⟨v1, v2, v3, v4, v5⟩ := hv
  obtain ⟨r, hr⟩ := v1 rfl
  refine ⟨r, hr, ?_⟩
  refine (pub_call (E := E) (Y := Yf) (G := GXK) (J := JJK σ) (z := 402) (o := 110) (t := 1) (q := ct_M_lawK) (as := [.inl x0, .inl x1, .inl x2]) (ds := [T32, T32, T32, [(0, 200)], [(0, 200)]]) (ks := [(110, 8), (5, 2)]) (KS := KS) (all_ctK 402 _ rfl) (show pubOk ct_M_lawK 110 [false, false, false] [T32, T32, T32, [(0, 200)], [(0, 200)]] [(110, 8), (5, 2)] = true by decide +kernel) ⟨in32 _, in32 _, in32 _, r0 v3 (k := (110, 8)) (by decide), r0 v3 (k := (5, 2)) (by decide), trivial⟩ (by decide +kernel) v4).mono (fun v' τ hw => ?_)
  obtain ⟨w1, w2, w3, w4, w5⟩ := hw
  exact ⟨w1 rfl, lg.eq (lgK0 w4).1 (lgK0 w4).2⟩
theorem LG_5 {E : xV} {σ : zS} (h : J0 σ) (lg : LgS σ) : LC_5 E σ LgS := by
  intro x0 x1 x2 x3
  refine (pub_call (E := E) (Y := Yf) (G := GXK) (J := JJK σ) (z := 18) (o := 0) (t := 1) (q := ct_H_putK) (as := [.inl x0, .inl x1, .inl x2, .inl x3]) (ds := [T32, T32, T32, T32, [(0, 200)], [(0, 200)]]) (ks := [(110, 8), (5, 2)]) (KS := KS) (all_ctK 18 _ rfl) (show pubOk ct_H_putK 0 [false, false, false, false] [T32, T32, T32, T32, [(0, 200)], [(0, 200)]] [(110, 8), (5, 2)] = true by decide +kernel) ⟨in32 _, in32 _, in32 _, in32 _, r0 h.2.1 (k := (110, 8)) (by decide), r0 h.2.1 (k := (5, 2)) (by decide), trivial⟩ (by decide +kernel) (jkK (jbJ h.1))).mono (fun v ρ hv => ?_)
  obtain ⟨v1, v2, v3, v4, v5⟩ := hv
  obtain ⟨r, hr⟩ := v1 rfl
  refine ⟨r, hr, ?_⟩
  refine (pub_call (E := E) (Y := Yf) (G := GXK) (J := JJK σ) (z := 321) (o := 110) (t := 1) (q := ct_M_putK) (as := [.inl x0, .inl x1, .inl x2, .inl x3]) (ds := [T32, T32, T32, T32, [(0, 200)], [(0, 200)]]) (ks := [(110, 8), (5, 2)]) (KS := KS) (all_ctK 321 _ rfl) (show pubOk ct_M_putK 110 [false, false, false, false] [T32, T32, T32, T32, [(0, 200)], [(0, 200)]] [(110, 8), (5, 2)] = true by decide +kernel) ⟨in32 _, in32 _, in32 _, in32 _, r0 v3 (k := (110, 8)) (by decide), r0 v3 (k := (5, 2)) (by decide), trivial⟩ (by decide +kernel) v4).mono (fun v' τ hw => ?_)
  obtain ⟨w1, w2, w3, w4, w5⟩ := hw
  exact ⟨w1 rfl, lg.eq (lgK0 w4).1 (lgK0 w4).2⟩
theorem LG_6 {E : xV} {σ : zS} (h : J0 σ) (lg : LgS σ) : LC_6 E σ LgS := by
  intro x0
  refine (pub_call (E := E) (Y := Yf) (G := GXK) (J := JJK σ) (z := 20) (o := 0) (t := 1) (q := ct_H_backK) (as := [.inl x0]) (ds := [T32, [(0, 200)], [(0, 200)]]) (ks := [(110, 8), (5, 2)]) (KS := KS) (all_ctK 20 _ rfl) (show pubOk ct_H_backK 0 [false] [T32, [(0, 200)], [(0, 200)]] [(110, 8), (5, 2)] = true by decide +kernel) ⟨in32 _, r0 h.2.1 (k := (110, 8)) (by decide), r0 h.2.1 (k := (5, 2)) (by decide), trivial⟩ (by decide +kernel) (jkK (jbJ h.1))).mono (fun v ρ hv => ?_)
  obtain ⟨v1, v2, v3, v4, v5⟩ := hv
  obtain ⟨r, hr⟩ := v1 rfl
  refine ⟨r, hr, ?_⟩
  refine (pub_call (E := E) (Y := Yf) (G := GXK) (J := JJK σ) (z := 322) (o := 110) (t := 1) (q := ct_M_backK) (as := [.inl x0]) (ds := [T32, [(0, 200)], [(0, 200)]]) (ks := [(110, 8), (5, 2)]) (KS := KS) (all_ctK 322 _ rfl) (show pubOk ct_M_backK 110 [false] [T32, [(0, 200)], [(0, 200)]] [(110, 8), (5, 2)] = true by decide +kernel) ⟨in32 _, r0 v3 (k := (110, 8)) (by decide), r0 v3 (k := (5, 2)) (by decide), trivial⟩ (by decide +kernel) v4).mono (fun v' τ hw => ?_)
  obtain ⟨w1, w2, w3, w4, w5⟩ := hw
  exact ⟨w1 rfl, lg.eq (lgK0 w4).1 (lgK0 w4).2⟩
theorem LG_34 {E : xV} {σ : zS} (h : J0 σ) (lg : LgS σ) : LC_34 E σ LgS := by
  intro x0 x1 x2
  refine (pub_call (E := E) (Y := Yf) (G := GXK) (J := JJK σ) (z := 166) (o := 0) (t := 1) (q := ct_H_takeK) (as := [.inl x0, .inl x1, .inl x2]) (ds := [T32, T32, T32, [(0, 200)], [(0, 200)]]) (ks := [(110, 8), (5, 2)]) (KS := KS) (all_ctK 166 _ rfl) (show pubOk ct_H_takeK 0 [false, false, false] [T32, T32, T32, [(0, 200)], [(0, 200)]] [(110, 8), (5, 2)] = true by decide +kernel) ⟨in32 _, in32 _, in32 _, r0 h.2.1 (k := (110, 8)) (by decide), r0 h.2.1 (k := (5, 2)) (by decide), trivial⟩ (by decide +kernel) (jkK (jbJ h.1))).mono (fun v ρ hv => ?_)
  obtain ⟨v1, v2, v3, v4, v5⟩ := hv
  obtain ⟨r, hr⟩ := v1 rfl
  refine ⟨r, hr, ?_⟩
  refine (pub_call (E := E) (Y := Yf) (G := GXK) (J := JJK σ) (z := 406) (o := 110) (t := 1) (q := ct_M_takeK) (as := [.inl x0, .inl x1, .inl x2]) (ds := [T32, T32, T32, [(0, 200)], [(0, 200)]]) (ks := [(110, 8), (5, 2)]) (KS := KS) (all_ctK 406 _ rfl) (show pubOk ct_M_takeK 110 [false, false, false] [T32, T32, T32, [(0, 200)], [(0, 200)]] [(110, 8), (5, 2)] = true by decide +kernel) ⟨in32 _, in32 _, in32 _, r0 v3 (k := (110, 8)) (by decide), r0 v3 (k := (5, 2)) (by decide), trivial⟩ (by decide +kernel) v4).mono (fun v' τ hw => ?_)
  obtain ⟨w1, w2, w3, w4, w5⟩ := hw
  exact ⟨w1 rfl, lg.eq (lgK0 w4).1 (lgK0 w4).2⟩
theorem LG_4 {E : xV} {σ : zS} (h : J0 σ) (lg : LgS σ) : LC_4 E σ LgS := by
  refine (pub_call (E := E) (Y := Yf) (G := GXK) (J := JJK σ) (z := 8) (o := 0) (t := 1) (q := ct_H_groupK) (as := []) (ds := [[(0, 200)], [(0, 200)]]) (ks := [(110, 8), (5, 2)]) (KS := KS) (all_ctK 8 _ rfl) (show pubOk ct_H_groupK 0 [] [[(0, 200)], [(0, 200)]] [(110, 8), (5, 2)] = true by decide +kernel) ⟨r0 h.2.1 (k := (110, 8)) (by decide), r0 h.2.1 (k := (5, 2)) (by decide), trivial⟩ (by decide +kernel) (jkK (jbJ h.1))).mono (fun v ρ hv => ?_)
  obtain ⟨v1, v2, v3, v4, v5⟩ := hv
  obtain ⟨r, hr⟩ := v1 rfl
  refine ⟨r, hr, ?_⟩
  refine (pub_call (E := E) (Y := Yf) (G := GXK) (J := JJK σ) (z := 313) (o := 110) (t := 1) (q := ct_M_groupK) (as := []) (ds := [[(0, 200)], [(0, 200)]]) (ks := [(110, 8), (5, 2)]) (KS := KS) (all_ctK 313 _ rfl) (show pubOk ct_M_groupK 110 [] [[(0, 200)], [(0, 200)]] [(110, 8), (5, 2)] = true by decide +kernel) ⟨r0 v3 (k := (110, 8)) (by decide), r0 v3 (k := (5, 2)) (by decide), trivial⟩ (by decide +kernel) v4).mono (fun v' τ hw => ?_)
  obtain ⟨w1, w2, w3, w4, w5⟩ := hw
  exact ⟨w1 rfl, lg.eq (lgK0 w4).1 (lgK0 w4).2⟩
theorem LG_3 {E : xV} {σ : zS} (h : J0 σ) (lg : LgS σ) : LC_3 E σ LgS := by
  refine (pub_call (E := E) (Y := Yf) (G := GXK) (J := JJK σ) (z := 7) (o := 0) (t := 1) (q := ct_H_personK) (as := []) (ds := [[(0, 200)], [(0, 200)]]) (ks := [(110, 8), (5, 2)]) (KS := KS) (all_ctK 7 _ rfl) (show pubOk ct_H_personK 0 [] [[(0, 200)], [(0, 200)]] [(110, 8), (5, 2)] = true by decide +kernel) ⟨r0 h.2.1 (k := (110, 8)) (by decide), r0 h.2.1 (k := (5, 2)) (by decide), trivial⟩ (by decide +kernel) (jkK (jbJ h.1))).mono (fun v ρ hv => ?_)
  obtain ⟨v1, v2, v3, v4, v5⟩ := hv
  obtain ⟨r, hr⟩ := v1 rfl
  refine ⟨r, hr, ?_⟩
  refine (pub_call (E := E) (Y := Yf) (G := GXK) (J := JJK σ) (z := 312) (o := 110) (t := 1) (q := ct_M_personK) (as := []) (ds := [[(0, 200)], [(0, 200)]]) (ks := [(110, 8), (5, 2)]) (KS := KS) (all_ctK 312 _ rfl) (show pubOk ct_M_personK 110 [] [[(0, 200)], [(0, 200)]] [(110, 8), (5, 2)] = true by decide +kernel) ⟨r0 v3 (k := (110, 8)) (by decide), r0 v3 (k := (5, 2)) (by decide), trivial⟩ (by decide +kernel) v4).mono (fun v' τ hw => ?_)
  obtain ⟨w1, w2, w3, w4, w5⟩ := hw
  exact ⟨w1 rfl, lg.eq (lgK0 w4).1 (lgK0 w4).2⟩
theorem LG_13 {E : xV} {σ : zS} (h : J0 σ) (lg : LgS σ) : LC_13 E σ LgS := by
  intro x0 x1
  refine (pub_call (E := E) (Y := Yf) (G := GXK) (J := JJK σ) (z := 37) (o := 0) (t := 1) (q := ct_H_thingK) (as := [.inl x0, .inl x1]) (ds := [T32, T32, [(0, 200)], [(0, 200)]]) (ks := [(110, 8), (5, 2)]) (KS := KS) (all_ctK 37 _ rfl) (show pubOk ct_H_thingK 0 [false, false] [T32, T32, [(0, 200)], [(0, 200)]] [(110, 8), (5, 2)] = true by decide +kernel) ⟨in32 _, in32 _, r0 h.2.1 (k := (110, 8)) (by decide), r0 h.2.1 (k := (5, 2)) (by decide), trivial⟩ (by decide +kernel) (jkK (jbJ h.1))).mono (fun v ρ hv => ?_)
  obtain ⟨v1, v2, v3, v4, v5⟩ := hv
  obtain ⟨r, hr⟩ := v1 rfl
  refine ⟨r, hr, ?_⟩
  refine (pub_call (E := E) (Y := Yf) (G := GXK) (J := JJK σ) (z := 333) (o := 110) (t := 1) (q := ct_M_thingK) (as := [.inl x0, .inl x1]) (ds := [T32, T32, [(0, 200)], [(0, 200)]]) (ks := [(110, 8), (5, 2)]) (KS := KS) (all_ctK 333 _ rfl) (show pubOk ct_M_thingK 110 [false, false] [T32, T32, [(0, 200)], [(0, 200)]] [(110, 8), (5, 2)] = true by decide +kernel) ⟨in32 _, in32 _, r0 v3 (k := (110, 8)) (by decide), r0 v3 (k := (5, 2)) (by decide), trivial⟩ (by decide +kernel) v4).mono (fun v' τ hw => ?_)
  obtain ⟨w1, w2, w3, w4, w5⟩ := hw
  exact ⟨w1 rfl, lg.eq (lgK0 w4).1 (lgK0 w4).2⟩
theorem LG_14 {E : xV} {σ : zS} (h : J0 σ) (lg : LgS σ) : LC_14 E σ LgS := by
  intro x0 x1
  refine (pub_call (E := E) (Y := Yf) (G := GXK) (J := JJK σ) (z := 39) (o := 0) (t := 1) (q := ct_H_moveK) (as := [.inl x0, .inl x1]) (ds := [T32, T32, [(0, 200)], [(0, 200)]]) (ks := [(110, 8), (5, 2)]) (KS := KS) (all_ctK 39 _ rfl) (show pubOk ct_H_moveK 0 [false, false] [T32, T32, [(0, 200)], [(0, 200)]] [(110, 8), (5, 2)] = true by decide +kernel) ⟨in32 _, in32 _, r0 h.2.1 (k := (110, 8)) (by decide), r0 h.2.1 (k := (5, 2)) (by decide), trivial⟩ (by decide +kernel) (jkK (jbJ h.1))).mono (fun v ρ hv => ?_)
  obtain ⟨v1, v2, v3, v4, v5⟩ := hv
  obtain ⟨r, hr⟩ := v1 rfl
  refine ⟨r, hr, ?_⟩
  refine (pub_call (E := E) (Y := Yf) (G := GXK) (J := JJK σ) (z := 334) (o := 110) (t := 1) (q := ct_M_moveK) (as := [.inl x0, .inl x1]) (ds := [T32, T32, [(0, 200)], [(0, 200)]]) (ks := [(110, 8), (5, 2)]) (KS := KS) (all_ctK 334 _ rfl) (show pubOk ct_M_moveK 110 [false, false] [T32, T32, [(0, 200)], [(0, 200)]] [(110, 8), (5, 2)] = true by decide +kernel) ⟨in32 _, in32 _, r0 v3 (k := (110, 8)) (by decide), r0 v3 (k := (5, 2)) (by decide), trivial⟩ (by decide +kernel) v4).mono (fun v' τ hw => ?_)
  obtain ⟨w1, w2, w3, w4, w5⟩ := hw
  exact ⟨w1 rfl, lg.eq (lgK0 w4).1 (lgK0 w4).2⟩
theorem LG_16 {E : xV} {σ : zS} (h : J0 σ) (lg : LgS σ) : LC_16 E σ LgS := by
  intro x0
  refine (pub_call (E := E) (Y := Yf) (G := GXK) (J := JJK σ) (z := 42) (o := 0) (t := 1) (q := ct_H_dropK) (as := [.inl x0]) (ds := [T32, [(0, 200)], [(0, 200)]]) (ks := [(110, 8), (5, 2)]) (KS := KS) (all_ctK 42 _ rfl) (show pubOk ct_H_dropK 0 [false] [T32, [(0, 200)], [(0, 200)]] [(110, 8), (5, 2)] = true by decide +kernel) ⟨in32 _, r0 h.2.1 (k := (110, 8)) (by decide), r0 h.2.1 (k := (5, 2)) (by decide), trivial⟩ (by decide +kernel) (jkK (jbJ h.1))).mono (fun v ρ hv => ?_)
  obtain ⟨v1, v2, v3, v4, v5⟩ := hv
  obtain ⟨r, hr⟩ := v1 rfl
  refine ⟨r, hr, ?_⟩
  refine (pub_call (E := E) (Y := Yf) (G := GXK) (J := JJK σ) (z := 336) (o := 110) (t := 1) (q := ct_M_dropK) (as := [.inl x0]) (ds := [T32, [(0, 200)], [(0, 200)]]) (ks := [(110, 8), (5, 2)]) (KS := KS) (all_ctK 336 _ rfl) (show pubOk ct_M_dropK 110 [false] [T32, [(0, 200)], [(0, 200)]] [(110, 8), (5, 2)] = true by decide +kernel) ⟨in32 _, r0 v3 (k := (110, 8)) (by decide), r0 v3 (k := (5, 2)) (by decide), trivial⟩ (by decide +kernel) v4).mono (fun v' τ hw => ?_)
  obtain ⟨w1, w2, w3, w4, w5⟩ := hw
  exact ⟨w1 rfl, lg.eq (lgK0 w4).1 (lgK0 w4).2⟩
theorem LG_15 {E : xV} {σ : zS} (h : J0 σ) (lg : LgS σ) : LC_15 E σ LgS := by
  intro x0 x1 hbool
  have b_x1 : inD (Arg.i (.inl x1)) [(0, 1)] := by rcases hbool with rfl | rfl <;> exact ⟨_, List.mem_cons_self .., by decide, by decide⟩
  refine (pub_call (E := E) (Y := Yf) (G := GXK) (J := JJK σ) (z := 40) (o := 0) (t := 1) (q := ct_H_cutOffK) (as := [.inl x0, .inl x1]) (ds := [T32, [(0, 1)], [(0, 200)], [(0, 200)]]) (ks := [(110, 8), (5, 2)]) (KS := KS) (all_ctK 40 _ rfl) (show pubOk ct_H_cutOffK 0 [false, false] [T32, [(0, 1)], [(0, 200)], [(0, 200)]] [(110, 8), (5, 2)] = true by decide +kernel) ⟨in32 _, b_x1, r0 h.2.1 (k := (110, 8)) (by decide), r0 h.2.1 (k := (5, 2)) (by decide), trivial⟩ (by decide +kernel) (jkK (jbJ h.1))).mono (fun v ρ hv => ?_)
  obtain ⟨v1, v2, v3, v4, v5⟩ := hv
  obtain ⟨r, hr⟩ := v1 rfl
  refine ⟨r, hr, ?_⟩
  refine (pub_call (E := E) (Y := Yf) (G := GXK) (J := JJK σ) (z := 335) (o := 110) (t := 1) (q := ct_M_cutOffK) (as := [.inl x0, .inl x1]) (ds := [T32, [(0, 1)], [(0, 200)], [(0, 200)]]) (ks := [(110, 8), (5, 2)]) (KS := KS) (all_ctK 335 _ rfl) (show pubOk ct_M_cutOffK 110 [false, false] [T32, [(0, 1)], [(0, 200)], [(0, 200)]] [(110, 8), (5, 2)] = true by decide +kernel) ⟨in32 _, b_x1, r0 v3 (k := (110, 8)) (by decide), r0 v3 (k := (5, 2)) (by decide), trivial⟩ (by decide +kernel) v4).mono (fun v' τ hw => ?_)
  obtain ⟨w1, w2, w3, w4, w5⟩ := hw
  exact ⟨w1 rfl, lg.eq (lgK0 w4).1 (lgK0 w4).2⟩
end
