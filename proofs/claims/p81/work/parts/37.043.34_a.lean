noncomputable section
noncomputable def J0L9 (σ : zS) : Prop := JJL9 [] σ ∧ (∀ k ∈ KS, 0 ≤ fz σ k ∧ fz σ k ≤ 200) ∧ Eqs EQS σ
theorem J0_00L9 : J0L9 σ00 := by
  refine ⟨fresh_JL9, ?_, fun e he => ?_⟩
  · intro k hk
    rcases List.mem_cons.mp hk with rfl | hk
    · decide +kernel
    rcases List.mem_cons.mp hk with rfl | hk
    · decide +kernel
    cases hk
  · exact eq_of_beq (List.all_eq_true.mp (show eqsB = true by decide +kernel) e he)
noncomputable def eqOkL9 (l : List ((Nat × Nat) × (Nat × Nat))) (q : Ct) : Bool := l.all fun e => !(isS (q.w.get (GXL9.g.key e.1.1 e.1.2))) && !(isS (q.w.get (GXL9.g.key e.2.1 e.2.2)))
theorem Eqs.keepL9 {l : List ((Nat × Nat) × (Nat × Nat))} {q : Ct} {σ σ' : zS} (e : Eqs l σ) (h : eqOkL9 l q = true) (hf : ∀ k j, isS (q.w.get (GXL9.g.key k j)) = false → σ'.1 k j = σ.1 k j) : Eqs l σ' := by
  intro x hx
  have h1 := List.all_eq_true.mp h x hx
  rw [Bool.and_eq_true, Bool.not_eq_true', Bool.not_eq_true'] at h1
  show (σ'.1 x.1.1 x.1.2).toInt = (σ'.1 x.2.1 x.2.2).toInt
  rw [hf _ _ h1.1, hf _ _ h1.2]
  exact e x hx
theorem fld_inL9 {σ : zS} (h : JJL9 [] σ) {k j : Nat} {d : Dom} (hb : bdIn k j d = true) : inD (σ.1 k j).toInt d := by
  unfold bdIn at hb
  rw [Bool.and_eq_true] at hb
  refine dsub_in hb.2 (h.1 k j ?_)
  have hb1 := hb.1
  cases hk : GG.ka.get k with
  | none =>
    rw [hk] at hb1
    exact Or.inl ⟨hk, Nat.le_of_ble_eq_true hb1⟩
  | some e =>
    rw [hk] at hb1
    exact Or.inr ⟨e.1, e.2, hk, Nat.le_of_ble_eq_true hb1⟩
theorem LC_0_okL9 {E : xV} {σ : zS} (h : J0L9 σ) : LC_0 E σ J0L9 := by
  intro x0 x1
  refine (pub_call (E := E) (Y := Yf) (G := GXL9) (J := JJL9) (z := 1) (o := 0) (t := 1) (q := ct_H_feed) (as := [.inl x0, .inr x1]) (ds := [T32, T64, [(0, 200)], [(0, 200)]]) (ks := [(110, 8), (5, 2)]) (KS := KS) (all_ctL9 1 _ rfl) (show pubOk ct_H_feed 0 [false, true] [T32, T64, [(0, 200)], [(0, 200)]] [(110, 8), (5, 2)] = true by decide +kernel) ⟨in32 _, in64 _, r0 h.2.1 (k := (110, 8)) (by decide), r0 h.2.1 (k := (5, 2)) (by decide), trivial⟩ (by decide +kernel) h.1).mono (fun v σ1 hv => ?_)
  obtain ⟨v1, v2, v3, v4, v5⟩ := hv
  obtain ⟨r, hr⟩ := v1 rfl
  refine ⟨r, hr, ?_⟩
  refine (pub_call (E := E) (Y := Yf) (G := GXL9) (J := JJL9) (z := 302) (o := 110) (t := 1) (q := ct_M_feed) (as := [.inl x0, .inr x1]) (ds := [T32, T64, [(0, 200)], [(0, 200)]]) (ks := [(110, 8), (5, 2)]) (KS := KS) (all_ctL9 302 _ rfl) (show pubOk ct_M_feed 110 [false, true] [T32, T64, [(0, 200)], [(0, 200)]] [(110, 8), (5, 2)] = true by decide +kernel) ⟨in32 _, in64 _, r0 v3 (k := (110, 8)) (by decide), r0 v3 (k := (5, 2)) (by decide), trivial⟩ (by decide +kernel) v4).mono (fun v' σ2 hw => ?_)
  obtain ⟨w1, w2, w3, w4, w5⟩ := hw
  exact ⟨w1 rfl, w4, w3, (h.2.2.keepL9 (q := ct_H_feed) (by decide +kernel) v5).keepL9 (q := ct_M_feed) (by decide +kernel) w5⟩
theorem LC_1_okL9 {E : xV} {σ : zS} (h : J0L9 σ) : LC_1 E σ J0L9 := by
  intro x0
  refine (pub_call (E := E) (Y := Yf) (G := GXL9) (J := JJL9) (z := 2) (o := 0) (t := 1) (q := ct_H_cut) (as := [.inl x0]) (ds := [T32, [(0, 200)], [(0, 200)]]) (ks := [(110, 8), (5, 2)]) (KS := KS) (all_ctL9 2 _ rfl) (show pubOk ct_H_cut 0 [false] [T32, [(0, 200)], [(0, 200)]] [(110, 8), (5, 2)] = true by decide +kernel) ⟨in32 _, r0 h.2.1 (k := (110, 8)) (by decide), r0 h.2.1 (k := (5, 2)) (by decide), trivial⟩ (by decide +kernel) h.1).mono (fun v σ1 hv => ?_)
  obtain ⟨v1, v2, v3, v4, v5⟩ := hv
  obtain ⟨r, hr⟩ := v1 rfl
  refine ⟨r, hr, ?_⟩
  refine (pub_call (E := E) (Y := Yf) (G := GXL9) (J := JJL9) (z := 303) (o := 110) (t := 1) (q := ct_M_cut) (as := [.inl x0]) (ds := [T32, [(0, 200)], [(0, 200)]]) (ks := [(110, 8), (5, 2)]) (KS := KS) (all_ctL9 303 _ rfl) (show pubOk ct_M_cut 110 [false] [T32, [(0, 200)], [(0, 200)]] [(110, 8), (5, 2)] = true by decide +kernel) ⟨in32 _, r0 v3 (k := (110, 8)) (by decide), r0 v3 (k := (5, 2)) (by decide), trivial⟩ (by decide +kernel) v4).mono (fun v' σ2 hw => ?_)
  obtain ⟨w1, w2, w3, w4, w5⟩ := hw
  exact ⟨w1 rfl, w4, w3, (h.2.2.keepL9 (q := ct_H_cut) (by decide +kernel) v5).keepL9 (q := ct_M_cut) (by decide +kernel) w5⟩
theorem LC_4_okL9 {E : xV} {σ : zS} (h : J0L9 σ) : LC_4 E σ J0L9 := by
  refine (pub_call (E := E) (Y := Yf) (G := GXL9) (J := JJL9) (z := 8) (o := 0) (t := 1) (q := ct_H_group) (as := []) (ds := [[(0, 200)], [(0, 200)]]) (ks := [(110, 8), (5, 2)]) (KS := KS) (all_ctL9 8 _ rfl) (show pubOk ct_H_group 0 [] [[(0, 200)], [(0, 200)]] [(110, 8), (5, 2)] = true by decide +kernel) ⟨r0 h.2.1 (k := (110, 8)) (by decide), r0 h.2.1 (k := (5, 2)) (by decide), trivial⟩ (by decide +kernel) h.1).mono (fun v σ1 hv => ?_)
  obtain ⟨v1, v2, v3, v4, v5⟩ := hv
  obtain ⟨r, hr⟩ := v1 rfl
  refine ⟨r, hr, ?_⟩
  refine (pub_call (E := E) (Y := Yf) (G := GXL9) (J := JJL9) (z := 313) (o := 110) (t := 1) (q := ct_M_group) (as := []) (ds := [[(0, 200)], [(0, 200)]]) (ks := [(110, 8), (5, 2)]) (KS := KS) (all_ctL9 313 _ rfl) (show pubOk ct_M_group 110 [] [[(0, 200)], [(0, 200)]] [(110, 8), (5, 2)] = true by decide +kernel) ⟨r0 v3 (k := (110, 8)) (by decide), r0 v3 (k := (5, 2)) (by decide), trivial⟩ (by decide +kernel) v4).mono (fun v' σ2 hw => ?_)
  obtain ⟨w1, w2, w3, w4, w5⟩ := hw
  exact ⟨w1 rfl, w4, w3, (h.2.2.keepL9 (q := ct_H_group) (by decide +kernel) v5).keepL9 (q := ct_M_group) (by decide +kernel) w5⟩
theorem LC_5_okL9 {E : xV} {σ : zS} (h : J0L9 σ) : LC_5 E σ J0L9 := by
  intro x0 x1 x2 x3
  refine (pub_call (E := E) (Y := Yf) (G := GXL9) (J := JJL9) (z := 18) (o := 0) (t := 1) (q := ct_H_put) (as := [.inl x0, .inl x1, .inl x2, .inl x3]) (ds := [T32, T32, T32, T32, [(0, 200)], [(0, 200)]]) (ks := [(110, 8), (5, 2)]) (KS := KS) (all_ctL9 18 _ rfl) (show pubOk ct_H_put 0 [false, false, false, false] [T32, T32, T32, T32, [(0, 200)], [(0, 200)]] [(110, 8), (5, 2)] = true by decide +kernel) ⟨in32 _, in32 _, in32 _, in32 _, r0 h.2.1 (k := (110, 8)) (by decide), r0 h.2.1 (k := (5, 2)) (by decide), trivial⟩ (by decide +kernel) h.1).mono (fun v σ1 hv => ?_)
  obtain ⟨v1, v2, v3, v4, v5⟩ := hv
  obtain ⟨r, hr⟩ := v1 rfl
  refine ⟨r, hr, ?_⟩
  refine (pub_call (E := E) (Y := Yf) (G := GXL9) (J := JJL9) (z := 321) (o := 110) (t := 1) (q := ct_M_put) (as := [.inl x0, .inl x1, .inl x2, .inl x3]) (ds := [T32, T32, T32, T32, [(0, 200)], [(0, 200)]]) (ks := [(110, 8), (5, 2)]) (KS := KS) (all_ctL9 321 _ rfl) (show pubOk ct_M_put 110 [false, false, false, false] [T32, T32, T32, T32, [(0, 200)], [(0, 200)]] [(110, 8), (5, 2)] = true by decide +kernel) ⟨in32 _, in32 _, in32 _, in32 _, r0 v3 (k := (110, 8)) (by decide), r0 v3 (k := (5, 2)) (by decide), trivial⟩ (by decide +kernel) v4).mono (fun v' σ2 hw => ?_)
  obtain ⟨w1, w2, w3, w4, w5⟩ := hw
  exact ⟨w1 rfl, w4, w3, (h.2.2.keepL9 (q := ct_H_put) (by decide +kernel) v5).keepL9 (q := ct_M_put) (by decide +kernel) w5⟩
theorem LC_6_okL9 {E : xV} {σ : zS} (h : J0L9 σ) : LC_6 E σ J0L9 := by
  intro x0
  refine (pub_call (E := E) (Y := Yf) (G := GXL9) (J := JJL9) (z := 20) (o := 0) (t := 1) (q := ct_H_back) (as := [.inl x0]) (ds := [T32, [(0, 200)], [(0, 200)]]) (ks := [(110, 8), (5, 2)]) (KS := KS) (all_ctL9 20 _ rfl) (show pubOk ct_H_back 0 [false] [T32, [(0, 200)], [(0, 200)]] [(110, 8), (5, 2)] = true by decide +kernel) ⟨in32 _, r0 h.2.1 (k := (110, 8)) (by decide), r0 h.2.1 (k := (5, 2)) (by decide), trivial⟩ (by decide +kernel) h.1).mono (fun v σ1 hv => ?_)
  obtain ⟨v1, v2, v3, v4, v5⟩ := hv
  obtain ⟨r, hr⟩ := v1 rfl
  refine ⟨r, hr, ?_⟩
  refine (pub_call (E := E) (Y := Yf) (G := GXL9) (J := JJL9) (z := 322) (o := 110) (t := 1) (q := ct_M_back) (as := [.inl x0]) (ds := [T32, [(0, 200)], [(0, 200)]]) (ks := [(110, 8), (5, 2)]) (KS := KS) (all_ctL9 322 _ rfl) (show pubOk ct_M_back 110 [false] [T32, [(0, 200)], [(0, 200)]] [(110, 8), (5, 2)] = true by decide +kernel) ⟨in32 _, r0 v3 (k := (110, 8)) (by decide), r0 v3 (k := (5, 2)) (by decide), trivial⟩ (by decide +kernel) v4).mono (fun v' σ2 hw => ?_)
  obtain ⟨w1, w2, w3, w4, w5⟩ := hw
  exact ⟨w1 rfl, w4, w3, (h.2.2.keepL9 (q := ct_H_back) (by decide +kernel) v5).keepL9 (q := ct_M_back) (by decide +kernel) w5⟩
theorem LC_7_okL9 {E : xV} {σ : zS} (h : J0L9 σ) : LC_7 E σ J0L9 := by
  intro x0 x1 x2 x3
  refine (pub_call (E := E) (Y := Yf) (G := GXL9) (J := JJL9) (z := 22) (o := 0) (t := 1) (q := ct_H_belongsL9) (as := [.inl x0, .inl x1, .inl x2, .inl x3]) (ds := [T32, T32, T32, T32, [(0, 200)], [(0, 200)]]) (ks := [(110, 8), (5, 2)]) (KS := KS) (all_ctL9 22 _ rfl) (show pubOk ct_H_belongsL9 0 [false, false, false, false] [T32, T32, T32, T32, [(0, 200)], [(0, 200)]] [(110, 8), (5, 2)] = true by decide +kernel) ⟨in32 _, in32 _, in32 _, in32 _, r0 h.2.1 (k := (110, 8)) (by decide), r0 h.2.1 (k := (5, 2)) (by decide), trivial⟩ (by decide +kernel) h.1).mono (fun v σ1 hv => ?_)
  obtain ⟨v1, v2, v3, v4, v5⟩ := hv
  obtain ⟨r, hr⟩ := v1 rfl
  refine ⟨r, hr, ?_⟩
  refine (pub_call (E := E) (Y := Yf) (G := GXL9) (J := JJL9) (z := 323) (o := 110) (t := 1) (q := ct_M_belongsL9) (as := [.inl x0, .inl x1, .inl x2, .inl x3]) (ds := [T32, T32, T32, T32, [(0, 200)], [(0, 200)]]) (ks := [(110, 8), (5, 2)]) (KS := KS) (all_ctL9 323 _ rfl) (show pubOk ct_M_belongsL9 110 [false, false, false, false] [T32, T32, T32, T32, [(0, 200)], [(0, 200)]] [(110, 8), (5, 2)] = true by decide +kernel) ⟨in32 _, in32 _, in32 _, in32 _, r0 v3 (k := (110, 8)) (by decide), r0 v3 (k := (5, 2)) (by decide), trivial⟩ (by decide +kernel) v4).mono (fun v' σ2 hw => ?_)
  obtain ⟨w1, w2, w3, w4, w5⟩ := hw
  exact ⟨w1 rfl, w4, w3, (h.2.2.keepL9 (q := ct_H_belongsL9) (by decide +kernel) v5).keepL9 (q := ct_M_belongsL9) (by decide +kernel) w5⟩
theorem LC_8_okL9 {E : xV} {σ : zS} (h : J0L9 σ) : LC_8 E σ J0L9 := by
  intro x0 x1
  refine (pub_call (E := E) (Y := Yf) (G := GXL9) (J := JJL9) (z := 23) (o := 0) (t := 1) (q := ct_H_rowOfL9) (as := [.inl x0, .inl x1]) (ds := [T32, T32, [(0, 200)], [(0, 200)]]) (ks := [(110, 8), (5, 2)]) (KS := KS) (all_ctL9 23 _ rfl) (show pubOk ct_H_rowOfL9 0 [false, false] [T32, T32, [(0, 200)], [(0, 200)]] [(110, 8), (5, 2)] = true by decide +kernel) ⟨in32 _, in32 _, r0 h.2.1 (k := (110, 8)) (by decide), r0 h.2.1 (k := (5, 2)) (by decide), trivial⟩ (by decide +kernel) h.1).mono (fun v σ1 hv => ?_)
  obtain ⟨v1, v2, v3, v4, v5⟩ := hv
  obtain ⟨r, hr⟩ := v1 rfl
  refine ⟨r, hr, ?_⟩
  refine (pub_call (E := E) (Y := Yf) (G := GXL9) (J := JJL9) (z := 324) (o := 110) (t := 1) (q := ct_M_rowOfL9) (as := [.inl x0, .inl x1]) (ds := [T32, T32, [(0, 200)], [(0, 200)]]) (ks := [(110, 8), (5, 2)]) (KS := KS) (all_ctL9 324 _ rfl) (show pubOk ct_M_rowOfL9 110 [false, false] [T32, T32, [(0, 200)], [(0, 200)]] [(110, 8), (5, 2)] = true by decide +kernel) ⟨in32 _, in32 _, r0 v3 (k := (110, 8)) (by decide), r0 v3 (k := (5, 2)) (by decide), trivial⟩ (by decide +kernel) v4).mono (fun v' σ2 hw => ?_)
  obtain ⟨w1, w2, w3, w4, w5⟩ := hw
  exact ⟨w1 rfl, w4, w3, (h.2.2.keepL9 (q := ct_H_rowOfL9) (by decide +kernel) v5).keepL9 (q := ct_M_rowOfL9) (by decide +kernel) w5⟩
theorem LC_9_okL9 {E : xV} {σ : zS} (h : J0L9 σ) : LC_9 E σ J0L9 := by
  intro x0 x1 x2 x3
  refine (pub_call (E := E) (Y := Yf) (G := GXL9) (J := JJL9) (z := 29) (o := 0) (t := 1) (q := ct_H_featureL9) (as := [.inl x0, .inl x1, .inl x2, .inl x3]) (ds := [T32, T32, T32, T32, [(0, 200)], [(0, 200)]]) (ks := [(110, 8), (5, 2)]) (KS := KS) (all_ctL9 29 _ rfl) (show pubOk ct_H_featureL9 0 [false, false, false, false] [T32, T32, T32, T32, [(0, 200)], [(0, 200)]] [(110, 8), (5, 2)] = true by decide +kernel) ⟨in32 _, in32 _, in32 _, in32 _, r0 h.2.1 (k := (110, 8)) (by decide), r0 h.2.1 (k := (5, 2)) (by decide), trivial⟩ (by decide +kernel) h.1).mono (fun v σ1 hv => ?_)
  obtain ⟨v1, v2, v3, v4, v5⟩ := hv
  obtain ⟨r, hr⟩ := v1 rfl
  refine ⟨r, hr, ?_⟩
  refine (pub_call (E := E) (Y := Yf) (G := GXL9) (J := JJL9) (z := 327) (o := 110) (t := 1) (q := ct_M_featureL9) (as := [.inl x0, .inl x1, .inl x2, .inl x3]) (ds := [T32, T32, T32, T32, [(0, 200)], [(0, 200)]]) (ks := [(110, 8), (5, 2)]) (KS := KS) (all_ctL9 327 _ rfl) (show pubOk ct_M_featureL9 110 [false, false, false, false] [T32, T32, T32, T32, [(0, 200)], [(0, 200)]] [(110, 8), (5, 2)] = true by decide +kernel) ⟨in32 _, in32 _, in32 _, in32 _, r0 v3 (k := (110, 8)) (by decide), r0 v3 (k := (5, 2)) (by decide), trivial⟩ (by decide +kernel) v4).mono (fun v' σ2 hw => ?_)
  obtain ⟨w1, w2, w3, w4, w5⟩ := hw
  exact ⟨w1 rfl, w4, w3, (h.2.2.keepL9 (q := ct_H_featureL9) (by decide +kernel) v5).keepL9 (q := ct_M_featureL9) (by decide +kernel) w5⟩
theorem LC_10_okL9 {E : xV} {σ : zS} (h : J0L9 σ) : LC_10 E σ J0L9 := by
  intro x0 x1 x2 x3
  refine (pub_call (E := E) (Y := Yf) (G := GXL9) (J := JJL9) (z := 32) (o := 0) (t := 1) (q := ct_H_itemL9) (as := [.inl x0, .inl x1, .inl x2, .inr x3]) (ds := [T32, T32, T32, T64, [(0, 200)], [(0, 200)]]) (ks := [(110, 8), (5, 2)]) (KS := KS) (all_ctL9 32 _ rfl) (show pubOk ct_H_itemL9 0 [false, false, false, true] [T32, T32, T32, T64, [(0, 200)], [(0, 200)]] [(110, 8), (5, 2)] = true by decide +kernel) ⟨in32 _, in32 _, in32 _, in64 _, r0 h.2.1 (k := (110, 8)) (by decide), r0 h.2.1 (k := (5, 2)) (by decide), trivial⟩ (by decide +kernel) h.1).mono (fun v σ1 hv => ?_)
  obtain ⟨v1, v2, v3, v4, v5⟩ := hv
  obtain ⟨r, hr⟩ := v1 rfl
  refine ⟨r, hr, ?_⟩
  refine (pub_call (E := E) (Y := Yf) (G := GXL9) (J := JJL9) (z := 328) (o := 110) (t := 1) (q := ct_M_itemL9) (as := [.inl x0, .inl x1, .inl x2, .inr x3]) (ds := [T32, T32, T32, T64, [(0, 200)], [(0, 200)]]) (ks := [(110, 8), (5, 2)]) (KS := KS) (all_ctL9 328 _ rfl) (show pubOk ct_M_itemL9 110 [false, false, false, true] [T32, T32, T32, T64, [(0, 200)], [(0, 200)]] [(110, 8), (5, 2)] = true by decide +kernel) ⟨in32 _, in32 _, in32 _, in64 _, r0 v3 (k := (110, 8)) (by decide), r0 v3 (k := (5, 2)) (by decide), trivial⟩ (by decide +kernel) v4).mono (fun v' σ2 hw => ?_)
  obtain ⟨w1, w2, w3, w4, w5⟩ := hw
  exact ⟨w1 rfl, w4, w3, (h.2.2.keepL9 (q := ct_H_itemL9) (by decide +kernel) v5).keepL9 (q := ct_M_itemL9) (by decide +kernel) w5⟩
theorem LC_11_okL9 {E : xV} {σ : zS} (h : J0L9 σ) : LC_11 E σ J0L9 := by
  intro x0 x1 x2 x3
  refine (pub_call (E := E) (Y := Yf) (G := GXL9) (J := JJL9) (z := 33) (o := 0) (t := 3) (q := ct_H_itemOfL9) (as := [.inl x0, .inl x1, .inl x2, .inl x3]) (ds := [T32, T32, T32, T32, [(0, 200)], [(0, 200)]]) (ks := [(110, 8), (5, 2)]) (KS := KS) (all_ctL9 33 _ rfl) (show pubOk ct_H_itemOfL9 0 [false, false, false, false] [T32, T32, T32, T32, [(0, 200)], [(0, 200)]] [(110, 8), (5, 2)] = true by decide +kernel) ⟨in32 _, in32 _, in32 _, in32 _, r0 h.2.1 (k := (110, 8)) (by decide), r0 h.2.1 (k := (5, 2)) (by decide), trivial⟩ (by decide +kernel) h.1).mono (fun v σ1 hv => ?_)
  obtain ⟨v1, v2, v3, v4, v5⟩ := hv
  obtain ⟨r, hr⟩ := v2 rfl
  refine ⟨r, hr, ?_⟩
  refine (pub_call (E := E) (Y := Yf) (G := GXL9) (J := JJL9) (z := 329) (o := 110) (t := 3) (q := ct_M_itemOfL9) (as := [.inl x0, .inl x1, .inl x2, .inl x3]) (ds := [T32, T32, T32, T32, [(0, 200)], [(0, 200)]]) (ks := [(110, 8), (5, 2)]) (KS := KS) (all_ctL9 329 _ rfl) (show pubOk ct_M_itemOfL9 110 [false, false, false, false] [T32, T32, T32, T32, [(0, 200)], [(0, 200)]] [(110, 8), (5, 2)] = true by decide +kernel) ⟨in32 _, in32 _, in32 _, in32 _, r0 v3 (k := (110, 8)) (by decide), r0 v3 (k := (5, 2)) (by decide), trivial⟩ (by decide +kernel) v4).mono (fun v' σ2 hw => ?_)
  obtain ⟨w1, w2, w3, w4, w5⟩ := hw
  exact ⟨w2 rfl, w4, w3, (h.2.2.keepL9 (q := ct_H_itemOfL9) (by decide +kernel) v5).keepL9 (q := ct_M_itemOfL9) (by decide +kernel) w5⟩
theorem LC_12_okL9 {E : xV} {σ : zS} (h : J0L9 σ) : LC_12 E σ J0L9 := by
  intro x0 x1 x2 x3 x4 x5 x6
  refine (pub_call (E := E) (Y := Yf) (G := GXL9) (J := JJL9) (z := 35) (o := 0) (t := 1) (q := ct_H_copyL9) (as := [.inl x0, .inl x1, .inl x2, .inl x3, .inl x4, .inl x5, .inl x6]) (ds := [T32, T32, T32, T32, T32, T32, T32, [(0, 200)], [(0, 200)]]) (ks := [(110, 8), (5, 2)]) (KS := KS) (all_ctL9 35 _ rfl) (show pubOk ct_H_copyL9 0 [false, false, false, false, false, false, false] [T32, T32, T32, T32, T32, T32, T32, [(0, 200)], [(0, 200)]] [(110, 8), (5, 2)] = true by decide +kernel) ⟨in32 _, in32 _, in32 _, in32 _, in32 _, in32 _, in32 _, r0 h.2.1 (k := (110, 8)) (by decide), r0 h.2.1 (k := (5, 2)) (by decide), trivial⟩ (by decide +kernel) h.1).mono (fun v σ1 hv => ?_)
  obtain ⟨v1, v2, v3, v4, v5⟩ := hv
  obtain ⟨r, hr⟩ := v1 rfl
  refine ⟨r, hr, ?_⟩
  refine (pub_call (E := E) (Y := Yf) (G := GXL9) (J := JJL9) (z := 330) (o := 110) (t := 1) (q := ct_M_copyL9) (as := [.inl x0, .inl x1, .inl x2, .inl x3, .inl x4, .inl x5, .inl x6]) (ds := [T32, T32, T32, T32, T32, T32, T32, [(0, 200)], [(0, 200)]]) (ks := [(110, 8), (5, 2)]) (KS := KS) (all_ctL9 330 _ rfl) (show pubOk ct_M_copyL9 110 [false, false, false, false, false, false, false] [T32, T32, T32, T32, T32, T32, T32, [(0, 200)], [(0, 200)]] [(110, 8), (5, 2)] = true by decide +kernel) ⟨in32 _, in32 _, in32 _, in32 _, in32 _, in32 _, in32 _, r0 v3 (k := (110, 8)) (by decide), r0 v3 (k := (5, 2)) (by decide), trivial⟩ (by decide +kernel) v4).mono (fun v' σ2 hw => ?_)
  obtain ⟨w1, w2, w3, w4, w5⟩ := hw
  exact ⟨w1 rfl, w4, w3, (h.2.2.keepL9 (q := ct_H_copyL9) (by decide +kernel) v5).keepL9 (q := ct_M_copyL9) (by decide +kernel) w5⟩
theorem LC_17_okL9 {E : xV} {σ : zS} (h : J0L9 σ) : LC_17 E σ J0L9 := by
  intro x0 x1
  refine (pub_call (E := E) (Y := Yf) (G := GXL9) (J := JJL9) (z := 44) (o := 0) (t := 1) (q := ct_H_thingOfL9) (as := [.inl x0, .inl x1]) (ds := [T32, T32, [(0, 200)], [(0, 200)]]) (ks := [(110, 8), (5, 2)]) (KS := KS) (all_ctL9 44 _ rfl) (show pubOk ct_H_thingOfL9 0 [false, false] [T32, T32, [(0, 200)], [(0, 200)]] [(110, 8), (5, 2)] = true by decide +kernel) ⟨in32 _, in32 _, r0 h.2.1 (k := (110, 8)) (by decide), r0 h.2.1 (k := (5, 2)) (by decide), trivial⟩ (by decide +kernel) h.1).mono (fun v σ1 hv => ?_)
  obtain ⟨v1, v2, v3, v4, v5⟩ := hv
  obtain ⟨r, hr⟩ := v1 rfl
  refine ⟨r, hr, ?_⟩
  refine (pub_call (E := E) (Y := Yf) (G := GXL9) (J := JJL9) (z := 338) (o := 110) (t := 1) (q := ct_M_thingOfL9) (as := [.inl x0, .inl x1]) (ds := [T32, T32, [(0, 200)], [(0, 200)]]) (ks := [(110, 8), (5, 2)]) (KS := KS) (all_ctL9 338 _ rfl) (show pubOk ct_M_thingOfL9 110 [false, false] [T32, T32, [(0, 200)], [(0, 200)]] [(110, 8), (5, 2)] = true by decide +kernel) ⟨in32 _, in32 _, r0 v3 (k := (110, 8)) (by decide), r0 v3 (k := (5, 2)) (by decide), trivial⟩ (by decide +kernel) v4).mono (fun v' σ2 hw => ?_)
  obtain ⟨w1, w2, w3, w4, w5⟩ := hw
  exact ⟨w1 rfl, w4, w3, (h.2.2.keepL9 (q := ct_H_thingOfL9) (by decide +kernel) v5).keepL9 (q := ct_M_thingOfL9) (by decide +kernel) w5⟩
theorem LC_18_okL9 {E : xV} {σ : zS} (h : J0L9 σ) : LC_18 E σ J0L9 := by
  intro x0 x1
  refine (pub_call (E := E) (Y := Yf) (G := GXL9) (J := JJL9) (z := 46) (o := 0) (t := 1) (q := ct_H_underL9) (as := [.inl x0, .inl x1]) (ds := [T32, T32, [(0, 200)], [(0, 200)]]) (ks := [(110, 8), (5, 2)]) (KS := KS) (all_ctL9 46 _ rfl) (show pubOk ct_H_underL9 0 [false, false] [T32, T32, [(0, 200)], [(0, 200)]] [(110, 8), (5, 2)] = true by decide +kernel) ⟨in32 _, in32 _, r0 h.2.1 (k := (110, 8)) (by decide), r0 h.2.1 (k := (5, 2)) (by decide), trivial⟩ (by decide +kernel) h.1).mono (fun v σ1 hv => ?_)
  obtain ⟨v1, v2, v3, v4, v5⟩ := hv
  obtain ⟨r, hr⟩ := v1 rfl
  refine ⟨r, hr, ?_⟩
  refine (pub_call (E := E) (Y := Yf) (G := GXL9) (J := JJL9) (z := 340) (o := 110) (t := 1) (q := ct_M_underL9) (as := [.inl x0, .inl x1]) (ds := [T32, T32, [(0, 200)], [(0, 200)]]) (ks := [(110, 8), (5, 2)]) (KS := KS) (all_ctL9 340 _ rfl) (show pubOk ct_M_underL9 110 [false, false] [T32, T32, [(0, 200)], [(0, 200)]] [(110, 8), (5, 2)] = true by decide +kernel) ⟨in32 _, in32 _, r0 v3 (k := (110, 8)) (by decide), r0 v3 (k := (5, 2)) (by decide), trivial⟩ (by decide +kernel) v4).mono (fun v' σ2 hw => ?_)
  obtain ⟨w1, w2, w3, w4, w5⟩ := hw
  exact ⟨w1 rfl, w4, w3, (h.2.2.keepL9 (q := ct_H_underL9) (by decide +kernel) v5).keepL9 (q := ct_M_underL9) (by decide +kernel) w5⟩
theorem LC_20_okL9 {E : xV} {σ : zS} (h : J0L9 σ) : LC_20 E σ J0L9 := by
  intro x0 x1
  refine (pub_call (E := E) (Y := Yf) (G := GXL9) (J := JJL9) (z := 51) (o := 0) (t := 1) (q := ct_H_doesHoldL9) (as := [.inl x0, .inl x1]) (ds := [T32, T32, [(0, 200)], [(0, 200)]]) (ks := [(110, 8), (5, 2)]) (KS := KS) (all_ctL9 51 _ rfl) (show pubOk ct_H_doesHoldL9 0 [false, false] [T32, T32, [(0, 200)], [(0, 200)]] [(110, 8), (5, 2)] = true by decide +kernel) ⟨in32 _, in32 _, r0 h.2.1 (k := (110, 8)) (by decide), r0 h.2.1 (k := (5, 2)) (by decide), trivial⟩ (by decide +kernel) h.1).mono (fun v σ1 hv => ?_)
  obtain ⟨v1, v2, v3, v4, v5⟩ := hv
  obtain ⟨r, hr⟩ := v1 rfl
  refine ⟨r, hr, ?_⟩
  refine (pub_call (E := E) (Y := Yf) (G := GXL9) (J := JJL9) (z := 344) (o := 110) (t := 1) (q := ct_M_doesHoldL9) (as := [.inl x0, .inl x1]) (ds := [T32, T32, [(0, 200)], [(0, 200)]]) (ks := [(110, 8), (5, 2)]) (KS := KS) (all_ctL9 344 _ rfl) (show pubOk ct_M_doesHoldL9 110 [false, false] [T32, T32, [(0, 200)], [(0, 200)]] [(110, 8), (5, 2)] = true by decide +kernel) ⟨in32 _, in32 _, r0 v3 (k := (110, 8)) (by decide), r0 v3 (k := (5, 2)) (by decide), trivial⟩ (by decide +kernel) v4).mono (fun v' σ2 hw => ?_)
  obtain ⟨w1, w2, w3, w4, w5⟩ := hw
  exact ⟨w1 rfl, w4, w3, (h.2.2.keepL9 (q := ct_H_doesHoldL9) (by decide +kernel) v5).keepL9 (q := ct_M_doesHoldL9) (by decide +kernel) w5⟩
theorem LC_21_okL9 {E : xV} {σ : zS} (h : J0L9 σ) : LC_21 E σ J0L9 := by
  intro x0
  refine (pub_call (E := E) (Y := Yf) (G := GXL9) (J := JJL9) (z := 105) (o := 0) (t := 1) (q := ct_H_policy) (as := [.inl x0]) (ds := [T32, [(0, 200)], [(0, 200)]]) (ks := [(110, 8), (5, 2)]) (KS := KS) (all_ctL9 105 _ rfl) (show pubOk ct_H_policy 0 [false] [T32, [(0, 200)], [(0, 200)]] [(110, 8), (5, 2)] = true by decide +kernel) ⟨in32 _, r0 h.2.1 (k := (110, 8)) (by decide), r0 h.2.1 (k := (5, 2)) (by decide), trivial⟩ (by decide +kernel) h.1).mono (fun v σ1 hv => ?_)
  obtain ⟨v1, v2, v3, v4, v5⟩ := hv
  obtain ⟨r, hr⟩ := v1 rfl
  refine ⟨r, hr, ?_⟩
  refine (pub_call (E := E) (Y := Yf) (G := GXL9) (J := JJL9) (z := 375) (o := 110) (t := 1) (q := ct_M_policy) (as := [.inl x0]) (ds := [T32, [(0, 200)], [(0, 200)]]) (ks := [(110, 8), (5, 2)]) (KS := KS) (all_ctL9 375 _ rfl) (show pubOk ct_M_policy 110 [false] [T32, [(0, 200)], [(0, 200)]] [(110, 8), (5, 2)] = true by decide +kernel) ⟨in32 _, r0 v3 (k := (110, 8)) (by decide), r0 v3 (k := (5, 2)) (by decide), trivial⟩ (by decide +kernel) v4).mono (fun v' σ2 hw => ?_)
  obtain ⟨w1, w2, w3, w4, w5⟩ := hw
  exact ⟨w1 rfl, w4, w3, (h.2.2.keepL9 (q := ct_H_policy) (by decide +kernel) v5).keepL9 (q := ct_M_policy) (by decide +kernel) w5⟩
theorem LC_22_okL9 {E : xV} {σ : zS} (h : J0L9 σ) : LC_22 E σ J0L9 := by
  intro x0
  refine (pub_call (E := E) (Y := Yf) (G := GXL9) (J := JJL9) (z := 106) (o := 0) (t := 1) (q := ct_H_rules) (as := [.inl x0]) (ds := [T32, [(0, 200)], [(0, 200)]]) (ks := [(110, 8), (5, 2)]) (KS := KS) (all_ctL9 106 _ rfl) (show pubOk ct_H_rules 0 [false] [T32, [(0, 200)], [(0, 200)]] [(110, 8), (5, 2)] = true by decide +kernel) ⟨in32 _, r0 h.2.1 (k := (110, 8)) (by decide), r0 h.2.1 (k := (5, 2)) (by decide), trivial⟩ (by decide +kernel) h.1).mono (fun v σ1 hv => ?_)
  obtain ⟨v1, v2, v3, v4, v5⟩ := hv
  obtain ⟨r, hr⟩ := v1 rfl
  refine ⟨r, hr, ?_⟩
  refine (pub_call (E := E) (Y := Yf) (G := GXL9) (J := JJL9) (z := 377) (o := 110) (t := 1) (q := ct_M_rules) (as := [.inl x0]) (ds := [T32, [(0, 200)], [(0, 200)]]) (ks := [(110, 8), (5, 2)]) (KS := KS) (all_ctL9 377 _ rfl) (show pubOk ct_M_rules 110 [false] [T32, [(0, 200)], [(0, 200)]] [(110, 8), (5, 2)] = true by decide +kernel) ⟨in32 _, r0 v3 (k := (110, 8)) (by decide), r0 v3 (k := (5, 2)) (by decide), trivial⟩ (by decide +kernel) v4).mono (fun v' σ2 hw => ?_)
  obtain ⟨w1, w2, w3, w4, w5⟩ := hw
  exact ⟨w1 rfl, w4, w3, (h.2.2.keepL9 (q := ct_H_rules) (by decide +kernel) v5).keepL9 (q := ct_M_rules) (by decide +kernel) w5⟩
theorem LC_23_okL9 {E : xV} {σ : zS} (h : J0L9 σ) : LC_23 E σ J0L9 := by
  intro x0
  refine (pub_call (E := E) (Y := Yf) (G := GXL9) (J := JJL9) (z := 110) (o := 0) (t := 1) (q := ct_H_inForce) (as := [.inl x0]) (ds := [T32, [(0, 200)], [(0, 200)]]) (ks := [(110, 8), (5, 2)]) (KS := KS) (all_ctL9 110 _ rfl) (show pubOk ct_H_inForce 0 [false] [T32, [(0, 200)], [(0, 200)]] [(110, 8), (5, 2)] = true by decide +kernel) ⟨in32 _, r0 h.2.1 (k := (110, 8)) (by decide), r0 h.2.1 (k := (5, 2)) (by decide), trivial⟩ (by decide +kernel) h.1).mono (fun v σ1 hv => ?_)
  obtain ⟨v1, v2, v3, v4, v5⟩ := hv
  obtain ⟨r, hr⟩ := v1 rfl
  refine ⟨r, hr, ?_⟩
  refine (pub_call (E := E) (Y := Yf) (G := GXL9) (J := JJL9) (z := 391) (o := 110) (t := 1) (q := ct_M_inForce) (as := [.inl x0]) (ds := [T32, [(0, 200)], [(0, 200)]]) (ks := [(110, 8), (5, 2)]) (KS := KS) (all_ctL9 391 _ rfl) (show pubOk ct_M_inForce 110 [false] [T32, [(0, 200)], [(0, 200)]] [(110, 8), (5, 2)] = true by decide +kernel) ⟨in32 _, r0 v3 (k := (110, 8)) (by decide), r0 v3 (k := (5, 2)) (by decide), trivial⟩ (by decide +kernel) v4).mono (fun v' σ2 hw => ?_)
  obtain ⟨w1, w2, w3, w4, w5⟩ := hw
  exact ⟨w1 rfl, w4, w3, (h.2.2.keepL9 (q := ct_H_inForce) (by decide +kernel) v5).keepL9 (q := ct_M_inForce) (by decide +kernel) w5⟩
theorem LC_24_okL9 {E : xV} {σ : zS} (h : J0L9 σ) : LC_24 E σ J0L9 := by
  intro x0 x1 x2
  refine (pub_call (E := E) (Y := Yf) (G := GXL9) (J := JJL9) (z := 144) (o := 0) (t := 1) (q := ct_H_askL9) (as := [.inl x0, .inl x1, .inl x2]) (ds := [T32, T32, T32, [(0, 200)], [(0, 200)]]) (ks := [(110, 8), (5, 2)]) (KS := KS) (all_ctL9 144 _ rfl) (show pubOk ct_H_askL9 0 [false, false, false] [T32, T32, T32, [(0, 200)], [(0, 200)]] [(110, 8), (5, 2)] = true by decide +kernel) ⟨in32 _, in32 _, in32 _, r0 h.2.1 (k := (110, 8)) (by decide), r0 h.2.1 (k := (5, 2)) (by decide), trivial⟩ (by decide +kernel) h.1).mono (fun v σ1 hv => ?_)
  obtain ⟨v1, v2, v3, v4, v5⟩ := hv
  obtain ⟨r, hr⟩ := v1 rfl
  refine ⟨r, hr, ?_⟩
  refine (pub_call (E := E) (Y := Yf) (G := GXL9) (J := JJL9) (z := 392) (o := 110) (t := 1) (q := ct_M_askL9) (as := [.inl x0, .inl x1, .inl x2]) (ds := [T32, T32, T32, [(0, 200)], [(0, 200)]]) (ks := [(110, 8), (5, 2)]) (KS := KS) (all_ctL9 392 _ rfl) (show pubOk ct_M_askL9 110 [false, false, false] [T32, T32, T32, [(0, 200)], [(0, 200)]] [(110, 8), (5, 2)] = true by decide +kernel) ⟨in32 _, in32 _, in32 _, r0 v3 (k := (110, 8)) (by decide), r0 v3 (k := (5, 2)) (by decide), trivial⟩ (by decide +kernel) v4).mono (fun v' σ2 hw => ?_)
  obtain ⟨w1, w2, w3, w4, w5⟩ := hw
  exact ⟨w1 rfl, w4, w3, (h.2.2.keepL9 (q := ct_H_askL9) (by decide +kernel) v5).keepL9 (q := ct_M_askL9) (by decide +kernel) w5⟩
theorem LC_25_okL9 {E : xV} {σ : zS} (h : J0L9 σ) : LC_25 E σ J0L9 := by
  intro x0 x1 x2 x3 x4
  refine (pub_call (E := E) (Y := Yf) (G := GXL9) (J := JJL9) (z := 145) (o := 0) (t := 1) (q := ct_H_askedL9) (as := [.inl x0, .inl x1, .inl x2, .inl x3, .inl x4]) (ds := [T32, T32, T32, T32, T32, [(0, 200)], [(0, 200)]]) (ks := [(110, 8), (5, 2)]) (KS := KS) (all_ctL9 145 _ rfl) (show pubOk ct_H_askedL9 0 [false, false, false, false, false] [T32, T32, T32, T32, T32, [(0, 200)], [(0, 200)]] [(110, 8), (5, 2)] = true by decide +kernel) ⟨in32 _, in32 _, in32 _, in32 _, in32 _, r0 h.2.1 (k := (110, 8)) (by decide), r0 h.2.1 (k := (5, 2)) (by decide), trivial⟩ (by decide +kernel) h.1).mono (fun v σ1 hv => ?_)
  obtain ⟨v1, v2, v3, v4, v5⟩ := hv
  obtain ⟨r, hr⟩ := v1 rfl
  refine ⟨r, hr, ?_⟩
  refine (pub_call (E := E) (Y := Yf) (G := GXL9) (J := JJL9) (z := 393) (o := 110) (t := 1) (q := ct_M_askedL9) (as := [.inl x0, .inl x1, .inl x2, .inl x3, .inl x4]) (ds := [T32, T32, T32, T32, T32, [(0, 200)], [(0, 200)]]) (ks := [(110, 8), (5, 2)]) (KS := KS) (all_ctL9 393 _ rfl) (show pubOk ct_M_askedL9 110 [false, false, false, false, false] [T32, T32, T32, T32, T32, [(0, 200)], [(0, 200)]] [(110, 8), (5, 2)] = true by decide +kernel) ⟨in32 _, in32 _, in32 _, in32 _, in32 _, r0 v3 (k := (110, 8)) (by decide), r0 v3 (k := (5, 2)) (by decide), trivial⟩ (by decide +kernel) v4).mono (fun v' σ2 hw => ?_)
  obtain ⟨w1, w2, w3, w4, w5⟩ := hw
  exact ⟨w1 rfl, w4, w3, (h.2.2.keepL9 (q := ct_H_askedL9) (by decide +kernel) v5).keepL9 (q := ct_M_askedL9) (by decide +kernel) w5⟩
theorem LC_26_okL9 {E : xV} {σ : zS} (h : J0L9 σ) : LC_26 E σ J0L9 := by
  intro x0
  refine (pub_call (E := E) (Y := Yf) (G := GXL9) (J := JJL9) (z := 146) (o := 0) (t := 1) (q := ct_H_made) (as := [.inl x0]) (ds := [T32, [(0, 200)], [(0, 200)]]) (ks := [(110, 8), (5, 2)]) (KS := KS) (all_ctL9 146 _ rfl) (show pubOk ct_H_made 0 [false] [T32, [(0, 200)], [(0, 200)]] [(110, 8), (5, 2)] = true by decide +kernel) ⟨in32 _, r0 h.2.1 (k := (110, 8)) (by decide), r0 h.2.1 (k := (5, 2)) (by decide), trivial⟩ (by decide +kernel) h.1).mono (fun v σ1 hv => ?_)
  obtain ⟨v1, v2, v3, v4, v5⟩ := hv
  obtain ⟨r, hr⟩ := v1 rfl
  refine ⟨r, hr, ?_⟩
  refine (pub_call (E := E) (Y := Yf) (G := GXL9) (J := JJL9) (z := 394) (o := 110) (t := 1) (q := ct_M_made) (as := [.inl x0]) (ds := [T32, [(0, 200)], [(0, 200)]]) (ks := [(110, 8), (5, 2)]) (KS := KS) (all_ctL9 394 _ rfl) (show pubOk ct_M_made 110 [false] [T32, [(0, 200)], [(0, 200)]] [(110, 8), (5, 2)] = true by decide +kernel) ⟨in32 _, r0 v3 (k := (110, 8)) (by decide), r0 v3 (k := (5, 2)) (by decide), trivial⟩ (by decide +kernel) v4).mono (fun v' σ2 hw => ?_)
  obtain ⟨w1, w2, w3, w4, w5⟩ := hw
  exact ⟨w1 rfl, w4, w3, (h.2.2.keepL9 (q := ct_H_made) (by decide +kernel) v5).keepL9 (q := ct_M_made) (by decide +kernel) w5⟩
theorem LC_27_okL9 {E : xV} {σ : zS} (h : J0L9 σ) : LC_27 E σ J0L9 := by
  intro x0 x1 x2 x3
  refine (pub_call (E := E) (Y := Yf) (G := GXL9) (J := JJL9) (z := 148) (o := 0) (t := 1) (q := ct_H_mayL9) (as := [.inl x0, .inl x1, .inl x2, .inl x3]) (ds := [T32, T32, T32, T32, [(0, 200)], [(0, 200)]]) (ks := [(110, 8), (5, 2)]) (KS := KS) (all_ctL9 148 _ rfl) (show pubOk ct_H_mayL9 0 [false, false, false, false] [T32, T32, T32, T32, [(0, 200)], [(0, 200)]] [(110, 8), (5, 2)] = true by decide +kernel) ⟨in32 _, in32 _, in32 _, in32 _, r0 h.2.1 (k := (110, 8)) (by decide), r0 h.2.1 (k := (5, 2)) (by decide), trivial⟩ (by decide +kernel) h.1).mono (fun v σ1 hv => ?_)
  obtain ⟨v1, v2, v3, v4, v5⟩ := hv
  obtain ⟨r, hr⟩ := v1 rfl
  refine ⟨r, hr, ?_⟩
  refine (pub_call (E := E) (Y := Yf) (G := GXL9) (J := JJL9) (z := 395) (o := 110) (t := 1) (q := ct_M_mayL9) (as := [.inl x0, .inl x1, .inl x2, .inl x3]) (ds := [T32, T32, T32, T32, [(0, 200)], [(0, 200)]]) (ks := [(110, 8), (5, 2)]) (KS := KS) (all_ctL9 395 _ rfl) (show pubOk ct_M_mayL9 110 [false, false, false, false] [T32, T32, T32, T32, [(0, 200)], [(0, 200)]] [(110, 8), (5, 2)] = true by decide +kernel) ⟨in32 _, in32 _, in32 _, in32 _, r0 v3 (k := (110, 8)) (by decide), r0 v3 (k := (5, 2)) (by decide), trivial⟩ (by decide +kernel) v4).mono (fun v' σ2 hw => ?_)
  obtain ⟨w1, w2, w3, w4, w5⟩ := hw
  exact ⟨w1 rfl, w4, w3, (h.2.2.keepL9 (q := ct_H_mayL9) (by decide +kernel) v5).keepL9 (q := ct_M_mayL9) (by decide +kernel) w5⟩
theorem LC_28_okL9 {E : xV} {σ : zS} (h : J0L9 σ) : LC_28 E σ J0L9 := by
  intro x0 x1 x2 x3
  refine (pub_call (E := E) (Y := Yf) (G := GXL9) (J := JJL9) (z := 150) (o := 0) (t := 1) (q := ct_H_whoL9) (as := [.inl x0, .inl x1, .inl x2, .inl x3]) (ds := [T32, T32, T32, T32, [(0, 200)], [(0, 200)]]) (ks := [(110, 8), (5, 2)]) (KS := KS) (all_ctL9 150 _ rfl) (show pubOk ct_H_whoL9 0 [false, false, false, false] [T32, T32, T32, T32, [(0, 200)], [(0, 200)]] [(110, 8), (5, 2)] = true by decide +kernel) ⟨in32 _, in32 _, in32 _, in32 _, r0 h.2.1 (k := (110, 8)) (by decide), r0 h.2.1 (k := (5, 2)) (by decide), trivial⟩ (by decide +kernel) h.1).mono (fun v σ1 hv => ?_)
  obtain ⟨v1, v2, v3, v4, v5⟩ := hv
  obtain ⟨r, hr⟩ := v1 rfl
  refine ⟨r, hr, ?_⟩
  refine (pub_call (E := E) (Y := Yf) (G := GXL9) (J := JJL9) (z := 397) (o := 110) (t := 1) (q := ct_M_whoL9) (as := [.inl x0, .inl x1, .inl x2, .inl x3]) (ds := [T32, T32, T32, T32, [(0, 200)], [(0, 200)]]) (ks := [(110, 8), (5, 2)]) (KS := KS) (all_ctL9 397 _ rfl) (show pubOk ct_M_whoL9 110 [false, false, false, false] [T32, T32, T32, T32, [(0, 200)], [(0, 200)]] [(110, 8), (5, 2)] = true by decide +kernel) ⟨in32 _, in32 _, in32 _, in32 _, r0 v3 (k := (110, 8)) (by decide), r0 v3 (k := (5, 2)) (by decide), trivial⟩ (by decide +kernel) v4).mono (fun v' σ2 hw => ?_)
  obtain ⟨w1, w2, w3, w4, w5⟩ := hw
  exact ⟨w1 rfl, w4, w3, (h.2.2.keepL9 (q := ct_H_whoL9) (by decide +kernel) v5).keepL9 (q := ct_M_whoL9) (by decide +kernel) w5⟩
theorem LC_29_okL9 {E : xV} {σ : zS} (h : J0L9 σ) : LC_29 E σ J0L9 := by
  intro x0 x1
  refine (pub_call (E := E) (Y := Yf) (G := GXL9) (J := JJL9) (z := 153) (o := 0) (t := 1) (q := ct_H_compareL9) (as := [.inl x0, .inl x1]) (ds := [T32, T32, [(0, 200)], [(0, 200)]]) (ks := [(110, 8), (5, 2)]) (KS := KS) (all_ctL9 153 _ rfl) (show pubOk ct_H_compareL9 0 [false, false] [T32, T32, [(0, 200)], [(0, 200)]] [(110, 8), (5, 2)] = true by decide +kernel) ⟨in32 _, in32 _, r0 h.2.1 (k := (110, 8)) (by decide), r0 h.2.1 (k := (5, 2)) (by decide), trivial⟩ (by decide +kernel) h.1).mono (fun v σ1 hv => ?_)
  obtain ⟨v1, v2, v3, v4, v5⟩ := hv
  obtain ⟨r, hr⟩ := v1 rfl
  refine ⟨r, hr, ?_⟩
  refine (pub_call (E := E) (Y := Yf) (G := GXL9) (J := JJL9) (z := 399) (o := 110) (t := 1) (q := ct_M_compareL9) (as := [.inl x0, .inl x1]) (ds := [T32, T32, [(0, 200)], [(0, 200)]]) (ks := [(110, 8), (5, 2)]) (KS := KS) (all_ctL9 399 _ rfl) (show pubOk ct_M_compareL9 110 [false, false] [T32, T32, [(0, 200)], [(0, 200)]] [(110, 8), (5, 2)] = true by decide +kernel) ⟨in32 _, in32 _, r0 v3 (k := (110, 8)) (by decide), r0 v3 (k := (5, 2)) (by decide), trivial⟩ (by decide +kernel) v4).mono (fun v' σ2 hw => ?_)
  obtain ⟨w1, w2, w3, w4, w5⟩ := hw
  exact ⟨w1 rfl, w4, w3, (h.2.2.keepL9 (q := ct_H_compareL9) (by decide +kernel) v5).keepL9 (q := ct_M_compareL9) (by decide +kernel) w5⟩
theorem LC_30_okL9 {E : xV} {σ : zS} (h : J0L9 σ) : LC_30 E σ J0L9 := by
  intro x0
  refine (pub_call (E := E) (Y := Yf) (G := GXL9) (J := JJL9) (z := 154) (o := 0) (t := 1) (q := ct_H_compared) (as := [.inl x0]) (ds := [T32, [(0, 200)], [(0, 200)]]) (ks := [(110, 8), (5, 2)]) (KS := KS) (all_ctL9 154 _ rfl) (show pubOk ct_H_compared 0 [false] [T32, [(0, 200)], [(0, 200)]] [(110, 8), (5, 2)] = true by decide +kernel) ⟨in32 _, r0 h.2.1 (k := (110, 8)) (by decide), r0 h.2.1 (k := (5, 2)) (by decide), trivial⟩ (by decide +kernel) h.1).mono (fun v σ1 hv => ?_)
  obtain ⟨v1, v2, v3, v4, v5⟩ := hv
  obtain ⟨r, hr⟩ := v1 rfl
  refine ⟨r, hr, ?_⟩
  refine (pub_call (E := E) (Y := Yf) (G := GXL9) (J := JJL9) (z := 400) (o := 110) (t := 1) (q := ct_M_compared) (as := [.inl x0]) (ds := [T32, [(0, 200)], [(0, 200)]]) (ks := [(110, 8), (5, 2)]) (KS := KS) (all_ctL9 400 _ rfl) (show pubOk ct_M_compared 110 [false] [T32, [(0, 200)], [(0, 200)]] [(110, 8), (5, 2)] = true by decide +kernel) ⟨in32 _, r0 v3 (k := (110, 8)) (by decide), r0 v3 (k := (5, 2)) (by decide), trivial⟩ (by decide +kernel) v4).mono (fun v' σ2 hw => ?_)
  obtain ⟨w1, w2, w3, w4, w5⟩ := hw
  exact ⟨w1 rfl, w4, w3, (h.2.2.keepL9 (q := ct_H_compared) (by decide +kernel) v5).keepL9 (q := ct_M_compared) (by decide +kernel) w5⟩
theorem LC_31_okL9 {E : xV} {σ : zS} (h : J0L9 σ) : LC_31 E σ J0L9 := by
  intro x0 x1
  refine (pub_call (E := E) (Y := Yf) (G := GXL9) (J := JJL9) (z := 156) (o := 0) (t := 1) (q := ct_H_decidesL9) (as := [.inl x0, .inl x1]) (ds := [T32, T32, [(0, 200)], [(0, 200)]]) (ks := [(110, 8), (5, 2)]) (KS := KS) (all_ctL9 156 _ rfl) (show pubOk ct_H_decidesL9 0 [false, false] [T32, T32, [(0, 200)], [(0, 200)]] [(110, 8), (5, 2)] = true by decide +kernel) ⟨in32 _, in32 _, r0 h.2.1 (k := (110, 8)) (by decide), r0 h.2.1 (k := (5, 2)) (by decide), trivial⟩ (by decide +kernel) h.1).mono (fun v σ1 hv => ?_)
  obtain ⟨v1, v2, v3, v4, v5⟩ := hv
  obtain ⟨r, hr⟩ := v1 rfl
  refine ⟨r, hr, ?_⟩
  refine (pub_call (E := E) (Y := Yf) (G := GXL9) (J := JJL9) (z := 401) (o := 110) (t := 1) (q := ct_M_decidesL9) (as := [.inl x0, .inl x1]) (ds := [T32, T32, [(0, 200)], [(0, 200)]]) (ks := [(110, 8), (5, 2)]) (KS := KS) (all_ctL9 401 _ rfl) (show pubOk ct_M_decidesL9 110 [false, false] [T32, T32, [(0, 200)], [(0, 200)]] [(110, 8), (5, 2)] = true by decide +kernel) ⟨in32 _, in32 _, r0 v3 (k := (110, 8)) (by decide), r0 v3 (k := (5, 2)) (by decide), trivial⟩ (by decide +kernel) v4).mono (fun v' σ2 hw => ?_)
  obtain ⟨w1, w2, w3, w4, w5⟩ := hw
  exact ⟨w1 rfl, w4, w3, (h.2.2.keepL9 (q := ct_H_decidesL9) (by decide +kernel) v5).keepL9 (q := ct_M_decidesL9) (by decide +kernel) w5⟩
theorem LC_32_okL9 {E : xV} {σ : zS} (h : J0L9 σ) : LC_32 E σ J0L9 := by
  intro x0 x1 x2
  refine (pub_call (E := E) (Y := Yf) (G := GXL9) (J := JJL9) (z := 158) (o := 0) (t := 1) (q := ct_H_law) (as := [.inl x0, .inl x1, .inl x2]) (ds := [T32, T32, T32, [(0, 200)], [(0, 200)]]) (ks := [(110, 8), (5, 2)]) (KS := KS) (all_ctL9 158 _ rfl) (show pubOk ct_H_law 0 [false, false, false] [T32, T32, T32, [(0, 200)], [(0, 200)]] [(110, 8), (5, 2)] = true by decide +kernel) ⟨in32 _, in32 _, in32 _, r0 h.2.1 (k := (110, 8)) (by decide), r0 h.2.1 (k := (5, 2)) (by decide), trivial⟩ (by decide +kernel) h.1).mono (fun v σ1 hv => ?_)
  obtain ⟨v1, v2, v3, v4, v5⟩ := hv
  obtain ⟨r, hr⟩ := v1 rfl
  refine ⟨r, hr, ?_⟩
  refine (pub_call (E := E) (Y := Yf) (G := GXL9) (J := JJL9) (z := 402) (o := 110) (t := 1) (q := ct_M_law) (as := [.inl x0, .inl x1, .inl x2]) (ds := [T32, T32, T32, [(0, 200)], [(0, 200)]]) (ks := [(110, 8), (5, 2)]) (KS := KS) (all_ctL9 402 _ rfl) (show pubOk ct_M_law 110 [false, false, false] [T32, T32, T32, [(0, 200)], [(0, 200)]] [(110, 8), (5, 2)] = true by decide +kernel) ⟨in32 _, in32 _, in32 _, r0 v3 (k := (110, 8)) (by decide), r0 v3 (k := (5, 2)) (by decide), trivial⟩ (by decide +kernel) v4).mono (fun v' σ2 hw => ?_)
  obtain ⟨w1, w2, w3, w4, w5⟩ := hw
  exact ⟨w1 rfl, w4, w3, (h.2.2.keepL9 (q := ct_H_law) (by decide +kernel) v5).keepL9 (q := ct_M_law) (by decide +kernel) w5⟩
theorem LC_33_okL9 {E : xV} {σ : zS} (h : J0L9 σ) : LC_33 E σ J0L9 := by
  intro x0 x1 x2 x3
  refine (pub_call (E := E) (Y := Yf) (G := GXL9) (J := JJL9) (z := 164) (o := 0) (t := 1) (q := ct_H_give) (as := [.inl x0, .inl x1, .inl x2, .inl x3]) (ds := [T32, T32, T32, T32, [(0, 200)], [(0, 200)]]) (ks := [(110, 8), (5, 2)]) (KS := KS) (all_ctL9 164 _ rfl) (show pubOk ct_H_give 0 [false, false, false, false] [T32, T32, T32, T32, [(0, 200)], [(0, 200)]] [(110, 8), (5, 2)] = true by decide +kernel) ⟨in32 _, in32 _, in32 _, in32 _, r0 h.2.1 (k := (110, 8)) (by decide), r0 h.2.1 (k := (5, 2)) (by decide), trivial⟩ (by decide +kernel) h.1).mono (fun v σ1 hv => ?_)
  obtain ⟨v1, v2, v3, v4, v5⟩ := hv
  obtain ⟨r, hr⟩ := v1 rfl
  refine ⟨r, hr, ?_⟩
  refine (pub_call (E := E) (Y := Yf) (G := GXL9) (J := JJL9) (z := 405) (o := 110) (t := 1) (q := ct_M_give) (as := [.inl x0, .inl x1, .inl x2, .inl x3]) (ds := [T32, T32, T32, T32, [(0, 200)], [(0, 200)]]) (ks := [(110, 8), (5, 2)]) (KS := KS) (all_ctL9 405 _ rfl) (show pubOk ct_M_give 110 [false, false, false, false] [T32, T32, T32, T32, [(0, 200)], [(0, 200)]] [(110, 8), (5, 2)] = true by decide +kernel) ⟨in32 _, in32 _, in32 _, in32 _, r0 v3 (k := (110, 8)) (by decide), r0 v3 (k := (5, 2)) (by decide), trivial⟩ (by decide +kernel) v4).mono (fun v' σ2 hw => ?_)
  obtain ⟨w1, w2, w3, w4, w5⟩ := hw
  exact ⟨w1 rfl, w4, w3, (h.2.2.keepL9 (q := ct_H_give) (by decide +kernel) v5).keepL9 (q := ct_M_give) (by decide +kernel) w5⟩
theorem LC_34_okL9 {E : xV} {σ : zS} (h : J0L9 σ) : LC_34 E σ J0L9 := by
  intro x0 x1 x2
  refine (pub_call (E := E) (Y := Yf) (G := GXL9) (J := JJL9) (z := 166) (o := 0) (t := 1) (q := ct_H_take) (as := [.inl x0, .inl x1, .inl x2]) (ds := [T32, T32, T32, [(0, 200)], [(0, 200)]]) (ks := [(110, 8), (5, 2)]) (KS := KS) (all_ctL9 166 _ rfl) (show pubOk ct_H_take 0 [false, false, false] [T32, T32, T32, [(0, 200)], [(0, 200)]] [(110, 8), (5, 2)] = true by decide +kernel) ⟨in32 _, in32 _, in32 _, r0 h.2.1 (k := (110, 8)) (by decide), r0 h.2.1 (k := (5, 2)) (by decide), trivial⟩ (by decide +kernel) h.1).mono (fun v σ1 hv => ?_)
  obtain ⟨v1, v2, v3, v4, v5⟩ := hv
  obtain ⟨r, hr⟩ := v1 rfl
  refine ⟨r, hr, ?_⟩
  refine (pub_call (E := E) (Y := Yf) (G := GXL9) (J := JJL9) (z := 406) (o := 110) (t := 1) (q := ct_M_take) (as := [.inl x0, .inl x1, .inl x2]) (ds := [T32, T32, T32, [(0, 200)], [(0, 200)]]) (ks := [(110, 8), (5, 2)]) (KS := KS) (all_ctL9 406 _ rfl) (show pubOk ct_M_take 110 [false, false, false] [T32, T32, T32, [(0, 200)], [(0, 200)]] [(110, 8), (5, 2)] = true by decide +kernel) ⟨in32 _, in32 _, in32 _, r0 v3 (k := (110, 8)) (by decide), r0 v3 (k := (5, 2)) (by decide), trivial⟩ (by decide +kernel) v4).mono (fun v' σ2 hw => ?_)
  obtain ⟨w1, w2, w3, w4, w5⟩ := hw
  exact ⟨w1 rfl, w4, w3, (h.2.2.keepL9 (q := ct_H_take) (by decide +kernel) v5).keepL9 (q := ct_M_take) (by decide +kernel) w5⟩
theorem LC_35_okL9 {E : xV} {σ : zS} (h : J0L9 σ) : LC_35 E σ J0L9 := by
  refine (pub_call (E := E) (Y := Yf) (G := GXL9) (J := JJL9) (z := 167) (o := 0) (t := 1) (q := ct_H_brokenL9) (as := []) (ds := [[(0, 200)], [(0, 200)]]) (ks := [(110, 8), (5, 2)]) (KS := KS) (all_ctL9 167 _ rfl) (show pubOk ct_H_brokenL9 0 [] [[(0, 200)], [(0, 200)]] [(110, 8), (5, 2)] = true by decide +kernel) ⟨r0 h.2.1 (k := (110, 8)) (by decide), r0 h.2.1 (k := (5, 2)) (by decide), trivial⟩ (by decide +kernel) h.1).mono (fun v σ1 hv => ?_)
  obtain ⟨v1, v2, v3, v4, v5⟩ := hv
  obtain ⟨r, hr⟩ := v1 rfl
  refine ⟨r, hr, ?_⟩
  refine (pub_call (E := E) (Y := Yf) (G := GXL9) (J := JJL9) (z := 407) (o := 110) (t := 1) (q := ct_M_brokenL9) (as := []) (ds := [[(0, 200)], [(0, 200)]]) (ks := [(110, 8), (5, 2)]) (KS := KS) (all_ctL9 407 _ rfl) (show pubOk ct_M_brokenL9 110 [] [[(0, 200)], [(0, 200)]] [(110, 8), (5, 2)] = true by decide +kernel) ⟨r0 v3 (k := (110, 8)) (by decide), r0 v3 (k := (5, 2)) (by decide), trivial⟩ (by decide +kernel) v4).mono (fun v' σ2 hw => ?_)
  obtain ⟨w1, w2, w3, w4, w5⟩ := hw
  exact ⟨w1 rfl, w4, w3, (h.2.2.keepL9 (q := ct_H_brokenL9) (by decide +kernel) v5).keepL9 (q := ct_M_brokenL9) (by decide +kernel) w5⟩
theorem LC_36_okL9 {E : xV} {σ : zS} (h : J0L9 σ) : LC_36 E σ J0L9 := by
  intro x0
  refine (pub_call (E := E) (Y := Yf) (G := GXL9) (J := JJL9) (z := 168) (o := 0) (t := 1) (q := ct_H_breach) (as := [.inl x0]) (ds := [T32, [(0, 200)], [(0, 200)]]) (ks := [(110, 8), (5, 2)]) (KS := KS) (all_ctL9 168 _ rfl) (show pubOk ct_H_breach 0 [false] [T32, [(0, 200)], [(0, 200)]] [(110, 8), (5, 2)] = true by decide +kernel) ⟨in32 _, r0 h.2.1 (k := (110, 8)) (by decide), r0 h.2.1 (k := (5, 2)) (by decide), trivial⟩ (by decide +kernel) h.1).mono (fun v σ1 hv => ?_)
  obtain ⟨v1, v2, v3, v4, v5⟩ := hv
  obtain ⟨r, hr⟩ := v1 rfl
  refine ⟨r, hr, ?_⟩
  refine (pub_call (E := E) (Y := Yf) (G := GXL9) (J := JJL9) (z := 408) (o := 110) (t := 1) (q := ct_M_breachL9) (as := [.inl x0]) (ds := [T32, [(0, 200)], [(0, 200)]]) (ks := [(110, 8), (5, 2)]) (KS := KS) (all_ctL9 408 _ rfl) (show pubOk ct_M_breachL9 110 [false] [T32, [(0, 200)], [(0, 200)]] [(110, 8), (5, 2)] = true by decide +kernel) ⟨in32 _, r0 v3 (k := (110, 8)) (by decide), r0 v3 (k := (5, 2)) (by decide), trivial⟩ (by decide +kernel) v4).mono (fun v' σ2 hw => ?_)
  obtain ⟨w1, w2, w3, w4, w5⟩ := hw
  exact ⟨w1 rfl, w4, w3, (h.2.2.keepL9 (q := ct_H_breach) (by decide +kernel) v5).keepL9 (q := ct_M_breachL9) (by decide +kernel) w5⟩
theorem LC_37_okL9 {E : xV} {σ : zS} (h : J0L9 σ) : LC_37 E σ J0L9 := by
  intro x0
  refine (pub_call (E := E) (Y := Yf) (G := GXL9) (J := JJL9) (z := 170) (o := 0) (t := 1) (q := ct_H_session) (as := [.inl x0]) (ds := [T32, [(0, 200)], [(0, 200)]]) (ks := [(110, 8), (5, 2)]) (KS := KS) (all_ctL9 170 _ rfl) (show pubOk ct_H_session 0 [false] [T32, [(0, 200)], [(0, 200)]] [(110, 8), (5, 2)] = true by decide +kernel) ⟨in32 _, r0 h.2.1 (k := (110, 8)) (by decide), r0 h.2.1 (k := (5, 2)) (by decide), trivial⟩ (by decide +kernel) h.1).mono (fun v σ1 hv => ?_)
  obtain ⟨v1, v2, v3, v4, v5⟩ := hv
  obtain ⟨r, hr⟩ := v1 rfl
  refine ⟨r, hr, ?_⟩
  refine (pub_call (E := E) (Y := Yf) (G := GXL9) (J := JJL9) (z := 409) (o := 110) (t := 1) (q := ct_M_session) (as := [.inl x0]) (ds := [T32, [(0, 200)], [(0, 200)]]) (ks := [(110, 8), (5, 2)]) (KS := KS) (all_ctL9 409 _ rfl) (show pubOk ct_M_session 110 [false] [T32, [(0, 200)], [(0, 200)]] [(110, 8), (5, 2)] = true by decide +kernel) ⟨in32 _, r0 v3 (k := (110, 8)) (by decide), r0 v3 (k := (5, 2)) (by decide), trivial⟩ (by decide +kernel) v4).mono (fun v' σ2 hw => ?_)
  obtain ⟨w1, w2, w3, w4, w5⟩ := hw
  exact ⟨w1 rfl, w4, w3, (h.2.2.keepL9 (q := ct_H_session) (by decide +kernel) v5).keepL9 (q := ct_M_session) (by decide +kernel) w5⟩
theorem LC_38_okL9 {E : xV} {σ : zS} (h : J0L9 σ) : LC_38 E σ J0L9 := by
  intro x0 x1
  refine (pub_call (E := E) (Y := Yf) (G := GXL9) (J := JJL9) (z := 172) (o := 0) (t := 1) (q := ct_H_switchOnL9) (as := [.inl x0, .inl x1]) (ds := [T32, T32, [(0, 200)], [(0, 200)]]) (ks := [(110, 8), (5, 2)]) (KS := KS) (all_ctL9 172 _ rfl) (show pubOk ct_H_switchOnL9 0 [false, false] [T32, T32, [(0, 200)], [(0, 200)]] [(110, 8), (5, 2)] = true by decide +kernel) ⟨in32 _, in32 _, r0 h.2.1 (k := (110, 8)) (by decide), r0 h.2.1 (k := (5, 2)) (by decide), trivial⟩ (by decide +kernel) h.1).mono (fun v σ1 hv => ?_)
  obtain ⟨v1, v2, v3, v4, v5⟩ := hv
  obtain ⟨r, hr⟩ := v1 rfl
  refine ⟨r, hr, ?_⟩
  refine (pub_call (E := E) (Y := Yf) (G := GXL9) (J := JJL9) (z := 410) (o := 110) (t := 1) (q := ct_M_switchOnL9) (as := [.inl x0, .inl x1]) (ds := [T32, T32, [(0, 200)], [(0, 200)]]) (ks := [(110, 8), (5, 2)]) (KS := KS) (all_ctL9 410 _ rfl) (show pubOk ct_M_switchOnL9 110 [false, false] [T32, T32, [(0, 200)], [(0, 200)]] [(110, 8), (5, 2)] = true by decide +kernel) ⟨in32 _, in32 _, r0 v3 (k := (110, 8)) (by decide), r0 v3 (k := (5, 2)) (by decide), trivial⟩ (by decide +kernel) v4).mono (fun v' σ2 hw => ?_)
  obtain ⟨w1, w2, w3, w4, w5⟩ := hw
  exact ⟨w1 rfl, w4, w3, (h.2.2.keepL9 (q := ct_H_switchOnL9) (by decide +kernel) v5).keepL9 (q := ct_M_switchOnL9) (by decide +kernel) w5⟩
theorem LC_39_okL9 {E : xV} {σ : zS} (h : J0L9 σ) : LC_39 E σ J0L9 := by
  intro x0 x1
  refine (pub_call (E := E) (Y := Yf) (G := GXL9) (J := JJL9) (z := 173) (o := 0) (t := 1) (q := ct_H_switchOffL9) (as := [.inl x0, .inl x1]) (ds := [T32, T32, [(0, 200)], [(0, 200)]]) (ks := [(110, 8), (5, 2)]) (KS := KS) (all_ctL9 173 _ rfl) (show pubOk ct_H_switchOffL9 0 [false, false] [T32, T32, [(0, 200)], [(0, 200)]] [(110, 8), (5, 2)] = true by decide +kernel) ⟨in32 _, in32 _, r0 h.2.1 (k := (110, 8)) (by decide), r0 h.2.1 (k := (5, 2)) (by decide), trivial⟩ (by decide +kernel) h.1).mono (fun v σ1 hv => ?_)
  obtain ⟨v1, v2, v3, v4, v5⟩ := hv
  obtain ⟨r, hr⟩ := v1 rfl
  refine ⟨r, hr, ?_⟩
  refine (pub_call (E := E) (Y := Yf) (G := GXL9) (J := JJL9) (z := 411) (o := 110) (t := 1) (q := ct_M_switchOffL9) (as := [.inl x0, .inl x1]) (ds := [T32, T32, [(0, 200)], [(0, 200)]]) (ks := [(110, 8), (5, 2)]) (KS := KS) (all_ctL9 411 _ rfl) (show pubOk ct_M_switchOffL9 110 [false, false] [T32, T32, [(0, 200)], [(0, 200)]] [(110, 8), (5, 2)] = true by decide +kernel) ⟨in32 _, in32 _, r0 v3 (k := (110, 8)) (by decide), r0 v3 (k := (5, 2)) (by decide), trivial⟩ (by decide +kernel) v4).mono (fun v' σ2 hw => ?_)
  obtain ⟨w1, w2, w3, w4, w5⟩ := hw
  exact ⟨w1 rfl, w4, w3, (h.2.2.keepL9 (q := ct_H_switchOffL9) (by decide +kernel) v5).keepL9 (q := ct_M_switchOffL9) (by decide +kernel) w5⟩
theorem LC_40_okL9 {E : xV} {σ : zS} (h : J0L9 σ) : LC_40 E σ J0L9 := by
  intro x0 x1 x2
  refine (pub_call (E := E) (Y := Yf) (G := GXL9) (J := JJL9) (z := 175) (o := 0) (t := 1) (q := ct_H_askInL9) (as := [.inl x0, .inl x1, .inl x2]) (ds := [T32, T32, T32, [(0, 200)], [(0, 200)]]) (ks := [(110, 8), (5, 2)]) (KS := KS) (all_ctL9 175 _ rfl) (show pubOk ct_H_askInL9 0 [false, false, false] [T32, T32, T32, [(0, 200)], [(0, 200)]] [(110, 8), (5, 2)] = true by decide +kernel) ⟨in32 _, in32 _, in32 _, r0 h.2.1 (k := (110, 8)) (by decide), r0 h.2.1 (k := (5, 2)) (by decide), trivial⟩ (by decide +kernel) h.1).mono (fun v σ1 hv => ?_)
  obtain ⟨v1, v2, v3, v4, v5⟩ := hv
  obtain ⟨r, hr⟩ := v1 rfl
  refine ⟨r, hr, ?_⟩
  refine (pub_call (E := E) (Y := Yf) (G := GXL9) (J := JJL9) (z := 412) (o := 110) (t := 1) (q := ct_M_askInL9) (as := [.inl x0, .inl x1, .inl x2]) (ds := [T32, T32, T32, [(0, 200)], [(0, 200)]]) (ks := [(110, 8), (5, 2)]) (KS := KS) (all_ctL9 412 _ rfl) (show pubOk ct_M_askInL9 110 [false, false, false] [T32, T32, T32, [(0, 200)], [(0, 200)]] [(110, 8), (5, 2)] = true by decide +kernel) ⟨in32 _, in32 _, in32 _, r0 v3 (k := (110, 8)) (by decide), r0 v3 (k := (5, 2)) (by decide), trivial⟩ (by decide +kernel) v4).mono (fun v' σ2 hw => ?_)
  obtain ⟨w1, w2, w3, w4, w5⟩ := hw
  exact ⟨w1 rfl, w4, w3, (h.2.2.keepL9 (q := ct_H_askInL9) (by decide +kernel) v5).keepL9 (q := ct_M_askInL9) (by decide +kernel) w5⟩
theorem LC_41_okL9 {E : xV} {σ : zS} (h : J0L9 σ) : LC_41 E σ J0L9 := by
  refine (pub_call (E := E) (Y := Yf) (G := GXL9) (J := JJL9) (z := 176) (o := 0) (t := 1) (q := ct_H_workL9) (as := []) (ds := [[(0, 200)], [(0, 200)]]) (ks := [(110, 8), (5, 2)]) (KS := KS) (all_ctL9 176 _ rfl) (show pubOk ct_H_workL9 0 [] [[(0, 200)], [(0, 200)]] [(110, 8), (5, 2)] = true by decide +kernel) ⟨r0 h.2.1 (k := (110, 8)) (by decide), r0 h.2.1 (k := (5, 2)) (by decide), trivial⟩ (by decide +kernel) h.1).mono (fun v σ1 hv => ?_)
  obtain ⟨v1, v2, v3, v4, v5⟩ := hv
  obtain ⟨r, hr⟩ := v1 rfl
  refine ⟨r, hr, ?_⟩
  refine (pub_call (E := E) (Y := Yf) (G := GXL9) (J := JJL9) (z := 413) (o := 110) (t := 1) (q := ct_M_workL9) (as := []) (ds := [[(0, 200)], [(0, 200)]]) (ks := [(110, 8), (5, 2)]) (KS := KS) (all_ctL9 413 _ rfl) (show pubOk ct_M_workL9 110 [] [[(0, 200)], [(0, 200)]] [(110, 8), (5, 2)] = true by decide +kernel) ⟨r0 v3 (k := (110, 8)) (by decide), r0 v3 (k := (5, 2)) (by decide), trivial⟩ (by decide +kernel) v4).mono (fun v' σ2 hw => ?_)
  obtain ⟨w1, w2, w3, w4, w5⟩ := hw
  exact ⟨w1 rfl, w4, w3, (h.2.2.keepL9 (q := ct_H_workL9) (by decide +kernel) v5).keepL9 (q := ct_M_workL9) (by decide +kernel) w5⟩
theorem LC_42_okL9 {E : xV} {σ : zS} (h : J0L9 σ) : LC_42 E σ J0L9 := by
  intro x0 x1
  refine (pub_call (E := E) (Y := Yf) (G := GXL9) (J := JJL9) (z := 178) (o := 0) (t := 1) (q := ct_H_stepL9) (as := [.inl x0, .inl x1]) (ds := [T32, T32, [(0, 200)], [(0, 200)]]) (ks := [(110, 8), (5, 2)]) (KS := KS) (all_ctL9 178 _ rfl) (show pubOk ct_H_stepL9 0 [false, false] [T32, T32, [(0, 200)], [(0, 200)]] [(110, 8), (5, 2)] = true by decide +kernel) ⟨in32 _, in32 _, r0 h.2.1 (k := (110, 8)) (by decide), r0 h.2.1 (k := (5, 2)) (by decide), trivial⟩ (by decide +kernel) h.1).mono (fun v σ1 hv => ?_)
  obtain ⟨v1, v2, v3, v4, v5⟩ := hv
  obtain ⟨r, hr⟩ := v1 rfl
  refine ⟨r, hr, ?_⟩
  refine (pub_call (E := E) (Y := Yf) (G := GXL9) (J := JJL9) (z := 416) (o := 110) (t := 1) (q := ct_M_stepL9) (as := [.inl x0, .inl x1]) (ds := [T32, T32, [(0, 200)], [(0, 200)]]) (ks := [(110, 8), (5, 2)]) (KS := KS) (all_ctL9 416 _ rfl) (show pubOk ct_M_stepL9 110 [false, false] [T32, T32, [(0, 200)], [(0, 200)]] [(110, 8), (5, 2)] = true by decide +kernel) ⟨in32 _, in32 _, r0 v3 (k := (110, 8)) (by decide), r0 v3 (k := (5, 2)) (by decide), trivial⟩ (by decide +kernel) v4).mono (fun v' σ2 hw => ?_)
  obtain ⟨w1, w2, w3, w4, w5⟩ := hw
  exact ⟨w1 rfl, w4, w3, (h.2.2.keepL9 (q := ct_H_stepL9) (by decide +kernel) v5).keepL9 (q := ct_M_stepL9) (by decide +kernel) w5⟩
theorem LC_43_okL9 {E : xV} {σ : zS} (h : J0L9 σ) : LC_43 E σ J0L9 := by
  intro x0 x1 x2 x3
  refine (pub_call (E := E) (Y := Yf) (G := GXL9) (J := JJL9) (z := 180) (o := 0) (t := 1) (q := ct_H_tieL9) (as := [.inl x0, .inl x1, .inl x2, .inl x3]) (ds := [T32, T32, T32, T32, [(0, 200)], [(0, 200)]]) (ks := [(110, 8), (5, 2)]) (KS := KS) (all_ctL9 180 _ rfl) (show pubOk ct_H_tieL9 0 [false, false, false, false] [T32, T32, T32, T32, [(0, 200)], [(0, 200)]] [(110, 8), (5, 2)] = true by decide +kernel) ⟨in32 _, in32 _, in32 _, in32 _, r0 h.2.1 (k := (110, 8)) (by decide), r0 h.2.1 (k := (5, 2)) (by decide), trivial⟩ (by decide +kernel) h.1).mono (fun v σ1 hv => ?_)
  obtain ⟨v1, v2, v3, v4, v5⟩ := hv
  obtain ⟨r, hr⟩ := v1 rfl
  refine ⟨r, hr, ?_⟩
  refine (pub_call (E := E) (Y := Yf) (G := GXL9) (J := JJL9) (z := 417) (o := 110) (t := 1) (q := ct_M_tieL9) (as := [.inl x0, .inl x1, .inl x2, .inl x3]) (ds := [T32, T32, T32, T32, [(0, 200)], [(0, 200)]]) (ks := [(110, 8), (5, 2)]) (KS := KS) (all_ctL9 417 _ rfl) (show pubOk ct_M_tieL9 110 [false, false, false, false] [T32, T32, T32, T32, [(0, 200)], [(0, 200)]] [(110, 8), (5, 2)] = true by decide +kernel) ⟨in32 _, in32 _, in32 _, in32 _, r0 v3 (k := (110, 8)) (by decide), r0 v3 (k := (5, 2)) (by decide), trivial⟩ (by decide +kernel) v4).mono (fun v' σ2 hw => ?_)
  obtain ⟨w1, w2, w3, w4, w5⟩ := hw
  exact ⟨w1 rfl, w4, w3, (h.2.2.keepL9 (q := ct_H_tieL9) (by decide +kernel) v5).keepL9 (q := ct_M_tieL9) (by decide +kernel) w5⟩
theorem LC_44_okL9 {E : xV} {σ : zS} (h : J0L9 σ) : LC_44 E σ J0L9 := by
  intro x0 x1
  refine (pub_call (E := E) (Y := Yf) (G := GXL9) (J := JJL9) (z := 188) (o := 0) (t := 1) (q := ct_H_fillL9) (as := [.inl x0, .inl x1]) (ds := [T32, T32, [(0, 200)], [(0, 200)]]) (ks := [(110, 8), (5, 2)]) (KS := KS) (all_ctL9 188 _ rfl) (show pubOk ct_H_fillL9 0 [false, false] [T32, T32, [(0, 200)], [(0, 200)]] [(110, 8), (5, 2)] = true by decide +kernel) ⟨in32 _, in32 _, r0 h.2.1 (k := (110, 8)) (by decide), r0 h.2.1 (k := (5, 2)) (by decide), trivial⟩ (by decide +kernel) h.1).mono (fun v σ1 hv => ?_)
  obtain ⟨v1, v2, v3, v4, v5⟩ := hv
  obtain ⟨r, hr⟩ := v1 rfl
  refine ⟨r, hr, ?_⟩
  refine (pub_call (E := E) (Y := Yf) (G := GXL9) (J := JJL9) (z := 421) (o := 110) (t := 1) (q := ct_M_fillL9) (as := [.inl x0, .inl x1]) (ds := [T32, T32, [(0, 200)], [(0, 200)]]) (ks := [(110, 8), (5, 2)]) (KS := KS) (all_ctL9 421 _ rfl) (show pubOk ct_M_fillL9 110 [false, false] [T32, T32, [(0, 200)], [(0, 200)]] [(110, 8), (5, 2)] = true by decide +kernel) ⟨in32 _, in32 _, r0 v3 (k := (110, 8)) (by decide), r0 v3 (k := (5, 2)) (by decide), trivial⟩ (by decide +kernel) v4).mono (fun v' σ2 hw => ?_)
  obtain ⟨w1, w2, w3, w4, w5⟩ := hw
  exact ⟨w1 rfl, w4, w3, (h.2.2.keepL9 (q := ct_H_fillL9) (by decide +kernel) v5).keepL9 (q := ct_M_fillL9) (by decide +kernel) w5⟩
theorem LC_45_okL9 {E : xV} {σ : zS} (h : J0L9 σ) : LC_45 E σ J0L9 := by
  intro x0 x1
  refine (pub_call (E := E) (Y := Yf) (G := GXL9) (J := JJL9) (z := 189) (o := 0) (t := 1) (q := ct_H_filledL9) (as := [.inl x0, .inl x1]) (ds := [T32, T32, [(0, 200)], [(0, 200)]]) (ks := [(110, 8), (5, 2)]) (KS := KS) (all_ctL9 189 _ rfl) (show pubOk ct_H_filledL9 0 [false, false] [T32, T32, [(0, 200)], [(0, 200)]] [(110, 8), (5, 2)] = true by decide +kernel) ⟨in32 _, in32 _, r0 h.2.1 (k := (110, 8)) (by decide), r0 h.2.1 (k := (5, 2)) (by decide), trivial⟩ (by decide +kernel) h.1).mono (fun v σ1 hv => ?_)
  obtain ⟨v1, v2, v3, v4, v5⟩ := hv
  obtain ⟨r, hr⟩ := v1 rfl
  refine ⟨r, hr, ?_⟩
  refine (pub_call (E := E) (Y := Yf) (G := GXL9) (J := JJL9) (z := 422) (o := 110) (t := 1) (q := ct_M_filledL9) (as := [.inl x0, .inl x1]) (ds := [T32, T32, [(0, 200)], [(0, 200)]]) (ks := [(110, 8), (5, 2)]) (KS := KS) (all_ctL9 422 _ rfl) (show pubOk ct_M_filledL9 110 [false, false] [T32, T32, [(0, 200)], [(0, 200)]] [(110, 8), (5, 2)] = true by decide +kernel) ⟨in32 _, in32 _, r0 v3 (k := (110, 8)) (by decide), r0 v3 (k := (5, 2)) (by decide), trivial⟩ (by decide +kernel) v4).mono (fun v' σ2 hw => ?_)
  obtain ⟨w1, w2, w3, w4, w5⟩ := hw
  exact ⟨w1 rfl, w4, w3, (h.2.2.keepL9 (q := ct_H_filledL9) (by decide +kernel) v5).keepL9 (q := ct_M_filledL9) (by decide +kernel) w5⟩
theorem LC_46_okL9 {E : xV} {σ : zS} (h : J0L9 σ) : LC_46 E σ J0L9 := by
  intro x0 x1 x2 x3
  refine (pub_call (E := E) (Y := Yf) (G := GXL9) (J := JJL9) (z := 191) (o := 0) (t := 1) (q := ct_H_nextL9) (as := [.inl x0, .inl x1, .inl x2, .inl x3]) (ds := [T32, T32, T32, T32, [(0, 200)], [(0, 200)]]) (ks := [(110, 8), (5, 2)]) (KS := KS) (all_ctL9 191 _ rfl) (show pubOk ct_H_nextL9 0 [false, false, false, false] [T32, T32, T32, T32, [(0, 200)], [(0, 200)]] [(110, 8), (5, 2)] = true by decide +kernel) ⟨in32 _, in32 _, in32 _, in32 _, r0 h.2.1 (k := (110, 8)) (by decide), r0 h.2.1 (k := (5, 2)) (by decide), trivial⟩ (by decide +kernel) h.1).mono (fun v σ1 hv => ?_)
  obtain ⟨v1, v2, v3, v4, v5⟩ := hv
  obtain ⟨r, hr⟩ := v1 rfl
  refine ⟨r, hr, ?_⟩
  refine (pub_call (E := E) (Y := Yf) (G := GXL9) (J := JJL9) (z := 424) (o := 110) (t := 1) (q := ct_M_nextL9) (as := [.inl x0, .inl x1, .inl x2, .inl x3]) (ds := [T32, T32, T32, T32, [(0, 200)], [(0, 200)]]) (ks := [(110, 8), (5, 2)]) (KS := KS) (all_ctL9 424 _ rfl) (show pubOk ct_M_nextL9 110 [false, false, false, false] [T32, T32, T32, T32, [(0, 200)], [(0, 200)]] [(110, 8), (5, 2)] = true by decide +kernel) ⟨in32 _, in32 _, in32 _, in32 _, r0 v3 (k := (110, 8)) (by decide), r0 v3 (k := (5, 2)) (by decide), trivial⟩ (by decide +kernel) v4).mono (fun v' σ2 hw => ?_)
  obtain ⟨w1, w2, w3, w4, w5⟩ := hw
  exact ⟨w1 rfl, w4, w3, (h.2.2.keepL9 (q := ct_H_nextL9) (by decide +kernel) v5).keepL9 (q := ct_M_nextL9) (by decide +kernel) w5⟩
theorem LC_47_okL9 {E : xV} {σ : zS} (h : J0L9 σ) : LC_47 E σ J0L9 := by
  intro x0 x1 x2 x3
  refine (pub_call (E := E) (Y := Yf) (G := GXL9) (J := JJL9) (z := 192) (o := 0) (t := 1) (q := ct_H_performL9) (as := [.inl x0, .inl x1, .inl x2, .inl x3]) (ds := [T32, T32, T32, T32, [(0, 200)], [(0, 200)]]) (ks := [(110, 8), (5, 2)]) (KS := KS) (all_ctL9 192 _ rfl) (show pubOk ct_H_performL9 0 [false, false, false, false] [T32, T32, T32, T32, [(0, 200)], [(0, 200)]] [(110, 8), (5, 2)] = true by decide +kernel) ⟨in32 _, in32 _, in32 _, in32 _, r0 h.2.1 (k := (110, 8)) (by decide), r0 h.2.1 (k := (5, 2)) (by decide), trivial⟩ (by decide +kernel) h.1).mono (fun v σ1 hv => ?_)
  obtain ⟨v1, v2, v3, v4, v5⟩ := hv
  obtain ⟨r, hr⟩ := v1 rfl
  refine ⟨r, hr, ?_⟩
  refine (pub_call (E := E) (Y := Yf) (G := GXL9) (J := JJL9) (z := 425) (o := 110) (t := 1) (q := ct_M_performL9) (as := [.inl x0, .inl x1, .inl x2, .inl x3]) (ds := [T32, T32, T32, T32, [(0, 200)], [(0, 200)]]) (ks := [(110, 8), (5, 2)]) (KS := KS) (all_ctL9 425 _ rfl) (show pubOk ct_M_performL9 110 [false, false, false, false] [T32, T32, T32, T32, [(0, 200)], [(0, 200)]] [(110, 8), (5, 2)] = true by decide +kernel) ⟨in32 _, in32 _, in32 _, in32 _, r0 v3 (k := (110, 8)) (by decide), r0 v3 (k := (5, 2)) (by decide), trivial⟩ (by decide +kernel) v4).mono (fun v' σ2 hw => ?_)
  obtain ⟨w1, w2, w3, w4, w5⟩ := hw
  exact ⟨w1 rfl, w4, w3, (h.2.2.keepL9 (q := ct_H_performL9) (by decide +kernel) v5).keepL9 (q := ct_M_performL9) (by decide +kernel) w5⟩
theorem LC_48_okL9 {E : xV} {σ : zS} (h : J0L9 σ) : LC_48 E σ J0L9 := by
  intro x0 x1 x2
  refine (pub_call (E := E) (Y := Yf) (G := GXL9) (J := JJL9) (z := 194) (o := 0) (t := 1) (q := ct_H_neededL9) (as := [.inl x0, .inl x1, .inl x2]) (ds := [T32, T32, T32, [(0, 200)], [(0, 200)]]) (ks := [(110, 8), (5, 2)]) (KS := KS) (all_ctL9 194 _ rfl) (show pubOk ct_H_neededL9 0 [false, false, false] [T32, T32, T32, [(0, 200)], [(0, 200)]] [(110, 8), (5, 2)] = true by decide +kernel) ⟨in32 _, in32 _, in32 _, r0 h.2.1 (k := (110, 8)) (by decide), r0 h.2.1 (k := (5, 2)) (by decide), trivial⟩ (by decide +kernel) h.1).mono (fun v σ1 hv => ?_)
  obtain ⟨v1, v2, v3, v4, v5⟩ := hv
  obtain ⟨r, hr⟩ := v1 rfl
  refine ⟨r, hr, ?_⟩
  refine (pub_call (E := E) (Y := Yf) (G := GXL9) (J := JJL9) (z := 426) (o := 110) (t := 1) (q := ct_M_neededL9) (as := [.inl x0, .inl x1, .inl x2]) (ds := [T32, T32, T32, [(0, 200)], [(0, 200)]]) (ks := [(110, 8), (5, 2)]) (KS := KS) (all_ctL9 426 _ rfl) (show pubOk ct_M_neededL9 110 [false, false, false] [T32, T32, T32, [(0, 200)], [(0, 200)]] [(110, 8), (5, 2)] = true by decide +kernel) ⟨in32 _, in32 _, in32 _, r0 v3 (k := (110, 8)) (by decide), r0 v3 (k := (5, 2)) (by decide), trivial⟩ (by decide +kernel) v4).mono (fun v' σ2 hw => ?_)
  obtain ⟨w1, w2, w3, w4, w5⟩ := hw
  exact ⟨w1 rfl, w4, w3, (h.2.2.keepL9 (q := ct_H_neededL9) (by decide +kernel) v5).keepL9 (q := ct_M_neededL9) (by decide +kernel) w5⟩
theorem LC_49_okL9 {E : xV} {σ : zS} (h : J0L9 σ) : LC_49 E σ J0L9 := by
  refine (pub_call (E := E) (Y := Yf) (G := GXL9) (J := JJL9) (z := 195) (o := 0) (t := 1) (q := ct_H_triesL9) (as := []) (ds := [[(0, 200)], [(0, 200)]]) (ks := [(110, 8), (5, 2)]) (KS := KS) (all_ctL9 195 _ rfl) (show pubOk ct_H_triesL9 0 [] [[(0, 200)], [(0, 200)]] [(110, 8), (5, 2)] = true by decide +kernel) ⟨r0 h.2.1 (k := (110, 8)) (by decide), r0 h.2.1 (k := (5, 2)) (by decide), trivial⟩ (by decide +kernel) h.1).mono (fun v σ1 hv => ?_)
  obtain ⟨v1, v2, v3, v4, v5⟩ := hv
  obtain ⟨r, hr⟩ := v1 rfl
  refine ⟨r, hr, ?_⟩
  refine (pub_call (E := E) (Y := Yf) (G := GXL9) (J := JJL9) (z := 427) (o := 110) (t := 1) (q := ct_M_triesL9) (as := []) (ds := [[(0, 200)], [(0, 200)]]) (ks := [(110, 8), (5, 2)]) (KS := KS) (all_ctL9 427 _ rfl) (show pubOk ct_M_triesL9 110 [] [[(0, 200)], [(0, 200)]] [(110, 8), (5, 2)] = true by decide +kernel) ⟨r0 v3 (k := (110, 8)) (by decide), r0 v3 (k := (5, 2)) (by decide), trivial⟩ (by decide +kernel) v4).mono (fun v' σ2 hw => ?_)
  obtain ⟨w1, w2, w3, w4, w5⟩ := hw
  exact ⟨w1 rfl, w4, w3, (h.2.2.keepL9 (q := ct_H_triesL9) (by decide +kernel) v5).keepL9 (q := ct_M_triesL9) (by decide +kernel) w5⟩
theorem LC_53_okL9 {E : xV} {σ : zS} (h : J0L9 σ) : LC_53 E σ J0L9 := by
  intro x0
  refine (pub_call (E := E) (Y := Yf) (G := GXL9) (J := JJL9) (z := 204) (o := 0) (t := 1) (q := ct_H_chain) (as := [.inl x0]) (ds := [T32, [(0, 200)], [(0, 200)]]) (ks := [(110, 8), (5, 2)]) (KS := KS) (all_ctL9 204 _ rfl) (show pubOk ct_H_chain 0 [false] [T32, [(0, 200)], [(0, 200)]] [(110, 8), (5, 2)] = true by decide +kernel) ⟨in32 _, r0 h.2.1 (k := (110, 8)) (by decide), r0 h.2.1 (k := (5, 2)) (by decide), trivial⟩ (by decide +kernel) h.1).mono (fun v σ1 hv => ?_)
  obtain ⟨v1, v2, v3, v4, v5⟩ := hv
  obtain ⟨r, hr⟩ := v1 rfl
  refine ⟨r, hr, ?_⟩
  refine (pub_call (E := E) (Y := Yf) (G := GXL9) (J := JJL9) (z := 435) (o := 110) (t := 1) (q := ct_M_chain) (as := [.inl x0]) (ds := [T32, [(0, 200)], [(0, 200)]]) (ks := [(110, 8), (5, 2)]) (KS := KS) (all_ctL9 435 _ rfl) (show pubOk ct_M_chain 110 [false] [T32, [(0, 200)], [(0, 200)]] [(110, 8), (5, 2)] = true by decide +kernel) ⟨in32 _, r0 v3 (k := (110, 8)) (by decide), r0 v3 (k := (5, 2)) (by decide), trivial⟩ (by decide +kernel) v4).mono (fun v' σ2 hw => ?_)
  obtain ⟨w1, w2, w3, w4, w5⟩ := hw
  exact ⟨w1 rfl, w4, w3, (h.2.2.keepL9 (q := ct_H_chain) (by decide +kernel) v5).keepL9 (q := ct_M_chain) (by decide +kernel) w5⟩
theorem LC_55_okL9 {E : xV} {σ : zS} (h : J0L9 σ) : LC_55 E σ J0L9 := by
  intro x0 x1
  refine (pub_call (E := E) (Y := Yf) (G := GXL9) (J := JJL9) (z := 207) (o := 0) (t := 1) (q := ct_H_lendOfL9) (as := [.inl x0, .inl x1]) (ds := [T32, T32, [(0, 200)], [(0, 200)]]) (ks := [(110, 8), (5, 2)]) (KS := KS) (all_ctL9 207 _ rfl) (show pubOk ct_H_lendOfL9 0 [false, false] [T32, T32, [(0, 200)], [(0, 200)]] [(110, 8), (5, 2)] = true by decide +kernel) ⟨in32 _, in32 _, r0 h.2.1 (k := (110, 8)) (by decide), r0 h.2.1 (k := (5, 2)) (by decide), trivial⟩ (by decide +kernel) h.1).mono (fun v σ1 hv => ?_)
  obtain ⟨v1, v2, v3, v4, v5⟩ := hv
  obtain ⟨r, hr⟩ := v1 rfl
  refine ⟨r, hr, ?_⟩
  refine (pub_call (E := E) (Y := Yf) (G := GXL9) (J := JJL9) (z := 437) (o := 110) (t := 1) (q := ct_M_lendOfL9) (as := [.inl x0, .inl x1]) (ds := [T32, T32, [(0, 200)], [(0, 200)]]) (ks := [(110, 8), (5, 2)]) (KS := KS) (all_ctL9 437 _ rfl) (show pubOk ct_M_lendOfL9 110 [false, false] [T32, T32, [(0, 200)], [(0, 200)]] [(110, 8), (5, 2)] = true by decide +kernel) ⟨in32 _, in32 _, r0 v3 (k := (110, 8)) (by decide), r0 v3 (k := (5, 2)) (by decide), trivial⟩ (by decide +kernel) v4).mono (fun v' σ2 hw => ?_)
  obtain ⟨w1, w2, w3, w4, w5⟩ := hw
  exact ⟨w1 rfl, w4, w3, (h.2.2.keepL9 (q := ct_H_lendOfL9) (by decide +kernel) v5).keepL9 (q := ct_M_lendOfL9) (by decide +kernel) w5⟩
theorem LC_56_okL9 {E : xV} {σ : zS} (h : J0L9 σ) : LC_56 E σ J0L9 := by
  intro x0 x1 x2
  refine (pub_call (E := E) (Y := Yf) (G := GXL9) (J := JJL9) (z := 210) (o := 0) (t := 1) (q := ct_H_keyL9) (as := [.inl x0, .inl x1, .inl x2]) (ds := [T32, T32, T32, [(0, 200)], [(0, 200)]]) (ks := [(110, 8), (5, 2)]) (KS := KS) (all_ctL9 210 _ rfl) (show pubOk ct_H_keyL9 0 [false, false, false] [T32, T32, T32, [(0, 200)], [(0, 200)]] [(110, 8), (5, 2)] = true by decide +kernel) ⟨in32 _, in32 _, in32 _, r0 h.2.1 (k := (110, 8)) (by decide), r0 h.2.1 (k := (5, 2)) (by decide), trivial⟩ (by decide +kernel) h.1).mono (fun v σ1 hv => ?_)
  obtain ⟨v1, v2, v3, v4, v5⟩ := hv
  obtain ⟨r, hr⟩ := v1 rfl
  refine ⟨r, hr, ?_⟩
  refine (pub_call (E := E) (Y := Yf) (G := GXL9) (J := JJL9) (z := 440) (o := 110) (t := 1) (q := ct_M_keyL9) (as := [.inl x0, .inl x1, .inl x2]) (ds := [T32, T32, T32, [(0, 200)], [(0, 200)]]) (ks := [(110, 8), (5, 2)]) (KS := KS) (all_ctL9 440 _ rfl) (show pubOk ct_M_keyL9 110 [false, false, false] [T32, T32, T32, [(0, 200)], [(0, 200)]] [(110, 8), (5, 2)] = true by decide +kernel) ⟨in32 _, in32 _, in32 _, r0 v3 (k := (110, 8)) (by decide), r0 v3 (k := (5, 2)) (by decide), trivial⟩ (by decide +kernel) v4).mono (fun v' σ2 hw => ?_)
  obtain ⟨w1, w2, w3, w4, w5⟩ := hw
  exact ⟨w1 rfl, w4, w3, (h.2.2.keepL9 (q := ct_H_keyL9) (by decide +kernel) v5).keepL9 (q := ct_M_keyL9) (by decide +kernel) w5⟩
theorem LC_57_okL9 {E : xV} {σ : zS} (h : J0L9 σ) : LC_57 E σ J0L9 := by
  intro x0 x1 x2
  refine (pub_call (E := E) (Y := Yf) (G := GXL9) (J := JJL9) (z := 215) (o := 0) (t := 1) (q := ct_H_everL9) (as := [.inl x0, .inl x1, .inl x2]) (ds := [T32, T32, T32, [(0, 200)], [(0, 200)]]) (ks := [(110, 8), (5, 2)]) (KS := KS) (all_ctL9 215 _ rfl) (show pubOk ct_H_everL9 0 [false, false, false] [T32, T32, T32, [(0, 200)], [(0, 200)]] [(110, 8), (5, 2)] = true by decide +kernel) ⟨in32 _, in32 _, in32 _, r0 h.2.1 (k := (110, 8)) (by decide), r0 h.2.1 (k := (5, 2)) (by decide), trivial⟩ (by decide +kernel) h.1).mono (fun v σ1 hv => ?_)
  obtain ⟨v1, v2, v3, v4, v5⟩ := hv
  obtain ⟨r, hr⟩ := v1 rfl
  refine ⟨r, hr, ?_⟩
  refine (pub_call (E := E) (Y := Yf) (G := GXL9) (J := JJL9) (z := 441) (o := 110) (t := 1) (q := ct_M_everL9) (as := [.inl x0, .inl x1, .inl x2]) (ds := [T32, T32, T32, [(0, 200)], [(0, 200)]]) (ks := [(110, 8), (5, 2)]) (KS := KS) (all_ctL9 441 _ rfl) (show pubOk ct_M_everL9 110 [false, false, false] [T32, T32, T32, [(0, 200)], [(0, 200)]] [(110, 8), (5, 2)] = true by decide +kernel) ⟨in32 _, in32 _, in32 _, r0 v3 (k := (110, 8)) (by decide), r0 v3 (k := (5, 2)) (by decide), trivial⟩ (by decide +kernel) v4).mono (fun v' σ2 hw => ?_)
  obtain ⟨w1, w2, w3, w4, w5⟩ := hw
  exact ⟨w1 rfl, w4, w3, (h.2.2.keepL9 (q := ct_H_everL9) (by decide +kernel) v5).keepL9 (q := ct_M_everL9) (by decide +kernel) w5⟩
theorem LC_58_okL9 {E : xV} {σ : zS} (h : J0L9 σ) : LC_58 E σ J0L9 := by
  intro x0 x1
  refine (pub_call (E := E) (Y := Yf) (G := GXL9) (J := JJL9) (z := 216) (o := 0) (t := 1) (q := ct_H_gainL9) (as := [.inl x0, .inl x1]) (ds := [T32, T32, [(0, 200)], [(0, 200)]]) (ks := [(110, 8), (5, 2)]) (KS := KS) (all_ctL9 216 _ rfl) (show pubOk ct_H_gainL9 0 [false, false] [T32, T32, [(0, 200)], [(0, 200)]] [(110, 8), (5, 2)] = true by decide +kernel) ⟨in32 _, in32 _, r0 h.2.1 (k := (110, 8)) (by decide), r0 h.2.1 (k := (5, 2)) (by decide), trivial⟩ (by decide +kernel) h.1).mono (fun v σ1 hv => ?_)
  obtain ⟨v1, v2, v3, v4, v5⟩ := hv
  obtain ⟨r, hr⟩ := v1 rfl
  refine ⟨r, hr, ?_⟩
  refine (pub_call (E := E) (Y := Yf) (G := GXL9) (J := JJL9) (z := 442) (o := 110) (t := 1) (q := ct_M_gainL9) (as := [.inl x0, .inl x1]) (ds := [T32, T32, [(0, 200)], [(0, 200)]]) (ks := [(110, 8), (5, 2)]) (KS := KS) (all_ctL9 442 _ rfl) (show pubOk ct_M_gainL9 110 [false, false] [T32, T32, [(0, 200)], [(0, 200)]] [(110, 8), (5, 2)] = true by decide +kernel) ⟨in32 _, in32 _, r0 v3 (k := (110, 8)) (by decide), r0 v3 (k := (5, 2)) (by decide), trivial⟩ (by decide +kernel) v4).mono (fun v' σ2 hw => ?_)
  obtain ⟨w1, w2, w3, w4, w5⟩ := hw
  exact ⟨w1 rfl, w4, w3, (h.2.2.keepL9 (q := ct_H_gainL9) (by decide +kernel) v5).keepL9 (q := ct_M_gainL9) (by decide +kernel) w5⟩
theorem LC_59_okL9 {E : xV} {σ : zS} (h : J0L9 σ) : LC_59 E σ J0L9 := by
  intro x0 x1
  refine (pub_call (E := E) (Y := Yf) (G := GXL9) (J := JJL9) (z := 217) (o := 0) (t := 1) (q := ct_H_labelL9) (as := [.inl x0, .inl x1]) (ds := [T32, T32, [(0, 200)], [(0, 200)]]) (ks := [(110, 8), (5, 2)]) (KS := KS) (all_ctL9 217 _ rfl) (show pubOk ct_H_labelL9 0 [false, false] [T32, T32, [(0, 200)], [(0, 200)]] [(110, 8), (5, 2)] = true by decide +kernel) ⟨in32 _, in32 _, r0 h.2.1 (k := (110, 8)) (by decide), r0 h.2.1 (k := (5, 2)) (by decide), trivial⟩ (by decide +kernel) h.1).mono (fun v σ1 hv => ?_)
  obtain ⟨v1, v2, v3, v4, v5⟩ := hv
  obtain ⟨r, hr⟩ := v1 rfl
  refine ⟨r, hr, ?_⟩
  refine (pub_call (E := E) (Y := Yf) (G := GXL9) (J := JJL9) (z := 444) (o := 110) (t := 1) (q := ct_M_labelL9) (as := [.inl x0, .inl x1]) (ds := [T32, T32, [(0, 200)], [(0, 200)]]) (ks := [(110, 8), (5, 2)]) (KS := KS) (all_ctL9 444 _ rfl) (show pubOk ct_M_labelL9 110 [false, false] [T32, T32, [(0, 200)], [(0, 200)]] [(110, 8), (5, 2)] = true by decide +kernel) ⟨in32 _, in32 _, r0 v3 (k := (110, 8)) (by decide), r0 v3 (k := (5, 2)) (by decide), trivial⟩ (by decide +kernel) v4).mono (fun v' σ2 hw => ?_)
  obtain ⟨w1, w2, w3, w4, w5⟩ := hw
  exact ⟨w1 rfl, w4, w3, (h.2.2.keepL9 (q := ct_H_labelL9) (by decide +kernel) v5).keepL9 (q := ct_M_labelL9) (by decide +kernel) w5⟩
theorem LC_60_okL9 {E : xV} {σ : zS} (h : J0L9 σ) : LC_60 E σ J0L9 := by
  intro x0 x1 x2 x3
  refine (pub_call (E := E) (Y := Yf) (G := GXL9) (J := JJL9) (z := 224) (o := 0) (t := 1) (q := ct_H_statementL9) (as := [.inl x0, .inl x1, .inl x2, .inl x3]) (ds := [T32, T32, T32, T32, [(0, 200)], [(0, 200)]]) (ks := [(110, 8), (5, 2)]) (KS := KS) (all_ctL9 224 _ rfl) (show pubOk ct_H_statementL9 0 [false, false, false, false] [T32, T32, T32, T32, [(0, 200)], [(0, 200)]] [(110, 8), (5, 2)] = true by decide +kernel) ⟨in32 _, in32 _, in32 _, in32 _, r0 h.2.1 (k := (110, 8)) (by decide), r0 h.2.1 (k := (5, 2)) (by decide), trivial⟩ (by decide +kernel) h.1).mono (fun v σ1 hv => ?_)
  obtain ⟨v1, v2, v3, v4, v5⟩ := hv
  obtain ⟨r, hr⟩ := v1 rfl
  refine ⟨r, hr, ?_⟩
  refine (pub_call (E := E) (Y := Yf) (G := GXL9) (J := JJL9) (z := 447) (o := 110) (t := 1) (q := ct_M_statementL9) (as := [.inl x0, .inl x1, .inl x2, .inl x3]) (ds := [T32, T32, T32, T32, [(0, 200)], [(0, 200)]]) (ks := [(110, 8), (5, 2)]) (KS := KS) (all_ctL9 447 _ rfl) (show pubOk ct_M_statementL9 110 [false, false, false, false] [T32, T32, T32, T32, [(0, 200)], [(0, 200)]] [(110, 8), (5, 2)] = true by decide +kernel) ⟨in32 _, in32 _, in32 _, in32 _, r0 v3 (k := (110, 8)) (by decide), r0 v3 (k := (5, 2)) (by decide), trivial⟩ (by decide +kernel) v4).mono (fun v' σ2 hw => ?_)
  obtain ⟨w1, w2, w3, w4, w5⟩ := hw
  exact ⟨w1 rfl, w4, w3, (h.2.2.keepL9 (q := ct_H_statementL9) (by decide +kernel) v5).keepL9 (q := ct_M_statementL9) (by decide +kernel) w5⟩
theorem LC_61_okL9 {E : xV} {σ : zS} (h : J0L9 σ) : LC_61 E σ J0L9 := by
  refine (pub_call (E := E) (Y := Yf) (G := GXL9) (J := JJL9) (z := 225) (o := 0) (t := 1) (q := ct_H_eraseL9) (as := []) (ds := [[(0, 200)], [(0, 200)]]) (ks := [(110, 8), (5, 2)]) (KS := KS) (all_ctL9 225 _ rfl) (show pubOk ct_H_eraseL9 0 [] [[(0, 200)], [(0, 200)]] [(110, 8), (5, 2)] = true by decide +kernel) ⟨r0 h.2.1 (k := (110, 8)) (by decide), r0 h.2.1 (k := (5, 2)) (by decide), trivial⟩ (by decide +kernel) h.1).mono (fun v σ1 hv => ?_)
  obtain ⟨v1, v2, v3, v4, v5⟩ := hv
  obtain ⟨r, hr⟩ := v1 rfl
  refine ⟨r, hr, ?_⟩
  refine (pub_call (E := E) (Y := Yf) (G := GXL9) (J := JJL9) (z := 448) (o := 110) (t := 1) (q := ct_M_eraseL9) (as := []) (ds := [[(0, 200)], [(0, 200)]]) (ks := [(110, 8), (5, 2)]) (KS := KS) (all_ctL9 448 _ rfl) (show pubOk ct_M_eraseL9 110 [] [[(0, 200)], [(0, 200)]] [(110, 8), (5, 2)] = true by decide +kernel) ⟨r0 v3 (k := (110, 8)) (by decide), r0 v3 (k := (5, 2)) (by decide), trivial⟩ (by decide +kernel) v4).mono (fun v' σ2 hw => ?_)
  obtain ⟨w1, w2, w3, w4, w5⟩ := hw
  exact ⟨w1 rfl, w4, w3, (h.2.2.keepL9 (q := ct_H_eraseL9) (by decide +kernel) v5).keepL9 (q := ct_M_eraseL9) (by decide +kernel) w5⟩
theorem LC_62_okL9 {E : xV} {σ : zS} (h : J0L9 σ) : LC_62 E σ J0L9 := by
  refine (pub_call (E := E) (Y := Yf) (G := GXL9) (J := JJL9) (z := 229) (o := 0) (t := 1) (q := ct_H_tightL9) (as := []) (ds := [[(0, 200)], [(0, 200)]]) (ks := [(110, 8), (5, 2)]) (KS := KS) (all_ctL9 229 _ rfl) (show pubOk ct_H_tightL9 0 [] [[(0, 200)], [(0, 200)]] [(110, 8), (5, 2)] = true by decide +kernel) ⟨r0 h.2.1 (k := (110, 8)) (by decide), r0 h.2.1 (k := (5, 2)) (by decide), trivial⟩ (by decide +kernel) h.1).mono (fun v σ1 hv => ?_)
  obtain ⟨v1, v2, v3, v4, v5⟩ := hv
  obtain ⟨r, hr⟩ := v1 rfl
  refine ⟨r, hr, ?_⟩
  refine (pub_call (E := E) (Y := Yf) (G := GXL9) (J := JJL9) (z := 449) (o := 110) (t := 1) (q := ct_M_tightL9) (as := []) (ds := [[(0, 200)], [(0, 200)]]) (ks := [(110, 8), (5, 2)]) (KS := KS) (all_ctL9 449 _ rfl) (show pubOk ct_M_tightL9 110 [] [[(0, 200)], [(0, 200)]] [(110, 8), (5, 2)] = true by decide +kernel) ⟨r0 v3 (k := (110, 8)) (by decide), r0 v3 (k := (5, 2)) (by decide), trivial⟩ (by decide +kernel) v4).mono (fun v' σ2 hw => ?_)
  obtain ⟨w1, w2, w3, w4, w5⟩ := hw
  exact ⟨w1 rfl, w4, w3, (h.2.2.keepL9 (q := ct_H_tightL9) (by decide +kernel) v5).keepL9 (q := ct_M_tightL9) (by decide +kernel) w5⟩
theorem LC_63_okL9 {E : xV} {σ : zS} (h : J0L9 σ) : LC_63 E σ J0L9 := by
  refine (pub_call (E := E) (Y := Yf) (G := GXL9) (J := JJL9) (z := 231) (o := 0) (t := 1) (q := ct_H_loweredL9) (as := []) (ds := [[(0, 200)], [(0, 200)]]) (ks := [(110, 8), (5, 2)]) (KS := KS) (all_ctL9 231 _ rfl) (show pubOk ct_H_loweredL9 0 [] [[(0, 200)], [(0, 200)]] [(110, 8), (5, 2)] = true by decide +kernel) ⟨r0 h.2.1 (k := (110, 8)) (by decide), r0 h.2.1 (k := (5, 2)) (by decide), trivial⟩ (by decide +kernel) h.1).mono (fun v σ1 hv => ?_)
  obtain ⟨v1, v2, v3, v4, v5⟩ := hv
  obtain ⟨r, hr⟩ := v1 rfl
  refine ⟨r, hr, ?_⟩
  refine (pub_call (E := E) (Y := Yf) (G := GXL9) (J := JJL9) (z := 450) (o := 110) (t := 1) (q := ct_M_loweredL9) (as := []) (ds := [[(0, 200)], [(0, 200)]]) (ks := [(110, 8), (5, 2)]) (KS := KS) (all_ctL9 450 _ rfl) (show pubOk ct_M_loweredL9 110 [] [[(0, 200)], [(0, 200)]] [(110, 8), (5, 2)] = true by decide +kernel) ⟨r0 v3 (k := (110, 8)) (by decide), r0 v3 (k := (5, 2)) (by decide), trivial⟩ (by decide +kernel) v4).mono (fun v' σ2 hw => ?_)
  obtain ⟨w1, w2, w3, w4, w5⟩ := hw
  exact ⟨w1 rfl, w4, w3, (h.2.2.keepL9 (q := ct_H_loweredL9) (by decide +kernel) v5).keepL9 (q := ct_M_loweredL9) (by decide +kernel) w5⟩
theorem LC_64_okL9 {E : xV} {σ : zS} (h : J0L9 σ) : LC_64 E σ J0L9 := by
  intro x0 x1
  refine (pub_call (E := E) (Y := Yf) (G := GXL9) (J := JJL9) (z := 232) (o := 0) (t := 1) (q := ct_H_givenL9) (as := [.inl x0, .inl x1]) (ds := [T32, T32, [(0, 200)], [(0, 200)]]) (ks := [(110, 8), (5, 2)]) (KS := KS) (all_ctL9 232 _ rfl) (show pubOk ct_H_givenL9 0 [false, false] [T32, T32, [(0, 200)], [(0, 200)]] [(110, 8), (5, 2)] = true by decide +kernel) ⟨in32 _, in32 _, r0 h.2.1 (k := (110, 8)) (by decide), r0 h.2.1 (k := (5, 2)) (by decide), trivial⟩ (by decide +kernel) h.1).mono (fun v σ1 hv => ?_)
  obtain ⟨v1, v2, v3, v4, v5⟩ := hv
  obtain ⟨r, hr⟩ := v1 rfl
  refine ⟨r, hr, ?_⟩
  refine (pub_call (E := E) (Y := Yf) (G := GXL9) (J := JJL9) (z := 451) (o := 110) (t := 1) (q := ct_M_givenL9) (as := [.inl x0, .inl x1]) (ds := [T32, T32, [(0, 200)], [(0, 200)]]) (ks := [(110, 8), (5, 2)]) (KS := KS) (all_ctL9 451 _ rfl) (show pubOk ct_M_givenL9 110 [false, false] [T32, T32, [(0, 200)], [(0, 200)]] [(110, 8), (5, 2)] = true by decide +kernel) ⟨in32 _, in32 _, r0 v3 (k := (110, 8)) (by decide), r0 v3 (k := (5, 2)) (by decide), trivial⟩ (by decide +kernel) v4).mono (fun v' σ2 hw => ?_)
  obtain ⟨w1, w2, w3, w4, w5⟩ := hw
  exact ⟨w1 rfl, w4, w3, (h.2.2.keepL9 (q := ct_H_givenL9) (by decide +kernel) v5).keepL9 (q := ct_M_givenL9) (by decide +kernel) w5⟩
theorem LC_65_okL9 {E : xV} {σ : zS} (h : J0L9 σ) : LC_65 E σ J0L9 := by
  intro x0
  refine (pub_call (E := E) (Y := Yf) (G := GXL9) (J := JJL9) (z := 238) (o := 0) (t := 1) (q := ct_H_flow) (as := [.inl x0]) (ds := [T32, [(0, 200)], [(0, 200)]]) (ks := [(110, 8), (5, 2)]) (KS := KS) (all_ctL9 238 _ rfl) (show pubOk ct_H_flow 0 [false] [T32, [(0, 200)], [(0, 200)]] [(110, 8), (5, 2)] = true by decide +kernel) ⟨in32 _, r0 h.2.1 (k := (110, 8)) (by decide), r0 h.2.1 (k := (5, 2)) (by decide), trivial⟩ (by decide +kernel) h.1).mono (fun v σ1 hv => ?_)
  obtain ⟨v1, v2, v3, v4, v5⟩ := hv
  obtain ⟨r, hr⟩ := v1 rfl
  refine ⟨r, hr, ?_⟩
  refine (pub_call (E := E) (Y := Yf) (G := GXL9) (J := JJL9) (z := 453) (o := 110) (t := 1) (q := ct_M_flowL9) (as := [.inl x0]) (ds := [T32, [(0, 200)], [(0, 200)]]) (ks := [(110, 8), (5, 2)]) (KS := KS) (all_ctL9 453 _ rfl) (show pubOk ct_M_flowL9 110 [false] [T32, [(0, 200)], [(0, 200)]] [(110, 8), (5, 2)] = true by decide +kernel) ⟨in32 _, r0 v3 (k := (110, 8)) (by decide), r0 v3 (k := (5, 2)) (by decide), trivial⟩ (by decide +kernel) v4).mono (fun v' σ2 hw => ?_)
  obtain ⟨w1, w2, w3, w4, w5⟩ := hw
  exact ⟨w1 rfl, w4, w3, (h.2.2.keepL9 (q := ct_H_flow) (by decide +kernel) v5).keepL9 (q := ct_M_flowL9) (by decide +kernel) w5⟩
theorem LC_66_okL9 {E : xV} {σ : zS} (h : J0L9 σ) : LC_66 E σ J0L9 := by
  intro x0 x1
  refine (pub_call (E := E) (Y := Yf) (G := GXL9) (J := JJL9) (z := 239) (o := 0) (t := 1) (q := ct_H_saidL9) (as := [.inl x0, .inl x1]) (ds := [T32, T32, [(0, 200)], [(0, 200)]]) (ks := [(110, 8), (5, 2)]) (KS := KS) (all_ctL9 239 _ rfl) (show pubOk ct_H_saidL9 0 [false, false] [T32, T32, [(0, 200)], [(0, 200)]] [(110, 8), (5, 2)] = true by decide +kernel) ⟨in32 _, in32 _, r0 h.2.1 (k := (110, 8)) (by decide), r0 h.2.1 (k := (5, 2)) (by decide), trivial⟩ (by decide +kernel) h.1).mono (fun v σ1 hv => ?_)
  obtain ⟨v1, v2, v3, v4, v5⟩ := hv
  obtain ⟨r, hr⟩ := v1 rfl
  refine ⟨r, hr, ?_⟩
  refine (pub_call (E := E) (Y := Yf) (G := GXL9) (J := JJL9) (z := 454) (o := 110) (t := 1) (q := ct_M_saidL9) (as := [.inl x0, .inl x1]) (ds := [T32, T32, [(0, 200)], [(0, 200)]]) (ks := [(110, 8), (5, 2)]) (KS := KS) (all_ctL9 454 _ rfl) (show pubOk ct_M_saidL9 110 [false, false] [T32, T32, [(0, 200)], [(0, 200)]] [(110, 8), (5, 2)] = true by decide +kernel) ⟨in32 _, in32 _, r0 v3 (k := (110, 8)) (by decide), r0 v3 (k := (5, 2)) (by decide), trivial⟩ (by decide +kernel) v4).mono (fun v' σ2 hw => ?_)
  obtain ⟨w1, w2, w3, w4, w5⟩ := hw
  exact ⟨w1 rfl, w4, w3, (h.2.2.keepL9 (q := ct_H_saidL9) (by decide +kernel) v5).keepL9 (q := ct_M_saidL9) (by decide +kernel) w5⟩
theorem LC_67_okL9 {E : xV} {σ : zS} (h : J0L9 σ) : LC_67 E σ J0L9 := by
  intro x0
  refine (pub_call (E := E) (Y := Yf) (G := GXL9) (J := JJL9) (z := 240) (o := 0) (t := 1) (q := ct_H_variable) (as := [.inl x0]) (ds := [T32, [(0, 200)], [(0, 200)]]) (ks := [(110, 8), (5, 2)]) (KS := KS) (all_ctL9 240 _ rfl) (show pubOk ct_H_variable 0 [false] [T32, [(0, 200)], [(0, 200)]] [(110, 8), (5, 2)] = true by decide +kernel) ⟨in32 _, r0 h.2.1 (k := (110, 8)) (by decide), r0 h.2.1 (k := (5, 2)) (by decide), trivial⟩ (by decide +kernel) h.1).mono (fun v σ1 hv => ?_)
  obtain ⟨v1, v2, v3, v4, v5⟩ := hv
  obtain ⟨r, hr⟩ := v1 rfl
  refine ⟨r, hr, ?_⟩
  refine (pub_call (E := E) (Y := Yf) (G := GXL9) (J := JJL9) (z := 455) (o := 110) (t := 1) (q := ct_M_variable) (as := [.inl x0]) (ds := [T32, [(0, 200)], [(0, 200)]]) (ks := [(110, 8), (5, 2)]) (KS := KS) (all_ctL9 455 _ rfl) (show pubOk ct_M_variable 110 [false] [T32, [(0, 200)], [(0, 200)]] [(110, 8), (5, 2)] = true by decide +kernel) ⟨in32 _, r0 v3 (k := (110, 8)) (by decide), r0 v3 (k := (5, 2)) (by decide), trivial⟩ (by decide +kernel) v4).mono (fun v' σ2 hw => ?_)
  obtain ⟨w1, w2, w3, w4, w5⟩ := hw
  exact ⟨w1 rfl, w4, w3, (h.2.2.keepL9 (q := ct_H_variable) (by decide +kernel) v5).keepL9 (q := ct_M_variable) (by decide +kernel) w5⟩
theorem LC_68_okL9 {E : xV} {σ : zS} (h : J0L9 σ) : LC_68 E σ J0L9 := by
  intro x0 x1
  refine (pub_call (E := E) (Y := Yf) (G := GXL9) (J := JJL9) (z := 242) (o := 0) (t := 3) (q := ct_H_guardedL9) (as := [.inl x0, .inr x1]) (ds := [T32, T64, [(0, 200)], [(0, 200)]]) (ks := [(110, 8), (5, 2)]) (KS := KS) (all_ctL9 242 _ rfl) (show pubOk ct_H_guardedL9 0 [false, true] [T32, T64, [(0, 200)], [(0, 200)]] [(110, 8), (5, 2)] = true by decide +kernel) ⟨in32 _, in64 _, r0 h.2.1 (k := (110, 8)) (by decide), r0 h.2.1 (k := (5, 2)) (by decide), trivial⟩ (by decide +kernel) h.1).mono (fun v σ1 hv => ?_)
  obtain ⟨v1, v2, v3, v4, v5⟩ := hv
  obtain ⟨r, hr⟩ := v2 rfl
  refine ⟨r, hr, ?_⟩
  refine (pub_call (E := E) (Y := Yf) (G := GXL9) (J := JJL9) (z := 456) (o := 110) (t := 3) (q := ct_M_guardedL9) (as := [.inl x0, .inr x1]) (ds := [T32, T64, [(0, 200)], [(0, 200)]]) (ks := [(110, 8), (5, 2)]) (KS := KS) (all_ctL9 456 _ rfl) (show pubOk ct_M_guardedL9 110 [false, true] [T32, T64, [(0, 200)], [(0, 200)]] [(110, 8), (5, 2)] = true by decide +kernel) ⟨in32 _, in64 _, r0 v3 (k := (110, 8)) (by decide), r0 v3 (k := (5, 2)) (by decide), trivial⟩ (by decide +kernel) v4).mono (fun v' σ2 hw => ?_)
  obtain ⟨w1, w2, w3, w4, w5⟩ := hw
  exact ⟨w2 rfl, w4, w3, (h.2.2.keepL9 (q := ct_H_guardedL9) (by decide +kernel) v5).keepL9 (q := ct_M_guardedL9) (by decide +kernel) w5⟩
theorem LC_69_okL9 {E : xV} {σ : zS} (h : J0L9 σ) : LC_69 E σ J0L9 := by
  intro x0 x1
  refine (pub_call (E := E) (Y := Yf) (G := GXL9) (J := JJL9) (z := 250) (o := 0) (t := 3) (q := ct_H_sumL9) (as := [.inl x0, .inr x1]) (ds := [T32, T64, [(0, 200)], [(0, 200)]]) (ks := [(110, 8), (5, 2)]) (KS := KS) (all_ctL9 250 _ rfl) (show pubOk ct_H_sumL9 0 [false, true] [T32, T64, [(0, 200)], [(0, 200)]] [(110, 8), (5, 2)] = true by decide +kernel) ⟨in32 _, in64 _, r0 h.2.1 (k := (110, 8)) (by decide), r0 h.2.1 (k := (5, 2)) (by decide), trivial⟩ (by decide +kernel) h.1).mono (fun v σ1 hv => ?_)
  obtain ⟨v1, v2, v3, v4, v5⟩ := hv
  obtain ⟨r, hr⟩ := v2 rfl
  refine ⟨r, hr, ?_⟩
  refine (pub_call (E := E) (Y := Yf) (G := GXL9) (J := JJL9) (z := 464) (o := 110) (t := 3) (q := ct_M_sumL9) (as := [.inl x0, .inr x1]) (ds := [T32, T64, [(0, 200)], [(0, 200)]]) (ks := [(110, 8), (5, 2)]) (KS := KS) (all_ctL9 464 _ rfl) (show pubOk ct_M_sumL9 110 [false, true] [T32, T64, [(0, 200)], [(0, 200)]] [(110, 8), (5, 2)] = true by decide +kernel) ⟨in32 _, in64 _, r0 v3 (k := (110, 8)) (by decide), r0 v3 (k := (5, 2)) (by decide), trivial⟩ (by decide +kernel) v4).mono (fun v' σ2 hw => ?_)
  obtain ⟨w1, w2, w3, w4, w5⟩ := hw
  exact ⟨w2 rfl, w4, w3, (h.2.2.keepL9 (q := ct_H_sumL9) (by decide +kernel) v5).keepL9 (q := ct_M_sumL9) (by decide +kernel) w5⟩
theorem LC_70_okL9 {E : xV} {σ : zS} (h : J0L9 σ) : LC_70 E σ J0L9 := by
  intro x0 x1
  refine (pub_call (E := E) (Y := Yf) (G := GXL9) (J := JJL9) (z := 252) (o := 0) (t := 1) (q := ct_H_shareL9) (as := [.inl x0, .inl x1]) (ds := [T32, T32, [(0, 200)], [(0, 200)]]) (ks := [(110, 8), (5, 2)]) (KS := KS) (all_ctL9 252 _ rfl) (show pubOk ct_H_shareL9 0 [false, false] [T32, T32, [(0, 200)], [(0, 200)]] [(110, 8), (5, 2)] = true by decide +kernel) ⟨in32 _, in32 _, r0 h.2.1 (k := (110, 8)) (by decide), r0 h.2.1 (k := (5, 2)) (by decide), trivial⟩ (by decide +kernel) h.1).mono (fun v σ1 hv => ?_)
  obtain ⟨v1, v2, v3, v4, v5⟩ := hv
  obtain ⟨r, hr⟩ := v1 rfl
  refine ⟨r, hr, ?_⟩
  refine (pub_call (E := E) (Y := Yf) (G := GXL9) (J := JJL9) (z := 465) (o := 110) (t := 1) (q := ct_M_shareL9) (as := [.inl x0, .inl x1]) (ds := [T32, T32, [(0, 200)], [(0, 200)]]) (ks := [(110, 8), (5, 2)]) (KS := KS) (all_ctL9 465 _ rfl) (show pubOk ct_M_shareL9 110 [false, false] [T32, T32, [(0, 200)], [(0, 200)]] [(110, 8), (5, 2)] = true by decide +kernel) ⟨in32 _, in32 _, r0 v3 (k := (110, 8)) (by decide), r0 v3 (k := (5, 2)) (by decide), trivial⟩ (by decide +kernel) v4).mono (fun v' σ2 hw => ?_)
  obtain ⟨w1, w2, w3, w4, w5⟩ := hw
  exact ⟨w1 rfl, w4, w3, (h.2.2.keepL9 (q := ct_H_shareL9) (by decide +kernel) v5).keepL9 (q := ct_M_shareL9) (by decide +kernel) w5⟩
theorem LC_71_okL9 {E : xV} {σ : zS} (h : J0L9 σ) : LC_71 E σ J0L9 := by
  intro x0 x1
  refine (pub_call (E := E) (Y := Yf) (G := GXL9) (J := JJL9) (z := 255) (o := 0) (t := 1) (q := ct_H_knowsL9) (as := [.inl x0, .inl x1]) (ds := [T32, T32, [(0, 200)], [(0, 200)]]) (ks := [(110, 8), (5, 2)]) (KS := KS) (all_ctL9 255 _ rfl) (show pubOk ct_H_knowsL9 0 [false, false] [T32, T32, [(0, 200)], [(0, 200)]] [(110, 8), (5, 2)] = true by decide +kernel) ⟨in32 _, in32 _, r0 h.2.1 (k := (110, 8)) (by decide), r0 h.2.1 (k := (5, 2)) (by decide), trivial⟩ (by decide +kernel) h.1).mono (fun v σ1 hv => ?_)
  obtain ⟨v1, v2, v3, v4, v5⟩ := hv
  obtain ⟨r, hr⟩ := v1 rfl
  refine ⟨r, hr, ?_⟩
  refine (pub_call (E := E) (Y := Yf) (G := GXL9) (J := JJL9) (z := 466) (o := 110) (t := 1) (q := ct_M_knowsL9) (as := [.inl x0, .inl x1]) (ds := [T32, T32, [(0, 200)], [(0, 200)]]) (ks := [(110, 8), (5, 2)]) (KS := KS) (all_ctL9 466 _ rfl) (show pubOk ct_M_knowsL9 110 [false, false] [T32, T32, [(0, 200)], [(0, 200)]] [(110, 8), (5, 2)] = true by decide +kernel) ⟨in32 _, in32 _, r0 v3 (k := (110, 8)) (by decide), r0 v3 (k := (5, 2)) (by decide), trivial⟩ (by decide +kernel) v4).mono (fun v' σ2 hw => ?_)
  obtain ⟨w1, w2, w3, w4, w5⟩ := hw
  exact ⟨w1 rfl, w4, w3, (h.2.2.keepL9 (q := ct_H_knowsL9) (by decide +kernel) v5).keepL9 (q := ct_M_knowsL9) (by decide +kernel) w5⟩
theorem LC_72_okL9 {E : xV} {σ : zS} (h : J0L9 σ) : LC_72 E σ J0L9 := by
  intro x0
  refine (pub_call (E := E) (Y := Yf) (G := GXL9) (J := JJL9) (z := 258) (o := 0) (t := 1) (q := ct_H_room) (as := [.inl x0]) (ds := [T32, [(0, 200)], [(0, 200)]]) (ks := [(110, 8), (5, 2)]) (KS := KS) (all_ctL9 258 _ rfl) (show pubOk ct_H_room 0 [false] [T32, [(0, 200)], [(0, 200)]] [(110, 8), (5, 2)] = true by decide +kernel) ⟨in32 _, r0 h.2.1 (k := (110, 8)) (by decide), r0 h.2.1 (k := (5, 2)) (by decide), trivial⟩ (by decide +kernel) h.1).mono (fun v σ1 hv => ?_)
  obtain ⟨v1, v2, v3, v4, v5⟩ := hv
  obtain ⟨r, hr⟩ := v1 rfl
  refine ⟨r, hr, ?_⟩
  refine (pub_call (E := E) (Y := Yf) (G := GXL9) (J := JJL9) (z := 467) (o := 110) (t := 1) (q := ct_M_room) (as := [.inl x0]) (ds := [T32, [(0, 200)], [(0, 200)]]) (ks := [(110, 8), (5, 2)]) (KS := KS) (all_ctL9 467 _ rfl) (show pubOk ct_M_room 110 [false] [T32, [(0, 200)], [(0, 200)]] [(110, 8), (5, 2)] = true by decide +kernel) ⟨in32 _, r0 v3 (k := (110, 8)) (by decide), r0 v3 (k := (5, 2)) (by decide), trivial⟩ (by decide +kernel) v4).mono (fun v' σ2 hw => ?_)
  obtain ⟨w1, w2, w3, w4, w5⟩ := hw
  exact ⟨w1 rfl, w4, w3, (h.2.2.keepL9 (q := ct_H_room) (by decide +kernel) v5).keepL9 (q := ct_M_room) (by decide +kernel) w5⟩
theorem LC_73_okL9 {E : xV} {σ : zS} (h : J0L9 σ) : LC_73 E σ J0L9 := by
  intro x0
  refine (pub_call (E := E) (Y := Yf) (G := GXL9) (J := JJL9) (z := 260) (o := 0) (t := 1) (q := ct_H_method) (as := [.inl x0]) (ds := [T32, [(0, 200)], [(0, 200)]]) (ks := [(110, 8), (5, 2)]) (KS := KS) (all_ctL9 260 _ rfl) (show pubOk ct_H_method 0 [false] [T32, [(0, 200)], [(0, 200)]] [(110, 8), (5, 2)] = true by decide +kernel) ⟨in32 _, r0 h.2.1 (k := (110, 8)) (by decide), r0 h.2.1 (k := (5, 2)) (by decide), trivial⟩ (by decide +kernel) h.1).mono (fun v σ1 hv => ?_)
  obtain ⟨v1, v2, v3, v4, v5⟩ := hv
  obtain ⟨r, hr⟩ := v1 rfl
  refine ⟨r, hr, ?_⟩
  refine (pub_call (E := E) (Y := Yf) (G := GXL9) (J := JJL9) (z := 468) (o := 110) (t := 1) (q := ct_M_method) (as := [.inl x0]) (ds := [T32, [(0, 200)], [(0, 200)]]) (ks := [(110, 8), (5, 2)]) (KS := KS) (all_ctL9 468 _ rfl) (show pubOk ct_M_method 110 [false] [T32, [(0, 200)], [(0, 200)]] [(110, 8), (5, 2)] = true by decide +kernel) ⟨in32 _, r0 v3 (k := (110, 8)) (by decide), r0 v3 (k := (5, 2)) (by decide), trivial⟩ (by decide +kernel) v4).mono (fun v' σ2 hw => ?_)
  obtain ⟨w1, w2, w3, w4, w5⟩ := hw
  exact ⟨w1 rfl, w4, w3, (h.2.2.keepL9 (q := ct_H_method) (by decide +kernel) v5).keepL9 (q := ct_M_method) (by decide +kernel) w5⟩
theorem LC_74_okL9 {E : xV} {σ : zS} (h : J0L9 σ) : LC_74 E σ J0L9 := by
  intro x0 x1 x2 x3
  refine (pub_call (E := E) (Y := Yf) (G := GXL9) (J := JJL9) (z := 263) (o := 0) (t := 1) (q := ct_H_opL9) (as := [.inl x0, .inl x1, .inl x2, .inl x3]) (ds := [T32, T32, T32, T32, [(0, 200)], [(0, 200)]]) (ks := [(110, 8), (5, 2)]) (KS := KS) (all_ctL9 263 _ rfl) (show pubOk ct_H_opL9 0 [false, false, false, false] [T32, T32, T32, T32, [(0, 200)], [(0, 200)]] [(110, 8), (5, 2)] = true by decide +kernel) ⟨in32 _, in32 _, in32 _, in32 _, r0 h.2.1 (k := (110, 8)) (by decide), r0 h.2.1 (k := (5, 2)) (by decide), trivial⟩ (by decide +kernel) h.1).mono (fun v σ1 hv => ?_)
  obtain ⟨v1, v2, v3, v4, v5⟩ := hv
  obtain ⟨r, hr⟩ := v1 rfl
  refine ⟨r, hr, ?_⟩
  refine (pub_call (E := E) (Y := Yf) (G := GXL9) (J := JJL9) (z := 469) (o := 110) (t := 1) (q := ct_M_opL9) (as := [.inl x0, .inl x1, .inl x2, .inl x3]) (ds := [T32, T32, T32, T32, [(0, 200)], [(0, 200)]]) (ks := [(110, 8), (5, 2)]) (KS := KS) (all_ctL9 469 _ rfl) (show pubOk ct_M_opL9 110 [false, false, false, false] [T32, T32, T32, T32, [(0, 200)], [(0, 200)]] [(110, 8), (5, 2)] = true by decide +kernel) ⟨in32 _, in32 _, in32 _, in32 _, r0 v3 (k := (110, 8)) (by decide), r0 v3 (k := (5, 2)) (by decide), trivial⟩ (by decide +kernel) v4).mono (fun v' σ2 hw => ?_)
  obtain ⟨w1, w2, w3, w4, w5⟩ := hw
  exact ⟨w1 rfl, w4, w3, (h.2.2.keepL9 (q := ct_H_opL9) (by decide +kernel) v5).keepL9 (q := ct_M_opL9) (by decide +kernel) w5⟩
theorem LC_75_okL9 {E : xV} {σ : zS} (h : J0L9 σ) : LC_75 E σ J0L9 := by
  intro x0 x1
  refine (pub_call (E := E) (Y := Yf) (G := GXL9) (J := JJL9) (z := 271) (o := 0) (t := 1) (q := ct_H_enterL9) (as := [.inl x0, .inl x1]) (ds := [T32, T32, [(0, 200)], [(0, 200)]]) (ks := [(110, 8), (5, 2)]) (KS := KS) (all_ctL9 271 _ rfl) (show pubOk ct_H_enterL9 0 [false, false] [T32, T32, [(0, 200)], [(0, 200)]] [(110, 8), (5, 2)] = true by decide +kernel) ⟨in32 _, in32 _, r0 h.2.1 (k := (110, 8)) (by decide), r0 h.2.1 (k := (5, 2)) (by decide), trivial⟩ (by decide +kernel) h.1).mono (fun v σ1 hv => ?_)
  obtain ⟨v1, v2, v3, v4, v5⟩ := hv
  obtain ⟨r, hr⟩ := v1 rfl
  refine ⟨r, hr, ?_⟩
  refine (pub_call (E := E) (Y := Yf) (G := GXL9) (J := JJL9) (z := 473) (o := 110) (t := 1) (q := ct_M_enterL9) (as := [.inl x0, .inl x1]) (ds := [T32, T32, [(0, 200)], [(0, 200)]]) (ks := [(110, 8), (5, 2)]) (KS := KS) (all_ctL9 473 _ rfl) (show pubOk ct_M_enterL9 110 [false, false] [T32, T32, [(0, 200)], [(0, 200)]] [(110, 8), (5, 2)] = true by decide +kernel) ⟨in32 _, in32 _, r0 v3 (k := (110, 8)) (by decide), r0 v3 (k := (5, 2)) (by decide), trivial⟩ (by decide +kernel) v4).mono (fun v' σ2 hw => ?_)
  obtain ⟨w1, w2, w3, w4, w5⟩ := hw
  exact ⟨w1 rfl, w4, w3, (h.2.2.keepL9 (q := ct_H_enterL9) (by decide +kernel) v5).keepL9 (q := ct_M_enterL9) (by decide +kernel) w5⟩
theorem LC_76_okL9 {E : xV} {σ : zS} (h : J0L9 σ) : LC_76 E σ J0L9 := by
  intro x0
  refine (pub_call (E := E) (Y := Yf) (G := GXL9) (J := JJL9) (z := 272) (o := 0) (t := 1) (q := ct_H_entered) (as := [.inl x0]) (ds := [T32, [(0, 200)], [(0, 200)]]) (ks := [(110, 8), (5, 2)]) (KS := KS) (all_ctL9 272 _ rfl) (show pubOk ct_H_entered 0 [false] [T32, [(0, 200)], [(0, 200)]] [(110, 8), (5, 2)] = true by decide +kernel) ⟨in32 _, r0 h.2.1 (k := (110, 8)) (by decide), r0 h.2.1 (k := (5, 2)) (by decide), trivial⟩ (by decide +kernel) h.1).mono (fun v σ1 hv => ?_)
  obtain ⟨v1, v2, v3, v4, v5⟩ := hv
  obtain ⟨r, hr⟩ := v1 rfl
  refine ⟨r, hr, ?_⟩
  refine (pub_call (E := E) (Y := Yf) (G := GXL9) (J := JJL9) (z := 474) (o := 110) (t := 1) (q := ct_M_entered) (as := [.inl x0]) (ds := [T32, [(0, 200)], [(0, 200)]]) (ks := [(110, 8), (5, 2)]) (KS := KS) (all_ctL9 474 _ rfl) (show pubOk ct_M_entered 110 [false] [T32, [(0, 200)], [(0, 200)]] [(110, 8), (5, 2)] = true by decide +kernel) ⟨in32 _, r0 v3 (k := (110, 8)) (by decide), r0 v3 (k := (5, 2)) (by decide), trivial⟩ (by decide +kernel) v4).mono (fun v' σ2 hw => ?_)
  obtain ⟨w1, w2, w3, w4, w5⟩ := hw
  exact ⟨w1 rfl, w4, w3, (h.2.2.keepL9 (q := ct_H_entered) (by decide +kernel) v5).keepL9 (q := ct_M_entered) (by decide +kernel) w5⟩
theorem LC_77_okL9 {E : xV} {σ : zS} (h : J0L9 σ) : LC_77 E σ J0L9 := by
  intro x0 x1
  refine (pub_call (E := E) (Y := Yf) (G := GXL9) (J := JJL9) (z := 274) (o := 0) (t := 1) (q := ct_H_halfL9) (as := [.inl x0, .inl x1]) (ds := [T32, T32, [(0, 200)], [(0, 200)]]) (ks := [(110, 8), (5, 2)]) (KS := KS) (all_ctL9 274 _ rfl) (show pubOk ct_H_halfL9 0 [false, false] [T32, T32, [(0, 200)], [(0, 200)]] [(110, 8), (5, 2)] = true by decide +kernel) ⟨in32 _, in32 _, r0 h.2.1 (k := (110, 8)) (by decide), r0 h.2.1 (k := (5, 2)) (by decide), trivial⟩ (by decide +kernel) h.1).mono (fun v σ1 hv => ?_)
  obtain ⟨v1, v2, v3, v4, v5⟩ := hv
  obtain ⟨r, hr⟩ := v1 rfl
  refine ⟨r, hr, ?_⟩
  refine (pub_call (E := E) (Y := Yf) (G := GXL9) (J := JJL9) (z := 476) (o := 110) (t := 1) (q := ct_M_halfL9) (as := [.inl x0, .inl x1]) (ds := [T32, T32, [(0, 200)], [(0, 200)]]) (ks := [(110, 8), (5, 2)]) (KS := KS) (all_ctL9 476 _ rfl) (show pubOk ct_M_halfL9 110 [false, false] [T32, T32, [(0, 200)], [(0, 200)]] [(110, 8), (5, 2)] = true by decide +kernel) ⟨in32 _, in32 _, r0 v3 (k := (110, 8)) (by decide), r0 v3 (k := (5, 2)) (by decide), trivial⟩ (by decide +kernel) v4).mono (fun v' σ2 hw => ?_)
  obtain ⟨w1, w2, w3, w4, w5⟩ := hw
  exact ⟨w1 rfl, w4, w3, (h.2.2.keepL9 (q := ct_H_halfL9) (by decide +kernel) v5).keepL9 (q := ct_M_halfL9) (by decide +kernel) w5⟩
theorem LC_78_okL9 {E : xV} {σ : zS} (h : J0L9 σ) : LC_78 E σ J0L9 := by
  refine (pub_call (E := E) (Y := Yf) (G := GXL9) (J := JJL9) (z := 278) (o := 0) (t := 1) (q := ct_H_joinedL9) (as := []) (ds := [[(0, 200)], [(0, 200)]]) (ks := [(110, 8), (5, 2)]) (KS := KS) (all_ctL9 278 _ rfl) (show pubOk ct_H_joinedL9 0 [] [[(0, 200)], [(0, 200)]] [(110, 8), (5, 2)] = true by decide +kernel) ⟨r0 h.2.1 (k := (110, 8)) (by decide), r0 h.2.1 (k := (5, 2)) (by decide), trivial⟩ (by decide +kernel) h.1).mono (fun v σ1 hv => ?_)
  obtain ⟨v1, v2, v3, v4, v5⟩ := hv
  obtain ⟨r, hr⟩ := v1 rfl
  refine ⟨r, hr, ?_⟩
  refine (pub_call (E := E) (Y := Yf) (G := GXL9) (J := JJL9) (z := 477) (o := 110) (t := 1) (q := ct_M_joinedL9) (as := []) (ds := [[(0, 200)], [(0, 200)]]) (ks := [(110, 8), (5, 2)]) (KS := KS) (all_ctL9 477 _ rfl) (show pubOk ct_M_joinedL9 110 [] [[(0, 200)], [(0, 200)]] [(110, 8), (5, 2)] = true by decide +kernel) ⟨r0 v3 (k := (110, 8)) (by decide), r0 v3 (k := (5, 2)) (by decide), trivial⟩ (by decide +kernel) v4).mono (fun v' σ2 hw => ?_)
  obtain ⟨w1, w2, w3, w4, w5⟩ := hw
  exact ⟨w1 rfl, w4, w3, (h.2.2.keepL9 (q := ct_H_joinedL9) (by decide +kernel) v5).keepL9 (q := ct_M_joinedL9) (by decide +kernel) w5⟩
theorem LC_79_okL9 {E : xV} {σ : zS} (h : J0L9 σ) : LC_79L9 E σ J0L9 := by
  intro x0 x1
  refine (pub_call (E := E) (Y := Yf) (G := GXL9) (J := JJL9) (z := 279) (o := 0) (t := 1) (q := ct_H_loggedL9) (as := [.inl x0, .inl x1]) (ds := [T32, T32, [(0, 200)], [(0, 200)]]) (ks := [(110, 8), (5, 2)]) (KS := KS) (all_ctL9 279 _ rfl) (show pubOk ct_H_loggedL9 0 [false, false] [T32, T32, [(0, 200)], [(0, 200)]] [(110, 8), (5, 2)] = true by decide +kernel) ⟨in32 _, in32 _, r0 h.2.1 (k := (110, 8)) (by decide), r0 h.2.1 (k := (5, 2)) (by decide), trivial⟩ (by decide +kernel) h.1).mono (fun v σ1 hv => ?_)
  obtain ⟨v1, v2, v3, v4, v5⟩ := hv
  obtain ⟨r, hr⟩ := v1 rfl
  refine ⟨r, hr, ?_⟩
  refine (pub_call (E := E) (Y := Yf) (G := GXL9) (J := JJL9) (z := 308) (o := 110) (t := 1) (q := ct_M_loggedL9) (as := [.inl x0, .inl x1]) (ds := [T32, T32, [(0, 200)], [(0, 200)]]) (ks := [(110, 8), (5, 2)]) (KS := KS) (all_ctL9 308 _ rfl) (show pubOk ct_M_loggedL9 110 [false, false] [T32, T32, [(0, 200)], [(0, 200)]] [(110, 8), (5, 2)] = true by decide +kernel) ⟨in32 _, in32 _, r0 v3 (k := (110, 8)) (by decide), r0 v3 (k := (5, 2)) (by decide), trivial⟩ (by decide +kernel) v4).mono (fun v' σ2 hw => ?_)
  obtain ⟨w1, w2, w3, w4, w5⟩ := hw
  exact ⟨w1 rfl, w4, w3, (h.2.2.keepL9 (q := ct_H_loggedL9) (by decide +kernel) v5).keepL9 (q := ct_M_loggedL9) (by decide +kernel) w5⟩
theorem LC_80_okL9 {E : xV} {σ : zS} (h : J0L9 σ) : LC_80 E σ J0L9 := by
  intro x0 x1 x2
  refine (pub_call (E := E) (Y := Yf) (G := GXL9) (J := JJL9) (z := 280) (o := 0) (t := 1) (q := ct_H_forgeL9) (as := [.inl x0, .inl x1, .inl x2]) (ds := [T32, T32, T32, [(0, 200)], [(0, 200)]]) (ks := [(110, 8), (5, 2)]) (KS := KS) (all_ctL9 280 _ rfl) (show pubOk ct_H_forgeL9 0 [false, false, false] [T32, T32, T32, [(0, 200)], [(0, 200)]] [(110, 8), (5, 2)] = true by decide +kernel) ⟨in32 _, in32 _, in32 _, r0 h.2.1 (k := (110, 8)) (by decide), r0 h.2.1 (k := (5, 2)) (by decide), trivial⟩ (by decide +kernel) h.1).mono (fun v σ1 hv => ?_)
  obtain ⟨v1, v2, v3, v4, v5⟩ := hv
  obtain ⟨r, hr⟩ := v1 rfl
  refine ⟨r, hr, ?_⟩
  refine (pub_call (E := E) (Y := Yf) (G := GXL9) (J := JJL9) (z := 309) (o := 110) (t := 1) (q := ct_M_forgeL9) (as := [.inl x0, .inl x1, .inl x2]) (ds := [T32, T32, T32, [(0, 200)], [(0, 200)]]) (ks := [(110, 8), (5, 2)]) (KS := KS) (all_ctL9 309 _ rfl) (show pubOk ct_M_forgeL9 110 [false, false, false] [T32, T32, T32, [(0, 200)], [(0, 200)]] [(110, 8), (5, 2)] = true by decide +kernel) ⟨in32 _, in32 _, in32 _, r0 v3 (k := (110, 8)) (by decide), r0 v3 (k := (5, 2)) (by decide), trivial⟩ (by decide +kernel) v4).mono (fun v' σ2 hw => ?_)
  obtain ⟨w1, w2, w3, w4, w5⟩ := hw
  exact ⟨w1 rfl, w4, w3, (h.2.2.keepL9 (q := ct_H_forgeL9) (by decide +kernel) v5).keepL9 (q := ct_M_forgeL9) (by decide +kernel) w5⟩
theorem LC_81_okL9 {E : xV} {σ : zS} (h : J0L9 σ) : LC_81 E σ J0L9 := by
  refine (pub_call (E := E) (Y := Yf) (G := GXL9) (J := JJL9) (z := 281) (o := 0) (t := 1) (q := ct_H_wrongL9) (as := []) (ds := [[(0, 200)], [(0, 200)]]) (ks := [(110, 8), (5, 2)]) (KS := KS) (all_ctL9 281 _ rfl) (show pubOk ct_H_wrongL9 0 [] [[(0, 200)], [(0, 200)]] [(110, 8), (5, 2)] = true by decide +kernel) ⟨r0 h.2.1 (k := (110, 8)) (by decide), r0 h.2.1 (k := (5, 2)) (by decide), trivial⟩ (by decide +kernel) h.1).mono (fun v σ1 hv => ?_)
  obtain ⟨v1, v2, v3, v4, v5⟩ := hv
  obtain ⟨r, hr⟩ := v1 rfl
  refine ⟨r, hr, ?_⟩
  refine (pub_call (E := E) (Y := Yf) (G := GXL9) (J := JJL9) (z := 310) (o := 110) (t := 1) (q := ct_M_wrongL9) (as := []) (ds := [[(0, 200)], [(0, 200)]]) (ks := [(110, 8), (5, 2)]) (KS := KS) (all_ctL9 310 _ rfl) (show pubOk ct_M_wrongL9 110 [] [[(0, 200)], [(0, 200)]] [(110, 8), (5, 2)] = true by decide +kernel) ⟨r0 v3 (k := (110, 8)) (by decide), r0 v3 (k := (5, 2)) (by decide), trivial⟩ (by decide +kernel) v4).mono (fun v' σ2 hw => ?_)
  obtain ⟨w1, w2, w3, w4, w5⟩ := hw
  exact ⟨w1 rfl, w4, w3, (h.2.2.keepL9 (q := ct_H_wrongL9) (by decide +kernel) v5).keepL9 (q := ct_M_wrongL9) (by decide +kernel) w5⟩
theorem LC_82_okL9 {E : xV} {σ : zS} (h : J0L9 σ) : LC_82 E σ J0L9 := by
  intro x0 x1
  refine (pub_call (E := E) (Y := Yf) (G := GXL9) (J := JJL9) (z := 282) (o := 0) (t := 1) (q := ct_H_sealedL9) (as := [.inl x0, .inl x1]) (ds := [T32, T32, [(0, 200)], [(0, 200)]]) (ks := [(110, 8), (5, 2)]) (KS := KS) (all_ctL9 282 _ rfl) (show pubOk ct_H_sealedL9 0 [false, false] [T32, T32, [(0, 200)], [(0, 200)]] [(110, 8), (5, 2)] = true by decide +kernel) ⟨in32 _, in32 _, r0 h.2.1 (k := (110, 8)) (by decide), r0 h.2.1 (k := (5, 2)) (by decide), trivial⟩ (by decide +kernel) h.1).mono (fun v σ1 hv => ?_)
  obtain ⟨v1, v2, v3, v4, v5⟩ := hv
  obtain ⟨r, hr⟩ := v1 rfl
  refine ⟨r, hr, ?_⟩
  refine (pub_call (E := E) (Y := Yf) (G := GXL9) (J := JJL9) (z := 311) (o := 110) (t := 1) (q := ct_M_sealedL9) (as := [.inl x0, .inl x1]) (ds := [T32, T32, [(0, 200)], [(0, 200)]]) (ks := [(110, 8), (5, 2)]) (KS := KS) (all_ctL9 311 _ rfl) (show pubOk ct_M_sealedL9 110 [false, false] [T32, T32, [(0, 200)], [(0, 200)]] [(110, 8), (5, 2)] = true by decide +kernel) ⟨in32 _, in32 _, r0 v3 (k := (110, 8)) (by decide), r0 v3 (k := (5, 2)) (by decide), trivial⟩ (by decide +kernel) v4).mono (fun v' σ2 hw => ?_)
  obtain ⟨w1, w2, w3, w4, w5⟩ := hw
  exact ⟨w1 rfl, w4, w3, (h.2.2.keepL9 (q := ct_H_sealedL9) (by decide +kernel) v5).keepL9 (q := ct_M_sealedL9) (by decide +kernel) w5⟩
theorem LC_83_okL9 {E : xV} {σ : zS} (h : J0L9 σ) : LC_83 E σ J0L9 := by
  intro x0 x1 x2 x3
  refine (pub_call (E := E) (Y := Yf) (G := GXL9) (J := JJL9) (z := 283) (o := 0) (t := 1) (q := ct_H_couldL9) (as := [.inl x0, .inl x1, .inl x2, .inl x3]) (ds := [T32, T32, T32, T32, [(0, 200)], [(0, 200)]]) (ks := [(110, 8), (5, 2)]) (KS := KS) (all_ctL9 283 _ rfl) (show pubOk ct_H_couldL9 0 [false, false, false, false] [T32, T32, T32, T32, [(0, 200)], [(0, 200)]] [(110, 8), (5, 2)] = true by decide +kernel) ⟨in32 _, in32 _, in32 _, in32 _, r0 h.2.1 (k := (110, 8)) (by decide), r0 h.2.1 (k := (5, 2)) (by decide), trivial⟩ (by decide +kernel) h.1).mono (fun v σ1 hv => ?_)
  obtain ⟨v1, v2, v3, v4, v5⟩ := hv
  obtain ⟨r, hr⟩ := v1 rfl
  refine ⟨r, hr, ?_⟩
  refine (pub_call (E := E) (Y := Yf) (G := GXL9) (J := JJL9) (z := 398) (o := 110) (t := 1) (q := ct_M_couldL9) (as := [.inl x0, .inl x1, .inl x2, .inl x3]) (ds := [T32, T32, T32, T32, [(0, 200)], [(0, 200)]]) (ks := [(110, 8), (5, 2)]) (KS := KS) (all_ctL9 398 _ rfl) (show pubOk ct_M_couldL9 110 [false, false, false, false] [T32, T32, T32, T32, [(0, 200)], [(0, 200)]] [(110, 8), (5, 2)] = true by decide +kernel) ⟨in32 _, in32 _, in32 _, in32 _, r0 v3 (k := (110, 8)) (by decide), r0 v3 (k := (5, 2)) (by decide), trivial⟩ (by decide +kernel) v4).mono (fun v' σ2 hw => ?_)
  obtain ⟨w1, w2, w3, w4, w5⟩ := hw
  exact ⟨w1 rfl, w4, w3, (h.2.2.keepL9 (q := ct_H_couldL9) (by decide +kernel) v5).keepL9 (q := ct_M_couldL9) (by decide +kernel) w5⟩
end
