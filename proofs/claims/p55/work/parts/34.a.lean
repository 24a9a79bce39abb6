noncomputable section
/-! ===== the law's calls ===== -/
noncomputable def KS : List (Nat × Nat) := [(5, 2), (110, 8)]
/-- places that hold the same on both sides -/
noncomputable def EQS : List ((Nat × Nat) × (Nat × Nat)) := []
noncomputable def Eqs (l : List ((Nat × Nat) × (Nat × Nat))) (σ : zS) : Prop := ∀ e ∈ l, fz σ e.1 = fz σ e.2
noncomputable def eqsB : Bool := EQS.all fun e => (σ00.1 e.1.1 e.1.2).toInt == (σ00.1 e.2.1 e.2.2).toInt
noncomputable def J0 (σ : zS) : Prop := JJ [] σ ∧ (∀ k ∈ KS, 0 ≤ fz σ k ∧ fz σ k ≤ 200) ∧ Eqs EQS σ
theorem J0_00 : J0 σ00 := by
  refine ⟨fresh_J, ?_, fun e he => ?_⟩
  · intro k hk
    rcases List.mem_cons.mp hk with rfl | hk
    · decide +kernel
    rcases List.mem_cons.mp hk with rfl | hk
    · decide +kernel
    cases hk
  · exact eq_of_beq (List.all_eq_true.mp (show eqsB = true by decide +kernel) e he)
noncomputable def eqOk (l : List ((Nat × Nat) × (Nat × Nat))) (q : Ct) : Bool := l.all fun e => !(isS (q.w.get (GX.g.key e.1.1 e.1.2))) && !(isS (q.w.get (GX.g.key e.2.1 e.2.2)))
theorem Eqs.keep {l : List ((Nat × Nat) × (Nat × Nat))} {q : Ct} {σ σ' : zS} (e : Eqs l σ) (h : eqOk l q = true) (hf : ∀ k j, isS (q.w.get (GX.g.key k j)) = false → σ'.1 k j = σ.1 k j) : Eqs l σ' := by
  intro x hx
  have h1 := List.all_eq_true.mp h x hx
  rw [Bool.and_eq_true, Bool.not_eq_true', Bool.not_eq_true'] at h1
  show (σ'.1 x.1.1 x.1.2).toInt = (σ'.1 x.2.1 x.2.2).toInt
  rw [hf _ _ h1.1, hf _ _ h1.2]
  exact e x hx
theorem Eqs.sub {l m : List ((Nat × Nat) × (Nat × Nat))} {σ : zS} (e : Eqs l σ) (h : (m.all fun x => l.any fun y => x == y) = true) : Eqs m σ := fun x hx => by
  obtain ⟨y, h1, h2⟩ := List.any_eq_true.mp (List.all_eq_true.mp h x hx)
  rw [eq_of_beq h2]
  exact e y h1
theorem Eqs.two {l m n : List ((Nat × Nat) × (Nat × Nat))} {σ : zS} (e1 : Eqs l σ) (e2 : Eqs m σ) (h : (n.all fun x => (l ++ m).any fun y => x == y) = true) : Eqs n σ := fun x hx => by
  obtain ⟨y, h1, h2⟩ := List.any_eq_true.mp (List.all_eq_true.mp h x hx)
  rw [eq_of_beq h2]
  rcases List.mem_append.mp h1 with h1 | h1
  · exact e1 y h1
  · exact e2 y h1
theorem Eqs.nil {σ : zS} : Eqs [] σ := fun x hx => by cases hx
theorem Eqs.cons {σ : zS} {x : (Nat × Nat) × (Nat × Nat)} {l : List ((Nat × Nat) × (Nat × Nat))} (h : fz σ x.1 = fz σ x.2) (e : Eqs l σ) : Eqs (x :: l) σ := fun y hy => by
  rcases List.mem_cons.mp hy with rfl | hy
  · exact h
  · exact e y hy
theorem r0 {σ : zS} (h : ∀ k ∈ KS, 0 ≤ fz σ k ∧ fz σ k ≤ 200) {k : Nat × Nat} (hk : k ∈ KS) : inD (Arg.i (.inl (σ.1 k.1 k.2))) [(0, 200)] := ⟨_, List.mem_cons_self .., (h k hk).1, (h k hk).2⟩
/-- bounds of a field, of a row's place -/
noncomputable def bdIn (k j : Nat) (d : Dom) : Bool := (match GG.ka.get k with
  | none => Nat.blt j 1024
  | some e => Nat.blt j e.2) && dsub (TJ.bd GG k j) d
theorem fld_in {σ : zS} (h : JJ [] σ) {k j : Nat} {d : Dom} (hb : bdIn k j d = true) : inD (σ.1 k j).toInt d := by
  unfold bdIn at hb
  rw [Bool.and_eq_true] at hb
  refine dsub_in hb.2 (h.1 k j ?_)
  have hb1 := hb.1
  cases hk : GG.ka.get k with
  | none =>
    rw [hk] at hb1
    exact Or.inl ⟨hk, Nat.le_of_ble_eq_true hb1⟩
  | some e =>
    rw [hk] at hb1
    exact Or.inr ⟨e.1, e.2, hk, Nat.le_of_ble_eq_true hb1⟩
theorem LC_0_ok {E : xV} {σ : zS} (h : J0 σ) : LC_0 E σ J0 := by
  intro x0 x1
  refine (pub_call (E := E) (Y := Yf) (G := GX) (J := JJ) (z := 1) (o := 0) (t := 1) (q := ct_H_feed) (as := [.inl x0, .inr x1]) (ds := [T32, T64, [(0, 200)], [(0, 200)]]) (ks := [(110, 8), (5, 2)]) (KS := KS) (all_ct 1 _ rfl) (show pubOk ct_H_feed 0 [false, true] [T32, T64, [(0, 200)], [(0, 200)]] [(110, 8), (5, 2)] = true by decide +kernel) ⟨in32 _, in64 _, r0 h.2.1 (k := (110, 8)) (by decide), r0 h.2.1 (k := (5, 2)) (by decide), trivial⟩ (by decide +kernel) h.1).mono (fun v σ1 hv => ?_)
  obtain ⟨v1, v2, v3, v4, v5⟩ := hv
  obtain ⟨r, hr⟩ := v1 rfl
  refine ⟨r, hr, ?_⟩
  refine (pub_call (E := E) (Y := Yf) (G := GX) (J := JJ) (z := 302) (o := 110) (t := 1) (q := ct_M_feed) (as := [.inl x0, .inr x1]) (ds := [T32, T64, [(0, 200)], [(0, 200)]]) (ks := [(110, 8), (5, 2)]) (KS := KS) (all_ct 302 _ rfl) (show pubOk ct_M_feed 110 [false, true] [T32, T64, [(0, 200)], [(0, 200)]] [(110, 8), (5, 2)] = true by decide +kernel) ⟨in32 _, in64 _, r0 v3 (k := (110, 8)) (by decide), r0 v3 (k := (5, 2)) (by decide), trivial⟩ (by decide +kernel) v4).mono (fun v' σ2 hw => ?_)
  obtain ⟨w1, w2, w3, w4, w5⟩ := hw
  exact ⟨w1 rfl, w4, w3, (h.2.2.keep (q := ct_H_feed) (by decide +kernel) v5).keep (q := ct_M_feed) (by decide +kernel) w5⟩
theorem LC_1_ok {E : xV} {σ : zS} (h : J0 σ) : LC_1 E σ J0 := by
  intro x0
  refine (pub_call (E := E) (Y := Yf) (G := GX) (J := JJ) (z := 2) (o := 0) (t := 1) (q := ct_H_cut) (as := [.inl x0]) (ds := [T32, [(0, 200)], [(0, 200)]]) (ks := [(110, 8), (5, 2)]) (KS := KS) (all_ct 2 _ rfl) (show pubOk ct_H_cut 0 [false] [T32, [(0, 200)], [(0, 200)]] [(110, 8), (5, 2)] = true by decide +kernel) ⟨in32 _, r0 h.2.1 (k := (110, 8)) (by decide), r0 h.2.1 (k := (5, 2)) (by decide), trivial⟩ (by decide +kernel) h.1).mono (fun v σ1 hv => ?_)
  obtain ⟨v1, v2, v3, v4, v5⟩ := hv
  obtain ⟨r, hr⟩ := v1 rfl
  refine ⟨r, hr, ?_⟩
  refine (pub_call (E := E) (Y := Yf) (G := GX) (J := JJ) (z := 303) (o := 110) (t := 1) (q := ct_M_cut) (as := [.inl x0]) (ds := [T32, [(0, 200)], [(0, 200)]]) (ks := [(110, 8), (5, 2)]) (KS := KS) (all_ct 303 _ rfl) (show pubOk ct_M_cut 110 [false] [T32, [(0, 200)], [(0, 200)]] [(110, 8), (5, 2)] = true by decide +kernel) ⟨in32 _, r0 v3 (k := (110, 8)) (by decide), r0 v3 (k := (5, 2)) (by decide), trivial⟩ (by decide +kernel) v4).mono (fun v' σ2 hw => ?_)
  obtain ⟨w1, w2, w3, w4, w5⟩ := hw
  exact ⟨w1 rfl, w4, w3, (h.2.2.keep (q := ct_H_cut) (by decide +kernel) v5).keep (q := ct_M_cut) (by decide +kernel) w5⟩
theorem LC_4_ok {E : xV} {σ : zS} (h : J0 σ) : LC_4 E σ J0 := by
  refine (pub_call (E := E) (Y := Yf) (G := GX) (J := JJ) (z := 8) (o := 0) (t := 1) (q := ct_H_group) (as := []) (ds := [[(0, 200)], [(0, 200)]]) (ks := [(110, 8), (5, 2)]) (KS := KS) (all_ct 8 _ rfl) (show pubOk ct_H_group 0 [] [[(0, 200)], [(0, 200)]] [(110, 8), (5, 2)] = true by decide +kernel) ⟨r0 h.2.1 (k := (110, 8)) (by decide), r0 h.2.1 (k := (5, 2)) (by decide), trivial⟩ (by decide +kernel) h.1).mono (fun v σ1 hv => ?_)
  obtain ⟨v1, v2, v3, v4, v5⟩ := hv
  obtain ⟨r, hr⟩ := v1 rfl
  refine ⟨r, hr, ?_⟩
  refine (pub_call (E := E) (Y := Yf) (G := GX) (J := JJ) (z := 313) (o := 110) (t := 1) (q := ct_M_group) (as := []) (ds := [[(0, 200)], [(0, 200)]]) (ks := [(110, 8), (5, 2)]) (KS := KS) (all_ct 313 _ rfl) (show pubOk ct_M_group 110 [] [[(0, 200)], [(0, 200)]] [(110, 8), (5, 2)] = true by decide +kernel) ⟨r0 v3 (k := (110, 8)) (by decide), r0 v3 (k := (5, 2)) (by decide), trivial⟩ (by decide +kernel) v4).mono (fun v' σ2 hw => ?_)
  obtain ⟨w1, w2, w3, w4, w5⟩ := hw
  exact ⟨w1 rfl, w4, w3, (h.2.2.keep (q := ct_H_group) (by decide +kernel) v5).keep (q := ct_M_group) (by decide +kernel) w5⟩
theorem LC_5_ok {E : xV} {σ : zS} (h : J0 σ) : LC_5 E σ J0 := by
  intro x0 x1 x2 x3
  refine (pub_call (E := E) (Y := Yf) (G := GX) (J := JJ) (z := 18) (o := 0) (t := 1) (q := ct_H_put) (as := [.inl x0, .inl x1, .inl x2, .inl x3]) (ds := [T32, T32, T32, T32, [(0, 200)], [(0, 200)]]) (ks := [(110, 8), (5, 2)]) (KS := KS) (all_ct 18 _ rfl) (show pubOk ct_H_put 0 [false, false, false, false] [T32, T32, T32, T32, [(0, 200)], [(0, 200)]] [(110, 8), (5, 2)] = true by decide +kernel) ⟨in32 _, in32 _, in32 _, in32 _, r0 h.2.1 (k := (110, 8)) (by decide), r0 h.2.1 (k := (5, 2)) (by decide), trivial⟩ (by decide +kernel) h.1).mono (fun v σ1 hv => ?_)
  obtain ⟨v1, v2, v3, v4, v5⟩ := hv
  obtain ⟨r, hr⟩ := v1 rfl
  refine ⟨r, hr, ?_⟩
  refine (pub_call (E := E) (Y := Yf) (G := GX) (J := JJ) (z := 321) (o := 110) (t := 1) (q := ct_M_put) (as := [.inl x0, .inl x1, .inl x2, .inl x3]) (ds := [T32, T32, T32, T32, [(0, 200)], [(0, 200)]]) (ks := [(110, 8), (5, 2)]) (KS := KS) (all_ct 321 _ rfl) (show pubOk ct_M_put 110 [false, false, false, false] [T32, T32, T32, T32, [(0, 200)], [(0, 200)]] [(110, 8), (5, 2)] = true by decide +kernel) ⟨in32 _, in32 _, in32 _, in32 _, r0 v3 (k := (110, 8)) (by decide), r0 v3 (k := (5, 2)) (by decide), trivial⟩ (by decide +kernel) v4).mono (fun v' σ2 hw => ?_)
  obtain ⟨w1, w2, w3, w4, w5⟩ := hw
  exact ⟨w1 rfl, w4, w3, (h.2.2.keep (q := ct_H_put) (by decide +kernel) v5).keep (q := ct_M_put) (by decide +kernel) w5⟩
theorem LC_6_ok {E : xV} {σ : zS} (h : J0 σ) : LC_6 E σ J0 := by
  intro x0
  refine (pub_call (E := E) (Y := Yf) (G := GX) (J := JJ) (z := 20) (o := 0) (t := 1) (q := ct_H_back) (as := [.inl x0]) (ds := [T32, [(0, 200)], [(0, 200)]]) (ks := [(110, 8), (5, 2)]) (KS := KS) (all_ct 20 _ rfl) (show pubOk ct_H_back 0 [false] [T32, [(0, 200)], [(0, 200)]] [(110, 8), (5, 2)] = true by decide +kernel) ⟨in32 _, r0 h.2.1 (k := (110, 8)) (by decide), r0 h.2.1 (k := (5, 2)) (by decide), trivial⟩ (by decide +kernel) h.1).mono (fun v σ1 hv => ?_)
  obtain ⟨v1, v2, v3, v4, v5⟩ := hv
  obtain ⟨r, hr⟩ := v1 rfl
  refine ⟨r, hr, ?_⟩
  refine (pub_call (E := E) (Y := Yf) (G := GX) (J := JJ) (z := 322) (o := 110) (t := 1) (q := ct_M_back) (as := [.inl x0]) (ds := [T32, [(0, 200)], [(0, 200)]]) (ks := [(110, 8), (5, 2)]) (KS := KS) (all_ct 322 _ rfl) (show pubOk ct_M_back 110 [false] [T32, [(0, 200)], [(0, 200)]] [(110, 8), (5, 2)] = true by decide +kernel) ⟨in32 _, r0 v3 (k := (110, 8)) (by decide), r0 v3 (k := (5, 2)) (by decide), trivial⟩ (by decide +kernel) v4).mono (fun v' σ2 hw => ?_)
  obtain ⟨w1, w2, w3, w4, w5⟩ := hw
  exact ⟨w1 rfl, w4, w3, (h.2.2.keep (q := ct_H_back) (by decide +kernel) v5).keep (q := ct_M_back) (by decide +kernel) w5⟩
theorem LC_7_ok {E : xV} {σ : zS} (h : J0 σ) : LC_7 E σ J0 := by
  intro x0 x1 x2 x3
  refine (pub_call (E := E) (Y := Yf) (G := GX) (J := JJ) (z := 22) (o := 0) (t := 1) (q := ct_H_belongs) (as := [.inl x0, .inl x1, .inl x2, .inl x3]) (ds := [T32, T32, T32, T32, [(0, 200)], [(0, 200)]]) (ks := [(110, 8), (5, 2)]) (KS := KS) (all_ct 22 _ rfl) (show pubOk ct_H_belongs 0 [false, false, false, false] [T32, T32, T32, T32, [(0, 200)], [(0, 200)]] [(110, 8), (5, 2)] = true by decide +kernel) ⟨in32 _, in32 _, in32 _, in32 _, r0 h.2.1 (k := (110, 8)) (by decide), r0 h.2.1 (k := (5, 2)) (by decide), trivial⟩ (by decide +kernel) h.1).mono (fun v σ1 hv => ?_)
  obtain ⟨v1, v2, v3, v4, v5⟩ := hv
  obtain ⟨r, hr⟩ := v1 rfl
  refine ⟨r, hr, ?_⟩
  refine (pub_call (E := E) (Y := Yf) (G := GX) (J := JJ) (z := 323) (o := 110) (t := 1) (q := ct_M_belongs) (as := [.inl x0, .inl x1, .inl x2, .inl x3]) (ds := [T32, T32, T32, T32, [(0, 200)], [(0, 200)]]) (ks := [(110, 8), (5, 2)]) (KS := KS) (all_ct 323 _ rfl) (show pubOk ct_M_belongs 110 [false, false, false, false] [T32, T32, T32, T32, [(0, 200)], [(0, 200)]] [(110, 8), (5, 2)] = true by decide +kernel) ⟨in32 _, in32 _, in32 _, in32 _, r0 v3 (k := (110, 8)) (by decide), r0 v3 (k := (5, 2)) (by decide), trivial⟩ (by decide +kernel) v4).mono (fun v' σ2 hw => ?_)
  obtain ⟨w1, w2, w3, w4, w5⟩ := hw
  exact ⟨w1 rfl, w4, w3, (h.2.2.keep (q := ct_H_belongs) (by decide +kernel) v5).keep (q := ct_M_belongs) (by decide +kernel) w5⟩
theorem LC_8_ok {E : xV} {σ : zS} (h : J0 σ) : LC_8 E σ J0 := by
  intro x0 x1
  refine (pub_call (E := E) (Y := Yf) (G := GX) (J := JJ) (z := 23) (o := 0) (t := 1) (q := ct_H_rowOf) (as := [.inl x0, .inl x1]) (ds := [T32, T32, [(0, 200)], [(0, 200)]]) (ks := [(110, 8), (5, 2)]) (KS := KS) (all_ct 23 _ rfl) (show pubOk ct_H_rowOf 0 [false, false] [T32, T32, [(0, 200)], [(0, 200)]] [(110, 8), (5, 2)] = true by decide +kernel) ⟨in32 _, in32 _, r0 h.2.1 (k := (110, 8)) (by decide), r0 h.2.1 (k := (5, 2)) (by decide), trivial⟩ (by decide +kernel) h.1).mono (fun v σ1 hv => ?_)
  obtain ⟨v1, v2, v3, v4, v5⟩ := hv
  obtain ⟨r, hr⟩ := v1 rfl
  refine ⟨r, hr, ?_⟩
  refine (pub_call (E := E) (Y := Yf) (G := GX) (J := JJ) (z := 324) (o := 110) (t := 1) (q := ct_M_rowOf) (as := [.inl x0, .inl x1]) (ds := [T32, T32, [(0, 200)], [(0, 200)]]) (ks := [(110, 8), (5, 2)]) (KS := KS) (all_ct 324 _ rfl) (show pubOk ct_M_rowOf 110 [false, false] [T32, T32, [(0, 200)], [(0, 200)]] [(110, 8), (5, 2)] = true by decide +kernel) ⟨in32 _, in32 _, r0 v3 (k := (110, 8)) (by decide), r0 v3 (k := (5, 2)) (by decide), trivial⟩ (by decide +kernel) v4).mono (fun v' σ2 hw => ?_)
  obtain ⟨w1, w2, w3, w4, w5⟩ := hw
  exact ⟨w1 rfl, w4, w3, (h.2.2.keep (q := ct_H_rowOf) (by decide +kernel) v5).keep (q := ct_M_rowOf) (by decide +kernel) w5⟩
theorem LC_9_ok {E : xV} {σ : zS} (h : J0 σ) : LC_9 E σ J0 := by
  intro x0 x1 x2 x3
  refine (pub_call (E := E) (Y := Yf) (G := GX) (J := JJ) (z := 29) (o := 0) (t := 1) (q := ct_H_feature) (as := [.inl x0, .inl x1, .inl x2, .inl x3]) (ds := [T32, T32, T32, T32, [(0, 200)], [(0, 200)]]) (ks := [(110, 8), (5, 2)]) (KS := KS) (all_ct 29 _ rfl) (show pubOk ct_H_feature 0 [false, false, false, false] [T32, T32, T32, T32, [(0, 200)], [(0, 200)]] [(110, 8), (5, 2)] = true by decide +kernel) ⟨in32 _, in32 _, in32 _, in32 _, r0 h.2.1 (k := (110, 8)) (by decide), r0 h.2.1 (k := (5, 2)) (by decide), trivial⟩ (by decide +kernel) h.1).mono (fun v σ1 hv => ?_)
  obtain ⟨v1, v2, v3, v4, v5⟩ := hv
  obtain ⟨r, hr⟩ := v1 rfl
  refine ⟨r, hr, ?_⟩
  refine (pub_call (E := E) (Y := Yf) (G := GX) (J := JJ) (z := 327) (o := 110) (t := 1) (q := ct_M_feature) (as := [.inl x0, .inl x1, .inl x2, .inl x3]) (ds := [T32, T32, T32, T32, [(0, 200)], [(0, 200)]]) (ks := [(110, 8), (5, 2)]) (KS := KS) (all_ct 327 _ rfl) (show pubOk ct_M_feature 110 [false, false, false, false] [T32, T32, T32, T32, [(0, 200)], [(0, 200)]] [(110, 8), (5, 2)] = true by decide +kernel) ⟨in32 _, in32 _, in32 _, in32 _, r0 v3 (k := (110, 8)) (by decide), r0 v3 (k := (5, 2)) (by decide), trivial⟩ (by decide +kernel) v4).mono (fun v' σ2 hw => ?_)
  obtain ⟨w1, w2, w3, w4, w5⟩ := hw
  exact ⟨w1 rfl, w4, w3, (h.2.2.keep (q := ct_H_feature) (by decide +kernel) v5).keep (q := ct_M_feature) (by decide +kernel) w5⟩
theorem LC_10_ok {E : xV} {σ : zS} (h : J0 σ) : LC_10 E σ J0 := by
  intro x0 x1 x2 x3
  refine (pub_call (E := E) (Y := Yf) (G := GX) (J := JJ) (z := 32) (o := 0) (t := 1) (q := ct_H_item) (as := [.inl x0, .inl x1, .inl x2, .inr x3]) (ds := [T32, T32, T32, T64, [(0, 200)], [(0, 200)]]) (ks := [(110, 8), (5, 2)]) (KS := KS) (all_ct 32 _ rfl) (show pubOk ct_H_item 0 [false, false, false, true] [T32, T32, T32, T64, [(0, 200)], [(0, 200)]] [(110, 8), (5, 2)] = true by decide +kernel) ⟨in32 _, in32 _, in32 _, in64 _, r0 h.2.1 (k := (110, 8)) (by decide), r0 h.2.1 (k := (5, 2)) (by decide), trivial⟩ (by decide +kernel) h.1).mono (fun v σ1 hv => ?_)
  obtain ⟨v1, v2, v3, v4, v5⟩ := hv
  obtain ⟨r, hr⟩ := v1 rfl
  refine ⟨r, hr, ?_⟩
  refine (pub_call (E := E) (Y := Yf) (G := GX) (J := JJ) (z := 328) (o := 110) (t := 1) (q := ct_M_item) (as := [.inl x0, .inl x1, .inl x2, .inr x3]) (ds := [T32, T32, T32, T64, [(0, 200)], [(0, 200)]]) (ks := [(110, 8), (5, 2)]) (KS := KS) (all_ct 328 _ rfl) (show pubOk ct_M_item 110 [false, false, false, true] [T32, T32, T32, T64, [(0, 200)], [(0, 200)]] [(110, 8), (5, 2)] = true by decide +kernel) ⟨in32 _, in32 _, in32 _, in64 _, r0 v3 (k := (110, 8)) (by decide), r0 v3 (k := (5, 2)) (by decide), trivial⟩ (by decide +kernel) v4).mono (fun v' σ2 hw => ?_)
  obtain ⟨w1, w2, w3, w4, w5⟩ := hw
  exact ⟨w1 rfl, w4, w3, (h.2.2.keep (q := ct_H_item) (by decide +kernel) v5).keep (q := ct_M_item) (by decide +kernel) w5⟩
theorem LC_11_ok {E : xV} {σ : zS} (h : J0 σ) : LC_11 E σ J0 := by
  intro x0 x1 x2 x3
  refine (pub_call (E := E) (Y := Yf) (G := GX) (J := JJ) (z := 33) (o := 0) (t := 3) (q := ct_H_itemOf) (as := [.inl x0, .inl x1, .inl x2, .inl x3]) (ds := [T32, T32, T32, T32, [(0, 200)], [(0, 200)]]) (ks := [(110, 8), (5, 2)]) (KS := KS) (all_ct 33 _ rfl) (show pubOk ct_H_itemOf 0 [false, false, false, false] [T32, T32, T32, T32, [(0, 200)], [(0, 200)]] [(110, 8), (5, 2)] = true by decide +kernel) ⟨in32 _, in32 _, in32 _, in32 _, r0 h.2.1 (k := (110, 8)) (by decide), r0 h.2.1 (k := (5, 2)) (by decide), trivial⟩ (by decide +kernel) h.1).mono (fun v σ1 hv => ?_)
  obtain ⟨v1, v2, v3, v4, v5⟩ := hv
  obtain ⟨r, hr⟩ := v2 rfl
  refine ⟨r, hr, ?_⟩
  refine (pub_call (E := E) (Y := Yf) (G := GX) (J := JJ) (z := 329) (o := 110) (t := 3) (q := ct_M_itemOf) (as := [.inl x0, .inl x1, .inl x2, .inl x3]) (ds := [T32, T32, T32, T32, [(0, 200)], [(0, 200)]]) (ks := [(110, 8), (5, 2)]) (KS := KS) (all_ct 329 _ rfl) (show pubOk ct_M_itemOf 110 [false, false, false, false] [T32, T32, T32, T32, [(0, 200)], [(0, 200)]] [(110, 8), (5, 2)] = true by decide +kernel) ⟨in32 _, in32 _, in32 _, in32 _, r0 v3 (k := (110, 8)) (by decide), r0 v3 (k := (5, 2)) (by decide), trivial⟩ (by decide +kernel) v4).mono (fun v' σ2 hw => ?_)
  obtain ⟨w1, w2, w3, w4, w5⟩ := hw
  exact ⟨w2 rfl, w4, w3, (h.2.2.keep (q := ct_H_itemOf) (by decide +kernel) v5).keep (q := ct_M_itemOf) (by decide +kernel) w5⟩
theorem LC_12_ok {E : xV} {σ : zS} (h : J0 σ) : LC_12 E σ J0 := by
  intro x0 x1 x2 x3 x4 x5 x6
  refine (pub_call (E := E) (Y := Yf) (G := GX) (J := JJ) (z := 35) (o := 0) (t := 1) (q := ct_H_copy) (as := [.inl x0, .inl x1, .inl x2, .inl x3, .inl x4, .inl x5, .inl x6]) (ds := [T32, T32, T32, T32, T32, T32, T32, [(0, 200)], [(0, 200)]]) (ks := [(110, 8), (5, 2)]) (KS := KS) (all_ct 35 _ rfl) (show pubOk ct_H_copy 0 [false, false, false, false, false, false, false] [T32, T32, T32, T32, T32, T32, T32, [(0, 200)], [(0, 200)]] [(110, 8), (5, 2)] = true by decide +kernel) ⟨in32 _, in32 _, in32 _, in32 _, in32 _, in32 _, in32 _, r0 h.2.1 (k := (110, 8)) (by decide), r0 h.2.1 (k := (5, 2)) (by decide), trivial⟩ (by decide +kernel) h.1).mono (fun v σ1 hv => ?_)
  obtain ⟨v1, v2, v3, v4, v5⟩ := hv
  obtain ⟨r, hr⟩ := v1 rfl
  refine ⟨r, hr, ?_⟩
  refine (pub_call (E := E) (Y := Yf) (G := GX) (J := JJ) (z := 330) (o := 110) (t := 1) (q := ct_M_copy) (as := [.inl x0, .inl x1, .inl x2, .inl x3, .inl x4, .inl x5, .inl x6]) (ds := [T32, T32, T32, T32, T32, T32, T32, [(0, 200)], [(0, 200)]]) (ks := [(110, 8), (5, 2)]) (KS := KS) (all_ct 330 _ rfl) (show pubOk ct_M_copy 110 [false, false, false, false, false, false, false] [T32, T32, T32, T32, T32, T32, T32, [(0, 200)], [(0, 200)]] [(110, 8), (5, 2)] = true by decide +kernel) ⟨in32 _, in32 _, in32 _, in32 _, in32 _, in32 _, in32 _, r0 v3 (k := (110, 8)) (by decide), r0 v3 (k := (5, 2)) (by decide), trivial⟩ (by decide +kernel) v4).mono (fun v' σ2 hw => ?_)
  obtain ⟨w1, w2, w3, w4, w5⟩ := hw
  exact ⟨w1 rfl, w4, w3, (h.2.2.keep (q := ct_H_copy) (by decide +kernel) v5).keep (q := ct_M_copy) (by decide +kernel) w5⟩
theorem LC_17_ok {E : xV} {σ : zS} (h : J0 σ) : LC_17 E σ J0 := by
  intro x0 x1
  refine (pub_call (E := E) (Y := Yf) (G := GX) (J := JJ) (z := 44) (o := 0) (t := 1) (q := ct_H_thingOf) (as := [.inl x0, .inl x1]) (ds := [T32, T32, [(0, 200)], [(0, 200)]]) (ks := [(110, 8), (5, 2)]) (KS := KS) (all_ct 44 _ rfl) (show pubOk ct_H_thingOf 0 [false, false] [T32, T32, [(0, 200)], [(0, 200)]] [(110, 8), (5, 2)] = true by decide +kernel) ⟨in32 _, in32 _, r0 h.2.1 (k := (110, 8)) (by decide), r0 h.2.1 (k := (5, 2)) (by decide), trivial⟩ (by decide +kernel) h.1).mono (fun v σ1 hv => ?_)
  obtain ⟨v1, v2, v3, v4, v5⟩ := hv
  obtain ⟨r, hr⟩ := v1 rfl
  refine ⟨r, hr, ?_⟩
  refine (pub_call (E := E) (Y := Yf) (G := GX) (J := JJ) (z := 338) (o := 110) (t := 1) (q := ct_M_thingOf) (as := [.inl x0, .inl x1]) (ds := [T32, T32, [(0, 200)], [(0, 200)]]) (ks := [(110, 8), (5, 2)]) (KS := KS) (all_ct 338 _ rfl) (show pubOk ct_M_thingOf 110 [false, false] [T32, T32, [(0, 200)], [(0, 200)]] [(110, 8), (5, 2)] = true by decide +kernel) ⟨in32 _, in32 _, r0 v3 (k := (110, 8)) (by decide), r0 v3 (k := (5, 2)) (by decide), trivial⟩ (by decide +kernel) v4).mono (fun v' σ2 hw => ?_)
  obtain ⟨w1, w2, w3, w4, w5⟩ := hw
  exact ⟨w1 rfl, w4, w3, (h.2.2.keep (q := ct_H_thingOf) (by decide +kernel) v5).keep (q := ct_M_thingOf) (by decide +kernel) w5⟩
theorem LC_18_ok {E : xV} {σ : zS} (h : J0 σ) : LC_18 E σ J0 := by
  intro x0 x1
  refine (pub_call (E := E) (Y := Yf) (G := GX) (J := JJ) (z := 46) (o := 0) (t := 1) (q := ct_H_under) (as := [.inl x0, .inl x1]) (ds := [T32, T32, [(0, 200)], [(0, 200)]]) (ks := [(110, 8), (5, 2)]) (KS := KS) (all_ct 46 _ rfl) (show pubOk ct_H_under 0 [false, false] [T32, T32, [(0, 200)], [(0, 200)]] [(110, 8), (5, 2)] = true by decide +kernel) ⟨in32 _, in32 _, r0 h.2.1 (k := (110, 8)) (by decide), r0 h.2.1 (k := (5, 2)) (by decide), trivial⟩ (by decide +kernel) h.1).mono (fun v σ1 hv => ?_)
  obtain ⟨v1, v2, v3, v4, v5⟩ := hv
  obtain ⟨r, hr⟩ := v1 rfl
  refine ⟨r, hr, ?_⟩
  refine (pub_call (E := E) (Y := Yf) (G := GX) (J := JJ) (z := 340) (o := 110) (t := 1) (q := ct_M_under) (as := [.inl x0, .inl x1]) (ds := [T32, T32, [(0, 200)], [(0, 200)]]) (ks := [(110, 8), (5, 2)]) (KS := KS) (all_ct 340 _ rfl) (show pubOk ct_M_under 110 [false, false] [T32, T32, [(0, 200)], [(0, 200)]] [(110, 8), (5, 2)] = true by decide +kernel) ⟨in32 _, in32 _, r0 v3 (k := (110, 8)) (by decide), r0 v3 (k := (5, 2)) (by decide), trivial⟩ (by decide +kernel) v4).mono (fun v' σ2 hw => ?_)
  obtain ⟨w1, w2, w3, w4, w5⟩ := hw
  exact ⟨w1 rfl, w4, w3, (h.2.2.keep (q := ct_H_under) (by decide +kernel) v5).keep (q := ct_M_under) (by decide +kernel) w5⟩
theorem LC_20_ok {E : xV} {σ : zS} (h : J0 σ) : LC_20 E σ J0 := by
  intro x0 x1
  refine (pub_call (E := E) (Y := Yf) (G := GX) (J := JJ) (z := 51) (o := 0) (t := 1) (q := ct_H_doesHold) (as := [.inl x0, .inl x1]) (ds := [T32, T32, [(0, 200)], [(0, 200)]]) (ks := [(110, 8), (5, 2)]) (KS := KS) (all_ct 51 _ rfl) (show pubOk ct_H_doesHold 0 [false, false] [T32, T32, [(0, 200)], [(0, 200)]] [(110, 8), (5, 2)] = true by decide +kernel) ⟨in32 _, in32 _, r0 h.2.1 (k := (110, 8)) (by decide), r0 h.2.1 (k := (5, 2)) (by decide), trivial⟩ (by decide +kernel) h.1).mono (fun v σ1 hv => ?_)
  obtain ⟨v1, v2, v3, v4, v5⟩ := hv
  obtain ⟨r, hr⟩ := v1 rfl
  refine ⟨r, hr, ?_⟩
  refine (pub_call (E := E) (Y := Yf) (G := GX) (J := JJ) (z := 344) (o := 110) (t := 1) (q := ct_M_doesHold) (as := [.inl x0, .inl x1]) (ds := [T32, T32, [(0, 200)], [(0, 200)]]) (ks := [(110, 8), (5, 2)]) (KS := KS) (all_ct 344 _ rfl) (show pubOk ct_M_doesHold 110 [false, false] [T32, T32, [(0, 200)], [(0, 200)]] [(110, 8), (5, 2)] = true by decide +kernel) ⟨in32 _, in32 _, r0 v3 (k := (110, 8)) (by decide), r0 v3 (k := (5, 2)) (by decide), trivial⟩ (by decide +kernel) v4).mono (fun v' σ2 hw => ?_)
  obtain ⟨w1, w2, w3, w4, w5⟩ := hw
  exact ⟨w1 rfl, w4, w3, (h.2.2.keep (q := ct_H_doesHold) (by decide +kernel) v5).keep (q := ct_M_doesHold) (by decide +kernel) w5⟩
theorem LC_21_ok {E : xV} {σ : zS} (h : J0 σ) : LC_21 E σ J0 := by
  intro x0
  refine (pub_call (E := E) (Y := Yf) (G := GX) (J := JJ) (z := 105) (o := 0) (t := 1) (q := ct_H_policy) (as := [.inl x0]) (ds := [T32, [(0, 200)], [(0, 200)]]) (ks := [(110, 8), (5, 2)]) (KS := KS) (all_ct 105 _ rfl) (show pubOk ct_H_policy 0 [false] [T32, [(0, 200)], [(0, 200)]] [(110, 8), (5, 2)] = true by decide +kernel) ⟨in32 _, r0 h.2.1 (k := (110, 8)) (by decide), r0 h.2.1 (k := (5, 2)) (by decide), trivial⟩ (by decide +kernel) h.1).mono (fun v σ1 hv => ?_)
  obtain ⟨v1, v2, v3, v4, v5⟩ := hv
  obtain ⟨r, hr⟩ := v1 rfl
  refine ⟨r, hr, ?_⟩
  refine (pub_call (E := E) (Y := Yf) (G := GX) (J := JJ) (z := 375) (o := 110) (t := 1) (q := ct_M_policy) (as := [.inl x0]) (ds := [T32, [(0, 200)], [(0, 200)]]) (ks := [(110, 8), (5, 2)]) (KS := KS) (all_ct 375 _ rfl) (show pubOk ct_M_policy 110 [false] [T32, [(0, 200)], [(0, 200)]] [(110, 8), (5, 2)] = true by decide +kernel) ⟨in32 _, r0 v3 (k := (110, 8)) (by decide), r0 v3 (k := (5, 2)) (by decide), trivial⟩ (by decide +kernel) v4).mono (fun v' σ2 hw => ?_)
  obtain ⟨w1, w2, w3, w4, w5⟩ := hw
  exact ⟨w1 rfl, w4, w3, (h.2.2.keep (q := ct_H_policy) (by decide +kernel) v5).keep (q := ct_M_policy) (by decide +kernel) w5⟩
theorem LC_22_ok {E : xV} {σ : zS} (h : J0 σ) : LC_22 E σ J0 := by
  intro x0
  refine (pub_call (E := E) (Y := Yf) (G := GX) (J := JJ) (z := 106) (o := 0) (t := 1) (q := ct_H_rules) (as := [.inl x0]) (ds := [T32, [(0, 200)], [(0, 200)]]) (ks := [(110, 8), (5, 2)]) (KS := KS) (all_ct 106 _ rfl) (show pubOk ct_H_rules 0 [false] [T32, [(0, 200)], [(0, 200)]] [(110, 8), (5, 2)] = true by decide +kernel) ⟨in32 _, r0 h.2.1 (k := (110, 8)) (by decide), r0 h.2.1 (k := (5, 2)) (by decide), trivial⟩ (by decide +kernel) h.1).mono (fun v σ1 hv => ?_)
  obtain ⟨v1, v2, v3, v4, v5⟩ := hv
  obtain ⟨r, hr⟩ := v1 rfl
  refine ⟨r, hr, ?_⟩
  refine (pub_call (E := E) (Y := Yf) (G := GX) (J := JJ) (z := 377) (o := 110) (t := 1) (q := ct_M_rules) (as := [.inl x0]) (ds := [T32, [(0, 200)], [(0, 200)]]) (ks := [(110, 8), (5, 2)]) (KS := KS) (all_ct 377 _ rfl) (show pubOk ct_M_rules 110 [false] [T32, [(0, 200)], [(0, 200)]] [(110, 8), (5, 2)] = true by decide +kernel) ⟨in32 _, r0 v3 (k := (110, 8)) (by decide), r0 v3 (k := (5, 2)) (by decide), trivial⟩ (by decide +kernel) v4).mono (fun v' σ2 hw => ?_)
  obtain ⟨w1, w2, w3, w4, w5⟩ := hw
  exact ⟨w1 rfl, w4, w3, (h.2.2.keep (q := ct_H_rules) (by decide +kernel) v5).keep (q := ct_M_rules) (by decide +kernel) w5⟩
theorem LC_23_ok {E : xV} {σ : zS} (h : J0 σ) : LC_23 E σ J0 := by
  intro x0
  refine (pub_call (E := E) (Y := Yf) (G := GX) (J := JJ) (z := 110) (o := 0) (t := 1) (q := ct_H_inForce) (as := [.inl x0]) (ds := [T32, [(0, 200)], [(0, 200)]]) (ks := [(110, 8), (5, 2)]) (KS := KS) (all_ct 110 _ rfl) (show pubOk ct_H_inForce 0 [false] [T32, [(0, 200)], [(0, 200)]] [(110, 8), (5, 2)] = true by decide +kernel) ⟨in32 _, r0 h.2.1 (k := (110, 8)) (by decide), r0 h.2.1 (k := (5, 2)) (by decide), trivial⟩ (by decide +kernel) h.1).mono (fun v σ1 hv => ?_)
  obtain ⟨v1, v2, v3, v4, v5⟩ := hv
  obtain ⟨r, hr⟩ := v1 rfl
  refine ⟨r, hr, ?_⟩
  refine (pub_call (E := E) (Y := Yf) (G := GX) (J := JJ) (z := 391) (o := 110) (t := 1) (q := ct_M_inForce) (as := [.inl x0]) (ds := [T32, [(0, 200)], [(0, 200)]]) (ks := [(110, 8), (5, 2)]) (KS := KS) (all_ct 391 _ rfl) (show pubOk ct_M_inForce 110 [false] [T32, [(0, 200)], [(0, 200)]] [(110, 8), (5, 2)] = true by decide +kernel) ⟨in32 _, r0 v3 (k := (110, 8)) (by decide), r0 v3 (k := (5, 2)) (by decide), trivial⟩ (by decide +kernel) v4).mono (fun v' σ2 hw => ?_)
  obtain ⟨w1, w2, w3, w4, w5⟩ := hw
  exact ⟨w1 rfl, w4, w3, (h.2.2.keep (q := ct_H_inForce) (by decide +kernel) v5).keep (q := ct_M_inForce) (by decide +kernel) w5⟩
theorem LC_24_ok {E : xV} {σ : zS} (h : J0 σ) : LC_24 E σ J0 := by
  intro x0 x1 x2
  refine (pub_call (E := E) (Y := Yf) (G := GX) (J := JJ) (z := 144) (o := 0) (t := 1) (q := ct_H_ask) (as := [.inl x0, .inl x1, .inl x2]) (ds := [T32, T32, T32, [(0, 200)], [(0, 200)]]) (ks := [(110, 8), (5, 2)]) (KS := KS) (all_ct 144 _ rfl) (show pubOk ct_H_ask 0 [false, false, false] [T32, T32, T32, [(0, 200)], [(0, 200)]] [(110, 8), (5, 2)] = true by decide +kernel) ⟨in32 _, in32 _, in32 _, r0 h.2.1 (k := (110, 8)) (by decide), r0 h.2.1 (k := (5, 2)) (by decide), trivial⟩ (by decide +kernel) h.1).mono (fun v σ1 hv => ?_)
  obtain ⟨v1, v2, v3, v4, v5⟩ := hv
  obtain ⟨r, hr⟩ := v1 rfl
  refine ⟨r, hr, ?_⟩
  refine (pub_call (E := E) (Y := Yf) (G := GX) (J := JJ) (z := 392) (o := 110) (t := 1) (q := ct_M_ask) (as := [.inl x0, .inl x1, .inl x2]) (ds := [T32, T32, T32, [(0, 200)], [(0, 200)]]) (ks := [(110, 8), (5, 2)]) (KS := KS) (all_ct 392 _ rfl) (show pubOk ct_M_ask 110 [false, false, false] [T32, T32, T32, [(0, 200)], [(0, 200)]] [(110, 8), (5, 2)] = true by decide +kernel) ⟨in32 _, in32 _, in32 _, r0 v3 (k := (110, 8)) (by decide), r0 v3 (k := (5, 2)) (by decide), trivial⟩ (by decide +kernel) v4).mono (fun v' σ2 hw => ?_)
  obtain ⟨w1, w2, w3, w4, w5⟩ := hw
  exact ⟨w1 rfl, w4, w3, (h.2.2.keep (q := ct_H_ask) (by decide +kernel) v5).keep (q := ct_M_ask) (by decide +kernel) w5⟩
theorem LC_25_ok {E : xV} {σ : zS} (h : J0 σ) : LC_25 E σ J0 := by
  intro x0 x1 x2 x3 x4
  refine (pub_call (E := E) (Y := Yf) (G := GX) (J := JJ) (z := 145) (o := 0) (t := 1) (q := ct_H_asked) (as := [.inl x0, .inl x1, .inl x2, .inl x3, .inl x4]) (ds := [T32, T32, T32, T32, T32, [(0, 200)], [(0, 200)]]) (ks := [(110, 8), (5, 2)]) (KS := KS) (all_ct 145 _ rfl) (show pubOk ct_H_asked 0 [false, false, false, false, false] [T32, T32, T32, T32, T32, [(0, 200)], [(0, 200)]] [(110, 8), (5, 2)] = true by decide +kernel) ⟨in32 _, in32 _, in32 _, in32 _, in32 _, r0 h.2.1 (k := (110, 8)) (by decide), r0 h.2.1 (k := (5, 2)) (by decide), trivial⟩ (by decide +kernel) h.1).mono (fun v σ1 hv => ?_)
  obtain ⟨v1, v2, v3, v4, v5⟩ := hv
  obtain ⟨r, hr⟩ := v1 rfl
  refine ⟨r, hr, ?_⟩
  refine (pub_call (E := E) (Y := Yf) (G := GX) (J := JJ) (z := 393) (o := 110) (t := 1) (q := ct_M_asked) (as := [.inl x0, .inl x1, .inl x2, .inl x3, .inl x4]) (ds := [T32, T32, T32, T32, T32, [(0, 200)], [(0, 200)]]) (ks := [(110, 8), (5, 2)]) (KS := KS) (all_ct 393 _ rfl) (show pubOk ct_M_asked 110 [false, false, false, false, false] [T32, T32, T32, T32, T32, [(0, 200)], [(0, 200)]] [(110, 8), (5, 2)] = true by decide +kernel) ⟨in32 _, in32 _, in32 _, in32 _, in32 _, r0 v3 (k := (110, 8)) (by decide), r0 v3 (k := (5, 2)) (by decide), trivial⟩ (by decide +kernel) v4).mono (fun v' σ2 hw => ?_)
  obtain ⟨w1, w2, w3, w4, w5⟩ := hw
  exact ⟨w1 rfl, w4, w3, (h.2.2.keep (q := ct_H_asked) (by decide +kernel) v5).keep (q := ct_M_asked) (by decide +kernel) w5⟩
theorem LC_26_ok {E : xV} {σ : zS} (h : J0 σ) : LC_26 E σ J0 := by
  intro x0
  refine (pub_call (E := E) (Y := Yf) (G := GX) (J := JJ) (z := 146) (o := 0) (t := 1) (q := ct_H_made) (as := [.inl x0]) (ds := [T32, [(0, 200)], [(0, 200)]]) (ks := [(110, 8), (5, 2)]) (KS := KS) (all_ct 146 _ rfl) (show pubOk ct_H_made 0 [false] [T32, [(0, 200)], [(0, 200)]] [(110, 8), (5, 2)] = true by decide +kernel) ⟨in32 _, r0 h.2.1 (k := (110, 8)) (by decide), r0 h.2.1 (k := (5, 2)) (by decide), trivial⟩ (by decide +kernel) h.1).mono (fun v σ1 hv => ?_)
  obtain ⟨v1, v2, v3, v4, v5⟩ := hv
  obtain ⟨r, hr⟩ := v1 rfl
  refine ⟨r, hr, ?_⟩
  refine (pub_call (E := E) (Y := Yf) (G := GX) (J := JJ) (z := 394) (o := 110) (t := 1) (q := ct_M_made) (as := [.inl x0]) (ds := [T32, [(0, 200)], [(0, 200)]]) (ks := [(110, 8), (5, 2)]) (KS := KS) (all_ct 394 _ rfl) (show pubOk ct_M_made 110 [false] [T32, [(0, 200)], [(0, 200)]] [(110, 8), (5, 2)] = true by decide +kernel) ⟨in32 _, r0 v3 (k := (110, 8)) (by decide), r0 v3 (k := (5, 2)) (by decide), trivial⟩ (by decide +kernel) v4).mono (fun v' σ2 hw => ?_)
  obtain ⟨w1, w2, w3, w4, w5⟩ := hw
  exact ⟨w1 rfl, w4, w3, (h.2.2.keep (q := ct_H_made) (by decide +kernel) v5).keep (q := ct_M_made) (by decide +kernel) w5⟩
theorem LC_27_ok {E : xV} {σ : zS} (h : J0 σ) : LC_27 E σ J0 := by
  intro x0 x1 x2 x3
  refine (pub_call (E := E) (Y := Yf) (G := GX) (J := JJ) (z := 148) (o := 0) (t := 1) (q := ct_H_may) (as := [.inl x0, .inl x1, .inl x2, .inl x3]) (ds := [T32, T32, T32, T32, [(0, 200)], [(0, 200)]]) (ks := [(110, 8), (5, 2)]) (KS := KS) (all_ct 148 _ rfl) (show pubOk ct_H_may 0 [false, false, false, false] [T32, T32, T32, T32, [(0, 200)], [(0, 200)]] [(110, 8), (5, 2)] = true by decide +kernel) ⟨in32 _, in32 _, in32 _, in32 _, r0 h.2.1 (k := (110, 8)) (by decide), r0 h.2.1 (k := (5, 2)) (by decide), trivial⟩ (by decide +kernel) h.1).mono (fun v σ1 hv => ?_)
  obtain ⟨v1, v2, v3, v4, v5⟩ := hv
  obtain ⟨r, hr⟩ := v1 rfl
  refine ⟨r, hr, ?_⟩
  refine (pub_call (E := E) (Y := Yf) (G := GX) (J := JJ) (z := 395) (o := 110) (t := 1) (q := ct_M_may) (as := [.inl x0, .inl x1, .inl x2, .inl x3]) (ds := [T32, T32, T32, T32, [(0, 200)], [(0, 200)]]) (ks := [(110, 8), (5, 2)]) (KS := KS) (all_ct 395 _ rfl) (show pubOk ct_M_may 110 [false, false, false, false] [T32, T32, T32, T32, [(0, 200)], [(0, 200)]] [(110, 8), (5, 2)] = true by decide +kernel) ⟨in32 _, in32 _, in32 _, in32 _, r0 v3 (k := (110, 8)) (by decide), r0 v3 (k := (5, 2)) (by decide), trivial⟩ (by decide +kernel) v4).mono (fun v' σ2 hw => ?_)
  obtain ⟨w1, w2, w3, w4, w5⟩ := hw
  exact ⟨w1 rfl, w4, w3, (h.2.2.keep (q := ct_H_may) (by decide +kernel) v5).keep (q := ct_M_may) (by decide +kernel) w5⟩
theorem LC_28_ok {E : xV} {σ : zS} (h : J0 σ) : LC_28 E σ J0 := by
  intro x0 x1 x2 x3
  refine (pub_call (E := E) (Y := Yf) (G := GX) (J := JJ) (z := 150) (o := 0) (t := 1) (q := ct_H_who) (as := [.inl x0, .inl x1, .inl x2, .inl x3]) (ds := [T32, T32, T32, T32, [(0, 200)], [(0, 200)]]) (ks := [(110, 8), (5, 2)]) (KS := KS) (all_ct 150 _ rfl) (show pubOk ct_H_who 0 [false, false, false, false] [T32, T32, T32, T32, [(0, 200)], [(0, 200)]] [(110, 8), (5, 2)] = true by decide +kernel) ⟨in32 _, in32 _, in32 _, in32 _, r0 h.2.1 (k := (110, 8)) (by decide), r0 h.2.1 (k := (5, 2)) (by decide), trivial⟩ (by decide +kernel) h.1).mono (fun v σ1 hv => ?_)
  obtain ⟨v1, v2, v3, v4, v5⟩ := hv
  obtain ⟨r, hr⟩ := v1 rfl
  refine ⟨r, hr, ?_⟩
  refine (pub_call (E := E) (Y := Yf) (G := GX) (J := JJ) (z := 397) (o := 110) (t := 1) (q := ct_M_who) (as := [.inl x0, .inl x1, .inl x2, .inl x3]) (ds := [T32, T32, T32, T32, [(0, 200)], [(0, 200)]]) (ks := [(110, 8), (5, 2)]) (KS := KS) (all_ct 397 _ rfl) (show pubOk ct_M_who 110 [false, false, false, false] [T32, T32, T32, T32, [(0, 200)], [(0, 200)]] [(110, 8), (5, 2)] = true by decide +kernel) ⟨in32 _, in32 _, in32 _, in32 _, r0 v3 (k := (110, 8)) (by decide), r0 v3 (k := (5, 2)) (by decide), trivial⟩ (by decide +kernel) v4).mono (fun v' σ2 hw => ?_)
  obtain ⟨w1, w2, w3, w4, w5⟩ := hw
  exact ⟨w1 rfl, w4, w3, (h.2.2.keep (q := ct_H_who) (by decide +kernel) v5).keep (q := ct_M_who) (by decide +kernel) w5⟩
theorem LC_29_ok {E : xV} {σ : zS} (h : J0 σ) : LC_29 E σ J0 := by
  intro x0 x1
  refine (pub_call (E := E) (Y := Yf) (G := GX) (J := JJ) (z := 153) (o := 0) (t := 1) (q := ct_H_compare) (as := [.inl x0, .inl x1]) (ds := [T32, T32, [(0, 200)], [(0, 200)]]) (ks := [(110, 8), (5, 2)]) (KS := KS) (all_ct 153 _ rfl) (show pubOk ct_H_compare 0 [false, false] [T32, T32, [(0, 200)], [(0, 200)]] [(110, 8), (5, 2)] = true by decide +kernel) ⟨in32 _, in32 _, r0 h.2.1 (k := (110, 8)) (by decide), r0 h.2.1 (k := (5, 2)) (by decide), trivial⟩ (by decide +kernel) h.1).mono (fun v σ1 hv => ?_)
  obtain ⟨v1, v2, v3, v4, v5⟩ := hv
  obtain ⟨r, hr⟩ := v1 rfl
  refine ⟨r, hr, ?_⟩
  refine (pub_call (E := E) (Y := Yf) (G := GX) (J := JJ) (z := 399) (o := 110) (t := 1) (q := ct_M_compare) (as := [.inl x0, .inl x1]) (ds := [T32, T32, [(0, 200)], [(0, 200)]]) (ks := [(110, 8), (5, 2)]) (KS := KS) (all_ct 399 _ rfl) (show pubOk ct_M_compare 110 [false, false] [T32, T32, [(0, 200)], [(0, 200)]] [(110, 8), (5, 2)] = true by decide +kernel) ⟨in32 _, in32 _, r0 v3 (k := (110, 8)) (by decide), r0 v3 (k := (5, 2)) (by decide), trivial⟩ (by decide +kernel) v4).mono (fun v' σ2 hw => ?_)
  obtain ⟨w1, w2, w3, w4, w5⟩ := hw
  exact ⟨w1 rfl, w4, w3, (h.2.2.keep (q := ct_H_compare) (by decide +kernel) v5).keep (q := ct_M_compare) (by decide +kernel) w5⟩
theorem LC_30_ok {E : xV} {σ : zS} (h : J0 σ) : LC_30 E σ J0 := by
  intro x0
  refine (pub_call (E := E) (Y := Yf) (G := GX) (J := JJ) (z := 154) (o := 0) (t := 1) (q := ct_H_compared) (as := [.inl x0]) (ds := [T32, [(0, 200)], [(0, 200)]]) (ks := [(110, 8), (5, 2)]) (KS := KS) (all_ct 154 _ rfl) (show pubOk ct_H_compared 0 [false] [T32, [(0, 200)], [(0, 200)]] [(110, 8), (5, 2)] = true by decide +kernel) ⟨in32 _, r0 h.2.1 (k := (110, 8)) (by decide), r0 h.2.1 (k := (5, 2)) (by decide), trivial⟩ (by decide +kernel) h.1).mono (fun v σ1 hv => ?_)
  obtain ⟨v1, v2, v3, v4, v5⟩ := hv
  obtain ⟨r, hr⟩ := v1 rfl
  refine ⟨r, hr, ?_⟩
  refine (pub_call (E := E) (Y := Yf) (G := GX) (J := JJ) (z := 400) (o := 110) (t := 1) (q := ct_M_compared) (as := [.inl x0]) (ds := [T32, [(0, 200)], [(0, 200)]]) (ks := [(110, 8), (5, 2)]) (KS := KS) (all_ct 400 _ rfl) (show pubOk ct_M_compared 110 [false] [T32, [(0, 200)], [(0, 200)]] [(110, 8), (5, 2)] = true by decide +kernel) ⟨in32 _, r0 v3 (k := (110, 8)) (by decide), r0 v3 (k := (5, 2)) (by decide), trivial⟩ (by decide +kernel) v4).mono (fun v' σ2 hw => ?_)
  obtain ⟨w1, w2, w3, w4, w5⟩ := hw
  exact ⟨w1 rfl, w4, w3, (h.2.2.keep (q := ct_H_compared) (by decide +kernel) v5).keep (q := ct_M_compared) (by decide +kernel) w5⟩
theorem LC_31_ok {E : xV} {σ : zS} (h : J0 σ) : LC_31 E σ J0 := by
  intro x0 x1
  refine (pub_call (E := E) (Y := Yf) (G := GX) (J := JJ) (z := 156) (o := 0) (t := 1) (q := ct_H_decides) (as := [.inl x0, .inl x1]) (ds := [T32, T32, [(0, 200)], [(0, 200)]]) (ks := [(110, 8), (5, 2)]) (KS := KS) (all_ct 156 _ rfl) (show pubOk ct_H_decides 0 [false, false] [T32, T32, [(0, 200)], [(0, 200)]] [(110, 8), (5, 2)] = true by decide +kernel) ⟨in32 _, in32 _, r0 h.2.1 (k := (110, 8)) (by decide), r0 h.2.1 (k := (5, 2)) (by decide), trivial⟩ (by decide +kernel) h.1).mono (fun v σ1 hv => ?_)
  obtain ⟨v1, v2, v3, v4, v5⟩ := hv
  obtain ⟨r, hr⟩ := v1 rfl
  refine ⟨r, hr, ?_⟩
  refine (pub_call (E := E) (Y := Yf) (G := GX) (J := JJ) (z := 401) (o := 110) (t := 1) (q := ct_M_decides) (as := [.inl x0, .inl x1]) (ds := [T32, T32, [(0, 200)], [(0, 200)]]) (ks := [(110, 8), (5, 2)]) (KS := KS) (all_ct 401 _ rfl) (show pubOk ct_M_decides 110 [false, false] [T32, T32, [(0, 200)], [(0, 200)]] [(110, 8), (5, 2)] = true by decide +kernel) ⟨in32 _, in32 _, r0 v3 (k := (110, 8)) (by decide), r0 v3 (k := (5, 2)) (by decide), trivial⟩ (by decide +kernel) v4).mono (fun v' σ2 hw => ?_)
  obtain ⟨w1, w2, w3, w4, w5⟩ := hw
  exact ⟨w1 rfl, w4, w3, (h.2.2.keep (q := ct_H_decides) (by decide +kernel) v5).keep (q := ct_M_decides) (by decide +kernel) w5⟩
theorem LC_32_ok {E : xV} {σ : zS} (h : J0 σ) : LC_32 E σ J0 := by
  intro x0 x1 x2
  refine (pub_call (E := E) (Y := Yf) (G := GX) (J := JJ) (z := 158) (o := 0) (t := 1) (q := ct_H_law) (as := [.inl x0, .inl x1, .inl x2]) (ds := [T32, T32, T32, [(0, 200)], [(0, 200)]]) (ks := [(110, 8), (5, 2)]) (KS := KS) (all_ct 158 _ rfl) (show pubOk ct_H_law 0 [false, false, false] [T32, T32, T32, [(0, 200)], [(0, 200)]] [(110, 8), (5, 2)] = true by decide +kernel) ⟨in32 _, in32 _, in32 _, r0 h.2.1 (k := (110, 8)) (by decide), r0 h.2.1 (k := (5, 2)) (by decide), trivial⟩ (by decide +kernel) h.1).mono (fun v σ1 hv => ?_)
  obtain ⟨v1, v2, v3, v4, v5⟩ := hv
  obtain ⟨r, hr⟩ := v1 rfl
  refine ⟨r, hr, ?_⟩
  refine (pub_call (E := E) (Y := Yf) (G := GX) (J := JJ) (z := 402) (o := 110) (t := 1) (q := ct_M_law) (as := [.inl x0, .inl x1, .inl x2]) (ds := [T32, T32, T32, [(0, 200)], [(0, 200)]]) (ks := [(110, 8), (5, 2)]) (KS := KS) (all_ct 402 _ rfl) (show pubOk ct_M_law 110 [false, false, false] [T32, T32, T32, [(0, 200)], [(0, 200)]] [(110, 8), (5, 2)] = true by decide +kernel) ⟨in32 _, in32 _, in32 _, r0 v3 (k := (110, 8)) (by decide), r0 v3 (k := (5, 2)) (by decide), trivial⟩ (by decide +kernel) v4).mono (fun v' σ2 hw => ?_)
  obtain ⟨w1, w2, w3, w4, w5⟩ := hw
  exact ⟨w1 rfl, w4, w3, (h.2.2.keep (q := ct_H_law) (by decide +kernel) v5).keep (q := ct_M_law) (by decide +kernel) w5⟩
theorem LC_33_ok {E : xV} {σ : zS} (h : J0 σ) : LC_33 E σ J0 := by
  intro x0 x1 x2 x3
  refine (pub_call (E := E) (Y := Yf) (G := GX) (J := JJ) (z := 164) (o := 0) (t := 1) (q := ct_H_give) (as := [.inl x0, .inl x1, .inl x2, .inl x3]) (ds := [T32, T32, T32, T32, [(0, 200)], [(0, 200)]]) (ks := [(110, 8), (5, 2)]) (KS := KS) (all_ct 164 _ rfl) (show pubOk ct_H_give 0 [false, false, false, false] [T32, T32, T32, T32, [(0, 200)], [(0, 200)]] [(110, 8), (5, 2)] = true by decide +kernel) ⟨in32 _, in32 _, in32 _, in32 _, r0 h.2.1 (k := (110, 8)) (by decide), r0 h.2.1 (k := (5, 2)) (by decide), trivial⟩ (by decide +kernel) h.1).mono (fun v σ1 hv => ?_)
  obtain ⟨v1, v2, v3, v4, v5⟩ := hv
  obtain ⟨r, hr⟩ := v1 rfl
  refine ⟨r, hr, ?_⟩
  refine (pub_call (E := E) (Y := Yf) (G := GX) (J := JJ) (z := 405) (o := 110) (t := 1) (q := ct_M_give) (as := [.inl x0, .inl x1, .inl x2, .inl x3]) (ds := [T32, T32, T32, T32, [(0, 200)], [(0, 200)]]) (ks := [(110, 8), (5, 2)]) (KS := KS) (all_ct 405 _ rfl) (show pubOk ct_M_give 110 [false, false, false, false] [T32, T32, T32, T32, [(0, 200)], [(0, 200)]] [(110, 8), (5, 2)] = true by decide +kernel) ⟨in32 _, in32 _, in32 _, in32 _, r0 v3 (k := (110, 8)) (by decide), r0 v3 (k := (5, 2)) (by decide), trivial⟩ (by decide +kernel) v4).mono (fun v' σ2 hw => ?_)
  obtain ⟨w1, w2, w3, w4, w5⟩ := hw
  exact ⟨w1 rfl, w4, w3, (h.2.2.keep (q := ct_H_give) (by decide +kernel) v5).keep (q := ct_M_give) (by decide +kernel) w5⟩
theorem LC_34_ok {E : xV} {σ : zS} (h : J0 σ) : LC_34 E σ J0 := by
  intro x0 x1 x2
  refine (pub_call (E := E) (Y := Yf) (G := GX) (J := JJ) (z := 166) (o := 0) (t := 1) (q := ct_H_take) (as := [.inl x0, .inl x1, .inl x2]) (ds := [T32, T32, T32, [(0, 200)], [(0, 200)]]) (ks := [(110, 8), (5, 2)]) (KS := KS) (all_ct 166 _ rfl) (show pubOk ct_H_take 0 [false, false, false] [T32, T32, T32, [(0, 200)], [(0, 200)]] [(110, 8), (5, 2)] = true by decide +kernel) ⟨in32 _, in32 _, in32 _, r0 h.2.1 (k := (110, 8)) (by decide), r0 h.2.1 (k := (5, 2)) (by decide), trivial⟩ (by decide +kernel) h.1).mono (fun v σ1 hv => ?_)
  obtain ⟨v1, v2, v3, v4, v5⟩ := hv
  obtain ⟨r, hr⟩ := v1 rfl
  refine ⟨r, hr, ?_⟩
  refine (pub_call (E := E) (Y := Yf) (G := GX) (J := JJ) (z := 406) (o := 110) (t := 1) (q := ct_M_take) (as := [.inl x0, .inl x1, .inl x2]) (ds := [T32, T32, T32, [(0, 200)], [(0, 200)]]) (ks := [(110, 8), (5, 2)]) (KS := KS) (all_ct 406 _ rfl) (show pubOk ct_M_take 110 [false, false, false] [T32, T32, T32, [(0, 200)], [(0, 200)]] [(110, 8), (5, 2)] = true by decide +kernel) ⟨in32 _, in32 _, in32 _, r0 v3 (k := (110, 8)) (by decide), r0 v3 (k := (5, 2)) (by decide), trivial⟩ (by decide +kernel) v4).mono (fun v' σ2 hw => ?_)
  obtain ⟨w1, w2, w3, w4, w5⟩ := hw
  exact ⟨w1 rfl, w4, w3, (h.2.2.keep (q := ct_H_take) (by decide +kernel) v5).keep (q := ct_M_take) (by decide +kernel) w5⟩
theorem LC_35_ok {E : xV} {σ : zS} (h : J0 σ) : LC_35 E σ J0 := by
  refine (pub_call (E := E) (Y := Yf) (G := GX) (J := JJ) (z := 167) (o := 0) (t := 1) (q := ct_H_broken) (as := []) (ds := [[(0, 200)], [(0, 200)]]) (ks := [(110, 8), (5, 2)]) (KS := KS) (all_ct 167 _ rfl) (show pubOk ct_H_broken 0 [] [[(0, 200)], [(0, 200)]] [(110, 8), (5, 2)] = true by decide +kernel) ⟨r0 h.2.1 (k := (110, 8)) (by decide), r0 h.2.1 (k := (5, 2)) (by decide), trivial⟩ (by decide +kernel) h.1).mono (fun v σ1 hv => ?_)
  obtain ⟨v1, v2, v3, v4, v5⟩ := hv
  obtain ⟨r, hr⟩ := v1 rfl
  refine ⟨r, hr, ?_⟩
  refine (pub_call (E := E) (Y := Yf) (G := GX) (J := JJ) (z := 407) (o := 110) (t := 1) (q := ct_M_broken) (as := []) (ds := [[(0, 200)], [(0, 200)]]) (ks := [(110, 8), (5, 2)]) (KS := KS) (all_ct 407 _ rfl) (show pubOk ct_M_broken 110 [] [[(0, 200)], [(0, 200)]] [(110, 8), (5, 2)] = true by decide +kernel) ⟨r0 v3 (k := (110, 8)) (by decide), r0 v3 (k := (5, 2)) (by decide), trivial⟩ (by decide +kernel) v4).mono (fun v' σ2 hw => ?_)
  obtain ⟨w1, w2, w3, w4, w5⟩ := hw
  exact ⟨w1 rfl, w4, w3, (h.2.2.keep (q := ct_H_broken) (by decide +kernel) v5).keep (q := ct_M_broken) (by decide +kernel) w5⟩
theorem LC_36_ok {E : xV} {σ : zS} (h : J0 σ) : LC_36 E σ J0 := by
  intro x0
  refine (pub_call (E := E) (Y := Yf) (G := GX) (J := JJ) (z := 168) (o := 0) (t := 1) (q := ct_H_breach) (as := [.inl x0]) (ds := [T32, [(0, 200)], [(0, 200)]]) (ks := [(110, 8), (5, 2)]) (KS := KS) (all_ct 168 _ rfl) (show pubOk ct_H_breach 0 [false] [T32, [(0, 200)], [(0, 200)]] [(110, 8), (5, 2)] = true by decide +kernel) ⟨in32 _, r0 h.2.1 (k := (110, 8)) (by decide), r0 h.2.1 (k := (5, 2)) (by decide), trivial⟩ (by decide +kernel) h.1).mono (fun v σ1 hv => ?_)
  obtain ⟨v1, v2, v3, v4, v5⟩ := hv
  obtain ⟨r, hr⟩ := v1 rfl
  refine ⟨r, hr, ?_⟩
  refine (pub_call (E := E) (Y := Yf) (G := GX) (J := JJ) (z := 408) (o := 110) (t := 1) (q := ct_M_breach) (as := [.inl x0]) (ds := [T32, [(0, 200)], [(0, 200)]]) (ks := [(110, 8), (5, 2)]) (KS := KS) (all_ct 408 _ rfl) (show pubOk ct_M_breach 110 [false] [T32, [(0, 200)], [(0, 200)]] [(110, 8), (5, 2)] = true by decide +kernel) ⟨in32 _, r0 v3 (k := (110, 8)) (by decide), r0 v3 (k := (5, 2)) (by decide), trivial⟩ (by decide +kernel) v4).mono (fun v' σ2 hw => ?_)
  obtain ⟨w1, w2, w3, w4, w5⟩ := hw
  exact ⟨w1 rfl, w4, w3, (h.2.2.keep (q := ct_H_breach) (by decide +kernel) v5).keep (q := ct_M_breach) (by decide +kernel) w5⟩
theorem LC_37_ok {E : xV} {σ : zS} (h : J0 σ) : LC_37 E σ J0 := by
  intro x0
  refine (pub_call (E := E) (Y := Yf) (G := GX) (J := JJ) (z := 170) (o := 0) (t := 1) (q := ct_H_session) (as := [.inl x0]) (ds := [T32, [(0, 200)], [(0, 200)]]) (ks := [(110, 8), (5, 2)]) (KS := KS) (all_ct 170 _ rfl) (show pubOk ct_H_session 0 [false] [T32, [(0, 200)], [(0, 200)]] [(110, 8), (5, 2)] = true by decide +kernel) ⟨in32 _, r0 h.2.1 (k := (110, 8)) (by decide), r0 h.2.1 (k := (5, 2)) (by decide), trivial⟩ (by decide +kernel) h.1).mono (fun v σ1 hv => ?_)
  obtain ⟨v1, v2, v3, v4, v5⟩ := hv
  obtain ⟨r, hr⟩ := v1 rfl
  refine ⟨r, hr, ?_⟩
  refine (pub_call (E := E) (Y := Yf) (G := GX) (J := JJ) (z := 409) (o := 110) (t := 1) (q := ct_M_session) (as := [.inl x0]) (ds := [T32, [(0, 200)], [(0, 200)]]) (ks := [(110, 8), (5, 2)]) (KS := KS) (all_ct 409 _ rfl) (show pubOk ct_M_session 110 [false] [T32, [(0, 200)], [(0, 200)]] [(110, 8), (5, 2)] = true by decide +kernel) ⟨in32 _, r0 v3 (k := (110, 8)) (by decide), r0 v3 (k := (5, 2)) (by decide), trivial⟩ (by decide +kernel) v4).mono (fun v' σ2 hw => ?_)
  obtain ⟨w1, w2, w3, w4, w5⟩ := hw
  exact ⟨w1 rfl, w4, w3, (h.2.2.keep (q := ct_H_session) (by decide +kernel) v5).keep (q := ct_M_session) (by decide +kernel) w5⟩
theorem LC_38_ok {E : xV} {σ : zS} (h : J0 σ) : LC_38 E σ J0 := by
  intro x0 x1
  refine (pub_call (E := E) (Y := Yf) (G := GX) (J := JJ) (z := 172) (o := 0) (t := 1) (q := ct_H_switchOn) (as := [.inl x0, .inl x1]) (ds := [T32, T32, [(0, 200)], [(0, 200)]]) (ks := [(110, 8), (5, 2)]) (KS := KS) (all_ct 172 _ rfl) (show pubOk ct_H_switchOn 0 [false, false] [T32, T32, [(0, 200)], [(0, 200)]] [(110, 8), (5, 2)] = true by decide +kernel) ⟨in32 _, in32 _, r0 h.2.1 (k := (110, 8)) (by decide), r0 h.2.1 (k := (5, 2)) (by decide), trivial⟩ (by decide +kernel) h.1).mono (fun v σ1 hv => ?_)
  obtain ⟨v1, v2, v3, v4, v5⟩ := hv
  obtain ⟨r, hr⟩ := v1 rfl
  refine ⟨r, hr, ?_⟩
  refine (pub_call (E := E) (Y := Yf) (G := GX) (J := JJ) (z := 410) (o := 110) (t := 1) (q := ct_M_switchOn) (as := [.inl x0, .inl x1]) (ds := [T32, T32, [(0, 200)], [(0, 200)]]) (ks := [(110, 8), (5, 2)]) (KS := KS) (all_ct 410 _ rfl) (show pubOk ct_M_switchOn 110 [false, false] [T32, T32, [(0, 200)], [(0, 200)]] [(110, 8), (5, 2)] = true by decide +kernel) ⟨in32 _, in32 _, r0 v3 (k := (110, 8)) (by decide), r0 v3 (k := (5, 2)) (by decide), trivial⟩ (by decide +kernel) v4).mono (fun v' σ2 hw => ?_)
  obtain ⟨w1, w2, w3, w4, w5⟩ := hw
  exact ⟨w1 rfl, w4, w3, (h.2.2.keep (q := ct_H_switchOn) (by decide +kernel) v5).keep (q := ct_M_switchOn) (by decide +kernel) w5⟩
theorem LC_39_ok {E : xV} {σ : zS} (h : J0 σ) : LC_39 E σ J0 := by
  intro x0 x1
  refine (pub_call (E := E) (Y := Yf) (G := GX) (J := JJ) (z := 173) (o := 0) (t := 1) (q := ct_H_switchOff) (as := [.inl x0, .inl x1]) (ds := [T32, T32, [(0, 200)], [(0, 200)]]) (ks := [(110, 8), (5, 2)]) (KS := KS) (all_ct 173 _ rfl) (show pubOk ct_H_switchOff 0 [false, false] [T32, T32, [(0, 200)], [(0, 200)]] [(110, 8), (5, 2)] = true by decide +kernel) ⟨in32 _, in32 _, r0 h.2.1 (k := (110, 8)) (by decide), r0 h.2.1 (k := (5, 2)) (by decide), trivial⟩ (by decide +kernel) h.1).mono (fun v σ1 hv => ?_)
  obtain ⟨v1, v2, v3, v4, v5⟩ := hv
  obtain ⟨r, hr⟩ := v1 rfl
  refine ⟨r, hr, ?_⟩
  refine (pub_call (E := E) (Y := Yf) (G := GX) (J := JJ) (z := 411) (o := 110) (t := 1) (q := ct_M_switchOff) (as := [.inl x0, .inl x1]) (ds := [T32, T32, [(0, 200)], [(0, 200)]]) (ks := [(110, 8), (5, 2)]) (KS := KS) (all_ct 411 _ rfl) (show pubOk ct_M_switchOff 110 [false, false] [T32, T32, [(0, 200)], [(0, 200)]] [(110, 8), (5, 2)] = true by decide +kernel) ⟨in32 _, in32 _, r0 v3 (k := (110, 8)) (by decide), r0 v3 (k := (5, 2)) (by decide), trivial⟩ (by decide +kernel) v4).mono (fun v' σ2 hw => ?_)
  obtain ⟨w1, w2, w3, w4, w5⟩ := hw
  exact ⟨w1 rfl, w4, w3, (h.2.2.keep (q := ct_H_switchOff) (by decide +kernel) v5).keep (q := ct_M_switchOff) (by decide +kernel) w5⟩
theorem LC_40_ok {E : xV} {σ : zS} (h : J0 σ) : LC_40 E σ J0 := by
  intro x0 x1 x2
  refine (pub_call (E := E) (Y := Yf) (G := GX) (J := JJ) (z := 175) (o := 0) (t := 1) (q := ct_H_askIn) (as := [.inl x0, .inl x1, .inl x2]) (ds := [T32, T32, T32, [(0, 200)], [(0, 200)]]) (ks := [(110, 8), (5, 2)]) (KS := KS) (all_ct 175 _ rfl) (show pubOk ct_H_askIn 0 [false, false, false] [T32, T32, T32, [(0, 200)], [(0, 200)]] [(110, 8), (5, 2)] = true by decide +kernel) ⟨in32 _, in32 _, in32 _, r0 h.2.1 (k := (110, 8)) (by decide), r0 h.2.1 (k := (5, 2)) (by decide), trivial⟩ (by decide +kernel) h.1).mono (fun v σ1 hv => ?_)
  obtain ⟨v1, v2, v3, v4, v5⟩ := hv
  obtain ⟨r, hr⟩ := v1 rfl
  refine ⟨r, hr, ?_⟩
  refine (pub_call (E := E) (Y := Yf) (G := GX) (J := JJ) (z := 412) (o := 110) (t := 1) (q := ct_M_askIn) (as := [.inl x0, .inl x1, .inl x2]) (ds := [T32, T32, T32, [(0, 200)], [(0, 200)]]) (ks := [(110, 8), (5, 2)]) (KS := KS) (all_ct 412 _ rfl) (show pubOk ct_M_askIn 110 [false, false, false] [T32, T32, T32, [(0, 200)], [(0, 200)]] [(110, 8), (5, 2)] = true by decide +kernel) ⟨in32 _, in32 _, in32 _, r0 v3 (k := (110, 8)) (by decide), r0 v3 (k := (5, 2)) (by decide), trivial⟩ (by decide +kernel) v4).mono (fun v' σ2 hw => ?_)
  obtain ⟨w1, w2, w3, w4, w5⟩ := hw
  exact ⟨w1 rfl, w4, w3, (h.2.2.keep (q := ct_H_askIn) (by decide +kernel) v5).keep (q := ct_M_askIn) (by decide +kernel) w5⟩
theorem LC_41_ok {E : xV} {σ : zS} (h : J0 σ) : LC_41 E σ J0 := by
  refine (pub_call (E := E) (Y := Yf) (G := GX) (J := JJ) (z := 176) (o := 0) (t := 1) (q := ct_H_work) (as := []) (ds := [[(0, 200)], [(0, 200)]]) (ks := [(110, 8), (5, 2)]) (KS := KS) (all_ct 176 _ rfl) (show pubOk ct_H_work 0 [] [[(0, 200)], [(0, 200)]] [(110, 8), (5, 2)] = true by decide +kernel) ⟨r0 h.2.1 (k := (110, 8)) (by decide), r0 h.2.1 (k := (5, 2)) (by decide), trivial⟩ (by decide +kernel) h.1).mono (fun v σ1 hv => ?_)
  obtain ⟨v1, v2, v3, v4, v5⟩ := hv
  obtain ⟨r, hr⟩ := v1 rfl
  refine ⟨r, hr, ?_⟩
  refine (pub_call (E := E) (Y := Yf) (G := GX) (J := JJ) (z := 413) (o := 110) (t := 1) (q := ct_M_work) (as := []) (ds := [[(0, 200)], [(0, 200)]]) (ks := [(110, 8), (5, 2)]) (KS := KS) (all_ct 413 _ rfl) (show pubOk ct_M_work 110 [] [[(0, 200)], [(0, 200)]] [(110, 8), (5, 2)] = true by decide +kernel) ⟨r0 v3 (k := (110, 8)) (by decide), r0 v3 (k := (5, 2)) (by decide), trivial⟩ (by decide +kernel) v4).mono (fun v' σ2 hw => ?_)
  obtain ⟨w1, w2, w3, w4, w5⟩ := hw
  exact ⟨w1 rfl, w4, w3, (h.2.2.keep (q := ct_H_work) (by decide +kernel) v5).keep (q := ct_M_work) (by decide +kernel) w5⟩
theorem LC_42_ok {E : xV} {σ : zS} (h : J0 σ) : LC_42 E σ J0 := by
  intro x0 x1
  refine (pub_call (E := E) (Y := Yf) (G := GX) (J := JJ) (z := 178) (o := 0) (t := 1) (q := ct_H_step) (as := [.inl x0, .inl x1]) (ds := [T32, T32, [(0, 200)], [(0, 200)]]) (ks := [(110, 8), (5, 2)]) (KS := KS) (all_ct 178 _ rfl) (show pubOk ct_H_step 0 [false, false] [T32, T32, [(0, 200)], [(0, 200)]] [(110, 8), (5, 2)] = true by decide +kernel) ⟨in32 _, in32 _, r0 h.2.1 (k := (110, 8)) (by decide), r0 h.2.1 (k := (5, 2)) (by decide), trivial⟩ (by decide +kernel) h.1).mono (fun v σ1 hv => ?_)
  obtain ⟨v1, v2, v3, v4, v5⟩ := hv
  obtain ⟨r, hr⟩ := v1 rfl
  refine ⟨r, hr, ?_⟩
  refine (pub_call (E := E) (Y := Yf) (G := GX) (J := JJ) (z := 416) (o := 110) (t := 1) (q := ct_M_step) (as := [.inl x0, .inl x1]) (ds := [T32, T32, [(0, 200)], [(0, 200)]]) (ks := [(110, 8), (5, 2)]) (KS := KS) (all_ct 416 _ rfl) (show pubOk ct_M_step 110 [false, false] [T32, T32, [(0, 200)], [(0, 200)]] [(110, 8), (5, 2)] = true by decide +kernel) ⟨in32 _, in32 _, r0 v3 (k := (110, 8)) (by decide), r0 v3 (k := (5, 2)) (by decide), trivial⟩ (by decide +kernel) v4).mono (fun v' σ2 hw => ?_)
  obtain ⟨w1, w2, w3, w4, w5⟩ := hw
  exact ⟨w1 rfl, w4, w3, (h.2.2.keep (q := ct_H_step) (by decide +kernel) v5).keep (q := ct_M_step) (by decide +kernel) w5⟩
theorem LC_43_ok {E : xV} {σ : zS} (h : J0 σ) : LC_43 E σ J0 := by
  intro x0 x1 x2 x3
  refine (pub_call (E := E) (Y := Yf) (G := GX) (J := JJ) (z := 180) (o := 0) (t := 1) (q := ct_H_tie) (as := [.inl x0, .inl x1, .inl x2, .inl x3]) (ds := [T32, T32, T32, T32, [(0, 200)], [(0, 200)]]) (ks := [(110, 8), (5, 2)]) (KS := KS) (all_ct 180 _ rfl) (show pubOk ct_H_tie 0 [false, false, false, false] [T32, T32, T32, T32, [(0, 200)], [(0, 200)]] [(110, 8), (5, 2)] = true by decide +kernel) ⟨in32 _, in32 _, in32 _, in32 _, r0 h.2.1 (k := (110, 8)) (by decide), r0 h.2.1 (k := (5, 2)) (by decide), trivial⟩ (by decide +kernel) h.1).mono (fun v σ1 hv => ?_)
  obtain ⟨v1, v2, v3, v4, v5⟩ := hv
  obtain ⟨r, hr⟩ := v1 rfl
  refine ⟨r, hr, ?_⟩
  refine (pub_call (E := E) (Y := Yf) (G := GX) (J := JJ) (z := 417) (o := 110) (t := 1) (q := ct_M_tie) (as := [.inl x0, .inl x1, .inl x2, .inl x3]) (ds := [T32, T32, T32, T32, [(0, 200)], [(0, 200)]]) (ks := [(110, 8), (5, 2)]) (KS := KS) (all_ct 417 _ rfl) (show pubOk ct_M_tie 110 [false, false, false, false] [T32, T32, T32, T32, [(0, 200)], [(0, 200)]] [(110, 8), (5, 2)] = true by decide +kernel) ⟨in32 _, in32 _, in32 _, in32 _, r0 v3 (k := (110, 8)) (by decide), r0 v3 (k := (5, 2)) (by decide), trivial⟩ (by decide +kernel) v4).mono (fun v' σ2 hw => ?_)
  obtain ⟨w1, w2, w3, w4, w5⟩ := hw
  exact ⟨w1 rfl, w4, w3, (h.2.2.keep (q := ct_H_tie) (by decide +kernel) v5).keep (q := ct_M_tie) (by decide +kernel) w5⟩
theorem LC_44_ok {E : xV} {σ : zS} (h : J0 σ) : LC_44 E σ J0 := by
  intro x0 x1
  refine (pub_call (E := E) (Y := Yf) (G := GX) (J := JJ) (z := 188) (o := 0) (t := 1) (q := ct_H_fill) (as := [.inl x0, .inl x1]) (ds := [T32, T32, [(0, 200)], [(0, 200)]]) (ks := [(110, 8), (5, 2)]) (KS := KS) (all_ct 188 _ rfl) (show pubOk ct_H_fill 0 [false, false] [T32, T32, [(0, 200)], [(0, 200)]] [(110, 8), (5, 2)] = true by decide +kernel) ⟨in32 _, in32 _, r0 h.2.1 (k := (110, 8)) (by decide), r0 h.2.1 (k := (5, 2)) (by decide), trivial⟩ (by decide +kernel) h.1).mono (fun v σ1 hv => ?_)
  obtain ⟨v1, v2, v3, v4, v5⟩ := hv
  obtain ⟨r, hr⟩ := v1 rfl
  refine ⟨r, hr, ?_⟩
  refine (pub_call (E := E) (Y := Yf) (G := GX) (J := JJ) (z := 421) (o := 110) (t := 1) (q := ct_M_fill) (as := [.inl x0, .inl x1]) (ds := [T32, T32, [(0, 200)], [(0, 200)]]) (ks := [(110, 8), (5, 2)]) (KS := KS) (all_ct 421 _ rfl) (show pubOk ct_M_fill 110 [false, false] [T32, T32, [(0, 200)], [(0, 200)]] [(110, 8), (5, 2)] = true by decide +kernel) ⟨in32 _, in32 _, r0 v3 (k := (110, 8)) (by decide), r0 v3 (k := (5, 2)) (by decide), trivial⟩ (by decide +kernel) v4).mono (fun v' σ2 hw => ?_)
  obtain ⟨w1, w2, w3, w4, w5⟩ := hw
  exact ⟨w1 rfl, w4, w3, (h.2.2.keep (q := ct_H_fill) (by decide +kernel) v5).keep (q := ct_M_fill) (by decide +kernel) w5⟩
theorem LC_45_ok {E : xV} {σ : zS} (h : J0 σ) : LC_45 E σ J0 := by
  intro x0 x1
  refine (pub_call (E := E) (Y := Yf) (G := GX) (J := JJ) (z := 189) (o := 0) (t := 1) (q := ct_H_filled) (as := [.inl x0, .inl x1]) (ds := [T32, T32, [(0, 200)], [(0, 200)]]) (ks := [(110, 8), (5, 2)]) (KS := KS) (all_ct 189 _ rfl) (show pubOk ct_H_filled 0 [false, false] [T32, T32, [(0, 200)], [(0, 200)]] [(110, 8), (5, 2)] = true by decide +kernel) ⟨in32 _, in32 _, r0 h.2.1 (k := (110, 8)) (by decide), r0 h.2.1 (k := (5, 2)) (by decide), trivial⟩ (by decide +kernel) h.1).mono (fun v σ1 hv => ?_)
  obtain ⟨v1, v2, v3, v4, v5⟩ := hv
  obtain ⟨r, hr⟩ := v1 rfl
  refine ⟨r, hr, ?_⟩
  refine (pub_call (E := E) (Y := Yf) (G := GX) (J := JJ) (z := 422) (o := 110) (t := 1) (q := ct_M_filled) (as := [.inl x0, .inl x1]) (ds := [T32, T32, [(0, 200)], [(0, 200)]]) (ks := [(110, 8), (5, 2)]) (KS := KS) (all_ct 422 _ rfl) (show pubOk ct_M_filled 110 [false, false] [T32, T32, [(0, 200)], [(0, 200)]] [(110, 8), (5, 2)] = true by decide +kernel) ⟨in32 _, in32 _, r0 v3 (k := (110, 8)) (by decide), r0 v3 (k := (5, 2)) (by decide), trivial⟩ (by decide +kernel) v4).mono (fun v' σ2 hw => ?_)
  obtain ⟨w1, w2, w3, w4, w5⟩ := hw
  exact ⟨w1 rfl, w4, w3, (h.2.2.keep (q := ct_H_filled) (by decide +kernel) v5).keep (q := ct_M_filled) (by decide +kernel) w5⟩
theorem LC_46_ok {E : xV} {σ : zS} (h : J0 σ) : LC_46 E σ J0 := by
  intro x0 x1 x2 x3
  refine (pub_call (E := E) (Y := Yf) (G := GX) (J := JJ) (z := 191) (o := 0) (t := 1) (q := ct_H_next) (as := [.inl x0, .inl x1, .inl x2, .inl x3]) (ds := [T32, T32, T32, T32, [(0, 200)], [(0, 200)]]) (ks := [(110, 8), (5, 2)]) (KS := KS) (all_ct 191 _ rfl) (show pubOk ct_H_next 0 [false, false, false, false] [T32, T32, T32, T32, [(0, 200)], [(0, 200)]] [(110, 8), (5, 2)] = true by decide +kernel) ⟨in32 _, in32 _, in32 _, in32 _, r0 h.2.1 (k := (110, 8)) (by decide), r0 h.2.1 (k := (5, 2)) (by decide), trivial⟩ (by decide +kernel) h.1).mono (fun v σ1 hv => ?_)
  obtain ⟨v1, v2, v3, v4, v5⟩ := hv
  obtain ⟨r, hr⟩ := v1 rfl
  refine ⟨r, hr, ?_⟩
  refine (pub_call (E := E) (Y := Yf) (G := GX) (J := JJ) (z := 424) (o := 110) (t := 1) (q := ct_M_next) (as := [.inl x0, .inl x1, .inl x2, .inl x3]) (ds := [T32, T32, T32, T32, [(0, 200)], [(0, 200)]]) (ks := [(110, 8), (5, 2)]) (KS := KS) (all_ct 424 _ rfl) (show pubOk ct_M_next 110 [false, false, false, false] [T32, T32, T32, T32, [(0, 200)], [(0, 200)]] [(110, 8), (5, 2)] = true by decide +kernel) ⟨in32 _, in32 _, in32 _, in32 _, r0 v3 (k := (110, 8)) (by decide), r0 v3 (k := (5, 2)) (by decide), trivial⟩ (by decide +kernel) v4).mono (fun v' σ2 hw => ?_)
  obtain ⟨w1, w2, w3, w4, w5⟩ := hw
  exact ⟨w1 rfl, w4, w3, (h.2.2.keep (q := ct_H_next) (by decide +kernel) v5).keep (q := ct_M_next) (by decide +kernel) w5⟩
theorem LC_47_ok {E : xV} {σ : zS} (h : J0 σ) : LC_47 E σ J0 := by
  intro x0 x1 x2 x3
  refine (pub_call (E := E) (Y := Yf) (G := GX) (J := JJ) (z := 192) (o := 0) (t := 1) (q := ct_H_perform) (as := [.inl x0, .inl x1, .inl x2, .inl x3]) (ds := [T32, T32, T32, T32, [(0, 200)], [(0, 200)]]) (ks := [(110, 8), (5, 2)]) (KS := KS) (all_ct 192 _ rfl) (show pubOk ct_H_perform 0 [false, false, false, false] [T32, T32, T32, T32, [(0, 200)], [(0, 200)]] [(110, 8), (5, 2)] = true by decide +kernel) ⟨in32 _, in32 _, in32 _, in32 _, r0 h.2.1 (k := (110, 8)) (by decide), r0 h.2.1 (k := (5, 2)) (by decide), trivial⟩ (by decide +kernel) h.1).mono (fun v σ1 hv => ?_)
  obtain ⟨v1, v2, v3, v4, v5⟩ := hv
  obtain ⟨r, hr⟩ := v1 rfl
  refine ⟨r, hr, ?_⟩
  refine (pub_call (E := E) (Y := Yf) (G := GX) (J := JJ) (z := 425) (o := 110) (t := 1) (q := ct_M_perform) (as := [.inl x0, .inl x1, .inl x2, .inl x3]) (ds := [T32, T32, T32, T32, [(0, 200)], [(0, 200)]]) (ks := [(110, 8), (5, 2)]) (KS := KS) (all_ct 425 _ rfl) (show pubOk ct_M_perform 110 [false, false, false, false] [T32, T32, T32, T32, [(0, 200)], [(0, 200)]] [(110, 8), (5, 2)] = true by decide +kernel) ⟨in32 _, in32 _, in32 _, in32 _, r0 v3 (k := (110, 8)) (by decide), r0 v3 (k := (5, 2)) (by decide), trivial⟩ (by decide +kernel) v4).mono (fun v' σ2 hw => ?_)
  obtain ⟨w1, w2, w3, w4, w5⟩ := hw
  exact ⟨w1 rfl, w4, w3, (h.2.2.keep (q := ct_H_perform) (by decide +kernel) v5).keep (q := ct_M_perform) (by decide +kernel) w5⟩
theorem LC_48_ok {E : xV} {σ : zS} (h : J0 σ) : LC_48 E σ J0 := by
  intro x0 x1 x2
  refine (pub_call (E := E) (Y := Yf) (G := GX) (J := JJ) (z := 194) (o := 0) (t := 1) (q := ct_H_needed) (as := [.inl x0, .inl x1, .inl x2]) (ds := [T32, T32, T32, [(0, 200)], [(0, 200)]]) (ks := [(110, 8), (5, 2)]) (KS := KS) (all_ct 194 _ rfl) (show pubOk ct_H_needed 0 [false, false, false] [T32, T32, T32, [(0, 200)], [(0, 200)]] [(110, 8), (5, 2)] = true by decide +kernel) ⟨in32 _, in32 _, in32 _, r0 h.2.1 (k := (110, 8)) (by decide), r0 h.2.1 (k := (5, 2)) (by decide), trivial⟩ (by decide +kernel) h.1).mono (fun v σ1 hv => ?_)
  obtain ⟨v1, v2, v3, v4, v5⟩ := hv
  obtain ⟨r, hr⟩ := v1 rfl
  refine ⟨r, hr, ?_⟩
  refine (pub_call (E := E) (Y := Yf) (G := GX) (J := JJ) (z := 426) (o := 110) (t := 1) (q := ct_M_needed) (as := [.inl x0, .inl x1, .inl x2]) (ds := [T32, T32, T32, [(0, 200)], [(0, 200)]]) (ks := [(110, 8), (5, 2)]) (KS := KS) (all_ct 426 _ rfl) (show pubOk ct_M_needed 110 [false, false, false] [T32, T32, T32, [(0, 200)], [(0, 200)]] [(110, 8), (5, 2)] = true by decide +kernel) ⟨in32 _, in32 _, in32 _, r0 v3 (k := (110, 8)) (by decide), r0 v3 (k := (5, 2)) (by decide), trivial⟩ (by decide +kernel) v4).mono (fun v' σ2 hw => ?_)
  obtain ⟨w1, w2, w3, w4, w5⟩ := hw
  exact ⟨w1 rfl, w4, w3, (h.2.2.keep (q := ct_H_needed) (by decide +kernel) v5).keep (q := ct_M_needed) (by decide +kernel) w5⟩
theorem LC_49_ok {E : xV} {σ : zS} (h : J0 σ) : LC_49 E σ J0 := by
  refine (pub_call (E := E) (Y := Yf) (G := GX) (J := JJ) (z := 195) (o := 0) (t := 1) (q := ct_H_tries) (as := []) (ds := [[(0, 200)], [(0, 200)]]) (ks := [(110, 8), (5, 2)]) (KS := KS) (all_ct 195 _ rfl) (show pubOk ct_H_tries 0 [] [[(0, 200)], [(0, 200)]] [(110, 8), (5, 2)] = true by decide +kernel) ⟨r0 h.2.1 (k := (110, 8)) (by decide), r0 h.2.1 (k := (5, 2)) (by decide), trivial⟩ (by decide +kernel) h.1).mono (fun v σ1 hv => ?_)
  obtain ⟨v1, v2, v3, v4, v5⟩ := hv
  obtain ⟨r, hr⟩ := v1 rfl
  refine ⟨r, hr, ?_⟩
  refine (pub_call (E := E) (Y := Yf) (G := GX) (J := JJ) (z := 427) (o := 110) (t := 1) (q := ct_M_tries) (as := []) (ds := [[(0, 200)], [(0, 200)]]) (ks := [(110, 8), (5, 2)]) (KS := KS) (all_ct 427 _ rfl) (show pubOk ct_M_tries 110 [] [[(0, 200)], [(0, 200)]] [(110, 8), (5, 2)] = true by decide +kernel) ⟨r0 v3 (k := (110, 8)) (by decide), r0 v3 (k := (5, 2)) (by decide), trivial⟩ (by decide +kernel) v4).mono (fun v' σ2 hw => ?_)
  obtain ⟨w1, w2, w3, w4, w5⟩ := hw
  exact ⟨w1 rfl, w4, w3, (h.2.2.keep (q := ct_H_tries) (by decide +kernel) v5).keep (q := ct_M_tries) (by decide +kernel) w5⟩
theorem LC_55_ok {E : xV} {σ : zS} (h : J0 σ) : LC_55 E σ J0 := by
  intro x0 x1
  refine (pub_call (E := E) (Y := Yf) (G := GX) (J := JJ) (z := 207) (o := 0) (t := 1) (q := ct_H_lendOf) (as := [.inl x0, .inl x1]) (ds := [T32, T32, [(0, 200)], [(0, 200)]]) (ks := [(110, 8), (5, 2)]) (KS := KS) (all_ct 207 _ rfl) (show pubOk ct_H_lendOf 0 [false, false] [T32, T32, [(0, 200)], [(0, 200)]] [(110, 8), (5, 2)] = true by decide +kernel) ⟨in32 _, in32 _, r0 h.2.1 (k := (110, 8)) (by decide), r0 h.2.1 (k := (5, 2)) (by decide), trivial⟩ (by decide +kernel) h.1).mono (fun v σ1 hv => ?_)
  obtain ⟨v1, v2, v3, v4, v5⟩ := hv
  obtain ⟨r, hr⟩ := v1 rfl
  refine ⟨r, hr, ?_⟩
  refine (pub_call (E := E) (Y := Yf) (G := GX) (J := JJ) (z := 437) (o := 110) (t := 1) (q := ct_M_lendOf) (as := [.inl x0, .inl x1]) (ds := [T32, T32, [(0, 200)], [(0, 200)]]) (ks := [(110, 8), (5, 2)]) (KS := KS) (all_ct 437 _ rfl) (show pubOk ct_M_lendOf 110 [false, false] [T32, T32, [(0, 200)], [(0, 200)]] [(110, 8), (5, 2)] = true by decide +kernel) ⟨in32 _, in32 _, r0 v3 (k := (110, 8)) (by decide), r0 v3 (k := (5, 2)) (by decide), trivial⟩ (by decide +kernel) v4).mono (fun v' σ2 hw => ?_)
  obtain ⟨w1, w2, w3, w4, w5⟩ := hw
  exact ⟨w1 rfl, w4, w3, (h.2.2.keep (q := ct_H_lendOf) (by decide +kernel) v5).keep (q := ct_M_lendOf) (by decide +kernel) w5⟩
theorem LC_56_ok {E : xV} {σ : zS} (h : J0 σ) : LC_56 E σ J0 := by
  intro x0 x1 x2
  refine (pub_call (E := E) (Y := Yf) (G := GX) (J := JJ) (z := 210) (o := 0) (t := 1) (q := ct_H_key) (as := [.inl x0, .inl x1, .inl x2]) (ds := [T32, T32, T32, [(0, 200)], [(0, 200)]]) (ks := [(110, 8), (5, 2)]) (KS := KS) (all_ct 210 _ rfl) (show pubOk ct_H_key 0 [false, false, false] [T32, T32, T32, [(0, 200)], [(0, 200)]] [(110, 8), (5, 2)] = true by decide +kernel) ⟨in32 _, in32 _, in32 _, r0 h.2.1 (k := (110, 8)) (by decide), r0 h.2.1 (k := (5, 2)) (by decide), trivial⟩ (by decide +kernel) h.1).mono (fun v σ1 hv => ?_)
  obtain ⟨v1, v2, v3, v4, v5⟩ := hv
  obtain ⟨r, hr⟩ := v1 rfl
  refine ⟨r, hr, ?_⟩
  refine (pub_call (E := E) (Y := Yf) (G := GX) (J := JJ) (z := 440) (o := 110) (t := 1) (q := ct_M_key) (as := [.inl x0, .inl x1, .inl x2]) (ds := [T32, T32, T32, [(0, 200)], [(0, 200)]]) (ks := [(110, 8), (5, 2)]) (KS := KS) (all_ct 440 _ rfl) (show pubOk ct_M_key 110 [false, false, false] [T32, T32, T32, [(0, 200)], [(0, 200)]] [(110, 8), (5, 2)] = true by decide +kernel) ⟨in32 _, in32 _, in32 _, r0 v3 (k := (110, 8)) (by decide), r0 v3 (k := (5, 2)) (by decide), trivial⟩ (by decide +kernel) v4).mono (fun v' σ2 hw => ?_)
  obtain ⟨w1, w2, w3, w4, w5⟩ := hw
  exact ⟨w1 rfl, w4, w3, (h.2.2.keep (q := ct_H_key) (by decide +kernel) v5).keep (q := ct_M_key) (by decide +kernel) w5⟩
theorem LC_57_ok {E : xV} {σ : zS} (h : J0 σ) : LC_57 E σ J0 := by
  intro x0 x1 x2
  refine (pub_call (E := E) (Y := Yf) (G := GX) (J := JJ) (z := 215) (o := 0) (t := 1) (q := ct_H_ever) (as := [.inl x0, .inl x1, .inl x2]) (ds := [T32, T32, T32, [(0, 200)], [(0, 200)]]) (ks := [(110, 8), (5, 2)]) (KS := KS) (all_ct 215 _ rfl) (show pubOk ct_H_ever 0 [false, false, false] [T32, T32, T32, [(0, 200)], [(0, 200)]] [(110, 8), (5, 2)] = true by decide +kernel) ⟨in32 _, in32 _, in32 _, r0 h.2.1 (k := (110, 8)) (by decide), r0 h.2.1 (k := (5, 2)) (by decide), trivial⟩ (by decide +kernel) h.1).mono (fun v σ1 hv => ?_)
  obtain ⟨v1, v2, v3, v4, v5⟩ := hv
  obtain ⟨r, hr⟩ := v1 rfl
  refine ⟨r, hr, ?_⟩
  refine (pub_call (E := E) (Y := Yf) (G := GX) (J := JJ) (z := 441) (o := 110) (t := 1) (q := ct_M_ever) (as := [.inl x0, .inl x1, .inl x2]) (ds := [T32, T32, T32, [(0, 200)], [(0, 200)]]) (ks := [(110, 8), (5, 2)]) (KS := KS) (all_ct 441 _ rfl) (show pubOk ct_M_ever 110 [false, false, false] [T32, T32, T32, [(0, 200)], [(0, 200)]] [(110, 8), (5, 2)] = true by decide +kernel) ⟨in32 _, in32 _, in32 _, r0 v3 (k := (110, 8)) (by decide), r0 v3 (k := (5, 2)) (by decide), trivial⟩ (by decide +kernel) v4).mono (fun v' σ2 hw => ?_)
  obtain ⟨w1, w2, w3, w4, w5⟩ := hw
  exact ⟨w1 rfl, w4, w3, (h.2.2.keep (q := ct_H_ever) (by decide +kernel) v5).keep (q := ct_M_ever) (by decide +kernel) w5⟩
theorem LC_58_ok {E : xV} {σ : zS} (h : J0 σ) : LC_58 E σ J0 := by
  intro x0 x1
  refine (pub_call (E := E) (Y := Yf) (G := GX) (J := JJ) (z := 216) (o := 0) (t := 1) (q := ct_H_gain) (as := [.inl x0, .inl x1]) (ds := [T32, T32, [(0, 200)], [(0, 200)]]) (ks := [(110, 8), (5, 2)]) (KS := KS) (all_ct 216 _ rfl) (show pubOk ct_H_gain 0 [false, false] [T32, T32, [(0, 200)], [(0, 200)]] [(110, 8), (5, 2)] = true by decide +kernel) ⟨in32 _, in32 _, r0 h.2.1 (k := (110, 8)) (by decide), r0 h.2.1 (k := (5, 2)) (by decide), trivial⟩ (by decide +kernel) h.1).mono (fun v σ1 hv => ?_)
  obtain ⟨v1, v2, v3, v4, v5⟩ := hv
  obtain ⟨r, hr⟩ := v1 rfl
  refine ⟨r, hr, ?_⟩
  refine (pub_call (E := E) (Y := Yf) (G := GX) (J := JJ) (z := 442) (o := 110) (t := 1) (q := ct_M_gain) (as := [.inl x0, .inl x1]) (ds := [T32, T32, [(0, 200)], [(0, 200)]]) (ks := [(110, 8), (5, 2)]) (KS := KS) (all_ct 442 _ rfl) (show pubOk ct_M_gain 110 [false, false] [T32, T32, [(0, 200)], [(0, 200)]] [(110, 8), (5, 2)] = true by decide +kernel) ⟨in32 _, in32 _, r0 v3 (k := (110, 8)) (by decide), r0 v3 (k := (5, 2)) (by decide), trivial⟩ (by decide +kernel) v4).mono (fun v' σ2 hw => ?_)
  obtain ⟨w1, w2, w3, w4, w5⟩ := hw
  exact ⟨w1 rfl, w4, w3, (h.2.2.keep (q := ct_H_gain) (by decide +kernel) v5).keep (q := ct_M_gain) (by decide +kernel) w5⟩
theorem LC_59_ok {E : xV} {σ : zS} (h : J0 σ) : LC_59 E σ J0 := by
  intro x0 x1
  refine (pub_call (E := E) (Y := Yf) (G := GX) (J := JJ) (z := 217) (o := 0) (t := 1) (q := ct_H_label) (as := [.inl x0, .inl x1]) (ds := [T32, T32, [(0, 200)], [(0, 200)]]) (ks := [(110, 8), (5, 2)]) (KS := KS) (all_ct 217 _ rfl) (show pubOk ct_H_label 0 [false, false] [T32, T32, [(0, 200)], [(0, 200)]] [(110, 8), (5, 2)] = true by decide +kernel) ⟨in32 _, in32 _, r0 h.2.1 (k := (110, 8)) (by decide), r0 h.2.1 (k := (5, 2)) (by decide), trivial⟩ (by decide +kernel) h.1).mono (fun v σ1 hv => ?_)
  obtain ⟨v1, v2, v3, v4, v5⟩ := hv
  obtain ⟨r, hr⟩ := v1 rfl
  refine ⟨r, hr, ?_⟩
  refine (pub_call (E := E) (Y := Yf) (G := GX) (J := JJ) (z := 444) (o := 110) (t := 1) (q := ct_M_label) (as := [.inl x0, .inl x1]) (ds := [T32, T32, [(0, 200)], [(0, 200)]]) (ks := [(110, 8), (5, 2)]) (KS := KS) (all_ct 444 _ rfl) (show pubOk ct_M_label 110 [false, false] [T32, T32, [(0, 200)], [(0, 200)]] [(110, 8), (5, 2)] = true by decide +kernel) ⟨in32 _, in32 _, r0 v3 (k := (110, 8)) (by decide), r0 v3 (k := (5, 2)) (by decide), trivial⟩ (by decide +kernel) v4).mono (fun v' σ2 hw => ?_)
  obtain ⟨w1, w2, w3, w4, w5⟩ := hw
  exact ⟨w1 rfl, w4, w3, (h.2.2.keep (q := ct_H_label) (by decide +kernel) v5).keep (q := ct_M_label) (by decide +kernel) w5⟩
theorem LC_60_ok {E : xV} {σ : zS} (h : J0 σ) : LC_60 E σ J0 := by
  intro x0 x1 x2 x3
  refine (pub_call (E := E) (Y := Yf) (G := GX) (J := JJ) (z := 224) (o := 0) (t := 1) (q := ct_H_statement) (as := [.inl x0, .inl x1, .inl x2, .inl x3]) (ds := [T32, T32, T32, T32, [(0, 200)], [(0, 200)]]) (ks := [(110, 8), (5, 2)]) (KS := KS) (all_ct 224 _ rfl) (show pubOk ct_H_statement 0 [false, false, false, false] [T32, T32, T32, T32, [(0, 200)], [(0, 200)]] [(110, 8), (5, 2)] = true by decide +kernel) ⟨in32 _, in32 _, in32 _, in32 _, r0 h.2.1 (k := (110, 8)) (by decide), r0 h.2.1 (k := (5, 2)) (by decide), trivial⟩ (by decide +kernel) h.1).mono (fun v σ1 hv => ?_)
  obtain ⟨v1, v2, v3, v4, v5⟩ := hv
  obtain ⟨r, hr⟩ := v1 rfl
  refine ⟨r, hr, ?_⟩
  refine (pub_call (E := E) (Y := Yf) (G := GX) (J := JJ) (z := 447) (o := 110) (t := 1) (q := ct_M_statement) (as := [.inl x0, .inl x1, .inl x2, .inl x3]) (ds := [T32, T32, T32, T32, [(0, 200)], [(0, 200)]]) (ks := [(110, 8), (5, 2)]) (KS := KS) (all_ct 447 _ rfl) (show pubOk ct_M_statement 110 [false, false, false, false] [T32, T32, T32, T32, [(0, 200)], [(0, 200)]] [(110, 8), (5, 2)] = true by decide +kernel) ⟨in32 _, in32 _, in32 _, in32 _, r0 v3 (k := (110, 8)) (by decide), r0 v3 (k := (5, 2)) (by decide), trivial⟩ (by decide +kernel) v4).mono (fun v' σ2 hw => ?_)
  obtain ⟨w1, w2, w3, w4, w5⟩ := hw
  exact ⟨w1 rfl, w4, w3, (h.2.2.keep (q := ct_H_statement) (by decide +kernel) v5).keep (q := ct_M_statement) (by decide +kernel) w5⟩
theorem LC_61_ok {E : xV} {σ : zS} (h : J0 σ) : LC_61 E σ J0 := by
  refine (pub_call (E := E) (Y := Yf) (G := GX) (J := JJ) (z := 225) (o := 0) (t := 1) (q := ct_H_erase) (as := []) (ds := [[(0, 200)], [(0, 200)]]) (ks := [(110, 8), (5, 2)]) (KS := KS) (all_ct 225 _ rfl) (show pubOk ct_H_erase 0 [] [[(0, 200)], [(0, 200)]] [(110, 8), (5, 2)] = true by decide +kernel) ⟨r0 h.2.1 (k := (110, 8)) (by decide), r0 h.2.1 (k := (5, 2)) (by decide), trivial⟩ (by decide +kernel) h.1).mono (fun v σ1 hv => ?_)
  obtain ⟨v1, v2, v3, v4, v5⟩ := hv
  obtain ⟨r, hr⟩ := v1 rfl
  refine ⟨r, hr, ?_⟩
  refine (pub_call (E := E) (Y := Yf) (G := GX) (J := JJ) (z := 448) (o := 110) (t := 1) (q := ct_M_erase) (as := []) (ds := [[(0, 200)], [(0, 200)]]) (ks := [(110, 8), (5, 2)]) (KS := KS) (all_ct 448 _ rfl) (show pubOk ct_M_erase 110 [] [[(0, 200)], [(0, 200)]] [(110, 8), (5, 2)] = true by decide +kernel) ⟨r0 v3 (k := (110, 8)) (by decide), r0 v3 (k := (5, 2)) (by decide), trivial⟩ (by decide +kernel) v4).mono (fun v' σ2 hw => ?_)
  obtain ⟨w1, w2, w3, w4, w5⟩ := hw
  exact ⟨w1 rfl, w4, w3, (h.2.2.keep (q := ct_H_erase) (by decide +kernel) v5).keep (q := ct_M_erase) (by decide +kernel) w5⟩
theorem LC_62_ok {E : xV} {σ : zS} (h : J0 σ) : LC_62 E σ J0 := by
  refine (pub_call (E := E) (Y := Yf) (G := GX) (J := JJ) (z := 229) (o := 0) (t := 1) (q := ct_H_tight) (as := []) (ds := [[(0, 200)], [(0, 200)]]) (ks := [(110, 8), (5, 2)]) (KS := KS) (all_ct 229 _ rfl) (show pubOk ct_H_tight 0 [] [[(0, 200)], [(0, 200)]] [(110, 8), (5, 2)] = true by decide +kernel) ⟨r0 h.2.1 (k := (110, 8)) (by decide), r0 h.2.1 (k := (5, 2)) (by decide), trivial⟩ (by decide +kernel) h.1).mono (fun v σ1 hv => ?_)
  obtain ⟨v1, v2, v3, v4, v5⟩ := hv
  obtain ⟨r, hr⟩ := v1 rfl
  refine ⟨r, hr, ?_⟩
  refine (pub_call (E := E) (Y := Yf) (G := GX) (J := JJ) (z := 449) (o := 110) (t := 1) (q := ct_M_tight) (as := []) (ds := [[(0, 200)], [(0, 200)]]) (ks := [(110, 8), (5, 2)]) (KS := KS) (all_ct 449 _ rfl) (show pubOk ct_M_tight 110 [] [[(0, 200)], [(0, 200)]] [(110, 8), (5, 2)] = true by decide +kernel) ⟨r0 v3 (k := (110, 8)) (by decide), r0 v3 (k := (5, 2)) (by decide), trivial⟩ (by decide +kernel) v4).mono (fun v' σ2 hw => ?_)
  obtain ⟨w1, w2, w3, w4, w5⟩ := hw
  exact ⟨w1 rfl, w4, w3, (h.2.2.keep (q := ct_H_tight) (by decide +kernel) v5).keep (q := ct_M_tight) (by decide +kernel) w5⟩
theorem LC_63_ok {E : xV} {σ : zS} (h : J0 σ) : LC_63 E σ J0 := by
  refine (pub_call (E := E) (Y := Yf) (G := GX) (J := JJ) (z := 231) (o := 0) (t := 1) (q := ct_H_lowered) (as := []) (ds := [[(0, 200)], [(0, 200)]]) (ks := [(110, 8), (5, 2)]) (KS := KS) (all_ct 231 _ rfl) (show pubOk ct_H_lowered 0 [] [[(0, 200)], [(0, 200)]] [(110, 8), (5, 2)] = true by decide +kernel) ⟨r0 h.2.1 (k := (110, 8)) (by decide), r0 h.2.1 (k := (5, 2)) (by decide), trivial⟩ (by decide +kernel) h.1).mono (fun v σ1 hv => ?_)
  obtain ⟨v1, v2, v3, v4, v5⟩ := hv
  obtain ⟨r, hr⟩ := v1 rfl
  refine ⟨r, hr, ?_⟩
  refine (pub_call (E := E) (Y := Yf) (G := GX) (J := JJ) (z := 450) (o := 110) (t := 1) (q := ct_M_lowered) (as := []) (ds := [[(0, 200)], [(0, 200)]]) (ks := [(110, 8), (5, 2)]) (KS := KS) (all_ct 450 _ rfl) (show pubOk ct_M_lowered 110 [] [[(0, 200)], [(0, 200)]] [(110, 8), (5, 2)] = true by decide +kernel) ⟨r0 v3 (k := (110, 8)) (by decide), r0 v3 (k := (5, 2)) (by decide), trivial⟩ (by decide +kernel) v4).mono (fun v' σ2 hw => ?_)
  obtain ⟨w1, w2, w3, w4, w5⟩ := hw
  exact ⟨w1 rfl, w4, w3, (h.2.2.keep (q := ct_H_lowered) (by decide +kernel) v5).keep (q := ct_M_lowered) (by decide +kernel) w5⟩
theorem LC_64_ok {E : xV} {σ : zS} (h : J0 σ) : LC_64 E σ J0 := by
  intro x0 x1
  refine (pub_call (E := E) (Y := Yf) (G := GX) (J := JJ) (z := 232) (o := 0) (t := 1) (q := ct_H_given) (as := [.inl x0, .inl x1]) (ds := [T32, T32, [(0, 200)], [(0, 200)]]) (ks := [(110, 8), (5, 2)]) (KS := KS) (all_ct 232 _ rfl) (show pubOk ct_H_given 0 [false, false] [T32, T32, [(0, 200)], [(0, 200)]] [(110, 8), (5, 2)] = true by decide +kernel) ⟨in32 _, in32 _, r0 h.2.1 (k := (110, 8)) (by decide), r0 h.2.1 (k := (5, 2)) (by decide), trivial⟩ (by decide +kernel) h.1).mono (fun v σ1 hv => ?_)
  obtain ⟨v1, v2, v3, v4, v5⟩ := hv
  obtain ⟨r, hr⟩ := v1 rfl
  refine ⟨r, hr, ?_⟩
  refine (pub_call (E := E) (Y := Yf) (G := GX) (J := JJ) (z := 451) (o := 110) (t := 1) (q := ct_M_given) (as := [.inl x0, .inl x1]) (ds := [T32, T32, [(0, 200)], [(0, 200)]]) (ks := [(110, 8), (5, 2)]) (KS := KS) (all_ct 451 _ rfl) (show pubOk ct_M_given 110 [false, false] [T32, T32, [(0, 200)], [(0, 200)]] [(110, 8), (5, 2)] = true by decide +kernel) ⟨in32 _, in32 _, r0 v3 (k := (110, 8)) (by decide), r0 v3 (k := (5, 2)) (by decide), trivial⟩ (by decide +kernel) v4).mono (fun v' σ2 hw => ?_)
  obtain ⟨w1, w2, w3, w4, w5⟩ := hw
  exact ⟨w1 rfl, w4, w3, (h.2.2.keep (q := ct_H_given) (by decide +kernel) v5).keep (q := ct_M_given) (by decide +kernel) w5⟩
theorem LC_65_ok {E : xV} {σ : zS} (h : J0 σ) : LC_65 E σ J0 := by
  intro x0
  refine (pub_call (E := E) (Y := Yf) (G := GX) (J := JJ) (z := 238) (o := 0) (t := 1) (q := ct_H_flow) (as := [.inl x0]) (ds := [T32, [(0, 200)], [(0, 200)]]) (ks := [(110, 8), (5, 2)]) (KS := KS) (all_ct 238 _ rfl) (show pubOk ct_H_flow 0 [false] [T32, [(0, 200)], [(0, 200)]] [(110, 8), (5, 2)] = true by decide +kernel) ⟨in32 _, r0 h.2.1 (k := (110, 8)) (by decide), r0 h.2.1 (k := (5, 2)) (by decide), trivial⟩ (by decide +kernel) h.1).mono (fun v σ1 hv => ?_)
  obtain ⟨v1, v2, v3, v4, v5⟩ := hv
  obtain ⟨r, hr⟩ := v1 rfl
  refine ⟨r, hr, ?_⟩
  refine (pub_call (E := E) (Y := Yf) (G := GX) (J := JJ) (z := 453) (o := 110) (t := 1) (q := ct_M_flow) (as := [.inl x0]) (ds := [T32, [(0, 200)], [(0, 200)]]) (ks := [(110, 8), (5, 2)]) (KS := KS) (all_ct 453 _ rfl) (show pubOk ct_M_flow 110 [false] [T32, [(0, 200)], [(0, 200)]] [(110, 8), (5, 2)] = true by decide +kernel) ⟨in32 _, r0 v3 (k := (110, 8)) (by decide), r0 v3 (k := (5, 2)) (by decide), trivial⟩ (by decide +kernel) v4).mono (fun v' σ2 hw => ?_)
  obtain ⟨w1, w2, w3, w4, w5⟩ := hw
  exact ⟨w1 rfl, w4, w3, (h.2.2.keep (q := ct_H_flow) (by decide +kernel) v5).keep (q := ct_M_flow) (by decide +kernel) w5⟩
theorem LC_66_ok {E : xV} {σ : zS} (h : J0 σ) : LC_66 E σ J0 := by
  intro x0 x1
  refine (pub_call (E := E) (Y := Yf) (G := GX) (J := JJ) (z := 239) (o := 0) (t := 1) (q := ct_H_said) (as := [.inl x0, .inl x1]) (ds := [T32, T32, [(0, 200)], [(0, 200)]]) (ks := [(110, 8), (5, 2)]) (KS := KS) (all_ct 239 _ rfl) (show pubOk ct_H_said 0 [false, false] [T32, T32, [(0, 200)], [(0, 200)]] [(110, 8), (5, 2)] = true by decide +kernel) ⟨in32 _, in32 _, r0 h.2.1 (k := (110, 8)) (by decide), r0 h.2.1 (k := (5, 2)) (by decide), trivial⟩ (by decide +kernel) h.1).mono (fun v σ1 hv => ?_)
  obtain ⟨v1, v2, v3, v4, v5⟩ := hv
  obtain ⟨r, hr⟩ := v1 rfl
  refine ⟨r, hr, ?_⟩
  refine (pub_call (E := E) (Y := Yf) (G := GX) (J := JJ) (z := 454) (o := 110) (t := 1) (q := ct_M_said) (as := [.inl x0, .inl x1]) (ds := [T32, T32, [(0, 200)], [(0, 200)]]) (ks := [(110, 8), (5, 2)]) (KS := KS) (all_ct 454 _ rfl) (show pubOk ct_M_said 110 [false, false] [T32, T32, [(0, 200)], [(0, 200)]] [(110, 8), (5, 2)] = true by decide +kernel) ⟨in32 _, in32 _, r0 v3 (k := (110, 8)) (by decide), r0 v3 (k := (5, 2)) (by decide), trivial⟩ (by decide +kernel) v4).mono (fun v' σ2 hw => ?_)
  obtain ⟨w1, w2, w3, w4, w5⟩ := hw
  exact ⟨w1 rfl, w4, w3, (h.2.2.keep (q := ct_H_said) (by decide +kernel) v5).keep (q := ct_M_said) (by decide +kernel) w5⟩
theorem LC_67_ok {E : xV} {σ : zS} (h : J0 σ) : LC_67 E σ J0 := by
  intro x0
  refine (pub_call (E := E) (Y := Yf) (G := GX) (J := JJ) (z := 240) (o := 0) (t := 1) (q := ct_H_variable) (as := [.inl x0]) (ds := [T32, [(0, 200)], [(0, 200)]]) (ks := [(110, 8), (5, 2)]) (KS := KS) (all_ct 240 _ rfl) (show pubOk ct_H_variable 0 [false] [T32, [(0, 200)], [(0, 200)]] [(110, 8), (5, 2)] = true by decide +kernel) ⟨in32 _, r0 h.2.1 (k := (110, 8)) (by decide), r0 h.2.1 (k := (5, 2)) (by decide), trivial⟩ (by decide +kernel) h.1).mono (fun v σ1 hv => ?_)
  obtain ⟨v1, v2, v3, v4, v5⟩ := hv
  obtain ⟨r, hr⟩ := v1 rfl
  refine ⟨r, hr, ?_⟩
  refine (pub_call (E := E) (Y := Yf) (G := GX) (J := JJ) (z := 455) (o := 110) (t := 1) (q := ct_M_variable) (as := [.inl x0]) (ds := [T32, [(0, 200)], [(0, 200)]]) (ks := [(110, 8), (5, 2)]) (KS := KS) (all_ct 455 _ rfl) (show pubOk ct_M_variable 110 [false] [T32, [(0, 200)], [(0, 200)]] [(110, 8), (5, 2)] = true by decide +kernel) ⟨in32 _, r0 v3 (k := (110, 8)) (by decide), r0 v3 (k := (5, 2)) (by decide), trivial⟩ (by decide +kernel) v4).mono (fun v' σ2 hw => ?_)
  obtain ⟨w1, w2, w3, w4, w5⟩ := hw
  exact ⟨w1 rfl, w4, w3, (h.2.2.keep (q := ct_H_variable) (by decide +kernel) v5).keep (q := ct_M_variable) (by decide +kernel) w5⟩
theorem LC_68_ok {E : xV} {σ : zS} (h : J0 σ) : LC_68 E σ J0 := by
  intro x0 x1
  refine (pub_call (E := E) (Y := Yf) (G := GX) (J := JJ) (z := 242) (o := 0) (t := 3) (q := ct_H_guarded) (as := [.inl x0, .inr x1]) (ds := [T32, T64, [(0, 200)], [(0, 200)]]) (ks := [(110, 8), (5, 2)]) (KS := KS) (all_ct 242 _ rfl) (show pubOk ct_H_guarded 0 [false, true] [T32, T64, [(0, 200)], [(0, 200)]] [(110, 8), (5, 2)] = true by decide +kernel) ⟨in32 _, in64 _, r0 h.2.1 (k := (110, 8)) (by decide), r0 h.2.1 (k := (5, 2)) (by decide), trivial⟩ (by decide +kernel) h.1).mono (fun v σ1 hv => ?_)
  obtain ⟨v1, v2, v3, v4, v5⟩ := hv
  obtain ⟨r, hr⟩ := v2 rfl
  refine ⟨r, hr, ?_⟩
  refine (pub_call (E := E) (Y := Yf) (G := GX) (J := JJ) (z := 456) (o := 110) (t := 3) (q := ct_M_guarded) (as := [.inl x0, .inr x1]) (ds := [T32, T64, [(0, 200)], [(0, 200)]]) (ks := [(110, 8), (5, 2)]) (KS := KS) (all_ct 456 _ rfl) (show pubOk ct_M_guarded 110 [false, true] [T32, T64, [(0, 200)], [(0, 200)]] [(110, 8), (5, 2)] = true by decide +kernel) ⟨in32 _, in64 _, r0 v3 (k := (110, 8)) (by decide), r0 v3 (k := (5, 2)) (by decide), trivial⟩ (by decide +kernel) v4).mono (fun v' σ2 hw => ?_)
  obtain ⟨w1, w2, w3, w4, w5⟩ := hw
  exact ⟨w2 rfl, w4, w3, (h.2.2.keep (q := ct_H_guarded) (by decide +kernel) v5).keep (q := ct_M_guarded) (by decide +kernel) w5⟩
theorem LC_69_ok {E : xV} {σ : zS} (h : J0 σ) : LC_69 E σ J0 := by
  intro x0 x1
  refine (pub_call (E := E) (Y := Yf) (G := GX) (J := JJ) (z := 250) (o := 0) (t := 3) (q := ct_H_sum) (as := [.inl x0, .inr x1]) (ds := [T32, T64, [(0, 200)], [(0, 200)]]) (ks := [(110, 8), (5, 2)]) (KS := KS) (all_ct 250 _ rfl) (show pubOk ct_H_sum 0 [false, true] [T32, T64, [(0, 200)], [(0, 200)]] [(110, 8), (5, 2)] = true by decide +kernel) ⟨in32 _, in64 _, r0 h.2.1 (k := (110, 8)) (by decide), r0 h.2.1 (k := (5, 2)) (by decide), trivial⟩ (by decide +kernel) h.1).mono (fun v σ1 hv => ?_)
  obtain ⟨v1, v2, v3, v4, v5⟩ := hv
  obtain ⟨r, hr⟩ := v2 rfl
  refine ⟨r, hr, ?_⟩
  refine (pub_call (E := E) (Y := Yf) (G := GX) (J := JJ) (z := 464) (o := 110) (t := 3) (q := ct_M_sum) (as := [.inl x0, .inr x1]) (ds := [T32, T64, [(0, 200)], [(0, 200)]]) (ks := [(110, 8), (5, 2)]) (KS := KS) (all_ct 464 _ rfl) (show pubOk ct_M_sum 110 [false, true] [T32, T64, [(0, 200)], [(0, 200)]] [(110, 8), (5, 2)] = true by decide +kernel) ⟨in32 _, in64 _, r0 v3 (k := (110, 8)) (by decide), r0 v3 (k := (5, 2)) (by decide), trivial⟩ (by decide +kernel) v4).mono (fun v' σ2 hw => ?_)
  obtain ⟨w1, w2, w3, w4, w5⟩ := hw
  exact ⟨w2 rfl, w4, w3, (h.2.2.keep (q := ct_H_sum) (by decide +kernel) v5).keep (q := ct_M_sum) (by decide +kernel) w5⟩
theorem LC_70_ok {E : xV} {σ : zS} (h : J0 σ) : LC_70 E σ J0 := by
  intro x0 x1
  refine (pub_call (E := E) (Y := Yf) (G := GX) (J := JJ) (z := 252) (o := 0) (t := 1) (q := ct_H_share) (as := [.inl x0, .inl x1]) (ds := [T32, T32, [(0, 200)], [(0, 200)]]) (ks := [(110, 8), (5, 2)]) (KS := KS) (all_ct 252 _ rfl) (show pubOk ct_H_share 0 [false, false] [T32, T32, [(0, 200)], [(0, 200)]] [(110, 8), (5, 2)] = true by decide +kernel) ⟨in32 _, in32 _, r0 h.2.1 (k := (110, 8)) (by decide), r0 h.2.1 (k := (5, 2)) (by decide), trivial⟩ (by decide +kernel) h.1).mono (fun v σ1 hv => ?_)
  obtain ⟨v1, v2, v3, v4, v5⟩ := hv
  obtain ⟨r, hr⟩ := v1 rfl
  refine ⟨r, hr, ?_⟩
  refine (pub_call (E := E) (Y := Yf) (G := GX) (J := JJ) (z := 465) (o := 110) (t := 1) (q := ct_M_share) (as := [.inl x0, .inl x1]) (ds := [T32, T32, [(0, 200)], [(0, 200)]]) (ks := [(110, 8), (5, 2)]) (KS := KS) (all_ct 465 _ rfl) (show pubOk ct_M_share 110 [false, false] [T32, T32, [(0, 200)], [(0, 200)]] [(110, 8), (5, 2)] = true by decide +kernel) ⟨in32 _, in32 _, r0 v3 (k := (110, 8)) (by decide), r0 v3 (k := (5, 2)) (by decide), trivial⟩ (by decide +kernel) v4).mono (fun v' σ2 hw => ?_)
  obtain ⟨w1, w2, w3, w4, w5⟩ := hw
  exact ⟨w1 rfl, w4, w3, (h.2.2.keep (q := ct_H_share) (by decide +kernel) v5).keep (q := ct_M_share) (by decide +kernel) w5⟩
theorem LC_71_ok {E : xV} {σ : zS} (h : J0 σ) : LC_71 E σ J0 := by
  intro x0 x1
  refine (pub_call (E := E) (Y := Yf) (G := GX) (J := JJ) (z := 255) (o := 0) (t := 1) (q := ct_H_knows) (as := [.inl x0, .inl x1]) (ds := [T32, T32, [(0, 200)], [(0, 200)]]) (ks := [(110, 8), (5, 2)]) (KS := KS) (all_ct 255 _ rfl) (show pubOk ct_H_knows 0 [false, false] [T32, T32, [(0, 200)], [(0, 200)]] [(110, 8), (5, 2)] = true by decide +kernel) ⟨in32 _, in32 _, r0 h.2.1 (k := (110, 8)) (by decide), r0 h.2.1 (k := (5, 2)) (by decide), trivial⟩ (by decide +kernel) h.1).mono (fun v σ1 hv => ?_)
  obtain ⟨v1, v2, v3, v4, v5⟩ := hv
  obtain ⟨r, hr⟩ := v1 rfl
  refine ⟨r, hr, ?_⟩
  refine (pub_call (E := E) (Y := Yf) (G := GX) (J := JJ) (z := 466) (o := 110) (t := 1) (q := ct_M_knows) (as := [.inl x0, .inl x1]) (ds := [T32, T32, [(0, 200)], [(0, 200)]]) (ks := [(110, 8), (5, 2)]) (KS := KS) (all_ct 466 _ rfl) (show pubOk ct_M_knows 110 [false, false] [T32, T32, [(0, 200)], [(0, 200)]] [(110, 8), (5, 2)] = true by decide +kernel) ⟨in32 _, in32 _, r0 v3 (k := (110, 8)) (by decide), r0 v3 (k := (5, 2)) (by decide), trivial⟩ (by decide +kernel) v4).mono (fun v' σ2 hw => ?_)
  obtain ⟨w1, w2, w3, w4, w5⟩ := hw
  exact ⟨w1 rfl, w4, w3, (h.2.2.keep (q := ct_H_knows) (by decide +kernel) v5).keep (q := ct_M_knows) (by decide +kernel) w5⟩
theorem LC_72_ok {E : xV} {σ : zS} (h : J0 σ) : LC_72 E σ J0 := by
  intro x0
  refine (pub_call (E := E) (Y := Yf) (G := GX) (J := JJ) (z := 258) (o := 0) (t := 1) (q := ct_H_room) (as := [.inl x0]) (ds := [T32, [(0, 200)], [(0, 200)]]) (ks := [(110, 8), (5, 2)]) (KS := KS) (all_ct 258 _ rfl) (show pubOk ct_H_room 0 [false] [T32, [(0, 200)], [(0, 200)]] [(110, 8), (5, 2)] = true by decide +kernel) ⟨in32 _, r0 h.2.1 (k := (110, 8)) (by decide), r0 h.2.1 (k := (5, 2)) (by decide), trivial⟩ (by decide +kernel) h.1).mono (fun v σ1 hv => ?_)
  obtain ⟨v1, v2, v3, v4, v5⟩ := hv
  obtain ⟨r, hr⟩ := v1 rfl
  refine ⟨r, hr, ?_⟩
  refine (pub_call (E := E) (Y := Yf) (G := GX) (J := JJ) (z := 467) (o := 110) (t := 1) (q := ct_M_room) (as := [.inl x0]) (ds := [T32, [(0, 200)], [(0, 200)]]) (ks := [(110, 8), (5, 2)]) (KS := KS) (all_ct 467 _ rfl) (show pubOk ct_M_room 110 [false] [T32, [(0, 200)], [(0, 200)]] [(110, 8), (5, 2)] = true by decide +kernel) ⟨in32 _, r0 v3 (k := (110, 8)) (by decide), r0 v3 (k := (5, 2)) (by decide), trivial⟩ (by decide +kernel) v4).mono (fun v' σ2 hw => ?_)
  obtain ⟨w1, w2, w3, w4, w5⟩ := hw
  exact ⟨w1 rfl, w4, w3, (h.2.2.keep (q := ct_H_room) (by decide +kernel) v5).keep (q := ct_M_room) (by decide +kernel) w5⟩
theorem LC_73_ok {E : xV} {σ : zS} (h : J0 σ) : LC_73 E σ J0 := by
  intro x0
  refine (pub_call (E := E) (Y := Yf) (G := GX) (J := JJ) (z := 260) (o := 0) (t := 1) (q := ct_H_method) (as := [.inl x0]) (ds := [T32, [(0, 200)], [(0, 200)]]) (ks := [(110, 8), (5, 2)]) (KS := KS) (all_ct 260 _ rfl) (show pubOk ct_H_method 0 [false] [T32, [(0, 200)], [(0, 200)]] [(110, 8), (5, 2)] = true by decide +kernel) ⟨in32 _, r0 h.2.1 (k := (110, 8)) (by decide), r0 h.2.1 (k := (5, 2)) (by decide), trivial⟩ (by decide +kernel) h.1).mono (fun v σ1 hv => ?_)
  obtain ⟨v1, v2, v3, v4, v5⟩ := hv
  obtain ⟨r, hr⟩ := v1 rfl
  refine ⟨r, hr, ?_⟩
  refine (pub_call (E := E) (Y := Yf) (G := GX) (J := JJ) (z := 468) (o := 110) (t := 1) (q := ct_M_method) (as := [.inl x0]) (ds := [T32, [(0, 200)], [(0, 200)]]) (ks := [(110, 8), (5, 2)]) (KS := KS) (all_ct 468 _ rfl) (show pubOk ct_M_method 110 [false] [T32, [(0, 200)], [(0, 200)]] [(110, 8), (5, 2)] = true by decide +kernel) ⟨in32 _, r0 v3 (k := (110, 8)) (by decide), r0 v3 (k := (5, 2)) (by decide), trivial⟩ (by decide +kernel) v4).mono (fun v' σ2 hw => ?_)
  obtain ⟨w1, w2, w3, w4, w5⟩ := hw
  exact ⟨w1 rfl, w4, w3, (h.2.2.keep (q := ct_H_method) (by decide +kernel) v5).keep (q := ct_M_method) (by decide +kernel) w5⟩
theorem LC_74_ok {E : xV} {σ : zS} (h : J0 σ) : LC_74 E σ J0 := by
  intro x0 x1 x2 x3
  refine (pub_call (E := E) (Y := Yf) (G := GX) (J := JJ) (z := 263) (o := 0) (t := 1) (q := ct_H_op) (as := [.inl x0, .inl x1, .inl x2, .inl x3]) (ds := [T32, T32, T32, T32, [(0, 200)], [(0, 200)]]) (ks := [(110, 8), (5, 2)]) (KS := KS) (all_ct 263 _ rfl) (show pubOk ct_H_op 0 [false, false, false, false] [T32, T32, T32, T32, [(0, 200)], [(0, 200)]] [(110, 8), (5, 2)] = true by decide +kernel) ⟨in32 _, in32 _, in32 _, in32 _, r0 h.2.1 (k := (110, 8)) (by decide), r0 h.2.1 (k := (5, 2)) (by decide), trivial⟩ (by decide +kernel) h.1).mono (fun v σ1 hv => ?_)
  obtain ⟨v1, v2, v3, v4, v5⟩ := hv
  obtain ⟨r, hr⟩ := v1 rfl
  refine ⟨r, hr, ?_⟩
  refine (pub_call (E := E) (Y := Yf) (G := GX) (J := JJ) (z := 469) (o := 110) (t := 1) (q := ct_M_op) (as := [.inl x0, .inl x1, .inl x2, .inl x3]) (ds := [T32, T32, T32, T32, [(0, 200)], [(0, 200)]]) (ks := [(110, 8), (5, 2)]) (KS := KS) (all_ct 469 _ rfl) (show pubOk ct_M_op 110 [false, false, false, false] [T32, T32, T32, T32, [(0, 200)], [(0, 200)]] [(110, 8), (5, 2)] = true by decide +kernel) ⟨in32 _, in32 _, in32 _, in32 _, r0 v3 (k := (110, 8)) (by decide), r0 v3 (k := (5, 2)) (by decide), trivial⟩ (by decide +kernel) v4).mono (fun v' σ2 hw => ?_)
  obtain ⟨w1, w2, w3, w4, w5⟩ := hw
  exact ⟨w1 rfl, w4, w3, (h.2.2.keep (q := ct_H_op) (by decide +kernel) v5).keep (q := ct_M_op) (by decide +kernel) w5⟩
theorem LC_75_ok {E : xV} {σ : zS} (h : J0 σ) : LC_75 E σ J0 := by
  intro x0 x1
  refine (pub_call (E := E) (Y := Yf) (G := GX) (J := JJ) (z := 271) (o := 0) (t := 1) (q := ct_H_enter) (as := [.inl x0, .inl x1]) (ds := [T32, T32, [(0, 200)], [(0, 200)]]) (ks := [(110, 8), (5, 2)]) (KS := KS) (all_ct 271 _ rfl) (show pubOk ct_H_enter 0 [false, false] [T32, T32, [(0, 200)], [(0, 200)]] [(110, 8), (5, 2)] = true by decide +kernel) ⟨in32 _, in32 _, r0 h.2.1 (k := (110, 8)) (by decide), r0 h.2.1 (k := (5, 2)) (by decide), trivial⟩ (by decide +kernel) h.1).mono (fun v σ1 hv => ?_)
  obtain ⟨v1, v2, v3, v4, v5⟩ := hv
  obtain ⟨r, hr⟩ := v1 rfl
  refine ⟨r, hr, ?_⟩
  refine (pub_call (E := E) (Y := Yf) (G := GX) (J := JJ) (z := 473) (o := 110) (t := 1) (q := ct_M_enter) (as := [.inl x0, .inl x1]) (ds := [T32, T32, [(0, 200)], [(0, 200)]]) (ks := [(110, 8), (5, 2)]) (KS := KS) (all_ct 473 _ rfl) (show pubOk ct_M_enter 110 [false, false] [T32, T32, [(0, 200)], [(0, 200)]] [(110, 8), (5, 2)] = true by decide +kernel) ⟨in32 _, in32 _, r0 v3 (k := (110, 8)) (by decide), r0 v3 (k := (5, 2)) (by decide), trivial⟩ (by decide +kernel) v4).mono (fun v' σ2 hw => ?_)
  obtain ⟨w1, w2, w3, w4, w5⟩ := hw
  exact ⟨w1 rfl, w4, w3, (h.2.2.keep (q := ct_H_enter) (by decide +kernel) v5).keep (q := ct_M_enter) (by decide +kernel) w5⟩
theorem LC_76_ok {E : xV} {σ : zS} (h : J0 σ) : LC_76 E σ J0 := by
  intro x0
  refine (pub_call (E := E) (Y := Yf) (G := GX) (J := JJ) (z := 272) (o := 0) (t := 1) (q := ct_H_entered) (as := [.inl x0]) (ds := [T32, [(0, 200)], [(0, 200)]]) (ks := [(110, 8), (5, 2)]) (KS := KS) (all_ct 272 _ rfl) (show pubOk ct_H_entered 0 [false] [T32, [(0, 200)], [(0, 200)]] [(110, 8), (5, 2)] = true by decide +kernel) ⟨in32 _, r0 h.2.1 (k := (110, 8)) (by decide), r0 h.2.1 (k := (5, 2)) (by decide), trivial⟩ (by decide +kernel) h.1).mono (fun v σ1 hv => ?_)
  obtain ⟨v1, v2, v3, v4, v5⟩ := hv
  obtain ⟨r, hr⟩ := v1 rfl
  refine ⟨r, hr, ?_⟩
  refine (pub_call (E := E) (Y := Yf) (G := GX) (J := JJ) (z := 474) (o := 110) (t := 1) (q := ct_M_entered) (as := [.inl x0]) (ds := [T32, [(0, 200)], [(0, 200)]]) (ks := [(110, 8), (5, 2)]) (KS := KS) (all_ct 474 _ rfl) (show pubOk ct_M_entered 110 [false] [T32, [(0, 200)], [(0, 200)]] [(110, 8), (5, 2)] = true by decide +kernel) ⟨in32 _, r0 v3 (k := (110, 8)) (by decide), r0 v3 (k := (5, 2)) (by decide), trivial⟩ (by decide +kernel) v4).mono (fun v' σ2 hw => ?_)
  obtain ⟨w1, w2, w3, w4, w5⟩ := hw
  exact ⟨w1 rfl, w4, w3, (h.2.2.keep (q := ct_H_entered) (by decide +kernel) v5).keep (q := ct_M_entered) (by decide +kernel) w5⟩
theorem LC_77_ok {E : xV} {σ : zS} (h : J0 σ) : LC_77 E σ J0 := by
  intro x0 x1
  refine (pub_call (E := E) (Y := Yf) (G := GX) (J := JJ) (z := 274) (o := 0) (t := 1) (q := ct_H_half) (as := [.inl x0, .inl x1]) (ds := [T32, T32, [(0, 200)], [(0, 200)]]) (ks := [(110, 8), (5, 2)]) (KS := KS) (all_ct 274 _ rfl) (show pubOk ct_H_half 0 [false, false] [T32, T32, [(0, 200)], [(0, 200)]] [(110, 8), (5, 2)] = true by decide +kernel) ⟨in32 _, in32 _, r0 h.2.1 (k := (110, 8)) (by decide), r0 h.2.1 (k := (5, 2)) (by decide), trivial⟩ (by decide +kernel) h.1).mono (fun v σ1 hv => ?_)
  obtain ⟨v1, v2, v3, v4, v5⟩ := hv
  obtain ⟨r, hr⟩ := v1 rfl
  refine ⟨r, hr, ?_⟩
  refine (pub_call (E := E) (Y := Yf) (G := GX) (J := JJ) (z := 476) (o := 110) (t := 1) (q := ct_M_half) (as := [.inl x0, .inl x1]) (ds := [T32, T32, [(0, 200)], [(0, 200)]]) (ks := [(110, 8), (5, 2)]) (KS := KS) (all_ct 476 _ rfl) (show pubOk ct_M_half 110 [false, false] [T32, T32, [(0, 200)], [(0, 200)]] [(110, 8), (5, 2)] = true by decide +kernel) ⟨in32 _, in32 _, r0 v3 (k := (110, 8)) (by decide), r0 v3 (k := (5, 2)) (by decide), trivial⟩ (by decide +kernel) v4).mono (fun v' σ2 hw => ?_)
  obtain ⟨w1, w2, w3, w4, w5⟩ := hw
  exact ⟨w1 rfl, w4, w3, (h.2.2.keep (q := ct_H_half) (by decide +kernel) v5).keep (q := ct_M_half) (by decide +kernel) w5⟩
theorem LC_78_ok {E : xV} {σ : zS} (h : J0 σ) : LC_78 E σ J0 := by
  refine (pub_call (E := E) (Y := Yf) (G := GX) (J := JJ) (z := 278) (o := 0) (t := 1) (q := ct_H_joined) (as := []) (ds := [[(0, 200)], [(0, 200)]]) (ks := [(110, 8), (5, 2)]) (KS := KS) (all_ct 278 _ rfl) (show pubOk ct_H_joined 0 [] [[(0, 200)], [(0, 200)]] [(110, 8), (5, 2)] = true by decide +kernel) ⟨r0 h.2.1 (k := (110, 8)) (by decide), r0 h.2.1 (k := (5, 2)) (by decide), trivial⟩ (by decide +kernel) h.1).mono (fun v σ1 hv => ?_)
  obtain ⟨v1, v2, v3, v4, v5⟩ := hv
  obtain ⟨r, hr⟩ := v1 rfl
  refine ⟨r, hr, ?_⟩
  refine (pub_call (E := E) (Y := Yf) (G := GX) (J := JJ) (z := 477) (o := 110) (t := 1) (q := ct_M_joined) (as := []) (ds := [[(0, 200)], [(0, 200)]]) (ks := [(110, 8), (5, 2)]) (KS := KS) (all_ct 477 _ rfl) (show pubOk ct_M_joined 110 [] [[(0, 200)], [(0, 200)]] [(110, 8), (5, 2)] = true by decide +kernel) ⟨r0 v3 (k := (110, 8)) (by decide), r0 v3 (k := (5, 2)) (by decide), trivial⟩ (by decide +kernel) v4).mono (fun v' σ2 hw => ?_)
  obtain ⟨w1, w2, w3, w4, w5⟩ := hw
  exact ⟨w1 rfl, w4, w3, (h.2.2.keep (q := ct_H_joined) (by decide +kernel) v5).keep (q := ct_M_joined) (by decide +kernel) w5⟩
theorem LC_79_ok {E : xV} {σ : zS} (h : J0 σ) : LC_79 E σ J0 := by
  intro x0 x1
  refine (pub_call (E := E) (Y := Yf) (G := GX) (J := JJ) (z := 279) (o := 0) (t := 1) (q := ct_H_logged) (as := [.inl x0, .inl x1]) (ds := [T32, T32, [(0, 200)], [(0, 200)]]) (ks := [(110, 8), (5, 2)]) (KS := KS) (all_ct 279 _ rfl) (show pubOk ct_H_logged 0 [false, false] [T32, T32, [(0, 200)], [(0, 200)]] [(110, 8), (5, 2)] = true by decide +kernel) ⟨in32 _, in32 _, r0 h.2.1 (k := (110, 8)) (by decide), r0 h.2.1 (k := (5, 2)) (by decide), trivial⟩ (by decide +kernel) h.1).mono (fun v σ1 hv => ?_)
  obtain ⟨v1, v2, v3, v4, v5⟩ := hv
  obtain ⟨r, hr⟩ := v1 rfl
  refine ⟨r, hr, ?_⟩
  refine (pub_call (E := E) (Y := Yf) (G := GX) (J := JJ) (z := 308) (o := 110) (t := 1) (q := ct_M_logged) (as := [.inl x0, .inl x1]) (ds := [T32, T32, [(0, 200)], [(0, 200)]]) (ks := [(110, 8), (5, 2)]) (KS := KS) (all_ct 308 _ rfl) (show pubOk ct_M_logged 110 [false, false] [T32, T32, [(0, 200)], [(0, 200)]] [(110, 8), (5, 2)] = true by decide +kernel) ⟨in32 _, in32 _, r0 v3 (k := (110, 8)) (by decide), r0 v3 (k := (5, 2)) (by decide), trivial⟩ (by decide +kernel) v4).mono (fun v' σ2 hw => ?_)
  obtain ⟨w1, w2, w3, w4, w5⟩ := hw
  exact ⟨w1 rfl, w4, w3, (h.2.2.keep (q := ct_H_logged) (by decide +kernel) v5).keep (q := ct_M_logged) (by decide +kernel) w5⟩
theorem LC_80_ok {E : xV} {σ : zS} (h : J0 σ) : LC_80 E σ J0 := by
  intro x0 x1 x2
  refine (pub_call (E := E) (Y := Yf) (G := GX) (J := JJ) (z := 280) (o := 0) (t := 1) (q := ct_H_forge) (as := [.inl x0, .inl x1, .inl x2]) (ds := [T32, T32, T32, [(0, 200)], [(0, 200)]]) (ks := [(110, 8), (5, 2)]) (KS := KS) (all_ct 280 _ rfl) (show pubOk ct_H_forge 0 [false, false, false] [T32, T32, T32, [(0, 200)], [(0, 200)]] [(110, 8), (5, 2)] = true by decide +kernel) ⟨in32 _, in32 _, in32 _, r0 h.2.1 (k := (110, 8)) (by decide), r0 h.2.1 (k := (5, 2)) (by decide), trivial⟩ (by decide +kernel) h.1).mono (fun v σ1 hv => ?_)
  obtain ⟨v1, v2, v3, v4, v5⟩ := hv
  obtain ⟨r, hr⟩ := v1 rfl
  refine ⟨r, hr, ?_⟩
  refine (pub_call (E := E) (Y := Yf) (G := GX) (J := JJ) (z := 309) (o := 110) (t := 1) (q := ct_M_forge) (as := [.inl x0, .inl x1, .inl x2]) (ds := [T32, T32, T32, [(0, 200)], [(0, 200)]]) (ks := [(110, 8), (5, 2)]) (KS := KS) (all_ct 309 _ rfl) (show pubOk ct_M_forge 110 [false, false, false] [T32, T32, T32, [(0, 200)], [(0, 200)]] [(110, 8), (5, 2)] = true by decide +kernel) ⟨in32 _, in32 _, in32 _, r0 v3 (k := (110, 8)) (by decide), r0 v3 (k := (5, 2)) (by decide), trivial⟩ (by decide +kernel) v4).mono (fun v' σ2 hw => ?_)
  obtain ⟨w1, w2, w3, w4, w5⟩ := hw
  exact ⟨w1 rfl, w4, w3, (h.2.2.keep (q := ct_H_forge) (by decide +kernel) v5).keep (q := ct_M_forge) (by decide +kernel) w5⟩
theorem LC_81_ok {E : xV} {σ : zS} (h : J0 σ) : LC_81 E σ J0 := by
  refine (pub_call (E := E) (Y := Yf) (G := GX) (J := JJ) (z := 281) (o := 0) (t := 1) (q := ct_H_wrong) (as := []) (ds := [[(0, 200)], [(0, 200)]]) (ks := [(110, 8), (5, 2)]) (KS := KS) (all_ct 281 _ rfl) (show pubOk ct_H_wrong 0 [] [[(0, 200)], [(0, 200)]] [(110, 8), (5, 2)] = true by decide +kernel) ⟨r0 h.2.1 (k := (110, 8)) (by decide), r0 h.2.1 (k := (5, 2)) (by decide), trivial⟩ (by decide +kernel) h.1).mono (fun v σ1 hv => ?_)
  obtain ⟨v1, v2, v3, v4, v5⟩ := hv
  obtain ⟨r, hr⟩ := v1 rfl
  refine ⟨r, hr, ?_⟩
  refine (pub_call (E := E) (Y := Yf) (G := GX) (J := JJ) (z := 310) (o := 110) (t := 1) (q := ct_M_wrong) (as := []) (ds := [[(0, 200)], [(0, 200)]]) (ks := [(110, 8), (5, 2)]) (KS := KS) (all_ct 310 _ rfl) (show pubOk ct_M_wrong 110 [] [[(0, 200)], [(0, 200)]] [(110, 8), (5, 2)] = true by decide +kernel) ⟨r0 v3 (k := (110, 8)) (by decide), r0 v3 (k := (5, 2)) (by decide), trivial⟩ (by decide +kernel) v4).mono (fun v' σ2 hw => ?_)
  obtain ⟨w1, w2, w3, w4, w5⟩ := hw
  exact ⟨w1 rfl, w4, w3, (h.2.2.keep (q := ct_H_wrong) (by decide +kernel) v5).keep (q := ct_M_wrong) (by decide +kernel) w5⟩
theorem LC_82_ok {E : xV} {σ : zS} (h : J0 σ) : LC_82 E σ J0 := by
  intro x0 x1
  refine (pub_call (E := E) (Y := Yf) (G := GX) (J := JJ) (z := 282) (o := 0) (t := 1) (q := ct_H_sealed) (as := [.inl x0, .inl x1]) (ds := [T32, T32, [(0, 200)], [(0, 200)]]) (ks := [(110, 8), (5, 2)]) (KS := KS) (all_ct 282 _ rfl) (show pubOk ct_H_sealed 0 [false, false] [T32, T32, [(0, 200)], [(0, 200)]] [(110, 8), (5, 2)] = true by decide +kernel) ⟨in32 _, in32 _, r0 h.2.1 (k := (110, 8)) (by decide), r0 h.2.1 (k := (5, 2)) (by decide), trivial⟩ (by decide +kernel) h.1).mono (fun v σ1 hv => ?_)
  obtain ⟨v1, v2, v3, v4, v5⟩ := hv
  obtain ⟨r, hr⟩ := v1 rfl
  refine ⟨r, hr, ?_⟩
  refine (pub_call (E := E) (Y := Yf) (G := GX) (J := JJ) (z := 311) (o := 110) (t := 1) (q := ct_M_sealed) (as := [.inl x0, .inl x1]) (ds := [T32, T32, [(0, 200)], [(0, 200)]]) (ks := [(110, 8), (5, 2)]) (KS := KS) (all_ct 311 _ rfl) (show pubOk ct_M_sealed 110 [false, false] [T32, T32, [(0, 200)], [(0, 200)]] [(110, 8), (5, 2)] = true by decide +kernel) ⟨in32 _, in32 _, r0 v3 (k := (110, 8)) (by decide), r0 v3 (k := (5, 2)) (by decide), trivial⟩ (by decide +kernel) v4).mono (fun v' σ2 hw => ?_)
  obtain ⟨w1, w2, w3, w4, w5⟩ := hw
  exact ⟨w1 rfl, w4, w3, (h.2.2.keep (q := ct_H_sealed) (by decide +kernel) v5).keep (q := ct_M_sealed) (by decide +kernel) w5⟩
theorem LC_83_ok {E : xV} {σ : zS} (h : J0 σ) : LC_83 E σ J0 := by
  intro x0 x1 x2 x3
  refine (pub_call (E := E) (Y := Yf) (G := GX) (J := JJ) (z := 283) (o := 0) (t := 1) (q := ct_H_could) (as := [.inl x0, .inl x1, .inl x2, .inl x3]) (ds := [T32, T32, T32, T32, [(0, 200)], [(0, 200)]]) (ks := [(110, 8), (5, 2)]) (KS := KS) (all_ct 283 _ rfl) (show pubOk ct_H_could 0 [false, false, false, false] [T32, T32, T32, T32, [(0, 200)], [(0, 200)]] [(110, 8), (5, 2)] = true by decide +kernel) ⟨in32 _, in32 _, in32 _, in32 _, r0 h.2.1 (k := (110, 8)) (by decide), r0 h.2.1 (k := (5, 2)) (by decide), trivial⟩ (by decide +kernel) h.1).mono (fun v σ1 hv => ?_)
  obtain ⟨v1, v2, v3, v4, v5⟩ := hv
  obtain ⟨r, hr⟩ := v1 rfl
  refine ⟨r, hr, ?_⟩
  refine (pub_call (E := E) (Y := Yf) (G := GX) (J := JJ) (z := 398) (o := 110) (t := 1) (q := ct_M_could) (as := [.inl x0, .inl x1, .inl x2, .inl x3]) (ds := [T32, T32, T32, T32, [(0, 200)], [(0, 200)]]) (ks := [(110, 8), (5, 2)]) (KS := KS) (all_ct 398 _ rfl) (show pubOk ct_M_could 110 [false, false, false, false] [T32, T32, T32, T32, [(0, 200)], [(0, 200)]] [(110, 8), (5, 2)] = true by decide +kernel) ⟨in32 _, in32 _, in32 _, in32 _, r0 v3 (k := (110, 8)) (by decide), r0 v3 (k := (5, 2)) (by decide), trivial⟩ (by decide +kernel) v4).mono (fun v' σ2 hw => ?_)
  obtain ⟨w1, w2, w3, w4, w5⟩ := hw
  exact ⟨w1 rfl, w4, w3, (h.2.2.keep (q := ct_H_could) (by decide +kernel) v5).keep (q := ct_M_could) (by decide +kernel) w5⟩
end
