section
/-! ===== N52: what leaves the logs alone ===== -/
theorem key_0 : GG.key 0 7 = 7 := rfl
theorem key_3 : GG.key 110 3 = 112643 := rfl
theorem key_4 {j : Nat} : GG.key 4 j = 5119 := rfl
theorem key_112 {j : Nat} : GG.key 112 j = 115711 := rfl
theorem key_113 {j : Nat} : GG.key 113 j = 116735 := rfl
noncomputable def lgW (q : Ct) : Bool := !(isS (q.w.get 7)) && (!(isS (q.w.get 112643)) && (!(isS (q.w.get 5119)) && (!(isS (q.w.get 115711)) && !(isS (q.w.get 116735)))))
theorem lgW_ok {q : Ct} (h : lgW q = true) {σ τ : zS} (f : ∀ k j, isS (q.w.get (GG.key k j)) = false → τ.1 k j = σ.1 k j) : τ.1 0 7 = σ.1 0 7 ∧ τ.1 110 3 = σ.1 110 3 ∧ ∀ j, τ.1 4 j = σ.1 4 j ∧ τ.1 112 j = σ.1 112 j ∧ τ.1 113 j = σ.1 113 j := by
  unfold lgW at h
  simp only [Bool.and_eq_true, Bool.not_eq_true'] at h
  obtain ⟨h1, h2, h3, h4, h5⟩ := h
  exact ⟨f 0 7 (by rw [key_0]; exact h1), f 110 3 (by rw [key_3]; exact h2), fun j => ⟨f 4 j (by rw [key_4]; exact h3), f 112 j (by rw [key_112]; exact h4), f 113 j (by rw [key_113]; exact h5)⟩⟩
theorem LgS.sm {σ τ : zS} (h : LgS σ) (f : τ.1 0 7 = σ.1 0 7 ∧ τ.1 110 3 = σ.1 110 3 ∧ ∀ j, τ.1 4 j = σ.1 4 j ∧ τ.1 112 j = σ.1 112 j ∧ τ.1 113 j = σ.1 113 j) : LgS τ := by
  obtain ⟨L, ⟨h1, h2, h3⟩, h4, h5⟩ := h
  obtain ⟨f1, f2, f3⟩ := f
  exact ⟨L, ⟨by rw [f1]; exact h1, by rw [f2]; exact h2, h3⟩, fun r c hr hc => by rw [(f3 _).1, (f3 _).2.1]; exact h4 r c hr hc, fun r hr => by rw [(f3 _).1, (f3 _).2.2]; exact h5 r hr⟩
theorem LgS.kp {σ ρ τ : zS} {qH qM : Ct} (h : LgS σ) (hH : lgW qH = true) (hM : lgW qM = true) (f : ∀ k j, isS (qH.w.get (GG.key k j)) = false → ρ.1 k j = σ.1 k j) (f' : ∀ k j, isS (qM.w.get (GG.key k j)) = false → τ.1 k j = ρ.1 k j) : LgS τ := (h.sm (lgW_ok hH f)).sm (lgW_ok hM f')
theorem LG_2 {E : xV} {σ : zS} (h : J0 σ) (lg : LgS σ) : LC_2 E σ LgS := by
  intro a1
  have b := b_now h.1
  have pn : (σ.1 0 2).toInt = (σ.1 110 0).toInt := by rw [p_now h.1]
  have n0 : (0 : Int32).toInt = 0 := by decide
  have n1 : ¬ (1 : Int32).toInt = 0 := by decide
  have wH : W_H_tick a1 σ (fun _ ρ => ∀ k j, ¬ (k = 0 ∧ j = 2) → ρ.1 k j = σ.1 k j) :=
    ⟨fun _ _ _ _ => rfl, fun c => ⟨fun c2 => ⟨by omega, fun r3 h3 => ⟨fun c3 => ⟨by omega, fun r5 h5 σ6 e6 k j q => by rw [← e6, yI_ne (by omega)]⟩, fun _ _ _ _ => rfl⟩⟩, fun _ _ _ _ => rfl⟩⟩
  refine sF_H_tick wH (fun v ρ q => ⟨v, rfl, ?_⟩)
  have wM : W_M_tick a1 ρ (fun _ τ => ∀ k j, ¬ (k = 110 ∧ j = 0) → τ.1 k j = ρ.1 k j) := fun r1 h1 =>
    w_inN (l := 0) (u := 1000000) h1 (by decide) (by decide) (fun c => ⟨fun z => absurd z n1, fun _ => by
      have e : (ρ.1 110 0).toInt = (σ.1 110 0).toInt := by rw [q 110 0 (by omega)]
      exact ⟨by omega, fun r4 h4 => ⟨fun c4 => ⟨by omega, fun r6 h6 σ7 e7 k j q' => by rw [← e7, yI_ne (by omega)]⟩, fun _ _ _ _ => rfl⟩⟩⟩) (fun _ => ⟨fun _ _ _ _ => rfl, fun z => absurd n0 z⟩)
  exact sF_M_tick wM (fun v' τ q' => ⟨⟨v', rfl⟩, lg.sm ⟨by rw [q' 0 7 (by omega), q 0 7 (by omega)], by rw [q' 110 3 (by omega), q 110 3 (by omega)], fun j => ⟨by rw [q' 4 j (by omega), q 4 j (by omega)], by rw [q' 112 j (by omega), q 112 j (by omega)], by rw [q' 113 j (by omega), q 113 j (by omega)]⟩⟩⟩)
theorem LG_24 {E : xV} {σ : zS} (h : J0 σ) (lg : LgS σ) : LC_24 E σ LgS := by
  intro a1 a2 a3
  by_cases hb : (σ.1 110 26).toInt ≠ 0
  · obtain ⟨n, P, F, rk, w⟩ := wa_of h.1 hb
    exact sF_H_ask (ask_sameL (ω := true) w hb lg) (fun v s q => ⟨v, rfl, sF_M_ask q.2 (fun v' s' q' => ⟨⟨v', rfl⟩, q'.2.2⟩)⟩)
  · obtain ⟨n, w⟩ := w0_of h.1 hb
    exact sF_H_ask (ask_same0L w lg) (fun v s q => ⟨v, rfl, sF_M_ask q.2 (fun v' s' q' => ⟨⟨v', rfl⟩, q'.2.2⟩)⟩)
theorem LG_23 {E : xV} {σ : zS} (h : J0 σ) (lg : LgS σ) : LC_23 E σ LgS := by
  intro a1
  obtain ⟨P, F, p, b, f⟩ := (jh_of h.1).2.2.1
  exact sF_H_inForce (inForce_sameL ⟨p.1.1, p.1.2, p.2.1⟩ f (p_now h.1) lg) (fun v s q => ⟨v, rfl, sF_M_inForce q.2 (fun v' s' q' => ⟨⟨v', rfl⟩, q'.2.2.2⟩)⟩)
theorem LG_80 {E : xV} {σ : zS} (h : J0 σ) (lg : LgS σ) : LC_80 E σ LgS := by
  intro a1 a2 a3
  exact sF_H_forge (forge_same lg) (fun v s q => ⟨v, rfl, sF_M_forge q.2 (fun v' s' q' => ⟨⟨v', rfl⟩, q'.2.2⟩)⟩)
theorem LG_0 {E : xV} {σ : zS} (h : J0 σ) (lg : LgS σ) : LC_0 E σ LgS := by
  intro x0 x1
  refine (pub_call (E := E) (Y := Yf) (G := GX1) (J := JJ1) (z := 1) (o := 0) (t := 1) (q := ct_H_feed) (as := [.inl x0, .inr x1]) (ds := [T32, T64, [(0, 200)], [(0, 200)]]) (ks := [(110, 8), (5, 2)]) (KS := KS) (all_ct1 1 _ rfl) (show pubOk ct_H_feed 0 [false, true] [T32, T64, [(0, 200)], [(0, 200)]] [(110, 8), (5, 2)] = true by decide +kernel) ⟨in32 _, in64 _, r0 h.2.1 (k := (110, 8)) (by decide), r0 h.2.1 (k := (5, 2)) (by decide), trivial⟩ (by decide +kernel) (jj1 h.1)).mono (fun v σ1 hv => ?_)
  obtain ⟨v1, v2, v3, v4, v5⟩ := hv
  obtain ⟨r, hr⟩ := v1 rfl
  refine ⟨r, hr, ?_⟩
  refine (pub_call (E := E) (Y := Yf) (G := GX1) (J := JJ1) (z := 302) (o := 110) (t := 1) (q := ct_M_feed) (as := [.inl x0, .inr x1]) (ds := [T32, T64, [(0, 200)], [(0, 200)]]) (ks := [(110, 8), (5, 2)]) (KS := KS) (all_ct1 302 _ rfl) (show pubOk ct_M_feed 110 [false, true] [T32, T64, [(0, 200)], [(0, 200)]] [(110, 8), (5, 2)] = true by decide +kernel) ⟨in32 _, in64 _, r0 v3 (k := (110, 8)) (by decide), r0 v3 (k := (5, 2)) (by decide), trivial⟩ (by decide +kernel) v4).mono (fun v' σ2 hw => ?_)
  obtain ⟨w1, w2, w3, w4, w5⟩ := hw
  exact ⟨w1 rfl, lg.kp (qH := ct_H_feed) (qM := ct_M_feed) (by decide +kernel) (by decide +kernel) v5 w5⟩
theorem LG_1 {E : xV} {σ : zS} (h : J0 σ) (lg : LgS σ) : LC_1 E σ LgS := by
  intro x0
  refine (pub_call (E := E) (Y := Yf) (G := GX1) (J := JJ1) (z := 2) (o := 0) (t := 1) (q := ct_H_cut) (as := [.inl x0]) (ds := [T32, [(0, 200)], [(0, 200)]]) (ks := [(110, 8), (5, 2)]) (KS := KS) (all_ct1 2 _ rfl) (show pubOk ct_H_cut 0 [false] [T32, [(0, 200)], [(0, 200)]] [(110, 8), (5, 2)] = true by decide +kernel) ⟨in32 _, r0 h.2.1 (k := (110, 8)) (by decide), r0 h.2.1 (k := (5, 2)) (by decide), trivial⟩ (by decide +kernel) (jj1 h.1)).mono (fun v σ1 hv => ?_)
  obtain ⟨v1, v2, v3, v4, v5⟩ := hv
  obtain ⟨r, hr⟩ := v1 rfl
  refine ⟨r, hr, ?_⟩
  refine (pub_call (E := E) (Y := Yf) (G := GX1) (J := JJ1) (z := 303) (o := 110) (t := 1) (q := ct_M_cut) (as := [.inl x0]) (ds := [T32, [(0, 200)], [(0, 200)]]) (ks := [(110, 8), (5, 2)]) (KS := KS) (all_ct1 303 _ rfl) (show pubOk ct_M_cut 110 [false] [T32, [(0, 200)], [(0, 200)]] [(110, 8), (5, 2)] = true by decide +kernel) ⟨in32 _, r0 v3 (k := (110, 8)) (by decide), r0 v3 (k := (5, 2)) (by decide), trivial⟩ (by decide +kernel) v4).mono (fun v' σ2 hw => ?_)
  obtain ⟨w1, w2, w3, w4, w5⟩ := hw
  exact ⟨w1 rfl, lg.kp (qH := ct_H_cut) (qM := ct_M_cut) (by decide +kernel) (by decide +kernel) v5 w5⟩
theorem LG_7 {E : xV} {σ : zS} (h : J0 σ) (lg : LgS σ) : LC_7 E σ LgS := by
  intro x0 x1 x2 x3
  refine (pub_call (E := E) (Y := Yf) (G := GX) (J := JJ) (z := 22) (o := 0) (t := 1) (q := ct_H_belongs) (as := [.inl x0, .inl x1, .inl x2, .inl x3]) (ds := [T32, T32, T32, T32, [(0, 200)], [(0, 200)]]) (ks := [(110, 8), (5, 2)]) (KS := KS) (all_ct 22 _ rfl) (show pubOk ct_H_belongs 0 [false, false, false, false] [T32, T32, T32, T32, [(0, 200)], [(0, 200)]] [(110, 8), (5, 2)] = true by decide +kernel) ⟨in32 _, in32 _, in32 _, in32 _, r0 h.2.1 (k := (110, 8)) (by decide), r0 h.2.1 (k := (5, 2)) (by decide), trivial⟩ (by decide +kernel) h.1).mono (fun v σ1 hv => ?_)
  obtain ⟨v1, v2, v3, v4, v5⟩ := hv
  obtain ⟨r, hr⟩ := v1 rfl
  refine ⟨r, hr, ?_⟩
  refine (pub_call (E := E) (Y := Yf) (G := GX) (J := JJ) (z := 323) (o := 110) (t := 1) (q := ct_M_belongs) (as := [.inl x0, .inl x1, .inl x2, .inl x3]) (ds := [T32, T32, T32, T32, [(0, 200)], [(0, 200)]]) (ks := [(110, 8), (5, 2)]) (KS := KS) (all_ct 323 _ rfl) (show pubOk ct_M_belongs 110 [false, false, false, false] [T32, T32, T32, T32, [(0, 200)], [(0, 200)]] [(110, 8), (5, 2)] = true by decide +kernel) ⟨in32 _, in32 _, in32 _, in32 _, r0 v3 (k := (110, 8)) (by decide), r0 v3 (k := (5, 2)) (by decide), trivial⟩ (by decide +kernel) v4).mono (fun v' σ2 hw => ?_)
  obtain ⟨w1, w2, w3, w4, w5⟩ := hw
  exact ⟨w1 rfl, lg.kp (qH := ct_H_belongs) (qM := ct_M_belongs) (by decide +kernel) (by decide +kernel) v5 w5⟩
theorem LG_8 {E : xV} {σ : zS} (h : J0 σ) (lg : LgS σ) : LC_8 E σ LgS := by
  intro x0 x1
  refine (pub_call (E := E) (Y := Yf) (G := GX) (J := JJ) (z := 23) (o := 0) (t := 1) (q := ct_H_rowOf) (as := [.inl x0, .inl x1]) (ds := [T32, T32, [(0, 200)], [(0, 200)]]) (ks := [(110, 8), (5, 2)]) (KS := KS) (all_ct 23 _ rfl) (show pubOk ct_H_rowOf 0 [false, false] [T32, T32, [(0, 200)], [(0, 200)]] [(110, 8), (5, 2)] = true by decide +kernel) ⟨in32 _, in32 _, r0 h.2.1 (k := (110, 8)) (by decide), r0 h.2.1 (k := (5, 2)) (by decide), trivial⟩ (by decide +kernel) h.1).mono (fun v σ1 hv => ?_)
  obtain ⟨v1, v2, v3, v4, v5⟩ := hv
  obtain ⟨r, hr⟩ := v1 rfl
  refine ⟨r, hr, ?_⟩
  refine (pub_call (E := E) (Y := Yf) (G := GX) (J := JJ) (z := 324) (o := 110) (t := 1) (q := ct_M_rowOf) (as := [.inl x0, .inl x1]) (ds := [T32, T32, [(0, 200)], [(0, 200)]]) (ks := [(110, 8), (5, 2)]) (KS := KS) (all_ct 324 _ rfl) (show pubOk ct_M_rowOf 110 [false, false] [T32, T32, [(0, 200)], [(0, 200)]] [(110, 8), (5, 2)] = true by decide +kernel) ⟨in32 _, in32 _, r0 v3 (k := (110, 8)) (by decide), r0 v3 (k := (5, 2)) (by decide), trivial⟩ (by decide +kernel) v4).mono (fun v' σ2 hw => ?_)
  obtain ⟨w1, w2, w3, w4, w5⟩ := hw
  exact ⟨w1 rfl, lg.kp (qH := ct_H_rowOf) (qM := ct_M_rowOf) (by decide +kernel) (by decide +kernel) v5 w5⟩
theorem LG_9 {E : xV} {σ : zS} (h : J0 σ) (lg : LgS σ) : LC_9 E σ LgS := by
  intro x0 x1 x2 x3
  refine (pub_call (E := E) (Y := Yf) (G := GX1) (J := JJ1) (z := 29) (o := 0) (t := 1) (q := ct_H_feature) (as := [.inl x0, .inl x1, .inl x2, .inl x3]) (ds := [T32, T32, T32, T32, [(0, 200)], [(0, 200)]]) (ks := [(110, 8), (5, 2)]) (KS := KS) (all_ct1 29 _ rfl) (show pubOk ct_H_feature 0 [false, false, false, false] [T32, T32, T32, T32, [(0, 200)], [(0, 200)]] [(110, 8), (5, 2)] = true by decide +kernel) ⟨in32 _, in32 _, in32 _, in32 _, r0 h.2.1 (k := (110, 8)) (by decide), r0 h.2.1 (k := (5, 2)) (by decide), trivial⟩ (by decide +kernel) (jj1 h.1)).mono (fun v σ1 hv => ?_)
  obtain ⟨v1, v2, v3, v4, v5⟩ := hv
  obtain ⟨r, hr⟩ := v1 rfl
  refine ⟨r, hr, ?_⟩
  refine (pub_call (E := E) (Y := Yf) (G := GX1) (J := JJ1) (z := 327) (o := 110) (t := 1) (q := ct_M_feature) (as := [.inl x0, .inl x1, .inl x2, .inl x3]) (ds := [T32, T32, T32, T32, [(0, 200)], [(0, 200)]]) (ks := [(110, 8), (5, 2)]) (KS := KS) (all_ct1 327 _ rfl) (show pubOk ct_M_feature 110 [false, false, false, false] [T32, T32, T32, T32, [(0, 200)], [(0, 200)]] [(110, 8), (5, 2)] = true by decide +kernel) ⟨in32 _, in32 _, in32 _, in32 _, r0 v3 (k := (110, 8)) (by decide), r0 v3 (k := (5, 2)) (by decide), trivial⟩ (by decide +kernel) v4).mono (fun v' σ2 hw => ?_)
  obtain ⟨w1, w2, w3, w4, w5⟩ := hw
  exact ⟨w1 rfl, lg.kp (qH := ct_H_feature) (qM := ct_M_feature) (by decide +kernel) (by decide +kernel) v5 w5⟩
theorem LG_10 {E : xV} {σ : zS} (h : J0 σ) (lg : LgS σ) : LC_10 E σ LgS := by
  intro x0 x1 x2 x3
  refine (pub_call (E := E) (Y := Yf) (G := GX1) (J := JJ1) (z := 32) (o := 0) (t := 1) (q := ct_H_item) (as := [.inl x0, .inl x1, .inl x2, .inr x3]) (ds := [T32, T32, T32, T64, [(0, 200)], [(0, 200)]]) (ks := [(110, 8), (5, 2)]) (KS := KS) (all_ct1 32 _ rfl) (show pubOk ct_H_item 0 [false, false, false, true] [T32, T32, T32, T64, [(0, 200)], [(0, 200)]] [(110, 8), (5, 2)] = true by decide +kernel) ⟨in32 _, in32 _, in32 _, in64 _, r0 h.2.1 (k := (110, 8)) (by decide), r0 h.2.1 (k := (5, 2)) (by decide), trivial⟩ (by decide +kernel) (jj1 h.1)).mono (fun v σ1 hv => ?_)
  obtain ⟨v1, v2, v3, v4, v5⟩ := hv
  obtain ⟨r, hr⟩ := v1 rfl
  refine ⟨r, hr, ?_⟩
  refine (pub_call (E := E) (Y := Yf) (G := GX1) (J := JJ1) (z := 328) (o := 110) (t := 1) (q := ct_M_item) (as := [.inl x0, .inl x1, .inl x2, .inr x3]) (ds := [T32, T32, T32, T64, [(0, 200)], [(0, 200)]]) (ks := [(110, 8), (5, 2)]) (KS := KS) (all_ct1 328 _ rfl) (show pubOk ct_M_item 110 [false, false, false, true] [T32, T32, T32, T64, [(0, 200)], [(0, 200)]] [(110, 8), (5, 2)] = true by decide +kernel) ⟨in32 _, in32 _, in32 _, in64 _, r0 v3 (k := (110, 8)) (by decide), r0 v3 (k := (5, 2)) (by decide), trivial⟩ (by decide +kernel) v4).mono (fun v' σ2 hw => ?_)
  obtain ⟨w1, w2, w3, w4, w5⟩ := hw
  exact ⟨w1 rfl, lg.kp (qH := ct_H_item) (qM := ct_M_item) (by decide +kernel) (by decide +kernel) v5 w5⟩
theorem LG_11 {E : xV} {σ : zS} (h : J0 σ) (lg : LgS σ) : LC_11 E σ LgS := by
  intro x0 x1 x2 x3
  refine (pub_call (E := E) (Y := Yf) (G := GX) (J := JJ) (z := 33) (o := 0) (t := 3) (q := ct_H_itemOf) (as := [.inl x0, .inl x1, .inl x2, .inl x3]) (ds := [T32, T32, T32, T32, [(0, 200)], [(0, 200)]]) (ks := [(110, 8), (5, 2)]) (KS := KS) (all_ct 33 _ rfl) (show pubOk ct_H_itemOf 0 [false, false, false, false] [T32, T32, T32, T32, [(0, 200)], [(0, 200)]] [(110, 8), (5, 2)] = true by decide +kernel) ⟨in32 _, in32 _, in32 _, in32 _, r0 h.2.1 (k := (110, 8)) (by decide), r0 h.2.1 (k := (5, 2)) (by decide), trivial⟩ (by decide +kernel) h.1).mono (fun v σ1 hv => ?_)
  obtain ⟨v1, v2, v3, v4, v5⟩ := hv
  obtain ⟨r, hr⟩ := v2 rfl
  refine ⟨r, hr, ?_⟩
  refine (pub_call (E := E) (Y := Yf) (G := GX) (J := JJ) (z := 329) (o := 110) (t := 3) (q := ct_M_itemOf) (as := [.inl x0, .inl x1, .inl x2, .inl x3]) (ds := [T32, T32, T32, T32, [(0, 200)], [(0, 200)]]) (ks := [(110, 8), (5, 2)]) (KS := KS) (all_ct 329 _ rfl) (show pubOk ct_M_itemOf 110 [false, false, false, false] [T32, T32, T32, T32, [(0, 200)], [(0, 200)]] [(110, 8), (5, 2)] = true by decide +kernel) ⟨in32 _, in32 _, in32 _, in32 _, r0 v3 (k := (110, 8)) (by decide), r0 v3 (k := (5, 2)) (by decide), trivial⟩ (by decide +kernel) v4).mono (fun v' σ2 hw => ?_)
  obtain ⟨w1, w2, w3, w4, w5⟩ := hw
  exact ⟨w2 rfl, lg.kp (qH := ct_H_itemOf) (qM := ct_M_itemOf) (by decide +kernel) (by decide +kernel) v5 w5⟩
theorem LG_12 {E : xV} {σ : zS} (h : J0 σ) (lg : LgS σ) : LC_12 E σ LgS := by
  intro x0 x1 x2 x3 x4 x5 x6
  refine (pub_call (E := E) (Y := Yf) (G := GX1) (J := JJ1) (z := 35) (o := 0) (t := 1) (q := ct_H_copy) (as := [.inl x0, .inl x1, .inl x2, .inl x3, .inl x4, .inl x5, .inl x6]) (ds := [T32, T32, T32, T32, T32, T32, T32, [(0, 200)], [(0, 200)]]) (ks := [(110, 8), (5, 2)]) (KS := KS) (all_ct1 35 _ rfl) (show pubOk ct_H_copy 0 [false, false, false, false, false, false, false] [T32, T32, T32, T32, T32, T32, T32, [(0, 200)], [(0, 200)]] [(110, 8), (5, 2)] = true by decide +kernel) ⟨in32 _, in32 _, in32 _, in32 _, in32 _, in32 _, in32 _, r0 h.2.1 (k := (110, 8)) (by decide), r0 h.2.1 (k := (5, 2)) (by decide), trivial⟩ (by decide +kernel) (jj1 h.1)).mono (fun v σ1 hv => ?_)
  obtain ⟨v1, v2, v3, v4, v5⟩ := hv
  obtain ⟨r, hr⟩ := v1 rfl
  refine ⟨r, hr, ?_⟩
  refine (pub_call (E := E) (Y := Yf) (G := GX1) (J := JJ1) (z := 330) (o := 110) (t := 1) (q := ct_M_copy) (as := [.inl x0, .inl x1, .inl x2, .inl x3, .inl x4, .inl x5, .inl x6]) (ds := [T32, T32, T32, T32, T32, T32, T32, [(0, 200)], [(0, 200)]]) (ks := [(110, 8), (5, 2)]) (KS := KS) (all_ct1 330 _ rfl) (show pubOk ct_M_copy 110 [false, false, false, false, false, false, false] [T32, T32, T32, T32, T32, T32, T32, [(0, 200)], [(0, 200)]] [(110, 8), (5, 2)] = true by decide +kernel) ⟨in32 _, in32 _, in32 _, in32 _, in32 _, in32 _, in32 _, r0 v3 (k := (110, 8)) (by decide), r0 v3 (k := (5, 2)) (by decide), trivial⟩ (by decide +kernel) v4).mono (fun v' σ2 hw => ?_)
  obtain ⟨w1, w2, w3, w4, w5⟩ := hw
  exact ⟨w1 rfl, lg.kp (qH := ct_H_copy) (qM := ct_M_copy) (by decide +kernel) (by decide +kernel) v5 w5⟩
theorem LG_17 {E : xV} {σ : zS} (h : J0 σ) (lg : LgS σ) : LC_17 E σ LgS := by
  intro x0 x1
  refine (pub_call (E := E) (Y := Yf) (G := GX) (J := JJ) (z := 44) (o := 0) (t := 1) (q := ct_H_thingOf) (as := [.inl x0, .inl x1]) (ds := [T32, T32, [(0, 200)], [(0, 200)]]) (ks := [(110, 8), (5, 2)]) (KS := KS) (all_ct 44 _ rfl) (show pubOk ct_H_thingOf 0 [false, false] [T32, T32, [(0, 200)], [(0, 200)]] [(110, 8), (5, 2)] = true by decide +kernel) ⟨in32 _, in32 _, r0 h.2.1 (k := (110, 8)) (by decide), r0 h.2.1 (k := (5, 2)) (by decide), trivial⟩ (by decide +kernel) h.1).mono (fun v σ1 hv => ?_)
  obtain ⟨v1, v2, v3, v4, v5⟩ := hv
  obtain ⟨r, hr⟩ := v1 rfl
  refine ⟨r, hr, ?_⟩
  refine (pub_call (E := E) (Y := Yf) (G := GX) (J := JJ) (z := 338) (o := 110) (t := 1) (q := ct_M_thingOf) (as := [.inl x0, .inl x1]) (ds := [T32, T32, [(0, 200)], [(0, 200)]]) (ks := [(110, 8), (5, 2)]) (KS := KS) (all_ct 338 _ rfl) (show pubOk ct_M_thingOf 110 [false, false] [T32, T32, [(0, 200)], [(0, 200)]] [(110, 8), (5, 2)] = true by decide +kernel) ⟨in32 _, in32 _, r0 v3 (k := (110, 8)) (by decide), r0 v3 (k := (5, 2)) (by decide), trivial⟩ (by decide +kernel) v4).mono (fun v' σ2 hw => ?_)
  obtain ⟨w1, w2, w3, w4, w5⟩ := hw
  exact ⟨w1 rfl, lg.kp (qH := ct_H_thingOf) (qM := ct_M_thingOf) (by decide +kernel) (by decide +kernel) v5 w5⟩
theorem LG_18 {E : xV} {σ : zS} (h : J0 σ) (lg : LgS σ) : LC_18 E σ LgS := by
  intro x0 x1
  refine (pub_call (E := E) (Y := Yf) (G := GX) (J := JJ) (z := 46) (o := 0) (t := 1) (q := ct_H_under) (as := [.inl x0, .inl x1]) (ds := [T32, T32, [(0, 200)], [(0, 200)]]) (ks := [(110, 8), (5, 2)]) (KS := KS) (all_ct 46 _ rfl) (show pubOk ct_H_under 0 [false, false] [T32, T32, [(0, 200)], [(0, 200)]] [(110, 8), (5, 2)] = true by decide +kernel) ⟨in32 _, in32 _, r0 h.2.1 (k := (110, 8)) (by decide), r0 h.2.1 (k := (5, 2)) (by decide), trivial⟩ (by decide +kernel) h.1).mono (fun v σ1 hv => ?_)
  obtain ⟨v1, v2, v3, v4, v5⟩ := hv
  obtain ⟨r, hr⟩ := v1 rfl
  refine ⟨r, hr, ?_⟩
  refine (pub_call (E := E) (Y := Yf) (G := GX) (J := JJ) (z := 340) (o := 110) (t := 1) (q := ct_M_under) (as := [.inl x0, .inl x1]) (ds := [T32, T32, [(0, 200)], [(0, 200)]]) (ks := [(110, 8), (5, 2)]) (KS := KS) (all_ct 340 _ rfl) (show pubOk ct_M_under 110 [false, false] [T32, T32, [(0, 200)], [(0, 200)]] [(110, 8), (5, 2)] = true by decide +kernel) ⟨in32 _, in32 _, r0 v3 (k := (110, 8)) (by decide), r0 v3 (k := (5, 2)) (by decide), trivial⟩ (by decide +kernel) v4).mono (fun v' σ2 hw => ?_)
  obtain ⟨w1, w2, w3, w4, w5⟩ := hw
  exact ⟨w1 rfl, lg.kp (qH := ct_H_under) (qM := ct_M_under) (by decide +kernel) (by decide +kernel) v5 w5⟩
theorem LG_19 {E : xV} {σ : zS} (h : J0 σ) (lg : LgS σ) : LC_19 E σ LgS := by
  intro x0 x1 x2 hbool
  have b_x2 : inD (Arg.i (.inl x2)) [(0, 1)] := by rcases hbool with rfl | rfl <;> exact ⟨_, List.mem_cons_self .., by decide, by decide⟩
  refine (pub_call (E := E) (Y := Yf) (G := GX1) (J := JJ1) (z := 49) (o := 0) (t := 1) (q := ct_H_holds) (as := [.inl x0, .inl x1, .inl x2]) (ds := [T32, T32, [(0, 1)], [(0, 200)], [(0, 200)]]) (ks := [(110, 8), (5, 2)]) (KS := KS) (all_ct1 49 _ rfl) (show pubOk ct_H_holds 0 [false, false, false] [T32, T32, [(0, 1)], [(0, 200)], [(0, 200)]] [(110, 8), (5, 2)] = true by decide +kernel) ⟨in32 _, in32 _, b_x2, r0 h.2.1 (k := (110, 8)) (by decide), r0 h.2.1 (k := (5, 2)) (by decide), trivial⟩ (by decide +kernel) (jj1 h.1)).mono (fun v σ1 hv => ?_)
  obtain ⟨v1, v2, v3, v4, v5⟩ := hv
  obtain ⟨r, hr⟩ := v1 rfl
  refine ⟨r, hr, ?_⟩
  refine (pub_call (E := E) (Y := Yf) (G := GX1) (J := JJ1) (z := 341) (o := 110) (t := 1) (q := ct_M_holds) (as := [.inl x0, .inl x1, .inl x2]) (ds := [T32, T32, [(0, 1)], [(0, 200)], [(0, 200)]]) (ks := [(110, 8), (5, 2)]) (KS := KS) (all_ct1 341 _ rfl) (show pubOk ct_M_holds 110 [false, false, false] [T32, T32, [(0, 1)], [(0, 200)], [(0, 200)]] [(110, 8), (5, 2)] = true by decide +kernel) ⟨in32 _, in32 _, b_x2, r0 v3 (k := (110, 8)) (by decide), r0 v3 (k := (5, 2)) (by decide), trivial⟩ (by decide +kernel) v4).mono (fun v' σ2 hw => ?_)
  obtain ⟨w1, w2, w3, w4, w5⟩ := hw
  exact ⟨w1 rfl, lg.kp (qH := ct_H_holds) (qM := ct_M_holds) (by decide +kernel) (by decide +kernel) v5 w5⟩
theorem LG_20 {E : xV} {σ : zS} (h : J0 σ) (lg : LgS σ) : LC_20 E σ LgS := by
  intro x0 x1
  refine (pub_call (E := E) (Y := Yf) (G := GX) (J := JJ) (z := 51) (o := 0) (t := 1) (q := ct_H_doesHold) (as := [.inl x0, .inl x1]) (ds := [T32, T32, [(0, 200)], [(0, 200)]]) (ks := [(110, 8), (5, 2)]) (KS := KS) (all_ct 51 _ rfl) (show pubOk ct_H_doesHold 0 [false, false] [T32, T32, [(0, 200)], [(0, 200)]] [(110, 8), (5, 2)] = true by decide +kernel) ⟨in32 _, in32 _, r0 h.2.1 (k := (110, 8)) (by decide), r0 h.2.1 (k := (5, 2)) (by decide), trivial⟩ (by decide +kernel) h.1).mono (fun v σ1 hv => ?_)
  obtain ⟨v1, v2, v3, v4, v5⟩ := hv
  obtain ⟨r, hr⟩ := v1 rfl
  refine ⟨r, hr, ?_⟩
  refine (pub_call (E := E) (Y := Yf) (G := GX) (J := JJ) (z := 344) (o := 110) (t := 1) (q := ct_M_doesHold) (as := [.inl x0, .inl x1]) (ds := [T32, T32, [(0, 200)], [(0, 200)]]) (ks := [(110, 8), (5, 2)]) (KS := KS) (all_ct 344 _ rfl) (show pubOk ct_M_doesHold 110 [false, false] [T32, T32, [(0, 200)], [(0, 200)]] [(110, 8), (5, 2)] = true by decide +kernel) ⟨in32 _, in32 _, r0 v3 (k := (110, 8)) (by decide), r0 v3 (k := (5, 2)) (by decide), trivial⟩ (by decide +kernel) v4).mono (fun v' σ2 hw => ?_)
  obtain ⟨w1, w2, w3, w4, w5⟩ := hw
  exact ⟨w1 rfl, lg.kp (qH := ct_H_doesHold) (qM := ct_M_doesHold) (by decide +kernel) (by decide +kernel) v5 w5⟩
theorem LG_21 {E : xV} {σ : zS} (h : J0 σ) (lg : LgS σ) : LC_21 E σ LgS := by
  intro x0
  refine (pub_call (E := E) (Y := Yf) (G := GX1) (J := JJ1) (z := 105) (o := 0) (t := 1) (q := ct_H_policy) (as := [.inl x0]) (ds := [T32, [(0, 200)], [(0, 200)]]) (ks := [(110, 8), (5, 2)]) (KS := KS) (all_ct1 105 _ rfl) (show pubOk ct_H_policy 0 [false] [T32, [(0, 200)], [(0, 200)]] [(110, 8), (5, 2)] = true by decide +kernel) ⟨in32 _, r0 h.2.1 (k := (110, 8)) (by decide), r0 h.2.1 (k := (5, 2)) (by decide), trivial⟩ (by decide +kernel) (jj1 h.1)).mono (fun v σ1 hv => ?_)
  obtain ⟨v1, v2, v3, v4, v5⟩ := hv
  obtain ⟨r, hr⟩ := v1 rfl
  refine ⟨r, hr, ?_⟩
  refine (pub_call (E := E) (Y := Yf) (G := GX1) (J := JJ1) (z := 375) (o := 110) (t := 1) (q := ct_M_policy) (as := [.inl x0]) (ds := [T32, [(0, 200)], [(0, 200)]]) (ks := [(110, 8), (5, 2)]) (KS := KS) (all_ct1 375 _ rfl) (show pubOk ct_M_policy 110 [false] [T32, [(0, 200)], [(0, 200)]] [(110, 8), (5, 2)] = true by decide +kernel) ⟨in32 _, r0 v3 (k := (110, 8)) (by decide), r0 v3 (k := (5, 2)) (by decide), trivial⟩ (by decide +kernel) v4).mono (fun v' σ2 hw => ?_)
  obtain ⟨w1, w2, w3, w4, w5⟩ := hw
  exact ⟨w1 rfl, lg.kp (qH := ct_H_policy) (qM := ct_M_policy) (by decide +kernel) (by decide +kernel) v5 w5⟩
theorem LG_22 {E : xV} {σ : zS} (h : J0 σ) (lg : LgS σ) : LC_22 E σ LgS := by
  intro x0
  refine (pub_call (E := E) (Y := Yf) (G := GX) (J := JJ) (z := 106) (o := 0) (t := 1) (q := ct_H_rules) (as := [.inl x0]) (ds := [T32, [(0, 200)], [(0, 200)]]) (ks := [(110, 8), (5, 2)]) (KS := KS) (all_ct 106 _ rfl) (show pubOk ct_H_rules 0 [false] [T32, [(0, 200)], [(0, 200)]] [(110, 8), (5, 2)] = true by decide +kernel) ⟨in32 _, r0 h.2.1 (k := (110, 8)) (by decide), r0 h.2.1 (k := (5, 2)) (by decide), trivial⟩ (by decide +kernel) h.1).mono (fun v σ1 hv => ?_)
  obtain ⟨v1, v2, v3, v4, v5⟩ := hv
  obtain ⟨r, hr⟩ := v1 rfl
  refine ⟨r, hr, ?_⟩
  refine (pub_call (E := E) (Y := Yf) (G := GX) (J := JJ) (z := 377) (o := 110) (t := 1) (q := ct_M_rules) (as := [.inl x0]) (ds := [T32, [(0, 200)], [(0, 200)]]) (ks := [(110, 8), (5, 2)]) (KS := KS) (all_ct 377 _ rfl) (show pubOk ct_M_rules 110 [false] [T32, [(0, 200)], [(0, 200)]] [(110, 8), (5, 2)] = true by decide +kernel) ⟨in32 _, r0 v3 (k := (110, 8)) (by decide), r0 v3 (k := (5, 2)) (by decide), trivial⟩ (by decide +kernel) v4).mono (fun v' σ2 hw => ?_)
  obtain ⟨w1, w2, w3, w4, w5⟩ := hw
  exact ⟨w1 rfl, lg.kp (qH := ct_H_rules) (qM := ct_M_rules) (by decide +kernel) (by decide +kernel) v5 w5⟩
theorem LG_25 {E : xV} {σ : zS} (h : J0 σ) (lg : LgS σ) : LC_25 E σ LgS := by
  intro x0 x1 x2 x3 x4
  refine (pub_call (E := E) (Y := Yf) (G := GX) (J := JJ) (z := 145) (o := 0) (t := 1) (q := ct_H_asked) (as := [.inl x0, .inl x1, .inl x2, .inl x3, .inl x4]) (ds := [T32, T32, T32, T32, T32, [(0, 200)], [(0, 200)]]) (ks := [(110, 8), (5, 2)]) (KS := KS) (all_ct 145 _ rfl) (show pubOk ct_H_asked 0 [false, false, false, false, false] [T32, T32, T32, T32, T32, [(0, 200)], [(0, 200)]] [(110, 8), (5, 2)] = true by decide +kernel) ⟨in32 _, in32 _, in32 _, in32 _, in32 _, r0 h.2.1 (k := (110, 8)) (by decide), r0 h.2.1 (k := (5, 2)) (by decide), trivial⟩ (by decide +kernel) h.1).mono (fun v σ1 hv => ?_)
  obtain ⟨v1, v2, v3, v4, v5⟩ := hv
  obtain ⟨r, hr⟩ := v1 rfl
  refine ⟨r, hr, ?_⟩
  refine (pub_call (E := E) (Y := Yf) (G := GX) (J := JJ) (z := 393) (o := 110) (t := 1) (q := ct_M_asked) (as := [.inl x0, .inl x1, .inl x2, .inl x3, .inl x4]) (ds := [T32, T32, T32, T32, T32, [(0, 200)], [(0, 200)]]) (ks := [(110, 8), (5, 2)]) (KS := KS) (all_ct 393 _ rfl) (show pubOk ct_M_asked 110 [false, false, false, false, false] [T32, T32, T32, T32, T32, [(0, 200)], [(0, 200)]] [(110, 8), (5, 2)] = true by decide +kernel) ⟨in32 _, in32 _, in32 _, in32 _, in32 _, r0 v3 (k := (110, 8)) (by decide), r0 v3 (k := (5, 2)) (by decide), trivial⟩ (by decide +kernel) v4).mono (fun v' σ2 hw => ?_)
  obtain ⟨w1, w2, w3, w4, w5⟩ := hw
  exact ⟨w1 rfl, lg.kp (qH := ct_H_asked) (qM := ct_M_asked) (by decide +kernel) (by decide +kernel) v5 w5⟩
theorem LG_26 {E : xV} {σ : zS} (h : J0 σ) (lg : LgS σ) : LC_26 E σ LgS := by
  intro x0
  refine (pub_call (E := E) (Y := Yf) (G := GX) (J := JJ) (z := 146) (o := 0) (t := 1) (q := ct_H_made) (as := [.inl x0]) (ds := [T32, [(0, 200)], [(0, 200)]]) (ks := [(110, 8), (5, 2)]) (KS := KS) (all_ct 146 _ rfl) (show pubOk ct_H_made 0 [false] [T32, [(0, 200)], [(0, 200)]] [(110, 8), (5, 2)] = true by decide +kernel) ⟨in32 _, r0 h.2.1 (k := (110, 8)) (by decide), r0 h.2.1 (k := (5, 2)) (by decide), trivial⟩ (by decide +kernel) h.1).mono (fun v σ1 hv => ?_)
  obtain ⟨v1, v2, v3, v4, v5⟩ := hv
  obtain ⟨r, hr⟩ := v1 rfl
  refine ⟨r, hr, ?_⟩
  refine (pub_call (E := E) (Y := Yf) (G := GX) (J := JJ) (z := 394) (o := 110) (t := 1) (q := ct_M_made) (as := [.inl x0]) (ds := [T32, [(0, 200)], [(0, 200)]]) (ks := [(110, 8), (5, 2)]) (KS := KS) (all_ct 394 _ rfl) (show pubOk ct_M_made 110 [false] [T32, [(0, 200)], [(0, 200)]] [(110, 8), (5, 2)] = true by decide +kernel) ⟨in32 _, r0 v3 (k := (110, 8)) (by decide), r0 v3 (k := (5, 2)) (by decide), trivial⟩ (by decide +kernel) v4).mono (fun v' σ2 hw => ?_)
  obtain ⟨w1, w2, w3, w4, w5⟩ := hw
  exact ⟨w1 rfl, lg.kp (qH := ct_H_made) (qM := ct_M_made) (by decide +kernel) (by decide +kernel) v5 w5⟩
theorem LG_27 {E : xV} {σ : zS} (h : J0 σ) (lg : LgS σ) : LC_27 E σ LgS := by
  intro x0 x1 x2 x3
  refine (pub_call (E := E) (Y := Yf) (G := GX) (J := JJ) (z := 148) (o := 0) (t := 1) (q := ct_H_may) (as := [.inl x0, .inl x1, .inl x2, .inl x3]) (ds := [T32, T32, T32, T32, [(0, 200)], [(0, 200)]]) (ks := [(110, 8), (5, 2)]) (KS := KS) (all_ct 148 _ rfl) (show pubOk ct_H_may 0 [false, false, false, false] [T32, T32, T32, T32, [(0, 200)], [(0, 200)]] [(110, 8), (5, 2)] = true by decide +kernel) ⟨in32 _, in32 _, in32 _, in32 _, r0 h.2.1 (k := (110, 8)) (by decide), r0 h.2.1 (k := (5, 2)) (by decide), trivial⟩ (by decide +kernel) h.1).mono (fun v σ1 hv => ?_)
  obtain ⟨v1, v2, v3, v4, v5⟩ := hv
  obtain ⟨r, hr⟩ := v1 rfl
  refine ⟨r, hr, ?_⟩
  refine (pub_call (E := E) (Y := Yf) (G := GX) (J := JJ) (z := 395) (o := 110) (t := 1) (q := ct_M_may) (as := [.inl x0, .inl x1, .inl x2, .inl x3]) (ds := [T32, T32, T32, T32, [(0, 200)], [(0, 200)]]) (ks := [(110, 8), (5, 2)]) (KS := KS) (all_ct 395 _ rfl) (show pubOk ct_M_may 110 [false, false, false, false] [T32, T32, T32, T32, [(0, 200)], [(0, 200)]] [(110, 8), (5, 2)] = true by decide +kernel) ⟨in32 _, in32 _, in32 _, in32 _, r0 v3 (k := (110, 8)) (by decide), r0 v3 (k := (5, 2)) (by decide), trivial⟩ (by decide +kernel) v4).mono (fun v' σ2 hw => ?_)
  obtain ⟨w1, w2, w3, w4, w5⟩ := hw
  exact ⟨w1 rfl, lg.kp (qH := ct_H_may) (qM := ct_M_may) (by decide +kernel) (by decide +kernel) v5 w5⟩
theorem LG_28 {E : xV} {σ : zS} (h : J0 σ) (lg : LgS σ) : LC_28 E σ LgS := by
  intro x0 x1 x2 x3
  refine (pub_call (E := E) (Y := Yf) (G := GX) (J := JJ) (z := 150) (o := 0) (t := 1) (q := ct_H_who) (as := [.inl x0, .inl x1, .inl x2, .inl x3]) (ds := [T32, T32, T32, T32, [(0, 200)], [(0, 200)]]) (ks := [(110, 8), (5, 2)]) (KS := KS) (all_ct 150 _ rfl) (show pubOk ct_H_who 0 [false, false, false, false] [T32, T32, T32, T32, [(0, 200)], [(0, 200)]] [(110, 8), (5, 2)] = true by decide +kernel) ⟨in32 _, in32 _, in32 _, in32 _, r0 h.2.1 (k := (110, 8)) (by decide), r0 h.2.1 (k := (5, 2)) (by decide), trivial⟩ (by decide +kernel) h.1).mono (fun v σ1 hv => ?_)
  obtain ⟨v1, v2, v3, v4, v5⟩ := hv
  obtain ⟨r, hr⟩ := v1 rfl
  refine ⟨r, hr, ?_⟩
  refine (pub_call (E := E) (Y := Yf) (G := GX) (J := JJ) (z := 397) (o := 110) (t := 1) (q := ct_M_who) (as := [.inl x0, .inl x1, .inl x2, .inl x3]) (ds := [T32, T32, T32, T32, [(0, 200)], [(0, 200)]]) (ks := [(110, 8), (5, 2)]) (KS := KS) (all_ct 397 _ rfl) (show pubOk ct_M_who 110 [false, false, false, false] [T32, T32, T32, T32, [(0, 200)], [(0, 200)]] [(110, 8), (5, 2)] = true by decide +kernel) ⟨in32 _, in32 _, in32 _, in32 _, r0 v3 (k := (110, 8)) (by decide), r0 v3 (k := (5, 2)) (by decide), trivial⟩ (by decide +kernel) v4).mono (fun v' σ2 hw => ?_)
  obtain ⟨w1, w2, w3, w4, w5⟩ := hw
  exact ⟨w1 rfl, lg.kp (qH := ct_H_who) (qM := ct_M_who) (by decide +kernel) (by decide +kernel) v5 w5⟩
theorem LG_29 {E : xV} {σ : zS} (h : J0 σ) (lg : LgS σ) : LC_29 E σ LgS := by
  intro x0 x1
  refine (pub_call (E := E) (Y := Yf) (G := GX) (J := JJ) (z := 153) (o := 0) (t := 1) (q := ct_H_compare) (as := [.inl x0, .inl x1]) (ds := [T32, T32, [(0, 200)], [(0, 200)]]) (ks := [(110, 8), (5, 2)]) (KS := KS) (all_ct 153 _ rfl) (show pubOk ct_H_compare 0 [false, false] [T32, T32, [(0, 200)], [(0, 200)]] [(110, 8), (5, 2)] = true by decide +kernel) ⟨in32 _, in32 _, r0 h.2.1 (k := (110, 8)) (by decide), r0 h.2.1 (k := (5, 2)) (by decide), trivial⟩ (by decide +kernel) h.1).mono (fun v σ1 hv => ?_)
  obtain ⟨v1, v2, v3, v4, v5⟩ := hv
  obtain ⟨r, hr⟩ := v1 rfl
  refine ⟨r, hr, ?_⟩
  refine (pub_call (E := E) (Y := Yf) (G := GX) (J := JJ) (z := 399) (o := 110) (t := 1) (q := ct_M_compare) (as := [.inl x0, .inl x1]) (ds := [T32, T32, [(0, 200)], [(0, 200)]]) (ks := [(110, 8), (5, 2)]) (KS := KS) (all_ct 399 _ rfl) (show pubOk ct_M_compare 110 [false, false] [T32, T32, [(0, 200)], [(0, 200)]] [(110, 8), (5, 2)] = true by decide +kernel) ⟨in32 _, in32 _, r0 v3 (k := (110, 8)) (by decide), r0 v3 (k := (5, 2)) (by decide), trivial⟩ (by decide +kernel) v4).mono (fun v' σ2 hw => ?_)
  obtain ⟨w1, w2, w3, w4, w5⟩ := hw
  exact ⟨w1 rfl, lg.kp (qH := ct_H_compare) (qM := ct_M_compare) (by decide +kernel) (by decide +kernel) v5 w5⟩
theorem LG_30 {E : xV} {σ : zS} (h : J0 σ) (lg : LgS σ) : LC_30 E σ LgS := by
  intro x0
  refine (pub_call (E := E) (Y := Yf) (G := GX) (J := JJ) (z := 154) (o := 0) (t := 1) (q := ct_H_compared) (as := [.inl x0]) (ds := [T32, [(0, 200)], [(0, 200)]]) (ks := [(110, 8), (5, 2)]) (KS := KS) (all_ct 154 _ rfl) (show pubOk ct_H_compared 0 [false] [T32, [(0, 200)], [(0, 200)]] [(110, 8), (5, 2)] = true by decide +kernel) ⟨in32 _, r0 h.2.1 (k := (110, 8)) (by decide), r0 h.2.1 (k := (5, 2)) (by decide), trivial⟩ (by decide +kernel) h.1).mono (fun v σ1 hv => ?_)
  obtain ⟨v1, v2, v3, v4, v5⟩ := hv
  obtain ⟨r, hr⟩ := v1 rfl
  refine ⟨r, hr, ?_⟩
  refine (pub_call (E := E) (Y := Yf) (G := GX) (J := JJ) (z := 400) (o := 110) (t := 1) (q := ct_M_compared) (as := [.inl x0]) (ds := [T32, [(0, 200)], [(0, 200)]]) (ks := [(110, 8), (5, 2)]) (KS := KS) (all_ct 400 _ rfl) (show pubOk ct_M_compared 110 [false] [T32, [(0, 200)], [(0, 200)]] [(110, 8), (5, 2)] = true by decide +kernel) ⟨in32 _, r0 v3 (k := (110, 8)) (by decide), r0 v3 (k := (5, 2)) (by decide), trivial⟩ (by decide +kernel) v4).mono (fun v' σ2 hw => ?_)
  obtain ⟨w1, w2, w3, w4, w5⟩ := hw
  exact ⟨w1 rfl, lg.kp (qH := ct_H_compared) (qM := ct_M_compared) (by decide +kernel) (by decide +kernel) v5 w5⟩
theorem LG_31 {E : xV} {σ : zS} (h : J0 σ) (lg : LgS σ) : LC_31 E σ LgS := by
  intro x0 x1
  refine (pub_call (E := E) (Y := Yf) (G := GX) (J := JJ) (z := 156) (o := 0) (t := 1) (q := ct_H_decides) (as := [.inl x0, .inl x1]) (ds := [T32, T32, [(0, 200)], [(0, 200)]]) (ks := [(110, 8), (5, 2)]) (KS := KS) (all_ct 156 _ rfl) (show pubOk ct_H_decides 0 [false, false] [T32, T32, [(0, 200)], [(0, 200)]] [(110, 8), (5, 2)] = true by decide +kernel) ⟨in32 _, in32 _, r0 h.2.1 (k := (110, 8)) (by decide), r0 h.2.1 (k := (5, 2)) (by decide), trivial⟩ (by decide +kernel) h.1).mono (fun v σ1 hv => ?_)
  obtain ⟨v1, v2, v3, v4, v5⟩ := hv
  obtain ⟨r, hr⟩ := v1 rfl
  refine ⟨r, hr, ?_⟩
  refine (pub_call (E := E) (Y := Yf) (G := GX) (J := JJ) (z := 401) (o := 110) (t := 1) (q := ct_M_decides) (as := [.inl x0, .inl x1]) (ds := [T32, T32, [(0, 200)], [(0, 200)]]) (ks := [(110, 8), (5, 2)]) (KS := KS) (all_ct 401 _ rfl) (show pubOk ct_M_decides 110 [false, false] [T32, T32, [(0, 200)], [(0, 200)]] [(110, 8), (5, 2)] = true by decide +kernel) ⟨in32 _, in32 _, r0 v3 (k := (110, 8)) (by decide), r0 v3 (k := (5, 2)) (by decide), trivial⟩ (by decide +kernel) v4).mono (fun v' σ2 hw => ?_)
  obtain ⟨w1, w2, w3, w4, w5⟩ := hw
  exact ⟨w1 rfl, lg.kp (qH := ct_H_decides) (qM := ct_M_decides) (by decide +kernel) (by decide +kernel) v5 w5⟩
theorem LG_35 {E : xV} {σ : zS} (h : J0 σ) (lg : LgS σ) : LC_35 E σ LgS := by
  refine (pub_call (E := E) (Y := Yf) (G := GX) (J := JJ) (z := 167) (o := 0) (t := 1) (q := ct_H_broken) (as := []) (ds := [[(0, 200)], [(0, 200)]]) (ks := [(110, 8), (5, 2)]) (KS := KS) (all_ct 167 _ rfl) (show pubOk ct_H_broken 0 [] [[(0, 200)], [(0, 200)]] [(110, 8), (5, 2)] = true by decide +kernel) ⟨r0 h.2.1 (k := (110, 8)) (by decide), r0 h.2.1 (k := (5, 2)) (by decide), trivial⟩ (by decide +kernel) h.1).mono (fun v σ1 hv => ?_)
  obtain ⟨v1, v2, v3, v4, v5⟩ := hv
  obtain ⟨r, hr⟩ := v1 rfl
  refine ⟨r, hr, ?_⟩
  refine (pub_call (E := E) (Y := Yf) (G := GX) (J := JJ) (z := 407) (o := 110) (t := 1) (q := ct_M_broken) (as := []) (ds := [[(0, 200)], [(0, 200)]]) (ks := [(110, 8), (5, 2)]) (KS := KS) (all_ct 407 _ rfl) (show pubOk ct_M_broken 110 [] [[(0, 200)], [(0, 200)]] [(110, 8), (5, 2)] = true by decide +kernel) ⟨r0 v3 (k := (110, 8)) (by decide), r0 v3 (k := (5, 2)) (by decide), trivial⟩ (by decide +kernel) v4).mono (fun v' σ2 hw => ?_)
  obtain ⟨w1, w2, w3, w4, w5⟩ := hw
  exact ⟨w1 rfl, lg.kp (qH := ct_H_broken) (qM := ct_M_broken) (by decide +kernel) (by decide +kernel) v5 w5⟩
theorem LG_36 {E : xV} {σ : zS} (h : J0 σ) (lg : LgS σ) : LC_36 E σ LgS := by
  intro x0
  refine (pub_call (E := E) (Y := Yf) (G := GX) (J := JJ) (z := 168) (o := 0) (t := 1) (q := ct_H_breach) (as := [.inl x0]) (ds := [T32, [(0, 200)], [(0, 200)]]) (ks := [(110, 8), (5, 2)]) (KS := KS) (all_ct 168 _ rfl) (show pubOk ct_H_breach 0 [false] [T32, [(0, 200)], [(0, 200)]] [(110, 8), (5, 2)] = true by decide +kernel) ⟨in32 _, r0 h.2.1 (k := (110, 8)) (by decide), r0 h.2.1 (k := (5, 2)) (by decide), trivial⟩ (by decide +kernel) h.1).mono (fun v σ1 hv => ?_)
  obtain ⟨v1, v2, v3, v4, v5⟩ := hv
  obtain ⟨r, hr⟩ := v1 rfl
  refine ⟨r, hr, ?_⟩
  refine (pub_call (E := E) (Y := Yf) (G := GX) (J := JJ) (z := 408) (o := 110) (t := 1) (q := ct_M_breach) (as := [.inl x0]) (ds := [T32, [(0, 200)], [(0, 200)]]) (ks := [(110, 8), (5, 2)]) (KS := KS) (all_ct 408 _ rfl) (show pubOk ct_M_breach 110 [false] [T32, [(0, 200)], [(0, 200)]] [(110, 8), (5, 2)] = true by decide +kernel) ⟨in32 _, r0 v3 (k := (110, 8)) (by decide), r0 v3 (k := (5, 2)) (by decide), trivial⟩ (by decide +kernel) v4).mono (fun v' σ2 hw => ?_)
  obtain ⟨w1, w2, w3, w4, w5⟩ := hw
  exact ⟨w1 rfl, lg.kp (qH := ct_H_breach) (qM := ct_M_breach) (by decide +kernel) (by decide +kernel) v5 w5⟩
theorem LG_37 {E : xV} {σ : zS} (h : J0 σ) (lg : LgS σ) : LC_37 E σ LgS := by
  intro x0
  refine (pub_call (E := E) (Y := Yf) (G := GX) (J := JJ) (z := 170) (o := 0) (t := 1) (q := ct_H_session) (as := [.inl x0]) (ds := [T32, [(0, 200)], [(0, 200)]]) (ks := [(110, 8), (5, 2)]) (KS := KS) (all_ct 170 _ rfl) (show pubOk ct_H_session 0 [false] [T32, [(0, 200)], [(0, 200)]] [(110, 8), (5, 2)] = true by decide +kernel) ⟨in32 _, r0 h.2.1 (k := (110, 8)) (by decide), r0 h.2.1 (k := (5, 2)) (by decide), trivial⟩ (by decide +kernel) h.1).mono (fun v σ1 hv => ?_)
  obtain ⟨v1, v2, v3, v4, v5⟩ := hv
  obtain ⟨r, hr⟩ := v1 rfl
  refine ⟨r, hr, ?_⟩
  refine (pub_call (E := E) (Y := Yf) (G := GX) (J := JJ) (z := 409) (o := 110) (t := 1) (q := ct_M_session) (as := [.inl x0]) (ds := [T32, [(0, 200)], [(0, 200)]]) (ks := [(110, 8), (5, 2)]) (KS := KS) (all_ct 409 _ rfl) (show pubOk ct_M_session 110 [false] [T32, [(0, 200)], [(0, 200)]] [(110, 8), (5, 2)] = true by decide +kernel) ⟨in32 _, r0 v3 (k := (110, 8)) (by decide), r0 v3 (k := (5, 2)) (by decide), trivial⟩ (by decide +kernel) v4).mono (fun v' σ2 hw => ?_)
  obtain ⟨w1, w2, w3, w4, w5⟩ := hw
  exact ⟨w1 rfl, lg.kp (qH := ct_H_session) (qM := ct_M_session) (by decide +kernel) (by decide +kernel) v5 w5⟩
theorem LG_38 {E : xV} {σ : zS} (h : J0 σ) (lg : LgS σ) : LC_38 E σ LgS := by
  intro x0 x1
  refine (pub_call (E := E) (Y := Yf) (G := GX) (J := JJ) (z := 172) (o := 0) (t := 1) (q := ct_H_switchOn) (as := [.inl x0, .inl x1]) (ds := [T32, T32, [(0, 200)], [(0, 200)]]) (ks := [(110, 8), (5, 2)]) (KS := KS) (all_ct 172 _ rfl) (show pubOk ct_H_switchOn 0 [false, false] [T32, T32, [(0, 200)], [(0, 200)]] [(110, 8), (5, 2)] = true by decide +kernel) ⟨in32 _, in32 _, r0 h.2.1 (k := (110, 8)) (by decide), r0 h.2.1 (k := (5, 2)) (by decide), trivial⟩ (by decide +kernel) h.1).mono (fun v σ1 hv => ?_)
  obtain ⟨v1, v2, v3, v4, v5⟩ := hv
  obtain ⟨r, hr⟩ := v1 rfl
  refine ⟨r, hr, ?_⟩
  refine (pub_call (E := E) (Y := Yf) (G := GX) (J := JJ) (z := 410) (o := 110) (t := 1) (q := ct_M_switchOn) (as := [.inl x0, .inl x1]) (ds := [T32, T32, [(0, 200)], [(0, 200)]]) (ks := [(110, 8), (5, 2)]) (KS := KS) (all_ct 410 _ rfl) (show pubOk ct_M_switchOn 110 [false, false] [T32, T32, [(0, 200)], [(0, 200)]] [(110, 8), (5, 2)] = true by decide +kernel) ⟨in32 _, in32 _, r0 v3 (k := (110, 8)) (by decide), r0 v3 (k := (5, 2)) (by decide), trivial⟩ (by decide +kernel) v4).mono (fun v' σ2 hw => ?_)
  obtain ⟨w1, w2, w3, w4, w5⟩ := hw
  exact ⟨w1 rfl, lg.kp (qH := ct_H_switchOn) (qM := ct_M_switchOn) (by decide +kernel) (by decide +kernel) v5 w5⟩
theorem LG_39 {E : xV} {σ : zS} (h : J0 σ) (lg : LgS σ) : LC_39 E σ LgS := by
  intro x0 x1
  refine (pub_call (E := E) (Y := Yf) (G := GX) (J := JJ) (z := 173) (o := 0) (t := 1) (q := ct_H_switchOff) (as := [.inl x0, .inl x1]) (ds := [T32, T32, [(0, 200)], [(0, 200)]]) (ks := [(110, 8), (5, 2)]) (KS := KS) (all_ct 173 _ rfl) (show pubOk ct_H_switchOff 0 [false, false] [T32, T32, [(0, 200)], [(0, 200)]] [(110, 8), (5, 2)] = true by decide +kernel) ⟨in32 _, in32 _, r0 h.2.1 (k := (110, 8)) (by decide), r0 h.2.1 (k := (5, 2)) (by decide), trivial⟩ (by decide +kernel) h.1).mono (fun v σ1 hv => ?_)
  obtain ⟨v1, v2, v3, v4, v5⟩ := hv
  obtain ⟨r, hr⟩ := v1 rfl
  refine ⟨r, hr, ?_⟩
  refine (pub_call (E := E) (Y := Yf) (G := GX) (J := JJ) (z := 411) (o := 110) (t := 1) (q := ct_M_switchOff) (as := [.inl x0, .inl x1]) (ds := [T32, T32, [(0, 200)], [(0, 200)]]) (ks := [(110, 8), (5, 2)]) (KS := KS) (all_ct 411 _ rfl) (show pubOk ct_M_switchOff 110 [false, false] [T32, T32, [(0, 200)], [(0, 200)]] [(110, 8), (5, 2)] = true by decide +kernel) ⟨in32 _, in32 _, r0 v3 (k := (110, 8)) (by decide), r0 v3 (k := (5, 2)) (by decide), trivial⟩ (by decide +kernel) v4).mono (fun v' σ2 hw => ?_)
  obtain ⟨w1, w2, w3, w4, w5⟩ := hw
  exact ⟨w1 rfl, lg.kp (qH := ct_H_switchOff) (qM := ct_M_switchOff) (by decide +kernel) (by decide +kernel) v5 w5⟩
theorem LG_40 {E : xV} {σ : zS} (h : J0 σ) (lg : LgS σ) : LC_40 E σ LgS := by
  intro x0 x1 x2
  refine (pub_call (E := E) (Y := Yf) (G := GX) (J := JJ) (z := 175) (o := 0) (t := 1) (q := ct_H_askIn) (as := [.inl x0, .inl x1, .inl x2]) (ds := [T32, T32, T32, [(0, 200)], [(0, 200)]]) (ks := [(110, 8), (5, 2)]) (KS := KS) (all_ct 175 _ rfl) (show pubOk ct_H_askIn 0 [false, false, false] [T32, T32, T32, [(0, 200)], [(0, 200)]] [(110, 8), (5, 2)] = true by decide +kernel) ⟨in32 _, in32 _, in32 _, r0 h.2.1 (k := (110, 8)) (by decide), r0 h.2.1 (k := (5, 2)) (by decide), trivial⟩ (by decide +kernel) h.1).mono (fun v σ1 hv => ?_)
  obtain ⟨v1, v2, v3, v4, v5⟩ := hv
  obtain ⟨r, hr⟩ := v1 rfl
  refine ⟨r, hr, ?_⟩
  refine (pub_call (E := E) (Y := Yf) (G := GX) (J := JJ) (z := 412) (o := 110) (t := 1) (q := ct_M_askIn) (as := [.inl x0, .inl x1, .inl x2]) (ds := [T32, T32, T32, [(0, 200)], [(0, 200)]]) (ks := [(110, 8), (5, 2)]) (KS := KS) (all_ct 412 _ rfl) (show pubOk ct_M_askIn 110 [false, false, false] [T32, T32, T32, [(0, 200)], [(0, 200)]] [(110, 8), (5, 2)] = true by decide +kernel) ⟨in32 _, in32 _, in32 _, r0 v3 (k := (110, 8)) (by decide), r0 v3 (k := (5, 2)) (by decide), trivial⟩ (by decide +kernel) v4).mono (fun v' σ2 hw => ?_)
  obtain ⟨w1, w2, w3, w4, w5⟩ := hw
  exact ⟨w1 rfl, lg.kp (qH := ct_H_askIn) (qM := ct_M_askIn) (by decide +kernel) (by decide +kernel) v5 w5⟩
theorem LG_41 {E : xV} {σ : zS} (h : J0 σ) (lg : LgS σ) : LC_41 E σ LgS := by
  refine (pub_call (E := E) (Y := Yf) (G := GX) (J := JJ) (z := 176) (o := 0) (t := 1) (q := ct_H_work) (as := []) (ds := [[(0, 200)], [(0, 200)]]) (ks := [(110, 8), (5, 2)]) (KS := KS) (all_ct 176 _ rfl) (show pubOk ct_H_work 0 [] [[(0, 200)], [(0, 200)]] [(110, 8), (5, 2)] = true by decide +kernel) ⟨r0 h.2.1 (k := (110, 8)) (by decide), r0 h.2.1 (k := (5, 2)) (by decide), trivial⟩ (by decide +kernel) h.1).mono (fun v σ1 hv => ?_)
  obtain ⟨v1, v2, v3, v4, v5⟩ := hv
  obtain ⟨r, hr⟩ := v1 rfl
  refine ⟨r, hr, ?_⟩
  refine (pub_call (E := E) (Y := Yf) (G := GX) (J := JJ) (z := 413) (o := 110) (t := 1) (q := ct_M_work) (as := []) (ds := [[(0, 200)], [(0, 200)]]) (ks := [(110, 8), (5, 2)]) (KS := KS) (all_ct 413 _ rfl) (show pubOk ct_M_work 110 [] [[(0, 200)], [(0, 200)]] [(110, 8), (5, 2)] = true by decide +kernel) ⟨r0 v3 (k := (110, 8)) (by decide), r0 v3 (k := (5, 2)) (by decide), trivial⟩ (by decide +kernel) v4).mono (fun v' σ2 hw => ?_)
  obtain ⟨w1, w2, w3, w4, w5⟩ := hw
  exact ⟨w1 rfl, lg.kp (qH := ct_H_work) (qM := ct_M_work) (by decide +kernel) (by decide +kernel) v5 w5⟩
theorem LG_42 {E : xV} {σ : zS} (h : J0 σ) (lg : LgS σ) : LC_42 E σ LgS := by
  intro x0 x1
  refine (pub_call (E := E) (Y := Yf) (G := GX) (J := JJ) (z := 178) (o := 0) (t := 1) (q := ct_H_step) (as := [.inl x0, .inl x1]) (ds := [T32, T32, [(0, 200)], [(0, 200)]]) (ks := [(110, 8), (5, 2)]) (KS := KS) (all_ct 178 _ rfl) (show pubOk ct_H_step 0 [false, false] [T32, T32, [(0, 200)], [(0, 200)]] [(110, 8), (5, 2)] = true by decide +kernel) ⟨in32 _, in32 _, r0 h.2.1 (k := (110, 8)) (by decide), r0 h.2.1 (k := (5, 2)) (by decide), trivial⟩ (by decide +kernel) h.1).mono (fun v σ1 hv => ?_)
  obtain ⟨v1, v2, v3, v4, v5⟩ := hv
  obtain ⟨r, hr⟩ := v1 rfl
  refine ⟨r, hr, ?_⟩
  refine (pub_call (E := E) (Y := Yf) (G := GX) (J := JJ) (z := 416) (o := 110) (t := 1) (q := ct_M_step) (as := [.inl x0, .inl x1]) (ds := [T32, T32, [(0, 200)], [(0, 200)]]) (ks := [(110, 8), (5, 2)]) (KS := KS) (all_ct 416 _ rfl) (show pubOk ct_M_step 110 [false, false] [T32, T32, [(0, 200)], [(0, 200)]] [(110, 8), (5, 2)] = true by decide +kernel) ⟨in32 _, in32 _, r0 v3 (k := (110, 8)) (by decide), r0 v3 (k := (5, 2)) (by decide), trivial⟩ (by decide +kernel) v4).mono (fun v' σ2 hw => ?_)
  obtain ⟨w1, w2, w3, w4, w5⟩ := hw
  exact ⟨w1 rfl, lg.kp (qH := ct_H_step) (qM := ct_M_step) (by decide +kernel) (by decide +kernel) v5 w5⟩
theorem LG_43 {E : xV} {σ : zS} (h : J0 σ) (lg : LgS σ) : LC_43 E σ LgS := by
  intro x0 x1 x2 x3
  refine (pub_call (E := E) (Y := Yf) (G := GX) (J := JJ) (z := 180) (o := 0) (t := 1) (q := ct_H_tie) (as := [.inl x0, .inl x1, .inl x2, .inl x3]) (ds := [T32, T32, T32, T32, [(0, 200)], [(0, 200)]]) (ks := [(110, 8), (5, 2)]) (KS := KS) (all_ct 180 _ rfl) (show pubOk ct_H_tie 0 [false, false, false, false] [T32, T32, T32, T32, [(0, 200)], [(0, 200)]] [(110, 8), (5, 2)] = true by decide +kernel) ⟨in32 _, in32 _, in32 _, in32 _, r0 h.2.1 (k := (110, 8)) (by decide), r0 h.2.1 (k := (5, 2)) (by decide), trivial⟩ (by decide +kernel) h.1).mono (fun v σ1 hv => ?_)
  obtain ⟨v1, v2, v3, v4, v5⟩ := hv
  obtain ⟨r, hr⟩ := v1 rfl
  refine ⟨r, hr, ?_⟩
  refine (pub_call (E := E) (Y := Yf) (G := GX) (J := JJ) (z := 417) (o := 110) (t := 1) (q := ct_M_tie) (as := [.inl x0, .inl x1, .inl x2, .inl x3]) (ds := [T32, T32, T32, T32, [(0, 200)], [(0, 200)]]) (ks := [(110, 8), (5, 2)]) (KS := KS) (all_ct 417 _ rfl) (show pubOk ct_M_tie 110 [false, false, false, false] [T32, T32, T32, T32, [(0, 200)], [(0, 200)]] [(110, 8), (5, 2)] = true by decide +kernel) ⟨in32 _, in32 _, in32 _, in32 _, r0 v3 (k := (110, 8)) (by decide), r0 v3 (k := (5, 2)) (by decide), trivial⟩ (by decide +kernel) v4).mono (fun v' σ2 hw => ?_)
  obtain ⟨w1, w2, w3, w4, w5⟩ := hw
  exact ⟨w1 rfl, lg.kp (qH := ct_H_tie) (qM := ct_M_tie) (by decide +kernel) (by decide +kernel) v5 w5⟩
theorem LG_44 {E : xV} {σ : zS} (h : J0 σ) (lg : LgS σ) : LC_44 E σ LgS := by
  intro x0 x1
  refine (pub_call (E := E) (Y := Yf) (G := GX) (J := JJ) (z := 188) (o := 0) (t := 1) (q := ct_H_fill) (as := [.inl x0, .inl x1]) (ds := [T32, T32, [(0, 200)], [(0, 200)]]) (ks := [(110, 8), (5, 2)]) (KS := KS) (all_ct 188 _ rfl) (show pubOk ct_H_fill 0 [false, false] [T32, T32, [(0, 200)], [(0, 200)]] [(110, 8), (5, 2)] = true by decide +kernel) ⟨in32 _, in32 _, r0 h.2.1 (k := (110, 8)) (by decide), r0 h.2.1 (k := (5, 2)) (by decide), trivial⟩ (by decide +kernel) h.1).mono (fun v σ1 hv => ?_)
  obtain ⟨v1, v2, v3, v4, v5⟩ := hv
  obtain ⟨r, hr⟩ := v1 rfl
  refine ⟨r, hr, ?_⟩
  refine (pub_call (E := E) (Y := Yf) (G := GX) (J := JJ) (z := 421) (o := 110) (t := 1) (q := ct_M_fill) (as := [.inl x0, .inl x1]) (ds := [T32, T32, [(0, 200)], [(0, 200)]]) (ks := [(110, 8), (5, 2)]) (KS := KS) (all_ct 421 _ rfl) (show pubOk ct_M_fill 110 [false, false] [T32, T32, [(0, 200)], [(0, 200)]] [(110, 8), (5, 2)] = true by decide +kernel) ⟨in32 _, in32 _, r0 v3 (k := (110, 8)) (by decide), r0 v3 (k := (5, 2)) (by decide), trivial⟩ (by decide +kernel) v4).mono (fun v' σ2 hw => ?_)
  obtain ⟨w1, w2, w3, w4, w5⟩ := hw
  exact ⟨w1 rfl, lg.kp (qH := ct_H_fill) (qM := ct_M_fill) (by decide +kernel) (by decide +kernel) v5 w5⟩
theorem LG_45 {E : xV} {σ : zS} (h : J0 σ) (lg : LgS σ) : LC_45 E σ LgS := by
  intro x0 x1
  refine (pub_call (E := E) (Y := Yf) (G := GX) (J := JJ) (z := 189) (o := 0) (t := 1) (q := ct_H_filled) (as := [.inl x0, .inl x1]) (ds := [T32, T32, [(0, 200)], [(0, 200)]]) (ks := [(110, 8), (5, 2)]) (KS := KS) (all_ct 189 _ rfl) (show pubOk ct_H_filled 0 [false, false] [T32, T32, [(0, 200)], [(0, 200)]] [(110, 8), (5, 2)] = true by decide +kernel) ⟨in32 _, in32 _, r0 h.2.1 (k := (110, 8)) (by decide), r0 h.2.1 (k := (5, 2)) (by decide), trivial⟩ (by decide +kernel) h.1).mono (fun v σ1 hv => ?_)
  obtain ⟨v1, v2, v3, v4, v5⟩ := hv
  obtain ⟨r, hr⟩ := v1 rfl
  refine ⟨r, hr, ?_⟩
  refine (pub_call (E := E) (Y := Yf) (G := GX) (J := JJ) (z := 422) (o := 110) (t := 1) (q := ct_M_filled) (as := [.inl x0, .inl x1]) (ds := [T32, T32, [(0, 200)], [(0, 200)]]) (ks := [(110, 8), (5, 2)]) (KS := KS) (all_ct 422 _ rfl) (show pubOk ct_M_filled 110 [false, false] [T32, T32, [(0, 200)], [(0, 200)]] [(110, 8), (5, 2)] = true by decide +kernel) ⟨in32 _, in32 _, r0 v3 (k := (110, 8)) (by decide), r0 v3 (k := (5, 2)) (by decide), trivial⟩ (by decide +kernel) v4).mono (fun v' σ2 hw => ?_)
  obtain ⟨w1, w2, w3, w4, w5⟩ := hw
  exact ⟨w1 rfl, lg.kp (qH := ct_H_filled) (qM := ct_M_filled) (by decide +kernel) (by decide +kernel) v5 w5⟩
theorem LG_46 {E : xV} {σ : zS} (h : J0 σ) (lg : LgS σ) : LC_46 E σ LgS := by
  intro x0 x1 x2 x3
  refine (pub_call (E := E) (Y := Yf) (G := GX) (J := JJ) (z := 191) (o := 0) (t := 1) (q := ct_H_next) (as := [.inl x0, .inl x1, .inl x2, .inl x3]) (ds := [T32, T32, T32, T32, [(0, 200)], [(0, 200)]]) (ks := [(110, 8), (5, 2)]) (KS := KS) (all_ct 191 _ rfl) (show pubOk ct_H_next 0 [false, false, false, false] [T32, T32, T32, T32, [(0, 200)], [(0, 200)]] [(110, 8), (5, 2)] = true by decide +kernel) ⟨in32 _, in32 _, in32 _, in32 _, r0 h.2.1 (k := (110, 8)) (by decide), r0 h.2.1 (k := (5, 2)) (by decide), trivial⟩ (by decide +kernel) h.1).mono (fun v σ1 hv => ?_)
  obtain ⟨v1, v2, v3, v4, v5⟩ := hv
  obtain ⟨r, hr⟩ := v1 rfl
  refine ⟨r, hr, ?_⟩
  refine (pub_call (E := E) (Y := Yf) (G := GX) (J := JJ) (z := 424) (o := 110) (t := 1) (q := ct_M_next) (as := [.inl x0, .inl x1, .inl x2, .inl x3]) (ds := [T32, T32, T32, T32, [(0, 200)], [(0, 200)]]) (ks := [(110, 8), (5, 2)]) (KS := KS) (all_ct 424 _ rfl) (show pubOk ct_M_next 110 [false, false, false, false] [T32, T32, T32, T32, [(0, 200)], [(0, 200)]] [(110, 8), (5, 2)] = true by decide +kernel) ⟨in32 _, in32 _, in32 _, in32 _, r0 v3 (k := (110, 8)) (by decide), r0 v3 (k := (5, 2)) (by decide), trivial⟩ (by decide +kernel) v4).mono (fun v' σ2 hw => ?_)
  obtain ⟨w1, w2, w3, w4, w5⟩ := hw
  exact ⟨w1 rfl, lg.kp (qH := ct_H_next) (qM := ct_M_next) (by decide +kernel) (by decide +kernel) v5 w5⟩
theorem LG_47 {E : xV} {σ : zS} (h : J0 σ) (lg : LgS σ) : LC_47 E σ LgS := by
  intro x0 x1 x2 x3
  refine (pub_call (E := E) (Y := Yf) (G := GX) (J := JJ) (z := 192) (o := 0) (t := 1) (q := ct_H_perform) (as := [.inl x0, .inl x1, .inl x2, .inl x3]) (ds := [T32, T32, T32, T32, [(0, 200)], [(0, 200)]]) (ks := [(110, 8), (5, 2)]) (KS := KS) (all_ct 192 _ rfl) (show pubOk ct_H_perform 0 [false, false, false, false] [T32, T32, T32, T32, [(0, 200)], [(0, 200)]] [(110, 8), (5, 2)] = true by decide +kernel) ⟨in32 _, in32 _, in32 _, in32 _, r0 h.2.1 (k := (110, 8)) (by decide), r0 h.2.1 (k := (5, 2)) (by decide), trivial⟩ (by decide +kernel) h.1).mono (fun v σ1 hv => ?_)
  obtain ⟨v1, v2, v3, v4, v5⟩ := hv
  obtain ⟨r, hr⟩ := v1 rfl
  refine ⟨r, hr, ?_⟩
  refine (pub_call (E := E) (Y := Yf) (G := GX) (J := JJ) (z := 425) (o := 110) (t := 1) (q := ct_M_perform) (as := [.inl x0, .inl x1, .inl x2, .inl x3]) (ds := [T32, T32, T32, T32, [(0, 200)], [(0, 200)]]) (ks := [(110, 8), (5, 2)]) (KS := KS) (all_ct 425 _ rfl) (show pubOk ct_M_perform 110 [false, false, false, false] [T32, T32, T32, T32, [(0, 200)], [(0, 200)]] [(110, 8), (5, 2)] = true by decide +kernel) ⟨in32 _, in32 _, in32 _, in32 _, r0 v3 (k := (110, 8)) (by decide), r0 v3 (k := (5, 2)) (by decide), trivial⟩ (by decide +kernel) v4).mono (fun v' σ2 hw => ?_)
  obtain ⟨w1, w2, w3, w4, w5⟩ := hw
  exact ⟨w1 rfl, lg.kp (qH := ct_H_perform) (qM := ct_M_perform) (by decide +kernel) (by decide +kernel) v5 w5⟩
theorem LG_48 {E : xV} {σ : zS} (h : J0 σ) (lg : LgS σ) : LC_48 E σ LgS := by
  intro x0 x1 x2
  refine (pub_call (E := E) (Y := Yf) (G := GX) (J := JJ) (z := 194) (o := 0) (t := 1) (q := ct_H_needed) (as := [.inl x0, .inl x1, .inl x2]) (ds := [T32, T32, T32, [(0, 200)], [(0, 200)]]) (ks := [(110, 8), (5, 2)]) (KS := KS) (all_ct 194 _ rfl) (show pubOk ct_H_needed 0 [false, false, false] [T32, T32, T32, [(0, 200)], [(0, 200)]] [(110, 8), (5, 2)] = true by decide +kernel) ⟨in32 _, in32 _, in32 _, r0 h.2.1 (k := (110, 8)) (by decide), r0 h.2.1 (k := (5, 2)) (by decide), trivial⟩ (by decide +kernel) h.1).mono (fun v σ1 hv => ?_)
  obtain ⟨v1, v2, v3, v4, v5⟩ := hv
  obtain ⟨r, hr⟩ := v1 rfl
  refine ⟨r, hr, ?_⟩
  refine (pub_call (E := E) (Y := Yf) (G := GX) (J := JJ) (z := 426) (o := 110) (t := 1) (q := ct_M_needed) (as := [.inl x0, .inl x1, .inl x2]) (ds := [T32, T32, T32, [(0, 200)], [(0, 200)]]) (ks := [(110, 8), (5, 2)]) (KS := KS) (all_ct 426 _ rfl) (show pubOk ct_M_needed 110 [false, false, false] [T32, T32, T32, [(0, 200)], [(0, 200)]] [(110, 8), (5, 2)] = true by decide +kernel) ⟨in32 _, in32 _, in32 _, r0 v3 (k := (110, 8)) (by decide), r0 v3 (k := (5, 2)) (by decide), trivial⟩ (by decide +kernel) v4).mono (fun v' σ2 hw => ?_)
  obtain ⟨w1, w2, w3, w4, w5⟩ := hw
  exact ⟨w1 rfl, lg.kp (qH := ct_H_needed) (qM := ct_M_needed) (by decide +kernel) (by decide +kernel) v5 w5⟩
theorem LG_49 {E : xV} {σ : zS} (h : J0 σ) (lg : LgS σ) : LC_49 E σ LgS := by
  refine (pub_call (E := E) (Y := Yf) (G := GX) (J := JJ) (z := 195) (o := 0) (t := 1) (q := ct_H_tries) (as := []) (ds := [[(0, 200)], [(0, 200)]]) (ks := [(110, 8), (5, 2)]) (KS := KS) (all_ct 195 _ rfl) (show pubOk ct_H_tries 0 [] [[(0, 200)], [(0, 200)]] [(110, 8), (5, 2)] = true by decide +kernel) ⟨r0 h.2.1 (k := (110, 8)) (by decide), r0 h.2.1 (k := (5, 2)) (by decide), trivial⟩ (by decide +kernel) h.1).mono (fun v σ1 hv => ?_)
  obtain ⟨v1, v2, v3, v4, v5⟩ := hv
  obtain ⟨r, hr⟩ := v1 rfl
  refine ⟨r, hr, ?_⟩
  refine (pub_call (E := E) (Y := Yf) (G := GX) (J := JJ) (z := 427) (o := 110) (t := 1) (q := ct_M_tries) (as := []) (ds := [[(0, 200)], [(0, 200)]]) (ks := [(110, 8), (5, 2)]) (KS := KS) (all_ct 427 _ rfl) (show pubOk ct_M_tries 110 [] [[(0, 200)], [(0, 200)]] [(110, 8), (5, 2)] = true by decide +kernel) ⟨r0 v3 (k := (110, 8)) (by decide), r0 v3 (k := (5, 2)) (by decide), trivial⟩ (by decide +kernel) v4).mono (fun v' σ2 hw => ?_)
  obtain ⟨w1, w2, w3, w4, w5⟩ := hw
  exact ⟨w1 rfl, lg.kp (qH := ct_H_tries) (qM := ct_M_tries) (by decide +kernel) (by decide +kernel) v5 w5⟩
theorem LG_51 {E : xV} {σ : zS} (h : J0 σ) (lg : LgS σ) : LC_51 E σ LgS := by
  intro x0 x1
  refine (pub_call (E := E) (Y := Yf) (G := GX) (J := JJ) (z := 201) (o := 0) (t := 1) (q := ct_H_endLend) (as := [.inl x0, .inl x1]) (ds := [T32, T32, [(0, 200)], [(0, 200)]]) (ks := [(110, 8), (5, 2)]) (KS := KS) (all_ct 201 _ rfl) (show pubOk ct_H_endLend 0 [false, false] [T32, T32, [(0, 200)], [(0, 200)]] [(110, 8), (5, 2)] = true by decide +kernel) ⟨in32 _, in32 _, r0 h.2.1 (k := (110, 8)) (by decide), r0 h.2.1 (k := (5, 2)) (by decide), trivial⟩ (by decide +kernel) h.1).mono (fun v σ1 hv => ?_)
  obtain ⟨v1, v2, v3, v4, v5⟩ := hv
  obtain ⟨r, hr⟩ := v1 rfl
  refine ⟨r, hr, ?_⟩
  refine (pub_call (E := E) (Y := Yf) (G := GX) (J := JJ) (z := 433) (o := 110) (t := 1) (q := ct_M_endLend) (as := [.inl x0, .inl x1]) (ds := [T32, T32, [(0, 200)], [(0, 200)]]) (ks := [(110, 8), (5, 2)]) (KS := KS) (all_ct 433 _ rfl) (show pubOk ct_M_endLend 110 [false, false] [T32, T32, [(0, 200)], [(0, 200)]] [(110, 8), (5, 2)] = true by decide +kernel) ⟨in32 _, in32 _, r0 v3 (k := (110, 8)) (by decide), r0 v3 (k := (5, 2)) (by decide), trivial⟩ (by decide +kernel) v4).mono (fun v' σ2 hw => ?_)
  obtain ⟨w1, w2, w3, w4, w5⟩ := hw
  exact ⟨w1 rfl, lg.kp (qH := ct_H_endLend) (qM := ct_M_endLend) (by decide +kernel) (by decide +kernel) v5 w5⟩
theorem LG_52 {E : xV} {σ : zS} (h : J0 σ) (lg : LgS σ) : LC_52 E σ LgS := by
  intro x0 x1 x2 x3
  refine (pub_call (E := E) (Y := Yf) (G := GX) (J := JJ) (z := 203) (o := 0) (t := 1) (q := ct_H_stands) (as := [.inl x0, .inl x1, .inl x2, .inl x3]) (ds := [T32, T32, T32, T32, [(0, 200)], [(0, 200)]]) (ks := [(110, 8), (5, 2)]) (KS := KS) (all_ct 203 _ rfl) (show pubOk ct_H_stands 0 [false, false, false, false] [T32, T32, T32, T32, [(0, 200)], [(0, 200)]] [(110, 8), (5, 2)] = true by decide +kernel) ⟨in32 _, in32 _, in32 _, in32 _, r0 h.2.1 (k := (110, 8)) (by decide), r0 h.2.1 (k := (5, 2)) (by decide), trivial⟩ (by decide +kernel) h.1).mono (fun v σ1 hv => ?_)
  obtain ⟨v1, v2, v3, v4, v5⟩ := hv
  obtain ⟨r, hr⟩ := v1 rfl
  refine ⟨r, hr, ?_⟩
  refine (pub_call (E := E) (Y := Yf) (G := GX) (J := JJ) (z := 434) (o := 110) (t := 1) (q := ct_M_stands) (as := [.inl x0, .inl x1, .inl x2, .inl x3]) (ds := [T32, T32, T32, T32, [(0, 200)], [(0, 200)]]) (ks := [(110, 8), (5, 2)]) (KS := KS) (all_ct 434 _ rfl) (show pubOk ct_M_stands 110 [false, false, false, false] [T32, T32, T32, T32, [(0, 200)], [(0, 200)]] [(110, 8), (5, 2)] = true by decide +kernel) ⟨in32 _, in32 _, in32 _, in32 _, r0 v3 (k := (110, 8)) (by decide), r0 v3 (k := (5, 2)) (by decide), trivial⟩ (by decide +kernel) v4).mono (fun v' σ2 hw => ?_)
  obtain ⟨w1, w2, w3, w4, w5⟩ := hw
  exact ⟨w1 rfl, lg.kp (qH := ct_H_stands) (qM := ct_M_stands) (by decide +kernel) (by decide +kernel) v5 w5⟩
theorem LG_53 {E : xV} {σ : zS} (h : J0 σ) (lg : LgS σ) : LC_53 E σ LgS := by
  intro x0
  refine (pub_call (E := E) (Y := Yf) (G := GX) (J := JJ) (z := 204) (o := 0) (t := 1) (q := ct_H_chain) (as := [.inl x0]) (ds := [T32, [(0, 200)], [(0, 200)]]) (ks := [(110, 8), (5, 2)]) (KS := KS) (all_ct 204 _ rfl) (show pubOk ct_H_chain 0 [false] [T32, [(0, 200)], [(0, 200)]] [(110, 8), (5, 2)] = true by decide +kernel) ⟨in32 _, r0 h.2.1 (k := (110, 8)) (by decide), r0 h.2.1 (k := (5, 2)) (by decide), trivial⟩ (by decide +kernel) h.1).mono (fun v σ1 hv => ?_)
  obtain ⟨v1, v2, v3, v4, v5⟩ := hv
  obtain ⟨r, hr⟩ := v1 rfl
  refine ⟨r, hr, ?_⟩
  refine (pub_call (E := E) (Y := Yf) (G := GX) (J := JJ) (z := 435) (o := 110) (t := 1) (q := ct_M_chain) (as := [.inl x0]) (ds := [T32, [(0, 200)], [(0, 200)]]) (ks := [(110, 8), (5, 2)]) (KS := KS) (all_ct 435 _ rfl) (show pubOk ct_M_chain 110 [false] [T32, [(0, 200)], [(0, 200)]] [(110, 8), (5, 2)] = true by decide +kernel) ⟨in32 _, r0 v3 (k := (110, 8)) (by decide), r0 v3 (k := (5, 2)) (by decide), trivial⟩ (by decide +kernel) v4).mono (fun v' σ2 hw => ?_)
  obtain ⟨w1, w2, w3, w4, w5⟩ := hw
  exact ⟨w1 rfl, lg.kp (qH := ct_H_chain) (qM := ct_M_chain) (by decide +kernel) (by decide +kernel) v5 w5⟩
theorem LG_54 {E : xV} {σ : zS} (h : J0 σ) (lg : LgS σ) : LC_54 E σ LgS := by
  intro x0 x1 x2
  refine (pub_call (E := E) (Y := Yf) (G := GX) (J := JJ) (z := 206) (o := 0) (t := 1) (q := ct_H_useRight) (as := [.inl x0, .inl x1, .inl x2]) (ds := [T32, T32, T32, [(0, 200)], [(0, 200)]]) (ks := [(110, 8), (5, 2)]) (KS := KS) (all_ct 206 _ rfl) (show pubOk ct_H_useRight 0 [false, false, false] [T32, T32, T32, [(0, 200)], [(0, 200)]] [(110, 8), (5, 2)] = true by decide +kernel) ⟨in32 _, in32 _, in32 _, r0 h.2.1 (k := (110, 8)) (by decide), r0 h.2.1 (k := (5, 2)) (by decide), trivial⟩ (by decide +kernel) h.1).mono (fun v σ1 hv => ?_)
  obtain ⟨v1, v2, v3, v4, v5⟩ := hv
  obtain ⟨r, hr⟩ := v1 rfl
  refine ⟨r, hr, ?_⟩
  refine (pub_call (E := E) (Y := Yf) (G := GX) (J := JJ) (z := 436) (o := 110) (t := 1) (q := ct_M_useRight) (as := [.inl x0, .inl x1, .inl x2]) (ds := [T32, T32, T32, [(0, 200)], [(0, 200)]]) (ks := [(110, 8), (5, 2)]) (KS := KS) (all_ct 436 _ rfl) (show pubOk ct_M_useRight 110 [false, false, false] [T32, T32, T32, [(0, 200)], [(0, 200)]] [(110, 8), (5, 2)] = true by decide +kernel) ⟨in32 _, in32 _, in32 _, r0 v3 (k := (110, 8)) (by decide), r0 v3 (k := (5, 2)) (by decide), trivial⟩ (by decide +kernel) v4).mono (fun v' σ2 hw => ?_)
  obtain ⟨w1, w2, w3, w4, w5⟩ := hw
  exact ⟨w1 rfl, lg.kp (qH := ct_H_useRight) (qM := ct_M_useRight) (by decide +kernel) (by decide +kernel) v5 w5⟩
theorem LG_55 {E : xV} {σ : zS} (h : J0 σ) (lg : LgS σ) : LC_55 E σ LgS := by
  intro x0 x1
  refine (pub_call (E := E) (Y := Yf) (G := GX) (J := JJ) (z := 207) (o := 0) (t := 1) (q := ct_H_lendOf) (as := [.inl x0, .inl x1]) (ds := [T32, T32, [(0, 200)], [(0, 200)]]) (ks := [(110, 8), (5, 2)]) (KS := KS) (all_ct 207 _ rfl) (show pubOk ct_H_lendOf 0 [false, false] [T32, T32, [(0, 200)], [(0, 200)]] [(110, 8), (5, 2)] = true by decide +kernel) ⟨in32 _, in32 _, r0 h.2.1 (k := (110, 8)) (by decide), r0 h.2.1 (k := (5, 2)) (by decide), trivial⟩ (by decide +kernel) h.1).mono (fun v σ1 hv => ?_)
  obtain ⟨v1, v2, v3, v4, v5⟩ := hv
  obtain ⟨r, hr⟩ := v1 rfl
  refine ⟨r, hr, ?_⟩
  refine (pub_call (E := E) (Y := Yf) (G := GX) (J := JJ) (z := 437) (o := 110) (t := 1) (q := ct_M_lendOf) (as := [.inl x0, .inl x1]) (ds := [T32, T32, [(0, 200)], [(0, 200)]]) (ks := [(110, 8), (5, 2)]) (KS := KS) (all_ct 437 _ rfl) (show pubOk ct_M_lendOf 110 [false, false] [T32, T32, [(0, 200)], [(0, 200)]] [(110, 8), (5, 2)] = true by decide +kernel) ⟨in32 _, in32 _, r0 v3 (k := (110, 8)) (by decide), r0 v3 (k := (5, 2)) (by decide), trivial⟩ (by decide +kernel) v4).mono (fun v' σ2 hw => ?_)
  obtain ⟨w1, w2, w3, w4, w5⟩ := hw
  exact ⟨w1 rfl, lg.kp (qH := ct_H_lendOf) (qM := ct_M_lendOf) (by decide +kernel) (by decide +kernel) v5 w5⟩
theorem LG_56 {E : xV} {σ : zS} (h : J0 σ) (lg : LgS σ) : LC_56 E σ LgS := by
  intro x0 x1 x2
  refine (pub_call (E := E) (Y := Yf) (G := GX) (J := JJ) (z := 210) (o := 0) (t := 1) (q := ct_H_key) (as := [.inl x0, .inl x1, .inl x2]) (ds := [T32, T32, T32, [(0, 200)], [(0, 200)]]) (ks := [(110, 8), (5, 2)]) (KS := KS) (all_ct 210 _ rfl) (show pubOk ct_H_key 0 [false, false, false] [T32, T32, T32, [(0, 200)], [(0, 200)]] [(110, 8), (5, 2)] = true by decide +kernel) ⟨in32 _, in32 _, in32 _, r0 h.2.1 (k := (110, 8)) (by decide), r0 h.2.1 (k := (5, 2)) (by decide), trivial⟩ (by decide +kernel) h.1).mono (fun v σ1 hv => ?_)
  obtain ⟨v1, v2, v3, v4, v5⟩ := hv
  obtain ⟨r, hr⟩ := v1 rfl
  refine ⟨r, hr, ?_⟩
  refine (pub_call (E := E) (Y := Yf) (G := GX) (J := JJ) (z := 440) (o := 110) (t := 1) (q := ct_M_key) (as := [.inl x0, .inl x1, .inl x2]) (ds := [T32, T32, T32, [(0, 200)], [(0, 200)]]) (ks := [(110, 8), (5, 2)]) (KS := KS) (all_ct 440 _ rfl) (show pubOk ct_M_key 110 [false, false, false] [T32, T32, T32, [(0, 200)], [(0, 200)]] [(110, 8), (5, 2)] = true by decide +kernel) ⟨in32 _, in32 _, in32 _, r0 v3 (k := (110, 8)) (by decide), r0 v3 (k := (5, 2)) (by decide), trivial⟩ (by decide +kernel) v4).mono (fun v' σ2 hw => ?_)
  obtain ⟨w1, w2, w3, w4, w5⟩ := hw
  exact ⟨w1 rfl, lg.kp (qH := ct_H_key) (qM := ct_M_key) (by decide +kernel) (by decide +kernel) v5 w5⟩
theorem LG_57 {E : xV} {σ : zS} (h : J0 σ) (lg : LgS σ) : LC_57 E σ LgS := by
  intro x0 x1 x2
  refine (pub_call (E := E) (Y := Yf) (G := GX) (J := JJ) (z := 215) (o := 0) (t := 1) (q := ct_H_ever) (as := [.inl x0, .inl x1, .inl x2]) (ds := [T32, T32, T32, [(0, 200)], [(0, 200)]]) (ks := [(110, 8), (5, 2)]) (KS := KS) (all_ct 215 _ rfl) (show pubOk ct_H_ever 0 [false, false, false] [T32, T32, T32, [(0, 200)], [(0, 200)]] [(110, 8), (5, 2)] = true by decide +kernel) ⟨in32 _, in32 _, in32 _, r0 h.2.1 (k := (110, 8)) (by decide), r0 h.2.1 (k := (5, 2)) (by decide), trivial⟩ (by decide +kernel) h.1).mono (fun v σ1 hv => ?_)
  obtain ⟨v1, v2, v3, v4, v5⟩ := hv
  obtain ⟨r, hr⟩ := v1 rfl
  refine ⟨r, hr, ?_⟩
  refine (pub_call (E := E) (Y := Yf) (G := GX) (J := JJ) (z := 441) (o := 110) (t := 1) (q := ct_M_ever) (as := [.inl x0, .inl x1, .inl x2]) (ds := [T32, T32, T32, [(0, 200)], [(0, 200)]]) (ks := [(110, 8), (5, 2)]) (KS := KS) (all_ct 441 _ rfl) (show pubOk ct_M_ever 110 [false, false, false] [T32, T32, T32, [(0, 200)], [(0, 200)]] [(110, 8), (5, 2)] = true by decide +kernel) ⟨in32 _, in32 _, in32 _, r0 v3 (k := (110, 8)) (by decide), r0 v3 (k := (5, 2)) (by decide), trivial⟩ (by decide +kernel) v4).mono (fun v' σ2 hw => ?_)
  obtain ⟨w1, w2, w3, w4, w5⟩ := hw
  exact ⟨w1 rfl, lg.kp (qH := ct_H_ever) (qM := ct_M_ever) (by decide +kernel) (by decide +kernel) v5 w5⟩
theorem LG_58 {E : xV} {σ : zS} (h : J0 σ) (lg : LgS σ) : LC_58 E σ LgS := by
  intro x0 x1
  refine (pub_call (E := E) (Y := Yf) (G := GX) (J := JJ) (z := 216) (o := 0) (t := 1) (q := ct_H_gain) (as := [.inl x0, .inl x1]) (ds := [T32, T32, [(0, 200)], [(0, 200)]]) (ks := [(110, 8), (5, 2)]) (KS := KS) (all_ct 216 _ rfl) (show pubOk ct_H_gain 0 [false, false] [T32, T32, [(0, 200)], [(0, 200)]] [(110, 8), (5, 2)] = true by decide +kernel) ⟨in32 _, in32 _, r0 h.2.1 (k := (110, 8)) (by decide), r0 h.2.1 (k := (5, 2)) (by decide), trivial⟩ (by decide +kernel) h.1).mono (fun v σ1 hv => ?_)
  obtain ⟨v1, v2, v3, v4, v5⟩ := hv
  obtain ⟨r, hr⟩ := v1 rfl
  refine ⟨r, hr, ?_⟩
  refine (pub_call (E := E) (Y := Yf) (G := GX) (J := JJ) (z := 442) (o := 110) (t := 1) (q := ct_M_gain) (as := [.inl x0, .inl x1]) (ds := [T32, T32, [(0, 200)], [(0, 200)]]) (ks := [(110, 8), (5, 2)]) (KS := KS) (all_ct 442 _ rfl) (show pubOk ct_M_gain 110 [false, false] [T32, T32, [(0, 200)], [(0, 200)]] [(110, 8), (5, 2)] = true by decide +kernel) ⟨in32 _, in32 _, r0 v3 (k := (110, 8)) (by decide), r0 v3 (k := (5, 2)) (by decide), trivial⟩ (by decide +kernel) v4).mono (fun v' σ2 hw => ?_)
  obtain ⟨w1, w2, w3, w4, w5⟩ := hw
  exact ⟨w1 rfl, lg.kp (qH := ct_H_gain) (qM := ct_M_gain) (by decide +kernel) (by decide +kernel) v5 w5⟩
theorem LG_59 {E : xV} {σ : zS} (h : J0 σ) (lg : LgS σ) : LC_59 E σ LgS := by
  intro x0 x1
  refine (pub_call (E := E) (Y := Yf) (G := GX) (J := JJ) (z := 217) (o := 0) (t := 1) (q := ct_H_label) (as := [.inl x0, .inl x1]) (ds := [T32, T32, [(0, 200)], [(0, 200)]]) (ks := [(110, 8), (5, 2)]) (KS := KS) (all_ct 217 _ rfl) (show pubOk ct_H_label 0 [false, false] [T32, T32, [(0, 200)], [(0, 200)]] [(110, 8), (5, 2)] = true by decide +kernel) ⟨in32 _, in32 _, r0 h.2.1 (k := (110, 8)) (by decide), r0 h.2.1 (k := (5, 2)) (by decide), trivial⟩ (by decide +kernel) h.1).mono (fun v σ1 hv => ?_)
  obtain ⟨v1, v2, v3, v4, v5⟩ := hv
  obtain ⟨r, hr⟩ := v1 rfl
  refine ⟨r, hr, ?_⟩
  refine (pub_call (E := E) (Y := Yf) (G := GX) (J := JJ) (z := 444) (o := 110) (t := 1) (q := ct_M_label) (as := [.inl x0, .inl x1]) (ds := [T32, T32, [(0, 200)], [(0, 200)]]) (ks := [(110, 8), (5, 2)]) (KS := KS) (all_ct 444 _ rfl) (show pubOk ct_M_label 110 [false, false] [T32, T32, [(0, 200)], [(0, 200)]] [(110, 8), (5, 2)] = true by decide +kernel) ⟨in32 _, in32 _, r0 v3 (k := (110, 8)) (by decide), r0 v3 (k := (5, 2)) (by decide), trivial⟩ (by decide +kernel) v4).mono (fun v' σ2 hw => ?_)
  obtain ⟨w1, w2, w3, w4, w5⟩ := hw
  exact ⟨w1 rfl, lg.kp (qH := ct_H_label) (qM := ct_M_label) (by decide +kernel) (by decide +kernel) v5 w5⟩
theorem LG_60 {E : xV} {σ : zS} (h : J0 σ) (lg : LgS σ) : LC_60 E σ LgS := by
  intro x0 x1 x2 x3
  refine (pub_call (E := E) (Y := Yf) (G := GX) (J := JJ) (z := 224) (o := 0) (t := 1) (q := ct_H_statement) (as := [.inl x0, .inl x1, .inl x2, .inl x3]) (ds := [T32, T32, T32, T32, [(0, 200)], [(0, 200)]]) (ks := [(110, 8), (5, 2)]) (KS := KS) (all_ct 224 _ rfl) (show pubOk ct_H_statement 0 [false, false, false, false] [T32, T32, T32, T32, [(0, 200)], [(0, 200)]] [(110, 8), (5, 2)] = true by decide +kernel) ⟨in32 _, in32 _, in32 _, in32 _, r0 h.2.1 (k := (110, 8)) (by decide), r0 h.2.1 (k := (5, 2)) (by decide), trivial⟩ (by decide +kernel) h.1).mono (fun v σ1 hv => ?_)
  obtain ⟨v1, v2, v3, v4, v5⟩ := hv
  obtain ⟨r, hr⟩ := v1 rfl
  refine ⟨r, hr, ?_⟩
  refine (pub_call (E := E) (Y := Yf) (G := GX) (J := JJ) (z := 447) (o := 110) (t := 1) (q := ct_M_statement) (as := [.inl x0, .inl x1, .inl x2, .inl x3]) (ds := [T32, T32, T32, T32, [(0, 200)], [(0, 200)]]) (ks := [(110, 8), (5, 2)]) (KS := KS) (all_ct 447 _ rfl) (show pubOk ct_M_statement 110 [false, false, false, false] [T32, T32, T32, T32, [(0, 200)], [(0, 200)]] [(110, 8), (5, 2)] = true by decide +kernel) ⟨in32 _, in32 _, in32 _, in32 _, r0 v3 (k := (110, 8)) (by decide), r0 v3 (k := (5, 2)) (by decide), trivial⟩ (by decide +kernel) v4).mono (fun v' σ2 hw => ?_)
  obtain ⟨w1, w2, w3, w4, w5⟩ := hw
  exact ⟨w1 rfl, lg.kp (qH := ct_H_statement) (qM := ct_M_statement) (by decide +kernel) (by decide +kernel) v5 w5⟩
theorem LG_61 {E : xV} {σ : zS} (h : J0 σ) (lg : LgS σ) : LC_61 E σ LgS := by
  refine (pub_call (E := E) (Y := Yf) (G := GX) (J := JJ) (z := 225) (o := 0) (t := 1) (q := ct_H_erase) (as := []) (ds := [[(0, 200)], [(0, 200)]]) (ks := [(110, 8), (5, 2)]) (KS := KS) (all_ct 225 _ rfl) (show pubOk ct_H_erase 0 [] [[(0, 200)], [(0, 200)]] [(110, 8), (5, 2)] = true by decide +kernel) ⟨r0 h.2.1 (k := (110, 8)) (by decide), r0 h.2.1 (k := (5, 2)) (by decide), trivial⟩ (by decide +kernel) h.1).mono (fun v σ1 hv => ?_)
  obtain ⟨v1, v2, v3, v4, v5⟩ := hv
  obtain ⟨r, hr⟩ := v1 rfl
  refine ⟨r, hr, ?_⟩
  refine (pub_call (E := E) (Y := Yf) (G := GX) (J := JJ) (z := 448) (o := 110) (t := 1) (q := ct_M_erase) (as := []) (ds := [[(0, 200)], [(0, 200)]]) (ks := [(110, 8), (5, 2)]) (KS := KS) (all_ct 448 _ rfl) (show pubOk ct_M_erase 110 [] [[(0, 200)], [(0, 200)]] [(110, 8), (5, 2)] = true by decide +kernel) ⟨r0 v3 (k := (110, 8)) (by decide), r0 v3 (k := (5, 2)) (by decide), trivial⟩ (by decide +kernel) v4).mono (fun v' σ2 hw => ?_)
  obtain ⟨w1, w2, w3, w4, w5⟩ := hw
  exact ⟨w1 rfl, lg.kp (qH := ct_H_erase) (qM := ct_M_erase) (by decide +kernel) (by decide +kernel) v5 w5⟩
theorem LG_62 {E : xV} {σ : zS} (h : J0 σ) (lg : LgS σ) : LC_62 E σ LgS := by
  refine (pub_call (E := E) (Y := Yf) (G := GX) (J := JJ) (z := 229) (o := 0) (t := 1) (q := ct_H_tight) (as := []) (ds := [[(0, 200)], [(0, 200)]]) (ks := [(110, 8), (5, 2)]) (KS := KS) (all_ct 229 _ rfl) (show pubOk ct_H_tight 0 [] [[(0, 200)], [(0, 200)]] [(110, 8), (5, 2)] = true by decide +kernel) ⟨r0 h.2.1 (k := (110, 8)) (by decide), r0 h.2.1 (k := (5, 2)) (by decide), trivial⟩ (by decide +kernel) h.1).mono (fun v σ1 hv => ?_)
  obtain ⟨v1, v2, v3, v4, v5⟩ := hv
  obtain ⟨r, hr⟩ := v1 rfl
  refine ⟨r, hr, ?_⟩
  refine (pub_call (E := E) (Y := Yf) (G := GX) (J := JJ) (z := 449) (o := 110) (t := 1) (q := ct_M_tight) (as := []) (ds := [[(0, 200)], [(0, 200)]]) (ks := [(110, 8), (5, 2)]) (KS := KS) (all_ct 449 _ rfl) (show pubOk ct_M_tight 110 [] [[(0, 200)], [(0, 200)]] [(110, 8), (5, 2)] = true by decide +kernel) ⟨r0 v3 (k := (110, 8)) (by decide), r0 v3 (k := (5, 2)) (by decide), trivial⟩ (by decide +kernel) v4).mono (fun v' σ2 hw => ?_)
  obtain ⟨w1, w2, w3, w4, w5⟩ := hw
  exact ⟨w1 rfl, lg.kp (qH := ct_H_tight) (qM := ct_M_tight) (by decide +kernel) (by decide +kernel) v5 w5⟩
theorem LG_63 {E : xV} {σ : zS} (h : J0 σ) (lg : LgS σ) : LC_63 E σ LgS := by
  refine (pub_call (E := E) (Y := Yf) (G := GX) (J := JJ) (z := 231) (o := 0) (t := 1) (q := ct_H_lowered) (as := []) (ds := [[(0, 200)], [(0, 200)]]) (ks := [(110, 8), (5, 2)]) (KS := KS) (all_ct 231 _ rfl) (show pubOk ct_H_lowered 0 [] [[(0, 200)], [(0, 200)]] [(110, 8), (5, 2)] = true by decide +kernel) ⟨r0 h.2.1 (k := (110, 8)) (by decide), r0 h.2.1 (k := (5, 2)) (by decide), trivial⟩ (by decide +kernel) h.1).mono (fun v σ1 hv => ?_)
  obtain ⟨v1, v2, v3, v4, v5⟩ := hv
  obtain ⟨r, hr⟩ := v1 rfl
  refine ⟨r, hr, ?_⟩
  refine (pub_call (E := E) (Y := Yf) (G := GX) (J := JJ) (z := 450) (o := 110) (t := 1) (q := ct_M_lowered) (as := []) (ds := [[(0, 200)], [(0, 200)]]) (ks := [(110, 8), (5, 2)]) (KS := KS) (all_ct 450 _ rfl) (show pubOk ct_M_lowered 110 [] [[(0, 200)], [(0, 200)]] [(110, 8), (5, 2)] = true by decide +kernel) ⟨r0 v3 (k := (110, 8)) (by decide), r0 v3 (k := (5, 2)) (by decide), trivial⟩ (by decide +kernel) v4).mono (fun v' σ2 hw => ?_)
  obtain ⟨w1, w2, w3, w4, w5⟩ := hw
  exact ⟨w1 rfl, lg.kp (qH := ct_H_lowered) (qM := ct_M_lowered) (by decide +kernel) (by decide +kernel) v5 w5⟩
theorem LG_64 {E : xV} {σ : zS} (h : J0 σ) (lg : LgS σ) : LC_64 E σ LgS := by
  intro x0 x1
  refine (pub_call (E := E) (Y := Yf) (G := GX) (J := JJ) (z := 232) (o := 0) (t := 1) (q := ct_H_given) (as := [.inl x0, .inl x1]) (ds := [T32, T32, [(0, 200)], [(0, 200)]]) (ks := [(110, 8), (5, 2)]) (KS := KS) (all_ct 232 _ rfl) (show pubOk ct_H_given 0 [false, false] [T32, T32, [(0, 200)], [(0, 200)]] [(110, 8), (5, 2)] = true by decide +kernel) ⟨in32 _, in32 _, r0 h.2.1 (k := (110, 8)) (by decide), r0 h.2.1 (k := (5, 2)) (by decide), trivial⟩ (by decide +kernel) h.1).mono (fun v σ1 hv => ?_)
  obtain ⟨v1, v2, v3, v4, v5⟩ := hv
  obtain ⟨r, hr⟩ := v1 rfl
  refine ⟨r, hr, ?_⟩
  refine (pub_call (E := E) (Y := Yf) (G := GX) (J := JJ) (z := 451) (o := 110) (t := 1) (q := ct_M_given) (as := [.inl x0, .inl x1]) (ds := [T32, T32, [(0, 200)], [(0, 200)]]) (ks := [(110, 8), (5, 2)]) (KS := KS) (all_ct 451 _ rfl) (show pubOk ct_M_given 110 [false, false] [T32, T32, [(0, 200)], [(0, 200)]] [(110, 8), (5, 2)] = true by decide +kernel) ⟨in32 _, in32 _, r0 v3 (k := (110, 8)) (by decide), r0 v3 (k := (5, 2)) (by decide), trivial⟩ (by decide +kernel) v4).mono (fun v' σ2 hw => ?_)
  obtain ⟨w1, w2, w3, w4, w5⟩ := hw
  exact ⟨w1 rfl, lg.kp (qH := ct_H_given) (qM := ct_M_given) (by decide +kernel) (by decide +kernel) v5 w5⟩
theorem LG_65 {E : xV} {σ : zS} (h : J0 σ) (lg : LgS σ) : LC_65 E σ LgS := by
  intro x0
  refine (pub_call (E := E) (Y := Yf) (G := GX) (J := JJ) (z := 238) (o := 0) (t := 1) (q := ct_H_flow) (as := [.inl x0]) (ds := [T32, [(0, 200)], [(0, 200)]]) (ks := [(110, 8), (5, 2)]) (KS := KS) (all_ct 238 _ rfl) (show pubOk ct_H_flow 0 [false] [T32, [(0, 200)], [(0, 200)]] [(110, 8), (5, 2)] = true by decide +kernel) ⟨in32 _, r0 h.2.1 (k := (110, 8)) (by decide), r0 h.2.1 (k := (5, 2)) (by decide), trivial⟩ (by decide +kernel) h.1).mono (fun v σ1 hv => ?_)
  obtain ⟨v1, v2, v3, v4, v5⟩ := hv
  obtain ⟨r, hr⟩ := v1 rfl
  refine ⟨r, hr, ?_⟩
  refine (pub_call (E := E) (Y := Yf) (G := GX) (J := JJ) (z := 453) (o := 110) (t := 1) (q := ct_M_flow) (as := [.inl x0]) (ds := [T32, [(0, 200)], [(0, 200)]]) (ks := [(110, 8), (5, 2)]) (KS := KS) (all_ct 453 _ rfl) (show pubOk ct_M_flow 110 [false] [T32, [(0, 200)], [(0, 200)]] [(110, 8), (5, 2)] = true by decide +kernel) ⟨in32 _, r0 v3 (k := (110, 8)) (by decide), r0 v3 (k := (5, 2)) (by decide), trivial⟩ (by decide +kernel) v4).mono (fun v' σ2 hw => ?_)
  obtain ⟨w1, w2, w3, w4, w5⟩ := hw
  exact ⟨w1 rfl, lg.kp (qH := ct_H_flow) (qM := ct_M_flow) (by decide +kernel) (by decide +kernel) v5 w5⟩
theorem LG_66 {E : xV} {σ : zS} (h : J0 σ) (lg : LgS σ) : LC_66 E σ LgS := by
  intro x0 x1
  refine (pub_call (E := E) (Y := Yf) (G := GX) (J := JJ) (z := 239) (o := 0) (t := 1) (q := ct_H_said) (as := [.inl x0, .inl x1]) (ds := [T32, T32, [(0, 200)], [(0, 200)]]) (ks := [(110, 8), (5, 2)]) (KS := KS) (all_ct 239 _ rfl) (show pubOk ct_H_said 0 [false, false] [T32, T32, [(0, 200)], [(0, 200)]] [(110, 8), (5, 2)] = true by decide +kernel) ⟨in32 _, in32 _, r0 h.2.1 (k := (110, 8)) (by decide), r0 h.2.1 (k := (5, 2)) (by decide), trivial⟩ (by decide +kernel) h.1).mono (fun v σ1 hv => ?_)
  obtain ⟨v1, v2, v3, v4, v5⟩ := hv
  obtain ⟨r, hr⟩ := v1 rfl
  refine ⟨r, hr, ?_⟩
  refine (pub_call (E := E) (Y := Yf) (G := GX) (J := JJ) (z := 454) (o := 110) (t := 1) (q := ct_M_said) (as := [.inl x0, .inl x1]) (ds := [T32, T32, [(0, 200)], [(0, 200)]]) (ks := [(110, 8), (5, 2)]) (KS := KS) (all_ct 454 _ rfl) (show pubOk ct_M_said 110 [false, false] [T32, T32, [(0, 200)], [(0, 200)]] [(110, 8), (5, 2)] = true by decide +kernel) ⟨in32 _, in32 _, r0 v3 (k := (110, 8)) (by decide), r0 v3 (k := (5, 2)) (by decide), trivial⟩ (by decide +kernel) v4).mono (fun v' σ2 hw => ?_)
  obtain ⟨w1, w2, w3, w4, w5⟩ := hw
  exact ⟨w1 rfl, lg.kp (qH := ct_H_said) (qM := ct_M_said) (by decide +kernel) (by decide +kernel) v5 w5⟩
theorem LG_67 {E : xV} {σ : zS} (h : J0 σ) (lg : LgS σ) : LC_67 E σ LgS := by
  intro x0
  refine (pub_call (E := E) (Y := Yf) (G := GX) (J := JJ) (z := 240) (o := 0) (t := 1) (q := ct_H_variable) (as := [.inl x0]) (ds := [T32, [(0, 200)], [(0, 200)]]) (ks := [(110, 8), (5, 2)]) (KS := KS) (all_ct 240 _ rfl) (show pubOk ct_H_variable 0 [false] [T32, [(0, 200)], [(0, 200)]] [(110, 8), (5, 2)] = true by decide +kernel) ⟨in32 _, r0 h.2.1 (k := (110, 8)) (by decide), r0 h.2.1 (k := (5, 2)) (by decide), trivial⟩ (by decide +kernel) h.1).mono (fun v σ1 hv => ?_)
  obtain ⟨v1, v2, v3, v4, v5⟩ := hv
  obtain ⟨r, hr⟩ := v1 rfl
  refine ⟨r, hr, ?_⟩
  refine (pub_call (E := E) (Y := Yf) (G := GX) (J := JJ) (z := 455) (o := 110) (t := 1) (q := ct_M_variable) (as := [.inl x0]) (ds := [T32, [(0, 200)], [(0, 200)]]) (ks := [(110, 8), (5, 2)]) (KS := KS) (all_ct 455 _ rfl) (show pubOk ct_M_variable 110 [false] [T32, [(0, 200)], [(0, 200)]] [(110, 8), (5, 2)] = true by decide +kernel) ⟨in32 _, r0 v3 (k := (110, 8)) (by decide), r0 v3 (k := (5, 2)) (by decide), trivial⟩ (by decide +kernel) v4).mono (fun v' σ2 hw => ?_)
  obtain ⟨w1, w2, w3, w4, w5⟩ := hw
  exact ⟨w1 rfl, lg.kp (qH := ct_H_variable) (qM := ct_M_variable) (by decide +kernel) (by decide +kernel) v5 w5⟩
theorem LG_68 {E : xV} {σ : zS} (h : J0 σ) (lg : LgS σ) : LC_68 E σ LgS := by
  intro x0 x1
  refine (pub_call (E := E) (Y := Yf) (G := GX) (J := JJ) (z := 242) (o := 0) (t := 3) (q := ct_H_guarded) (as := [.inl x0, .inr x1]) (ds := [T32, T64, [(0, 200)], [(0, 200)]]) (ks := [(110, 8), (5, 2)]) (KS := KS) (all_ct 242 _ rfl) (show pubOk ct_H_guarded 0 [false, true] [T32, T64, [(0, 200)], [(0, 200)]] [(110, 8), (5, 2)] = true by decide +kernel) ⟨in32 _, in64 _, r0 h.2.1 (k := (110, 8)) (by decide), r0 h.2.1 (k := (5, 2)) (by decide), trivial⟩ (by decide +kernel) h.1).mono (fun v σ1 hv => ?_)
  obtain ⟨v1, v2, v3, v4, v5⟩ := hv
  obtain ⟨r, hr⟩ := v2 rfl
  refine ⟨r, hr, ?_⟩
  refine (pub_call (E := E) (Y := Yf) (G := GX) (J := JJ) (z := 456) (o := 110) (t := 3) (q := ct_M_guarded) (as := [.inl x0, .inr x1]) (ds := [T32, T64, [(0, 200)], [(0, 200)]]) (ks := [(110, 8), (5, 2)]) (KS := KS) (all_ct 456 _ rfl) (show pubOk ct_M_guarded 110 [false, true] [T32, T64, [(0, 200)], [(0, 200)]] [(110, 8), (5, 2)] = true by decide +kernel) ⟨in32 _, in64 _, r0 v3 (k := (110, 8)) (by decide), r0 v3 (k := (5, 2)) (by decide), trivial⟩ (by decide +kernel) v4).mono (fun v' σ2 hw => ?_)
  obtain ⟨w1, w2, w3, w4, w5⟩ := hw
  exact ⟨w2 rfl, lg.kp (qH := ct_H_guarded) (qM := ct_M_guarded) (by decide +kernel) (by decide +kernel) v5 w5⟩
theorem LG_69 {E : xV} {σ : zS} (h : J0 σ) (lg : LgS σ) : LC_69 E σ LgS := by
  intro x0 x1
  refine (pub_call (E := E) (Y := Yf) (G := GX) (J := JJ) (z := 250) (o := 0) (t := 3) (q := ct_H_sum) (as := [.inl x0, .inr x1]) (ds := [T32, T64, [(0, 200)], [(0, 200)]]) (ks := [(110, 8), (5, 2)]) (KS := KS) (all_ct 250 _ rfl) (show pubOk ct_H_sum 0 [false, true] [T32, T64, [(0, 200)], [(0, 200)]] [(110, 8), (5, 2)] = true by decide +kernel) ⟨in32 _, in64 _, r0 h.2.1 (k := (110, 8)) (by decide), r0 h.2.1 (k := (5, 2)) (by decide), trivial⟩ (by decide +kernel) h.1).mono (fun v σ1 hv => ?_)
  obtain ⟨v1, v2, v3, v4, v5⟩ := hv
  obtain ⟨r, hr⟩ := v2 rfl
  refine ⟨r, hr, ?_⟩
  refine (pub_call (E := E) (Y := Yf) (G := GX) (J := JJ) (z := 464) (o := 110) (t := 3) (q := ct_M_sum) (as := [.inl x0, .inr x1]) (ds := [T32, T64, [(0, 200)], [(0, 200)]]) (ks := [(110, 8), (5, 2)]) (KS := KS) (all_ct 464 _ rfl) (show pubOk ct_M_sum 110 [false, true] [T32, T64, [(0, 200)], [(0, 200)]] [(110, 8), (5, 2)] = true by decide +kernel) ⟨in32 _, in64 _, r0 v3 (k := (110, 8)) (by decide), r0 v3 (k := (5, 2)) (by decide), trivial⟩ (by decide +kernel) v4).mono (fun v' σ2 hw => ?_)
  obtain ⟨w1, w2, w3, w4, w5⟩ := hw
  exact ⟨w2 rfl, lg.kp (qH := ct_H_sum) (qM := ct_M_sum) (by decide +kernel) (by decide +kernel) v5 w5⟩
theorem LG_70 {E : xV} {σ : zS} (h : J0 σ) (lg : LgS σ) : LC_70 E σ LgS := by
  intro x0 x1
  refine (pub_call (E := E) (Y := Yf) (G := GX) (J := JJ) (z := 252) (o := 0) (t := 1) (q := ct_H_share) (as := [.inl x0, .inl x1]) (ds := [T32, T32, [(0, 200)], [(0, 200)]]) (ks := [(110, 8), (5, 2)]) (KS := KS) (all_ct 252 _ rfl) (show pubOk ct_H_share 0 [false, false] [T32, T32, [(0, 200)], [(0, 200)]] [(110, 8), (5, 2)] = true by decide +kernel) ⟨in32 _, in32 _, r0 h.2.1 (k := (110, 8)) (by decide), r0 h.2.1 (k := (5, 2)) (by decide), trivial⟩ (by decide +kernel) h.1).mono (fun v σ1 hv => ?_)
  obtain ⟨v1, v2, v3, v4, v5⟩ := hv
  obtain ⟨r, hr⟩ := v1 rfl
  refine ⟨r, hr, ?_⟩
  refine (pub_call (E := E) (Y := Yf) (G := GX) (J := JJ) (z := 465) (o := 110) (t := 1) (q := ct_M_share) (as := [.inl x0, .inl x1]) (ds := [T32, T32, [(0, 200)], [(0, 200)]]) (ks := [(110, 8), (5, 2)]) (KS := KS) (all_ct 465 _ rfl) (show pubOk ct_M_share 110 [false, false] [T32, T32, [(0, 200)], [(0, 200)]] [(110, 8), (5, 2)] = true by decide +kernel) ⟨in32 _, in32 _, r0 v3 (k := (110, 8)) (by decide), r0 v3 (k := (5, 2)) (by decide), trivial⟩ (by decide +kernel) v4).mono (fun v' σ2 hw => ?_)
  obtain ⟨w1, w2, w3, w4, w5⟩ := hw
  exact ⟨w1 rfl, lg.kp (qH := ct_H_share) (qM := ct_M_share) (by decide +kernel) (by decide +kernel) v5 w5⟩
theorem LG_71 {E : xV} {σ : zS} (h : J0 σ) (lg : LgS σ) : LC_71 E σ LgS := by
  intro x0 x1
  refine (pub_call (E := E) (Y := Yf) (G := GX) (J := JJ) (z := 255) (o := 0) (t := 1) (q := ct_H_knows) (as := [.inl x0, .inl x1]) (ds := [T32, T32, [(0, 200)], [(0, 200)]]) (ks := [(110, 8), (5, 2)]) (KS := KS) (all_ct 255 _ rfl) (show pubOk ct_H_knows 0 [false, false] [T32, T32, [(0, 200)], [(0, 200)]] [(110, 8), (5, 2)] = true by decide +kernel) ⟨in32 _, in32 _, r0 h.2.1 (k := (110, 8)) (by decide), r0 h.2.1 (k := (5, 2)) (by decide), trivial⟩ (by decide +kernel) h.1).mono (fun v σ1 hv => ?_)
  obtain ⟨v1, v2, v3, v4, v5⟩ := hv
  obtain ⟨r, hr⟩ := v1 rfl
  refine ⟨r, hr, ?_⟩
  refine (pub_call (E := E) (Y := Yf) (G := GX) (J := JJ) (z := 466) (o := 110) (t := 1) (q := ct_M_knows) (as := [.inl x0, .inl x1]) (ds := [T32, T32, [(0, 200)], [(0, 200)]]) (ks := [(110, 8), (5, 2)]) (KS := KS) (all_ct 466 _ rfl) (show pubOk ct_M_knows 110 [false, false] [T32, T32, [(0, 200)], [(0, 200)]] [(110, 8), (5, 2)] = true by decide +kernel) ⟨in32 _, in32 _, r0 v3 (k := (110, 8)) (by decide), r0 v3 (k := (5, 2)) (by decide), trivial⟩ (by decide +kernel) v4).mono (fun v' σ2 hw => ?_)
  obtain ⟨w1, w2, w3, w4, w5⟩ := hw
  exact ⟨w1 rfl, lg.kp (qH := ct_H_knows) (qM := ct_M_knows) (by decide +kernel) (by decide +kernel) v5 w5⟩
theorem LG_72 {E : xV} {σ : zS} (h : J0 σ) (lg : LgS σ) : LC_72 E σ LgS := by
  intro x0
  refine (pub_call (E := E) (Y := Yf) (G := GX) (J := JJ) (z := 258) (o := 0) (t := 1) (q := ct_H_room) (as := [.inl x0]) (ds := [T32, [(0, 200)], [(0, 200)]]) (ks := [(110, 8), (5, 2)]) (KS := KS) (all_ct 258 _ rfl) (show pubOk ct_H_room 0 [false] [T32, [(0, 200)], [(0, 200)]] [(110, 8), (5, 2)] = true by decide +kernel) ⟨in32 _, r0 h.2.1 (k := (110, 8)) (by decide), r0 h.2.1 (k := (5, 2)) (by decide), trivial⟩ (by decide +kernel) h.1).mono (fun v σ1 hv => ?_)
  obtain ⟨v1, v2, v3, v4, v5⟩ := hv
  obtain ⟨r, hr⟩ := v1 rfl
  refine ⟨r, hr, ?_⟩
  refine (pub_call (E := E) (Y := Yf) (G := GX) (J := JJ) (z := 467) (o := 110) (t := 1) (q := ct_M_room) (as := [.inl x0]) (ds := [T32, [(0, 200)], [(0, 200)]]) (ks := [(110, 8), (5, 2)]) (KS := KS) (all_ct 467 _ rfl) (show pubOk ct_M_room 110 [false] [T32, [(0, 200)], [(0, 200)]] [(110, 8), (5, 2)] = true by decide +kernel) ⟨in32 _, r0 v3 (k := (110, 8)) (by decide), r0 v3 (k := (5, 2)) (by decide), trivial⟩ (by decide +kernel) v4).mono (fun v' σ2 hw => ?_)
  obtain ⟨w1, w2, w3, w4, w5⟩ := hw
  exact ⟨w1 rfl, lg.kp (qH := ct_H_room) (qM := ct_M_room) (by decide +kernel) (by decide +kernel) v5 w5⟩
theorem LG_73 {E : xV} {σ : zS} (h : J0 σ) (lg : LgS σ) : LC_73 E σ LgS := by
  intro x0
  refine (pub_call (E := E) (Y := Yf) (G := GX) (J := JJ) (z := 260) (o := 0) (t := 1) (q := ct_H_method) (as := [.inl x0]) (ds := [T32, [(0, 200)], [(0, 200)]]) (ks := [(110, 8), (5, 2)]) (KS := KS) (all_ct 260 _ rfl) (show pubOk ct_H_method 0 [false] [T32, [(0, 200)], [(0, 200)]] [(110, 8), (5, 2)] = true by decide +kernel) ⟨in32 _, r0 h.2.1 (k := (110, 8)) (by decide), r0 h.2.1 (k := (5, 2)) (by decide), trivial⟩ (by decide +kernel) h.1).mono (fun v σ1 hv => ?_)
  obtain ⟨v1, v2, v3, v4, v5⟩ := hv
  obtain ⟨r, hr⟩ := v1 rfl
  refine ⟨r, hr, ?_⟩
  refine (pub_call (E := E) (Y := Yf) (G := GX) (J := JJ) (z := 468) (o := 110) (t := 1) (q := ct_M_method) (as := [.inl x0]) (ds := [T32, [(0, 200)], [(0, 200)]]) (ks := [(110, 8), (5, 2)]) (KS := KS) (all_ct 468 _ rfl) (show pubOk ct_M_method 110 [false] [T32, [(0, 200)], [(0, 200)]] [(110, 8), (5, 2)] = true by decide +kernel) ⟨in32 _, r0 v3 (k := (110, 8)) (by decide), r0 v3 (k := (5, 2)) (by decide), trivial⟩ (by decide +kernel) v4).mono (fun v' σ2 hw => ?_)
  obtain ⟨w1, w2, w3, w4, w5⟩ := hw
  exact ⟨w1 rfl, lg.kp (qH := ct_H_method) (qM := ct_M_method) (by decide +kernel) (by decide +kernel) v5 w5⟩
theorem LG_74 {E : xV} {σ : zS} (h : J0 σ) (lg : LgS σ) : LC_74 E σ LgS := by
  intro x0 x1 x2 x3
  refine (pub_call (E := E) (Y := Yf) (G := GX) (J := JJ) (z := 263) (o := 0) (t := 1) (q := ct_H_op) (as := [.inl x0, .inl x1, .inl x2, .inl x3]) (ds := [T32, T32, T32, T32, [(0, 200)], [(0, 200)]]) (ks := [(110, 8), (5, 2)]) (KS := KS) (all_ct 263 _ rfl) (show pubOk ct_H_op 0 [false, false, false, false] [T32, T32, T32, T32, [(0, 200)], [(0, 200)]] [(110, 8), (5, 2)] = true by decide +kernel) ⟨in32 _, in32 _, in32 _, in32 _, r0 h.2.1 (k := (110, 8)) (by decide), r0 h.2.1 (k := (5, 2)) (by decide), trivial⟩ (by decide +kernel) h.1).mono (fun v σ1 hv => ?_)
  obtain ⟨v1, v2, v3, v4, v5⟩ := hv
  obtain ⟨r, hr⟩ := v1 rfl
  refine ⟨r, hr, ?_⟩
  refine (pub_call (E := E) (Y := Yf) (G := GX) (J := JJ) (z := 469) (o := 110) (t := 1) (q := ct_M_op) (as := [.inl x0, .inl x1, .inl x2, .inl x3]) (ds := [T32, T32, T32, T32, [(0, 200)], [(0, 200)]]) (ks := [(110, 8), (5, 2)]) (KS := KS) (all_ct 469 _ rfl) (show pubOk ct_M_op 110 [false, false, false, false] [T32, T32, T32, T32, [(0, 200)], [(0, 200)]] [(110, 8), (5, 2)] = true by decide +kernel) ⟨in32 _, in32 _, in32 _, in32 _, r0 v3 (k := (110, 8)) (by decide), r0 v3 (k := (5, 2)) (by decide), trivial⟩ (by decide +kernel) v4).mono (fun v' σ2 hw => ?_)
  obtain ⟨w1, w2, w3, w4, w5⟩ := hw
  exact ⟨w1 rfl, lg.kp (qH := ct_H_op) (qM := ct_M_op) (by decide +kernel) (by decide +kernel) v5 w5⟩
theorem LG_75 {E : xV} {σ : zS} (h : J0 σ) (lg : LgS σ) : LC_75 E σ LgS := by
  intro x0 x1
  refine (pub_call (E := E) (Y := Yf) (G := GX) (J := JJ) (z := 271) (o := 0) (t := 1) (q := ct_H_enter) (as := [.inl x0, .inl x1]) (ds := [T32, T32, [(0, 200)], [(0, 200)]]) (ks := [(110, 8), (5, 2)]) (KS := KS) (all_ct 271 _ rfl) (show pubOk ct_H_enter 0 [false, false] [T32, T32, [(0, 200)], [(0, 200)]] [(110, 8), (5, 2)] = true by decide +kernel) ⟨in32 _, in32 _, r0 h.2.1 (k := (110, 8)) (by decide), r0 h.2.1 (k := (5, 2)) (by decide), trivial⟩ (by decide +kernel) h.1).mono (fun v σ1 hv => ?_)
  obtain ⟨v1, v2, v3, v4, v5⟩ := hv
  obtain ⟨r, hr⟩ := v1 rfl
  refine ⟨r, hr, ?_⟩
  refine (pub_call (E := E) (Y := Yf) (G := GX) (J := JJ) (z := 473) (o := 110) (t := 1) (q := ct_M_enter) (as := [.inl x0, .inl x1]) (ds := [T32, T32, [(0, 200)], [(0, 200)]]) (ks := [(110, 8), (5, 2)]) (KS := KS) (all_ct 473 _ rfl) (show pubOk ct_M_enter 110 [false, false] [T32, T32, [(0, 200)], [(0, 200)]] [(110, 8), (5, 2)] = true by decide +kernel) ⟨in32 _, in32 _, r0 v3 (k := (110, 8)) (by decide), r0 v3 (k := (5, 2)) (by decide), trivial⟩ (by decide +kernel) v4).mono (fun v' σ2 hw => ?_)
  obtain ⟨w1, w2, w3, w4, w5⟩ := hw
  exact ⟨w1 rfl, lg.kp (qH := ct_H_enter) (qM := ct_M_enter) (by decide +kernel) (by decide +kernel) v5 w5⟩
theorem LG_76 {E : xV} {σ : zS} (h : J0 σ) (lg : LgS σ) : LC_76 E σ LgS := by
  intro x0
  refine (pub_call (E := E) (Y := Yf) (G := GX) (J := JJ) (z := 272) (o := 0) (t := 1) (q := ct_H_entered) (as := [.inl x0]) (ds := [T32, [(0, 200)], [(0, 200)]]) (ks := [(110, 8), (5, 2)]) (KS := KS) (all_ct 272 _ rfl) (show pubOk ct_H_entered 0 [false] [T32, [(0, 200)], [(0, 200)]] [(110, 8), (5, 2)] = true by decide +kernel) ⟨in32 _, r0 h.2.1 (k := (110, 8)) (by decide), r0 h.2.1 (k := (5, 2)) (by decide), trivial⟩ (by decide +kernel) h.1).mono (fun v σ1 hv => ?_)
  obtain ⟨v1, v2, v3, v4, v5⟩ := hv
  obtain ⟨r, hr⟩ := v1 rfl
  refine ⟨r, hr, ?_⟩
  refine (pub_call (E := E) (Y := Yf) (G := GX) (J := JJ) (z := 474) (o := 110) (t := 1) (q := ct_M_entered) (as := [.inl x0]) (ds := [T32, [(0, 200)], [(0, 200)]]) (ks := [(110, 8), (5, 2)]) (KS := KS) (all_ct 474 _ rfl) (show pubOk ct_M_entered 110 [false] [T32, [(0, 200)], [(0, 200)]] [(110, 8), (5, 2)] = true by decide +kernel) ⟨in32 _, r0 v3 (k := (110, 8)) (by decide), r0 v3 (k := (5, 2)) (by decide), trivial⟩ (by decide +kernel) v4).mono (fun v' σ2 hw => ?_)
  obtain ⟨w1, w2, w3, w4, w5⟩ := hw
  exact ⟨w1 rfl, lg.kp (qH := ct_H_entered) (qM := ct_M_entered) (by decide +kernel) (by decide +kernel) v5 w5⟩
theorem LG_77 {E : xV} {σ : zS} (h : J0 σ) (lg : LgS σ) : LC_77 E σ LgS := by
  intro x0 x1
  refine (pub_call (E := E) (Y := Yf) (G := GX1) (J := JJ1) (z := 274) (o := 0) (t := 1) (q := ct_H_half) (as := [.inl x0, .inl x1]) (ds := [T32, T32, [(0, 200)], [(0, 200)]]) (ks := [(110, 8), (5, 2)]) (KS := KS) (all_ct1 274 _ rfl) (show pubOk ct_H_half 0 [false, false] [T32, T32, [(0, 200)], [(0, 200)]] [(110, 8), (5, 2)] = true by decide +kernel) ⟨in32 _, in32 _, r0 h.2.1 (k := (110, 8)) (by decide), r0 h.2.1 (k := (5, 2)) (by decide), trivial⟩ (by decide +kernel) (jj1 h.1)).mono (fun v σ1 hv => ?_)
  obtain ⟨v1, v2, v3, v4, v5⟩ := hv
  obtain ⟨r, hr⟩ := v1 rfl
  refine ⟨r, hr, ?_⟩
  refine (pub_call (E := E) (Y := Yf) (G := GX1) (J := JJ1) (z := 476) (o := 110) (t := 1) (q := ct_M_half) (as := [.inl x0, .inl x1]) (ds := [T32, T32, [(0, 200)], [(0, 200)]]) (ks := [(110, 8), (5, 2)]) (KS := KS) (all_ct1 476 _ rfl) (show pubOk ct_M_half 110 [false, false] [T32, T32, [(0, 200)], [(0, 200)]] [(110, 8), (5, 2)] = true by decide +kernel) ⟨in32 _, in32 _, r0 v3 (k := (110, 8)) (by decide), r0 v3 (k := (5, 2)) (by decide), trivial⟩ (by decide +kernel) v4).mono (fun v' σ2 hw => ?_)
  obtain ⟨w1, w2, w3, w4, w5⟩ := hw
  exact ⟨w1 rfl, lg.kp (qH := ct_H_half) (qM := ct_M_half) (by decide +kernel) (by decide +kernel) v5 w5⟩
theorem LG_78 {E : xV} {σ : zS} (h : J0 σ) (lg : LgS σ) : LC_78 E σ LgS := by
  refine (pub_call (E := E) (Y := Yf) (G := GX1) (J := JJ1) (z := 278) (o := 0) (t := 1) (q := ct_H_joined) (as := []) (ds := [[(0, 200)], [(0, 200)]]) (ks := [(110, 8), (5, 2)]) (KS := KS) (all_ct1 278 _ rfl) (show pubOk ct_H_joined 0 [] [[(0, 200)], [(0, 200)]] [(110, 8), (5, 2)] = true by decide +kernel) ⟨r0 h.2.1 (k := (110, 8)) (by decide), r0 h.2.1 (k := (5, 2)) (by decide), trivial⟩ (by decide +kernel) (jj1 h.1)).mono (fun v σ1 hv => ?_)
  obtain ⟨v1, v2, v3, v4, v5⟩ := hv
  obtain ⟨r, hr⟩ := v1 rfl
  refine ⟨r, hr, ?_⟩
  refine (pub_call (E := E) (Y := Yf) (G := GX1) (J := JJ1) (z := 477) (o := 110) (t := 1) (q := ct_M_joined) (as := []) (ds := [[(0, 200)], [(0, 200)]]) (ks := [(110, 8), (5, 2)]) (KS := KS) (all_ct1 477 _ rfl) (show pubOk ct_M_joined 110 [] [[(0, 200)], [(0, 200)]] [(110, 8), (5, 2)] = true by decide +kernel) ⟨r0 v3 (k := (110, 8)) (by decide), r0 v3 (k := (5, 2)) (by decide), trivial⟩ (by decide +kernel) v4).mono (fun v' σ2 hw => ?_)
  obtain ⟨w1, w2, w3, w4, w5⟩ := hw
  exact ⟨w1 rfl, lg.kp (qH := ct_H_joined) (qM := ct_M_joined) (by decide +kernel) (by decide +kernel) v5 w5⟩
theorem LG_79 {E : xV} {σ : zS} (h : J0 σ) (lg : LgS σ) : LCu_79 E σ LgS := by
  intro x0 x1
  refine (pub_call (E := E) (Y := Yf) (G := GX) (J := JJ) (z := 279) (o := 0) (t := 1) (q := ct_H_logged) (as := [.inl x0, .inl x1]) (ds := [T32, T32, [(0, 200)], [(0, 200)]]) (ks := [(110, 8), (5, 2)]) (KS := KS) (all_ct 279 _ rfl) (show pubOk ct_H_logged 0 [false, false] [T32, T32, [(0, 200)], [(0, 200)]] [(110, 8), (5, 2)] = true by decide +kernel) ⟨in32 _, in32 _, r0 h.2.1 (k := (110, 8)) (by decide), r0 h.2.1 (k := (5, 2)) (by decide), trivial⟩ (by decide +kernel) h.1).mono (fun v σ1 hv => ?_)
  obtain ⟨v1, v2, v3, v4, v5⟩ := hv
  obtain ⟨r, hr⟩ := v1 rfl
  refine ⟨r, hr, ?_⟩
  refine (pub_call (E := E) (Y := Yf) (G := GX) (J := JJ) (z := 308) (o := 110) (t := 1) (q := ct_M_logged) (as := [.inl x0, .inl x1]) (ds := [T32, T32, [(0, 200)], [(0, 200)]]) (ks := [(110, 8), (5, 2)]) (KS := KS) (all_ct 308 _ rfl) (show pubOk ct_M_logged 110 [false, false] [T32, T32, [(0, 200)], [(0, 200)]] [(110, 8), (5, 2)] = true by decide +kernel) ⟨in32 _, in32 _, r0 v3 (k := (110, 8)) (by decide), r0 v3 (k := (5, 2)) (by decide), trivial⟩ (by decide +kernel) v4).mono (fun v' σ2 hw => ?_)
  obtain ⟨w1, w2, w3, w4, w5⟩ := hw
  exact ⟨w1 rfl, lg.kp (qH := ct_H_logged) (qM := ct_M_logged) (by decide +kernel) (by decide +kernel) v5 w5⟩
theorem LG_81 {E : xV} {σ : zS} (h : J0 σ) (lg : LgS σ) : LC_81 E σ LgS := by
  refine (pub_call (E := E) (Y := Yf) (G := GX) (J := JJ) (z := 281) (o := 0) (t := 1) (q := ct_H_wrong) (as := []) (ds := [[(0, 200)], [(0, 200)]]) (ks := [(110, 8), (5, 2)]) (KS := KS) (all_ct 281 _ rfl) (show pubOk ct_H_wrong 0 [] [[(0, 200)], [(0, 200)]] [(110, 8), (5, 2)] = true by decide +kernel) ⟨r0 h.2.1 (k := (110, 8)) (by decide), r0 h.2.1 (k := (5, 2)) (by decide), trivial⟩ (by decide +kernel) h.1).mono (fun v σ1 hv => ?_)
  obtain ⟨v1, v2, v3, v4, v5⟩ := hv
  obtain ⟨r, hr⟩ := v1 rfl
  refine ⟨r, hr, ?_⟩
  refine (pub_call (E := E) (Y := Yf) (G := GX) (J := JJ) (z := 310) (o := 110) (t := 1) (q := ct_M_wrong) (as := []) (ds := [[(0, 200)], [(0, 200)]]) (ks := [(110, 8), (5, 2)]) (KS := KS) (all_ct 310 _ rfl) (show pubOk ct_M_wrong 110 [] [[(0, 200)], [(0, 200)]] [(110, 8), (5, 2)] = true by decide +kernel) ⟨r0 v3 (k := (110, 8)) (by decide), r0 v3 (k := (5, 2)) (by decide), trivial⟩ (by decide +kernel) v4).mono (fun v' σ2 hw => ?_)
  obtain ⟨w1, w2, w3, w4, w5⟩ := hw
  exact ⟨w1 rfl, lg.kp (qH := ct_H_wrong) (qM := ct_M_wrong) (by decide +kernel) (by decide +kernel) v5 w5⟩
theorem LG_82 {E : xV} {σ : zS} (h : J0 σ) (lg : LgS σ) : LC_82 E σ LgS := by
  intro x0 x1
  refine (pub_call (E := E) (Y := Yf) (G := GX) (J := JJ) (z := 282) (o := 0) (t := 1) (q := ct_H_sealed) (as := [.inl x0, .inl x1]) (ds := [T32, T32, [(0, 200)], [(0, 200)]]) (ks := [(110, 8), (5, 2)]) (KS := KS) (all_ct 282 _ rfl) (show pubOk ct_H_sealed 0 [false, false] [T32, T32, [(0, 200)], [(0, 200)]] [(110, 8), (5, 2)] = true by decide +kernel) ⟨in32 _, in32 _, r0 h.2.1 (k := (110, 8)) (by decide), r0 h.2.1 (k := (5, 2)) (by decide), trivial⟩ (by decide +kernel) h.1).mono (fun v σ1 hv => ?_)
  obtain ⟨v1, v2, v3, v4, v5⟩ := hv
  obtain ⟨r, hr⟩ := v1 rfl
  refine ⟨r, hr, ?_⟩
  refine (pub_call (E := E) (Y := Yf) (G := GX) (J := JJ) (z := 311) (o := 110) (t := 1) (q := ct_M_sealed) (as := [.inl x0, .inl x1]) (ds := [T32, T32, [(0, 200)], [(0, 200)]]) (ks := [(110, 8), (5, 2)]) (KS := KS) (all_ct 311 _ rfl) (show pubOk ct_M_sealed 110 [false, false] [T32, T32, [(0, 200)], [(0, 200)]] [(110, 8), (5, 2)] = true by decide +kernel) ⟨in32 _, in32 _, r0 v3 (k := (110, 8)) (by decide), r0 v3 (k := (5, 2)) (by decide), trivial⟩ (by decide +kernel) v4).mono (fun v' σ2 hw => ?_)
  obtain ⟨w1, w2, w3, w4, w5⟩ := hw
  exact ⟨w1 rfl, lg.kp (qH := ct_H_sealed) (qM := ct_M_sealed) (by decide +kernel) (by decide +kernel) v5 w5⟩
theorem LG_83 {E : xV} {σ : zS} (h : J0 σ) (lg : LgS σ) : LC_83 E σ LgS := by
  intro x0 x1 x2 x3
  refine (pub_call (E := E) (Y := Yf) (G := GX) (J := JJ) (z := 283) (o := 0) (t := 1) (q := ct_H_could) (as := [.inl x0, .inl x1, .inl x2, .inl x3]) (ds := [T32, T32, T32, T32, [(0, 200)], [(0, 200)]]) (ks := [(110, 8), (5, 2)]) (KS := KS) (all_ct 283 _ rfl) (show pubOk ct_H_could 0 [false, false, false, false] [T32, T32, T32, T32, [(0, 200)], [(0, 200)]] [(110, 8), (5, 2)] = true by decide +kernel) ⟨in32 _, in32 _, in32 _, in32 _, r0 h.2.1 (k := (110, 8)) (by decide), r0 h.2.1 (k := (5, 2)) (by decide), trivial⟩ (by decide +kernel) h.1).mono (fun v σ1 hv => ?_)
  obtain ⟨v1, v2, v3, v4, v5⟩ := hv
  obtain ⟨r, hr⟩ := v1 rfl
  refine ⟨r, hr, ?_⟩
  refine (pub_call (E := E) (Y := Yf) (G := GX) (J := JJ) (z := 398) (o := 110) (t := 1) (q := ct_M_could) (as := [.inl x0, .inl x1, .inl x2, .inl x3]) (ds := [T32, T32, T32, T32, [(0, 200)], [(0, 200)]]) (ks := [(110, 8), (5, 2)]) (KS := KS) (all_ct 398 _ rfl) (show pubOk ct_M_could 110 [false, false, false, false] [T32, T32, T32, T32, [(0, 200)], [(0, 200)]] [(110, 8), (5, 2)] = true by decide +kernel) ⟨in32 _, in32 _, in32 _, in32 _, r0 v3 (k := (110, 8)) (by decide), r0 v3 (k := (5, 2)) (by decide), trivial⟩ (by decide +kernel) v4).mono (fun v' σ2 hw => ?_)
  obtain ⟨w1, w2, w3, w4, w5⟩ := hw
  exact ⟨w1 rfl, lg.kp (qH := ct_H_could) (qM := ct_M_could) (by decide +kernel) (by decide +kernel) v5 w5⟩
end
