noncomputable section
section H41
variable {T : Jx} {G : Gl} {cs : List Cp} {s : Sy} {ρ : List Int} {σ : zS} {kT kH kF jB kE : Nat}
noncomputable def bit9 (s : Sy) (m i : AV) : Option AV := match lk s.hl 840, lk s.hl 841, lk s.hl 842 with
  | some t, some o, some b => bif eqA s t m && eqA s o i then some b else none
  | _, _, _ => none
theorem bit9_ok {J : Jt} (ho : Ok J s ρ σ) {H : List (Nat × Int)} (i1 : Hl ρ s.hl H) (hB : bS2 H) {m i b : AV} {M : Int32} {I : Nat} (hm : ev ρ m = some M.toInt) (hi : ev ρ i = some (I : Int)) (hI : I < 6) (h : bit9 s m i = some b) : ev ρ b = some (b2i (bitN M I)) := by
  unfold bit9 at h
  split at h
  · rename_i t o b' qt qo qb
    cases hc : eqA s t m && eqA s o i with
    | false => rw [hc] at h; cases h
    | true =>
      rw [hc] at h
      cases Option.some.inj h
      rw [Bool.and_eq_true] at hc
      obtain ⟨zt, t1, t2⟩ := tag_get ho i1 qt
      obtain ⟨zo, o1, o2⟩ := tag_get ho i1 qo
      obtain ⟨zb, b1, b2⟩ := tag_get ho i1 qb
      have f1 := eqA_ok ho hc.1 t2 hm
      have f2 := eqA_ok ho hc.2 o2 hi
      rw [b2, (hB.1 zt zo zb t1 o1 b1).at (x := M) (n := I) f1.symm f2 hI]
  · cases h
noncomputable def hld9 (kH : Nat) (s : Sy) (i j : AV) : Option AV := match lk s.hl 866 with
  | some p => bif eq6 s p i j then oth s kH p else none
  | none => none
theorem hld9_ok {J : Jt} (ho : Ok J s ρ σ) {H : List (Nat × Int)} (i1 : Hl ρ s.hl H) {i j r : AV} {I K : Nat} (hi : ev ρ i = some (I : Int)) (hj : ev ρ j = some (K : Int)) (h : hld9 kH s i j = some r) : ev ρ r = some (σ.1 kH (6 * I + K)).toInt := by
  unfold hld9 at h
  split at h
  · rename_i p qp
    cases hc : eq6 s p i j with
    | false => rw [hc] at h; cases h
    | true =>
      rw [hc] at h
      obtain ⟨zp, p1, p2⟩ := tag_get ho i1 qp
      have e := eq6_ok ho p2 hi hj hc
      exact (oth_ok ho h (p2.trans (congrArg some (show zp = ((6 * I + K : Nat) : Int) by omega)))).2
  · cases h
noncomputable def c198A (kH kF jB : Nat) (m i j p : AV) (s : Sy) : Bool := match lk s.hl 843, lk s.hl 844, lk s.hl 845 with
  | some t, some o, some w => (match lk s.hl 846, bit9 s m i, hld9 kH s i j with
    | some c, some b, some r => (match mget s.me kF (.c (jB : Int)) with
      | some g => ((eqA s t m && eqA s o j) && (eqA s w p && eqA s c (.c 1))) && ((eqA s b (.c 1) && leAV s (.c 1) r) && ((g.isI && eqA s g (.c 1)) && (!(isS (lk s.hl 820)) && !(isS (lk s.hl 821)))))
      | none => false)
    | _, _, _ => false)
  | _, _, _ => false
noncomputable def c198B (kH : Nat) (m i j p : AV) (s : Sy) : Bool := match lk s.hl 847, lk s.hl 848, lk s.hl 849 with
  | some a, some c, some w => ((eqA s a m && eqA s c (.c 0)) && eqA s w p) && ((match bit9 s m i with
    | some b => eqA s b (.c 0)
    | none => false) || (match hld9 kH s i j with
    | some r => leAV s r (.c 0)
    | none => false))
  | _, _, _ => false
/-- the edges, as the reference holds them -/
theorem edge_ok {H : List (Nat × Int)} (h1 : bS1 kT kH kF jB H σ) (n0 : lk H 820 = none) (n1 : lk H 821 = none) (g : (σ.1 kF jB).toInt = 1) {a b : Nat} (ha : a < 6) (hb : b < 6) (hab : a ≠ b) : b2i (bitN (σ.1 kT a) b) = (σ.1 kH (6 * a + b)).toInt := by
  have := h1.1 a b ha hb hab (by rintro ⟨q, _⟩; rw [n1] at q; cases q)
  unfold efB at this
  rw [if_pos ⟨g, n0⟩] at this
  exact this
/-- what the step makes of the mask -/
theorem c198_ok {J : Jt} (ho : Ok J s ρ σ) {H : List (Nat × Int)} (i1 : Hl ρ s.hl H) (hB : bS9 kT kH kF jB H σ) (h3 : C3 (lk H 847) (lk H 848) (lk H 849)) {m i j p : AV} {M : Int32} {I K : Nat} {z : Int} (hm : ev ρ m = some M.toInt) (hi : ev ρ i = some (I : Int)) (hj : ev ρ j = some (K : Int)) (hI : I < 6) (hK : K < 6) (hp : ev ρ p = some z) (h : (c198A kH kF jB m i j p s || c198B kH m i j p s) = true) :
    ∃ M' : Int32, M'.toInt = z ∧ (∀ b, b < 6 → bitN M b = true → bitN M' b = true) ∧ (∀ b, b < 6 → bitN M' b = true → bitN M b = true ∨ (b = K ∧ bitN M I = true ∧ (I = K ∨ Eb kT σ I K))) ∧ (bitN M I = true → 1 ≤ (σ.1 kH (6 * I + K)).toInt → bitN M' K = true) := by
  rw [Bool.or_eq_true] at h
  rcases h with h | h
  · unfold c198A at h
    split at h
    · rename_i t o w qt qo qw
      split at h
      · rename_i c b r qc hb hr
        split at h
        · rename_i g hg
          simp only [Bool.and_eq_true] at h
          obtain ⟨⟨⟨a1, a2⟩, a3, a4⟩, ⟨a5, a6⟩, ⟨a7, a8⟩, a9, a10⟩ := h
          obtain ⟨zt, t1, t2⟩ := tag_get ho i1 qt
          obtain ⟨zo, o1, o2⟩ := tag_get ho i1 qo
          obtain ⟨zw, w1, w2⟩ := tag_get ho i1 qw
          obtain ⟨zc, k1, k2⟩ := tag_get ho i1 qc
          have n0 := no_tag i1 a9
          have n1 := no_tag i1 a10
          have f1 := eqA_ok ho a1 t2 hm
          have f2 := eqA_ok ho a2 o2 hj
          have f3 := eqA_ok ho a3 w2 hp
          have f4 := eqA_ok ho a4 k2 (y := 1) rfl
          have f5 := eqA_ok ho a5 (bit9_ok ho i1 hB.2 hm hi hI hb) (y := 1) rfl
          have f6 := leAV_ok ho a6 (x := 1) rfl (hld9_ok ho i1 hi hj hr)
          have f8 := eqA_ok ho a8 (me_at ho hg rfl a7) (y := 1) rfl
          have bI := b2i_1L9.mp f5
          obtain ⟨X, Y, e1, e2, up⟩ := hB.2.2 zt zo zw zc t1 o1 w1 k1
          have eX : X = M := Int32.toInt_inj.mp (e1.trans f1)
          have up := up K f2 hK
          rw [eX, f4] at up
          have yK : bitN Y K = true := by
            have := up K hK
            rw [if_pos rfl] at this
            exact b2i_1L9.mp this
          refine ⟨Y, e2.trans f3, fun b hb q => ?_, fun b hb q => ?_, fun _ _ => yK⟩
          · by_cases e : b = K
            · rw [e]; exact yK
            · have := up b hb
              rw [if_neg e, q] at this
              exact b2i_1L9.mp this
          · by_cases e : b = K
            · refine Or.inr ⟨e, bI, ?_⟩
              by_cases e2 : I = K
              · exact Or.inl e2
              · have ed := edge_ok hB.1 n0 n1 f8 hI hK e2
                refine Or.inr ⟨hI, hK, ?_⟩
                cases hbit : bitN (σ.1 kT I) K with
                | true => rfl
                | false =>
                  rw [hbit] at ed
                  have : (0 : Int) = (σ.1 kH (6 * I + K)).toInt := ed
                  omega
            · have := up b hb
              rw [if_neg e, q] at this
              exact Or.inl (b2i_1L9.mp this.symm)
        · cases h
      · cases h
    · cases h
  · unfold c198B at h
    split at h
    · rename_i a c w qa qc qw
      rw [Bool.and_eq_true, Bool.and_eq_true, Bool.and_eq_true, Bool.or_eq_true] at h
      obtain ⟨⟨⟨a1, a2⟩, a3⟩, h⟩ := h
      obtain ⟨za, b1, b2⟩ := tag_get ho i1 qa
      obtain ⟨zc, c1, c2⟩ := tag_get ho i1 qc
      obtain ⟨zw, w1, w2⟩ := tag_get ho i1 qw
      have f1 := eqA_ok ho a1 b2 hm
      have f2 := eqA_ok ho a2 c2 (y := 0) rfl
      have f3 := eqA_ok ho a3 w2 hp
      obtain ⟨X, Y, e1, e2, e3⟩ := h3 za zc zw b1 c1 w1
      have eX : X = M := Int32.toInt_inj.mp (e1.trans f1)
      have eY : Y = 0 := Int32.toInt_inj.mp (by rw [e2, f2]; rfl)
      have z0 : ∀ m, m < 6 → bitN (0 : Int32) m = false := by decide +kernel
      have same : ∀ b, b < 6 → bitN (X ||| Y) b = bitN M b := fun b hb => by rw [bit_or, eX, eY, z0 b hb, Bool.or_false]
      refine ⟨X ||| Y, e3.trans f3, fun b hb q => by rw [same b hb]; exact q, fun b hb q => by rw [same b hb] at q; exact Or.inl q, fun q1 q2 => ?_⟩
      rcases h with h | h
      · split at h
        · rename_i b hb
          have f := eqA_ok ho h (bit9_ok ho i1 hB.2 hm hi hI hb) (y := 0) rfl
          rw [q1] at f
          cases f
        · cases h
      · split at h
        · rename_i r hr
          have f := leAV_ok ho h (hld9_ok ho i1 hi hj hr) (y := 0) rfl
          omega
        · cases h
    · cases h
noncomputable def h198 (kH kF jB : Nat) (p : AV) (s : Sy) : Sy := match lk s.hl 855, lk s.hl 856, lk s.hl 857 with
  | some _, some m, some _ => (match lk s.hl 858, lk s.hl 859 with
    | some i, some j => bif (((leAV s (.c 0) i && leAV s i (.c 5)) && (leAV s (.c 0) j && leAV s j (.c 5))) && !(isS (lk s.hl 860))) && (c198A kH kF jB m i j p s || c198B kH m i j p s) then s.seth (hup 856 p (hup 859 (shA j 1) (hdel 847 (hdel 848 (hdel 849 (hdel 866 s.hl)))))) else s
    | _, _ => s)
  | _, _, _ => s
theorem h198_ok (hP : PH T G cs (cC9 kT kH kF jB kE)) {p : AV} {z : Int} (hz : ev ρ p = some z) (ho : Ok (Jf T G (cS cs)) s ρ σ) : Ok (Jf T G (cS cs)) (h198 kH kF jB p s) ρ σ := by
  unfold h198
  split
  · rename_i q m y qq qm qy
    split
    · rename_i i j qi qj
      cases hc : (((leAV s (.c 0) i && leAV s i (.c 5)) && (leAV s (.c 0) j && leAV s j (.c 5))) && !(isS (lk s.hl 860))) && (c198A kH kF jB m i j p s || c198B kH m i j p s) with
      | false => exact ho
      | true =>
        rw [Bool.and_eq_true, Bool.and_eq_true, Bool.and_eq_true, Bool.and_eq_true, Bool.and_eq_true] at hc
        obtain ⟨⟨⟨⟨c1, c2⟩, c3, c4⟩, c5⟩, c6⟩ := hc
        obtain ⟨H, i1, i2⟩ := ho.inv
        obtain ⟨hB, ⟨g0, g1, g2, g3⟩, g4, g5, g6, g7⟩ := (i2.2.2 _ hP.2.2.1 : cS9b kT kH kF jB kE H σ)
        have n0 := no_tag i1 c5
        obtain ⟨zq, q1, q2⟩ := tag_get ho i1 qq
        obtain ⟨zm, m1, m2⟩ := tag_get ho i1 qm
        obtain ⟨zi, e1, e2⟩ := tag_get ho i1 qi
        obtain ⟨zj, j1, j2⟩ := tag_get ho i1 qj
        have f1 := leAV_ok ho c1 (x := 0) rfl e2
        have f2 := leAV_ok ho c2 e2 (y := 5) rfl
        have f3 := leAV_ok ho c3 (x := 0) rfl j2
        have f4 := leAV_ok ho c4 j2 (y := 5) rfl
        obtain ⟨Q, M, r1, r2, r3, r4, r5⟩ := g4 zq zm q1 m1
        have hm : ev ρ m = some M.toInt := m2.trans (congrArg some r3.symm)
        have hi : ev ρ i = some ((zi.toNat : Nat) : Int) := e2.trans (congrArg some (by omega))
        have hj : ev ρ j = some ((zj.toNat : Nat) : Int) := j2.trans (congrArg some (by omega))
        obtain ⟨M', k1, k2, k3, k4⟩ := c198_ok ho i1 hB g3 hm hi hj (by omega) (by omega) hz c6
        have l : ∀ u, u ≠ 856 → u ≠ 859 → ¬ (847 ≤ u ∧ u ≤ 849) → u ≠ 866 → lk (hup 856 z (hup 859 (zj + 1) (hdel 847 (hdel 848 (hdel 849 (hdel 866 H)))))) u = lk H u := fun u h1 h2 h3 h4 => by
          rw [lk_hup_ne h1, lk_hup_ne h2, lk_hdel, if_neg (by omega), lk_hdel, if_neg (by omega), lk_hdel, if_neg (by omega), lk_hdel, if_neg h4]
        have l6 : lk (hup 856 z (hup 859 (zj + 1) (hdel 847 (hdel 848 (hdel 849 (hdel 866 H)))))) 856 = some z := lk_hup_at (b := zm) (by rw [lk_hup_ne (by decide), lk_hdel, if_neg (by decide), lk_hdel, if_neg (by decide), lk_hdel, if_neg (by decide), lk_hdel, if_neg (by decide)]; exact m1)
        have l9 : lk (hup 856 z (hup 859 (zj + 1) (hdel 847 (hdel 848 (hdel 849 (hdel 866 H)))))) 859 = some (zj + 1) := by
          rw [lk_hup_ne (by decide)]
          exact lk_hup_at (b := zj) (by rw [lk_hdel, if_neg (by decide), lk_hdel, if_neg (by decide), lk_hdel, if_neg (by decide), lk_hdel, if_neg (by decide)]; exact j1)
        have l7 : lk (hup 856 z (hup 859 (zj + 1) (hdel 847 (hdel 848 (hdel 849 (hdel 866 H)))))) 847 = none := by rw [lk_hup_ne (by decide), lk_hup_ne (by decide), lk_hdel, if_pos rfl]
        refine c_hint hP ho i2 (Hl.up hz (Hl.up (shA_ev j2) ((((i1.del).del).del).del))) (fun u hu => l u (by omega) (by omega) (by omega) (by omega)) ⟨bS9_k (fun u hu => l u (by omega) (by omega) (by omega) (by omega)) hB, ?_⟩
        unfold cC
        rw [l6, l9, l7, l 850 (by decide) (by decide) (by decide) (by decide), l 851 (by decide) (by decide) (by decide) (by decide), l 852 (by decide) (by decide) (by decide) (by decide), l 853 (by decide) (by decide) (by decide) (by decide), l 855 (by decide) (by decide) (by decide) (by decide), l 857 (by decide) (by decide) (by decide) (by decide), l 858 (by decide) (by decide) (by decide) (by decide), l 860 (by decide) (by decide) (by decide) (by decide), l 861 (by decide) (by decide) (by decide) (by decide), l 862 (by decide) (by decide) (by decide) (by decide)]
        refine ⟨⟨g0, g1, g2, fun _ _ _ h => (by cases h)⟩, fun a b h h' => ⟨Q, M', ?_, r2, ?_, k2 Q r2 r4, fun b hb q => ?_⟩, fun a b c d h1 h2 h3 h4 N Z x1 x2 => ?_, fun _ _ _ _ _ h => (by rw [n0] at h; cases h), g7⟩
        · rw [q1] at h
          rw [← Option.some.inj h]; exact r1
        · rw [← Option.some.inj h']; exact k1
        · rcases k3 b hb q with q | ⟨e, q, ed⟩
          · exact r5 b hb q
          · have w := r5 zi.toNat (by omega) q
            rw [e]
            rcases ed with ed | ed
            · rw [← ed]; exact w
            · exact wp_tr (by omega) w (wp_le (k := 0) (by decide) (Or.inr ed))
        · have h1 := Option.some.inj h1
          have h4 := Option.some.inj h4
          rw [e1] at h3
          have h3 := Option.some.inj h3
          have eN : N = M' := Int32.toInt_inj.mp (by rw [x1, k1, h1])
          obtain ⟨p1, p2⟩ := g5 zm b zi zj m1 h2 e1 j1 M Z r3 x2
          rw [eN]
          refine ⟨fun b' hb q => k2 b' hb (p1 b' hb q), fun a' b' ha hb h q1 q2 => ?_⟩
          by_cases e : a' = zi.toNat ∧ b' = zj.toNat
          · obtain ⟨e3, e4⟩ := e
            rw [e4]
            rw [e3] at q1 q2
            rw [e4] at q2
            exact k4 (p1 _ (by omega) q1) q2
          · exact k2 b' hb (p2 a' b' ha hb (by omega) q1 q2)
    · exact ho
  · exact ho
noncomputable def h202 (kF jB : Nat) (s : Sy) : Sy := match lk s.hl 855, lk s.hl 856, lk s.hl 857 with
  | some _, some m, some y => (match lk s.hl 858, lk s.hl 859, mget s.me kF (.c (jB : Int)) with
    | some i, some _, some g => bif ((eqA s m y && leAV s (.c 6) i) && (g.isI && eqA s g (.c 1))) && ((!(isS (lk s.hl 820)) && !(isS (lk s.hl 821))) && !(isS (lk s.hl 860))) then s.seth ((860, .c 0) :: hdel 859 (hdel 858 (hdel 857 s.hl))) else s
    | _, _, _ => s)
  | _, _, _ => s
theorem h202_ok (hP : PH T G cs (cC9 kT kH kF jB kE)) (ho : Ok (Jf T G (cS cs)) s ρ σ) : Ok (Jf T G (cS cs)) (h202 kF jB s) ρ σ := by
  unfold h202
  split
  · rename_i q m y qq qm qy
    split
    · rename_i i j g qi qj hg
      cases hc : ((eqA s m y && leAV s (.c 6) i) && (g.isI && eqA s g (.c 1))) && ((!(isS (lk s.hl 820)) && !(isS (lk s.hl 821))) && !(isS (lk s.hl 860))) with
      | false => exact ho
      | true =>
        simp only [Bool.and_eq_true] at hc
        obtain ⟨⟨⟨c1, c2⟩, c3, c4⟩, ⟨c5, c6⟩, c7⟩ := hc
        obtain ⟨H, i1, i2⟩ := ho.inv
        obtain ⟨hB, ⟨g0, g1, g2, g3⟩, g4, g5, g6, g7⟩ := (i2.2.2 _ hP.2.2.1 : cS9b kT kH kF jB kE H σ)
        have n0 := no_tag i1 c5
        have n1 := no_tag i1 c6
        obtain ⟨zq, q1, q2⟩ := tag_get ho i1 qq
        obtain ⟨zm, m1, m2⟩ := tag_get ho i1 qm
        obtain ⟨zy, y1, y2⟩ := tag_get ho i1 qy
        obtain ⟨zi, e1, e2⟩ := tag_get ho i1 qi
        obtain ⟨zj, j1, j2⟩ := tag_get ho i1 qj
        have f1 := eqA_ok ho c1 m2 y2
        have f2 := leAV_ok ho c2 (x := 6) rfl e2
        have f4 := eqA_ok ho c4 (me_at ho hg rfl c3) (y := 1) rfl
        have l : ∀ u, ¬ (857 ≤ u ∧ u ≤ 860) → lk ((860, (0 : Int)) :: hdel 859 (hdel 858 (hdel 857 H))) u = lk H u := fun u h => by
          rw [lk_cons, if_neg (by omega), lk_hdel, if_neg (by omega), lk_hdel, if_neg (by omega), lk_hdel, if_neg (by omega)]
        have l7 : lk ((860, (0 : Int)) :: hdel 859 (hdel 858 (hdel 857 H))) 857 = none := by rw [lk_cons, if_neg (by decide), lk_hdel, if_neg (by decide), lk_hdel, if_neg (by decide), lk_hdel, if_pos rfl]
        refine c_hint hP ho i2 (H' := (860, 0) :: hdel 859 (hdel 858 (hdel 857 H))) ⟨⟨rfl, rfl⟩, ((i1.del).del).del⟩ (fun u hu => l u (by omega)) ⟨bS9_k (fun u hu => l u (by omega)) hB, ?_⟩
        unfold cC
        rw [l7, l 850 (by decide), l 851 (by decide), l 852 (by decide), l 853 (by decide), l 847 (by decide), l 848 (by decide), l 849 (by decide), l 855 (by decide), l 856 (by decide), l 861 (by decide), l 862 (by decide)]
        refine ⟨⟨g0, g1, g2, g3⟩, g4, fun _ _ _ _ _ h => (by cases h), fun a b c h1 h2 _ Q eQ M eM b' hb => ?_, g7⟩
        rw [q1] at h1
        rw [m1] at h2
        have h1 := Option.some.inj h1
        have h2 := Option.some.inj h2
        obtain ⟨Q', M', r1, r2, r3, r4, r5⟩ := g4 zq zm q1 m1
        have e3 : Q' = Q := by omega
        have e4 : M' = M := Int32.toInt_inj.mp (by rw [r3, eM, h2])
        subst e3
        subst e4
        obtain ⟨_, p2⟩ := g5 zm zy zi zj m1 y1 e1 j1 M' M' r3 (by omega)
        refine ⟨r5 b' hb, fun w => ?_⟩
        have := wp_in (S := fun a => a < 6 ∧ bitN M' a = true) (E := Eb kT σ) (fun a b hs he => ⟨he.2.1, by
          by_cases e : a = b
          · rw [← e]; exact hs.2
          · have ed := edge_ok hB.1 n0 n1 f4 he.1 he.2.1 e
            rw [he.2.2] at ed
            have ed : (1 : Int) = (σ.1 kH (6 * a + b)).toInt := ed
            exact p2 a b he.1 he.2.1 (by omega) hs.2 (by omega)⟩) ⟨r2, r4⟩ w
        exact this.2
    · exact ho
  · exact ho
noncomputable def h203 (s : Sy) : Sy := match lk s.hl 855, lk s.hl 856, lk s.hl 860 with
  | some _, some m, some _ => (match lk s.hl 861, lk s.hl 862 with
    | some o, some d => (match bit9 s m o with
      | some b => bif leAV s (.c 0) o && leAV s o (.c 5) then adS (adS s [(b, 1), (d, -1)] 0) [(d, 1), (b, -1)] 0 else s
      | none => s)
    | _, _ => s)
  | _, _, _ => s
theorem h203_ok (hm : cC9 kT kH kF jB kE ∈ cs) (ho : Ok (Jf T G (cS cs)) s ρ σ) : Ok (Jf T G (cS cs)) (h203 s) ρ σ := by
  unfold h203
  split
  · rename_i q m y qq qm qy
    split
    · rename_i o d qo qd
      split
      · rename_i b hb
        cases hc : leAV s (.c 0) o && leAV s o (.c 5) with
        | false => exact ho
        | true =>
          rw [Bool.and_eq_true] at hc
          obtain ⟨H, i1, i2⟩ := ho.inv
          obtain ⟨hB, ⟨g0, g1, g2, g3⟩, g4, g5, g6, g7⟩ := (i2.2.2 _ hm : cS9b kT kH kF jB kE H σ)
          obtain ⟨zq, q1, q2⟩ := tag_get ho i1 qq
          obtain ⟨zm, m1, m2⟩ := tag_get ho i1 qm
          obtain ⟨zy, y1, y2⟩ := tag_get ho i1 qy
          obtain ⟨zo, o1, o2⟩ := tag_get ho i1 qo
          obtain ⟨zd, d1, d2⟩ := tag_get ho i1 qd
          have f1 := leAV_ok ho hc.1 (x := 0) rfl o2
          have f2 := leAV_ok ho hc.2 o2 (y := 5) rfl
          obtain ⟨Q, M, r1, r2, r3, r4, r5⟩ := g4 zq zm q1 m1
          have hM : ev ρ m = some M.toInt := m2.trans (congrArg some r3.symm)
          have hO : ev ρ o = some ((zo.toNat : Nat) : Int) := o2.trans (congrArg some (by omega))
          have eb := bit9_ok ho i1 hB.2 hM hO (by omega) hb
          have w1 := g6 zq zm zy q1 m1 y1 Q r1 M r3 zo.toNat (by omega)
          obtain ⟨w2, w3⟩ := g7 zq zo zd q1 o1 d1 Q zo.toNat r1 (by omega) (by omega)
          have e : b2i (bitN M zo.toNat) = zd := by
            cases hbit : bitN M zo.toNat with
            | true => exact (w3.mpr (w1.mp hbit)).symm
            | false =>
              rcases w2 with w2 | w2
              · exact w2.symm
              · have := w1.mpr (w3.mp w2)
                rw [hbit] at this
                cases this
          rw [e] at eb
          have o1 := adS_ok ho (evs2 (v := 1) (w := -1) eb d2) (c := 0) (by rw [smv2 eb d2]; omega)
          exact adS_ok o1 (evs2 (v := 1) (w := -1) d2 eb) (c := 0) (by rw [smv2 d2 eb]; omega)
      · exact ho
    · exact ho
  · exact ho
end H41
end
