noncomputable section
noncomputable def PBtL9 (J : Jt) : Prop := (∀ H σ t o b, R840L9 t o b → J H σ → J ((840, t) :: (841, o) :: (842, b) :: hdel 840 (hdel 841 (hdel 842 H))) σ) ∧ (∀ H σ t o w c, R843L9 t o w c → J H σ → J ((843, t) :: (844, o) :: (845, w) :: (846, c) :: hdel 843 (hdel 844 (hdel 845 (hdel 846 H)))) σ) ∧ ∀ H σ x y v, R847 x y v → J H σ → J ((847, x) :: (848, y) :: (849, v) :: hdel 847 (hdel 848 (hdel 849 H))) σ
theorem bS1_k {kT kH kF jB : Nat} {H H' : List (Nat × Int)} {σ : zS} (l : ∀ u, u ≤ 824 → lk H' u = lk H u) (h : bS1 kT kH kF jB H σ) : bS1 kT kH kF jB H' σ := by
  unfold bS1 efB at h ⊢
  rw [l 820 (by omega), l 821 (by omega), l 822 (by omega), l 823 (by omega), l 824 (by omega)]
  exact h
section H40
variable {T : Jx} {G : Gl} {cs : List Cp} {s : Sy} {ρ : List Int} {σ : zS} {kT kH kF jB kE : Nat}
theorem c_set (hP : PH T G cs (cC9 kT kH kF jB kE)) {H H' : List (Nat × Int)} (hJ : Jf T G (cS cs) H σ) (l : ∀ u, ¬ (820 ≤ u ∧ u ≤ 866) → lk H' u = lk H u) (hn : cS9b kT kH kF jB kE H' σ) : Jf T G (cS cs) H' σ := Jf_part hP.1 hP.2.1 hP.2.2.2 (fun t ht => (hP.2.1 _ hP.2.2.1).1 t ht) (fun u hu => l u (ct9_no hu)) hJ hn
theorem pb_ok (hP : PH T G cs (cC9 kT kH kF jB kE)) : PBtL9 (Jf T G (cS cs)) := by
  refine ⟨fun H σ t o b hR hJ => ?_, fun H σ t o w c hR hJ => ?_, fun H σ x y v hR hJ => ?_⟩
  · obtain ⟨⟨s1, s5, s6⟩, hC⟩ := (hJ.2.2 _ hP.2.2.1 : cS9b kT kH kF jB kE H σ)
    have l : ∀ u, ¬ (840 ≤ u ∧ u ≤ 842) → lk ((840, t) :: (841, o) :: (842, b) :: hdel 840 (hdel 841 (hdel 842 H))) u = lk H u := fun u h => by
      rw [lk_cons, if_neg (by omega), lk_cons, if_neg (by omega), lk_cons, if_neg (by omega), lk_hdel, if_neg (by omega), lk_hdel, if_neg (by omega), lk_hdel, if_neg (by omega)]
    refine c_set hP hJ (fun u hu => l u (by omega)) ⟨⟨bS1_k (fun u hu => l u (by omega)) s1, fun t' o' b' h1 h2 h3 => ?_, fun t' o' w' c' h1 h2 h3 h4 => ?_⟩, cC_k (fun u hu => l u (by omega)) hC⟩
    · rw [lk_cons, if_pos rfl] at h1
      rw [lk_cons, if_neg (by decide), lk_cons, if_pos rfl] at h2
      rw [lk_cons, if_neg (by decide), lk_cons, if_neg (by decide), lk_cons, if_pos rfl] at h3
      rw [← Option.some.inj h1, ← Option.some.inj h2, ← Option.some.inj h3]
      exact hR
    · rw [l 843 (by decide)] at h1
      rw [l 844 (by decide)] at h2
      rw [l 845 (by decide)] at h3
      rw [l 846 (by decide)] at h4
      exact s6 t' o' w' c' h1 h2 h3 h4
  · obtain ⟨⟨s1, s5, s6⟩, hC⟩ := (hJ.2.2 _ hP.2.2.1 : cS9b kT kH kF jB kE H σ)
    have l : ∀ u, ¬ (843 ≤ u ∧ u ≤ 846) → lk ((843, t) :: (844, o) :: (845, w) :: (846, c) :: hdel 843 (hdel 844 (hdel 845 (hdel 846 H)))) u = lk H u := fun u h => by
      rw [lk_cons, if_neg (by omega), lk_cons, if_neg (by omega), lk_cons, if_neg (by omega), lk_cons, if_neg (by omega), lk_hdel, if_neg (by omega), lk_hdel, if_neg (by omega), lk_hdel, if_neg (by omega), lk_hdel, if_neg (by omega)]
    refine c_set hP hJ (fun u hu => l u (by omega)) ⟨⟨bS1_k (fun u hu => l u (by omega)) s1, fun t' o' b' h1 h2 h3 => ?_, fun t' o' w' c' h1 h2 h3 h4 => ?_⟩, cC_k (fun u hu => l u (by omega)) hC⟩
    · rw [l 840 (by decide)] at h1
      rw [l 841 (by decide)] at h2
      rw [l 842 (by decide)] at h3
      exact s5 t' o' b' h1 h2 h3
    · rw [lk_cons, if_pos rfl] at h1
      rw [lk_cons, if_neg (by decide), lk_cons, if_pos rfl] at h2
      rw [lk_cons, if_neg (by decide), lk_cons, if_neg (by decide), lk_cons, if_pos rfl] at h3
      rw [lk_cons, if_neg (by decide), lk_cons, if_neg (by decide), lk_cons, if_neg (by decide), lk_cons, if_pos rfl] at h4
      rw [← Option.some.inj h1, ← Option.some.inj h2, ← Option.some.inj h3, ← Option.some.inj h4]
      exact hR
  · obtain ⟨hB, ⟨g0, g1, g2, _⟩, g4⟩ := (hJ.2.2 _ hP.2.2.1 : cS9b kT kH kF jB kE H σ)
    have l : ∀ u, ¬ (847 ≤ u ∧ u ≤ 849) → lk ((847, x) :: (848, y) :: (849, v) :: hdel 847 (hdel 848 (hdel 849 H))) u = lk H u := fun u h => by
      rw [lk_cons, if_neg (by omega), lk_cons, if_neg (by omega), lk_cons, if_neg (by omega), lk_hdel, if_neg (by omega), lk_hdel, if_neg (by omega), lk_hdel, if_neg (by omega)]
    refine c_set hP hJ (fun u hu => l u (by omega)) ⟨bS9_k (fun u hu => l u (by omega)) hB, ?_⟩
    unfold cC
    rw [l 850 (by decide), l 851 (by decide), l 852 (by decide), l 853 (by decide), l 855 (by decide), l 856 (by decide), l 857 (by decide), l 858 (by decide), l 859 (by decide), l 860 (by decide), l 861 (by decide), l 862 (by decide)]
    refine ⟨⟨g0, g1, g2, fun a b c h1 h2 h3 => ?_⟩, g4⟩
    rw [lk_cons, if_pos rfl] at h1
    rw [lk_cons, if_neg (by decide), lk_cons, if_pos rfl] at h2
    rw [lk_cons, if_neg (by decide), lk_cons, if_neg (by decide), lk_cons, if_pos rfl] at h3
    rw [← Option.some.inj h1, ← Option.some.inj h2, ← Option.some.inj h3]
    exact hR
/-- a hint that changes tags alone -/
theorem c_hint (hP : PH T G cs (cC9 kT kH kF jB kE)) (ho : Ok (Jf T G (cS cs)) s ρ σ) {hl' : List (Nat × AV)} {H H' : List (Nat × Int)} (hJ : Jf T G (cS cs) H σ) (hh : Hl ρ hl' H') (l : ∀ u, ¬ (820 ≤ u ∧ u ≤ 866) → lk H' u = lk H u) (hn : cS9b kT kH kF jB kE H' σ) : Ok (Jf T G (cS cs)) (s.seth hl') ρ σ :=
  ⟨ho.len, ho.env, ho.me, ho.cg, ho.df, ho.fa, H', hh, c_set hP hJ l hn⟩
noncomputable def h183 (kH kF jB : Nat) (p : AV) (s : Sy) : Sy := match mget s.me kF (.c (jB : Int)) with
  | some b => (match lk s.hl 821, lk s.hl 822, lk s.hl 824 with
    | some a, some o, some v => bif ((b.isI && eqA s b (.c 1)) && (v.isI && !(isS (lk s.hl 820)))) && (eq6 s p a o && (!(isS (mget s.me kH (pl s p))) && eqA s p (pl s p))) then s.add kH (pl s p) v else s
    | _, _, _ => s)
  | none => s
theorem h183_ok (hm : cC9 kT kH kF jB kE ∈ cs) {p : AV} {z : Int} (hp : ev ρ p = some z) (ho : Ok (Jf T G (cS cs)) s ρ σ) : Ok (Jf T G (cS cs)) (h183 kH kF jB p s) ρ σ := by
  unfold h183
  split
  · rename_i b hb
    split
    · rename_i a o v qa qo qv
      cases hc : ((b.isI && eqA s b (.c 1)) && (v.isI && !(isS (lk s.hl 820)))) && (eq6 s p a o && (!(isS (mget s.me kH (pl s p))) && eqA s p (pl s p))) with
      | false => exact ho
      | true =>
        simp only [Bool.and_eq_true] at hc
        obtain ⟨⟨⟨c1, c2⟩, c3, c4⟩, c5, c6, c7⟩ := hc
        obtain ⟨H, i1, i2⟩ := ho.inv
        obtain ⟨⟨⟨s1, s2, s3, s4⟩, _⟩, _⟩ := (i2.2.2 _ hm : cS9b kT kH kF jB kE H σ)
        obtain ⟨za, a1, a2⟩ := tag_get ho i1 qa
        obtain ⟨zo, o1, o2⟩ := tag_get ho i1 qo
        obtain ⟨zv, v1, v2⟩ := tag_get ho i1 qv
        have no := no_tag i1 c4
        have eb : ev ρ b = some (σ.1 kF jB).toInt := me_at ho hb rfl c1
        have g1 : (σ.1 kF jB).toInt = 1 := eqA_ok ho c2 eb (y := 1) rfl
        obtain ⟨A, O, q1, q2, q3, q4, q5, q6, q7⟩ := s4 za zo a1 o1
        have ez := eq6_ok ho hp a2 o2 c5
        have ef := q7 zv v1
        unfold efB at ef
        rw [if_pos ⟨g1, no⟩] at ef
        obtain ⟨y, hy⟩ := pl_ev (s := s) hp
        have ey := eqA_ok ho c7 hp hy
        exact ho.addm ⟨6 * A + O, by rw [hy]; exact congrArg some (by omega), Or.inl ⟨c3, by rw [v2, ef]⟩⟩
    · exact ho
  · exact ho
noncomputable def h184 (s : Sy) : Sy := s.seth (hdel 840 (hdel 841 (hdel 842 (hdel 843 (hdel 844 (hdel 845 (hdel 846 s.hl)))))))
theorem h184_ok (hP : PH T G cs (cC9 kT kH kF jB kE)) (ho : Ok (Jf T G (cS cs)) s ρ σ) : Ok (Jf T G (cS cs)) (h184 s) ρ σ := by
  obtain ⟨H, i1, i2⟩ := ho.inv
  obtain ⟨⟨s1, s5, s6⟩, hC⟩ := (i2.2.2 _ hP.2.2.1 : cS9b kT kH kF jB kE H σ)
  have l : ∀ u, ¬ (840 ≤ u ∧ u ≤ 846) → lk (hdel 840 (hdel 841 (hdel 842 (hdel 843 (hdel 844 (hdel 845 (hdel 846 H))))))) u = lk H u := fun u h => by
    rw [lk_hdel, if_neg (by omega), lk_hdel, if_neg (by omega), lk_hdel, if_neg (by omega), lk_hdel, if_neg (by omega), lk_hdel, if_neg (by omega), lk_hdel, if_neg (by omega), lk_hdel, if_neg (by omega)]
  refine c_hint hP ho i2 (((((((i1.del).del).del).del).del).del).del) (fun u hu => l u (by omega)) ⟨⟨bS1_k (fun u hu => l u (by omega)) s1, fun t o b h => ?_, fun t o w c h => ?_⟩, cC_k (fun u hu => l u (by omega)) hC⟩
  · rw [lk_hdel, if_pos rfl] at h; cases h
  · rw [lk_hdel, if_neg (by decide), lk_hdel, if_neg (by decide), lk_hdel, if_neg (by decide), lk_hdel, if_pos rfl] at h; cases h
noncomputable def h190 (s : Sy) : Sy := bif (isS (lk s.hl 853) && !(isS (lk s.hl 850))) && (!(isS (lk s.hl 851)) && !(isS (lk s.hl 852))) then s.seth ((850, .c 0) :: hdel 853 s.hl) else s
theorem h190_ok (hP : PH T G cs (cC9 kT kH kF jB kE)) (ho : Ok (Jf T G (cS cs)) s ρ σ) : Ok (Jf T G (cS cs)) (h190 s) ρ σ := by
  unfold h190
  cases hc : (isS (lk s.hl 853) && !(isS (lk s.hl 850))) && (!(isS (lk s.hl 851)) && !(isS (lk s.hl 852))) with
  | false => exact ho
  | true =>
    obtain ⟨H, i1, i2⟩ := ho.inv
    obtain ⟨hB, ⟨g0, g1, g2, g3⟩, g4⟩ := (i2.2.2 _ hP.2.2.1 : cS9b kT kH kF jB kE H σ)
    have l : ∀ u, u ≠ 850 → u ≠ 853 → lk ((850, (0 : Int)) :: hdel 853 H) u = lk H u := fun u h1 h2 => by rw [lk_cons, if_neg h1, lk_hdel, if_neg h2]
    have l0 : lk ((850, (0 : Int)) :: hdel 853 H) 850 = some 0 := by rw [lk_cons, if_pos rfl]
    refine c_hint hP ho i2 (H' := (850, 0) :: hdel 853 H) ⟨⟨rfl, rfl⟩, i1.del⟩ (fun u hu => l u (by omega) (by omega)) ⟨bS9_k (fun u hu => l u (by omega) (by omega)) hB, ?_⟩
    unfold cC
    rw [l0, l 847 (by decide) (by decide), l 848 (by decide) (by decide), l 849 (by decide) (by decide), l 855 (by decide) (by decide), l 856 (by decide) (by decide), l 857 (by decide) (by decide), l 858 (by decide) (by decide), l 859 (by decide) (by decide), l 860 (by decide) (by decide), l 861 (by decide) (by decide), l 862 (by decide) (by decide)]
    refine ⟨⟨fun h => (by cases h), fun i h a b h1 => ?_, fun h => (by cases h), g3⟩, g4⟩
    have := Option.some.inj h
    omega
noncomputable def h191 (s : Sy) : Sy := match lk s.hl 850 with
  | some i => bif (leAV s (.c 6) i) && (!(isS (lk s.hl 851)) && !(isS (lk s.hl 852))) then s.seth ((851, .c 0) :: (852, .c 0) :: hdel 850 s.hl) else s
  | none => s
theorem h191_ok (hP : PH T G cs (cC9 kT kH kF jB kE)) (ho : Ok (Jf T G (cS cs)) s ρ σ) : Ok (Jf T G (cS cs)) (h191 s) ρ σ := by
  unfold h191
  split
  · rename_i i qi
    cases hc : (leAV s (.c 6) i) && (!(isS (lk s.hl 851)) && !(isS (lk s.hl 852))) with
    | false => exact ho
    | true =>
      rw [Bool.and_eq_true] at hc
      obtain ⟨H, i1, i2⟩ := ho.inv
      obtain ⟨hB, ⟨g0, g1, g2, g3⟩, g4⟩ := (i2.2.2 _ hP.2.2.1 : cS9b kT kH kF jB kE H σ)
      obtain ⟨zi, e1, e2⟩ := tag_get ho i1 qi
      have f := leAV_ok ho hc.1 (x := 6) rfl e2
      have l : ∀ u, u ≠ 850 → u ≠ 851 → u ≠ 852 → lk ((851, (0 : Int)) :: (852, 0) :: hdel 850 H) u = lk H u := fun u h1 h2 h3 => by rw [lk_cons, if_neg h2, lk_cons, if_neg h3, lk_hdel, if_neg h1]
      have l0 : lk ((851, (0 : Int)) :: (852, 0) :: hdel 850 H) 850 = none := by rw [lk_cons, if_neg (by decide), lk_cons, if_neg (by decide), lk_hdel, if_pos rfl]
      have l1 : lk ((851, (0 : Int)) :: (852, 0) :: hdel 850 H) 851 = some 0 := by rw [lk_cons, if_pos rfl]
      have l2 : lk ((851, (0 : Int)) :: (852, 0) :: hdel 850 H) 852 = some 0 := by rw [lk_cons, if_neg (by decide), lk_cons, if_pos rfl]
      refine c_hint hP ho i2 (H' := (851, 0) :: (852, 0) :: hdel 850 H) ⟨⟨rfl, rfl⟩, ⟨rfl, rfl⟩, i1.del⟩ (fun u hu => l u (by omega) (by omega) (by omega)) ⟨bS9_k (fun u hu => l u (by omega) (by omega) (by omega)) hB, ?_⟩
      unfold cC
      rw [l0, l1, l2, l 847 (by decide) (by decide) (by decide), l 848 (by decide) (by decide) (by decide), l 849 (by decide) (by decide) (by decide), l 855 (by decide) (by decide) (by decide), l 856 (by decide) (by decide) (by decide), l 857 (by decide) (by decide) (by decide), l 858 (by decide) (by decide) (by decide), l 859 (by decide) (by decide) (by decide), l 860 (by decide) (by decide) (by decide), l 861 (by decide) (by decide) (by decide), l 862 (by decide) (by decide) (by decide)]
      refine ⟨⟨fun _ h => (by cases h), fun i h => (by cases h), fun _ k i h h' => ⟨0, (Option.some.inj h).symm, by decide, fun a b h2 h3 => ?_⟩, g3⟩, g4⟩
      have := Option.some.inj h'
      rw [if_neg (by omega)]
      exact g1 zi e1 a b (by omega) h2 h3
  · exact ho
noncomputable def h193 (s : Sy) : Sy := match lk s.hl 851, lk s.hl 852 with
  | some k, some i => bif leAV s (.c 6) i && leAV s k (.c 5) then s.seth (hup 851 (shA k 1) (hup 852 (.c 0) s.hl)) else s
  | _, _ => s
theorem h193_ok (hP : PH T G cs (cC9 kT kH kF jB kE)) (ho : Ok (Jf T G (cS cs)) s ρ σ) : Ok (Jf T G (cS cs)) (h193 s) ρ σ := by
  unfold h193
  split
  · rename_i k i qk qi
    cases hc : leAV s (.c 6) i && leAV s k (.c 5) with
    | false => exact ho
    | true =>
      rw [Bool.and_eq_true] at hc
      obtain ⟨H, i1, i2⟩ := ho.inv
      obtain ⟨hB, ⟨g0, g1, g2, g3⟩, g4⟩ := (i2.2.2 _ hP.2.2.1 : cS9b kT kH kF jB kE H σ)
      obtain ⟨zi, e1, e2⟩ := tag_get ho i1 qi
      obtain ⟨zk, k1, k2⟩ := tag_get ho i1 qk
      have f := leAV_ok ho hc.1 (x := 6) rfl e2
      have f5 := leAV_ok ho hc.2 k2 (y := 5) rfl
      have l : ∀ u, u ≠ 851 → u ≠ 852 → lk (hup 851 (zk + 1) (hup 852 0 H)) u = lk H u := fun u h1 h2 => by rw [lk_hup_ne h1, lk_hup_ne h2]
      have l1 : lk (hup 851 (zk + 1) (hup 852 0 H)) 851 = some (zk + 1) := lk_hup_at (b := zk) (by rw [lk_hup_ne (by decide)]; exact k1)
      have l2 : lk (hup 851 (zk + 1) (hup 852 0 H)) 852 = some 0 := by rw [lk_hup_ne (by decide)]; exact lk_hup_at e1
      refine c_hint hP ho i2 (Hl.up (shA_ev k2) (Hl.up (a := .c 0) (x := 0) rfl i1)) (fun u hu => l u (by omega) (by omega)) ⟨bS9_k (fun u hu => l u (by omega) (by omega)) hB, ?_⟩
      unfold cC
      rw [l1, l2, l 850 (by decide) (by decide), l 853 (by decide) (by decide), l 847 (by decide) (by decide), l 848 (by decide) (by decide), l 849 (by decide) (by decide), l 855 (by decide) (by decide), l 856 (by decide) (by decide), l 857 (by decide) (by decide), l 858 (by decide) (by decide), l 859 (by decide) (by decide), l 860 (by decide) (by decide), l 861 (by decide) (by decide), l 862 (by decide) (by decide)]
      refine ⟨⟨fun _ h => (by cases h), g1, fun z0 k' i' h h' => ?_, g3⟩, g4⟩
      obtain ⟨K, q1, q2, q3⟩ := g2 z0 zk zi k1 e1
      refine ⟨K + 1, by rw [← Option.some.inj h]; omega, by omega, fun a b h2 h3 => ?_⟩
      have := Option.some.inj h'
      rw [if_neg (by omega)]
      have := q3 a b h2 h3
      rw [if_pos (by omega)] at this
      exact this
  · exact ho
noncomputable def h194 (s : Sy) : Sy := match lk s.hl 851, lk s.hl 852 with
  | some k, some i => bif leAV s (.c 6) k && leAV s i (.c 0) then s.seth (hdel 851 (hdel 852 s.hl)) else s
  | _, _ => s
theorem h194_ok (hP : PH T G cs (cC9 kT kH kF jB kE)) (ho : Ok (Jf T G (cS cs)) s ρ σ) : Ok (Jf T G (cS cs)) (h194 s) ρ σ := by
  unfold h194
  split
  · rename_i k i qk qi
    cases hc : leAV s (.c 6) k && leAV s i (.c 0) with
    | false => exact ho
    | true =>
      rw [Bool.and_eq_true] at hc
      obtain ⟨H, i1, i2⟩ := ho.inv
      obtain ⟨hB, ⟨g0, g1, g2, g3⟩, g4⟩ := (i2.2.2 _ hP.2.2.1 : cS9b kT kH kF jB kE H σ)
      obtain ⟨zi, e1, e2⟩ := tag_get ho i1 qi
      obtain ⟨zk, k1, k2⟩ := tag_get ho i1 qk
      have f := leAV_ok ho hc.1 (x := 6) rfl k2
      have f0 := leAV_ok ho hc.2 e2 (y := 0) rfl
      have l : ∀ u, u ≠ 851 → u ≠ 852 → lk (hdel 851 (hdel 852 H)) u = lk H u := fun u h1 h2 => by rw [lk_hdel, if_neg h1, lk_hdel, if_neg h2]
      have l1 : lk (hdel 851 (hdel 852 H)) 851 = none := by rw [lk_hdel, if_pos rfl]
      refine c_hint hP ho i2 ((i1.del).del) (fun u hu => l u (by omega) (by omega)) ⟨bS9_k (fun u hu => l u (by omega) (by omega)) hB, ?_⟩
      unfold cC
      rw [l1, l 850 (by decide) (by decide), l 853 (by decide) (by decide), l 847 (by decide) (by decide), l 848 (by decide) (by decide), l 849 (by decide) (by decide), l 855 (by decide) (by decide), l 856 (by decide) (by decide), l 857 (by decide) (by decide), l 858 (by decide) (by decide), l 859 (by decide) (by decide), l 860 (by decide) (by decide), l 861 (by decide) (by decide), l 862 (by decide) (by decide)]
      refine ⟨⟨fun z0 _ _ a b h2 h3 => ?_, g1, fun _ k' i' h => (by cases h), g3⟩, g4⟩
      obtain ⟨K, q1, q2, q3⟩ := g2 z0 zk zi k1 e1
      have eK : K = 6 := by omega
      subst eK
      have := q3 a b h2 h3
      rw [if_neg (by omega)] at this
      exact this
  · exact ho
noncomputable def h192 (kE : Nat) (a : AV) (s : Sy) : Sy := match lk s.hl 851, lk s.hl 852, lk s.hl 840 with
  | some k, some i, some t => (match lk s.hl 841, lk s.hl 842, oth s kE i with
    | some o, some b, some x => bif ((eqA s a i && eqA s x t) && (eqA s o k && eqA s b (.c 0))) && ((leAV s (.c 0) i && leAV s i (.c 5)) && (leAV s (.c 0) k && leAV s k (.c 5))) then s.seth (hup 852 (shA i 1) s.hl) else s
    | _, _, _ => s)
  | _, _, _ => s
theorem h192_ok (hP : PH T G cs (cC9 kT kH kF jB kE)) {a : AV} (ho : Ok (Jf T G (cS cs)) s ρ σ) : Ok (Jf T G (cS cs)) (h192 kE a s) ρ σ := by
  unfold h192
  split
  · rename_i k i t qk qi qt
    split
    · rename_i o b x qo qb hx
      cases hc : ((eqA s a i && eqA s x t) && (eqA s o k && eqA s b (.c 0))) && ((leAV s (.c 0) i && leAV s i (.c 5)) && (leAV s (.c 0) k && leAV s k (.c 5))) with
      | false => exact ho
      | true =>
        simp only [Bool.and_eq_true] at hc
        obtain ⟨⟨⟨_, c2⟩, c3, c4⟩, ⟨c5, c6⟩, c7, c8⟩ := hc
        obtain ⟨H, i1, i2⟩ := ho.inv
        obtain ⟨hB, ⟨g0, g1, g2, g3⟩, g4⟩ := (i2.2.2 _ hP.2.2.1 : cS9b kT kH kF jB kE H σ)
        obtain ⟨zk, k1, k2⟩ := tag_get ho i1 qk
        obtain ⟨zi, e1, e2⟩ := tag_get ho i1 qi
        obtain ⟨zt, t1, t2⟩ := tag_get ho i1 qt
        obtain ⟨zo, o1, o2⟩ := tag_get ho i1 qo
        obtain ⟨zb, b1, b2⟩ := tag_get ho i1 qb
        have f5 := leAV_ok ho c5 (x := 0) rfl e2
        have f6 := leAV_ok ho c6 e2 (y := 5) rfl
        have f8 := leAV_ok ho c8 k2 (y := 5) rfl
        have hi : ev ρ i = some ((zi.toNat : Nat) : Int) := e2.trans (congrArg some (by omega))
        have f2 := eqA_ok ho c2 (oth_ok ho hx hi).2 t2
        have f3 := eqA_ok ho c3 o2 k2
        have f4 := eqA_ok ho c4 b2 (y := 0) rfl
        have l : ∀ u, u ≠ 852 → lk (hup 852 (zi + 1) H) u = lk H u := fun u h => lk_hup_ne h
        have l2 : lk (hup 852 (zi + 1) H) 852 = some (zi + 1) := lk_hup_at e1
        refine c_hint hP ho i2 (i1.up (shA_ev e2)) (fun u hu => l u (by omega)) ⟨bS9_k (fun u hu => l u (by omega)) hB, ?_⟩
        unfold cC
        rw [l2, l 850 (by decide), l 851 (by decide), l 853 (by decide), l 847 (by decide), l 848 (by decide), l 849 (by decide), l 855 (by decide), l 856 (by decide), l 857 (by decide), l 858 (by decide), l 859 (by decide), l 860 (by decide), l 861 (by decide), l 862 (by decide)]
        refine ⟨⟨g0, g1, fun z0 k' i' h h' => ?_, g3⟩, g4⟩
        rw [k1] at h
        obtain ⟨K, q1, q2, q3⟩ := g2 z0 zk zi k1 e1
        have ek := Option.some.inj h
        have ei := Option.some.inj h'
        refine ⟨K, by omega, q2, fun a' b' h2 h3 => ?_⟩
        have hK : K < 6 := by omega
        have bit := (hB.2.1 zt zo zb t1 o1 b1).at (x := σ.1 kE zi.toNat) (n := K) f2 (by omega) hK
        rw [f4] at bit
        have no := b2i_0L9.mp bit.symm
        rw [q3 a' b' h2 h3]
        by_cases e : (a' : Int) < zi
        · rw [if_pos e, if_pos (by omega)]
        · rw [if_neg e]
          by_cases e2 : (a' : Int) < i'
          · rw [if_pos e2]
            have ea : a' = zi.toNat := by omega
            have nK : ¬ Wp (Eb kT σ) K a' K := fun q => by
              have := (q3 a' K h2 hK).mpr (by rw [if_neg e]; exact q)
              rw [ea, no] at this
              cases this
            constructor
            · exact Or.inl
            · rintro (q | q)
              · exact q
              · exact absurd q.1 nK
          · rw [if_neg e2]
    · exact ho
  · exact ho
noncomputable def h195 (kE : Nat) (a : AV) (s : Sy) : Sy := match lk s.hl 840, lk s.hl 841, lk s.hl 842 with
  | some t, some o, some b => (match oth s kE a with
    | some x => bif (((!(isS (lk s.hl 855)) && !(isS (lk s.hl 850))) && (!(isS (lk s.hl 851)) && !(isS (lk s.hl 853)))) && (!(isS (lk s.hl 856)) && eqA s x t)) && ((leAV s (.c 0) a && leAV s a (.c 5)) && (leAV s (.c 0) o && leAV s o (.c 5))) then s.seth ((855, a) :: (861, o) :: (862, b) :: s.hl) else s
    | none => s)
  | _, _, _ => s
theorem h195_ok (hP : PH T G cs (cC9 kT kH kF jB kE)) {a : AV} {z : Int} (hz : ev ρ a = some z) (ho : Ok (Jf T G (cS cs)) s ρ σ) : Ok (Jf T G (cS cs)) (h195 kE a s) ρ σ := by
  unfold h195
  split
  · rename_i t o b qt qo qb
    split
    · rename_i x hx
      cases hc : (((!(isS (lk s.hl 855)) && !(isS (lk s.hl 850))) && (!(isS (lk s.hl 851)) && !(isS (lk s.hl 853)))) && (!(isS (lk s.hl 856)) && eqA s x t)) && ((leAV s (.c 0) a && leAV s a (.c 5)) && (leAV s (.c 0) o && leAV s o (.c 5))) with
      | false => exact ho
      | true =>
        simp only [Bool.and_eq_true] at hc
        obtain ⟨⟨⟨⟨c1, c2⟩, c3, c4⟩, c5, c6⟩, ⟨c7, c8⟩, c9, c10⟩ := hc
        obtain ⟨H, i1, i2⟩ := ho.inv
        obtain ⟨hB, ⟨g0, g1, g2, g3⟩, g4⟩ := (i2.2.2 _ hP.2.2.1 : cS9b kT kH kF jB kE H σ)
        have n0 := no_tag i1 c2
        have n1 := no_tag i1 c3
        have n3 := no_tag i1 c4
        have n6 := no_tag i1 c5
        obtain ⟨zt, t1, t2⟩ := tag_get ho i1 qt
        obtain ⟨zo, o1, o2⟩ := tag_get ho i1 qo
        obtain ⟨zb, b1, b2⟩ := tag_get ho i1 qb
        have f7 := leAV_ok ho c7 (x := 0) rfl hz
        have f8 := leAV_ok ho c8 hz (y := 5) rfl
        have f9 := leAV_ok ho c9 (x := 0) rfl o2
        have ha : ev ρ a = some ((z.toNat : Nat) : Int) := hz.trans (congrArg some (by omega))
        have f6 := eqA_ok ho c6 (oth_ok ho hx ha).2 t2
        have l : ∀ u, u ≠ 855 → u ≠ 861 → u ≠ 862 → lk ((855, z) :: (861, zo) :: (862, zb) :: H) u = lk H u := fun u h1 h2 h3 => by rw [lk_cons, if_neg h1, lk_cons, if_neg h2, lk_cons, if_neg h3]
        have l5 : lk ((855, z) :: (861, zo) :: (862, zb) :: H) 855 = some z := by rw [lk_cons, if_pos rfl]
        have la : lk ((855, z) :: (861, zo) :: (862, zb) :: H) 861 = some zo := by rw [lk_cons, if_neg (by decide), lk_cons, if_pos rfl]
        have lb : lk ((855, z) :: (861, zo) :: (862, zb) :: H) 862 = some zb := by rw [lk_cons, if_neg (by decide), lk_cons, if_neg (by decide), lk_cons, if_pos rfl]
        refine c_hint hP ho i2 (H' := (855, z) :: (861, zo) :: (862, zb) :: H) ⟨⟨rfl, hz⟩, ⟨rfl, o2⟩, ⟨rfl, b2⟩, i1⟩ (fun u hu => l u (by omega) (by omega) (by omega)) ⟨bS9_k (fun u hu => l u (by omega) (by omega) (by omega)) hB, ?_⟩
        unfold cC
        rw [l5, la, lb, l 850 (by decide) (by decide) (by decide), l 851 (by decide) (by decide) (by decide), l 852 (by decide) (by decide) (by decide), l 853 (by decide) (by decide) (by decide), l 847 (by decide) (by decide) (by decide), l 848 (by decide) (by decide) (by decide), l 849 (by decide) (by decide) (by decide), l 856 (by decide) (by decide) (by decide), l 857 (by decide) (by decide) (by decide), l 858 (by decide) (by decide) (by decide), l 859 (by decide) (by decide) (by decide), l 860 (by decide) (by decide) (by decide)]
        refine ⟨⟨g0, g1, g2, g3⟩, fun _ _ _ h => (by rw [n6] at h; cases h), g4.2.1, fun _ _ _ _ h => (by rw [n6] at h; cases h), fun q c d h1 h2 h3 Q O e1 e2 hO => ?_⟩
        have h1 := Option.some.inj h1
        have h2 := Option.some.inj h2
        have h3 := Option.some.inj h3
        have bit := (hB.2.1 zt zo zb t1 o1 b1).at (x := σ.1 kE z.toNat) (n := O) f6 (by omega) hO
        have eQ : z.toNat = Q := by omega
        rw [eQ] at bit
        have w := g0 n0 n1 n3 Q O (by omega) hO
        rw [← h3, bit]
        constructor
        · cases bitN (σ.1 kE Q) O
          · exact Or.inl rfl
          · exact Or.inr rfl
        · exact b2i_1L9.trans w
    · exact ho
  · exact ho
noncomputable def h196 (p : AV) (s : Sy) : Sy := match lk s.hl 855, lk s.hl 843, lk s.hl 844 with
  | some q, some t, some o => (match lk s.hl 845, lk s.hl 846 with
    | some w, some c => bif (((eqA s t (.c 0) && eqA s o q) && (eqA s w p && eqA s c (.c 1))) && (!(isS (lk s.hl 856)) && (!(isS (lk s.hl 857)) && !(isS (lk s.hl 860))))) && (leAV s (.c 0) q && leAV s q (.c 5)) then s.seth ((856, p) :: s.hl) else s
    | _, _ => s)
  | _, _, _ => s
theorem h196_ok (hP : PH T G cs (cC9 kT kH kF jB kE)) {p : AV} {z : Int} (hz : ev ρ p = some z) (ho : Ok (Jf T G (cS cs)) s ρ σ) : Ok (Jf T G (cS cs)) (h196 p s) ρ σ := by
  unfold h196
  split
  · rename_i q t o qq qt qo
    split
    · rename_i w c qw qc
      cases hc : (((eqA s t (.c 0) && eqA s o q) && (eqA s w p && eqA s c (.c 1))) && (!(isS (lk s.hl 856)) && (!(isS (lk s.hl 857)) && !(isS (lk s.hl 860))))) && (leAV s (.c 0) q && leAV s q (.c 5)) with
      | false => exact ho
      | true =>
        simp only [Bool.and_eq_true] at hc
        obtain ⟨⟨⟨⟨c1, c2⟩, c3, c4⟩, c5, c6, c7⟩, c8, c9⟩ := hc
        obtain ⟨H, i1, i2⟩ := ho.inv
        obtain ⟨hB, g0, g4, g5, g6, g7⟩ := (i2.2.2 _ hP.2.2.1 : cS9b kT kH kF jB kE H σ)
        have n7 := no_tag i1 c6
        have n0 := no_tag i1 c7
        obtain ⟨zq, q1, q2⟩ := tag_get ho i1 qq
        obtain ⟨zt, t1, t2⟩ := tag_get ho i1 qt
        obtain ⟨zo, o1, o2⟩ := tag_get ho i1 qo
        obtain ⟨zw, w1, w2⟩ := tag_get ho i1 qw
        obtain ⟨zc, k1, k2⟩ := tag_get ho i1 qc
        have f1 := eqA_ok ho c1 t2 (y := 0) rfl
        have f2 := eqA_ok ho c2 o2 q2
        have f3 := eqA_ok ho c3 w2 hz
        have f4 := eqA_ok ho c4 k2 (y := 1) rfl
        have f8 := leAV_ok ho c8 (x := 0) rfl q2
        have f9 := leAV_ok ho c9 q2 (y := 5) rfl
        obtain ⟨X, M, e1, e2, up⟩ := hB.2.2 zt zo zw zc t1 o1 w1 k1
        have eX : X = 0 := Int32.toInt_inj.mp (by rw [e1, f1]; rfl)
        have bit := up zq.toNat (by omega) (by omega)
        have z0 : ∀ m, m < 6 → bitN (0 : Int32) m = false := by decide +kernel
        have l : ∀ u, u ≠ 856 → lk ((856, z) :: H) u = lk H u := fun u h => by rw [lk_cons, if_neg h]
        have l6 : lk ((856, z) :: H) 856 = some z := by rw [lk_cons, if_pos rfl]
        refine c_hint hP ho i2 (H' := (856, z) :: H) ⟨⟨rfl, hz⟩, i1⟩ (fun u hu => l u (by omega)) ⟨bS9_k (fun u hu => l u (by omega)) hB, ?_⟩
        unfold cC
        rw [l6, l 850 (by decide), l 851 (by decide), l 852 (by decide), l 853 (by decide), l 847 (by decide), l 848 (by decide), l 849 (by decide), l 855 (by decide), l 857 (by decide), l 858 (by decide), l 859 (by decide), l 860 (by decide), l 861 (by decide), l 862 (by decide)]
        refine ⟨g0, fun a b h h' => ⟨zq.toNat, M, ?_, by omega, ?_, ?_, fun b hb q => ?_⟩, fun _ _ _ _ _ h => (by rw [n7] at h; cases h), fun _ _ _ _ _ h => (by rw [n0] at h; cases h), g7⟩
        · rw [q1] at h
          have := Option.some.inj h
          omega
        · rw [← Option.some.inj h', e2]; exact f3
        · have := bit zq.toNat (by omega)
          rw [if_pos rfl, f4] at this
          exact b2i_1L9.mp this
        · have := bit b hb
          by_cases e : b = zq.toNat
          · rw [e]; exact wp_le (k := 0) (by decide) (Or.inl rfl)
          · rw [if_neg e, eX, z0 b hb, q] at this
            cases this
    · exact ho
  · exact ho
noncomputable def h197 (b : AV) (s : Sy) : Sy := match lk s.hl 855, lk s.hl 856 with
  | some _, some m => bif eqA s b m then s.seth ((857, b) :: (858, .c 0) :: (859, .c 0) :: hdel 859 (hdel 858 (hdel 857 s.hl))) else s
  | _, _ => s
theorem h197_ok (hP : PH T G cs (cC9 kT kH kF jB kE)) {b : AV} {z : Int} (hz : ev ρ b = some z) (ho : Ok (Jf T G (cS cs)) s ρ σ) : Ok (Jf T G (cS cs)) (h197 b s) ρ σ := by
  unfold h197
  split
  · rename_i q m qq qm
    cases hc : eqA s b m with
    | false => exact ho
    | true =>
      obtain ⟨H, i1, i2⟩ := ho.inv
      obtain ⟨hB, g0, g4, g5, g6, g7⟩ := (i2.2.2 _ hP.2.2.1 : cS9b kT kH kF jB kE H σ)
      obtain ⟨zm, m1, m2⟩ := tag_get ho i1 qm
      have f := eqA_ok ho hc hz m2
      have l : ∀ u, ¬ (857 ≤ u ∧ u ≤ 859) → lk ((857, z) :: (858, 0) :: (859, 0) :: hdel 859 (hdel 858 (hdel 857 H))) u = lk H u := fun u h => by
        rw [lk_cons, if_neg (by omega), lk_cons, if_neg (by omega), lk_cons, if_neg (by omega), lk_hdel, if_neg (by omega), lk_hdel, if_neg (by omega), lk_hdel, if_neg (by omega)]
      have l7 : lk ((857, z) :: (858, 0) :: (859, 0) :: hdel 859 (hdel 858 (hdel 857 H))) 857 = some z := by rw [lk_cons, if_pos rfl]
      have l8 : lk ((857, z) :: (858, 0) :: (859, 0) :: hdel 859 (hdel 858 (hdel 857 H))) 858 = some 0 := by rw [lk_cons, if_neg (by decide), lk_cons, if_pos rfl]
      have l9 : lk ((857, z) :: (858, 0) :: (859, 0) :: hdel 859 (hdel 858 (hdel 857 H))) 859 = some 0 := by rw [lk_cons, if_neg (by decide), lk_cons, if_neg (by decide), lk_cons, if_pos rfl]
      refine c_hint hP ho i2 (H' := (857, z) :: (858, 0) :: (859, 0) :: hdel 859 (hdel 858 (hdel 857 H))) ⟨⟨rfl, hz⟩, ⟨rfl, rfl⟩, ⟨rfl, rfl⟩, ((i1.del).del).del⟩ (fun u hu => l u (by omega)) ⟨bS9_k (fun u hu => l u (by omega)) hB, ?_⟩
      unfold cC
      rw [l7, l8, l9, l 850 (by decide), l 851 (by decide), l 852 (by decide), l 853 (by decide), l 847 (by decide), l 848 (by decide), l 849 (by decide), l 855 (by decide), l 856 (by decide), l 860 (by decide), l 861 (by decide), l 862 (by decide)]
      refine ⟨g0, g4, fun a b c d h1 h2 h3 h4 M Z e1 e2 => ⟨fun b' hb q => ?_, fun a' b' _ _ h => ?_⟩, g6, g7⟩
      · rw [m1] at h1
        have h1 := Option.some.inj h1
        have h2 := Option.some.inj h2
        have : M = Z := Int32.toInt_inj.mp (by omega)
        rw [this]; exact q
      · have h3 := Option.some.inj h3
        have h4 := Option.some.inj h4
        omega
  · exact ho
noncomputable def h199 (p : AV) (s : Sy) : Sy := match lk s.hl 858, lk s.hl 859 with
  | some i, some j => bif eq6 s p i j then s.seth ((866, p) :: hdel 866 s.hl) else s
  | _, _ => s
theorem h199_ok (hP : PH T G cs (cC9 kT kH kF jB kE)) {p : AV} {z : Int} (hz : ev ρ p = some z) (ho : Ok (Jf T G (cS cs)) s ρ σ) : Ok (Jf T G (cS cs)) (h199 p s) ρ σ := by
  unfold h199
  split
  · rename_i i j _ _
    cases hc : eq6 s p i j with
    | false => exact ho
    | true =>
      obtain ⟨H, i1, i2⟩ := ho.inv
      obtain ⟨hB, hC⟩ := (i2.2.2 _ hP.2.2.1 : cS9b kT kH kF jB kE H σ)
      have l : ∀ u, u ≠ 866 → lk ((866, z) :: hdel 866 H) u = lk H u := fun u h => by rw [lk_cons, if_neg h, lk_hdel, if_neg h]
      refine c_hint hP ho i2 (H' := (866, z) :: hdel 866 H) ⟨⟨rfl, hz⟩, i1.del⟩ (fun u hu => l u (by omega)) ⟨bS9_k (fun u hu => l u (by omega)) hB, ?_⟩
      unfold cC at hC ⊢
      rw [l 850 (by decide), l 851 (by decide), l 852 (by decide), l 853 (by decide), l 847 (by decide), l 848 (by decide), l 849 (by decide), l 855 (by decide), l 856 (by decide), l 857 (by decide), l 858 (by decide), l 859 (by decide), l 860 (by decide), l 861 (by decide), l 862 (by decide)]
      exact hC
  · exact ho
noncomputable def h200 (s : Sy) : Sy := match lk s.hl 858, lk s.hl 859 with
  | some i, some j => bif leAV s (.c 6) j then s.seth (hup 858 (shA i 1) (hup 859 (.c 0) s.hl)) else s
  | _, _ => s
theorem h200_ok (hP : PH T G cs (cC9 kT kH kF jB kE)) (ho : Ok (Jf T G (cS cs)) s ρ σ) : Ok (Jf T G (cS cs)) (h200 s) ρ σ := by
  unfold h200
  split
  · rename_i i j qi qj
    cases hc : leAV s (.c 6) j with
    | false => exact ho
    | true =>
      obtain ⟨H, i1, i2⟩ := ho.inv
      obtain ⟨hB, g0, g4, g5, g6, g7⟩ := (i2.2.2 _ hP.2.2.1 : cS9b kT kH kF jB kE H σ)
      obtain ⟨zi, e1, e2⟩ := tag_get ho i1 qi
      obtain ⟨zj, j1, j2⟩ := tag_get ho i1 qj
      have f := leAV_ok ho hc (x := 6) rfl j2
      have l : ∀ u, u ≠ 858 → u ≠ 859 → lk (hup 858 (zi + 1) (hup 859 0 H)) u = lk H u := fun u h1 h2 => by rw [lk_hup_ne h1, lk_hup_ne h2]
      have l8 : lk (hup 858 (zi + 1) (hup 859 0 H)) 858 = some (zi + 1) := lk_hup_at (b := zi) (by rw [lk_hup_ne (by decide)]; exact e1)
      have l9 : lk (hup 858 (zi + 1) (hup 859 0 H)) 859 = some 0 := by rw [lk_hup_ne (by decide)]; exact lk_hup_at j1
      refine c_hint hP ho i2 (Hl.up (shA_ev e2) (Hl.up (a := .c 0) (x := 0) rfl i1)) (fun u hu => l u (by omega) (by omega)) ⟨bS9_k (fun u hu => l u (by omega) (by omega)) hB, ?_⟩
      unfold cC
      rw [l8, l9, l 850 (by decide) (by decide), l 851 (by decide) (by decide), l 852 (by decide) (by decide), l 853 (by decide) (by decide), l 847 (by decide) (by decide), l 848 (by decide) (by decide), l 849 (by decide) (by decide), l 855 (by decide) (by decide), l 856 (by decide) (by decide), l 857 (by decide) (by decide), l 860 (by decide) (by decide), l 861 (by decide) (by decide), l 862 (by decide) (by decide)]
      refine ⟨g0, g4, fun a b c d h1 h2 h3 h4 M Z m1 m2 => ?_, g6, g7⟩
      obtain ⟨p1, p2⟩ := g5 a b zi zj h1 h2 e1 j1 M Z m1 m2
      refine ⟨p1, fun a' b' ha hb h => p2 a' b' ha hb ?_⟩
      have h3 := Option.some.inj h3
      have h4 := Option.some.inj h4
      omega
  · exact ho
noncomputable def h204 (s : Sy) : Sy := s.seth (hdel 862 (hdel 861 (hdel 860 (hdel 859 (hdel 858 (hdel 857 (hdel 856 (hdel 855 s.hl))))))))
theorem h204_ok (hP : PH T G cs (cC9 kT kH kF jB kE)) (ho : Ok (Jf T G (cS cs)) s ρ σ) : Ok (Jf T G (cS cs)) (h204 s) ρ σ := by
  obtain ⟨H, i1, i2⟩ := ho.inv
  obtain ⟨hB, g0, g4, g5, g6, g7⟩ := (i2.2.2 _ hP.2.2.1 : cS9b kT kH kF jB kE H σ)
  have l : ∀ u, ¬ (855 ≤ u ∧ u ≤ 862) → lk (hdel 862 (hdel 861 (hdel 860 (hdel 859 (hdel 858 (hdel 857 (hdel 856 (hdel 855 H)))))))) u = lk H u := fun u h => by
    rw [lk_hdel, if_neg (by omega), lk_hdel, if_neg (by omega), lk_hdel, if_neg (by omega), lk_hdel, if_neg (by omega), lk_hdel, if_neg (by omega), lk_hdel, if_neg (by omega), lk_hdel, if_neg (by omega), lk_hdel, if_neg (by omega)]
  have n5 : lk (hdel 862 (hdel 861 (hdel 860 (hdel 859 (hdel 858 (hdel 857 (hdel 856 (hdel 855 H)))))))) 855 = none := by
    rw [lk_hdel, if_neg (by decide), lk_hdel, if_neg (by decide), lk_hdel, if_neg (by decide), lk_hdel, if_neg (by decide), lk_hdel, if_neg (by decide), lk_hdel, if_neg (by decide), lk_hdel, if_neg (by decide), lk_hdel, if_pos rfl]
  have n6 : lk (hdel 862 (hdel 861 (hdel 860 (hdel 859 (hdel 858 (hdel 857 (hdel 856 (hdel 855 H)))))))) 856 = none := by
    rw [lk_hdel, if_neg (by decide), lk_hdel, if_neg (by decide), lk_hdel, if_neg (by decide), lk_hdel, if_neg (by decide), lk_hdel, if_neg (by decide), lk_hdel, if_neg (by decide), lk_hdel, if_pos rfl]
  refine c_hint hP ho i2 ((((((((i1.del).del).del).del).del).del).del).del) (fun u hu => l u (by omega)) ⟨bS9_k (fun u hu => l u (by omega)) hB, ?_⟩
  unfold cC
  rw [n5, n6, l 850 (by decide), l 851 (by decide), l 852 (by decide), l 853 (by decide), l 847 (by decide), l 848 (by decide), l 849 (by decide)]
  exact ⟨g0, fun _ _ h => (by cases h), fun _ _ _ _ h => (by cases h), fun _ _ _ h => (by cases h), fun _ _ _ h => (by cases h)⟩
end H40
end
