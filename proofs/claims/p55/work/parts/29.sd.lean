section
noncomputable section
/-! ===== WHAT ELSE HOLDS, 40: hints of acts held: 183, 184, 190 .. 204; what products may say of bits ===== -/
noncomputable def PBt (J : Jt) : Prop := (∀ H σ t o b, R840 t o b → J H σ → J ((840, t) :: (841, o) :: (842, b) :: hdel 840 (hdel 841 (hdel 842 H))) σ) ∧ (∀ H σ t o w c, R843 t o w c → J H σ → J ((843, t) :: (844, o) :: (845, w) :: (846, c) :: hdel 843 (hdel 844 (hdel 845 (hdel 846 H)))) σ) ∧ ∀ H σ x y v, R847 x y v → J H σ → J ((847, x) :: (848, y) :: (849, v) :: hdel 847 (hdel 848 (hdel 849 H))) σ
theorem bS1_k {kT kH kF jB : Nat} {H H' : List (Nat × Int)} {σ : zS} (l : ∀ u, u ≤ 824 → lk H' u = lk H u) (h : bS1 kT kH kF jB H σ) : bS1 kT kH kF jB H' σ := by
  unfold bS1 efB at h ⊢
  rw [l 820 (by omega), l 821 (by omega), l 822 (by omega), l 823 (by omega), l 824 (by omega)]
  exact h
section H40
variable {T : Jx} {G : Gl} {cs : List Cp} {s : Sy} {ρ : List Int} {σ : zS} {kT kH kF jB kE : Nat}
theorem c_set (hP : PH T G cs (cC9 kT kH kF jB kE)) {H H' : List (Nat × Int)} (hJ : Jf T G (cS cs) H σ) (l : ∀ u, ¬ (820 ≤ u ∧ u ≤ 866) → lk H' u = lk H u) (hn : cS9b kT kH kF jB kE H' σ) : Jf T G (cS cs) H' σ := Jf_part hP.1 hP.2.1 hP.2.2.2 (fun t ht => (hP.2.1 _ hP.2.2.1).1 t ht) (fun u hu => l u (ct9_no hu)) hJ hn
theorem pb_ok (hP : PH T G cs (cC9 kT kH kF jB kE)) : PBt (Jf T G (cS cs)) := by
  refine ⟨fun H σ t o b hR hJ => ?_, fun H σ t o w c hR hJ => ?_, fun H σ x y v hR hJ => ?_⟩
  · obtain ⟨⟨s1, s5, s6⟩, hC⟩ := (hJ.2.2 _ hP.2.2.1 : cS9b kT kH kF jB kE H σ)
    have l : ∀ u, ¬ (840 ≤ u ∧ u ≤ 842) → lk ((840, t) :: (841, o) :: (842, b) :: hdel 840 (hdel 841 (hdel 842 H))) u = lk H u := fun u h => by
      rw [lk_cons, if_neg (by omega), lk_cons, if_neg (by omega), lk_cons, if_neg (by omega), lk_hdel, if_neg (by omega), lk_hdel, if_neg (by omega), lk_hdel, if_neg (by omega)]
    refine c_set hP hJ (fun u hu => l u (by omega)) ⟨⟨bS1_k (fun u hu => l u (by omega)) s1, fun t' o' b' h1 h2 h3 => ?_, fun t' o' w' c' h1 h2 h3 h4 => ?_⟩, cC_k (fun u hu => l u (by omega)) hC⟩
    · rw [lk_cons, if_pos rfl] at h1
      rw [lk_cons, if_neg (by decide), lk_cons, if_pos rfl] at h2
      rw [lk_cons, if_neg (by decide), lk_cons, if_neg (by decide), lk_cons, if_pos rfl] at h3
      rw [← Option.some.inj h1, ← Option.some.inj h2, ← Option.some.inj h3]
      exact hR
    · rw [l 843 (by decide)] at h1
      rw [l 844 (by decide)] at h2
      rw [l 845 (by decide)] at h3
      rw [l 846 (by decide)] at h4
      exact s6 t' o' w' c' h1 h2 h3 h4
  · obtain ⟨⟨s1, s5, s6⟩, hC⟩ := (hJ.2.2 _ hP.2.2.1 : cS9b kT kH kF jB kE H σ)
    have l : ∀ u, ¬ (843 ≤ u ∧ u ≤ 846) → lk ((843, t) :: (844, o) :: (845, w) :: (846, c) :: hdel 843 (hdel 844 (hdel 845 (hdel 846 H)))) u = lk H u := fun u h => by
      rw [lk_cons, if_neg (by omega), lk_cons, if_neg (by omega), lk_cons, if_neg (by omega), lk_cons, if_neg (by omega), lk_hdel, if_neg (by omega), lk_hdel, if_neg (by omega), lk_hdel, if_neg (by omega), lk_hdel, if_neg (by omega)]
    refine c_set hP hJ (fun u hu => l u (by omega)) ⟨⟨bS1_k (fun u hu => l u (by omega)) s1, fun t' o' b' h1 h2 h3 => ?_, fun t' o' w' c' h1 h2 h3 h4 => ?_⟩, cC_k (fun u hu => l u (by omega)) hC⟩
    · rw [l 840 (by decide)] at h1
      rw [l 841 (by decide)] at h2
      rw [l 842 (by decide)] at h3
      exact s5 t' o' b' h1 h2 h3
    · rw [lk_cons, if_pos rfl] at h1
      rw [lk_cons, if_neg (by decide), lk_cons, if_pos rfl] at h2
      rw [lk_cons, if_neg (by decide), lk_cons, if_neg (by decide), lk_cons, if_pos rfl] at h3
      rw [lk_cons, if_neg (by decide), lk_cons, if_neg (by decide), lk_cons, if_neg (by decide), lk_cons, if_pos rfl] at h4
      rw [← Option.some.inj h1, ← Option.some.inj h2, ← Option.some.inj h3, ← Option.some.inj h4]
      exact hR
  · obtain ⟨hB, ⟨g0, g1, g2, _⟩, g4⟩ := (hJ.2.2 _ hP.2.2.1 : cS9b kT kH kF jB kE H σ)
    have l : ∀ u, ¬ (847 ≤ u ∧ u ≤ 849) → lk ((847, x) :: (848, y) :: (849, v) :: hdel 847 (hdel 848 (hdel 849 H))) u = lk H u := fun u h => by
      rw [lk_cons, if_neg (by omega), lk_cons, if_neg (by omega), lk_cons, if_neg (by omega), lk_hdel, if_neg (by omega), lk_hdel, if_neg (by omega), lk_hdel, if_neg (by omega)]
    refine c_set hP hJ (fun u hu => l u (by omega)) ⟨bS9_k (fun u hu => l u (by omega)) hB, ?_⟩
    unfold cC
    rw [l 850 (by decide), l 851 (by decide), l 852 (by decide), l 853 (by decide), l 855 (by decide), l 856 (by decide), l 857 (by decide), l 858 (by decide), l 859 (by decide), l 860 (by decide), l 861 (by decide), l 862 (by decide)]
    refine ⟨⟨g0, g1, g2, fun a b c h1 h2 h3 => ?_⟩, g4⟩
    rw [lk_cons, if_pos rfl] at h1
    rw [lk_cons, if_neg (by decide), lk_cons, if_pos rfl] at h2
    rw [lk_cons, if_neg (by decide), lk_cons, if_neg (by decide), lk_cons, if_pos rfl] at h3
    rw [← Option.some.inj h1, ← Option.some.inj h2, ← Option.some.inj h3]
    exact hR
/-- a hint that changes tags alone -/
theorem c_hint (hP : PH T G cs (cC9 kT kH kF jB kE)) (ho : Ok (Jf T G (cS cs)) s ρ σ) {hl' : List (Nat × AV)} {H H' : List (Nat × Int)} (hJ : Jf T G (cS cs) H σ) (hh : Hl ρ hl' H') (l : ∀ u, ¬ (820 ≤ u ∧ u ≤ 866) → lk H' u = lk H u) (hn : cS9b kT kH kF jB kE H' σ) : Ok (Jf T G (cS cs)) (s.seth hl') ρ σ :=
  ⟨ho.len, ho.env, ho.me, ho.cg, ho.df, ho.fa, H', hh, c_set hP hJ l hn⟩
noncomputable def h183 (kH kF jB : Nat) (p : AV) (s : Sy) : Sy := match mget s.me kF (.c (jB : Int)) with
  | some b => (match lk s.hl 821, lk s.hl 822, lk s.hl 824 with
    | some a, some o, some v => bif ((b.isI && eqA s b (.c 1)) && (v.isI && !(isS (lk s.hl 820)))) && (eq6 s p a o && (!(isS (mget s.me kH (pl s p))) && eqA s p (pl s p))) then s.add kH (pl s p) v else s
    | _, _, _ => s)
  | none => s
theorem h183_ok (hm : cC9 kT kH kF jB kE ∈ cs) {p : AV} {z : Int} (hp : ev ρ p = some z) (ho : Ok (Jf T G (cS cs)) s ρ σ) : Ok (Jf T G (cS cs)) (h183 kH kF jB p s) ρ σ := by
  unfold h183
  split
  · rename_i b hb
    split
    · rename_i a o v qa qo qv
      cases hc : ((b.isI && eqA s b (.c 1)) && (v.isI && !(isS (lk s.hl 820)))) && (eq6 s p a o && (!(isS (mget s.me kH (pl s p))) && eqA s p (pl s p))) with
      | false => exact ho
      | true =>
        simp only [Bool.and_eq_true] at hc
        obtain ⟨⟨⟨c1, c2⟩, c3, c4⟩, c5, c6, c7⟩ := hc
        obtain ⟨H, i1, i2⟩ := ho.inv
        obtain ⟨⟨⟨s1, s2, s3, s4⟩, _⟩, _⟩ := (i2.2.2 _ hm : cS9b kT kH kF jB kE H σ)
        obtain ⟨za, a1, a2⟩ := tag_get ho i1 qa
        obtain ⟨zo, o1, o2⟩ := tag_get ho i1 qo
        obtain ⟨zv, v1, v2⟩ := tag_get ho i1 qv
        have no := no_tag i1 c4
        have eb : ev ρ b = some (σ.1 kF jB).toInt := me_at ho hb rfl c1
        have g1 : (σ.1 kF jB).toInt = 1 := eqA_ok ho c2 eb (y := 1) rfl
        obtain ⟨A, O, q1, q2, q3, q4, q5, q6, q7⟩ := s4 za zo a1 o1
        have ez := eq6_ok ho hp a2 o2 c5
        have ef := q7 zv v1
        unfold efB at ef
        rw [if_pos ⟨g1, no⟩] at ef
        obtain ⟨y, hy⟩ := pl_ev (s := s) hp
        have ey := eqA_ok ho c7 hp hy
        exact ho.addm ⟨6 * A + O, by rw [hy]; exact congrArg some (by omega), Or.inl ⟨c3, by rw [v2, ef]⟩⟩
    · exact ho
  · exact ho
noncomputable def h184 (s : Sy) : Sy := s.seth (hdel 840 (hdel 841 (hdel 842 (hdel 843 (hdel 844 (hdel 845 (hdel 846 s.hl)))))))
theorem h184_ok (hP : PH T G cs (cC9 kT kH kF jB kE)) (ho : Ok (Jf T G (cS cs)) s ρ σ) : Ok (Jf T G (cS cs)) (h184 s) ρ σ := by
  obtain ⟨H, i1, i2⟩ := ho.inv
  obtain ⟨⟨s1, s5, s6⟩, hC⟩ := (i2.2.2 _ hP.2.2.1 : cS9b kT kH kF jB kE H σ)
  have l : ∀ u, ¬ (840 ≤ u ∧ u ≤ 846) → lk (hdel 840 (hdel 841 (hdel 842 (hdel 843 (hdel 844 (hdel 845 (hdel 846 H))))))) u = lk H u := fun u h => by
    rw [lk_hdel, if_neg (by omega), lk_hdel, if_neg (by omega), lk_hdel, if_neg (by omega), lk_hdel, if_neg (by omega), lk_hdel, if_neg (by omega), lk_hdel, if_neg (by omega), lk_hdel, if_neg (by omega)]
  refine c_hint hP ho i2 (((((((i1.del).del).del).del).del).del).del) (fun u hu => l u (by omega)) ⟨⟨bS1_k (fun u hu => l u (by omega)) s1, fun t o b h => ?_, fun t o w c h => ?_⟩, cC_k (fun u hu => l u (by omega)) hC⟩
  · rw [lk_hdel, if_pos rfl] at h; cases h
  · rw [lk_hdel, if_neg (by decide), lk_hdel, if_neg (by decide), lk_hdel, if_neg (by decide), lk_hdel, if_pos rfl] at h; cases h
noncomputable def h190 (s : Sy) : Sy := bif (isS (lk s.hl 853) && !(isS (lk s.hl 850))) && (!(isS (lk s.hl 851)) && !(isS (lk s.hl 852))) then s.seth ((850, .c 0) :: hdel 853 s.hl) else s
theorem h190_ok (hP : PH T G cs (cC9 kT kH kF jB kE)) (ho : Ok (Jf T G (cS cs)) s ρ σ) : Ok (Jf T G (cS cs)) (h190 s) ρ σ := by
  unfold h190
  cases hc : (isS (lk s.hl 853) && !(isS (lk s.hl 850))) && (!(isS (lk s.hl 851)) && !(isS (lk s.hl 852))) with
  | false => exact ho
  | true =>
    obtain ⟨H, i1, i2⟩ := ho.inv
    obtain ⟨hB, ⟨g0, g1, g2, g3⟩, g4⟩ := (i2.2.2 _ hP.2.2.1 : cS9b kT kH kF jB kE H σ)
    have l : ∀ u, u ≠ 850 → u ≠ 853 → lk ((850, (0 : Int)) :: hdel 853 H) u = lk H u := fun u h1 h2 => by rw [lk_cons, if_neg h1, lk_hdel, if_neg h2]
    have l0 : lk ((850, (0 : Int)) :: hdel 853 H) 850 = some 0 := by rw [lk_cons, if_pos rfl]
    refine c_hint hP ho i2 (H' := (850, 0) :: hdel 853 H) ⟨⟨rfl, rfl⟩, i1.del⟩ (fun u hu => l u (by omega) (by omega)) ⟨bS9_k (fun u hu => l u (by omega) (by omega)) hB, ?_⟩
    unfold cC
    rw [l0, l 847 (by decide) (by decide), l 848 (by decide) (by decide), l 849 (by decide) (by decide), l 855 (by decide) (by decide), l 856 (by decide) (by decide), l 857 (by decide) (by decide), l 858 (by decide) (by decide), l 859 (by decide) (by decide), l 860 (by decide) (by decide), l 861 (by decide) (by decide), l 862 (by decide) (by decide)]
    refine ⟨⟨fun h => (by cases h), fun i h a b h1 => ?_, fun h => (by cases h), g3⟩, g4⟩
    have := Option.some.inj h
    omega
noncomputable def h191 (s : Sy) : Sy := match lk s.hl 850 with
  | some i => bif (leAV s (.c 6) i) && (!(isS (lk s.hl 851)) && !(isS (lk s.hl 852))) then s.seth ((851, .c 0) :: (852, .c 0) :: hdel 850 s.hl) else s
  | none => s
theorem h191_ok (hP : PH T G cs (cC9 kT kH kF jB kE)) (ho : Ok (Jf T G (cS cs)) s ρ σ) : Ok (Jf T G (cS cs)) (h191 s) ρ σ := by
  unfold h191
  split
  · rename_i i qi
    cases hc : (leAV s (.c 6) i) && (!(isS (lk s.hl 851)) && !(isS (lk s.hl 852))) with
    | false => exact ho
    | true =>
      rw [Bool.and_eq_true] at hc
      obtain ⟨H, i1, i2⟩ := ho.inv
      obtain ⟨hB, ⟨g0, g1, g2, g3⟩, g4⟩ := (i2.2.2 _ hP.2.2.1 : cS9b kT kH kF jB kE H σ)
      obtain ⟨zi, e1, e2⟩ := tag_get ho i1 qi
      have f := leAV_ok ho hc.1 (x := 6) rfl e2
      have l : ∀ u, u ≠ 850 → u ≠ 851 → u ≠ 852 → lk ((851, (0 : Int)) :: (852, 0) :: hdel 850 H) u = lk H u := fun u h1 h2 h3 => by rw [lk_cons, if_neg h2, lk_cons, if_neg h3, lk_hdel, if_neg h1]
      have l0 : lk ((851, (0 : Int)) :: (852, 0) :: hdel 850 H) 850 = none := by rw [lk_cons, if_neg (by decide), lk_cons, if_neg (by decide), lk_hdel, if_pos rfl]
      have l1 : lk ((851, (0 : Int)) :: (852, 0) :: hdel 850 H) 851 = some 0 := by rw [lk_cons, if_pos rfl]
      have l2 : lk ((851, (0 : Int)) :: (852, 0) :: hdel 850 H) 852 = some 0 := by rw [lk_cons, if_neg (by decide), lk_cons, if_pos rfl]
      refine c_hint hP ho i2 (H' := (851, 0) :: (852, 0) :: hdel 850 H) ⟨⟨rfl, rfl⟩, ⟨rfl, rfl⟩, i1.del⟩ (fun u hu => l u (by omega) (by omega) (by omega)) ⟨bS9_k (fun u hu => l u (by omega) (by omega) (by omega)) hB, ?_⟩
      unfold cC
      rw [l0, l1, l2, l 847 (by decide) (by decide) (by decide), l 848 (by decide) (by decide) (by decide), l 849 (by decide) (by decide) (by decide), l 855 (by decide) (by decide) (by decide), l 856 (by decide) (by decide) (by decide), l 857 (by decide) (by decide) (by decide), l 858 (by decide) (by decide) (by decide), l 859 (by decide) (by decide) (by decide), l 860 (by decide) (by decide) (by decide), l 861 (by decide) (by decide) (by decide), l 862 (by decide) (by decide) (by decide)]
      refine ⟨⟨fun _ h => (by cases h), fun i h => (by cases h), fun _ k i h h' => ⟨0, (Option.some.inj h).symm, by decide, fun a b h2 h3 => ?_⟩, g3⟩, g4⟩
      have := Option.some.inj h'
      rw [if_neg (by omega)]
      exact g1 zi e1 a b (by omega) h2 h3
  · exact ho
noncomputable def h193 (s : Sy) : Sy := match lk s.hl 851, lk s.hl 852 with
  | some k, some i => bif leAV s (.c 6) i && leAV s k (.c 5) then s.seth (hup 851 (shA k 1) (hup 852 (.c 0) s.hl)) else s
  | _, _ => s
theorem h193_ok (hP : PH T G cs (cC9 kT kH kF jB kE)) (ho : Ok (Jf T G (cS cs)) s ρ σ) : Ok (Jf T G (cS cs)) (h193 s) ρ σ := by
  unfold h193
  split
  · rename_i k i qk qi
    cases hc : leAV s (.c 6) i && leAV s k (.c 5) with
    | false => exact ho
    | true =>
      rw [Bool.and_eq_true] at hc
      obtain ⟨H, i1, i2⟩ := ho.inv
      obtain ⟨hB, ⟨g0, g1, g2, g3⟩, g4⟩ := (i2.2.2 _ hP.2.2.1 : cS9b kT kH kF jB kE H σ)
      obtain ⟨zi, e1, e2⟩ := tag_get ho i1 qi
      obtain ⟨zk, k1, k2⟩ := tag_get ho i1 qk
      have f := leAV_ok ho hc.1 (x := 6) rfl e2
      have f5 := leAV_ok ho hc.2 k2 (y := 5) rfl
      have l : ∀ u, u ≠ 851 → u ≠ 852 → lk (hup 851 (zk + 1) (hup 852 0 H)) u = lk H u := fun u h1 h2 => by rw [lk_hup_ne h1, lk_hup_ne h2]
      have l1 : lk (hup 851 (zk + 1) (hup 852 0 H)) 851 = some (zk + 1) := lk_hup_at (b := zk) (by rw [lk_hup_ne (by decide)]; exact k1)
      have l2 : lk (hup 851 (zk + 1) (hup 852 0 H)) 852 = some 0 := by rw [lk_hup_ne (by decide)]; exact lk_hup_at e1
      refine c_hint hP ho i2 (Hl.up (shA_ev k2) (Hl.up (a := .c 0) (x := 0) rfl i1)) (fun u hu => l u (by omega) (by omega)) ⟨bS9_k (fun u hu => l u (by omega) (by omega)) hB, ?_⟩
      unfold cC
      rw [l1, l2, l 850 (by decide) (by decide), l 853 (by decide) (by decide), l 847 (by decide) (by decide), l 848 (by decide) (by decide), l 849 (by decide) (by decide), l 855 (by decide) (by decide), l 856 (by decide) (by decide), l 857 (by decide) (by decide), l 858 (by decide) (by decide), l 859 (by decide) (by decide), l 860 (by decide) (by decide), l 861 (by decide) (by decide), l 862 (by decide) (by decide)]
      refine ⟨⟨fun _ h => (by cases h), g1, fun z0 k' i' h h' => ?_, g3⟩, g4⟩
      obtain ⟨K, q1, q2, q3⟩ := g2 z0 zk zi k1 e1
      refine ⟨K + 1, by rw [← Option.some.inj h]; omega, by omega, fun a b h2 h3 => ?_⟩
      have := Option.some.inj h'
      rw [if_neg (by omega)]
      have := q3 a b h2 h3
      rw [if_pos (by omega)] at this
      exact this
  · exact ho
noncomputable def h194 (s : Sy) : Sy := match lk s.hl 851, lk s.hl 852 with
  | some k, some i => bif leAV s (.c 6) k && leAV s i (.c 0) then s.seth (hdel 851 (hdel 852 s.hl)) else s
  | _, _ => s
theorem h194_ok (hP : PH T G cs (cC9 kT kH kF jB kE)) (ho : Ok (Jf T G (cS cs)) s ρ σ) : Ok (Jf T G (cS cs)) (h194 s) ρ σ := by
  unfold h194
  split
  · rename_i k i qk qi
    cases hc : leAV s (.c 6) k && leAV s i (.c 0) with
    | false => exact ho
    | true =>
      rw [Bool.and_eq_true] at hc
      obtain ⟨H, i1, i2⟩ := ho.inv
      obtain ⟨hB, ⟨g0, g1, g2, g3⟩, g4⟩ := (i2.2.2 _ hP.2.2.1 : cS9b kT kH kF jB kE H σ)
      obtain ⟨zi, e1, e2⟩ := tag_get ho i1 qi
      obtain ⟨zk, k1, k2⟩ := tag_get ho i1 qk
      have f := leAV_ok ho hc.1 (x := 6) rfl k2
      have f0 := leAV_ok ho hc.2 e2 (y := 0) rfl
      have l : ∀ u, u ≠ 851 → u ≠ 852 → lk (hdel 851 (hdel 852 H)) u = lk H u := fun u h1 h2 => by rw [lk_hdel, if_neg h1, lk_hdel, if_neg h2]
      have l1 : lk (hdel 851 (hdel 852 H)) 851 = none := by rw [lk_hdel, if_pos rfl]
      refine c_hint hP ho i2 ((i1.del).del) (fun u hu => l u (by omega) (by omega)) ⟨bS9_k (fun u hu => l u (by omega) (by omega)) hB, ?_⟩
      unfold cC
      rw [l1, l 850 (by decide) (by decide), l 853 (by decide) (by decide), l 847 (by decide) (by decide), l 848 (by decide) (by decide), l 849 (by decide) (by decide), l 855 (by decide) (by decide), l 856 (by decide) (by decide), l 857 (by decide) (by decide), l 858 (by decide) (by decide), l 859 (by decide) (by decide), l 860 (by decide) (by decide), l 861 (by decide) (by decide), l 862 (by decide) (by decide)]
      refine ⟨⟨fun z0 _ _ a b h2 h3 => ?_, g1, fun _ k' i' h => (by cases h), g3⟩, g4⟩
      obtain ⟨K, q1, q2, q3⟩ := g2 z0 zk zi k1 e1
      have eK : K = 6 := by omega
      subst eK
      have := q3 a b h2 h3
      rw [if_neg (by omega)] at this
      exact this
  · exact ho
noncomputable def h192 (kE : Nat) (a : AV) (s : Sy) : Sy := match lk s.hl 851, lk s.hl 852, lk s.hl 840 with
  | some k, some i, some t => (match lk s.hl 841, lk s.hl 842, oth s kE i with
    | some o, some b, some x => bif ((eqA s a i && eqA s x t) && (eqA s o k && eqA s b (.c 0))) && ((leAV s (.c 0) i && leAV s i (.c 5)) && (leAV s (.c 0) k && leAV s k (.c 5))) then s.seth (hup 852 (shA i 1) s.hl) else s
    | _, _, _ => s)
  | _, _, _ => s
theorem h192_ok (hP : PH T G cs (cC9 kT kH kF jB kE)) {a : AV} (ho : Ok (Jf T G (cS cs)) s ρ σ) : Ok (Jf T G (cS cs)) (h192 kE a s) ρ σ := by
  unfold h192
  split
  · rename_i k i t qk qi qt
    split
    · rename_i o b x qo qb hx
      cases hc : ((eqA s a i && eqA s x t) && (eqA s o k && eqA s b (.c 0))) && ((leAV s (.c 0) i && leAV s i (.c 5)) && (leAV s (.c 0) k && leAV s k (.c 5))) with
      | false => exact ho
      | true =>
        simp only [Bool.and_eq_true] at hc
        obtain ⟨⟨⟨_, c2⟩, c3, c4⟩, ⟨c5, c6⟩, c7, c8⟩ := hc
        obtain ⟨H, i1, i2⟩ := ho.inv
        obtain ⟨hB, ⟨g0, g1, g2, g3⟩, g4⟩ := (i2.2.2 _ hP.2.2.1 : cS9b kT kH kF jB kE H σ)
        obtain ⟨zk, k1, k2⟩ := tag_get ho i1 qk
        obtain ⟨zi, e1, e2⟩ := tag_get ho i1 qi
        obtain ⟨zt, t1, t2⟩ := tag_get ho i1 qt
        obtain ⟨zo, o1, o2⟩ := tag_get ho i1 qo
        obtain ⟨zb, b1, b2⟩ := tag_get ho i1 qb
        have f5 := leAV_ok ho c5 (x := 0) rfl e2
        have f6 := leAV_ok ho c6 e2 (y := 5) rfl
        have f8 := leAV_ok ho c8 k2 (y := 5) rfl
        have hi : ev ρ i = some ((zi.toNat : Nat) : Int) := e2.trans (congrArg some (by omega))
        have f2 := eqA_ok ho c2 (oth_ok ho hx hi).2 t2
        have f3 := eqA_ok ho c3 o2 k2
        have f4 := eqA_ok ho c4 b2 (y := 0) rfl
        have l : ∀ u, u ≠ 852 → lk (hup 852 (zi + 1) H) u = lk H u := fun u h => lk_hup_ne h
        have l2 : lk (hup 852 (zi + 1) H) 852 = some (zi + 1) := lk_hup_at e1
        refine c_hint hP ho i2 (i1.up (shA_ev e2)) (fun u hu => l u (by omega)) ⟨bS9_k (fun u hu => l u (by omega)) hB, ?_⟩
        unfold cC
        rw [l2, l 850 (by decide), l 851 (by decide), l 853 (by decide), l 847 (by decide), l 848 (by decide), l 849 (by decide), l 855 (by decide), l 856 (by decide), l 857 (by decide), l 858 (by decide), l 859 (by decide), l 860 (by decide), l 861 (by decide), l 862 (by decide)]
        refine ⟨⟨g0, g1, fun z0 k' i' h h' => ?_, g3⟩, g4⟩
        rw [k1] at h
        obtain ⟨K, q1, q2, q3⟩ := g2 z0 zk zi k1 e1
        have ek := Option.some.inj h
        have ei := Option.some.inj h'
        refine ⟨K, by omega, q2, fun a' b' h2 h3 => ?_⟩
        have hK : K < 6 := by omega
        have bit := (hB.2.1 zt zo zb t1 o1 b1).at (x := σ.1 kE zi.toNat) (n := K) f2 (by omega) hK
        rw [f4] at bit
        have no := b2i_0.mp bit.symm
        rw [q3 a' b' h2 h3]
        by_cases e : (a' : Int) < zi
        · rw [if_pos e, if_pos (by omega)]
        · rw [if_neg e]
          by_cases e2 : (a' : Int) < i'
          · rw [if_pos e2]
            have ea : a' = zi.toNat := by omega
            have nK : ¬ Wp (Eb kT σ) K a' K := fun q => by
              have := (q3 a' K h2 hK).mpr (by rw [if_neg e]; exact q)
              rw [ea, no] at this
              cases this
            constructor
            · exact Or.inl
            · rintro (q | q)
              · exact q
              · exact absurd q.1 nK
          · rw [if_neg e2]
    · exact ho
  · exact ho
noncomputable def h195 (kE : Nat) (a : AV) (s : Sy) : Sy := match lk s.hl 840, lk s.hl 841, lk s.hl 842 with
  | some t, some o, some b => (match oth s kE a with
    | some x => bif (((!(isS (lk s.hl 855)) && !(isS (lk s.hl 850))) && (!(isS (lk s.hl 851)) && !(isS (lk s.hl 853)))) && (!(isS (lk s.hl 856)) && eqA s x t)) && ((leAV s (.c 0) a && leAV s a (.c 5)) && (leAV s (.c 0) o && leAV s o (.c 5))) then s.seth ((855, a) :: (861, o) :: (862, b) :: s.hl) else s
    | none => s)
  | _, _, _ => s
theorem h195_ok (hP : PH T G cs (cC9 kT kH kF jB kE)) {a : AV} {z : Int} (hz : ev ρ a = some z) (ho : Ok (Jf T G (cS cs)) s ρ σ) : Ok (Jf T G (cS cs)) (h195 kE a s) ρ σ := by
  unfold h195
  split
  · rename_i t o b qt qo qb
    split
    · rename_i x hx
      cases hc : (((!(isS (lk s.hl 855)) && !(isS (lk s.hl 850))) && (!(isS (lk s.hl 851)) && !(isS (lk s.hl 853)))) && (!(isS (lk s.hl 856)) && eqA s x t)) && ((leAV s (.c 0) a && leAV s a (.c 5)) && (leAV s (.c 0) o && leAV s o (.c 5))) with
      | false => exact ho
      | true =>
        simp only [Bool.and_eq_true] at hc
        obtain ⟨⟨⟨⟨c1, c2⟩, c3, c4⟩, c5, c6⟩, ⟨c7, c8⟩, c9, c10⟩ := hc
        obtain ⟨H, i1, i2⟩ := ho.inv
        obtain ⟨hB, ⟨g0, g1, g2, g3⟩, g4⟩ := (i2.2.2 _ hP.2.2.1 : cS9b kT kH kF jB kE H σ)
        have n0 := no_tag i1 c2
        have n1 := no_tag i1 c3
        have n3 := no_tag i1 c4
        have n6 := no_tag i1 c5
        obtain ⟨zt, t1, t2⟩ := tag_get ho i1 qt
        obtain ⟨zo, o1, o2⟩ := tag_get ho i1 qo
        obtain ⟨zb, b1, b2⟩ := tag_get ho i1 qb
        have f7 := leAV_ok ho c7 (x := 0) rfl hz
        have f8 := leAV_ok ho c8 hz (y := 5) rfl
        have f9 := leAV_ok ho c9 (x := 0) rfl o2
        have ha : ev ρ a = some ((z.toNat : Nat) : Int) := hz.trans (congrArg some (by omega))
        have f6 := eqA_ok ho c6 (oth_ok ho hx ha).2 t2
        have l : ∀ u, u ≠ 855 → u ≠ 861 → u ≠ 862 → lk ((855, z) :: (861, zo) :: (862, zb) :: H) u = lk H u := fun u h1 h2 h3 => by rw [lk_cons, if_neg h1, lk_cons, if_neg h2, lk_cons, if_neg h3]
        have l5 : lk ((855, z) :: (861, zo) :: (862, zb) :: H) 855 = some z := by rw [lk_cons, if_pos rfl]
        have la : lk ((855, z) :: (861, zo) :: (862, zb) :: H) 861 = some zo := by rw [lk_cons, if_neg (by decide), lk_cons, if_pos rfl]
        have lb : lk ((855, z) :: (861, zo) :: (862, zb) :: H) 862 = some zb := by rw [lk_cons, if_neg (by decide), lk_cons, if_neg (by decide), lk_cons, if_pos rfl]
        refine c_hint hP ho i2 (H' := (855, z) :: (861, zo) :: (862, zb) :: H) ⟨⟨rfl, hz⟩, ⟨rfl, o2⟩, ⟨rfl, b2⟩, i1⟩ (fun u hu => l u (by omega) (by omega) (by omega)) ⟨bS9_k (fun u hu => l u (by omega) (by omega) (by omega)) hB, ?_⟩
        unfold cC
        rw [l5, la, lb, l 850 (by decide) (by decide) (by decide), l 851 (by decide) (by decide) (by decide), l 852 (by decide) (by decide) (by decide), l 853 (by decide) (by decide) (by decide), l 847 (by decide) (by decide) (by decide), l 848 (by decide) (by decide) (by decide), l 849 (by decide) (by decide) (by decide), l 856 (by decide) (by decide) (by decide), l 857 (by decide) (by decide) (by decide), l 858 (by decide) (by decide) (by decide), l 859 (by decide) (by decide) (by decide), l 860 (by decide) (by decide) (by decide)]
        refine ⟨⟨g0, g1, g2, g3⟩, fun _ _ _ h => (by rw [n6] at h; cases h), g4.2.1, fun _ _ _ _ h => (by rw [n6] at h; cases h), fun q c d h1 h2 h3 Q O e1 e2 hO => ?_⟩
        have h1 := Option.some.inj h1
        have h2 := Option.some.inj h2
        have h3 := Option.some.inj h3
        have bit := (hB.2.1 zt zo zb t1 o1 b1).at (x := σ.1 kE z.toNat) (n := O) f6 (by omega) hO
        have eQ : z.toNat = Q := by omega
        rw [eQ] at bit
        have w := g0 n0 n1 n3 Q O (by omega) hO
        rw [← h3, bit]
        constructor
        · cases bitN (σ.1 kE Q) O
          · exact Or.inl rfl
          · exact Or.inr rfl
        · exact b2i_1.trans w
    · exact ho
  · exact ho
noncomputable def h196 (p : AV) (s : Sy) : Sy := match lk s.hl 855, lk s.hl 843, lk s.hl 844 with
  | some q, some t, some o => (match lk s.hl 845, lk s.hl 846 with
    | some w, some c => bif (((eqA s t (.c 0) && eqA s o q) && (eqA s w p && eqA s c (.c 1))) && (!(isS (lk s.hl 856)) && (!(isS (lk s.hl 857)) && !(isS (lk s.hl 860))))) && (leAV s (.c 0) q && leAV s q (.c 5)) then s.seth ((856, p) :: s.hl) else s
    | _, _ => s)
  | _, _, _ => s
theorem h196_ok (hP : PH T G cs (cC9 kT kH kF jB kE)) {p : AV} {z : Int} (hz : ev ρ p = some z) (ho : Ok (Jf T G (cS cs)) s ρ σ) : Ok (Jf T G (cS cs)) (h196 p s) ρ σ := by
  unfold h196
  split
  · rename_i q t o qq qt qo
    split
    · rename_i w c qw qc
      cases hc : (((eqA s t (.c 0) && eqA s o q) && (eqA s w p && eqA s c (.c 1))) && (!(isS (lk s.hl 856)) && (!(isS (lk s.hl 857)) && !(isS (lk s.hl 860))))) && (leAV s (.c 0) q && leAV s q (.c 5)) with
      | false => exact ho
      | true =>
        simp only [Bool.and_eq_true] at hc
        obtain ⟨⟨⟨⟨c1, c2⟩, c3, c4⟩, c5, c6, c7⟩, c8, c9⟩ := hc
        obtain ⟨H, i1, i2⟩ := ho.inv
        obtain ⟨hB, g0, g4, g5, g6, g7⟩ := (i2.2.2 _ hP.2.2.1 : cS9b kT kH kF jB kE H σ)
        have n7 := no_tag i1 c6
        have n0 := no_tag i1 c7
        obtain ⟨zq, q1, q2⟩ := tag_get ho i1 qq
        obtain ⟨zt, t1, t2⟩ := tag_get ho i1 qt
        obtain ⟨zo, o1, o2⟩ := tag_get ho i1 qo
        obtain ⟨zw, w1, w2⟩ := tag_get ho i1 qw
        obtain ⟨zc, k1, k2⟩ := tag_get ho i1 qc
        have f1 := eqA_ok ho c1 t2 (y := 0) rfl
        have f2 := eqA_ok ho c2 o2 q2
        have f3 := eqA_ok ho c3 w2 hz
        have f4 := eqA_ok ho c4 k2 (y := 1) rfl
        have f8 := leAV_ok ho c8 (x := 0) rfl q2
        have f9 := leAV_ok ho c9 q2 (y := 5) rfl
        obtain ⟨X, M, e1, e2, up⟩ := hB.2.2 zt zo zw zc t1 o1 w1 k1
        have eX : X = 0 := Int32.toInt_inj.mp (by rw [e1, f1]; rfl)
        have bit := up zq.toNat (by omega) (by omega)
        have z0 : ∀ m, m < 6 → bitN (0 : Int32) m = false := by decide +kernel
        have l : ∀ u, u ≠ 856 → lk ((856, z) :: H) u = lk H u := fun u h => by rw [lk_cons, if_neg h]
        have l6 : lk ((856, z) :: H) 856 = some z := by rw [lk_cons, if_pos rfl]
        refine c_hint hP ho i2 (H' := (856, z) :: H) ⟨⟨rfl, hz⟩, i1⟩ (fun u hu => l u (by omega)) ⟨bS9_k (fun u hu => l u (by omega)) hB, ?_⟩
        unfold cC
        rw [l6, l 850 (by decide), l 851 (by decide), l 852 (by decide), l 853 (by decide), l 847 (by decide), l 848 (by decide), l 849 (by decide), l 855 (by decide), l 857 (by decide), l 858 (by decide), l 859 (by decide), l 860 (by decide), l 861 (by decide), l 862 (by decide)]
        refine ⟨g0, fun a b h h' => ⟨zq.toNat, M, ?_, by omega, ?_, ?_, fun b hb q => ?_⟩, fun _ _ _ _ _ h => (by rw [n7] at h; cases h), fun _ _ _ _ _ h => (by rw [n0] at h; cases h), g7⟩
        · rw [q1] at h
          have := Option.some.inj h
          omega
        · rw [← Option.some.inj h', e2]; exact f3
        · have := bit zq.toNat (by omega)
          rw [if_pos rfl, f4] at this
          exact b2i_1.mp this
        · have := bit b hb
          by_cases e : b = zq.toNat
          · rw [e]; exact wp_le (k := 0) (by decide) (Or.inl rfl)
          · rw [if_neg e, eX, z0 b hb, q] at this
            cases this
    · exact ho
  · exact ho
noncomputable def h197 (b : AV) (s : Sy) : Sy := match lk s.hl 855, lk s.hl 856 with
  | some _, some m => bif eqA s b m then s.seth ((857, b) :: (858, .c 0) :: (859, .c 0) :: hdel 859 (hdel 858 (hdel 857 s.hl))) else s
  | _, _ => s
theorem h197_ok (hP : PH T G cs (cC9 kT kH kF jB kE)) {b : AV} {z : Int} (hz : ev ρ b = some z) (ho : Ok (Jf T G (cS cs)) s ρ σ) : Ok (Jf T G (cS cs)) (h197 b s) ρ σ := by
  unfold h197
  split
  · rename_i q m qq qm
    cases hc : eqA s b m with
    | false => exact ho
    | true =>
      obtain ⟨H, i1, i2⟩ := ho.inv
      obtain ⟨hB, g0, g4, g5, g6, g7⟩ := (i2.2.2 _ hP.2.2.1 : cS9b kT kH kF jB kE H σ)
      obtain ⟨zm, m1, m2⟩ := tag_get ho i1 qm
      have f := eqA_ok ho hc hz m2
      have l : ∀ u, ¬ (857 ≤ u ∧ u ≤ 859) → lk ((857, z) :: (858, 0) :: (859, 0) :: hdel 859 (hdel 858 (hdel 857 H))) u = lk H u := fun u h => by
        rw [lk_cons, if_neg (by omega), lk_cons, if_neg (by omega), lk_cons, if_neg (by omega), lk_hdel, if_neg (by omega), lk_hdel, if_neg (by omega), lk_hdel, if_neg (by omega)]
      have l7 : lk ((857, z) :: (858, 0) :: (859, 0) :: hdel 859 (hdel 858 (hdel 857 H))) 857 = some z := by rw [lk_cons, if_pos rfl]
      have l8 : lk ((857, z) :: (858, 0) :: (859, 0) :: hdel 859 (hdel 858 (hdel 857 H))) 858 = some 0 := by rw [lk_cons, if_neg (by decide), lk_cons, if_pos rfl]
      have l9 : lk ((857, z) :: (858, 0) :: (859, 0) :: hdel 859 (hdel 858 (hdel 857 H))) 859 = some 0 := by rw [lk_cons, if_neg (by decide), lk_cons, if_neg (by decide), lk_cons, if_pos rfl]
      refine c_hint hP ho i2 (H' := (857, z) :: (858, 0) :: (859, 0) :: hdel 859 (hdel 858 (hdel 857 H))) ⟨⟨rfl, hz⟩, ⟨rfl, rfl⟩, ⟨rfl, rfl⟩, ((i1.del).del).del⟩ (fun u hu => l u (by omega)) ⟨bS9_k (fun u hu => l u (by omega)) hB, ?_⟩
      unfold cC
      rw [l7, l8, l9, l 850 (by decide), l 851 (by decide), l 852 (by decide), l 853 (by decide), l 847 (by decide), l 848 (by decide), l 849 (by decide), l 855 (by decide), l 856 (by decide), l 860 (by decide), l 861 (by decide), l 862 (by decide)]
      refine ⟨g0, g4, fun a b c d h1 h2 h3 h4 M Z e1 e2 => ⟨fun b' hb q => ?_, fun a' b' _ _ h => ?_⟩, g6, g7⟩
      · rw [m1] at h1
        have h1 := Option.some.inj h1
        have h2 := Option.some.inj h2
        have : M = Z := Int32.toInt_inj.mp (by omega)
        rw [this]; exact q
      · have h3 := Option.some.inj h3
        have h4 := Option.some.inj h4
        omega
  · exact ho
noncomputable def h199 (p : AV) (s : Sy) : Sy := match lk s.hl 858, lk s.hl 859 with
  | some i, some j => bif eq6 s p i j then s.seth ((866, p) :: hdel 866 s.hl) else s
  | _, _ => s
theorem h199_ok (hP : PH T G cs (cC9 kT kH kF jB kE)) {p : AV} {z : Int} (hz : ev ρ p = some z) (ho : Ok (Jf T G (cS cs)) s ρ σ) : Ok (Jf T G (cS cs)) (h199 p s) ρ σ := by
  unfold h199
  split
  · rename_i i j _ _
    cases hc : eq6 s p i j with
    | false => exact ho
    | true =>
      obtain ⟨H, i1, i2⟩ := ho.inv
      obtain ⟨hB, hC⟩ := (i2.2.2 _ hP.2.2.1 : cS9b kT kH kF jB kE H σ)
      have l : ∀ u, u ≠ 866 → lk ((866, z) :: hdel 866 H) u = lk H u := fun u h => by rw [lk_cons, if_neg h, lk_hdel, if_neg h]
      refine c_hint hP ho i2 (H' := (866, z) :: hdel 866 H) ⟨⟨rfl, hz⟩, i1.del⟩ (fun u hu => l u (by omega)) ⟨bS9_k (fun u hu => l u (by omega)) hB, ?_⟩
      unfold cC at hC ⊢
      rw [l 850 (by decide), l 851 (by decide), l 852 (by decide), l 853 (by decide), l 847 (by decide), l 848 (by decide), l 849 (by decide), l 855 (by decide), l 856 (by decide), l 857 (by decide), l 858 (by decide), l 859 (by decide), l 860 (by decide), l 861 (by decide), l 862 (by decide)]
      exact hC
  · exact ho
noncomputable def h200 (s : Sy) : Sy := match lk s.hl 858, lk s.hl 859 with
  | some i, some j => bif leAV s (.c 6) j then s.seth (hup 858 (shA i 1) (hup 859 (.c 0) s.hl)) else s
  | _, _ => s
theorem h200_ok (hP : PH T G cs (cC9 kT kH kF jB kE)) (ho : Ok (Jf T G (cS cs)) s ρ σ) : Ok (Jf T G (cS cs)) (h200 s) ρ σ := by
  unfold h200
  split
  · rename_i i j qi qj
    cases hc : leAV s (.c 6) j with
    | false => exact ho
    | true =>
      obtain ⟨H, i1, i2⟩ := ho.inv
      obtain ⟨hB, g0, g4, g5, g6, g7⟩ := (i2.2.2 _ hP.2.2.1 : cS9b kT kH kF jB kE H σ)
      obtain ⟨zi, e1, e2⟩ := tag_get ho i1 qi
      obtain ⟨zj, j1, j2⟩ := tag_get ho i1 qj
      have f := leAV_ok ho hc (x := 6) rfl j2
      have l : ∀ u, u ≠ 858 → u ≠ 859 → lk (hup 858 (zi + 1) (hup 859 0 H)) u = lk H u := fun u h1 h2 => by rw [lk_hup_ne h1, lk_hup_ne h2]
      have l8 : lk (hup 858 (zi + 1) (hup 859 0 H)) 858 = some (zi + 1) := lk_hup_at (b := zi) (by rw [lk_hup_ne (by decide)]; exact e1)
      have l9 : lk (hup 858 (zi + 1) (hup 859 0 H)) 859 = some 0 := by rw [lk_hup_ne (by decide)]; exact lk_hup_at j1
      refine c_hint hP ho i2 (Hl.up (shA_ev e2) (Hl.up (a := .c 0) (x := 0) rfl i1)) (fun u hu => l u (by omega) (by omega)) ⟨bS9_k (fun u hu => l u (by omega) (by omega)) hB, ?_⟩
      unfold cC
      rw [l8, l9, l 850 (by decide) (by decide), l 851 (by decide) (by decide), l 852 (by decide) (by decide), l 853 (by decide) (by decide), l 847 (by decide) (by decide), l 848 (by decide) (by decide), l 849 (by decide) (by decide), l 855 (by decide) (by decide), l 856 (by decide) (by decide), l 857 (by decide) (by decide), l 860 (by decide) (by decide), l 861 (by decide) (by decide), l 862 (by decide) (by decide)]
      refine ⟨g0, g4, fun a b c d h1 h2 h3 h4 M Z m1 m2 => ?_, g6, g7⟩
      obtain ⟨p1, p2⟩ := g5 a b zi zj h1 h2 e1 j1 M Z m1 m2
      refine ⟨p1, fun a' b' ha hb h => p2 a' b' ha hb ?_⟩
      have h3 := Option.some.inj h3
      have h4 := Option.some.inj h4
      omega
  · exact ho
noncomputable def h204 (s : Sy) : Sy := s.seth (hdel 862 (hdel 861 (hdel 860 (hdel 859 (hdel 858 (hdel 857 (hdel 856 (hdel 855 s.hl))))))))
theorem h204_ok (hP : PH T G cs (cC9 kT kH kF jB kE)) (ho : Ok (Jf T G (cS cs)) s ρ σ) : Ok (Jf T G (cS cs)) (h204 s) ρ σ := by
  obtain ⟨H, i1, i2⟩ := ho.inv
  obtain ⟨hB, g0, g4, g5, g6, g7⟩ := (i2.2.2 _ hP.2.2.1 : cS9b kT kH kF jB kE H σ)
  have l : ∀ u, ¬ (855 ≤ u ∧ u ≤ 862) → lk (hdel 862 (hdel 861 (hdel 860 (hdel 859 (hdel 858 (hdel 857 (hdel 856 (hdel 855 H)))))))) u = lk H u := fun u h => by
    rw [lk_hdel, if_neg (by omega), lk_hdel, if_neg (by omega), lk_hdel, if_neg (by omega), lk_hdel, if_neg (by omega), lk_hdel, if_neg (by omega), lk_hdel, if_neg (by omega), lk_hdel, if_neg (by omega), lk_hdel, if_neg (by omega)]
  have n5 : lk (hdel 862 (hdel 861 (hdel 860 (hdel 859 (hdel 858 (hdel 857 (hdel 856 (hdel 855 H)))))))) 855 = none := by
    rw [lk_hdel, if_neg (by decide), lk_hdel, if_neg (by decide), lk_hdel, if_neg (by decide), lk_hdel, if_neg (by decide), lk_hdel, if_neg (by decide), lk_hdel, if_neg (by decide), lk_hdel, if_neg (by decide), lk_hdel, if_pos rfl]
  have n6 : lk (hdel 862 (hdel 861 (hdel 860 (hdel 859 (hdel 858 (hdel 857 (hdel 856 (hdel 855 H)))))))) 856 = none := by
    rw [lk_hdel, if_neg (by decide), lk_hdel, if_neg (by decide), lk_hdel, if_neg (by decide), lk_hdel, if_neg (by decide), lk_hdel, if_neg (by decide), lk_hdel, if_neg (by decide), lk_hdel, if_pos rfl]
  refine c_hint hP ho i2 ((((((((i1.del).del).del).del).del).del).del).del) (fun u hu => l u (by omega)) ⟨bS9_k (fun u hu => l u (by omega)) hB, ?_⟩
  unfold cC
  rw [n5, n6, l 850 (by decide), l 851 (by decide), l 852 (by decide), l 853 (by decide), l 847 (by decide), l 848 (by decide), l 849 (by decide)]
  exact ⟨g0, fun _ _ h => (by cases h), fun _ _ _ _ h => (by cases h), fun _ _ _ h => (by cases h), fun _ _ _ h => (by cases h)⟩
end H40
end
end
section
noncomputable section
/-! ===== WHAT ELSE HOLDS, 41: hints 198, 202, 203 ===== -/
section H41
variable {T : Jx} {G : Gl} {cs : List Cp} {s : Sy} {ρ : List Int} {σ : zS} {kT kH kF jB kE : Nat}
noncomputable def bit9 (s : Sy) (m i : AV) : Option AV := match lk s.hl 840, lk s.hl 841, lk s.hl 842 with
  | some t, some o, some b => bif eqA s t m && eqA s o i then some b else none
  | _, _, _ => none
theorem bit9_ok {J : Jt} (ho : Ok J s ρ σ) {H : List (Nat × Int)} (i1 : Hl ρ s.hl H) (hB : bS2 H) {m i b : AV} {M : Int32} {I : Nat} (hm : ev ρ m = some M.toInt) (hi : ev ρ i = some (I : Int)) (hI : I < 6) (h : bit9 s m i = some b) : ev ρ b = some (b2i (bitN M I)) := by
  unfold bit9 at h
  split at h
  · rename_i t o b' qt qo qb
    cases hc : eqA s t m && eqA s o i with
    | false => rw [hc] at h; cases h
    | true =>
      rw [hc] at h
      cases Option.some.inj h
      rw [Bool.and_eq_true] at hc
      obtain ⟨zt, t1, t2⟩ := tag_get ho i1 qt
      obtain ⟨zo, o1, o2⟩ := tag_get ho i1 qo
      obtain ⟨zb, b1, b2⟩ := tag_get ho i1 qb
      have f1 := eqA_ok ho hc.1 t2 hm
      have f2 := eqA_ok ho hc.2 o2 hi
      rw [b2, (hB.1 zt zo zb t1 o1 b1).at (x := M) (n := I) f1.symm f2 hI]
  · cases h
noncomputable def hld9 (kH : Nat) (s : Sy) (i j : AV) : Option AV := match lk s.hl 866 with
  | some p => bif eq6 s p i j then oth s kH p else none
  | none => none
theorem hld9_ok {J : Jt} (ho : Ok J s ρ σ) {H : List (Nat × Int)} (i1 : Hl ρ s.hl H) {i j r : AV} {I K : Nat} (hi : ev ρ i = some (I : Int)) (hj : ev ρ j = some (K : Int)) (h : hld9 kH s i j = some r) : ev ρ r = some (σ.1 kH (6 * I + K)).toInt := by
  unfold hld9 at h
  split at h
  · rename_i p qp
    cases hc : eq6 s p i j with
    | false => rw [hc] at h; cases h
    | true =>
      rw [hc] at h
      obtain ⟨zp, p1, p2⟩ := tag_get ho i1 qp
      have e := eq6_ok ho p2 hi hj hc
      exact (oth_ok ho h (p2.trans (congrArg some (show zp = ((6 * I + K : Nat) : Int) by omega)))).2
  · cases h
noncomputable def c198A (kH kF jB : Nat) (m i j p : AV) (s : Sy) : Bool := match lk s.hl 843, lk s.hl 844, lk s.hl 845 with
  | some t, some o, some w => (match lk s.hl 846, bit9 s m i, hld9 kH s i j with
    | some c, some b, some r => (match mget s.me kF (.c (jB : Int)) with
      | some g => ((eqA s t m && eqA s o j) && (eqA s w p && eqA s c (.c 1))) && ((eqA s b (.c 1) && leAV s (.c 1) r) && ((g.isI && eqA s g (.c 1)) && (!(isS (lk s.hl 820)) && !(isS (lk s.hl 821)))))
      | none => false)
    | _, _, _ => false)
  | _, _, _ => false
noncomputable def c198B (kH : Nat) (m i j p : AV) (s : Sy) : Bool := match lk s.hl 847, lk s.hl 848, lk s.hl 849 with
  | some a, some c, some w => ((eqA s a m && eqA s c (.c 0)) && eqA s w p) && ((match bit9 s m i with
    | some b => eqA s b (.c 0)
    | none => false) || (match hld9 kH s i j with
    | some r => leAV s r (.c 0)
    | none => false))
  | _, _, _ => false
/-- the edges, as the reference holds them -/
theorem edge_ok {H : List (Nat × Int)} (h1 : bS1 kT kH kF jB H σ) (n0 : lk H 820 = none) (n1 : lk H 821 = none) (g : (σ.1 kF jB).toInt = 1) {a b : Nat} (ha : a < 6) (hb : b < 6) (hab : a ≠ b) : b2i (bitN (σ.1 kT a) b) = (σ.1 kH (6 * a + b)).toInt := by
  have := h1.1 a b ha hb hab (by rintro ⟨q, _⟩; rw [n1] at q; cases q)
  unfold efB at this
  rw [if_pos ⟨g, n0⟩] at this
  exact this
/-- what the step makes of the mask -/
theorem c198_ok {J : Jt} (ho : Ok J s ρ σ) {H : List (Nat × Int)} (i1 : Hl ρ s.hl H) (hB : bS9 kT kH kF jB H σ) (h3 : C3 (lk H 847) (lk H 848) (lk H 849)) {m i j p : AV} {M : Int32} {I K : Nat} {z : Int} (hm : ev ρ m = some M.toInt) (hi : ev ρ i = some (I : Int)) (hj : ev ρ j = some (K : Int)) (hI : I < 6) (hK : K < 6) (hp : ev ρ p = some z) (h : (c198A kH kF jB m i j p s || c198B kH m i j p s) = true) :
    ∃ M' : Int32, M'.toInt = z ∧ (∀ b, b < 6 → bitN M b = true → bitN M' b = true) ∧ (∀ b, b < 6 → bitN M' b = true → bitN M b = true ∨ (b = K ∧ bitN M I = true ∧ (I = K ∨ Eb kT σ I K))) ∧ (bitN M I = true → 1 ≤ (σ.1 kH (6 * I + K)).toInt → bitN M' K = true) := by
  rw [Bool.or_eq_true] at h
  rcases h with h | h
  · unfold c198A at h
    split at h
    · rename_i t o w qt qo qw
      split at h
      · rename_i c b r qc hb hr
        split at h
        · rename_i g hg
          simp only [Bool.and_eq_true] at h
          obtain ⟨⟨⟨a1, a2⟩, a3, a4⟩, ⟨a5, a6⟩, ⟨a7, a8⟩, a9, a10⟩ := h
          obtain ⟨zt, t1, t2⟩ := tag_get ho i1 qt
          obtain ⟨zo, o1, o2⟩ := tag_get ho i1 qo
          obtain ⟨zw, w1, w2⟩ := tag_get ho i1 qw
          obtain ⟨zc, k1, k2⟩ := tag_get ho i1 qc
          have n0 := no_tag i1 a9
          have n1 := no_tag i1 a10
          have f1 := eqA_ok ho a1 t2 hm
          have f2 := eqA_ok ho a2 o2 hj
          have f3 := eqA_ok ho a3 w2 hp
          have f4 := eqA_ok ho a4 k2 (y := 1) rfl
          have f5 := eqA_ok ho a5 (bit9_ok ho i1 hB.2 hm hi hI hb) (y := 1) rfl
          have f6 := leAV_ok ho a6 (x := 1) rfl (hld9_ok ho i1 hi hj hr)
          have f8 := eqA_ok ho a8 (me_at ho hg rfl a7) (y := 1) rfl
          have bI := b2i_1.mp f5
          obtain ⟨X, Y, e1, e2, up⟩ := hB.2.2 zt zo zw zc t1 o1 w1 k1
          have eX : X = M := Int32.toInt_inj.mp (e1.trans f1)
          have up := up K f2 hK
          rw [eX, f4] at up
          have yK : bitN Y K = true := by
            have := up K hK
            rw [if_pos rfl] at this
            exact b2i_1.mp this
          refine ⟨Y, e2.trans f3, fun b hb q => ?_, fun b hb q => ?_, fun _ _ => yK⟩
          · by_cases e : b = K
            · rw [e]; exact yK
            · have := up b hb
              rw [if_neg e, q] at this
              exact b2i_1.mp this
          · by_cases e : b = K
            · refine Or.inr ⟨e, bI, ?_⟩
              by_cases e2 : I = K
              · exact Or.inl e2
              · have ed := edge_ok hB.1 n0 n1 f8 hI hK e2
                refine Or.inr ⟨hI, hK, ?_⟩
                cases hbit : bitN (σ.1 kT I) K with
                | true => rfl
                | false =>
                  rw [hbit] at ed
                  have : (0 : Int) = (σ.1 kH (6 * I + K)).toInt := ed
                  omega
            · have := up b hb
              rw [if_neg e, q] at this
              exact Or.inl (b2i_1.mp this.symm)
        · cases h
      · cases h
    · cases h
  · unfold c198B at h
    split at h
    · rename_i a c w qa qc qw
      rw [Bool.and_eq_true, Bool.and_eq_true, Bool.and_eq_true, Bool.or_eq_true] at h
      obtain ⟨⟨⟨a1, a2⟩, a3⟩, h⟩ := h
      obtain ⟨za, b1, b2⟩ := tag_get ho i1 qa
      obtain ⟨zc, c1, c2⟩ := tag_get ho i1 qc
      obtain ⟨zw, w1, w2⟩ := tag_get ho i1 qw
      have f1 := eqA_ok ho a1 b2 hm
      have f2 := eqA_ok ho a2 c2 (y := 0) rfl
      have f3 := eqA_ok ho a3 w2 hp
      obtain ⟨X, Y, e1, e2, e3⟩ := h3 za zc zw b1 c1 w1
      have eX : X = M := Int32.toInt_inj.mp (e1.trans f1)
      have eY : Y = 0 := Int32.toInt_inj.mp (by rw [e2, f2]; rfl)
      have z0 : ∀ m, m < 6 → bitN (0 : Int32) m = false := by decide +kernel
      have same : ∀ b, b < 6 → bitN (X ||| Y) b = bitN M b := fun b hb => by rw [bit_or, eX, eY, z0 b hb, Bool.or_false]
      refine ⟨X ||| Y, e3.trans f3, fun b hb q => by rw [same b hb]; exact q, fun b hb q => by rw [same b hb] at q; exact Or.inl q, fun q1 q2 => ?_⟩
      rcases h with h | h
      · split at h
        · rename_i b hb
          have f := eqA_ok ho h (bit9_ok ho i1 hB.2 hm hi hI hb) (y := 0) rfl
          rw [q1] at f
          cases f
        · cases h
      · split at h
        · rename_i r hr
          have f := leAV_ok ho h (hld9_ok ho i1 hi hj hr) (y := 0) rfl
          omega
        · cases h
    · cases h
noncomputable def h198 (kH kF jB : Nat) (p : AV) (s : Sy) : Sy := match lk s.hl 855, lk s.hl 856, lk s.hl 857 with
  | some _, some m, some _ => (match lk s.hl 858, lk s.hl 859 with
    | some i, some j => bif (((leAV s (.c 0) i && leAV s i (.c 5)) && (leAV s (.c 0) j && leAV s j (.c 5))) && !(isS (lk s.hl 860))) && (c198A kH kF jB m i j p s || c198B kH m i j p s) then s.seth (hup 856 p (hup 859 (shA j 1) (hdel 847 (hdel 848 (hdel 849 (hdel 866 s.hl)))))) else s
    | _, _ => s)
  | _, _, _ => s
theorem h198_ok (hP : PH T G cs (cC9 kT kH kF jB kE)) {p : AV} {z : Int} (hz : ev ρ p = some z) (ho : Ok (Jf T G (cS cs)) s ρ σ) : Ok (Jf T G (cS cs)) (h198 kH kF jB p s) ρ σ := by
  unfold h198
  split
  · rename_i q m y qq qm qy
    split
    · rename_i i j qi qj
      cases hc : (((leAV s (.c 0) i && leAV s i (.c 5)) && (leAV s (.c 0) j && leAV s j (.c 5))) && !(isS (lk s.hl 860))) && (c198A kH kF jB m i j p s || c198B kH m i j p s) with
      | false => exact ho
      | true =>
        rw [Bool.and_eq_true, Bool.and_eq_true, Bool.and_eq_true, Bool.and_eq_true, Bool.and_eq_true] at hc
        obtain ⟨⟨⟨⟨c1, c2⟩, c3, c4⟩, c5⟩, c6⟩ := hc
        obtain ⟨H, i1, i2⟩ := ho.inv
        obtain ⟨hB, ⟨g0, g1, g2, g3⟩, g4, g5, g6, g7⟩ := (i2.2.2 _ hP.2.2.1 : cS9b kT kH kF jB kE H σ)
        have n0 := no_tag i1 c5
        obtain ⟨zq, q1, q2⟩ := tag_get ho i1 qq
        obtain ⟨zm, m1, m2⟩ := tag_get ho i1 qm
        obtain ⟨zi, e1, e2⟩ := tag_get ho i1 qi
        obtain ⟨zj, j1, j2⟩ := tag_get ho i1 qj
        have f1 := leAV_ok ho c1 (x := 0) rfl e2
        have f2 := leAV_ok ho c2 e2 (y := 5) rfl
        have f3 := leAV_ok ho c3 (x := 0) rfl j2
        have f4 := leAV_ok ho c4 j2 (y := 5) rfl
        obtain ⟨Q, M, r1, r2, r3, r4, r5⟩ := g4 zq zm q1 m1
        have hm : ev ρ m = some M.toInt := m2.trans (congrArg some r3.symm)
        have hi : ev ρ i = some ((zi.toNat : Nat) : Int) := e2.trans (congrArg some (by omega))
        have hj : ev ρ j = some ((zj.toNat : Nat) : Int) := j2.trans (congrArg some (by omega))
        obtain ⟨M', k1, k2, k3, k4⟩ := c198_ok ho i1 hB g3 hm hi hj (by omega) (by omega) hz c6
        have l : ∀ u, u ≠ 856 → u ≠ 859 → ¬ (847 ≤ u ∧ u ≤ 849) → u ≠ 866 → lk (hup 856 z (hup 859 (zj + 1) (hdel 847 (hdel 848 (hdel 849 (hdel 866 H)))))) u = lk H u := fun u h1 h2 h3 h4 => by
          rw [lk_hup_ne h1, lk_hup_ne h2, lk_hdel, if_neg (by omega), lk_hdel, if_neg (by omega), lk_hdel, if_neg (by omega), lk_hdel, if_neg h4]
        have l6 : lk (hup 856 z (hup 859 (zj + 1) (hdel 847 (hdel 848 (hdel 849 (hdel 866 H)))))) 856 = some z := lk_hup_at (b := zm) (by rw [lk_hup_ne (by decide), lk_hdel, if_neg (by decide), lk_hdel, if_neg (by decide), lk_hdel, if_neg (by decide), lk_hdel, if_neg (by decide)]; exact m1)
        have l9 : lk (hup 856 z (hup 859 (zj + 1) (hdel 847 (hdel 848 (hdel 849 (hdel 866 H)))))) 859 = some (zj + 1) := by
          rw [lk_hup_ne (by decide)]
          exact lk_hup_at (b := zj) (by rw [lk_hdel, if_neg (by decide), lk_hdel, if_neg (by decide), lk_hdel, if_neg (by decide), lk_hdel, if_neg (by decide)]; exact j1)
        have l7 : lk (hup 856 z (hup 859 (zj + 1) (hdel 847 (hdel 848 (hdel 849 (hdel 866 H)))))) 847 = none := by rw [lk_hup_ne (by decide), lk_hup_ne (by decide), lk_hdel, if_pos rfl]
        refine c_hint hP ho i2 (Hl.up hz (Hl.up (shA_ev j2) ((((i1.del).del).del).del))) (fun u hu => l u (by omega) (by omega) (by omega) (by omega)) ⟨bS9_k (fun u hu => l u (by omega) (by omega) (by omega) (by omega)) hB, ?_⟩
        unfold cC
        rw [l6, l9, l7, l 850 (by decide) (by decide) (by decide) (by decide), l 851 (by decide) (by decide) (by decide) (by decide), l 852 (by decide) (by decide) (by decide) (by decide), l 853 (by decide) (by decide) (by decide) (by decide), l 855 (by decide) (by decide) (by decide) (by decide), l 857 (by decide) (by decide) (by decide) (by decide), l 858 (by decide) (by decide) (by decide) (by decide), l 860 (by decide) (by decide) (by decide) (by decide), l 861 (by decide) (by decide) (by decide) (by decide), l 862 (by decide) (by decide) (by decide) (by decide)]
        refine ⟨⟨g0, g1, g2, fun _ _ _ h => (by cases h)⟩, fun a b h h' => ⟨Q, M', ?_, r2, ?_, k2 Q r2 r4, fun b hb q => ?_⟩, fun a b c d h1 h2 h3 h4 N Z x1 x2 => ?_, fun _ _ _ _ _ h => (by rw [n0] at h; cases h), g7⟩
        · rw [q1] at h
          rw [← Option.some.inj h]; exact r1
        · rw [← Option.some.inj h']; exact k1
        · rcases k3 b hb q with q | ⟨e, q, ed⟩
          · exact r5 b hb q
          · have w := r5 zi.toNat (by omega) q
            rw [e]
            rcases ed with ed | ed
            · rw [← ed]; exact w
            · exact wp_tr (by omega) w (wp_le (k := 0) (by decide) (Or.inr ed))
        · have h1 := Option.some.inj h1
          have h4 := Option.some.inj h4
          rw [e1] at h3
          have h3 := Option.some.inj h3
          have eN : N = M' := Int32.toInt_inj.mp (by rw [x1, k1, h1])
          obtain ⟨p1, p2⟩ := g5 zm b zi zj m1 h2 e1 j1 M Z r3 x2
          rw [eN]
          refine ⟨fun b' hb q => k2 b' hb (p1 b' hb q), fun a' b' ha hb h q1 q2 => ?_⟩
          by_cases e : a' = zi.toNat ∧ b' = zj.toNat
          · obtain ⟨e3, e4⟩ := e
            rw [e4]
            rw [e3] at q1 q2
            rw [e4] at q2
            exact k4 (p1 _ (by omega) q1) q2
          · exact k2 b' hb (p2 a' b' ha hb (by omega) q1 q2)
    · exact ho
  · exact ho
noncomputable def h202 (kF jB : Nat) (s : Sy) : Sy := match lk s.hl 855, lk s.hl 856, lk s.hl 857 with
  | some _, some m, some y => (match lk s.hl 858, lk s.hl 859, mget s.me kF (.c (jB : Int)) with
    | some i, some _, some g => bif ((eqA s m y && leAV s (.c 6) i) && (g.isI && eqA s g (.c 1))) && ((!(isS (lk s.hl 820)) && !(isS (lk s.hl 821))) && !(isS (lk s.hl 860))) then s.seth ((860, .c 0) :: hdel 859 (hdel 858 (hdel 857 s.hl))) else s
    | _, _, _ => s)
  | _, _, _ => s
theorem h202_ok (hP : PH T G cs (cC9 kT kH kF jB kE)) (ho : Ok (Jf T G (cS cs)) s ρ σ) : Ok (Jf T G (cS cs)) (h202 kF jB s) ρ σ := by
  unfold h202
  split
  · rename_i q m y qq qm qy
    split
    · rename_i i j g qi qj hg
      cases hc : ((eqA s m y && leAV s (.c 6) i) && (g.isI && eqA s g (.c 1))) && ((!(isS (lk s.hl 820)) && !(isS (lk s.hl 821))) && !(isS (lk s.hl 860))) with
      | false => exact ho
      | true =>
        simp only [Bool.and_eq_true] at hc
        obtain ⟨⟨⟨c1, c2⟩, c3, c4⟩, ⟨c5, c6⟩, c7⟩ := hc
        obtain ⟨H, i1, i2⟩ := ho.inv
        obtain ⟨hB, ⟨g0, g1, g2, g3⟩, g4, g5, g6, g7⟩ := (i2.2.2 _ hP.2.2.1 : cS9b kT kH kF jB kE H σ)
        have n0 := no_tag i1 c5
        have n1 := no_tag i1 c6
        obtain ⟨zq, q1, q2⟩ := tag_get ho i1 qq
        obtain ⟨zm, m1, m2⟩ := tag_get ho i1 qm
        obtain ⟨zy, y1, y2⟩ := tag_get ho i1 qy
        obtain ⟨zi, e1, e2⟩ := tag_get ho i1 qi
        obtain ⟨zj, j1, j2⟩ := tag_get ho i1 qj
        have f1 := eqA_ok ho c1 m2 y2
        have f2 := leAV_ok ho c2 (x := 6) rfl e2
        have f4 := eqA_ok ho c4 (me_at ho hg rfl c3) (y := 1) rfl
        have l : ∀ u, ¬ (857 ≤ u ∧ u ≤ 860) → lk ((860, (0 : Int)) :: hdel 859 (hdel 858 (hdel 857 H))) u = lk H u := fun u h => by
          rw [lk_cons, if_neg (by omega), lk_hdel, if_neg (by omega), lk_hdel, if_neg (by omega), lk_hdel, if_neg (by omega)]
        have l7 : lk ((860, (0 : Int)) :: hdel 859 (hdel 858 (hdel 857 H))) 857 = none := by rw [lk_cons, if_neg (by decide), lk_hdel, if_neg (by decide), lk_hdel, if_neg (by decide), lk_hdel, if_pos rfl]
        refine c_hint hP ho i2 (H' := (860, 0) :: hdel 859 (hdel 858 (hdel 857 H))) ⟨⟨rfl, rfl⟩, ((i1.del).del).del⟩ (fun u hu => l u (by omega)) ⟨bS9_k (fun u hu => l u (by omega)) hB, ?_⟩
        unfold cC
        rw [l7, l 850 (by decide), l 851 (by decide), l 852 (by decide), l 853 (by decide), l 847 (by decide), l 848 (by decide), l 849 (by decide), l 855 (by decide), l 856 (by decide), l 861 (by decide), l 862 (by decide)]
        refine ⟨⟨g0, g1, g2, g3⟩, g4, fun _ _ _ _ _ h => (by cases h), fun a b c h1 h2 _ Q eQ M eM b' hb => ?_, g7⟩
        rw [q1] at h1
        rw [m1] at h2
        have h1 := Option.some.inj h1
        have h2 := Option.some.inj h2
        obtain ⟨Q', M', r1, r2, r3, r4, r5⟩ := g4 zq zm q1 m1
        have e3 : Q' = Q := by omega
        have e4 : M' = M := Int32.toInt_inj.mp (by rw [r3, eM, h2])
        subst e3
        subst e4
        obtain ⟨_, p2⟩ := g5 zm zy zi zj m1 y1 e1 j1 M' M' r3 (by omega)
        refine ⟨r5 b' hb, fun w => ?_⟩
        have := wp_in (S := fun a => a < 6 ∧ bitN M' a = true) (E := Eb kT σ) (fun a b hs he => ⟨he.2.1, by
          by_cases e : a = b
          · rw [← e]; exact hs.2
          · have ed := edge_ok hB.1 n0 n1 f4 he.1 he.2.1 e
            rw [he.2.2] at ed
            have ed : (1 : Int) = (σ.1 kH (6 * a + b)).toInt := ed
            exact p2 a b he.1 he.2.1 (by omega) hs.2 (by omega)⟩) ⟨r2, r4⟩ w
        exact this.2
    · exact ho
  · exact ho
noncomputable def h203 (s : Sy) : Sy := match lk s.hl 855, lk s.hl 856, lk s.hl 860 with
  | some _, some m, some _ => (match lk s.hl 861, lk s.hl 862 with
    | some o, some d => (match bit9 s m o with
      | some b => bif leAV s (.c 0) o && leAV s o (.c 5) then adS (adS s [(b, 1), (d, -1)] 0) [(d, 1), (b, -1)] 0 else s
      | none => s)
    | _, _ => s)
  | _, _, _ => s
theorem h203_ok (hm : cC9 kT kH kF jB kE ∈ cs) (ho : Ok (Jf T G (cS cs)) s ρ σ) : Ok (Jf T G (cS cs)) (h203 s) ρ σ := by
  unfold h203
  split
  · rename_i q m y qq qm qy
    split
    · rename_i o d qo qd
      split
      · rename_i b hb
        cases hc : leAV s (.c 0) o && leAV s o (.c 5) with
        | false => exact ho
        | true =>
          rw [Bool.and_eq_true] at hc
          obtain ⟨H, i1, i2⟩ := ho.inv
          obtain ⟨hB, ⟨g0, g1, g2, g3⟩, g4, g5, g6, g7⟩ := (i2.2.2 _ hm : cS9b kT kH kF jB kE H σ)
          obtain ⟨zq, q1, q2⟩ := tag_get ho i1 qq
          obtain ⟨zm, m1, m2⟩ := tag_get ho i1 qm
          obtain ⟨zy, y1, y2⟩ := tag_get ho i1 qy
          obtain ⟨zo, o1, o2⟩ := tag_get ho i1 qo
          obtain ⟨zd, d1, d2⟩ := tag_get ho i1 qd
          have f1 := leAV_ok ho hc.1 (x := 0) rfl o2
          have f2 := leAV_ok ho hc.2 o2 (y := 5) rfl
          obtain ⟨Q, M, r1, r2, r3, r4, r5⟩ := g4 zq zm q1 m1
          have hM : ev ρ m = some M.toInt := m2.trans (congrArg some r3.symm)
          have hO : ev ρ o = some ((zo.toNat : Nat) : Int) := o2.trans (congrArg some (by omega))
          have eb := bit9_ok ho i1 hB.2 hM hO (by omega) hb
          have w1 := g6 zq zm zy q1 m1 y1 Q r1 M r3 zo.toNat (by omega)
          obtain ⟨w2, w3⟩ := g7 zq zo zd q1 o1 d1 Q zo.toNat r1 (by omega) (by omega)
          have e : b2i (bitN M zo.toNat) = zd := by
            cases hbit : bitN M zo.toNat with
            | true => exact (w3.mpr (w1.mp hbit)).symm
            | false =>
              rcases w2 with w2 | w2
              · exact w2.symm
              · have := w1.mpr (w3.mp w2)
                rw [hbit] at this
                cases this
          rw [e] at eb
          have o1 := adS_ok ho (evs2 (v := 1) (w := -1) eb d2) (c := 0) (by rw [smv2 eb d2]; omega)
          exact adS_ok o1 (evs2 (v := 1) (w := -1) d2 eb) (c := 0) (by rw [smv2 d2 eb]; omega)
      · exact ho
    · exact ho
  · exact ho
end H41
end
end
section
noncomputable section
/-! ===== RULES, 42: hints and writes as data ===== -/
/-- where a number comes from: 0 t: a tag; 1 i: a local; 3 n: the n-th of the stack; 4 .. c: a constant; 5 k j: a field; 6 k i: the row k at the i-th number; 7: the place that is written; 8: what is written; 9 k i m c: the row k at m times the i-th number and c; 10 i c: the i-th number and c -/
noncomputable abbrev Ti : Type := Nat × (Nat × (Nat × (Int × Int)))
/-- inputs; tags that are not there; conditions (a sum is at most c); what is done: a contradiction; facts; rows that are known; tags; a new number -/
noncomputable abbrev Ru : Type := List Ti × (List Nat × (List (List (Nat × Int) × Int) × (Bool × (List (List (Nat × Int) × Int) × (List (Nat × (Nat × Nat)) × (List (Nat × Option (Nat × Int)) × Option (Nat × (Int × Int))))))))
noncomputable abbrev Ru.inp (r : Ru) : List Ti := r.1
noncomputable abbrev Ru.abs (r : Ru) : List Nat := r.2.1
noncomputable abbrev Ru.cnd (r : Ru) : List (List (Nat × Int) × Int) := r.2.2.1
noncomputable abbrev Ru.bad (r : Ru) : Bool := r.2.2.2.1
noncomputable abbrev Ru.fac (r : Ru) : List (List (Nat × Int) × Int) := r.2.2.2.2.1
noncomputable abbrev Ru.mem (r : Ru) : List (Nat × (Nat × Nat)) := r.2.2.2.2.2.1
noncomputable abbrev Ru.upd (r : Ru) : List (Nat × Option (Nat × Int)) := r.2.2.2.2.2.2.1
noncomputable abbrev Ru.frs (r : Ru) : Option (Nat × (Int × Int)) := r.2.2.2.2.2.2.2
/-- tags in order -/
noncomputable def hins {α : Type} (t : Nat) (a : α) : List (Nat × α) → List (Nat × α)
  | [] => [(t, a)]
  | e :: r => bif Nat.beq e.1 t then (t, a) :: r else bif Nat.blt t e.1 then (t, a) :: e :: r else e :: hins t a r
theorem lk_hins {α : Type} {t u : Nat} {a : α} : ∀ {l : List (Nat × α)}, lk (hins t a l) u = if u = t then some a else lk l u
  | [] => by
    show lk [(t, a)] u = _
    rw [lk_cons]
  | e :: r => by
    have ih := lk_hins (t := t) (u := u) (a := a) (l := r)
    unfold hins
    cases h1 : Nat.beq e.1 t with
    | true =>
      simp only [cond_true]
      have he := Nat.eq_of_beq_eq_true h1
      rw [lk_cons]
      by_cases hu : u = t
      · rw [if_pos hu, if_pos hu]
      · rw [if_neg hu, if_neg hu]
        obtain ⟨e1, e2⟩ := e
        dsimp only at he
        rw [lk_cons, if_neg (by rw [he]; exact hu)]
    | false =>
      simp only [cond_false]
      cases h2 : Nat.blt t e.1 with
      | true => simp only [cond_true]; rw [lk_cons]
      | false =>
        simp only [cond_false]
        obtain ⟨e1, e2⟩ := e
        dsimp only at h1
        rw [lk_cons, lk_cons, ih]
        by_cases hu : u = e1
        · have : u ≠ t := fun q => by
            have : e1 = t := hu.symm.trans q
            rw [this, Nat.beq_refl] at h1
            cases h1
          rw [if_pos hu, if_neg this, if_pos hu]
        · rw [if_neg hu, if_neg hu]
theorem Hl.ins {ρ : List Int} {t : Nat} {a : AV} {x : Int} (hx : ev ρ a = some x) : ∀ {l : List (Nat × AV)} {H : List (Nat × Int)}, Hl ρ l H → Hl ρ (hins t a l) (hins t x H)
  | [], [], _ => ⟨⟨rfl, hx⟩, trivial⟩
  | e :: r, h :: q, ⟨h1, h2⟩ => by
    unfold hins
    rw [← h1.1]
    cases Nat.beq e.1 t with
    | true => exact ⟨⟨rfl, hx⟩, h2⟩
    | false =>
      simp only [cond_false]
      cases Nat.blt t e.1 with
      | true => exact ⟨⟨rfl, hx⟩, h1, h2⟩
      | false => exact ⟨h1, Hl.ins hx h2⟩
  | [], _ :: _, q => q.elim
  | _ :: _, [], q => q.elim
/-! what a rule speaks of -/
noncomputable abbrev Tf : Type := Nat → Option Int
noncomputable abbrev Mt : Type := Nat → Nat → Int
noncomputable def rsT (lo hi : Nat) (H : List (Nat × Int)) : Tf := fun t => bif Nat.ble lo t && Nat.ble t hi then lk H t else none
noncomputable def rsM (RW : List Nat) (σ : zS) : Mt := fun k j => bif RW.any (Nat.beq k) then (σ.1 k j).toInt else 0
noncomputable def set1 (t : Nat) (x : Option Int) (τ : Tf) : Tf := fun u => bif Nat.beq u t then x else τ u
noncomputable def wrM (m : Mt) (k j : Nat) (x : Int) : Mt := fun k' j' => bif Nat.beq k' k && Nat.beq j' j then x else m k' j'
noncomputable def In1 (τ : Tf) (m : Mt) (p v : Int) (g : Nat → Int) (t : Ti) (x : Int) : Prop := match t.1 with
  | 0 => τ t.2.1 = some x
  | 4 => x = t.2.2.2.1
  | 5 => x = m t.2.1 t.2.2.1
  | 6 => ∃ j : Nat, g t.2.2.1 = (j : Int) ∧ x = m t.2.1 j
  | 7 => x = p
  | 8 => x = v
  | 9 => ∃ j : Nat, t.2.2.2.1 * g t.2.2.1 + t.2.2.2.2 = (j : Int) ∧ x = m t.2.1 j
  | 10 => x = g t.2.2.1 + t.2.2.2.1
  | _ => True
noncomputable def Ins (τ : Tf) (m : Mt) (p v : Int) (g : Nat → Int) : List Ti → Nat → Prop
  | [], _ => True
  | t :: r, i => In1 τ m p v g t (g i) ∧ Ins τ m p v g r (i + 1)
noncomputable def dot (g : Nat → Int) : List (Nat × Int) → Int
  | [] => 0
  | e :: r => e.2 * g e.1 + dot g r
noncomputable def Cds (g : Nat → Int) : List (List (Nat × Int) × Int) → Prop
  | [] => True
  | c :: r => dot g c.1 ≤ c.2 ∧ Cds g r
noncomputable def Abt (τ : Tf) : List Nat → Prop
  | [] => True
  | t :: r => τ t = none ∧ Abt τ r
noncomputable def Mms (m : Mt) (g : Nat → Int) : List (Nat × (Nat × Nat)) → Prop
  | [] => True
  | e :: r => (∃ j : Nat, g e.2.1 = (j : Int) ∧ g e.2.2 = m e.1 j) ∧ Mms m g r
noncomputable def upT (g : Nat → Int) : List (Nat × Option (Nat × Int)) → Tf → Tf
  | [], τ => τ
  | (t, none) :: r, τ => upT g r (set1 t none τ)
  | (t, some (i, o)) :: r, τ => upT g r (set1 t (some (g i + o)) τ)
noncomputable abbrev St9 : Type := Tf → Mt → Prop
/-- a rule is right -/
noncomputable def RuOk (S : St9) (R : Ru) : Prop := ∀ (τ : Tf) (m : Mt) (g : Nat → Int), Ins τ m 0 0 g R.inp 0 → Cds g R.cnd → Abt τ R.abs → S τ m → R.bad = false ∧ Cds g R.fac ∧ Mms m g R.mem ∧ (match R.frs with
  | none => S (upT g R.upd τ) m
  | some (t, (lo, hi)) => ∃ x, lo ≤ x ∧ x ≤ hi ∧ S (set1 t (some x) (upT g R.upd τ)) m)
/-- what a write does -/
noncomputable def WrOk (S : St9) (k : Nat) (R : Ru) : Prop := ∀ (τ : Tf) (m : Mt) (g : Nat → Int) (j : Nat) (x : Int), Ins τ m (j : Int) x g R.inp 0 → Cds g R.cnd → Abt τ R.abs → S τ m → S (upT g R.upd τ) (wrM m k j x)
/-! how it is done -/
noncomputable def evj (s : Sy) (a : AV) : Bool := match a with
  | .inl (id, _) => Nat.blt id s.nx
  | .inr (.inl _) => true
  | _ => false
theorem evj_ok {J : Jt} {s : Sy} {ρ : List Int} {σ : zS} {a : AV} (ho : Ok J s ρ σ) (h : evj s a = true) : ∃ z, ev ρ a = some z := by
  rcases a with ⟨id, o⟩ | n | ⟨_, _⟩ | _ | _ | ⟨_, _⟩
  · have h1 : id < ρ.length := by rw [ho.len]; exact Nat.le_of_ble_eq_true h
    refine ⟨ρ[id] + o, ?_⟩
    simp only [ev, List.getElem?_eq_getElem h1]
  · exact ⟨n, rfl⟩
  · cases h
  · cases h
  · cases h
  · cases h
noncomputable def kevj (s : Sy) (o : Option AV) : Option AV := match o with
  | some a => bif evj s a then some a else none
  | none => none
/-- what is known of the row k at m times a and c -/
noncomputable def fnd (s : Sy) (k : Nat) (a : AV) (m c : Int) : List (Nat × (AV × AV)) → Option AV
  | [] => none
  | e :: r => bif (Nat.beq e.1 k && e.2.2.isI) && (sle s [(e.2.1, 1), (a, -m)] c && sle s [(e.2.1, -1), (a, m)] (-c)) then some e.2.2 else fnd s k a m c r
noncomputable abbrev Xe : Type := List (Nat × AV) × (List AV × (AV × AV))
noncomputable def inRW (RW : List Nat) (k : Nat) (o : Option AV) : Option AV := bif RW.any (Nat.beq k) then o else none
noncomputable def fldI (s : Sy) (k j : Nat) : Option AV := match mget s.me k (.c (j : Int)) with
  | some w => bif w.isI then some w else none
  | none => none
noncomputable def inp1 (RW : List Nat) (X : Xe) (s : Sy) (hl : List (Nat × AV)) (as : List AV) (t : Ti) : Option AV := match t.1 with
  | 0 => lk hl t.2.1
  | 1 => kevj s (lget X.1 t.2.1)
  | 3 => kevj s X.2.1[t.2.1]?
  | 4 => some (.c t.2.2.2.1)
  | 5 => inRW RW t.2.1 (fldI s t.2.1 t.2.2.1)
  | 6 => match as[t.2.2.1]? with
    | some r => inRW RW t.2.1 (oth s t.2.1 r)
    | none => none
  | 7 => some X.2.2.1
  | 8 => some X.2.2.2
  | 9 => match as[t.2.2.1]? with
    | some r => inRW RW t.2.1 (fnd s t.2.1 r t.2.2.2.1 t.2.2.2.2 s.me)
    | none => none
  | 10 => match as[t.2.2.1]? with
    | some r => some (shA r t.2.2.2.1)
    | none => none
  | _ => none
noncomputable def inps (RW : List Nat) (X : Xe) (s : Sy) (hl : List (Nat × AV)) : List Ti → List AV → Option (List AV)
  | [], as => some as
  | t :: r, as => match inp1 RW X s hl as t with
    | some a => inps RW X s hl r (as ++ [a])
    | none => none
noncomputable def nth (as : List AV) (i : Nat) : AV := (as[i]?).getD (.c 0)
noncomputable def wts (as : List AV) (c : List (Nat × Int)) : List (AV × Int) := c.map fun e => (nth as e.1, e.2)
noncomputable def cdsA (s : Sy) (as : List AV) (cs : List (List (Nat × Int) × Int)) : Bool := cs.all fun c => sle s (wts as c.1) c.2
noncomputable def absA (hl : List (Nat × AV)) (ts : List Nat) : Bool := ts.all fun t => !(isS (lk hl t))
noncomputable def updA (as : List AV) : List (Nat × Option (Nat × Int)) → List (Nat × AV) → List (Nat × AV)
  | [], hl => hl
  | (t, none) :: r, hl => updA as r (hdel t hl)
  | (t, some (i, o)) :: r, hl => updA as r (hins t (shA (nth as i) o) hl)
noncomputable def updH (g : Nat → Int) : List (Nat × Option (Nat × Int)) → List (Nat × Int) → List (Nat × Int)
  | [], H => H
  | (t, none) :: r, H => updH g r (hdel t H)
  | (t, some (i, o)) :: r, H => updH g r (hins t (g i + o) H)
noncomputable def facA (as : List AV) : List (List (Nat × Int) × Int) → Sy → Sy
  | [], s => s
  | c :: r, s => facA as r (adS s (wts as c.1) c.2)
noncomputable def memA (as : List AV) : List (Nat × (Nat × Nat)) → Sy → Sy
  | [], s => s
  | e :: r, s => memA as r (bif (nth as e.2.2).isI && (eqA s (nth as e.2.1) (pl s (nth as e.2.1)) && !(isS (mget s.me e.1 (pl s (nth as e.2.1))))) then s.add e.1 (pl s (nth as e.2.1)) (nth as e.2.2) else s)
noncomputable def inTg (lo hi t : Nat) : Bool := Nat.ble lo t && Nat.ble t hi
noncomputable def tgsOk (lo hi : Nat) (RW : List Nat) (R : Ru) : Bool := ((R.upd.all fun u => inTg lo hi u.1) && (match R.frs with
  | some (t, _) => inTg lo hi t
  | none => true)) && ((R.inp.all fun t => !(Nat.beq t.1 0) || inTg lo hi t.2.1) && R.mem.all fun e => RW.any (Nat.beq e.1))
noncomputable def ruA (RW : List Nat) (R : Ru) (X : Xe) (s : Sy) : Option Sy := match inps RW X s s.hl R.inp [] with
  | none => some s
  | some as => bif absA s.hl R.abs && cdsA s as R.cnd then (bif R.bad then none else
      let s1 := memA as R.mem (facA as R.fac s)
      match R.frs with
      | none => some (s1.seth (updA as R.upd s.hl))
      | some (t, (l, h)) => some ((s1.new [(l, h)]).seth (hins t (.i s1.nx 0) (updA as R.upd s.hl)))) else some s
section R42
variable {J : Jt} {s : Sy} {ρ : List Int} {σ : zS}
noncomputable def gv (ρ : List Int) (as : List AV) : Nat → Int := fun i => (ev ρ (nth as i)).getD 0
noncomputable def Evs (ρ : List Int) (as : List AV) : Prop := ∀ a ∈ as, ∃ z, ev ρ a = some z
theorem nth_ev {as : List AV} (h : Evs ρ as) (i : Nat) : ev ρ (nth as i) = some (gv ρ as i) := by
  unfold gv nth
  cases q : as[i]? with
  | none => rfl
  | some a =>
    obtain ⟨z, hz⟩ := h a (List.mem_of_getElem? q)
    show ev ρ a = some ((ev ρ a).getD 0)
    rw [hz]; rfl
theorem wts_ev {as : List AV} (h : Evs ρ as) {c : List (Nat × Int)} : ∀ e ∈ wts as c, ∃ z, ev ρ e.1 = some z := fun e he => by
  obtain ⟨q, _, rfl⟩ := List.mem_map.mp he
  exact ⟨_, nth_ev h q.1⟩
theorem wts_dot {as : List AV} (h : Evs ρ as) : ∀ {c : List (Nat × Int)}, smv ρ (wts as c) = dot (gv ρ as) c
  | [] => rfl
  | e :: r => by
    show e.2 * (ev ρ (nth as e.1)).getD 0 + smv ρ (wts as r) = e.2 * gv ρ as e.1 + dot (gv ρ as) r
    rw [wts_dot h]; rfl
theorem cdsA_ok (ho : Ok J s ρ σ) {as : List AV} (h : Evs ρ as) : ∀ {cs : List (List (Nat × Int) × Int)}, cdsA s as cs = true → Cds (gv ρ as) cs
  | [], _ => trivial
  | c :: r, hc => by
    have hc : (sle s (wts as c.1) c.2 && cdsA s as r) = true := hc
    rw [Bool.and_eq_true] at hc
    have := sle_ok ho hc.1 (wts_ev h)
    rw [wts_dot h] at this
    exact ⟨this, cdsA_ok ho h hc.2⟩
theorem kevj_ok (ho : Ok J s ρ σ) {o : Option AV} {a : AV} (h : kevj s o = some a) : ∃ z, ev ρ a = some z := by
  unfold kevj at h
  split at h
  · rename_i b
    cases hb : evj s b with
    | false => rw [hb] at h; cases h
    | true => rw [hb] at h; cases Option.some.inj h; exact evj_ok ho hb
  · cases h
theorem inRW_ok {RW : List Nat} {k : Nat} {o : Option AV} {a : AV} (h : inRW RW k o = some a) : RW.any (Nat.beq k) = true ∧ o = some a := by
  unfold inRW at h
  cases hb : RW.any (Nat.beq k) with
  | false => rw [hb] at h; cases h
  | true => rw [hb] at h; exact ⟨rfl, h⟩
theorem oth_ok' (ho : Ok J s ρ σ) {k : Nat} {r w : AV} {x : Int} (h : oth s k r = some w) (hr : ev ρ r = some x) : ∃ j : Nat, x = (j : Int) ∧ w.isI = true ∧ ev ρ w = some (σ.1 k j).toInt := by
  have h0 := h
  unfold oth at h
  split at h
  · rename_i w' hm
    cases hc : w'.isI && eqA s r (pl s r) with
    | false => rw [hc] at h; cases h
    | true =>
      rw [Bool.and_eq_true] at hc
      obtain ⟨j', q1, q2⟩ := ho.me _ (mget_mem hm)
      have e := eqA_ok ho hc.2 hr q1
      obtain ⟨g1, g2⟩ := oth_ok ho h0 (j := j') (by rw [hr, e])
      exact ⟨j', e, g1, g2⟩
  · cases h
theorem fnd_ok (ho : Ok J s ρ σ) {k : Nat} {a w : AV} {m c x : Int} (hx : ev ρ a = some x) : ∀ {l : List (Nat × (AV × AV))}, (∀ e ∈ l, Mf ρ σ e) → fnd s k a m c l = some w → ∃ j : Nat, m * x + c = (j : Int) ∧ ev ρ w = some (σ.1 k j).toInt
  | [], _, h => by cases h
  | e :: r, hl, h => by
    unfold fnd at h
    cases hc : (Nat.beq e.1 k && e.2.2.isI) && (sle s [(e.2.1, 1), (a, -m)] c && sle s [(e.2.1, -1), (a, m)] (-c)) with
    | false => rw [hc] at h; exact fnd_ok ho hx (fun e' q => hl e' (List.mem_cons_of_mem _ q)) h
    | true =>
      rw [hc] at h
      cases Option.some.inj h
      simp only [Bool.and_eq_true] at hc
      obtain ⟨⟨c1, c2⟩, c3, c4⟩ := hc
      obtain ⟨j, j1, j2⟩ := hl e (List.mem_cons_self ..)
      have g1 := sle_ok ho c3 (evs2 j1 hx)
      have g2 := sle_ok ho c4 (evs2 j1 hx)
      rw [smv2 j1 hx] at g1 g2
      rw [Int.neg_mul] at g1
      refine ⟨j, by omega, ?_⟩
      rw [← Nat.eq_of_beq_eq_true c1]
      rcases j2 with ⟨_, j2⟩ | ⟨q, _⟩
      · exact j2
      · exact (isI_L c2 q).elim
theorem inp1_ok {RW : List Nat} {X : Xe} {hl : List (Nat × AV)} {H : List (Nat × Int)} {lo hi : Nat} {p v : Int} (ho : Ok J s ρ σ) (hh : Hl ρ hl H) (hp : ev ρ X.2.2.1 = some p) (hv : ev ρ X.2.2.2 = some v) {as : List AV} (ha : Evs ρ as) {t : Ti} {a : AV} (ht : (!(Nat.beq t.1 0) || inTg lo hi t.2.1) = true) (h : inp1 RW X s hl as t = some a) {g : Nat → Int} (hg : ∀ i, i < as.length → g i = gv ρ as i) : ∃ z, ev ρ a = some z ∧ In1 (rsT lo hi H) (rsM RW σ) p v g t z := by
  have mm : ∀ {k j : Nat}, RW.any (Nat.beq k) = true → rsM RW σ k j = (σ.1 k j).toInt := fun h => by unfold rsM; rw [h]; rfl
  obtain ⟨c, t1, t2, t3, t4⟩ := t
  unfold inp1 at h
  dsimp only at h
  split at h
  · rcases hh.lkp (t := t1) with ⟨q1, _⟩ | ⟨a', z, q1, q2, q3⟩
    · rw [q1] at h; cases h
    · rw [q1] at h
      cases Option.some.inj h
      have ht : inTg lo hi t1 = true := ht
      refine ⟨z, q3, ?_⟩
      show (bif Nat.ble lo t1 && Nat.ble t1 hi then lk H t1 else none) = some z
      have ht : (Nat.ble lo t1 && Nat.ble t1 hi) = true := ht
      rw [ht]
      exact q2
  · obtain ⟨z, hz⟩ := kevj_ok ho h; exact ⟨z, hz, trivial⟩
  · obtain ⟨z, hz⟩ := kevj_ok ho h; exact ⟨z, hz, trivial⟩
  · cases Option.some.inj h; exact ⟨t3, rfl, rfl⟩
  · obtain ⟨r1, r2⟩ := inRW_ok h
    unfold fldI at r2
    split at r2
    · rename_i w hm
      cases hi : w.isI with
      | false => rw [hi] at r2; cases r2
      | true =>
        rw [hi] at r2
        cases Option.some.inj r2
        exact ⟨_, me_at ho hm rfl hi, (mm r1).symm⟩
    · cases r2
  · split at h
    · rename_i r hr
      obtain ⟨r1, r2⟩ := inRW_ok h
      have hl9 := (List.getElem?_eq_some_iff.mp hr).1
      have e9 : ev ρ r = some (gv ρ as t2) := by
        have := nth_ev ha t2
        unfold nth at this
        rw [hr] at this
        exact this
      obtain ⟨j, q1, _, q3⟩ := oth_ok' ho r2 e9
      exact ⟨_, q3, j, (hg t2 hl9).trans q1, (mm r1).symm⟩
    · cases h
  · cases Option.some.inj h; exact ⟨p, hp, rfl⟩
  · cases Option.some.inj h; exact ⟨v, hv, rfl⟩
  · split at h
    · rename_i r hr
      obtain ⟨r1, r2⟩ := inRW_ok h
      have hl9 := (List.getElem?_eq_some_iff.mp hr).1
      have e9 : ev ρ r = some (gv ρ as t2) := by
        have := nth_ev ha t2
        unfold nth at this
        rw [hr] at this
        exact this
      obtain ⟨j, q1, q3⟩ := fnd_ok ho e9 ho.me r2
      exact ⟨_, q3, j, by show t3 * g t2 + t4 = (j : Int); rw [hg t2 hl9]; exact q1, (mm r1).symm⟩
    · cases h
  · split at h
    · rename_i r hr
      cases Option.some.inj h
      have hl9 := (List.getElem?_eq_some_iff.mp hr).1
      have e9 : ev ρ r = some (gv ρ as t2) := by
        have := nth_ev ha t2
        unfold nth at this
        rw [hr] at this
        exact this
      exact ⟨_, shA_ev e9, by show gv ρ as t2 + t3 = g t2 + t3; rw [hg t2 hl9]⟩
    · cases h
  · cases h
theorem gv_app {as : List AV} {a : AV} {i : Nat} (h : i < as.length) : gv ρ (as ++ [a]) i = gv ρ as i := by
  unfold gv nth
  rw [List.getElem?_append_left h]
theorem gv_new {as : List AV} {a : AV} {z : Int} (h : ev ρ a = some z) : gv ρ (as ++ [a]) as.length = z := by
  unfold gv nth
  rw [List.getElem?_append_right (Nat.le_refl _), Nat.sub_self]
  show (ev ρ a).getD 0 = z
  rw [h]; rfl
theorem inps_len {RW : List Nat} {X : Xe} {hl : List (Nat × AV)} : ∀ {l : List Ti} {as bs : List AV}, inps RW X s hl l as = some bs → ∃ t, bs = as ++ t
  | [], as, bs, h => ⟨[], by cases Option.some.inj h; simp⟩
  | t :: r, as, bs, h => by
    unfold inps at h
    split at h
    · obtain ⟨u, hu⟩ := inps_len h
      exact ⟨_, hu.trans (List.append_assoc ..)⟩
    · cases h
theorem inps_ok {RW : List Nat} {X : Xe} {hl : List (Nat × AV)} {H : List (Nat × Int)} {lo hi : Nat} {p v : Int} (ho : Ok J s ρ σ) (hh : Hl ρ hl H) (hp : ev ρ X.2.2.1 = some p) (hv : ev ρ X.2.2.2 = some v) : ∀ {l : List Ti} {as bs : List AV}, (l.all fun t => !(Nat.beq t.1 0) || inTg lo hi t.2.1) = true → Evs ρ as → inps RW X s hl l as = some bs → Evs ρ bs ∧ Ins (rsT lo hi H) (rsM RW σ) p v (gv ρ bs) l as.length
  | [], as, bs, _, ha, h => by cases Option.some.inj h; exact ⟨ha, trivial⟩
  | t :: r, as, bs, hl9, ha, h => by
    have hl9 : ((!(Nat.beq t.1 0) || inTg lo hi t.2.1) && r.all fun t => !(Nat.beq t.1 0) || inTg lo hi t.2.1) = true := hl9
    rw [Bool.and_eq_true] at hl9
    unfold inps at h
    split at h
    · rename_i a h1
      obtain ⟨u, hu⟩ := inps_len h
      have pre : ∀ i, i < (as ++ [a]).length → gv ρ bs i = gv ρ (as ++ [a]) i := fun i hi => by
        rw [hu]; unfold gv nth
        rw [List.getElem?_append_left hi]
      obtain ⟨z, z1, z2⟩ := inp1_ok ho hh hp hv ha hl9.1 h1 (g := gv ρ bs) (fun i hi => (pre i (by simp; omega)).trans (gv_app hi))
      have ha' : Evs ρ (as ++ [a]) := fun b hb => by
        rcases List.mem_append.mp hb with hb | hb
        · exact ha b hb
        · rcases List.mem_cons.mp hb with rfl | hb
          · exact ⟨z, z1⟩
          · cases hb
      obtain ⟨g1, g2⟩ := inps_ok ho hh hp hv hl9.2 ha' h
      refine ⟨g1, ?_, by rw [List.length_append] at g2; exact g2⟩
      rw [pre as.length (by simp), gv_new z1]
      exact z2
    · cases h
theorem absA_ok {lo hi : Nat} {hl : List (Nat × AV)} {H : List (Nat × Int)} (hh : Hl ρ hl H) : ∀ {ts : List Nat}, absA hl ts = true → Abt (rsT lo hi H) ts
  | [], _ => trivial
  | t :: r, h => by
    have h : ((!(isS (lk hl t))) && absA hl r) = true := h
    rw [Bool.and_eq_true] at h
    refine ⟨?_, absA_ok hh h.2⟩
    show (bif Nat.ble lo t && Nat.ble t hi then lk H t else none) = none
    rw [no_tag hh h.1]
    cases Nat.ble lo t && Nat.ble t hi <;> rfl
theorem updA_ok {as : List AV} (ha : Evs ρ as) : ∀ {us : List (Nat × Option (Nat × Int))} {hl : List (Nat × AV)} {H : List (Nat × Int)}, Hl ρ hl H → Hl ρ (updA as us hl) (updH (gv ρ as) us H)
  | [], _, _, h => h
  | (t, none) :: r, _, _, h => updA_ok ha (us := r) h.del
  | (t, some (i, o)) :: r, _, _, h => updA_ok ha (us := r) (Hl.ins (shA_ev (nth_ev ha i)) h)
theorem rsT_set {lo hi t : Nat} {x : Option Int} {H H' : List (Nat × Int)} (ht : inTg lo hi t = true) (h : ∀ u, lk H' u = if u = t then x else lk H u) : rsT lo hi H' = set1 t x (rsT lo hi H) := by
  funext u
  show (bif Nat.ble lo u && Nat.ble u hi then lk H' u else none) = (bif Nat.beq u t then x else bif Nat.ble lo u && Nat.ble u hi then lk H u else none)
  rw [h u]
  by_cases e : u = t
  · subst e
    have ht : (Nat.ble lo u && Nat.ble u hi) = true := ht
    rw [if_pos rfl, Nat.beq_refl, ht]; rfl
  · have : Nat.beq u t = false := by
      cases q : Nat.beq u t with
      | false => rfl
      | true => exact absurd (Nat.eq_of_beq_eq_true q) e
    rw [if_neg e, this]; rfl
theorem updH_rs {lo hi : Nat} {g : Nat → Int} : ∀ {us : List (Nat × Option (Nat × Int))} {H : List (Nat × Int)}, (us.all fun u => inTg lo hi u.1) = true → rsT lo hi (updH g us H) = upT g us (rsT lo hi H)
  | [], _, _ => rfl
  | (t, none) :: r, H, h => by
    have h : (inTg lo hi t && r.all fun u => inTg lo hi u.1) = true := h
    rw [Bool.and_eq_true] at h
    show rsT lo hi (updH g r (hdel t H)) = upT g r (set1 t none (rsT lo hi H))
    rw [updH_rs h.2, rsT_set h.1 (fun u => lk_hdel)]
  | (t, some (i, o)) :: r, H, h => by
    have h : (inTg lo hi t && r.all fun u => inTg lo hi u.1) = true := h
    rw [Bool.and_eq_true] at h
    show rsT lo hi (updH g r (hins t (g i + o) H)) = upT g r (set1 t (some (g i + o)) (rsT lo hi H))
    rw [updH_rs h.2, rsT_set h.1 (fun u => lk_hins)]
theorem updH_out {lo hi : Nat} {g : Nat → Int} {u : Nat} (hu : inTg lo hi u = false) : ∀ {us : List (Nat × Option (Nat × Int))} {H : List (Nat × Int)}, (us.all fun u => inTg lo hi u.1) = true → lk (updH g us H) u = lk H u
  | [], _, _ => rfl
  | (t, none) :: r, H, h => by
    have h : (inTg lo hi t && r.all fun u => inTg lo hi u.1) = true := h
    rw [Bool.and_eq_true] at h
    show lk (updH g r (hdel t H)) u = lk H u
    rw [updH_out hu h.2, lk_hdel, if_neg (fun e => by rw [e, h.1] at hu; cases hu)]
  | (t, some (i, o)) :: r, H, h => by
    have h : (inTg lo hi t && r.all fun u => inTg lo hi u.1) = true := h
    rw [Bool.and_eq_true] at h
    show lk (updH g r (hins t (g i + o) H)) u = lk H u
    rw [updH_out hu h.2, lk_hins, if_neg (fun e => by rw [e, h.1] at hu; cases hu)]
theorem facA_ok {as : List AV} (ha : Evs ρ as) : ∀ {cs : List (List (Nat × Int) × Int)} {s : Sy}, Ok J s ρ σ → Cds (gv ρ as) cs → Ok J (facA as cs s) ρ σ
  | [], s, ho, _ => ho
  | c :: r, s, ho, hc => facA_ok ha (cs := r) (adS_ok ho (wts_ev ha) (by rw [wts_dot ha]; exact hc.1)) hc.2
theorem memA_ok {RW : List Nat} {as : List AV} (ha : Evs ρ as) : ∀ {es : List (Nat × (Nat × Nat))} {s : Sy}, (es.all fun e => RW.any (Nat.beq e.1)) = true → Ok J s ρ σ → Mms (rsM RW σ) (gv ρ as) es → Ok J (memA as es s) ρ σ
  | [], s, _, ho, _ => ho
  | e :: r, s, hr, ho, hm => by
    have hr : (RW.any (Nat.beq e.1) && r.all fun e => RW.any (Nat.beq e.1)) = true := hr
    rw [Bool.and_eq_true] at hr
    unfold memA
    cases hc : (nth as e.2.2).isI && (eqA s (nth as e.2.1) (pl s (nth as e.2.1)) && !(isS (mget s.me e.1 (pl s (nth as e.2.1))))) with
    | false => exact memA_ok ha hr.2 ho hm.2
    | true =>
      simp only [cond_true]
      simp only [Bool.and_eq_true] at hc
      obtain ⟨⟨j, j1, j2⟩, hm2⟩ := hm
      obtain ⟨y, hy⟩ := pl_ev (s := s) (nth_ev ha e.2.1)
      have ey := eqA_ok ho hc.2.1 (nth_ev ha e.2.1) hy
      have e2 : rsM RW σ e.1 j = (σ.1 e.1 j).toInt := by unfold rsM; rw [hr.1]; rfl
      have h1 : Ok J (s.add e.1 (pl s (nth as e.2.1)) (nth as e.2.2)) ρ σ := ho.addm ⟨j, by rw [hy, ← ey, j1], Or.inl ⟨hc.1, by rw [nth_ev ha, j2, e2]⟩⟩
      exact memA_ok ha hr.2 h1 hm2
theorem Evs.nil : Evs ρ [] := fun a h => by cases h
end R42
/-! writes -/
noncomputable def wrR (RW : List Nat) (s : Sy) (hl : List (Nat × AV)) (p v : AV) : List Ru → Option (List (Nat × AV))
  | [] => none
  | R :: r => match inps RW ([], ([], (p, v))) s hl R.inp [] with
    | some as => bif absA hl R.abs && cdsA s as R.cnd then some (updA as R.upd hl) else wrR RW s hl p v r
    | none => wrR RW s hl p v r
noncomputable def wrA (RW : List Nat) (s : Sy) (hl : List (Nat × AV)) (k : Nat) (p v : AV) : List (Nat × List Ru) → Option (List (Nat × AV))
  | [] => none
  | e :: r => bif Nat.beq e.1 k then wrR RW s hl p v e.2 else wrA RW s hl k p v r
/-- a part of what else holds, by rules -/
noncomputable def cR (lo hi : Nat) (RW : List Nat) (S : St9) (W : List (Nat × List Ru)) : Cp := (fun t => inTg lo hi t, (fun H σ => S (rsT lo hi H) (rsM RW σ), (fun k => RW.any (Nat.beq k), (fun s hl k p v => wrA RW s hl k p v W, nlw))))
section R43
variable {T : Jx} {G : Gl} {lo hi : Nat} {RW : List Nat} {S : St9} {W : List (Nat × List Ru)}
theorem rsM_wr {σ : zS} {k j : Nat} {x : Int32} (hk : RW.any (Nat.beq k) = true) : rsM RW (zI σ k j x) = wrM (rsM RW σ) k j x.toInt := by
  funext k' j'
  show (bif RW.any (Nat.beq k') then ((zI σ k j x).1 k' j').toInt else 0) = (bif Nat.beq k' k && Nat.beq j' j then x.toInt else bif RW.any (Nat.beq k') then (σ.1 k' j').toInt else 0)
  by_cases h1 : k' = k
  · subst h1
    rw [hk, Nat.beq_refl]
    by_cases h2 : j' = j
    · subst h2
      rw [Nat.beq_refl, zI_at]; rfl
    · have : Nat.beq j' j = false := by
        cases q : Nat.beq j' j with
        | false => rfl
        | true => exact absurd (Nat.eq_of_beq_eq_true q) h2
      rw [this, zI_ne (by rintro ⟨_, q⟩; exact h2 q)]; rfl
  · have : Nat.beq k' k = false := by
      cases q : Nat.beq k' k with
      | false => rfl
      | true => exact absurd (Nat.eq_of_beq_eq_true q) h1
    rw [this, zI_row h1]; rfl
theorem wrR_ok {s : Sy} {ρ : List Int} {σ : zS} {k j : Nat} {p v : AV} {x : Int32} {H : List (Nat × Int)} {hl hl' : List (Nat × AV)} (ho : Ok (fun _ _ => True) s ρ σ) (hp : ev ρ p = some (j : Int)) (hx : ev ρ v = some x.toInt) (hk : RW.any (Nat.beq k) = true) (hh : Hl ρ hl H) (hS : S (rsT lo hi H) (rsM RW σ)) : ∀ {Rs : List Ru}, (∀ R ∈ Rs, tgsOk lo hi RW R = true ∧ WrOk S k R) → wrR RW s hl p v Rs = some hl' → ∃ H', Hl ρ hl' H' ∧ S (rsT lo hi H') (rsM RW (zI σ k j x)) ∧ ∀ t, inTg lo hi t = false → lk H' t = lk H t
  | [], _, h => by cases h
  | R :: r, hR, h => by
    have rest := fun (h' : wrR RW s hl p v r = some hl') => wrR_ok ho hp hx hk hh hS (Rs := r) (fun R' q => hR R' (List.mem_cons_of_mem _ q)) h'
    unfold wrR at h
    split at h
    · rename_i as hi9
      cases hc : absA hl R.abs && cdsA s as R.cnd with
      | false => rw [hc] at h; exact rest h
      | true =>
        rw [hc] at h
        cases Option.some.inj h
        rw [Bool.and_eq_true] at hc
        obtain ⟨t1, t2⟩ := hR R (List.mem_cons_self ..)
        unfold tgsOk at t1
        simp only [Bool.and_eq_true] at t1
        obtain ⟨g1, g2⟩ := inps_ok (lo := lo) (hi := hi) (p := (j : Int)) (v := x.toInt) ho hh hp hx t1.2.1 Evs.nil hi9
        refine ⟨updH (gv ρ as) R.upd H, updA_ok g1 hh, ?_, fun t ht => updH_out ht t1.1.1⟩
        rw [updH_rs t1.1.1, rsM_wr hk]
        exact t2 _ _ _ j x.toInt g2 (cdsA_ok ho g1 hc.2) (absA_ok hh hc.1) hS
    · exact rest h
theorem wrA_ok {s : Sy} {ρ : List Int} {σ : zS} {k j : Nat} {p v : AV} {x : Int32} {H : List (Nat × Int)} {hl hl' : List (Nat × AV)} (ho : Ok (fun _ _ => True) s ρ σ) (hp : ev ρ p = some (j : Int)) (hx : ev ρ v = some x.toInt) (hk : RW.any (Nat.beq k) = true) (hh : Hl ρ hl H) (hS : S (rsT lo hi H) (rsM RW σ)) : ∀ {W : List (Nat × List Ru)}, (∀ e ∈ W, ∀ R ∈ e.2, tgsOk lo hi RW R = true ∧ WrOk S e.1 R) → wrA RW s hl k p v W = some hl' → ∃ H', Hl ρ hl' H' ∧ S (rsT lo hi H') (rsM RW (zI σ k j x)) ∧ ∀ t, inTg lo hi t = false → lk H' t = lk H t
  | [], _, h => by cases h
  | e :: r, hW, h => by
    unfold wrA at h
    cases hb : Nat.beq e.1 k with
    | false => rw [hb] at h; exact wrA_ok ho hp hx hk hh hS (W := r) (fun e' q => hW e' (List.mem_cons_of_mem _ q)) h
    | true =>
      rw [hb] at h
      have ek := Nat.eq_of_beq_eq_true hb
      have h0 := hW e (List.mem_cons_self ..)
      rw [ek] at h0
      exact wrR_ok ho hp hx hk hh hS h0 h
theorem cR_ok1 (hlo : 100 ≤ lo) {t : Nat} (ht : (cR lo hi RW S W).tg t = true) : 100 ≤ t := by
  have ht : (Nat.ble lo t && Nat.ble t hi) = true := ht
  rw [Bool.and_eq_true] at ht
  exact Nat.le_trans hlo (Nat.le_of_ble_eq_true ht.1)
theorem cR_ok2 {H H' : List (Nat × Int)} {σ σ' : zS} (h1 : ∀ t, inTg lo hi t = true → lk H' t = lk H t) (h2 : ∀ k, RW.any (Nat.beq k) = true → σ'.1 k = σ.1 k) (hS : S (rsT lo hi H) (rsM RW σ)) : S (rsT lo hi H') (rsM RW σ') := by
  have e1 : rsT lo hi H' = rsT lo hi H := by
    funext t
    unfold rsT
    cases hc : Nat.ble lo t && Nat.ble t hi with
    | false => rfl
    | true => exact h1 t hc
  have e2 : rsM RW σ' = rsM RW σ := by
    funext k j
    unfold rsM
    cases hc : RW.any (Nat.beq k) with
    | false => show (0 : Int) = 0; rfl
    | true => simp only [cond_true]; rw [h2 k hc]
  rw [e1, e2]
  exact hS
theorem cR_ok (hlo : 100 ≤ lo) (hW : ∀ e ∈ W, ∀ R ∈ e.2, tgsOk lo hi RW R = true ∧ WrOk S e.1 R) : CpOk T G (cR lo hi RW S W) := CpOk.no (fun _ => rfl) ⟨fun t ht => cR_ok1 hlo ht, fun H H' σ σ' h1 h2 hS => cR_ok2 h1 h2 hS, fun s ρ σ k p v j x hl hl' H ho hb hp hi9 hv hx hr hw hh hS => wrA_ok ho hp hx hr hh hS hW hw⟩
theorem ruA_ok {cs : List Cp} {s : Sy} {ρ : List Int} {σ : zS} (hP : PH T G cs (cR lo hi RW S W)) {R : Ru} (ht : tgsOk lo hi RW R = true) (hR : RuOk S R) {X : Xe} (hX : X.2.2 = (.c 0, .c 0)) (ho : Ok (Jf T G (cS cs)) s ρ σ) : ∃ s' ρ', ruA RW R X s = some s' ∧ Pre ρ ρ' ∧ Ok (Jf T G (cS cs)) s' ρ' σ := by
  have same : ∃ s' ρ', some s = some s' ∧ Pre ρ ρ' ∧ Ok (Jf T G (cS cs)) s' ρ' σ := ⟨s, ρ, rfl, Pre.rf, ho⟩
  unfold tgsOk at ht
  simp only [Bool.and_eq_true] at ht
  obtain ⟨⟨t1, t2⟩, t3, t4⟩ := ht
  obtain ⟨H, i1, i2⟩ := ho.inv
  have hS : S (rsT lo hi H) (rsM RW σ) := i2.2.2 _ hP.2.2.1
  unfold ruA
  split
  · exact same
  · rename_i as hi9
    cases hc : absA s.hl R.abs && cdsA s as R.cnd with
    | false => exact same
    | true =>
      simp only [cond_true]
      rw [Bool.and_eq_true] at hc
      obtain ⟨g1, g2⟩ := inps_ok (lo := lo) (hi := hi) (p := 0) (v := 0) ho i1 (by rw [hX]; rfl) (by rw [hX]; rfl) t3 Evs.nil hi9
      obtain ⟨r1, r2, r3, r4⟩ := hR _ _ _ g2 (cdsA_ok ho g1 hc.2) (absA_ok i1 hc.1) hS
      rw [r1]
      simp only [cond_false]
      have o1 := memA_ok g1 t4 (facA_ok g1 ho r2) r3
      have out : ∀ {u : Nat}, inTg lo hi u = false → lk (updH (gv ρ as) R.upd H) u = lk H u := fun hu => updH_out hu t1
      split
      · rename_i hf
        rw [hf] at r4
        refine ⟨_, ρ, rfl, Pre.rf, o1.len, o1.env, o1.me, o1.cg, o1.df, o1.fa, updH (gv ρ as) R.upd H, updA_ok g1 i1, ?_⟩
        exact Jf_part hP.1 hP.2.1 hP.2.2.2 (fun t ht => (hP.2.1 _ hP.2.2.1).1 t ht) (fun u hu => out hu) i2 (by show S (rsT lo hi _) _; rw [updH_rs t1]; exact r4)
      · rename_i t l h hf
        rw [hf] at r4 t2
        have t2 : inTg lo hi t = true := t2
        obtain ⟨x, x1, x2, x3⟩ := r4
        have o2 := o1.new (x := x) (d := [(l, h)]) ⟨(l, h), List.mem_cons_self .., x1, x2⟩
        refine ⟨_, ρ ++ [x], rfl, Pre.one, o2.len, o2.env, o2.me, o2.cg, o2.df, o2.fa, hins t x (updH (gv ρ as) R.upd H), Hl.ins o1.new_i ((updA_ok g1 i1).mono Pre.one), ?_⟩
        refine Jf_part hP.1 hP.2.1 hP.2.2.2 (fun t ht => (hP.2.1 _ hP.2.2.1).1 t ht) (fun u hu => ?_) i2 ?_
        · rw [lk_hins, if_neg (fun e => by rw [e] at hu; have hu : inTg lo hi t = false := hu; rw [t2] at hu; cases hu)]
          exact out hu
        · show S (rsT lo hi _) _
          rw [rsT_set t2 (fun u => lk_hins), updH_rs t1]
          exact x3
end R43
end
end
section
noncomputable section
/-! ===== LENDS, 46: what holds of lends (rows: 53 lend, 54 stands, 55 chain, 52 1 lends; 171 .. 178 the reference's columns, 180 chain, 181 kept, 110 96 lends, 110 26 begun, 110 109 kept; 12 owner, 11 place, 13 isCut, 15 told) ===== -/
noncomputable def bt6 (w : Int) (g : Nat) : Bool := bitN (Int32.ofInt w) g
noncomputable def Col8 (t kM c : Nat) (τ : Tf) (m : Mt) : Prop := (τ t = none → ∀ i : Nat, i < 60 → m 53 (8 * i + c) = m kM i) ∧ ∀ z, τ t = some z → ∃ j : Nat, z = (j : Int) ∧ j < 60 ∧ (∀ i : Nat, i < 60 → i ≠ j → m 53 (8 * i + c) = m kM i) ∧ (∀ y, τ (t + 1) = some y → m 53 (8 * j + c) = y) ∧ ∀ y, τ (t + 2) = some y → m kM j = y
noncomputable def lA (τ : Tf) (m : Mt) : Prop := (Col8 900 171 0 τ m ∧ Col8 904 172 1 τ m ∧ Col8 908 173 2 τ m ∧ Col8 912 174 3 τ m) ∧ Col8 916 175 4 τ m ∧ Col8 920 176 5 τ m ∧ Col8 924 177 6 τ m ∧ Col8 928 178 7 τ m
noncomputable def lZ (m : Mt) : Prop := ∀ i : Nat, i < 60 → m 52 1 ≤ (i : Int) → m 53 (8 * i + 7) = 0
noncomputable def lG (m : Mt) : Prop := 1 ≤ m 110 96 → m 110 26 = 1
noncomputable def lK (τ : Tf) (m : Mt) : Prop := (τ 940 = none → ∀ i : Nat, (i : Int) < m 110 109 → m 55 i = m 181 i) ∧ (∀ c, τ 941 = some c → ∀ i : Nat, (i : Int) < c → m 55 i = m 180 i) ∧ ∀ k, τ 942 = some k → ∀ i : Nat, (i : Int) < k → m 181 i = m 180 i
noncomputable def Hd (m : Mt) (a b : Nat) : Prop := Wp (fun x y => x < 6 ∧ y < 6 ∧ bt6 (m 15 x) y = true) 6 a b
noncomputable def Und (m : Mt) (z q : Int) : Prop := Ur (m 11) (m 13) z q
noncomputable def Fit (m : Mt) (i : Nat) (p a t u : Int) : Prop := m 54 i = 1 ∧ m 53 (8 * i + 1) = p ∧ u ≤ m 53 (8 * i + 5) ∧ (∃ x y : Nat, m 53 (8 * i + 2) = (x : Int) ∧ a = (y : Int) ∧ Hd m x y) ∧ Und m (m 53 (8 * i + 3)) t
noncomputable def Lvl (m : Mt) (f c : Int) : Prop := ∀ i : Nat, (i : Int) < m 52 1 → m 54 i = 1 → f < m 53 (8 * i + 5) ∨ (m 53 (8 * i + 5) = f ∧ (i : Int) < c)
noncomputable def Own (m : Mt) (i : Nat) : Prop := ∃ j : Nat, m 53 (8 * i + 3) = (j : Int) ∧ m 12 j = m 53 (8 * i + 0)
noncomputable def Gvn (m : Mt) (p a t u : Int) : Prop := ∃ k : Nat, (k : Int) < m 52 1 ∧ k < 60 ∧ Fit m k p a t u
noncomputable def Jst (m : Mt) : Prop := ∀ i : Nat, (i : Int) < m 52 1 → m 54 i = 1 → Own m i ∨ Gvn m (m 53 (8 * i + 0)) (m 53 (8 * i + 2)) (m 53 (8 * i + 3)) (m 53 (8 * i + 5) + 1)
noncomputable def lW (τ : Tf) (m : Mt) : Prop := (∀ x, τ 952 = some x → ∀ i : Nat, (i : Int) < x → m 54 i = 0) ∧ ∀ f, τ 950 = some f → Jst m ∧ ∀ c, τ 951 = some c → Lvl m f c
noncomputable def lQ (τ : Tf) (m : Mt) : Prop :=
  (∀ p a t u x, τ 880 = some p → τ 881 = some a → τ 882 = some t → τ 883 = some u → τ 884 = some x → ∀ i : Nat, (i : Int) < x → (i : Int) < m 52 1 → ¬ Fit m i p a t u) ∧
  (∀ p a t u w, τ 880 = some p → τ 881 = some a → τ 882 = some t → τ 883 = some u → τ 885 = some w → ∃ k : Nat, w = (k : Int) ∧ (k : Int) < m 52 1 ∧ k < 60 ∧ Fit m k p a t u) ∧
  (∀ p a t u r, τ 880 = some p → τ 881 = some a → τ 882 = some t → τ 883 = some u → τ 886 = some r → ∃ k : Nat, r = (k : Int) ∧ k < 60 ∧ m 53 (8 * k + 0) = p ∧ m 53 (8 * k + 2) = a ∧ m 53 (8 * k + 3) = t ∧ m 53 (8 * k + 5) + 1 = u) ∧
  (∀ t y, τ 882 = some t → τ 887 = some y → ∃ j : Nat, t = (j : Int) ∧ m 12 j = y) ∧
  ∀ w, τ 889 = some w → ∃ k : Nat, w = (k : Int) ∧ (k : Int) < m 52 1 ∧ m 54 k = 1
noncomputable def lB (τ : Tf) (m : Mt) : Prop := (∀ q o b, τ 890 = some q → τ 891 = some o → τ 892 = some b → ∃ Q O : Nat, q = (Q : Int) ∧ o = (O : Int) ∧ (b = 0 ∨ b = 1) ∧ (b = 1 ↔ Hd m Q O)) ∧ ∀ z q r, τ 893 = some z → τ 894 = some q → τ 895 = some r → (r = 0 ∨ r = 1) ∧ (r = 1 ↔ Und m z q)
noncomputable def SL (τ : Tf) (m : Mt) : Prop := (lA τ m ∧ lZ m ∧ lG m) ∧ lK τ m ∧ lW τ m ∧ lQ τ m ∧ lB τ m
/-- a lend that gives what is asked for: its parts are known -/
theorem fit_no {m : Mt} {i : Nat} {p a t u : Int} {τ : Tf} (hB : lB τ m) (h : Fit m i p a t u) : m 54 i = 1 ∧ m 53 (8 * i + 1) = p ∧ u ≤ m 53 (8 * i + 5) ∧ (∀ q o b, τ 890 = some q → τ 891 = some o → τ 892 = some b → q = m 53 (8 * i + 2) → o = a → b = 1) ∧ ∀ z q r, τ 893 = some z → τ 894 = some q → τ 895 = some r → z = m 53 (8 * i + 3) → q = t → r = 1 := by
  obtain ⟨h1, h2, h3, ⟨x, y, h4, h5, h6⟩, h7⟩ := h
  refine ⟨h1, h2, h3, fun q o b e1 e2 e3 e4 e5 => ?_, fun z q r e1 e2 e3 e4 e5 => ?_⟩
  · obtain ⟨Q, O, k1, k2, _, k4⟩ := hB.1 q o b e1 e2 e3
    have eQ : Q = x := by omega
    have eO : O = y := by omega
    rw [eQ, eO] at k4
    exact k4.mpr h6
  · obtain ⟨_, k2⟩ := hB.2 z q r e1 e2 e3
    rw [e4, e5] at k2
    exact k2.mpr h7
theorem fit_yes {m : Mt} {i : Nat} {p a t u : Int} {τ : Tf} (hB : lB τ m) {q o b z q' r : Int} (h1 : m 54 i = 1) (h2 : m 53 (8 * i + 1) = p) (h3 : u ≤ m 53 (8 * i + 5)) (e1 : τ 890 = some q) (e2 : τ 891 = some o) (e3 : τ 892 = some b) (e4 : q = m 53 (8 * i + 2)) (e5 : o = a) (e6 : 1 ≤ b) (e7 : τ 893 = some z) (e8 : τ 894 = some q') (e9 : τ 895 = some r) (f1 : z = m 53 (8 * i + 3)) (f2 : q' = t) (f3 : 1 ≤ r) : Fit m i p a t u := by
  obtain ⟨Q, O, k1, k2, k3, k4⟩ := hB.1 q o b e1 e2 e3
  obtain ⟨k5, k6⟩ := hB.2 z q' r e7 e8 e9
  rw [f1, f2] at k6
  exact ⟨h1, h2, h3, ⟨Q, O, by omega, by omega, k4.mp (by omega)⟩, k6.mp (by omega)⟩
theorem jst_up {m : Mt} {j : Nat} {x : Int} (up : ∀ i : Nat, (i : Int) < m 52 1 → m 54 i = 1 → wrM m 54 j x 54 i = 1) (new : ∀ i : Nat, (i : Int) < m 52 1 → wrM m 54 j x 54 i = 1 → m 54 i = 1 ∨ Own m i ∨ Gvn m (m 53 (8 * i + 0)) (m 53 (8 * i + 2)) (m 53 (8 * i + 3)) (m 53 (8 * i + 5) + 1)) (h : Jst m) : Jst (wrM m 54 j x) := fun i hi h1 => by
  rcases new i hi h1 with a | a | ⟨k, k1, k2, k3⟩
  · rcases h i hi a with o | ⟨k, k1, k2, k3⟩
    · exact Or.inl o
    · exact Or.inr ⟨k, k1, k2, up k k1 k3.1, k3.2⟩
  · exact Or.inl a
  · exact Or.inr ⟨k, k1, k2, up k k1 k3.1, k3.2⟩
theorem jst_e {m : Mt} {j : Nat} {x : Int} (e : wrM m 52 j x 52 1 = m 52 1) (h : Jst m) : Jst (wrM m 52 j x) := fun i hi h1 => by
  have hi : (i : Int) < wrM m 52 j x 52 1 := hi
  rcases h i (by omega) h1 with o | ⟨k, k1, k2, k3⟩
  · exact Or.inl o
  · exact Or.inr ⟨k, (show (k : Int) < wrM m 52 j x 52 1 by omega), k2, k3⟩
theorem d1 {g : Nat → Int} {a : Nat} {x k : Int} (h : dot g [(a, x)] ≤ k) : x * g a ≤ k := by
  simp only [dot] at h; omega
theorem d2 {g : Nat → Int} {a b : Nat} {x y k : Int} (h : dot g [(a, x), (b, y)] ≤ k) : x * g a + y * g b ≤ k := by
  simp only [dot] at h; omega
theorem d3 {g : Nat → Int} {a b c : Nat} {x y z k : Int} (h : dot g [(a, x), (b, y), (c, z)] ≤ k) : x * g a + y * g b + z * g c ≤ k := by
  simp only [dot] at h; omega
theorem no9 {α : Type} {o : Option α} {a : α} {P : Prop} (h : o = none) (h' : o = some a) : P := by rw [h] at h'; cases h'
theorem inj9 {α : Type} {o : Option α} {a b : α} (h : o = some a) (h' : o = some b) : b = a := Option.some.inj (h'.symm.trans h)
theorem nat9 {z : Int} {n : Nat} (h0 : 0 ≤ z) (h1 : z < (n : Int)) : ∃ j : Nat, z = (j : Int) ∧ j < n := ⟨z.toNat, by omega, by omega⟩
theorem f1 {g : Nat → Int} {a : Nat} {x k : Int} (h : x * g a ≤ k) : dot g [(a, x)] ≤ k := by
  simp only [dot]; omega
theorem f2 {g : Nat → Int} {a b : Nat} {x y k : Int} (h : x * g a + y * g b ≤ k) : dot g [(a, x), (b, y)] ≤ k := by
  simp only [dot]; omega
theorem wr_at {m : Mt} {k j : Nat} {x : Int} : wrM m k j x k j = x := by
  unfold wrM; rw [Nat.beq_refl, Nat.beq_refl]; rfl
theorem wr_ne {m : Mt} {k j i : Nat} {x : Int} (h : i ≠ j) : wrM m k j x k i = m k i := by
  have : Nat.beq i j = false := by
    cases q : Nat.beq i j with
    | false => rfl
    | true => exact absurd (Nat.eq_of_beq_eq_true q) h
  unfold wrM; rw [Nat.beq_refl, this]; rfl
theorem Col8.at {t kM c : Nat} {τ : Tf} {m : Mt} (h : Col8 t kM c τ m) (hn : τ t = none) {i j : Nat} {r : Int} (hr : r = (i : Int)) (hi : i < 60) (hj : 8 * r + (c : Int) = (j : Int)) : m 53 j = m kM i := by
  have : j = 8 * i + c := by omega
  rw [this]
  exact h.1 hn i hi
theorem Col8.wr {t kM c : Nat} {τ : Tf} {m : Mt} (h : Col8 t kM c τ m) {k j : Nat} {x : Int} (h1 : k ≠ kM) (h2 : k ≠ 53 ∨ ∀ i : Nat, j ≠ 8 * i + c) : Col8 t kM c τ (wrM m k j x) := by
  have e1 : ∀ i, wrM m k j x kM i = m kM i := fun i => by
    have : Nat.beq kM k = false := by
      cases q : Nat.beq kM k with
      | false => rfl
      | true => exact absurd (Nat.eq_of_beq_eq_true q).symm h1
    unfold wrM; rw [this]; rfl
  have e2 : ∀ i, wrM m k j x 53 (8 * i + c) = m 53 (8 * i + c) := fun i => by
    unfold wrM
    rcases h2 with h2 | h2
    · have : Nat.beq 53 k = false := by
        cases q : Nat.beq 53 k with
        | false => rfl
        | true => exact absurd (Nat.eq_of_beq_eq_true q).symm h2
      rw [this]; rfl
    · have : Nat.beq (8 * i + c) j = false := by
        cases q : Nat.beq (8 * i + c) j with
        | false => rfl
        | true => exact absurd (Nat.eq_of_beq_eq_true q).symm (h2 i)
      rw [this, Bool.and_false]; rfl
  refine ⟨fun q i hi => by rw [e1, e2]; exact h.1 q i hi, fun z q => ?_⟩
  obtain ⟨i, a1, a2, a3, a4, a5⟩ := h.2 z q
  exact ⟨i, a1, a2, fun i' h1 h2 => by rw [e1, e2]; exact a3 i' h1 h2, fun y q => by rw [e2]; exact a4 y q, fun y q => by rw [e1]; exact a5 y q⟩
theorem Col8.op {t kM c : Nat} {τ τ' : Tf} {m : Mt} (h : Col8 t kM c τ m) (hk : kM ≠ 53) {i j : Nat} {x : Int} (hi : i < 60) (hj : j = 8 * i + c) (ho : τ t = none ∨ τ t = some (i : Int)) (h1 : τ' t = some (i : Int)) (h2 : τ' (t + 1) = some x) (h3 : ∀ y, τ' (t + 2) = some y → m kM i = y) : Col8 t kM c τ' (wrM m 53 j x) := by
  have e1 : ∀ i', wrM m 53 j x kM i' = m kM i' := fun i' => by
    have : Nat.beq kM 53 = false := by
      cases q : Nat.beq kM 53 with
      | false => rfl
      | true => exact absurd (Nat.eq_of_beq_eq_true q) hk
    unfold wrM; rw [this]; rfl
  refine ⟨fun q => no9 q h1, fun z q => ?_⟩
  have ez := inj9 h1 q
  refine ⟨i, ez, hi, fun i' a b => ?_, fun y q => ?_, fun y q => by rw [e1]; exact h3 y q⟩
  · rw [e1, wr_ne (by omega)]
    rcases ho with ho | ho
    · exact h.1 ho i' a
    · obtain ⟨i0, b1, b2, b3, _⟩ := h.2 _ ho
      exact b3 i' a (by omega)
  · have ey := inj9 h2 q
    rw [← hj, wr_at]
    exact ey.symm
theorem Col8.cl {t kM c : Nat} {τ τ' : Tf} {m : Mt} (h : Col8 t kM c τ m) (hk : kM ≠ 53) {j : Nat} {x : Int} (h1 : τ t = some (j : Int)) (h2 : τ (t + 1) = some x) (h3 : τ' t = none) : Col8 t kM c τ' (wrM m kM j x) := by
  have e2 : ∀ i, wrM m kM j x 53 i = m 53 i := fun i => by
    have : Nat.beq 53 kM = false := by
      cases q : Nat.beq 53 kM with
      | false => rfl
      | true => exact absurd (Nat.eq_of_beq_eq_true q).symm hk
    unfold wrM; rw [this]; rfl
  obtain ⟨i0, b1, b2, b3, b4, _⟩ := h.2 _ h1
  have e0 : i0 = j := by omega
  subst e0
  refine ⟨fun _ i hi => ?_, fun z q => no9 h3 q⟩
  rw [e2]
  by_cases e : i = i0
  · subst e; rw [wr_at]; exact b4 x h2
  · rw [wr_ne e]; exact b3 i hi e
theorem Col8.tg {t kM c : Nat} {τ τ' : Tf} {m : Mt} (h : Col8 t kM c τ m) (h1 : τ' t = τ t) (h2 : τ' (t + 1) = τ (t + 1)) (h3 : τ' (t + 2) = τ (t + 2)) : Col8 t kM c τ' m := by
  unfold Col8
  rw [h1, h2, h3]
  exact h
end
end
