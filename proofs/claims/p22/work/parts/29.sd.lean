section
noncomputable section
/-! ===== WHAT ELSE HOLDS, 40: hints of acts held: 183, 184, 190 .. 204; what products may say of bits ===== -/
def PBt (J : Jt) : Prop := (∀ H σ t o b, R840 t o b → J H σ → J ((840, t) :: (841, o) :: (842, b) :: hdel 840 (hdel 841 (hdel 842 H))) σ) ∧ (∀ H σ t o w c, R843 t o w c → J H σ → J ((843, t) :: (844, o) :: (845, w) :: (846, c) :: hdel 843 (hdel 844 (hdel 845 (hdel 846 H)))) σ) ∧ ∀ H σ x y v, R847 x y v → J H σ → J ((847, x) :: (848, y) :: (849, v) :: hdel 847 (hdel 848 (hdel 849 H))) σ
theorem bS1_k {kT kH kF jB : Nat} {H H' : List (Nat × Int)} {σ : zS} (l : ∀ u, u ≤ 824 → lk H' u = lk H u) (h : bS1 kT kH kF jB H σ) : bS1 kT kH kF jB H' σ := by
  unfold bS1 efB at h ⊢
  rw [l 820 (by omega), l 821 (by omega), l 822 (by omega), l 823 (by omega), l 824 (by omega)]
  exact h
section H40
variable {T : Jx} {G : Gl} {cs : List Cp} {s : Sy} {ρ : List Int} {σ : zS} {kT kH kF jB kE : Nat}
theorem c_set (hP : PH T G cs (cC9 kT kH kF jB kE)) {H H' : List (Nat × Int)} (hJ : Jf T G (cS cs) H σ) (l : ∀ u, ¬ (820 ≤ u ∧ u ≤ 866) → lk H' u = lk H u) (hn : cS9b kT kH kF jB kE H' σ) : Jf T G (cS cs) H' σ := Jf_part hP.1 hP.2.1 hP.2.2.2 (fun t ht => (hP.2.1 _ hP.2.2.1).1 t ht) (fun u hu => l u (ct9_no hu)) hJ hn
theorem pb_ok (hP : PH T G cs (cC9 kT kH kF jB kE)) : PBt (Jf T G (cS cs)) := by
  refine ⟨fun H σ t o b hR hJ => ?_, fun H σ t o w c hR hJ => ?_, fun H σ x y v hR hJ => ?_⟩
  · obtain ⟨⟨s1, s5, s6⟩, hC⟩ := (hJ.2.2 _ hP.2.2.1 : cS9b kT kH kF jB kE H σ)
    have l : ∀ u, ¬ (840 ≤ u ∧ u ≤ 842) → lk ((840, t) :: (841, o) :: (842, b) :: hdel 840 (hdel 841 (hdel 842 H))) u = lk H u := fun u h => by
      rw [lk_cons, if_neg (by omega), lk_cons, if_neg (by omega), lk_cons, if_neg (by omega), lk_hdel, if_neg (by omega), lk_hdel, if_neg (by omega), lk_hdel, if_neg (by omega)]
    refine c_set hP hJ (fun u hu => l u (by omega)) ⟨⟨bS1_k (fun u hu => l u (by omega)) s1, fun t' o' b' h1 h2 h3 => ?_, fun t' o' w' c' h1 h2 h3 h4 => ?_⟩, cC_k (fun u hu => l u (by omega)) hC⟩
    · rw [lk_cons, if_pos rfl] at h1
      rw [lk_cons, if_neg (by decide), lk_cons, if_pos rfl] at h2
      rw [lk_cons, if_neg (by decide), lk_cons, if_neg (by decide), lk_cons, if_pos rfl] at h3
      rw [← Option.some.inj h1, ← Option.some.inj h2, ← Option.some.inj h3]
      exact hR
    · rw [l 843 (by decide)] at h1
      rw [l 844 (by decide)] at h2
      rw [l 845 (by decide)] at h3
      rw [l 846 (by decide)] at h4
      exact s6 t' o' w' c' h1 h2 h3 h4
  · obtain ⟨⟨s1, s5, s6⟩, hC⟩ := (hJ.2.2 _ hP.2.2.1 : cS9b kT kH kF jB kE H σ)
    have l : ∀ u, ¬ (843 ≤ u ∧ u ≤ 846) → lk ((843, t) :: (844, o) :: (845, w) :: (846, c) :: hdel 843 (hdel 844 (hdel 845 (hdel 846 H)))) u = lk H u := fun u h => by
      rw [lk_cons, if_neg (by omega), lk_cons, if_neg (by omega), lk_cons, if_neg (by omega), lk_cons, if_neg (by omega), lk_hdel, if_neg (by omega), lk_hdel, if_neg (by omega), lk_hdel, if_neg (by omega), lk_hdel, if_neg (by omega)]
    refine c_set hP hJ (fun u hu => l u (by omega)) ⟨⟨bS1_k (fun u hu => l u (by omega)) s1, fun t' o' b' h1 h2 h3 => ?_, fun t' o' w' c' h1 h2 h3 h4 => ?_⟩, cC_k (fun u hu => l u (by omega)) hC⟩
    · rw [l 840 (by decide)] at h1
      rw [l 841 (by decide)] at h2
      rw [l 842 (by decide)] at h3
      exact s5 t' o' b' h1 h2 h3
    · rw [lk_cons, if_pos rfl] at h1
      rw [lk_cons, if_neg (by decide), lk_cons, if_pos rfl] at h2
      rw [lk_cons, if_neg (by decide), lk_cons, if_neg (by decide), lk_cons, if_pos rfl] at h3
      rw [lk_cons, if_neg (by decide), lk_cons, if_neg (by decide), lk_cons, if_neg (by decide), lk_cons, if_pos rfl] at h4
      rw [← Option.some.inj h1, ← Option.some.inj h2, ← Option.some.inj h3, ← Option.some.inj h4]
      exact hR
  · obtain ⟨hB, ⟨g0, g1, g2, _⟩, g4⟩ := (hJ.2.2 _ hP.2.2.1 : cS9b kT kH kF jB kE H σ)
    have l : ∀ u, ¬ (847 ≤ u ∧ u ≤ 849) → lk ((847, x) :: (848, y) :: (849, v) :: hdel 847 (hdel 848 (hdel 849 H))) u = lk H u := fun u h => by
      rw [lk_cons, if_neg (by omega), lk_cons, if_neg (by omega), lk_cons, if_neg (by omega), lk_hdel, if_neg (by omega), lk_hdel, if_neg (by omega), lk_hdel, if_neg (by omega)]
    refine c_set hP hJ (fun u hu => l u (by omega)) ⟨bS9_k (fun u hu => l u (by omega)) hB, ?_⟩
    unfold cC
    rw [l 850 (by decide), l 851 (by decide), l 852 (by decide), l 853 (by decide), l 855 (by decide), l 856 (by decide), l 857 (by decide), l 858 (by decide), l 859 (by decide), l 860 (by decide), l 861 (by decide), l 862 (by decide)]
    refine ⟨⟨g0, g1, g2, fun a b c h1 h2 h3 => ?_⟩, g4⟩
    rw [lk_cons, if_pos rfl] at h1
    rw [lk_cons, if_neg (by decide), lk_cons, if_pos rfl] at h2
    rw [lk_cons, if_neg (by decide), lk_cons, if_neg (by decide), lk_cons, if_pos rfl] at h3
    rw [← Option.some.inj h1, ← Option.some.inj h2, ← Option.some.inj h3]
    exact hR
/-- a hint that changes tags alone -/
theorem c_hint (hP : PH T G cs (cC9 kT kH kF jB kE)) (ho : Ok (Jf T G (cS cs)) s ρ σ) {hl' : List (Nat × AV)} {H H' : List (Nat × Int)} (hJ : Jf T G (cS cs) H σ) (hh : Hl ρ hl' H') (l : ∀ u, ¬ (820 ≤ u ∧ u ≤ 866) → lk H' u = lk H u) (hn : cS9b kT kH kF jB kE H' σ) : Ok (Jf T G (cS cs)) (s.seth hl') ρ σ :=
  ⟨ho.len, ho.env, ho.me, ho.cg, ho.df, ho.fa, H', hh, c_set hP hJ l hn⟩
def h183 (kH kF jB : Nat) (p : AV) (s : Sy) : Sy := match mget s.me kF (.c (jB : Int)) with
  | some b => (match lk s.hl 821, lk s.hl 822, lk s.hl 824 with
    | some a, some o, some v => bif ((b.isI && eqA s b (.c 1)) && (v.isI && !(isS (lk s.hl 820)))) && (eq6 s p a o && (!(isS (mget s.me kH (pl s p))) && eqA s p (pl s p))) then s.add kH (pl s p) v else s
    | _, _, _ => s)
  | none => s
theorem h183_ok (hm : cC9 kT kH kF jB kE ∈ cs) {p : AV} {z : Int} (hp : ev ρ p = some z) (ho : Ok (Jf T G (cS cs)) s ρ σ) : Ok (Jf T G (cS cs)) (h183 kH kF jB p s) ρ σ := by
  unfold h183
  split
  · rename_i b hb
    split
    · rename_i a o v qa qo qv
      cases hc : ((b.isI && eqA s b (.c 1)) && (v.isI && !(isS (lk s.hl 820)))) && (eq6 s p a o && (!(isS (mget s.me kH (pl s p))) && eqA s p (pl s p))) with
      | false => exact ho
      | true =>
        simp only [Bool.and_eq_true] at hc
        obtain ⟨⟨⟨c1, c2⟩, c3, c4⟩, c5, c6, c7⟩ := hc
        obtain ⟨H, i1, i2⟩ := ho.inv
        obtain ⟨⟨⟨s1, s2, s3, s4⟩, _⟩, _⟩ := (i2.2.2 _ hm : cS9b kT kH kF jB kE H σ)
        obtain ⟨za, a1, a2⟩ := tag_get ho i1 qa
        obtain ⟨zo, o1, o2⟩ := tag_get ho i1 qo
        obtain ⟨zv, v1, v2⟩ := tag_get ho i1 qv
        have no := no_tag i1 c4
        have eb : ev ρ b = some (σ.1 kF jB).toInt := me_at ho hb rfl c1
        have g1 : (σ.1 kF jB).toInt = 1 := eqA_ok ho c2 eb (y := 1) rfl
        obtain ⟨A, O, q1, q2, q3, q4, q5, q6, q7⟩ := s4 za zo a1 o1
        have ez := eq6_ok ho hp a2 o2 c5
        have ef := q7 zv v1
        unfold efB at ef
        rw [if_pos ⟨g1, no⟩] at ef
        obtain ⟨y, hy⟩ := pl_ev (s := s) hp
        have ey := eqA_ok ho c7 hp hy
        exact ho.addm ⟨6 * A + O, by rw [hy]; exact congrArg some (by omega), Or.inl ⟨c3, by rw [v2, ef]⟩⟩
    · exact ho
  · exact ho
def h184 (s : Sy) : Sy := s.seth (hdel 840 (hdel 841 (hdel 842 (hdel 843 (hdel 844 (hdel 845 (hdel 846 s.hl)))))))
theorem h184_ok (hP : PH T G cs (cC9 kT kH kF jB kE)) (ho : Ok (Jf T G (cS cs)) s ρ σ) : Ok (Jf T G (cS cs)) (h184 s) ρ σ := by
  obtain ⟨H, i1, i2⟩ := ho.inv
  obtain ⟨⟨s1, s5, s6⟩, hC⟩ := (i2.2.2 _ hP.2.2.1 : cS9b kT kH kF jB kE H σ)
  have l : ∀ u, ¬ (840 ≤ u ∧ u ≤ 846) → lk (hdel 840 (hdel 841 (hdel 842 (hdel 843 (hdel 844 (hdel 845 (hdel 846 H))))))) u = lk H u := fun u h => by
    rw [lk_hdel, if_neg (by omega), lk_hdel, if_neg (by omega), lk_hdel, if_neg (by omega), lk_hdel, if_neg (by omega), lk_hdel, if_neg (by omega), lk_hdel, if_neg (by omega), lk_hdel, if_neg (by omega)]
  refine c_hint hP ho i2 (((((((i1.del).del).del).del).del).del).del) (fun u hu => l u (by omega)) ⟨⟨bS1_k (fun u hu => l u (by omega)) s1, fun t o b h => ?_, fun t o w c h => ?_⟩, cC_k (fun u hu => l u (by omega)) hC⟩
  · rw [lk_hdel, if_pos rfl] at h; cases h
  · rw [lk_hdel, if_neg (by decide), lk_hdel, if_neg (by decide), lk_hdel, if_neg (by decide), lk_hdel, if_pos rfl] at h; cases h
def h190 (s : Sy) : Sy := bif (isS (lk s.hl 853) && !(isS (lk s.hl 850))) && (!(isS (lk s.hl 851)) && !(isS (lk s.hl 852))) then s.seth ((850, .c 0) :: hdel 853 s.hl) else s
theorem h190_ok (hP : PH T G cs (cC9 kT kH kF jB kE)) (ho : Ok (Jf T G (cS cs)) s ρ σ) : Ok (Jf T G (cS cs)) (h190 s) ρ σ := by
  unfold h190
  cases hc : (isS (lk s.hl 853) && !(isS (lk s.hl 850))) && (!(isS (lk s.hl 851)) && !(isS (lk s.hl 852))) with
  | false => exact ho
  | true =>
    obtain ⟨H, i1, i2⟩ := ho.inv
    obtain ⟨hB, ⟨g0, g1, g2, g3⟩, g4⟩ := (i2.2.2 _ hP.2.2.1 : cS9b kT kH kF jB kE H σ)
    have l : ∀ u, u ≠ 850 → u ≠ 853 → lk ((850, (0 : Int)) :: hdel 853 H) u = lk H u := fun u h1 h2 => by rw [lk_cons, if_neg h1, lk_hdel, if_neg h2]
    have l0 : lk ((850, (0 : Int)) :: hdel 853 H) 850 = some 0 := by rw [lk_cons, if_pos rfl]
    refine c_hint hP ho i2 (H' := (850, 0) :: hdel 853 H) ⟨⟨rfl, rfl⟩, i1.del⟩ (fun u hu => l u (by omega) (by omega)) ⟨bS9_k (fun u hu => l u (by omega) (by omega)) hB, ?_⟩
    unfold cC
    rw [l0, l 847 (by decide) (by decide), l 848 (by decide) (by decide), l 849 (by decide) (by decide), l 855 (by decide) (by decide), l 856 (by decide) (by decide), l 857 (by decide) (by decide), l 858 (by decide) (by decide), l 859 (by decide) (by decide), l 860 (by decide) (by decide), l 861 (by decide) (by decide), l 862 (by decide) (by decide)]
    refine ⟨⟨fun h => (by cases h), fun i h a b h1 => ?_, fun h => (by cases h), g3⟩, g4⟩
    have := Option.some.inj h
    omega
def h191 (s : Sy) : Sy := match lk s.hl 850 with
  | some i => bif (leAV s (.c 6) i) && (!(isS (lk s.hl 851)) && !(isS (lk s.hl 852))) then s.seth ((851, .c 0) :: (852, .c 0) :: hdel 850 s.hl) else s
  | none => s
theorem h191_ok (hP : PH T G cs (cC9 kT kH kF jB kE)) (ho : Ok (Jf T G (cS cs)) s ρ σ) : Ok (Jf T G (cS cs)) (h191 s) ρ σ := by
  unfold h191
  split
  · rename_i i qi
    cases hc : (leAV s (.c 6) i) && (!(isS (lk s.hl 851)) && !(isS (lk s.hl 852))) with
    | false => exact ho
    | true =>
      rw [Bool.and_eq_true] at hc
      obtain ⟨H, i1, i2⟩ := ho.inv
      obtain ⟨hB, ⟨g0, g1, g2, g3⟩, g4⟩ := (i2.2.2 _ hP.2.2.1 : cS9b kT kH kF jB kE H σ)
      obtain ⟨zi, e1, e2⟩ := tag_get ho i1 qi
      have f := leAV_ok ho hc.1 (x := 6) rfl e2
      have l : ∀ u, u ≠ 850 → u ≠ 851 → u ≠ 852 → lk ((851, (0 : Int)) :: (852, 0) :: hdel 850 H) u = lk H u := fun u h1 h2 h3 => by rw [lk_cons, if_neg h2, lk_cons, if_neg h3, lk_hdel, if_neg h1]
      have l0 : lk ((851, (0 : Int)) :: (852, 0) :: hdel 850 H) 850 = none := by rw [lk_cons, if_neg (by decide), lk_cons, if_neg (by decide), lk_hdel, if_pos rfl]
      have l1 : lk ((851, (0 : Int)) :: (852, 0) :: hdel 850 H) 851 = some 0 := by rw [lk_cons, if_pos rfl]
      have l2 : lk ((851, (0 : Int)) :: (852, 0) :: hdel 850 H) 852 = some 0 := by rw [lk_cons, if_neg (by decide), lk_cons, if_pos rfl]
      refine c_hint hP ho i2 (H' := (851, 0) :: (852, 0) :: hdel 850 H) ⟨⟨rfl, rfl⟩, ⟨rfl, rfl⟩, i1.del⟩ (fun u hu => l u (by omega) (by omega) (by omega)) ⟨bS9_k (fun u hu => l u (by omega) (by omega) (by omega)) hB, ?_⟩
      unfold cC
      rw [l0, l1, l2, l 847 (by decide) (by decide) (by decide), l 848 (by decide) (by decide) (by decide), l 849 (by decide) (by decide) (by decide), l 855 (by decide) (by decide) (by decide), l 856 (by decide) (by decide) (by decide), l 857 (by decide) (by decide) (by decide), l 858 (by decide) (by decide) (by decide), l 859 (by decide) (by decide) (by decide), l 860 (by decide) (by decide) (by decide), l 861 (by decide) (by decide) (by decide), l 862 (by decide) (by decide) (by decide)]
      refine ⟨⟨fun _ h => (by cases h), fun i h => (by cases h), fun _ k i h h' => ⟨0, (Option.some.inj h).symm, by decide, fun a b h2 h3 => ?_⟩, g3⟩, g4⟩
      have := Option.some.inj h'
      rw [if_neg (by omega)]
      exact g1 zi e1 a b (by omega) h2 h3
  · exact ho
def h193 (s : Sy) : Sy := match lk s.hl 851, lk s.hl 852 with
  | some k, some i => bif leAV s (.c 6) i && leAV s k (.c 5) then s.seth (hup 851 (shA k 1) (hup 852 (.c 0) s.hl)) else s
  | _, _ => s
theorem h193_ok (hP : PH T G cs (cC9 kT kH kF jB kE)) (ho : Ok (Jf T G (cS cs)) s ρ σ) : Ok (Jf T G (cS cs)) (h193 s) ρ σ := by
  unfold h193
  split
  · rename_i k i qk qi
    cases hc : leAV s (.c 6) i && leAV s k (.c 5) with
    | false => exact ho
    | true =>
      rw [Bool.and_eq_true] at hc
      obtain ⟨H, i1, i2⟩ := ho.inv
      obtain ⟨hB, ⟨g0, g1, g2, g3⟩, g4⟩ := (i2.2.2 _ hP.2.2.1 : cS9b kT kH kF jB kE H σ)
      obtain ⟨zi, e1, e2⟩ := tag_get ho i1 qi
      obtain ⟨zk, k1, k2⟩ := tag_get ho i1 qk
      have f := leAV_ok ho hc.1 (x := 6) rfl e2
      have f5 := leAV_ok ho hc.2 k2 (y := 5) rfl
      have l : ∀ u, u ≠ 851 → u ≠ 852 → lk (hup 851 (zk + 1) (hup 852 0 H)) u = lk H u := fun u h1 h2 => by rw [lk_hup_ne h1, lk_hup_ne h2]
      have l1 : lk (hup 851 (zk + 1) (hup 852 0 H)) 851 = some (zk + 1) := lk_hup_at (b := zk) (by rw [lk_hup_ne (by decide)]; exact k1)
      have l2 : lk (hup 851 (zk + 1) (hup 852 0 H)) 852 = some 0 := by rw [lk_hup_ne (by decide)]; exact lk_hup_at e1
      refine c_hint hP ho i2 (Hl.up (shA_ev k2) (Hl.up (a := .c 0) (x := 0) rfl i1)) (fun u hu => l u (by omega) (by omega)) ⟨bS9_k (fun u hu => l u (by omega) (by omega)) hB, ?_⟩
      unfold cC
      rw [l1, l2, l 850 (by decide) (by decide), l 853 (by decide) (by decide), l 847 (by decide) (by decide), l 848 (by decide) (by decide), l 849 (by decide) (by decide), l 855 (by decide) (by decide), l 856 (by decide) (by decide), l 857 (by decide) (by decide), l 858 (by decide) (by decide), l 859 (by decide) (by decide), l 860 (by decide) (by decide), l 861 (by decide) (by decide), l 862 (by decide) (by decide)]
      refine ⟨⟨fun _ h => (by cases h), g1, fun z0 k' i' h h' => ?_, g3⟩, g4⟩
      obtain ⟨K, q1, q2, q3⟩ := g2 z0 zk zi k1 e1
      refine ⟨K + 1, by rw [← Option.some.inj h]; omega, by omega, fun a b h2 h3 => ?_⟩
      have := Option.some.inj h'
      rw [if_neg (by omega)]
      have := q3 a b h2 h3
      rw [if_pos (by omega)] at this
      exact this
  · exact ho
def h194 (s : Sy) : Sy := match lk s.hl 851, lk s.hl 852 with
  | some k, some i => bif leAV s (.c 6) k && leAV s i (.c 0) then s.seth (hdel 851 (hdel 852 s.hl)) else s
  | _, _ => s
theorem h194_ok (hP : PH T G cs (cC9 kT kH kF jB kE)) (ho : Ok (Jf T G (cS cs)) s ρ σ) : Ok (Jf T G (cS cs)) (h194 s) ρ σ := by
  unfold h194
  split
  · rename_i k i qk qi
    cases hc : leAV s (.c 6) k && leAV s i (.c 0) with
    | false => exact ho
    | true =>
      rw [Bool.and_eq_true] at hc
      obtain ⟨H, i1, i2⟩ := ho.inv
      obtain ⟨hB, ⟨g0, g1, g2, g3⟩, g4⟩ := (i2.2.2 _ hP.2.2.1 : cS9b kT kH kF jB kE H σ)
      obtain ⟨zi, e1, e2⟩ := tag_get ho i1 qi
      obtain ⟨zk, k1, k2⟩ := tag_get ho i1 qk
      have f := leAV_ok ho hc.1 (x := 6) rfl k2
      have f0 := leAV_ok ho hc.2 e2 (y := 0) rfl
      have l : ∀ u, u ≠ 851 → u ≠ 852 → lk (hdel 851 (hdel 852 H)) u = lk H u := fun u h1 h2 => by rw [lk_hdel, if_neg h1, lk_hdel, if_neg h2]
      have l1 : lk (hdel 851 (hdel 852 H)) 851 = none := by rw [lk_hdel, if_pos rfl]
      refine c_hint hP ho i2 ((i1.del).del) (fun u hu => l u (by omega) (by omega)) ⟨bS9_k (fun u hu => l u (by omega) (by omega)) hB, ?_⟩
      unfold cC
      rw [l1, l 850 (by decide) (by decide), l 853 (by decide) (by decide), l 847 (by decide) (by decide), l 848 (by decide) (by decide), l 849 (by decide) (by decide), l 855 (by decide) (by decide), l 856 (by decide) (by decide), l 857 (by decide) (by decide), l 858 (by decide) (by decide), l 859 (by decide) (by decide), l 860 (by decide) (by decide), l 861 (by decide) (by decide), l 862 (by decide) (by decide)]
      refine ⟨⟨fun z0 _ _ a b h2 h3 => ?_, g1, fun _ k' i' h => (by cases h), g3⟩, g4⟩
      obtain ⟨K, q1, q2, q3⟩ := g2 z0 zk zi k1 e1
      have eK : K = 6 := by omega
      subst eK
      have := q3 a b h2 h3
      rw [if_neg (by omega)] at this
      exact this
  · exact ho
def h192 (kE : Nat) (a : AV) (s : Sy) : Sy := match lk s.hl 851, lk s.hl 852, lk s.hl 840 with
  | some k, some i, some t => (match lk s.hl 841, lk s.hl 842, oth s kE i with
    | some o, some b, some x => bif ((eqA s a i && eqA s x t) && (eqA s o k && eqA s b (.c 0))) && ((leAV s (.c 0) i && leAV s i (.c 5)) && (leAV s (.c 0) k && leAV s k (.c 5))) then s.seth (hup 852 (shA i 1) s.hl) else s
    | _, _, _ => s)
  | _, _, _ => s
theorem h192_ok (hP : PH T G cs (cC9 kT kH kF jB kE)) {a : AV} (ho : Ok (Jf T G (cS cs)) s ρ σ) : Ok (Jf T G (cS cs)) (h192 kE a s) ρ σ := by
  unfold h192
  split
  · rename_i k i t qk qi qt
    split
    · rename_i o b x qo qb hx
      cases hc : ((eqA s a i && eqA s x t) && (eqA s o k && eqA s b (.c 0))) && ((leAV s (.c 0) i && leAV s i (.c 5)) && (leAV s (.c 0) k && leAV s k (.c 5))) with
      | false => exact ho
      | true =>
        simp only [Bool.and_eq_true] at hc
        obtain ⟨⟨⟨_, c2⟩, c3, c4⟩, ⟨c5, c6⟩, c7, c8⟩ := hc
        obtain ⟨H, i1, i2⟩ := ho.inv
        obtain ⟨hB, ⟨g0, g1, g2, g3⟩, g4⟩ := (i2.2.2 _ hP.2.2.1 : cS9b kT kH kF jB kE H σ)
        obtain ⟨zk, k1, k2⟩ := tag_get ho i1 qk
        obtain ⟨zi, e1, e2⟩ := tag_get ho i1 qi
        obtain ⟨zt, t1, t2⟩ := tag_get ho i1 qt
        obtain ⟨zo, o1, o2⟩ := tag_get ho i1 qo
        obtain ⟨zb, b1, b2⟩ := tag_get ho i1 qb
        have f5 := leAV_ok ho c5 (x := 0) rfl e2
        have f6 := leAV_ok ho c6 e2 (y := 5) rfl
        have f8 := leAV_ok ho c8 k2 (y := 5) rfl
        have hi : ev ρ i = some ((zi.toNat : Nat) : Int) := e2.trans (congrArg some (by omega))
        have f2 := eqA_ok ho c2 (oth_ok ho hx hi).2 t2
        have f3 := eqA_ok ho c3 o2 k2
        have f4 := eqA_ok ho c4 b2 (y := 0) rfl
        have l : ∀ u, u ≠ 852 → lk (hup 852 (zi + 1) H) u = lk H u := fun u h => lk_hup_ne h
        have l2 : lk (hup 852 (zi + 1) H) 852 = some (zi + 1) := lk_hup_at e1
        refine c_hint hP ho i2 (i1.up (shA_ev e2)) (fun u hu => l u (by omega)) ⟨bS9_k (fun u hu => l u (by omega)) hB, ?_⟩
        unfold cC
        rw [l2, l 850 (by decide), l 851 (by decide), l 853 (by decide), l 847 (by decide), l 848 (by decide), l 849 (by decide), l 855 (by decide), l 856 (by decide), l 857 (by decide), l 858 (by decide), l 859 (by decide), l 860 (by decide), l 861 (by decide), l 862 (by decide)]
        refine ⟨⟨g0, g1, fun z0 k' i' h h' => ?_, g3⟩, g4⟩
        rw [k1] at h
        obtain ⟨K, q1, q2, q3⟩ := g2 z0 zk zi k1 e1
        have ek := Option.some.inj h
        have ei := Option.some.inj h'
        refine ⟨K, by omega, q2, fun a' b' h2 h3 => ?_⟩
        have hK : K < 6 := by omega
        have bit := (hB.2.1 zt zo zb t1 o1 b1).at (x := σ.1 kE zi.toNat) (n := K) f2 (by omega) hK
        rw [f4] at bit
        have no := b2i_0.mp bit.symm
        rw [q3 a' b' h2 h3]
        by_cases e : (a' : Int) < zi
        · rw [if_pos e, if_pos (by omega)]
        · rw [if_neg e]
          by_cases e2 : (a' : Int) < i'
          · rw [if_pos e2]
            have ea : a' = zi.toNat := by omega
            have nK : ¬ Wp (Eb kT σ) K a' K := fun q => by
              have := (q3 a' K h2 hK).mpr (by rw [if_neg e]; exact q)
              rw [ea, no] at this
              cases this
            constructor
            · exact Or.inl
            · rintro (q | q)
              · exact q
              · exact absurd q.1 nK
          · rw [if_neg e2]
    · exact ho
  · exact ho
def h195 (kE : Nat) (a : AV) (s : Sy) : Sy := match lk s.hl 840, lk s.hl 841, lk s.hl 842 with
  | some t, some o, some b => (match oth s kE a with
    | some x => bif (((!(isS (lk s.hl 855)) && !(isS (lk s.hl 850))) && (!(isS (lk s.hl 851)) && !(isS (lk s.hl 853)))) && (!(isS (lk s.hl 856)) && eqA s x t)) && ((leAV s (.c 0) a && leAV s a (.c 5)) && (leAV s (.c 0) o && leAV s o (.c 5))) then s.seth ((855, a) :: (861, o) :: (862, b) :: s.hl) else s
    | none => s)
  | _, _, _ => s
theorem h195_ok (hP : PH T G cs (cC9 kT kH kF jB kE)) {a : AV} {z : Int} (hz : ev ρ a = some z) (ho : Ok (Jf T G (cS cs)) s ρ σ) : Ok (Jf T G (cS cs)) (h195 kE a s) ρ σ := by
  unfold h195
  split
  · rename_i t o b qt qo qb
    split
    · rename_i x hx
      cases hc : (((!(isS (lk s.hl 855)) && !(isS (lk s.hl 850))) && (!(isS (lk s.hl 851)) && !(isS (lk s.hl 853)))) && (!(isS (lk s.hl 856)) && eqA s x t)) && ((leAV s (.c 0) a && leAV s a (.c 5)) && (leAV s (.c 0) o && leAV s o (.c 5))) with
      | false => exact ho
      | true =>
        simp only [Bool.and_eq_true] at hc
        obtain ⟨⟨⟨⟨c1, c2⟩, c3, c4⟩, c5, c6⟩, ⟨c7, c8⟩, c9, c10⟩ := hc
        obtain ⟨H, i1, i2⟩ := ho.inv
        obtain ⟨hB, ⟨g0, g1, g2, g3⟩, g4⟩ := (i2.2.2 _ hP.2.2.1 : cS9b kT kH kF jB kE H σ)
        have n0 := no_tag i1 c2
        have n1 := no_tag i1 c3
        have n3 := no_tag i1 c4
        have n6 := no_tag i1 c5
        obtain ⟨zt, t1, t2⟩ := tag_get ho i1 qt
        obtain ⟨zo, o1, o2⟩ := tag_get ho i1 qo
        obtain ⟨zb, b1, b2⟩ := tag_get ho i1 qb
        have f7 := leAV_ok ho c7 (x := 0) rfl hz
        have f8 := leAV_ok ho c8 hz (y := 5) rfl
        have f9 := leAV_ok ho c9 (x := 0) rfl o2
        have ha : ev ρ a = some ((z.toNat : Nat) : Int) := hz.trans (congrArg some (by omega))
        have f6 := eqA_ok ho c6 (oth_ok ho hx ha).2 t2
        have l : ∀ u, u ≠ 855 → u ≠ 861 → u ≠ 862 → lk ((855, z) :: (861, zo) :: (862, zb) :: H) u = lk H u := fun u h1 h2 h3 => by rw [lk_cons, if_neg h1, lk_cons, if_neg h2, lk_cons, if_neg h3]
        have l5 : lk ((855, z) :: (861, zo) :: (862, zb) :: H) 855 = some z := by rw [lk_cons, if_pos rfl]
        have la : lk ((855, z) :: (861, zo) :: (862, zb) :: H) 861 = some zo := by rw [lk_cons, if_neg (by decide), lk_cons, if_pos rfl]
        have lb : lk ((855, z) :: (861, zo) :: (862, zb) :: H) 862 = some zb := by rw [lk_cons, if_neg (by decide), lk_cons, if_neg (by decide), lk_cons, if_pos rfl]
        refine c_hint hP ho i2 (H' := (855, z) :: (861, zo) :: (862, zb) :: H) ⟨⟨rfl, hz⟩, ⟨rfl, o2⟩, ⟨rfl, b2⟩, i1⟩ (fun u hu => l u (by omega) (by omega) (by omega)) ⟨bS9_k (fun u hu => l u (by omega) (by omega) (by omega)) hB, ?_⟩
        unfold cC
        rw [l5, la, lb, l 850 (by decide) (by decide) (by decide), l 851 (by decide) (by decide) (by decide), l 852 (by decide) (by decide) (by decide), l 853 (by decide) (by decide) (by decide), l 847 (by decide) (by decide) (by decide), l 848 (by decide) (by decide) (by decide), l 849 (by decide) (by decide) (by decide), l 856 (by decide) (by decide) (by decide), l 857 (by decide) (by decide) (by decide), l 858 (by decide) (by decide) (by decide), l 859 (by decide) (by decide) (by decide), l 860 (by decide) (by decide) (by decide)]
        refine ⟨⟨g0, g1, g2, g3⟩, fun _ _ _ h => (by rw [n6] at h; cases h), g4.2.1, fun _ _ _ _ h => (by rw [n6] at h; cases h), fun q c d h1 h2 h3 Q O e1 e2 hO => ?_⟩
        have h1 := Option.some.inj h1
        have h2 := Option.some.inj h2
        have h3 := Option.some.inj h3
        have bit := (hB.2.1 zt zo zb t1 o1 b1).at (x := σ.1 kE z.toNat) (n := O) f6 (by omega) hO
        have eQ : z.toNat = Q := by omega
        rw [eQ] at bit
        have w := g0 n0 n1 n3 Q O (by omega) hO
        rw [← h3, bit]
        constructor
        · cases bitN (σ.1 kE Q) O
          · exact Or.inl rfl
          · exact Or.inr rfl
        · exact b2i_1.trans w
    · exact ho
  · exact ho
def h196 (p : AV) (s : Sy) : Sy := match lk s.hl 855, lk s.hl 843, lk s.hl 844 with
  | some q, some t, some o => (match lk s.hl 845, lk s.hl 846 with
    | some w, some c => bif (((eqA s t (.c 0) && eqA s o q) && (eqA s w p && eqA s c (.c 1))) && (!(isS (lk s.hl 856)) && (!(isS (lk s.hl 857)) && !(isS (lk s.hl 860))))) && (leAV s (.c 0) q && leAV s q (.c 5)) then s.seth ((856, p) :: s.hl) else s
    | _, _ => s)
  | _, _, _ => s
theorem h196_ok (hP : PH T G cs (cC9 kT kH kF jB kE)) {p : AV} {z : Int} (hz : ev ρ p = some z) (ho : Ok (Jf T G (cS cs)) s ρ σ) : Ok (Jf T G (cS cs)) (h196 p s) ρ σ := by
  unfold h196
  split
  · rename_i q t o qq qt qo
    split
    · rename_i w c qw qc
      cases hc : (((eqA s t (.c 0) && eqA s o q) && (eqA s w p && eqA s c (.c 1))) && (!(isS (lk s.hl 856)) && (!(isS (lk s.hl 857)) && !(isS (lk s.hl 860))))) && (leAV s (.c 0) q && leAV s q (.c 5)) with
      | false => exact ho
      | true =>
        simp only [Bool.and_eq_true] at hc
        obtain ⟨⟨⟨⟨c1, c2⟩, c3, c4⟩, c5, c6, c7⟩, c8, c9⟩ := hc
        obtain ⟨H, i1, i2⟩ := ho.inv
        obtain ⟨hB, g0, g4, g5, g6, g7⟩ := (i2.2.2 _ hP.2.2.1 : cS9b kT kH kF jB kE H σ)
        have n7 := no_tag i1 c6
        have n0 := no_tag i1 c7
        obtain ⟨zq, q1, q2⟩ := tag_get ho i1 qq
        obtain ⟨zt, t1, t2⟩ := tag_get ho i1 qt
        obtain ⟨zo, o1, o2⟩ := tag_get ho i1 qo
        obtain ⟨zw, w1, w2⟩ := tag_get ho i1 qw
        obtain ⟨zc, k1, k2⟩ := tag_get ho i1 qc
        have f1 := eqA_ok ho c1 t2 (y := 0) rfl
        have f2 := eqA_ok ho c2 o2 q2
        have f3 := eqA_ok ho c3 w2 hz
        have f4 := eqA_ok ho c4 k2 (y := 1) rfl
        have f8 := leAV_ok ho c8 (x := 0) rfl q2
        have f9 := leAV_ok ho c9 q2 (y := 5) rfl
        obtain ⟨X, M, e1, e2, up⟩ := hB.2.2 zt zo zw zc t1 o1 w1 k1
        have eX : X = 0 := Int32.toInt_inj.mp (by rw [e1, f1]; rfl)
        have bit := up zq.toNat (by omega) (by omega)
        have z0 : ∀ m, m < 6 → bitN (0 : Int32) m = false := by decide +kernel
        have l : ∀ u, u ≠ 856 → lk ((856, z) :: H) u = lk H u := fun u h => by rw [lk_cons, if_neg h]
        have l6 : lk ((856, z) :: H) 856 = some z := by rw [lk_cons, if_pos rfl]
        refine c_hint hP ho i2 (H' := (856, z) :: H) ⟨⟨rfl, hz⟩, i1⟩ (fun u hu => l u (by omega)) ⟨bS9_k (fun u hu => l u (by omega)) hB, ?_⟩
        unfold cC
        rw [l6, l 850 (by decide), l 851 (by decide), l 852 (by decide), l 853 (by decide), l 847 (by decide), l 848 (by decide), l 849 (by decide), l 855 (by decide), l 857 (by decide), l 858 (by decide), l 859 (by decide), l 860 (by decide), l 861 (by decide), l 862 (by decide)]
        refine ⟨g0, fun a b h h' => ⟨zq.toNat, M, ?_, by omega, ?_, ?_, fun b hb q => ?_⟩, fun _ _ _ _ _ h => (by rw [n7] at h; cases h), fun _ _ _ _ _ h => (by rw [n0] at h; cases h), g7⟩
        · rw [q1] at h
          have := Option.some.inj h
          omega
        · rw [← Option.some.inj h', e2]; exact f3
        · have := bit zq.toNat (by omega)
          rw [if_pos rfl, f4] at this
          exact b2i_1.mp this
        · have := bit b hb
          by_cases e : b = zq.toNat
          · rw [e]; exact wp_le (k := 0) (by decide) (Or.inl rfl)
          · rw [if_neg e, eX, z0 b hb, q] at this
            cases this
    · exact ho
  · exact ho
def h197 (b : AV) (s : Sy) : Sy := match lk s.hl 855, lk s.hl 856 with
  | some _, some m => bif eqA s b m then s.seth ((857, b) :: (858, .c 0) :: (859, .c 0) :: hdel 859 (hdel 858 (hdel 857 s.hl))) else s
  | _, _ => s
theorem h197_ok (hP : PH T G cs (cC9 kT kH kF jB kE)) {b : AV} {z : Int} (hz : ev ρ b = some z) (ho : Ok (Jf T G (cS cs)) s ρ σ) : Ok (Jf T G (cS cs)) (h197 b s) ρ σ := by
  unfold h197
  split
  · rename_i q m qq qm
    cases hc : eqA s b m with
    | false => exact ho
    | true =>
      obtain ⟨H, i1, i2⟩ := ho.inv
      obtain ⟨hB, g0, g4, g5, g6, g7⟩ := (i2.2.2 _ hP.2.2.1 : cS9b kT kH kF jB kE H σ)
      obtain ⟨zm, m1, m2⟩ := tag_get ho i1 qm
      have f := eqA_ok ho hc hz m2
      have l : ∀ u, ¬ (857 ≤ u ∧ u ≤ 859) → lk ((857, z) :: (858, 0) :: (859, 0) :: hdel 859 (hdel 858 (hdel 857 H))) u = lk H u := fun u h => by
        rw [lk_cons, if_neg (by omega), lk_cons, if_neg (by omega), lk_cons, if_neg (by omega), lk_hdel, if_neg (by omega), lk_hdel, if_neg (by omega), lk_hdel, if_neg (by omega)]
      have l7 : lk ((857, z) :: (858, 0) :: (859, 0) :: hdel 859 (hdel 858 (hdel 857 H))) 857 = some z := by rw [lk_cons, if_pos rfl]
      have l8 : lk ((857, z) :: (858, 0) :: (859, 0) :: hdel 859 (hdel 858 (hdel 857 H))) 858 = some 0 := by rw [lk_cons, if_neg (by decide), lk_cons, if_pos rfl]
      have l9 : lk ((857, z) :: (858, 0) :: (859, 0) :: hdel 859 (hdel 858 (hdel 857 H))) 859 = some 0 := by rw [lk_cons, if_neg (by decide), lk_cons, if_neg (by decide), lk_cons, if_pos rfl]
      refine c_hint hP ho i2 (H' := (857, z) :: (858, 0) :: (859, 0) :: hdel 859 (hdel 858 (hdel 857 H))) ⟨⟨rfl, hz⟩, ⟨rfl, rfl⟩, ⟨rfl, rfl⟩, ((i1.del).del).del⟩ (fun u hu => l u (by omega)) ⟨bS9_k (fun u hu => l u (by omega)) hB, ?_⟩
      unfold cC
      rw [l7, l8, l9, l 850 (by decide), l 851 (by decide), l 852 (by decide), l 853 (by decide), l 847 (by decide), l 848 (by decide), l 849 (by decide), l 855 (by decide), l 856 (by decide), l 860 (by decide), l 861 (by decide), l 862 (by decide)]
      refine ⟨g0, g4, fun a b c d h1 h2 h3 h4 M Z e1 e2 => ⟨fun b' hb q => ?_, fun a' b' _ _ h => ?_⟩, g6, g7⟩
      · rw [m1] at h1
        have h1 := Option.some.inj h1
        have h2 := Option.some.inj h2
        have : M = Z := Int32.toInt_inj.mp (by omega)
        rw [this]; exact q
      · have h3 := Option.some.inj h3
        have h4 := Option.some.inj h4
        omega
  · exact ho
def h199 (p : AV) (s : Sy) : Sy := match lk s.hl 858, lk s.hl 859 with
  | some i, some j => bif eq6 s p i j then s.seth ((866, p) :: hdel 866 s.hl) else s
  | _, _ => s
theorem h199_ok (hP : PH T G cs (cC9 kT kH kF jB kE)) {p : AV} {z : Int} (hz : ev ρ p = some z) (ho : Ok (Jf T G (cS cs)) s ρ σ) : Ok (Jf T G (cS cs)) (h199 p s) ρ σ := by
  unfold h199
  split
  · rename_i i j _ _
    cases hc : eq6 s p i j with
    | false => exact ho
    | true =>
      obtain ⟨H, i1, i2⟩ := ho.inv
      obtain ⟨hB, hC⟩ := (i2.2.2 _ hP.2.2.1 : cS9b kT kH kF jB kE H σ)
      have l : ∀ u, u ≠ 866 → lk ((866, z) :: hdel 866 H) u = lk H u := fun u h => by rw [lk_cons, if_neg h, lk_hdel, if_neg h]
      refine c_hint hP ho i2 (H' := (866, z) :: hdel 866 H) ⟨⟨rfl, hz⟩, i1.del⟩ (fun u hu => l u (by omega)) ⟨bS9_k (fun u hu => l u (by omega)) hB, ?_⟩
      unfold cC at hC ⊢
      rw [l 850 (by decide), l 851 (by decide), l 852 (by decide), l 853 (by decide), l 847 (by decide), l 848 (by decide), l 849 (by decide), l 855 (by decide), l 856 (by decide), l 857 (by decide), l 858 (by decide), l 859 (by decide), l 860 (by decide), l 861 (by decide), l 862 (by decide)]
      exact hC
  · exact ho
def h200 (s : Sy) : Sy := match lk s.hl 858, lk s.hl 859 with
  | some i, some j => bif leAV s (.c 6) j then s.seth (hup 858 (shA i 1) (hup 859 (.c 0) s.hl)) else s
  | _, _ => s
theorem h200_ok (hP : PH T G cs (cC9 kT kH kF jB kE)) (ho : Ok (Jf T G (cS cs)) s ρ σ) : Ok (Jf T G (cS cs)) (h200 s) ρ σ := by
  unfold h200
  split
  · rename_i i j qi qj
    cases hc : leAV s (.c 6) j with
    | false => exact ho
    | true =>
      obtain ⟨H, i1, i2⟩ := ho.inv
      obtain ⟨hB, g0, g4, g5, g6, g7⟩ := (i2.2.2 _ hP.2.2.1 : cS9b kT kH kF jB kE H σ)
      obtain ⟨zi, e1, e2⟩ := tag_get ho i1 qi
      obtain ⟨zj, j1, j2⟩ := tag_get ho i1 qj
      have f := leAV_ok ho hc (x := 6) rfl j2
      have l : ∀ u, u ≠ 858 → u ≠ 859 → lk (hup 858 (zi + 1) (hup 859 0 H)) u = lk H u := fun u h1 h2 => by rw [lk_hup_ne h1, lk_hup_ne h2]
      have l8 : lk (hup 858 (zi + 1) (hup 859 0 H)) 858 = some (zi + 1) := lk_hup_at (b := zi) (by rw [lk_hup_ne (by decide)]; exact e1)
      have l9 : lk (hup 858 (zi + 1) (hup 859 0 H)) 859 = some 0 := by rw [lk_hup_ne (by decide)]; exact lk_hup_at j1
      refine c_hint hP ho i2 (Hl.up (shA_ev e2) (Hl.up (a := .c 0) (x := 0) rfl i1)) (fun u hu => l u (by omega) (by omega)) ⟨bS9_k (fun u hu => l u (by omega) (by omega)) hB, ?_⟩
      unfold cC
      rw [l8, l9, l 850 (by decide) (by decide), l 851 (by decide) (by decide), l 852 (by decide) (by decide), l 853 (by decide) (by decide), l 847 (by decide) (by decide), l 848 (by decide) (by decide), l 849 (by decide) (by decide), l 855 (by decide) (by decide), l 856 (by decide) (by decide), l 857 (by decide) (by decide), l 860 (by decide) (by decide), l 861 (by decide) (by decide), l 862 (by decide) (by decide)]
      refine ⟨g0, g4, fun a b c d h1 h2 h3 h4 M Z m1 m2 => ?_, g6, g7⟩
      obtain ⟨p1, p2⟩ := g5 a b zi zj h1 h2 e1 j1 M Z m1 m2
      refine ⟨p1, fun a' b' ha hb h => p2 a' b' ha hb ?_⟩
      have h3 := Option.some.inj h3
      have h4 := Option.some.inj h4
      omega
  · exact ho
def h204 (s : Sy) : Sy := s.seth (hdel 862 (hdel 861 (hdel 860 (hdel 859 (hdel 858 (hdel 857 (hdel 856 (hdel 855 s.hl))))))))
theorem h204_ok (hP : PH T G cs (cC9 kT kH kF jB kE)) (ho : Ok (Jf T G (cS cs)) s ρ σ) : Ok (Jf T G (cS cs)) (h204 s) ρ σ := by
  obtain ⟨H, i1, i2⟩ := ho.inv
  obtain ⟨hB, g0, g4, g5, g6, g7⟩ := (i2.2.2 _ hP.2.2.1 : cS9b kT kH kF jB kE H σ)
  have l : ∀ u, ¬ (855 ≤ u ∧ u ≤ 862) → lk (hdel 862 (hdel 861 (hdel 860 (hdel 859 (hdel 858 (hdel 857 (hdel 856 (hdel 855 H)))))))) u = lk H u := fun u h => by
    rw [lk_hdel, if_neg (by omega), lk_hdel, if_neg (by omega), lk_hdel, if_neg (by omega), lk_hdel, if_neg (by omega), lk_hdel, if_neg (by omega), lk_hdel, if_neg (by omega), lk_hdel, if_neg (by omega), lk_hdel, if_neg (by omega)]
  have n5 : lk (hdel 862 (hdel 861 (hdel 860 (hdel 859 (hdel 858 (hdel 857 (hdel 856 (hdel 855 H)))))))) 855 = none := by
    rw [lk_hdel, if_neg (by decide), lk_hdel, if_neg (by decide), lk_hdel, if_neg (by decide), lk_hdel, if_neg (by decide), lk_hdel, if_neg (by decide), lk_hdel, if_neg (by decide), lk_hdel, if_neg (by decide), lk_hdel, if_pos rfl]
  have n6 : lk (hdel 862 (hdel 861 (hdel 860 (hdel 859 (hdel 858 (hdel 857 (hdel 856 (hdel 855 H)))))))) 856 = none := by
    rw [lk_hdel, if_neg (by decide), lk_hdel, if_neg (by decide), lk_hdel, if_neg (by decide), lk_hdel, if_neg (by decide), lk_hdel, if_neg (by decide), lk_hdel, if_neg (by decide), lk_hdel, if_pos rfl]
  refine c_hint hP ho i2 ((((((((i1.del).del).del).del).del).del).del).del) (fun u hu => l u (by omega)) ⟨bS9_k (fun u hu => l u (by omega)) hB, ?_⟩
  unfold cC
  rw [n5, n6, l 850 (by decide), l 851 (by decide), l 852 (by decide), l 853 (by decide), l 847 (by decide), l 848 (by decide), l 849 (by decide)]
  exact ⟨g0, fun _ _ h => (by cases h), fun _ _ _ _ h => (by cases h), fun _ _ _ h => (by cases h), fun _ _ _ h => (by cases h)⟩
end H40
end
end
section
noncomputable section
/-! ===== WHAT ELSE HOLDS, 41: hints 198, 202, 203 ===== -/
section H41
variable {T : Jx} {G : Gl} {cs : List Cp} {s : Sy} {ρ : List Int} {σ : zS} {kT kH kF jB kE : Nat}
def bit9 (s : Sy) (m i : AV) : Option AV := match lk s.hl 840, lk s.hl 841, lk s.hl 842 with
  | some t, some o, some b => bif eqA s t m && eqA s o i then some b else none
  | _, _, _ => none
theorem bit9_ok {J : Jt} (ho : Ok J s ρ σ) {H : List (Nat × Int)} (i1 : Hl ρ s.hl H) (hB : bS2 H) {m i b : AV} {M : Int32} {I : Nat} (hm : ev ρ m = some M.toInt) (hi : ev ρ i = some (I : Int)) (hI : I < 6) (h : bit9 s m i = some b) : ev ρ b = some (b2i (bitN M I)) := by
  unfold bit9 at h
  split at h
  · rename_i t o b' qt qo qb
    cases hc : eqA s t m && eqA s o i with
    | false => rw [hc] at h; cases h
    | true =>
      rw [hc] at h
      cases Option.some.inj h
      rw [Bool.and_eq_true] at hc
      obtain ⟨zt, t1, t2⟩ := tag_get ho i1 qt
      obtain ⟨zo, o1, o2⟩ := tag_get ho i1 qo
      obtain ⟨zb, b1, b2⟩ := tag_get ho i1 qb
      have f1 := eqA_ok ho hc.1 t2 hm
      have f2 := eqA_ok ho hc.2 o2 hi
      rw [b2, (hB.1 zt zo zb t1 o1 b1).at (x := M) (n := I) f1.symm f2 hI]
  · cases h
def hld9 (kH : Nat) (s : Sy) (i j : AV) : Option AV := match lk s.hl 866 with
  | some p => bif eq6 s p i j then oth s kH p else none
  | none => none
theorem hld9_ok {J : Jt} (ho : Ok J s ρ σ) {H : List (Nat × Int)} (i1 : Hl ρ s.hl H) {i j r : AV} {I K : Nat} (hi : ev ρ i = some (I : Int)) (hj : ev ρ j = some (K : Int)) (h : hld9 kH s i j = some r) : ev ρ r = some (σ.1 kH (6 * I + K)).toInt := by
  unfold hld9 at h
  split at h
  · rename_i p qp
    cases hc : eq6 s p i j with
    | false => rw [hc] at h; cases h
    | true =>
      rw [hc] at h
      obtain ⟨zp, p1, p2⟩ := tag_get ho i1 qp
      have e := eq6_ok ho p2 hi hj hc
      exact (oth_ok ho h (p2.trans (congrArg some (show zp = ((6 * I + K : Nat) : Int) by omega)))).2
  · cases h
def c198A (kH kF jB : Nat) (m i j p : AV) (s : Sy) : Bool := match lk s.hl 843, lk s.hl 844, lk s.hl 845 with
  | some t, some o, some w => (match lk s.hl 846, bit9 s m i, hld9 kH s i j with
    | some c, some b, some r => (match mget s.me kF (.c (jB : Int)) with
      | some g => ((eqA s t m && eqA s o j) && (eqA s w p && eqA s c (.c 1))) && ((eqA s b (.c 1) && leAV s (.c 1) r) && ((g.isI && eqA s g (.c 1)) && (!(isS (lk s.hl 820)) && !(isS (lk s.hl 821)))))
      | none => false)
    | _, _, _ => false)
  | _, _, _ => false
def c198B (kH : Nat) (m i j p : AV) (s : Sy) : Bool := match lk s.hl 847, lk s.hl 848, lk s.hl 849 with
  | some a, some c, some w => ((eqA s a m && eqA s c (.c 0)) && eqA s w p) && ((match bit9 s m i with
    | some b => eqA s b (.c 0)
    | none => false) || (match hld9 kH s i j with
    | some r => leAV s r (.c 0)
    | none => false))
  | _, _, _ => false
/-- the edges, as the reference holds them -/
theorem edge_ok {H : List (Nat × Int)} (h1 : bS1 kT kH kF jB H σ) (n0 : lk H 820 = none) (n1 : lk H 821 = none) (g : (σ.1 kF jB).toInt = 1) {a b : Nat} (ha : a < 6) (hb : b < 6) (hab : a ≠ b) : b2i (bitN (σ.1 kT a) b) = (σ.1 kH (6 * a + b)).toInt := by
  have := h1.1 a b ha hb hab (by rintro ⟨q, _⟩; rw [n1] at q; cases q)
  unfold efB at this
  rw [if_pos ⟨g, n0⟩] at this
  exact this
/-- what the step makes of the mask -/
theorem c198_ok {J : Jt} (ho : Ok J s ρ σ) {H : List (Nat × Int)} (i1 : Hl ρ s.hl H) (hB : bS9 kT kH kF jB H σ) (h3 : C3 (lk H 847) (lk H 848) (lk H 849)) {m i j p : AV} {M : Int32} {I K : Nat} {z : Int} (hm : ev ρ m = some M.toInt) (hi : ev ρ i = some (I : Int)) (hj : ev ρ j = some (K : Int)) (hI : I < 6) (hK : K < 6) (hp : ev ρ p = some z) (h : (c198A kH kF jB m i j p s || c198B kH m i j p s) = true) :
    ∃ M' : Int32, M'.toInt = z ∧ (∀ b, b < 6 → bitN M b = true → bitN M' b = true) ∧ (∀ b, b < 6 → bitN M' b = true → bitN M b = true ∨ (b = K ∧ bitN M I = true ∧ (I = K ∨ Eb kT σ I K))) ∧ (bitN M I = true → 1 ≤ (σ.1 kH (6 * I + K)).toInt → bitN M' K = true) := by
  rw [Bool.or_eq_true] at h
  rcases h with h | h
  · unfold c198A at h
    split at h
    · rename_i t o w qt qo qw
      split at h
      · rename_i c b r qc hb hr
        split at h
        · rename_i g hg
          simp only [Bool.and_eq_true] at h
          obtain ⟨⟨⟨a1, a2⟩, a3, a4⟩, ⟨a5, a6⟩, ⟨a7, a8⟩, a9, a10⟩ := h
          obtain ⟨zt, t1, t2⟩ := tag_get ho i1 qt
          obtain ⟨zo, o1, o2⟩ := tag_get ho i1 qo
          obtain ⟨zw, w1, w2⟩ := tag_get ho i1 qw
          obtain ⟨zc, k1, k2⟩ := tag_get ho i1 qc
          have n0 := no_tag i1 a9
          have n1 := no_tag i1 a10
          have f1 := eqA_ok ho a1 t2 hm
          have f2 := eqA_ok ho a2 o2 hj
          have f3 := eqA_ok ho a3 w2 hp
          have f4 := eqA_ok ho a4 k2 (y := 1) rfl
          have f5 := eqA_ok ho a5 (bit9_ok ho i1 hB.2 hm hi hI hb) (y := 1) rfl
          have f6 := leAV_ok ho a6 (x := 1) rfl (hld9_ok ho i1 hi hj hr)
          have f8 := eqA_ok ho a8 (me_at ho hg rfl a7) (y := 1) rfl
          have bI := b2i_1.mp f5
          obtain ⟨X, Y, e1, e2, up⟩ := hB.2.2 zt zo zw zc t1 o1 w1 k1
          have eX : X = M := Int32.toInt_inj.mp (e1.trans f1)
          have up := up K f2 hK
          rw [eX, f4] at up
          have yK : bitN Y K = true := by
            have := up K hK
            rw [if_pos rfl] at this
            exact b2i_1.mp this
          refine ⟨Y, e2.trans f3, fun b hb q => ?_, fun b hb q => ?_, fun _ _ => yK⟩
          · by_cases e : b = K
            · rw [e]; exact yK
            · have := up b hb
              rw [if_neg e, q] at this
              exact b2i_1.mp this
          · by_cases e : b = K
            · refine Or.inr ⟨e, bI, ?_⟩
              by_cases e2 : I = K
              · exact Or.inl e2
              · have ed := edge_ok hB.1 n0 n1 f8 hI hK e2
                refine Or.inr ⟨hI, hK, ?_⟩
                cases hbit : bitN (σ.1 kT I) K with
                | true => rfl
                | false =>
                  rw [hbit] at ed
                  have : (0 : Int) = (σ.1 kH (6 * I + K)).toInt := ed
                  omega
            · have := up b hb
              rw [if_neg e, q] at this
              exact Or.inl (b2i_1.mp this.symm)
        · cases h
      · cases h
    · cases h
  · unfold c198B at h
    split at h
    · rename_i a c w qa qc qw
      rw [Bool.and_eq_true, Bool.and_eq_true, Bool.and_eq_true, Bool.or_eq_true] at h
      obtain ⟨⟨⟨a1, a2⟩, a3⟩, h⟩ := h
      obtain ⟨za, b1, b2⟩ := tag_get ho i1 qa
      obtain ⟨zc, c1, c2⟩ := tag_get ho i1 qc
      obtain ⟨zw, w1, w2⟩ := tag_get ho i1 qw
      have f1 := eqA_ok ho a1 b2 hm
      have f2 := eqA_ok ho a2 c2 (y := 0) rfl
      have f3 := eqA_ok ho a3 w2 hp
      obtain ⟨X, Y, e1, e2, e3⟩ := h3 za zc zw b1 c1 w1
      have eX : X = M := Int32.toInt_inj.mp (e1.trans f1)
      have eY : Y = 0 := Int32.toInt_inj.mp (by rw [e2, f2]; rfl)
      have z0 : ∀ m, m < 6 → bitN (0 : Int32) m = false := by decide +kernel
      have same : ∀ b, b < 6 → bitN (X ||| Y) b = bitN M b := fun b hb => by rw [bit_or, eX, eY, z0 b hb, Bool.or_false]
      refine ⟨X ||| Y, e3.trans f3, fun b hb q => by rw [same b hb]; exact q, fun b hb q => by rw [same b hb] at q; exact Or.inl q, fun q1 q2 => ?_⟩
      rcases h with h | h
      · split at h
        · rename_i b hb
          have f := eqA_ok ho h (bit9_ok ho i1 hB.2 hm hi hI hb) (y := 0) rfl
          rw [q1] at f
          cases f
        · cases h
      · split at h
        · rename_i r hr
          have f := leAV_ok ho h (hld9_ok ho i1 hi hj hr) (y := 0) rfl
          omega
        · cases h
    · cases h
def h198 (kH kF jB : Nat) (p : AV) (s : Sy) : Sy := match lk s.hl 855, lk s.hl 856, lk s.hl 857 with
  | some _, some m, some _ => (match lk s.hl 858, lk s.hl 859 with
    | some i, some j => bif (((leAV s (.c 0) i && leAV s i (.c 5)) && (leAV s (.c 0) j && leAV s j (.c 5))) && !(isS (lk s.hl 860))) && (c198A kH kF jB m i j p s || c198B kH m i j p s) then s.seth (hup 856 p (hup 859 (shA j 1) (hdel 847 (hdel 848 (hdel 849 (hdel 866 s.hl)))))) else s
    | _, _ => s)
  | _, _, _ => s
theorem h198_ok (hP : PH T G cs (cC9 kT kH kF jB kE)) {p : AV} {z : Int} (hz : ev ρ p = some z) (ho : Ok (Jf T G (cS cs)) s ρ σ) : Ok (Jf T G (cS cs)) (h198 kH kF jB p s) ρ σ := by
  unfold h198
  split
  · rename_i q m y qq qm qy
    split
    · rename_i i j qi qj
      cases hc : (((leAV s (.c 0) i && leAV s i (.c 5)) && (leAV s (.c 0) j && leAV s j (.c 5))) && !(isS (lk s.hl 860))) && (c198A kH kF jB m i j p s || c198B kH m i j p s) with
      | false => exact ho
      | true =>
        rw [Bool.and_eq_true, Bool.and_eq_true, Bool.and_eq_true, Bool.and_eq_true, Bool.and_eq_true] at hc
        obtain ⟨⟨⟨⟨c1, c2⟩, c3, c4⟩, c5⟩, c6⟩ := hc
        obtain ⟨H, i1, i2⟩ := ho.inv
        obtain ⟨hB, ⟨g0, g1, g2, g3⟩, g4, g5, g6, g7⟩ := (i2.2.2 _ hP.2.2.1 : cS9b kT kH kF jB kE H σ)
        have n0 := no_tag i1 c5
        obtain ⟨zq, q1, q2⟩ := tag_get ho i1 qq
        obtain ⟨zm, m1, m2⟩ := tag_get ho i1 qm
        obtain ⟨zi, e1, e2⟩ := tag_get ho i1 qi
        obtain ⟨zj, j1, j2⟩ := tag_get ho i1 qj
        have f1 := leAV_ok ho c1 (x := 0) rfl e2
        have f2 := leAV_ok ho c2 e2 (y := 5) rfl
        have f3 := leAV_ok ho c3 (x := 0) rfl j2
        have f4 := leAV_ok ho c4 j2 (y := 5) rfl
        obtain ⟨Q, M, r1, r2, r3, r4, r5⟩ := g4 zq zm q1 m1
        have hm : ev ρ m = some M.toInt := m2.trans (congrArg some r3.symm)
        have hi : ev ρ i = some ((zi.toNat : Nat) : Int) := e2.trans (congrArg some (by omega))
        have hj : ev ρ j = some ((zj.toNat : Nat) : Int) := j2.trans (congrArg some (by omega))
        obtain ⟨M', k1, k2, k3, k4⟩ := c198_ok ho i1 hB g3 hm hi hj (by omega) (by omega) hz c6
        have l : ∀ u, u ≠ 856 → u ≠ 859 → ¬ (847 ≤ u ∧ u ≤ 849) → u ≠ 866 → lk (hup 856 z (hup 859 (zj + 1) (hdel 847 (hdel 848 (hdel 849 (hdel 866 H)))))) u = lk H u := fun u h1 h2 h3 h4 => by
          rw [lk_hup_ne h1, lk_hup_ne h2, lk_hdel, if_neg (by omega), lk_hdel, if_neg (by omega), lk_hdel, if_neg (by omega), lk_hdel, if_neg h4]
        have l6 : lk (hup 856 z (hup 859 (zj + 1) (hdel 847 (hdel 848 (hdel 849 (hdel 866 H)))))) 856 = some z := lk_hup_at (b := zm) (by rw [lk_hup_ne (by decide), lk_hdel, if_neg (by decide), lk_hdel, if_neg (by decide), lk_hdel, if_neg (by decide), lk_hdel, if_neg (by decide)]; exact m1)
        have l9 : lk (hup 856 z (hup 859 (zj + 1) (hdel 847 (hdel 848 (hdel 849 (hdel 866 H)))))) 859 = some (zj + 1) := by
          rw [lk_hup_ne (by decide)]
          exact lk_hup_at (b := zj) (by rw [lk_hdel, if_neg (by decide), lk_hdel, if_neg (by decide), lk_hdel, if_neg (by decide), lk_hdel, if_neg (by decide)]; exact j1)
        have l7 : lk (hup 856 z (hup 859 (zj + 1) (hdel 847 (hdel 848 (hdel 849 (hdel 866 H)))))) 847 = none := by rw [lk_hup_ne (by decide), lk_hup_ne (by decide), lk_hdel, if_pos rfl]
        refine c_hint hP ho i2 (Hl.up hz (Hl.up (shA_ev j2) ((((i1.del).del).del).del))) (fun u hu => l u (by omega) (by omega) (by omega) (by omega)) ⟨bS9_k (fun u hu => l u (by omega) (by omega) (by omega) (by omega)) hB, ?_⟩
        unfold cC
        rw [l6, l9, l7, l 850 (by decide) (by decide) (by decide) (by decide), l 851 (by decide) (by decide) (by decide) (by decide), l 852 (by decide) (by decide) (by decide) (by decide), l 853 (by decide) (by decide) (by decide) (by decide), l 855 (by decide) (by decide) (by decide) (by decide), l 857 (by decide) (by decide) (by decide) (by decide), l 858 (by decide) (by decide) (by decide) (by decide), l 860 (by decide) (by decide) (by decide) (by decide), l 861 (by decide) (by decide) (by decide) (by decide), l 862 (by decide) (by decide) (by decide) (by decide)]
        refine ⟨⟨g0, g1, g2, fun _ _ _ h => (by cases h)⟩, fun a b h h' => ⟨Q, M', ?_, r2, ?_, k2 Q r2 r4, fun b hb q => ?_⟩, fun a b c d h1 h2 h3 h4 N Z x1 x2 => ?_, fun _ _ _ _ _ h => (by rw [n0] at h; cases h), g7⟩
        · rw [q1] at h
          rw [← Option.some.inj h]; exact r1
        · rw [← Option.some.inj h']; exact k1
        · rcases k3 b hb q with q | ⟨e, q, ed⟩
          · exact r5 b hb q
          · have w := r5 zi.toNat (by omega) q
            rw [e]
            rcases ed with ed | ed
            · rw [← ed]; exact w
            · exact wp_tr (by omega) w (wp_le (k := 0) (by decide) (Or.inr ed))
        · have h1 := Option.some.inj h1
          have h4 := Option.some.inj h4
          rw [e1] at h3
          have h3 := Option.some.inj h3
          have eN : N = M' := Int32.toInt_inj.mp (by rw [x1, k1, h1])
          obtain ⟨p1, p2⟩ := g5 zm b zi zj m1 h2 e1 j1 M Z r3 x2
          rw [eN]
          refine ⟨fun b' hb q => k2 b' hb (p1 b' hb q), fun a' b' ha hb h q1 q2 => ?_⟩
          by_cases e : a' = zi.toNat ∧ b' = zj.toNat
          · obtain ⟨e3, e4⟩ := e
            rw [e4]
            rw [e3] at q1 q2
            rw [e4] at q2
            exact k4 (p1 _ (by omega) q1) q2
          · exact k2 b' hb (p2 a' b' ha hb (by omega) q1 q2)
    · exact ho
  · exact ho
def h202 (kF jB : Nat) (s : Sy) : Sy := match lk s.hl 855, lk s.hl 856, lk s.hl 857 with
  | some _, some m, some y => (match lk s.hl 858, lk s.hl 859, mget s.me kF (.c (jB : Int)) with
    | some i, some _, some g => bif ((eqA s m y && leAV s (.c 6) i) && (g.isI && eqA s g (.c 1))) && ((!(isS (lk s.hl 820)) && !(isS (lk s.hl 821))) && !(isS (lk s.hl 860))) then s.seth ((860, .c 0) :: hdel 859 (hdel 858 (hdel 857 s.hl))) else s
    | _, _, _ => s)
  | _, _, _ => s
theorem h202_ok (hP : PH T G cs (cC9 kT kH kF jB kE)) (ho : Ok (Jf T G (cS cs)) s ρ σ) : Ok (Jf T G (cS cs)) (h202 kF jB s) ρ σ := by
  unfold h202
  split
  · rename_i q m y qq qm qy
    split
    · rename_i i j g qi qj hg
      cases hc : ((eqA s m y && leAV s (.c 6) i) && (g.isI && eqA s g (.c 1))) && ((!(isS (lk s.hl 820)) && !(isS (lk s.hl 821))) && !(isS (lk s.hl 860))) with
      | false => exact ho
      | true =>
        simp only [Bool.and_eq_true] at hc
        obtain ⟨⟨⟨c1, c2⟩, c3, c4⟩, ⟨c5, c6⟩, c7⟩ := hc
        obtain ⟨H, i1, i2⟩ := ho.inv
        obtain ⟨hB, ⟨g0, g1, g2, g3⟩, g4, g5, g6, g7⟩ := (i2.2.2 _ hP.2.2.1 : cS9b kT kH kF jB kE H σ)
        have n0 := no_tag i1 c5
        have n1 := no_tag i1 c6
        obtain ⟨zq, q1, q2⟩ := tag_get ho i1 qq
        obtain ⟨zm, m1, m2⟩ := tag_get ho i1 qm
        obtain ⟨zy, y1, y2⟩ := tag_get ho i1 qy
        obtain ⟨zi, e1, e2⟩ := tag_get ho i1 qi
        obtain ⟨zj, j1, j2⟩ := tag_get ho i1 qj
        have f1 := eqA_ok ho c1 m2 y2
        have f2 := leAV_ok ho c2 (x := 6) rfl e2
        have f4 := eqA_ok ho c4 (me_at ho hg rfl c3) (y := 1) rfl
        have l : ∀ u, ¬ (857 ≤ u ∧ u ≤ 860) → lk ((860, (0 : Int)) :: hdel 859 (hdel 858 (hdel 857 H))) u = lk H u := fun u h => by
          rw [lk_cons, if_neg (by omega), lk_hdel, if_neg (by omega), lk_hdel, if_neg (by omega), lk_hdel, if_neg (by omega)]
        have l7 : lk ((860, (0 : Int)) :: hdel 859 (hdel 858 (hdel 857 H))) 857 = none := by rw [lk_cons, if_neg (by decide), lk_hdel, if_neg (by decide), lk_hdel, if_neg (by decide), lk_hdel, if_pos rfl]
        refine c_hint hP ho i2 (H' := (860, 0) :: hdel 859 (hdel 858 (hdel 857 H))) ⟨⟨rfl, rfl⟩, ((i1.del).del).del⟩ (fun u hu => l u (by omega)) ⟨bS9_k (fun u hu => l u (by omega)) hB, ?_⟩
        unfold cC
        rw [l7, l 850 (by decide), l 851 (by decide), l 852 (by decide), l 853 (by decide), l 847 (by decide), l 848 (by decide), l 849 (by decide), l 855 (by decide), l 856 (by decide), l 861 (by decide), l 862 (by decide)]
        refine ⟨⟨g0, g1, g2, g3⟩, g4, fun _ _ _ _ _ h => (by cases h), fun a b c h1 h2 _ Q eQ M eM b' hb => ?_, g7⟩
        rw [q1] at h1
        rw [m1] at h2
        have h1 := Option.some.inj h1
        have h2 := Option.some.inj h2
        obtain ⟨Q', M', r1, r2, r3, r4, r5⟩ := g4 zq zm q1 m1
        have e3 : Q' = Q := by omega
        have e4 : M' = M := Int32.toInt_inj.mp (by rw [r3, eM, h2])
        subst e3
        subst e4
        obtain ⟨_, p2⟩ := g5 zm zy zi zj m1 y1 e1 j1 M' M' r3 (by omega)
        refine ⟨r5 b' hb, fun w => ?_⟩
        have := wp_in (S := fun a => a < 6 ∧ bitN M' a = true) (E := Eb kT σ) (fun a b hs he => ⟨he.2.1, by
          by_cases e : a = b
          · rw [← e]; exact hs.2
          · have ed := edge_ok hB.1 n0 n1 f4 he.1 he.2.1 e
            rw [he.2.2] at ed
            have ed : (1 : Int) = (σ.1 kH (6 * a + b)).toInt := ed
            exact p2 a b he.1 he.2.1 (by omega) hs.2 (by omega)⟩) ⟨r2, r4⟩ w
        exact this.2
    · exact ho
  · exact ho
def h203 (s : Sy) : Sy := match lk s.hl 855, lk s.hl 856, lk s.hl 860 with
  | some _, some m, some _ => (match lk s.hl 861, lk s.hl 862 with
    | some o, some d => (match bit9 s m o with
      | some b => bif leAV s (.c 0) o && leAV s o (.c 5) then adS (adS s [(b, 1), (d, -1)] 0) [(d, 1), (b, -1)] 0 else s
      | none => s)
    | _, _ => s)
  | _, _, _ => s
theorem h203_ok (hm : cC9 kT kH kF jB kE ∈ cs) (ho : Ok (Jf T G (cS cs)) s ρ σ) : Ok (Jf T G (cS cs)) (h203 s) ρ σ := by
  unfold h203
  split
  · rename_i q m y qq qm qy
    split
    · rename_i o d qo qd
      split
      · rename_i b hb
        cases hc : leAV s (.c 0) o && leAV s o (.c 5) with
        | false => exact ho
        | true =>
          rw [Bool.and_eq_true] at hc
          obtain ⟨H, i1, i2⟩ := ho.inv
          obtain ⟨hB, ⟨g0, g1, g2, g3⟩, g4, g5, g6, g7⟩ := (i2.2.2 _ hm : cS9b kT kH kF jB kE H σ)
          obtain ⟨zq, q1, q2⟩ := tag_get ho i1 qq
          obtain ⟨zm, m1, m2⟩ := tag_get ho i1 qm
          obtain ⟨zy, y1, y2⟩ := tag_get ho i1 qy
          obtain ⟨zo, o1, o2⟩ := tag_get ho i1 qo
          obtain ⟨zd, d1, d2⟩ := tag_get ho i1 qd
          have f1 := leAV_ok ho hc.1 (x := 0) rfl o2
          have f2 := leAV_ok ho hc.2 o2 (y := 5) rfl
          obtain ⟨Q, M, r1, r2, r3, r4, r5⟩ := g4 zq zm q1 m1
          have hM : ev ρ m = some M.toInt := m2.trans (congrArg some r3.symm)
          have hO : ev ρ o = some ((zo.toNat : Nat) : Int) := o2.trans (congrArg some (by omega))
          have eb := bit9_ok ho i1 hB.2 hM hO (by omega) hb
          have w1 := g6 zq zm zy q1 m1 y1 Q r1 M r3 zo.toNat (by omega)
          obtain ⟨w2, w3⟩ := g7 zq zo zd q1 o1 d1 Q zo.toNat r1 (by omega) (by omega)
          have e : b2i (bitN M zo.toNat) = zd := by
            cases hbit : bitN M zo.toNat with
            | true => exact (w3.mpr (w1.mp hbit)).symm
            | false =>
              rcases w2 with w2 | w2
              · exact w2.symm
              · have := w1.mpr (w3.mp w2)
                rw [hbit] at this
                cases this
          rw [e] at eb
          have o1 := adS_ok ho (evs2 (v := 1) (w := -1) eb d2) (c := 0) (by rw [smv2 eb d2]; omega)
          exact adS_ok o1 (evs2 (v := 1) (w := -1) d2 eb) (c := 0) (by rw [smv2 d2 eb]; omega)
      · exact ho
    · exact ho
  · exact ho
end H41
end
end
section
/-! ===== PRODUCTS, 0: rules of any judgement that goes with steps ===== -/
def mixD (D : Nat → Bool) (σ τ : zS) : zS := (fun k => bif D k then σ.1 k else τ.1 k, fun k => bif D k then σ.2 k else τ.2 k)
def agD (D : Nat → Bool) (σ σ' : zS) : Prop := ∀ k, D k = false → σ'.1 k = σ.1 k ∧ σ'.2 k = σ.2 k
abbrev Tt : Type := Nat → Nat → List (Nat × Value) → List Value → zS → Prop
/-- T goes with steps that look at the cells of D alone -/
def Lft (E : xV) (Yf : Nat → xY) (D : Nat → Bool) (T : Tt) : Prop := ∀ (m pc : Nat) (l : List (Nat × Value)) (v : List Value) (σ : zS) (pc' : Nat) (l' : List (Nat × Value)) (v' : List Value) (σ' : zS), agD D σ σ' → (∀ (τ : zS) (K : zKt), Wz E (Yf m) pc' l' v' (mixD D σ' τ) K → Wz E (Yf m) pc l v (mixD D σ τ) K) → T m pc' l' v' σ' → T m pc l v σ
section PZ
variable {E : xV} {Yf : Nat → xY} {D : Nat → Bool} {T : Tt} {m pc pc' : Nat} {lv lv' : List (Nat × Value)} {st : List Value} {σ τ : zS}
theorem agD.rf : agD D σ σ := fun _ _ => ⟨rfl, rfl⟩
theorem agD.tr {a b c : zS} (h : agD D a b) (h' : agD D b c) : agD D a c := fun k q => ⟨(h' k q).1.trans (h k q).1, (h' k q).2.trans (h k q).2⟩
theorem mix1 {k : Nat} (h : D k = true) : (mixD D σ τ).1 k = σ.1 k := by simp only [mixD, h, cond_true]
theorem mix2 {k : Nat} (h : D k = true) : (mixD D σ τ).2 k = σ.2 k := by simp only [mixD, h, cond_true]
theorem mixIr {k : Nat} {f : Nat → Int32} (h : D k = true) : zIr (mixD D σ τ) k f = mixD D (zIr σ k f) τ := by
  refine Prod.ext (funext fun q => ?_) rfl
  simp only [zIr, mixD, xup]
  by_cases e : q = k
  · subst e; simp only [h, cond_true, if_true]
  · simp only [if_neg e]
theorem mixJr {k : Nat} {f : Nat → Int64} (h : D k = true) : zJr (mixD D σ τ) k f = mixD D (zJr σ k f) τ := by
  refine Prod.ext rfl (funext fun q => ?_)
  simp only [zJr, mixD, xup]
  by_cases e : q = k
  · subst e; simp only [h, cond_true, if_true]
  · simp only [if_neg e]
theorem mixI {k j : Nat} {x : Int32} (h : D k = true) : zI (mixD D σ τ) k j x = mixD D (zI σ k j x) τ := by
  show zIr (mixD D σ τ) k (upd ((mixD D σ τ).1 k) j x) = _
  rw [mix1 h]
  exact mixIr h
theorem mixJ {k j : Nat} {x : Int64} (h : D k = true) : zJ (mixD D σ τ) k j x = mixD D (zJ σ k j x) τ := by
  show zJr (mixD D σ τ) k (vp_updL ((mixD D σ τ).2 k) j x) = _
  rw [mix2 h]
  exact mixJr h
theorem agIr {k : Nat} {f : Nat → Int32} (h : D k = true) : agD D σ (zIr σ k f) := fun q hq => ⟨by
  have e : q ≠ k := fun e => by rw [e, h] at hq; cases hq
  simp only [zIr, xup, if_neg e], rfl⟩
theorem agJr {k : Nat} {f : Nat → Int64} (h : D k = true) : agD D σ (zJr σ k f) := fun q hq => ⟨rfl, by
  have e : q ≠ k := fun e => by rw [e, h] at hq; cases hq
  simp only [zJr, xup, if_neg e]⟩
theorem agI {k j : Nat} {x : Int32} (h : D k = true) : agD D σ (zI σ k j x) := agIr h
theorem agJ {k j : Nat} {x : Int64} (h : D k = true) : agD D σ (zJ σ k j x) := agJr h
theorem g_aald (hT : Lft E Yf D T) {k z i' : Nat} {i : Int32} (hk : k < 215) (hd : KD k = (103, [z])) (hi : vp_in i z) (hr : RF k i.toNatClampNeg = i' + 1) (d : decode (Yf m).2.1 pc = .ok (.aaload, 1) ∧ pc + 1 = pc') (kk : T m pc' lv (.ref i' :: st) σ) : T m pc lv (.int i :: .ref k :: st) σ := hT _ _ _ _ _ _ _ _ _ agD.rf (fun τ K q => z_aald hk hd hi hr d q) kk
theorem g_aload (hT : Lft E Yf D T) {i q : Nat} {x : Nat} (d : decode (Yf m).2.1 pc = .ok (.aload i, 2) ∧ pc + 2 = pc') (hq : lv[q]? = some (i, .ref x)) (k : T m pc' lv (.ref x :: st) σ) : T m pc lv st σ := hT _ _ _ _ _ _ _ _ _ agD.rf (fun τ K q => z_aload d hq q) k
theorem g_aload_n (hT : Lft E Yf D T) {f : Fin 4} {i q : Nat} {x : Nat} (d : decode (Yf m).2.1 pc = .ok (.aload_n f, 1) ∧ pc + 1 = pc') (hi : (f : Nat) = i) (hq : lv[q]? = some (i, .ref x)) (k : T m pc' lv (.ref x :: st) σ) : T m pc lv st σ := hT _ _ _ _ _ _ _ _ _ agD.rf (fun τ K q => z_aload_n d hi hq q) k
theorem g_astore_n (hT : Lft E Yf D T) {f : Fin 4} {i : Nat} {x : Nat} (d : decode (Yf m).2.1 pc = .ok (.astore_n f, 1) ∧ pc + 1 = pc') (hi : (f : Nat) = i) (hn : i < (Yf m).2.2.1) (hl' : (i, Value.ref x) :: lv.filter (fun q => !(q.1 == i) && !(q.1 + 1 == i && q.2.category == 2)) = lv') (k : T m pc' lv' st σ) : T m pc lv (.ref x :: st) σ := hT _ _ _ _ _ _ _ _ _ agD.rf (fun τ K q => z_astore_n d hi hn hl' q) k
theorem g_bipush (hT : Lft E Yf D T) {i : Int} {v : Int32} (d : decode (Yf m).2.1 pc = .ok (.bipush i, 2) ∧ pc + 2 = pc') (hv : (Int8.ofInt i).toInt32 = v) (k : T m pc' lv (.int v :: st) σ) : T m pc lv st σ := hT _ _ _ _ _ _ _ _ _ agD.rf (fun τ K q => z_bipush d hv q) k
theorem g_copyi (hT : Lft E Yf D T) {idx k0 k1 z0 z1 : Nat} {sp dp v : Int32} (hD0 : D k0 = true) (hD1 : D k1 = true) (w1 : Cond.methodLink (Yf m).1.cls idx arraycopyName ∈ TBg) (w2 : Cond.native arraycopyName ∈ TBg) (w3 : Cond.static arraycopyName ∈ TBg) (w4 : Cond.initialized "java/lang/System" ∈ TBg) (hk0 : k0 < 215) (hk1 : k1 < 215) (hd0 : KD k0 = (100, [z0])) (hd1 : KD k1 = (100, [z1])) (hb : ¬ sp < 0 ∧ ¬ dp < 0 ∧ ¬ v < 0 ∧ sp.toNatClampNeg + v.toNatClampNeg ≤ z0 ∧ dp.toNatClampNeg + v.toNatClampNeg ≤ z1) (hfr : 1 ≤ (Yf m).2.2.2.2.frames) (hlo : 40 ≤ (Yf m).2.2.2.2.locals) (hcat : (st.map fun v => v.category).sum ≤ 8) (d : decode (Yf m).2.1 pc = .ok (.invokestatic idx, 3) ∧ pc + 3 = pc') (kk : T m pc' lv st (zIr σ k1 (va_cpy (σ.1 k0) (σ.1 k1) sp.toNatClampNeg dp.toNatClampNeg v.toNatClampNeg)))  : T m pc lv (.int v :: .int dp :: .ref k1 :: .int sp :: .ref k0 :: st) σ := hT _ _ _ _ _ _ _ _ _ (agIr hD1) (fun τ K q => z_copyi w1 w2 w3 w4 hk0 hk1 hd0 hd1 hb hfr hlo hcat d (by rw [mix1 hD0, mix1 hD1, mixIr hD1]; exact q)) kk
theorem g_copyl (hT : Lft E Yf D T) {idx k0 k1 z0 z1 : Nat} {sp dp v : Int32} (hD0 : D k0 = true) (hD1 : D k1 = true) (w1 : Cond.methodLink (Yf m).1.cls idx arraycopyName ∈ TBg) (w2 : Cond.native arraycopyName ∈ TBg) (w3 : Cond.static arraycopyName ∈ TBg) (w4 : Cond.initialized "java/lang/System" ∈ TBg) (hk0 : k0 < 215) (hk1 : k1 < 215) (hd0 : KD k0 = (101, [z0])) (hd1 : KD k1 = (101, [z1])) (hb : ¬ sp < 0 ∧ ¬ dp < 0 ∧ ¬ v < 0 ∧ sp.toNatClampNeg + v.toNatClampNeg ≤ z0 ∧ dp.toNatClampNeg + v.toNatClampNeg ≤ z1) (hfr : 1 ≤ (Yf m).2.2.2.2.frames) (hlo : 40 ≤ (Yf m).2.2.2.2.locals) (hcat : (st.map fun v => v.category).sum ≤ 8) (d : decode (Yf m).2.1 pc = .ok (.invokestatic idx, 3) ∧ pc + 3 = pc') (kk : T m pc' lv st (zJr σ k1 (va_cpy (σ.2 k0) (σ.2 k1) sp.toNatClampNeg dp.toNatClampNeg v.toNatClampNeg)))  : T m pc lv (.int v :: .int dp :: .ref k1 :: .int sp :: .ref k0 :: st) σ := hT _ _ _ _ _ _ _ _ _ (agJr hD1) (fun τ K q => z_copyl w1 w2 w3 w4 hk0 hk1 hd0 hd1 hb hfr hlo hcat d (by rw [mix2 hD0, mix2 hD1, mixJr hD1]; exact q)) kk
theorem g_dup2ir (hT : Lft E Yf D T) {i : Int32} {x : Nat} (d : decode (Yf m).2.1 pc = .ok (.dup2, 1) ∧ pc + 1 = pc') (k : T m pc' lv (.int i :: .ref x :: .int i :: .ref x :: st) σ) : T m pc lv (.int i :: .ref x :: st) σ := hT _ _ _ _ _ _ _ _ _ agD.rf (fun τ K q => z_dup2ir d q) k
theorem g_dup2l (hT : Lft E Yf D T) {x : Int64} (d : decode (Yf m).2.1 pc = .ok (.dup2, 1) ∧ pc + 1 = pc') (k : T m pc' lv (.long x :: .long x :: st) σ) : T m pc lv (.long x :: st) σ := hT _ _ _ _ _ _ _ _ _ agD.rf (fun τ K q => z_dup2l d q) k
theorem g_dupi (hT : Lft E Yf D T) {x : Int32} (d : decode (Yf m).2.1 pc = .ok (.dup, 1) ∧ pc + 1 = pc') (k : T m pc' lv (.int x :: .int x :: st) σ) : T m pc lv (.int x :: st) σ := hT _ _ _ _ _ _ _ _ _ agD.rf (fun τ K q => z_dupi d q) k
theorem g_dupr (hT : Lft E Yf D T) {x : Nat} (d : decode (Yf m).2.1 pc = .ok (.dup, 1) ∧ pc + 1 = pc') (k : T m pc' lv (.ref x :: .ref x :: st) σ) : T m pc lv (.ref x :: st) σ := hT _ _ _ _ _ _ _ _ _ agD.rf (fun τ K q => z_dupr d q) k
theorem g_geti (hT : Lft E Yf D T) {k j idx ci : Nat} {l : List Nat} {ty : FieldType} {fin : Bool} (hD : D k = true) (F : xFl (Yf m).1.cls idx ci j ty fin) (hk : k < 215) (hd : KD k = (ci, l)) (hc : ci < 100) (hj : l[j]? = some 0) (d : decode (Yf m).2.1 pc = .ok (.getfield idx, 3) ∧ pc + 3 = pc') (kk : T m pc' lv (.int (σ.1 k j) :: st) σ) : T m pc lv (.ref k :: st) σ := hT _ _ _ _ _ _ _ _ _ agD.rf (fun τ K q => z_geti F hk hd hc hj d (by rw [mix1 hD]; exact q)) kk
theorem g_getj (hT : Lft E Yf D T) {k j idx ci : Nat} {l : List Nat} {ty : FieldType} {fin : Bool} (hD : D k = true) (F : xFl (Yf m).1.cls idx ci j ty fin) (hk : k < 215) (hd : KD k = (ci, l)) (hc : ci < 100) (hj : l[j]? = some 1) (d : decode (Yf m).2.1 pc = .ok (.getfield idx, 3) ∧ pc + 3 = pc') (kk : T m pc' lv (.long (σ.2 k j) :: st) σ) : T m pc lv (.ref k :: st) σ := hT _ _ _ _ _ _ _ _ _ agD.rf (fun τ K q => z_getj F hk hd hc hj d (by rw [mix2 hD]; exact q)) kk
theorem g_getr (hT : Lft E Yf D T) {k j i idx ci : Nat} {l : List Nat} {ty : FieldType} {fin : Bool} (F : xFl (Yf m).1.cls idx ci j ty fin) (hk : k < 215) (hd : KD k = (ci, l)) (hc : ci < 100) (hj : l[j]? = some 2) (hr : RF k j = i + 1) (d : decode (Yf m).2.1 pc = .ok (.getfield idx, 3) ∧ pc + 3 = pc') (kk : T m pc' lv (.ref i :: st) σ) : T m pc lv (.ref k :: st) σ := hT _ _ _ _ _ _ _ _ _ agD.rf (fun τ K q => z_getr F hk hd hc hj hr d q) kk
theorem g_getsC (hT : Lft E Yf D T) {idx : Nat} (hl : Cond.fieldLink (Yf m).1.cls idx "java/lang/String" "COMPACT_STRINGS" "Z" ∈ TBg) (d : decode (Yf m).2.1 pc = .ok (.getstatic idx, 3) ∧ pc + 3 = pc') (k : T m pc' lv (.int 1 :: st) σ) : T m pc lv st σ := hT _ _ _ _ _ _ _ _ _ agD.rf (fun τ K q => z_getsC hl d q) k
theorem g_getsR (hT : Lft E Yf D T) {idx : Nat} (hl : Cond.fieldLink (Yf m).1.cls idx "RightsHouse$Judge" "RANK" "[I" ∈ TBg) (d : decode (Yf m).2.1 pc = .ok (.getstatic idx, 3) ∧ pc + 3 = pc') (k : T m pc' lv (.ref 3001 :: st) σ) : T m pc lv st σ := hT _ _ _ _ _ _ _ _ _ agD.rf (fun τ K q => z_getsR hl d q) k
theorem g_goto (hT : Lft E Yf D T) {off : Int} {tgt : Nat} (d : decode (Yf m).2.1 pc = .ok (.goto off, 3) ∧ (pc : Int) + off = (tgt : Int) ∧ pc + 3 = pc') (k : T m tgt lv st σ) : T m pc lv st σ := hT _ _ _ _ _ _ _ _ _ agD.rf (fun τ K q => z_goto d q) k
theorem g_i2b (hT : Lft E Yf D T) {x v : Int32} (d : decode (Yf m).2.1 pc = .ok (.i2b, 1) ∧ pc + 1 = pc') (hv : x.toInt8.toInt32 = v) (k : T m pc' lv (.int v :: st) σ) : T m pc lv (.int x :: st) σ := hT _ _ _ _ _ _ _ _ _ agD.rf (fun τ K q => z_i2b d hv q) k
theorem g_i2c (hT : Lft E Yf D T) {x : Int32} {v : Int32} (d : decode (Yf m).2.1 pc = .ok (.i2c, 1) ∧ pc + 1 = pc') (hv : (x.toUInt32 % 65536).toInt32 = v) (k : T m pc' lv (.int v :: st) σ) : T m pc lv (.int x :: st) σ := hT _ _ _ _ _ _ _ _ _ agD.rf (fun τ K q => z_i2c d hv q) k
theorem g_i2l (hT : Lft E Yf D T) {x : Int32} {v : Int64} (d : decode (Yf m).2.1 pc = .ok (.i2l, 1) ∧ pc + 1 = pc') (hv : x.toInt64 = v) (k : T m pc' lv (.long v :: st) σ) : T m pc lv (.int x :: st) σ := hT _ _ _ _ _ _ _ _ _ agD.rf (fun τ K q => z_i2l d hv q) k
theorem g_iadd (hT : Lft E Yf D T) {x y : Int32} (d : decode (Yf m).2.1 pc = .ok (.iadd, 1) ∧ pc + 1 = pc') (k : T m pc' lv (.int (x + y) :: st) σ) : T m pc lv (.int y :: .int x :: st) σ := hT _ _ _ _ _ _ _ _ _ agD.rf (fun τ K q => z_iadd d q) k
theorem g_iald (hT : Lft E Yf D T) {k z : Nat} {i : Int32} (hD : D k = true) (hk : k < 215) (hd : KD k = (100, [z])) (hi : vp_in i z) (d : decode (Yf m).2.1 pc = .ok (.iaload, 1) ∧ pc + 1 = pc') (kk : T m pc' lv (.int (σ.1 k i.toNatClampNeg) :: st) σ) : T m pc lv (.int i :: .ref k :: st) σ := hT _ _ _ _ _ _ _ _ _ agD.rf (fun τ K q => z_iald hk hd hi d (by rw [mix1 hD]; exact q)) kk
theorem g_iand (hT : Lft E Yf D T) {x y : Int32} (d : decode (Yf m).2.1 pc = .ok (.iand, 1) ∧ pc + 1 = pc') (k : T m pc' lv (.int (x &&& y) :: st) σ) : T m pc lv (.int y :: .int x :: st) σ := hT _ _ _ _ _ _ _ _ _ agD.rf (fun τ K q => z_iand d q) k
theorem g_iast (hT : Lft E Yf D T) {k z : Nat} {i : Int32} {x : Int32} (hD : D k = true) (hk : k < 215) (hd : KD k = (100, [z])) (hi : vp_in i z) (d : decode (Yf m).2.1 pc = .ok (.iastore, 1) ∧ pc + 1 = pc') (kk : T m pc' lv st (zI σ k i.toNatClampNeg x)) : T m pc lv (.int x :: .int i :: .ref k :: st) σ := hT _ _ _ _ _ _ _ _ _ (agI hD) (fun τ K q => z_iast hk hd hi d (by rw [mixI hD]; exact q)) kk
theorem g_icmp_eq (hT : Lft E Yf D T) {x y : Int32} {off : Int} {tgt : Nat} (d : decode (Yf m).2.1 pc = .ok (.if_icmp .eq off, 3) ∧ (pc : Int) + off = (tgt : Int) ∧ pc + 3 = pc') (kt : x = y → T m tgt lv st σ) (kf : ¬ x = y → T m pc' lv st σ) : T m pc lv (.int y :: .int x :: st) σ := by
  by_cases h : x = y
  · exact hT _ _ _ _ _ _ _ _ _ agD.rf (fun τ K q => z_icmp_eq d (fun _ => q) (fun h9 => absurd h h9)) (kt h)
  · exact hT _ _ _ _ _ _ _ _ _ agD.rf (fun τ K q => z_icmp_eq d (fun h9 => absurd h9 h) (fun _ => q)) (kf h)
theorem g_icmp_ge (hT : Lft E Yf D T) {x y : Int32} {off : Int} {tgt : Nat} (d : decode (Yf m).2.1 pc = .ok (.if_icmp .ge off, 3) ∧ (pc : Int) + off = (tgt : Int) ∧ pc + 3 = pc') (kt : y ≤ x → T m tgt lv st σ) (kf : ¬ y ≤ x → T m pc' lv st σ) : T m pc lv (.int y :: .int x :: st) σ := by
  by_cases h : y ≤ x
  · exact hT _ _ _ _ _ _ _ _ _ agD.rf (fun τ K q => z_icmp_ge d (fun _ => q) (fun h9 => absurd h h9)) (kt h)
  · exact hT _ _ _ _ _ _ _ _ _ agD.rf (fun τ K q => z_icmp_ge d (fun h9 => absurd h9 h) (fun _ => q)) (kf h)
theorem g_icmp_gt (hT : Lft E Yf D T) {x y : Int32} {off : Int} {tgt : Nat} (d : decode (Yf m).2.1 pc = .ok (.if_icmp .gt off, 3) ∧ (pc : Int) + off = (tgt : Int) ∧ pc + 3 = pc') (kt : y < x → T m tgt lv st σ) (kf : ¬ y < x → T m pc' lv st σ) : T m pc lv (.int y :: .int x :: st) σ := by
  by_cases h : y < x
  · exact hT _ _ _ _ _ _ _ _ _ agD.rf (fun τ K q => z_icmp_gt d (fun _ => q) (fun h9 => absurd h h9)) (kt h)
  · exact hT _ _ _ _ _ _ _ _ _ agD.rf (fun τ K q => z_icmp_gt d (fun h9 => absurd h9 h) (fun _ => q)) (kf h)
theorem g_icmp_le (hT : Lft E Yf D T) {x y : Int32} {off : Int} {tgt : Nat} (d : decode (Yf m).2.1 pc = .ok (.if_icmp .le off, 3) ∧ (pc : Int) + off = (tgt : Int) ∧ pc + 3 = pc') (kt : x ≤ y → T m tgt lv st σ) (kf : ¬ x ≤ y → T m pc' lv st σ) : T m pc lv (.int y :: .int x :: st) σ := by
  by_cases h : x ≤ y
  · exact hT _ _ _ _ _ _ _ _ _ agD.rf (fun τ K q => z_icmp_le d (fun _ => q) (fun h9 => absurd h h9)) (kt h)
  · exact hT _ _ _ _ _ _ _ _ _ agD.rf (fun τ K q => z_icmp_le d (fun h9 => absurd h9 h) (fun _ => q)) (kf h)
theorem g_icmp_lt (hT : Lft E Yf D T) {x y : Int32} {off : Int} {tgt : Nat} (d : decode (Yf m).2.1 pc = .ok (.if_icmp .lt off, 3) ∧ (pc : Int) + off = (tgt : Int) ∧ pc + 3 = pc') (kt : x < y → T m tgt lv st σ) (kf : ¬ x < y → T m pc' lv st σ) : T m pc lv (.int y :: .int x :: st) σ := by
  by_cases h : x < y
  · exact hT _ _ _ _ _ _ _ _ _ agD.rf (fun τ K q => z_icmp_lt d (fun _ => q) (fun h9 => absurd h h9)) (kt h)
  · exact hT _ _ _ _ _ _ _ _ _ agD.rf (fun τ K q => z_icmp_lt d (fun h9 => absurd h9 h) (fun _ => q)) (kf h)
theorem g_icmp_ne (hT : Lft E Yf D T) {x y : Int32} {off : Int} {tgt : Nat} (d : decode (Yf m).2.1 pc = .ok (.if_icmp .ne off, 3) ∧ (pc : Int) + off = (tgt : Int) ∧ pc + 3 = pc') (kt : ¬ x = y → T m tgt lv st σ) (kf : x = y → T m pc' lv st σ) : T m pc lv (.int y :: .int x :: st) σ := by
  by_cases h : x = y
  · exact hT _ _ _ _ _ _ _ _ _ agD.rf (fun τ K q => z_icmp_ne d (fun h9 => absurd h h9) (fun _ => q)) (kf h)
  · exact hT _ _ _ _ _ _ _ _ _ agD.rf (fun τ K q => z_icmp_ne d (fun _ => q) (fun h9 => absurd h9 h)) (kt h)
theorem g_iconst (hT : Lft E Yf D T) {i : Int} {v : Int32} (d : decode (Yf m).2.1 pc = .ok (.iconst i, 1) ∧ pc + 1 = pc') (hv : Int32.ofInt i = v) (k : T m pc' lv (.int v :: st) σ) : T m pc lv st σ := hT _ _ _ _ _ _ _ _ _ agD.rf (fun τ K q => z_iconst d hv q) k
theorem g_idiv (hT : Lft E Yf D T) {x y : Int32} (d : decode (Yf m).2.1 pc = .ok (.idiv, 1) ∧ pc + 1 = pc') (hne : ¬ y = 0) (k : T m pc' lv (.int (x / y) :: st) σ) : T m pc lv (.int y :: .int x :: st) σ := hT _ _ _ _ _ _ _ _ _ agD.rf (fun τ K q => z_idiv d hne q) k
theorem g_if_eq (hT : Lft E Yf D T) {x : Int32} {off : Int} {tgt : Nat} (d : decode (Yf m).2.1 pc = .ok (.ifCond .eq off, 3) ∧ (pc : Int) + off = (tgt : Int) ∧ pc + 3 = pc') (kt : x = 0 → T m tgt lv st σ) (kf : ¬ x = 0 → T m pc' lv st σ) : T m pc lv (.int x :: st) σ := by
  by_cases h : x = 0
  · exact hT _ _ _ _ _ _ _ _ _ agD.rf (fun τ K q => z_if_eq d (fun _ => q) (fun h9 => absurd h h9)) (kt h)
  · exact hT _ _ _ _ _ _ _ _ _ agD.rf (fun τ K q => z_if_eq d (fun h9 => absurd h9 h) (fun _ => q)) (kf h)
theorem g_if_ge (hT : Lft E Yf D T) {x : Int32} {off : Int} {tgt : Nat} (d : decode (Yf m).2.1 pc = .ok (.ifCond .ge off, 3) ∧ (pc : Int) + off = (tgt : Int) ∧ pc + 3 = pc') (kt : 0 ≤ x → T m tgt lv st σ) (kf : ¬ 0 ≤ x → T m pc' lv st σ) : T m pc lv (.int x :: st) σ := by
  by_cases h : 0 ≤ x
  · exact hT _ _ _ _ _ _ _ _ _ agD.rf (fun τ K q => z_if_ge d (fun _ => q) (fun h9 => absurd h h9)) (kt h)
  · exact hT _ _ _ _ _ _ _ _ _ agD.rf (fun τ K q => z_if_ge d (fun h9 => absurd h9 h) (fun _ => q)) (kf h)
theorem g_if_gt (hT : Lft E Yf D T) {x : Int32} {off : Int} {tgt : Nat} (d : decode (Yf m).2.1 pc = .ok (.ifCond .gt off, 3) ∧ (pc : Int) + off = (tgt : Int) ∧ pc + 3 = pc') (kt : 0 < x → T m tgt lv st σ) (kf : ¬ 0 < x → T m pc' lv st σ) : T m pc lv (.int x :: st) σ := by
  by_cases h : 0 < x
  · exact hT _ _ _ _ _ _ _ _ _ agD.rf (fun τ K q => z_if_gt d (fun _ => q) (fun h9 => absurd h h9)) (kt h)
  · exact hT _ _ _ _ _ _ _ _ _ agD.rf (fun τ K q => z_if_gt d (fun h9 => absurd h9 h) (fun _ => q)) (kf h)
theorem g_if_le (hT : Lft E Yf D T) {x : Int32} {off : Int} {tgt : Nat} (d : decode (Yf m).2.1 pc = .ok (.ifCond .le off, 3) ∧ (pc : Int) + off = (tgt : Int) ∧ pc + 3 = pc') (kt : x ≤ 0 → T m tgt lv st σ) (kf : ¬ x ≤ 0 → T m pc' lv st σ) : T m pc lv (.int x :: st) σ := by
  by_cases h : x ≤ 0
  · exact hT _ _ _ _ _ _ _ _ _ agD.rf (fun τ K q => z_if_le d (fun _ => q) (fun h9 => absurd h h9)) (kt h)
  · exact hT _ _ _ _ _ _ _ _ _ agD.rf (fun τ K q => z_if_le d (fun h9 => absurd h9 h) (fun _ => q)) (kf h)
theorem g_if_lt (hT : Lft E Yf D T) {x : Int32} {off : Int} {tgt : Nat} (d : decode (Yf m).2.1 pc = .ok (.ifCond .lt off, 3) ∧ (pc : Int) + off = (tgt : Int) ∧ pc + 3 = pc') (kt : x < 0 → T m tgt lv st σ) (kf : ¬ x < 0 → T m pc' lv st σ) : T m pc lv (.int x :: st) σ := by
  by_cases h : x < 0
  · exact hT _ _ _ _ _ _ _ _ _ agD.rf (fun τ K q => z_if_lt d (fun _ => q) (fun h9 => absurd h h9)) (kt h)
  · exact hT _ _ _ _ _ _ _ _ _ agD.rf (fun τ K q => z_if_lt d (fun h9 => absurd h9 h) (fun _ => q)) (kf h)
theorem g_if_ne (hT : Lft E Yf D T) {x : Int32} {off : Int} {tgt : Nat} (d : decode (Yf m).2.1 pc = .ok (.ifCond .ne off, 3) ∧ (pc : Int) + off = (tgt : Int) ∧ pc + 3 = pc') (kt : ¬ x = 0 → T m tgt lv st σ) (kf : x = 0 → T m pc' lv st σ) : T m pc lv (.int x :: st) σ := by
  by_cases h : x = 0
  · exact hT _ _ _ _ _ _ _ _ _ agD.rf (fun τ K q => z_if_ne d (fun h9 => absurd h h9) (fun _ => q)) (kf h)
  · exact hT _ _ _ _ _ _ _ _ _ agD.rf (fun τ K q => z_if_ne d (fun _ => q) (fun h9 => absurd h9 h)) (kt h)
theorem g_iinc (hT : Lft E Yf D T) {i q : Nat} {z : Int} {x v : Int32} (d : decode (Yf m).2.1 pc = .ok (.iinc i z, 3) ∧ pc + 3 = pc') (hq : lv[q]? = some (i, .int x)) (hv : x + Int32.ofInt z = v) (hn : i < (Yf m).2.2.1) (hl' : (i, Value.int v) :: lv.filter (fun q => !(q.1 == i) && !(q.1 + 1 == i && q.2.category == 2)) = lv') (k : T m pc' lv' st σ) : T m pc lv st σ := hT _ _ _ _ _ _ _ _ _ agD.rf (fun τ K q => z_iinc d hq hv hn hl' q) k
theorem g_iload (hT : Lft E Yf D T) {i q : Nat} {x : Int32} (d : decode (Yf m).2.1 pc = .ok (.iload i, 2) ∧ pc + 2 = pc') (hq : lv[q]? = some (i, .int x)) (k : T m pc' lv (.int x :: st) σ) : T m pc lv st σ := hT _ _ _ _ _ _ _ _ _ agD.rf (fun τ K q => z_iload d hq q) k
theorem g_iload_n (hT : Lft E Yf D T) {f : Fin 4} {i q : Nat} {x : Int32} (d : decode (Yf m).2.1 pc = .ok (.iload_n f, 1) ∧ pc + 1 = pc') (hi : (f : Nat) = i) (hq : lv[q]? = some (i, .int x)) (k : T m pc' lv (.int x :: st) σ) : T m pc lv st σ := hT _ _ _ _ _ _ _ _ _ agD.rf (fun τ K q => z_iload_n d hi hq q) k
theorem g_imul (hT : Lft E Yf D T) {x y : Int32} (d : decode (Yf m).2.1 pc = .ok (.imul, 1) ∧ pc + 1 = pc') (k : T m pc' lv (.int (x * y) :: st) σ) : T m pc lv (.int y :: .int x :: st) σ := hT _ _ _ _ _ _ _ _ _ agD.rf (fun τ K q => z_imul d q) k
theorem g_ineg (hT : Lft E Yf D T) {x : Int32} (d : decode (Yf m).2.1 pc = .ok (.ineg, 1) ∧ pc + 1 = pc') (k : T m pc' lv (.int (-x) :: st) σ) : T m pc lv (.int x :: st) σ := hT _ _ _ _ _ _ _ _ _ agD.rf (fun τ K q => z_ineg d q) k
theorem g_ior (hT : Lft E Yf D T) {x y : Int32} (d : decode (Yf m).2.1 pc = .ok (.ior, 1) ∧ pc + 1 = pc') (k : T m pc' lv (.int (x ||| y) :: st) σ) : T m pc lv (.int y :: .int x :: st) σ := hT _ _ _ _ _ _ _ _ _ agD.rf (fun τ K q => z_ior d q) k
theorem g_irem (hT : Lft E Yf D T) {x y : Int32} (d : decode (Yf m).2.1 pc = .ok (.irem, 1) ∧ pc + 1 = pc') (hne : ¬ y = 0) (k : T m pc' lv (.int (x - x / y * y) :: st) σ) : T m pc lv (.int y :: .int x :: st) σ := hT _ _ _ _ _ _ _ _ _ agD.rf (fun τ K q => z_irem d hne q) k
theorem g_ishl (hT : Lft E Yf D T) {x y : Int32} (d : decode (Yf m).2.1 pc = .ok (.ishl, 1) ∧ pc + 1 = pc') (k : T m pc' lv (.int (x <<< (y &&& 31)) :: st) σ) : T m pc lv (.int y :: .int x :: st) σ := hT _ _ _ _ _ _ _ _ _ agD.rf (fun τ K q => z_ishl d q) k
theorem g_ishr (hT : Lft E Yf D T) {x y : Int32} (d : decode (Yf m).2.1 pc = .ok (.ishr, 1) ∧ pc + 1 = pc') (k : T m pc' lv (.int (x >>> (y &&& 31)) :: st) σ) : T m pc lv (.int y :: .int x :: st) σ := hT _ _ _ _ _ _ _ _ _ agD.rf (fun τ K q => z_ishr d q) k
theorem g_istore (hT : Lft E Yf D T) {i : Nat} {x : Int32} (d : decode (Yf m).2.1 pc = .ok (.istore i, 2) ∧ pc + 2 = pc') (hn : i < (Yf m).2.2.1) (hl' : (i, Value.int x) :: lv.filter (fun q => !(q.1 == i) && !(q.1 + 1 == i && q.2.category == 2)) = lv') (k : T m pc' lv' st σ) : T m pc lv (.int x :: st) σ := hT _ _ _ _ _ _ _ _ _ agD.rf (fun τ K q => z_istore d hn hl' q) k
theorem g_istore_n (hT : Lft E Yf D T) {f : Fin 4} {i : Nat} {x : Int32} (d : decode (Yf m).2.1 pc = .ok (.istore_n f, 1) ∧ pc + 1 = pc') (hi : (f : Nat) = i) (hn : i < (Yf m).2.2.1) (hl' : (i, Value.int x) :: lv.filter (fun q => !(q.1 == i) && !(q.1 + 1 == i && q.2.category == 2)) = lv') (k : T m pc' lv' st σ) : T m pc lv (.int x :: st) σ := hT _ _ _ _ _ _ _ _ _ agD.rf (fun τ K q => z_istore_n d hi hn hl' q) k
theorem g_isub (hT : Lft E Yf D T) {x y : Int32} (d : decode (Yf m).2.1 pc = .ok (.isub, 1) ∧ pc + 1 = pc') (k : T m pc' lv (.int (x - y) :: st) σ) : T m pc lv (.int y :: .int x :: st) σ := hT _ _ _ _ _ _ _ _ _ agD.rf (fun τ K q => z_isub d q) k
theorem g_iushr (hT : Lft E Yf D T) {x y v : Int32} (d : decode (Yf m).2.1 pc = .ok (.iushr, 1) ∧ pc + 1 = pc') (hv : (x.toUInt32 >>> (y.toUInt32 &&& Int32.toUInt32 31)).toInt32 = v) (k : T m pc' lv (.int v :: st) σ) : T m pc lv (.int y :: .int x :: st) σ := hT _ _ _ _ _ _ _ _ _ agD.rf (fun τ K q => z_iushr d hv q) k
theorem g_ixor (hT : Lft E Yf D T) {x y : Int32} (d : decode (Yf m).2.1 pc = .ok (.ixor, 1) ∧ pc + 1 = pc') (k : T m pc' lv (.int (x ^^^ y) :: st) σ) : T m pc lv (.int y :: .int x :: st) σ := hT _ _ _ _ _ _ _ _ _ agD.rf (fun τ K q => z_ixor d q) k
theorem g_l2i (hT : Lft E Yf D T) {x : Int64} {v : Int32} (d : decode (Yf m).2.1 pc = .ok (.l2i, 1) ∧ pc + 1 = pc') (hv : x.toInt32 = v) (k : T m pc' lv (.int v :: st) σ) : T m pc lv (.long x :: st) σ := hT _ _ _ _ _ _ _ _ _ agD.rf (fun τ K q => z_l2i d hv q) k
theorem g_ladd (hT : Lft E Yf D T) {x y : Int64} (d : decode (Yf m).2.1 pc = .ok (.ladd, 1) ∧ pc + 1 = pc') (k : T m pc' lv (.long (x + y) :: st) σ) : T m pc lv (.long y :: .long x :: st) σ := hT _ _ _ _ _ _ _ _ _ agD.rf (fun τ K q => z_ladd d q) k
theorem g_lald (hT : Lft E Yf D T) {k z : Nat} {i : Int32} (hD : D k = true) (hk : k < 215) (hd : KD k = (101, [z])) (hi : vp_in i z) (d : decode (Yf m).2.1 pc = .ok (.laload, 1) ∧ pc + 1 = pc') (kk : T m pc' lv (.long (σ.2 k i.toNatClampNeg) :: st) σ) : T m pc lv (.int i :: .ref k :: st) σ := hT _ _ _ _ _ _ _ _ _ agD.rf (fun τ K q => z_lald hk hd hi d (by rw [mix2 hD]; exact q)) kk
theorem g_land (hT : Lft E Yf D T) {x y : Int64} (d : decode (Yf m).2.1 pc = .ok (.land, 1) ∧ pc + 1 = pc') (k : T m pc' lv (.long (x &&& y) :: st) σ) : T m pc lv (.long y :: .long x :: st) σ := hT _ _ _ _ _ _ _ _ _ agD.rf (fun τ K q => z_land d q) k
theorem g_last (hT : Lft E Yf D T) {k z : Nat} {i : Int32} {x : Int64} (hD : D k = true) (hk : k < 215) (hd : KD k = (101, [z])) (hi : vp_in i z) (d : decode (Yf m).2.1 pc = .ok (.lastore, 1) ∧ pc + 1 = pc') (kk : T m pc' lv st (zJ σ k i.toNatClampNeg x)) : T m pc lv (.long x :: .int i :: .ref k :: st) σ := hT _ _ _ _ _ _ _ _ _ (agJ hD) (fun τ K q => z_last hk hd hi d (by rw [mixJ hD]; exact q)) kk
theorem g_lcmp (hT : Lft E Yf D T) {x y : Int64} (d : decode (Yf m).2.1 pc = .ok (.lcmp, 1) ∧ pc + 1 = pc') (k : T m pc' lv (.int (lg_cmp x y) :: st) σ) : T m pc lv (.long y :: .long x :: st) σ := hT _ _ _ _ _ _ _ _ _ agD.rf (fun τ K q => z_lcmp d q) k
theorem g_lconst (hT : Lft E Yf D T) {i : Fin 2} {v : Int64} (d : decode (Yf m).2.1 pc = .ok (.lconst i, 1) ∧ pc + 1 = pc') (hv : Int64.ofNat (i : Nat) = v) (k : T m pc' lv (.long v :: st) σ) : T m pc lv st σ := hT _ _ _ _ _ _ _ _ _ agD.rf (fun τ K q => z_lconst d hv q) k
theorem g_ldc (hT : Lft E Yf D T) {i : Nat} {v : Int32} (d : decode (Yf m).2.1 pc = .ok (.ldc i, 2) ∧ pc + 2 = pc') (hw : Cond.constant (Yf m).1.cls i v ∈ TBg) (k : T m pc' lv (.int v :: st) σ) : T m pc lv st σ := hT _ _ _ _ _ _ _ _ _ agD.rf (fun τ K q => z_ldc d hw q) k
theorem g_ldc2 (hT : Lft E Yf D T) {i : Nat} {v : Int64} (d : decode (Yf m).2.1 pc = .ok (.ldc2_w i, 3) ∧ pc + 3 = pc') (hw : Cond.constantLong (Yf m).1.cls i v ∈ TBg) (k : T m pc' lv (.long v :: st) σ) : T m pc lv st σ := hT _ _ _ _ _ _ _ _ _ agD.rf (fun τ K q => z_ldc2 d hw q) k
theorem g_ldcS (hT : Lft E Yf D T) {i : Nat} {q : String × (Nat × String)} (hq : STR[i]? = some q) (hY : (Yf m).1.cls = q.1) (d : decode (Yf m).2.1 pc = .ok (.ldc q.2.1, 2) ∧ pc + 2 = pc') (k : T m pc' lv (.ref (1000 + i) :: st) σ) : T m pc lv st σ := hT _ _ _ _ _ _ _ _ _ agD.rf (fun τ K q => z_ldcS hq hY d q) k
theorem g_ldcw (hT : Lft E Yf D T) {i : Nat} {v : Int32} (d : decode (Yf m).2.1 pc = .ok (.ldc_w i, 3) ∧ pc + 3 = pc') (hw : Cond.constant (Yf m).1.cls i v ∈ TBg) (k : T m pc' lv (.int v :: st) σ) : T m pc lv st σ := hT _ _ _ _ _ _ _ _ _ agD.rf (fun τ K q => z_ldcw d hw q) k
theorem g_ldcwS (hT : Lft E Yf D T) {i : Nat} {q : String × (Nat × String)} (hq : STR[i]? = some q) (hY : (Yf m).1.cls = q.1) (d : decode (Yf m).2.1 pc = .ok (.ldc_w q.2.1, 3) ∧ pc + 3 = pc') (k : T m pc' lv (.ref (1000 + i) :: st) σ) : T m pc lv st σ := hT _ _ _ _ _ _ _ _ _ agD.rf (fun τ K q => z_ldcwS hq hY d q) k
theorem g_ldiv (hT : Lft E Yf D T) {x y : Int64} (d : decode (Yf m).2.1 pc = .ok (.ldiv, 1) ∧ pc + 1 = pc') (hne : ¬ y = 0) (k : T m pc' lv (.long (x / y) :: st) σ) : T m pc lv (.long y :: .long x :: st) σ := hT _ _ _ _ _ _ _ _ _ agD.rf (fun τ K q => z_ldiv d hne q) k
theorem g_lload (hT : Lft E Yf D T) {i q : Nat} {x : Int64} (d : decode (Yf m).2.1 pc = .ok (.lload i, 2) ∧ pc + 2 = pc') (hq : lv[q]? = some (i, .long x)) (k : T m pc' lv (.long x :: st) σ) : T m pc lv st σ := hT _ _ _ _ _ _ _ _ _ agD.rf (fun τ K q => z_lload d hq q) k
theorem g_lload_n (hT : Lft E Yf D T) {f : Fin 4} {i q : Nat} {x : Int64} (d : decode (Yf m).2.1 pc = .ok (.lload_n f, 1) ∧ pc + 1 = pc') (hi : (f : Nat) = i) (hq : lv[q]? = some (i, .long x)) (k : T m pc' lv (.long x :: st) σ) : T m pc lv st σ := hT _ _ _ _ _ _ _ _ _ agD.rf (fun τ K q => z_lload_n d hi hq q) k
theorem g_lmul (hT : Lft E Yf D T) {x y : Int64} (d : decode (Yf m).2.1 pc = .ok (.lmul, 1) ∧ pc + 1 = pc') (k : T m pc' lv (.long (x * y) :: st) σ) : T m pc lv (.long y :: .long x :: st) σ := hT _ _ _ _ _ _ _ _ _ agD.rf (fun τ K q => z_lmul d q) k
theorem g_lneg (hT : Lft E Yf D T) {x : Int64} (d : decode (Yf m).2.1 pc = .ok (.lneg, 1) ∧ pc + 1 = pc') (k : T m pc' lv (.long (-x) :: st) σ) : T m pc lv (.long x :: st) σ := hT _ _ _ _ _ _ _ _ _ agD.rf (fun τ K q => z_lneg d q) k
theorem g_lookup (hT : Lft E Yf D T) {dflt : Int} {ps : Array (Int × Int)} {len : Nat} {x : Int32} {off : Int} {tgt : Nat} (d : decode (Yf m).2.1 pc = .ok (.lookupswitch dflt ps, len)) (hp : (ps.toList.zip (ps.toList.drop 1)).all (fun (a, next) => a.1 < next.1) = true) (ho : Op.lookupswitch.offset ps.toList dflt x.toInt = off) (ht : (pc : Int) + off = (tgt : Int)) (k : T m tgt lv st σ) : T m pc lv (.int x :: st) σ := hT _ _ _ _ _ _ _ _ _ agD.rf (fun τ K q => z_lookup d hp ho ht q) k
theorem g_lor (hT : Lft E Yf D T) {x y : Int64} (d : decode (Yf m).2.1 pc = .ok (.lor, 1) ∧ pc + 1 = pc') (k : T m pc' lv (.long (x ||| y) :: st) σ) : T m pc lv (.long y :: .long x :: st) σ := hT _ _ _ _ _ _ _ _ _ agD.rf (fun τ K q => z_lor d q) k
theorem g_lrem (hT : Lft E Yf D T) {x y : Int64} (d : decode (Yf m).2.1 pc = .ok (.lrem, 1) ∧ pc + 1 = pc') (hne : ¬ y = 0) (k : T m pc' lv (.long (x - x / y * y) :: st) σ) : T m pc lv (.long y :: .long x :: st) σ := hT _ _ _ _ _ _ _ _ _ agD.rf (fun τ K q => z_lrem d hne q) k
theorem g_lshl (hT : Lft E Yf D T) {x v : Int64} {y : Int32} (d : decode (Yf m).2.1 pc = .ok (.lshl, 1) ∧ pc + 1 = pc') (hv : x <<< (y.toInt64 &&& 63) = v) (k : T m pc' lv (.long v :: st) σ) : T m pc lv (.int y :: .long x :: st) σ := hT _ _ _ _ _ _ _ _ _ agD.rf (fun τ K q => z_lshl d hv q) k
theorem g_lshr (hT : Lft E Yf D T) {x v : Int64} {y : Int32} (d : decode (Yf m).2.1 pc = .ok (.lshr, 1) ∧ pc + 1 = pc') (hv : x >>> (y.toInt64 &&& 63) = v) (k : T m pc' lv (.long v :: st) σ) : T m pc lv (.int y :: .long x :: st) σ := hT _ _ _ _ _ _ _ _ _ agD.rf (fun τ K q => z_lshr d hv q) k
theorem g_lstore (hT : Lft E Yf D T) {i : Nat} {x : Int64} (d : decode (Yf m).2.1 pc = .ok (.lstore i, 2) ∧ pc + 2 = pc') (hn : i + 1 < (Yf m).2.2.1) (hl' : (i, Value.long x) :: lv.filter (fun q => !(q.1 == i) && (!(q.1 == i + 1) && !(q.1 + 1 == i && q.2.category == 2))) = lv') (k : T m pc' lv' st σ) : T m pc lv (.long x :: st) σ := hT _ _ _ _ _ _ _ _ _ agD.rf (fun τ K q => z_lstore d hn hl' q) k
theorem g_lstore_n (hT : Lft E Yf D T) {f : Fin 4} {i : Nat} {x : Int64} (d : decode (Yf m).2.1 pc = .ok (.lstore_n f, 1) ∧ pc + 1 = pc') (hi : (f : Nat) = i) (hn : i + 1 < (Yf m).2.2.1) (hl' : (i, Value.long x) :: lv.filter (fun q => !(q.1 == i) && (!(q.1 == i + 1) && !(q.1 + 1 == i && q.2.category == 2))) = lv') (k : T m pc' lv' st σ) : T m pc lv (.long x :: st) σ := hT _ _ _ _ _ _ _ _ _ agD.rf (fun τ K q => z_lstore_n d hi hn hl' q) k
theorem g_lsub (hT : Lft E Yf D T) {x y : Int64} (d : decode (Yf m).2.1 pc = .ok (.lsub, 1) ∧ pc + 1 = pc') (k : T m pc' lv (.long (x - y) :: st) σ) : T m pc lv (.long y :: .long x :: st) σ := hT _ _ _ _ _ _ _ _ _ agD.rf (fun τ K q => z_lsub d q) k
theorem g_lushr (hT : Lft E Yf D T) {x v : Int64} {y : Int32} (d : decode (Yf m).2.1 pc = .ok (.lushr, 1) ∧ pc + 1 = pc') (hv : (x.toUInt64 >>> (y.toInt64.toUInt64 &&& Int64.toUInt64 63)).toInt64 = v) (k : T m pc' lv (.long v :: st) σ) : T m pc lv (.int y :: .long x :: st) σ := hT _ _ _ _ _ _ _ _ _ agD.rf (fun τ K q => z_lushr d hv q) k
theorem g_lxor (hT : Lft E Yf D T) {x y : Int64} (d : decode (Yf m).2.1 pc = .ok (.lxor, 1) ∧ pc + 1 = pc') (k : T m pc' lv (.long (x ^^^ y) :: st) σ) : T m pc lv (.long y :: .long x :: st) σ := hT _ _ _ _ _ _ _ _ _ agD.rf (fun τ K q => z_lxor d q) k
theorem g_mmax (hT : Lft E Yf D T) {pc pc' idx : Nat} {x y : Int32} (w1 : Cond.methodLink (Yf m).1.cls idx Lib.Math.max.name ∈ TBg) (w2 : Cond.static Lib.Math.max.name ∈ TBg) (w3 : Cond.initialized "java/lang/Math" ∈ TBg) (w4 : Cond.code Lib.Math.max.name Lib.Math.max.code 2 (some .int) ∈ TBg) (hfr : 1 ≤ (Yf m).2.2.2.2.frames) (hlo : 40 ≤ (Yf m).2.2.2.2.locals) (hcat : (st.map fun v => v.category).sum ≤ 8) (d : decode (Yf m).2.1 pc = .ok (.invokestatic idx, 3) ∧ pc + 3 = pc') (k : T m pc' lv (.int (if x < y then y else x) :: st) σ) : T m pc lv (.int y :: .int x :: st) σ := hT _ _ _ _ _ _ _ _ _ agD.rf (fun τ K q => z_mmax w1 w2 w3 w4 hfr hlo hcat d q) k
theorem g_mmin (hT : Lft E Yf D T) {pc pc' idx : Nat} {x y : Int32} (w1 : Cond.methodLink (Yf m).1.cls idx Lib.Math.min.name ∈ TBg) (w2 : Cond.static Lib.Math.min.name ∈ TBg) (w3 : Cond.initialized "java/lang/Math" ∈ TBg) (w4 : Cond.code Lib.Math.min.name Lib.Math.min.code 2 (some .int) ∈ TBg) (hfr : 1 ≤ (Yf m).2.2.2.2.frames) (hlo : 40 ≤ (Yf m).2.2.2.2.locals) (hcat : (st.map fun v => v.category).sum ≤ 8) (d : decode (Yf m).2.1 pc = .ok (.invokestatic idx, 3) ∧ pc + 3 = pc') (k : T m pc' lv (.int (if y < x then y else x) :: st) σ) : T m pc lv (.int y :: .int x :: st) σ := hT _ _ _ _ _ _ _ _ _ agD.rf (fun τ K q => z_mmin w1 w2 w3 w4 hfr hlo hcat d q) k
theorem g_popi (hT : Lft E Yf D T) {x : Int32} (d : decode (Yf m).2.1 pc = .ok (.pop, 1) ∧ pc + 1 = pc') (k : T m pc' lv st σ) : T m pc lv (.int x :: st) σ := hT _ _ _ _ _ _ _ _ _ agD.rf (fun τ K q => z_popi d q) k
theorem g_puti (hT : Lft E Yf D T) {k j idx ci : Nat} {l : List Nat} {ty : FieldType} {v : Int32} (hD : D k = true) (F : xFl (Yf m).1.cls idx ci j ty false) (hk : k < 215) (hd : KD k = (ci, l)) (hc : ci < 100) (hj : l[j]? = some 0) (hw : narrow ty (.int v) = .int v) (hf : fits ty (.int v) = true) (d : decode (Yf m).2.1 pc = .ok (.putfield idx, 3) ∧ pc + 3 = pc') (kk : T m pc' lv st (zI σ k j v)) : T m pc lv (.int v :: .ref k :: st) σ := hT _ _ _ _ _ _ _ _ _ (agI hD) (fun τ K q => z_puti F hk hd hc hj hw hf d (by rw [mixI hD]; exact q)) kk
theorem g_putj (hT : Lft E Yf D T) {k j idx ci : Nat} {l : List Nat} {v : Int64} (hD : D k = true) (F : xFl (Yf m).1.cls idx ci j .long false) (hk : k < 215) (hd : KD k = (ci, l)) (hc : ci < 100) (hj : l[j]? = some 1) (d : decode (Yf m).2.1 pc = .ok (.putfield idx, 3) ∧ pc + 3 = pc') (kk : T m pc' lv st (zJ σ k j v)) : T m pc lv (.long v :: .ref k :: st) σ := hT _ _ _ _ _ _ _ _ _ (agJ hD) (fun τ K q => z_putj F hk hd hc hj d (by rw [mixJ hD]; exact q)) kk
theorem g_rald (hT : Lft E Yf D T) {x : Int32} (hx : vp_in x 4) (d : decode (Yf m).2.1 pc = .ok (.iaload, 1) ∧ pc + 1 = pc') (k : T m pc' lv (.int (RNK.getD x.toNatClampNeg 0) :: st) σ) : T m pc lv (.int x :: .ref 3001 :: st) σ := hT _ _ _ _ _ _ _ _ _ agD.rf (fun τ K q => z_rald hx d q) k
theorem g_sald (hT : Lft E Yf D T) {i : Nat} {x : Int32} (hi : i < 21) (hx : vp_in x (SLN.getD i 0)) (d : decode (Yf m).2.1 pc = .ok (.baload, 1) ∧ pc + 1 = pc') (k : T m pc' lv (.int ((SBY.getD i []).getD x.toNatClampNeg 0) :: st) σ) : T m pc lv (.int x :: .ref (2000 + i) :: st) σ := hT _ _ _ _ _ _ _ _ _ agD.rf (fun τ K q => z_sald hi hx d q) k
theorem g_sgetc (hT : Lft E Yf D T) {idx i : Nat} (hi : i < 21) (hl : Cond.fieldLink (Yf m).1.cls idx "java/lang/String" "coder" "B" ∈ TBg) (d : decode (Yf m).2.1 pc = .ok (.getfield idx, 3) ∧ pc + 3 = pc') (k : T m pc' lv (.int 0 :: st) σ) : T m pc lv (.ref (1000 + i) :: st) σ := hT _ _ _ _ _ _ _ _ _ agD.rf (fun τ K q => z_sgetc hi hl d q) k
theorem g_sgetv (hT : Lft E Yf D T) {idx i : Nat} (hi : i < 21) (hl : Cond.fieldLink (Yf m).1.cls idx "java/lang/String" "value" "[B" ∈ TBg) (d : decode (Yf m).2.1 pc = .ok (.getfield idx, 3) ∧ pc + 3 = pc') (k : T m pc' lv (.ref (2000 + i) :: st) σ) : T m pc lv (.ref (1000 + i) :: st) σ := hT _ _ _ _ _ _ _ _ _ agD.rf (fun τ K q => z_sgetv hi hl d q) k
theorem g_sipush (hT : Lft E Yf D T) {i : Int} {v : Int32} (d : decode (Yf m).2.1 pc = .ok (.sipush i, 3) ∧ pc + 3 = pc') (hv : (Int16.ofInt i).toInt32 = v) (k : T m pc' lv (.int v :: st) σ) : T m pc lv st σ := hT _ _ _ _ _ _ _ _ _ agD.rf (fun τ K q => z_sipush d hv q) k
theorem g_slen (hT : Lft E Yf D T) {i : Nat} {v : Int32} (hi : i < 21) (hv : Int32.ofNat (SLN.getD i 0) = v) (d : decode (Yf m).2.1 pc = .ok (.arraylength, 1) ∧ pc + 1 = pc') (k : T m pc' lv (.int v :: st) σ) : T m pc lv (.ref (2000 + i) :: st) σ := hT _ _ _ _ _ _ _ _ _ agD.rf (fun τ K q => z_slen hi hv d q) k
theorem g_tableIn (hT : Lft E Yf D T) {dflt lo hi : Int} {offs : Array Int} {len : Nat} {x : Int32} {off : Int} {tgt : Nat} (d : decode (Yf m).2.1 pc = .ok (.tableswitch dflt lo hi offs, len)) (h1 : ¬ x.toInt < lo) (h2 : ¬ hi < x.toInt) (ho : offs[(x.toInt - lo).toNat]? = some off) (ht : (pc : Int) + off = (tgt : Int)) (k : T m tgt lv st σ) : T m pc lv (.int x :: st) σ := hT _ _ _ _ _ _ _ _ _ agD.rf (fun τ K q => z_tableIn d h1 h2 ho ht q) k
theorem g_tableOut (hT : Lft E Yf D T) {dflt lo hi : Int} {offs : Array Int} {len : Nat} {x : Int32} {tgt : Nat} (d : decode (Yf m).2.1 pc = .ok (.tableswitch dflt lo hi offs, len)) (h : x.toInt < lo ∨ hi < x.toInt) (ht : (pc : Int) + dflt = (tgt : Int)) (k : T m tgt lv st σ) : T m pc lv (.int x :: st) σ := hT _ _ _ _ _ _ _ _ _ agD.rf (fun τ K q => z_tableOut d h ht q) k
theorem g_zald (hT : Lft E Yf D T) {k z : Nat} {i : Int32} (hD : D k = true) (hk : k < 215) (hd : KD k = (102, [z])) (hi : vp_in i z) (d : decode (Yf m).2.1 pc = .ok (.baload, 1) ∧ pc + 1 = pc') (kk : T m pc' lv (.int (σ.1 k i.toNatClampNeg) :: st) σ) : T m pc lv (.int i :: .ref k :: st) σ := hT _ _ _ _ _ _ _ _ _ agD.rf (fun τ K q => z_zald hk hd hi d (by rw [mix1 hD]; exact q)) kk
theorem g_zast (hT : Lft E Yf D T) {k z : Nat} {i : Int32} {x : Int32} (hD : D k = true) (hk : k < 215) (hd : KD k = (102, [z])) (hi : vp_in i z) (d : decode (Yf m).2.1 pc = .ok (.bastore, 1) ∧ pc + 1 = pc') (kk : T m pc' lv st (zI σ k i.toNatClampNeg (vp_nar .boolean x))) : T m pc lv (.int x :: .int i :: .ref k :: st) σ := hT _ _ _ _ _ _ _ _ _ (agI hD) (fun τ K q => z_zast hk hd hi d (by rw [mixI hD]; exact q)) kk
end PZ
end
