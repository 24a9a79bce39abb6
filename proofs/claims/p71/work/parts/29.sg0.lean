noncomputable section
/-! ===== THE GUARD, 90: writes ===== -/
def eGS (m m' : Mt) : Prop := (∀ i, m' 200 i = m 200 i) ∧ (∀ i, m' 199 i = m 199 i) ∧ ∀ i, m' 198 i = m 198 i
def eGB (m m' : Mt) : Prop := (m' 70 6 = m 70 6 ∧ m' 1000 7 = m 1000 7) ∧ (∀ i, m' 96 i = m 96 i) ∧ (∀ i, m' 97 i = m 97 i) ∧ ∀ r i, r < 20 → m' (76 + r) i = m (76 + r) i
def eGL (m m' : Mt) : Prop := ∀ i, m' 201 i = m 201 i
def eGK (m m' : Mt) : Prop := (∀ i, m' 202 i = m 202 i) ∧ m' 110 134 = m 110 134
def eGM (m m' : Mt) : Prop := ∀ i, m' 203 i = m 203 i
def eGP (m m' : Mt) : Prop := m' 110 6 = m 110 6
def eGC (m m' : Mt) : Prop := ∀ i, m' 74 i = m 74 i
theorem wr_ne {m : Mt} {k j i : Nat} {x : Int} (h : i ≠ j) : wrM m k j x k i = m k i := by
  show (bif Nat.beq k k && Nat.beq i j then x else m k i) = m k i
  have : Nat.beq i j = false := by
    cases e : Nat.beq i j with
    | false => rfl
    | true => exact absurd (Nat.eq_of_beq_eq_true e) h
  rw [this, Bool.and_false]
  rfl
theorem wr_at {m : Mt} {k j : Nat} {x : Int} : wrM m k j x k j = x := by
  show (bif Nat.beq k k && Nat.beq j j then x else m k j) = x
  rw [Nat.beq_refl, Nat.beq_refl]
  rfl
theorem wr_row {m : Mt} {k k' j i : Nat} {x : Int} (h : k' ≠ k) : wrM m k j x k' i = m k' i := by
  show (bif Nat.beq k' k && Nat.beq i j then x else m k' i) = m k' i
  have : Nat.beq k' k = false := by
    cases e : Nat.beq k' k with
    | false => rfl
    | true => exact absurd (Nat.eq_of_beq_eq_true e) h
  rw [this]
  rfl
section G90
variable {m m' : Mt} {τ : Tf}
theorem RSG_e (h : ∀ i, m' 200 i = m 200 i) : RSG m' = RSG m := by funext a x; unfold RSG; simp only [h]
theorem SyG_e (h : ∀ i, m' 200 i = m 200 i) : SyG m' = SyG m := by unfold SyG; simp only [h]
theorem inG_e (h : ∀ i, m' 200 i = m 200 i) : inG m' = inG m := by funext a b y; unfold inG; rw [RSG_e h]
theorem tsG_e (h : eGS m m') : tsG m' = tsG m := by funext a b A I s; unfold tsG; rw [inG_e h.1]; simp only [h.2.1, h.2.2]
theorem PfG_e (h : eGS m m') : PfG m' = PfG m := by funext a b A I x; unfold PfG; rw [tsG_e h]
theorem PxG_e (h : eGS m m') : PxG m' = PxG m := by funext a b z x; unfold PxG; rw [PfG_e h]
theorem kGm_e (h : m' 70 6 = m 70 6) : kGm m' = kGm m := by unfold kGm; rw [h]
theorem qGm_e (h : ∀ i, m' 96 i = m 96 i) : qGm m' = qGm m := by funext r; unfold qGm; rw [h]
theorem dGm_e (h : m' 1000 7 = m 1000 7) : dGm m' = dGm m := h
theorem BGm_e (h : ∀ r i, r < 20 → m' (76 + r) i = m (76 + r) i) : BGm m' = BGm m := by
  funext r c
  unfold BGm
  by_cases q : r < 20 ∧ c < 20
  · rw [if_pos q, if_pos q, h r c q.1]
  · rw [if_neg q, if_neg q]
theorem GAm_e (h1 : m' 70 6 = m 70 6) (h2 : m' 1000 7 = m 1000 7) (h3 : ∀ i, m' 96 i = m 96 i) (h4 : ∀ r i, r < 20 → m' (76 + r) i = m (76 + r) i) : GAm m' = GAm m := by
  funext P; unfold GAm; rw [kGm_e h1, qGm_e h3, dGm_e h2, BGm_e h4, h1]; simp only [h3]
theorem lfm_e (h1 : m' 70 6 = m 70 6) (h2 : m' 1000 7 = m 1000 7) (h3 : ∀ i, m' 96 i = m 96 i) (h4 : ∀ r i, r < 20 → m' (76 + r) i = m (76 + r) i) : lfm m' = lfm m := by
  funext w c; unfold lfm; rw [kGm_e h1, qGm_e h3, dGm_e h2, BGm_e h4]
theorem psG_e (h2 : m' 1000 7 = m 1000 7) (h3 : ∀ i, m' 96 i = m 96 i) (h4 : ∀ r i, r < 20 → m' (76 + r) i = m (76 + r) i) : psG m' = psG m := by
  funext w R c; unfold psG; rw [qGm_e h3, dGm_e h2, BGm_e h4]
theorem UpG_e (h : eGB m m') : UpG m' = UpG m := by
  funext F G P w Y N U V; unfold UpG; rw [BGm_e h.2.2.2, h.1.1, h.1.2]; simp only [h.2.1, h.2.2.1]
theorem fmG_e (h : eGK m m') : fmG m' = fmG m := by funext s i; unfold fmG; rw [h.2, h.1]
theorem MmG_e (h : eGM m m') : MmG m' = MmG m := by funext i c; unfold MmG; rw [h (20 * i + c)]
theorem SwG_e (h1 : eGK m m') (h2 : eGM m m') : SwG m' = SwG m := by funext a b c d e f g k; unfold SwG; rw [fmG_e h1, MmG_e h2]
theorem RwG_e (h1 : eGK m m') (h2 : eGM m m') : RwG m' = RwG m := by funext a b c d e f g k; unfold RwG; rw [fmG_e h1, MmG_e h2]
theorem JnG_e (h1 : ∀ i, m' 200 i = m 200 i) (h2 : eGC m m') : JnG m' = JnG m := by funext a b c d e; unfold JnG; simp only [h1, show ∀ i, m' 74 i = m 74 i from h2]
theorem TdG_e (h1 : eGS m m') (h2 : eGP m m') : TdG m' = TdG m := by unfold TdG; rw [show m' 110 6 = m 110 6 from h2]; simp only [h1.2.1, h1.2.2]
theorem e_p1 (h1 : eGS m m') (h2 : eGC m m') (h : τ 980 = none → ∀ a x : Nat, a < 4 → x < 4 → (0 ≤ m 74 a ∧ m 74 a ≤ 15) ∧ (bxG (m 74 a) x = 1 ↔ RSG m a x)) : τ 980 = none → ∀ a x : Nat, a < 4 → x < 4 → (0 ≤ m' 74 a ∧ m' 74 a ≤ 15) ∧ (bxG (m' 74 a) x = 1 ↔ RSG m' a x) := by
  intro e a x ha hx
  have := h e a x ha hx
  rw [show m' 74 a = m 74 a from h2 a, RSG_e h1.1]; exact this
theorem e_q (hS : eGS m m') (hP : eGP m m') (h : g_q τ m) : g_q τ m' := by
  unfold g_q at h ⊢
  simp only [RSG_e hS.1, inG_e hS.1, tsG_e hS, PfG_e hS, PxG_e hS, show m' 110 6 = m 110 6 from hP]
  exact h
theorem e_c (hS : eGS m m') (hB : eGB m m') (h : g_c τ m) : g_c τ m' := by
  unfold g_c at h ⊢
  simp only [inG_e hS.1, PfG_e hS, PxG_e hS, kGm_e hB.1.1, BGm_e hB.2.2.2, GAm_e hB.1.1 hB.1.2 hB.2.1 hB.2.2.2, lfm_e hB.1.1 hB.1.2 hB.2.1 hB.2.2.2, psG_e hB.1.2 hB.2.1 hB.2.2.2, UpG_e hB, hS.2.1, hS.2.2, hB.2.2.1]
  exact h
theorem e_d (hS : eGS m m') (h : g_d τ m) : g_d τ m' := by
  unfold g_d at h ⊢
  simp only [inG_e hS.1, tsG_e hS, hS.2.1, hS.2.2]
  exact h
theorem e_l (hS : eGS m m') (hL : eGL m m') (h : g_l τ m) : g_l τ m' := by
  unfold g_l at h ⊢
  simp only [inG_e hS.1, hS.1, show ∀ i, m' 201 i = m 201 i from hL]
  exact h
theorem e_k (hS : eGS m m') (hK : eGK m m') (h : g_k τ m) : g_k τ m' := by
  unfold g_k at h ⊢
  simp only [inG_e hS.1, tsG_e hS, hS.2.1, hS.2.2, hK.1, hK.2]
  exact h
theorem e_e (hK : eGK m m') (hM : eGM m m') (h : g_e τ m) : g_e τ m' := by
  unfold g_e at h ⊢
  simp only [fmG_e hK, MmG_e hM, SwG_e hK hM, RwG_e hK hM, hK.2, show ∀ i, m' 203 i = m 203 i from hM]
  exact h
theorem e_t (hK : eGK m m') (hP : eGP m m') (h : g_t τ m) : g_t τ m' := by
  unfold g_t at h ⊢
  simp only [fmG_e hK, hK.2, show m' 110 6 = m 110 6 from hP]
  exact h
theorem e_n (hS : eGS m m') (h : g_n τ m) : g_n τ m' := by
  unfold g_n at h ⊢
  simp only [hS.2.1, hS.2.2]
  exact h
theorem e_j (hS : eGS m m') (hC : eGC m m') (h : g_j τ m) : g_j τ m' := by
  unfold g_j at h ⊢
  simp only [JnG_e hS.1 hC]
  exact h
/-- rows that are kept, as far as they are asked -/
theorem GA_cong {P : (Nat → Int) → Prop} {k : Nat} {q q' : Nat → Nat} {d : Int} {B B' : Nat → Nat → Int} (h : GA P k q d B) (hq : ∀ r, r < k → q' r = q r) (hB : ∀ r, r < k → ∀ c, B' r c = B r c) : GA P k q' d B' := by
  obtain ⟨v, ⟨g1, g2, g3, g4, g5⟩, h2, h3, h4, h5⟩ := h
  refine ⟨v, ⟨g1, ?_, fun c i hi => ?_, fun r hr s hs => ?_, g5⟩, h2, fun r hr => by rw [hq r hr]; exact h3 r hr, fun r hr => ?_, fun x hx c => ?_⟩
  · rw [Fg_cong k k (fun r i => v i (q' r)) (fun r i => v i (q r)) (fun r hr i _ => by show v i (q' r) = v i (q r); rw [hq r hr])]; exact g2
  · rw [g3 c i hi]; exact sm_cong k _ _ (fun r hr => by rw [hB r hr c, hq r hr])
  · rw [hB r hr, hq s hs]; exact g4 r hr s hs
  · have e : B' r = B r := by funext c; exact hB r hr c
    rw [e]; exact h4 r hr
  · rw [h5 x hx c]; exact sm_cong k _ _ (fun r hr => by rw [hB r hr c, hq r hr])
theorem BGm_w {k r0 j : Nat} {x : Int} (hk : k = 76 + r0) (hr : r0 < 20) (r c : Nat) (hc : c < 20) (hr' : r < 20) : BGm (wrM m k j x) r c = if r = r0 ∧ c = j then x else BGm m r c := by
  have a1 : BGm (wrM m k j x) r c = wrM m k j x (76 + r) c := by unfold BGm; rw [if_pos ⟨hr', hc⟩]
  have a2 : BGm m r c = m (76 + r) c := by unfold BGm; rw [if_pos ⟨hr', hc⟩]
  rw [a1, a2, hk]
  by_cases e : r = r0 ∧ c = j
  · rw [if_pos e, e.1, e.2, wr_at]
  · rw [if_neg e]
    by_cases e2 : r = r0
    · rw [e2]; exact wr_ne (fun z => e ⟨e2, z⟩)
    · exact wr_row (by omega)
theorem lf_out {N : Nat} {q : Nat → Nat} {d : Int} {B : Nat → Nat → Int} {w : Int} (hB : ∀ r c : Nat, 20 ≤ c → B r c = 0) (c : Nat) (hc : 20 ≤ c) : lfG N q d B (bvG w) c = 0 := by
  unfold lfG
  rw [bv_out w c hc, sm_zero _ _ (fun r _ => by rw [hB r c hc, Int.mul_zero])]; omega
theorem nb_out {N : Nat} {q : Nat → Nat} {d : Int} {B : Nat → Nat → Int} {w : Int} (hB : ∀ r c : Nat, 20 ≤ c → B r c = 0) (y r c : Nat) (hc : 20 ≤ c) : nbG N q d B (bvG w) y r c = 0 := by
  unfold nbG
  by_cases e : r = N
  · rw [if_pos e]; exact lf_out hB c hc
  · rw [if_neg e, hB r c hc, lf_out hB c hc, Int.mul_zero, Int.mul_zero, Int.sub_self]; exact Int.zero_tdiv d
theorem MmG_w {j : Nat} {x : Int} (i c : Nat) : MmG (wrM m 203 j x) i c = if 20 * i + c = j ∧ c < 20 then x else MmG m i c := by
  unfold MmG
  by_cases hc : c < 20
  · rw [if_pos hc, if_pos hc]
    by_cases e : 20 * i + c = j
    · rw [if_pos ⟨e, hc⟩, e, wr_at]
    · rw [if_neg (fun z => e z.1)]; exact wr_ne e
  · rw [if_neg hc, if_neg hc, if_neg (fun z => hc z.2)]
theorem Mm_out (m : Mt) (i c : Nat) (h : 20 ≤ c) : MmG m i c = 0 := by unfold MmG; rw [if_neg (by omega)]
theorem en_cg {P : Int → Prop} {n : Nat} {L L' : Nat → Int} (h : enG P n L) (hL : ∀ i, i < n → L' i = L i) : enG P n L' :=
  ⟨fun i hi => by rw [hL i hi]; exact h.1 i hi, fun i j hi hj hn => by rw [hL i hi, hL j hj]; exact h.2.1 i j hi hj hn, fun s hs => by
    obtain ⟨i, hi, e⟩ := h.2.2 s hs
    exact ⟨i, hi, by rw [hL i hi]; exact e⟩⟩
theorem en_put {P P' : Int → Prop} {n n' : Nat} {L : Nat → Int} {w : Int} (h : enG P n L) (hn : n' = n + 1) (hw : L n = w) (hP : ¬ P w) (hS : ∀ s, P' s ↔ P s ∨ s = w) : enG P' n' L := by
  rw [hn]
  refine en_cg (en_more h hP hS) (fun i hi => ?_)
  by_cases e : i = n
  · rw [if_pos e, e]; exact hw
  · rw [if_neg e]
end G90
def wu_Rg : Ru := ([(7, (0, (0, (0, 0)))), (8, (0, (0, (0, 0)))), (4, (0, (0, (6, 0)))), (0, (883, (0, (0, 0)))), (0, (892, (0, (0, 0)))), (0, (893, (0, (0, 0)))), (0, (894, (0, (0, 0)))), (0, (895, (0, (0, 0)))), (0, (880, (0, (0, 0)))), (0, (881, (0, (0, 0)))), (0, (871, (0, (0, 0)))), (0, (872, (0, (0, 0)))), (0, (897, (0, (0, 0))))], ([882, 886, 887, 889, 891, 899, 905, 930, 931, 932, 933, 934, 935, 936, 937, 938, 939, 910, 911, 912, 913, 914, 915, 940, 941, 942, 943, 944, 945, 946, 947, 948, 949, 950, 951, 952, 953, 954, 955, 956, 957, 958, 959, 960, 961, 962, 963, 964, 965, 966, 967, 968, 969, 970, 971, 972, 973, 974, 920, 921, 922, 923, 924, 925, 926, 927, 928, 929], ([([(0, 1), (2, (-1))], 0), ([(0, (-1)), (2, 1)], 0), ([(12, 1)], 1), ([(12, (-1))], (-1)), ([(1, 1), (5, (-1))], 1), ([(1, (-1)), (5, 1)], (-1))], (false, ([], ([], ([(897, some (12, 1))], none)))))))
theorem wk_Rg : WrOk SGd 70 wu_Rg := by
  intro τ m g j x hi hc ha hS
  obtain ⟨i0, i1, i2, i3, i4, i5, i6, i7, i8, i9, i10, i11, i12, _⟩ := hi
  have xp : g 0 = (j : Int) := i0
  have xv : g 1 = x := i1
  have xj : g 2 = 6 := i2
  have t883 : τ 883 = some (g 3) := i3
  have t892 : τ 892 = some (g 4) := i4
  have t893 : τ 893 = some (g 5) := i5
  have t894 : τ 894 = some (g 6) := i6
  have t895 : τ 895 = some (g 7) := i7
  have t880 : τ 880 = some (g 8) := i8
  have t881 : τ 881 = some (g 9) := i9
  have t871 : τ 871 = some (g 10) := i10
  have t872 : τ 872 = some (g 11) := i11
  have t897 : τ 897 = some (g 12) := i12
  obtain ⟨c0, c1, c2, c3, c4, c5, _⟩ := hc
  have c0 : 1 * g 0 + (-1) * g 2 ≤ 0 := d2 c0
  have c1 : (-1) * g 0 + 1 * g 2 ≤ 0 := d2 c1
  have c2 : 1 * g 12 ≤ 1 := d1 c2
  have c3 : (-1) * g 12 ≤ (-1) := d1 c3
  have c4 : 1 * g 1 + (-1) * g 5 ≤ 1 := d2 c4
  have c5 : (-1) * g 1 + 1 * g 5 ≤ (-1) := d2 c5
  obtain ⟨a0, a1, a2, a3, a4, a5, a6, a7, a8, a9, a10, a11, a12, a13, a14, a15, a16, a17, a18, a19, a20, a21, a22, a23, a24, a25, a26, a27, a28, a29, a30, a31, a32, a33, a34, a35, a36, a37, a38, a39, a40, a41, a42, a43, a44, a45, a46, a47, a48, a49, a50, a51, a52, a53, a54, a55, a56, a57, a58, a59, a60, a61, a62, a63, a64, a65, a66, a67, _⟩ := ha
  have n882 : τ 882 = none := a0
  have n886 : τ 886 = none := a1
  have n887 : τ 887 = none := a2
  have n889 : τ 889 = none := a3
  have n891 : τ 891 = none := a4
  have n899 : τ 899 = none := a5
  have n905 : τ 905 = none := a6
  have n930 : τ 930 = none := a7
  have n931 : τ 931 = none := a8
  have n932 : τ 932 = none := a9
  have n933 : τ 933 = none := a10
  have n934 : τ 934 = none := a11
  have n935 : τ 935 = none := a12
  have n936 : τ 936 = none := a13
  have n937 : τ 937 = none := a14
  have n938 : τ 938 = none := a15
  have n939 : τ 939 = none := a16
  have n910 : τ 910 = none := a17
  have n911 : τ 911 = none := a18
  have n912 : τ 912 = none := a19
  have n913 : τ 913 = none := a20
  have n914 : τ 914 = none := a21
  have n915 : τ 915 = none := a22
  have n940 : τ 940 = none := a23
  have n941 : τ 941 = none := a24
  have n942 : τ 942 = none := a25
  have n943 : τ 943 = none := a26
  have n944 : τ 944 = none := a27
  have n945 : τ 945 = none := a28
  have n946 : τ 946 = none := a29
  have n947 : τ 947 = none := a30
  have n948 : τ 948 = none := a31
  have n949 : τ 949 = none := a32
  have n950 : τ 950 = none := a33
  have n951 : τ 951 = none := a34
  have n952 : τ 952 = none := a35
  have n953 : τ 953 = none := a36
  have n954 : τ 954 = none := a37
  have n955 : τ 955 = none := a38
  have n956 : τ 956 = none := a39
  have n957 : τ 957 = none := a40
  have n958 : τ 958 = none := a41
  have n959 : τ 959 = none := a42
  have n960 : τ 960 = none := a43
  have n961 : τ 961 = none := a44
  have n962 : τ 962 = none := a45
  have n963 : τ 963 = none := a46
  have n964 : τ 964 = none := a47
  have n965 : τ 965 = none := a48
  have n966 : τ 966 = none := a49
  have n967 : τ 967 = none := a50
  have n968 : τ 968 = none := a51
  have n969 : τ 969 = none := a52
  have n970 : τ 970 = none := a53
  have n971 : τ 971 = none := a54
  have n972 : τ 972 = none := a55
  have n973 : τ 973 = none := a56
  have n974 : τ 974 = none := a57
  have n920 : τ 920 = none := a58
  have n921 : τ 921 = none := a59
  have n922 : τ 922 = none := a60
  have n923 : τ 923 = none := a61
  have n924 : τ 924 = none := a62
  have n925 : τ 925 = none := a63
  have n926 : τ 926 = none := a64
  have n927 : τ 927 = none := a65
  have n928 : τ 928 = none := a66
  have n929 : τ 929 = none := a67
  obtain ⟨⟨h_p1, h_p2, h_td⟩, k_b, k_q, k_c, k_d, k_l, k_k, k_e, k_t, k_n, k_j⟩ := hS
  have k_c0 := k_c
  obtain ⟨h_ga, h_in, h_ls, h_ld, h_w, h_rd, h_lead, h_ps, h_E, h_up, h_D, h_Z, h_s, h_sp⟩ := k_c0
  have qS : eGS m (wrM m 70 j x) := ⟨fun _ => rfl, fun _ => rfl, fun _ => rfl⟩
  have qL : eGL m (wrM m 70 j x) := fun _ => rfl
  have qK : eGK m (wrM m 70 j x) := ⟨fun _ => rfl, rfl⟩
  have qM : eGM m (wrM m 70 j x) := fun _ => rfl
  have qP : eGP m (wrM m 70 j x) := rfl
  have qC : eGC m (wrM m 70 j x) := fun _ => rfl
  have k_q := e_q qS qP k_q
  have k_d := e_d qS k_d
  have k_l := e_l qS qL k_l
  have k_k := e_k qS qK k_k
  have k_e := e_e qK qM k_e
  have k_t := e_t qK qP k_t
  have k_n := e_n qS k_n
  have k_j := e_j qS qC k_j
  exact ⟨⟨h_p1, h_p2, h_td⟩, k_b, k_q, ⟨(fun qa qb A I e0 e1 e2 e3 => by
      have e0 : g 10 = qa := Option.some.inj (t871.symm.trans e0)
      subst e0
      have e1 : g 11 = qb := Option.some.inj (t872.symm.trans e1)
      subst e1
      have e2 : g 8 = A := Option.some.inj (t880.symm.trans e2)
      subst e2
      have e3 : g 9 = I := Option.some.inj (t881.symm.trans e3)
      subst e3
      exact ⟨(h_ga _ _ _ _ t871 t872 t880 t881).1, fun e8 _ => no9 e8 t892⟩), h_in, h_ls, fun _ _ _ _ _ _ e0 e1 e2 e3 e4 e5 => no9 n899 e4, h_w, fun _ _ e0 e1 => no9 n886 e1, fun _ _ _ e0 e1 e2 => no9 n887 e1, fun _ _ _ _ e0 e1 e2 e3 => no9 n886 e1, fun _ _ _ e0 e1 e2 => no9 n886 e1, (fun qa qb A I w Y N U V e0 e1 e2 e3 e4 e5 e6 e7 e8 => by
      have e0 : g 10 = qa := Option.some.inj (t871.symm.trans e0)
      subst e0
      have e1 : g 11 = qb := Option.some.inj (t872.symm.trans e1)
      subst e1
      have e2 : g 8 = A := Option.some.inj (t880.symm.trans e2)
      subst e2
      have e3 : g 9 = I := Option.some.inj (t881.symm.trans e3)
      subst e3
      have e4 : g 3 = w := Option.some.inj (t883.symm.trans e4)
      subst e4
      have e5 : g 4 = Y := Option.some.inj (t892.symm.trans e5)
      subst e5
      have e6 : g 5 = N := Option.some.inj (t893.symm.trans e6)
      subst e6
      have e7 : g 6 = U := Option.some.inj (t894.symm.trans e7)
      subst e7
      have e8 : g 7 = V := Option.some.inj (t895.symm.trans e8)
      subst e8
      show UpG (wrM m 70 j x) (τ 896) (some (g 12 + 1)) (PfG (wrM m 70 j x) (g 10) (g 11) (g 8) (g 9)) (g 3) (g 4) (g 5) (g 6) (g 7)
      obtain ⟨q, d9, B9, ⟨u1, uN, uY, uU, uV⟩, ⟨u2, u3⟩, u4, u5, u6, ⟨u7, u8⟩, u9⟩ := (h_up _ _ _ _ _ _ _ _ _ t871 t872 t880 t881 t883 t892 t893 t894 t895)
      have ej : j = 6 := by omega
      rw [PfG_e qS]
      have q9 : (g 6 = g 5 ∧ g 7 = 20) ∧ m 70 6 = g 5 ∧ m 96 (g 5).toNat = g 4 := by
        rcases u9 with q9 | q9 | q9
        · rw [t897] at q9; cases q9.1
        · exact q9.2
        · have := Option.some.inj (t897.symm.trans q9.1); omega
      refine ⟨q, d9, B9, ⟨u1, uN, uY, uU, uV⟩, ⟨u2, u3⟩, ?_, u5, u6, ⟨u7, u8⟩, Or.inr (Or.inr ⟨congrArg some (by omega), q9.1, ?_, q9.2.2⟩)⟩
      · rw [BGm_e (m := m) (fun r i hr => wr_row (by omega))]; exact u4
      · rw [ej, wr_at]; omega), fun _ _ _ _ _ e0 e1 e2 e3 e4 => no9 n899 e4, fun _ _ _ e0 e1 e2 => no9 n882 e2, fun _ _ e0 e1 => no9 n882 e0, fun _ _ _ e0 e1 e2 => no9 n905 e0⟩, k_d, k_l, k_k, k_e, k_t, k_n, k_j⟩
def wu_R0 : Ru := ([(7, (0, (0, (0, 0)))), (4, (0, (0, (6, 0))))], ([880, 881, 882, 883, 884, 885, 886, 887, 888, 889, 890, 891, 892, 893, 894, 895, 896, 897, 898, 899, 905, 906, 907, 930, 931, 932, 933, 934, 935, 936, 937, 938, 939, 910, 911, 912, 913, 914, 915, 940, 941, 942, 943, 944, 945, 946, 947, 948, 949, 950, 951, 952, 953, 954, 955, 956, 957, 958, 959, 960, 961, 962, 963, 964, 965, 966, 967, 968, 969, 970, 971, 972, 973, 974, 920, 921, 922, 923, 924, 925, 926, 927, 928, 929], ([([(0, 1), (1, (-1))], 0), ([(0, (-1)), (1, 1)], 0)], (false, ([], ([], ([], none)))))))
theorem wk_R0 : WrOk SGd 70 wu_R0 := by
  intro τ m g j x hi hc ha hS
  obtain ⟨i0, i1, _⟩ := hi
  have xp : g 0 = (j : Int) := i0
  have xj : g 1 = 6 := i1
  obtain ⟨c0, c1, _⟩ := hc
  have c0 : 1 * g 0 + (-1) * g 1 ≤ 0 := d2 c0
  have c1 : (-1) * g 0 + 1 * g 1 ≤ 0 := d2 c1
  obtain ⟨a0, a1, a2, a3, a4, a5, a6, a7, a8, a9, a10, a11, a12, a13, a14, a15, a16, a17, a18, a19, a20, a21, a22, a23, a24, a25, a26, a27, a28, a29, a30, a31, a32, a33, a34, a35, a36, a37, a38, a39, a40, a41, a42, a43, a44, a45, a46, a47, a48, a49, a50, a51, a52, a53, a54, a55, a56, a57, a58, a59, a60, a61, a62, a63, a64, a65, a66, a67, a68, a69, a70, a71, a72, a73, a74, a75, a76, a77, a78, a79, a80, a81, a82, a83, _⟩ := ha
  have n880 : τ 880 = none := a0
  have n881 : τ 881 = none := a1
  have n882 : τ 882 = none := a2
  have n883 : τ 883 = none := a3
  have n884 : τ 884 = none := a4
  have n885 : τ 885 = none := a5
  have n886 : τ 886 = none := a6
  have n887 : τ 887 = none := a7
  have n888 : τ 888 = none := a8
  have n889 : τ 889 = none := a9
  have n890 : τ 890 = none := a10
  have n891 : τ 891 = none := a11
  have n892 : τ 892 = none := a12
  have n893 : τ 893 = none := a13
  have n894 : τ 894 = none := a14
  have n895 : τ 895 = none := a15
  have n896 : τ 896 = none := a16
  have n897 : τ 897 = none := a17
  have n898 : τ 898 = none := a18
  have n899 : τ 899 = none := a19
  have n905 : τ 905 = none := a20
  have n906 : τ 906 = none := a21
  have n907 : τ 907 = none := a22
  have n930 : τ 930 = none := a23
  have n931 : τ 931 = none := a24
  have n932 : τ 932 = none := a25
  have n933 : τ 933 = none := a26
  have n934 : τ 934 = none := a27
  have n935 : τ 935 = none := a28
  have n936 : τ 936 = none := a29
  have n937 : τ 937 = none := a30
  have n938 : τ 938 = none := a31
  have n939 : τ 939 = none := a32
  have n910 : τ 910 = none := a33
  have n911 : τ 911 = none := a34
  have n912 : τ 912 = none := a35
  have n913 : τ 913 = none := a36
  have n914 : τ 914 = none := a37
  have n915 : τ 915 = none := a38
  have n940 : τ 940 = none := a39
  have n941 : τ 941 = none := a40
  have n942 : τ 942 = none := a41
  have n943 : τ 943 = none := a42
  have n944 : τ 944 = none := a43
  have n945 : τ 945 = none := a44
  have n946 : τ 946 = none := a45
  have n947 : τ 947 = none := a46
  have n948 : τ 948 = none := a47
  have n949 : τ 949 = none := a48
  have n950 : τ 950 = none := a49
  have n951 : τ 951 = none := a50
  have n952 : τ 952 = none := a51
  have n953 : τ 953 = none := a52
  have n954 : τ 954 = none := a53
  have n955 : τ 955 = none := a54
  have n956 : τ 956 = none := a55
  have n957 : τ 957 = none := a56
  have n958 : τ 958 = none := a57
  have n959 : τ 959 = none := a58
  have n960 : τ 960 = none := a59
  have n961 : τ 961 = none := a60
  have n962 : τ 962 = none := a61
  have n963 : τ 963 = none := a62
  have n964 : τ 964 = none := a63
  have n965 : τ 965 = none := a64
  have n966 : τ 966 = none := a65
  have n967 : τ 967 = none := a66
  have n968 : τ 968 = none := a67
  have n969 : τ 969 = none := a68
  have n970 : τ 970 = none := a69
  have n971 : τ 971 = none := a70
  have n972 : τ 972 = none := a71
  have n973 : τ 973 = none := a72
  have n974 : τ 974 = none := a73
  have n920 : τ 920 = none := a74
  have n921 : τ 921 = none := a75
  have n922 : τ 922 = none := a76
  have n923 : τ 923 = none := a77
  have n924 : τ 924 = none := a78
  have n925 : τ 925 = none := a79
  have n926 : τ 926 = none := a80
  have n927 : τ 927 = none := a81
  have n928 : τ 928 = none := a82
  have n929 : τ 929 = none := a83
  obtain ⟨⟨h_p1, h_p2, h_td⟩, k_b, k_q, k_c, k_d, k_l, k_k, k_e, k_t, k_n, k_j⟩ := hS
  have k_c0 := k_c
  obtain ⟨h_ga, h_in, h_ls, h_ld, h_w, h_rd, h_lead, h_ps, h_E, h_up, h_D, h_Z, h_s, h_sp⟩ := k_c0
  have qS : eGS m (wrM m 70 j x) := ⟨fun _ => rfl, fun _ => rfl, fun _ => rfl⟩
  have qL : eGL m (wrM m 70 j x) := fun _ => rfl
  have qK : eGK m (wrM m 70 j x) := ⟨fun _ => rfl, rfl⟩
  have qM : eGM m (wrM m 70 j x) := fun _ => rfl
  have qP : eGP m (wrM m 70 j x) := rfl
  have qC : eGC m (wrM m 70 j x) := fun _ => rfl
  have k_q := e_q qS qP k_q
  have k_d := e_d qS k_d
  have k_l := e_l qS qL k_l
  have k_k := e_k qS qK k_k
  have k_e := e_e qK qM k_e
  have k_t := e_t qK qP k_t
  have k_n := e_n qS k_n
  have k_j := e_j qS qC k_j
  exact ⟨⟨h_p1, h_p2, h_td⟩, k_b, k_q, ⟨fun _ _ _ _ e0 e1 e2 e3 => no9 n880 e2, fun _ _ _ _ e0 e1 e2 e3 => no9 n880 e2, fun _ _ _ _ _ _ e0 e1 e2 e3 e4 e5 => no9 n880 e2, fun _ _ _ _ _ _ e0 e1 e2 e3 e4 e5 => no9 n880 e2, fun _ e0 => no9 n883 e0, fun _ _ e0 e1 => no9 n883 e0, fun _ _ _ e0 e1 e2 => no9 n883 e0, fun _ _ _ _ e0 e1 e2 e3 => no9 n883 e0, fun _ _ _ e0 e1 e2 => no9 n883 e0, fun _ _ _ _ _ _ _ _ _ e0 e1 e2 e3 e4 e5 e6 e7 e8 => no9 n880 e2, fun _ _ _ _ _ e0 e1 e2 e3 e4 => no9 n880 e2, fun _ _ _ e0 e1 e2 => no9 n882 e2, fun _ _ e0 e1 => no9 n882 e0, fun _ _ _ e0 e1 e2 => no9 n905 e0⟩, k_d, k_l, k_k, k_e, k_t, k_n, k_j⟩
def wu_Rl : Ru := ([(7, (0, (0, (0, 0)))), (4, (0, (0, (6, 0))))], ([], ([([(0, 1), (1, (-1))], (-1))], (false, ([], ([], ([], none)))))))
theorem wk_Rl : WrOk SGd 70 wu_Rl := by
  intro τ m g j x hi hc ha hS
  obtain ⟨i0, i1, _⟩ := hi
  have xp : g 0 = (j : Int) := i0
  have xj : g 1 = 6 := i1
  obtain ⟨c0, _⟩ := hc
  have c0 : 1 * g 0 + (-1) * g 1 ≤ (-1) := d2 c0
  obtain ⟨⟨h_p1, h_p2, h_td⟩, k_b, k_q, k_c, k_d, k_l, k_k, k_e, k_t, k_n, k_j⟩ := hS
  have qS : eGS m (wrM m 70 j x) := ⟨fun _ => rfl, fun _ => rfl, fun _ => rfl⟩
  have qB : eGB m (wrM m 70 j x) := ⟨⟨wr_ne (by omega), rfl⟩, fun _ => rfl, fun _ => rfl, fun r i hr => wr_row (by omega)⟩
  have qL : eGL m (wrM m 70 j x) := fun _ => rfl
  have qK : eGK m (wrM m 70 j x) := ⟨fun _ => rfl, rfl⟩
  have qM : eGM m (wrM m 70 j x) := fun _ => rfl
  have qP : eGP m (wrM m 70 j x) := rfl
  have qC : eGC m (wrM m 70 j x) := fun _ => rfl
  have k_q := e_q qS qP k_q
  have k_c := e_c qS qB k_c
  have k_d := e_d qS k_d
  have k_l := e_l qS qL k_l
  have k_k := e_k qS qK k_k
  have k_e := e_e qK qM k_e
  have k_t := e_t qK qP k_t
  have k_n := e_n qS k_n
  have k_j := e_j qS qC k_j
  exact ⟨⟨h_p1, h_p2, h_td⟩, k_b, k_q, k_c, k_d, k_l, k_k, k_e, k_t, k_n, k_j⟩
def wu_Rh : Ru := ([(7, (0, (0, (0, 0)))), (4, (0, (0, (6, 0))))], ([], ([([(0, (-1)), (1, 1)], (-1))], (false, ([], ([], ([], none)))))))
theorem wk_Rh : WrOk SGd 70 wu_Rh := by
  intro τ m g j x hi hc ha hS
  obtain ⟨i0, i1, _⟩ := hi
  have xp : g 0 = (j : Int) := i0
  have xj : g 1 = 6 := i1
  obtain ⟨c0, _⟩ := hc
  have c0 : (-1) * g 0 + 1 * g 1 ≤ (-1) := d2 c0
  obtain ⟨⟨h_p1, h_p2, h_td⟩, k_b, k_q, k_c, k_d, k_l, k_k, k_e, k_t, k_n, k_j⟩ := hS
  have qS : eGS m (wrM m 70 j x) := ⟨fun _ => rfl, fun _ => rfl, fun _ => rfl⟩
  have qB : eGB m (wrM m 70 j x) := ⟨⟨wr_ne (by omega), rfl⟩, fun _ => rfl, fun _ => rfl, fun r i hr => wr_row (by omega)⟩
  have qL : eGL m (wrM m 70 j x) := fun _ => rfl
  have qK : eGK m (wrM m 70 j x) := ⟨fun _ => rfl, rfl⟩
  have qM : eGM m (wrM m 70 j x) := fun _ => rfl
  have qP : eGP m (wrM m 70 j x) := rfl
  have qC : eGC m (wrM m 70 j x) := fun _ => rfl
  have k_q := e_q qS qP k_q
  have k_c := e_c qS qB k_c
  have k_d := e_d qS k_d
  have k_l := e_l qS qL k_l
  have k_k := e_k qS qK k_k
  have k_e := e_e qK qM k_e
  have k_t := e_t qK qP k_t
  have k_n := e_n qS k_n
  have k_j := e_j qS qC k_j
  exact ⟨⟨h_p1, h_p2, h_td⟩, k_b, k_q, k_c, k_d, k_l, k_k, k_e, k_t, k_n, k_j⟩
def wu_Cg : Ru := ([(7, (0, (0, (0, 0)))), (8, (0, (0, (0, 0)))), (4, (0, (0, (7, 0)))), (0, (883, (0, (0, 0)))), (0, (892, (0, (0, 0)))), (0, (893, (0, (0, 0)))), (0, (894, (0, (0, 0)))), (0, (895, (0, (0, 0)))), (0, (880, (0, (0, 0)))), (0, (881, (0, (0, 0)))), (0, (871, (0, (0, 0)))), (0, (872, (0, (0, 0)))), (0, (897, (0, (0, 0)))), (9, (97, (4, (1, 0))))], ([896, 882, 886, 887, 889, 891, 899, 905, 930, 931, 932, 933, 934, 935, 936, 937, 938, 939, 910, 911, 912, 913, 914, 915, 940, 941, 942, 943, 944, 945, 946, 947, 948, 949, 950, 951, 952, 953, 954, 955, 956, 957, 958, 959, 960, 961, 962, 963, 964, 965, 966, 967, 968, 969, 970, 971, 972, 973, 974, 920, 921, 922, 923, 924, 925, 926, 927, 928, 929], ([([(0, 1), (2, (-1))], 0), ([(0, (-1)), (2, 1)], 0), ([(12, 1)], 2), ([(12, (-1))], (-2)), ([(1, 1), (13, (-1))], 0), ([(1, (-1)), (13, 1)], 0)], (false, ([], ([], ([(899, some (3, 0)), (883, none), (892, none), (893, none), (894, none), (895, none), (897, none), (869, none)], none)))))))
theorem wk_Cg : WrOk SGd 1000 wu_Cg := by
  intro τ m g j x hi hc ha hS
  obtain ⟨i0, i1, i2, i3, i4, i5, i6, i7, i8, i9, i10, i11, i12, i13, _⟩ := hi
  have xp : g 0 = (j : Int) := i0
  have xv : g 1 = x := i1
  have xj : g 2 = 7 := i2
  have t883 : τ 883 = some (g 3) := i3
  have t892 : τ 892 = some (g 4) := i4
  have t893 : τ 893 = some (g 5) := i5
  have t894 : τ 894 = some (g 6) := i6
  have t895 : τ 895 = some (g 7) := i7
  have t880 : τ 880 = some (g 8) := i8
  have t881 : τ 881 = some (g 9) := i9
  have t871 : τ 871 = some (g 10) := i10
  have t872 : τ 872 = some (g 11) := i11
  have t897 : τ 897 = some (g 12) := i12
  obtain ⟨jx, ux, vx⟩ : ∃ j : Nat, 1 * g 4 + 0 = (j : Int) ∧ g 13 = m 97 j := i13
  obtain ⟨c0, c1, c2, c3, c4, c5, _⟩ := hc
  have c0 : 1 * g 0 + (-1) * g 2 ≤ 0 := d2 c0
  have c1 : (-1) * g 0 + 1 * g 2 ≤ 0 := d2 c1
  have c2 : 1 * g 12 ≤ 2 := d1 c2
  have c3 : (-1) * g 12 ≤ (-2) := d1 c3
  have c4 : 1 * g 1 + (-1) * g 13 ≤ 0 := d2 c4
  have c5 : (-1) * g 1 + 1 * g 13 ≤ 0 := d2 c5
  obtain ⟨a0, a1, a2, a3, a4, a5, a6, a7, a8, a9, a10, a11, a12, a13, a14, a15, a16, a17, a18, a19, a20, a21, a22, a23, a24, a25, a26, a27, a28, a29, a30, a31, a32, a33, a34, a35, a36, a37, a38, a39, a40, a41, a42, a43, a44, a45, a46, a47, a48, a49, a50, a51, a52, a53, a54, a55, a56, a57, a58, a59, a60, a61, a62, a63, a64, a65, a66, a67, a68, _⟩ := ha
  have n896 : τ 896 = none := a0
  have n882 : τ 882 = none := a1
  have n886 : τ 886 = none := a2
  have n887 : τ 887 = none := a3
  have n889 : τ 889 = none := a4
  have n891 : τ 891 = none := a5
  have n899 : τ 899 = none := a6
  have n905 : τ 905 = none := a7
  have n930 : τ 930 = none := a8
  have n931 : τ 931 = none := a9
  have n932 : τ 932 = none := a10
  have n933 : τ 933 = none := a11
  have n934 : τ 934 = none := a12
  have n935 : τ 935 = none := a13
  have n936 : τ 936 = none := a14
  have n937 : τ 937 = none := a15
  have n938 : τ 938 = none := a16
  have n939 : τ 939 = none := a17
  have n910 : τ 910 = none := a18
  have n911 : τ 911 = none := a19
  have n912 : τ 912 = none := a20
  have n913 : τ 913 = none := a21
  have n914 : τ 914 = none := a22
  have n915 : τ 915 = none := a23
  have n940 : τ 940 = none := a24
  have n941 : τ 941 = none := a25
  have n942 : τ 942 = none := a26
  have n943 : τ 943 = none := a27
  have n944 : τ 944 = none := a28
  have n945 : τ 945 = none := a29
  have n946 : τ 946 = none := a30
  have n947 : τ 947 = none := a31
  have n948 : τ 948 = none := a32
  have n949 : τ 949 = none := a33
  have n950 : τ 950 = none := a34
  have n951 : τ 951 = none := a35
  have n952 : τ 952 = none := a36
  have n953 : τ 953 = none := a37
  have n954 : τ 954 = none := a38
  have n955 : τ 955 = none := a39
  have n956 : τ 956 = none := a40
  have n957 : τ 957 = none := a41
  have n958 : τ 958 = none := a42
  have n959 : τ 959 = none := a43
  have n960 : τ 960 = none := a44
  have n961 : τ 961 = none := a45
  have n962 : τ 962 = none := a46
  have n963 : τ 963 = none := a47
  have n964 : τ 964 = none := a48
  have n965 : τ 965 = none := a49
  have n966 : τ 966 = none := a50
  have n967 : τ 967 = none := a51
  have n968 : τ 968 = none := a52
  have n969 : τ 969 = none := a53
  have n970 : τ 970 = none := a54
  have n971 : τ 971 = none := a55
  have n972 : τ 972 = none := a56
  have n973 : τ 973 = none := a57
  have n974 : τ 974 = none := a58
  have n920 : τ 920 = none := a59
  have n921 : τ 921 = none := a60
  have n922 : τ 922 = none := a61
  have n923 : τ 923 = none := a62
  have n924 : τ 924 = none := a63
  have n925 : τ 925 = none := a64
  have n926 : τ 926 = none := a65
  have n927 : τ 927 = none := a66
  have n928 : τ 928 = none := a67
  have n929 : τ 929 = none := a68
  obtain ⟨⟨h_p1, h_p2, h_td⟩, k_b, k_q, k_c, k_d, k_l, k_k, k_e, k_t, k_n, k_j⟩ := hS
  have k_c0 := k_c
  obtain ⟨h_ga, h_in, h_ls, h_ld, h_w, h_rd, h_lead, h_ps, h_E, h_up, h_D, h_Z, h_s, h_sp⟩ := k_c0
  have k_b0 := k_b
  obtain ⟨h_bit, h_one, h_or, h_and, h_shr, h_m1, h_m2, h_dv, h_r1, h_r2, h_nz⟩ := k_b0
  have qS : eGS m (wrM m 1000 j x) := ⟨fun _ => rfl, fun _ => rfl, fun _ => rfl⟩
  have qL : eGL m (wrM m 1000 j x) := fun _ => rfl
  have qK : eGK m (wrM m 1000 j x) := ⟨fun _ => rfl, rfl⟩
  have qM : eGM m (wrM m 1000 j x) := fun _ => rfl
  have qP : eGP m (wrM m 1000 j x) := rfl
  have qC : eGC m (wrM m 1000 j x) := fun _ => rfl
  have k_q := e_q qS qP k_q
  have k_d := e_d qS k_d
  have k_l := e_l qS qL k_l
  have k_k := e_k qS qK k_k
  have k_e := e_e qK qM k_e
  have k_t := e_t qK qP k_t
  have k_n := e_n qS k_n
  have k_j := e_j qS qC k_j
  exact ⟨⟨h_p1, h_p2, h_td⟩, ⟨h_bit, h_one, h_or, h_and, h_shr, h_m1, h_m2, h_dv, h_r1, h_r2, fun _ e0 => no9 (o := none) rfl e0⟩, k_q, ⟨(fun qa qb A I e0 e1 e2 e3 => by
      have e0 : g 10 = qa := Option.some.inj (t871.symm.trans e0)
      subst e0
      have e1 : g 11 = qb := Option.some.inj (t872.symm.trans e1)
      subst e1
      have e2 : g 8 = A := Option.some.inj (t880.symm.trans e2)
      subst e2
      have e3 : g 9 = I := Option.some.inj (t881.symm.trans e3)
      subst e3
      exact ⟨(h_ga _ _ _ _ t871 t872 t880 t881).1, fun _ e8 => no9 e8 rfl⟩), h_in, fun _ _ _ _ _ _ e0 e1 e2 e3 e4 e5 => no9 (o := none) rfl e4, (fun qa qb A I D ls9 e0 e1 e2 e3 e4 e5 => by
      have e0 : g 10 = qa := Option.some.inj (t871.symm.trans e0)
      subst e0
      have e1 : g 11 = qb := Option.some.inj (t872.symm.trans e1)
      subst e1
      have e2 : g 8 = A := Option.some.inj (t880.symm.trans e2)
      subst e2
      have e3 : g 9 = I := Option.some.inj (t881.symm.trans e3)
      subst e3
      have e4 : g 3 + 0 = D := Option.some.inj e4
      subst e4
      have h1 := h_ls _ _ _ _ _ _ t871 t872 t880 t881 t883 e5
      refine ⟨h1.1, by rw [inG_e qS.1]; exact h1.2.1, ?_⟩
      show g 3 + 0 = m 198 _
      rw [← h1.2.2]; omega), fun _ e0 => no9 (o := none) rfl e0, fun _ _ e0 e1 => no9 (o := none) rfl e0, fun _ _ _ e0 e1 e2 => no9 (o := none) rfl e0, fun _ _ _ _ e0 e1 e2 e3 => no9 (o := none) rfl e0, fun _ _ _ e0 e1 e2 => no9 (o := none) rfl e0, fun _ _ _ _ _ _ _ _ _ e0 e1 e2 e3 e4 e5 e6 e7 e8 => no9 (o := none) rfl e4, (fun qa qb A I D e0 e1 e2 e3 e4 => by
      have e0 : g 10 = qa := Option.some.inj (t871.symm.trans e0)
      subst e0
      have e1 : g 11 = qb := Option.some.inj (t872.symm.trans e1)
      subst e1
      have e2 : g 8 = A := Option.some.inj (t880.symm.trans e2)
      subst e2
      have e3 : g 9 = I := Option.some.inj (t881.symm.trans e3)
      subst e3
      have e4 : g 3 + 0 = D := Option.some.inj e4
      subst e4
      obtain ⟨q, d9, B9, ⟨u1, uN, uY, uU, uV⟩, ⟨u2, u3⟩, u4, u5, u6, ⟨u7, u8⟩, u9⟩ := (h_up _ _ _ _ _ _ _ _ _ t871 t872 t880 t881 t883 t892 t893 t894 t895)
      have ej : j = 7 := by omega
      have ejx : jx = (g 4).toNat := by omega
      subst ejx
      have z : g 3 + 0 = g 3 := by omega
      rw [z, PfG_e qS]
      have q9 : (g 6 = g 5 ∧ g 7 = 20) ∧ m 70 6 = g 5 + 1 ∧ m 96 (g 5).toNat = g 4 := by
        rcases u9 with q9 | q9 | q9
        · rw [t897] at q9; cases q9.1
        · have := Option.some.inj (t897.symm.trans q9.1); omega
        · exact q9.2
      have eN : kGm (wrM m 1000 j x) = (g 5).toNat + 1 := by show (m 70 6).toNat = _; omega
      have ed : dGm (wrM m 1000 j x) = lfG (g 5).toNat q d9 B9 (bvG (g 3)) (g 4).toNat := by
        show wrM m 1000 j x 1000 7 = _
        rw [ej, wr_at, ← u3 (g 4).toNat (by omega)]; omega
      have st := GA_step (Q := fun y => PfG m (g 10) (g 11) (g 8) (g 9) y ∨ y = bvG (g 3)) u1 (fun c => bv01 (g 3) c) (g 4).toNat (by omega) u2 (fun y => Iff.rfl)
      refine ⟨h_w _ t883, by show 0 ≤ m 70 6; omega, fun r hr => ?_, ?_⟩
      · show 0 ≤ m 96 r
        rw [eN] at hr
        by_cases e : r = (g 5).toNat
        · rw [e]; omega
        · have := u7 r (by omega); omega
      · rw [eN, ed]
        refine GA_cong st (fun r hr => ?_) (fun r hr c => ?_)
        · show (m 96 r).toNat = nqG (g 5).toNat q (g 4).toNat r
          unfold nqG
          by_cases e : r = (g 5).toNat
          · rw [if_pos e, e]; omega
          · rw [if_neg e]; have := u7 r (by omega); omega
        · by_cases hc : c < 20
          · rw [BGm_e (m := m) (fun r i hr => wr_row (by omega))]
            have h4 := u4 r c (by omega) hc
            rw [if_pos (by omega)] at h4
            exact h4
          · rw [nb_out u5 _ _ _ (by omega)]; unfold BGm; rw [if_neg (by omega)]), fun _ _ _ e0 e1 e2 => no9 n882 e2, fun _ _ e0 e1 => no9 n882 e0, fun _ _ _ e0 e1 e2 => no9 n905 e0⟩, k_d, k_l, k_k, k_e, k_t, k_n, k_j⟩
def wu_C0 : Ru := ([(7, (0, (0, (0, 0)))), (4, (0, (0, (7, 0))))], ([880, 881, 882, 883, 884, 885, 886, 887, 888, 889, 890, 891, 892, 893, 894, 895, 896, 897, 898, 899, 905, 906, 907, 930, 931, 932, 933, 934, 935, 936, 937, 938, 939, 910, 911, 912, 913, 914, 915, 940, 941, 942, 943, 944, 945, 946, 947, 948, 949, 950, 951, 952, 953, 954, 955, 956, 957, 958, 959, 960, 961, 962, 963, 964, 965, 966, 967, 968, 969, 970, 971, 972, 973, 974, 920, 921, 922, 923, 924, 925, 926, 927, 928, 929], ([([(0, 1), (1, (-1))], 0), ([(0, (-1)), (1, 1)], 0)], (false, ([], ([], ([], none)))))))
theorem wk_C0 : WrOk SGd 1000 wu_C0 := by
  intro τ m g j x hi hc ha hS
  obtain ⟨i0, i1, _⟩ := hi
  have xp : g 0 = (j : Int) := i0
  have xj : g 1 = 7 := i1
  obtain ⟨c0, c1, _⟩ := hc
  have c0 : 1 * g 0 + (-1) * g 1 ≤ 0 := d2 c0
  have c1 : (-1) * g 0 + 1 * g 1 ≤ 0 := d2 c1
  obtain ⟨a0, a1, a2, a3, a4, a5, a6, a7, a8, a9, a10, a11, a12, a13, a14, a15, a16, a17, a18, a19, a20, a21, a22, a23, a24, a25, a26, a27, a28, a29, a30, a31, a32, a33, a34, a35, a36, a37, a38, a39, a40, a41, a42, a43, a44, a45, a46, a47, a48, a49, a50, a51, a52, a53, a54, a55, a56, a57, a58, a59, a60, a61, a62, a63, a64, a65, a66, a67, a68, a69, a70, a71, a72, a73, a74, a75, a76, a77, a78, a79, a80, a81, a82, a83, _⟩ := ha
  have n880 : τ 880 = none := a0
  have n881 : τ 881 = none := a1
  have n882 : τ 882 = none := a2
  have n883 : τ 883 = none := a3
  have n884 : τ 884 = none := a4
  have n885 : τ 885 = none := a5
  have n886 : τ 886 = none := a6
  have n887 : τ 887 = none := a7
  have n888 : τ 888 = none := a8
  have n889 : τ 889 = none := a9
  have n890 : τ 890 = none := a10
  have n891 : τ 891 = none := a11
  have n892 : τ 892 = none := a12
  have n893 : τ 893 = none := a13
  have n894 : τ 894 = none := a14
  have n895 : τ 895 = none := a15
  have n896 : τ 896 = none := a16
  have n897 : τ 897 = none := a17
  have n898 : τ 898 = none := a18
  have n899 : τ 899 = none := a19
  have n905 : τ 905 = none := a20
  have n906 : τ 906 = none := a21
  have n907 : τ 907 = none := a22
  have n930 : τ 930 = none := a23
  have n931 : τ 931 = none := a24
  have n932 : τ 932 = none := a25
  have n933 : τ 933 = none := a26
  have n934 : τ 934 = none := a27
  have n935 : τ 935 = none := a28
  have n936 : τ 936 = none := a29
  have n937 : τ 937 = none := a30
  have n938 : τ 938 = none := a31
  have n939 : τ 939 = none := a32
  have n910 : τ 910 = none := a33
  have n911 : τ 911 = none := a34
  have n912 : τ 912 = none := a35
  have n913 : τ 913 = none := a36
  have n914 : τ 914 = none := a37
  have n915 : τ 915 = none := a38
  have n940 : τ 940 = none := a39
  have n941 : τ 941 = none := a40
  have n942 : τ 942 = none := a41
  have n943 : τ 943 = none := a42
  have n944 : τ 944 = none := a43
  have n945 : τ 945 = none := a44
  have n946 : τ 946 = none := a45
  have n947 : τ 947 = none := a46
  have n948 : τ 948 = none := a47
  have n949 : τ 949 = none := a48
  have n950 : τ 950 = none := a49
  have n951 : τ 951 = none := a50
  have n952 : τ 952 = none := a51
  have n953 : τ 953 = none := a52
  have n954 : τ 954 = none := a53
  have n955 : τ 955 = none := a54
  have n956 : τ 956 = none := a55
  have n957 : τ 957 = none := a56
  have n958 : τ 958 = none := a57
  have n959 : τ 959 = none := a58
  have n960 : τ 960 = none := a59
  have n961 : τ 961 = none := a60
  have n962 : τ 962 = none := a61
  have n963 : τ 963 = none := a62
  have n964 : τ 964 = none := a63
  have n965 : τ 965 = none := a64
  have n966 : τ 966 = none := a65
  have n967 : τ 967 = none := a66
  have n968 : τ 968 = none := a67
  have n969 : τ 969 = none := a68
  have n970 : τ 970 = none := a69
  have n971 : τ 971 = none := a70
  have n972 : τ 972 = none := a71
  have n973 : τ 973 = none := a72
  have n974 : τ 974 = none := a73
  have n920 : τ 920 = none := a74
  have n921 : τ 921 = none := a75
  have n922 : τ 922 = none := a76
  have n923 : τ 923 = none := a77
  have n924 : τ 924 = none := a78
  have n925 : τ 925 = none := a79
  have n926 : τ 926 = none := a80
  have n927 : τ 927 = none := a81
  have n928 : τ 928 = none := a82
  have n929 : τ 929 = none := a83
  obtain ⟨⟨h_p1, h_p2, h_td⟩, k_b, k_q, k_c, k_d, k_l, k_k, k_e, k_t, k_n, k_j⟩ := hS
  have k_c0 := k_c
  obtain ⟨h_ga, h_in, h_ls, h_ld, h_w, h_rd, h_lead, h_ps, h_E, h_up, h_D, h_Z, h_s, h_sp⟩ := k_c0
  have qS : eGS m (wrM m 1000 j x) := ⟨fun _ => rfl, fun _ => rfl, fun _ => rfl⟩
  have qL : eGL m (wrM m 1000 j x) := fun _ => rfl
  have qK : eGK m (wrM m 1000 j x) := ⟨fun _ => rfl, rfl⟩
  have qM : eGM m (wrM m 1000 j x) := fun _ => rfl
  have qP : eGP m (wrM m 1000 j x) := rfl
  have qC : eGC m (wrM m 1000 j x) := fun _ => rfl
  have k_q := e_q qS qP k_q
  have k_d := e_d qS k_d
  have k_l := e_l qS qL k_l
  have k_k := e_k qS qK k_k
  have k_e := e_e qK qM k_e
  have k_t := e_t qK qP k_t
  have k_n := e_n qS k_n
  have k_j := e_j qS qC k_j
  exact ⟨⟨h_p1, h_p2, h_td⟩, k_b, k_q, ⟨fun _ _ _ _ e0 e1 e2 e3 => no9 n880 e2, fun _ _ _ _ e0 e1 e2 e3 => no9 n880 e2, fun _ _ _ _ _ _ e0 e1 e2 e3 e4 e5 => no9 n880 e2, fun _ _ _ _ _ _ e0 e1 e2 e3 e4 e5 => no9 n880 e2, fun _ e0 => no9 n883 e0, fun _ _ e0 e1 => no9 n883 e0, fun _ _ _ e0 e1 e2 => no9 n883 e0, fun _ _ _ _ e0 e1 e2 e3 => no9 n883 e0, fun _ _ _ e0 e1 e2 => no9 n883 e0, fun _ _ _ _ _ _ _ _ _ e0 e1 e2 e3 e4 e5 e6 e7 e8 => no9 n880 e2, fun _ _ _ _ _ e0 e1 e2 e3 e4 => no9 n880 e2, fun _ _ _ e0 e1 e2 => no9 n882 e2, fun _ _ e0 e1 => no9 n882 e0, fun _ _ _ e0 e1 e2 => no9 n905 e0⟩, k_d, k_l, k_k, k_e, k_t, k_n, k_j⟩
def wu_Cl : Ru := ([(7, (0, (0, (0, 0)))), (4, (0, (0, (7, 0))))], ([], ([([(0, 1), (1, (-1))], (-1))], (false, ([], ([], ([], none)))))))
theorem wk_Cl : WrOk SGd 1000 wu_Cl := by
  intro τ m g j x hi hc ha hS
  obtain ⟨i0, i1, _⟩ := hi
  have xp : g 0 = (j : Int) := i0
  have xj : g 1 = 7 := i1
  obtain ⟨c0, _⟩ := hc
  have c0 : 1 * g 0 + (-1) * g 1 ≤ (-1) := d2 c0
  obtain ⟨⟨h_p1, h_p2, h_td⟩, k_b, k_q, k_c, k_d, k_l, k_k, k_e, k_t, k_n, k_j⟩ := hS
  have qS : eGS m (wrM m 1000 j x) := ⟨fun _ => rfl, fun _ => rfl, fun _ => rfl⟩
  have qB : eGB m (wrM m 1000 j x) := ⟨⟨rfl, wr_ne (by omega)⟩, fun _ => rfl, fun _ => rfl, fun r i hr => wr_row (by omega)⟩
  have qL : eGL m (wrM m 1000 j x) := fun _ => rfl
  have qK : eGK m (wrM m 1000 j x) := ⟨fun _ => rfl, rfl⟩
  have qM : eGM m (wrM m 1000 j x) := fun _ => rfl
  have qP : eGP m (wrM m 1000 j x) := rfl
  have qC : eGC m (wrM m 1000 j x) := fun _ => rfl
  have k_q := e_q qS qP k_q
  have k_c := e_c qS qB k_c
  have k_d := e_d qS k_d
  have k_l := e_l qS qL k_l
  have k_k := e_k qS qK k_k
  have k_e := e_e qK qM k_e
  have k_t := e_t qK qP k_t
  have k_n := e_n qS k_n
  have k_j := e_j qS qC k_j
  exact ⟨⟨h_p1, h_p2, h_td⟩, k_b, k_q, k_c, k_d, k_l, k_k, k_e, k_t, k_n, k_j⟩
def wu_Ch : Ru := ([(7, (0, (0, (0, 0)))), (4, (0, (0, (7, 0))))], ([], ([([(0, (-1)), (1, 1)], (-1))], (false, ([], ([], ([], none)))))))
theorem wk_Ch : WrOk SGd 1000 wu_Ch := by
  intro τ m g j x hi hc ha hS
  obtain ⟨i0, i1, _⟩ := hi
  have xp : g 0 = (j : Int) := i0
  have xj : g 1 = 7 := i1
  obtain ⟨c0, _⟩ := hc
  have c0 : (-1) * g 0 + 1 * g 1 ≤ (-1) := d2 c0
  obtain ⟨⟨h_p1, h_p2, h_td⟩, k_b, k_q, k_c, k_d, k_l, k_k, k_e, k_t, k_n, k_j⟩ := hS
  have qS : eGS m (wrM m 1000 j x) := ⟨fun _ => rfl, fun _ => rfl, fun _ => rfl⟩
  have qB : eGB m (wrM m 1000 j x) := ⟨⟨rfl, wr_ne (by omega)⟩, fun _ => rfl, fun _ => rfl, fun r i hr => wr_row (by omega)⟩
  have qL : eGL m (wrM m 1000 j x) := fun _ => rfl
  have qK : eGK m (wrM m 1000 j x) := ⟨fun _ => rfl, rfl⟩
  have qM : eGM m (wrM m 1000 j x) := fun _ => rfl
  have qP : eGP m (wrM m 1000 j x) := rfl
  have qC : eGC m (wrM m 1000 j x) := fun _ => rfl
  have k_q := e_q qS qP k_q
  have k_c := e_c qS qB k_c
  have k_d := e_d qS k_d
  have k_l := e_l qS qL k_l
  have k_k := e_k qS qK k_k
  have k_e := e_e qK qM k_e
  have k_t := e_t qK qP k_t
  have k_n := e_n qS k_n
  have k_j := e_j qS qC k_j
  exact ⟨⟨h_p1, h_p2, h_td⟩, k_b, k_q, k_c, k_d, k_l, k_k, k_e, k_t, k_n, k_j⟩
def wu_Pv : Ru := ([(7, (0, (0, (0, 0)))), (8, (0, (0, (0, 0)))), (0, (883, (0, (0, 0)))), (0, (892, (0, (0, 0)))), (0, (893, (0, (0, 0)))), (0, (894, (0, (0, 0)))), (0, (895, (0, (0, 0)))), (0, (880, (0, (0, 0)))), (0, (881, (0, (0, 0)))), (0, (871, (0, (0, 0)))), (0, (872, (0, (0, 0)))), (4, (0, (0, (1, 0))))], ([896, 897, 882, 886, 887, 889, 891, 899, 905, 930, 931, 932, 933, 934, 935, 936, 937, 938, 939, 910, 911, 912, 913, 914, 915, 940, 941, 942, 943, 944, 945, 946, 947, 948, 949, 950, 951, 952, 953, 954, 955, 956, 957, 958, 959, 960, 961, 962, 963, 964, 965, 966, 967, 968, 969, 970, 971, 972, 973, 974, 920, 921, 922, 923, 924, 925, 926, 927, 928, 929], ([([(0, 1), (4, (-1))], 0), ([(0, (-1)), (4, 1)], 0), ([(1, 1), (3, (-1))], 0), ([(1, (-1)), (3, 1)], 0), ([(4, (-1)), (5, 1)], 0), ([(4, 1), (5, (-1))], 0), ([(6, 1)], 20), ([(6, (-1))], (-20))], (false, ([], ([], ([(897, some (11, 0))], none)))))))
theorem wk_Pv : WrOk SGd 96 wu_Pv := by
  intro τ m g j x hi hc ha hS
  obtain ⟨i0, i1, i2, i3, i4, i5, i6, i7, i8, i9, i10, i11, _⟩ := hi
  have xp : g 0 = (j : Int) := i0
  have xv : g 1 = x := i1
  have t883 : τ 883 = some (g 2) := i2
  have t892 : τ 892 = some (g 3) := i3
  have t893 : τ 893 = some (g 4) := i4
  have t894 : τ 894 = some (g 5) := i5
  have t895 : τ 895 = some (g 6) := i6
  have t880 : τ 880 = some (g 7) := i7
  have t881 : τ 881 = some (g 8) := i8
  have t871 : τ 871 = some (g 9) := i9
  have t872 : τ 872 = some (g 10) := i10
  have xone : g 11 = 1 := i11
  obtain ⟨c0, c1, c2, c3, c4, c5, c6, c7, _⟩ := hc
  have c0 : 1 * g 0 + (-1) * g 4 ≤ 0 := d2 c0
  have c1 : (-1) * g 0 + 1 * g 4 ≤ 0 := d2 c1
  have c2 : 1 * g 1 + (-1) * g 3 ≤ 0 := d2 c2
  have c3 : (-1) * g 1 + 1 * g 3 ≤ 0 := d2 c3
  have c4 : (-1) * g 4 + 1 * g 5 ≤ 0 := d2 c4
  have c5 : 1 * g 4 + (-1) * g 5 ≤ 0 := d2 c5
  have c6 : 1 * g 6 ≤ 20 := d1 c6
  have c7 : (-1) * g 6 ≤ (-20) := d1 c7
  obtain ⟨a0, a1, a2, a3, a4, a5, a6, a7, a8, a9, a10, a11, a12, a13, a14, a15, a16, a17, a18, a19, a20, a21, a22, a23, a24, a25, a26, a27, a28, a29, a30, a31, a32, a33, a34, a35, a36, a37, a38, a39, a40, a41, a42, a43, a44, a45, a46, a47, a48, a49, a50, a51, a52, a53, a54, a55, a56, a57, a58, a59, a60, a61, a62, a63, a64, a65, a66, a67, a68, a69, _⟩ := ha
  have n896 : τ 896 = none := a0
  have n897 : τ 897 = none := a1
  have n882 : τ 882 = none := a2
  have n886 : τ 886 = none := a3
  have n887 : τ 887 = none := a4
  have n889 : τ 889 = none := a5
  have n891 : τ 891 = none := a6
  have n899 : τ 899 = none := a7
  have n905 : τ 905 = none := a8
  have n930 : τ 930 = none := a9
  have n931 : τ 931 = none := a10
  have n932 : τ 932 = none := a11
  have n933 : τ 933 = none := a12
  have n934 : τ 934 = none := a13
  have n935 : τ 935 = none := a14
  have n936 : τ 936 = none := a15
  have n937 : τ 937 = none := a16
  have n938 : τ 938 = none := a17
  have n939 : τ 939 = none := a18
  have n910 : τ 910 = none := a19
  have n911 : τ 911 = none := a20
  have n912 : τ 912 = none := a21
  have n913 : τ 913 = none := a22
  have n914 : τ 914 = none := a23
  have n915 : τ 915 = none := a24
  have n940 : τ 940 = none := a25
  have n941 : τ 941 = none := a26
  have n942 : τ 942 = none := a27
  have n943 : τ 943 = none := a28
  have n944 : τ 944 = none := a29
  have n945 : τ 945 = none := a30
  have n946 : τ 946 = none := a31
  have n947 : τ 947 = none := a32
  have n948 : τ 948 = none := a33
  have n949 : τ 949 = none := a34
  have n950 : τ 950 = none := a35
  have n951 : τ 951 = none := a36
  have n952 : τ 952 = none := a37
  have n953 : τ 953 = none := a38
  have n954 : τ 954 = none := a39
  have n955 : τ 955 = none := a40
  have n956 : τ 956 = none := a41
  have n957 : τ 957 = none := a42
  have n958 : τ 958 = none := a43
  have n959 : τ 959 = none := a44
  have n960 : τ 960 = none := a45
  have n961 : τ 961 = none := a46
  have n962 : τ 962 = none := a47
  have n963 : τ 963 = none := a48
  have n964 : τ 964 = none := a49
  have n965 : τ 965 = none := a50
  have n966 : τ 966 = none := a51
  have n967 : τ 967 = none := a52
  have n968 : τ 968 = none := a53
  have n969 : τ 969 = none := a54
  have n970 : τ 970 = none := a55
  have n971 : τ 971 = none := a56
  have n972 : τ 972 = none := a57
  have n973 : τ 973 = none := a58
  have n974 : τ 974 = none := a59
  have n920 : τ 920 = none := a60
  have n921 : τ 921 = none := a61
  have n922 : τ 922 = none := a62
  have n923 : τ 923 = none := a63
  have n924 : τ 924 = none := a64
  have n925 : τ 925 = none := a65
  have n926 : τ 926 = none := a66
  have n927 : τ 927 = none := a67
  have n928 : τ 928 = none := a68
  have n929 : τ 929 = none := a69
  obtain ⟨⟨h_p1, h_p2, h_td⟩, k_b, k_q, k_c, k_d, k_l, k_k, k_e, k_t, k_n, k_j⟩ := hS
  have k_c0 := k_c
  obtain ⟨h_ga, h_in, h_ls, h_ld, h_w, h_rd, h_lead, h_ps, h_E, h_up, h_D, h_Z, h_s, h_sp⟩ := k_c0
  have qS : eGS m (wrM m 96 j x) := ⟨fun _ => rfl, fun _ => rfl, fun _ => rfl⟩
  have qL : eGL m (wrM m 96 j x) := fun _ => rfl
  have qK : eGK m (wrM m 96 j x) := ⟨fun _ => rfl, rfl⟩
  have qM : eGM m (wrM m 96 j x) := fun _ => rfl
  have qP : eGP m (wrM m 96 j x) := rfl
  have qC : eGC m (wrM m 96 j x) := fun _ => rfl
  have k_q := e_q qS qP k_q
  have k_d := e_d qS k_d
  have k_l := e_l qS qL k_l
  have k_k := e_k qS qK k_k
  have k_e := e_e qK qM k_e
  have k_t := e_t qK qP k_t
  have k_n := e_n qS k_n
  have k_j := e_j qS qC k_j
  exact ⟨⟨h_p1, h_p2, h_td⟩, k_b, k_q, ⟨(fun qa qb A I e0 e1 e2 e3 => by
      have e0 : g 9 = qa := Option.some.inj (t871.symm.trans e0)
      subst e0
      have e1 : g 10 = qb := Option.some.inj (t872.symm.trans e1)
      subst e1
      have e2 : g 7 = A := Option.some.inj (t880.symm.trans e2)
      subst e2
      have e3 : g 8 = I := Option.some.inj (t881.symm.trans e3)
      subst e3
      exact ⟨(h_ga _ _ _ _ t871 t872 t880 t881).1, fun e8 _ => no9 e8 t892⟩), h_in, h_ls, fun _ _ _ _ _ _ e0 e1 e2 e3 e4 e5 => no9 n899 e4, h_w, fun _ _ e0 e1 => no9 n886 e1, fun _ _ _ e0 e1 e2 => no9 n887 e1, fun _ _ _ _ e0 e1 e2 e3 => no9 n886 e1, fun _ _ _ e0 e1 e2 => no9 n886 e1, (fun qa qb A I w Y N U V e0 e1 e2 e3 e4 e5 e6 e7 e8 => by
      have e0 : g 9 = qa := Option.some.inj (t871.symm.trans e0)
      subst e0
      have e1 : g 10 = qb := Option.some.inj (t872.symm.trans e1)
      subst e1
      have e2 : g 7 = A := Option.some.inj (t880.symm.trans e2)
      subst e2
      have e3 : g 8 = I := Option.some.inj (t881.symm.trans e3)
      subst e3
      have e4 : g 2 = w := Option.some.inj (t883.symm.trans e4)
      subst e4
      have e5 : g 3 = Y := Option.some.inj (t892.symm.trans e5)
      subst e5
      have e6 : g 4 = N := Option.some.inj (t893.symm.trans e6)
      subst e6
      have e7 : g 5 = U := Option.some.inj (t894.symm.trans e7)
      subst e7
      have e8 : g 6 = V := Option.some.inj (t895.symm.trans e8)
      subst e8
      show UpG (wrM m 96 j x) (τ 896) (some (g 11 + 0)) (PfG (wrM m 96 j x) (g 9) (g 10) (g 7) (g 8)) (g 2) (g 3) (g 4) (g 5) (g 6)
      obtain ⟨q, d9, B9, ⟨u1, uN, uY, uU, uV⟩, ⟨u2, u3⟩, u4, u5, u6, ⟨u7, u8⟩, u9⟩ := (h_up _ _ _ _ _ _ _ _ _ t871 t872 t880 t881 t883 t892 t893 t894 t895)
      have uk : m 70 6 = g 4 := by
        rcases u9 with q9 | q9 | q9
        · exact q9.2
        · rw [n897] at q9; cases q9.1
        · rw [n897] at q9; cases q9.1
      have ej : j = (g 4).toNat := by omega
      rw [PfG_e qS]
      refine ⟨q, d9, B9, ⟨u1, uN, uY, uU, uV⟩, ⟨u2, u3⟩, ?_, u5, u6, ⟨fun r hr => ?_, u8⟩, Or.inr (Or.inl ⟨congrArg some (by omega), ⟨by omega, by omega⟩, uk, ?_⟩)⟩
      · rw [BGm_e (m := m) (fun r i hr => wr_row (by omega))]; exact u4
      · rw [wr_ne (by omega)]; exact u7 r hr
      · rw [← ej, wr_at]; omega), fun _ _ _ _ _ e0 e1 e2 e3 e4 => no9 n899 e4, fun _ _ _ e0 e1 e2 => no9 n882 e2, fun _ _ e0 e1 => no9 n882 e0, fun _ _ _ e0 e1 e2 => no9 n905 e0⟩, k_d, k_l, k_k, k_e, k_t, k_n, k_j⟩
def wu_Rd : Ru := ([(7, (0, (0, (0, 0)))), (8, (0, (0, (0, 0)))), (0, (883, (0, (0, 0)))), (0, (886, (0, (0, 0)))), (0, (889, (0, (0, 0)))), (0, (890, (0, (0, 0)))), (5, (70, (6, (0, 0))))], ([892, 882, 899, 905, 930, 931, 932, 933, 934, 935, 936, 937, 938, 939, 910, 911, 912, 913, 914, 915, 940, 941, 942, 943, 944, 945, 946, 947, 948, 949, 950, 951, 952, 953, 954, 955, 956, 957, 958, 959, 960, 961, 962, 963, 964, 965, 966, 967, 968, 969, 970, 971, 972, 973, 974, 920, 921, 922, 923, 924, 925, 926, 927, 928, 929], ([([(0, 1), (3, (-1))], (-1)), ([(0, (-1)), (3, 1)], 1), ([(1, 1), (5, (-1))], 0), ([(1, (-1)), (5, 1)], 0), ([(4, (-1)), (6, 1)], 0), ([(0, (-1))], 0), ([(0, 1)], 19)], (false, ([], ([], ([(886, some (0, 0)), (889, none), (890, none), (891, some (1, 0))], none)))))))
theorem wk_Rd : WrOk SGd 97 wu_Rd := by
  intro τ m g j x hi hc ha hS
  obtain ⟨i0, i1, i2, i3, i4, i5, i6, _⟩ := hi
  have xp : g 0 = (j : Int) := i0
  have xv : g 1 = x := i1
  have t883 : τ 883 = some (g 2) := i2
  have t886 : τ 886 = some (g 3) := i3
  have t889 : τ 889 = some (g 4) := i4
  have t890 : τ 890 = some (g 5) := i5
  have xk : g 6 = m 70 6 := i6
  obtain ⟨c0, c1, c2, c3, c4, c5, c6, _⟩ := hc
  have c0 : 1 * g 0 + (-1) * g 3 ≤ (-1) := d2 c0
  have c1 : (-1) * g 0 + 1 * g 3 ≤ 1 := d2 c1
  have c2 : 1 * g 1 + (-1) * g 5 ≤ 0 := d2 c2
  have c3 : (-1) * g 1 + 1 * g 5 ≤ 0 := d2 c3
  have c4 : (-1) * g 4 + 1 * g 6 ≤ 0 := d2 c4
  have c5 : (-1) * g 0 ≤ 0 := d1 c5
  have c6 : 1 * g 0 ≤ 19 := d1 c6
  obtain ⟨a0, a1, a2, a3, a4, a5, a6, a7, a8, a9, a10, a11, a12, a13, a14, a15, a16, a17, a18, a19, a20, a21, a22, a23, a24, a25, a26, a27, a28, a29, a30, a31, a32, a33, a34, a35, a36, a37, a38, a39, a40, a41, a42, a43, a44, a45, a46, a47, a48, a49, a50, a51, a52, a53, a54, a55, a56, a57, a58, a59, a60, a61, a62, a63, a64, _⟩ := ha
  have n892 : τ 892 = none := a0
  have n882 : τ 882 = none := a1
  have n899 : τ 899 = none := a2
  have n905 : τ 905 = none := a3
  have n930 : τ 930 = none := a4
  have n931 : τ 931 = none := a5
  have n932 : τ 932 = none := a6
  have n933 : τ 933 = none := a7
  have n934 : τ 934 = none := a8
  have n935 : τ 935 = none := a9
  have n936 : τ 936 = none := a10
  have n937 : τ 937 = none := a11
  have n938 : τ 938 = none := a12
  have n939 : τ 939 = none := a13
  have n910 : τ 910 = none := a14
  have n911 : τ 911 = none := a15
  have n912 : τ 912 = none := a16
  have n913 : τ 913 = none := a17
  have n914 : τ 914 = none := a18
  have n915 : τ 915 = none := a19
  have n940 : τ 940 = none := a20
  have n941 : τ 941 = none := a21
  have n942 : τ 942 = none := a22
  have n943 : τ 943 = none := a23
  have n944 : τ 944 = none := a24
  have n945 : τ 945 = none := a25
  have n946 : τ 946 = none := a26
  have n947 : τ 947 = none := a27
  have n948 : τ 948 = none := a28
  have n949 : τ 949 = none := a29
  have n950 : τ 950 = none := a30
  have n951 : τ 951 = none := a31
  have n952 : τ 952 = none := a32
  have n953 : τ 953 = none := a33
  have n954 : τ 954 = none := a34
  have n955 : τ 955 = none := a35
  have n956 : τ 956 = none := a36
  have n957 : τ 957 = none := a37
  have n958 : τ 958 = none := a38
  have n959 : τ 959 = none := a39
  have n960 : τ 960 = none := a40
  have n961 : τ 961 = none := a41
  have n962 : τ 962 = none := a42
  have n963 : τ 963 = none := a43
  have n964 : τ 964 = none := a44
  have n965 : τ 965 = none := a45
  have n966 : τ 966 = none := a46
  have n967 : τ 967 = none := a47
  have n968 : τ 968 = none := a48
  have n969 : τ 969 = none := a49
  have n970 : τ 970 = none := a50
  have n971 : τ 971 = none := a51
  have n972 : τ 972 = none := a52
  have n973 : τ 973 = none := a53
  have n974 : τ 974 = none := a54
  have n920 : τ 920 = none := a55
  have n921 : τ 921 = none := a56
  have n922 : τ 922 = none := a57
  have n923 : τ 923 = none := a58
  have n924 : τ 924 = none := a59
  have n925 : τ 925 = none := a60
  have n926 : τ 926 = none := a61
  have n927 : τ 927 = none := a62
  have n928 : τ 928 = none := a63
  have n929 : τ 929 = none := a64
  obtain ⟨⟨h_p1, h_p2, h_td⟩, k_b, k_q, k_c, k_d, k_l, k_k, k_e, k_t, k_n, k_j⟩ := hS
  have k_c0 := k_c
  obtain ⟨h_ga, h_in, h_ls, h_ld, h_w, h_rd, h_lead, h_ps, h_E, h_up, h_D, h_Z, h_s, h_sp⟩ := k_c0
  have qS : eGS m (wrM m 97 j x) := ⟨fun _ => rfl, fun _ => rfl, fun _ => rfl⟩
  have qL : eGL m (wrM m 97 j x) := fun _ => rfl
  have qK : eGK m (wrM m 97 j x) := ⟨fun _ => rfl, rfl⟩
  have qM : eGM m (wrM m 97 j x) := fun _ => rfl
  have qP : eGP m (wrM m 97 j x) := rfl
  have qC : eGC m (wrM m 97 j x) := fun _ => rfl
  have k_q := e_q qS qP k_q
  have k_d := e_d qS k_d
  have k_l := e_l qS qL k_l
  have k_k := e_k qS qK k_k
  have k_e := e_e qK qM k_e
  have k_t := e_t qK qP k_t
  have k_n := e_n qS k_n
  have k_j := e_j qS qC k_j
  exact ⟨⟨h_p1, h_p2, h_td⟩, k_b, k_q, ⟨(fun qa qb A I e0 e1 e2 e3 => by
      have h1 := h_ga _ _ _ _ e0 e1 e2 e3
      rw [GAm_e (m := m) (m' := wrM m 97 j x) rfl rfl (fun _ => rfl) (fun r i hr => wr_row (by omega)), PfG_e qS]
      exact h1), h_in, h_ls, fun _ _ _ _ _ _ e0 e1 e2 e3 e4 e5 => no9 n899 e4, h_w, (fun w P e0 e1 => by
      have e0 : g 2 = w := Option.some.inj (t883.symm.trans e0)
      subst e0
      have e1 : g 0 + 0 = P := Option.some.inj e1
      subst e1
      have h1 := h_rd _ _ t883 t886
      have h2 := h_ps _ _ _ _ t883 t886 t889 t890
      have ek : kGm m = (m 70 6).toNat := rfl
      have eR : (g 4).toNat = kGm m := by omega
      rw [lfm_e (m := m) (m' := wrM m 97 j x) rfl rfl (fun _ => rfl) (fun r i hr => wr_row (by omega))]
      refine ⟨by omega, fun c h3 h4 => ?_⟩
      by_cases e : c = j
      · rw [e, wr_at, ← ps_end, ← eR, show j = (g 3).toNat - 1 by omega, ← h2.2.2]; omega
      · rw [wr_ne e]; exact h1.2 c (by omega) h4), (fun w K L e0 e1 e2 => by
      have e0 : g 2 = w := Option.some.inj (t883.symm.trans e0)
      subst e0
      have h1 := h_lead _ _ _ t883 e1 e2
      rw [lfm_e (m := m) (m' := wrM m 97 j x) rfl rfl (fun _ => rfl) (fun r i hr => wr_row (by omega))]
      exact h1), fun _ _ _ _ e0 e1 e2 e3 => no9 (o := none) rfl e2, (fun w P E e0 e1 e2 => by
      have e0 : g 2 = w := Option.some.inj (t883.symm.trans e0)
      subst e0
      have e1 : g 0 + 0 = P := Option.some.inj e1
      subst e1
      have e2 : g 1 + 0 = E := Option.some.inj e2
      subst e2
      have h2 := h_ps _ _ _ _ t883 t886 t889 t890
      have ek : kGm m = (m 70 6).toNat := rfl
      have eR : (g 4).toNat = kGm m := by omega
      rw [lfm_e (m := m) (m' := wrM m 97 j x) rfl rfl (fun _ => rfl) (fun r i hr => wr_row (by omega))]
      refine ⟨by omega, ?_⟩
      rw [← ps_end, ← eR, show (g 0 + 0).toNat = (g 3).toNat - 1 by omega, ← h2.2.2]; omega), fun _ _ _ _ _ _ _ _ _ e0 e1 e2 e3 e4 e5 e6 e7 e8 => no9 n892 e5, fun _ _ _ _ _ e0 e1 e2 e3 e4 => no9 n899 e4, fun _ _ _ e0 e1 e2 => no9 n882 e2, fun _ _ e0 e1 => no9 n882 e0, fun _ _ _ e0 e1 e2 => no9 n905 e0⟩, k_d, k_l, k_k, k_e, k_t, k_n, k_j⟩
def wu_Ci : Ru := ([(7, (0, (0, (0, 0)))), (8, (0, (0, (0, 0)))), (0, (871, (0, (0, 0)))), (0, (872, (0, (0, 0)))), (0, (873, (0, (0, 0)))), (0, (980, (0, (0, 0)))), (0, (840, (0, (0, 0)))), (0, (841, (0, (0, 0)))), (0, (842, (0, (0, 0))))], ([981, 930, 931, 932, 933, 934, 935, 936, 937, 938, 939, 910, 911, 912, 913, 914, 915, 940, 941, 942, 943, 944, 945, 946, 947, 948, 949, 950, 951, 952, 953, 954, 955, 956, 957, 958, 959, 960, 961, 962, 963, 964, 965, 966, 967, 968, 969, 970, 971, 972, 973, 974, 920, 921, 922, 923, 924, 925, 926, 927, 928, 929], ([([(0, 1), (5, (-1))], 0), ([(0, (-1)), (5, 1)], 0), ([(1, 1), (4, (-1))], 0), ([(1, (-1)), (4, 1)], 0), ([(4, (-1)), (6, 1)], 0), ([(4, 1), (6, (-1))], 0), ([(5, (-1)), (7, 1)], 0), ([(5, 1), (7, (-1))], 0), ([(8, 1)], 1), ([(8, (-1))], (-1)), ([(0, (-1))], 0), ([(0, 1)], 3)], (false, ([], ([], ([(980, some (5, 1)), (840, none), (841, none), (842, none)], none)))))))
theorem wk_Ci : WrOk SGd 74 wu_Ci := by
  intro τ m g j x hi hc ha hS
  obtain ⟨i0, i1, i2, i3, i4, i5, i6, i7, i8, _⟩ := hi
  have xp : g 0 = (j : Int) := i0
  have xv : g 1 = x := i1
  have t871 : τ 871 = some (g 2) := i2
  have t872 : τ 872 = some (g 3) := i3
  have t873 : τ 873 = some (g 4) := i4
  have t980 : τ 980 = some (g 5) := i5
  have t840 : τ 840 = some (g 6) := i6
  have t841 : τ 841 = some (g 7) := i7
  have t842 : τ 842 = some (g 8) := i8
  obtain ⟨c0, c1, c2, c3, c4, c5, c6, c7, c8, c9, c10, c11, _⟩ := hc
  have c0 : 1 * g 0 + (-1) * g 5 ≤ 0 := d2 c0
  have c1 : (-1) * g 0 + 1 * g 5 ≤ 0 := d2 c1
  have c2 : 1 * g 1 + (-1) * g 4 ≤ 0 := d2 c2
  have c3 : (-1) * g 1 + 1 * g 4 ≤ 0 := d2 c3
  have c4 : (-1) * g 4 + 1 * g 6 ≤ 0 := d2 c4
  have c5 : 1 * g 4 + (-1) * g 6 ≤ 0 := d2 c5
  have c6 : (-1) * g 5 + 1 * g 7 ≤ 0 := d2 c6
  have c7 : 1 * g 5 + (-1) * g 7 ≤ 0 := d2 c7
  have c8 : 1 * g 8 ≤ 1 := d1 c8
  have c9 : (-1) * g 8 ≤ (-1) := d1 c9
  have c10 : (-1) * g 0 ≤ 0 := d1 c10
  have c11 : 1 * g 0 ≤ 3 := d1 c11
  obtain ⟨a0, a1, a2, a3, a4, a5, a6, a7, a8, a9, a10, a11, a12, a13, a14, a15, a16, a17, a18, a19, a20, a21, a22, a23, a24, a25, a26, a27, a28, a29, a30, a31, a32, a33, a34, a35, a36, a37, a38, a39, a40, a41, a42, a43, a44, a45, a46, a47, a48, a49, a50, a51, a52, a53, a54, a55, a56, a57, a58, a59, a60, a61, _⟩ := ha
  have n981 : τ 981 = none := a0
  have n930 : τ 930 = none := a1
  have n931 : τ 931 = none := a2
  have n932 : τ 932 = none := a3
  have n933 : τ 933 = none := a4
  have n934 : τ 934 = none := a5
  have n935 : τ 935 = none := a6
  have n936 : τ 936 = none := a7
  have n937 : τ 937 = none := a8
  have n938 : τ 938 = none := a9
  have n939 : τ 939 = none := a10
  have n910 : τ 910 = none := a11
  have n911 : τ 911 = none := a12
  have n912 : τ 912 = none := a13
  have n913 : τ 913 = none := a14
  have n914 : τ 914 = none := a15
  have n915 : τ 915 = none := a16
  have n940 : τ 940 = none := a17
  have n941 : τ 941 = none := a18
  have n942 : τ 942 = none := a19
  have n943 : τ 943 = none := a20
  have n944 : τ 944 = none := a21
  have n945 : τ 945 = none := a22
  have n946 : τ 946 = none := a23
  have n947 : τ 947 = none := a24
  have n948 : τ 948 = none := a25
  have n949 : τ 949 = none := a26
  have n950 : τ 950 = none := a27
  have n951 : τ 951 = none := a28
  have n952 : τ 952 = none := a29
  have n953 : τ 953 = none := a30
  have n954 : τ 954 = none := a31
  have n955 : τ 955 = none := a32
  have n956 : τ 956 = none := a33
  have n957 : τ 957 = none := a34
  have n958 : τ 958 = none := a35
  have n959 : τ 959 = none := a36
  have n960 : τ 960 = none := a37
  have n961 : τ 961 = none := a38
  have n962 : τ 962 = none := a39
  have n963 : τ 963 = none := a40
  have n964 : τ 964 = none := a41
  have n965 : τ 965 = none := a42
  have n966 : τ 966 = none := a43
  have n967 : τ 967 = none := a44
  have n968 : τ 968 = none := a45
  have n969 : τ 969 = none := a46
  have n970 : τ 970 = none := a47
  have n971 : τ 971 = none := a48
  have n972 : τ 972 = none := a49
  have n973 : τ 973 = none := a50
  have n974 : τ 974 = none := a51
  have n920 : τ 920 = none := a52
  have n921 : τ 921 = none := a53
  have n922 : τ 922 = none := a54
  have n923 : τ 923 = none := a55
  have n924 : τ 924 = none := a56
  have n925 : τ 925 = none := a57
  have n926 : τ 926 = none := a58
  have n927 : τ 927 = none := a59
  have n928 : τ 928 = none := a60
  have n929 : τ 929 = none := a61
  obtain ⟨⟨h_p1, h_p2, h_td⟩, k_b, k_q, k_c, k_d, k_l, k_k, k_e, k_t, k_n, k_j⟩ := hS
  have h_jn := k_j
  have k_b0 := k_b
  obtain ⟨h_bit, h_one, h_or, h_and, h_shr, h_m1, h_m2, h_dv, h_r1, h_r2, h_nz⟩ := k_b0
  have qS : eGS m (wrM m 74 j x) := ⟨fun _ => rfl, fun _ => rfl, fun _ => rfl⟩
  have qB : eGB m (wrM m 74 j x) := ⟨⟨rfl, rfl⟩, fun _ => rfl, fun _ => rfl, fun r i hr => wr_row (by omega)⟩
  have qL : eGL m (wrM m 74 j x) := fun _ => rfl
  have qK : eGK m (wrM m 74 j x) := ⟨fun _ => rfl, rfl⟩
  have qM : eGM m (wrM m 74 j x) := fun _ => rfl
  have qP : eGP m (wrM m 74 j x) := rfl
  have k_q := e_q qS qP k_q
  have k_c := e_c qS qB k_c
  have k_d := e_d qS k_d
  have k_l := e_l qS qL k_l
  have k_k := e_k qS qK k_k
  have k_e := e_e qK qM k_e
  have k_t := e_t qK qP k_t
  have k_n := e_n qS k_n
  exact ⟨⟨fun e => no9 e rfl, h_p2, h_td⟩, ⟨fun _ _ _ e0 e1 e2 => no9 (o := none) rfl e0, h_one, h_or, h_and, h_shr, h_m1, h_m2, h_dv, h_r1, h_r2, h_nz⟩, k_q, k_c, k_d, k_l, k_k, k_e, k_t, k_n, (fun qa qb qc n e0 e1 e2 e3 => by
      have e0 : g 2 = qa := Option.some.inj (t871.symm.trans e0)
      subst e0
      have e1 : g 3 = qb := Option.some.inj (t872.symm.trans e1)
      subst e1
      have e2 : g 4 = qc := Option.some.inj (t873.symm.trans e2)
      subst e2
      have e3 : g 5 + 1 = n := Option.some.inj e3
      subst e3
      show JnG (wrM m 74 j x) (τ 981) (g 2) (g 3) (g 4) (g 5 + 1)
      have h1 := h_jn _ _ _ _ t871 t872 t873 t980
      rw [n981] at h1 ⊢
      obtain ⟨b1, b2, m0, b3, b4, b5, b6, b7⟩ := h1
      have hb := R840x (h_bit _ _ _ t840 t841 t842) (by omega) (by omega)
      rw [(show g 6 = g 4 by omega)] at hb
      have hin : inG m0 (g 2) (g 3) j := (b5 j (by omega)).mp (by rw [show j = (g 7).toNat by omega, ← hb]; omega)
      refine ⟨b1, by omega, m0, b3, b4, b5, fun q => absurd rfl q, fun y x9 hy hx => ?_⟩
      by_cases e : y = j
      · rw [e, wr_at]; exact ⟨by omega, Or.inl ⟨by omega, hin, by omega⟩⟩
      · rw [wr_ne e]
        refine ⟨(b7 y x9 hy hx).1, ?_⟩
        rcases (b7 y x9 hy hx).2 with q | q
        · exact Or.inl ⟨by omega, q.2⟩
        · rcases q.1 with z | z
          · exact Or.inr ⟨Or.inl (by omega), q.2⟩
          · exact Or.inr ⟨Or.inr z, q.2⟩)⟩
def wu_Se : Ru := ([(7, (0, (0, (0, 0)))), (8, (0, (0, (0, 0)))), (0, (975, (0, (0, 0)))), (0, (976, (0, (0, 0)))), (0, (977, (0, (0, 0)))), (9, (199, (2, (1, 0)))), (4, (0, (0, (1, 0))))], ([871, 878, 930, 931, 932, 933, 934, 935, 936, 937, 938, 939, 910, 911, 912, 913, 914, 915, 940, 941, 942, 943, 944, 945, 946, 947, 948, 949, 950, 951, 952, 953, 954, 955, 956, 957, 958, 959, 960, 961, 962, 963, 964, 965, 966, 967, 968, 969, 970, 971, 972, 973, 974, 880, 881, 882, 883, 884, 885, 886, 887, 888, 889, 890, 891, 892, 893, 894, 895, 896, 897, 898, 899, 905, 906, 907, 920, 921, 922, 923, 924, 925, 926, 927, 928, 929, 978], ([([(0, 1), (2, (-40)), (5, (-1))], 0), ([(0, (-1)), (2, 40), (5, 1)], 0), ([(1, 1), (3, (-1))], 0), ([(1, (-1)), (3, 1)], 0), ([(4, (-1)), (5, 1)], 0), ([(5, 1)], 39), ([(2, (-1))], 0), ([(2, 1)], 3)], (false, ([], ([], ([(978, some (6, 0))], none)))))))
theorem wk_Se : WrOk SGd 198 wu_Se := by
  intro τ m g j x hi hc ha hS
  obtain ⟨i0, i1, i2, i3, i4, i5, i6, _⟩ := hi
  have xp : g 0 = (j : Int) := i0
  have xv : g 1 = x := i1
  have t975 : τ 975 = some (g 2) := i2
  have t976 : τ 976 = some (g 3) := i3
  have t977 : τ 977 = some (g 4) := i4
  obtain ⟨jn, un, vn⟩ : ∃ j : Nat, 1 * g 2 + 0 = (j : Int) ∧ g 5 = m 199 j := i5
  have xone : g 6 = 1 := i6
  obtain ⟨c0, c1, c2, c3, c4, c5, c6, c7, _⟩ := hc
  have c0 : 1 * g 0 + (-40) * g 2 + (-1) * g 5 ≤ 0 := d3 c0
  have c1 : (-1) * g 0 + 40 * g 2 + 1 * g 5 ≤ 0 := d3 c1
  have c2 : 1 * g 1 + (-1) * g 3 ≤ 0 := d2 c2
  have c3 : (-1) * g 1 + 1 * g 3 ≤ 0 := d2 c3
  have c4 : (-1) * g 4 + 1 * g 5 ≤ 0 := d2 c4
  have c5 : 1 * g 5 ≤ 39 := d1 c5
  have c6 : (-1) * g 2 ≤ 0 := d1 c6
  have c7 : 1 * g 2 ≤ 3 := d1 c7
  obtain ⟨a0, a1, a2, a3, a4, a5, a6, a7, a8, a9, a10, a11, a12, a13, a14, a15, a16, a17, a18, a19, a20, a21, a22, a23, a24, a25, a26, a27, a28, a29, a30, a31, a32, a33, a34, a35, a36, a37, a38, a39, a40, a41, a42, a43, a44, a45, a46, a47, a48, a49, a50, a51, a52, a53, a54, a55, a56, a57, a58, a59, a60, a61, a62, a63, a64, a65, a66, a67, a68, a69, a70, a71, a72, a73, a74, a75, a76, a77, a78, a79, a80, a81, a82, a83, a84, a85, a86, _⟩ := ha
  have n871 : τ 871 = none := a0
  have n878 : τ 878 = none := a1
  have n930 : τ 930 = none := a2
  have n931 : τ 931 = none := a3
  have n932 : τ 932 = none := a4
  have n933 : τ 933 = none := a5
  have n934 : τ 934 = none := a6
  have n935 : τ 935 = none := a7
  have n936 : τ 936 = none := a8
  have n937 : τ 937 = none := a9
  have n938 : τ 938 = none := a10
  have n939 : τ 939 = none := a11
  have n910 : τ 910 = none := a12
  have n911 : τ 911 = none := a13
  have n912 : τ 912 = none := a14
  have n913 : τ 913 = none := a15
  have n914 : τ 914 = none := a16
  have n915 : τ 915 = none := a17
  have n940 : τ 940 = none := a18
  have n941 : τ 941 = none := a19
  have n942 : τ 942 = none := a20
  have n943 : τ 943 = none := a21
  have n944 : τ 944 = none := a22
  have n945 : τ 945 = none := a23
  have n946 : τ 946 = none := a24
  have n947 : τ 947 = none := a25
  have n948 : τ 948 = none := a26
  have n949 : τ 949 = none := a27
  have n950 : τ 950 = none := a28
  have n951 : τ 951 = none := a29
  have n952 : τ 952 = none := a30
  have n953 : τ 953 = none := a31
  have n954 : τ 954 = none := a32
  have n955 : τ 955 = none := a33
  have n956 : τ 956 = none := a34
  have n957 : τ 957 = none := a35
  have n958 : τ 958 = none := a36
  have n959 : τ 959 = none := a37
  have n960 : τ 960 = none := a38
  have n961 : τ 961 = none := a39
  have n962 : τ 962 = none := a40
  have n963 : τ 963 = none := a41
  have n964 : τ 964 = none := a42
  have n965 : τ 965 = none := a43
  have n966 : τ 966 = none := a44
  have n967 : τ 967 = none := a45
  have n968 : τ 968 = none := a46
  have n969 : τ 969 = none := a47
  have n970 : τ 970 = none := a48
  have n971 : τ 971 = none := a49
  have n972 : τ 972 = none := a50
  have n973 : τ 973 = none := a51
  have n974 : τ 974 = none := a52
  have n880 : τ 880 = none := a53
  have n881 : τ 881 = none := a54
  have n882 : τ 882 = none := a55
  have n883 : τ 883 = none := a56
  have n884 : τ 884 = none := a57
  have n885 : τ 885 = none := a58
  have n886 : τ 886 = none := a59
  have n887 : τ 887 = none := a60
  have n888 : τ 888 = none := a61
  have n889 : τ 889 = none := a62
  have n890 : τ 890 = none := a63
  have n891 : τ 891 = none := a64
  have n892 : τ 892 = none := a65
  have n893 : τ 893 = none := a66
  have n894 : τ 894 = none := a67
  have n895 : τ 895 = none := a68
  have n896 : τ 896 = none := a69
  have n897 : τ 897 = none := a70
  have n898 : τ 898 = none := a71
  have n899 : τ 899 = none := a72
  have n905 : τ 905 = none := a73
  have n906 : τ 906 = none := a74
  have n907 : τ 907 = none := a75
  have n920 : τ 920 = none := a76
  have n921 : τ 921 = none := a77
  have n922 : τ 922 = none := a78
  have n923 : τ 923 = none := a79
  have n924 : τ 924 = none := a80
  have n925 : τ 925 = none := a81
  have n926 : τ 926 = none := a82
  have n927 : τ 927 = none := a83
  have n928 : τ 928 = none := a84
  have n929 : τ 929 = none := a85
  have n978 : τ 978 = none := a86
  obtain ⟨⟨h_p1, h_p2, h_td⟩, k_b, k_q, k_c, k_d, k_l, k_k, k_e, k_t, k_n, k_j⟩ := hS
  have k_n0 := k_n
  obtain ⟨h_nk, h_nw⟩ := k_n0
  have k_q0 := k_q
  obtain ⟨h_vs, h_qc, h_qr, h_qk, h_qn, h_ub⟩ := k_q0
  have k_c0 := k_c
  obtain ⟨h_ga, h_in, h_ls, h_ld, h_w, h_rd, h_lead, h_ps, h_E, h_up, h_D, h_Z, h_s, h_sp⟩ := k_c0
  have k_d0 := k_d
  obtain ⟨h_dn, h_di, h_dh, h_dw, h_dx, h_dg, h_dy, h_df⟩ := k_d0
  have k_l0 := k_l
  obtain ⟨h_l0, h_lk, h_lg, h_lp, h_la, h_lc⟩ := k_l0
  have k_k0 := k_k
  obtain ⟨h_k0, h_ks, h_kk, h_kl, h_kw, h_kd, h_kz⟩ := k_k0
  have h_jn := k_j
  have ejn : jn = (g 2).toNat := by omega
  subst ejn
  have ht9 := (h_td.2 (g 2).toNat (by omega)).1
  have qB : eGB m (wrM m 198 j x) := ⟨⟨rfl, rfl⟩, fun _ => rfl, fun _ => rfl, fun r i hr => wr_row (by omega)⟩
  have qL : eGL m (wrM m 198 j x) := fun _ => rfl
  have qK : eGK m (wrM m 198 j x) := ⟨fun _ => rfl, rfl⟩
  have qM : eGM m (wrM m 198 j x) := fun _ => rfl
  have qP : eGP m (wrM m 198 j x) := rfl
  have qC : eGC m (wrM m 198 j x) := fun _ => rfl
  have k_e := e_e qK qM k_e
  have k_t := e_t qK qP k_t
  exact ⟨⟨h_p1, h_p2, by
    refine ⟨h_td.1, fun y hy => ⟨(h_td.2 y hy).1, fun i hi => ?_⟩⟩
    have hi : (i : Int) < m 199 y := hi
    have h1 := (h_td.2 y hy).1
    have h2 := (h_td.2 y hy).2 i hi
    have e1 : ∀ i' : Nat, i' ≤ i → wrM m 198 j x 198 (40 * y + i') = m 198 (40 * y + i') := fun i' h' => wr_ne (fun e => by
      have ey : y = (g 2).toNat := by omega
      rw [ey] at hi
      omega)
    rw [e1 i (Nat.le_refl _)]
    exact ⟨h2.1, h2.2.1, fun j9 hj => by rw [e1 j9 (by omega)]; exact h2.2.2 j9 hj⟩⟩, k_b, ⟨h_vs, fun _ _ _ e0 e1 e2 => no9 n871 e0, fun _ _ _ _ e0 e1 e2 e3 => no9 n871 e0, fun _ _ _ e0 e1 e2 => no9 n871 e0, fun _ _ _ e0 e1 e2 => no9 n871 e0, fun _ _ _ e0 e1 e2 => no9 n878 e0⟩, ⟨fun _ _ _ _ e0 e1 e2 e3 => no9 n871 e0, fun _ _ _ _ e0 e1 e2 e3 => no9 n871 e0, fun _ _ _ _ _ _ e0 e1 e2 e3 e4 e5 => no9 n871 e0, fun _ _ _ _ _ _ e0 e1 e2 e3 e4 e5 => no9 n871 e0, fun _ e0 => no9 n883 e0, fun _ _ e0 e1 => no9 n883 e0, fun _ _ _ e0 e1 e2 => no9 n883 e0, fun _ _ _ _ e0 e1 e2 e3 => no9 n883 e0, fun _ _ _ e0 e1 e2 => no9 n883 e0, fun _ _ _ _ _ _ _ _ _ e0 e1 e2 e3 e4 e5 e6 e7 e8 => no9 n871 e0, fun _ _ _ _ _ e0 e1 e2 e3 e4 => no9 n871 e0, fun _ _ _ e0 e1 e2 => no9 n871 e0, fun _ _ e0 e1 => no9 n882 e0, fun _ _ _ e0 e1 e2 => no9 n905 e0⟩, ⟨fun _ _ _ _ _ e0 e1 e2 e3 e4 => no9 n871 e0, fun _ _ _ _ e0 e1 e2 e3 => no9 n871 e0, fun _ _ _ _ e0 e1 e2 e3 => no9 n871 e0, fun _ _ _ _ _ e0 e1 e2 e3 e4 => no9 n871 e0, fun _ _ _ _ _ e0 e1 e2 e3 e4 => no9 n871 e0, fun _ _ _ _ _ e0 e1 e2 e3 e4 => no9 n871 e0, fun _ _ _ e0 e1 e2 => no9 n925 e0, fun _ _ _ _ _ e0 e1 e2 e3 e4 => no9 n871 e0⟩, ⟨fun _ _ e0 e1 => no9 n930 e0, fun _ _ _ e0 e1 e2 => no9 n930 e0, fun _ _ _ e0 e1 e2 => no9 n930 e0, fun _ _ e0 e1 => no9 n933 e0, fun _ _ _ _ e0 e1 e2 e3 => no9 n930 e0, fun _ _ _ e0 e1 e2 => no9 n930 e0⟩, ⟨fun _ _ _ _ e0 e1 e2 e3 => no9 n930 e0, fun _ e0 => no9 n939 e0, fun _ _ e0 e1 => no9 n939 e0, fun _ _ _ _ _ _ e0 e1 e2 e3 e4 e5 => no9 n930 e0, fun _ _ _ _ _ _ _ e0 e1 e2 e3 e4 e5 e6 => no9 n930 e0, fun _ _ _ _ _ _ e0 e1 e2 e3 e4 e5 => no9 n930 e0, fun _ _ _ e0 e1 e2 => no9 n930 e0⟩, k_e, k_t, ⟨(fun a w k e0 e1 e2 => by
      have e0 : g 2 = a := Option.some.inj (t975.symm.trans e0)
      subst e0
      have e1 : g 3 = w := Option.some.inj (t976.symm.trans e1)
      subst e1
      have e2 : g 4 = k := Option.some.inj (t977.symm.trans e2)
      subst e2
      have h1 := h_nk _ _ _ t975 t976 t977
      refine ⟨h1.1, h1.2.1, fun i h2 h3 => ?_⟩
      have h3 : (i : Int) < m 199 (g 2).toNat := h3
      rw [wr_ne (by omega)]; exact h1.2.2 i h2 h3), (fun a w g9 e0 e1 e2 => by
      have e0 : g 2 = a := Option.some.inj (t975.symm.trans e0)
      subst e0
      have e1 : g 3 = w := Option.some.inj (t976.symm.trans e1)
      subst e1
      have e2 : g 6 + 0 = g9 := Option.some.inj e2
      subst e2
      show wrM m 198 j x 198 (40 * (g 2).toNat + (m 199 (g 2).toNat).toNat) = g 3
      rw [show 40 * (g 2).toNat + (m 199 (g 2).toNat).toNat = j by omega, wr_at]; omega)⟩, fun _ _ _ _ e0 e1 e2 e3 => no9 n871 e0⟩
def wu_Cn : Ru := ([(7, (0, (0, (0, 0)))), (8, (0, (0, (0, 0)))), (0, (975, (0, (0, 0)))), (0, (976, (0, (0, 0)))), (0, (977, (0, (0, 0)))), (0, (978, (0, (0, 0)))), (0, (870, (0, (0, 0)))), (9, (199, (2, (1, 0))))], ([871, 878, 930, 931, 932, 933, 934, 935, 936, 937, 938, 939, 910, 911, 912, 913, 914, 915, 940, 941, 942, 943, 944, 945, 946, 947, 948, 949, 950, 951, 952, 953, 954, 955, 956, 957, 958, 959, 960, 961, 962, 963, 964, 965, 966, 967, 968, 969, 970, 971, 972, 973, 974, 880, 881, 882, 883, 884, 885, 886, 887, 888, 889, 890, 891, 892, 893, 894, 895, 896, 897, 898, 899, 905, 906, 907, 920, 921, 922, 923, 924, 925, 926, 927, 928, 929], ([([(0, 1), (2, (-1))], 0), ([(0, (-1)), (2, 1)], 0), ([(1, 1), (7, (-1))], 1), ([(1, (-1)), (7, 1)], (-1)), ([(3, (-1)), (6, 1)], 0), ([(3, 1), (6, (-1))], 0), ([(7, 1)], 39), ([(7, (-1))], 0), ([(4, (-1)), (7, 1)], 0), ([(2, (-1))], 0), ([(2, 1)], 3)], (false, ([], ([], ([(975, none), (976, none), (977, none), (978, none)], none)))))))
theorem wk_Cn : WrOk SGd 199 wu_Cn := by
  intro τ m g j x hi hc ha hS
  obtain ⟨i0, i1, i2, i3, i4, i5, i6, i7, _⟩ := hi
  have xp : g 0 = (j : Int) := i0
  have xv : g 1 = x := i1
  have t975 : τ 975 = some (g 2) := i2
  have t976 : τ 976 = some (g 3) := i3
  have t977 : τ 977 = some (g 4) := i4
  have t978 : τ 978 = some (g 5) := i5
  have t870 : τ 870 = some (g 6) := i6
  obtain ⟨jn, un, vn⟩ : ∃ j : Nat, 1 * g 2 + 0 = (j : Int) ∧ g 7 = m 199 j := i7
  obtain ⟨c0, c1, c2, c3, c4, c5, c6, c7, c8, c9, c10, _⟩ := hc
  have c0 : 1 * g 0 + (-1) * g 2 ≤ 0 := d2 c0
  have c1 : (-1) * g 0 + 1 * g 2 ≤ 0 := d2 c1
  have c2 : 1 * g 1 + (-1) * g 7 ≤ 1 := d2 c2
  have c3 : (-1) * g 1 + 1 * g 7 ≤ (-1) := d2 c3
  have c4 : (-1) * g 3 + 1 * g 6 ≤ 0 := d2 c4
  have c5 : 1 * g 3 + (-1) * g 6 ≤ 0 := d2 c5
  have c6 : 1 * g 7 ≤ 39 := d1 c6
  have c7 : (-1) * g 7 ≤ 0 := d1 c7
  have c8 : (-1) * g 4 + 1 * g 7 ≤ 0 := d2 c8
  have c9 : (-1) * g 2 ≤ 0 := d1 c9
  have c10 : 1 * g 2 ≤ 3 := d1 c10
  obtain ⟨a0, a1, a2, a3, a4, a5, a6, a7, a8, a9, a10, a11, a12, a13, a14, a15, a16, a17, a18, a19, a20, a21, a22, a23, a24, a25, a26, a27, a28, a29, a30, a31, a32, a33, a34, a35, a36, a37, a38, a39, a40, a41, a42, a43, a44, a45, a46, a47, a48, a49, a50, a51, a52, a53, a54, a55, a56, a57, a58, a59, a60, a61, a62, a63, a64, a65, a66, a67, a68, a69, a70, a71, a72, a73, a74, a75, a76, a77, a78, a79, a80, a81, a82, a83, a84, a85, _⟩ := ha
  have n871 : τ 871 = none := a0
  have n878 : τ 878 = none := a1
  have n930 : τ 930 = none := a2
  have n931 : τ 931 = none := a3
  have n932 : τ 932 = none := a4
  have n933 : τ 933 = none := a5
  have n934 : τ 934 = none := a6
  have n935 : τ 935 = none := a7
  have n936 : τ 936 = none := a8
  have n937 : τ 937 = none := a9
  have n938 : τ 938 = none := a10
  have n939 : τ 939 = none := a11
  have n910 : τ 910 = none := a12
  have n911 : τ 911 = none := a13
  have n912 : τ 912 = none := a14
  have n913 : τ 913 = none := a15
  have n914 : τ 914 = none := a16
  have n915 : τ 915 = none := a17
  have n940 : τ 940 = none := a18
  have n941 : τ 941 = none := a19
  have n942 : τ 942 = none := a20
  have n943 : τ 943 = none := a21
  have n944 : τ 944 = none := a22
  have n945 : τ 945 = none := a23
  have n946 : τ 946 = none := a24
  have n947 : τ 947 = none := a25
  have n948 : τ 948 = none := a26
  have n949 : τ 949 = none := a27
  have n950 : τ 950 = none := a28
  have n951 : τ 951 = none := a29
  have n952 : τ 952 = none := a30
  have n953 : τ 953 = none := a31
  have n954 : τ 954 = none := a32
  have n955 : τ 955 = none := a33
  have n956 : τ 956 = none := a34
  have n957 : τ 957 = none := a35
  have n958 : τ 958 = none := a36
  have n959 : τ 959 = none := a37
  have n960 : τ 960 = none := a38
  have n961 : τ 961 = none := a39
  have n962 : τ 962 = none := a40
  have n963 : τ 963 = none := a41
  have n964 : τ 964 = none := a42
  have n965 : τ 965 = none := a43
  have n966 : τ 966 = none := a44
  have n967 : τ 967 = none := a45
  have n968 : τ 968 = none := a46
  have n969 : τ 969 = none := a47
  have n970 : τ 970 = none := a48
  have n971 : τ 971 = none := a49
  have n972 : τ 972 = none := a50
  have n973 : τ 973 = none := a51
  have n974 : τ 974 = none := a52
  have n880 : τ 880 = none := a53
  have n881 : τ 881 = none := a54
  have n882 : τ 882 = none := a55
  have n883 : τ 883 = none := a56
  have n884 : τ 884 = none := a57
  have n885 : τ 885 = none := a58
  have n886 : τ 886 = none := a59
  have n887 : τ 887 = none := a60
  have n888 : τ 888 = none := a61
  have n889 : τ 889 = none := a62
  have n890 : τ 890 = none := a63
  have n891 : τ 891 = none := a64
  have n892 : τ 892 = none := a65
  have n893 : τ 893 = none := a66
  have n894 : τ 894 = none := a67
  have n895 : τ 895 = none := a68
  have n896 : τ 896 = none := a69
  have n897 : τ 897 = none := a70
  have n898 : τ 898 = none := a71
  have n899 : τ 899 = none := a72
  have n905 : τ 905 = none := a73
  have n906 : τ 906 = none := a74
  have n907 : τ 907 = none := a75
  have n920 : τ 920 = none := a76
  have n921 : τ 921 = none := a77
  have n922 : τ 922 = none := a78
  have n923 : τ 923 = none := a79
  have n924 : τ 924 = none := a80
  have n925 : τ 925 = none := a81
  have n926 : τ 926 = none := a82
  have n927 : τ 927 = none := a83
  have n928 : τ 928 = none := a84
  have n929 : τ 929 = none := a85
  obtain ⟨⟨h_p1, h_p2, h_td⟩, k_b, k_q, k_c, k_d, k_l, k_k, k_e, k_t, k_n, k_j⟩ := hS
  have k_n0 := k_n
  obtain ⟨h_nk, h_nw⟩ := k_n0
  have k_q0 := k_q
  obtain ⟨h_vs, h_qc, h_qr, h_qk, h_qn, h_ub⟩ := k_q0
  have k_c0 := k_c
  obtain ⟨h_ga, h_in, h_ls, h_ld, h_w, h_rd, h_lead, h_ps, h_E, h_up, h_D, h_Z, h_s, h_sp⟩ := k_c0
  have k_d0 := k_d
  obtain ⟨h_dn, h_di, h_dh, h_dw, h_dx, h_dg, h_dy, h_df⟩ := k_d0
  have k_l0 := k_l
  obtain ⟨h_l0, h_lk, h_lg, h_lp, h_la, h_lc⟩ := k_l0
  have k_k0 := k_k
  obtain ⟨h_k0, h_ks, h_kk, h_kl, h_kw, h_kd, h_kz⟩ := k_k0
  have h_jn := k_j
  have ejn : jn = (g 2).toNat := by omega
  subst ejn
  have ht9 := (h_td.2 (g 2).toNat (by omega)).1
  have qB : eGB m (wrM m 199 j x) := ⟨⟨rfl, rfl⟩, fun _ => rfl, fun _ => rfl, fun r i hr => wr_row (by omega)⟩
  have qL : eGL m (wrM m 199 j x) := fun _ => rfl
  have qK : eGK m (wrM m 199 j x) := ⟨fun _ => rfl, rfl⟩
  have qM : eGM m (wrM m 199 j x) := fun _ => rfl
  have qP : eGP m (wrM m 199 j x) := rfl
  have qC : eGC m (wrM m 199 j x) := fun _ => rfl
  have k_e := e_e qK qM k_e
  have k_t := e_t qK qP k_t
  exact ⟨⟨h_p1, h_p2, by
    have h1 := h_nk _ _ _ t975 t976 t977
    have h2 := h_nw _ _ _ t975 t976 t978
    have h3 := h_vs _ t870
    refine ⟨h_td.1, fun y hy => ?_⟩
    have ht := h_td.2 y hy
    show (0 ≤ wrM m 199 j x 199 y ∧ wrM m 199 j x 199 y ≤ 40) ∧ ∀ i : Nat, (i : Int) < wrM m 199 j x 199 y → (1 ≤ m 198 (40 * y + i) ∧ m 198 (40 * y + i) ≤ 1048575) ∧ (∀ c : Nat, m 110 6 ≤ (c : Int) → bvG (m 198 (40 * y + i)) c = 0) ∧ ∀ j9 : Nat, j9 < i → m 198 (40 * y + j9) ≠ m 198 (40 * y + i)
    by_cases e : y = j
    · have ew : wrM m 199 j x 199 y = x := by rw [e, wr_at]
      have ey : y = (g 2).toNat := by omega
      rw [ew]
      refine ⟨by omega, fun i hi => ?_⟩
      by_cases e2 : (i : Int) = m 199 (g 2).toNat
      · have ei : 40 * y + i = 40 * (g 2).toNat + (m 199 (g 2).toNat).toNat := by omega
        rw [ei, h2]
        exact ⟨by omega, fun c hc => by rw [show g 3 = g 6 by omega]; exact h3.2 c hc, fun j9 hj => by rw [ey]; exact h1.2.2 j9 (by omega) (by omega)⟩
      · exact ht.2 i (by rw [ey]; omega)
    · rw [wr_ne e]; exact ht⟩, k_b, ⟨h_vs, fun _ _ _ e0 e1 e2 => no9 n871 e0, fun _ _ _ _ e0 e1 e2 e3 => no9 n871 e0, fun _ _ _ e0 e1 e2 => no9 n871 e0, fun _ _ _ e0 e1 e2 => no9 n871 e0, fun _ _ _ e0 e1 e2 => no9 n878 e0⟩, ⟨fun _ _ _ _ e0 e1 e2 e3 => no9 n871 e0, fun _ _ _ _ e0 e1 e2 e3 => no9 n871 e0, fun _ _ _ _ _ _ e0 e1 e2 e3 e4 e5 => no9 n871 e0, fun _ _ _ _ _ _ e0 e1 e2 e3 e4 e5 => no9 n871 e0, fun _ e0 => no9 n883 e0, fun _ _ e0 e1 => no9 n883 e0, fun _ _ _ e0 e1 e2 => no9 n883 e0, fun _ _ _ _ e0 e1 e2 e3 => no9 n883 e0, fun _ _ _ e0 e1 e2 => no9 n883 e0, fun _ _ _ _ _ _ _ _ _ e0 e1 e2 e3 e4 e5 e6 e7 e8 => no9 n871 e0, fun _ _ _ _ _ e0 e1 e2 e3 e4 => no9 n871 e0, fun _ _ _ e0 e1 e2 => no9 n871 e0, fun _ _ e0 e1 => no9 n882 e0, fun _ _ _ e0 e1 e2 => no9 n905 e0⟩, ⟨fun _ _ _ _ _ e0 e1 e2 e3 e4 => no9 n871 e0, fun _ _ _ _ e0 e1 e2 e3 => no9 n871 e0, fun _ _ _ _ e0 e1 e2 e3 => no9 n871 e0, fun _ _ _ _ _ e0 e1 e2 e3 e4 => no9 n871 e0, fun _ _ _ _ _ e0 e1 e2 e3 e4 => no9 n871 e0, fun _ _ _ _ _ e0 e1 e2 e3 e4 => no9 n871 e0, fun _ _ _ e0 e1 e2 => no9 n925 e0, fun _ _ _ _ _ e0 e1 e2 e3 e4 => no9 n871 e0⟩, ⟨fun _ _ e0 e1 => no9 n930 e0, fun _ _ _ e0 e1 e2 => no9 n930 e0, fun _ _ _ e0 e1 e2 => no9 n930 e0, fun _ _ e0 e1 => no9 n933 e0, fun _ _ _ _ e0 e1 e2 e3 => no9 n930 e0, fun _ _ _ e0 e1 e2 => no9 n930 e0⟩, ⟨fun _ _ _ _ e0 e1 e2 e3 => no9 n930 e0, fun _ e0 => no9 n939 e0, fun _ _ e0 e1 => no9 n939 e0, fun _ _ _ _ _ _ e0 e1 e2 e3 e4 e5 => no9 n930 e0, fun _ _ _ _ _ _ _ e0 e1 e2 e3 e4 e5 e6 => no9 n930 e0, fun _ _ _ _ _ _ e0 e1 e2 e3 e4 e5 => no9 n930 e0, fun _ _ _ e0 e1 e2 => no9 n930 e0⟩, k_e, k_t, ⟨fun _ _ _ e0 e1 e2 => no9 (o := none) rfl e0, fun _ _ _ e0 e1 e2 => no9 (o := none) rfl e0⟩, fun _ _ _ _ e0 e1 e2 e3 => no9 n871 e0⟩
def wu_S1 : Ru := ([(7, (0, (0, (0, 0)))), (8, (0, (0, (0, 0)))), (0, (871, (0, (0, 0)))), (0, (872, (0, (0, 0)))), (0, (873, (0, (0, 0)))), (0, (980, (0, (0, 0)))), (4, (0, (0, (1, 0))))], ([870, 878, 930, 931, 932, 933, 934, 935, 936, 937, 938, 939, 910, 911, 912, 913, 914, 915, 940, 941, 942, 943, 944, 945, 946, 947, 948, 949, 950, 951, 952, 953, 954, 955, 956, 957, 958, 959, 960, 961, 962, 963, 964, 965, 966, 967, 968, 969, 970, 971, 972, 973, 974, 880, 881, 882, 883, 884, 885, 886, 887, 888, 889, 890, 891, 892, 893, 894, 895, 896, 897, 898, 899, 905, 906, 907, 920, 921, 922, 923, 924, 925, 926, 927, 928, 929, 874, 875, 876, 877, 975, 981], ([([(0, 1), (2, (-4)), (3, (-1))], 0), ([(0, (-1)), (2, 4), (3, 1)], 0), ([(1, 1)], 1), ([(1, (-1))], (-1)), ([(5, (-1))], (-4))], (false, ([], ([], ([(981, some (6, 0))], none)))))))
theorem wk_S1 : WrOk SGd 200 wu_S1 := by
  intro τ m g j x hi hc ha hS
  obtain ⟨i0, i1, i2, i3, i4, i5, i6, _⟩ := hi
  have xp : g 0 = (j : Int) := i0
  have xv : g 1 = x := i1
  have t871 : τ 871 = some (g 2) := i2
  have t872 : τ 872 = some (g 3) := i3
  have t873 : τ 873 = some (g 4) := i4
  have t980 : τ 980 = some (g 5) := i5
  have xone : g 6 = 1 := i6
  obtain ⟨c0, c1, c2, c3, c4, _⟩ := hc
  have c0 : 1 * g 0 + (-4) * g 2 + (-1) * g 3 ≤ 0 := d3 c0
  have c1 : (-1) * g 0 + 4 * g 2 + 1 * g 3 ≤ 0 := d3 c1
  have c2 : 1 * g 1 ≤ 1 := d1 c2
  have c3 : (-1) * g 1 ≤ (-1) := d1 c3
  have c4 : (-1) * g 5 ≤ (-4) := d1 c4
  obtain ⟨a0, a1, a2, a3, a4, a5, a6, a7, a8, a9, a10, a11, a12, a13, a14, a15, a16, a17, a18, a19, a20, a21, a22, a23, a24, a25, a26, a27, a28, a29, a30, a31, a32, a33, a34, a35, a36, a37, a38, a39, a40, a41, a42, a43, a44, a45, a46, a47, a48, a49, a50, a51, a52, a53, a54, a55, a56, a57, a58, a59, a60, a61, a62, a63, a64, a65, a66, a67, a68, a69, a70, a71, a72, a73, a74, a75, a76, a77, a78, a79, a80, a81, a82, a83, a84, a85, a86, a87, a88, a89, a90, a91, _⟩ := ha
  have n870 : τ 870 = none := a0
  have n878 : τ 878 = none := a1
  have n930 : τ 930 = none := a2
  have n931 : τ 931 = none := a3
  have n932 : τ 932 = none := a4
  have n933 : τ 933 = none := a5
  have n934 : τ 934 = none := a6
  have n935 : τ 935 = none := a7
  have n936 : τ 936 = none := a8
  have n937 : τ 937 = none := a9
  have n938 : τ 938 = none := a10
  have n939 : τ 939 = none := a11
  have n910 : τ 910 = none := a12
  have n911 : τ 911 = none := a13
  have n912 : τ 912 = none := a14
  have n913 : τ 913 = none := a15
  have n914 : τ 914 = none := a16
  have n915 : τ 915 = none := a17
  have n940 : τ 940 = none := a18
  have n941 : τ 941 = none := a19
  have n942 : τ 942 = none := a20
  have n943 : τ 943 = none := a21
  have n944 : τ 944 = none := a22
  have n945 : τ 945 = none := a23
  have n946 : τ 946 = none := a24
  have n947 : τ 947 = none := a25
  have n948 : τ 948 = none := a26
  have n949 : τ 949 = none := a27
  have n950 : τ 950 = none := a28
  have n951 : τ 951 = none := a29
  have n952 : τ 952 = none := a30
  have n953 : τ 953 = none := a31
  have n954 : τ 954 = none := a32
  have n955 : τ 955 = none := a33
  have n956 : τ 956 = none := a34
  have n957 : τ 957 = none := a35
  have n958 : τ 958 = none := a36
  have n959 : τ 959 = none := a37
  have n960 : τ 960 = none := a38
  have n961 : τ 961 = none := a39
  have n962 : τ 962 = none := a40
  have n963 : τ 963 = none := a41
  have n964 : τ 964 = none := a42
  have n965 : τ 965 = none := a43
  have n966 : τ 966 = none := a44
  have n967 : τ 967 = none := a45
  have n968 : τ 968 = none := a46
  have n969 : τ 969 = none := a47
  have n970 : τ 970 = none := a48
  have n971 : τ 971 = none := a49
  have n972 : τ 972 = none := a50
  have n973 : τ 973 = none := a51
  have n974 : τ 974 = none := a52
  have n880 : τ 880 = none := a53
  have n881 : τ 881 = none := a54
  have n882 : τ 882 = none := a55
  have n883 : τ 883 = none := a56
  have n884 : τ 884 = none := a57
  have n885 : τ 885 = none := a58
  have n886 : τ 886 = none := a59
  have n887 : τ 887 = none := a60
  have n888 : τ 888 = none := a61
  have n889 : τ 889 = none := a62
  have n890 : τ 890 = none := a63
  have n891 : τ 891 = none := a64
  have n892 : τ 892 = none := a65
  have n893 : τ 893 = none := a66
  have n894 : τ 894 = none := a67
  have n895 : τ 895 = none := a68
  have n896 : τ 896 = none := a69
  have n897 : τ 897 = none := a70
  have n898 : τ 898 = none := a71
  have n899 : τ 899 = none := a72
  have n905 : τ 905 = none := a73
  have n906 : τ 906 = none := a74
  have n907 : τ 907 = none := a75
  have n920 : τ 920 = none := a76
  have n921 : τ 921 = none := a77
  have n922 : τ 922 = none := a78
  have n923 : τ 923 = none := a79
  have n924 : τ 924 = none := a80
  have n925 : τ 925 = none := a81
  have n926 : τ 926 = none := a82
  have n927 : τ 927 = none := a83
  have n928 : τ 928 = none := a84
  have n929 : τ 929 = none := a85
  have n874 : τ 874 = none := a86
  have n875 : τ 875 = none := a87
  have n876 : τ 876 = none := a88
  have n877 : τ 877 = none := a89
  have n975 : τ 975 = none := a90
  have n981 : τ 981 = none := a91
  obtain ⟨⟨h_p1, h_p2, h_td⟩, k_b, k_q, k_c, k_d, k_l, k_k, k_e, k_t, k_n, k_j⟩ := hS
  have h_jn := k_j
  have k_q0 := k_q
  obtain ⟨h_vs, h_qc, h_qr, h_qk, h_qn, h_ub⟩ := k_q0
  have k_c0 := k_c
  obtain ⟨h_ga, h_in, h_ls, h_ld, h_w, h_rd, h_lead, h_ps, h_E, h_up, h_D, h_Z, h_s, h_sp⟩ := k_c0
  have k_d0 := k_d
  obtain ⟨h_dn, h_di, h_dh, h_dw, h_dx, h_dg, h_dy, h_df⟩ := k_d0
  have k_l0 := k_l
  obtain ⟨h_l0, h_lk, h_lg, h_lp, h_la, h_lc⟩ := k_l0
  have k_k0 := k_k
  obtain ⟨h_k0, h_ks, h_kk, h_kl, h_kw, h_kd, h_kz⟩ := k_k0
  have k_n0 := k_n
  obtain ⟨h_nk, h_nw⟩ := k_n0
  have qB : eGB m (wrM m 200 j x) := ⟨⟨rfl, rfl⟩, fun _ => rfl, fun _ => rfl, fun r i hr => wr_row (by omega)⟩
  have qL : eGL m (wrM m 200 j x) := fun _ => rfl
  have qK : eGK m (wrM m 200 j x) := ⟨fun _ => rfl, rfl⟩
  have qM : eGM m (wrM m 200 j x) := fun _ => rfl
  have qP : eGP m (wrM m 200 j x) := rfl
  have qC : eGC m (wrM m 200 j x) := fun _ => rfl
  have k_e := e_e qK qM k_e
  have k_t := e_t qK qP k_t
  exact ⟨⟨fun e => no9 e t980, fun e => no9 e rfl, h_td⟩, k_b, ⟨fun _ e0 => no9 n870 e0, (fun qa qb qc e0 e1 e2 => by
      have e0 : g 2 = qa := Option.some.inj (t871.symm.trans e0)
      subst e0
      have e1 : g 3 = qb := Option.some.inj (t872.symm.trans e1)
      subst e1
      have e2 : g 4 = qc := Option.some.inj (t873.symm.trans e2)
      subst e2
      exact fun e9 => no9 e9 rfl), fun _ _ _ _ e0 e1 e2 e3 => no9 n874 e2, fun _ _ _ e0 e1 e2 => no9 n876 e2, fun _ _ _ e0 e1 e2 => no9 n877 e2, fun _ _ _ e0 e1 e2 => no9 n878 e0⟩, ⟨fun _ _ _ _ e0 e1 e2 e3 => no9 n880 e2, fun _ _ _ _ e0 e1 e2 e3 => no9 n880 e2, fun _ _ _ _ _ _ e0 e1 e2 e3 e4 e5 => no9 n880 e2, fun _ _ _ _ _ _ e0 e1 e2 e3 e4 e5 => no9 n880 e2, fun _ e0 => no9 n883 e0, fun _ _ e0 e1 => no9 n883 e0, fun _ _ _ e0 e1 e2 => no9 n883 e0, fun _ _ _ _ e0 e1 e2 e3 => no9 n883 e0, fun _ _ _ e0 e1 e2 => no9 n883 e0, fun _ _ _ _ _ _ _ _ _ e0 e1 e2 e3 e4 e5 e6 e7 e8 => no9 n880 e2, fun _ _ _ _ _ e0 e1 e2 e3 e4 => no9 n880 e2, fun _ _ _ e0 e1 e2 => no9 n882 e2, fun _ _ e0 e1 => no9 n882 e0, fun _ _ _ e0 e1 e2 => no9 n905 e0⟩, ⟨fun _ _ _ _ _ e0 e1 e2 e3 e4 => no9 n920 e2, fun _ _ _ _ e0 e1 e2 e3 => no9 n920 e2, fun _ _ _ _ e0 e1 e2 e3 => no9 n920 e2, fun _ _ _ _ _ e0 e1 e2 e3 e4 => no9 n920 e2, fun _ _ _ _ _ e0 e1 e2 e3 e4 => no9 n920 e2, fun _ _ _ _ _ e0 e1 e2 e3 e4 => no9 n920 e2, fun _ _ _ e0 e1 e2 => no9 n925 e0, fun _ _ _ _ _ e0 e1 e2 e3 e4 => no9 n920 e2⟩, ⟨fun _ _ e0 e1 => no9 n930 e0, fun _ _ _ e0 e1 e2 => no9 n930 e0, fun _ _ _ e0 e1 e2 => no9 n930 e0, fun _ _ e0 e1 => no9 n933 e0, fun _ _ _ _ e0 e1 e2 e3 => no9 n930 e0, fun _ _ _ e0 e1 e2 => no9 n930 e0⟩, ⟨fun _ _ _ _ e0 e1 e2 e3 => no9 n930 e0, fun _ e0 => no9 n939 e0, fun _ _ e0 e1 => no9 n939 e0, fun _ _ _ _ _ _ e0 e1 e2 e3 e4 e5 => no9 n930 e0, fun _ _ _ _ _ _ _ e0 e1 e2 e3 e4 e5 e6 => no9 n930 e0, fun _ _ _ _ _ _ e0 e1 e2 e3 e4 e5 => no9 n930 e0, fun _ _ _ e0 e1 e2 => no9 n930 e0⟩, k_e, k_t, ⟨fun _ _ _ e0 e1 e2 => no9 n975 e0, fun _ _ _ e0 e1 e2 => no9 n975 e0⟩, (fun qa qb qc n e0 e1 e2 e3 => by
      have e0 : g 2 = qa := Option.some.inj (t871.symm.trans e0)
      subst e0
      have e1 : g 3 = qb := Option.some.inj (t872.symm.trans e1)
      subst e1
      have e2 : g 4 = qc := Option.some.inj (t873.symm.trans e2)
      subst e2
      have e3 : g 5 = n := Option.some.inj (t980.symm.trans e3)
      subst e3
      show JnG (wrM m 200 j x) (some (g 6 + 0)) (g 2) (g 3) (g 4) (g 5)
      have h1 := h_jn _ _ _ _ t871 t872 t873 t980
      rw [n981] at h1
      obtain ⟨b1, b2, m0, b3, b4, b5, b6, b7⟩ := h1
      refine ⟨b1, b2, m0, b3, fun u v hu hv => ?_, b5, fun _ => by omega, b7⟩
      by_cases e : 4 * u + v = j
      · rw [e, wr_at]; exact ⟨fun _ => Or.inr ⟨fun q => (by cases q), by omega, by omega⟩, fun _ => by omega⟩
      · rw [wr_ne e, b4 u v hu hv]
        exact ⟨fun q => q.elim Or.inl (fun q => absurd rfl q.1), fun q => q.elim Or.inl (fun q => absurd (show 4 * u + v = j by omega) e)⟩)⟩
def wu_S2 : Ru := ([(7, (0, (0, (0, 0)))), (8, (0, (0, (0, 0)))), (0, (871, (0, (0, 0)))), (0, (872, (0, (0, 0)))), (0, (873, (0, (0, 0)))), (0, (980, (0, (0, 0)))), (0, (981, (0, (0, 0))))], ([870, 878, 930, 931, 932, 933, 934, 935, 936, 937, 938, 939, 910, 911, 912, 913, 914, 915, 940, 941, 942, 943, 944, 945, 946, 947, 948, 949, 950, 951, 952, 953, 954, 955, 956, 957, 958, 959, 960, 961, 962, 963, 964, 965, 966, 967, 968, 969, 970, 971, 972, 973, 974, 880, 881, 882, 883, 884, 885, 886, 887, 888, 889, 890, 891, 892, 893, 894, 895, 896, 897, 898, 899, 905, 906, 907, 920, 921, 922, 923, 924, 925, 926, 927, 928, 929, 874, 875, 876, 877, 975], ([([(0, 1), (2, (-1)), (3, (-4))], 0), ([(0, (-1)), (2, 1), (3, 4)], 0), ([(1, 1)], 1), ([(1, (-1))], (-1))], (false, ([], ([], ([(871, none), (872, none), (873, none), (980, none), (981, none)], none)))))))
theorem wk_S2 : WrOk SGd 200 wu_S2 := by
  intro τ m g j x hi hc ha hS
  obtain ⟨i0, i1, i2, i3, i4, i5, i6, _⟩ := hi
  have xp : g 0 = (j : Int) := i0
  have xv : g 1 = x := i1
  have t871 : τ 871 = some (g 2) := i2
  have t872 : τ 872 = some (g 3) := i3
  have t873 : τ 873 = some (g 4) := i4
  have t980 : τ 980 = some (g 5) := i5
  have t981 : τ 981 = some (g 6) := i6
  obtain ⟨c0, c1, c2, c3, _⟩ := hc
  have c0 : 1 * g 0 + (-1) * g 2 + (-4) * g 3 ≤ 0 := d3 c0
  have c1 : (-1) * g 0 + 1 * g 2 + 4 * g 3 ≤ 0 := d3 c1
  have c2 : 1 * g 1 ≤ 1 := d1 c2
  have c3 : (-1) * g 1 ≤ (-1) := d1 c3
  obtain ⟨a0, a1, a2, a3, a4, a5, a6, a7, a8, a9, a10, a11, a12, a13, a14, a15, a16, a17, a18, a19, a20, a21, a22, a23, a24, a25, a26, a27, a28, a29, a30, a31, a32, a33, a34, a35, a36, a37, a38, a39, a40, a41, a42, a43, a44, a45, a46, a47, a48, a49, a50, a51, a52, a53, a54, a55, a56, a57, a58, a59, a60, a61, a62, a63, a64, a65, a66, a67, a68, a69, a70, a71, a72, a73, a74, a75, a76, a77, a78, a79, a80, a81, a82, a83, a84, a85, a86, a87, a88, a89, a90, _⟩ := ha
  have n870 : τ 870 = none := a0
  have n878 : τ 878 = none := a1
  have n930 : τ 930 = none := a2
  have n931 : τ 931 = none := a3
  have n932 : τ 932 = none := a4
  have n933 : τ 933 = none := a5
  have n934 : τ 934 = none := a6
  have n935 : τ 935 = none := a7
  have n936 : τ 936 = none := a8
  have n937 : τ 937 = none := a9
  have n938 : τ 938 = none := a10
  have n939 : τ 939 = none := a11
  have n910 : τ 910 = none := a12
  have n911 : τ 911 = none := a13
  have n912 : τ 912 = none := a14
  have n913 : τ 913 = none := a15
  have n914 : τ 914 = none := a16
  have n915 : τ 915 = none := a17
  have n940 : τ 940 = none := a18
  have n941 : τ 941 = none := a19
  have n942 : τ 942 = none := a20
  have n943 : τ 943 = none := a21
  have n944 : τ 944 = none := a22
  have n945 : τ 945 = none := a23
  have n946 : τ 946 = none := a24
  have n947 : τ 947 = none := a25
  have n948 : τ 948 = none := a26
  have n949 : τ 949 = none := a27
  have n950 : τ 950 = none := a28
  have n951 : τ 951 = none := a29
  have n952 : τ 952 = none := a30
  have n953 : τ 953 = none := a31
  have n954 : τ 954 = none := a32
  have n955 : τ 955 = none := a33
  have n956 : τ 956 = none := a34
  have n957 : τ 957 = none := a35
  have n958 : τ 958 = none := a36
  have n959 : τ 959 = none := a37
  have n960 : τ 960 = none := a38
  have n961 : τ 961 = none := a39
  have n962 : τ 962 = none := a40
  have n963 : τ 963 = none := a41
  have n964 : τ 964 = none := a42
  have n965 : τ 965 = none := a43
  have n966 : τ 966 = none := a44
  have n967 : τ 967 = none := a45
  have n968 : τ 968 = none := a46
  have n969 : τ 969 = none := a47
  have n970 : τ 970 = none := a48
  have n971 : τ 971 = none := a49
  have n972 : τ 972 = none := a50
  have n973 : τ 973 = none := a51
  have n974 : τ 974 = none := a52
  have n880 : τ 880 = none := a53
  have n881 : τ 881 = none := a54
  have n882 : τ 882 = none := a55
  have n883 : τ 883 = none := a56
  have n884 : τ 884 = none := a57
  have n885 : τ 885 = none := a58
  have n886 : τ 886 = none := a59
  have n887 : τ 887 = none := a60
  have n888 : τ 888 = none := a61
  have n889 : τ 889 = none := a62
  have n890 : τ 890 = none := a63
  have n891 : τ 891 = none := a64
  have n892 : τ 892 = none := a65
  have n893 : τ 893 = none := a66
  have n894 : τ 894 = none := a67
  have n895 : τ 895 = none := a68
  have n896 : τ 896 = none := a69
  have n897 : τ 897 = none := a70
  have n898 : τ 898 = none := a71
  have n899 : τ 899 = none := a72
  have n905 : τ 905 = none := a73
  have n906 : τ 906 = none := a74
  have n907 : τ 907 = none := a75
  have n920 : τ 920 = none := a76
  have n921 : τ 921 = none := a77
  have n922 : τ 922 = none := a78
  have n923 : τ 923 = none := a79
  have n924 : τ 924 = none := a80
  have n925 : τ 925 = none := a81
  have n926 : τ 926 = none := a82
  have n927 : τ 927 = none := a83
  have n928 : τ 928 = none := a84
  have n929 : τ 929 = none := a85
  have n874 : τ 874 = none := a86
  have n875 : τ 875 = none := a87
  have n876 : τ 876 = none := a88
  have n877 : τ 877 = none := a89
  have n975 : τ 975 = none := a90
  obtain ⟨⟨h_p1, h_p2, h_td⟩, k_b, k_q, k_c, k_d, k_l, k_k, k_e, k_t, k_n, k_j⟩ := hS
  have h_jn := k_j
  have k_q0 := k_q
  obtain ⟨h_vs, h_qc, h_qr, h_qk, h_qn, h_ub⟩ := k_q0
  have k_c0 := k_c
  obtain ⟨h_ga, h_in, h_ls, h_ld, h_w, h_rd, h_lead, h_ps, h_E, h_up, h_D, h_Z, h_s, h_sp⟩ := k_c0
  have k_d0 := k_d
  obtain ⟨h_dn, h_di, h_dh, h_dw, h_dx, h_dg, h_dy, h_df⟩ := k_d0
  have k_l0 := k_l
  obtain ⟨h_l0, h_lk, h_lg, h_lp, h_la, h_lc⟩ := k_l0
  have k_k0 := k_k
  obtain ⟨h_k0, h_ks, h_kk, h_kl, h_kw, h_kd, h_kz⟩ := k_k0
  have k_n0 := k_n
  obtain ⟨h_nk, h_nw⟩ := k_n0
  have h1 := h_jn _ _ _ _ t871 t872 t873 t980
  rw [t981] at h1
  obtain ⟨b1, b2, m0, b3, b4, b5, b6, b7⟩ := h1
  have hn := b6 (fun q => (by cases q))
  have hS9 : ∀ u v : Nat, u < 4 → v < 4 → (wrM m 200 j x 200 (4 * u + v) ≠ 0 ↔ m0 200 (4 * u + v) ≠ 0 ∨ (u = (g 2).toNat ∧ v = (g 3).toNat) ∨ (u = (g 3).toNat ∧ v = (g 2).toNat)) := fun u v hu hv => by
    by_cases e : 4 * u + v = j
    · rw [e, wr_at]; exact ⟨fun _ => Or.inr (Or.inr ⟨by omega, by omega⟩), fun _ => by omega⟩
    · rw [wr_ne e, b4 u v hu hv]
      constructor
      · rintro (q | ⟨_, q1, q2⟩)
        · exact Or.inl q
        · exact Or.inr (Or.inl ⟨by omega, by omega⟩)
      · rintro (q | q | q)
        · exact Or.inl q
        · exact Or.inr ⟨fun z => (by cases z), by omega, by omega⟩
        · exact absurd (show 4 * u + v = j by omega) e
  have hj := RS_join (m := m0) (m' := wrM m 200 j x) (p := (g 2).toNat) (q := (g 3).toNat) (by omega) (by omega) hS9
  have qB : eGB m (wrM m 200 j x) := ⟨⟨rfl, rfl⟩, fun _ => rfl, fun _ => rfl, fun r i hr => wr_row (by omega)⟩
  have qL : eGL m (wrM m 200 j x) := fun _ => rfl
  have qK : eGK m (wrM m 200 j x) := ⟨fun _ => rfl, rfl⟩
  have qM : eGM m (wrM m 200 j x) := fun _ => rfl
  have qP : eGP m (wrM m 200 j x) := rfl
  have qC : eGC m (wrM m 200 j x) := fun _ => rfl
  have k_e := e_e qK qM k_e
  have k_t := e_t qK qP k_t
  exact ⟨⟨fun _ a y ha hy => by
    have h2 := b7 a y ha hy
    refine ⟨h2.1, ?_⟩
    show bxG (m 74 a) y = 1 ↔ _
    rw [hj a y]
    rcases h2.2 with q | q
    · rw [q.2.2]; exact (b5 y hy).trans (join_in b3 a y q.2.1).symm
    · rcases q.1 with z | z
      · omega
      · exact q.2.trans (join_out b3 a y z).symm, fun _ u v hu hv hs => (hS9 v u hv hu).mpr (by
    rcases (hS9 u v hu hv).mp hs with q | q | q
    · exact Or.inl (b3 u v hu hv q)
    · exact Or.inr (Or.inr ⟨q.2, q.1⟩)
    · exact Or.inr (Or.inl ⟨q.2, q.1⟩)), h_td⟩, k_b, ⟨fun _ e0 => no9 n870 e0, fun _ _ _ e0 e1 e2 => no9 (o := none) rfl e0, fun _ _ _ _ e0 e1 e2 e3 => no9 (o := none) rfl e0, fun _ _ _ e0 e1 e2 => no9 (o := none) rfl e0, fun _ _ _ e0 e1 e2 => no9 (o := none) rfl e0, fun _ _ _ e0 e1 e2 => no9 n878 e0⟩, ⟨fun _ _ _ _ e0 e1 e2 e3 => no9 (o := none) rfl e0, fun _ _ _ _ e0 e1 e2 e3 => no9 (o := none) rfl e0, fun _ _ _ _ _ _ e0 e1 e2 e3 e4 e5 => no9 (o := none) rfl e0, fun _ _ _ _ _ _ e0 e1 e2 e3 e4 e5 => no9 (o := none) rfl e0, fun _ e0 => no9 n883 e0, fun _ _ e0 e1 => no9 n883 e0, fun _ _ _ e0 e1 e2 => no9 n883 e0, fun _ _ _ _ e0 e1 e2 e3 => no9 n883 e0, fun _ _ _ e0 e1 e2 => no9 n883 e0, fun _ _ _ _ _ _ _ _ _ e0 e1 e2 e3 e4 e5 e6 e7 e8 => no9 (o := none) rfl e0, fun _ _ _ _ _ e0 e1 e2 e3 e4 => no9 (o := none) rfl e0, fun _ _ _ e0 e1 e2 => no9 (o := none) rfl e0, fun _ _ e0 e1 => no9 n882 e0, fun _ _ _ e0 e1 e2 => no9 n905 e0⟩, ⟨fun _ _ _ _ _ e0 e1 e2 e3 e4 => no9 (o := none) rfl e0, fun _ _ _ _ e0 e1 e2 e3 => no9 (o := none) rfl e0, fun _ _ _ _ e0 e1 e2 e3 => no9 (o := none) rfl e0, fun _ _ _ _ _ e0 e1 e2 e3 e4 => no9 (o := none) rfl e0, fun _ _ _ _ _ e0 e1 e2 e3 e4 => no9 (o := none) rfl e0, fun _ _ _ _ _ e0 e1 e2 e3 e4 => no9 (o := none) rfl e0, fun _ _ _ e0 e1 e2 => no9 n925 e0, fun _ _ _ _ _ e0 e1 e2 e3 e4 => no9 (o := none) rfl e0⟩, ⟨fun _ _ e0 e1 => no9 n930 e0, fun _ _ _ e0 e1 e2 => no9 n930 e0, fun _ _ _ e0 e1 e2 => no9 n930 e0, fun _ _ e0 e1 => no9 n933 e0, fun _ _ _ _ e0 e1 e2 e3 => no9 n930 e0, fun _ _ _ e0 e1 e2 => no9 n930 e0⟩, ⟨fun _ _ _ _ e0 e1 e2 e3 => no9 n930 e0, fun _ e0 => no9 n939 e0, fun _ _ e0 e1 => no9 n939 e0, fun _ _ _ _ _ _ e0 e1 e2 e3 e4 e5 => no9 n930 e0, fun _ _ _ _ _ _ _ e0 e1 e2 e3 e4 e5 e6 => no9 n930 e0, fun _ _ _ _ _ _ e0 e1 e2 e3 e4 e5 => no9 n930 e0, fun _ _ _ e0 e1 e2 => no9 n930 e0⟩, k_e, k_t, ⟨fun _ _ _ e0 e1 e2 => no9 n975 e0, fun _ _ _ e0 e1 e2 => no9 n975 e0⟩, fun _ _ _ _ e0 e1 e2 e3 => no9 (o := none) rfl e0⟩
def wu_La : Ru := ([(7, (0, (0, (0, 0)))), (8, (0, (0, (0, 0)))), (0, (930, (0, (0, 0)))), (0, (931, (0, (0, 0)))), (0, (932, (0, (0, 0))))], ([933, 934, 936, 880, 881, 882, 883, 884, 885, 886, 887, 888, 889, 890, 891, 892, 893, 894, 895, 896, 897, 898, 899, 905, 906, 907, 920, 921, 922, 923, 924, 925, 926, 927, 928, 929], ([([(0, 1), (4, (-1))], 0), ([(0, (-1)), (4, 1)], 0), ([(0, (-1))], 0), ([(0, 1)], 3), ([(0, 1), (2, (-1))], 0), ([(0, (-1)), (2, 1)], 0), ([(1, 1)], 1), ([(1, (-1))], (-1))], (false, ([], ([], ([(932, some (4, 1))], none)))))))
theorem wk_La : WrOk SGd 201 wu_La := by
  intro τ m g j x hi hc ha hS
  obtain ⟨i0, i1, i2, i3, i4, _⟩ := hi
  have xp : g 0 = (j : Int) := i0
  have xv : g 1 = x := i1
  have t930 : τ 930 = some (g 2) := i2
  have t931 : τ 931 = some (g 3) := i3
  have t932 : τ 932 = some (g 4) := i4
  obtain ⟨c0, c1, c2, c3, c4, c5, c6, c7, _⟩ := hc
  have c0 : 1 * g 0 + (-1) * g 4 ≤ 0 := d2 c0
  have c1 : (-1) * g 0 + 1 * g 4 ≤ 0 := d2 c1
  have c2 : (-1) * g 0 ≤ 0 := d1 c2
  have c3 : 1 * g 0 ≤ 3 := d1 c3
  have c4 : 1 * g 0 + (-1) * g 2 ≤ 0 := d2 c4
  have c5 : (-1) * g 0 + 1 * g 2 ≤ 0 := d2 c5
  have c6 : 1 * g 1 ≤ 1 := d1 c6
  have c7 : (-1) * g 1 ≤ (-1) := d1 c7
  obtain ⟨a0, a1, a2, a3, a4, a5, a6, a7, a8, a9, a10, a11, a12, a13, a14, a15, a16, a17, a18, a19, a20, a21, a22, a23, a24, a25, a26, a27, a28, a29, a30, a31, a32, a33, a34, a35, _⟩ := ha
  have n933 : τ 933 = none := a0
  have n934 : τ 934 = none := a1
  have n936 : τ 936 = none := a2
  have n880 : τ 880 = none := a3
  have n881 : τ 881 = none := a4
  have n882 : τ 882 = none := a5
  have n883 : τ 883 = none := a6
  have n884 : τ 884 = none := a7
  have n885 : τ 885 = none := a8
  have n886 : τ 886 = none := a9
  have n887 : τ 887 = none := a10
  have n888 : τ 888 = none := a11
  have n889 : τ 889 = none := a12
  have n890 : τ 890 = none := a13
  have n891 : τ 891 = none := a14
  have n892 : τ 892 = none := a15
  have n893 : τ 893 = none := a16
  have n894 : τ 894 = none := a17
  have n895 : τ 895 = none := a18
  have n896 : τ 896 = none := a19
  have n897 : τ 897 = none := a20
  have n898 : τ 898 = none := a21
  have n899 : τ 899 = none := a22
  have n905 : τ 905 = none := a23
  have n906 : τ 906 = none := a24
  have n907 : τ 907 = none := a25
  have n920 : τ 920 = none := a26
  have n921 : τ 921 = none := a27
  have n922 : τ 922 = none := a28
  have n923 : τ 923 = none := a29
  have n924 : τ 924 = none := a30
  have n925 : τ 925 = none := a31
  have n926 : τ 926 = none := a32
  have n927 : τ 927 = none := a33
  have n928 : τ 928 = none := a34
  have n929 : τ 929 = none := a35
  obtain ⟨⟨h_p1, h_p2, h_td⟩, k_b, k_q, k_c, k_d, k_l, k_k, k_e, k_t, k_n, k_j⟩ := hS
  have k_l0 := k_l
  obtain ⟨h_l0, h_lk, h_lg, h_lp, h_la, h_lc⟩ := k_l0
  have qS : eGS m (wrM m 201 j x) := ⟨fun _ => rfl, fun _ => rfl, fun _ => rfl⟩
  have qB : eGB m (wrM m 201 j x) := ⟨⟨rfl, rfl⟩, fun _ => rfl, fun _ => rfl, fun r i hr => wr_row (by omega)⟩
  have qK : eGK m (wrM m 201 j x) := ⟨fun _ => rfl, rfl⟩
  have qM : eGM m (wrM m 201 j x) := fun _ => rfl
  have qP : eGP m (wrM m 201 j x) := rfl
  have qC : eGC m (wrM m 201 j x) := fun _ => rfl
  have k_q := e_q qS qP k_q
  have k_c := e_c qS qB k_c
  have k_d := e_d qS k_d
  have k_k := e_k qS qK k_k
  have k_e := e_e qK qM k_e
  have k_t := e_t qK qP k_t
  have k_n := e_n qS k_n
  have k_j := e_j qS qC k_j
  exact ⟨⟨h_p1, h_p2, h_td⟩, k_b, k_q, k_c, k_d, ⟨h_l0, (fun La Lb k e0 e1 e2 => by
      have e0 : g 2 = La := Option.some.inj (t930.symm.trans e0)
      subst e0
      have e1 : g 3 = Lb := Option.some.inj (t931.symm.trans e1)
      subst e1
      have e2 : g 4 + 1 = k := Option.some.inj e2
      subst e2
      have h1 := h_lk _ _ _ t930 t931 t932
      refine ⟨by omega, fun y h2 => ?_⟩
      by_cases e : y = j
      · rw [e, wr_at]; exact ⟨fun _ => by omega, fun _ => by omega⟩
      · rw [wr_ne e]; exact h1.2 y (by omega)), fun _ _ _ e0 e1 e2 => no9 n933 e2, fun _ _ e0 e1 => no9 n933 e0, fun _ _ _ _ e0 e1 e2 e3 => no9 n933 e2, fun _ _ _ e0 e1 e2 => no9 n936 e2⟩, k_k, k_e, k_t, k_n, k_j⟩
def wu_Lb : Ru := ([(7, (0, (0, (0, 0)))), (8, (0, (0, (0, 0)))), (0, (930, (0, (0, 0)))), (0, (931, (0, (0, 0)))), (0, (932, (0, (0, 0))))], ([933, 934, 936, 880, 881, 882, 883, 884, 885, 886, 887, 888, 889, 890, 891, 892, 893, 894, 895, 896, 897, 898, 899, 905, 906, 907, 920, 921, 922, 923, 924, 925, 926, 927, 928, 929], ([([(0, 1), (4, (-1))], 0), ([(0, (-1)), (4, 1)], 0), ([(0, (-1))], 0), ([(0, 1)], 3), ([(0, 1), (3, (-1))], 0), ([(0, (-1)), (3, 1)], 0), ([(1, 1)], 1), ([(1, (-1))], (-1))], (false, ([], ([], ([(932, some (4, 1))], none)))))))
theorem wk_Lb : WrOk SGd 201 wu_Lb := by
  intro τ m g j x hi hc ha hS
  obtain ⟨i0, i1, i2, i3, i4, _⟩ := hi
  have xp : g 0 = (j : Int) := i0
  have xv : g 1 = x := i1
  have t930 : τ 930 = some (g 2) := i2
  have t931 : τ 931 = some (g 3) := i3
  have t932 : τ 932 = some (g 4) := i4
  obtain ⟨c0, c1, c2, c3, c4, c5, c6, c7, _⟩ := hc
  have c0 : 1 * g 0 + (-1) * g 4 ≤ 0 := d2 c0
  have c1 : (-1) * g 0 + 1 * g 4 ≤ 0 := d2 c1
  have c2 : (-1) * g 0 ≤ 0 := d1 c2
  have c3 : 1 * g 0 ≤ 3 := d1 c3
  have c4 : 1 * g 0 + (-1) * g 3 ≤ 0 := d2 c4
  have c5 : (-1) * g 0 + 1 * g 3 ≤ 0 := d2 c5
  have c6 : 1 * g 1 ≤ 1 := d1 c6
  have c7 : (-1) * g 1 ≤ (-1) := d1 c7
  obtain ⟨a0, a1, a2, a3, a4, a5, a6, a7, a8, a9, a10, a11, a12, a13, a14, a15, a16, a17, a18, a19, a20, a21, a22, a23, a24, a25, a26, a27, a28, a29, a30, a31, a32, a33, a34, a35, _⟩ := ha
  have n933 : τ 933 = none := a0
  have n934 : τ 934 = none := a1
  have n936 : τ 936 = none := a2
  have n880 : τ 880 = none := a3
  have n881 : τ 881 = none := a4
  have n882 : τ 882 = none := a5
  have n883 : τ 883 = none := a6
  have n884 : τ 884 = none := a7
  have n885 : τ 885 = none := a8
  have n886 : τ 886 = none := a9
  have n887 : τ 887 = none := a10
  have n888 : τ 888 = none := a11
  have n889 : τ 889 = none := a12
  have n890 : τ 890 = none := a13
  have n891 : τ 891 = none := a14
  have n892 : τ 892 = none := a15
  have n893 : τ 893 = none := a16
  have n894 : τ 894 = none := a17
  have n895 : τ 895 = none := a18
  have n896 : τ 896 = none := a19
  have n897 : τ 897 = none := a20
  have n898 : τ 898 = none := a21
  have n899 : τ 899 = none := a22
  have n905 : τ 905 = none := a23
  have n906 : τ 906 = none := a24
  have n907 : τ 907 = none := a25
  have n920 : τ 920 = none := a26
  have n921 : τ 921 = none := a27
  have n922 : τ 922 = none := a28
  have n923 : τ 923 = none := a29
  have n924 : τ 924 = none := a30
  have n925 : τ 925 = none := a31
  have n926 : τ 926 = none := a32
  have n927 : τ 927 = none := a33
  have n928 : τ 928 = none := a34
  have n929 : τ 929 = none := a35
  obtain ⟨⟨h_p1, h_p2, h_td⟩, k_b, k_q, k_c, k_d, k_l, k_k, k_e, k_t, k_n, k_j⟩ := hS
  have k_l0 := k_l
  obtain ⟨h_l0, h_lk, h_lg, h_lp, h_la, h_lc⟩ := k_l0
  have qS : eGS m (wrM m 201 j x) := ⟨fun _ => rfl, fun _ => rfl, fun _ => rfl⟩
  have qB : eGB m (wrM m 201 j x) := ⟨⟨rfl, rfl⟩, fun _ => rfl, fun _ => rfl, fun r i hr => wr_row (by omega)⟩
  have qK : eGK m (wrM m 201 j x) := ⟨fun _ => rfl, rfl⟩
  have qM : eGM m (wrM m 201 j x) := fun _ => rfl
  have qP : eGP m (wrM m 201 j x) := rfl
  have qC : eGC m (wrM m 201 j x) := fun _ => rfl
  have k_q := e_q qS qP k_q
  have k_c := e_c qS qB k_c
  have k_d := e_d qS k_d
  have k_k := e_k qS qK k_k
  have k_e := e_e qK qM k_e
  have k_t := e_t qK qP k_t
  have k_n := e_n qS k_n
  have k_j := e_j qS qC k_j
  exact ⟨⟨h_p1, h_p2, h_td⟩, k_b, k_q, k_c, k_d, ⟨h_l0, (fun La Lb k e0 e1 e2 => by
      have e0 : g 2 = La := Option.some.inj (t930.symm.trans e0)
      subst e0
      have e1 : g 3 = Lb := Option.some.inj (t931.symm.trans e1)
      subst e1
      have e2 : g 4 + 1 = k := Option.some.inj e2
      subst e2
      have h1 := h_lk _ _ _ t930 t931 t932
      refine ⟨by omega, fun y h2 => ?_⟩
      by_cases e : y = j
      · rw [e, wr_at]; exact ⟨fun _ => by omega, fun _ => by omega⟩
      · rw [wr_ne e]; exact h1.2 y (by omega)), fun _ _ _ e0 e1 e2 => no9 n933 e2, fun _ _ e0 e1 => no9 n933 e0, fun _ _ _ _ e0 e1 e2 e3 => no9 n933 e2, fun _ _ _ e0 e1 e2 => no9 n936 e2⟩, k_k, k_e, k_t, k_n, k_j⟩
def wu_Lll : Ru := ([(7, (0, (0, (0, 0)))), (8, (0, (0, (0, 0)))), (0, (930, (0, (0, 0)))), (0, (931, (0, (0, 0)))), (0, (932, (0, (0, 0))))], ([933, 934, 936, 880, 881, 882, 883, 884, 885, 886, 887, 888, 889, 890, 891, 892, 893, 894, 895, 896, 897, 898, 899, 905, 906, 907, 920, 921, 922, 923, 924, 925, 926, 927, 928, 929], ([([(0, 1), (4, (-1))], 0), ([(0, (-1)), (4, 1)], 0), ([(0, (-1))], 0), ([(0, 1)], 3), ([(0, 1), (2, (-1))], (-1)), ([(0, 1), (3, (-1))], (-1)), ([(1, 1)], 0), ([(1, (-1))], 0)], (false, ([], ([], ([(932, some (4, 1))], none)))))))
theorem wk_Lll : WrOk SGd 201 wu_Lll := by
  intro τ m g j x hi hc ha hS
  obtain ⟨i0, i1, i2, i3, i4, _⟩ := hi
  have xp : g 0 = (j : Int) := i0
  have xv : g 1 = x := i1
  have t930 : τ 930 = some (g 2) := i2
  have t931 : τ 931 = some (g 3) := i3
  have t932 : τ 932 = some (g 4) := i4
  obtain ⟨c0, c1, c2, c3, c4, c5, c6, c7, _⟩ := hc
  have c0 : 1 * g 0 + (-1) * g 4 ≤ 0 := d2 c0
  have c1 : (-1) * g 0 + 1 * g 4 ≤ 0 := d2 c1
  have c2 : (-1) * g 0 ≤ 0 := d1 c2
  have c3 : 1 * g 0 ≤ 3 := d1 c3
  have c4 : 1 * g 0 + (-1) * g 2 ≤ (-1) := d2 c4
  have c5 : 1 * g 0 + (-1) * g 3 ≤ (-1) := d2 c5
  have c6 : 1 * g 1 ≤ 0 := d1 c6
  have c7 : (-1) * g 1 ≤ 0 := d1 c7
  obtain ⟨a0, a1, a2, a3, a4, a5, a6, a7, a8, a9, a10, a11, a12, a13, a14, a15, a16, a17, a18, a19, a20, a21, a22, a23, a24, a25, a26, a27, a28, a29, a30, a31, a32, a33, a34, a35, _⟩ := ha
  have n933 : τ 933 = none := a0
  have n934 : τ 934 = none := a1
  have n936 : τ 936 = none := a2
  have n880 : τ 880 = none := a3
  have n881 : τ 881 = none := a4
  have n882 : τ 882 = none := a5
  have n883 : τ 883 = none := a6
  have n884 : τ 884 = none := a7
  have n885 : τ 885 = none := a8
  have n886 : τ 886 = none := a9
  have n887 : τ 887 = none := a10
  have n888 : τ 888 = none := a11
  have n889 : τ 889 = none := a12
  have n890 : τ 890 = none := a13
  have n891 : τ 891 = none := a14
  have n892 : τ 892 = none := a15
  have n893 : τ 893 = none := a16
  have n894 : τ 894 = none := a17
  have n895 : τ 895 = none := a18
  have n896 : τ 896 = none := a19
  have n897 : τ 897 = none := a20
  have n898 : τ 898 = none := a21
  have n899 : τ 899 = none := a22
  have n905 : τ 905 = none := a23
  have n906 : τ 906 = none := a24
  have n907 : τ 907 = none := a25
  have n920 : τ 920 = none := a26
  have n921 : τ 921 = none := a27
  have n922 : τ 922 = none := a28
  have n923 : τ 923 = none := a29
  have n924 : τ 924 = none := a30
  have n925 : τ 925 = none := a31
  have n926 : τ 926 = none := a32
  have n927 : τ 927 = none := a33
  have n928 : τ 928 = none := a34
  have n929 : τ 929 = none := a35
  obtain ⟨⟨h_p1, h_p2, h_td⟩, k_b, k_q, k_c, k_d, k_l, k_k, k_e, k_t, k_n, k_j⟩ := hS
  have k_l0 := k_l
  obtain ⟨h_l0, h_lk, h_lg, h_lp, h_la, h_lc⟩ := k_l0
  have qS : eGS m (wrM m 201 j x) := ⟨fun _ => rfl, fun _ => rfl, fun _ => rfl⟩
  have qB : eGB m (wrM m 201 j x) := ⟨⟨rfl, rfl⟩, fun _ => rfl, fun _ => rfl, fun r i hr => wr_row (by omega)⟩
  have qK : eGK m (wrM m 201 j x) := ⟨fun _ => rfl, rfl⟩
  have qM : eGM m (wrM m 201 j x) := fun _ => rfl
  have qP : eGP m (wrM m 201 j x) := rfl
  have qC : eGC m (wrM m 201 j x) := fun _ => rfl
  have k_q := e_q qS qP k_q
  have k_c := e_c qS qB k_c
  have k_d := e_d qS k_d
  have k_k := e_k qS qK k_k
  have k_e := e_e qK qM k_e
  have k_t := e_t qK qP k_t
  have k_n := e_n qS k_n
  have k_j := e_j qS qC k_j
  exact ⟨⟨h_p1, h_p2, h_td⟩, k_b, k_q, k_c, k_d, ⟨h_l0, (fun La Lb k e0 e1 e2 => by
      have e0 : g 2 = La := Option.some.inj (t930.symm.trans e0)
      subst e0
      have e1 : g 3 = Lb := Option.some.inj (t931.symm.trans e1)
      subst e1
      have e2 : g 4 + 1 = k := Option.some.inj e2
      subst e2
      have h1 := h_lk _ _ _ t930 t931 t932
      refine ⟨by omega, fun y h2 => ?_⟩
      by_cases e : y = j
      · rw [e, wr_at]; exact ⟨fun _ => by omega, fun _ => by omega⟩
      · rw [wr_ne e]; exact h1.2 y (by omega)), fun _ _ _ e0 e1 e2 => no9 n933 e2, fun _ _ e0 e1 => no9 n933 e0, fun _ _ _ _ e0 e1 e2 e3 => no9 n933 e2, fun _ _ _ e0 e1 e2 => no9 n936 e2⟩, k_k, k_e, k_t, k_n, k_j⟩
def wu_Llm : Ru := ([(7, (0, (0, (0, 0)))), (8, (0, (0, (0, 0)))), (0, (930, (0, (0, 0)))), (0, (931, (0, (0, 0)))), (0, (932, (0, (0, 0))))], ([933, 934, 936, 880, 881, 882, 883, 884, 885, 886, 887, 888, 889, 890, 891, 892, 893, 894, 895, 896, 897, 898, 899, 905, 906, 907, 920, 921, 922, 923, 924, 925, 926, 927, 928, 929], ([([(0, 1), (4, (-1))], 0), ([(0, (-1)), (4, 1)], 0), ([(0, (-1))], 0), ([(0, 1)], 3), ([(0, 1), (2, (-1))], (-1)), ([(0, (-1)), (3, 1)], (-1)), ([(1, 1)], 0), ([(1, (-1))], 0)], (false, ([], ([], ([(932, some (4, 1))], none)))))))
theorem wk_Llm : WrOk SGd 201 wu_Llm := by
  intro τ m g j x hi hc ha hS
  obtain ⟨i0, i1, i2, i3, i4, _⟩ := hi
  have xp : g 0 = (j : Int) := i0
  have xv : g 1 = x := i1
  have t930 : τ 930 = some (g 2) := i2
  have t931 : τ 931 = some (g 3) := i3
  have t932 : τ 932 = some (g 4) := i4
  obtain ⟨c0, c1, c2, c3, c4, c5, c6, c7, _⟩ := hc
  have c0 : 1 * g 0 + (-1) * g 4 ≤ 0 := d2 c0
  have c1 : (-1) * g 0 + 1 * g 4 ≤ 0 := d2 c1
  have c2 : (-1) * g 0 ≤ 0 := d1 c2
  have c3 : 1 * g 0 ≤ 3 := d1 c3
  have c4 : 1 * g 0 + (-1) * g 2 ≤ (-1) := d2 c4
  have c5 : (-1) * g 0 + 1 * g 3 ≤ (-1) := d2 c5
  have c6 : 1 * g 1 ≤ 0 := d1 c6
  have c7 : (-1) * g 1 ≤ 0 := d1 c7
  obtain ⟨a0, a1, a2, a3, a4, a5, a6, a7, a8, a9, a10, a11, a12, a13, a14, a15, a16, a17, a18, a19, a20, a21, a22, a23, a24, a25, a26, a27, a28, a29, a30, a31, a32, a33, a34, a35, _⟩ := ha
  have n933 : τ 933 = none := a0
  have n934 : τ 934 = none := a1
  have n936 : τ 936 = none := a2
  have n880 : τ 880 = none := a3
  have n881 : τ 881 = none := a4
  have n882 : τ 882 = none := a5
  have n883 : τ 883 = none := a6
  have n884 : τ 884 = none := a7
  have n885 : τ 885 = none := a8
  have n886 : τ 886 = none := a9
  have n887 : τ 887 = none := a10
  have n888 : τ 888 = none := a11
  have n889 : τ 889 = none := a12
  have n890 : τ 890 = none := a13
  have n891 : τ 891 = none := a14
  have n892 : τ 892 = none := a15
  have n893 : τ 893 = none := a16
  have n894 : τ 894 = none := a17
  have n895 : τ 895 = none := a18
  have n896 : τ 896 = none := a19
  have n897 : τ 897 = none := a20
  have n898 : τ 898 = none := a21
  have n899 : τ 899 = none := a22
  have n905 : τ 905 = none := a23
  have n906 : τ 906 = none := a24
  have n907 : τ 907 = none := a25
  have n920 : τ 920 = none := a26
  have n921 : τ 921 = none := a27
  have n922 : τ 922 = none := a28
  have n923 : τ 923 = none := a29
  have n924 : τ 924 = none := a30
  have n925 : τ 925 = none := a31
  have n926 : τ 926 = none := a32
  have n927 : τ 927 = none := a33
  have n928 : τ 928 = none := a34
  have n929 : τ 929 = none := a35
  obtain ⟨⟨h_p1, h_p2, h_td⟩, k_b, k_q, k_c, k_d, k_l, k_k, k_e, k_t, k_n, k_j⟩ := hS
  have k_l0 := k_l
  obtain ⟨h_l0, h_lk, h_lg, h_lp, h_la, h_lc⟩ := k_l0
  have qS : eGS m (wrM m 201 j x) := ⟨fun _ => rfl, fun _ => rfl, fun _ => rfl⟩
  have qB : eGB m (wrM m 201 j x) := ⟨⟨rfl, rfl⟩, fun _ => rfl, fun _ => rfl, fun r i hr => wr_row (by omega)⟩
  have qK : eGK m (wrM m 201 j x) := ⟨fun _ => rfl, rfl⟩
  have qM : eGM m (wrM m 201 j x) := fun _ => rfl
  have qP : eGP m (wrM m 201 j x) := rfl
  have qC : eGC m (wrM m 201 j x) := fun _ => rfl
  have k_q := e_q qS qP k_q
  have k_c := e_c qS qB k_c
  have k_d := e_d qS k_d
  have k_k := e_k qS qK k_k
  have k_e := e_e qK qM k_e
  have k_t := e_t qK qP k_t
  have k_n := e_n qS k_n
  have k_j := e_j qS qC k_j
  exact ⟨⟨h_p1, h_p2, h_td⟩, k_b, k_q, k_c, k_d, ⟨h_l0, (fun La Lb k e0 e1 e2 => by
      have e0 : g 2 = La := Option.some.inj (t930.symm.trans e0)
      subst e0
      have e1 : g 3 = Lb := Option.some.inj (t931.symm.trans e1)
      subst e1
      have e2 : g 4 + 1 = k := Option.some.inj e2
      subst e2
      have h1 := h_lk _ _ _ t930 t931 t932
      refine ⟨by omega, fun y h2 => ?_⟩
      by_cases e : y = j
      · rw [e, wr_at]; exact ⟨fun _ => by omega, fun _ => by omega⟩
      · rw [wr_ne e]; exact h1.2 y (by omega)), fun _ _ _ e0 e1 e2 => no9 n933 e2, fun _ _ e0 e1 => no9 n933 e0, fun _ _ _ _ e0 e1 e2 e3 => no9 n933 e2, fun _ _ _ e0 e1 e2 => no9 n936 e2⟩, k_k, k_e, k_t, k_n, k_j⟩
def wu_Lml : Ru := ([(7, (0, (0, (0, 0)))), (8, (0, (0, (0, 0)))), (0, (930, (0, (0, 0)))), (0, (931, (0, (0, 0)))), (0, (932, (0, (0, 0))))], ([933, 934, 936, 880, 881, 882, 883, 884, 885, 886, 887, 888, 889, 890, 891, 892, 893, 894, 895, 896, 897, 898, 899, 905, 906, 907, 920, 921, 922, 923, 924, 925, 926, 927, 928, 929], ([([(0, 1), (4, (-1))], 0), ([(0, (-1)), (4, 1)], 0), ([(0, (-1))], 0), ([(0, 1)], 3), ([(0, (-1)), (2, 1)], (-1)), ([(0, 1), (3, (-1))], (-1)), ([(1, 1)], 0), ([(1, (-1))], 0)], (false, ([], ([], ([(932, some (4, 1))], none)))))))
theorem wk_Lml : WrOk SGd 201 wu_Lml := by
  intro τ m g j x hi hc ha hS
  obtain ⟨i0, i1, i2, i3, i4, _⟩ := hi
  have xp : g 0 = (j : Int) := i0
  have xv : g 1 = x := i1
  have t930 : τ 930 = some (g 2) := i2
  have t931 : τ 931 = some (g 3) := i3
  have t932 : τ 932 = some (g 4) := i4
  obtain ⟨c0, c1, c2, c3, c4, c5, c6, c7, _⟩ := hc
  have c0 : 1 * g 0 + (-1) * g 4 ≤ 0 := d2 c0
  have c1 : (-1) * g 0 + 1 * g 4 ≤ 0 := d2 c1
  have c2 : (-1) * g 0 ≤ 0 := d1 c2
  have c3 : 1 * g 0 ≤ 3 := d1 c3
  have c4 : (-1) * g 0 + 1 * g 2 ≤ (-1) := d2 c4
  have c5 : 1 * g 0 + (-1) * g 3 ≤ (-1) := d2 c5
  have c6 : 1 * g 1 ≤ 0 := d1 c6
  have c7 : (-1) * g 1 ≤ 0 := d1 c7
  obtain ⟨a0, a1, a2, a3, a4, a5, a6, a7, a8, a9, a10, a11, a12, a13, a14, a15, a16, a17, a18, a19, a20, a21, a22, a23, a24, a25, a26, a27, a28, a29, a30, a31, a32, a33, a34, a35, _⟩ := ha
  have n933 : τ 933 = none := a0
  have n934 : τ 934 = none := a1
  have n936 : τ 936 = none := a2
  have n880 : τ 880 = none := a3
  have n881 : τ 881 = none := a4
  have n882 : τ 882 = none := a5
  have n883 : τ 883 = none := a6
  have n884 : τ 884 = none := a7
  have n885 : τ 885 = none := a8
  have n886 : τ 886 = none := a9
  have n887 : τ 887 = none := a10
  have n888 : τ 888 = none := a11
  have n889 : τ 889 = none := a12
  have n890 : τ 890 = none := a13
  have n891 : τ 891 = none := a14
  have n892 : τ 892 = none := a15
  have n893 : τ 893 = none := a16
  have n894 : τ 894 = none := a17
  have n895 : τ 895 = none := a18
  have n896 : τ 896 = none := a19
  have n897 : τ 897 = none := a20
  have n898 : τ 898 = none := a21
  have n899 : τ 899 = none := a22
  have n905 : τ 905 = none := a23
  have n906 : τ 906 = none := a24
  have n907 : τ 907 = none := a25
  have n920 : τ 920 = none := a26
  have n921 : τ 921 = none := a27
  have n922 : τ 922 = none := a28
  have n923 : τ 923 = none := a29
  have n924 : τ 924 = none := a30
  have n925 : τ 925 = none := a31
  have n926 : τ 926 = none := a32
  have n927 : τ 927 = none := a33
  have n928 : τ 928 = none := a34
  have n929 : τ 929 = none := a35
  obtain ⟨⟨h_p1, h_p2, h_td⟩, k_b, k_q, k_c, k_d, k_l, k_k, k_e, k_t, k_n, k_j⟩ := hS
  have k_l0 := k_l
  obtain ⟨h_l0, h_lk, h_lg, h_lp, h_la, h_lc⟩ := k_l0
  have qS : eGS m (wrM m 201 j x) := ⟨fun _ => rfl, fun _ => rfl, fun _ => rfl⟩
  have qB : eGB m (wrM m 201 j x) := ⟨⟨rfl, rfl⟩, fun _ => rfl, fun _ => rfl, fun r i hr => wr_row (by omega)⟩
  have qK : eGK m (wrM m 201 j x) := ⟨fun _ => rfl, rfl⟩
  have qM : eGM m (wrM m 201 j x) := fun _ => rfl
  have qP : eGP m (wrM m 201 j x) := rfl
  have qC : eGC m (wrM m 201 j x) := fun _ => rfl
  have k_q := e_q qS qP k_q
  have k_c := e_c qS qB k_c
  have k_d := e_d qS k_d
  have k_k := e_k qS qK k_k
  have k_e := e_e qK qM k_e
  have k_t := e_t qK qP k_t
  have k_n := e_n qS k_n
  have k_j := e_j qS qC k_j
  exact ⟨⟨h_p1, h_p2, h_td⟩, k_b, k_q, k_c, k_d, ⟨h_l0, (fun La Lb k e0 e1 e2 => by
      have e0 : g 2 = La := Option.some.inj (t930.symm.trans e0)
      subst e0
      have e1 : g 3 = Lb := Option.some.inj (t931.symm.trans e1)
      subst e1
      have e2 : g 4 + 1 = k := Option.some.inj e2
      subst e2
      have h1 := h_lk _ _ _ t930 t931 t932
      refine ⟨by omega, fun y h2 => ?_⟩
      by_cases e : y = j
      · rw [e, wr_at]; exact ⟨fun _ => by omega, fun _ => by omega⟩
      · rw [wr_ne e]; exact h1.2 y (by omega)), fun _ _ _ e0 e1 e2 => no9 n933 e2, fun _ _ e0 e1 => no9 n933 e0, fun _ _ _ _ e0 e1 e2 e3 => no9 n933 e2, fun _ _ _ e0 e1 e2 => no9 n936 e2⟩, k_k, k_e, k_t, k_n, k_j⟩
def wu_Lmm : Ru := ([(7, (0, (0, (0, 0)))), (8, (0, (0, (0, 0)))), (0, (930, (0, (0, 0)))), (0, (931, (0, (0, 0)))), (0, (932, (0, (0, 0))))], ([933, 934, 936, 880, 881, 882, 883, 884, 885, 886, 887, 888, 889, 890, 891, 892, 893, 894, 895, 896, 897, 898, 899, 905, 906, 907, 920, 921, 922, 923, 924, 925, 926, 927, 928, 929], ([([(0, 1), (4, (-1))], 0), ([(0, (-1)), (4, 1)], 0), ([(0, (-1))], 0), ([(0, 1)], 3), ([(0, (-1)), (2, 1)], (-1)), ([(0, (-1)), (3, 1)], (-1)), ([(1, 1)], 0), ([(1, (-1))], 0)], (false, ([], ([], ([(932, some (4, 1))], none)))))))
theorem wk_Lmm : WrOk SGd 201 wu_Lmm := by
  intro τ m g j x hi hc ha hS
  obtain ⟨i0, i1, i2, i3, i4, _⟩ := hi
  have xp : g 0 = (j : Int) := i0
  have xv : g 1 = x := i1
  have t930 : τ 930 = some (g 2) := i2
  have t931 : τ 931 = some (g 3) := i3
  have t932 : τ 932 = some (g 4) := i4
  obtain ⟨c0, c1, c2, c3, c4, c5, c6, c7, _⟩ := hc
  have c0 : 1 * g 0 + (-1) * g 4 ≤ 0 := d2 c0
  have c1 : (-1) * g 0 + 1 * g 4 ≤ 0 := d2 c1
  have c2 : (-1) * g 0 ≤ 0 := d1 c2
  have c3 : 1 * g 0 ≤ 3 := d1 c3
  have c4 : (-1) * g 0 + 1 * g 2 ≤ (-1) := d2 c4
  have c5 : (-1) * g 0 + 1 * g 3 ≤ (-1) := d2 c5
  have c6 : 1 * g 1 ≤ 0 := d1 c6
  have c7 : (-1) * g 1 ≤ 0 := d1 c7
  obtain ⟨a0, a1, a2, a3, a4, a5, a6, a7, a8, a9, a10, a11, a12, a13, a14, a15, a16, a17, a18, a19, a20, a21, a22, a23, a24, a25, a26, a27, a28, a29, a30, a31, a32, a33, a34, a35, _⟩ := ha
  have n933 : τ 933 = none := a0
  have n934 : τ 934 = none := a1
  have n936 : τ 936 = none := a2
  have n880 : τ 880 = none := a3
  have n881 : τ 881 = none := a4
  have n882 : τ 882 = none := a5
  have n883 : τ 883 = none := a6
  have n884 : τ 884 = none := a7
  have n885 : τ 885 = none := a8
  have n886 : τ 886 = none := a9
  have n887 : τ 887 = none := a10
  have n888 : τ 888 = none := a11
  have n889 : τ 889 = none := a12
  have n890 : τ 890 = none := a13
  have n891 : τ 891 = none := a14
  have n892 : τ 892 = none := a15
  have n893 : τ 893 = none := a16
  have n894 : τ 894 = none := a17
  have n895 : τ 895 = none := a18
  have n896 : τ 896 = none := a19
  have n897 : τ 897 = none := a20
  have n898 : τ 898 = none := a21
  have n899 : τ 899 = none := a22
  have n905 : τ 905 = none := a23
  have n906 : τ 906 = none := a24
  have n907 : τ 907 = none := a25
  have n920 : τ 920 = none := a26
  have n921 : τ 921 = none := a27
  have n922 : τ 922 = none := a28
  have n923 : τ 923 = none := a29
  have n924 : τ 924 = none := a30
  have n925 : τ 925 = none := a31
  have n926 : τ 926 = none := a32
  have n927 : τ 927 = none := a33
  have n928 : τ 928 = none := a34
  have n929 : τ 929 = none := a35
  obtain ⟨⟨h_p1, h_p2, h_td⟩, k_b, k_q, k_c, k_d, k_l, k_k, k_e, k_t, k_n, k_j⟩ := hS
  have k_l0 := k_l
  obtain ⟨h_l0, h_lk, h_lg, h_lp, h_la, h_lc⟩ := k_l0
  have qS : eGS m (wrM m 201 j x) := ⟨fun _ => rfl, fun _ => rfl, fun _ => rfl⟩
  have qB : eGB m (wrM m 201 j x) := ⟨⟨rfl, rfl⟩, fun _ => rfl, fun _ => rfl, fun r i hr => wr_row (by omega)⟩
  have qK : eGK m (wrM m 201 j x) := ⟨fun _ => rfl, rfl⟩
  have qM : eGM m (wrM m 201 j x) := fun _ => rfl
  have qP : eGP m (wrM m 201 j x) := rfl
  have qC : eGC m (wrM m 201 j x) := fun _ => rfl
  have k_q := e_q qS qP k_q
  have k_c := e_c qS qB k_c
  have k_d := e_d qS k_d
  have k_k := e_k qS qK k_k
  have k_e := e_e qK qM k_e
  have k_t := e_t qK qP k_t
  have k_n := e_n qS k_n
  have k_j := e_j qS qC k_j
  exact ⟨⟨h_p1, h_p2, h_td⟩, k_b, k_q, k_c, k_d, ⟨h_l0, (fun La Lb k e0 e1 e2 => by
      have e0 : g 2 = La := Option.some.inj (t930.symm.trans e0)
      subst e0
      have e1 : g 3 = Lb := Option.some.inj (t931.symm.trans e1)
      subst e1
      have e2 : g 4 + 1 = k := Option.some.inj e2
      subst e2
      have h1 := h_lk _ _ _ t930 t931 t932
      refine ⟨by omega, fun y h2 => ?_⟩
      by_cases e : y = j
      · rw [e, wr_at]; exact ⟨fun _ => by omega, fun _ => by omega⟩
      · rw [wr_ne e]; exact h1.2 y (by omega)), fun _ _ _ e0 e1 e2 => no9 n933 e2, fun _ _ e0 e1 => no9 n933 e0, fun _ _ _ _ e0 e1 e2 e3 => no9 n933 e2, fun _ _ _ e0 e1 e2 => no9 n936 e2⟩, k_k, k_e, k_t, k_n, k_j⟩
def wu_Lg : Ru := ([(7, (0, (0, (0, 0)))), (8, (0, (0, (0, 0)))), (0, (933, (0, (0, 0)))), (0, (935, (0, (0, 0))))], ([934, 936, 932, 880, 881, 882, 883, 884, 885, 886, 887, 888, 889, 890, 891, 892, 893, 894, 895, 896, 897, 898, 899, 905, 906, 907, 920, 921, 922, 923, 924, 925, 926, 927, 928, 929], ([([(0, 1), (3, (-1))], 0), ([(0, (-1)), (3, 1)], 0), ([(1, 1)], 1), ([(1, (-1))], (-1))], (false, ([], ([], ([(935, none)], none)))))))
theorem wk_Lg : WrOk SGd 201 wu_Lg := by
  intro τ m g j x hi hc ha hS
  obtain ⟨i0, i1, i2, i3, _⟩ := hi
  have xp : g 0 = (j : Int) := i0
  have xv : g 1 = x := i1
  have t933 : τ 933 = some (g 2) := i2
  have t935 : τ 935 = some (g 3) := i3
  obtain ⟨c0, c1, c2, c3, _⟩ := hc
  have c0 : 1 * g 0 + (-1) * g 3 ≤ 0 := d2 c0
  have c1 : (-1) * g 0 + 1 * g 3 ≤ 0 := d2 c1
  have c2 : 1 * g 1 ≤ 1 := d1 c2
  have c3 : (-1) * g 1 ≤ (-1) := d1 c3
  obtain ⟨a0, a1, a2, a3, a4, a5, a6, a7, a8, a9, a10, a11, a12, a13, a14, a15, a16, a17, a18, a19, a20, a21, a22, a23, a24, a25, a26, a27, a28, a29, a30, a31, a32, a33, a34, a35, _⟩ := ha
  have n934 : τ 934 = none := a0
  have n936 : τ 936 = none := a1
  have n932 : τ 932 = none := a2
  have n880 : τ 880 = none := a3
  have n881 : τ 881 = none := a4
  have n882 : τ 882 = none := a5
  have n883 : τ 883 = none := a6
  have n884 : τ 884 = none := a7
  have n885 : τ 885 = none := a8
  have n886 : τ 886 = none := a9
  have n887 : τ 887 = none := a10
  have n888 : τ 888 = none := a11
  have n889 : τ 889 = none := a12
  have n890 : τ 890 = none := a13
  have n891 : τ 891 = none := a14
  have n892 : τ 892 = none := a15
  have n893 : τ 893 = none := a16
  have n894 : τ 894 = none := a17
  have n895 : τ 895 = none := a18
  have n896 : τ 896 = none := a19
  have n897 : τ 897 = none := a20
  have n898 : τ 898 = none := a21
  have n899 : τ 899 = none := a22
  have n905 : τ 905 = none := a23
  have n906 : τ 906 = none := a24
  have n907 : τ 907 = none := a25
  have n920 : τ 920 = none := a26
  have n921 : τ 921 = none := a27
  have n922 : τ 922 = none := a28
  have n923 : τ 923 = none := a29
  have n924 : τ 924 = none := a30
  have n925 : τ 925 = none := a31
  have n926 : τ 926 = none := a32
  have n927 : τ 927 = none := a33
  have n928 : τ 928 = none := a34
  have n929 : τ 929 = none := a35
  obtain ⟨⟨h_p1, h_p2, h_td⟩, k_b, k_q, k_c, k_d, k_l, k_k, k_e, k_t, k_n, k_j⟩ := hS
  have k_l0 := k_l
  obtain ⟨h_l0, h_lk, h_lg, h_lp, h_la, h_lc⟩ := k_l0
  have qS : eGS m (wrM m 201 j x) := ⟨fun _ => rfl, fun _ => rfl, fun _ => rfl⟩
  have qB : eGB m (wrM m 201 j x) := ⟨⟨rfl, rfl⟩, fun _ => rfl, fun _ => rfl, fun r i hr => wr_row (by omega)⟩
  have qK : eGK m (wrM m 201 j x) := ⟨fun _ => rfl, rfl⟩
  have qM : eGM m (wrM m 201 j x) := fun _ => rfl
  have qP : eGP m (wrM m 201 j x) := rfl
  have qC : eGC m (wrM m 201 j x) := fun _ => rfl
  have k_q := e_q qS qP k_q
  have k_c := e_c qS qB k_c
  have k_d := e_d qS k_d
  have k_k := e_k qS qK k_k
  have k_e := e_e qK qM k_e
  have k_t := e_t qK qP k_t
  have k_n := e_n qS k_n
  have k_j := e_j qS qC k_j
  exact ⟨⟨h_p1, h_p2, h_td⟩, k_b, k_q, k_c, k_d, ⟨h_l0, fun _ _ _ e0 e1 e2 => no9 n932 e2, (fun La Lb g9 e0 e1 e2 => by
      have e2 : g 2 = g9 := Option.some.inj (t933.symm.trans e2)
      subst e2
      have h1 := h_lg _ _ _ e0 e1 t933
      have h2 := h_la _ _ _ _ e0 e1 t933 t935
      refine ⟨fun y hy h3 => ?_, ?_, ?_⟩
      · rw [inG_e qS.1]
        by_cases e : y = j
        · rw [e, show j = (g 3).toNat by omega]; exact h2.2
        · rw [wr_ne e] at h3; exact h1.1 y hy h3
      · by_cases e : La.toNat = j
        · rw [e, wr_at]; omega
        · rw [wr_ne e]; exact h1.2.1
      · by_cases e : Lb.toNat = j
        · rw [e, wr_at]; omega
        · rw [wr_ne e]; exact h1.2.2), fun _ _ e0 e1 => no9 n934 e1, fun _ _ _ _ e0 e1 e2 e3 => no9 (o := none) rfl e3, fun _ _ _ e0 e1 e2 => no9 n936 e2⟩, k_k, k_e, k_t, k_n, k_j⟩
def wu_Kn : Ru := ([(7, (0, (0, (0, 0)))), (8, (0, (0, (0, 0)))), (0, (939, (0, (0, 0)))), (0, (910, (0, (0, 0)))), (5, (110, (134, (0, 0)))), (4, (0, (0, (1, 0))))], ([913, 914, 915, 940, 941, 942, 943, 944, 945, 946, 947, 948, 949, 950, 951, 952, 953, 954, 955, 956, 957, 958, 959, 960, 961, 962, 963, 964, 965, 966, 967, 968, 969, 970, 971, 972, 973, 974, 880, 881, 882, 883, 884, 885, 886, 887, 888, 889, 890, 891, 892, 893, 894, 895, 896, 897, 898, 899, 905, 906, 907, 920, 921, 922, 923, 924, 925, 926, 927, 928, 929], ([([(0, 1), (4, (-1))], 0), ([(0, (-1)), (4, 1)], 0), ([(1, 1), (2, (-1))], 0), ([(1, (-1)), (2, 1)], 0), ([(3, (-1)), (4, 1)], 0), ([(4, (-1))], 0)], (false, ([], ([], ([(913, some (5, 0))], none)))))))
theorem wk_Kn : WrOk SGd 202 wu_Kn := by
  intro τ m g j x hi hc ha hS
  obtain ⟨i0, i1, i2, i3, i4, i5, _⟩ := hi
  have xp : g 0 = (j : Int) := i0
  have xv : g 1 = x := i1
  have t939 : τ 939 = some (g 2) := i2
  have t910 : τ 910 = some (g 3) := i3
  have xkc : g 4 = m 110 134 := i4
  have xone : g 5 = 1 := i5
  obtain ⟨c0, c1, c2, c3, c4, c5, _⟩ := hc
  have c0 : 1 * g 0 + (-1) * g 4 ≤ 0 := d2 c0
  have c1 : (-1) * g 0 + 1 * g 4 ≤ 0 := d2 c1
  have c2 : 1 * g 1 + (-1) * g 2 ≤ 0 := d2 c2
  have c3 : (-1) * g 1 + 1 * g 2 ≤ 0 := d2 c3
  have c4 : (-1) * g 3 + 1 * g 4 ≤ 0 := d2 c4
  have c5 : (-1) * g 4 ≤ 0 := d1 c5
  obtain ⟨a0, a1, a2, a3, a4, a5, a6, a7, a8, a9, a10, a11, a12, a13, a14, a15, a16, a17, a18, a19, a20, a21, a22, a23, a24, a25, a26, a27, a28, a29, a30, a31, a32, a33, a34, a35, a36, a37, a38, a39, a40, a41, a42, a43, a44, a45, a46, a47, a48, a49, a50, a51, a52, a53, a54, a55, a56, a57, a58, a59, a60, a61, a62, a63, a64, a65, a66, a67, a68, a69, a70, _⟩ := ha
  have n913 : τ 913 = none := a0
  have n914 : τ 914 = none := a1
  have n915 : τ 915 = none := a2
  have n940 : τ 940 = none := a3
  have n941 : τ 941 = none := a4
  have n942 : τ 942 = none := a5
  have n943 : τ 943 = none := a6
  have n944 : τ 944 = none := a7
  have n945 : τ 945 = none := a8
  have n946 : τ 946 = none := a9
  have n947 : τ 947 = none := a10
  have n948 : τ 948 = none := a11
  have n949 : τ 949 = none := a12
  have n950 : τ 950 = none := a13
  have n951 : τ 951 = none := a14
  have n952 : τ 952 = none := a15
  have n953 : τ 953 = none := a16
  have n954 : τ 954 = none := a17
  have n955 : τ 955 = none := a18
  have n956 : τ 956 = none := a19
  have n957 : τ 957 = none := a20
  have n958 : τ 958 = none := a21
  have n959 : τ 959 = none := a22
  have n960 : τ 960 = none := a23
  have n961 : τ 961 = none := a24
  have n962 : τ 962 = none := a25
  have n963 : τ 963 = none := a26
  have n964 : τ 964 = none := a27
  have n965 : τ 965 = none := a28
  have n966 : τ 966 = none := a29
  have n967 : τ 967 = none := a30
  have n968 : τ 968 = none := a31
  have n969 : τ 969 = none := a32
  have n970 : τ 970 = none := a33
  have n971 : τ 971 = none := a34
  have n972 : τ 972 = none := a35
  have n973 : τ 973 = none := a36
  have n974 : τ 974 = none := a37
  have n880 : τ 880 = none := a38
  have n881 : τ 881 = none := a39
  have n882 : τ 882 = none := a40
  have n883 : τ 883 = none := a41
  have n884 : τ 884 = none := a42
  have n885 : τ 885 = none := a43
  have n886 : τ 886 = none := a44
  have n887 : τ 887 = none := a45
  have n888 : τ 888 = none := a46
  have n889 : τ 889 = none := a47
  have n890 : τ 890 = none := a48
  have n891 : τ 891 = none := a49
  have n892 : τ 892 = none := a50
  have n893 : τ 893 = none := a51
  have n894 : τ 894 = none := a52
  have n895 : τ 895 = none := a53
  have n896 : τ 896 = none := a54
  have n897 : τ 897 = none := a55
  have n898 : τ 898 = none := a56
  have n899 : τ 899 = none := a57
  have n905 : τ 905 = none := a58
  have n906 : τ 906 = none := a59
  have n907 : τ 907 = none := a60
  have n920 : τ 920 = none := a61
  have n921 : τ 921 = none := a62
  have n922 : τ 922 = none := a63
  have n923 : τ 923 = none := a64
  have n924 : τ 924 = none := a65
  have n925 : τ 925 = none := a66
  have n926 : τ 926 = none := a67
  have n927 : τ 927 = none := a68
  have n928 : τ 928 = none := a69
  have n929 : τ 929 = none := a70
  obtain ⟨⟨h_p1, h_p2, h_td⟩, k_b, k_q, k_c, k_d, k_l, k_k, k_e, k_t, k_n, k_j⟩ := hS
  have k_k0 := k_k
  obtain ⟨h_k0, h_ks, h_kk, h_kl, h_kw, h_kd, h_kz⟩ := k_k0
  have k_e0 := k_e
  obtain ⟨h_en, h_ef, h_ew, h_er, h_ep, h_ez, h_es, h_ed, h_pw, h_pv, h_eb, h_ei, h_ek, h_rr⟩ := k_e0
  have k_t0 := k_t
  obtain ⟨h_t0, h_tj, h_tw, h_tt⟩ := k_t0
  have qS : eGS m (wrM m 202 j x) := ⟨fun _ => rfl, fun _ => rfl, fun _ => rfl⟩
  have qB : eGB m (wrM m 202 j x) := ⟨⟨rfl, rfl⟩, fun _ => rfl, fun _ => rfl, fun r i hr => wr_row (by omega)⟩
  have qL : eGL m (wrM m 202 j x) := fun _ => rfl
  have qM : eGM m (wrM m 202 j x) := fun _ => rfl
  have qP : eGP m (wrM m 202 j x) := rfl
  have qC : eGC m (wrM m 202 j x) := fun _ => rfl
  have k_q := e_q qS qP k_q
  have k_c := e_c qS qB k_c
  have k_d := e_d qS k_d
  have k_l := e_l qS qL k_l
  have k_n := e_n qS k_n
  have k_j := e_j qS qC k_j
  exact ⟨⟨h_p1, h_p2, h_td⟩, k_b, k_q, k_c, k_d, k_l, ⟨(fun La Lb A I e0 e1 e2 e3 => by
      have h1 := h_k0 _ _ _ _ e0 e1 e2 e3
      exact ⟨h1.1, h1.2.1, fun e5 _ _ => no9 e5 rfl⟩), h_ks, (fun s K e0 e1 => by
      have e0 : g 2 = s := Option.some.inj (t939.symm.trans e0)
      subst e0
      have e1 : g 3 = K := Option.some.inj (t910.symm.trans e1)
      subst e1
      have h1 := h_kk _ _ t939 t910
      refine ⟨h1.1, fun i h2 h3 => ?_⟩
      have h3 : (i : Int) < m 110 134 := h3
      rw [wr_ne (by omega)]; exact h1.2 i h2 h3), h_kl, (fun La Lb A I s K w9 e0 e1 e2 e3 e4 e5 e6 => by
      have e4 : g 2 = s := Option.some.inj (t939.symm.trans e4)
      subst e4
      have e5 : g 3 = K := Option.some.inj (t910.symm.trans e5)
      subst e5
      have e6 : g 5 + 0 = w9 := Option.some.inj e6
      subst e6
      have h1 := h_k0 _ _ _ _ e0 e1 e2 e3
      refine ⟨by show m 110 134 ≤ _; omega, ?_, n914, n915, ?_⟩
      · show wrM m 202 j x 202 (m 110 134).toNat = _
        rw [show (m 110 134).toNat = j by omega, wr_at]; omega
      · rw [tsG_e qS]
        show enG _ (m 110 134).toNat (fun i => wrM m 202 j x 202 i)
        exact en_cg (h1.2.2 n913 n914 n915) (fun i hi => wr_ne (by omega))), fun _ _ _ _ _ _ e0 e1 e2 e3 e4 e5 => no9 n914 e5, fun _ _ _ e0 e1 e2 => no9 n915 e2⟩, ⟨fun _ _ e0 e1 => no9 n940 e0, fun _ _ _ _ e0 e1 e2 e3 => no9 n940 e0, fun _ _ _ e0 e1 e2 => no9 n941 e0, fun _ _ _ _ e0 e1 e2 e3 => no9 n940 e0, fun _ _ _ _ _ e0 e1 e2 e3 e4 => no9 n940 e0, fun _ _ _ _ _ _ e0 e1 e2 e3 e4 e5 => no9 n940 e0, fun _ _ _ _ _ _ _ e0 e1 e2 e3 e4 e5 e6 => no9 n940 e0, fun _ _ _ _ _ e0 e1 e2 e3 e4 => no9 n940 e0, fun _ _ _ _ e0 e1 e2 e3 => no9 n953 e0, fun _ _ e0 e1 => no9 n957 e0, fun _ _ _ _ _ _ e0 e1 e2 e3 e4 e5 => no9 n940 e0, fun _ _ _ _ _ _ _ e0 e1 e2 e3 e4 e5 e6 => no9 n940 e0, fun _ _ _ _ _ _ _ _ _ e0 e1 e2 e3 e4 e5 e6 e7 e8 => no9 n940 e0, fun _ _ e0 e1 => no9 n963 e0⟩, ⟨fun _ e0 => no9 n970 e0, fun _ _ e0 e1 => no9 n970 e0, fun _ _ e0 e1 => no9 n971 e0, fun _ _ e0 e1 => no9 n970 e0⟩, k_n, k_j⟩
def wu_Mf : Ru := ([(7, (0, (0, (0, 0)))), (8, (0, (0, (0, 0)))), (0, (940, (0, (0, 0)))), (0, (941, (0, (0, 0)))), (0, (942, (0, (0, 0)))), (0, (943, (0, (0, 0)))), (0, (944, (0, (0, 0)))), (0, (840, (0, (0, 0)))), (0, (841, (0, (0, 0)))), (0, (842, (0, (0, 0))))], ([945, 880, 881, 882, 883, 884, 885, 886, 887, 888, 889, 890, 891, 892, 893, 894, 895, 896, 897, 898, 899, 905, 906, 907, 920, 921, 922, 923, 924, 925, 926, 927, 928, 929], ([([(0, 1), (4, (-20)), (5, (-1))], 0), ([(0, (-1)), (4, 20), (5, 1)], 0), ([(6, (-1)), (7, 1)], 0), ([(6, 1), (7, (-1))], 0), ([(5, (-1)), (8, 1)], 0), ([(5, 1), (8, (-1))], 0), ([(1, 1), (9, (-1))], 0), ([(1, (-1)), (9, 1)], 0), ([(5, (-1))], 0), ([(5, 1)], 19), ([(4, (-1))], 0), ([(2, (-1)), (4, 1)], (-1))], (false, ([], ([], ([(943, some (5, 1)), (840, none), (841, none), (842, none)], none)))))))
theorem wk_Mf : WrOk SGd 203 wu_Mf := by
  intro τ m g j x hi hc ha hS
  obtain ⟨i0, i1, i2, i3, i4, i5, i6, i7, i8, i9, _⟩ := hi
  have xp : g 0 = (j : Int) := i0
  have xv : g 1 = x := i1
  have t940 : τ 940 = some (g 2) := i2
  have t941 : τ 941 = some (g 3) := i3
  have t942 : τ 942 = some (g 4) := i4
  have t943 : τ 943 = some (g 5) := i5
  have t944 : τ 944 = some (g 6) := i6
  have t840 : τ 840 = some (g 7) := i7
  have t841 : τ 841 = some (g 8) := i8
  have t842 : τ 842 = some (g 9) := i9
  obtain ⟨c0, c1, c2, c3, c4, c5, c6, c7, c8, c9, c10, c11, _⟩ := hc
  have c0 : 1 * g 0 + (-20) * g 4 + (-1) * g 5 ≤ 0 := d3 c0
  have c1 : (-1) * g 0 + 20 * g 4 + 1 * g 5 ≤ 0 := d3 c1
  have c2 : (-1) * g 6 + 1 * g 7 ≤ 0 := d2 c2
  have c3 : 1 * g 6 + (-1) * g 7 ≤ 0 := d2 c3
  have c4 : (-1) * g 5 + 1 * g 8 ≤ 0 := d2 c4
  have c5 : 1 * g 5 + (-1) * g 8 ≤ 0 := d2 c5
  have c6 : 1 * g 1 + (-1) * g 9 ≤ 0 := d2 c6
  have c7 : (-1) * g 1 + 1 * g 9 ≤ 0 := d2 c7
  have c8 : (-1) * g 5 ≤ 0 := d1 c8
  have c9 : 1 * g 5 ≤ 19 := d1 c9
  have c10 : (-1) * g 4 ≤ 0 := d1 c10
  have c11 : (-1) * g 2 + 1 * g 4 ≤ (-1) := d2 c11
  obtain ⟨a0, a1, a2, a3, a4, a5, a6, a7, a8, a9, a10, a11, a12, a13, a14, a15, a16, a17, a18, a19, a20, a21, a22, a23, a24, a25, a26, a27, a28, a29, a30, a31, a32, a33, _⟩ := ha
  have n945 : τ 945 = none := a0
  have n880 : τ 880 = none := a1
  have n881 : τ 881 = none := a2
  have n882 : τ 882 = none := a3
  have n883 : τ 883 = none := a4
  have n884 : τ 884 = none := a5
  have n885 : τ 885 = none := a6
  have n886 : τ 886 = none := a7
  have n887 : τ 887 = none := a8
  have n888 : τ 888 = none := a9
  have n889 : τ 889 = none := a10
  have n890 : τ 890 = none := a11
  have n891 : τ 891 = none := a12
  have n892 : τ 892 = none := a13
  have n893 : τ 893 = none := a14
  have n894 : τ 894 = none := a15
  have n895 : τ 895 = none := a16
  have n896 : τ 896 = none := a17
  have n897 : τ 897 = none := a18
  have n898 : τ 898 = none := a19
  have n899 : τ 899 = none := a20
  have n905 : τ 905 = none := a21
  have n906 : τ 906 = none := a22
  have n907 : τ 907 = none := a23
  have n920 : τ 920 = none := a24
  have n921 : τ 921 = none := a25
  have n922 : τ 922 = none := a26
  have n923 : τ 923 = none := a27
  have n924 : τ 924 = none := a28
  have n925 : τ 925 = none := a29
  have n926 : τ 926 = none := a30
  have n927 : τ 927 = none := a31
  have n928 : τ 928 = none := a32
  have n929 : τ 929 = none := a33
  obtain ⟨⟨h_p1, h_p2, h_td⟩, k_b, k_q, k_c, k_d, k_l, k_k, k_e, k_t, k_n, k_j⟩ := hS
  have k_e0 := k_e
  obtain ⟨h_en, h_ef, h_ew, h_er, h_ep, h_ez, h_es, h_ed, h_pw, h_pv, h_eb, h_ei, h_ek, h_rr⟩ := k_e0
  have k_b0 := k_b
  obtain ⟨h_bit, h_one, h_or, h_and, h_shr, h_m1, h_m2, h_dv, h_r1, h_r2, h_nz⟩ := k_b0
  have qS : eGS m (wrM m 203 j x) := ⟨fun _ => rfl, fun _ => rfl, fun _ => rfl⟩
  have qB : eGB m (wrM m 203 j x) := ⟨⟨rfl, rfl⟩, fun _ => rfl, fun _ => rfl, fun r i hr => wr_row (by omega)⟩
  have qL : eGL m (wrM m 203 j x) := fun _ => rfl
  have qK : eGK m (wrM m 203 j x) := ⟨fun _ => rfl, rfl⟩
  have qP : eGP m (wrM m 203 j x) := rfl
  have qC : eGC m (wrM m 203 j x) := fun _ => rfl
  have k_q := e_q qS qP k_q
  have k_c := e_c qS qB k_c
  have k_d := e_d qS k_d
  have k_l := e_l qS qL k_l
  have k_k := e_k qS qK k_k
  have k_t := e_t qK qP k_t
  have k_n := e_n qS k_n
  have k_j := e_j qS qC k_j
  exact ⟨⟨h_p1, h_p2, h_td⟩, ⟨fun _ _ _ e0 e1 e2 => no9 (o := none) rfl e0, h_one, h_or, h_and, h_shr, h_m1, h_m2, h_dv, h_r1, h_r2, h_nz⟩, k_q, k_c, k_d, k_l, k_k, ⟨h_en, (fun N9 s I J e0 e1 e2 e3 => by
      have e0 : g 2 = N9 := Option.some.inj (t940.symm.trans e0)
      subst e0
      have e1 : g 3 = s := Option.some.inj (t941.symm.trans e1)
      subst e1
      have e2 : g 4 = I := Option.some.inj (t942.symm.trans e2)
      subst e2
      have e3 : g 5 + 1 = J := Option.some.inj e3
      subst e3
      have h1 := h_ef _ _ _ _ t940 t941 t942 t943
      have h2 := h_ew _ _ _ t941 t942 t944
      have hb := R840x (h_bit _ _ _ t840 t841 t842) (by omega) (by omega)
      refine ⟨by omega, fun i c hc h3 => ?_⟩
      rw [fmG_e qK]
      by_cases e : 20 * i + c = j
      · have ei : i = (g 4).toNat := by omega
        have ec : c = (g 5).toNat := by omega
        have hv : bvG (g 6) (g 5).toNat = bxG (g 6) (g 5).toNat := by unfold bvG; rw [if_pos (by omega)]
        rw [e, wr_at, ei, ec, ← h2, hv, ← (show g 7 = g 6 by omega), ← (show (g 8).toNat = (g 5).toNat by omega), ← hb]; omega
      · rw [wr_ne e]; exact h1.2 i c hc (by omega)), h_ew, fun _ _ _ _ e0 e1 e2 e3 => no9 n945 e2, fun _ _ _ _ _ e0 e1 e2 e3 e4 => no9 n945 e2, fun _ _ _ _ _ _ e0 e1 e2 e3 e4 e5 => no9 n945 e2, fun _ _ _ _ _ _ _ e0 e1 e2 e3 e4 e5 e6 => no9 n945 e2, fun _ _ _ _ _ e0 e1 e2 e3 e4 => no9 n945 e2, h_pw, h_pv, fun _ _ _ _ _ _ e0 e1 e2 e3 e4 e5 => no9 n945 e2, fun _ _ _ _ _ _ _ e0 e1 e2 e3 e4 e5 e6 => no9 n945 e2, fun _ _ _ _ _ _ _ _ _ e0 e1 e2 e3 e4 e5 e6 e7 e8 => no9 n945 e2, h_rr⟩, k_t, k_n, k_j⟩
def wu_Ms : Ru := ([(7, (0, (0, (0, 0)))), (8, (0, (0, (0, 0)))), (0, (940, (0, (0, 0)))), (0, (941, (0, (0, 0)))), (0, (945, (0, (0, 0)))), (0, (946, (0, (0, 0)))), (0, (947, (0, (0, 0)))), (0, (948, (0, (0, 0)))), (0, (949, (0, (0, 0)))), (0, (950, (0, (0, 0)))), (19, (203, (4, (20, 8)))), (4, (0, (0, (1, 0))))], ([951, 942, 952, 880, 881, 882, 883, 884, 885, 886, 887, 888, 889, 890, 891, 892, 893, 894, 895, 896, 897, 898, 899, 905, 906, 907, 920, 921, 922, 923, 924, 925, 926, 927, 928, 929], ([([(0, 1), (6, (-20)), (8, (-1))], 0), ([(0, (-1)), (6, 20), (8, 1)], 0), ([(1, 1), (10, (-1))], 0), ([(1, (-1)), (10, 1)], 0), ([(8, (-1))], 0), ([(8, 1)], 19)], (false, ([], ([], ([(951, some (11, 0))], none)))))))
theorem wk_Ms : WrOk SGd 203 wu_Ms := by
  intro τ m g j x hi hc ha hS
  obtain ⟨i0, i1, i2, i3, i4, i5, i6, i7, i8, i9, i10, i11, _⟩ := hi
  have xp9 : g 0 = (j : Int) := i0
  have xv : g 1 = x := i1
  have t940 : τ 940 = some (g 2) := i2
  have t941 : τ 941 = some (g 3) := i3
  have t945 : τ 945 = some (g 4) := i4
  have t946 : τ 946 = some (g 5) := i5
  have t947 : τ 947 = some (g 6) := i6
  have t948 : τ 948 = some (g 7) := i7
  have t949 : τ 949 = some (g 8) := i8
  have t950 : τ 950 = some (g 9) := i9
  obtain ⟨jy, uy, vy⟩ : ∃ j : Nat, 20 * g 4 + g 8 = (j : Int) ∧ g 10 = m 203 j := i10
  have xone : g 11 = 1 := i11
  obtain ⟨c0, c1, c2, c3, c4, c5, _⟩ := hc
  have c0 : 1 * g 0 + (-20) * g 6 + (-1) * g 8 ≤ 0 := d3 c0
  have c1 : (-1) * g 0 + 20 * g 6 + 1 * g 8 ≤ 0 := d3 c1
  have c2 : 1 * g 1 + (-1) * g 10 ≤ 0 := d2 c2
  have c3 : (-1) * g 1 + 1 * g 10 ≤ 0 := d2 c3
  have c4 : (-1) * g 8 ≤ 0 := d1 c4
  have c5 : 1 * g 8 ≤ 19 := d1 c5
  obtain ⟨a0, a1, a2, a3, a4, a5, a6, a7, a8, a9, a10, a11, a12, a13, a14, a15, a16, a17, a18, a19, a20, a21, a22, a23, a24, a25, a26, a27, a28, a29, a30, a31, a32, a33, a34, a35, _⟩ := ha
  have n951 : τ 951 = none := a0
  have n942 : τ 942 = none := a1
  have n952 : τ 952 = none := a2
  have n880 : τ 880 = none := a3
  have n881 : τ 881 = none := a4
  have n882 : τ 882 = none := a5
  have n883 : τ 883 = none := a6
  have n884 : τ 884 = none := a7
  have n885 : τ 885 = none := a8
  have n886 : τ 886 = none := a9
  have n887 : τ 887 = none := a10
  have n888 : τ 888 = none := a11
  have n889 : τ 889 = none := a12
  have n890 : τ 890 = none := a13
  have n891 : τ 891 = none := a14
  have n892 : τ 892 = none := a15
  have n893 : τ 893 = none := a16
  have n894 : τ 894 = none := a17
  have n895 : τ 895 = none := a18
  have n896 : τ 896 = none := a19
  have n897 : τ 897 = none := a20
  have n898 : τ 898 = none := a21
  have n899 : τ 899 = none := a22
  have n905 : τ 905 = none := a23
  have n906 : τ 906 = none := a24
  have n907 : τ 907 = none := a25
  have n920 : τ 920 = none := a26
  have n921 : τ 921 = none := a27
  have n922 : τ 922 = none := a28
  have n923 : τ 923 = none := a29
  have n924 : τ 924 = none := a30
  have n925 : τ 925 = none := a31
  have n926 : τ 926 = none := a32
  have n927 : τ 927 = none := a33
  have n928 : τ 928 = none := a34
  have n929 : τ 929 = none := a35
  obtain ⟨⟨h_p1, h_p2, h_td⟩, k_b, k_q, k_c, k_d, k_l, k_k, k_e, k_t, k_n, k_j⟩ := hS
  have k_e0 := k_e
  obtain ⟨h_en, h_ef, h_ew, h_er, h_ep, h_ez, h_es, h_ed, h_pw, h_pv, h_eb, h_ei, h_ek, h_rr⟩ := k_e0
  have qS : eGS m (wrM m 203 j x) := ⟨fun _ => rfl, fun _ => rfl, fun _ => rfl⟩
  have qB : eGB m (wrM m 203 j x) := ⟨⟨rfl, rfl⟩, fun _ => rfl, fun _ => rfl, fun r i hr => wr_row (by omega)⟩
  have qL : eGL m (wrM m 203 j x) := fun _ => rfl
  have qK : eGK m (wrM m 203 j x) := ⟨fun _ => rfl, rfl⟩
  have qP : eGP m (wrM m 203 j x) := rfl
  have qC : eGC m (wrM m 203 j x) := fun _ => rfl
  have k_q := e_q qS qP k_q
  have k_c := e_c qS qB k_c
  have k_d := e_d qS k_d
  have k_l := e_l qS qL k_l
  have k_k := e_k qS qK k_k
  have k_t := e_t qK qP k_t
  have k_n := e_n qS k_n
  have k_j := e_j qS qC k_j
  exact ⟨⟨h_p1, h_p2, h_td⟩, k_b, k_q, k_c, k_d, k_l, k_k, ⟨h_en, fun _ _ _ _ e0 e1 e2 e3 => no9 n942 e2, fun _ _ _ e0 e1 e2 => no9 n942 e1, (fun N9 s r j e0 e1 e2 e3 => by
      have e0 : g 2 = N9 := Option.some.inj (t940.symm.trans e0)
      subst e0
      have e1 : g 3 = s := Option.some.inj (t941.symm.trans e1)
      subst e1
      have e2 : g 4 = r := Option.some.inj (t945.symm.trans e2)
      subst e2
      have e3 : g 5 = j := Option.some.inj (t946.symm.trans e3)
      subst e3
      exact ⟨(h_er _ _ _ _ t940 t941 t945 t946).1, fun e8 _ => no9 e8 t949⟩), (fun N9 s r j p e0 e1 e2 e3 e4 => by
      have e0 : g 2 = N9 := Option.some.inj (t940.symm.trans e0)
      subst e0
      have e1 : g 3 = s := Option.some.inj (t941.symm.trans e1)
      subst e1
      have e2 : g 4 = r := Option.some.inj (t945.symm.trans e2)
      subst e2
      have e3 : g 5 = j := Option.some.inj (t946.symm.trans e3)
      subst e3
      have e4 : g 6 = p := Option.some.inj (t947.symm.trans e4)
      subst e4
      exact ⟨(h_ep _ _ _ _ _ t940 t941 t945 t946 t947).1, fun e8 => no9 e8 t949⟩), (fun N9 s r j p z9 e0 e1 e2 e3 e4 e5 => by
      have e0 : g 2 = N9 := Option.some.inj (t940.symm.trans e0)
      subst e0
      have e1 : g 3 = s := Option.some.inj (t941.symm.trans e1)
      subst e1
      have e2 : g 4 = r := Option.some.inj (t945.symm.trans e2)
      subst e2
      have e3 : g 5 = j := Option.some.inj (t946.symm.trans e3)
      subst e3
      have e4 : g 6 = p := Option.some.inj (t947.symm.trans e4)
      subst e4
      have e5 : g 7 = z9 := Option.some.inj (t948.symm.trans e5)
      subst e5
      have h1 := h_ez _ _ _ _ _ _ t940 t941 t945 t946 t947 t948
      exact ⟨h1.1, h1.2.1, fun e8 => no9 e8 t949⟩), (fun N9 s r j p z9 k e0 e1 e2 e3 e4 e5 e6 => by
      have e0 : g 2 = N9 := Option.some.inj (t940.symm.trans e0)
      subst e0
      have e1 : g 3 = s := Option.some.inj (t941.symm.trans e1)
      subst e1
      have e2 : g 4 = r := Option.some.inj (t945.symm.trans e2)
      subst e2
      have e3 : g 5 = j := Option.some.inj (t946.symm.trans e3)
      subst e3
      have e4 : g 6 = p := Option.some.inj (t947.symm.trans e4)
      subst e4
      have e5 : g 7 = z9 := Option.some.inj (t948.symm.trans e5)
      subst e5
      have e6 : g 8 = k := Option.some.inj (t949.symm.trans e6)
      subst e6
      have h1 := h_es _ _ _ _ _ _ _ t940 t941 t945 t946 t947 t948 t949
      have h9 := h_er _ _ _ _ t940 t941 t945 t946
      have h8 := h_ep _ _ _ _ _ t940 t941 t945 t946 t947
      show _ ∧ SwG (wrM m 203 j x) (τ 950) (some (g 11 + 0)) _ _ _ _ _ _
      rcases h1.2 with ⟨_, ⟨M0, s1, s2, s3⟩, s4⟩ | ⟨s0, _⟩
      · have hk : ∀ i, MmG m i (g 8).toNat = M0 i (g 8).toNat := fun i => by rw [s3 i (g 8).toNat, if_neg (by rintro (q | ⟨q, _⟩); omega; cases q)]
        refine ⟨h1.1, Or.inr ⟨fun q => (by cases q), by omega, M0, ⟨by rw [fmG_e qK]; exact s1, s2⟩, fun i c => ?_, fun v9 e9 => ?_⟩⟩
        · rw [MmG_w]
          by_cases e : 20 * i + c = j ∧ c < 20
          · have ei : i = (g 6).toNat := by omega
            have ec : c = (g 8).toNat := by omega
            rw [if_pos e, if_pos (Or.inr ⟨ec, ei⟩), ei, ec]
            unfold swG
            rw [if_pos rfl, ← hk]
            have hM : MmG m (g 4).toNat (g 8).toNat = m 203 (20 * (g 4).toNat + (g 8).toNat) := by unfold MmG; rw [if_pos (by omega)]
            rw [hM, show 20 * (g 4).toNat + (g 8).toNat = jy by omega, ← vy]; omega
          · rw [if_neg e, s3 i c]
            by_cases q : c < (g 8).toNat
            · rw [if_pos (Or.inl q), if_pos (Or.inl q)]
            · rw [if_neg (by rintro (z | ⟨z, _⟩); exact q z; cases z), if_neg (by rintro (z | ⟨z1, z2⟩); exact q z; exact e ⟨by omega, by omega⟩)]
        · rw [(s4 v9 e9).2, hk]
      · rw [n951] at s0; exact absurd rfl s0), fun _ _ _ _ _ e0 e1 e2 e3 e4 => no9 n952 e4, h_pw, h_pv, fun _ _ _ _ _ _ e0 e1 e2 e3 e4 e5 => no9 n952 e4, fun _ _ _ _ _ _ _ e0 e1 e2 e3 e4 e5 e6 => no9 n952 e4, fun _ _ _ _ _ _ _ _ _ e0 e1 e2 e3 e4 e5 e6 e7 e8 => no9 n952 e4, h_rr⟩, k_t, k_n, k_j⟩
def wu_Mt : Ru := ([(7, (0, (0, (0, 0)))), (8, (0, (0, (0, 0)))), (0, (940, (0, (0, 0)))), (0, (941, (0, (0, 0)))), (0, (945, (0, (0, 0)))), (0, (946, (0, (0, 0)))), (0, (947, (0, (0, 0)))), (0, (948, (0, (0, 0)))), (0, (949, (0, (0, 0)))), (0, (950, (0, (0, 0)))), (0, (951, (0, (0, 0))))], ([942, 952, 880, 881, 882, 883, 884, 885, 886, 887, 888, 889, 890, 891, 892, 893, 894, 895, 896, 897, 898, 899, 905, 906, 907, 920, 921, 922, 923, 924, 925, 926, 927, 928, 929], ([([(0, 1), (4, (-20)), (8, (-1))], 0), ([(0, (-1)), (4, 20), (8, 1)], 0), ([(1, 1), (9, (-1))], 0), ([(1, (-1)), (9, 1)], 0), ([(8, (-1))], 0), ([(8, 1)], 19)], (false, ([], ([], ([(949, some (8, 1)), (950, none), (951, none)], none)))))))
theorem wk_Mt : WrOk SGd 203 wu_Mt := by
  intro τ m g j x hi hc ha hS
  obtain ⟨i0, i1, i2, i3, i4, i5, i6, i7, i8, i9, i10, _⟩ := hi
  have xp9 : g 0 = (j : Int) := i0
  have xv : g 1 = x := i1
  have t940 : τ 940 = some (g 2) := i2
  have t941 : τ 941 = some (g 3) := i3
  have t945 : τ 945 = some (g 4) := i4
  have t946 : τ 946 = some (g 5) := i5
  have t947 : τ 947 = some (g 6) := i6
  have t948 : τ 948 = some (g 7) := i7
  have t949 : τ 949 = some (g 8) := i8
  have t950 : τ 950 = some (g 9) := i9
  have t951 : τ 951 = some (g 10) := i10
  obtain ⟨c0, c1, c2, c3, c4, c5, _⟩ := hc
  have c0 : 1 * g 0 + (-20) * g 4 + (-1) * g 8 ≤ 0 := d3 c0
  have c1 : (-1) * g 0 + 20 * g 4 + 1 * g 8 ≤ 0 := d3 c1
  have c2 : 1 * g 1 + (-1) * g 9 ≤ 0 := d2 c2
  have c3 : (-1) * g 1 + 1 * g 9 ≤ 0 := d2 c3
  have c4 : (-1) * g 8 ≤ 0 := d1 c4
  have c5 : 1 * g 8 ≤ 19 := d1 c5
  obtain ⟨a0, a1, a2, a3, a4, a5, a6, a7, a8, a9, a10, a11, a12, a13, a14, a15, a16, a17, a18, a19, a20, a21, a22, a23, a24, a25, a26, a27, a28, a29, a30, a31, a32, a33, a34, _⟩ := ha
  have n942 : τ 942 = none := a0
  have n952 : τ 952 = none := a1
  have n880 : τ 880 = none := a2
  have n881 : τ 881 = none := a3
  have n882 : τ 882 = none := a4
  have n883 : τ 883 = none := a5
  have n884 : τ 884 = none := a6
  have n885 : τ 885 = none := a7
  have n886 : τ 886 = none := a8
  have n887 : τ 887 = none := a9
  have n888 : τ 888 = none := a10
  have n889 : τ 889 = none := a11
  have n890 : τ 890 = none := a12
  have n891 : τ 891 = none := a13
  have n892 : τ 892 = none := a14
  have n893 : τ 893 = none := a15
  have n894 : τ 894 = none := a16
  have n895 : τ 895 = none := a17
  have n896 : τ 896 = none := a18
  have n897 : τ 897 = none := a19
  have n898 : τ 898 = none := a20
  have n899 : τ 899 = none := a21
  have n905 : τ 905 = none := a22
  have n906 : τ 906 = none := a23
  have n907 : τ 907 = none := a24
  have n920 : τ 920 = none := a25
  have n921 : τ 921 = none := a26
  have n922 : τ 922 = none := a27
  have n923 : τ 923 = none := a28
  have n924 : τ 924 = none := a29
  have n925 : τ 925 = none := a30
  have n926 : τ 926 = none := a31
  have n927 : τ 927 = none := a32
  have n928 : τ 928 = none := a33
  have n929 : τ 929 = none := a34
  obtain ⟨⟨h_p1, h_p2, h_td⟩, k_b, k_q, k_c, k_d, k_l, k_k, k_e, k_t, k_n, k_j⟩ := hS
  have k_e0 := k_e
  obtain ⟨h_en, h_ef, h_ew, h_er, h_ep, h_ez, h_es, h_ed, h_pw, h_pv, h_eb, h_ei, h_ek, h_rr⟩ := k_e0
  have qS : eGS m (wrM m 203 j x) := ⟨fun _ => rfl, fun _ => rfl, fun _ => rfl⟩
  have qB : eGB m (wrM m 203 j x) := ⟨⟨rfl, rfl⟩, fun _ => rfl, fun _ => rfl, fun r i hr => wr_row (by omega)⟩
  have qL : eGL m (wrM m 203 j x) := fun _ => rfl
  have qK : eGK m (wrM m 203 j x) := ⟨fun _ => rfl, rfl⟩
  have qP : eGP m (wrM m 203 j x) := rfl
  have qC : eGC m (wrM m 203 j x) := fun _ => rfl
  have k_q := e_q qS qP k_q
  have k_c := e_c qS qB k_c
  have k_d := e_d qS k_d
  have k_l := e_l qS qL k_l
  have k_k := e_k qS qK k_k
  have k_t := e_t qK qP k_t
  have k_n := e_n qS k_n
  have k_j := e_j qS qC k_j
  exact ⟨⟨h_p1, h_p2, h_td⟩, k_b, k_q, k_c, k_d, k_l, k_k, ⟨h_en, fun _ _ _ _ e0 e1 e2 e3 => no9 n942 e2, fun _ _ _ e0 e1 e2 => no9 n942 e1, (fun N9 s r j e0 e1 e2 e3 => by
      have e0 : g 2 = N9 := Option.some.inj (t940.symm.trans e0)
      subst e0
      have e1 : g 3 = s := Option.some.inj (t941.symm.trans e1)
      subst e1
      have e2 : g 4 = r := Option.some.inj (t945.symm.trans e2)
      subst e2
      have e3 : g 5 = j := Option.some.inj (t946.symm.trans e3)
      subst e3
      exact ⟨(h_er _ _ _ _ t940 t941 t945 t946).1, fun e8 _ => no9 e8 rfl⟩), (fun N9 s r j p e0 e1 e2 e3 e4 => by
      have e0 : g 2 = N9 := Option.some.inj (t940.symm.trans e0)
      subst e0
      have e1 : g 3 = s := Option.some.inj (t941.symm.trans e1)
      subst e1
      have e2 : g 4 = r := Option.some.inj (t945.symm.trans e2)
      subst e2
      have e3 : g 5 = j := Option.some.inj (t946.symm.trans e3)
      subst e3
      have e4 : g 6 = p := Option.some.inj (t947.symm.trans e4)
      subst e4
      exact ⟨(h_ep _ _ _ _ _ t940 t941 t945 t946 t947).1, fun e8 => no9 e8 rfl⟩), (fun N9 s r j p z9 e0 e1 e2 e3 e4 e5 => by
      have e0 : g 2 = N9 := Option.some.inj (t940.symm.trans e0)
      subst e0
      have e1 : g 3 = s := Option.some.inj (t941.symm.trans e1)
      subst e1
      have e2 : g 4 = r := Option.some.inj (t945.symm.trans e2)
      subst e2
      have e3 : g 5 = j := Option.some.inj (t946.symm.trans e3)
      subst e3
      have e4 : g 6 = p := Option.some.inj (t947.symm.trans e4)
      subst e4
      have e5 : g 7 = z9 := Option.some.inj (t948.symm.trans e5)
      subst e5
      have h1 := h_ez _ _ _ _ _ _ t940 t941 t945 t946 t947 t948
      exact ⟨h1.1, h1.2.1, fun e8 => no9 e8 rfl⟩), (fun N9 s r j p z9 k e0 e1 e2 e3 e4 e5 e6 => by
      have e0 : g 2 = N9 := Option.some.inj (t940.symm.trans e0)
      subst e0
      have e1 : g 3 = s := Option.some.inj (t941.symm.trans e1)
      subst e1
      have e2 : g 4 = r := Option.some.inj (t945.symm.trans e2)
      subst e2
      have e3 : g 5 = j := Option.some.inj (t946.symm.trans e3)
      subst e3
      have e4 : g 6 = p := Option.some.inj (t947.symm.trans e4)
      subst e4
      have e5 : g 7 = z9 := Option.some.inj (t948.symm.trans e5)
      subst e5
      have e6 : g 8 + 1 = k := Option.some.inj e6
      subst e6
      have h1 := h_es _ _ _ _ _ _ _ t940 t941 t945 t946 t947 t948 t949
      have h9 := h_er _ _ _ _ t940 t941 t945 t946
      have h8 := h_ep _ _ _ _ _ t940 t941 t945 t946 t947
      show _ ∧ SwG (wrM m 203 j x) none none _ _ _ _ _ _
      rcases h1.2 with ⟨s0, _⟩ | ⟨_, s5, M0, ⟨s1, s2⟩, s3, s4⟩
      · rw [t951] at s0; cases s0
      · have hv := s4 _ t950
        refine ⟨by omega, Or.inl ⟨rfl, ⟨M0, by rw [fmG_e qK]; exact s1, s2, fun i c => ?_⟩, fun v9 e9 => no9 rfl e9⟩⟩
        rw [MmG_w]
        by_cases e : 20 * i + c = j ∧ c < 20
        · have ei : i = (g 4).toNat := by omega
          have ec : c = (g 8).toNat := by omega
          rw [if_pos e, if_pos (Or.inl (by omega)), ei, ec]
          unfold swG
          by_cases q : (g 4).toNat = (g 6).toNat
          · rw [if_pos q, q]; omega
          · rw [if_neg q, if_pos rfl]; omega
        · rw [if_neg e, s3 i c]
          by_cases q : c < (g 8).toNat
          · rw [if_pos (Or.inl q), if_pos (Or.inl (by omega))]
          · by_cases q2 : c = (g 8).toNat
            · rw [if_pos (show c < (g 8 + 1).toNat ∨ (false = true ∧ c = (g 8 + 1).toNat ∧ i = (g 6).toNat) from Or.inl (by omega))]
              by_cases q3 : i = (g 6).toNat
              · rw [if_pos (Or.inr ⟨q2, q3⟩)]
              · rw [if_neg (by rintro (z | ⟨_, z⟩); exact q z; exact q3 z)]
                unfold swG
                rw [if_neg q3, if_neg (fun z => e ⟨by omega, by omega⟩)]
            · rw [if_neg (by rintro (z | ⟨z, _⟩); exact q z; exact q2 z), if_neg (by rintro (z | ⟨z, _⟩); omega; cases z)]), fun _ _ _ _ _ e0 e1 e2 e3 e4 => no9 n952 e4, h_pw, h_pv, fun _ _ _ _ _ _ e0 e1 e2 e3 e4 e5 => no9 n952 e4, fun _ _ _ _ _ _ _ e0 e1 e2 e3 e4 e5 e6 => no9 n952 e4, fun _ _ _ _ _ _ _ _ _ e0 e1 e2 e3 e4 e5 e6 e7 e8 => no9 n952 e4, h_rr⟩, k_t, k_n, k_j⟩
def wu_Me : Ru := ([(7, (0, (0, (0, 0)))), (8, (0, (0, (0, 0)))), (0, (940, (0, (0, 0)))), (0, (941, (0, (0, 0)))), (0, (945, (0, (0, 0)))), (0, (946, (0, (0, 0)))), (0, (952, (0, (0, 0)))), (0, (959, (0, (0, 0)))), (0, (960, (0, (0, 0)))), (0, (961, (0, (0, 0)))), (0, (962, (0, (0, 0)))), (0, (853, (0, (0, 0)))), (0, (854, (0, (0, 0)))), (0, (855, (0, (0, 0)))), (0, (859, (0, (0, 0)))), (0, (860, (0, (0, 0)))), (0, (861, (0, (0, 0)))), (19, (203, (8, (20, 10)))), (19, (203, (4, (20, 10))))], ([942, 947, 880, 881, 882, 883, 884, 885, 886, 887, 888, 889, 890, 891, 892, 893, 894, 895, 896, 897, 898, 899, 905, 906, 907, 920, 921, 922, 923, 924, 925, 926, 927, 928, 929], ([([(0, 1), (8, (-20)), (10, (-1))], 0), ([(0, (-1)), (8, 20), (10, 1)], 0), ([(9, 1), (11, 1)], 2147483647), ([(9, (-1)), (11, (-1))], (-2147483647)), ([(12, 1), (18, (-1))], 0), ([(12, (-1)), (18, 1)], 0), ([(13, (-1)), (14, 1), (17, (-1))], 0), ([(13, 1), (14, (-1)), (17, 1)], 0), ([(15, 1)], 2147483647), ([(15, (-1))], (-2147483647)), ([(1, 1), (16, (-1))], 0), ([(1, (-1)), (16, 1)], 0), ([(10, (-1))], 0), ([(10, 1)], 19), ([(2, (-1)), (8, 1)], (-1))], (false, ([], ([], ([(962, some (10, 1)), (853, none), (854, none), (855, none), (859, none), (860, none), (861, none)], none)))))))
theorem wk_Me : WrOk SGd 203 wu_Me := by
  intro τ m g j x hi hc ha hS
  obtain ⟨i0, i1, i2, i3, i4, i5, i6, i7, i8, i9, i10, i11, i12, i13, i14, i15, i16, i17, i18, _⟩ := hi
  have xp : g 0 = (j : Int) := i0
  have xv : g 1 = x := i1
  have t940 : τ 940 = some (g 2) := i2
  have t941 : τ 941 = some (g 3) := i3
  have t945 : τ 945 = some (g 4) := i4
  have t946 : τ 946 = some (g 5) := i5
  have t952 : τ 952 = some (g 6) := i6
  have t959 : τ 959 = some (g 7) := i7
  have t960 : τ 960 = some (g 8) := i8
  have t961 : τ 961 = some (g 9) := i9
  have t962 : τ 962 = some (g 10) := i10
  have t853 : τ 853 = some (g 11) := i11
  have t854 : τ 854 = some (g 12) := i12
  have t855 : τ 855 = some (g 13) := i13
  have t859 : τ 859 = some (g 14) := i14
  have t860 : τ 860 = some (g 15) := i15
  have t861 : τ 861 = some (g 16) := i16
  obtain ⟨jy, uy, vy⟩ : ∃ j : Nat, 20 * g 8 + g 10 = (j : Int) ∧ g 17 = m 203 j := i17
  obtain ⟨jz, uz, vz⟩ : ∃ j : Nat, 20 * g 4 + g 10 = (j : Int) ∧ g 18 = m 203 j := i18
  obtain ⟨c0, c1, c2, c3, c4, c5, c6, c7, c8, c9, c10, c11, c12, c13, c14, _⟩ := hc
  have c0 : 1 * g 0 + (-20) * g 8 + (-1) * g 10 ≤ 0 := d3 c0
  have c1 : (-1) * g 0 + 20 * g 8 + 1 * g 10 ≤ 0 := d3 c1
  have c2 : 1 * g 9 + 1 * g 11 ≤ 2147483647 := d2 c2
  have c3 : (-1) * g 9 + (-1) * g 11 ≤ (-2147483647) := d2 c3
  have c4 : 1 * g 12 + (-1) * g 18 ≤ 0 := d2 c4
  have c5 : (-1) * g 12 + 1 * g 18 ≤ 0 := d2 c5
  have c6 : (-1) * g 13 + 1 * g 14 + (-1) * g 17 ≤ 0 := d3 c6
  have c7 : 1 * g 13 + (-1) * g 14 + 1 * g 17 ≤ 0 := d3 c7
  have c8 : 1 * g 15 ≤ 2147483647 := d1 c8
  have c9 : (-1) * g 15 ≤ (-2147483647) := d1 c9
  have c10 : 1 * g 1 + (-1) * g 16 ≤ 0 := d2 c10
  have c11 : (-1) * g 1 + 1 * g 16 ≤ 0 := d2 c11
  have c12 : (-1) * g 10 ≤ 0 := d1 c12
  have c13 : 1 * g 10 ≤ 19 := d1 c13
  have c14 : (-1) * g 2 + 1 * g 8 ≤ (-1) := d2 c14
  obtain ⟨a0, a1, a2, a3, a4, a5, a6, a7, a8, a9, a10, a11, a12, a13, a14, a15, a16, a17, a18, a19, a20, a21, a22, a23, a24, a25, a26, a27, a28, a29, a30, a31, a32, a33, a34, _⟩ := ha
  have n942 : τ 942 = none := a0
  have n947 : τ 947 = none := a1
  have n880 : τ 880 = none := a2
  have n881 : τ 881 = none := a3
  have n882 : τ 882 = none := a4
  have n883 : τ 883 = none := a5
  have n884 : τ 884 = none := a6
  have n885 : τ 885 = none := a7
  have n886 : τ 886 = none := a8
  have n887 : τ 887 = none := a9
  have n888 : τ 888 = none := a10
  have n889 : τ 889 = none := a11
  have n890 : τ 890 = none := a12
  have n891 : τ 891 = none := a13
  have n892 : τ 892 = none := a14
  have n893 : τ 893 = none := a15
  have n894 : τ 894 = none := a16
  have n895 : τ 895 = none := a17
  have n896 : τ 896 = none := a18
  have n897 : τ 897 = none := a19
  have n898 : τ 898 = none := a20
  have n899 : τ 899 = none := a21
  have n905 : τ 905 = none := a22
  have n906 : τ 906 = none := a23
  have n907 : τ 907 = none := a24
  have n920 : τ 920 = none := a25
  have n921 : τ 921 = none := a26
  have n922 : τ 922 = none := a27
  have n923 : τ 923 = none := a28
  have n924 : τ 924 = none := a29
  have n925 : τ 925 = none := a30
  have n926 : τ 926 = none := a31
  have n927 : τ 927 = none := a32
  have n928 : τ 928 = none := a33
  have n929 : τ 929 = none := a34
  obtain ⟨⟨h_p1, h_p2, h_td⟩, k_b, k_q, k_c, k_d, k_l, k_k, k_e, k_t, k_n, k_j⟩ := hS
  have k_e0 := k_e
  obtain ⟨h_en, h_ef, h_ew, h_er, h_ep, h_ez, h_es, h_ed, h_pw, h_pv, h_eb, h_ei, h_ek, h_rr⟩ := k_e0
  have k_b0 := k_b
  obtain ⟨h_bit, h_one, h_or, h_and, h_shr, h_m1, h_m2, h_dv, h_r1, h_r2, h_nz⟩ := k_b0
  have qS : eGS m (wrM m 203 j x) := ⟨fun _ => rfl, fun _ => rfl, fun _ => rfl⟩
  have qB : eGB m (wrM m 203 j x) := ⟨⟨rfl, rfl⟩, fun _ => rfl, fun _ => rfl, fun r i hr => wr_row (by omega)⟩
  have qL : eGL m (wrM m 203 j x) := fun _ => rfl
  have qK : eGK m (wrM m 203 j x) := ⟨fun _ => rfl, rfl⟩
  have qP : eGP m (wrM m 203 j x) := rfl
  have qC : eGC m (wrM m 203 j x) := fun _ => rfl
  have k_q := e_q qS qP k_q
  have k_c := e_c qS qB k_c
  have k_d := e_d qS k_d
  have k_l := e_l qS qL k_l
  have k_k := e_k qS qK k_k
  have k_t := e_t qK qP k_t
  have k_n := e_n qS k_n
  have k_j := e_j qS qC k_j
  exact ⟨⟨h_p1, h_p2, h_td⟩, ⟨h_bit, h_one, h_or, h_and, h_shr, h_m1, fun _ _ _ e0 e1 e2 => no9 (o := none) rfl e0, h_dv, fun _ _ _ e0 e1 e2 => no9 (o := none) rfl e0, h_r2, h_nz⟩, k_q, k_c, k_d, k_l, k_k, ⟨h_en, fun _ _ _ _ e0 e1 e2 e3 => no9 n942 e2, fun _ _ _ e0 e1 e2 => no9 n942 e1, (fun N9 s r j e0 e1 e2 e3 => by
      have e0 : g 2 = N9 := Option.some.inj (t940.symm.trans e0)
      subst e0
      have e1 : g 3 = s := Option.some.inj (t941.symm.trans e1)
      subst e1
      have e2 : g 4 = r := Option.some.inj (t945.symm.trans e2)
      subst e2
      have e3 : g 5 = j := Option.some.inj (t946.symm.trans e3)
      subst e3
      exact ⟨(h_er _ _ _ _ t940 t941 t945 t946).1, fun _ e8 => no9 e8 t961⟩), fun _ _ _ _ _ e0 e1 e2 e3 e4 => no9 n947 e4, fun _ _ _ _ _ _ e0 e1 e2 e3 e4 e5 => no9 n947 e4, fun _ _ _ _ _ _ _ e0 e1 e2 e3 e4 e5 e6 => no9 n947 e4, (fun N9 s r j d9 e0 e1 e2 e3 e4 => by
      have e0 : g 2 = N9 := Option.some.inj (t940.symm.trans e0)
      subst e0
      have e1 : g 3 = s := Option.some.inj (t941.symm.trans e1)
      subst e1
      have e2 : g 4 = r := Option.some.inj (t945.symm.trans e2)
      subst e2
      have e3 : g 5 = j := Option.some.inj (t946.symm.trans e3)
      subst e3
      have e4 : g 6 = d9 := Option.some.inj (t952.symm.trans e4)
      subst e4
      exact ⟨(h_ed _ _ _ _ _ t940 t941 t945 t946 t952).1, fun e8 => no9 e8 t961⟩), h_pw, h_pv, (fun N9 s r j d9 B e0 e1 e2 e3 e4 e5 => by
      have e0 : g 2 = N9 := Option.some.inj (t940.symm.trans e0)
      subst e0
      have e1 : g 3 = s := Option.some.inj (t941.symm.trans e1)
      subst e1
      have e2 : g 4 = r := Option.some.inj (t945.symm.trans e2)
      subst e2
      have e3 : g 5 = j := Option.some.inj (t946.symm.trans e3)
      subst e3
      have e4 : g 6 = d9 := Option.some.inj (t952.symm.trans e4)
      subst e4
      have e5 : g 7 = B := Option.some.inj (t959.symm.trans e5)
      subst e5
      exact ⟨(h_eb _ _ _ _ _ _ t940 t941 t945 t946 t952 t959).1, fun e8 => no9 e8 t961⟩), (fun N9 s r j d9 B i e0 e1 e2 e3 e4 e5 e6 => by
      have e0 : g 2 = N9 := Option.some.inj (t940.symm.trans e0)
      subst e0
      have e1 : g 3 = s := Option.some.inj (t941.symm.trans e1)
      subst e1
      have e2 : g 4 = r := Option.some.inj (t945.symm.trans e2)
      subst e2
      have e3 : g 5 = j := Option.some.inj (t946.symm.trans e3)
      subst e3
      have e4 : g 6 = d9 := Option.some.inj (t952.symm.trans e4)
      subst e4
      have e5 : g 7 = B := Option.some.inj (t959.symm.trans e5)
      subst e5
      have e6 : g 8 = i := Option.some.inj (t960.symm.trans e6)
      subst e6
      exact ⟨(h_ei _ _ _ _ _ _ _ t940 t941 t945 t946 t952 t959 t960).1, fun e8 => no9 e8 t961⟩), (fun N9 s r j d9 B i f k e0 e1 e2 e3 e4 e5 e6 e7 e8 => by
      have e0 : g 2 = N9 := Option.some.inj (t940.symm.trans e0)
      subst e0
      have e1 : g 3 = s := Option.some.inj (t941.symm.trans e1)
      subst e1
      have e2 : g 4 = r := Option.some.inj (t945.symm.trans e2)
      subst e2
      have e3 : g 5 = j := Option.some.inj (t946.symm.trans e3)
      subst e3
      have e4 : g 6 = d9 := Option.some.inj (t952.symm.trans e4)
      subst e4
      have e5 : g 7 = B := Option.some.inj (t959.symm.trans e5)
      subst e5
      have e6 : g 8 = i := Option.some.inj (t960.symm.trans e6)
      subst e6
      have e7 : g 9 = f := Option.some.inj (t961.symm.trans e7)
      subst e7
      have e8 : g 10 + 1 = k := Option.some.inj e8
      subst e8
      obtain ⟨⟨hik, hf0, hfl⟩, M0, r1, ⟨r2, r3, r4⟩, r5, r6, r7⟩ := h_ek _ _ _ _ _ _ _ _ _ t940 t941 t945 t946 t952 t959 t960 t961 t962
      have h3 := h_ei _ _ _ _ _ _ _ t940 t941 t945 t946 t952 t959 t960
      have h9 := h_er _ _ _ _ t940 t941 t945 t946
      refine ⟨⟨by omega, hf0, hfl⟩, M0, by rw [fmG_e qK]; exact r1, ⟨r2, r3, r4⟩, r5, fun q c hq => ?_, fun c => ?_⟩
      · rw [MmG_w, if_neg (by omega), r6 q c hq]
      · rw [MmG_w]
        by_cases e : c = (g 10).toNat
        · have hy := r7 (g 10).toNat
          rw [if_neg (by omega)] at hy
          have hz := r6 (g 4).toNat (g 10).toNat (by omega)
          have hMy : MmG m (g 8).toNat (g 10).toNat = g 17 := by unfold MmG; rw [if_pos (by omega), show 20 * (g 8).toNat + (g 10).toNat = jy by omega]; exact vy.symm
          have hMz : MmG m (g 4).toNat (g 10).toNat = g 18 := by unfold MmG; rw [if_pos (by omega), show 20 * (g 4).toNat + (g 10).toNat = jz by omega]; exact vz.symm
          have a1 : g 13 = (pG - g 9) * g 18 := by rw [h_m2 _ _ _ t853 t854 t855, show g 11 = pG - g 9 by simp only [pG]; omega, show g 12 = g 18 by omega]
          have a2 := h_r1 _ _ _ t859 t860 t861
          rw [if_pos ⟨by omega, by omega⟩, if_pos ⟨by omega, by omega⟩, e, ← hy, ← hz, hMy, hMz, ← a1, show x = g 16 by omega, a2, show g 15 = pG by simp only [pG]; omega, show g 14 = g 17 + g 13 by omega]
        · rw [if_neg (by omega), r7 c]
          by_cases q : (g 5).toNat ≤ c ∧ c < (g 10).toNat
          · rw [if_pos q, if_pos (by omega)]
          · rw [if_neg q, if_neg (by omega)]), h_rr⟩, k_t, k_n, k_j⟩
def wu_Kc : Ru := ([(7, (0, (0, (0, 0)))), (8, (0, (0, (0, 0)))), (4, (0, (0, (134, 0)))), (0, (939, (0, (0, 0)))), (0, (913, (0, (0, 0)))), (0, (910, (0, (0, 0)))), (5, (110, (134, (0, 0)))), (4, (0, (0, (1, 0))))], ([914, 915, 940, 941, 942, 943, 944, 945, 946, 947, 948, 949, 950, 951, 952, 953, 954, 955, 956, 957, 958, 959, 960, 961, 962, 963, 964, 965, 966, 967, 968, 969, 970, 971, 972, 973, 974, 880, 881, 882, 883, 884, 885, 886, 887, 888, 889, 890, 891, 892, 893, 894, 895, 896, 897, 898, 899, 905, 906, 907, 920, 921, 922, 923, 924, 925, 926, 927, 928, 929], ([([(0, 1), (2, (-1))], 0), ([(0, (-1)), (2, 1)], 0), ([(1, 1), (6, (-1))], 1), ([(1, (-1)), (6, 1)], (-1)), ([(5, (-1)), (6, 1)], 0)], (false, ([], ([], ([(914, some (7, 0)), (910, none), (913, none)], none)))))))
theorem wk_Kc : WrOk SGd 110 wu_Kc := by
  intro τ m g j x hi hc ha hS
  obtain ⟨i0, i1, i2, i3, i4, i5, i6, i7, _⟩ := hi
  have xp : g 0 = (j : Int) := i0
  have xv : g 1 = x := i1
  have xj : g 2 = 134 := i2
  have t939 : τ 939 = some (g 3) := i3
  have t913 : τ 913 = some (g 4) := i4
  have t910 : τ 910 = some (g 5) := i5
  have xkc : g 6 = m 110 134 := i6
  have xone : g 7 = 1 := i7
  obtain ⟨c0, c1, c2, c3, c4, _⟩ := hc
  have c0 : 1 * g 0 + (-1) * g 2 ≤ 0 := d2 c0
  have c1 : (-1) * g 0 + 1 * g 2 ≤ 0 := d2 c1
  have c2 : 1 * g 1 + (-1) * g 6 ≤ 1 := d2 c2
  have c3 : (-1) * g 1 + 1 * g 6 ≤ (-1) := d2 c3
  have c4 : (-1) * g 5 + 1 * g 6 ≤ 0 := d2 c4
  obtain ⟨a0, a1, a2, a3, a4, a5, a6, a7, a8, a9, a10, a11, a12, a13, a14, a15, a16, a17, a18, a19, a20, a21, a22, a23, a24, a25, a26, a27, a28, a29, a30, a31, a32, a33, a34, a35, a36, a37, a38, a39, a40, a41, a42, a43, a44, a45, a46, a47, a48, a49, a50, a51, a52, a53, a54, a55, a56, a57, a58, a59, a60, a61, a62, a63, a64, a65, a66, a67, a68, a69, _⟩ := ha
  have n914 : τ 914 = none := a0
  have n915 : τ 915 = none := a1
  have n940 : τ 940 = none := a2
  have n941 : τ 941 = none := a3
  have n942 : τ 942 = none := a4
  have n943 : τ 943 = none := a5
  have n944 : τ 944 = none := a6
  have n945 : τ 945 = none := a7
  have n946 : τ 946 = none := a8
  have n947 : τ 947 = none := a9
  have n948 : τ 948 = none := a10
  have n949 : τ 949 = none := a11
  have n950 : τ 950 = none := a12
  have n951 : τ 951 = none := a13
  have n952 : τ 952 = none := a14
  have n953 : τ 953 = none := a15
  have n954 : τ 954 = none := a16
  have n955 : τ 955 = none := a17
  have n956 : τ 956 = none := a18
  have n957 : τ 957 = none := a19
  have n958 : τ 958 = none := a20
  have n959 : τ 959 = none := a21
  have n960 : τ 960 = none := a22
  have n961 : τ 961 = none := a23
  have n962 : τ 962 = none := a24
  have n963 : τ 963 = none := a25
  have n964 : τ 964 = none := a26
  have n965 : τ 965 = none := a27
  have n966 : τ 966 = none := a28
  have n967 : τ 967 = none := a29
  have n968 : τ 968 = none := a30
  have n969 : τ 969 = none := a31
  have n970 : τ 970 = none := a32
  have n971 : τ 971 = none := a33
  have n972 : τ 972 = none := a34
  have n973 : τ 973 = none := a35
  have n974 : τ 974 = none := a36
  have n880 : τ 880 = none := a37
  have n881 : τ 881 = none := a38
  have n882 : τ 882 = none := a39
  have n883 : τ 883 = none := a40
  have n884 : τ 884 = none := a41
  have n885 : τ 885 = none := a42
  have n886 : τ 886 = none := a43
  have n887 : τ 887 = none := a44
  have n888 : τ 888 = none := a45
  have n889 : τ 889 = none := a46
  have n890 : τ 890 = none := a47
  have n891 : τ 891 = none := a48
  have n892 : τ 892 = none := a49
  have n893 : τ 893 = none := a50
  have n894 : τ 894 = none := a51
  have n895 : τ 895 = none := a52
  have n896 : τ 896 = none := a53
  have n897 : τ 897 = none := a54
  have n898 : τ 898 = none := a55
  have n899 : τ 899 = none := a56
  have n905 : τ 905 = none := a57
  have n906 : τ 906 = none := a58
  have n907 : τ 907 = none := a59
  have n920 : τ 920 = none := a60
  have n921 : τ 921 = none := a61
  have n922 : τ 922 = none := a62
  have n923 : τ 923 = none := a63
  have n924 : τ 924 = none := a64
  have n925 : τ 925 = none := a65
  have n926 : τ 926 = none := a66
  have n927 : τ 927 = none := a67
  have n928 : τ 928 = none := a68
  have n929 : τ 929 = none := a69
  obtain ⟨⟨h_p1, h_p2, h_td⟩, k_b, k_q, k_c, k_d, k_l, k_k, k_e, k_t, k_n, k_j⟩ := hS
  have k_k0 := k_k
  obtain ⟨h_k0, h_ks, h_kk, h_kl, h_kw, h_kd, h_kz⟩ := k_k0
  have k_e0 := k_e
  obtain ⟨h_en, h_ef, h_ew, h_er, h_ep, h_ez, h_es, h_ed, h_pw, h_pv, h_eb, h_ei, h_ek, h_rr⟩ := k_e0
  have k_t0 := k_t
  obtain ⟨h_t0, h_tj, h_tw, h_tt⟩ := k_t0
  have ew : wrM m 110 j x 110 134 = x := by rw [show j = 134 by omega, wr_at]
  have qS : eGS m (wrM m 110 j x) := ⟨fun _ => rfl, fun _ => rfl, fun _ => rfl⟩
  have qB : eGB m (wrM m 110 j x) := ⟨⟨rfl, rfl⟩, fun _ => rfl, fun _ => rfl, fun r i hr => wr_row (by omega)⟩
  have qL : eGL m (wrM m 110 j x) := fun _ => rfl
  have qM : eGM m (wrM m 110 j x) := fun _ => rfl
  have qP : eGP m (wrM m 110 j x) := wr_ne (by omega)
  have qC : eGC m (wrM m 110 j x) := fun _ => rfl
  have k_q := e_q qS qP k_q
  have k_c := e_c qS qB k_c
  have k_d := e_d qS k_d
  have k_l := e_l qS qL k_l
  have k_n := e_n qS k_n
  have k_j := e_j qS qC k_j
  exact ⟨⟨h_p1, h_p2, (show TdG (wrM m 110 j x) by rw [TdG_e qS qP]; exact h_td)⟩, k_b, k_q, k_c, k_d, k_l, ⟨(fun La Lb A I e0 e1 e2 e3 => by
      have h1 := h_k0 _ _ _ _ e0 e1 e2 e3
      exact ⟨h1.1, by rw [ew]; omega, fun _ e5 _ => no9 e5 rfl⟩), h_ks, fun _ _ e0 e1 => no9 (o := none) rfl e1, h_kl, fun _ _ _ _ _ _ _ e0 e1 e2 e3 e4 e5 e6 => no9 (o := none) rfl e5, (fun La Lb A I s D e0 e1 e2 e3 e4 e5 => by
      have e4 : g 3 = s := Option.some.inj (t939.symm.trans e4)
      subst e4
      have e5 : g 7 + 0 = D := Option.some.inj e5
      subst e5
      have h1 := h_k0 _ _ _ _ e0 e1 e2 e3
      have h2 := h_kw _ _ _ _ _ _ _ e0 e1 e2 e3 t939 t910 t913
      have h3 := h_kk _ _ t939 t910
      refine ⟨n915, ?_⟩
      rw [tsG_e qS, ew]
      refine en_put h2.2.2.2.2 (by omega) h2.2.1 (fun hp => ?_) (fun z => Iff.rfl)
      obtain ⟨i, i1, i2⟩ := h2.2.2.2.2.2.2 _ hp
      exact h3.2 i (by omega) (by omega) i2), fun _ _ _ e0 e1 e2 => no9 n915 e2⟩, ⟨fun _ _ e0 e1 => no9 n940 e0, fun _ _ _ _ e0 e1 e2 e3 => no9 n940 e0, fun _ _ _ e0 e1 e2 => no9 n941 e0, fun _ _ _ _ e0 e1 e2 e3 => no9 n940 e0, fun _ _ _ _ _ e0 e1 e2 e3 e4 => no9 n940 e0, fun _ _ _ _ _ _ e0 e1 e2 e3 e4 e5 => no9 n940 e0, fun _ _ _ _ _ _ _ e0 e1 e2 e3 e4 e5 e6 => no9 n940 e0, fun _ _ _ _ _ e0 e1 e2 e3 e4 => no9 n940 e0, fun _ _ _ _ e0 e1 e2 e3 => no9 n953 e0, fun _ _ e0 e1 => no9 n957 e0, fun _ _ _ _ _ _ e0 e1 e2 e3 e4 e5 => no9 n940 e0, fun _ _ _ _ _ _ _ e0 e1 e2 e3 e4 e5 e6 => no9 n940 e0, fun _ _ _ _ _ _ _ _ _ e0 e1 e2 e3 e4 e5 e6 e7 e8 => no9 n940 e0, fun _ _ e0 e1 => no9 n963 e0⟩, ⟨fun _ e0 => no9 n970 e0, fun _ _ e0 e1 => no9 n970 e0, fun _ _ e0 e1 => no9 n971 e0, fun _ _ e0 e1 => no9 n970 e0⟩, k_n, k_j⟩
def wu_K0 : Ru := ([(7, (0, (0, (0, 0)))), (8, (0, (0, (0, 0)))), (4, (0, (0, (134, 0))))], ([937, 939, 915, 940, 963, 970, 941, 942, 943, 944, 945, 946, 947, 948, 949, 950, 951, 952, 953, 954, 955, 956, 957, 958, 959, 960, 961, 962, 964, 965, 966, 967, 968, 969, 971, 972, 973, 974, 880, 881, 882, 883, 884, 885, 886, 887, 888, 889, 890, 891, 892, 893, 894, 895, 896, 897, 898, 899, 905, 906, 907, 920, 921, 922, 923, 924, 925, 926, 927, 928, 929], ([([(0, 1), (2, (-1))], 0), ([(0, (-1)), (2, 1)], 0)], (false, ([], ([], ([], none)))))))
theorem wk_K0 : WrOk SGd 110 wu_K0 := by
  intro τ m g j x hi hc ha hS
  obtain ⟨i0, i1, i2, _⟩ := hi
  have xp : g 0 = (j : Int) := i0
  have xv : g 1 = x := i1
  have xj : g 2 = 134 := i2
  obtain ⟨c0, c1, _⟩ := hc
  have c0 : 1 * g 0 + (-1) * g 2 ≤ 0 := d2 c0
  have c1 : (-1) * g 0 + 1 * g 2 ≤ 0 := d2 c1
  obtain ⟨a0, a1, a2, a3, a4, a5, a6, a7, a8, a9, a10, a11, a12, a13, a14, a15, a16, a17, a18, a19, a20, a21, a22, a23, a24, a25, a26, a27, a28, a29, a30, a31, a32, a33, a34, a35, a36, a37, a38, a39, a40, a41, a42, a43, a44, a45, a46, a47, a48, a49, a50, a51, a52, a53, a54, a55, a56, a57, a58, a59, a60, a61, a62, a63, a64, a65, a66, a67, a68, a69, a70, _⟩ := ha
  have n937 : τ 937 = none := a0
  have n939 : τ 939 = none := a1
  have n915 : τ 915 = none := a2
  have n940 : τ 940 = none := a3
  have n963 : τ 963 = none := a4
  have n970 : τ 970 = none := a5
  have n941 : τ 941 = none := a6
  have n942 : τ 942 = none := a7
  have n943 : τ 943 = none := a8
  have n944 : τ 944 = none := a9
  have n945 : τ 945 = none := a10
  have n946 : τ 946 = none := a11
  have n947 : τ 947 = none := a12
  have n948 : τ 948 = none := a13
  have n949 : τ 949 = none := a14
  have n950 : τ 950 = none := a15
  have n951 : τ 951 = none := a16
  have n952 : τ 952 = none := a17
  have n953 : τ 953 = none := a18
  have n954 : τ 954 = none := a19
  have n955 : τ 955 = none := a20
  have n956 : τ 956 = none := a21
  have n957 : τ 957 = none := a22
  have n958 : τ 958 = none := a23
  have n959 : τ 959 = none := a24
  have n960 : τ 960 = none := a25
  have n961 : τ 961 = none := a26
  have n962 : τ 962 = none := a27
  have n964 : τ 964 = none := a28
  have n965 : τ 965 = none := a29
  have n966 : τ 966 = none := a30
  have n967 : τ 967 = none := a31
  have n968 : τ 968 = none := a32
  have n969 : τ 969 = none := a33
  have n971 : τ 971 = none := a34
  have n972 : τ 972 = none := a35
  have n973 : τ 973 = none := a36
  have n974 : τ 974 = none := a37
  have n880 : τ 880 = none := a38
  have n881 : τ 881 = none := a39
  have n882 : τ 882 = none := a40
  have n883 : τ 883 = none := a41
  have n884 : τ 884 = none := a42
  have n885 : τ 885 = none := a43
  have n886 : τ 886 = none := a44
  have n887 : τ 887 = none := a45
  have n888 : τ 888 = none := a46
  have n889 : τ 889 = none := a47
  have n890 : τ 890 = none := a48
  have n891 : τ 891 = none := a49
  have n892 : τ 892 = none := a50
  have n893 : τ 893 = none := a51
  have n894 : τ 894 = none := a52
  have n895 : τ 895 = none := a53
  have n896 : τ 896 = none := a54
  have n897 : τ 897 = none := a55
  have n898 : τ 898 = none := a56
  have n899 : τ 899 = none := a57
  have n905 : τ 905 = none := a58
  have n906 : τ 906 = none := a59
  have n907 : τ 907 = none := a60
  have n920 : τ 920 = none := a61
  have n921 : τ 921 = none := a62
  have n922 : τ 922 = none := a63
  have n923 : τ 923 = none := a64
  have n924 : τ 924 = none := a65
  have n925 : τ 925 = none := a66
  have n926 : τ 926 = none := a67
  have n927 : τ 927 = none := a68
  have n928 : τ 928 = none := a69
  have n929 : τ 929 = none := a70
  obtain ⟨⟨h_p1, h_p2, h_td⟩, k_b, k_q, k_c, k_d, k_l, k_k, k_e, k_t, k_n, k_j⟩ := hS
  have k_k0 := k_k
  obtain ⟨h_k0, h_ks, h_kk, h_kl, h_kw, h_kd, h_kz⟩ := k_k0
  have k_e0 := k_e
  obtain ⟨h_en, h_ef, h_ew, h_er, h_ep, h_ez, h_es, h_ed, h_pw, h_pv, h_eb, h_ei, h_ek, h_rr⟩ := k_e0
  have k_t0 := k_t
  obtain ⟨h_t0, h_tj, h_tw, h_tt⟩ := k_t0
  have qS : eGS m (wrM m 110 j x) := ⟨fun _ => rfl, fun _ => rfl, fun _ => rfl⟩
  have qB : eGB m (wrM m 110 j x) := ⟨⟨rfl, rfl⟩, fun _ => rfl, fun _ => rfl, fun r i hr => wr_row (by omega)⟩
  have qL : eGL m (wrM m 110 j x) := fun _ => rfl
  have qM : eGM m (wrM m 110 j x) := fun _ => rfl
  have qP : eGP m (wrM m 110 j x) := wr_ne (by omega)
  have qC : eGC m (wrM m 110 j x) := fun _ => rfl
  have k_q := e_q qS qP k_q
  have k_c := e_c qS qB k_c
  have k_d := e_d qS k_d
  have k_l := e_l qS qL k_l
  have k_n := e_n qS k_n
  have k_j := e_j qS qC k_j
  exact ⟨⟨h_p1, h_p2, (show TdG (wrM m 110 j x) by rw [TdG_e qS qP]; exact h_td)⟩, k_b, k_q, k_c, k_d, k_l, ⟨fun _ _ _ _ e0 e1 e2 e3 => no9 n937 e2, fun _ e0 => no9 n939 e0, fun _ _ e0 e1 => no9 n939 e0, fun _ _ _ _ _ _ e0 e1 e2 e3 e4 e5 => no9 n937 e2, fun _ _ _ _ _ _ _ e0 e1 e2 e3 e4 e5 e6 => no9 n937 e2, fun _ _ _ _ _ _ e0 e1 e2 e3 e4 e5 => no9 n937 e2, fun _ _ _ e0 e1 e2 => no9 n915 e2⟩, ⟨fun _ _ e0 e1 => no9 n940 e0, fun _ _ _ _ e0 e1 e2 e3 => no9 n940 e0, fun _ _ _ e0 e1 e2 => no9 n941 e0, fun _ _ _ _ e0 e1 e2 e3 => no9 n940 e0, fun _ _ _ _ _ e0 e1 e2 e3 e4 => no9 n940 e0, fun _ _ _ _ _ _ e0 e1 e2 e3 e4 e5 => no9 n940 e0, fun _ _ _ _ _ _ _ e0 e1 e2 e3 e4 e5 e6 => no9 n940 e0, fun _ _ _ _ _ e0 e1 e2 e3 e4 => no9 n940 e0, fun _ _ _ _ e0 e1 e2 e3 => no9 n953 e0, fun _ _ e0 e1 => no9 n957 e0, fun _ _ _ _ _ _ e0 e1 e2 e3 e4 e5 => no9 n940 e0, fun _ _ _ _ _ _ _ e0 e1 e2 e3 e4 e5 e6 => no9 n940 e0, fun _ _ _ _ _ _ _ _ _ e0 e1 e2 e3 e4 e5 e6 e7 e8 => no9 n940 e0, fun _ _ e0 e1 => no9 n963 e0⟩, ⟨fun _ e0 => no9 n970 e0, fun _ _ e0 e1 => no9 n970 e0, fun _ _ e0 e1 => no9 n971 e0, fun _ _ e0 e1 => no9 n970 e0⟩, k_n, k_j⟩
def wu_Pp : Ru := ([(7, (0, (0, (0, 0)))), (8, (0, (0, (0, 0)))), (4, (0, (0, (6, 0)))), (5, (110, (6, (0, 0))))], ([870, 978], ([([(0, 1), (2, (-1))], 0), ([(0, (-1)), (2, 1)], 0), ([(1, (-1)), (3, 1)], 0), ([(1, 1)], 20)], (false, ([], ([], ([], none)))))))
theorem wk_Pp : WrOk SGd 110 wu_Pp := by
  intro τ m g j x hi hc ha hS
  obtain ⟨i0, i1, i2, i3, _⟩ := hi
  have xp : g 0 = (j : Int) := i0
  have xv : g 1 = x := i1
  have xj : g 2 = 6 := i2
  have xpe : g 3 = m 110 6 := i3
  obtain ⟨c0, c1, c2, c3, _⟩ := hc
  have c0 : 1 * g 0 + (-1) * g 2 ≤ 0 := d2 c0
  have c1 : (-1) * g 0 + 1 * g 2 ≤ 0 := d2 c1
  have c2 : (-1) * g 1 + 1 * g 3 ≤ 0 := d2 c2
  have c3 : 1 * g 1 ≤ 20 := d1 c3
  obtain ⟨a0, a1, _⟩ := ha
  have n870 : τ 870 = none := a0
  have n978 : τ 978 = none := a1
  obtain ⟨⟨h_p1, h_p2, h_td⟩, k_b, k_q, k_c, k_d, k_l, k_k, k_e, k_t, k_n, k_j⟩ := hS
  have k_t0 := k_t
  obtain ⟨h_t0, h_tj, h_tw, h_tt⟩ := k_t0
  have k_q0 := k_q
  obtain ⟨h_vs, h_qc, h_qr, h_qk, h_qn, h_ub⟩ := k_q0
  have e6 : wrM m 110 j x 110 6 = x := by rw [show j = 6 by omega, wr_at]
  have qS : eGS m (wrM m 110 j x) := ⟨fun _ => rfl, fun _ => rfl, fun _ => rfl⟩
  have qB : eGB m (wrM m 110 j x) := ⟨⟨rfl, rfl⟩, fun _ => rfl, fun _ => rfl, fun r i hr => wr_row (by omega)⟩
  have qL : eGL m (wrM m 110 j x) := fun _ => rfl
  have qK : eGK m (wrM m 110 j x) := ⟨fun _ => rfl, wr_ne (by omega)⟩
  have qM : eGM m (wrM m 110 j x) := fun _ => rfl
  have qC : eGC m (wrM m 110 j x) := fun _ => rfl
  have k_c := e_c qS qB k_c
  have k_d := e_d qS k_d
  have k_l := e_l qS qL k_l
  have k_k := e_k qS qK k_k
  have k_e := e_e qK qM k_e
  have k_n := e_n qS k_n
  have k_j := e_j qS qC k_j
  exact ⟨⟨h_p1, h_p2, by
    refine ⟨by rw [e6]; have := h_td.1; omega, fun y hy => ⟨(h_td.2 y hy).1, fun i hi => ?_⟩⟩
    have h2 := (h_td.2 y hy).2 i hi
    exact ⟨h2.1, fun c hc => h2.2.1 c (by rw [e6] at hc; omega), h2.2.2⟩⟩, k_b, ⟨fun _ e0 => no9 n870 e0, h_qc, h_qr, h_qk, h_qn, h_ub⟩, k_c, k_d, k_l, k_k, k_e, ⟨(fun R0 e0 => by
      have h1 := h_t0 _ e0
      rw [fmG_e qK, qK.2]; exact h1), (fun R0 J e0 e1 => by
      have h1 := h_tj _ _ e0 e1
      rw [fmG_e qK, qK.2]; exact h1), h_tw, (fun R0 t9 e0 e1 => by
      obtain ⟨i, i1, i2, i3⟩ := h_tt _ _ e0 e1
      exact ⟨i, by rw [e6]; omega, i2, by rw [fmG_e qK, qK.2]; exact i3⟩)⟩, k_n, k_j⟩
def wu_o0 : Ru := ([(7, (0, (0, (0, 0)))), (4, (0, (0, ((-1), 0)))), (4, (0, (0, (6, 0))))], ([], ([([(0, (-1)), (1, 1)], (-1)), ([(0, 1), (2, (-1))], (-1))], (false, ([], ([], ([], none)))))))
theorem wk_o0 : WrOk SGd 110 wu_o0 := by
  intro τ m g j x hi hc ha hS
  obtain ⟨i0, i1, i2, _⟩ := hi
  have xp : g 0 = (j : Int) := i0
  have xl : g 1 = (-1) := i1
  have xh : g 2 = 6 := i2
  obtain ⟨c0, c1, _⟩ := hc
  have c0 : (-1) * g 0 + 1 * g 1 ≤ (-1) := d2 c0
  have c1 : 1 * g 0 + (-1) * g 2 ≤ (-1) := d2 c1
  obtain ⟨⟨h_p1, h_p2, h_td⟩, k_b, k_q, k_c, k_d, k_l, k_k, k_e, k_t, k_n, k_j⟩ := hS
  have qS : eGS m (wrM m 110 j x) := ⟨fun _ => rfl, fun _ => rfl, fun _ => rfl⟩
  have qB : eGB m (wrM m 110 j x) := ⟨⟨rfl, rfl⟩, fun _ => rfl, fun _ => rfl, fun r i hr => wr_row (by omega)⟩
  have qL : eGL m (wrM m 110 j x) := fun _ => rfl
  have qK : eGK m (wrM m 110 j x) := ⟨fun _ => rfl, wr_ne (by omega)⟩
  have qM : eGM m (wrM m 110 j x) := fun _ => rfl
  have qP : eGP m (wrM m 110 j x) := wr_ne (by omega)
  have qC : eGC m (wrM m 110 j x) := fun _ => rfl
  have k_q := e_q qS qP k_q
  have k_c := e_c qS qB k_c
  have k_d := e_d qS k_d
  have k_l := e_l qS qL k_l
  have k_k := e_k qS qK k_k
  have k_e := e_e qK qM k_e
  have k_t := e_t qK qP k_t
  have k_n := e_n qS k_n
  have k_j := e_j qS qC k_j
  exact ⟨⟨h_p1, h_p2, (show TdG (wrM m 110 j x) by rw [TdG_e qS qP]; exact h_td)⟩, k_b, k_q, k_c, k_d, k_l, k_k, k_e, k_t, k_n, k_j⟩
def wu_o7 : Ru := ([(7, (0, (0, (0, 0)))), (4, (0, (0, (6, 0)))), (4, (0, (0, (134, 0))))], ([], ([([(0, (-1)), (1, 1)], (-1)), ([(0, 1), (2, (-1))], (-1))], (false, ([], ([], ([], none)))))))
theorem wk_o7 : WrOk SGd 110 wu_o7 := by
  intro τ m g j x hi hc ha hS
  obtain ⟨i0, i1, i2, _⟩ := hi
  have xp : g 0 = (j : Int) := i0
  have xl : g 1 = 6 := i1
  have xh : g 2 = 134 := i2
  obtain ⟨c0, c1, _⟩ := hc
  have c0 : (-1) * g 0 + 1 * g 1 ≤ (-1) := d2 c0
  have c1 : 1 * g 0 + (-1) * g 2 ≤ (-1) := d2 c1
  obtain ⟨⟨h_p1, h_p2, h_td⟩, k_b, k_q, k_c, k_d, k_l, k_k, k_e, k_t, k_n, k_j⟩ := hS
  have qS : eGS m (wrM m 110 j x) := ⟨fun _ => rfl, fun _ => rfl, fun _ => rfl⟩
  have qB : eGB m (wrM m 110 j x) := ⟨⟨rfl, rfl⟩, fun _ => rfl, fun _ => rfl, fun r i hr => wr_row (by omega)⟩
  have qL : eGL m (wrM m 110 j x) := fun _ => rfl
  have qK : eGK m (wrM m 110 j x) := ⟨fun _ => rfl, wr_ne (by omega)⟩
  have qM : eGM m (wrM m 110 j x) := fun _ => rfl
  have qP : eGP m (wrM m 110 j x) := wr_ne (by omega)
  have qC : eGC m (wrM m 110 j x) := fun _ => rfl
  have k_q := e_q qS qP k_q
  have k_c := e_c qS qB k_c
  have k_d := e_d qS k_d
  have k_l := e_l qS qL k_l
  have k_k := e_k qS qK k_k
  have k_e := e_e qK qM k_e
  have k_t := e_t qK qP k_t
  have k_n := e_n qS k_n
  have k_j := e_j qS qC k_j
  exact ⟨⟨h_p1, h_p2, (show TdG (wrM m 110 j x) by rw [TdG_e qS qP]; exact h_td)⟩, k_b, k_q, k_c, k_d, k_l, k_k, k_e, k_t, k_n, k_j⟩
def wu_o135 : Ru := ([(7, (0, (0, (0, 0)))), (4, (0, (0, (134, 0)))), (4, (0, (0, (1000000, 0))))], ([], ([([(0, (-1)), (1, 1)], (-1)), ([(0, 1), (2, (-1))], (-1))], (false, ([], ([], ([], none)))))))
theorem wk_o135 : WrOk SGd 110 wu_o135 := by
  intro τ m g j x hi hc ha hS
  obtain ⟨i0, i1, i2, _⟩ := hi
  have xp : g 0 = (j : Int) := i0
  have xl : g 1 = 134 := i1
  have xh : g 2 = 1000000 := i2
  obtain ⟨c0, c1, _⟩ := hc
  have c0 : (-1) * g 0 + 1 * g 1 ≤ (-1) := d2 c0
  have c1 : 1 * g 0 + (-1) * g 2 ≤ (-1) := d2 c1
  obtain ⟨⟨h_p1, h_p2, h_td⟩, k_b, k_q, k_c, k_d, k_l, k_k, k_e, k_t, k_n, k_j⟩ := hS
  have qS : eGS m (wrM m 110 j x) := ⟨fun _ => rfl, fun _ => rfl, fun _ => rfl⟩
  have qB : eGB m (wrM m 110 j x) := ⟨⟨rfl, rfl⟩, fun _ => rfl, fun _ => rfl, fun r i hr => wr_row (by omega)⟩
  have qL : eGL m (wrM m 110 j x) := fun _ => rfl
  have qK : eGK m (wrM m 110 j x) := ⟨fun _ => rfl, wr_ne (by omega)⟩
  have qM : eGM m (wrM m 110 j x) := fun _ => rfl
  have qP : eGP m (wrM m 110 j x) := wr_ne (by omega)
  have qC : eGC m (wrM m 110 j x) := fun _ => rfl
  have k_q := e_q qS qP k_q
  have k_c := e_c qS qB k_c
  have k_d := e_d qS k_d
  have k_l := e_l qS qL k_l
  have k_k := e_k qS qK k_k
  have k_e := e_e qK qM k_e
  have k_t := e_t qK qP k_t
  have k_n := e_n qS k_n
  have k_j := e_j qS qC k_j
  exact ⟨⟨h_p1, h_p2, (show TdG (wrM m 110 j x) by rw [TdG_e qS qP]; exact h_td)⟩, k_b, k_q, k_c, k_d, k_l, k_k, k_e, k_t, k_n, k_j⟩
end
