section
/-! ===== N22: copy, on both sides ===== -/
theorem yJr_at {σ : zS} {k j : Nat} {f : Nat → Int64} : (zJr σ k f).2 k j = f j := by
  show (xup σ.2 k f) k j = f j
  rw [xup_same]
theorem yJr_ne {σ : zS} {k k' j : Nat} {f : Nat → Int64} (h : k' ≠ k) : (zJr σ k f).2 k' j = σ.2 k' j := by
  show (xup σ.2 k f) k' j = σ.2 k' j
  rw [xup_ne h]
/-- the parts of both features lie there -/
noncomputable def CyO (k8 : Nat) (σ : zS) (n m : Nat) (x y c : Int) : Prop := (0 ≤ x ∧ 0 ≤ y ∧ 0 ≤ c) ∧ x + c ≤ (σ.1 k8 n).toInt ∧ y + c ≤ (σ.1 k8 m).toInt
/-- what copying answers, by the slots -/
noncomputable def CyK (k7 k8 : Nat) (σ : zS) (n m : Nat) (x y : Int) (c : Int32) (Q : Int32 → zS → Prop) (S : zS → Prop) : Prop := (((σ.1 k7 n).toInt = 0 ∨ (σ.1 k7 m).toInt = 0) → Q (-11) σ) ∧ ((¬ (σ.1 k7 n).toInt = 0 ∧ ¬ (σ.1 k7 m).toInt = 0 ∧ ¬ (σ.1 k7 n).toInt = (σ.1 k7 m).toInt) → Q (-14) σ) ∧ ((¬ (σ.1 k7 n).toInt = 0 ∧ ¬ (σ.1 k7 m).toInt = 0 ∧ (σ.1 k7 n).toInt = (σ.1 k7 m).toInt) → (¬ CyO k8 σ n m x y c.toInt → Q (-12) σ) ∧ (CyO k8 σ n m x y c.toInt → ∀ τ, S τ → Q c τ))
section N22
variable {σ τ : zS} {a1 a2 a3 a4 a5 a6 a7 : Int32}
theorem w_hasItems {x1 x2 x3 : Int32} {n : Nat} {Q : Int32 → zS → Prop} (h1 : x1.toInt = (n : Int)) (hn : n < 480) (hz : 0 ≤ (σ.1 8 n).toInt ∧ (σ.1 8 n).toInt ≤ 20) (k1 : (0 ≤ x2.toInt ∧ 0 ≤ x3.toInt ∧ x2.toInt + x3.toInt ≤ (σ.1 8 n).toInt) → Q 1 σ) (k0 : ¬ (0 ≤ x2.toInt ∧ 0 ≤ x3.toInt ∧ x2.toInt + x3.toInt ≤ (σ.1 8 n).toInt) → Q 0 σ) : W_Wh_hasItems x1 x2 x3 σ Q :=
  ⟨fun c => k0 (by omega), fun c => ⟨fun d => k0 (by omega), fun d => ⟨n, h1, hn, ⟨fun e => k0 (by omega), fun e => ⟨by omega, fun r5 h5 => ⟨fun f => k0 (by omega), fun f => k1 (by omega)⟩⟩⟩⟩⟩⟩
theorem w_copyC {Q : Int32 → zS → Prop} (hp : 0 ≤ (σ.1 5 0).toInt ∧ (σ.1 5 0).toInt ≤ 20) (ht : (σ.1 10 0).toInt ≤ 40) (hz : ∀ f, f < 480 → 0 ≤ (σ.1 8 f).toInt ∧ (σ.1 8 f).toInt ≤ 20) (k1 : ((∀ n, ¬ SlV σ a1.toInt a2.toInt n) ∨ ∀ n, ¬ SlV σ a4.toInt a5.toInt n) → Q (-1) σ) (k2 : ∀ n m, n < 480 → m < 480 → SlV σ a1.toInt a2.toInt n → SlV σ a4.toInt a5.toInt m → CyK 7 8 σ n m a3.toInt a6.toInt a7 Q (fun τ => zJr σ 9 (va_cpy (σ.2 9) (σ.2 9) (20 * n + a3.toInt.toNat) (20 * m + a6.toInt.toNat) a7.toInt.toNat) = τ)) : W_H_copy a1 a2 a3 a4 a5 a6 a7 σ Q := by
  have n0 : (0 : Int32).toInt = 0 := by decide
  have n1 : ¬ (1 : Int32).toInt = 0 := by decide
  have n4 : (-4 : Int32).toInt = -4 := by decide
  refine w_slotOf hp ht (fun v1 n hv1 hn s1 => ?_) (fun no => ?_)
  · refine w_slotOf hp ht (fun v2 m hv2 hm s2 => ⟨fun z => absurd z (by omega), fun _ => ⟨fun z => absurd z (by omega), fun _ => ⟨n, hv1, hn, ⟨fun c => (k2 n m hn hm s1 s2).1 (Or.inl c), fun c => ⟨m, hv2, hm, ⟨fun d => (k2 n m hn hm s1 s2).1 (Or.inr d), fun d => ⟨fun e => ?_, fun e => (k2 n m hn hm s1 s2).2.1 ⟨c, d, e⟩⟩⟩⟩⟩⟩⟩⟩) (fun no => ⟨fun z => absurd z (by omega), fun _ => ⟨fun _ => k1 (Or.inr no), fun z => absurd n4 z⟩⟩)
    obtain ⟨kn, ky⟩ := (k2 n m hn hm s1 s2).2.2 ⟨c, d, e⟩
    have z1 := hz n hn
    have z2 := hz m hm
    refine w_hasItems hv1 hn z1 (fun q1 => ⟨fun z => absurd z n1, fun _ => ?_⟩) (fun q1 => ⟨fun _ => kn (fun z => q1 ⟨z.1.1, z.1.2.2, z.2.1⟩), fun z => absurd n0 z⟩)
    refine w_hasItems hv2 hm z2 (fun q2 => ⟨fun z => absurd z n1, fun _ => ⟨by omega, fun r14 h14 => ⟨by omega, fun r15 h15 => ⟨by omega, fun r16 h16 => ⟨by omega, fun r17 h17 => ⟨20 * n + a3.toInt.toNat, by omega, 20 * m + a6.toInt.toNat, by omega, a7.toInt.toNat, by omega, by omega, fun s e => ky ⟨⟨q1.1, q2.1, q1.2.1⟩, q1.2.2, q2.2.2⟩ s e⟩⟩⟩⟩⟩⟩) (fun q2 => ⟨fun _ => kn (fun z => q2 ⟨z.1.2.1, z.1.2.2, z.2.2⟩), fun z => absurd n0 z⟩)
  · exact w_slotOf hp ht (fun v2 m hv2 hm s2 => ⟨fun _ => k1 (Or.inl no), fun z => absurd n4 z⟩) (fun _ => ⟨fun _ => k1 (Or.inl no), fun z => absurd n4 z⟩)
theorem wl_copyM2 {m d c : Nat} {x6 x7 x9 : Int32} {ρ0 : zS} {Q : Int32 → zS → Prop} (h6 : x6.toInt = (d : Int)) (h7 : x7.toInt = (c : Int)) (h9 : x9.toInt = (m : Int)) (hm : 20 * m + d + c ≤ 9600) (hc : c ≤ 20) (kk : ∀ τ : zS, τ.1 = ρ0.1 → (∀ k j, ¬ (k = 123 ∧ 20 * m + d ≤ j ∧ j < 20 * m + d + c) → τ.2 k j = ρ0.2 k j) → (∀ i, i < c → τ.2 123 (20 * m + d + i) = ρ0.2 124 i) → Q x7 τ) : ∀ (f i : Nat) (x10 : Int32) (ρ : zS), i + f = c → x10.toInt = (i : Int) → ρ.1 = ρ0.1 → (∀ k j, ¬ (k = 123 ∧ 20 * m + d ≤ j ∧ j < 20 * m + d + i) → ρ.2 k j = ρ0.2 k j) → (∀ i', i' < i → ρ.2 123 (20 * m + d + i') = ρ0.2 124 i') → ∀ N, (WL_M_copy (N + f + 1)).2 x6 x7 x9 x10 ρ Q
  | 0, i, x10, ρ, e, h10, g1, g2, g3, N => wl_M_copy_168 ⟨fun _ => kk ρ g1 (by rw [show i = c by omega] at g2; exact g2) (by rw [show i = c by omega] at g3; exact g3), fun z => absurd (by omega) z⟩
  | f + 1, i, x10, ρ, e, h10, g1, g2, g3, N => by
    show (WL_M_copy ((N + f + 1) + 1)).2 x6 x7 x9 x10 ρ Q
    refine wl_M_copy_168 ⟨fun z => absurd z (by omega), fun _ => ⟨by omega, fun r2 h2 => ⟨by omega, fun r3 h3 => ⟨by omega, fun r4 h4 => ⟨i, h10, by omega, 20 * m + d + i, by omega, by omega, fun s7 e7 => ⟨by omega, fun r8 h8 => ?_⟩⟩⟩⟩⟩⟩
    refine wl_copyM2 h6 h7 h9 hm hc kk f (i + 1) r8 s7 (by omega) (by omega) (by rw [← e7]; exact g1) (fun k j q => ?_) (fun i' hi => ?_) N
    · rw [← e7, yJ_ne (by omega)]; exact g2 k j (by omega)
    · by_cases z : i' = i
      · subst z; rw [← e7, yJ_at]; exact g2 124 i' (by omega)
      · rw [← e7, yJ_ne (by omega)]; exact g3 i' (by omega)
theorem wl_copyM1 {n m d d' c : Nat} {x3 x6 x7 x8 x9 : Int32} {ρ0 : zS} {Q : Int32 → zS → Prop} (h3 : x3.toInt = (d' : Int)) (h6 : x6.toInt = (d : Int)) (h7 : x7.toInt = (c : Int)) (h8 : x8.toInt = (n : Int)) (h9 : x9.toInt = (m : Int)) (hn : 20 * n + d' + c ≤ 9600) (hm : 20 * m + d + c ≤ 9600) (hc : c ≤ 20) (kk : ∀ τ : zS, τ.1 = ρ0.1 → (∀ k j, k ≠ 124 → ¬ (k = 123 ∧ 20 * m + d ≤ j ∧ j < 20 * m + d + c) → τ.2 k j = ρ0.2 k j) → (∀ i, i < c → τ.2 123 (20 * m + d + i) = ρ0.2 123 (20 * n + d' + i)) → Q x7 τ) : ∀ (f i : Nat) (x10 : Int32) (ρ : zS), i + f = c → x10.toInt = (i : Int) → ρ.1 = ρ0.1 → (∀ k j, ¬ (k = 124 ∧ j < i) → ρ.2 k j = ρ0.2 k j) → (∀ i', i' < i → ρ.2 124 i' = ρ0.2 123 (20 * n + d' + i')) → ∀ N, (WL_M_copy (N + (c + 1) + f + 1)).1 x3 x6 x7 x8 x9 x10 ρ Q
  | 0, i, x10, ρ, e, h10, g1, g2, g3, N => by
    refine wl_M_copy_130 ⟨fun _ => ?_, fun z => absurd (by omega) z⟩
    have hi : i = c := by omega
    subst hi
    refine wl_copyM2 (ρ0 := ρ) h6 h7 h9 hm hc (fun τ k1 k2 k3 => kk τ (k1.trans g1) (fun k j q q2 => ?_) (fun i' hi => ?_)) i 0 0 ρ (by omega) (by decide) rfl (fun _ _ _ => rfl) (fun i' hi => absurd hi (by omega)) N
    · rw [k2 k j q2, g2 k j (by omega)]
    · rw [k3 i' hi, g3 i' hi]
  | f + 1, i, x10, ρ, e, h10, g1, g2, g3, N => by
    show (WL_M_copy ((N + (c + 1) + f + 1) + 1)).1 x3 x6 x7 x8 x9 x10 ρ Q
    refine wl_M_copy_130 ⟨fun z => absurd z (by omega), fun _ => ⟨by omega, fun r2 k2 => ⟨by omega, fun r3 k3 => ⟨by omega, fun r4 k4 => ⟨20 * n + d' + i, by omega, by omega, i, h10, by omega, fun s7 e7 => ⟨by omega, fun r8 k8 => ?_⟩⟩⟩⟩⟩⟩
    refine wl_copyM1 h3 h6 h7 h8 h9 hn hm hc kk f (i + 1) r8 s7 (by omega) (by omega) (by rw [← e7]; exact g1) (fun k j q => ?_) (fun i' hi => ?_) N
    · rw [← e7, yJ_ne (by omega)]; exact g2 k j (by omega)
    · by_cases z : i' = i
      · subst z; rw [← e7, yJ_at]; exact g2 123 _ (by omega)
      · rw [← e7, yJ_ne (by omega)]; exact g3 i' (by omega)
theorem w_copyM {Q : Int32 → zS → Prop} (hw : WdB σ) (hz : ∀ f, f < 480 → 0 ≤ (σ.1 122 f).toInt ∧ (σ.1 122 f).toInt ≤ 20) (k1 : ((∀ n, ¬ SlV σ a1.toInt a2.toInt n) ∨ ∀ n, ¬ SlV σ a4.toInt a5.toInt n) → Q (-1) σ) (k2 : ∀ n m, n < 480 → m < 480 → SlV σ a1.toInt a2.toInt n → SlV σ a4.toInt a5.toInt m → CyK 121 122 σ n m a3.toInt a6.toInt a7 Q (fun τ => τ.1 = σ.1 ∧ (∀ k j, k ≠ 124 → ¬ (k = 123 ∧ 20 * m + a6.toInt.toNat ≤ j ∧ j < 20 * m + a6.toInt.toNat + a7.toInt.toNat) → τ.2 k j = σ.2 k j) ∧ ∀ i, i < a7.toInt.toNat → τ.2 123 (20 * m + a6.toInt.toNat + i) = σ.2 123 (20 * n + a3.toInt.toNat + i))) : W_M_copy a1 a2 a3 a4 a5 a6 a7 σ Q := by
  have m1 : (-1 : Int32).toInt = -1 := by decide
  obtain ⟨⟨w1, w2, w3⟩, w4, w5⟩ := id hw
  refine w_rowFor w1 w2 w3 w4 w5 (fun v1 n hv1 hn s1 => ?_) (fun no => ?_)
  · refine w_rowFor w1 w2 w3 w4 w5 (fun v2 m hv2 hm s2 => ⟨fun z => absurd z (by omega), fun _ => ⟨fun _ => ⟨n, hv1, hn, ⟨fun c => (k2 n m hn hm s1 s2).1 (Or.inl c), fun c => ⟨m, hv2, hm, ⟨fun d => (k2 n m hn hm s1 s2).1 (Or.inr d), fun d => ⟨fun e => ?_, fun e => (k2 n m hn hm s1 s2).2.1 ⟨c, d, e⟩⟩⟩⟩⟩⟩, fun z => absurd (by omega) z⟩⟩) (fun no => ⟨fun z => absurd z (by omega), fun _ => ⟨fun z => absurd z (by omega), fun _ => k1 (Or.inr no)⟩⟩)
    obtain ⟨kn, ky⟩ := (k2 n m hn hm s1 s2).2.2 ⟨c, d, e⟩
    clear k1 k2
    have z1 := hz n hn
    have z2 := hz m hm
    have b3 := Int32.toInt_lt a3
    have b6 := Int32.toInt_lt a6
    have b7 := Int32.toInt_lt a7
    refine ⟨fun z => kn (fun q => absurd q.1.1 (by omega)), fun p3 => ⟨fun z => kn (fun q => absurd q.1.2.1 (by omega)), fun p6 => ⟨fun z => kn (fun q => absurd q.1.2.2 (by omega)), fun p7 r13 h13 r14 h14 => ⟨by omega, fun r15 h15 r16 h16 => ⟨fun z => kn (fun q => absurd q.2.1 (by omega)), fun u1 r18 h18 r19 h19 => ⟨by omega, fun r20 h20 r21 h21 => ⟨fun u2 => ?_, fun z => kn (fun q => absurd q.2.2 (by omega))⟩⟩⟩⟩⟩⟩⟩
    have ok := ky ⟨⟨by omega, by omega, by omega⟩, by omega, by omega⟩
    clear kn ky
    obtain ⟨x, hx⟩ : ∃ x : Nat, a3.toInt = (x : Int) := ⟨a3.toInt.toNat, by omega⟩
    obtain ⟨y, hy⟩ : ∃ y : Nat, a6.toInt = (y : Int) := ⟨a6.toInt.toNat, by omega⟩
    obtain ⟨t, ht⟩ : ∃ t : Nat, a7.toInt = (t : Int) := ⟨a7.toInt.toNat, by omega⟩
    rw [show a3.toInt.toNat = x by omega, show a6.toInt.toNat = y by omega, show a7.toInt.toNat = t by omega] at ok
    have e : fuF = (99998 - 2 * t) + (t + 1) + t + 1 := by show 100000 = (99998 - 2 * t) + (t + 1) + t + 1; omega
    rw [e]
    exact wl_copyM1 (ρ0 := σ) hx hy ht hv1 hv2 (by omega) (by omega) (by omega) (fun τ g1 g2 g3 => ok τ ⟨g1, g2, g3⟩) t 0 0 σ (by omega) (by decide) rfl (fun _ _ _ => rfl) (fun i hi => absurd hi (by omega)) _
  · exact w_rowFor w1 w2 w3 w4 w5 (fun v2 m hv2 hm s2 => ⟨fun _ => k1 (Or.inl no), fun z => absurd (by omega) z⟩) (fun _ => ⟨fun _ => k1 (Or.inl no), fun z => absurd (by omega) z⟩)
theorem copy_same (hw : WdB σ) (h : ItS σ) (hz : ∀ f, f < 480 → 0 ≤ (σ.1 8 f).toInt ∧ (σ.1 8 f).toInt ≤ 20) : W_H_copy a1 a2 a3 a4 a5 a6 a7 σ (fun r σ1 => FrI σ σ1 ∧ W_M_copy a1 a2 a3 a4 a5 a6 a7 σ1 (fun r2 σ2 => r = r2 ∧ FrJ σ1 σ2 ∧ ItS σ2)) := by
  have same : ∀ {x y : Int32}, x = y → (x = y ∧ FrJ σ σ ∧ ItS σ) := fun e => ⟨e, ⟨fun _ _ _ _ => rfl, fun _ _ _ _ => rfl⟩, h⟩
  have fr : FrI σ σ := ⟨fun _ _ _ _ => rfl, fun _ _ _ => rfl⟩
  have hzM : ∀ f, f < 480 → 0 ≤ (σ.1 122 f).toInt ∧ (σ.1 122 f).toInt ≤ 20 := fun f hf => by rw [← (h.1 f hf).2]; exact hz f hf
  have e7 : ∀ f, f < 480 → (σ.1 121 f).toInt = (σ.1 7 f).toInt := fun f hf => by rw [(h.1 f hf).1]
  have e8 : ∀ f, f < 480 → (σ.1 122 f).toInt = (σ.1 8 f).toInt := fun f hf => by rw [(h.1 f hf).2]
  obtain ⟨⟨w1, w2, w3⟩, w4, w5⟩ := id hw
  refine w_copyC (by omega) (by omega) hz (fun no => ⟨fr, ?_⟩) (fun n m hn hm s1 s2 => ?_)
  · exact w_copyM hw hzM (fun _ => same rfl) (fun n m _ _ s1 s2 => by
      rcases no with q | q
      · exact absurd s1 (q n)
      · exact absurd s2 (q m))
  · have no : ¬ ((∀ n, ¬ SlV σ a1.toInt a2.toInt n) ∨ ∀ n, ¬ SlV σ a4.toInt a5.toInt n) := fun q => by
      rcases q with q | q
      · exact q n s1
      · exact q m s2
    -- the reference from the same state
    have ref : ∀ {x : Int32}, (∀ n m, n < 480 → m < 480 → SlV σ a1.toInt a2.toInt n → SlV σ a4.toInt a5.toInt m → CyK 121 122 σ n m a3.toInt a6.toInt a7 (fun r2 σ2 => x = r2 ∧ FrJ σ σ2 ∧ ItS σ2) (fun τ => τ.1 = σ.1 ∧ (∀ k j, k ≠ 124 → ¬ (k = 123 ∧ 20 * m + a6.toInt.toNat ≤ j ∧ j < 20 * m + a6.toInt.toNat + a7.toInt.toNat) → τ.2 k j = σ.2 k j) ∧ ∀ i, i < a7.toInt.toNat → τ.2 123 (20 * m + a6.toInt.toNat + i) = σ.2 123 (20 * n + a3.toInt.toNat + i))) → W_M_copy a1 a2 a3 a4 a5 a6 a7 σ (fun r2 σ2 => x = r2 ∧ FrJ σ σ2 ∧ ItS σ2) := fun {x} k => w_copyM hw hzM (fun q => absurd q no) k
    have u1 := e7 n hn
    have u2 := e7 m hm
    have u3 := e8 n hn
    have u4 := e8 m hm
    have oy : CyO 122 σ n m a3.toInt a6.toInt a7.toInt ↔ CyO 8 σ n m a3.toInt a6.toInt a7.toInt := by unfold CyO; rw [u3, u4]
    refine ⟨fun q => ⟨fr, ref (fun n' m' _ _ t1 t2 => ?_)⟩, fun q => ⟨fr, ref (fun n' m' _ _ t1 t2 => ?_)⟩, fun q => ⟨fun q2 => ⟨fr, ref (fun n' m' _ _ t1 t2 => ?_)⟩, fun q2 s es => ?_⟩⟩
    · obtain rfl := t1.one s1
      obtain rfl := t2.one s2
      refine ⟨fun _ => same rfl, fun z => absurd q (by omega), fun z => absurd q (by omega)⟩
    · obtain rfl := t1.one s1
      obtain rfl := t2.one s2
      refine ⟨fun z => absurd q (by omega), fun _ => same rfl, fun z => absurd q (by omega)⟩
    · obtain rfl := t1.one s1
      obtain rfl := t2.one s2
      refine ⟨fun z => absurd q (by omega), fun z => absurd q (by omega), fun _ => ⟨fun _ => same rfl, fun z => absurd (oy.mp z) q2⟩⟩
    · have f1 : FrI σ s := ⟨fun k j _ _ => by rw [← es]; rfl, fun k j z => by rw [← es, yJr_ne z]⟩
      have s1i : s.1 = σ.1 := by rw [← es]; rfl
      have s23 : ∀ j, s.2 123 j = σ.2 123 j := fun j => by rw [← es, yJr_ne (by decide)]
      have s9 : ∀ j, s.2 9 j = va_cpy (σ.2 9) (σ.2 9) (20 * n + a3.toInt.toNat) (20 * m + a6.toInt.toNat) a7.toInt.toNat j := fun j => by rw [← es, yJr_at]
      have z1 := hz n hn
      have z2 := hz m hm
      obtain ⟨⟨p3, p6, p7⟩, o1, o2⟩ := id q2
      refine ⟨f1, w_copyM (hw.cg f1) (by rw [s1i]; exact hzM) (fun no' => ?_) (fun n' m' _ _ t1 t2 => ?_)⟩
      · exfalso
        rcases no' with q' | q'
        · exact q' n (s1.cg f1)
        · exact q' m (s2.cg f1)
      · obtain rfl := t1.one (s1.cg f1)
        obtain rfl := t2.one (s2.cg f1)
        unfold CyK CyO
        rw [s1i]
        refine ⟨fun z => absurd q (by omega), fun z => absurd q (by omega), fun _ => ⟨fun z => absurd (oy.mpr q2) z, fun _ t ht => ?_⟩⟩
        obtain ⟨g1, g2, g3⟩ := ht
        refine ⟨rfl, ⟨fun k j _ _ => by rw [g1, s1i], fun k j y1 y2 => g2 k j y2 (by omega)⟩, ⟨fun f hf => by rw [g1]; exact h.1 f hf, fun j hj => ?_⟩⟩
        rw [g2 9 j (by decide) (by omega), s9 j]
        unfold va_cpy
        by_cases y : 20 * m' + a6.toInt.toNat ≤ j ∧ j < 20 * m' + a6.toInt.toNat + a7.toInt.toNat
        · rw [if_pos y]
          obtain ⟨i, hi⟩ : ∃ i, j = 20 * m' + a6.toInt.toNat + i := ⟨j - (20 * m' + a6.toInt.toNat), by omega⟩
          subst hi
          rw [g3 i (by omega), s23, show 20 * m' + a6.toInt.toNat + i - (20 * m' + a6.toInt.toNat) = i by omega]
          exact h.2 _ (by omega)
        · rw [if_neg y, g2 123 j (by decide) (by omega), s23]
          exact h.2 j hj
end N22
/-! ===== N23: half and joined: the tapes stay the same (what they answer plays no part here) ===== -/
/-- bytes lie in row k -/
noncomputable def ByO (σ : zS) (k : Nat) : Prop := ∀ i, i < 1200 → 0 ≤ (σ.1 k i).toInt ∧ (σ.1 k i).toInt ≤ 255
noncomputable abbrev bT9 (σ : zS) (k i : Nat) : Nat := (σ.1 k i).toInt.toNat
/-- the number of the first i of the bytes from n on -/
noncomputable def pT4 (σ : zS) (k n : Nat) : Nat → Nat
  | 0 => 0
  | i + 1 => pT4 σ k n i * 256 + bT9 σ k (n + i)
noncomputable abbrev T4 (σ : zS) (k n : Nat) : Nat := pT4 σ k n 4
noncomputable def HfO (a b : Int) (L : Nat) : Prop := (0 ≤ a ∧ a < 2147483647) ∧ (1 ≤ b ∧ b ≤ 1000) ∧ L % 4 = 0 ∧ L ≤ 40
/-- the half at 8 i is one -/
noncomputable def JnI (σ : zS) (k i : Nat) : Prop := (1 ≤ T4 σ k (8 * i) ∧ T4 σ k (8 * i) ≤ 1000) ∧ T4 σ k (8 * i + 4) < 2147483647 ∧ ∀ j, j < i → ¬ T4 σ k (8 * j) = T4 σ k (8 * i)
noncomputable def JnO (σ : zS) (k L : Nat) : Prop := (L % 8 = 0 ∧ L ≠ 0 ∧ L ≤ 80) ∧ ∀ i, 8 * i < L → JnI σ k i
section N23
variable {σ τ : zS} {a1 a2 : Int32}
theorem by_n {k i : Nat} (hb : ByO σ k) (hi : i < 1200) : (σ.1 k i).toInt = (bT9 σ k i : Nat) ∧ bT9 σ k i ≤ 255 := by
  have := hb i hi
  unfold bT9
  omega
theorem pT4_lt {k n : Nat} (hb : ByO σ k) (hn : n + 4 ≤ 1200) : ∀ i, i ≤ 4 → pT4 σ k n i < 256 ^ i
  | 0, _ => by show 0 < 1; omega
  | i + 1, hi => by
    have h1 := pT4_lt hb hn i (by omega)
    have h2 := (by_n hb (show n + i < 1200 by omega)).2
    show pT4 σ k n i * 256 + bT9 σ k (n + i) < 256 ^ (i + 1)
    rw [Nat.pow_succ]
    omega
theorem pT4_cg {k k' n : Nat} (h : ∀ i, i < 4 → τ.1 k' (n + i) = σ.1 k (n + i)) : ∀ i, i ≤ 4 → pT4 τ k' n i = pT4 σ k n i
  | 0, _ => rfl
  | i + 1, hi => by
    show pT4 τ k' n i * 256 + (τ.1 k' (n + i)).toInt.toNat = pT4 σ k n i * 256 + (σ.1 k (n + i)).toInt.toNat
    rw [pT4_cg h i (by omega), h i (by omega)]
theorem jn_cg {k k' L : Nat} (h : ∀ i, i < 1200 → τ.1 k' i = σ.1 k i) (q : JnO σ k L) : JnO τ k' L := by
  have e : ∀ n, n + 4 ≤ 1200 → T4 τ k' n = T4 σ k n := fun n hn => pT4_cg (fun i hi => h _ (by omega)) 4 (by omega)
  have hL := q.1.2.2
  refine ⟨q.1, fun i hi => ?_⟩
  obtain ⟨q1, q2, q3⟩ := q.2 i hi
  refine ⟨by rw [e _ (by omega)]; exact q1, by rw [e _ (by omega)]; exact q2, fun j hj => by rw [e _ (by omega), e _ (by omega)]; exact q3 j hj⟩
theorem u_of {x : Int64} {c : Nat} (h : x.toInt = (c : Int)) : uF x = c := by
  have h1 := u_int x
  have h2 := u_lt x
  have h3 := Int64.toInt_lt x
  split at h1 <;> omega
theorem of_u {x : Int64} {c : Nat} (h : uF x = c) (hc : c < 9223372036854775808) : x.toInt = (c : Int) := by
  rw [u_int, h, if_pos hc]
theorem or8 {a b : Nat} (ha : a < 16777216) (hb : b ≤ 255) : a * 2 ^ 8 % 18446744073709551616 ||| b = a * 256 + b := by
  rw [Nat.mod_eq_of_lt (show a * 2 ^ 8 < 18446744073709551616 by omega), or_low (n := 8) (show b < 2 ^ 8 by omega)]
theorem four_or {b0 b1 b2 b3 : Nat} (h0 : b0 ≤ 255) (h1 : b1 ≤ 255) (h2 : b2 ≤ 255) (h3 : b3 ≤ 255) : b0 * 2 ^ 24 % 18446744073709551616 ||| b1 * 2 ^ 16 ||| b2 * 2 ^ 8 ||| b3 = ((b0 * 256 + b1) * 256 + b2) * 256 + b3 := by
  rw [Nat.mod_eq_of_lt (show b0 * 2 ^ 24 < 18446744073709551616 by omega), or_low (n := 24) (show b1 * 2 ^ 16 < 2 ^ 24 by omega), show b0 * 2 ^ 24 + b1 * 2 ^ 16 = (b0 * 256 + b1) * 2 ^ 16 by omega, or_low (n := 16) (show b2 * 2 ^ 8 < 2 ^ 16 by omega), show (b0 * 256 + b1) * 2 ^ 16 + b2 * 2 ^ 8 = ((b0 * 256 + b1) * 256 + b2) * 2 ^ 8 by omega, or_low (n := 8) (show b3 < 2 ^ 8 by omega)]
theorem wl_tapeNumber {x1 : Int32} {n : Nat} {Q : Int64 → zS → Prop} (h1 : x1.toInt = (n : Int)) (hn : n + 4 ≤ 1200) (hb : ByO σ 1) (kk : ∀ v : Int64, v.toInt = ((T4 σ 1 n : Nat) : Int) → Q v σ) : ∀ (f i : Nat) (x2 : Int64) (x4 : Int32), i + f = 4 → x4.toInt = (n : Int) + i → uF x2 = pT4 σ 1 n i → ∀ N, WL_H_tapeNumber (N + f + 1) x1 x2 x4 σ Q
  | 0, i, x2, x4, e, h4, h2, N => by
    obtain rfl : i = 4 := by omega
    have b := pT4_lt hb hn 4 (by omega)
    exact wl_H_tapeNumber_5 ⟨by omega, fun r1 hr => ⟨fun _ => kk x2 (of_u (c := pT4 σ 1 n 4) h2 (by omega)), fun z => absurd (by omega) z⟩⟩
  | f + 1, i, x2, x4, e, h4, h2, N => by
    show WL_H_tapeNumber ((N + f + 1) + 1) x1 x2 x4 σ Q
    refine wl_H_tapeNumber_5 ⟨by omega, fun r1 hr => ⟨fun z => absurd z (by omega), fun _ => ⟨fun z => absurd z (by omega), fun _ => ⟨n + i, by omega, by omega, fun r5 h5 => ⟨by omega, fun r6 h6 => ?_⟩⟩⟩⟩⟩
    refine wl_tapeNumber h1 hn hb kk f (i + 1) _ r6 (by omega) (by omega) ?_ N
    obtain ⟨c1, c2⟩ := by_n hb (show n + i < 1200 by omega)
    have b := pT4_lt hb hn i (by omega)
    have p3 : (256 : Nat) ^ i ≤ 256 ^ 3 := Nat.pow_le_pow_right (by omega) (by omega)
    have e3 : (256 : Nat) ^ 3 = 16777216 := by decide
    rw [u_or, u_shl (y := 8) (c := 8) (by decide) (by decide), h2, u_of (h5.trans c1)]
    exact or8 (by omega) c2
theorem w_tapeNumber {n : Nat} {Q : Int64 → zS → Prop} (h1 : a1.toInt = (n : Int)) (hn : n + 4 ≤ 1200) (hb : ByO σ 1) (kk : ∀ v : Int64, v.toInt = ((T4 σ 1 n : Nat) : Int) → Q v σ) : W_H_tapeNumber a1 σ Q := by
  have e : fuF = 99995 + 4 + 1 := by show 100000 = 99995 + 4 + 1; decide
  show WL_H_tapeNumber fuF a1 0 a1 σ Q
  rw [e]
  exact wl_tapeNumber h1 hn hb kk 4 0 0 a1 (by omega) (by omega) (by show uF 0 = 0; decide) 99995
theorem i_shl {x m : Int32} {b c : Nat} (hm : m.toBitVec.smod 32 = BitVec.ofNat 32 c) (hc : c < 32) (hx : x.toInt = (b : Int)) (hb : b * 2 ^ c < 2147483648) : (x <<< m).toInt = ((b * 2 ^ c : Nat) : Int) := by
  have hn : x.toBitVec.toNat = b := by
    have h : x.toBitVec.toInt = (b : Int) := hx
    rw [BitVec.toInt_eq_toNat_cond] at h
    have := x.toBitVec.isLt
    have b31 := Int32.toInt_lt x
    split at h <;> omega
  have e : (x <<< m).toBitVec.toNat = b * 2 ^ c := by
    rw [Int32.toBitVec_shiftLeft, hm, BitVec.shiftLeft_eq', BitVec.toNat_shiftLeft, BitVec.toNat_ofNat, Nat.mod_eq_of_lt (show c < 2 ^ 32 by omega), Nat.shiftLeft_eq, hn, Nat.mod_eq_of_lt (by omega)]
  show (x <<< m).toBitVec.toInt = _
  rw [BitVec.toInt_eq_toNat_of_lt (by rw [e]; omega), e]
theorem w_fourAt {n : Nat} {Q : Int64 → zS → Prop} (h : a1.toInt = (n : Int)) (hn : n + 4 ≤ 1200) (hb : ByO σ 111) (kk : ∀ v : Int64, v.toInt = ((T4 σ 111 n : Nat) : Int) → Q v σ) : W_M_fourAt a1 σ Q := by
  have e1 : (a1 + 1).toInt = ((n + 1 : Nat) : Int) := by rw [ia_ok h (show (1 : Int32).toInt = 1 by decide) (by omega)]; omega
  have e2 : (a1 + 2).toInt = ((n + 2 : Nat) : Int) := by rw [ia_ok h (show (2 : Int32).toInt = 2 by decide) (by omega)]; omega
  have e3 : (a1 + 3).toInt = ((n + 3 : Nat) : Int) := by rw [ia_ok h (show (3 : Int32).toInt = 3 by decide) (by omega)]; omega
  obtain ⟨c0, d0⟩ := by_n hb (show n < 1200 by omega)
  obtain ⟨c1, d1⟩ := by_n hb (show n + 1 < 1200 by omega)
  obtain ⟨c2, d2⟩ := by_n hb (show n + 2 < 1200 by omega)
  obtain ⟨c3, d3⟩ := by_n hb (show n + 3 < 1200 by omega)
  have p : T4 σ 111 n = ((bT9 σ 111 n * 256 + bT9 σ 111 (n + 1)) * 256 + bT9 σ 111 (n + 2)) * 256 + bT9 σ 111 (n + 3) := by
    show (((0 * 256 + bT9 σ 111 (n + 0)) * 256 + bT9 σ 111 (n + 1)) * 256 + bT9 σ 111 (n + 2)) * 256 + bT9 σ 111 (n + 3) = _
    rw [Nat.zero_mul, Nat.zero_add, Nat.add_zero]
  refine ⟨n, h, by omega, n + 1, e1, by omega, n + 2, e2, by omega, n + 3, e3, by omega, kk _ (of_u ?_ (by omega))⟩
  have s2 := i_shl (x := σ.1 111 (n + 1)) (m := 16 &&& 31) (c := 16) (by decide) (by decide) c1 (by omega)
  have s3 := i_shl (x := σ.1 111 (n + 2)) (m := 8 &&& 31) (c := 8) (by decide) (by decide) c2 (by omega)
  rw [u_or, u_or, u_or, u_shl (y := 24) (c := 24) (by decide) (by decide), u_i2l c0, u_i2l s2, u_i2l s3, u_i2l c3, p]
  exact four_or d0 d1 d2 d3
/-! half -/
theorem wl_halfC {x1 x2 : Int32} {Q : Int32 → zS → Prop} (hb : ByO σ 1) (kk : ∀ (v : Int32) (τ : zS), zI σ 0 1 0 = τ → Q v τ) : ∀ (f : Nat) (x3 : Int64) (x5 : Int32), f ≤ 10 → x5.toInt = 4 * (f : Int) - 4 → ∀ N, WL_H_half (N + f + 1) x1 x2 x3 x5 σ Q
  | 0, x3, x5, hf, h5, N => wl_H_half_56 ⟨fun _ s e r _ => kk _ s e, fun z => absurd (by omega) z⟩
  | f + 1, x3, x5, hf, h5, N => wl_H_half_56 ⟨fun z => absurd z (by omega), fun _ => w_tapeNumber (n := 4 * f) (by omega) (by omega) hb (fun v _ r5 h5' => ⟨by omega, fun r6 h6 => wl_halfC hb kk f _ r6 (by omega) (by omega) N⟩)⟩
theorem w_halfC {L : Nat} {Q : Int32 → zS → Prop} (hL : (σ.1 0 1).toInt = (L : Int)) (hL2 : L ≤ 1200) (hb : ByO σ 1) (k0 : ¬ HfO a1.toInt a2.toInt L → ∀ v, Q v σ) (k1 : HfO a1.toInt a2.toInt L → ∀ (v : Int32) (τ : zS), zI σ 0 1 0 = τ → Q v τ) : W_H_half a1 a2 σ Q := by
  unfold HfO at k0 k1
  refine ⟨fun c => k0 (by omega) _, fun c => ⟨fun d => k0 (by omega) _, fun d => ⟨fun e => k0 (by omega) _, fun e => ⟨fun f => ⟨by omega, fun r6 h6 => ⟨fun g => ⟨fun q => ⟨by omega, fun r9 h9 => ?_⟩, fun q => k0 (by omega) _⟩, fun g => k0 (by omega) _⟩⟩, fun f => k0 (by omega) _⟩⟩⟩⟩
  obtain ⟨N, hN⟩ : ∃ N, fuF = N + L / 4 + 1 := ⟨100000 - (L / 4 + 1), by show 100000 = _; omega⟩
  rw [hN]
  exact wl_halfC hb (k1 (by omega)) (L / 4) 0 r9 (by omega) (by omega) N
theorem wl_halfM {x2 : Int32} {m : Nat} {Q : Int32 → zS → Prop} (hL : (σ.1 110 1).toInt = 4 * (m : Int)) (hm : m ≤ 10) (hb : ByO σ 111) (kk : ∀ (v : Int32) (τ : zS), zI σ 110 1 0 = τ → Q v τ) : ∀ (f i : Nat) (x3 x5 : Int64) (x7 : Int32), i + f = m → x7.toInt = 4 * (i : Int) → ∀ N, WL_M_half (N + f + 1) x2 x3 x5 x7 σ Q
  | 0, i, x3, x5, x7, e, h7, N => wl_M_half_57 ⟨fun _ s e => kk _ s e, fun z => absurd (by omega) z⟩
  | f + 1, i, x3, x5, x7, e, h7, N => wl_M_half_57 ⟨fun z => absurd z (by omega), fun _ r3 h3 => w_fourAt (n := 4 * i) (by omega) (by omega) hb (fun v _ => ⟨by omega, fun r5 h5 => wl_halfM hL hm hb kk f (i + 1) _ _ r5 (by omega) (by omega) N⟩)⟩
theorem w_halfM {L : Nat} {Q : Int32 → zS → Prop} (hL : (σ.1 110 1).toInt = (L : Int)) (hL2 : L ≤ 1200) (hb : ByO σ 111) (k0 : ¬ HfO a1.toInt a2.toInt L → ∀ v, Q v σ) (k1 : HfO a1.toInt a2.toInt L → ∀ (v : Int32) (τ : zS), zI σ 110 1 0 = τ → Q v τ) : W_M_half a1 a2 σ Q := by
  unfold HfO at k0 k1
  have n0 : (0 : Int32).toInt = 0 := by decide
  have n1 : ¬ (1 : Int32).toInt = 0 := by decide
  refine ⟨fun c => k0 (by omega) _, fun c r2 h2 => ⟨fun d => k0 (by omega) _, fun d r4 h4 => w_inN (l := 1) (u := 1000) h4 (by decide) (by decide) (fun e => ⟨fun z => absurd z n1, fun _ => ⟨by omega, fun r8 h8 => ⟨fun g => ⟨fun q r11 h11 => ?_, fun q => k0 (by omega) _⟩, fun g => k0 (by omega) _⟩⟩⟩) (fun e => ⟨fun _ => k0 (by omega) _, fun z => absurd n0 z⟩)⟩⟩
  obtain ⟨N, hN⟩ : ∃ N, fuF = N + L / 4 + 1 := ⟨100000 - (L / 4 + 1), by show 100000 = _; omega⟩
  rw [hN]
  exact wl_halfM (m := L / 4) (by omega) (by omega) hb (k1 (by omega)) (L / 4) 0 r11 1 0 (by omega) (by decide) N
theorem half_kept (h : TaS σ) (hb : ByO σ 1) (hb' : ByO σ 111) : W_H_half a1 a2 σ (fun _ σ1 => FrTc σ σ1 ∧ W_M_half a1 a2 σ1 (fun _ σ2 => FrTm σ1 σ2 ∧ TaS σ2)) := by
  obtain ⟨⟨t1, t2, t3⟩, t4⟩ := id h
  obtain ⟨L, hL⟩ : ∃ L : Nat, (σ.1 0 1).toInt = (L : Int) := ⟨(σ.1 0 1).toInt.toNat, by omega⟩
  have hL' : (σ.1 110 1).toInt = (L : Int) := by rw [← t1]; exact hL
  refine w_halfC hL (by omega) hb (fun no _ => ⟨FrTc.refl, w_halfM hL' (by omega) hb' (fun _ _ => ⟨FrTm.refl, h⟩) (fun y => absurd y no)⟩) (fun y _ σ1 e1 => ?_)
  have c : ∀ k j, ¬ (k = 0 ∧ j = 1) → σ1.1 k j = σ.1 k j := fun k j q => by rw [← e1, yI_ne q]
  refine ⟨⟨fun k j q _ => c k j q, by rw [← e1, yI_l]⟩, w_halfM (by rw [c 110 1 (by omega)]; exact hL') (by omega) (fun i hi => by rw [c 111 i (by omega)]; exact hb' i hi) (fun no => absurd y no) (fun _ _ σ2 e2 => ?_)⟩
  have d : ∀ k j, ¬ (k = 110 ∧ j = 1) → σ2.1 k j = σ1.1 k j := fun k j q => by rw [← e2, yI_ne q]
  have z2 : σ2.1 110 1 = 0 := by rw [← e2, yI_at]
  have z1 : σ2.1 0 1 = 0 := by rw [d 0 1 (by omega), ← e1, yI_at]
  exact ⟨⟨fun k j q _ => d k j q, by rw [← e2, yI_l]⟩, ⟨by rw [z1, z2], by rw [z1]; decide, by rw [z1]; decide⟩, fun i hi => by rw [d 1 i (by omega), d 111 i (by omega), c 1 i (by omega), c 111 i (by omega)]; exact t4 i hi⟩
/-! joined, the class -/
theorem wl_are49 {m i : Nat} {x1 : Int32} {x2 : Int64} {Q : Int32 → zS → Prop} (hm : m ≤ 10) (hi : i < m) (hb : ByO σ 1) (h1 : x1.toInt = 8 * (i : Int)) (h2 : x2.toInt = ((T4 σ 1 (8 * i) : Nat) : Int)) (N : Nat) (k0 : (∃ j, j < i ∧ T4 σ 1 (8 * j) = T4 σ 1 (8 * i)) → Q 0 σ) (kk : (∀ j, j < i → ¬ T4 σ 1 (8 * j) = T4 σ 1 (8 * i)) → ∀ r : Int32, r.toInt = 8 * (i : Int) + 8 → (WL_H_areHalves N).1 r σ Q) : ∀ (f e : Nat) (x4 : Int32), e + f = i → x4.toInt = 8 * (e : Int) → (∀ j, j < e → ¬ T4 σ 1 (8 * j) = T4 σ 1 (8 * i)) → (WL_H_areHalves (N + f + 1)).2 x1 x2 x4 σ Q
  | 0, e, x4, ee, h4, g => wl_H_areHalves_49 ⟨fun _ => ⟨by omega, fun r hr => kk (by rw [show i = e by omega]; rw [show i = e by omega] at g; exact g) r (by omega)⟩, fun z => absurd (by omega) z⟩
  | f + 1, e, x4, ee, h4, g => by
    show (WL_H_areHalves ((N + f + 1) + 1)).2 x1 x2 x4 σ Q
    refine wl_H_areHalves_49 ⟨fun z => absurd z (by omega), fun _ => w_tapeNumber (n := 8 * e) (by omega) (by omega) hb (fun v hv => ⟨fun q => k0 ⟨e, by omega, by omega⟩, fun q => ⟨by omega, fun r hr => ?_⟩⟩)⟩
    refine wl_are49 hm hi hb h1 h2 N k0 kk f (e + 1) r (by omega) (by omega) (fun j hj => ?_)
    by_cases z : j = e
    · subst z; intro y; exact q (by omega)
    · exact g j (by omega)
theorem wl_are2 {m : Nat} {Q : Int32 → zS → Prop} (hm : m ≤ 10) (hL : (σ.1 0 1).toInt = 8 * (m : Int)) (hb : ByO σ 1) (k1 : (∀ i, i < m → JnI σ 1 i) → Q 1 σ) (k0 : (∃ i, i < m ∧ ¬ JnI σ 1 i) → Q 0 σ) : ∀ (f i : Nat) (x1 : Int32), i + f = m → x1.toInt = 8 * (i : Int) → (∀ j, j < i → JnI σ 1 j) → ∀ N, (WL_H_areHalves (N + f * 12 + 1)).1 x1 σ Q
  | 0, i, x1, e, h1, g, N => wl_H_areHalves_2 ⟨fun _ => k1 (by rw [show m = i by omega]; exact g), fun z => absurd (by omega) z⟩
  | f + 1, i, x1, e, h1, g, N => by
    have hN : N + (f + 1) * 12 = ((N + (10 - i)) + f * 12 + 1) + i + 1 := by omega
    rw [hN]
    refine wl_H_areHalves_2 ⟨fun z => absurd z (by omega), fun _ => w_tapeNumber (n := 8 * i) (by omega) (by omega) hb (fun v hv => ⟨fun q => k0 ⟨i, by omega, fun y => ?_⟩, fun q1 => ⟨fun q => k0 ⟨i, by omega, fun y => ?_⟩, fun q2 => ⟨by omega, fun r5 h5 => w_tapeNumber (n := 8 * i + 4) (by omega) (by omega) hb (fun v6 hv6 => ⟨fun q3 => ?_, fun q => k0 ⟨i, by omega, fun y => ?_⟩⟩)⟩⟩⟩)⟩
    · have := y.1; omega
    · have := y.1; omega
    · exact wl_are49 hm (show i < m by omega) hb h1 hv ((N + (10 - i)) + f * 12 + 1) (fun ⟨j, hj, ej⟩ => k0 ⟨i, by omega, fun y => y.2.2 j hj ej⟩) (fun u r hr => wl_are2 hm hL hb k1 k0 f (i + 1) r (by omega) (by omega) (fun j hj => by
        by_cases z : j = i
        · subst z; exact ⟨⟨by omega, by omega⟩, by omega, u⟩
        · exact g j (by omega)) (N + (10 - i))) i 0 0 (by omega) (by decide) (fun j hj => absurd hj (Nat.not_lt_zero _))
    · have := y.2.1; omega
theorem wl_inverse {Q : Int64 → zS → Prop} (kk : ∀ v : Int64, Q v σ) : ∀ (f i : Nat) (x2 x4 : Int64) (x6 x7 : Int32), i + f = 31 → x7.toInt = (i : Int) → ∀ N, WL_H_inverse (N + f + 1) x2 x4 x6 x7 σ Q
  | 0, i, x2, x4, x6, x7, e, h7, N => wl_H_inverse_13 ⟨fun _ => kk _, fun z => absurd (by omega) z⟩
  | f + 1, i, x2, x4, x6, x7, e, h7, N => wl_H_inverse_13 ⟨fun z => absurd z (by omega), fun _ => ⟨fun _ => ⟨by omega, fun r hr => wl_inverse kk f (i + 1) _ _ x6 r (by omega) (by omega) N⟩, fun _ => ⟨by omega, fun r hr => wl_inverse kk f (i + 1) _ _ x6 r (by omega) (by omega) N⟩⟩⟩
theorem w_inverse {a0 : Int64} {Q : Int64 → zS → Prop} (kk : ∀ v : Int64, Q v σ) : W_H_inverse a0 σ Q := by
  have e : fuF = 99968 + 31 + 1 := by show 100000 = 99968 + 31 + 1; decide
  show WL_H_inverse fuF a0 1 2147483645 0 σ Q
  rw [e]
  exact wl_inverse kk 31 0 _ _ _ 0 (by omega) (by decide) 99968
theorem wl_weightOf {m : Nat} {x1 : Int32} {x2 : Int64} {Q : Int64 → zS → Prop} (hm : m ≤ 10) (hL : (σ.1 0 1).toInt = 8 * (m : Int)) (hb : ByO σ 1) (kk : ∀ v : Int64, Q v σ) : ∀ (f i : Nat) (x4 x6 : Int64) (x8 : Int32), i + f = m → x8.toInt = 8 * (i : Int) → ∀ N, WL_H_weightOf (N + f + 1) x1 x2 x4 x6 x8 σ Q
  | 0, i, x4, x6, x8, e, h8, N => wl_H_weightOf_15 ⟨fun _ => w_inverse (fun _ => kk _), fun z => absurd (by omega) z⟩
  | f + 1, i, x4, x6, x8, e, h8, N => wl_H_weightOf_15 ⟨fun z => absurd z (by omega), fun _ => ⟨fun _ => ⟨by omega, fun r hr => wl_weightOf hm hL hb kk f (i + 1) _ _ r (by omega) (by omega) N⟩, fun _ => w_tapeNumber (n := 8 * i) (by omega) (by omega) hb (fun v _ => ⟨by omega, fun r hr => wl_weightOf hm hL hb kk f (i + 1) _ _ r (by omega) (by omega) N⟩)⟩⟩
theorem w_weightOf {m n : Nat} {Q : Int64 → zS → Prop} (hm : m ≤ 10) (hL : (σ.1 0 1).toInt = 8 * (m : Int)) (h1 : a1.toInt = (n : Int)) (hn : n + 4 ≤ 1200) (hb : ByO σ 1) (kk : ∀ v : Int64, Q v σ) : W_H_weightOf a1 σ Q := by
  obtain ⟨N, hN⟩ : ∃ N, fuF = N + m + 1 := ⟨100000 - (m + 1), by show 100000 = _; omega⟩
  refine w_tapeNumber h1 hn hb (fun v _ => ?_)
  rw [hN]
  exact wl_weightOf hm hL hb kk m 0 1 1 0 (by omega) (by decide) N
theorem wl_joinedC {m : Nat} {Q : Int32 → zS → Prop} (hm : m ≤ 10) (hL : (σ.1 0 1).toInt = 8 * (m : Int)) (hb : ByO σ 1) (kk : ∀ (v : Int32) (τ : zS), zI σ 0 1 0 = τ → Q v τ) : ∀ (f i : Nat) (x1 : Int64) (x3 : Int32), i + f = m → x3.toInt = 8 * (i : Int) → ∀ N, WL_H_joined (N + f + 1) x1 x3 σ Q
  | 0, i, x1, x3, e, h3, N => wl_H_joined_40 ⟨fun _ s es => kk _ s es, fun z => absurd (by omega) z⟩
  | f + 1, i, x1, x3, e, h3, N => wl_H_joined_40 ⟨fun z => absurd z (by omega), fun _ => ⟨by omega, fun r3 hr3 => w_tapeNumber (n := 8 * i + 4) (by omega) (by omega) hb (fun v _ => w_weightOf (n := 8 * i) hm hL (by omega) (by omega) hb (fun v5 => ⟨by omega, fun r6 hr6 => wl_joinedC hm hL hb kk f (i + 1) _ r6 (by omega) (by omega) N⟩))⟩⟩
theorem w_joinedC {L : Nat} {Q : Int32 → zS → Prop} (hL : (σ.1 0 1).toInt = (L : Int)) (hb : ByO σ 1) (k0 : ¬ JnO σ 1 L → ∀ v, Q v σ) (k1 : JnO σ 1 L → ∀ (v : Int32) (τ : zS), zI σ 0 1 0 = τ → Q v τ) : W_H_joined σ Q := by
  refine ⟨by omega, fun r2 h2 => ⟨fun c => ⟨fun d => k0 (fun y => by have := y.1; omega) _, fun d => ⟨fun e => k0 (fun y => by have := y.1; omega) _, fun e => ?_⟩⟩, fun c => k0 (fun y => by have := y.1; omega) _⟩⟩
  obtain ⟨m, hm⟩ : ∃ m, L = 8 * m := ⟨L / 8, by omega⟩
  have hm' : (σ.1 0 1).toInt = 8 * (m : Int) := by omega
  obtain ⟨N, hN⟩ : ∃ N, fuF = N + m * 12 + 1 := ⟨100000 - (m * 12 + 1), by show 100000 = _; omega⟩
  have n0 : (0 : Int32).toInt = 0 := by decide
  have n1 : ¬ (1 : Int32).toInt = 0 := by decide
  show (WL_H_areHalves fuF).1 0 σ _
  rw [hN]
  refine wl_are2 (by omega) hm' hb (fun g => ⟨fun z => absurd z n1, fun _ => ?_⟩) (fun ⟨i, hi, g⟩ => ⟨fun _ => k0 (fun y => g (y.2 i (by omega))) _, fun z => absurd n0 z⟩) m 0 0 (by omega) (by decide) (fun j hj => absurd hj (Nat.not_lt_zero _)) N
  obtain ⟨N2, hN2⟩ : ∃ N2, N + m * 12 + 1 = N2 + m + 1 := ⟨N + m * 11, by omega⟩
  rw [hN2]
  exact wl_joinedC (by omega) hm' hb (k1 ⟨⟨by omega, by omega, by omega⟩, fun i hi => g i (by omega)⟩) m 0 0 0 (by omega) (by decide) N2
/-! joined, the reference -/
theorem wl_power {Q : Int64 → zS → Prop} (kk : ∀ v : Int64, Q v σ) : ∀ (f : Nat) (x4 x6 x8 : Int64), uF x8 < 2 ^ f → f ≤ 31 → ∀ N, WL_M_power (N + f + 1) x4 x6 x8 σ Q
  | 0, x4, x6, x8, h8, hf, N => by
    have z : x8.toInt = ((0 : Nat) : Int) := of_u (by omega) (by omega)
    exact wl_M_power_9 ⟨fun _ => kk _, fun y => absurd (by omega) y⟩
  | f + 1, x4, x6, x8, h8, hf, N => by
    show WL_M_power ((N + f + 1) + 1) x4 x6 x8 σ Q
    have p : (2 : Nat) ^ (f + 1) ≤ 2 ^ 31 := Nat.pow_le_pow_right (by omega) (by omega)
    have e31 : (2 : Nat) ^ 31 = 2147483648 := by decide
    have half : uF (x8 >>> (Int32.toInt64 1 &&& 63)) < 2 ^ f := by
      rw [u_shr (x := x8) (y := 1) (c := 1) (by decide) (by decide) (show uF x8 < 9223372036854775808 by omega)]
      rw [Nat.pow_succ] at h8
      omega
    exact wl_M_power_9 ⟨fun _ => kk _, fun _ => ⟨fun _ => wl_power kk f _ _ _ half (by omega) N, fun _ => wl_power kk f _ _ _ half (by omega) N⟩⟩
theorem w_power {a0 : Int64} {Q : Int64 → zS → Prop} (kk : ∀ v : Int64, Q v σ) : W_M_power a0 2147483645 σ Q := by
  have e : fuF = 99968 + 31 + 1 := by show 100000 = 99968 + 31 + 1; decide
  show WL_M_power fuF 1 a0 2147483645 σ Q
  rw [e]
  exact wl_power kk 31 _ _ _ (by decide) (by omega) 99968
theorem wl_jM134 {m i : Nat} {x1 : Int64} {x3 : Int32} {Q : Int32 → zS → Prop} (hm : m ≤ 10) (hi : i < m) (hL : (σ.1 110 1).toInt = 8 * (m : Int)) (hb : ByO σ 111) (h3 : x3.toInt = 8 * (i : Int)) (N : Nat) (kk : ∀ (v : Int64) (r : Int32), r.toInt = 8 * (i : Int) + 8 → (WL_M_joined N).2.2.1 v r σ Q) : ∀ (f j : Nat) (x4 x6 : Int64) (x8 : Int32), j + f = m → x8.toInt = 8 * (j : Int) → (WL_M_joined (N + f + 1)).2.2.2 x1 x3 x4 x6 x8 σ Q
  | 0, j, x4, x6, x8, e, h8 => wl_M_joined_134 ⟨fun _ => w_power (fun v => ⟨by omega, fun r hr => kk _ r (by omega)⟩), fun z => absurd (by omega) z⟩
  | f + 1, j, x4, x6, x8, e, h8 => by
    show (WL_M_joined ((N + f + 1) + 1)).2.2.2 x1 x3 x4 x6 x8 σ Q
    refine wl_M_joined_134 ⟨fun z => absurd z (by omega), fun _ => ⟨fun _ => ⟨by omega, fun r hr => wl_jM134 hm hi hL hb h3 N kk f (j + 1) _ _ r (by omega) (by omega)⟩, fun _ => ?_⟩⟩
    refine w_fourAt (n := 8 * j) (by omega) (by omega) hb (fun _ _ => w_fourAt (n := 8 * j) (by omega) (by omega) hb (fun _ _ => w_fourAt (n := 8 * i) (by omega) (by omega) hb (fun _ _ => ⟨by omega, fun r hr => wl_jM134 hm hi hL hb h3 N kk f (j + 1) _ _ r (by omega) (by omega)⟩)))
theorem wl_jM111 {m : Nat} {Q : Int32 → zS → Prop} (hm : m ≤ 10) (hL : (σ.1 110 1).toInt = 8 * (m : Int)) (hb : ByO σ 111) (kk : ∀ (v : Int32) (τ : zS), zI σ 110 1 0 = τ → Q v τ) : ∀ (f i : Nat) (x1 : Int64) (x3 : Int32), i + f = m → x3.toInt = 8 * (i : Int) → ∀ N, (WL_M_joined (N + f * 12 + 1)).2.2.1 x1 x3 σ Q
  | 0, i, x1, x3, e, h3, N => wl_M_joined_111 ⟨fun _ s es => kk _ s es, fun z => absurd (by omega) z⟩
  | f + 1, i, x1, x3, e, h3, N => by
    have hN : N + (f + 1) * 12 = ((N + (10 - m)) + f * 12 + 1) + m + 1 := by omega
    rw [hN]
    refine wl_M_joined_111 ⟨fun z => absurd z (by omega), fun _ => ⟨by omega, fun r3 hr3 => w_fourAt (n := 8 * i + 4) (by omega) (by omega) hb (fun v _ => ?_)⟩⟩
    exact wl_jM134 hm (show i < m by omega) hL hb h3 ((N + (10 - m)) + f * 12 + 1) (fun v' r hr => wl_jM111 hm hL hb kk f (i + 1) v' r (by omega) (by omega) (N + (10 - m))) m 0 _ _ 0 (by omega) (by decide)
theorem wl_jM73 {m i : Nat} {x1 : Int32} {Q : Int32 → zS → Prop} (hm : m ≤ 10) (hi : i < m) (hb : ByO σ 111) (h1 : x1.toInt = 8 * (i : Int)) (N : Nat) (k0 : (∃ j, j < i ∧ T4 σ 111 (8 * j) = T4 σ 111 (8 * i)) → Q (-2) σ) (kk : (∀ j, j < i → ¬ T4 σ 111 (8 * j) = T4 σ 111 (8 * i)) → ∀ r : Int32, r.toInt = 8 * (i : Int) + 8 → (WL_M_joined N).1 r σ Q) : ∀ (f e : Nat) (x2 : Int32), e + f = i → x2.toInt = 8 * (e : Int) → (∀ j, j < e → ¬ T4 σ 111 (8 * j) = T4 σ 111 (8 * i)) → (WL_M_joined (N + f + 1)).2.1 x1 x2 σ Q
  | 0, e, x2, ee, h2, g => wl_M_joined_73 ⟨fun _ => ⟨by omega, fun r hr => kk (by rw [show i = e by omega]; rw [show i = e by omega] at g; exact g) r (by omega)⟩, fun z => absurd (by omega) z⟩
  | f + 1, e, x2, ee, h2, g => by
    show (WL_M_joined ((N + f + 1) + 1)).2.1 x1 x2 σ Q
    refine wl_M_joined_73 ⟨fun z => absurd z (by omega), fun _ => w_fourAt (n := 8 * e) (by omega) (by omega) hb (fun v hv => w_fourAt (n := 8 * i) (by omega) (by omega) hb (fun v4 hv4 => ⟨fun q => k0 ⟨e, by omega, by omega⟩, fun q => ⟨by omega, fun r hr => ?_⟩⟩))⟩
    refine wl_jM73 hm hi hb h1 N k0 kk f (e + 1) r (by omega) (by omega) (fun j hj => ?_)
    by_cases z : j = e
    · subst z; intro y; exact q (by omega)
    · exact g j (by omega)
theorem wl_jM31 {m : Nat} {Q : Int32 → zS → Prop} (hm : m ≤ 10) (hL : (σ.1 110 1).toInt = 8 * (m : Int)) (hb : ByO σ 111) (k1 : (∀ i, i < m → JnI σ 111 i) → ∀ N, 200 ≤ N → (WL_M_joined N).2.2.1 0 0 σ Q) (k0 : (∃ i, i < m ∧ ¬ JnI σ 111 i) → Q (-2) σ) : ∀ (f i : Nat) (x1 : Int32), i + f = m → x1.toInt = 8 * (i : Int) → (∀ j, j < i → JnI σ 111 j) → ∀ N, 200 ≤ N → (WL_M_joined (N + f * 12 + 1)).1 x1 σ Q
  | 0, i, x1, e, h1, g, N, gN => wl_M_joined_31 ⟨fun _ => k1 (by rw [show m = i by omega]; exact g) _ (by omega), fun z => absurd (by omega) z⟩
  | f + 1, i, x1, e, h1, g, N, gN => by
    have hN : N + (f + 1) * 12 = ((N + (10 - i)) + f * 12 + 1) + i + 1 := by omega
    have n0 : (0 : Int32).toInt = 0 := by decide
    have n1 : ¬ (1 : Int32).toInt = 0 := by decide
    rw [hN]
    refine wl_M_joined_31 ⟨fun z => absurd z (by omega), fun _ => w_fourAt (n := 8 * i) (by omega) (by omega) hb (fun v hv => w_inN (l := 1) (u := 1000) hv (by decide) (by decide) (fun q1 => ⟨fun z => absurd z n1, fun _ => ⟨by omega, fun r5 h5 => w_fourAt (n := 8 * i + 4) (by omega) (by omega) hb (fun v6 hv6 => ⟨fun q3 => ?_, fun q => k0 ⟨i, by omega, fun y => ?_⟩⟩)⟩⟩) (fun q => ⟨fun _ => k0 ⟨i, by omega, fun y => ?_⟩, fun z => absurd n0 z⟩))⟩
    · exact wl_jM73 hm (show i < m by omega) hb h1 ((N + (10 - i)) + f * 12 + 1) (fun ⟨j, hj, ej⟩ => k0 ⟨i, by omega, fun y => y.2.2 j hj ej⟩) (fun u r hr => wl_jM31 hm hL hb k1 k0 f (i + 1) r (by omega) (by omega) (fun j hj => by
        by_cases z : j = i
        · subst z; exact ⟨⟨by omega, by omega⟩, by omega, u⟩
        · exact g j (by omega)) (N + (10 - i)) (by omega)) i 0 0 (by omega) (by decide) (fun j hj => absurd hj (Nat.not_lt_zero _))
    · have := y.2.1; omega
    · have := y.1; omega
theorem w_joinedM {L : Nat} {Q : Int32 → zS → Prop} (hL : (σ.1 110 1).toInt = (L : Int)) (hb : ByO σ 111) (k0 : ¬ JnO σ 111 L → ∀ v, Q v σ) (k1 : JnO σ 111 L → ∀ (v : Int32) (τ : zS), zI σ 110 1 0 = τ → Q v τ) : W_M_joined σ Q := by
  refine ⟨by omega, fun r2 h2 => ⟨fun c => ⟨fun d => k0 (fun y => by have := y.1; omega) _, fun d => ⟨fun e => ?_, fun e => k0 (fun y => by have := y.1; omega) _⟩⟩, fun c => k0 (fun y => by have := y.1; omega) _⟩⟩
  obtain ⟨m, hm⟩ : ∃ m, L = 8 * m := ⟨L / 8, by omega⟩
  have hm' : (σ.1 110 1).toInt = 8 * (m : Int) := by omega
  obtain ⟨N, hN, gN⟩ : ∃ N, fuF = N + m * 12 + 1 ∧ 200 ≤ N := ⟨100000 - (m * 12 + 1), by show 100000 = _; omega, by omega⟩
  rw [hN]
  refine wl_jM31 (by omega) hm' hb (fun g N' gN' => ?_) (fun ⟨i, hi, g⟩ => k0 (fun y => g (y.2 i (by omega))) _) m 0 0 (by omega) (by decide) (fun j hj => absurd hj (Nat.not_lt_zero _)) N gN
  obtain ⟨N2, hN2⟩ : ∃ N2, N' = N2 + m * 12 + 1 := ⟨N' - (m * 12 + 1), by omega⟩
  rw [hN2]
  exact wl_jM111 (by omega) hm' hb (k1 ⟨⟨by omega, by omega, by omega⟩, fun i hi => g i (by omega)⟩) m 0 0 0 (by omega) (by decide) N2
theorem joined_kept (h : TaS σ) (hb : ByO σ 1) (hb' : ByO σ 111) : W_H_joined σ (fun _ σ1 => FrTc σ σ1 ∧ W_M_joined σ1 (fun _ σ2 => FrTm σ1 σ2 ∧ TaS σ2)) := by
  obtain ⟨⟨t1, t2, t3⟩, t4⟩ := id h
  obtain ⟨L, hL⟩ : ∃ L : Nat, (σ.1 0 1).toInt = (L : Int) := ⟨(σ.1 0 1).toInt.toNat, by omega⟩
  have hL' : (σ.1 110 1).toInt = (L : Int) := by rw [← t1]; exact hL
  refine w_joinedC hL hb (fun no _ => ⟨FrTc.refl, w_joinedM hL' hb' (fun _ _ => ⟨FrTm.refl, h⟩) (fun y => absurd (jn_cg (fun i hi => t4 i hi) y) no)⟩) (fun y _ σ1 e1 => ?_)
  have c : ∀ k j, ¬ (k = 0 ∧ j = 1) → σ1.1 k j = σ.1 k j := fun k j q => by rw [← e1, yI_ne q]
  refine ⟨⟨fun k j q _ => c k j q, by rw [← e1, yI_l]⟩, w_joinedM (by rw [c 110 1 (by omega)]; exact hL') (fun i hi => by rw [c 111 i (by omega)]; exact hb' i hi) (fun no => absurd (jn_cg (fun i hi => by rw [c 111 i (by omega)]; exact (t4 i hi).symm) y) no) (fun _ _ σ2 e2 => ?_)⟩
  have d : ∀ k j, ¬ (k = 110 ∧ j = 1) → σ2.1 k j = σ1.1 k j := fun k j q => by rw [← e2, yI_ne q]
  have z2 : σ2.1 110 1 = 0 := by rw [← e2, yI_at]
  have z1 : σ2.1 0 1 = 0 := by rw [d 0 1 (by omega), ← e1, yI_at]
  exact ⟨⟨fun k j q _ => d k j q, by rw [← e2, yI_l]⟩, ⟨by rw [z1, z2], by rw [z1]; decide, by rw [z1]; decide⟩, fun i hi => by rw [d 1 i (by omega), d 111 i (by omega), c 1 i (by omega), c 111 i (by omega)]; exact t4 i hi⟩
end N23
/-! ===== N24: policy, on both sides ===== -/
noncomputable def FrPc (σ τ : zS) : Prop := (∀ k j, ¬ (k = 0 ∧ j = 1) → ¬ (17 ≤ k ∧ k ≤ 25) → τ.1 k j = σ.1 k j) ∧ ∀ k j, k ≠ 22 → k ≠ 26 → τ.2 k j = σ.2 k j
noncomputable def FrPm (σ τ : zS) : Prop := (∀ k j, ¬ (k = 110 ∧ (j = 1 ∨ j = 32 ∨ j = 46 ∨ j = 52 ∨ j = 56 ∨ j = 57 ∨ (27 ≤ j ∧ j ≤ 30) ∨ (58 ≤ j ∧ j ≤ 61))) → ¬ (130 ≤ k ∧ k ≤ 141) → ¬ (143 ≤ k ∧ k ≤ 150) → τ.1 k j = σ.1 k j) ∧ ∀ k j, k ≠ 142 → ¬ (k = 110 ∧ j = 31) → τ.2 k j = σ.2 k j
/-- P policies stand, the same on both sides -/
noncomputable def PlS (σ : zS) (P : Nat) : Prop := ((σ.1 17 0).toInt = (P : Int) ∧ (σ.1 110 32).toInt = (P : Int)) ∧ P ≤ 8 ∧ ∀ p, p < P → PoSa σ p
section N24
variable {σ τ : zS} {a1 : Int32} {P : Nat}
theorem FrPc.refl : FrPc σ σ := ⟨fun _ _ _ _ => rfl, fun _ _ _ _ => rfl⟩
theorem FrPm.refl : FrPm σ σ := ⟨fun _ _ _ _ _ => rfl, fun _ _ _ _ => rfl⟩
theorem BgR.k (h : BgR σ τ) (k j : Nat) (q : ¬ (k = 110 ∧ j = 26)) (q2 : ¬ ((k = 125 ∨ k = 126) ∧ j = 0)) (q3 : k ≠ 129) : τ.1 k j = σ.1 k j := by
  rcases h with ⟨_, e⟩ | ⟨_, h1, _⟩
  · rw [e]
  · exact h1 k j q q2 (fun z => q3 z.1)
theorem BgR.l (h : BgR σ τ) : τ.2 = σ.2 := by
  rcases h with ⟨_, e⟩ | ⟨_, _, h2, _⟩
  · rw [e]
  · exact h2
theorem FrO.pm {pol : Nat} (h : FrO pol σ τ) : FrPm σ τ := ⟨fun k j q q2 q3 => h.1 k j q (by omega) (by omega) q3 (by omega), fun k j q q2 => h.2 k j (by omega) q2⟩
theorem PoSa.bg {p : Nat} (h : BgR σ τ) (q : PoSa σ p) : PoSa τ p := q.cg (fun j _ => h.k 20 j (by omega) (by omega) (by omega)) (fun i _ => ⟨h.k 21 i (by omega) (by omega) (by omega), by rw [h.l]⟩) (fun k j q1 q2 _ => h.k k j (by omega) (by omega) (by omega)) (fun j _ => ⟨h.k 141 j (by omega) (by omega) (by omega), by rw [h.l]⟩) ⟨h.k 18 p (by omega) (by omega) (by omega), h.k 19 p (by omega) (by omega) (by omega), h.k 130 p (by omega) (by omega) (by omega), h.k 131 p (by omega) (by omega) (by omega)⟩
theorem policy_same (hT : TaS σ) (hb : ByO σ 1) (hP : PlS σ P) (hg : rgF σ) (hw : WdB σ) (hG : (σ.1 5 1).toInt = (σ.1 110 7).toInt ∧ 0 ≤ (σ.1 110 7).toInt ∧ (σ.1 110 7).toInt ≤ 16) : W_H_policy a1 σ (fun _ σ1 => FrPc σ σ1 ∧ W_M_policy a1 σ1 (fun _ σ2 => TaS σ2 ∧ (∃ s, BgR σ1 s ∧ FrPm s σ2) ∧ ∃ P', P ≤ P' ∧ PlS σ2 P')) := by
  have n0 : (0 : Int32).toInt = 0 := by decide
  have n1 : ¬ (1 : Int32).toInt = 0 := by decide
  obtain ⟨⟨t1, t2, t3⟩, t4⟩ := id hT
  obtain ⟨⟨w1, w2, w3⟩, w4, w5⟩ := id hw
  obtain ⟨⟨p1, p2⟩, p3, p4⟩ := id hP
  obtain ⟨L, hL⟩ : ∃ L : Nat, (σ.1 0 1).toInt = (L : Int) := ⟨(σ.1 0 1).toInt.toNat, by omega⟩
  have hL' : (σ.1 110 1).toInt = (L : Int) := by rw [← t1]; exact hL
  obtain ⟨X, hX1, hX2⟩ : ∃ X : Txt, X.2 = L ∧ ∀ p, X.1 p = (σ.1 1 p).toInt := ⟨(fun p => (σ.1 1 p).toInt, L), rfl, fun _ => rfl⟩
  obtain ⟨w, v1, v2, v3⟩ : ∃ w : Wld, w.1 = (σ.1 5 0).toInt ∧ w.2.1 = (σ.1 5 1).toInt ∧ ∀ t : Nat, w.2.2 (t : Int) = true ↔ (t : Int) < (σ.1 10 0).toInt ∧ (σ.1 14 t).toInt = 0 := ⟨((σ.1 5 0).toInt, ((σ.1 5 1).toInt, fun t => decide (t < (σ.1 10 0).toInt ∧ (σ.1 14 t.toNat).toInt = 0))), rfl, rfl, fun t => by
    show decide ((t : Int) < (σ.1 10 0).toInt ∧ (σ.1 14 (t : Int).toNat).toInt = 0) = true ↔ _
    rw [decide_eq_true_iff, Int.toNat_natCast]⟩
  -- where nothing is read: too many, or no such way
  have fin : ∀ s, BgR σ s → (TaS s ∧ (∃ s', BgR σ s' ∧ FrPm s' s) ∧ ∃ P', P ≤ P' ∧ PlS s P') := fun s bg => ⟨⟨⟨by rw [bg.k 0 1 (by omega) (by omega) (by omega), bg.k 110 1 (by omega) (by omega) (by omega)]; exact t1, by rw [bg.k 0 1 (by omega) (by omega) (by omega)]; exact t2, by rw [bg.k 0 1 (by omega) (by omega) (by omega)]; exact t3⟩, fun i hi => by rw [bg.k 1 i (by omega) (by omega) (by omega), bg.k 111 i (by omega) (by omega) (by omega)]; exact t4 i hi⟩, ⟨s, bg, FrPm.refl⟩, P, Nat.le_refl _, ⟨by rw [bg.k 17 0 (by omega) (by omega) (by omega)]; exact p1, by rw [bg.k 110 32 (by omega) (by omega) (by omega)]; exact p2⟩, p3, fun p hp => (p4 p hp).bg bg⟩
  have bad : ¬ (0 ≤ a1.toInt ∧ a1.toInt ≤ 3) → W_M_policy a1 σ (fun _ σ2 => TaS σ2 ∧ (∃ s, BgR σ s ∧ FrPm s σ2) ∧ ∃ P', P ≤ P' ∧ PlS σ2 P') := fun no => w_begins (fun s bg r2 h2 => w_inN (l := 0) (u := 3) h2 (by decide) (by decide) (fun q => absurd q no) (fun _ => ⟨fun _ => fin s bg, fun z => absurd n0 z⟩))
  refine ⟨fun c => ⟨FrPc.refl, bad (by omega)⟩, fun c => ⟨fun d => ⟨fun e s4 e4 => ?_, fun e => ⟨FrPc.refl, w_begins (fun s bg r2 h2 => w_inN (l := 0) (u := 3) h2 (by decide) (by decide) (fun q => ⟨fun z => absurd z n1, fun _ => ⟨fun _ => fin s bg, fun z => absurd (by rw [bg.k 110 32 (by omega) (by omega) (by omega)]; omega) z⟩⟩) (fun q => absurd (by omega) q))⟩⟩, fun d => ⟨FrPc.refl, bad (by omega)⟩⟩⟩
  have c4 : ∀ k j, ¬ (k = 0 ∧ j = 1) → s4.1 k j = σ.1 k j := fun k j q => by rw [← e4, yI_ne q]
  have l4 : s4.2 = σ.2 := by rw [← e4, yI_l]
  have z4 : s4.1 0 1 = 0 := by rw [← e4, yI_at]
  have hP8 : P < 8 := by omega
  -- the reference's text and world
  have txM : ∀ s : zS, (∀ k j, 110 ≤ k → k ≠ 125 → k ≠ 126 → k ≠ 129 → ¬ (k = 110 ∧ j = 26) → s.1 k j = σ.1 k j) → TxM s X ∧ WlM s w := fun s f => by
    refine ⟨⟨⟨by rw [f 110 1 (by omega) (by omega) (by omega) (by omega) (by omega), hX1]; exact hL', by omega⟩, fun p hp => ?_⟩, ⟨?_, ?_, ?_⟩, ⟨?_, ?_, ?_⟩, ⟨?_, ?_⟩, fun t => ?_⟩
    · have hb' := hb p (by omega)
      rw [f 111 p (by omega) (by omega) (by omega) (by omega) (by omega), ← t4 p (by omega), hX2]
      exact ⟨rfl, hb'.1, hb'.2⟩
    · rw [f 110 6 (by omega) (by omega) (by omega) (by omega) (by omega)]; omega
    · omega
    · omega
    · rw [f 110 7 (by omega) (by omega) (by omega) (by omega) (by omega)]; omega
    · omega
    · omega
    · rw [f 110 20 (by omega) (by omega) (by omega) (by omega) (by omega)]; omega
    · rw [f 110 20 (by omega) (by omega) (by omega) (by omega) (by omega)]; omega
    · rw [v3 t, f 110 20 (by omega) (by omega) (by omega) (by omega) (by omega), f 128 t (by omega) (by omega) (by omega) (by omega) (by omega), w2]
      by_cases h40 : t < 40
      · rw [w3 t h40]
      · exact ⟨fun z => absurd z.1 (by omega), fun z => absurd z.1 (by omega)⟩
  have run : ∀ {σ1 : zS} {Q : Int32 → zS → Prop}, (∀ s, BgR σ1 s → W_M_policy a1 s Q) → W_M_policy a1 σ1 Q := fun h => w_begins (fun s bg => (h s bg).2 bg.on)
  refine w_read (X := X) (w := w) (pol := P) ⟨by omega, fun p hp => ?_⟩ ⟨?_, ?_, ?_, fun t => ?_⟩ (by rw [hX1]; exact hL) (by unfold rgF at hg ⊢; rw [c4 17 16 (by omega)]; exact hg) hP8 (by rw [c4 17 0 (by omega)]; exact p1) (fun τ υ c1 f17 fe ru g1 g30 po fr2 l2 e18 e19 e17 => ⟨fun _ => ⟨by omega, fun r8 h8 => ?_⟩, fun z => absurd (by decide) z⟩) (fun v τ f f17 fe v0 v1200 po => ⟨fun z => absurd z (by omega), fun _ => ⟨by omega, fun r7 h7 => ?_⟩⟩)
  · rw [c4 1 p (by omega), hX2]
    have := hb p (by omega)
    exact ⟨rfl, this.1, this.2⟩
  · rw [c4 5 0 (by omega)]; exact v1.symm
  · rw [c4 5 1 (by omega)]; exact v2.symm
  · rw [c4 10 0 (by omega)]; omega
  · rw [c4 10 0 (by omega), c4 14 t (by omega)]; exact v3 t
  · -- both have read it
    have cu : ∀ k j, ¬ (k = 0 ∧ j = 1) → ¬ (17 ≤ k ∧ k ≤ 25) → υ.1 k j = σ.1 k j := fun k j q q2 => by rw [fr2 k j (by omega) (by omega) (by omega), f17.1 k j (by omega) (by omega) (by omega) (by omega) (by omega) (by omega), c4 k j q]
    have cl : ∀ k j, k ≠ 22 → k ≠ 26 → υ.2 k j = σ.2 k j := fun k j q q2 => by rw [l2, f17.2.2.2 k j q q2, l4]
    refine ⟨⟨cu, cl⟩, run (fun s bg => ?_)⟩
    have cs : ∀ k j, ¬ (k = 0 ∧ j = 1) → ¬ (17 ≤ k ∧ k ≤ 25) → k ≠ 125 → k ≠ 126 → k ≠ 129 → ¬ (k = 110 ∧ j = 26) → s.1 k j = σ.1 k j := fun k j q q2 q3 q4 q5 q6 => by rw [bg.k k j q6 (by omega) q5, cu k j q q2]
    obtain ⟨tx, wl⟩ := txM s (fun k j q q2 q3 q4 q5 => cs k j (by omega) (by omega) q2 q3 q4 q5)
    refine w_policyM (X := X) (w := w) (pol := P) bg.on tx wl p3 (by rw [cs 110 32 (by omega) (by omega) (by omega) (by omega) (by omega) (by omega)]; exact p2) po (fun z => absurd (by omega) z) (fun _ z => absurd z (by omega)) (fun υ' v' c' _ _ fo m1 m32 m130 m131 ruM _ _ ec _ => ?_) (fun υ' v' f' _ _ fo m1 m32 er _ => by cases er)
    obtain rfl : c1 = c' := by injection ec
    have fu : ∀ k j, k < 110 → υ'.1 k j = υ.1 k j := fun k j q => by rw [fo.1 k j (by omega) (by omega) (by omega) (by omega) (by omega), bg.k k j (by omega) (by omega) (by omega)]
    have fl : ∀ k j, k < 110 → υ'.2 k j = υ.2 k j := fun k j q => by rw [fo.2 k j (by omega) (by omega), bg.l]
    have u01 : υ'.1 0 1 = 0 := by rw [fu 0 1 (by omega), fr2 0 1 (by omega) (by omega) (by omega), f17.1 0 1 (by omega) (by omega) (by omega) (by omega) (by omega) (by omega), z4]
    refine ⟨⟨⟨?_, by rw [u01]; decide, by rw [u01]; decide⟩, fun i hi => ?_⟩, ⟨s, bg, fo.pm⟩, P + 1, Nat.le_succ _, ⟨by rw [fu 17 0 (by omega), e17]; omega, by rw [m32]; omega⟩, by omega, fun p hp => ?_⟩
    · rw [u01]; exact (Int32.toInt_inj.mp (by rw [m1]; decide)).symm
    · rw [fu 1 i (by omega), fo.1 111 i (by omega) (by omega) (by omega) (by omega) (by omega), cs 111 i (by omega) (by omega) (by omega) (by omega) (by omega) (by omega), cu 1 i (by omega) (by omega)]
      exact t4 i hi
    · by_cases z : p = P
      · subst z
        refine ⟨X, w, c1, ru.cg (fun j _ => ?_) (fun i _ => ?_), ruM, ⟨by rw [fu 19 p (by omega)]; exact e19, m131⟩, g30, by rw [fu 18 p (by omega), e18, m130]⟩
        · rw [fu 20 j (by omega), fr2 20 j (by omega) (by omega) (by omega)]
        · show ((τ.1 21 i).toInt.toNat, (τ.2 22 i).toInt) = ((υ'.1 21 i).toInt.toNat, (υ'.2 22 i).toInt)
          rw [fu 21 i (by omega), fl 22 i (by omega), fr2 21 i (by omega) (by omega) (by omega), l2]
      · have hp' : p < P := by omega
        refine (p4 p hp').cg (fun j hj => ?_) (fun i hi => ⟨?_, ?_⟩) (fun k j q1 q2 q3 => ?_) (fun j hj => ⟨?_, ?_⟩) ⟨?_, ?_, ?_, ?_⟩
        · rw [fu 20 j (by omega), fr2 20 j (by omega) (by omega) (by omega), f17.2.1 j (by omega), c4 20 j (by omega)]
        · rw [fu 21 i (by omega), fr2 21 i (by omega) (by omega) (by omega), (f17.2.2.1 i (by omega)).1, c4 21 i (by omega)]
        · rw [fl 22 i (by omega), l2, (f17.2.2.1 i (by omega)).2, l4]
        · rw [fo.1 k j (by omega) (by omega) (by omega) (by omega) (by omega), cs k j (by omega) (by omega) (by omega) (by omega) (by omega) (by omega)]
        · rw [fo.1 141 j (by omega) (by omega) (by omega) (by omega) (by omega), cs 141 j (by omega) (by omega) (by omega) (by omega) (by omega) (by omega)]
        · rw [fo.2 142 j (by omega) (by omega), bg.l, cl 142 j (by omega) (by omega)]
        · rw [fu 18 p (by omega), fr2 18 p (by omega) (by omega) (by omega), f17.1 18 p (by omega) (by omega) (by omega) (by omega) (by omega) (by omega), c4 18 p (by omega)]
        · rw [fu 19 p (by omega), fr2 19 p (by omega) (by omega) (by omega), f17.1 19 p (by omega) (by omega) (by omega) (by omega) (by omega) (by omega), c4 19 p (by omega)]
        · rw [fo.1 130 p (by omega) (by omega) (by omega) (by omega) (by omega), cs 130 p (by omega) (by omega) (by omega) (by omega) (by omega) (by omega)]
        · rw [fo.1 131 p (by omega) (by omega) (by omega) (by omega) (by omega), cs 131 p (by omega) (by omega) (by omega) (by omega) (by omega) (by omega)]
  · -- both find a fault
    have cu : ∀ k j, ¬ (k = 0 ∧ j = 1) → ¬ (17 ≤ k ∧ k ≤ 25) → τ.1 k j = σ.1 k j := fun k j q q2 => by rw [f17.1 k j (by omega) (by omega) (by omega) (by omega) (by omega) (by omega), c4 k j q]
    have cl : ∀ k j, k ≠ 22 → k ≠ 26 → τ.2 k j = σ.2 k j := fun k j q q2 => by rw [f17.2.2.2 k j q q2, l4]
    refine ⟨⟨cu, cl⟩, run (fun s bg => ?_)⟩
    have cs : ∀ k j, ¬ (k = 0 ∧ j = 1) → ¬ (17 ≤ k ∧ k ≤ 25) → k ≠ 125 → k ≠ 126 → k ≠ 129 → ¬ (k = 110 ∧ j = 26) → s.1 k j = σ.1 k j := fun k j q q2 q3 q4 q5 q6 => by rw [bg.k k j q6 (by omega) q5, cu k j q q2]
    obtain ⟨tx, wl⟩ := txM s (fun k j q q2 q3 q4 q5 => cs k j (by omega) (by omega) q2 q3 q4 q5)
    refine w_policyM (X := X) (w := w) (pol := P) bg.on tx wl p3 (by rw [cs 110 32 (by omega) (by omega) (by omega) (by omega) (by omega) (by omega)]; exact p2) po (fun z => absurd (by omega) z) (fun _ z => absurd z (by omega)) (fun υ' v' c' _ _ fo m1 m32 m130 m131 ruM _ _ ec _ => by cases ec) (fun υ' v' f' _ _ fo m1 m32 er _ => ?_)
    have fu : ∀ k j, k < 110 → υ'.1 k j = τ.1 k j := fun k j q => by rw [fo.1 k j (by omega) (by omega) (by omega) (by omega) (by omega), bg.k k j (by omega) (by omega) (by omega)]
    have fl : ∀ k j, k < 110 → υ'.2 k j = τ.2 k j := fun k j q => by rw [fo.2 k j (by omega) (by omega), bg.l]
    have u01 : υ'.1 0 1 = 0 := by rw [fu 0 1 (by omega), f17.1 0 1 (by omega) (by omega) (by omega) (by omega) (by omega) (by omega), z4]
    refine ⟨⟨⟨?_, by rw [u01]; decide, by rw [u01]; decide⟩, fun i hi => ?_⟩, ⟨s, bg, fo.pm⟩, P, Nat.le_refl _, ⟨?_, ?_⟩, p3, fun p hp => ?_⟩
    · rw [u01]; exact (Int32.toInt_inj.mp (by rw [m1]; decide)).symm
    · rw [fu 1 i (by omega), fo.1 111 i (by omega) (by omega) (by omega) (by omega) (by omega), cs 111 i (by omega) (by omega) (by omega) (by omega) (by omega) (by omega), cu 1 i (by omega) (by omega)]
      exact t4 i hi
    · rw [fu 17 0 (by omega), fe, c4 17 0 (by omega)]; exact p1
    · rw [m32, cs 110 32 (by omega) (by omega) (by omega) (by omega) (by omega) (by omega)]; exact p2
    · refine (p4 p hp).cg (fun j hj => ?_) (fun i hi => ⟨?_, ?_⟩) (fun k j q1 q2 q3 => ?_) (fun j hj => ⟨?_, ?_⟩) ⟨?_, ?_, ?_, ?_⟩
      · rw [fu 20 j (by omega), f17.2.1 j (by omega), c4 20 j (by omega)]
      · rw [fu 21 i (by omega), (f17.2.2.1 i (by omega)).1, c4 21 i (by omega)]
      · rw [fl 22 i (by omega), (f17.2.2.1 i (by omega)).2, l4]
      · rw [fo.1 k j (by omega) (by omega) (by omega) (by omega) (by omega), cs k j (by omega) (by omega) (by omega) (by omega) (by omega) (by omega)]
      · rw [fo.1 141 j (by omega) (by omega) (by omega) (by omega) (by omega), cs 141 j (by omega) (by omega) (by omega) (by omega) (by omega) (by omega)]
      · rw [fo.2 142 j (by omega) (by omega), bg.l, cl 142 j (by omega) (by omega)]
      · rw [fu 18 p (by omega), f17.1 18 p (by omega) (by omega) (by omega) (by omega) (by omega) (by omega), c4 18 p (by omega)]
      · rw [fu 19 p (by omega), f17.1 19 p (by omega) (by omega) (by omega) (by omega) (by omega) (by omega), c4 19 p (by omega)]
      · rw [fo.1 130 p (by omega) (by omega) (by omega) (by omega) (by omega), cs 130 p (by omega) (by omega) (by omega) (by omega) (by omega) (by omega)]
      · rw [fo.1 131 p (by omega) (by omega) (by omega) (by omega) (by omega), cs 131 p (by omega) (by omega) (by omega) (by omega) (by omega) (by omega)]
end N24
/-! ===== N25: ask and could where nothing has begun: no policy stands, so none is in force ===== -/
noncomputable def W0 (σ : zS) (n P : Nat) : Prop := Wg σ n ∧ (σ.1 0 2 = σ.1 110 0 ∧ 0 ≤ (σ.1 110 0).toInt ∧ (σ.1 110 0).toInt ≤ 1000000000) ∧ (σ.1 5 0 = σ.1 110 6 ∧ 0 ≤ (σ.1 110 6).toInt ∧ (σ.1 110 6).toInt ≤ 20) ∧ (σ.1 10 0 = σ.1 110 20 ∧ 0 ≤ (σ.1 110 20).toInt ∧ (σ.1 110 20).toInt ≤ 40) ∧ (∀ u, u < 40 → ((σ.1 14 u).toInt = 0 ↔ (σ.1 128 u).toInt = 0)) ∧ FoS σ 0 P ∧ (0 ≤ (σ.1 0 7).toInt ∧ (σ.1 0 7).toInt ≤ 300) ∧ 0 ≤ (σ.1 110 3).toInt ∧ (σ.1 110 3).toInt ≤ 300
/-- what the reference's looks need of it -/
noncomputable def KpM (σ μ : zS) : Prop := (∀ k j, 114 ≤ k → k ≤ 119 → μ.1 k j = σ.1 k j) ∧ μ.1 110 8 = σ.1 110 8 ∧ μ.1 110 6 = σ.1 110 6 ∧ μ.1 110 0 = σ.1 110 0
section N25
variable {ω : Bool} {σ τ μ : zS} {n P : Nat}
theorem KpM.refl : KpM σ σ := ⟨fun _ _ _ _ => rfl, rfl, rfl, rfl⟩
theorem KpM.tr {a b c : zS} (h : KpM a b) (h' : KpM b c) : KpM a c := ⟨fun k j q q2 => (h'.1 k j q q2).trans (h.1 k j q q2), h'.2.1.trans h.2.1, h'.2.2.1.trans h.2.2.1, h'.2.2.2.trans h.2.2.2⟩
theorem FrMa.kp (h : FrMa ω σ τ) : KpM σ τ := ⟨fun k j q q2 => h.1 k j (by omega) (by omega) (by omega) (by omega) (by omega) (fun _ => by omega), h.1 110 8 (by omega) (by omega) (by omega) (by omega) (by omega) (fun _ => by omega), h.1 110 6 (by omega) (by omega) (by omega) (by omega) (by omega) (fun _ => by omega), h.1 110 0 (by omega) (by omega) (by omega) (by omega) (by omega) (fun _ => by omega)⟩
theorem BgR.kp (h : BgR σ τ) : KpM σ τ := ⟨fun k j q q2 => h.k k j (by omega) (by omega) (by omega), h.k 110 8 (by omega) (by omega) (by omega), h.k 110 6 (by omega) (by omega) (by omega), h.k 110 0 (by omega) (by omega) (by omega)⟩
theorem RwM.kp (h : KpM σ τ) (q : RwM σ n) : RwM τ n := by
  obtain ⟨⟨b1, b2⟩, b3⟩ := q
  refine ⟨⟨by rw [h.2.1]; exact b1, b2⟩, fun r hr => ?_⟩
  have b := b3 r hr
  unfold gM mM at b ⊢
  rw [h.1 114 r (by omega) (by omega), h.1 115 r (by omega) (by omega)]
  exact b
theorem stM_65 : ((stM σ).1 110 65).toInt = 0 := by
  unfold stM
  rw [yI_ne (by decide), yI_ne (by decide), yI_ne (by decide), yI_at]; decide
theorem stM_66 : ((stM σ).1 110 66).toInt = -4 := by
  unfold stM
  rw [yI_ne (by decide), yI_ne (by decide), yI_at]; decide
theorem ask_same0 {a1 a2 a3 : Int32} (h : W0 σ n P) : W_H_ask a1 a2 a3 σ (fun r σ1 => W_M_ask a1 a2 a3 σ1 (fun r2 _ => r = r2)) := by
  have n0 : (0 : Int32).toInt = 0 := by decide
  have n1 : ¬ (1 : Int32).toInt = 0 := by decide
  obtain ⟨hg, ⟨w1, w2⟩, ⟨p1, p2, p3⟩, ⟨t1, t2, t3⟩, gn, fo, l0, l1⟩ := h
  have rq : RqOk σ a1.toInt a2.toInt a3.toInt ↔ ((0 ≤ a1.toInt ∧ a1.toInt < (σ.1 110 6).toInt) ∧ (0 ≤ a2.toInt ∧ a2.toInt ≤ 5) ∧ (0 ≤ a3.toInt ∧ a3.toInt < (σ.1 110 20).toInt ∧ (σ.1 128 a3.toInt.toNat).toInt = 0)) := by
    unfold RqOk
    rw [p1, t1]
    exact ⟨fun ⟨q1, q2, q3, q4, q5⟩ => ⟨q1, q2, q3, q4, (gn _ (by omega)).mp q5⟩, fun ⟨q1, q2, q3, q4, q5⟩ => ⟨q1, q2, q3, q4, (gn _ (by omega)).mpr q5⟩⟩
  refine w_isRequest (by rw [t1]; omega) (fun ok => ⟨fun z => absurd z n1, fun _ s1 e1 s2 e2 => ?_⟩) (fun no => ⟨fun _ => ?_, fun z => absurd n0 z⟩)
  · have ok' := rq.mp ok
    have f2 : FrHa true σ s2 := (FrHa.refl.i e1 (by omega)).i e2 (by omega)
    have now2 : s2.1 0 2 = σ.1 110 0 := by rw [f2.k 0 2 (by omega) (by omega) (by omega)]; exact w1
    refine w_groupsOf (n := n) (hg.cx f2.v).1 (by rw [now2]; omega) (fun v4 _ hv4 s3 e3 s4 e4 => ?_)
    have f4 : FrHa true σ s4 := (f2.i e3 (by omega)).i e4 (by omega)
    refine w_policyInForce (fo.ch f4) (fun v6 h6 => ?_)
    refine Or.inl ⟨h6, ⟨by omega, fun s5 e5 s6 e6 => ?_⟩⟩
    have f6 : FrHa true σ s6 := ((f4.tr stA_a).r e5 (by omega)).i e6 (by omega)
    have g7 : s6.1 0 7 = σ.1 0 7 := by
      rw [← e6, yI_ne (by omega), ← e5, zIr_nn (by decide)]
      unfold stA
      rw [yI_ne (by omega), yI_ne (by omega), yI_ne (by omega), yI_ne (by omega), yI_ne (by omega), ← e4, yI_ne (by omega), ← e3, yI_ne (by omega), ← e2, yI_ne (by omega), ← e1, yI_ne (by omega)]
    refine w_writeLog (ω := true) (by rw [g7]; exact l0) (fun s7 f7 => ?_)
    have hF := f6.tr f7
    have c : ∀ k j : Nat, 110 ≤ k → s7.1 k j = σ.1 k j := fun k j q => hF.k k j (by omega) (by omega) (by omega)
    refine w_isPersonN (by rw [c 110 6 (by omega)]; omega) (fun _ => ⟨fun z => absurd z n1, fun _ r3 h3 => ?_⟩) (fun q => absurd (by rw [c 110 6 (by omega)]; exact ok'.1) q)
    refine w_inN (l := 0) (u := 5) h3 (by decide) (by decide) (fun _ => ⟨fun z => absurd z n1, fun _ => ?_⟩) (fun q => absurd ok'.2.1 q)
    refine w_isHereN (by rw [c 110 20 (by omega)]; omega) (fun _ => ⟨fun z => absurd z n1, fun _ => ?_⟩) (fun q => absurd (by rw [c 110 20 (by omega), c 128 _ (by omega)]; exact ok'.2.2) q)
    refine w_forceAt (F := 0) (by rw [c 110 71 (by omega)]; exact fo.1.2.1) (by omega) (fun v8 h8 => ?_)
    refine w_reaches (n := n) (hg.cx hF.v).2.1 (fun τ fg _ => ?_)
    refine Or.inl ⟨h8, w_begins (fun s bg => Or.inr ⟨stM_66, fun τ' m => ?_⟩)⟩
    have e65 : (τ'.1 110 65).toInt = 0 := by rw [m.2.1 110 65 (by omega) (by omega)]; exact stM_65
    have g3 : τ'.1 110 3 = σ.1 110 3 := by rw [m.2.1 110 3 (by omega) (by omega), stM_ne (by omega), bg.k 110 3 (by omega) (by omega) (by omega), fg.1 110 3 (by omega), c 110 3 (by omega)]
    exact w_logM (ω := true) (by rw [g3]; exact l1) (fun _ _ => (Int32.toInt_inj.mp (by rw [e65]; decide)).symm)
  · have no' : ¬ _ := fun q => no (rq.mpr q)
    refine w_isPersonN (by omega) (fun q1 => ⟨fun z => absurd z n1, fun _ r3 h3 => ?_⟩) (fun _ => ⟨fun _ => rfl, fun z => absurd n0 z⟩)
    refine w_inN (l := 0) (u := 5) h3 (by decide) (by decide) (fun q2 => ⟨fun z => absurd z n1, fun _ => ?_⟩) (fun _ => ⟨fun _ => rfl, fun z => absurd n0 z⟩)
    exact w_isHereN (by omega) (fun q3 => absurd ⟨q1, q2, q3⟩ no') (fun _ => ⟨fun _ => rfl, fun z => absurd n0 z⟩)
theorem wl_pa0 {po act th : Int32} {m : Nat} {Q : Int32 → zS → Prop} (hg : Wg σ n) (hm : (σ.1 5 0).toInt = (m : Int)) (hm20 : m ≤ 20) (hp : po.toInt = -4) (kk : ∀ (v : Int32) (τ : zS), FrHa ω σ τ → v = -4 → Q v τ) : ∀ (N x : Nat) (x5 x6 : Int32) (ρ : zS), FrHa ω σ ρ → 0 ≤ (ρ.1 27 6).toInt → x6.toInt = (x : Int) → x ≤ m → m - x + 1 ≤ N → WL_Ju_personAllowed N po act th x5 x6 ρ Q
  | 0, _, _, _, _, _, _, _, _, q => absurd q (by omega)
  | N + 1, x, x5, x6, ρ, hf, h0, h6, hx, q => by
    have r5 : (ρ.1 5 0).toInt = (m : Int) := by rw [hf.k 5 0 (by omega) (by omega) (by omega)]; exact hm
    refine wl_Ju_personAllowed_7 ⟨fun z => kk (-4) ρ hf rfl, fun z => ?_⟩
    refine w_groupsOf (n := n) (hg.cx hf.v).1 (by omega) (fun v _ _ s1 e1 s2 e2 => Or.inl ⟨hp, ⟨fun y => absurd y (by decide), fun _ => ⟨by omega, fun r6 hr => ?_⟩⟩⟩)
    have f2 : FrHa ω σ s2 := (hf.i e1 (by omega)).i e2 (by omega)
    exact wl_pa0 hg hm hm20 hp kk N (x + 1) x5 r6 (stA s2 th) (f2.tr stA_a) (by rw [stA_27 (by decide), ← e2, yI_ne (by omega), ← e1, yI_ne (by omega)]; exact h0) (by omega) (by omega) (by omega)
theorem wl_wa0 {po act th t i : Int32} {m : Nat} {Q : Int32 → zS → Prop} (hg : RwM σ n) (hm : (σ.1 110 6).toInt = (m : Int)) (hm20 : m ≤ 20) (hp : po.toInt = -4) (kk : ∀ (v : Int32) (τ : zS), v = -4 → Q v τ) : ∀ (N x : Nat) (x6 x7 : Int32) (μ : zS), KpM σ μ → x7.toInt = (x : Int) → x ≤ m → m - x + 1 ≤ N → WL_M_whoAt N po act th t i x6 x7 μ Q
  | 0, _, _, _, _, _, _, _, q => absurd q (by omega)
  | N + 1, x, x6, x7, μ, hf, h7, hx, q => by
    have r6 : (μ.1 110 6).toInt = (m : Int) := by rw [hf.2.2.1]; exact hm
    refine wl_M_whoAt_6 ⟨fun z => kk (-4) μ rfl, fun z => ?_⟩
    refine w_reaches (n := n) (hg.kp hf) (fun τ fg _ => Or.inl ⟨hp, w_begins (fun s bg => ⟨fun y => absurd y (by rw [stM_65]; decide), fun _ => ⟨by omega, fun r5 h5 => ?_⟩⟩)⟩)
    exact wl_wa0 hg hm hm20 hp kk N (x + 1) x6 r5 (stM s) (((hf.tr (FrMa.kp (ω := true) fg.a)).tr bg.kp).tr (FrMa.kp (ω := true) stM_a)) (by omega) (by omega) (by omega)
theorem could_same0 {a1 a2 a3 a4 : Int32} (h : W0 σ n P) : W_H_could a1 a2 a3 a4 σ (fun r σ1 => W_M_could a1 a2 a3 a4 σ1 (fun r2 _ => r = r2)) := by
  have n0 : (0 : Int32).toInt = 0 := by decide
  have n1 : ¬ (1 : Int32).toInt = 0 := by decide
  have z0 : (0 : Int64).toInt = 0 := by decide
  obtain ⟨hg, ⟨w1, w2⟩, ⟨p1, p2, p3⟩, ⟨t1, t2, t3⟩, gn, fo, l0, l1⟩ := h
  have bad : ¬ ((0 ≤ a1.toInt ∧ a1.toInt ≤ 5) ∧ (0 ≤ a2.toInt ∧ a2.toInt < (σ.1 110 20).toInt ∧ (σ.1 128 a2.toInt.toNat).toInt = 0) ∧ (0 ≤ a3.toInt ∧ a3.toInt ≤ (σ.1 110 0).toInt) ∧ 0 ≤ a4.toInt) → W_M_could a1 a2 a3 a4 σ (fun r2 _ => (-1 : Int32) = r2) := fun no r1 h1 => by
    refine w_inN (l := 0) (u := 5) h1 (by decide) (by decide) (fun q1 => ⟨fun z => absurd z n1, fun _ => ?_⟩) (fun _ => ⟨fun _ => rfl, fun z => absurd n0 z⟩)
    refine w_isHereN (by omega) (fun q2 => ⟨fun z => absurd z n1, fun _ r6 h6 r7 h7 => ?_⟩) (fun _ => ⟨fun _ => rfl, fun z => absurd n0 z⟩)
    exact w_inN h6 z0 h7 (fun q3 => ⟨fun z => absurd z n1, fun _ => ⟨fun q4 => absurd ⟨q1, q2, q3, q4⟩ no, fun _ => rfl⟩⟩) (fun _ => ⟨fun _ => rfl, fun z => absurd n0 z⟩)
  refine w_isAct (fun q1 => ⟨fun z => absurd z n1, fun _ => ?_⟩) (fun q => ⟨fun _ => bad (fun z => q z.1), fun z => absurd n0 z⟩)
  refine w_isThere (by rw [t1]; omega) (fun q2 => ⟨fun z => absurd z n1, fun _ => ?_⟩) (fun q => ⟨fun _ => bad (fun z => q ⟨z.2.1.1, by rw [t1]; exact z.2.1.2.1, (gn _ (by omega)).mpr z.2.1.2.2⟩), fun z => absurd n0 z⟩)
  refine ⟨fun q => bad (fun z => by omega), fun q3 => ⟨fun q => bad (fun z => by rw [w1] at q; omega), fun q3' => ⟨fun q4 => ?_, fun q => bad (fun z => q z.2.2.2)⟩⟩⟩
  rw [w1] at q3'
  rw [t1] at q2
  obtain ⟨m, hm⟩ : ∃ m : Nat, (σ.1 110 6).toInt = (m : Int) := ⟨(σ.1 110 6).toInt.toNat, by omega⟩
  have q2' : (σ.1 128 a2.toInt.toNat).toInt = 0 := (gn _ (by omega)).mp q2.2.2
  intro s1 e1 s2 e2
  have f2 : FrHa true σ s2 := (FrHa.refl.i e1 (by omega)).i e2 (by omega)
  refine w_policyInForce (fo.ch f2) (fun v9 h9 => ?_)
  refine wl_pa0 (ω := true) (σ := σ) (n := n) (m := m) hg (by rw [p1]; exact hm) (by omega) h9 (fun r σ1 f1 er => ?_) fuF 0 a4 0 s2 f2 (by rw [← e2, yI_ne (by omega), ← e1, yI_at]; omega) (by decide) (by omega) (by show m - 0 + 1 ≤ 100000; omega)
  have c : ∀ k j : Nat, 110 ≤ k → σ1.1 k j = σ.1 k j := fun k j q => f1.k k j (by omega) (by omega) (by omega)
  intro r1 h1
  refine w_inN (l := 0) (u := 5) h1 (by decide) (by decide) (fun _ => ⟨fun z => absurd z n1, fun _ => ?_⟩) (fun q => absurd q1 q)
  refine w_isHereN (by rw [c 110 20 (by omega)]; omega) (fun _ => ⟨fun z => absurd z n1, fun _ r6 h6 r7 h7 => ?_⟩) (fun q => absurd ⟨q2.1, by rw [c 110 20 (by omega)]; exact q2.2.1, by rw [c 128 _ (by omega)]; exact q2'⟩ q)
  rw [c 110 0 (by omega)] at h7
  refine w_inN h6 z0 h7 (fun _ => ⟨fun z => absurd z n1, fun _ => ⟨fun _ => ?_, fun q => absurd q4 q⟩⟩) (fun q => absurd (by omega) q)
  refine w_forceAt (F := 0) (by rw [c 110 71 (by omega)]; exact fo.1.2.1) (by omega) (fun v11 h11 => ?_)
  exact wl_wa0 (σ := σ1) (n := n) (m := m) (hg.cx f1.v).2.1 (by rw [c 110 6 (by omega)]; exact hm) (by omega) h11 (fun v _ ev => by rw [er, ev]) fuF 0 0 0 σ1 KpM.refl (by decide) (by omega) (by show m - 0 + 1 ≤ 100000; omega)
end N25
/-! ===== N26: where no policy stands, what asks by one is refused on both sides ===== -/
section N26
variable {σ : zS} {a1 a2 a3 a4 a5 : Int32}
theorem asked_same0 (h : (σ.1 17 0).toInt = 0 ∧ (σ.1 110 32).toInt = 0) : W_H_asked a1 a2 a3 a4 a5 σ (fun r σ1 => W_M_asked a1 a2 a3 a4 a5 σ1 (fun r2 _ => r = r2)) := by
  have n0 : (0 : Int32).toInt = 0 := by decide
  exact w_isAmong (fun q => absurd q (by omega)) (fun _ => ⟨fun _ => w_isPolicyN (by omega) (fun q => absurd q (by omega)) (fun _ => ⟨fun _ => rfl, fun z => absurd n0 z⟩), fun z => absurd n0 z⟩)
theorem may_same0 (h : (σ.1 17 0).toInt = 0 ∧ (σ.1 110 32).toInt = 0) : W_H_may a1 a2 a3 a4 σ (fun r σ1 => W_M_may a1 a2 a3 a4 σ1 (fun r2 _ => r = r2)) := by
  have n0 : (0 : Int32).toInt = 0 := by decide
  exact w_isAmong (fun q => absurd q (by omega)) (fun _ => ⟨fun _ => w_isPolicyN (by omega) (fun q => absurd q (by omega)) (fun _ => ⟨fun _ => rfl, fun z => absurd n0 z⟩), fun z => absurd n0 z⟩)
theorem who_same0 (h : (σ.1 17 0).toInt = 0 ∧ (σ.1 110 32).toInt = 0) : W_H_who a1 a2 a3 a4 σ (fun r σ1 => W_M_who a1 a2 a3 a4 σ1 (fun r2 _ => r = r2)) := by
  have n0 : (0 : Int32).toInt = 0 := by decide
  exact w_isAmong (fun q => absurd q (by omega)) (fun _ => ⟨fun _ => w_isPolicyN (by omega) (fun q => absurd q (by omega)) (fun _ => ⟨fun _ => rfl, fun z => absurd n0 z⟩), fun z => absurd n0 z⟩)
end N26
/-! ===== N29: asking, and putting in force: what it writes into the log ===== -/
section N29
variable {ω : Bool} {σ τ : zS} {n P F : Nat} {rk : Nat → Nat}
theorem w_judgeKL {v a1 a2 a3 t : Int32} {s : JdS} {un an : Nat} {μ : zS} {Q : Int32 → zS → Prop} (h : Wa σ n P F rk) (hb : (σ.1 110 26).toInt ≠ 0) (hv : PoV σ n v.toInt a1.toInt un an t.toInt s) (hF : FrVn σ μ) (hu : a3.toInt = (un : Int)) (hu4 : un < 40) (ha : a2.toInt = (an : Int)) (ha6 : an < 6) (hw : 0 ≤ a1.toInt ∧ a1.toInt ≤ 19) (ht : 0 ≤ t.toInt ∧ t.toInt ≤ 1000000000) (hr : ∀ j, j < 16 → (rG μ j = true ↔ InM σ n t.toInt (σ.1 110 0).toInt a1.toInt (j : Int))) (kk : ∀ (τ : zS) (r : Int32), FrMa ω μ τ → τ.1 110 3 = μ.1 110 3 → τ.1 110 0 = μ.1 110 0 → (∀ j, τ.1 112 j = μ.1 112 j ∧ τ.1 113 j = μ.1 113 j) → r.toInt = ansJ s → Q r τ) : W_M_judge v a1 a2 a3 t μ (fun _ σ10 => W_M_keeps v σ10 Q) := by
  refine w_judgeM (σ := σ) (n := n) h.1.1 h.1.2.2 hb hv hF hr hu hu4 ha ha6 hw h.2.2.2.1.2 ht (fun τ fb e5 e6 e30 => ?_)
  have f1 : FrMa ω μ τ := stM_a.tr fb.a
  have g3 : τ.1 110 3 = μ.1 110 3 := (fb.1 110 3 (by omega) (by omega)).trans (stM_ne (by omega))
  have g0 : τ.1 110 0 = μ.1 110 0 := (fb.1 110 0 (by omega) (by omega)).trans (stM_ne (by omega))
  have gl : ∀ j, τ.1 112 j = μ.1 112 j ∧ τ.1 113 j = μ.1 113 j := fun j => ⟨(fb.1 112 j (by omega) (by omega)).trans (stM_ne (by omega)), (fb.1 113 j (by omega) (by omega)).trans (stM_ne (by omega))⟩
  have fin : ∀ {d : Int} {τ' : zS}, MkM τ τ' d → Q (τ'.1 110 65) τ' := fun {d τ'} m => kk τ' _ (f1.tr m.a) ((m.2.1 110 3 (by omega) (by omega)).trans g3) ((m.2.1 110 0 (by omega) (by omega)).trans g0) (fun j => ⟨(m.2.1 112 j (by omega) (by omega)).trans (gl j).1, (m.2.1 113 j (by omega) (by omega)).trans (gl j).2⟩) (by rw [m.2.1 110 65 (by omega) (by omega)]; exact e5)
  rcases rul_in (s := s) with q | q
  · exact Or.inr ⟨by rw [e6, q], fun τ' m => fin m⟩
  · rcases hv with ⟨_, v2⟩ | ⟨p, v1, v2, _⟩
    · rw [v2] at q
      exact absurd q (by decide)
    · exact Or.inl ⟨p, (rulJ s).toNat, ⟨v1, v2, by rw [e6]; omega, by omega⟩, fun τ' m => fin m⟩
theorem ask_ML {a1 a2 a3 : Int32} {s : JdS} {un an : Nat} {σ1 : zS} {L : Nat} {Q : Int32 → zS → Prop} (h : Wa σ n P F rk) (hb : (σ.1 110 26).toInt ≠ 0) (ok : RqOk σ a1.toInt a2.toInt a3.toInt) (hu : a3.toInt = (un : Int)) (ha : a2.toInt = (an : Int)) (hv : PoV σ n (fo9 (fun j => (σ.1 2 j).toInt) (fun j => (σ.1 3 j).toInt) (σ.1 0 2).toInt F) a1.toInt un an (σ.1 110 0).toInt s) (hL : (σ.1 110 3).toInt = (L : Int)) (hF : FrHa ω σ σ1) (kk : ∀ (σ2 μ : zS) (r : Int32), FrMa ω σ1 σ2 → μ.1 110 0 = σ.1 110 0 → (∀ j, μ.1 112 j = σ.1 112 j) → (∀ j, μ.1 113 j = σ.1 113 j) → μ.1 110 3 = σ.1 110 3 → LwM L 0 a1 a2 a3 r μ σ2 → r.toInt = ansJ s → Q r σ2) : W_M_ask a1 a2 a3 σ1 Q := by
  have n1 : ¬ (1 : Int32).toInt = 0 := by decide
  have ok' := h.rq.mp ok
  have c : ∀ k j : Nat, 110 ≤ k → σ1.1 k j = σ.1 k j := fun k j q => hF.k k j (by omega) (by omega) (by omega)
  have h0 := h
  obtain ⟨_, _, _, ⟨w1, w2⟩, ⟨p1, p2, p3⟩, ⟨t1, t2, t3⟩, _, ⟨⟨o1, o2, o3⟩, o4⟩, _, l1⟩ := h0
  refine w_isPersonN (by rw [c 110 6 (by omega)]; omega) (fun _ => ⟨fun z => absurd z n1, fun _ r3 h3 => ?_⟩) (fun q => absurd (by rw [c 110 6 (by omega)]; exact ok'.1) q)
  refine w_inN (l := 0) (u := 5) h3 (by decide) (by decide) (fun _ => ⟨fun z => absurd z n1, fun _ => ?_⟩) (fun q => absurd ok'.2.1 q)
  refine w_isHereN (by rw [c 110 20 (by omega)]; omega) (fun _ => ⟨fun z => absurd z n1, fun _ => ?_⟩) (fun q => absurd (by rw [c 110 20 (by omega), c 128 _ (by omega)]; exact ok'.2.2) q)
  refine w_forceAt (F := F) (by rw [c 110 71 (by omega)]; exact o2) o3 (fun v8 h8 => ?_)
  have e8 : v8.toInt = fo9 (fun j => (σ.1 2 j).toInt) (fun j => (σ.1 3 j).toInt) (σ.1 0 2).toInt F := by
    rw [h8, c 110 0 (by omega), w1]
    exact fo_cg (fun j hj => ⟨by rw [c 154 j (by omega), (o4 j hj).1], by rw [c 155 j (by omega), (o4 j hj).2.1]⟩)
  refine w_reaches (n := n) (h.1.2.1.cx hF.v).2.1 (fun τ fg hr => ?_)
  have eτ : τ.1 110 0 = σ.1 110 0 := (fg.1 110 0 (by omega)).trans (c 110 0 (by omega))
  refine w_judgeKL (ω := ω) (n := n) (s := s) (un := un) (an := an) h hb (by rw [e8, eτ]; exact hv) (hF.v.tr fg.v) hu (by have := ok'.2.2; omega) ha (by have := ok'.2.1; omega) (by have := ok'.1; omega) (by rw [eτ]; exact w2) (fun j hj => ?_) (fun τ2 r f2 g2 g0 gl hr2 => ?_)
  · rw [hr j hj, inm_cx hF.v, eτ, c 110 0 (by omega)]
  · have e3 : τ2.1 110 3 = σ.1 110 3 := by rw [g2, fg.1 110 3 (by omega), c 110 3 (by omega)]
    exact w_logMX (L := L) (by rw [e3]; exact hL) (by omega) (fun τ3 f3 w3 => kk τ3 τ2 r ((fg.a.tr f2).tr f3) (by rw [g0, fg.1 110 0 (by omega), c 110 0 (by omega)]) (fun j => by rw [(gl j).1, fg.1 112 j (by omega), c 112 j (by omega)]) (fun j => by rw [(gl j).2, fg.1 113 j (by omega), c 113 j (by omega)]) e3 w3 hr2)
theorem ask_sameL {a1 a2 a3 : Int32} (h : Wa σ n P F rk) (hb : (σ.1 110 26).toInt ≠ 0) (lg : LgS σ) : W_H_ask a1 a2 a3 σ (fun r σ1 => FrHa ω σ σ1 ∧ W_M_ask a1 a2 a3 σ1 (fun r2 σ2 => r = r2 ∧ FrMa ω σ1 σ2 ∧ LgS σ2)) := by
  have n0 : (0 : Int32).toInt = 0 := by decide
  have n1 : ¬ (1 : Int32).toInt = 0 := by decide
  have h0 := h
  obtain ⟨L, ⟨q7, q3, qL⟩, _⟩ := id lg
  obtain ⟨_, _, _, ⟨w1, w2⟩, ⟨p1, p2, p3⟩, ⟨t1, t2, t3⟩, _, fo, l0, l1⟩ := h0
  refine w_isRequest (by rw [t1]; omega) (fun ok => ⟨fun z => absurd z n1, fun _ s1 e1 s2 e2 => ?_⟩) (fun no => ⟨fun _ => ⟨FrHa.refl, ?_⟩, fun z => absurd n0 z⟩)
  · have ok' := h.rq.mp ok
    obtain ⟨un, hu⟩ : ∃ un : Nat, a3.toInt = (un : Int) := ⟨a3.toInt.toNat, by have := ok'.2.2; omega⟩
    obtain ⟨an, ha⟩ : ∃ an : Nat, a2.toInt = (an : Int) := ⟨a2.toInt.toNat, by have := ok'.2.1; omega⟩
    have f2 : FrHa ω σ s2 := (FrHa.refl.i e1 (by omega)).i e2 (by omega)
    have now2 : s2.1 0 2 = σ.1 110 0 := by rw [f2.k 0 2 (by omega) (by omega) (by omega)]; exact w1
    refine w_groupsOf (n := n) (h.1.2.1.cx f2.v).1 (by rw [now2]; omega) (fun v4 _ hv4 s3 e3 s4 e4 => ?_)
    have f4 : FrHa ω σ s4 := (f2.i e3 (by omega)).i e4 (by omega)
    have now4 : s4.1 0 2 = σ.1 0 2 := f4.k 0 2 (by omega) (by omega) (by omega)
    refine w_policyInForce (fo.ch f4) (fun v6 h6 => ?_)
    have e6 : v6.toInt = fo9 (fun j => (σ.1 2 j).toInt) (fun j => (σ.1 3 j).toInt) (σ.1 0 2).toInt F := by
      rw [h6, now4]
      exact fo_cg (fun j _ => ⟨by rw [f4.k 2 j (by omega) (by omega) (by omega)], by rw [f4.k 3 j (by omega) (by omega) (by omega)]⟩)
    obtain ⟨s, hs⟩ := pv_ex (n := n) (un := un) (an := an) (w := a1.toInt) (t := (σ.1 110 0).toInt) (h.po (po := v6.toInt) (by rw [e6]; exact fo_in (fun j hj => (fo.2 j hj).2.2)))
    refine w_answer (σ := σ) (n := n) (s := s) (un := un) (an := an) (w := a1.toInt) (t := (σ.1 110 0).toInt) h.1.1 h.1.2.1 hs f4.v ?_ (by have := ok'.1; omega) (fun j hj => ?_) hu (by have := ok'.2.2; omega) ?_ w2 ?_ w2 ha (by have := ok'.2.1; omega) (fun τ a fa ea _ => ⟨by omega, fun s5 e5 s6 e6' => ?_⟩)
    · rw [← e4, yI_ne (by omega), ← e3, yI_at]
    · rw [← e4, yI_at, hv4 j hj, now2, inc_cx f2.v]
    · rw [← e4, yI_ne (by omega), ← e3, yI_ne (by omega), ← e2, yI_ne (by omega), ← e1, yI_at, w1]
    · rw [← e4, yI_ne (by omega), ← e3, yI_ne (by omega), ← e2, yI_at, w1]
    · have f6 : FrHa ω σ s6 := (((f4.tr stA_a).tr fa.a).r e5 (by omega)).i e6' (by omega)
      have g7 : s6.1 0 7 = σ.1 0 7 := by
        rw [← e6', yI_ne (by omega), ← e5, zIr_nn (by decide), fa.1 0 7 (by omega) (by omega) (by omega) (by omega)]
        unfold stA
        rw [yI_ne (by omega), yI_ne (by omega), yI_ne (by omega), yI_ne (by omega), yI_ne (by omega), ← e4, yI_ne (by omega), ← e3, yI_ne (by omega), ← e2, yI_ne (by omega), ← e1, yI_ne (by omega)]
      have g4 : ∀ j, s6.1 4 j = σ.1 4 j := fun j => by
        rw [← e6', yI_ne (by omega), ← e5, zIr_nn (by decide), fa.1 4 j (by omega) (by omega) (by omega) (by omega)]
        unfold stA
        rw [yI_ne (by omega), yI_ne (by omega), yI_ne (by omega), yI_ne (by omega), yI_ne (by omega), ← e4, yI_ne (by omega), ← e3, yI_ne (by omega), ← e2, yI_ne (by omega), ← e1, yI_ne (by omega)]
      have g2 : s6.1 0 2 = σ.1 0 2 := f6.k 0 2 (by omega) (by omega) (by omega)
      refine w_writeLogX (ω := ω) (L := L) (by rw [g7]; exact q7) qL (fun s7 f7 w7 => ⟨f6.tr f7, ?_⟩)
      rw [e6] at hs
      refine ask_ML (n := n) (L := L) h hb ok hu ha hs q3 (f6.tr f7) (fun σ2 μ r fm m1 m2 m3 m4 wm er => ?_)
      have ear : a = r := Int32.toInt_inj.mp (ea.trans er.symm)
      rw [← ear] at wm ⊢
      exact ⟨rfl, fm, lg.step w1 q7 g2 g4 g7 w7 m1 m2 m3 m4 wm (fun j => fm.1 4 j (by omega) (by omega) (by omega) (by omega) (by omega) (fun _ => by omega)) (fm.1 0 7 (by omega) (by omega) (by omega) (by omega) (by omega) (fun _ => by omega))⟩
  · have no' : ¬ _ := fun q => no (h.rq.mpr q)
    refine w_isPersonN (by omega) (fun q1 => ⟨fun z => absurd z n1, fun _ r3 h3 => ?_⟩) (fun _ => ⟨fun _ => ⟨rfl, FrMa.refl, lg⟩, fun z => absurd n0 z⟩)
    refine w_inN (l := 0) (u := 5) h3 (by decide) (by decide) (fun q2 => ⟨fun z => absurd z n1, fun _ => ?_⟩) (fun _ => ⟨fun _ => ⟨rfl, FrMa.refl, lg⟩, fun z => absurd n0 z⟩)
    exact w_isHereN (by omega) (fun q3 => absurd ⟨q1, q2, q3⟩ no') (fun _ => ⟨fun _ => ⟨rfl, FrMa.refl, lg⟩, fun z => absurd n0 z⟩)
theorem ask_same0L {a1 a2 a3 : Int32} (h : W0 σ n P) (lg : LgS σ) : W_H_ask a1 a2 a3 σ (fun r σ1 => FrHa true σ σ1 ∧ W_M_ask a1 a2 a3 σ1 (fun r2 σ2 => r = r2 ∧ (∃ s t, FrMa true σ1 s ∧ (s = t ∨ BgR s t) ∧ FrMa true t σ2) ∧ LgS σ2)) := by
  have n0 : (0 : Int32).toInt = 0 := by decide
  have n1 : ¬ (1 : Int32).toInt = 0 := by decide
  obtain ⟨L, ⟨q7, q3, qL⟩, _⟩ := id lg
  have same : (-1 : Int32) = -1 ∧ (∃ s t, FrMa true σ s ∧ (s = t ∨ BgR s t) ∧ FrMa true t σ) ∧ LgS σ := ⟨rfl, ⟨σ, σ, FrMa.refl, Or.inl rfl, FrMa.refl⟩, lg⟩
  obtain ⟨hg, ⟨w1, w2⟩, ⟨p1, p2, p3⟩, ⟨t1, t2, t3⟩, gn, fo, l0, l1⟩ := h
  have rq : RqOk σ a1.toInt a2.toInt a3.toInt ↔ ((0 ≤ a1.toInt ∧ a1.toInt < (σ.1 110 6).toInt) ∧ (0 ≤ a2.toInt ∧ a2.toInt ≤ 5) ∧ (0 ≤ a3.toInt ∧ a3.toInt < (σ.1 110 20).toInt ∧ (σ.1 128 a3.toInt.toNat).toInt = 0)) := by
    unfold RqOk
    rw [p1, t1]
    exact ⟨fun ⟨q1, q2, q3, q4, q5⟩ => ⟨q1, q2, q3, q4, (gn _ (by omega)).mp q5⟩, fun ⟨q1, q2, q3, q4, q5⟩ => ⟨q1, q2, q3, q4, (gn _ (by omega)).mpr q5⟩⟩
  refine w_isRequest (by rw [t1]; omega) (fun ok => ⟨fun z => absurd z n1, fun _ s1 e1 s2 e2 => ?_⟩) (fun no => ⟨fun _ => ⟨FrHa.refl, ?_⟩, fun z => absurd n0 z⟩)
  · have ok' := rq.mp ok
    have f2 : FrHa true σ s2 := (FrHa.refl.i e1 (by omega)).i e2 (by omega)
    have now2 : s2.1 0 2 = σ.1 110 0 := by rw [f2.k 0 2 (by omega) (by omega) (by omega)]; exact w1
    refine w_groupsOf (n := n) (hg.cx f2.v).1 (by rw [now2]; omega) (fun v4 _ hv4 s3 e3 s4 e4 => ?_)
    have f4 : FrHa true σ s4 := (f2.i e3 (by omega)).i e4 (by omega)
    refine w_policyInForce (fo.ch f4) (fun v6 h6 => ?_)
    refine Or.inl ⟨h6, ⟨by omega, fun s5 e5 s6 e6 => ?_⟩⟩
    have f6 : FrHa true σ s6 := ((f4.tr stA_a).r e5 (by omega)).i e6 (by omega)
    have g7 : s6.1 0 7 = σ.1 0 7 := by
      rw [← e6, yI_ne (by omega), ← e5, zIr_nn (by decide)]
      unfold stA
      rw [yI_ne (by omega), yI_ne (by omega), yI_ne (by omega), yI_ne (by omega), yI_ne (by omega), ← e4, yI_ne (by omega), ← e3, yI_ne (by omega), ← e2, yI_ne (by omega), ← e1, yI_ne (by omega)]
    have g4 : ∀ j, s6.1 4 j = σ.1 4 j := fun j => by
      rw [← e6, yI_ne (by omega), ← e5, zIr_nn (by decide)]
      unfold stA
      rw [yI_ne (by omega), yI_ne (by omega), yI_ne (by omega), yI_ne (by omega), yI_ne (by omega), ← e4, yI_ne (by omega), ← e3, yI_ne (by omega), ← e2, yI_ne (by omega), ← e1, yI_ne (by omega)]
    refine w_writeLogX (ω := true) (L := L) (by rw [g7]; exact q7) qL (fun s7 f7 w7 => ⟨f6.tr f7, ?_⟩)
    have hF := f6.tr f7
    have c : ∀ k j : Nat, 110 ≤ k → s7.1 k j = σ.1 k j := fun k j q => hF.k k j (by omega) (by omega) (by omega)
    refine w_isPersonN (by rw [c 110 6 (by omega)]; omega) (fun _ => ⟨fun z => absurd z n1, fun _ r3 h3 => ?_⟩) (fun q => absurd (by rw [c 110 6 (by omega)]; exact ok'.1) q)
    refine w_inN (l := 0) (u := 5) h3 (by decide) (by decide) (fun _ => ⟨fun z => absurd z n1, fun _ => ?_⟩) (fun q => absurd ok'.2.1 q)
    refine w_isHereN (by rw [c 110 20 (by omega)]; omega) (fun _ => ⟨fun z => absurd z n1, fun _ => ?_⟩) (fun q => absurd (by rw [c 110 20 (by omega), c 128 _ (by omega)]; exact ok'.2.2) q)
    refine w_forceAt (F := 0) (by rw [c 110 71 (by omega)]; exact fo.1.2.1) (by omega) (fun v8 h8 => ?_)
    refine w_reaches (n := n) (hg.cx hF.v).2.1 (fun τ fg _ => ?_)
    refine Or.inl ⟨h8, w_begins (fun s bg => Or.inr ⟨stM_66, fun τ' m => ?_⟩)⟩
    have e65 : (τ'.1 110 65).toInt = 0 := by rw [m.2.1 110 65 (by omega) (by omega)]; exact stM_65
    have g : ∀ k j, (k = 110 ∧ (j = 0 ∨ j = 3)) ∨ k = 112 ∨ k = 113 → τ'.1 k j = σ.1 k j := fun k j q => by rw [m.2.1 k j (by omega) (by omega), stM_ne (by omega), bg.k k j (by omega) (by omega) (by omega), fg.1 k j (by omega), c k j (by omega)]
    refine w_logMX (ω := true) (L := L) (by rw [g 110 3 (by omega)]; exact q3) qL (fun σ2 f2 wm => ?_)
    have v0 : τ'.1 110 65 = 0 := Int32.toInt_inj.mp (by rw [e65]; decide)
    have fm : FrMa true s σ2 := (FrMa.tr stM_a m.a).tr f2
    have bk : ∀ k j, k < 110 → s.1 k j = τ.1 k j := fun k j q => bg.k k j (by omega) (by omega) (by omega)
    rw [v0] at wm ⊢
    exact ⟨rfl, ⟨τ, s, fg.a, Or.inr bg, fm⟩, lg.step w1 q7 (f6.k 0 2 (by omega) (by omega) (by omega)) g4 g7 w7 (g 110 0 (by omega)) (fun j => g 112 j (by omega)) (fun j => g 113 j (by omega)) (g 110 3 (by omega)) wm (fun j => by rw [fm.1 4 j (by omega) (by omega) (by omega) (by omega) (by omega) (fun _ => by omega), bk 4 j (by omega), fg.1 4 j (by omega)]) (by rw [fm.1 0 7 (by omega) (by omega) (by omega) (by omega) (by omega) (fun _ => by omega), bk 0 7 (by omega), fg.1 0 7 (by omega)])⟩
  · have no' : ¬ _ := fun q => no (rq.mpr q)
    refine w_isPersonN (by omega) (fun q1 => ⟨fun z => absurd z n1, fun _ r3 h3 => ?_⟩) (fun _ => ⟨fun _ => same, fun z => absurd n0 z⟩)
    refine w_inN (l := 0) (u := 5) h3 (by decide) (by decide) (fun q2 => ⟨fun z => absurd z n1, fun _ => ?_⟩) (fun _ => ⟨fun _ => same, fun z => absurd n0 z⟩)
    exact w_isHereN (by omega) (fun q3 => absurd ⟨q1, q2, q3⟩ no') (fun _ => ⟨fun _ => same, fun z => absurd n0 z⟩)
variable {a1 : Int32}
theorem inForce_sameL (hP : (σ.1 17 0).toInt = (P : Int) ∧ (σ.1 110 32).toInt = (P : Int) ∧ P ≤ 8) (hF : FoS σ F P) (hn : σ.1 0 2 = σ.1 110 0) (lg : LgS σ) : W_H_inForce a1 σ (fun r σ1 => FrFc σ σ1 ∧ W_M_inForce a1 σ1 (fun r2 σ2 => r = r2 ∧ FrFm σ1 σ2 ∧ (∃ F', FoS σ2 F' P) ∧ LgS σ2)) := by
  have n0 : (0 : Int32).toInt = 0 := by decide
  have n1 : ¬ (1 : Int32).toInt = 0 := by decide
  obtain ⟨⟨o1, o2, o3⟩, o4⟩ := id hF
  obtain ⟨L, ⟨q7, q3, qL⟩, _⟩ := id lg
  have rf : FrFc σ σ := ⟨fun _ _ _ _ _ _ _ => rfl, fun _ _ _ => rfl⟩
  have rm : FrFm σ σ := ⟨fun _ _ _ _ _ _ _ => rfl, fun _ _ _ => rfl⟩
  refine w_isAmong (fun q => ⟨fun z => absurd z n1, fun _ => ⟨fun c => ?_, fun c => ?_⟩⟩) (fun q => ⟨fun _ => ⟨rf, ?_⟩, fun z => absurd n0 z⟩)
  · refine ⟨F, o1, by omega, fun s5 e5 => ⟨F, by rw [← e5, yI_ne (by omega)]; exact o1, by omega, fun s7 e7 => ?_⟩⟩
    have l7 : (s7.1 0 5).toInt = (F : Int) := by rw [← e7, yI_ne (by omega), ← e5, yI_ne (by omega)]; exact o1
    refine ⟨by omega, fun r8 h8 s9 e9 => ?_⟩
    refine w_writeLogX (ω := false) (L := L) (by rw [← e9, yI_ne (by omega), ← e7, yI_ne (by omega), ← e5, yI_ne (by omega)]; exact q7) qL (fun σ1 f1 wl => ⟨⟨fun k j q1 q2 q3 q4 q5 => ?_, fun k j q1 => ?_⟩, ?_⟩)
    · rw [f1.k k j (by omega) q4 q5, ← e9, yI_ne (by omega), ← e7, yI_ne (by omega), ← e5, yI_ne (by omega)]
    · rw [f1.2 k j q1, ← e9, yI_l, ← e7, yI_l, ← e5, yI_l]
    · have k : ∀ k j : Nat, 110 ≤ k → σ1.1 k j = σ.1 k j := fun k j q => by rw [f1.k k j (by omega) (by omega) (by omega), ← e9, yI_ne (by omega), ← e7, yI_ne (by omega), ← e5, yI_ne (by omega)]
      refine w_isPolicyN (by rw [k 110 32 (by omega)]; omega) (fun _ => ⟨fun z => absurd z n1, fun _ => ⟨fun z => absurd z (by rw [k 110 71 (by omega)]; omega), fun _ => ⟨F, by rw [k 110 71 (by omega)]; exact o2, by omega, fun t5 y5 => ⟨F, by rw [← y5, yI_ne (by omega), k 110 71 (by omega)]; exact o2, by omega, fun t7 y7 => ?_⟩⟩⟩⟩) (fun z => absurd (by rw [k 110 32 (by omega)]; omega) z)
      have m7 : (t7.1 110 71).toInt = (F : Int) := by rw [← y7, yI_ne (by omega), ← y5, yI_ne (by omega), k 110 71 (by omega)]; exact o2
      refine ⟨by omega, fun u8 v8 t9 y9 => ?_⟩
      have k9 : ∀ k' j, (k' = 110 ∧ (j = 0 ∨ j = 3)) ∨ k' = 112 ∨ k' = 113 → t9.1 k' j = σ.1 k' j := fun k' j q => by rw [← y9, yI_ne (by omega), ← y7, yI_ne (by omega), ← y5, yI_ne (by omega), k k' j (by omega)]
      refine w_logMX (ω := false) (L := L) (by rw [k9 110 3 (by omega)]; exact q3) qL (fun σ2 f2 wm => ⟨rfl, ⟨fun k j q1 q2 q3 q4 q5 => ?_, fun k j q1 => ?_⟩, ⟨F + 1, ⟨?_, ?_, by omega⟩, fun i hi => ?_⟩, lg.step hn q7 (by rw [← e9, yI_ne (by omega), ← e7, yI_ne (by omega), ← e5, yI_ne (by omega)]) (fun j => by rw [← e9, yI_ne (by omega), ← e7, yI_ne (by omega), ← e5, yI_ne (by omega)]) (by rw [← e9, yI_ne (by omega), ← e7, yI_ne (by omega), ← e5, yI_ne (by omega)]) wl (k9 110 0 (by omega)) (fun j => k9 112 j (by omega)) (fun j => k9 113 j (by omega)) (k9 110 3 (by omega)) wm (fun j => by rw [f2.1 4 j (by omega) (by omega) (by omega) (by omega) (by omega) (fun _ => by omega), ← y9, yI_ne (by omega), ← y7, yI_ne (by omega), ← y5, yI_ne (by omega)]) (by rw [f2.1 0 7 (by omega) (by omega) (by omega) (by omega) (by omega) (fun _ => by omega), ← y9, yI_ne (by omega), ← y7, yI_ne (by omega), ← y5, yI_ne (by omega)])⟩)
      · rw [f2.1 k j (by omega) q2 q3 q4 (by omega) (fun _ => by omega), ← y9, yI_ne (by omega), ← y7, yI_ne (by omega), ← y5, yI_ne (by omega)]
      · rw [f2.2 k j q1, ← y9, yI_l, ← y7, yI_l, ← y5, yI_l]
      · have a : σ2.1 0 5 = r8 := by rw [f2.1 0 5 (by omega) (by omega) (by omega) (by omega) (by omega) (fun _ => by omega), ← y9, yI_ne (by omega), ← y7, yI_ne (by omega), ← y5, yI_ne (by omega), f1.k 0 5 (by omega) (by omega) (by omega), ← e9, yI_at]
        rw [a]; omega
      · have a : σ2.1 110 71 = u8 := by rw [f2.1 110 71 (by omega) (by omega) (by omega) (by omega) (by omega) (fun _ => by omega), ← y9, yI_at]
        rw [a]; omega
      · have a2 : σ2.1 2 i = if i = F then σ.1 0 2 else σ.1 2 i := by
          rw [f2.1 2 i (by omega) (by omega) (by omega) (by omega) (by omega) (fun _ => by omega), ← y9, yI_ne (by omega), ← y7, yI_ne (by omega), ← y5, yI_ne (by omega), f1.k 2 i (by omega) (by omega) (by omega), ← e9, yI_ne (by omega), ← e7, yI_ne (by omega)]
          by_cases z : i = F
          · rw [if_pos z, z, ← e5, yI_at]
          · rw [if_neg z, ← e5, yI_ne (by omega)]
        have a3 : σ2.1 3 i = if i = F then a1 else σ.1 3 i := by
          rw [f2.1 3 i (by omega) (by omega) (by omega) (by omega) (by omega) (fun _ => by omega), ← y9, yI_ne (by omega), ← y7, yI_ne (by omega), ← y5, yI_ne (by omega), f1.k 3 i (by omega) (by omega) (by omega), ← e9, yI_ne (by omega)]
          by_cases z : i = F
          · rw [if_pos z, z, ← e7, yI_at]
          · rw [if_neg z, ← e7, yI_ne (by omega), ← e5, yI_ne (by omega)]
        have a4 : σ2.1 154 i = if i = F then σ.1 110 0 else σ.1 154 i := by
          rw [f2.1 154 i (by omega) (by omega) (by omega) (by omega) (by omega) (fun _ => by omega), ← y9, yI_ne (by omega), ← y7, yI_ne (by omega)]
          by_cases z : i = F
          · rw [if_pos z, z, ← y5, yI_at, k 110 0 (by omega)]
          · rw [if_neg z, ← y5, yI_ne (by omega), k 154 i (by omega)]
        have a5 : σ2.1 155 i = if i = F then a1 else σ.1 155 i := by
          rw [f2.1 155 i (by omega) (by omega) (by omega) (by omega) (by omega) (fun _ => by omega), ← y9, yI_ne (by omega)]
          by_cases z : i = F
          · rw [if_pos z, z, ← y7, yI_at]
          · rw [if_neg z, ← y7, yI_ne (by omega), ← y5, yI_ne (by omega), k 155 i (by omega)]
        rw [a2, a3, a4, a5]
        by_cases z : i = F
        · rw [if_pos z, if_pos z, if_pos z, if_pos z]
          exact ⟨hn, rfl, by omega, by omega⟩
        · rw [if_neg z, if_neg z, if_neg z, if_neg z]
          exact o4 i (by omega)
  · refine ⟨rf, ?_⟩
    refine w_isPolicyN (by omega) (fun _ => ⟨fun z => absurd z n1, fun _ => ⟨fun _ => ⟨rfl, rm, ⟨F, hF⟩, lg⟩, fun z => absurd (by omega) z⟩⟩) (fun z => absurd (by omega) z)
  · exact w_isPolicyN (by omega) (fun z => absurd (by omega) q) (fun _ => ⟨fun _ => ⟨rfl, rm, ⟨F, hF⟩, lg⟩, fun z => absurd n0 z⟩)
end N29

end
