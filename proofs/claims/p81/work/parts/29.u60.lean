section
/-! ===== N17: the tape is fed and cut ===== -/
/-- both tapes are the same -/
noncomputable def TaS (σ : zS) : Prop := (σ.1 0 1 = σ.1 110 1 ∧ 0 ≤ (σ.1 0 1).toInt ∧ (σ.1 0 1).toInt ≤ 1200) ∧ ∀ i, i < 1200 → σ.1 1 i = σ.1 111 i
section N17
variable {σ τ : zS}
theorem by_M {x : Int64} {y : Int32} {c : Nat} (hy : y.toInt = c) (hc : c ≤ 56) : uF ((x >>> (y.toInt64 &&& 63)) &&& 255) = uF x / 2 ^ c % 256 := by
  rw [i32_of hy]
  unfold uF
  rw [Int64.toBitVec_and, Int64.toBitVec_shiftRight, (sh_ok c (by omega)).1, BitVec.sshiftRight_eq', BitVec.toNat_ofNat, Nat.mod_eq_of_lt (show c < 2 ^ 64 by omega)]
  apply Nat.eq_of_testBit_eq
  intro j
  rw [BitVec.toNat_and, Nat.testBit_and, show (256 : Nat) = 2 ^ 8 from rfl, Nat.testBit_mod_two_pow, Nat.testBit_div_two_pow]
  have k : (255 : Int64).toBitVec.toNat = 2 ^ 8 - 1 := by decide
  rw [k, Nat.testBit_two_pow_sub_one, BitVec.testBit_toNat, BitVec.getLsbD_sshiftRight]
  by_cases z : j < 8
  · rw [if_pos (by omega), decide_eq_true z, decide_eq_false (show ¬ 64 ≤ j by omega), BitVec.testBit_toNat, Nat.add_comm c j]
    cases x.toBitVec.getLsbD (j + c) <;> rfl
  · rw [decide_eq_false z, Bool.and_false, Bool.false_and]
theorem by_C {X : Int64} : (Int64.toInt32 X &&& 255).toInt = ((uF X % 256 : Nat) : Int) := by
  have e : (Int64.toInt32 X &&& 255).toBitVec.toNat = uF X % 256 := by
    rw [Int32.toBitVec_and, Int64.toBitVec_toInt32, BitVec.signExtend_eq_setWidth_of_le _ (by decide), BitVec.toNat_and, BitVec.toNat_setWidth]
    have k : (255 : Int32).toBitVec.toNat = 2 ^ 8 - 1 := by decide
    rw [k, Nat.and_two_pow_sub_one_eq_mod]
    show uF X % 2 ^ 32 % 2 ^ 8 = uF X % 256
    omega
  show (Int64.toInt32 X &&& 255).toBitVec.toInt = _
  rw [BitVec.toInt_eq_toNat_of_lt (by rw [e]; omega), e]
theorem by_eq {w : Int64} {r2 : Int32} {c : Nat} (h : r2.toInt = c) (hc : c ≤ 56) : (Int64.toInt32 ((Int64.toUInt64 w >>> (Int64.toUInt64 (Int32.toInt64 r2) &&& Int64.toUInt64 63)).toInt64) &&& 255) = Int64.toInt32 ((w >>> (Int32.toInt64 r2 &&& 63)) &&& 255) := by
  apply Int32.toInt_inj.mp
  have m := by_M (x := w) h hc
  have i := u_int ((w >>> (Int32.toInt64 r2 &&& 63)) &&& 255)
  rw [m, if_pos (by omega)] at i
  rw [by_C, u_ushr h (by omega), li_ok (by rw [i]; omega), i]
end N17
/-! ===== N18: compare, compared, on both sides ===== -/
section N18
variable {σ τ ρ μ : zS} {n P F : Nat} {rk : Nat → Nat}
/-- what is kept of the last comparison, on both sides -/
noncomputable def CpS (σ : zS) : Prop := (σ.1 27 19 = σ.1 110 75 ∧ 0 ≤ (σ.1 110 75).toInt ∧ (σ.1 110 75).toInt ≤ 20) ∧ ((σ.1 27 18).toInt = 0 ↔ (σ.1 110 74).toInt = 0) ∧ ∀ i, i < 6 → σ.1 33 i = σ.1 156 i
theorem wl_cmp50 {N : Nat} {po po' x3 : Int32} {ρ0 : zS} {Q : Int32 → zS → Prop} (kk : ∀ τ : zS, (∀ k j, k ≠ 156 → τ.1 k j = ρ0.1 k j) → τ.2 = ρ0.2 → (∀ i, i < 6 → (τ.1 156 i).toInt = if 2 ≤ i ∧ i < 5 then -4 else 0) → (WL_M_compare N).2.1 po po' x3 0 τ Q) : ∀ (f i : Nat) (x4 : Int32) (ρ : zS), i + f = 6 → x4.toInt = (i : Int) → (∀ k j, k ≠ 156 → ρ.1 k j = ρ0.1 k j) → ρ.2 = ρ0.2 → (∀ i', i' < i → (ρ.1 156 i').toInt = if 2 ≤ i' ∧ i' < 5 then -4 else 0) → (WL_M_compare (N + f + 1)).1 po po' x3 x4 ρ Q
  | 0, i, x4, ρ, e, h4, g1, g2, g3 => wl_M_compare_50 ⟨fun _ => kk ρ g1 g2 (by rw [show i = 6 by omega] at g3; exact g3), fun z => absurd (by omega) z⟩
  | f + 1, i, x4, ρ, e, h4, g1, g2, g3 => by
    have n0 : (0 : Int32).toInt = 0 := by decide
    have n4 : (-4 : Int32).toInt = -4 := by decide
    have nx : ∀ (v r : Int32) (s : zS), zI ρ 156 i v = s → r.toInt = (i : Int) + 1 → (v.toInt = if 2 ≤ i ∧ i < 5 then -4 else 0) → (WL_M_compare (N + f + 1)).1 po po' x3 r s Q := fun v r s e1 hr hv => by
      refine wl_cmp50 kk f (i + 1) r s (by omega) (by omega) (fun k j q => by rw [← e1, yI_ne (by omega)]; exact g1 k j q) (by rw [← e1, yI_l]; exact g2) (fun i' hi => ?_)
      by_cases z : i' = i
      · rw [z, ← e1, yI_at]; exact hv
      · rw [← e1, yI_ne (by omega)]; exact g3 i' (by omega)
    show (WL_M_compare ((N + f + 1) + 1)).1 po po' x3 x4 ρ Q
    refine wl_M_compare_50 ⟨fun z => absurd z (by omega), fun _ => ⟨fun c => ⟨i, h4, by omega, fun s e1 => ⟨by omega, fun r hr => nx 0 r s e1 (by omega) ?_⟩⟩, fun c => ⟨fun d => ⟨i, h4, by omega, fun s e1 => ⟨by omega, fun r hr => nx 0 r s e1 (by omega) ?_⟩⟩, fun d => ⟨i, h4, by omega, fun s e1 => ⟨by omega, fun r hr => nx (-4) r s e1 (by omega) ?_⟩⟩⟩⟩⟩
    · rw [if_neg (by omega)]; exact n0
    · rw [if_neg (by omega)]; exact n0
    · rw [if_pos (by omega)]; exact n4
noncomputable def cm0 : CmS := (0, fun i => if 2 ≤ i ∧ i < 5 then -4 else 0)
theorem cm0_b : CmB cm0 0 := by
  unfold CmB cm0
  refine ⟨by decide, by decide, by decide, by decide, by decide⟩
theorem compared_same {a1 : Int32} (h : CpS σ) : W_H_compared a1 σ (fun r σ1 => σ1 = σ ∧ W_M_compared a1 σ1 (fun r2 σ2 => r = r2 ∧ σ2 = σ)) := by
  have n0 : (0 : Int32).toInt = 0 := by decide
  have n1 : ¬ (1 : Int32).toInt = 0 := by decide
  have n6 : (6 : Int32).toInt = 6 := by decide
  refine w_isAmong (fun q => ⟨fun z => absurd z n1, fun _ => ⟨fun z => ⟨rfl, fun r1 h1 => ?_⟩, fun z => ⟨a1.toInt.toNat, by omega, by omega, rfl, fun r1 h1 => ?_⟩⟩⟩) (fun q => ⟨fun _ => ⟨rfl, fun r1 h1 => ?_⟩, fun z => absurd n0 z⟩)
  · exact w_inN (l := 0) (u := 5) h1 (by decide) (by decide) (fun _ => ⟨fun z => absurd z n1, fun _ => ⟨fun _ => ⟨rfl, rfl⟩, fun y => absurd (h.2.1.mp z) y⟩⟩) (fun y => absurd (by omega) y)
  · refine w_inN (l := 0) (u := 5) h1 (by decide) (by decide) (fun _ => ⟨fun z => absurd z n1, fun _ => ⟨fun y => absurd (h.2.1.mpr y) z, fun _ => ⟨a1.toInt.toNat, by omega, by omega, h.2.2 _ (by omega), rfl⟩⟩⟩) (fun y => absurd (by omega) y)
  · exact w_inN (l := 0) (u := 5) h1 (by decide) (by decide) (fun y => absurd (by omega) q) (fun _ => ⟨fun _ => ⟨rfl, rfl⟩, fun z => absurd n0 z⟩)
theorem compare_same {a1 a2 : Int32} (h : Wa σ n P F rk) (hb : 0 < P → (σ.1 110 26).toInt ≠ 0) (hl : CpS σ) : W_H_compare a1 a2 σ (fun r σ1 => FrHw σ σ1 ∧ W_M_compare a1 a2 σ1 (fun r2 σ2 => r = r2 ∧ FrMw σ1 σ2 ∧ CpS σ2)) := by
  have n0 : (0 : Int32).toInt = 0 := by decide
  have n1 : ¬ (1 : Int32).toInt = 0 := by decide
  have n4 : (-4 : Int32).toInt = -4 := by decide
  have h0 := h
  obtain ⟨_, ⟨c1, c2, c3, c4⟩, _, ⟨w1, w2⟩, ⟨p1, p2, p3⟩, ⟨t1, t2, t3⟩, _⟩ := h0
  have h19 := hl.1
  have bad : ¬ ((0 ≤ a1.toInt ∧ a1.toInt < (P : Int)) ∧ (0 ≤ a2.toInt ∧ a2.toInt < (P : Int))) → W_M_compare a1 a2 σ (fun r2 σ2 => (-1 : Int32) = r2 ∧ FrMw σ σ2 ∧ CpS σ2) := fun no => by
    refine w_isPolicyN (by omega) (fun q1 => ⟨fun z => absurd z n1, fun _ => ?_⟩) (fun _ => ⟨fun _ => ⟨rfl, FrMw.refl, hl⟩, fun z => absurd n0 z⟩)
    exact w_isPolicyN (by omega) (fun q2 => absurd ⟨by omega, by omega⟩ no) (fun _ => ⟨fun _ => ⟨rfl, FrMw.refl, hl⟩, fun z => absurd n0 z⟩)
  refine w_isAmong (fun q1 => ⟨fun z => absurd z n1, fun _ => ?_⟩) (fun q => ⟨fun _ => ⟨FrHw.refl, bad (fun z => q (by omega))⟩, fun z => absurd n0 z⟩)
  refine w_isAmong (fun q2 => ⟨fun z => absurd z n1, fun _ => ?_⟩) (fun q => ⟨fun _ => ⟨FrHw.refl, bad (fun z => q (by omega))⟩, fun z => absurd n0 z⟩)
  refine ⟨fun q3 s1 e1 s2 e2 => ?_, fun q3 => ⟨FrHw.refl, ?_⟩⟩
  · have hp : a1.toInt = -4 ∨ (0 ≤ a1.toInt ∧ a1.toInt < (P : Int)) := Or.inr (by omega)
    have hp' : a2.toInt = -4 ∨ (0 ≤ a2.toInt ∧ a2.toInt < (P : Int)) := Or.inr (by omega)
    obtain ⟨m, hm⟩ : ∃ m : Nat, (σ.1 110 20).toInt = (m : Int) := ⟨(σ.1 110 20).toInt.toNat, by omega⟩
    obtain ⟨M, hM⟩ : ∃ M : Nat, (σ.1 110 6).toInt = (M : Int) := ⟨(σ.1 110 6).toInt.toNat, by omega⟩
    obtain ⟨N, hN⟩ := fu_in (M := M) (m := m) (by omega) (by omega)
    have g19 : s2.1 27 19 = σ.1 27 19 := by rw [← e2, yI_ne (by omega), ← e1, yI_ne (by omega)]
    rw [h19.1] at q3
    refine ⟨by rw [g19, h19.1]; omega, fun r1 h1 s3 e3 s4 e4 s5 e5 s6 e6 s7 e7 s8 e8 s9 e9 s10 e10 => ?_⟩
    rw [g19, h19.1] at h1
    have f : FrHw σ s10 := (((((((((FrHw.refl.i e1 (by omega)).i e2 (by omega)).i e3 (by omega)).i e4 (by omega)).i e5 (by omega)).i e6 (by omega)).i e7 (by omega)).i e8 (by omega)).i e9 (by omega)).i e10 (by omega)
    have g : ∀ k j, ¬ (k = 27 ∧ (j = 6 ∨ j = 7 ∨ j = 18 ∨ j = 19)) → k ≠ 33 → s10.1 k j = σ.1 k j := fun k j q q2 => by rw [← e10, yI_ne (by omega), ← e9, yI_ne (by omega), ← e8, yI_ne (by omega), ← e7, yI_ne (by omega), ← e6, yI_ne (by omega), ← e5, yI_ne (by omega), ← e4, yI_ne (by omega), ← e3, yI_ne (by omega), ← e2, yI_ne (by omega), ← e1, yI_ne (by omega)]
    have hw : Wa s10 n P F rk := h.ch f (g 0 7 (by omega) (by omega))
    have now3 : s10.1 110 0 = σ.1 110 0 := g 110 0 (by omega) (by omega)
    have a6 : s10.1 27 6 = σ.1 110 0 := by rw [← e10, yI_ne (by omega), ← e9, yI_ne (by omega), ← e8, yI_ne (by omega), ← e7, yI_ne (by omega), ← e6, yI_ne (by omega), ← e5, yI_ne (by omega), ← e4, yI_ne (by omega), ← e3, yI_ne (by omega), ← e2, yI_ne (by omega), ← e1, yI_at, w1]
    have a7 : s10.1 27 7 = σ.1 110 0 := by rw [← e10, yI_ne (by omega), ← e9, yI_ne (by omega), ← e8, yI_ne (by omega), ← e7, yI_ne (by omega), ← e6, yI_ne (by omega), ← e5, yI_ne (by omega), ← e4, yI_ne (by omega), ← e3, yI_ne (by omega), ← e2, yI_at, w1]
    have a19 : s10.1 27 19 = r1 := by rw [← e10, yI_ne (by omega), ← e9, yI_ne (by omega), ← e8, yI_ne (by omega), ← e7, yI_ne (by omega), ← e6, yI_ne (by omega), ← e5, yI_ne (by omega), ← e4, yI_ne (by omega), ← e3, yI_at]
    have a18 : s10.1 27 18 = 1 := by rw [← e10, yI_ne (by omega), ← e9, yI_ne (by omega), ← e8, yI_ne (by omega), ← e7, yI_ne (by omega), ← e6, yI_ne (by omega), ← e5, yI_ne (by omega), ← e4, yI_at]
    have b0 : CmR s10 33 (0 : Int32).toInt cm0 := by
      refine ⟨n0, fun i hi => ?_⟩
      have : i = 0 ∨ i = 1 ∨ i = 2 ∨ i = 3 ∨ i = 4 ∨ i = 5 := by omega
      rcases this with q | q | q | q | q | q <;> rw [q]
      · rw [← e10, yI_ne (by omega), ← e9, yI_ne (by omega), ← e8, yI_ne (by omega), ← e7, yI_ne (by omega), ← e6, yI_ne (by omega), ← e5, yI_at]; decide
      · rw [← e10, yI_ne (by omega), ← e9, yI_ne (by omega), ← e8, yI_ne (by omega), ← e7, yI_ne (by omega), ← e6, yI_at]; decide
      · rw [← e10, yI_ne (by omega), ← e9, yI_ne (by omega), ← e8, yI_ne (by omega), ← e7, yI_at]; decide
      · rw [← e10, yI_ne (by omega), ← e9, yI_ne (by omega), ← e8, yI_at]; decide
      · rw [← e10, yI_ne (by omega), ← e9, yI_at]; decide
      · rw [← e10, yI_at]; decide
    rw [hN]
    refine wp_cmp hw (by rw [g 110 20 (by omega) (by omega)]; exact hm) (by rw [g 110 6 (by omega) (by omega)]; exact hM) hp hp' M 0 cm0 0 0 s10 (by omega) FrHa.refl (by rw [now3]; exact a6) (by rw [now3]; exact a7) (by decide) b0 cm0_b (fun r σ1 f1 er => ⟨f.tr f1.w, ?_⟩)
    have k : ∀ k j : Nat, 110 ≤ k → σ1.1 k j = σ.1 k j := fun k j q => (f1.k k j (by omega) (by omega) (by omega)).trans (g k j (by omega) (by omega))
    refine w_isPolicyN (by rw [k 110 32 (by omega)]; omega) (fun _ => ⟨fun z => absurd z n1, fun _ => ?_⟩) (fun q => absurd (by rw [k 110 32 (by omega)]; omega) q)
    refine w_isPolicyN (by rw [k 110 32 (by omega)]; omega) (fun _ => ⟨fun z => absurd z n1, fun _ => ?_⟩) (fun q => absurd (by rw [k 110 32 (by omega)]; omega) q)
    refine ⟨fun q => absurd q (by rw [k 110 75 (by omega)]; omega), fun _ => ⟨by rw [k 110 75 (by omega)]; omega, fun r6 h6 t7 y7 t8 y8 => ?_⟩⟩
    rw [k 110 75 (by omega)] at h6
    have fm : FrMw σ1 t8 := (FrMw.refl.i y7 (by omega)).i y8 (by omega)
    obtain ⟨N', hN'⟩ : ∃ N', fuF = (N' + M * (6 * (m + 2) + 2) + 1) + 6 + 1 := by
      have : M * (6 * (m + 2) + 2) ≤ 20 * (6 * (40 + 2) + 2) := Nat.mul_le_mul (by omega) (by omega)
      exact ⟨100000 - (M * (6 * (m + 2) + 2) + 8), by show 100000 = _; omega⟩
    rw [hN']
    refine wl_cmp50 (ρ0 := t8) (fun t9 g1 g2 g3 => ?_) 6 0 0 t8 (by omega) (by decide) (fun _ _ _ => rfl) rfl (fun i hi => absurd hi (by omega))
    have fv9 : FrVn t8 t9 := FrVn.all (fun k j _ _ _ _ _ _ _ _ q => g1 k j (by omega)) (fun k j _ _ => by rw [g2])
    refine wp_cmpM (σ := s10) (σ1 := t9) hw (by rw [g 110 26 (by omega) (by omega)]; exact hb (by omega)) (by rw [g 110 20 (by omega) (by omega)]; exact hm) (by rw [g 110 6 (by omega) (by omega)]; exact hM) hp hp' M 0 cm0 0 0 t9 (by omega) ((f1.v.tr fm.v).tr fv9) FrMa.refl (by decide) ⟨n0, fun i hi => g3 i hi⟩ cm0_b (fun r2 σ2 f2 er2 => ?_)
    have f29 : FrMw t8 σ2 := (show FrMw t8 t9 from ⟨fun k j _ _ _ _ _ q => g1 k j q, fun k j _ => by rw [g2]⟩).tr f2.w
    have v27 : ∀ j, σ2.1 27 j = s10.1 27 j ∨ j < 18 := fun j => by
      by_cases z : j < 18
      · exact Or.inr z
      · refine Or.inl ?_
        rw [f2.1 27 j (by omega) (by omega) (by omega) (by omega) (by omega) (fun _ => by omega), g1 27 j (by omega), ← y8, yI_ne (by omega), ← y7, yI_ne (by omega)]
        exact f1.1 27 j (by omega) (by omega) (by omega) (by omega) (fun _ => by omega)
    have u75 : σ2.1 110 75 = r6 := by rw [f2.1 110 75 (by omega) (by omega) (by omega) (by omega) (by omega) (fun _ => by omega), g1 110 75 (by omega), ← y8, yI_ne (by omega), ← y7, yI_at]
    have u74 : σ2.1 110 74 = 1 := by rw [f2.1 110 74 (by omega) (by omega) (by omega) (by omega) (by omega) (fun _ => by omega), g1 110 74 (by omega), ← y8, yI_at]
    have u19 : σ2.1 27 19 = r1 := by
      rcases v27 19 with z | z
      · rw [z]; exact a19
      · omega
    have u18 : σ2.1 27 18 = 1 := by
      rcases v27 18 with z | z
      · rw [z]; exact a18
      · omega
    refine ⟨Int32.toInt_inj.mp (er.1.trans er2.1.symm), fm.tr f29, ⟨?_, ?_⟩, ?_, fun i hi => ?_⟩
    · rw [u19, u75]; exact Int32.toInt_inj.mp (by omega)
    · rw [u75]; omega
    · rw [u18, u74]
    · have x1 : σ2.1 33 i = σ1.1 33 i := by rw [f2.1 33 i (by omega) (by omega) (by omega) (by omega) (by omega) (fun _ => by omega), g1 33 i (by omega), ← y8, yI_ne (by omega), ← y7, yI_ne (by omega)]
      rw [x1]
      exact Int32.toInt_inj.mp ((er.2 i hi).trans (er2.2 i hi).symm)
  · refine w_isPolicyN (by omega) (fun _ => ⟨fun z => absurd z n1, fun _ => ?_⟩) (fun q => absurd (by omega) q)
    refine w_isPolicyN (by omega) (fun _ => ⟨fun z => absurd z n1, fun _ => ?_⟩) (fun q => absurd (by omega) q)
    rw [h19.1] at q3
    exact ⟨fun _ => ⟨rfl, FrMw.refl, hl⟩, fun q => absurd (by omega) q⟩
end N18
/-! ===== N19: item, on both sides ===== -/
/-- what is put in for a number, by the feature's sort -/
noncomputable def VlI (k : Int) (a x : Int64) : Prop := (k = 3 ∧ x.toInt = (Int64.toInt32 a).toInt) ∨ (k ≠ 3 ∧ k = 2 ∧ (((Int64.toInt (a &&& 9223372036854775807)) ≤ 9218868437227405312 ∧ x = a) ∨ (¬ (Int64.toInt (a &&& 9223372036854775807)) ≤ 9218868437227405312 ∧ x = 9221120237041090560))) ∨ (k ≠ 3 ∧ k ≠ 2 ∧ x = a)
theorem VlI.one {k : Int} {a x y : Int64} (h : VlI k a x) (h' : VlI k a y) : x = y := by
  rcases h with ⟨h1, h2⟩ | ⟨h1, h2, h3⟩ | ⟨h1, h2, h3⟩
  · rcases h' with ⟨_, g2⟩ | ⟨g1, _⟩ | ⟨g1, _⟩
    · exact Int64.toInt_inj.mp (h2.trans g2.symm)
    · exact absurd h1 g1
    · exact absurd h1 g1
  · rcases h' with ⟨g1, _⟩ | ⟨_, _, g3⟩ | ⟨_, g2, _⟩
    · exact absurd g1 h1
    · rcases h3 with ⟨p, q⟩ | ⟨p, q⟩
      · rcases g3 with ⟨r, s⟩ | ⟨r, s⟩
        · exact q.trans s.symm
        · exact absurd p r
      · rcases g3 with ⟨r, s⟩ | ⟨r, s⟩
        · exact absurd r p
        · exact q.trans s.symm
    · exact absurd h2 g2
  · rcases h' with ⟨g1, _⟩ | ⟨_, g2, _⟩ | ⟨_, _, g3⟩
    · exact absurd g1 h1
    · exact absurd g2 h2
    · exact h3.trans g3.symm
section N19
variable {σ τ : zS} {a1 a2 a3 : Int32} {a4 : Int64}
theorem w_setItem {x1 x2 : Int32} {v : Int64} {n i : Nat} {Q : Unit → zS → Prop} (h1 : x1.toInt = (n : Int)) (hn : n < 480) (h2 : x2.toInt = (i : Int)) (hi : i < 20) (kk : ∀ (x : Int64) (τ : zS), VlI (σ.1 7 n).toInt v x → zJ σ 9 (20 * n + i) x = τ → Q () τ) : W_Wh_setItem x1 x2 v σ Q := by
  have n0 : (0 : Int32).toInt = 0 := by decide
  have n1 : ¬ (1 : Int32).toInt = 0 := by decide
  have put : ∀ x : Int64, VlI (σ.1 7 n).toInt v x → W_Wh_setItem_b43 x1 x2 x σ Q := fun x hx => ⟨by omega, fun r1 k1 => ⟨by omega, fun r2 k2 => ⟨20 * n + i, by omega, by omega, fun s4 e4 => kk x s4 hx e4⟩⟩⟩
  exact ⟨n, h1, hn, ⟨fun z r6 h6 => put r6 (Or.inl ⟨z, h6⟩), fun z => ⟨fun y => ⟨fun c => ⟨fun _ => put v (Or.inr (Or.inl ⟨z, y, Or.inl ⟨c, rfl⟩⟩)), fun q => absurd n0 q⟩, fun c => ⟨fun q => absurd q n1, fun _ => put _ (Or.inr (Or.inl ⟨z, y, Or.inr ⟨c, rfl⟩⟩))⟩⟩, fun y => put v (Or.inr (Or.inr ⟨z, y, rfl⟩))⟩⟩⟩
theorem item_same (hw : WdB σ) (h : ItS σ) (hz : ∀ f, f < 480 → 0 ≤ (σ.1 8 f).toInt ∧ (σ.1 8 f).toInt ≤ 20) : W_H_item a1 a2 a3 a4 σ (fun r σ1 => FrI σ σ1 ∧ W_M_item a1 a2 a3 a4 σ1 (fun r2 σ2 => r = r2 ∧ FrJ σ1 σ2 ∧ ItS σ2)) := by
  have n0 : (0 : Int32).toInt = 0 := by decide
  have n1 : ¬ (1 : Int32).toInt = 0 := by decide
  have n4 : (-4 : Int32).toInt = -4 := by decide
  have m1 : (-1 : Int32).toInt = -1 := by decide
  have z0 : (0 : Int64).toInt = 0 := by decide
  have same : ∀ {x y : Int32}, x = y → (x = y ∧ FrJ σ σ ∧ ItS σ) := fun e => ⟨e, ⟨fun _ _ _ _ => rfl, fun _ _ _ _ => rfl⟩, h⟩
  have fr : FrI σ σ := ⟨fun _ _ _ _ => rfl, fun _ _ _ => rfl⟩
  obtain ⟨⟨w1, w2, w3⟩, w4, w5⟩ := id hw
  refine w_slotOf (by omega) (by omega) (fun v n hv hn sl => ⟨fun z => absurd z (by omega), fun _ => ⟨n, hv, hn, ⟨fun c => ⟨fr, ?_⟩, fun c => ?_⟩⟩⟩) (fun no => ⟨fun _ => ⟨fr, ?_⟩, fun z => absurd n4 z⟩)
  · refine w_rowFor w1 w2 w3 w4 w5 (fun v' m hv' hm sm => ⟨fun _ => ⟨m, hv', hm, ⟨fun _ => same rfl, fun z => absurd ?_ z⟩⟩, fun z => absurd (by omega) z⟩) (fun q => absurd sl (q n))
    rw [← (h.1 m hm).1, sm.one sl]; exact c
  · have s8 := hz n hn
    refine w_isAmong (fun q => ⟨fun z => absurd z n1, fun _ => ?_⟩) (fun q => ⟨fun _ => ⟨fr, ?_⟩, fun z => absurd n0 z⟩)
    · obtain ⟨i, hi⟩ : ∃ i : Nat, a3.toInt = (i : Int) := ⟨a3.toInt.toNat, by omega⟩
      refine w_setItem hv hn hi (by omega) (fun x s hx e => ?_)
      have f1 : FrI σ s := ⟨fun k j _ _ => by rw [← e]; rfl, fun k j q => by rw [← e, yJ_ne (by omega)]⟩
      refine ⟨f1, ?_⟩
      obtain ⟨⟨w1, w2, w3⟩, w4, w5⟩ := hw.cg f1
      have si : s.1 = σ.1 := by rw [← e]; rfl
      have sl' := sl.cg f1
      refine w_rowFor w1 w2 w3 w4 w5 (fun v' m hv' hm sm => ⟨fun _ => ⟨m, hv', hm, ?_⟩, fun z => absurd (by omega) z⟩) (fun q => absurd sl' (q n))
      have em : m = n := sm.one sl'
      subst em
      have e7 : (s.1 121 m).toInt = (σ.1 7 m).toInt := by rw [si, (h.1 m hm).1]
      have e8 : (s.1 122 m).toInt = (σ.1 8 m).toInt := by rw [si, (h.1 m hm).2]
      refine ⟨fun z => absurd (by rw [← e7]; exact z) c, fun _ r5 h5 => ⟨by omega, fun r6 h6 r7 h7 => ?_⟩⟩
      refine w_inN (l := 0) (u := r6.toInt) h5 z0 h7 (fun _ => ⟨fun z => absurd z n1, fun _ => ⟨by omega, fun r10 h10 => ⟨by omega, fun r11 h11 => ?_⟩⟩⟩) (fun y => absurd (by omega) y)
      have put : ∀ (y : Int64) (t : zS), VlI (σ.1 7 m).toInt a4 y → zJ s 123 (20 * m + i) y = t → ((1 : Int32) = 1 ∧ FrJ s t ∧ ItS t) := fun y t hy et => by
        have exy : x = y := hx.one hy
        refine ⟨rfl, ⟨fun k j _ _ => by rw [← et]; rfl, fun k j q _ => by rw [← et, yJ_ne (by omega)]⟩, ⟨fun f hf => ?_, fun j hj => ?_⟩⟩
        · have : t.1 = σ.1 := by rw [← et]; exact si
          rw [this]; exact h.1 f hf
        · by_cases z : j = 20 * m + i
          · rw [z, ← et, yJ_at, yJ_ne (by omega), ← e, yJ_at]; exact exy
          · rw [← et, yJ_ne (by omega), yJ_ne (by omega), ← e, yJ_ne (by omega), yJ_ne (by omega)]; exact h.2 j hj
      refine ⟨fun z r22 h22 => ⟨20 * m + i, by omega, by omega, fun t et => put r22 t (Or.inl ⟨by rw [← e7]; exact z, h22⟩) et⟩, fun z => ⟨fun y => ⟨fun c' => ⟨fun _ => ⟨20 * m + i, by omega, by omega, fun t et => put a4 t (Or.inr (Or.inl ⟨by rw [← e7]; exact z, by rw [← e7]; exact y, Or.inl ⟨c', rfl⟩⟩)) et⟩, fun q => absurd n0 q⟩, fun c' => ⟨fun q => absurd q n1, fun _ => ⟨20 * m + i, by omega, by omega, fun t et => put _ t (Or.inr (Or.inl ⟨by rw [← e7]; exact z, by rw [← e7]; exact y, Or.inr ⟨c', rfl⟩⟩)) et⟩⟩⟩, fun y => ⟨20 * m + i, by omega, by omega, fun t et => put a4 t (Or.inr (Or.inr ⟨by rw [← e7]; exact z, by rw [← e7]; exact y, rfl⟩)) et⟩⟩⟩
    · refine w_rowFor w1 w2 w3 w4 w5 (fun v' m hv' hm sm => ⟨fun _ => ⟨m, hv', hm, ?_⟩, fun z => absurd (by omega) z⟩) (fun q => absurd sl (q n))
      have em : m = n := sm.one sl
      subst em
      have e7 : (σ.1 121 m).toInt = (σ.1 7 m).toInt := by rw [(h.1 m hm).1]
      have e8 : (σ.1 122 m).toInt = (σ.1 8 m).toInt := by rw [(h.1 m hm).2]
      refine ⟨fun z => absurd (by rw [← e7]; exact z) c, fun _ r5 h5 => ⟨by omega, fun r6 h6 r7 h7 => ?_⟩⟩
      exact w_inN (l := 0) (u := r6.toInt) h5 z0 h7 (fun y => absurd (by omega) q) (fun _ => ⟨fun _ => same rfl, fun z => absurd n0 z⟩)
  · exact w_rowFor w1 w2 w3 w4 w5 (fun v' m _ _ sm => absurd sm (no m)) (fun _ => ⟨fun z => absurd z (by omega), fun _ => same rfl⟩)
end N19
/-! ===== N20: feed and cut, on both sides ===== -/
noncomputable def bF (w : Int64) (i : Nat) : Int32 := Int64.toInt32 ((w >>> (Int32.toInt64 (Int32.ofInt ((8 * i : Nat) : Int)) &&& 63)) &&& 255)
/-- a tape (row kt, length ko jo) that is fed n bytes from the place L on -/
noncomputable def FdT (kt ko jo L n : Nat) (w : Int64) (σ τ : zS) : Prop := (∀ k j, ¬ (k = ko ∧ j = jo) → ¬ (k = kt ∧ L ≤ j ∧ j < L + n) → τ.1 k j = σ.1 k j) ∧ τ.2 = σ.2 ∧ (τ.1 ko jo).toInt = ((L + n : Nat) : Int) ∧ ∀ j, j < n → τ.1 kt (L + j) = bF w (n - 1 - j)
section N20
variable {σ τ : zS} {a1 : Int32} {w : Int64}
theorem wl_feedC {L n : Nat} {Q : Int32 → zS → Prop} (hL : L + n ≤ 1200) (hn : n ≤ 8) (kk : ∀ τ : zS, FdT 1 0 1 L n w σ τ → Q (τ.1 0 1) τ) : ∀ (f : Nat) (x4 : Int32) (ρ : zS), f ≤ n → x4.toInt = (f : Int) - 1 → (∀ k j, ¬ (k = 0 ∧ j = 1) → ¬ (k = 1 ∧ L ≤ j ∧ j < L + (n - f)) → ρ.1 k j = σ.1 k j) → ρ.2 = σ.2 → (ρ.1 0 1).toInt = ((L + (n - f) : Nat) : Int) → (∀ j, j < n - f → ρ.1 1 (L + j) = bF w (n - 1 - j)) → ∀ N, (WL_H_feed (N + f + 1)) w x4 ρ Q
  | 0, x4, ρ, hf, h4, g1, g2, g3, g4, N => wl_H_feed_33 ⟨fun _ => kk ρ ⟨g1, g2, g3, g4⟩, fun z => absurd (by omega) z⟩
  | f + 1, x4, ρ, hf, h4, g1, g2, g3, g4, N => by
    show (WL_H_feed ((N + f + 1) + 1)) w x4 ρ Q
    refine wl_H_feed_33 ⟨fun z => absurd z (by omega), fun _ => ⟨by omega, fun r2 h2 => ⟨L + (n - (f + 1)), g3, by omega, fun s5 e5 => ?_⟩⟩⟩
    have h2' : r2.toInt = ((8 * f : Nat) : Int) := by omega
    have l5 : (s5.1 0 1).toInt = ((L + (n - (f + 1)) : Nat) : Int) := by rw [← e5, yI_ne (by omega)]; exact g3
    refine ⟨by omega, fun r6 h6 s7 e7 => ⟨by omega, fun r8 h8 => ?_⟩⟩
    refine wl_feedC hL hn kk f r8 s7 (by omega) (by omega) (fun k j q q2 => ?_) (by rw [← e7, yI_l, ← e5, yI_l]; exact g2) (by rw [← e7, yI_at]; omega) (fun j hj => ?_) N
    · rw [← e7, yI_ne (by omega), ← e5, yI_ne (by omega)]; exact g1 k j q (by omega)
    · rw [← e7, yI_ne (by omega)]
      by_cases z : j = n - (f + 1)
      · rw [z, ← e5, yI_at, by_eq h2' (by omega), show n - 1 - (n - (f + 1)) = f by omega]
        unfold bF
        rw [← i32_of h2']
      · rw [← e5, yI_ne (by omega)]; exact g4 j (by omega)
theorem wl_feedM {L n : Nat} {Q : Int32 → zS → Prop} (hL : L + n ≤ 1200) (hn : n ≤ 8) (kk : ∀ τ : zS, FdT 111 110 1 L n w σ τ → Q (τ.1 110 1) τ) : ∀ (f : Nat) (x4 : Int32) (ρ : zS), f ≤ n → x4.toInt = (f : Int) - 1 → (∀ k j, ¬ (k = 110 ∧ j = 1) → ¬ (k = 111 ∧ L ≤ j ∧ j < L + (n - f)) → ρ.1 k j = σ.1 k j) → ρ.2 = σ.2 → (ρ.1 110 1).toInt = ((L + (n - f) : Nat) : Int) → (∀ j, j < n - f → ρ.1 111 (L + j) = bF w (n - 1 - j)) → ∀ N, (WL_M_feed (N + f + 1)) w x4 ρ Q
  | 0, x4, ρ, hf, h4, g1, g2, g3, g4, N => wl_M_feed_34 ⟨fun _ => kk ρ ⟨g1, g2, g3, g4⟩, fun z => absurd (by omega) z⟩
  | f + 1, x4, ρ, hf, h4, g1, g2, g3, g4, N => by
    show (WL_M_feed ((N + f + 1) + 1)) w x4 ρ Q
    refine wl_M_feed_34 ⟨fun z => absurd z (by omega), fun _ => ⟨by omega, fun r2 h2 => ⟨L + (n - (f + 1)), g3, by omega, fun s5 e5 => ?_⟩⟩⟩
    have h2' : r2.toInt = ((8 * f : Nat) : Int) := by omega
    have l5 : (s5.1 110 1).toInt = ((L + (n - (f + 1)) : Nat) : Int) := by rw [← e5, yI_ne (by omega)]; exact g3
    refine ⟨by omega, fun r6 h6 s7 e7 => ⟨by omega, fun r8 h8 => ?_⟩⟩
    refine wl_feedM hL hn kk f r8 s7 (by omega) (by omega) (fun k j q q2 => ?_) (by rw [← e7, yI_l, ← e5, yI_l]; exact g2) (by rw [← e7, yI_at]; omega) (fun j hj => ?_) N
    · rw [← e7, yI_ne (by omega), ← e5, yI_ne (by omega)]; exact g1 k j q (by omega)
    · rw [← e7, yI_ne (by omega)]
      by_cases z : j = n - (f + 1)
      · rw [z, ← e5, yI_at, show n - 1 - (n - (f + 1)) = f by omega]
        unfold bF
        rw [← i32_of h2']
      · rw [← e5, yI_ne (by omega)]; exact g4 j (by omega)
noncomputable def FrTc (σ τ : zS) : Prop := (∀ k j, ¬ (k = 0 ∧ j = 1) → k ≠ 1 → τ.1 k j = σ.1 k j) ∧ τ.2 = σ.2
noncomputable def FrTm (σ τ : zS) : Prop := (∀ k j, ¬ (k = 110 ∧ j = 1) → k ≠ 111 → τ.1 k j = σ.1 k j) ∧ τ.2 = σ.2
theorem FrTc.refl : FrTc σ σ := ⟨fun _ _ _ _ => rfl, rfl⟩
theorem FrTm.refl : FrTm σ σ := ⟨fun _ _ _ _ => rfl, rfl⟩
theorem feed_same (h : TaS σ) : W_H_feed a1 w σ (fun r σ1 => FrTc σ σ1 ∧ W_M_feed a1 w σ1 (fun r2 σ2 => r = r2 ∧ FrTm σ1 σ2 ∧ TaS σ2)) := by
  have n0 : (0 : Int32).toInt = 0 := by decide
  have n1 : ¬ (1 : Int32).toInt = 0 := by decide
  obtain ⟨⟨t1, t2, t3⟩, t4⟩ := id h
  have bad : ¬ (1 ≤ a1.toInt ∧ a1.toInt ≤ 8) → W_M_feed a1 w σ (fun r2 σ2 => (-1 : Int32) = r2 ∧ FrTm σ σ2 ∧ TaS σ2) := fun no r1 h1 => w_inN (l := 1) (u := 8) h1 (by decide) (by decide) (fun q => absurd q no) (fun _ => ⟨fun _ => ⟨rfl, FrTm.refl, h⟩, fun z => absurd n0 z⟩)
  obtain ⟨L, hL⟩ : ∃ L : Nat, (σ.1 0 1).toInt = (L : Int) := ⟨(σ.1 0 1).toInt.toNat, by omega⟩
  have hL' : (σ.1 110 1).toInt = (L : Int) := by rw [← t1]; exact hL
  refine ⟨fun c => ⟨FrTc.refl, bad (by omega)⟩, fun c => ⟨fun d => ⟨by omega, fun r3 h3 => ⟨fun q => ⟨by omega, fun r5 h5 => ?_⟩, fun q => ⟨FrTc.refl, fun r1 h1 => ?_⟩⟩⟩, fun d => ⟨FrTc.refl, bad (by omega)⟩⟩⟩
  · obtain ⟨n, hn⟩ : ∃ n : Nat, a1.toInt = (n : Int) := ⟨a1.toInt.toNat, by omega⟩
    obtain ⟨N, hN⟩ : ∃ N, fuF = N + n + 1 := ⟨100000 - (n + 1), by show 100000 = _; omega⟩
    rw [hN]
    refine wl_feedC (σ := σ) (L := L) (n := n) (by omega) (by omega) (fun σ1 f1 => ⟨⟨fun k j q q2 => f1.1 k j q (by omega), f1.2.1⟩, fun r1 h1 => ?_⟩) n r5 σ (Nat.le_refl _) (by omega) (fun _ _ _ _ => rfl) rfl (by rw [Nat.sub_self]; exact hL) (fun j hj => absurd hj (by omega)) N
    have e110 : σ1.1 110 1 = σ.1 110 1 := f1.1 110 1 (by omega) (by omega)
    refine w_inN (l := 1) (u := 8) h1 (by decide) (by decide) (fun _ => ⟨fun z => absurd z n1, fun _ => ⟨by rw [e110]; omega, fun r4 h4 => ⟨fun _ => ⟨by omega, fun r6 h6 => ?_⟩, fun z => absurd (by rw [e110] at h4; omega) z⟩⟩⟩) (fun z => absurd (by omega) z)
    rw [hN]
    refine wl_feedM (σ := σ1) (L := L) (n := n) (by omega) (by omega) (fun σ2 f2 => ?_) n r6 σ1 (Nat.le_refl _) (by omega) (fun _ _ _ _ => rfl) rfl (by rw [Nat.sub_self, e110]; exact hL') (fun j hj => absurd hj (by omega)) N
    have k01 : σ2.1 0 1 = σ1.1 0 1 := f2.1 0 1 (by omega) (by omega)
    have eq : σ1.1 0 1 = σ2.1 110 1 := Int32.toInt_inj.mp (f1.2.2.1.trans f2.2.2.1.symm)
    have l1 := f1.2.2.1
    refine ⟨eq, ⟨fun k j q q2 => f2.1 k j q (by omega), f2.2.1⟩, ⟨by rw [k01]; exact eq, by rw [k01]; omega, by rw [k01]; omega⟩, fun i hi => ?_⟩
    rw [f2.1 1 i (by omega) (by omega)]
    by_cases z : L ≤ i ∧ i < L + n
    · obtain ⟨j, hj⟩ : ∃ j, i = L + j := ⟨i - L, by omega⟩
      rw [hj, f1.2.2.2 j (by omega), f2.2.2.2 j (by omega)]
    · rw [f1.1 1 i (by omega) (by omega), f2.1 111 i (by omega) (by omega), f1.1 111 i (by omega) (by omega)]
      exact t4 i hi
  · refine w_inN (l := 1) (u := 8) h1 (by decide) (by decide) (fun _ => ⟨fun z => absurd z n1, fun _ => ⟨by omega, fun r4 h4 => ⟨fun z => absurd z (by omega), fun _ => ⟨rfl, FrTm.refl, h⟩⟩⟩⟩) (fun z => absurd (by omega) z)
theorem cut_same (h : TaS σ) : W_H_cut a1 σ (fun r σ1 => FrTc σ σ1 ∧ W_M_cut a1 σ1 (fun r2 σ2 => r = r2 ∧ FrTm σ1 σ2 ∧ TaS σ2)) := by
  have n0 : (0 : Int32).toInt = 0 := by decide
  have n1 : ¬ (1 : Int32).toInt = 0 := by decide
  have z0 : (0 : Int64).toInt = 0 := by decide
  obtain ⟨⟨t1, t2, t3⟩, t4⟩ := id h
  have e : (σ.1 110 1).toInt = (σ.1 0 1).toInt := by rw [t1]
  have bad : ¬ (0 ≤ a1.toInt ∧ a1.toInt ≤ (σ.1 0 1).toInt) → W_M_cut a1 σ (fun r2 σ2 => (-1 : Int32) = r2 ∧ FrTm σ σ2 ∧ TaS σ2) := fun no r1 h1 r2 h2 => w_inN (l := 0) (u := (σ.1 110 1).toInt) h1 z0 h2 (fun q => absurd (by omega) no) (fun _ => ⟨fun _ => ⟨rfl, FrTm.refl, h⟩, fun z => absurd n0 z⟩)
  refine ⟨fun c => ⟨FrTc.refl, bad (by omega)⟩, fun c => ⟨fun d => ⟨by omega, fun r3 h3 s4 e4 => ⟨⟨fun k j q _ => by rw [← e4, yI_ne (by omega)], by rw [← e4, yI_l]⟩, fun r1 h1 r2 h2 => ?_⟩⟩, fun d => ⟨FrTc.refl, bad (by omega)⟩⟩⟩
  have e110 : s4.1 110 1 = σ.1 110 1 := by rw [← e4, yI_ne (by omega)]
  rw [e110] at h2
  refine w_inN (l := 0) (u := (σ.1 110 1).toInt) h1 z0 h2 (fun _ => ⟨fun z => absurd z n1, fun _ => ⟨by rw [e110]; omega, fun r5 h5 s6 e6 => ⟨Int32.toInt_inj.mp (by rw [e110] at h5; omega), ⟨fun k j q _ => by rw [← e6, yI_ne (by omega)], by rw [← e6, yI_l]⟩, ⟨?_, ?_, ?_⟩, fun i hi => ?_⟩⟩⟩) (fun q => absurd (by omega) q)
  · rw [← e6, yI_ne (by omega), yI_at, ← e4, yI_at]
  · rw [← e6, yI_ne (by omega), ← e4, yI_at]; omega
  · rw [← e6, yI_ne (by omega), ← e4, yI_at]; omega
  · rw [← e6, yI_ne (by omega), yI_ne (by omega), ← e4, yI_ne (by omega), yI_ne (by omega)]
    exact t4 i hi
end N20
/-! ===== N21: a policy is put in force, on both sides ===== -/
section N21
variable {σ τ : zS} {P F : Nat} {a1 : Int32}
noncomputable def FrFc (σ τ : zS) : Prop := (∀ k j, ¬ (k = 0 ∧ (j = 5 ∨ j = 7)) → k ≠ 2 → k ≠ 3 → k ≠ 4 → ¬ (27 ≤ k ∧ k ≤ 33) → τ.1 k j = σ.1 k j) ∧ ∀ k j, k ≠ 28 → τ.2 k j = σ.2 k j
noncomputable def FrFm (σ τ : zS) : Prop := (∀ k j, ¬ (k = 110 ∧ (j = 3 ∨ j = 71 ∨ (64 ≤ j ∧ j ≤ 69) ∨ (74 ≤ j ∧ j ≤ 75))) → k ≠ 112 → k ≠ 113 → k ≠ 120 → ¬ (151 ≤ k ∧ k ≤ 156) → τ.1 k j = σ.1 k j) ∧ ∀ k j, k ≠ 152 → τ.2 k j = σ.2 k j
theorem inForce_same (hP : (σ.1 17 0).toInt = (P : Int) ∧ (σ.1 110 32).toInt = (P : Int) ∧ P ≤ 8) (hF : FoS σ F P) (hn : σ.1 0 2 = σ.1 110 0) (hl : 0 ≤ (σ.1 0 7).toInt ∧ (σ.1 0 7).toInt ≤ 300) (hm : 0 ≤ (σ.1 110 3).toInt ∧ (σ.1 110 3).toInt ≤ 300) : W_H_inForce a1 σ (fun r σ1 => FrFc σ σ1 ∧ W_M_inForce a1 σ1 (fun r2 σ2 => r = r2 ∧ FrFm σ1 σ2 ∧ ∃ F', FoS σ2 F' P)) := by
  have n0 : (0 : Int32).toInt = 0 := by decide
  have n1 : ¬ (1 : Int32).toInt = 0 := by decide
  obtain ⟨⟨o1, o2, o3⟩, o4⟩ := id hF
  have rf : FrFc σ σ := ⟨fun _ _ _ _ _ _ _ => rfl, fun _ _ _ => rfl⟩
  have rm : FrFm σ σ := ⟨fun _ _ _ _ _ _ _ => rfl, fun _ _ _ => rfl⟩
  refine w_isAmong (fun q => ⟨fun z => absurd z n1, fun _ => ⟨fun c => ?_, fun c => ?_⟩⟩) (fun q => ⟨fun _ => ⟨rf, ?_⟩, fun z => absurd n0 z⟩)
  · refine ⟨F, o1, by omega, fun s5 e5 => ⟨F, by rw [← e5, yI_ne (by omega)]; exact o1, by omega, fun s7 e7 => ?_⟩⟩
    have l7 : (s7.1 0 5).toInt = (F : Int) := by rw [← e7, yI_ne (by omega), ← e5, yI_ne (by omega)]; exact o1
    refine ⟨by omega, fun r8 h8 s9 e9 => ?_⟩
    refine w_writeLog (ω := false) (by rw [← e9, yI_ne (by omega), ← e7, yI_ne (by omega), ← e5, yI_ne (by omega)]; exact hl) (fun σ1 f1 => ⟨⟨fun k j q1 q2 q3 q4 q5 => ?_, fun k j q1 => ?_⟩, ?_⟩)
    · rw [f1.k k j (by omega) q4 q5, ← e9, yI_ne (by omega), ← e7, yI_ne (by omega), ← e5, yI_ne (by omega)]
    · rw [f1.2 k j q1, ← e9, yI_l, ← e7, yI_l, ← e5, yI_l]
    · have k : ∀ k j : Nat, 110 ≤ k → σ1.1 k j = σ.1 k j := fun k j q => by rw [f1.k k j (by omega) (by omega) (by omega), ← e9, yI_ne (by omega), ← e7, yI_ne (by omega), ← e5, yI_ne (by omega)]
      refine w_isPolicyN (by rw [k 110 32 (by omega)]; omega) (fun _ => ⟨fun z => absurd z n1, fun _ => ⟨fun z => absurd z (by rw [k 110 71 (by omega)]; omega), fun _ => ⟨F, by rw [k 110 71 (by omega)]; exact o2, by omega, fun t5 y5 => ⟨F, by rw [← y5, yI_ne (by omega), k 110 71 (by omega)]; exact o2, by omega, fun t7 y7 => ?_⟩⟩⟩⟩) (fun z => absurd (by rw [k 110 32 (by omega)]; omega) z)
      have m7 : (t7.1 110 71).toInt = (F : Int) := by rw [← y7, yI_ne (by omega), ← y5, yI_ne (by omega), k 110 71 (by omega)]; exact o2
      refine ⟨by omega, fun u8 v8 t9 y9 => ?_⟩
      refine w_logM (ω := false) (by rw [← y9, yI_ne (by omega), ← y7, yI_ne (by omega), ← y5, yI_ne (by omega), k 110 3 (by omega)]; exact hm) (fun σ2 f2 => ⟨rfl, ⟨fun k j q1 q2 q3 q4 q5 => ?_, fun k j q1 => ?_⟩, F + 1, ⟨?_, ?_, by omega⟩, fun i hi => ?_⟩)
      · rw [f2.1 k j (by omega) q2 q3 q4 (by omega) (fun _ => by omega), ← y9, yI_ne (by omega), ← y7, yI_ne (by omega), ← y5, yI_ne (by omega)]
      · rw [f2.2 k j q1, ← y9, yI_l, ← y7, yI_l, ← y5, yI_l]
      · have a : σ2.1 0 5 = r8 := by rw [f2.1 0 5 (by omega) (by omega) (by omega) (by omega) (by omega) (fun _ => by omega), ← y9, yI_ne (by omega), ← y7, yI_ne (by omega), ← y5, yI_ne (by omega), f1.k 0 5 (by omega) (by omega) (by omega), ← e9, yI_at]
        rw [a]; omega
      · have a : σ2.1 110 71 = u8 := by rw [f2.1 110 71 (by omega) (by omega) (by omega) (by omega) (by omega) (fun _ => by omega), ← y9, yI_at]
        rw [a]; omega
      · have a2 : σ2.1 2 i = if i = F then σ.1 0 2 else σ.1 2 i := by
          rw [f2.1 2 i (by omega) (by omega) (by omega) (by omega) (by omega) (fun _ => by omega), ← y9, yI_ne (by omega), ← y7, yI_ne (by omega), ← y5, yI_ne (by omega), f1.k 2 i (by omega) (by omega) (by omega), ← e9, yI_ne (by omega), ← e7, yI_ne (by omega)]
          by_cases z : i = F
          · rw [if_pos z, z, ← e5, yI_at]
          · rw [if_neg z, ← e5, yI_ne (by omega)]
        have a3 : σ2.1 3 i = if i = F then a1 else σ.1 3 i := by
          rw [f2.1 3 i (by omega) (by omega) (by omega) (by omega) (by omega) (fun _ => by omega), ← y9, yI_ne (by omega), ← y7, yI_ne (by omega), ← y5, yI_ne (by omega), f1.k 3 i (by omega) (by omega) (by omega), ← e9, yI_ne (by omega)]
          by_cases z : i = F
          · rw [if_pos z, z, ← e7, yI_at]
          · rw [if_neg z, ← e7, yI_ne (by omega), ← e5, yI_ne (by omega)]
        have a4 : σ2.1 154 i = if i = F then σ.1 110 0 else σ.1 154 i := by
          rw [f2.1 154 i (by omega) (by omega) (by omega) (by omega) (by omega) (fun _ => by omega), ← y9, yI_ne (by omega), ← y7, yI_ne (by omega)]
          by_cases z : i = F
          · rw [if_pos z, z, ← y5, yI_at, k 110 0 (by omega)]
          · rw [if_neg z, ← y5, yI_ne (by omega), k 154 i (by omega)]
        have a5 : σ2.1 155 i = if i = F then a1 else σ.1 155 i := by
          rw [f2.1 155 i (by omega) (by omega) (by omega) (by omega) (by omega) (fun _ => by omega), ← y9, yI_ne (by omega)]
          by_cases z : i = F
          · rw [if_pos z, z, ← y7, yI_at]
          · rw [if_neg z, ← y7, yI_ne (by omega), ← y5, yI_ne (by omega), k 155 i (by omega)]
        rw [a2, a3, a4, a5]
        by_cases z : i = F
        · rw [if_pos z, if_pos z, if_pos z, if_pos z]
          exact ⟨hn, rfl, by omega, by omega⟩
        · rw [if_neg z, if_neg z, if_neg z, if_neg z]
          exact o4 i (by omega)
  · refine ⟨rf, ?_⟩
    refine w_isPolicyN (by omega) (fun _ => ⟨fun z => absurd z n1, fun _ => ⟨fun _ => ⟨rfl, rm, F, hF⟩, fun z => absurd (by omega) z⟩⟩) (fun z => absurd (by omega) z)
  · exact w_isPolicyN (by omega) (fun z => absurd (by omega) q) (fun _ => ⟨fun _ => ⟨rfl, rm, F, hF⟩, fun z => absurd n0 z⟩)
end N21
/-! ===== N28: the log: both sides write the same rows, and the same sums ===== -/
noncomputable def mxJ (a v : Int32) : Int32 := (((a ^^^ v) * 1664525) + 1013904223) ^^^ ((Int32.toUInt32 (((a ^^^ v) * 1664525) + 1013904223) >>> (Int32.toUInt32 15 &&& Int32.toUInt32 31)).toInt32)
/-- n more columns from i on -/
noncomputable def smJ (f : Nat → Int32) : Nat → Int32 → Nat → Int32
  | _, x, 0 => x
  | i, x, n + 1 => smJ f (i + 1) (mxJ x (f i)) n
noncomputable def lr9 (k t a b c d : Int32) : Nat → Int32
  | 0 => k
  | 1 => t
  | 2 => a
  | 3 => b
  | 4 => c
  | _ => d
noncomputable def sdJ (f : Nat → Int32) (L : Nat) : Int32 := if L = 0 then 1 else f (L - 1)
noncomputable abbrev lsH (σ : zS) : Nat → Int32 := fun r => σ.1 4 (7 * r + 6)
noncomputable abbrev lsM (σ : zS) : Nat → Int32 := fun r => σ.1 113 r
noncomputable abbrev lcH (σ : zS) (L : Nat) : Nat → Int32 := fun k => σ.1 4 (7 * L + k)
noncomputable abbrev lcM (σ : zS) (L : Nat) : Nat → Int32 := fun k => σ.1 112 (6 * L + k)
/-- both logs hold the same -/
noncomputable def LgS (σ : zS) : Prop := ∃ L : Nat, ((σ.1 0 7).toInt = (L : Int) ∧ (σ.1 110 3).toInt = (L : Int) ∧ L ≤ 300) ∧ (∀ r c, r < L → c < 6 → σ.1 4 (7 * r + c) = σ.1 112 (6 * r + c)) ∧ ∀ r, r < L → σ.1 4 (7 * r + 6) = σ.1 113 r
/-- the class writes a row -/
noncomputable def LwH (L : Nat) (k a b c d : Int32) (σ τ : zS) : Prop := (L = 300 ∧ τ.1 0 7 = σ.1 0 7 ∧ ∀ j, τ.1 4 j = σ.1 4 j) ∨ (L < 300 ∧ (τ.1 0 7).toInt = (L : Int) + 1 ∧ (∀ j, j < 7 * L → τ.1 4 j = σ.1 4 j) ∧ (∀ c', c' < 6 → τ.1 4 (7 * L + c') = lr9 k (σ.1 0 2) a b c d c') ∧ τ.1 4 (7 * L + 6) = smJ (lr9 k (σ.1 0 2) a b c d) 0 (sdJ (lsH σ) L) 6)
/-- the reference writes a row -/
noncomputable def LwM (L : Nat) (k a b c d : Int32) (σ τ : zS) : Prop := (L = 300 ∧ τ.1 110 3 = σ.1 110 3 ∧ (∀ j, τ.1 112 j = σ.1 112 j) ∧ ∀ j, τ.1 113 j = σ.1 113 j) ∨ (L < 300 ∧ (τ.1 110 3).toInt = (L : Int) + 1 ∧ (∀ j, j < 6 * L → τ.1 112 j = σ.1 112 j) ∧ (∀ c', c' < 6 → τ.1 112 (6 * L + c') = lr9 k (σ.1 110 0) a b c d c') ∧ (∀ r, r < L → τ.1 113 r = σ.1 113 r) ∧ τ.1 113 L = smJ (lr9 k (σ.1 110 0) a b c d) 0 (sdJ (lsM σ) L) 6)
section N28
variable {ω : Bool} {σ τ : zS} {n P F L : Nat} {rk : Nat → Nat}
theorem smJ_cg {f g : Nat → Int32} : ∀ {n i : Nat} {x : Int32}, (∀ j, i ≤ j → j < i + n → f j = g j) → smJ f i x n = smJ g i x n
  | 0, _, _, _ => rfl
  | n + 1, i, x, h => by
    show smJ f (i + 1) (mxJ x (f i)) n = smJ g (i + 1) (mxJ x (g i)) n
    rw [h i (by omega) (by omega)]
    exact smJ_cg (fun j q1 q2 => h j (by omega) (by omega))
theorem sdJ_cg {f g : Nat → Int32} (h : ∀ r, r < L → f r = g r) : sdJ f L = sdJ g L := by
  unfold sdJ
  by_cases q : L = 0
  · rw [if_pos q, if_pos q]
  · rw [if_neg q, if_neg q, h _ (by omega)]
theorem w_sumAheadX {a : Int32} {Q : Int32 → zS → Prop} (h : a.toInt = (L : Int)) (hL : L < 300) (kk : Q (sdJ (lsH σ) L) σ) : W_H_sumAhead a σ Q := by
  unfold sdJ at kk
  refine ⟨fun z => ?_, fun c => ⟨by omega, fun r2 h2 => ⟨by omega, fun r3 h3 => ⟨by omega, fun r4 h4 => ⟨7 * (L - 1) + 6, by omega, by omega, ?_⟩⟩⟩⟩⟩
  · rw [if_pos (by omega)] at kk; exact kk
  · rw [if_neg (by omega)] at kk; exact kk
theorem wl_sumBehindX {a2 : Int32} {Q : Int32 → zS → Prop} (h : a2.toInt = (L : Int)) (hL : L < 300) : ∀ (n i N : Nat) (x3 x4 : Int32), x4.toInt = (i : Int) → i + n = 6 → Q (smJ (lcH σ L) i x3 n) σ → WL_H_sumBehind (N + n + 1) a2 x3 x4 σ Q
  | 0, i, N, x3, x4, h4, e, k => wl_H_sumBehind_5 ⟨fun _ => k, fun c => absurd (by omega) c⟩
  | n + 1, i, N, x3, x4, h4, e, k => by
    show WL_H_sumBehind ((N + n + 1) + 1) a2 x3 x4 σ Q
    have e7 : (a2 * 7).toInt = (L : Int) * 7 := im_ok h (by decide) (by omega)
    have e1 : ((a2 * 7) + x4).toInt = (L : Int) * 7 + i := ia_ok e7 h4 (by omega)
    refine wl_H_sumBehind_5 ⟨fun c => absurd c (by omega), fun c => ⟨7 * L + i, by omega, by omega, ?_⟩⟩
    exact wl_sumBehindX h hL n (i + 1) N _ _ (by rw [ia_ok h4 (show (Int32.ofInt 1).toInt = 1 by decide) (by omega)]; omega) (by omega) (show Q (smJ (lcH σ L) (i + 1) (mxJ x3 (σ.1 4 (7 * L + i))) n) σ from k)
theorem w_sumBehindX {a1 a2 : Int32} {Q : Int32 → zS → Prop} (h : a2.toInt = (L : Int)) (hL : L < 300) (kk : Q (smJ (lcH σ L) 0 a1 6) σ) : W_H_sumBehind a1 a2 σ Q := by
  have e : fuF = 99993 + 6 + 1 := by show 100000 = 99993 + 6 + 1; decide
  show WL_H_sumBehind fuF a2 a1 0 σ Q
  rw [e]
  exact wl_sumBehindX h hL 6 0 99993 a1 0 (by decide) (by omega) kk
theorem wl_sumOfX {a1 : Int32} {Q : Int32 → zS → Prop} (h : a1.toInt = (L : Int)) (hL : L < 300) : ∀ (n i N : Nat) (x3 x4 : Int32), x4.toInt = (i : Int) → i + n = 6 → Q (smJ (lcM σ L) i x3 n) σ → WL_M_sumOf (N + n + 1) a1 x3 x4 σ Q
  | 0, i, N, x3, x4, h4, e, k => wl_M_sumOf_5 ⟨fun _ => k, fun c => absurd (by omega) c⟩
  | n + 1, i, N, x3, x4, h4, e, k => by
    show WL_M_sumOf ((N + n + 1) + 1) a1 x3 x4 σ Q
    refine wl_M_sumOf_5 ⟨fun c => absurd c (by omega), fun c => ⟨by omega, fun r2 h2 => ⟨by omega, fun r3 h3 => ⟨6 * L + i, by omega, by omega, ?_⟩⟩⟩⟩
    exact ⟨by omega, fun r6 h6 => wl_sumOfX h hL n (i + 1) N _ _ (by omega) (by omega) (show Q (smJ (lcM σ L) (i + 1) (mxJ x3 (σ.1 112 (6 * L + i))) n) σ from k)⟩
theorem w_sumOfX {a1 a2 : Int32} {Q : Int32 → zS → Prop} (h : a1.toInt = (L : Int)) (hL : L < 300) (kk : Q (smJ (lcM σ L) 0 a2 6) σ) : W_M_sumOf a1 a2 σ Q := by
  have e : fuF = 99993 + 6 + 1 := by show 100000 = 99993 + 6 + 1; decide
  show WL_M_sumOf fuF a1 a2 0 σ Q
  rw [e]
  exact wl_sumOfX h hL 6 0 99993 a2 0 (by decide) (by omega) kk
theorem w_writeLogX {a1 a2 a3 a4 a5 : Int32} {Q : Unit → zS → Prop} (hL : (σ.1 0 7).toInt = (L : Int)) (hl : L ≤ 300) (kk : ∀ τ, FrHa ω σ τ → LwH L a1 a2 a3 a4 a5 σ τ → Q () τ) : W_H_writeLog a1 a2 a3 a4 a5 σ Q := by
  refine ⟨fun c => ⟨by omega, fun r2 h2 => ?_⟩, fun c => kk σ FrHa.refl (Or.inl ⟨by omega, rfl, fun _ => rfl⟩)⟩
  have hL' : L < 300 := by omega
  refine ⟨7 * L, by omega, by omega, fun s4 e4 => ⟨by omega, fun r5 h5 => ⟨7 * L + 1, by omega, by omega, fun s7 e7 => ⟨by omega, fun r8 h8 => ⟨7 * L + 2, by omega, by omega, fun s10 e10 => ⟨by omega, fun r11 h11 => ⟨7 * L + 3, by omega, by omega, fun s13 e13 => ⟨by omega, fun r14 h14 => ⟨7 * L + 4, by omega, by omega, fun s16 e16 => ⟨by omega, fun r17 h17 => ⟨7 * L + 5, by omega, by omega, fun s19 e19 => ⟨by omega, fun r20 h20 => ?_⟩⟩⟩⟩⟩⟩⟩⟩⟩⟩⟩⟩
  have f : FrL4 σ s19 := (((((FrL4.refl.w e4).w e7).w e10).w e13).w e16).w e19
  have l19 : (s19.1 0 7).toInt = (L : Int) := by rw [f.1 0 7 (by decide)]; exact hL
  have now : s4.1 0 2 = σ.1 0 2 := by rw [← e4, yI_ne (by omega)]
  have g : ∀ j, ¬ (7 * L ≤ j ∧ j < 7 * L + 6) → s19.1 4 j = σ.1 4 j := fun j q => by rw [← e19, yI_ne (by omega), ← e16, yI_ne (by omega), ← e13, yI_ne (by omega), ← e10, yI_ne (by omega), ← e7, yI_ne (by omega), ← e4, yI_ne (by omega)]
  have gc : ∀ c, c < 6 → s19.1 4 (7 * L + c) = lr9 a1 (σ.1 0 2) a2 a3 a4 a5 c := fun c hc => by
    have h6 : c = 0 ∨ c = 1 ∨ c = 2 ∨ c = 3 ∨ c = 4 ∨ c = 5 := by omega
    rcases h6 with q | q | q | q | q | q <;> subst q
    · show s19.1 4 (7 * L) = a1
      rw [← e19, yI_ne (by omega), ← e16, yI_ne (by omega), ← e13, yI_ne (by omega), ← e10, yI_ne (by omega), ← e7, yI_ne (by omega), ← e4, yI_at]
    · show s19.1 4 (7 * L + 1) = σ.1 0 2
      rw [← e19, yI_ne (by omega), ← e16, yI_ne (by omega), ← e13, yI_ne (by omega), ← e10, yI_ne (by omega), ← e7, yI_at, now]
    · show s19.1 4 (7 * L + 2) = a2
      rw [← e19, yI_ne (by omega), ← e16, yI_ne (by omega), ← e13, yI_ne (by omega), ← e10, yI_at]
    · show s19.1 4 (7 * L + 3) = a3
      rw [← e19, yI_ne (by omega), ← e16, yI_ne (by omega), ← e13, yI_at]
    · show s19.1 4 (7 * L + 4) = a4
      rw [← e19, yI_ne (by omega), ← e16, yI_at]
    · show s19.1 4 (7 * L + 5) = a5
      rw [← e19, yI_at]
  refine w_sumAheadX l19 hL' ?_
  refine w_sumBehindX l19 hL' ?_
  refine ⟨7 * L + 6, by omega, by omega, fun s24 e24 => ?_⟩
  have f24 := f.w e24
  have l24 : (s24.1 0 7).toInt = (L : Int) := by rw [f24.1 0 7 (by decide)]; exact hL
  refine ⟨by omega, fun r25 h25 s26 e26 => kk s26 (f24.a.i e26 (by omega)) (Or.inr ⟨hL', ?_, fun j hj => ?_, fun c hc => ?_, ?_⟩)⟩
  · rw [← e26, yI_at]; omega
  · rw [← e26, yI_ne (by omega), ← e24, yI_ne (by omega)]; exact g j (by omega)
  · rw [← e26, yI_ne (by omega), ← e24, yI_ne (by omega)]; exact gc c hc
  · rw [← e26, yI_ne (by omega), ← e24, yI_at, smJ_cg (f := lcH s19 L) (g := lr9 a1 (σ.1 0 2) a2 a3 a4 a5) (n := 6) (i := 0) (fun j _ q => gc j (by omega)), sdJ_cg (f := lsH s19) (g := lsH σ) (fun r q => g _ (by omega))]
theorem w_logMX {a1 a2 a3 a4 a5 : Int32} {Q : Unit → zS → Prop} (hL : (σ.1 110 3).toInt = (L : Int)) (hl : L ≤ 300) (kk : ∀ τ, FrMa ω σ τ → LwM L a1 a2 a3 a4 a5 σ τ → Q () τ) : W_M_log a1 a2 a3 a4 a5 σ Q := by
  refine ⟨fun c => kk σ FrMa.refl (Or.inl ⟨by omega, rfl, fun _ => rfl, fun _ => rfl⟩), fun c => ⟨by omega, fun r2 h2 => ⟨6 * L, by omega, by omega, fun s4 e4 => ?_⟩⟩⟩
  have hL' : L < 300 := by omega
  have l4 : (s4.1 110 3).toInt = (L : Int) := by rw [← e4, yI_ne (by omega)]; exact hL
  have now : s4.1 110 0 = σ.1 110 0 := by rw [← e4, yI_ne (by omega)]
  refine ⟨by omega, fun r5 h5 => ⟨by omega, fun r6 h6 => ⟨6 * L + 1, by omega, by omega, fun s8 e8 => ?_⟩⟩⟩
  have l8 : (s8.1 110 3).toInt = (L : Int) := by rw [← e8, yI_ne (by omega)]; exact l4
  refine ⟨by omega, fun r9 h9 => ⟨by omega, fun r10 h10 => ⟨6 * L + 2, by omega, by omega, fun s12 e12 => ?_⟩⟩⟩
  have l12 : (s12.1 110 3).toInt = (L : Int) := by rw [← e12, yI_ne (by omega)]; exact l8
  refine ⟨by omega, fun r13 h13 => ⟨by omega, fun r14 h14 => ⟨6 * L + 3, by omega, by omega, fun s16 e16 => ?_⟩⟩⟩
  have l16 : (s16.1 110 3).toInt = (L : Int) := by rw [← e16, yI_ne (by omega)]; exact l12
  refine ⟨by omega, fun r17 h17 => ⟨by omega, fun r18 h18 => ⟨6 * L + 4, by omega, by omega, fun s20 e20 => ?_⟩⟩⟩
  have l20 : (s20.1 110 3).toInt = (L : Int) := by rw [← e20, yI_ne (by omega)]; exact l16
  refine ⟨by omega, fun r21 h21 => ⟨by omega, fun r22 h22 => ⟨6 * L + 5, by omega, by omega, fun s24 e24 => ?_⟩⟩⟩
  have l24 : (s24.1 110 3).toInt = (L : Int) := by rw [← e24, yI_ne (by omega)]; exact l20
  have f : FrMa ω σ s24 := (((((FrMa.refl.i e4 (by omega)).i e8 (by omega)).i e12 (by omega)).i e16 (by omega)).i e20 (by omega)).i e24 (by omega)
  have g : ∀ j, ¬ (6 * L ≤ j ∧ j < 6 * L + 6) → s24.1 112 j = σ.1 112 j := fun j q => by rw [← e24, yI_ne (by omega), ← e20, yI_ne (by omega), ← e16, yI_ne (by omega), ← e12, yI_ne (by omega), ← e8, yI_ne (by omega), ← e4, yI_ne (by omega)]
  have g3 : ∀ j, s24.1 113 j = σ.1 113 j := fun j => by rw [← e24, yI_ne (by omega), ← e20, yI_ne (by omega), ← e16, yI_ne (by omega), ← e12, yI_ne (by omega), ← e8, yI_ne (by omega), ← e4, yI_ne (by omega)]
  have gc : ∀ c, c < 6 → s24.1 112 (6 * L + c) = lr9 a1 (σ.1 110 0) a2 a3 a4 a5 c := fun c hc => by
    have h6 : c = 0 ∨ c = 1 ∨ c = 2 ∨ c = 3 ∨ c = 4 ∨ c = 5 := by omega
    rcases h6 with q | q | q | q | q | q <;> subst q
    · show s24.1 112 (6 * L) = a1
      rw [← e24, yI_ne (by omega), ← e20, yI_ne (by omega), ← e16, yI_ne (by omega), ← e12, yI_ne (by omega), ← e8, yI_ne (by omega), ← e4, yI_at]
    · show s24.1 112 (6 * L + 1) = σ.1 110 0
      rw [← e24, yI_ne (by omega), ← e20, yI_ne (by omega), ← e16, yI_ne (by omega), ← e12, yI_ne (by omega), ← e8, yI_at, now]
    · show s24.1 112 (6 * L + 2) = a2
      rw [← e24, yI_ne (by omega), ← e20, yI_ne (by omega), ← e16, yI_ne (by omega), ← e12, yI_at]
    · show s24.1 112 (6 * L + 3) = a3
      rw [← e24, yI_ne (by omega), ← e20, yI_ne (by omega), ← e16, yI_at]
    · show s24.1 112 (6 * L + 4) = a4
      rw [← e24, yI_ne (by omega), ← e20, yI_at]
    · show s24.1 112 (6 * L + 5) = a5
      rw [← e24, yI_at]
  have last : ∀ y0 : Int32, y0 = sdJ (lsM σ) L → W_M_log_b138 y0 (s24.1 110 3) (s24.1 110 3) s24 Q := fun y0 ey => by
    refine w_sumOfX (a1 := s24.1 110 3) (a2 := y0) l24 hL' ?_
    refine ⟨L, l24, by omega, fun s3 e3 => ?_⟩
    have l3 : (s3.1 110 3).toInt = (L : Int) := by rw [← e3, yI_ne (by omega)]; exact l24
    refine ⟨by omega, fun r4 h4 s5 e5 => kk s5 ((f.i e3 (by omega)).i e5 (by omega)) (Or.inr ⟨hL', ?_, fun j hj => ?_, fun c hc => ?_, fun r hr => ?_, ?_⟩)⟩
    · rw [← e5, yI_at]; omega
    · rw [← e5, yI_ne (by omega), ← e3, yI_ne (by omega)]; exact g j (by omega)
    · rw [← e5, yI_ne (by omega), ← e3, yI_ne (by omega)]; exact gc c hc
    · rw [← e5, yI_ne (by omega), ← e3, yI_ne (by omega)]; exact g3 r
    · rw [← e5, yI_ne (by omega), ← e3, yI_at, smJ_cg (f := lcM s24 L) (g := lr9 a1 (σ.1 110 0) a2 a3 a4 a5) (n := 6) (i := 0) (fun j _ q => gc j (by omega)), ey]
  refine ⟨fun z => last 1 (by unfold sdJ; rw [if_pos (by omega)]), fun c' => ⟨by omega, fun r26 h26 => ⟨L - 1, by omega, by omega, last _ ?_⟩⟩⟩
  unfold sdJ
  rw [if_neg (by omega)]
  exact g3 (L - 1)
/-- both wrote one row -/
theorem LgS.step {ρ ρ' μ : zS} {k a b c d : Int32} (h : LgS σ) (hn : σ.1 0 2 = σ.1 110 0) (hL : (σ.1 0 7).toInt = (L : Int)) (c1 : ρ.1 0 2 = σ.1 0 2) (c2 : ∀ j, ρ.1 4 j = σ.1 4 j) (c3 : ρ.1 0 7 = σ.1 0 7) (w : LwH L k a b c d ρ ρ') (m1 : μ.1 110 0 = σ.1 110 0) (m2 : ∀ j, μ.1 112 j = σ.1 112 j) (m3 : ∀ j, μ.1 113 j = σ.1 113 j) (m4 : μ.1 110 3 = σ.1 110 3) (w' : LwM L k a b c d μ τ) (d2 : ∀ j, τ.1 4 j = ρ'.1 4 j) (d3 : τ.1 0 7 = ρ'.1 0 7) : LgS τ := by
  obtain ⟨L', ⟨h1, h2, h3⟩, h4, h5⟩ := h
  have eL : L' = L := by omega
  subst eL
  rcases w with ⟨z, a1, a2⟩ | ⟨z, a1, a2, a3, a4⟩
  · rcases w' with ⟨_, b1, b2, b3⟩ | ⟨z', _⟩
    · exact ⟨L', ⟨by rw [d3, a1, c3]; exact h1, by rw [b1, m4]; exact h2, h3⟩, fun r c hr hc => by rw [d2, a2, c2, b2, m2]; exact h4 r c hr hc, fun r hr => by rw [d2, a2, c2, b3, m3]; exact h5 r hr⟩
    · exact absurd z' (by omega)
  · rcases w' with ⟨z', _⟩ | ⟨_, b1, b2, b3, b4, b5⟩
    · exact absurd z' (by omega)
    · refine ⟨L' + 1, ⟨by rw [d3]; omega, by omega, by omega⟩, fun r c hr hc => ?_, fun r hr => ?_⟩
      · rw [d2]
        by_cases q : r = L'
        · rw [q, a3 c hc, b3 c hc, c1, m1, hn]
        · rw [a2 _ (by omega), b2 _ (by omega), c2, m2]; exact h4 r c (by omega) hc
      · rw [d2]
        by_cases q : r = L'
        · rw [q, a4, b5, c1, m1, hn, sdJ_cg (f := lsH ρ) (g := lsM μ) (fun r' q => by show ρ.1 4 (7 * r' + 6) = μ.1 113 r'; rw [c2, m3]; exact h5 r' q)]
        · rw [a2 _ (by omega), b4 r (by omega), c2, m3]; exact h5 r (by omega)
/-! the log is asked, forged, checked -/
theorem logged_same {a1 a2 : Int32} (h : LgS σ) : W_H_logged a1 a2 σ (fun r σ1 => σ1 = σ ∧ W_M_logged a1 a2 σ1 (fun r2 σ2 => r = r2 ∧ σ2 = σ)) := by
  have n0 : (0 : Int32).toInt = 0 := by decide
  have n1 : ¬ (1 : Int32).toInt = 0 := by decide
  have n7 : (7 : Int32).toInt = 7 := by decide
  have z0 : (0 : Int64).toInt = 0 := by decide
  obtain ⟨L, ⟨h1, h2, h3⟩, h4, h5⟩ := h
  have e37 : σ.1 0 7 = σ.1 110 3 := Int32.toInt_inj.mp (h1.trans h2.symm)
  refine ⟨fun c => ⟨rfl, fun _ => ⟨e37, rfl⟩, fun z => absurd c z⟩, fun c => ?_⟩
  have bad : ¬ ((0 ≤ a1.toInt ∧ a1.toInt < (L : Int)) ∧ (0 ≤ a2.toInt ∧ a2.toInt ≤ 6)) → W_M_logged a1 a2 σ (fun r2 σ2 => (-1 : Int32) = r2 ∧ σ2 = σ) := fun no => by
    refine ⟨fun z => absurd z c, fun _ r2 k2 => ⟨by omega, fun r3 k3 r4 k4 => ?_⟩⟩
    refine w_inN k2 z0 k4 (fun q1 => ⟨fun z => absurd z n1, fun _ r7 k7 => ?_⟩) (fun _ => ⟨fun _ => ⟨rfl, rfl⟩, fun z => absurd n0 z⟩)
    exact w_inN (l := 0) (u := 6) k7 (by decide) (by decide) (fun q2 => absurd ⟨by omega, by omega⟩ no) (fun _ => ⟨fun _ => ⟨rfl, rfl⟩, fun z => absurd n0 z⟩)
  refine w_isAmong (fun q1 => ⟨fun z => absurd z n1, fun _ => ?_⟩) (fun q => ⟨fun _ => ⟨rfl, bad (fun z => q (by omega))⟩, fun z => absurd n0 z⟩)
  refine w_isAmong (fun q2 => ⟨fun z => absurd z n1, fun _ => ?_⟩) (fun q => ⟨fun _ => ⟨rfl, bad (fun z => q (by omega))⟩, fun z => absurd n0 z⟩)
  obtain ⟨r, hr⟩ : ∃ r : Nat, a1.toInt = (r : Int) := ⟨a1.toInt.toNat, by omega⟩
  obtain ⟨k, hk⟩ : ∃ k : Nat, a2.toInt = (k : Int) := ⟨a2.toInt.toNat, by omega⟩
  refine ⟨by omega, fun r6 k6 => ⟨by omega, fun r7 k7 => ⟨7 * r + k, by omega, by omega, rfl, fun z => absurd z c, fun _ r2 k2 => ⟨by omega, fun r3 k3 r4 k4 => ?_⟩⟩⟩⟩
  refine w_inN k2 z0 k4 (fun q1 => ⟨fun z => absurd z n1, fun _ r9 k9 => ?_⟩) (fun q => absurd (by omega) q)
  refine w_inN (l := 0) (u := 6) k9 (by decide) (by decide) (fun q2 => ⟨fun z => absurd z n1, fun _ => ⟨fun z => ?_, fun z => ?_⟩⟩) (fun q => absurd (by omega) q)
  · have k6 : k = 6 := by omega
    subst k6
    exact ⟨r, hr, by omega, h5 r (by omega), rfl⟩
  · exact ⟨by omega, fun r11 k11 => ⟨by omega, fun r12 k12 => ⟨6 * r + k, by omega, by omega, h4 r k (by omega) (by omega), rfl⟩⟩⟩
theorem forge_same {a1 a2 a3 : Int32} (h : LgS σ) : W_H_forge a1 a2 a3 σ (fun r σ1 => ((∀ k j, k ≠ 4 → σ1.1 k j = σ.1 k j) ∧ σ1.2 = σ.2) ∧ W_M_forge a1 a2 a3 σ1 (fun r2 σ2 => r = r2 ∧ ((∀ k j, k ≠ 112 → σ2.1 k j = σ1.1 k j) ∧ σ2.2 = σ1.2) ∧ LgS σ2)) := by
  have n0 : (0 : Int32).toInt = 0 := by decide
  have n1 : ¬ (1 : Int32).toInt = 0 := by decide
  have n6 : (6 : Int32).toInt = 6 := by decide
  have z0 : (0 : Int64).toInt = 0 := by decide
  have hl := h
  obtain ⟨L, ⟨h1, h2, h3⟩, h4, h5⟩ := h
  have fr : (∀ k j, k ≠ 4 → σ.1 k j = σ.1 k j) ∧ σ.2 = σ.2 := ⟨fun _ _ _ => rfl, rfl⟩
  have bad : ¬ ((0 ≤ a1.toInt ∧ a1.toInt < (L : Int)) ∧ (0 ≤ a2.toInt ∧ a2.toInt ≤ 5)) → W_M_forge a1 a2 a3 σ (fun r2 σ2 => (-1 : Int32) = r2 ∧ ((∀ k j, k ≠ 112 → σ2.1 k j = σ.1 k j) ∧ σ2.2 = σ.2) ∧ LgS σ2) := fun no => by
    have same : (-1 : Int32) = -1 ∧ ((∀ k j, k ≠ 112 → σ.1 k j = σ.1 k j) ∧ σ.2 = σ.2) ∧ LgS σ := ⟨rfl, ⟨fun _ _ _ => rfl, rfl⟩, hl⟩
    refine fun r1 k1 => ⟨by omega, fun r2 k2 r3 k3 => ?_⟩
    refine w_inN k1 z0 k3 (fun q1 => ⟨fun z => absurd z n1, fun _ r6 k6 => ?_⟩) (fun _ => ⟨fun _ => same, fun z => absurd n0 z⟩)
    exact w_inN (l := 0) (u := 5) k6 (by decide) (by decide) (fun q2 => absurd ⟨by omega, by omega⟩ no) (fun _ => ⟨fun _ => same, fun z => absurd n0 z⟩)
  refine w_isAmong (fun q1 => ⟨fun z => absurd z n1, fun _ => ?_⟩) (fun q => ⟨fun _ => ⟨fr, bad (fun z => q (by omega))⟩, fun z => absurd n0 z⟩)
  refine w_isAmong (fun q2 => ⟨fun z => absurd z n1, fun _ => ?_⟩) (fun q => ⟨fun _ => ⟨fr, bad (fun z => q (by omega))⟩, fun z => absurd n0 z⟩)
  obtain ⟨r, hr⟩ : ∃ r : Nat, a1.toInt = (r : Int) := ⟨a1.toInt.toNat, by omega⟩
  obtain ⟨k, hk⟩ : ∃ k : Nat, a2.toInt = (k : Int) := ⟨a2.toInt.toNat, by omega⟩
  refine ⟨by omega, fun r5 k5 => ⟨by omega, fun r6 k6 => ⟨7 * r + k, by omega, by omega, ⟨by omega, fun r8 k8 => ⟨by omega, fun r9 k9 => ⟨7 * r + k, by omega, by omega, fun s e => ?_⟩⟩⟩⟩⟩⟩
  have g : ∀ k' j, k' ≠ 4 → s.1 k' j = σ.1 k' j := fun k' j q => by rw [← e, yI_ne (by omega)]
  refine ⟨⟨g, by rw [← e, yI_l]⟩, fun r1 k1 => ⟨by rw [g 110 3 (by decide)]; omega, fun r2 k2 r3 k3 => ?_⟩⟩
  rw [g 110 3 (by decide)] at k2
  refine w_inN k1 z0 k3 (fun _ => ⟨fun z => absurd z n1, fun _ r10 k10 => ?_⟩) (fun q => absurd (by omega) q)
  refine w_inN (l := 0) (u := 5) k10 (by decide) (by decide) (fun _ => ⟨fun z => absurd z n1, fun _ => ?_⟩) (fun q => absurd (by omega) q)
  refine ⟨by omega, fun r11 k11 => ⟨by omega, fun r12 k12 => ⟨6 * r + k, by omega, by omega, ⟨by omega, fun r13 k13 => ⟨by omega, fun r14 k14 => ⟨6 * r + k, by omega, by omega, fun t y => ?_⟩⟩⟩⟩⟩⟩
  have gt : ∀ k' j, k' ≠ 112 → t.1 k' j = s.1 k' j := fun k' j q => by rw [← y, yI_ne (by omega)]
  refine ⟨by rw [g 112 _ (by decide)]; exact h4 r k (by omega) (by omega), ⟨gt, by rw [← y, yI_l]⟩, L, ⟨by rw [gt 0 7 (by decide), g 0 7 (by decide)]; exact h1, by rw [gt 110 3 (by decide), g 110 3 (by decide)]; exact h2, h3⟩, fun r' c hr' hc => ?_, fun r' hr' => ?_⟩
  · rw [gt 4 _ (by decide)]
    by_cases q : r' = r ∧ c = k
    · rw [q.1, q.2, ← e, yI_at, ← y, yI_at]
    · rw [← e, yI_ne (by omega), ← y, yI_ne (by omega), g 112 _ (by decide)]
      exact h4 r' c hr' hc
  · rw [gt 4 _ (by decide), gt 113 _ (by decide), g 113 _ (by decide), ← e, yI_ne (by omega)]
    exact h5 r' hr'
theorem wl_wrongH {Q : Int32 → zS → Prop} (h1 : (σ.1 0 7).toInt = (L : Int)) (h3 : L ≤ 300) (k0 : (∀ r, r < L → σ.1 4 (7 * r + 6) = smJ (lcH σ r) 0 (sdJ (lsH σ) r) 6) → Q (-4) σ) (k1 : ∀ (x : Int32) (r : Nat), x.toInt = (r : Int) → r < L → (∀ r', r' < r → σ.1 4 (7 * r' + 6) = smJ (lcH σ r') 0 (sdJ (lsH σ) r') 6) → ¬ σ.1 4 (7 * r + 6) = smJ (lcH σ r) 0 (sdJ (lsH σ) r) 6 → Q x σ) : ∀ (f r : Nat) (x1 : Int32), r + f = L → x1.toInt = (r : Int) → (∀ r', r' < r → σ.1 4 (7 * r' + 6) = smJ (lcH σ r') 0 (sdJ (lsH σ) r') 6) → ∀ N, WL_H_wrong (N + f + 1) x1 σ Q
  | 0, r, x1, e, hx, g, N => wl_H_wrong_2 ⟨fun _ => k0 (fun r' q => g r' (by omega)), fun z => absurd (by omega) z⟩
  | f + 1, r, x1, e, hx, g, N => by
    show WL_H_wrong ((N + f + 1) + 1) x1 σ Q
    refine wl_H_wrong_2 ⟨fun z => absurd z (by omega), fun _ => ⟨by omega, fun r2 k2 => ⟨by omega, fun r3 k3 => ⟨7 * r + 6, by omega, by omega, ?_⟩⟩⟩⟩
    refine w_sumAheadX hx (by omega) ?_
    refine w_sumBehindX hx (by omega) ?_
    refine ⟨fun q => ⟨by omega, fun r8 k8 => wl_wrongH h1 h3 k0 k1 f (r + 1) r8 (by omega) (by omega) (fun r' q' => ?_) N⟩, fun q => k1 x1 r hx (by omega) g (fun z => q (congrArg Int32.toInt z))⟩
    by_cases z : r' = r
    · rw [z]; exact Int32.toInt_inj.mp q
    · exact g r' (by omega)
theorem wl_wrongM {Q : Int32 → zS → Prop} (h1 : (σ.1 110 3).toInt = (L : Int)) (h3 : L ≤ 300) (k0 : (∀ r, r < L → σ.1 113 r = smJ (lcM σ r) 0 (sdJ (lsM σ) r) 6) → Q (-4) σ) (k1 : ∀ (x : Int32) (r : Nat), x.toInt = (r : Int) → r < L → (∀ r', r' < r → σ.1 113 r' = smJ (lcM σ r') 0 (sdJ (lsM σ) r') 6) → ¬ σ.1 113 r = smJ (lcM σ r) 0 (sdJ (lsM σ) r) 6 → Q x σ) : ∀ (f r : Nat) (x1 : Int32), r + f = L → x1.toInt = (r : Int) → (∀ r', r' < r → σ.1 113 r' = smJ (lcM σ r') 0 (sdJ (lsM σ) r') 6) → ∀ N, WL_M_wrong (N + f + 1) x1 σ Q
  | 0, r, x1, e, hx, g, N => wl_M_wrong_2 ⟨fun _ => k0 (fun r' q => g r' (by omega)), fun z => absurd (by omega) z⟩
  | f + 1, r, x1, e, hx, g, N => by
    show WL_M_wrong ((N + f + 1) + 1) x1 σ Q
    have rest : ∀ v : Int32, v = smJ (lcM σ r) 0 (sdJ (lsM σ) r) 6 → (((σ.1 113 r).toInt = v.toInt → ((-2147483648 ≤ x1.toInt + 1 ∧ x1.toInt + 1 ≤ 2147483647) ∧ ∀ r8 : Int32, r8.toInt = x1.toInt + 1 → WL_M_wrong (N + f + 1) r8 σ Q)) ∧ (¬ (σ.1 113 r).toInt = v.toInt → Q x1 σ)) := fun v ev => by
      refine ⟨fun q => ⟨by omega, fun r8 k8 => wl_wrongM h1 h3 k0 k1 f (r + 1) r8 (by omega) (by omega) (fun r' q' => ?_) N⟩, fun q => k1 x1 r hx (by omega) g (fun z => q (by rw [z, ev]))⟩
      by_cases z : r' = r
      · rw [z, ← ev]; exact Int32.toInt_inj.mp q
      · exact g r' (by omega)
    refine wl_M_wrong_2 ⟨fun z => absurd z (by omega), fun _ => ⟨r, hx, by omega, ⟨fun z => ?_, fun z => ⟨by omega, fun r4 k4 => ⟨r - 1, by omega, by omega, ?_⟩⟩⟩⟩⟩
    · refine w_sumOfX hx (by omega) ?_
      exact rest _ (by unfold sdJ; rw [if_pos (by omega)])
    · refine w_sumOfX hx (by omega) ?_
      exact rest _ (by unfold sdJ; rw [if_neg (by omega)])
theorem sum_same (h4 : ∀ r c, r < L → c < 6 → σ.1 4 (7 * r + c) = σ.1 112 (6 * r + c)) {r : Nat} (hr : r < L) {x : Int32} : smJ (lcH σ r) 0 x 6 = smJ (lcM σ r) 0 x 6 := smJ_cg (fun j _ q => h4 r j hr (by omega))
theorem wrong_same (h : LgS σ) : W_H_wrong σ (fun r σ1 => σ1 = σ ∧ W_M_wrong σ1 (fun r2 σ2 => r = r2 ∧ σ2 = σ)) := by
  obtain ⟨L, ⟨h1, h2, h3⟩, h4, h5⟩ := h
  have ok : ∀ r, r < L → (σ.1 4 (7 * r + 6) = smJ (lcH σ r) 0 (sdJ (lsH σ) r) 6 ↔ σ.1 113 r = smJ (lcM σ r) 0 (sdJ (lsM σ) r) 6) := fun r hr => by
    rw [h5 r hr, sum_same h4 hr, sdJ_cg (f := lsH σ) (g := lsM σ) (fun r' q => h5 r' (by omega))]
  obtain ⟨N, hN⟩ : ∃ N, fuF = N + L + 1 := ⟨100000 - (L + 1), by show 100000 = _; omega⟩
  show WL_H_wrong fuF 0 σ _
  rw [hN]
  refine wl_wrongH h1 h3 (fun all => ⟨rfl, ?_⟩) (fun x r hx hr g no => ⟨rfl, ?_⟩) L 0 0 (by omega) (by decide) (fun r' q => absurd q (by omega)) N
  · show WL_M_wrong fuF 0 σ _
    rw [hN]
    exact wl_wrongM h2 h3 (fun _ => ⟨rfl, rfl⟩) (fun x r _ hr _ no => absurd ((ok r hr).mp (all r hr)) no) L 0 0 (by omega) (by decide) (fun r' q => absurd q (by omega)) N
  · show WL_M_wrong fuF 0 σ _
    rw [hN]
    refine wl_wrongM h2 h3 (fun all => absurd ((ok r hr).mpr (all r hr)) no) (fun x' r' hx' hr' g' no' => ⟨?_, rfl⟩) L 0 0 (by omega) (by decide) (fun r' q => absurd q (by omega)) N
    have e : r = r' := by
      rcases Nat.lt_trichotomy r r' with q | q | q
      · exact absurd ((ok r hr).mpr (g' r q)) no
      · exact q
      · exact absurd ((ok r' hr').mp (g r' q)) no'
    exact Int32.toInt_inj.mp (by rw [hx, hx', e])
/-- the sum of the first rows -/
noncomputable def seJ (f : Nat → Int32 → Int32) : Nat → Int32 → Nat → Int32
  | _, x, 0 => x
  | i, x, n + 1 => seJ f (i + 1) (f i x) n
theorem seJ_cg {f g : Nat → Int32 → Int32} : ∀ {n i : Nat} {x : Int32}, (∀ j, i ≤ j → j < i + n → f j = g j) → seJ f i x n = seJ g i x n
  | 0, _, _, _ => rfl
  | n + 1, i, x, h => by
    show seJ f (i + 1) (f i x) n = seJ g (i + 1) (g i x) n
    rw [h i (by omega) (by omega)]
    exact seJ_cg (fun j q1 q2 => h j (by omega) (by omega))
theorem wl_sealedHX {a1 a2 : Int32} {m : Nat} {Q : Int32 → zS → Prop} (ha : a1.toInt = (m : Int)) (hm : m ≤ 300) : ∀ (n i N : Nat) (x3 x4 : Int32), x4.toInt = (i : Int) → i + n = m → ((seJ (fun r x => smJ (lcH σ r) 0 x 6) i x3 n).toInt = a2.toInt → Q 1 σ) → (¬ (seJ (fun r x => smJ (lcH σ r) 0 x 6) i x3 n).toInt = a2.toInt → Q 0 σ) → WL_H_sealed (N + n + 1) a1 a2 x3 x4 σ Q
  | 0, i, N, x3, x4, h4, e, k1, k0 => wl_H_sealed_19 ⟨fun _ => ⟨k1, k0⟩, fun c => absurd (by omega) c⟩
  | n + 1, i, N, x3, x4, h4, e, k1, k0 => by
    show WL_H_sealed ((N + n + 1) + 1) a1 a2 x3 x4 σ Q
    refine wl_H_sealed_19 ⟨fun c => absurd c (by omega), fun c => ?_⟩
    refine w_sumBehindX h4 (by omega) ?_
    exact ⟨by omega, fun r4 k4 => wl_sealedHX ha hm n (i + 1) N _ r4 (by omega) (by omega) k1 k0⟩
theorem wl_sealedMX {a1 a2 : Int32} {m : Nat} {Q : Int32 → zS → Prop} (ha : a1.toInt = (m : Int)) (hm : m ≤ 300) : ∀ (n i N : Nat) (x3 x4 : Int32), x4.toInt = (i : Int) → i + n = m → ((seJ (fun r x => smJ (lcM σ r) 0 x 6) i x3 n).toInt = a2.toInt → Q 1 σ) → (¬ (seJ (fun r x => smJ (lcM σ r) 0 x 6) i x3 n).toInt = a2.toInt → Q 0 σ) → WL_M_sealed (N + n + 1) a1 a2 x3 x4 σ Q
  | 0, i, N, x3, x4, h4, e, k1, k0 => wl_M_sealed_21 ⟨fun _ => ⟨k1, k0⟩, fun c => absurd (by omega) c⟩
  | n + 1, i, N, x3, x4, h4, e, k1, k0 => by
    show WL_M_sealed ((N + n + 1) + 1) a1 a2 x3 x4 σ Q
    refine wl_M_sealed_21 ⟨fun c => absurd c (by omega), fun c => ?_⟩
    refine w_sumOfX h4 (by omega) ?_
    exact ⟨by omega, fun r4 k4 => wl_sealedMX ha hm n (i + 1) N _ r4 (by omega) (by omega) k1 k0⟩
theorem sealed_same {a1 a2 : Int32} (h : LgS σ) : W_H_sealed a1 a2 σ (fun r σ1 => σ1 = σ ∧ W_M_sealed a1 a2 σ1 (fun r2 σ2 => r = r2 ∧ σ2 = σ)) := by
  have n0 : (0 : Int32).toInt = 0 := by decide
  have n1 : ¬ (1 : Int32).toInt = 0 := by decide
  have z0 : (0 : Int64).toInt = 0 := by decide
  obtain ⟨L, ⟨h1, h2, h3⟩, h4, h5⟩ := h
  have bad : ¬ (0 ≤ a1.toInt ∧ a1.toInt ≤ (L : Int)) → W_M_sealed a1 a2 σ (fun r2 σ2 => (-1 : Int32) = r2 ∧ σ2 = σ) := fun no r1 k1 r2 k2 =>
    w_inN k1 z0 k2 (fun q => absurd (by omega) no) (fun _ => ⟨fun _ => ⟨rfl, rfl⟩, fun z => absurd n0 z⟩)
  refine ⟨fun c => ⟨rfl, bad (by omega)⟩, fun c => ⟨fun d => ?_, fun d => ⟨rfl, bad (by omega)⟩⟩⟩
  obtain ⟨m, hm⟩ : ∃ m : Nat, a1.toInt = (m : Int) := ⟨a1.toInt.toNat, by omega⟩
  obtain ⟨N, hN⟩ : ∃ N, fuF = N + m + 1 := ⟨100000 - (m + 1), by show 100000 = _; omega⟩
  have eq : seJ (fun r x => smJ (lcH σ r) 0 x 6) 0 1 m = seJ (fun r x => smJ (lcM σ r) 0 x 6) 0 1 m := seJ_cg (fun j _ q => funext (fun x => sum_same h4 (by omega)))
  have ref : ∀ v : Int32, ((seJ (fun r x => smJ (lcM σ r) 0 x 6) 0 1 m).toInt = a2.toInt → v = 1) → (¬ (seJ (fun r x => smJ (lcM σ r) 0 x 6) 0 1 m).toInt = a2.toInt → v = 0) → W_M_sealed a1 a2 σ (fun r2 σ2 => v = r2 ∧ σ2 = σ) := fun v v1 v0 r1 k1 r2 k2 => by
    refine w_inN k1 z0 k2 (fun _ => ⟨fun z => absurd z n1, fun _ => ?_⟩) (fun q => absurd (by omega) q)
    rw [hN]
    exact wl_sealedMX hm (by omega) m 0 N 1 0 (by decide) (by omega) (fun q => ⟨v1 q, rfl⟩) (fun q => ⟨v0 q, rfl⟩)
  rw [hN]
  exact wl_sealedHX hm (by omega) m 0 N 1 0 (by decide) (by omega) (fun q => ⟨rfl, ref 1 (fun _ => rfl) (fun z => absurd (by rw [← eq]; exact q) z)⟩) (fun q => ⟨rfl, ref 0 (fun z => absurd (by rw [eq]; exact z) q) (fun _ => rfl)⟩)
end N28

end
