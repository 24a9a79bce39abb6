noncomputable section
noncomputable def Wp (E : Nat → Nat → Prop) : Nat → Nat → Nat → Prop
  | 0, a, b => a = b ∨ E a b
  | k + 1, a, b => Wp E k a b ∨ (Wp E k a k ∧ Wp E k k b)
section WA
variable {E : Nat → Nat → Prop}
theorem wp_le {a b : Nat} : ∀ {n k : Nat}, k ≤ n → Wp E k a b → Wp E n a b
  | 0, k, h, q => by
    have e : k = 0 := by omega
    rw [e] at q; exact q
  | n + 1, k, h, q => by
    by_cases e : k = n + 1
    · rw [e] at q; exact q
    · exact Or.inl (wp_le (n := n) (by omega) q)
theorem wp_row {k b : Nat} : Wp E (k + 1) k b ↔ Wp E k k b := by
  constructor
  · rintro (h | h)
    · exact h
    · exact h.2
  · exact Or.inl
theorem wp_col {k a : Nat} : Wp E (k + 1) a k ↔ Wp E k a k := by
  constructor
  · rintro (h | h)
    · exact h
    · exact h.1
  · exact Or.inl
/-- what is below k may be gone through -/
theorem wp_tr : ∀ {k a b c : Nat}, b < k → Wp E k a b → Wp E k b c → Wp E k a c
  | 0, _, _, _, h, _, _ => absurd h (Nat.not_lt_zero _)
  | k + 1, a, b, c, h, h1, h2 => by
    by_cases e : b = k
    · subst e
      exact Or.inr ⟨wp_col.mp h1, wp_row.mp h2⟩
    · have hb : b < k := by omega
      rcases h1 with h1 | ⟨h1, h1'⟩
      · rcases h2 with h2 | ⟨h2, h2'⟩
        · exact Or.inl (wp_tr hb h1 h2)
        · exact Or.inr ⟨wp_tr hb h1 h2, h2'⟩
      · rcases h2 with h2 | ⟨_, h2'⟩
        · exact Or.inr ⟨h1, wp_tr hb h1' h2⟩
        · exact Or.inr ⟨h1, h2'⟩
/-- a set that is closed holds all that its members come to -/
theorem wp_in {S : Nat → Prop} (hS : ∀ a b, S a → E a b → S b) : ∀ {k a b : Nat}, S a → Wp E k a b → S b
  | 0, a, b, h, q => by
    rcases q with rfl | q
    · exact h
    · exact hS a b h q
  | k + 1, a, b, h, q => by
    rcases q with q | ⟨q1, q2⟩
    · exact wp_in hS h q
    · exact wp_in hS (wp_in hS h q1) q2
end WA
noncomputable def Eb (kT : Nat) (σ : zS) (a b : Nat) : Prop := a < 6 ∧ b < 6 ∧ bitN (σ.1 kT a) b = true
noncomputable def ebB (kT : Nat) (σ : zS) (a b : Nat) : Bool := Nat.blt a 6 && (Nat.blt b 6 && bitN (σ.1 kT a) b)
theorem ebB_ok {kT : Nat} {σ : zS} : (fun a b => ebB kT σ a b = true) = Eb kT σ := by
  funext a b
  apply propext
  show (Nat.blt a 6 && (Nat.blt b 6 && bitN (σ.1 kT a) b)) = true ↔ _
  rw [Bool.and_eq_true, Bool.and_eq_true]
  exact ⟨fun h => ⟨Nat.le_of_ble_eq_true h.1, Nat.le_of_ble_eq_true h.2.1, h.2.2⟩, fun h => ⟨Nat.ble_eq_true_of_le h.1, Nat.ble_eq_true_of_le h.2.1, h.2.2⟩⟩
noncomputable def wpB (e : Nat → Nat → Bool) : Nat → Nat → Nat → Bool
  | 0, a, b => Nat.beq a b || e a b
  | k + 1, a, b => wpB e k a b || (wpB e k a k && wpB e k k b)
theorem wpB_ok {e : Nat → Nat → Bool} : ∀ {k a b : Nat}, wpB e k a b = true ↔ Wp (fun a b => e a b = true) k a b
  | 0, a, b => by
    show (Nat.beq a b || e a b) = true ↔ a = b ∨ e a b = true
    rw [Bool.or_eq_true]
    exact or_congr ⟨Nat.eq_of_beq_eq_true, fun h => by rw [h]; exact Nat.beq_refl b⟩ Iff.rfl
  | k + 1, a, b => by
    show (wpB e k a b || (wpB e k a k && wpB e k k b)) = true ↔ _ ∨ (_ ∧ _)
    rw [Bool.or_eq_true, Bool.and_eq_true]
    exact or_congr wpB_ok (and_congr wpB_ok wpB_ok)
theorem c0_of {kE kT : Nat} {σ : zS} (h : ∀ a, a < 6 → ∀ b, b < 6 → bitN (σ.1 kE a) b = wpB (ebB kT σ) 6 a b) : ∀ a b : Nat, a < 6 → b < 6 → (bitN (σ.1 kE a) b = true ↔ Wp (Eb kT σ) 6 a b) := fun a b ha hb => by
  rw [h a ha b hb, ← ebB_ok]
  exact wpB_ok
theorem R847.at {x y v : Int} (h : R847 x y v) {X Y V : Int32} (hx : X.toInt = x) (hy : Y.toInt = y) (hv : V.toInt = v) : V = X ||| Y := by
  obtain ⟨X', Y', e1, e2, e3⟩ := h
  have h1 : X' = X := Int32.toInt_inj.mp (e1.trans hx.symm)
  have h2 : Y' = Y := Int32.toInt_inj.mp (e2.trans hy.symm)
  subst h1
  subst h2
  exact Int32.toInt_inj.mp (hv.trans e3.symm)
/-- 850 i, 851 k, 852 i, 853: the closing is under way -/
noncomputable def C0 (kE kT : Nat) (a b c : Option Int) (σ : zS) : Prop := a = none → b = none → c = none → ∀ a b : Nat, a < 6 → b < 6 → (bitN (σ.1 kE a) b = true ↔ Wp (Eb kT σ) 6 a b)
noncomputable def C1 (kE kT : Nat) (a : Option Int) (σ : zS) : Prop := ∀ i, a = some i → ∀ a b : Nat, (a : Int) < i → a < 6 → b < 6 → (bitN (σ.1 kE a) b = true ↔ Wp (Eb kT σ) 0 a b)
noncomputable def C2 (kE kT : Nat) (z x y : Option Int) (σ : zS) : Prop := z = none → ∀ k i, x = some k → y = some i → ∃ K : Nat, k = (K : Int) ∧ K ≤ 6 ∧ ∀ a b : Nat, a < 6 → b < 6 → (bitN (σ.1 kE a) b = true ↔ if (a : Int) < i then Wp (Eb kT σ) (K + 1) a b else Wp (Eb kT σ) K a b)
noncomputable def C3 (x y v : Option Int) : Prop := ∀ a b c, x = some a → y = some b → v = some c → R847 a b c
/-- 855 q, 856 m: what is found from q -/
noncomputable def C4 (kT : Nat) (q m : Option Int) (σ : zS) : Prop := ∀ a b, q = some a → m = some b → ∃ (Q : Nat) (M : Int32), a = (Q : Int) ∧ Q < 6 ∧ M.toInt = b ∧ bitN M Q = true ∧ ∀ b, b < 6 → bitN M b = true → Wp (Eb kT σ) 6 Q b
/-- 856 m, 857 p, 858 i, 859 j -/
noncomputable def C5 (kH : Nat) (m p i j : Option Int) (σ : zS) : Prop := ∀ a b c d, m = some a → p = some b → i = some c → j = some d → ∀ M Z : Int32, M.toInt = a → Z.toInt = b → (∀ b, b < 6 → bitN Z b = true → bitN M b = true) ∧ ∀ a b : Nat, a < 6 → b < 6 → ((a : Int) < c ∨ ((a : Int) = c ∧ (b : Int) < d)) → bitN Z a = true → 1 ≤ (σ.1 kH (6 * a + b)).toInt → bitN M b = true
/-- 860: it is all -/
noncomputable def C6 (kT : Nat) (q m z : Option Int) (σ : zS) : Prop := ∀ a b c, q = some a → m = some b → z = some c → ∀ Q : Nat, a = (Q : Int) → ∀ M : Int32, M.toInt = b → ∀ b, b < 6 → (bitN M b = true ↔ Wp (Eb kT σ) 6 Q b)
/-- 861 o, 862 b: what the class holds of q at o -/
noncomputable def C7 (kT : Nat) (q o b : Option Int) (σ : zS) : Prop := ∀ a c d, q = some a → o = some c → b = some d → ∀ Q O : Nat, a = (Q : Int) → c = (O : Int) → O < 6 → (d = 0 ∨ d = 1) ∧ (d = 1 ↔ Wp (Eb kT σ) 6 Q O)
noncomputable def cC (kT kH kE : Nat) (H : List (Nat × Int)) (σ : zS) : Prop :=
  (C0 kE kT (lk H 850) (lk H 851) (lk H 853) σ ∧ C1 kE kT (lk H 850) σ ∧ C2 kE kT (lk H 850) (lk H 851) (lk H 852) σ ∧ C3 (lk H 847) (lk H 848) (lk H 849)) ∧
  C4 kT (lk H 855) (lk H 856) σ ∧ C5 kH (lk H 856) (lk H 857) (lk H 858) (lk H 859) σ ∧ C6 kT (lk H 855) (lk H 856) (lk H 860) σ ∧ C7 kT (lk H 855) (lk H 861) (lk H 862) σ
noncomputable def cS9b (kT kH kF jB kE : Nat) (H : List (Nat × Int)) (σ : zS) : Prop := bS9 kT kH kF jB H σ ∧ cC kT kH kE H σ
noncomputable def ct9 (t : Nat) : Bool := Nat.ble 820 t && Nat.ble t 866
theorem ct9_no {u : Nat} (h : ct9 u = false) : ¬ (820 ≤ u ∧ u ≤ 866) := fun q => by
  have : ct9 u = true := by
    show (Nat.ble 820 u && Nat.ble u 866) = true
    rw [Bool.and_eq_true]
    exact ⟨Nat.ble_eq_true_of_le q.1, Nat.ble_eq_true_of_le q.2⟩
  rw [this] at h
  cases h
theorem bt_ct {u : Nat} (h : ct9 u = false) : bt9L9 u = false := by
  cases e : bt9L9 u with
  | false => rfl
  | true =>
    have e : (Nat.ble 820 u && Nat.ble u 846) = true := e
    rw [Bool.and_eq_true] at e
    exact absurd ⟨Nat.le_of_ble_eq_true e.1, Nat.le_trans (Nat.le_of_ble_eq_true e.2) (by decide)⟩ (ct9_no h)
theorem bt_hi {u : Nat} (h : 846 < u) : bt9L9 u = false := by
  cases e : bt9L9 u with
  | false => rfl
  | true =>
    have e : (Nat.ble 820 u && Nat.ble u 846) = true := e
    rw [Bool.and_eq_true] at e
    have := Nat.le_of_ble_eq_true e.2
    omega
/-- only the tags from 847 on count -/
theorem cC_k {kT kH kE : Nat} {H H' : List (Nat × Int)} {σ : zS} (l : ∀ u, 846 < u → lk H' u = lk H u) (h : cC kT kH kE H σ) : cC kT kH kE H' σ := by
  unfold cC at h ⊢
  rw [l 850 (by omega), l 851 (by omega), l 852 (by omega), l 853 (by omega), l 847 (by omega), l 848 (by omega), l 849 (by omega), l 855 (by omega), l 856 (by omega), l 857 (by omega), l 858 (by omega), l 859 (by omega), l 860 (by omega), l 861 (by omega), l 862 (by omega)]
  exact h
theorem bS9_k {kT kH kF jB : Nat} {H H' : List (Nat × Int)} {σ : zS} (l : ∀ u, u ≤ 846 → lk H' u = lk H u) (h : bS9 kT kH kF jB H σ) : bS9 kT kH kF jB H' σ := by
  unfold bS9 bS1 bS2 efB at h ⊢
  rw [l 820 (by omega), l 821 (by omega), l 822 (by omega), l 823 (by omega), l 824 (by omega), l 840 (by omega), l 841 (by omega), l 842 (by omega), l 843 (by omega), l 844 (by omega), l 845 (by omega), l 846 (by omega)]
  exact h
theorem cC_row {kT kH kE : Nat} {H : List (Nat × Int)} {σ σ' : zS} (h1 : σ'.1 kT = σ.1 kT) (h2 : σ'.1 kH = σ.1 kH) (h3 : σ'.1 kE = σ.1 kE) (h : cC kT kH kE H σ) : cC kT kH kE H σ' := by
  unfold cC C0 C1 C2 C4 C5 C6 C7 Eb at h ⊢
  rw [h1, h2, h3]
  exact h
noncomputable def cwT (hl : List (Nat × AV)) : Option (List (Nat × AV)) := bif (isS (lk hl 850) || isS (lk hl 851)) || (isS (lk hl 852) || isS (lk hl 855)) then none else some (bif isS (lk hl 853) then hl else (853, .c 0) :: hl)
noncomputable def cwE (kT kE : Nat) (s : Sy) (hl : List (Nat × AV)) (p v : AV) : Option (List (Nat × AV)) := match lk hl 850 with
  | some i => (match oth s kT p, lk hl 843, lk hl 844 with
    | some t, some t2, some o => (match lk hl 845, lk hl 846 with
      | some w, some c => bif ((eqA s p i && eqA s t t2) && (eqA s o i && eqA s v w)) && (eqA s c (.c 1) && (leAV s (.c 0) i && leAV s i (.c 5))) then some (hup 850 (shA i 1) hl) else none
      | _, _ => none)
    | _, _, _ => none)
  | none => match lk hl 851, lk hl 852 with
    | some k, some i => (match oth s kE p, oth s kE k, lk hl 840 with
      | some x, some y, some t => (match lk hl 841, lk hl 842, lk hl 847 with
        | some o, some b, some a => (match lk hl 848, lk hl 849 with
          | some c, some w => bif (((eqA s p i && eqA s x a) && (eqA s y c && eqA s v w)) && ((eqA s x t && eqA s o k) && eqA s b (.c 1))) && ((leAV s (.c 0) i && leAV s i (.c 5)) && (leAV s (.c 0) k && leAV s k (.c 5))) then some (hup 852 (shA i 1) (hdel 847 (hdel 848 (hdel 849 hl)))) else none
          | _, _ => none)
        | _, _, _ => none)
      | _, _, _ => none)
    | _, _ => none
noncomputable def cw9b (kT kH kF jB kE : Nat) (s : Sy) (hl : List (Nat × AV)) (k : Nat) (p v : AV) : Option (List (Nat × AV)) :=
  bif Nat.beq k kE then cwE kT kE s hl p v
  else match bw9 kT kH kF jB s hl k p v with
    | some h1 => bif Nat.beq k kT then cwT h1 else bif Nat.beq k kH then (bif isS (lk h1 857) then none else some h1) else some h1
    | none => none
noncomputable def cC9 (kT kH kF jB kE : Nat) : Cp := (ct9, (cS9b kT kH kF jB kE, (fun q => (Nat.beq q kT || Nat.beq q kH) || (Nat.beq q kF || Nat.beq q kE), (fun s hl k p v => cw9b kT kH kF jB kE s hl k p v, nlw))))
section WC
variable {J : Jt} {s : Sy} {ρ : List Int} {σ : zS} {kT kH kF jB kE : Nat}
theorem b2i_1L9 {b : Bool} : b2i b = 1 ↔ b = true := by cases b <;> decide
theorem b2i_0L9 {b : Bool} : b2i b = 0 ↔ b = false := by cases b <;> decide
theorem cwT_ok {j : Nat} {x : Int32} {hl hl' : List (Nat × AV)} {H : List (Nat × Int)} (d1 : kH ≠ kT) (d2 : kE ≠ kT) (hw : cwT hl = some hl') (hh : Hl ρ hl H) (hC : cC kT kH kE H σ) : ∃ H', Hl ρ hl' H' ∧ cC kT kH kE H' (zI σ kT j x) ∧ ∀ u, u ≠ 853 → lk H' u = lk H u := by
  have rH : (zI σ kT j x).1 kH = σ.1 kH := zI_row d1
  unfold cwT at hw
  cases hc : (isS (lk hl 850) || isS (lk hl 851)) || (isS (lk hl 852) || isS (lk hl 855)) with
  | true => rw [hc] at hw; cases hw
  | false =>
    rw [hc] at hw
    rw [Bool.or_eq_false_iff, Bool.or_eq_false_iff, Bool.or_eq_false_iff] at hc
    have n0 := hln9 hh (t := 850) (by rw [hc.1.1]; rfl)
    have n1 := hln9 hh (t := 851) (by rw [hc.1.2]; rfl)
    have n5 := hln9 hh (t := 855) (by rw [hc.2.2]; rfl)
    obtain ⟨⟨_, _, _, g3⟩, _, g5, _, _⟩ := hC
    have fin : ∀ H' : List (Nat × Int), (∀ u, u ≠ 853 → lk H' u = lk H u) → lk H' 853 ≠ none → cC kT kH kE H' (zI σ kT j x) := fun H' l l3 => by
      refine ⟨⟨fun _ _ h => absurd h l3, fun i h => ?_, fun _ k i h => ?_, ?_⟩, fun a b h => ?_, ?_, fun a b c h => ?_, fun a c d h => ?_⟩
      · rw [l 850 (by decide), n0] at h; cases h
      · rw [l 851 (by decide), n1] at h; cases h
      · rw [l 847 (by decide), l 848 (by decide), l 849 (by decide)]; exact g3
      · rw [l 855 (by decide), n5] at h; cases h
      · rw [l 856 (by decide), l 857 (by decide), l 858 (by decide), l 859 (by decide)]
        unfold C5 at g5 ⊢
        rw [rH]
        exact g5
      · rw [l 855 (by decide), n5] at h; cases h
      · rw [l 855 (by decide), n5] at h; cases h
    cases h3 : isS (lk hl 853) with
    | true =>
      rw [h3] at hw
      cases Option.some.inj hw
      refine ⟨H, hh, fin H (fun _ _ => rfl) (fun q => ?_), fun _ _ => rfl⟩
      rcases hh.lkp (t := 853) with ⟨q1, _⟩ | ⟨_, _, _, q2, _⟩
      · rw [q1] at h3; cases h3
      · rw [q2] at q; cases q
    | false =>
      rw [h3] at hw
      cases Option.some.inj hw
      have l : ∀ u, u ≠ 853 → lk ((853, (0 : Int)) :: H) u = lk H u := fun u hu => by rw [lk_cons, if_neg hu]
      exact ⟨(853, 0) :: H, ⟨⟨rfl, rfl⟩, hh⟩, fin _ l (by rw [lk_cons, if_pos rfl]; exact fun q => by cases q), l⟩
theorem cwE_ok {j : Nat} {p v : AV} {x : Int32} {hl hl' : List (Nat × AV)} {H : List (Nat × Int)} (d1 : kT ≠ kE) (d2 : kH ≠ kE) (ho : Ok J s ρ σ) (hp : ev ρ p = some (j : Int)) (hx : ev ρ v = some x.toInt) (hw : cwE kT kE s hl p v = some hl') (hh : Hl ρ hl H) (hB : bS2 H) (hC : cC kT kH kE H σ) : ∃ H', Hl ρ hl' H' ∧ cC kT kH kE H' (zI σ kE j x) ∧ ∀ u, u ≠ 850 → u ≠ 852 → u ≠ 847 → u ≠ 848 → u ≠ 849 → lk H' u = lk H u := by
  have rT : (zI σ kE j x).1 kT = σ.1 kT := zI_row d1
  have rH : (zI σ kE j x).1 kH = σ.1 kH := zI_row d2
  have rE : (zI σ kE j x).1 kE j = x := zI_at
  have nE : ∀ i, i ≠ j → (zI σ kE j x).1 kE i = σ.1 kE i := fun i h => zI_ne (by rintro ⟨_, q⟩; exact h q)
  have eb : Eb kT (zI σ kE j x) = Eb kT σ := by
    funext a b
    unfold Eb
    rw [rT]
  obtain ⟨⟨g0, g1, g2, g3⟩, g4, g5, g6, g7⟩ := hC
  have k4 : C4 kT (lk H 855) (lk H 856) (zI σ kE j x) := by unfold C4 at g4 ⊢; rw [eb]; exact g4
  have k5 : C5 kH (lk H 856) (lk H 857) (lk H 858) (lk H 859) (zI σ kE j x) := by unfold C5 at g5 ⊢; rw [rH]; exact g5
  have k6 : C6 kT (lk H 855) (lk H 856) (lk H 860) (zI σ kE j x) := by unfold C6 at g6 ⊢; rw [eb]; exact g6
  have k7 : C7 kT (lk H 855) (lk H 861) (lk H 862) (zI σ kE j x) := by unfold C7 at g7 ⊢; rw [eb]; exact g7
  unfold cwE at hw
  split at hw
  · rename_i i qi
    split at hw
    · rename_i t t2 o ht qt qo
      split at hw
      · rename_i w c qw qc
        cases hc : ((eqA s p i && eqA s t t2) && (eqA s o i && eqA s v w)) && (eqA s c (.c 1) && (leAV s (.c 0) i && leAV s i (.c 5))) with
        | false => rw [hc] at hw; cases hw
        | true =>
          rw [hc] at hw
          cases Option.some.inj hw
          simp only [Bool.and_eq_true] at hc
          obtain ⟨⟨⟨c1, c2⟩, c3, c4⟩, c5, c6, c7⟩ := hc
          obtain ⟨zi, i1, i2⟩ := hlg9 hh qi
          obtain ⟨zt, t1, t2'⟩ := hlg9 hh qt
          obtain ⟨zo, o1, o2⟩ := hlg9 hh qo
          obtain ⟨zw, w1, w2⟩ := hlg9 hh qw
          obtain ⟨zc, e1, e2⟩ := hlg9 hh qc
          have f1 := eqA_ok ho c1 hp i2
          have f2 := eqA_ok ho c2 (oth_ok ho ht hp).2 t2'
          have f3 := eqA_ok ho c3 o2 i2
          have f4 := eqA_ok ho c4 hx w2
          have f5 := eqA_ok ho c5 e2 (y := 1) rfl
          have f7 := leAV_ok ho c7 i2 (y := 5) rfl
          have up := (hB.2 zt zo zw zc t1 o1 w1 e1).at (x := σ.1 kT j) (y := x) (n := j) f2 f4 (by omega) (by omega)
          have l : ∀ u, u ≠ 850 → lk (hup 850 (zi + 1) H) u = lk H u := fun u hu => lk_hup_ne hu
          have l0 : lk (hup 850 (zi + 1) H) 850 = some (zi + 1) := lk_hup_at i1
          refine ⟨hup 850 (zi + 1) H, hh.up (shA_ev i2), ?_, fun u h1 _ _ _ _ => l u h1⟩
          unfold cC
          rw [l0, l 851 (by decide), l 852 (by decide), l 853 (by decide), l 847 (by decide), l 848 (by decide), l 849 (by decide), l 855 (by decide), l 856 (by decide), l 857 (by decide), l 858 (by decide), l 859 (by decide), l 860 (by decide), l 861 (by decide), l 862 (by decide)]
          refine ⟨⟨fun h => (by cases h), fun i' h a b h1 h2 h3 => ?_, fun h => (by cases h), g3⟩, k4, k5, k6, k7⟩
          · have h := Option.some.inj h
            rw [eb]
            by_cases e : a = j
            · have u := up b h3
              rw [e, rE]
              show bitN x b = true ↔ j = b ∨ Eb kT σ j b
              by_cases e3 : b = j
              · rw [if_pos e3, f5] at u
                exact ⟨fun _ => Or.inl e3.symm, fun _ => b2i_1L9.mp u⟩
              · rw [if_neg e3] at u
                constructor
                · intro q
                  rw [q] at u
                  exact Or.inr ⟨by omega, h3, b2i_1L9.mp u.symm⟩
                · rintro (q | q)
                  · exact absurd q.symm e3
                  · rw [q.2.2] at u
                    exact b2i_1L9.mp u
            · rw [nE a e]
              exact g1 zi i1 a b (by omega) h2 h3
      · cases hw
    · cases hw
  · rename_i q0
    have n0 : lk H 850 = none := hln9 hh (by rw [q0]; rfl)
    split at hw
    · rename_i k i qk qi
      split at hw
      · rename_i xh y t hxh hy qt
        split at hw
        · rename_i o b a qo qb qa
          split at hw
          · rename_i c w qc qw
            cases hc : (((eqA s p i && eqA s xh a) && (eqA s y c && eqA s v w)) && ((eqA s xh t && eqA s o k) && eqA s b (.c 1))) && ((leAV s (.c 0) i && leAV s i (.c 5)) && (leAV s (.c 0) k && leAV s k (.c 5))) with
            | false => rw [hc] at hw; cases hw
            | true =>
              rw [hc] at hw
              cases Option.some.inj hw
              simp only [Bool.and_eq_true] at hc
              obtain ⟨⟨⟨⟨c1, c2⟩, c3, c4⟩, ⟨c5, c6⟩, c7⟩, ⟨c8, c9⟩, c10, c11⟩ := hc
              obtain ⟨zk, k1, k2⟩ := hlg9 hh qk
              obtain ⟨zi, i1, i2⟩ := hlg9 hh qi
              obtain ⟨zt, t1, t2⟩ := hlg9 hh qt
              obtain ⟨zo, o1, o2⟩ := hlg9 hh qo
              obtain ⟨zb, b1, b2⟩ := hlg9 hh qb
              obtain ⟨za, a1, a2⟩ := hlg9 hh qa
              obtain ⟨zc, e1, e2⟩ := hlg9 hh qc
              obtain ⟨zw, w1, w2⟩ := hlg9 hh qw
              obtain ⟨K, q1, q2, q3⟩ := g2 n0 zk zi k1 i1
              have hk : ev ρ k = some (K : Int) := k2.trans (congrArg some q1)
              have ex := (oth_ok ho hxh hp).2
              have ey := (oth_ok ho hy hk).2
              have f1 := eqA_ok ho c1 hp i2
              have f2 := eqA_ok ho c2 ex a2
              have f3 := eqA_ok ho c3 ey e2
              have f4 := eqA_ok ho c4 hx w2
              have f5 := eqA_ok ho c5 ex t2
              have f6 := eqA_ok ho c6 o2 k2
              have f7 := eqA_ok ho c7 b2 (y := 1) rfl
              have f9 := leAV_ok ho c9 i2 (y := 5) rfl
              have f11 := leAV_ok ho c11 k2 (y := 5) rfl
              have hK : K < 6 := by omega
              have hj : j < 6 := by omega
              have or9 := (g3 za zc zw a1 e1 w1).at (X := σ.1 kE j) (Y := σ.1 kE K) (V := x) f2 f3 f4
              have bit := (hB.1 zt zo zb t1 o1 b1).at (x := σ.1 kE j) (n := K) f5 (by omega) hK
              rw [f7] at bit
              have bitK := b2i_1L9.mp bit.symm
              have jK : Wp (Eb kT σ) K j K := by
                have := (q3 j K hj hK).mp bitK
                rw [if_neg (by omega)] at this
                exact this
              have rowK : ∀ b, b < 6 → (bitN (σ.1 kE K) b = true ↔ Wp (Eb kT σ) K K b) := fun b hb => by
                have := q3 K b hK hb
                by_cases e : (K : Int) < zi
                · rw [if_pos e] at this; exact this.trans wp_row
                · rw [if_neg e] at this; exact this
              have l : ∀ u, u ≠ 852 → u ≠ 847 → u ≠ 848 → u ≠ 849 → lk (hup 852 (zi + 1) (hdel 847 (hdel 848 (hdel 849 H)))) u = lk H u := fun u h1 h2 h3 h4 => by rw [lk_hup_ne h1, lk_hdel, if_neg h2, lk_hdel, if_neg h3, lk_hdel, if_neg h4]
              have l2 : lk (hup 852 (zi + 1) (hdel 847 (hdel 848 (hdel 849 H)))) 852 = some (zi + 1) := lk_hup_at (b := zi) (by rw [lk_hdel, if_neg (by decide), lk_hdel, if_neg (by decide), lk_hdel, if_neg (by decide)]; exact i1)
              have l7 : lk (hup 852 (zi + 1) (hdel 847 (hdel 848 (hdel 849 H)))) 847 = none := by rw [lk_hup_ne (by decide), lk_hdel, if_pos rfl]
              refine ⟨hup 852 (zi + 1) (hdel 847 (hdel 848 (hdel 849 H))), Hl.up (shA_ev i2) (((hh.del).del).del), ?_, fun u _ h2 h3 h4 h5 => l u h2 h3 h4 h5⟩
              unfold cC
              rw [l2, l7, l 850 (by decide) (by decide) (by decide) (by decide), l 851 (by decide) (by decide) (by decide) (by decide), l 853 (by decide) (by decide) (by decide) (by decide), l 855 (by decide) (by decide) (by decide) (by decide), l 856 (by decide) (by decide) (by decide) (by decide), l 857 (by decide) (by decide) (by decide) (by decide), l 858 (by decide) (by decide) (by decide) (by decide), l 859 (by decide) (by decide) (by decide) (by decide), l 860 (by decide) (by decide) (by decide) (by decide), l 861 (by decide) (by decide) (by decide) (by decide), l 862 (by decide) (by decide) (by decide) (by decide)]
              refine ⟨⟨fun _ h => (by rw [k1] at h; cases h), fun i' h => (by rw [n0] at h; cases h), fun _ k' i' h h' => ⟨K, ?_, q2, fun a b h2 h3 => ?_⟩, fun a b c h => (by cases h)⟩, k4, k5, k6, k7⟩
              · rw [k1] at h
                rw [← Option.some.inj h]; exact q1
              · have ei := Option.some.inj h'
                rw [eb]
                by_cases e : a = j
                · rw [e, rE, or9, bit_or, Bool.or_eq_true, if_pos (by omega)]
                  have old := q3 j b hj h3
                  rw [if_neg (by omega)] at old
                  rw [old, rowK b h3]
                  show _ ↔ Wp (Eb kT σ) K j b ∨ (Wp (Eb kT σ) K j K ∧ Wp (Eb kT σ) K K b)
                  constructor
                  · rintro (q | q)
                    · exact Or.inl q
                    · exact Or.inr ⟨jK, q⟩
                  · rintro (q | q)
                    · exact Or.inl q
                    · exact Or.inr q.2
                · rw [nE a e, q3 a b h2 h3]
                  by_cases e2 : (a : Int) < zi
                  · rw [if_pos e2, if_pos (by omega)]
                  · rw [if_neg e2, if_neg (by omega)]
          · cases hw
        · cases hw
      · cases hw
    · cases hw
end WC
theorem cC9_ok {T : Jx} {G : Gl} {kT kH kF jB kE : Nat} (d1 : kT ≠ kH) (d2 : kT ≠ kF) (d3 : kH ≠ kF) (d4 : kT ≠ kE) (d5 : kH ≠ kE) (d6 : kF ≠ kE) : CpOk T G (cC9 kT kH kF jB kE) := by
  apply CpOk.no (fun _ => rfl)
  have tin : ∀ u, 820 ≤ u → u ≤ 866 → ct9 u = true := fun u h1 h2 => by
    show (Nat.ble 820 u && Nat.ble u 866) = true
    rw [Bool.and_eq_true]
    exact ⟨Nat.ble_eq_true_of_le h1, Nat.ble_eq_true_of_le h2⟩
  refine ⟨fun u hu => ?_, fun H H' σ σ' h1 h2 hS => ?_, ?_⟩
  · have hu : (Nat.ble 820 u && Nat.ble u 866) = true := hu
    rw [Bool.and_eq_true] at hu
    have := Nat.le_of_ble_eq_true hu.1
    omega
  · have r1 : σ'.1 kT = σ.1 kT := h2 kT (by show ((Nat.beq kT kT || Nat.beq kT kH) || (Nat.beq kT kF || Nat.beq kT kE)) = true; rw [Nat.beq_refl]; rfl)
    have r2 : σ'.1 kH = σ.1 kH := h2 kH (by show ((Nat.beq kH kT || Nat.beq kH kH) || (Nat.beq kH kF || Nat.beq kH kE)) = true; rw [Nat.beq_refl, Bool.or_true]; rfl)
    have r3 : σ'.1 kF = σ.1 kF := h2 kF (by show ((Nat.beq kF kT || Nat.beq kF kH) || (Nat.beq kF kF || Nat.beq kF kE)) = true; rw [Nat.beq_refl, Bool.true_or, Bool.or_true])
    have r4 : σ'.1 kE = σ.1 kE := h2 kE (by show ((Nat.beq kE kT || Nat.beq kE kH) || (Nat.beq kE kF || Nat.beq kE kE)) = true; rw [Nat.beq_refl, Bool.or_true, Bool.or_true])
    have l : ∀ u, 820 ≤ u → u ≤ 866 → lk H' u = lk H u := fun u a b => h1 u (tin u a b)
    obtain ⟨hS, hC⟩ := (hS : cS9b kT kH kF jB kE H σ)
    refine ⟨?_, ?_⟩
    · unfold bS9 bS1 bS2 efB at hS ⊢
      rw [r1, r2, r3, l 820 (by omega) (by omega), l 821 (by omega) (by omega), l 822 (by omega) (by omega), l 823 (by omega) (by omega), l 824 (by omega) (by omega), l 840 (by omega) (by omega), l 841 (by omega) (by omega), l 842 (by omega) (by omega), l 843 (by omega) (by omega), l 844 (by omega) (by omega), l 845 (by omega) (by omega), l 846 (by omega) (by omega)]
      exact hS
    · have hC := cC_row r1 r2 r4 hC
      unfold cC at hC ⊢
      rw [l 850 (by omega) (by omega), l 851 (by omega) (by omega), l 852 (by omega) (by omega), l 853 (by omega) (by omega), l 847 (by omega) (by omega), l 848 (by omega) (by omega), l 849 (by omega) (by omega), l 855 (by omega) (by omega), l 856 (by omega) (by omega), l 857 (by omega) (by omega), l 858 (by omega) (by omega), l 859 (by omega) (by omega), l 860 (by omega) (by omega), l 861 (by omega) (by omega), l 862 (by omega) (by omega)]
      exact hC
  · intro s ρ σ k p v j x hl hl' H ho hb hp hi hv hx hr hw hh hS
    replace hw : cw9b kT kH kF jB kE s hl k p v = some hl' := hw
    obtain ⟨hS, hC⟩ := (hS : cS9b kT kH kF jB kE H σ)
    replace hr : ((Nat.beq k kT || Nat.beq k kH) || (Nat.beq k kF || Nat.beq k kE)) = true := hr
    unfold cw9b at hw
    cases eE : Nat.beq k kE with
    | true =>
      have ek := Nat.eq_of_beq_eq_true eE
      subst ek
      rw [eE] at hw
      obtain ⟨H', h1, h2, h3⟩ := cwE_ok d4 d5 ho hp hx hw hh hS.2 hC
      refine ⟨H', h1, ⟨?_, h2⟩, fun u hu => h3 u (fun e => ct9_no hu (by omega)) (fun e => ct9_no hu (by omega)) (fun e => ct9_no hu (by omega)) (fun e => ct9_no hu (by omega)) (fun e => ct9_no hu (by omega))⟩
      have rT : (zI σ k j x).1 kT = σ.1 kT := zI_row d4
      have rH : (zI σ k j x).1 kH = σ.1 kH := zI_row d5
      have rF : (zI σ k j x).1 kF = σ.1 kF := zI_row d6
      have := bS9_k (H' := H') (fun u hu => h3 u (by omega) (by omega) (by omega) (by omega) (by omega)) hS
      unfold bS9 bS1 efB at this ⊢
      rw [rT, rH, rF]
      exact this
    | false =>
      have nE : k ≠ kE := beq_ne eE
      rw [eE] at hw
      simp only [cond_false] at hw
      split at hw
      · rename_i h1 hw1
        have rE : (zI σ k j x).1 kE = σ.1 kE := zI_row nE.symm
        -- the rows of both sides
        have B : ∃ H1, Hl ρ h1 H1 ∧ bS9 kT kH kF jB H1 (zI σ k j x) ∧ ∀ u, bt9L9 u = false → lk H1 u = lk H u := by
          unfold bw9 at hw1
          cases eF : Nat.beq k kF with
          | true =>
            have ek := Nat.eq_of_beq_eq_true eF
            subst ek
            rw [eF] at hw1
            simp only [cond_true] at hw1
            split at hw1
            · rename_i j0
              have ej : j0 = j := by
                have : ((j0 : Nat) : Int) = (j : Int) := Option.some.inj hp
                omega
              subst ej
              cases eS : Nat.beq j0 jB with
              | true =>
                rw [eS] at hw1
                exact bwF_ok d2.symm d3.symm ho (Nat.eq_of_beq_eq_true eS) hx hw1 hh hS
              | false =>
                have nS : j0 ≠ jB := beq_ne eS
                rw [eS] at hw1
                cases Option.some.inj hw1
                have rT : (zI σ k j0 x).1 kT = σ.1 kT := zI_row d2
                have rH : (zI σ k j0 x).1 kH = σ.1 kH := zI_row d3
                have rF : (zI σ k j0 x).1 k jB = σ.1 k jB := zI_ne (by rintro ⟨_, q⟩; exact nS q.symm)
                refine ⟨H, hh, ?_, fun _ _ => rfl⟩
                unfold bS9 bS1 efB at hS ⊢
                rw [rT, rH, rF]
                exact hS
            · cases hw1
          | false =>
            rw [eF] at hw1
            simp only [cond_false] at hw1
            cases eH : Nat.beq k kH with
            | true =>
              have ek := Nat.eq_of_beq_eq_true eH
              subst ek
              rw [eH] at hw1
              exact bwH_ok d1.symm d3 ho hp hx hw1 hh hS
            | false =>
              rw [eH] at hw1
              rw [eF, eH, eE, Bool.or_false, Bool.or_false, Bool.or_false] at hr
              have ek := Nat.eq_of_beq_eq_true hr
              subst ek
              exact bwT_ok d1 d2 ho hp hx hw1 hh hS
        obtain ⟨H1, a1, a2, a3⟩ := B
        have hC1 : cC kT kH kE H1 σ := cC_k (fun u hu => a3 u (bt_hi hu)) hC
        cases eT : Nat.beq k kT with
        | true =>
          have ek := Nat.eq_of_beq_eq_true eT
          subst ek
          rw [eT] at hw
          obtain ⟨H2, b1, b2, b3⟩ := cwT_ok (j := j) (x := x) d1.symm d4.symm hw a1 hC1
          refine ⟨H2, b1, ⟨bS9_k (fun u hu => b3 u (by omega)) a2, b2⟩, fun u hu => ?_⟩
          rw [b3 u (fun e => ct9_no hu (by omega)), a3 u (bt_ct hu)]
        | false =>
          rw [eT] at hw
          simp only [cond_false] at hw
          have rT : (zI σ k j x).1 kT = σ.1 kT := zI_row (beq_ne eT).symm
          cases eH : Nat.beq k kH with
          | true =>
            rw [eH] at hw
            simp only [cond_true] at hw
            cases h7 : isS (lk h1 857) with
            | true => rw [h7] at hw; cases hw
            | false =>
              rw [h7] at hw
              cases Option.some.inj hw
              have n7 := hln9 a1 (t := 857) (by rw [h7]; rfl)
              refine ⟨H1, a1, ⟨a2, ?_⟩, fun u hu => a3 u (bt_ct hu)⟩
              have eb : Eb kT (zI σ k j x) = Eb kT σ := by
                funext a b
                unfold Eb
                rw [rT]
              unfold cC C0 C1 C2 C4 C5 C6 C7 at hC1 ⊢
              rw [eb, rE]
              refine ⟨hC1.1, hC1.2.1, fun a b c d _ h => ?_, hC1.2.2.2⟩
              rw [n7] at h; cases h
          | false =>
            rw [eH] at hw
            cases Option.some.inj hw
            exact ⟨H1, a1, ⟨a2, cC_row rT (zI_row (beq_ne eH).symm) rE hC1⟩, fun u hu => a3 u (bt_ct hu)⟩
      · cases hw
end
