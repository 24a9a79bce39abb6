noncomputable section
noncomputable def bt6 (w : Int) (g : Nat) : Bool := bitN (Int32.ofInt w) g
noncomputable def Col8 (t kM c : Nat) (τ : Tf) (m : Mt) : Prop := (τ t = none → ∀ i : Nat, i < 60 → m 53 (8 * i + c) = m kM i) ∧ ∀ z, τ t = some z → ∃ j : Nat, z = (j : Int) ∧ j < 60 ∧ (∀ i : Nat, i < 60 → i ≠ j → m 53 (8 * i + c) = m kM i) ∧ (∀ y, τ (t + 1) = some y → m 53 (8 * j + c) = y) ∧ ∀ y, τ (t + 2) = some y → m kM j = y
noncomputable def lA (τ : Tf) (m : Mt) : Prop := (Col8 900 171 0 τ m ∧ Col8 904 172 1 τ m ∧ Col8 908 173 2 τ m ∧ Col8 912 174 3 τ m) ∧ Col8 916 175 4 τ m ∧ Col8 920 176 5 τ m ∧ Col8 924 177 6 τ m ∧ Col8 928 178 7 τ m
noncomputable def lZ (m : Mt) : Prop := ∀ i : Nat, i < 60 → m 52 1 ≤ (i : Int) → m 53 (8 * i + 7) = 0
noncomputable def lG (m : Mt) : Prop := 1 ≤ m 110 96 → m 110 26 = 1
noncomputable def lK (τ : Tf) (m : Mt) : Prop := (τ 940 = none → ∀ i : Nat, (i : Int) < m 110 109 → m 55 i = m 181 i) ∧ (∀ c, τ 941 = some c → ∀ i : Nat, (i : Int) < c → m 55 i = m 180 i) ∧ ∀ k, τ 942 = some k → ∀ i : Nat, (i : Int) < k → m 181 i = m 180 i
noncomputable def Hd (m : Mt) (a b : Nat) : Prop := Wp (fun x y => x < 6 ∧ y < 6 ∧ bt6 (m 15 x) y = true) 6 a b
noncomputable def Und (m : Mt) (z q : Int) : Prop := Ur (m 11) (m 13) z q
noncomputable def Fit (m : Mt) (i : Nat) (p a t u : Int) : Prop := m 54 i = 1 ∧ m 53 (8 * i + 1) = p ∧ u ≤ m 53 (8 * i + 5) ∧ (∃ x y : Nat, m 53 (8 * i + 2) = (x : Int) ∧ a = (y : Int) ∧ Hd m x y) ∧ Und m (m 53 (8 * i + 3)) t
noncomputable def Lvl (m : Mt) (f c : Int) : Prop := ∀ i : Nat, (i : Int) < m 52 1 → m 54 i = 1 → f < m 53 (8 * i + 5) ∨ (m 53 (8 * i + 5) = f ∧ (i : Int) < c)
noncomputable def Own (m : Mt) (i : Nat) : Prop := ∃ j : Nat, m 53 (8 * i + 3) = (j : Int) ∧ m 12 j = m 53 (8 * i + 0)
noncomputable def Gvn (m : Mt) (p a t u : Int) : Prop := ∃ k : Nat, (k : Int) < m 52 1 ∧ k < 60 ∧ Fit m k p a t u
noncomputable def Jst (m : Mt) : Prop := ∀ i : Nat, (i : Int) < m 52 1 → m 54 i = 1 → Own m i ∨ Gvn m (m 53 (8 * i + 0)) (m 53 (8 * i + 2)) (m 53 (8 * i + 3)) (m 53 (8 * i + 5) + 1)
noncomputable def lW (τ : Tf) (m : Mt) : Prop := (∀ x, τ 952 = some x → ∀ i : Nat, (i : Int) < x → m 54 i = 0) ∧ ∀ f, τ 950 = some f → Jst m ∧ ∀ c, τ 951 = some c → Lvl m f c
noncomputable def lQ (τ : Tf) (m : Mt) : Prop :=
  (∀ p a t u x, τ 880 = some p → τ 881 = some a → τ 882 = some t → τ 883 = some u → τ 884 = some x → ∀ i : Nat, (i : Int) < x → (i : Int) < m 52 1 → ¬ Fit m i p a t u) ∧
  (∀ p a t u w, τ 880 = some p → τ 881 = some a → τ 882 = some t → τ 883 = some u → τ 885 = some w → ∃ k : Nat, w = (k : Int) ∧ (k : Int) < m 52 1 ∧ k < 60 ∧ Fit m k p a t u) ∧
  (∀ p a t u r, τ 880 = some p → τ 881 = some a → τ 882 = some t → τ 883 = some u → τ 886 = some r → ∃ k : Nat, r = (k : Int) ∧ k < 60 ∧ m 53 (8 * k + 0) = p ∧ m 53 (8 * k + 2) = a ∧ m 53 (8 * k + 3) = t ∧ m 53 (8 * k + 5) + 1 = u) ∧
  (∀ t y, τ 882 = some t → τ 887 = some y → ∃ j : Nat, t = (j : Int) ∧ m 12 j = y) ∧
  ∀ w, τ 889 = some w → ∃ k : Nat, w = (k : Int) ∧ (k : Int) < m 52 1 ∧ m 54 k = 1
noncomputable def lB (τ : Tf) (m : Mt) : Prop := (∀ q o b, τ 890 = some q → τ 891 = some o → τ 892 = some b → ∃ Q O : Nat, q = (Q : Int) ∧ o = (O : Int) ∧ (b = 0 ∨ b = 1) ∧ (b = 1 ↔ Hd m Q O)) ∧ ∀ z q r, τ 893 = some z → τ 894 = some q → τ 895 = some r → (r = 0 ∨ r = 1) ∧ (r = 1 ↔ Und m z q)
noncomputable def SL (τ : Tf) (m : Mt) : Prop := (lA τ m ∧ lZ m ∧ lG m) ∧ lK τ m ∧ lW τ m ∧ lQ τ m ∧ lB τ m
/-- a lend that gives what is asked for: its parts are known -/
theorem fit_no {m : Mt} {i : Nat} {p a t u : Int} {τ : Tf} (hB : lB τ m) (h : Fit m i p a t u) : m 54 i = 1 ∧ m 53 (8 * i + 1) = p ∧ u ≤ m 53 (8 * i + 5) ∧ (∀ q o b, τ 890 = some q → τ 891 = some o → τ 892 = some b → q = m 53 (8 * i + 2) → o = a → b = 1) ∧ ∀ z q r, τ 893 = some z → τ 894 = some q → τ 895 = some r → z = m 53 (8 * i + 3) → q = t → r = 1 := by
  obtain ⟨h1, h2, h3, ⟨x, y, h4, h5, h6⟩, h7⟩ := h
  refine ⟨h1, h2, h3, fun q o b e1 e2 e3 e4 e5 => ?_, fun z q r e1 e2 e3 e4 e5 => ?_⟩
  · obtain ⟨Q, O, k1, k2, _, k4⟩ := hB.1 q o b e1 e2 e3
    have eQ : Q = x := by omega
    have eO : O = y := by omega
    rw [eQ, eO] at k4
    exact k4.mpr h6
  · obtain ⟨_, k2⟩ := hB.2 z q r e1 e2 e3
    rw [e4, e5] at k2
    exact k2.mpr h7
theorem fit_yes {m : Mt} {i : Nat} {p a t u : Int} {τ : Tf} (hB : lB τ m) {q o b z q' r : Int} (h1 : m 54 i = 1) (h2 : m 53 (8 * i + 1) = p) (h3 : u ≤ m 53 (8 * i + 5)) (e1 : τ 890 = some q) (e2 : τ 891 = some o) (e3 : τ 892 = some b) (e4 : q = m 53 (8 * i + 2)) (e5 : o = a) (e6 : 1 ≤ b) (e7 : τ 893 = some z) (e8 : τ 894 = some q') (e9 : τ 895 = some r) (f1 : z = m 53 (8 * i + 3)) (f2 : q' = t) (f3 : 1 ≤ r) : Fit m i p a t u := by
  obtain ⟨Q, O, k1, k2, k3, k4⟩ := hB.1 q o b e1 e2 e3
  obtain ⟨k5, k6⟩ := hB.2 z q' r e7 e8 e9
  rw [f1, f2] at k6
  exact ⟨h1, h2, h3, ⟨Q, O, by omega, by omega, k4.mp (by omega)⟩, k6.mp (by omega)⟩
theorem jst_up {m : Mt} {j : Nat} {x : Int} (up : ∀ i : Nat, (i : Int) < m 52 1 → m 54 i = 1 → wrM m 54 j x 54 i = 1) (new : ∀ i : Nat, (i : Int) < m 52 1 → wrM m 54 j x 54 i = 1 → m 54 i = 1 ∨ Own m i ∨ Gvn m (m 53 (8 * i + 0)) (m 53 (8 * i + 2)) (m 53 (8 * i + 3)) (m 53 (8 * i + 5) + 1)) (h : Jst m) : Jst (wrM m 54 j x) := fun i hi h1 => by
  rcases new i hi h1 with a | a | ⟨k, k1, k2, k3⟩
  · rcases h i hi a with o | ⟨k, k1, k2, k3⟩
    · exact Or.inl o
    · exact Or.inr ⟨k, k1, k2, up k k1 k3.1, k3.2⟩
  · exact Or.inl a
  · exact Or.inr ⟨k, k1, k2, up k k1 k3.1, k3.2⟩
theorem jst_e {m : Mt} {j : Nat} {x : Int} (e : wrM m 52 j x 52 1 = m 52 1) (h : Jst m) : Jst (wrM m 52 j x) := fun i hi h1 => by
  have hi : (i : Int) < wrM m 52 j x 52 1 := hi
  rcases h i (by omega) h1 with o | ⟨k, k1, k2, k3⟩
  · exact Or.inl o
  · exact Or.inr ⟨k, (show (k : Int) < wrM m 52 j x 52 1 by omega), k2, k3⟩
theorem Col8.at {t kM c : Nat} {τ : Tf} {m : Mt} (h : Col8 t kM c τ m) (hn : τ t = none) {i j : Nat} {r : Int} (hr : r = (i : Int)) (hi : i < 60) (hj : 8 * r + (c : Int) = (j : Int)) : m 53 j = m kM i := by
  have : j = 8 * i + c := by omega
  rw [this]
  exact h.1 hn i hi
theorem Col8.wr {t kM c : Nat} {τ : Tf} {m : Mt} (h : Col8 t kM c τ m) {k j : Nat} {x : Int} (h1 : k ≠ kM) (h2 : k ≠ 53 ∨ ∀ i : Nat, j ≠ 8 * i + c) : Col8 t kM c τ (wrM m k j x) := by
  have e1 : ∀ i, wrM m k j x kM i = m kM i := fun i => by
    have : Nat.beq kM k = false := by
      cases q : Nat.beq kM k with
      | false => rfl
      | true => exact absurd (Nat.eq_of_beq_eq_true q).symm h1
    unfold wrM; rw [this]; rfl
  have e2 : ∀ i, wrM m k j x 53 (8 * i + c) = m 53 (8 * i + c) := fun i => by
    unfold wrM
    rcases h2 with h2 | h2
    · have : Nat.beq 53 k = false := by
        cases q : Nat.beq 53 k with
        | false => rfl
        | true => exact absurd (Nat.eq_of_beq_eq_true q).symm h2
      rw [this]; rfl
    · have : Nat.beq (8 * i + c) j = false := by
        cases q : Nat.beq (8 * i + c) j with
        | false => rfl
        | true => exact absurd (Nat.eq_of_beq_eq_true q).symm (h2 i)
      rw [this, Bool.and_false]; rfl
  refine ⟨fun q i hi => by rw [e1, e2]; exact h.1 q i hi, fun z q => ?_⟩
  obtain ⟨i, a1, a2, a3, a4, a5⟩ := h.2 z q
  exact ⟨i, a1, a2, fun i' h1 h2 => by rw [e1, e2]; exact a3 i' h1 h2, fun y q => by rw [e2]; exact a4 y q, fun y q => by rw [e1]; exact a5 y q⟩
theorem Col8.op {t kM c : Nat} {τ τ' : Tf} {m : Mt} (h : Col8 t kM c τ m) (hk : kM ≠ 53) {i j : Nat} {x : Int} (hi : i < 60) (hj : j = 8 * i + c) (ho : τ t = none ∨ τ t = some (i : Int)) (h1 : τ' t = some (i : Int)) (h2 : τ' (t + 1) = some x) (h3 : ∀ y, τ' (t + 2) = some y → m kM i = y) : Col8 t kM c τ' (wrM m 53 j x) := by
  have e1 : ∀ i', wrM m 53 j x kM i' = m kM i' := fun i' => by
    have : Nat.beq kM 53 = false := by
      cases q : Nat.beq kM 53 with
      | false => rfl
      | true => exact absurd (Nat.eq_of_beq_eq_true q) hk
    unfold wrM; rw [this]; rfl
  refine ⟨fun q => no9 q h1, fun z q => ?_⟩
  have ez := inj9 h1 q
  refine ⟨i, ez, hi, fun i' a b => ?_, fun y q => ?_, fun y q => by rw [e1]; exact h3 y q⟩
  · rw [e1, wr_ne (by omega)]
    rcases ho with ho | ho
    · exact h.1 ho i' a
    · obtain ⟨i0, b1, b2, b3, _⟩ := h.2 _ ho
      exact b3 i' a (by omega)
  · have ey := inj9 h2 q
    rw [← hj, wr_at]
    exact ey.symm
theorem Col8.cl {t kM c : Nat} {τ τ' : Tf} {m : Mt} (h : Col8 t kM c τ m) (hk : kM ≠ 53) {j : Nat} {x : Int} (h1 : τ t = some (j : Int)) (h2 : τ (t + 1) = some x) (h3 : τ' t = none) : Col8 t kM c τ' (wrM m kM j x) := by
  have e2 : ∀ i, wrM m kM j x 53 i = m 53 i := fun i => by
    have : Nat.beq 53 kM = false := by
      cases q : Nat.beq 53 kM with
      | false => rfl
      | true => exact absurd (Nat.eq_of_beq_eq_true q).symm hk
    unfold wrM; rw [this]; rfl
  obtain ⟨i0, b1, b2, b3, b4, _⟩ := h.2 _ h1
  have e0 : i0 = j := by omega
  subst e0
  refine ⟨fun _ i hi => ?_, fun z q => no9 h3 q⟩
  rw [e2]
  by_cases e : i = i0
  · subst e; rw [wr_at]; exact b4 x h2
  · rw [wr_ne e]; exact b3 i hi e
theorem Col8.tg {t kM c : Nat} {τ τ' : Tf} {m : Mt} (h : Col8 t kM c τ m) (h1 : τ' t = τ t) (h2 : τ' (t + 1) = τ (t + 1)) (h3 : τ' (t + 2) = τ (t + 2)) : Col8 t kM c τ' m := by
  unfold Col8
  rw [h1, h2, h3]
  exact h
end
