section
noncomputable section
/-! ===== THE READER, 71: by tokens ===== -/
/-- n tokens: the last one is the end, or wrong -/
noncomputable def NT9 (X : Txt) (n : Nat) : Prop := 1 ≤ n ∧ (∀ i, i + 1 < n → 2 ≤ rc9 X (Tp9 X i)) ∧ rc9 X (Tp9 X (n - 1)) ≤ 1
noncomputable def Pn9 (X : Txt) (n p : Nat) : Prop := ∃ j, j < n ∧ p = Tp9 X j
/-- where it ends, as a token, or the fault, as a place -/
noncomputable def En9 (X : Txt) (n : Nat) (r r1 x : Int) : Prop := (∀ q, r = Int.ofNat q → ∃ j : Nat, j < n ∧ q = Tp9 X j ∧ r1 = (j : Int) ∧ x = -1) ∧ ∀ f, r = Int.negSucc f → r1 = -1 ∧ x = (f : Int)
noncomputable def RI9 (X : Txt) (w : Wld) (n : Nat) (m d i r1 x : Int) : Prop := ((0 ≤ m ∧ md9 m.toNat = true) ∧ 0 ≤ d ∧ 0 ≤ i ∧ i < (n : Int)) ∧ ∃ r, Rm9 X w m.toNat d.toNat (Tp9 X i.toNat) r ∧ En9 X n r r1 x
section R71
variable {X : Txt} {w : Wld} {n : Nat}
theorem St_L : ∀ {i : Nat}, Tp9 X i ≤ X.2
  | 0 => wh_le.2 (Nat.zero_le _)
  | _ + 1 => nx_L St_L
theorem NT_next (h : NT9 X n) {i : Nat} (hi : i < n) (hc : 2 ≤ rc9 X (Tp9 X i)) : i + 1 < n := by
  by_cases q : i + 1 < n
  · exact q
  · have e : i = n - 1 := by have := h.1; omega
    have := h.2.2
    rw [← e] at this
    omega
theorem St_step (h : NT9 X n) {i : Nat} (hi : i + 1 < n) : Tp9 X i < Tp9 X (i + 1) := (nx_lt (h.2.1 i hi)).1
theorem St_mono (h : NT9 X n) {i : Nat} : ∀ {k : Nat}, i + k < n → Tp9 X i + k ≤ Tp9 X (i + k)
  | 0, _ => Nat.le_refl _
  | k + 1, hk => by
    have a := St_mono h (k := k) (i := i) (by omega)
    have b := St_step h (i := i + k) (by omega)
    show Tp9 X i + (k + 1) ≤ Tp9 X (i + k + 1)
    omega
theorem St_ge (h : NT9 X n) {i : Nat} (hi : i < n) : i ≤ Tp9 X i := by
  have := St_mono h (i := 0) (k := i) (by omega)
  rw [Nat.zero_add] at this
  omega
theorem St_inj (h : NT9 X n) {i j : Nat} (hi : i < n) (hj : j < n) (e : Tp9 X i = Tp9 X j) : i = j := by
  rcases Nat.lt_trichotomy i j with q | q | q
  · have := St_mono h (i := i) (k := j - i) (by omega)
    have e2 : i + (j - i) = j := by omega
    rw [e2] at this
    omega
  · exact q
  · have := St_mono h (i := j) (k := i - j) (by omega)
    have e2 : j + (i - j) = i := by omega
    rw [e2] at this
    omega
theorem Pn_cl (h : NT9 X n) : Pc9 X (Pn9 X n) := fun p ⟨j, hj, e⟩ hc => by
  rw [e] at hc
  exact ⟨j + 1, NT_next h hj hc, by rw [e]; rfl⟩
theorem En_of (h : NT9 X n) {r : Int} (hr : Pn9 X n (At9 r)) : ∃ r1 x, (-1 ≤ r1 ∧ r1 ≤ (X.2 : Int)) ∧ (-1 ≤ x ∧ x ≤ (X.2 : Int)) ∧ En9 X n r r1 x := by
  obtain ⟨j, hj, e⟩ := hr
  have a : j ≤ X.2 := Nat.le_trans (St_ge h hj) St_L
  have b : Tp9 X j ≤ X.2 := St_L
  cases r with
  | ofNat q =>
    refine ⟨j, -1, by omega, by omega, fun q' e' => ⟨j, hj, ?_, rfl, rfl⟩, fun f e' => by cases e'⟩
    rw [← Int.ofNat.inj e']
    exact e
  | negSucc f =>
    have e : f = Tp9 X j := e
    refine ⟨-1, f, by omega, by omega, fun q e' => (by cases e'), fun f' e' => ⟨rfl, ?_⟩⟩
    rw [← Int.negSucc.inj e']
theorem RI_ex (h : NT9 X n) {m d i : Int} (hm : 0 ≤ m ∧ md9 m.toNat = true) (hd : 0 ≤ d) (hi : 0 ≤ i ∧ i < (n : Int)) : ∃ r1 x, (-1 ≤ r1 ∧ r1 ≤ (X.2 : Int)) ∧ (-1 ≤ x ∧ x ≤ (X.2 : Int)) ∧ RI9 X w n m d i r1 x := by
  obtain ⟨r, hr⟩ := Rm9_ex (X := X) (w := w) (d := d.toNat) hm.2 (St_L (X := X) (i := i.toNat))
  obtain ⟨r1, x, a, b, c⟩ := En_of h (Rm9_cl (Pn_cl h) ⟨i.toNat, by omega, rfl⟩ hr)
  exact ⟨r1, x, a, b, ⟨hm, hd, hi⟩, r, hr, c⟩
theorem RI_ok (h : NT9 X n) {m d i r1 x : Int} {j : Nat} (hI : RI9 X w n m d i r1 x) (hj : j < n) (hR : Rm9 X w m.toNat d.toNat (Tp9 X i.toNat) (Int.ofNat (Tp9 X j))) : r1 = (j : Int) ∧ x = -1 := by
  obtain ⟨_, r, a, b⟩ := hI
  obtain ⟨j', c1, c2, c3, c4⟩ := b.1 (Tp9 X j) (a.det hR)
  rw [St_inj h hj c1 c2]
  exact ⟨c3, c4⟩
theorem RI_bad {m d i r1 x : Int} {f : Nat} (hI : RI9 X w n m d i r1 x) (hR : Rm9 X w m.toNat d.toNat (Tp9 X i.toNat) (Int.negSucc f)) : r1 = -1 ∧ x = (f : Int) := by
  obtain ⟨_, r, a, b⟩ := hI
  exact b.2 f (a.det hR)
theorem RI_up {m d i r1 x m' d' i' : Int} (hI : RI9 X w n m d i r1 x) (hm : 0 ≤ m' ∧ md9 m'.toNat = true) (hd : 0 ≤ d') (hi : 0 ≤ i' ∧ i' < (n : Int)) (up : ∀ r, Rm9 X w m'.toNat d'.toNat (Tp9 X i'.toNat) r → Rm9 X w m.toNat d.toNat (Tp9 X i.toNat) r) : RI9 X w n m' d' i' r1 x := by
  obtain ⟨_, r, a, b⟩ := hI
  obtain ⟨r', hr⟩ := Rm9_ex (X := X) (w := w) (d := d'.toNat) hm.2 (St_L (X := X) (i := i'.toNat))
  have e := (up r' hr).det a
  subst e
  exact ⟨⟨hm, hd, hi⟩, r', hr, b⟩
/-- what is known of a reading that came to something -/
theorem RI_pos {m d i r1 x : Int} (hI : RI9 X w n m d i r1 x) (h0 : 0 ≤ r1) : r1.toNat < n ∧ r1 < (n : Int) ∧ x = -1 ∧ Rm9 X w m.toNat d.toNat (Tp9 X i.toNat) (Int.ofNat (Tp9 X r1.toNat)) := by
  obtain ⟨_, r, a, b⟩ := hI
  cases r with
  | ofNat q =>
    obtain ⟨j, c1, c2, c3, c4⟩ := b.1 q rfl
    have e : r1.toNat = j := by omega
    rw [e, ← c2]
    exact ⟨c1, by omega, c4, a⟩
  | negSucc f => have := (b.2 f rfl).1; omega
theorem RI_neg {m d i r1 x : Int} (hI : RI9 X w n m d i r1 x) (h0 : r1 ≤ -1) : r1 = -1 ∧ 0 ≤ x ∧ Rm9 X w m.toNat d.toNat (Tp9 X i.toNat) (Int.negSucc x.toNat) := by
  obtain ⟨_, r, a, b⟩ := hI
  cases r with
  | ofNat q =>
    obtain ⟨j, c1, c2, c3, c4⟩ := b.1 q rfl
    omega
  | negSucc f =>
    obtain ⟨c1, c2⟩ := b.2 f rfl
    have e : x.toNat = f := by omega
    rw [e]
    exact ⟨c1, by omega, a⟩
/-! codes -/
theorem kq {a b p : Nat} (Q : Nat → Prop) [DecidablePred Q] (h : ((List.range 52).all fun c => !(Nat.ble a c && Nat.ble c b) || decide (Q (km9 c))) = true) (h1 : a ≤ rc9 X p) (h2 : rc9 X p ≤ b) : Q ((KT9 X).c p) := of_decide_eq_true (km_r (Q := fun k => decide (Q k)) h h1 h2 rc_le)
variable {d p : Nat} {r : Int}
/-! terms -/
theorem m_num1 (h1 : 2 ≤ rc9 X p) (h2 : rc9 X p ≤ 3) : Rm9 X w 0 d p (Int.ofNat (nx9t X p)) := Rd.t_num (K := KT9 X) (Or.inl (kq (fun k => k = 5) (by decide) h1 h2))
theorem m_num2 (h1 : 24 ≤ rc9 X p) (h2 : rc9 X p ≤ 25) : Rm9 X w 0 d p (Int.ofNat (nx9t X p)) := Rd.t_num (K := KT9 X) (Or.inr (kq (fun k => k = 6) (by decide) h1 h2))
theorem m_size (h1 : 26 ≤ rc9 X p) (h2 : rc9 X p ≤ 26) (h : Rm9 X w 9 d (nx9t X p) r) : Rm9 X w 0 d p r := Rd.t_size (K := KT9 X) (kq (fun k => k = 7) (by decide) h1 h2) (by rw [show r = _ from h]; exact ftr_f9)
theorem m_deep (a : Nat) (ha : a = 4 ∨ a = 9) (h1 : a ≤ rc9 X p) (h2 : rc9 X p ≤ a) (hd : 20 ≤ d) : Rm9 X w 0 d p (Int.negSucc p) := by
  rcases ha with e | e <;> subst e
  · exact Rd.t_deep (K := KT9 X) (Or.inr (kq (fun k => k = 3) (by decide) h1 h2)) hd
  · exact Rd.t_deep (K := KT9 X) (Or.inl (kq (fun k => k = 4) (by decide) h1 h2)) hd
theorem m_neg (h1 : 9 ≤ rc9 X p) (h2 : rc9 X p ≤ 9) (hd : d < 20) (h : Rm9 X w 0 (d + 1) (nx9t X p) r) : Rm9 X w 0 d p r := Rd.t_neg (K := KT9 X) (kq (fun k => k = 4) (by decide) h1 h2) hd h
theorem m_par (h1 : 4 ≤ rc9 X p) (h2 : rc9 X p ≤ 4) (hd : d < 20) (h : Rm9 X w 25 d (nx9t X p) r) : Rm9 X w 0 d p r := by
  obtain ⟨y, a, b⟩ := (h : R21 (KT9 X) 11 d (nx9t X p) r)
  rw [b]
  exact Rd.t_par (K := KT9 X) (kq (fun k => k = 3) (by decide) h1 h2) hd a
theorem m_item9 (hc : (KT9 X).c p ≠ 3 ∧ (KT9 X).c p ≠ 4 ∧ (KT9 X).c p ≠ 5 ∧ (KT9 X).c p ≠ 6 ∧ (KT9 X).c p ≠ 7) (h : Rm9 X w 20 d p r) : Rm9 X w 0 d p r := by
  have h : R20 (KT9 X) d p r := h
  cases e : ff9 (KT9 X) p with
  | negSucc f =>
    rw [h.1 f e]
    exact Rd.t_fbad (K := KT9 X) hc (by rw [ftr_f9, e])
  | ofNat j =>
    have ft : ftr (KT9 X) p = okR j := by rw [ftr_f9, e]
    by_cases q : (KT9 X).c j = 9
    · by_cases u : d < 20
      · obtain ⟨y, a, b⟩ := ((h.2 j e).2 q).2 u
        rw [b]
        exact Rd.t_item (K := KT9 X) hc ft q u a
      · rw [((h.2 j e).2 q).1 (by omega)]
        exact Rd.t_itemD (K := KT9 X) hc ft q (by omega)
    · rw [(h.2 j e).1 q]
      exact Rd.t_feat (K := KT9 X) hc ft q
theorem m_itema (h2 : rc9 X p ≤ 1) : Rm9 X w 20 d p r → Rm9 X w 0 d p r := m_item9 (kq (a := 0) (b := 1) (fun k => k ≠ 3 ∧ k ≠ 4 ∧ k ≠ 5 ∧ k ≠ 6 ∧ k ≠ 7) (by decide) (Nat.zero_le _) h2)
theorem m_itemb (h1 : 5 ≤ rc9 X p) (h2 : rc9 X p ≤ 8) : Rm9 X w 20 d p r → Rm9 X w 0 d p r := m_item9 (kq (fun k => k ≠ 3 ∧ k ≠ 4 ∧ k ≠ 5 ∧ k ≠ 6 ∧ k ≠ 7) (by decide) h1 h2)
theorem m_itemc (h1 : 10 ≤ rc9 X p) (h2 : rc9 X p ≤ 23) : Rm9 X w 20 d p r → Rm9 X w 0 d p r := m_item9 (kq (fun k => k ≠ 3 ∧ k ≠ 4 ∧ k ≠ 5 ∧ k ≠ 6 ∧ k ≠ 7) (by decide) h1 h2)
theorem m_itemd (h1 : 27 ≤ rc9 X p) : Rm9 X w 20 d p r → Rm9 X w 0 d p r := m_item9 (kq (b := 51) (fun k => k ≠ 3 ∧ k ≠ 4 ∧ k ≠ 5 ∧ k ≠ 6 ∧ k ≠ 7) (by decide) h1 rc_le)
/-! behind a mark -/
theorem sg_ok {k j : Nat} (h : (KT9 X).c j = k) : sgR (KT9 X) k (Int.ofNat j) = Int.ofNat (nx9t X j) := by
  show (if (KT9 X).c j = k then _ else _) = _
  rw [if_pos h]
  rfl
theorem sg_no {k j : Nat} (h : (KT9 X).c j ≠ k) : sgR (KT9 X) k (Int.ofNat j) = Int.negSucc j := by
  show (if (KT9 X).c j = k then _ else _) = _
  rw [if_neg h]
theorem m_cx (k : Nat) {f : Nat} (h : Rm9 X w 1 (d + 1) p (Int.negSucc f)) : R21 (KT9 X) k d p (Int.negSucc f) := ⟨_, h, rfl⟩
theorem m_co (k : Nat) {j : Nat} (h : Rm9 X w 1 (d + 1) p (Int.ofNat j)) (hk : (KT9 X).c j = k) : R21 (KT9 X) k d p (Int.ofNat (nx9t X j)) := ⟨_, h, (sg_ok hk).symm⟩
theorem m_cn (k : Nat) {j : Nat} (h : Rm9 X w 1 (d + 1) p (Int.ofNat j)) (hk : (KT9 X).c j ≠ k) : R21 (KT9 X) k d p (Int.negSucc j) := ⟨_, h, (sg_no hk).symm⟩
/-! a feature, and an item -/
theorem m_ix {f : Nat} (h : Rm9 X w 9 d p (Int.negSucc f)) : Rm9 X w 20 d p (Int.negSucc f) := ⟨fun f' e => (show Int.negSucc f = ff9 (KT9 X) p from h).trans e, fun j e => (by cases (show Int.negSucc f = ff9 (KT9 X) p from h).trans e)⟩
theorem m_in0 {j : Nat} (h : Rm9 X w 9 d p (Int.ofNat j)) (hj : (KT9 X).c j ≠ 9) : Rm9 X w 20 d p (Int.ofNat j) := ⟨fun f e => (by cases (show Int.ofNat j = ff9 (KT9 X) p from h).trans e), fun j' e => by
  have e := (show Int.ofNat j = ff9 (KT9 X) p from h).trans e
  have e2 := Int.ofNat.inj e
  subst e2
  exact ⟨fun _ => rfl, fun z => absurd z hj⟩⟩
theorem m_iD {j : Nat} (h : Rm9 X w 9 d p (Int.ofNat j)) (hj : (KT9 X).c j = 9) (hd : 20 ≤ d) : Rm9 X w 20 d p (Int.negSucc j) := ⟨fun f e => (by cases (show Int.ofNat j = ff9 (KT9 X) p from h).trans e), fun j' e => by
  have e := (show Int.ofNat j = ff9 (KT9 X) p from h).trans e
  have e2 := Int.ofNat.inj e
  subst e2
  exact ⟨fun z => absurd hj z, fun _ => ⟨fun _ => rfl, fun z => by omega⟩⟩⟩
theorem m_iB {j : Nat} (h : Rm9 X w 9 d p (Int.ofNat j)) (hj : (KT9 X).c j = 9) (hd : d < 20) (hr : Rm9 X w 21 d (nx9t X j) r) : Rm9 X w 20 d p r := ⟨fun f e => (by cases (show Int.ofNat j = ff9 (KT9 X) p from h).trans e), fun j' e => by
  have e := (show Int.ofNat j = ff9 (KT9 X) p from h).trans e
  have e2 := Int.ofNat.inj e
  subst e2
  exact ⟨fun z => absurd hj z, fun _ => ⟨fun z => (by omega), fun _ => hr⟩⟩⟩
/-! sums, conditions -/
theorem m_s1x {f : Nat} (h : Rm9 X w 0 d p (Int.negSucc f)) : Rm9 X w 1 d p (Int.negSucc f) := Rd.s_bad (K := KT9 X) h
theorem m_s1o {j : Nat} (h : Rm9 X w 0 d p (Int.ofNat j)) (h2 : Rm9 X w 2 d j r) : Rm9 X w 1 d p r := Rd.s_go (K := KT9 X) h h2
theorem m_s1g (h1 : 8 ≤ rc9 X p) (h2 : rc9 X p ≤ 12) (h : Rm9 X w 1 d (nx9t X p) r) : Rm9 X w 2 d p r := Rd.l_op (K := KT9 X) (kq (fun k => isOp k) (by decide) h1 h2) h
theorem m_s1e (h2 : rc9 X p ≤ 7) : Rm9 X w 2 d p (Int.ofNat p) := Rd.l_end (K := KT9 X) (kq (a := 0) (fun k => ¬ isOp k) (by decide) (Nat.zero_le _) h2)
theorem m_s1f (h1 : 13 ≤ rc9 X p) : Rm9 X w 2 d p (Int.ofNat p) := Rd.l_end (K := KT9 X) (kq (b := 51) (fun k => ¬ isOp k) (by decide) h1 rc_le)
theorem m_s3x {f : Nat} (h : Rm9 X w 5 d p (Int.negSucc f)) : Rm9 X w 3 d p (Int.negSucc f) := Rd.c_bad (K := KT9 X) h
theorem m_s3o {j : Nat} (h : Rm9 X w 5 d p (Int.ofNat j)) (h2 : Rm9 X w 4 d j r) : Rm9 X w 3 d p r := Rd.c_go (K := KT9 X) h h2
theorem m_s3g (h1 : 30 ≤ rc9 X p) (h2 : rc9 X p ≤ 31) (h : Rm9 X w 3 d (nx9t X p) r) : Rm9 X w 4 d p r := Rd.k_op (K := KT9 X) (kq (fun k => k = 16 ∨ k = 17) (by decide) h1 h2) h
theorem m_s3e (h2 : rc9 X p ≤ 29) : Rm9 X w 4 d p (Int.ofNat p) := Rd.k_end (K := KT9 X) (kq (a := 0) (fun k => ¬ (k = 16 ∨ k = 17)) (by decide) (Nat.zero_le _) h2)
theorem m_s3f (h1 : 32 ≤ rc9 X p) : Rm9 X w 4 d p (Int.ofNat p) := Rd.k_end (K := KT9 X) (kq (b := 51) (fun k => ¬ (k = 16 ∨ k = 17)) (by decide) h1 rc_le)
/-! comparisons -/
theorem m_mX {f : Nat} (h : Rm9 X w 1 d p (Int.negSucc f)) : Rm9 X w 6 d p (Int.negSucc f) := Rd.m_bad (K := KT9 X) h
theorem m_mI {j : Nat} (h : Rm9 X w 1 d p (Int.ofNat j)) (h1 : 29 ≤ rc9 X j) (h2 : rc9 X j ≤ 29) (hr : Rm9 X w 9 d (nx9t X j) r) : Rm9 X w 6 d p r := Rd.m_in (K := KT9 X) h (kq (fun k => k = 15) (by decide) h1 h2) (by rw [show r = _ from hr]; exact ftr_f9)
theorem m_mC {j : Nat} (h : Rm9 X w 1 d p (Int.ofNat j)) (h1 : 13 ≤ rc9 X j) (h2 : rc9 X j ≤ 18) (hr : Rm9 X w 1 d (nx9t X j) r) : Rm9 X w 6 d p r := Rd.m_cmp (K := KT9 X) h (kq (fun k => k = 14) (by decide) h1 h2) hr
theorem m_mNa {j : Nat} (h : Rm9 X w 1 d p (Int.ofNat j)) (h2 : rc9 X j ≤ 12) : Rm9 X w 6 d p (Int.negSucc j) := Rd.m_no (K := KT9 X) h (kq (a := 0) (fun k => k ≠ 14 ∧ k ≠ 15) (by decide) (Nat.zero_le _) h2)
theorem m_mNb {j : Nat} (h : Rm9 X w 1 d p (Int.ofNat j)) (h1 : 19 ≤ rc9 X j) (h2 : rc9 X j ≤ 28) : Rm9 X w 6 d p (Int.negSucc j) := Rd.m_no (K := KT9 X) h (kq (fun k => k ≠ 14 ∧ k ≠ 15) (by decide) h1 h2)
theorem m_mNc {j : Nat} (h : Rm9 X w 1 d p (Int.ofNat j)) (h1 : 30 ≤ rc9 X j) : Rm9 X w 6 d p (Int.negSucc j) := Rd.m_no (K := KT9 X) h (kq (b := 51) (fun k => k ≠ 14 ∧ k ≠ 15) (by decide) h1 rc_le)
/-! parts of conditions -/
theorem m_uD (a : Nat) (ha : a = 22 ∨ a = 4) (h1 : a ≤ rc9 X p) (h2 : rc9 X p ≤ a) (hd : 20 ≤ d) : Rm9 X w 5 d p (Int.negSucc p) := by
  rcases ha with e | e <;> subst e
  · exact Rd.u_deep (K := KT9 X) (Or.inl (kq (fun k => k = 1) (by decide) h1 h2)) hd
  · exact Rd.u_deep (K := KT9 X) (Or.inr (kq (fun k => k = 3) (by decide) h1 h2)) hd
theorem m_uN (h1 : 22 ≤ rc9 X p) (h2 : rc9 X p ≤ 22) (hd : d < 20) (h : Rm9 X w 5 (d + 1) (nx9t X p) r) : Rm9 X w 5 d p r := Rd.u_not (K := KT9 X) (kq (fun k => k = 1) (by decide) h1 h2) hd h
theorem m_uK (h1 : 23 ≤ rc9 X p) (h2 : rc9 X p ≤ 23) (h : Rm9 X w 9 d (nx9t X p) r) : Rm9 X w 5 d p r := Rd.u_known (K := KT9 X) (kq (fun k => k = 2) (by decide) h1 h2) (by rw [show r = _ from h]; exact ftr_f9)
theorem m_uCa (h2 : rc9 X p ≤ 3) (h : Rm9 X w 6 d p r) : Rm9 X w 5 d p r := Rd.u_cmp (K := KT9 X) (kq (a := 0) (fun k => k ≠ 1 ∧ k ≠ 2 ∧ k ≠ 3) (by decide) (Nat.zero_le _) h2) h
theorem m_uCb (h1 : 5 ≤ rc9 X p) (h2 : rc9 X p ≤ 21) (h : Rm9 X w 6 d p r) : Rm9 X w 5 d p r := Rd.u_cmp (K := KT9 X) (kq (fun k => k ≠ 1 ∧ k ≠ 2 ∧ k ≠ 3) (by decide) h1 h2) h
theorem m_uCc (h1 : 24 ≤ rc9 X p) (h : Rm9 X w 6 d p r) : Rm9 X w 5 d p r := Rd.u_cmp (K := KT9 X) (kq (b := 51) (fun k => k ≠ 1 ∧ k ≠ 2 ∧ k ≠ 3) (by decide) h1 rc_le) h
/-! both ways -/
theorem m_bO {j : Nat} (h1 : 4 ≤ rc9 X p) (h2 : rc9 X p ≤ 4) (hd : d < 20) (h : Rm9 X w 3 (d + 1) (nx9t X p) (Int.ofNat j)) (h5 : (KT9 X).c j = 11) : Rm9 X w 26 d p (Int.ofNat (nx9t X j)) := Rd.u_par (K := KT9 X) (kq (fun k => k = 3) (by decide) h1 h2) hd h (sg_ok h5)
/-- the first way came to nothing, at f -/
noncomputable def Bf9 (X : Txt) (d p f : Nat) : Prop := (4 ≤ rc9 X p ∧ rc9 X p ≤ 4) ∧ d < 20 ∧ ∃ x, Rd (KT9 X) 3 (d + 1) (nx9t X p) x ∧ sgR (KT9 X) 11 x = Int.negSucc f
theorem m_bC {f j : Nat} (hf : Bf9 X d p f) (h : Rm9 X w 6 d p (Int.ofNat j)) : Rm9 X w 22 d p (Int.ofNat j) := by
  obtain ⟨⟨h1, h2⟩, hd, x, a, b⟩ := hf
  exact Rd.u_two (K := KT9 X) (kq (fun k => k = 3) (by decide) h1 h2) hd a b h
theorem m_bM {f g : Nat} (hf : Bf9 X d p f) (h : Rm9 X w 6 d p (Int.negSucc g)) : Rm9 X w 22 d p (Int.negSucc (max f g)) := by
  obtain ⟨⟨h1, h2⟩, hd, x, a, b⟩ := hf
  exact Rd.u_two (K := KT9 X) (kq (fun k => k = 3) (by decide) h1 h2) hd a b h
/-! features -/
theorem m_e1 (h1 : 27 ≤ rc9 X p) (h2 : rc9 X p ≤ 28) (h : Rm9 X w 23 d (nx9t X p) r) : Rm9 X w 9 d p r := by
  show r = ff9 (KT9 X) p
  unfold ff9
  rw [if_pos (kq (fun k => k = 8) (by decide) h1 h2)]
  exact h
theorem m_e1a (h2 : rc9 X p ≤ 26) : Rm9 X w 9 d p (Int.negSucc p) := by
  show _ = ff9 (KT9 X) p
  unfold ff9
  rw [if_neg (kq (a := 0) (fun k => ¬ k = 8) (by decide) (Nat.zero_le _) h2)]
theorem m_e1b (h1 : 29 ≤ rc9 X p) : Rm9 X w 9 d p (Int.negSucc p) := by
  show _ = ff9 (KT9 X) p
  unfold ff9
  rw [if_neg (kq (b := 51) (fun k => ¬ k = 8) (by decide) h1 rc_le)]
theorem m_e2 (h1 : 20 ≤ rc9 X p) (h2 : rc9 X p ≤ 20) (h : Rm9 X w 24 d (nx9t X p) r) : Rm9 X w 23 d p r := by
  show r = f23 (KT9 X) p
  unfold f23
  rw [if_pos (kq (fun k => k = 21) (by decide) h1 h2)]
  exact h
theorem m_e2a (h2 : rc9 X p ≤ 19) : Rm9 X w 23 d p (Int.negSucc p) := by
  show _ = f23 (KT9 X) p
  unfold f23
  rw [if_neg (kq (a := 0) (fun k => ¬ k = 21) (by decide) (Nat.zero_le _) h2)]
theorem m_e2b (h1 : 21 ≤ rc9 X p) : Rm9 X w 23 d p (Int.negSucc p) := by
  show _ = f23 (KT9 X) p
  unfold f23
  rw [if_neg (kq (b := 51) (fun k => ¬ k = 21) (by decide) h1 rc_le)]
theorem m_e3 (h1 : 40 ≤ rc9 X p) (h2 : rc9 X p ≤ 47) : Rm9 X w 24 d p (Int.ofNat (nx9t X p)) := by
  show _ = f24 (KT9 X) p
  unfold f24
  rw [if_pos (kq (fun k => k = 22) (by decide) h1 h2)]
  rfl
theorem m_e3a (h2 : rc9 X p ≤ 39) : Rm9 X w 24 d p (Int.negSucc p) := by
  show _ = f24 (KT9 X) p
  unfold f24
  rw [if_neg (kq (a := 0) (fun k => ¬ k = 22) (by decide) (Nat.zero_le _) h2)]
theorem m_e3b (h1 : 48 ≤ rc9 X p) : Rm9 X w 24 d p (Int.negSucc p) := by
  show _ = f24 (KT9 X) p
  unfold f24
  rw [if_neg (kq (b := 51) (fun k => ¬ k = 22) (by decide) h1 rc_le)]
end R71
end
end
section
noncomputable section
/-! ===== THE READER, 72: a rule's parts, rules one behind another ===== -/
section R72
variable {X : Txt} {w : Wld} {C : Cnd9} {p : Nat} {r : Int}
theorem bt_up {b : Bool} {A : Prop} {B : Prop} (h : b = true) (ha : A) : (b = true → A) ∧ (b = false → B) := ⟨fun _ => ha, fun e => (by rw [h] at e; cases e)⟩
theorem bt_no {b : Bool} {A : Prop} {B : Prop} (h : b = false) (hb : B) : (b = true → A) ∧ (b = false → B) := ⟨fun e => (by rw [h] at e; cases e), fun _ => hb⟩
theorem in9_no {a b c : Nat} (h : c < a ∨ b < c) : in9 a b c = false := by
  cases e : in9 a b c with
  | false => rfl
  | true => have := in9_iff.mp e; omega
theorem q_0 (h1 : 37 ≤ rc9 X p) (h2 : rc9 X p ≤ 39) (h : RS9 C X w 11 (nx9t X p) r) : RS9 C X w 10 p r := bt_up (in9_iff.mpr ⟨h1, h2⟩) h
theorem q_0a (h : rc9 X p ≤ 36) : RS9 C X w 10 p (Int.negSucc p) := bt_no (in9_no (Or.inl (by omega))) rfl
theorem q_0b (h : 40 ≤ rc9 X p) : RS9 C X w 10 p (Int.negSucc p) := bt_no (in9_no (Or.inr (by omega))) rfl
theorem q_1 (h1 : 34 ≤ rc9 X p) (h2 : rc9 X p ≤ 35) (h : RS9 C X w 12 (nx9t X p) r) : RS9 C X w 11 p r := bt_up (by unfold who9; rw [in9_iff.mpr ⟨h1, h2⟩]; rfl) h
theorem q_1p (h1 : 0 ≤ nb9 X p 112) (h2 : nb9 X p 112 < w.1) (h : RS9 C X w 12 (nx9t X p) r) : RS9 C X w 11 p r := bt_up (by unfold who9; rw [decide_eq_true h1, decide_eq_true h2]; simp) h
theorem q_1g (h1 : 0 ≤ nb9 X p 103) (h2 : nb9 X p 103 < w.2.1) (h : RS9 C X w 12 (nx9t X p) r) : RS9 C X w 11 p r := bt_up (by unfold who9; rw [decide_eq_true h1, decide_eq_true h2]; simp) h
/-- neither any nor own, nor a person -/
noncomputable def Yq9 (X : Txt) (w : Wld) (p : Nat) : Prop := in9 34 35 (rc9 X p) = false ∧ ¬ (0 ≤ nb9 X p 112 ∧ nb9 X p 112 < w.1)
theorem q_1x (hq : Yq9 X w p) (h : ¬ (0 ≤ nb9 X p 103 ∧ nb9 X p 103 < w.2.1)) : RS9 C X w 11 p (Int.negSucc p) := bt_no (by
  have n2 : ∀ {a b : Prop} [Decidable a] [Decidable b], ¬ (a ∧ b) → (decide a && decide b) = false := fun {a b} _ _ h => by
    cases e : (decide a && decide b) with
    | false => rfl
    | true =>
      rw [Bool.and_eq_true, decide_eq_true_eq, decide_eq_true_eq] at e
      exact absurd e h
  unfold who9
  rw [hq.1, n2 hq.2, n2 h]
  rfl) rfl
theorem q_2 (h : act9 (rc9 X p) = true) (h' : RS9 C X w 13 (nx9t X p) r) : RS9 C X w 12 p r := bt_up h h'
theorem q_2x (h : act9 (rc9 X p) = false) : RS9 C X w 12 p (Int.negSucc p) := bt_no h rfl
theorem act_r {a b c : Nat} {v : Bool} (h : ((List.range 52).all fun c => !(Nat.ble a c && Nat.ble c b) || (act9 c == v)) = true) (h1 : a ≤ c) (h2 : c ≤ b) (h3 : c ≤ 51) : act9 c = v := by
  have := List.all_eq_true.mp h c (List.mem_range.mpr (by omega))
  rw [Nat.ble_eq_true_of_le h1, Nat.ble_eq_true_of_le h2] at this
  simpa using this
theorem q_3a (h : rc9 X p = 34) (h' : RS9 C X w 14 (nx9t X p) r) : RS9 C X w 13 p r := ⟨fun _ => h', fun e => absurd h e⟩
theorem q_3t (h : rc9 X p ≠ 34) (h1 : 0 ≤ nb9 X p 116) (h2 : w.2.2 (nb9 X p 116) = true) (h' : RS9 C X w 16 (nx9t X p) r) : RS9 C X w 13 p r := ⟨fun e => absurd e h, fun _ => bt_up (by unfold thg9; rw [decide_eq_true h1, h2]; rfl) h'⟩
theorem q_3x (h : rc9 X p ≠ 34) (h1 : ¬ (0 ≤ nb9 X p 116 ∧ w.2.2 (nb9 X p 116) = true)) : RS9 C X w 13 p (Int.negSucc p) := ⟨fun e => absurd e h, fun _ => bt_no (by
  cases e : thg9 X w p with
  | false => rfl
  | true =>
    unfold thg9 at e
    rw [Bool.and_eq_true, decide_eq_true_eq] at e
    exact absurd e h1) rfl⟩
theorem q_6n (h : rc9 X p ≠ 11) (h' : RS9 C X w 14 p r) : RS9 C X w 16 p r := ⟨fun e => absurd e h, fun _ => h'⟩
theorem q_6c (h : rc9 X p = 11) (h' : RS9 C X w 14 (nx9t X p) r) : RS9 C X w 16 p r := ⟨fun _ => h', fun e => absurd h e⟩
theorem q_4n (h : rc9 X p ≠ 33) (h' : RS9 C X w 15 p r) : RS9 C X w 14 p r := ⟨fun e => absurd e h, fun _ => h'⟩
theorem q_4c (h : rc9 X p = 33) (h' : RS9 C X w 17 (nx9t X p) r) : RS9 C X w 14 p r := ⟨fun _ => h', fun e => absurd h e⟩
theorem q_7o {z : Nat} (h : C p (Int.ofNat z)) (h' : RS9 C X w 18 z r) : RS9 C X w 17 p r := ⟨_, h, fun f e => (by cases e), fun z' e => by cases Int.ofNat.inj e; exact h'⟩
theorem q_7x {f : Nat} (h : C p (Int.negSucc f)) : RS9 C X w 17 p (Int.negSucc f) := ⟨_, h, fun f' e => e, fun z e => by cases e⟩
theorem S18_n (h : rc9 X p ≠ 32) : S18 X p = Int.ofNat p := by
  unfold S18
  cases e : Nat.beq (rc9 X p) 32 with
  | true => exact absurd (Nat.eq_of_beq_eq_true e) h
  | false => rfl
theorem S18_c (h : rc9 X p = 32) : S18 X p = S19 X (nx9t X p) := by
  unfold S18
  rw [h]
  rfl
theorem q_5n {m : Nat} (hm : m = 15 ∨ m = 18) (h : rc9 X p ≠ 32) : RS9 C X w m p (Int.ofNat p) := by
  rcases hm with e | e <;> subst e <;> exact (S18_n h).symm
theorem q_5c {m : Nat} (hm : m = 15 ∨ m = 18) (h : rc9 X p = 32) (h' : RS9 C X w 19 (nx9t X p) r) : RS9 C X w m p r := by
  have h' : r = S19 X (nx9t X p) := h'
  rcases hm with e | e <;> subst e <;> exact h'.trans (S18_c h).symm
theorem q_9x (h : kd9 X p ≠ 2 ∨ nv9w X p ≤ 0) : RS9 C X w 19 p (Int.negSucc p) := by
  show _ = S19 X p
  unfold S19
  cases e : Nat.beq (kd9 X p) 2 && decide (1 ≤ nv9w X p) with
  | false => rfl
  | true =>
    rw [Bool.and_eq_true, decide_eq_true_eq] at e
    have := Nat.eq_of_beq_eq_true e.1
    omega
theorem q_9o (h1 : kd9 X p = 2) (h2 : 1 ≤ nv9w X p) : RS9 C X w 19 p (Int.ofNat (nx9t X p)) := by
  show _ = S19 X p
  unfold S19
  rw [h1, decide_eq_true h2]
  rfl
/-! rules one behind another -/
/-- behind a rule: k of them are read -/
noncomputable def Pb9 (X : Txt) (w : Wld) (n k z : Nat) (r : Int) : Prop := (rc9 X z = 1 → r = Int.ofNat k) ∧ (rc9 X z = 19 → PoR X w n k (nx9t X z) r) ∧ (rc9 X z ≠ 1 ∧ rc9 X z ≠ 19 → r = Int.negSucc z)
theorem PoR_ok {n k z : Nat} (h : PoR X w (n + 1) k p r) (hx : S10 (CH9 X) X w p (Int.ofNat z)) : Pb9 X w n (k + 1) z r := by
  obtain ⟨x, a, b, c⟩ := h
  have e := S10.det CH_det hx a
  exact c z e.symm
theorem PoR_bad {n k f : Nat} (h : PoR X w (n + 1) k p r) (hx : S10 (CH9 X) X w p (Int.negSucc f)) : r = Int.negSucc f := by
  obtain ⟨x, a, b, c⟩ := h
  have e := S10.det CH_det hx a
  exact b f e.symm
/-- the reference's reading of a rule -/
theorem PoR_okM {n k z : Nat} (hp : p ≤ X.2) (h : PoR X w (n + 1) k p r) (hx : S10 (CM9 X) X w p (Int.ofNat z)) : Pb9 X w n (k + 1) z r := by
  obtain ⟨x, hx'⟩ := S10_ex (X := X) (w := w) CH_ex hp
  rcases S10.sm C_same hx' hx with e | ⟨y, _, e, _⟩
  · exact PoR_ok h (by rw [e]; exact hx')
  · cases e
theorem PoR_badM {n k f : Nat} (hp : p ≤ X.2) (h : PoR X w (n + 1) k p r) (hx : S10 (CM9 X) X w p (Int.negSucc f)) : r = Int.negSucc f := by
  obtain ⟨x, hx'⟩ := S10_ex (X := X) (w := w) CH_ex hp
  rcases S10.sm C_same hx' hx with e | ⟨y, e0, e, h1, h2⟩
  · exact PoR_bad h (by rw [e]; exact hx')
  · have e := Int.negSucc.inj e
    subst e
    rw [e0] at hx'
    exact (PoR_ok h hx').2.2 ⟨h1, h2⟩
theorem PoR_ex : ∀ {n k p : Nat}, p ≤ X.2 → ∃ r, PoR X w n k p r ∧ (∀ j, r = Int.ofNat j → 1 ≤ j ∧ j ≤ k + n) ∧ ∀ f, r = Int.negSucc f → f ≤ X.2
  | 0, k, p, hp => ⟨Int.negSucc p, rfl, fun j e => (by cases e), fun f e => by cases Int.negSucc.inj e; exact hp⟩
  | n + 1, k, p, hp => by
    obtain ⟨x, hx⟩ := S10_ex (X := X) (w := w) CH_ex hp
    have hc : At9 x ≤ X.2 := S10_cl (P := fun p => p ≤ X.2) (fun p hp _ => nx_L hp) (CH_cl (fun p hp _ => nx_L hp)) hp hx
    cases x with
    | negSucc f => exact ⟨Int.negSucc f, ⟨_, hx, fun f' e => e, fun z e => by cases e⟩, fun j e => (by cases e), fun f' e => by cases Int.negSucc.inj e; exact hc⟩
    | ofNat z =>
      have hc : z ≤ X.2 := hc
      by_cases e1 : rc9 X z = 1
      · refine ⟨Int.ofNat (k + 1), ⟨_, hx, fun f e => (by cases e), fun z' e => ?_⟩, fun j e => (by cases Int.ofNat.inj e; omega), fun f e => by cases e⟩
        cases Int.ofNat.inj e
        exact ⟨fun _ => rfl, fun e2 => (by omega), fun e2 => absurd e1 e2.1⟩
      · by_cases e2 : rc9 X z = 19
        · obtain ⟨r, a, b, c⟩ := PoR_ex (n := n) (k := k + 1) (p := nx9t X z) (nx_L hc)
          refine ⟨r, ⟨_, hx, fun f e => (by cases e), fun z' e => ?_⟩, fun j e => (by have := b j e; omega), c⟩
          cases Int.ofNat.inj e
          exact ⟨fun e3 => absurd e3 e1, fun _ => a, fun e3 => absurd e2 e3.2⟩
        · refine ⟨Int.negSucc z, ⟨_, hx, fun f e => (by cases e), fun z' e => ?_⟩, fun j e => (by cases e), fun f e => by cases Int.negSucc.inj e; exact hc⟩
          cases Int.ofNat.inj e
          exact ⟨fun e3 => absurd e3 e1, fun e3 => absurd e3 e2, fun _ => rfl⟩
/-- the reference's conditions stay in the text -/
theorem CM_cl : Cc9 (fun p => p ≤ X.2) (CM9 X) := fun p y hp h => by
  obtain ⟨x, hx⟩ := CH_ex (X := X) p hp
  have hc : At9 x ≤ X.2 := CH_cl (P := fun p => p ≤ X.2) (fun p hp _ => nx_L hp) p x hp hx
  obtain ⟨a, b⟩ := C_same (X := X) p x y hx h
  cases x with
  | negSucc f => rw [a f rfl]; exact hc
  | ofNat z =>
    by_cases q : rc9 X z = 1 ∨ rc9 X z = 19 ∨ rc9 X z = 32
    · rw [(b z rfl).1 q]; exact hc
    · rw [(b z rfl).2 q]; exact hc
theorem RM_cl {m : Nat} (hp : p ≤ X.2) (h : RS9 (CM9 X) X w m p r) : At9 r ≤ X.2 := RS9_cl (P := fun p => p ≤ X.2) (fun p hp _ => nx_L hp) CM_cl hp h
end R72
end
end
section
noncomputable section
/-! ===== THE READER, 73: words by their bytes ===== -/
section R73
variable {X : Txt}
/-- a number of bytes, the first one first -/
noncomputable def nv8 : List Int → Int → Int
  | [], v => v
  | b :: r, v => nv8 r (v * 256 + b)
theorem nv8_app : ∀ {a : List Int} {b v : Int}, nv8 (a ++ [b]) v = nv8 a v * 256 + b
  | [], _, _ => rfl
  | _ :: a, _, _ => nv8_app (a := a)
noncomputable def Bys (l : List Int) : Prop := ∀ b ∈ l, 1 ≤ b ∧ b ≤ 255
theorem nv8_pos : ∀ {l : List Int} {v : Int}, Bys l → 0 ≤ v → v ≤ nv8 l v ∧ (l ≠ [] → 1 ≤ nv8 l v)
  | [], v, _, _ => ⟨Int.le_refl _, fun h => absurd rfl h⟩
  | b :: l, v, hl, hv => by
    have hb := hl b (List.mem_cons_self ..)
    have ih := nv8_pos (l := l) (v := v * 256 + b) (fun c hc => hl c (List.mem_cons_of_mem _ hc)) (by omega)
    show v ≤ nv8 l (v * 256 + b) ∧ (_ → 1 ≤ nv8 l (v * 256 + b))
    exact ⟨by omega, fun _ => by omega⟩
/-- two rows of bytes of one number are the same: their last bytes first -/
theorem nv8_inj : ∀ {n : Nat} {a b : List Int}, a.length + b.length ≤ n → Bys a → Bys b → nv8 a 0 = nv8 b 0 → a = b
  | n, a, b, hn, ha, hb, h => by
    rcases List.eq_nil_or_concat a with e | ⟨a', x, e⟩
    · subst e
      by_cases q : b = []
      · exact q.symm
      · have := (nv8_pos hb (Int.le_refl 0)).2 q
        have h : (0 : Int) = nv8 b 0 := h
        omega
    · rcases List.eq_nil_or_concat b with e2 | ⟨b', y, e2⟩
      · subst e2
        have q : a ≠ [] := by rw [e]; intro z; cases a' <;> cases z
        have := (nv8_pos ha (Int.le_refl 0)).2 q
        have h : nv8 a 0 = 0 := h
        omega
      · have e : a = a' ++ [x] := by rw [e]; simp
        have e2 : b = b' ++ [y] := by rw [e2]; simp
        subst e; subst e2
        rw [nv8_app, nv8_app] at h
        have hx := ha x (by simp)
        have hy := hb y (by simp)
        have ha' : Bys a' := fun c hc => ha c (List.mem_append_left _ hc)
        have hb' : Bys b' := fun c hc => hb c (List.mem_append_left _ hc)
        have l1 : (a' ++ [x]).length = a'.length + 1 := by simp
        have l2 : (b' ++ [y]).length = b'.length + 1 := by simp
        cases n with
        | zero => omega
        | succ n =>
          have := nv8_inj (n := n) (a := a') (b := b') (by omega) ha' hb' (by omega)
          rw [this]
          have : x = y := by omega
          rw [this]
/-- the bytes of a place -/
noncomputable def bs9 (X : Txt) (p k : Nat) : List Int := (List.range k).map fun i => by9 X (p + i)
theorem bs9_succ {p k : Nat} : bs9 X p (k + 1) = bs9 X p k ++ [by9 X (p + k)] := by
  unfold bs9
  rw [List.range_succ, List.map_append]
  rfl
theorem al_by {p : Nat} (h : al9 X p = true) : 48 ≤ by9 X p ∧ by9 X p ≤ 122 := by
  unfold al9 le9 fi9 at h
  simp only [Bool.or_eq_true, Bool.and_eq_true, decide_eq_true_eq] at h
  omega
/-- the value of a word, k bytes of which are passed -/
theorem vb_word {s : Nat} : ∀ {n k : Nat} {v : Int}, whF (al9 X) n (s + k) = s + k + n ∨ al9 X (whF (al9 X) n (s + k)) = false → (k ≤ 8 → v = nv8 (bs9 X s k) 0) → (8 < k → v = -1) → (whF (al9 X) n (s + k) - s ≤ 8 → vbF (al9 X) (wg9 X s) n (s + k) v = nv8 (bs9 X s (whF (al9 X) n (s + k) - s)) 0) ∧ (8 < whF (al9 X) n (s + k) - s → vbF (al9 X) (wg9 X s) n (s + k) v = -1)
  | 0, k, v, _, h1, h2 => by
    show (s + k - s ≤ 8 → v = nv8 (bs9 X s (s + k - s)) 0) ∧ (8 < s + k - s → v = -1)
    rw [Nat.add_sub_cancel_left]
    exact ⟨h1, h2⟩
  | n + 1, k, v, he, h1, h2 => by
    cases hf : al9 X (s + k) with
    | false =>
      have e : whF (al9 X) (n + 1) (s + k) = s + k := by
        show (bif al9 X (s + k) then _ else s + k) = s + k
        rw [hf]; rfl
      have e2 : vbF (al9 X) (wg9 X s) (n + 1) (s + k) v = v := by
        show (bif al9 X (s + k) then _ else v) = v
        rw [hf]; rfl
      rw [e, e2, Nat.add_sub_cancel_left]
      exact ⟨h1, h2⟩
    | true =>
      have e : whF (al9 X) (n + 1) (s + k) = whF (al9 X) n (s + (k + 1)) := by
        show (bif al9 X (s + k) then whF (al9 X) n (s + k + 1) else s + k) = _
        rw [hf]; rfl
      have e2 : vbF (al9 X) (wg9 X s) (n + 1) (s + k) v = vbF (al9 X) (wg9 X s) n (s + (k + 1)) (wg9 X s (s + k) v) := by
        show (bif al9 X (s + k) then vbF (al9 X) (wg9 X s) n (s + k + 1) (wg9 X s (s + k) v) else v) = _
        rw [hf]; rfl
      rw [e, e2]
      have wg : wg9 X s (s + k) v = if k < 8 then v * 256 + by9 X (s + k) else -1 := by
        unfold wg9
        rw [Nat.add_sub_cancel_left]
      refine vb_word (n := n) (k := k + 1) ?_ (fun q => ?_) (fun q => ?_)
      · exact whF_end.imp (fun z => z) (fun z => z)
      · rw [wg, if_pos (by omega), bs9_succ, nv8_app, h1 (by omega)]
      · rw [wg, if_neg (by omega)]
theorem wv_word {p : Nat} : (we9 X p - p ≤ 8 → wv9 X p = nv8 (bs9 X p (we9 X p - p)) 0) ∧ (8 < we9 X p - p → wv9 X p = -1) := by
  have h := vb_word (X := X) (s := p) (n := X.2 - p) (k := 0) (v := 0) (whF_end.imp (fun z => z) (fun z => z)) (fun _ => rfl) (fun q => by omega)
  exact h
theorem bs_ok {p k : Nat} (h : p + k ≤ we9 X p) : Bys (bs9 X p k) := fun b hb => by
  unfold bs9 at hb
  obtain ⟨i, hi, e⟩ := List.mem_map.mp hb
  have hi := List.mem_range.mp hi
  have : al9 X (p + i) = true := whF_all (f := al9 X) (n := X.2 - p) (p := p) (j := p + i) (by omega) (by show p + i < we9 X p; omega)
  have := al_by this
  omega
/-- a word of some bytes -/
theorem word_of {p : Nat} {l : List Int} (hl : Bys l) (h8 : l.length ≤ 8) (h : wv9 X p = nv8 l 0) : we9 X p - p = l.length ∧ bs9 X p l.length = l := by
  have hw := wv_word (X := X) (p := p)
  by_cases q : we9 X p - p ≤ 8
  · rw [hw.1 q] at h
    have hb : Bys (bs9 X p (we9 X p - p)) := bs_ok (by have : p ≤ we9 X p := wh_le.1; omega)
    have e := nv8_inj (n := (bs9 X p (we9 X p - p)).length + l.length) (Nat.le_refl _) hb hl h
    have e2 : we9 X p - p = l.length := by
      rw [← e]
      unfold bs9
      simp
    exact ⟨e2, by rw [← e2]; exact e⟩
  · rw [hw.2 (by omega)] at h
    have := (nv8_pos hl (Int.le_refl 0)).1
    omega
theorem word_to {p : Nat} {l : List Int} (h8 : l.length ≤ 8) (h1 : we9 X p - p = l.length) (h2 : bs9 X p l.length = l) : wv9 X p = nv8 l 0 := by
  have := (wv_word (X := X) (p := p)).1 (by omega)
  rw [h1, h2] at this
  exact this
/-- a code's word -/
noncomputable def wd9 (c : Nat) : Int := match WDR.find? (fun e => Nat.beq e.2 c) with
  | some e => e.1
  | none => -2
theorem lkd_in : ∀ {l : List (Int × Nat)} {v : Int} {c : Nat}, lkd 21 l v = c → c ≠ 21 → (v, c) ∈ l
  | [], _, _, h, hc => absurd h.symm hc
  | e :: l, v, c, h, hc => by
    have h : (bif decide (e.1 = v) then e.2 else lkd 21 l v) = c := h
    cases hd : decide (e.1 = v) with
    | true =>
      rw [hd] at h
      have h : e.2 = c := h
      have := of_decide_eq_true hd
      rw [← this, ← h]
      exact List.mem_cons_self ..
    | false =>
      rw [hd] at h
      exact List.mem_cons_of_mem _ (lkd_in h hc)
theorem rc_word {p : Nat} (h : 22 ≤ rc9 X p) : kd9 X p = 1 ∧ (wv9 X p, rc9 X p) ∈ WDR := by
  have hk := kd9_le (X := X) (p := p)
  have q := rc_kd (X := X) (p := p)
  have e : kd9 X p = 1 := by
    rcases (by omega : kd9 X p = 0 ∨ kd9 X p = 1 ∨ kd9 X p = 2 ∨ kd9 X p = 3 ∨ kd9 X p = 4 ∨ kd9 X p = 5) with e | e | e | e | e | e
    · have := q.1 e; omega
    · exact e
    · have := q.2.2.1 e; omega
    · have := q.2.2.2.1 e; omega
    · have := q.2.2.2.2.1 e; omega
    · have := q.2.2.2.2.2 e; omega
  refine ⟨e, ?_⟩
  have e2 : rc9 X p = lkd 21 WDR (wv9 X p) := by
    unfold rc9
    rw [e]
    rfl
  exact lkd_in e2.symm (by omega)
/-- of the code c: its word's number -/
theorem rc_wv {p c : Nat} {v : Int} (hc : 22 ≤ c) (h : rc9 X p = c) (ht : (WDR.all fun e => !(Nat.beq e.2 c) || decide (e.1 = v)) = true) : kd9 X p = 1 ∧ wv9 X p = v := by
  obtain ⟨a, b⟩ := rc_word (X := X) (p := p) (by omega)
  have := List.all_eq_true.mp ht _ b
  rw [h] at this
  have e : Nat.beq c c = true := Nat.beq_refl c
  rw [e] at this
  exact ⟨a, of_decide_eq_true (by simpa using this)⟩
theorem te_word {p : Nat} (h : kd9 X p = 1) : te9 X p = we9 X p ∧ le9 X p = true := by
  have hb : ¬ by9 X p < 0 := fun q => by
    unfold kd9 at h
    rw [decide_eq_true q] at h
    cases h
  unfold kd9 at h
  rw [decide_eq_false hb] at h
  simp only [cond_false] at h
  cases e : le9 X p with
  | true =>
    refine ⟨?_, rfl⟩
    unfold te9
    rw [decide_eq_false hb, e]
    rfl
  | false =>
    exfalso
    rw [e] at h
    simp only [cond_false] at h
    cases e3 : fi9 X p with
    | true =>
      rw [e3] at h
      simp only [cond_true] at h
      cases e4 : decide (9 < fe9 X p - p) with
      | true => rw [e4] at h; cases h
      | false =>
        rw [e4] at h
        simp only [cond_false] at h
        cases e5 : pt9 X (fe9 X p) with
        | true =>
          rw [e5] at h
          simp only [cond_true] at h
          cases e6 : decide (6 < fe9 X (fe9 X p + 1) - (fe9 X p + 1)) with
          | true => rw [e6] at h; cases h
          | false => rw [e6] at h; cases h
        | false => rw [e5] at h; cases h
    | false =>
      rw [e3] at h
      simp only [cond_false] at h
      cases e7 : pr9 X p with
      | true => rw [e7] at h; cases h
      | false =>
        rw [e7] at h
        simp only [cond_false] at h
        cases e8 : SG9.any (fun c => decide (c = by9 X p)) with
        | true => rw [e8] at h; cases h
        | false => rw [e8] at h; cases h
/-- what begins with t is not any -/
theorem nb_by {p : Nat} {c : Int} (h : 0 ≤ nb9 X p c) : by9 X p = c := by
  unfold nb9 at h
  cases e : decide (by9 X p = c) with
  | true => exact of_decide_eq_true e
  | false =>
    rw [e] at h
    simp only [Bool.and_false, Bool.false_and, cond_false] at h
    omega
theorem nb_any {p : Nat} (h : 0 ≤ nb9 X p 116) : rc9 X p ≠ 34 := fun e => by
  obtain ⟨_, b⟩ := rc_wv (X := X) (p := p) (c := 34) (v := 6385273) (by decide) e (by decide)
  have hw := (word_of (X := X) (p := p) (l := [97, 110, 121]) (fun b hb => by
    simp only [List.mem_cons, List.not_mem_nil, or_false] at hb
    omega) (by decide) (by rw [b]; decide)).2
  have e0 : by9 X p = 97 := by
    have := congrArg (fun l => l.head?) hw
    have : some (by9 X (p + 0)) = some 97 := this
    exact Option.some.inj this
  have := nb_by h
  omega
end R73
end
end
