section
noncomputable section
/-! ===== WORKS, 52: looking for who may do which step: one way to look, told as what it comes to ===== -/
def up9 (c : Nat → Int) (i : Nat) (v : Int) : Nat → Int := fun j => if j = i then v else c j
theorem up9_at {c : Nat → Int} {i : Nat} {v : Int} : up9 c i v i = v := if_pos rfl
theorem up9_ne {c : Nat → Int} {i j : Nat} {v : Int} (h : j ≠ i) : up9 c i v j = c j := if_neg h
theorem up9_up {c : Nat → Int} {i : Nat} {v w : Int} : up9 (up9 c i v) i w = up9 c i w := funext fun j => by
  by_cases h : j = i
  · rw [h, up9_at, up9_at]
  · rw [up9_ne h, up9_ne h, up9_ne h]
noncomputable def cif {α : Type} (p : Prop) (a b : α) : α := @ite α p (Classical.propDecidable p) a b
theorem cif_t {α : Type} {p : Prop} {a b : α} (h : p) : cif p a b = a := @if_pos p (Classical.propDecidable p) h α a b
theorem cif_f {α : Type} {p : Prop} {a b : α} (h : ¬ p) : cif p a b = b := @if_neg p (Classical.propDecidable p) h α a b
/-- where it stands: 0 i: on at the level i; 1 i p: the persons from p on at the level i; 2 i: back from the level i; the row, the tries -/
abbrev Wc : Type := Nat × (Nat × (Nat × ((Nat → Int) × Nat)))
abbrev Wr : Type := Int × (Nat → Int)
/-- steps, persons, most tries; set from the start; who may; ties -/
abbrev Wp9 : Type := Nat × (Nat × (Nat × ((Nat → Prop) × ((Nat → Nat → Prop) × ((Nat → Int) → Prop)))))
abbrev Wp9.n (q : Wp9) : Nat := q.1
abbrev Wp9.P (q : Wp9) : Nat := q.2.1
abbrev Wp9.mo (q : Wp9) : Nat := q.2.2.1
abbrev Wp9.fx (q : Wp9) : Nat → Prop := q.2.2.2.1
abbrev Wp9.C (q : Wp9) : Nat → Nat → Prop := q.2.2.2.2.1
abbrev Wp9.T (q : Wp9) : (Nat → Int) → Prop := q.2.2.2.2.2
noncomputable def nx0 (q : Wp9) (i : Nat) (cur : Nat → Int) (tr : Nat) : Wr ⊕ Wc := cif (q.n ≤ i) (cif (q.T cur) (.inl (1, cur)) (.inr (2, (i, (0, (cur, tr)))))) (cif (q.fx i) (.inr (0, (i + 1, (0, (cur, tr))))) (.inr (1, (i, (0, (cur, tr))))))
noncomputable def nx1 (q : Wp9) (i p : Nat) (cur : Nat → Int) (tr : Nat) : Wr ⊕ Wc := cif (q.P ≤ p) (.inr (2, (i, (0, (cur, tr))))) (cif (q.C i p) (cif (q.mo ≤ tr) (.inl (2, cur)) (cif (q.T (up9 cur i (p : Int))) (.inr (0, (i + 1, (0, (up9 cur i (p : Int), tr + 1))))) (.inr (1, (i, (p + 1, (cur, tr + 1))))))) (.inr (1, (i, (p + 1, (cur, tr))))))
noncomputable def nx2 (q : Wp9) (i : Nat) (cur : Nat → Int) (tr : Nat) : Wr ⊕ Wc := cif (i = 0) (.inl (0, cur)) (cif (q.fx (i - 1)) (.inr (2, (i - 1, (0, (cur, tr))))) (.inr (1, (i - 1, ((cur (i - 1) + 1).toNat, (up9 cur (i - 1) (-4), tr))))))
noncomputable def nx9 (q : Wp9) (c : Wc) : Wr ⊕ Wc := match c.1 with
  | 0 => nx0 q c.2.1 c.2.2.2.1 c.2.2.2.2
  | 1 => nx1 q c.2.1 c.2.2.1 c.2.2.2.1 c.2.2.2.2
  | _ => nx2 q c.2.1 c.2.2.2.1 c.2.2.2.2
noncomputable def run9 (q : Wp9) : Nat → Wc → Option Wr
  | 0, _ => none
  | k + 1, c => match nx9 q c with
    | .inl r => some r
    | .inr c' => run9 q k c'
theorem run_i {q : Wp9} {c : Wc} {r : Wr} {k : Nat} (h : nx9 q c = .inl r) : run9 q (k + 1) c = some r := by
  show (match nx9 q c with
    | .inl r => some r
    | .inr c' => run9 q k c') = some r
  rw [h]
theorem run_s {q : Wp9} {c c' : Wc} {k : Nat} (h : nx9 q c = .inr c') : run9 q (k + 1) c = run9 q k c' := by
  show (match nx9 q c with
    | .inl r => some r
    | .inr c' => run9 q k c') = _
  rw [h]
theorem run_up {q : Wp9} : ∀ {k : Nat} {c : Wc} {r : Wr}, run9 q k c = some r → run9 q (k + 1) c = some r
  | 0, _, _, h => by cases h
  | k + 1, c, r, h => by
    cases e : nx9 q c with
    | inl r' => rw [run_i e] at h ⊢; exact h
    | inr c' => rw [run_s e] at h ⊢; exact run_up h
theorem run_le {q : Wp9} {k : Nat} {c : Wc} {r : Wr} (h : run9 q k c = some r) : ∀ d, run9 q (k + d) c = some r
  | 0 => h
  | d + 1 => run_up (run_le h d)
/-- it comes to r -/
def Res9 (q : Wp9) (c : Wc) (r : Wr) : Prop := ∃ k, run9 q k c = some r
theorem Res9.det {q : Wp9} {c : Wc} {r r' : Wr} (h : Res9 q c r) (h' : Res9 q c r') : r = r' := by
  obtain ⟨k, e⟩ := h
  obtain ⟨k', e'⟩ := h'
  have a := run_le e k'
  have b := run_le e' k
  rw [Nat.add_comm k' k] at b
  exact Option.some.inj (a.symm.trans b)
theorem Res9.i {q : Wp9} {c : Wc} {r : Wr} (h : nx9 q c = .inl r) : Res9 q c r := ⟨1, run_i h⟩
theorem Res9.s {q : Wp9} {c c' : Wc} {r : Wr} (h : nx9 q c = .inr c') (g : Res9 q c' r) : Res9 q c r := by
  obtain ⟨k, e⟩ := g
  exact ⟨k + 1, (run_s h).trans e⟩
/-- from c it comes to what it comes to from the start -/
def Sam (q : Wp9) (c0 : Nat → Int) (c : Wc) : Prop := ∀ r, Res9 q c r → Res9 q (0, (0, (0, (c0, 0)))) r
theorem Sam.rf {q : Wp9} {c0 : Nat → Int} : Sam q c0 (0, (0, (0, (c0, 0)))) := fun _ h => h
theorem Sam.st {q : Wp9} {c0 : Nat → Int} {c c' : Wc} (h : Sam q c0 c) (e : nx9 q c = .inr c') : Sam q c0 c' := fun r g => h r (g.s e)
theorem Sam.en {q : Wp9} {c0 : Nat → Int} {c : Wc} {r : Wr} (h : Sam q c0 c) (e : nx9 q c = .inl r) : Res9 q (0, (0, (0, (c0, 0)))) r := h r (.i e)
section W52
variable {q : Wp9} {i p tr : Nat} {cur : Nat → Int}
theorem n_done (a : q.n ≤ i) (b : q.T cur) : nx9 q (0, (i, (0, (cur, tr)))) = .inl (1, cur) := (cif_t a).trans (cif_t b)
theorem n_over (a : q.n ≤ i) (b : ¬ q.T cur) : nx9 q (0, (i, (0, (cur, tr)))) = .inr (2, (i, (0, (cur, tr)))) := (cif_t a).trans (cif_f b)
theorem n_fix (a : i < q.n) (b : q.fx i) : nx9 q (0, (i, (0, (cur, tr)))) = .inr (0, (i + 1, (0, (cur, tr)))) := (cif_f (Nat.not_le.mpr a)).trans (cif_t b)
theorem n_scan (a : i < q.n) (b : ¬ q.fx i) : nx9 q (0, (i, (0, (cur, tr)))) = .inr (1, (i, (0, (cur, tr)))) := (cif_f (Nat.not_le.mpr a)).trans (cif_f b)
theorem n_none (a : q.P ≤ p) : nx9 q (1, (i, (p, (cur, tr)))) = .inr (2, (i, (0, (cur, tr)))) := cif_t a
theorem n_skip (a : p < q.P) (b : ¬ q.C i p) : nx9 q (1, (i, (p, (cur, tr)))) = .inr (1, (i, (p + 1, (cur, tr)))) := (cif_f (Nat.not_le.mpr a)).trans (cif_f b)
theorem n_most (a : p < q.P) (b : q.C i p) (d : q.mo ≤ tr) : nx9 q (1, (i, (p, (cur, tr)))) = .inl (2, cur) := (cif_f (Nat.not_le.mpr a)).trans ((cif_t b).trans (cif_t d))
theorem n_yes (a : p < q.P) (b : q.C i p) (d : tr < q.mo) (e : q.T (up9 cur i (p : Int))) : nx9 q (1, (i, (p, (cur, tr)))) = .inr (0, (i + 1, (0, (up9 cur i (p : Int), tr + 1)))) := (cif_f (Nat.not_le.mpr a)).trans ((cif_t b).trans ((cif_f (Nat.not_le.mpr d)).trans (cif_t e)))
theorem n_no (a : p < q.P) (b : q.C i p) (d : tr < q.mo) (e : ¬ q.T (up9 cur i (p : Int))) : nx9 q (1, (i, (p, (cur, tr)))) = .inr (1, (i, (p + 1, (cur, tr + 1)))) := (cif_f (Nat.not_le.mpr a)).trans ((cif_t b).trans ((cif_f (Nat.not_le.mpr d)).trans (cif_f e)))
theorem n_back0 : nx9 q (2, (0, (0, (cur, tr)))) = .inl (0, cur) := cif_t rfl
theorem n_backF (a : q.fx i) : nx9 q (2, (i + 1, (0, (cur, tr)))) = .inr (2, (i, (0, (cur, tr)))) := (cif_f (Nat.succ_ne_zero i)).trans (cif_t a)
theorem n_backS (a : ¬ q.fx i) (b : cur i + 1 = (p : Int)) : nx9 q (2, (i + 1, (0, (cur, tr)))) = .inr (1, (i, (p, (up9 cur i (-4), tr)))) := by
  refine (cif_f (Nat.succ_ne_zero i)).trans ((cif_f a).trans ?_)
  show (.inr (1, (i, ((cur i + 1).toNat, (up9 cur i (-4), tr)))) : Wr ⊕ Wc) = _
  rw [b, Int.toNat_natCast]
/-- what is found keeps all ties, and what was set from the start -/
theorem run_keeps (X : (Nat → Int) → Prop) (hup : ∀ c i v, ¬ q.fx i → X c → X (up9 c i v)) : ∀ (k md i p : Nat) (cur : Nat → Int) (tr : Nat) (c : Nat → Int), run9 q k (md, (i, (p, (cur, tr)))) = some (1, c) → (md = 1 → ¬ q.fx i) → X cur → q.T c ∧ X c
  | 0, _, _, _, _, _, _, h, _, _ => by cases h
  | k + 1, md, i, p, cur, tr, c, h, hf, hX => by
    rcases md with _ | _ | m
    · have h : run9 q (k + 1) (0, (i, (p, (cur, tr)))) = some (1, c) := h
      by_cases a : q.n ≤ i
      · by_cases b : q.T cur
        · have e : nx9 q (0, (i, (p, (cur, tr)))) = .inl (1, cur) := (cif_t a).trans (cif_t b)
          rw [run_i e] at h
          cases Option.some.inj h
          exact ⟨b, hX⟩
        · have e : nx9 q (0, (i, (p, (cur, tr)))) = .inr (2, (i, (0, (cur, tr)))) := (cif_t a).trans (cif_f b)
          rw [run_s e] at h
          exact run_keeps X hup k 2 i 0 cur tr c h (fun e => absurd e (by decide)) hX
      · by_cases b : q.fx i
        · have e : nx9 q (0, (i, (p, (cur, tr)))) = .inr (0, (i + 1, (0, (cur, tr)))) := (cif_f a).trans (cif_t b)
          rw [run_s e] at h
          exact run_keeps X hup k 0 (i + 1) 0 cur tr c h (fun e => absurd e (by decide)) hX
        · have e : nx9 q (0, (i, (p, (cur, tr)))) = .inr (1, (i, (0, (cur, tr)))) := (cif_f a).trans (cif_f b)
          rw [run_s e] at h
          exact run_keeps X hup k 1 i 0 cur tr c h (fun _ => b) hX
    · have f := hf rfl
      have h : run9 q (k + 1) (1, (i, (p, (cur, tr)))) = some (1, c) := h
      by_cases a : q.P ≤ p
      · rw [run_s (n_none a)] at h
        exact run_keeps X hup k 2 i 0 cur tr c h (fun e => absurd e (by decide)) hX
      · have a := Nat.lt_of_not_le a
        by_cases b : q.C i p
        · by_cases d : q.mo ≤ tr
          · rw [run_i (n_most a b d)] at h
            cases Option.some.inj h
          · have d := Nat.lt_of_not_le d
            by_cases e : q.T (up9 cur i (p : Int))
            · rw [run_s (n_yes a b d e)] at h
              exact run_keeps X hup k 0 (i + 1) 0 _ _ c h (fun e => absurd e (by decide)) (hup _ _ _ f hX)
            · rw [run_s (n_no a b d e)] at h
              exact run_keeps X hup k 1 i (p + 1) cur _ c h (fun _ => f) hX
        · rw [run_s (n_skip a b)] at h
          exact run_keeps X hup k 1 i (p + 1) cur tr c h (fun _ => f) hX
    · have h : run9 q (k + 1) (m + 2, (i, (p, (cur, tr)))) = some (1, c) := h
      rcases i with _ | i
      · have e : nx9 q (m + 2, (0, (p, (cur, tr)))) = .inl (0, cur) := cif_t rfl
        have h : run9 q (k + 1) (m + 2, (0, (p, (cur, tr)))) = some (1, c) := h
        rw [run_i e] at h
        cases Option.some.inj h
      · have h : run9 q (k + 1) (m + 2, (i + 1, (p, (cur, tr)))) = some (1, c) := h
        by_cases a : q.fx i
        · have e : nx9 q (m + 2, (i + 1, (p, (cur, tr)))) = .inr (2, (i, (0, (cur, tr)))) := (cif_f (Nat.succ_ne_zero i)).trans (cif_t a)
          rw [run_s e] at h
          exact run_keeps X hup k 2 i 0 cur tr c h (fun e => absurd e (by decide)) hX
        · have e : nx9 q (m + 2, (i + 1, (p, (cur, tr)))) = .inr (1, (i, ((cur i + 1).toNat, (up9 cur i (-4), tr)))) := (cif_f (Nat.succ_ne_zero i)).trans (cif_f a)
          rw [run_s e] at h
          exact run_keeps X hup k 1 i _ _ tr c h (fun _ => a) (hup _ _ _ a hX)
end W52
end
end
section
noncomputable section
/-! ===== WORKS, 53: what holds (rows: 42 steps, 43 group, 44 done, 45 ties, 46 tieKind, 47 tieFirst, 48 tieSecond, 49 kept, 50 set, 51 candidates; 164 done, 165 filling, 170 current of the reference; 5 0 persons) ===== -/
/-- what is worked out of bits -/
def lw9 (n : Nat) (x y : Int) : Int := match n with
  | 2 => (Bo.i .ior (Int32.ofInt x) (Int32.ofInt y)).toInt
  | 7 => (Bo.i .ishl (Int32.ofInt x) (Int32.ofInt y)).toInt
  | 21 => (Int64.ofInt x &&& Int64.ofInt y).toInt
  | 22 => (Int64.ofInt x ||| Int64.ofInt y).toInt
  | 27 => (Int64.ofInt x <<< ((Int32.ofInt y).toInt64 &&& 63)).toInt
  | 28 => (Int64.ofInt x >>> ((Int32.ofInt y).toInt64 &&& 63)).toInt
  | _ => 0
def hkT : List (Nat × Nat) := [(2, 830), (7, 833), (22, 810), (27, 813), (21, 816), (28, 819)]
def wC (τ : Tf) (n b : Nat) : Prop := ∀ x y r, τ b = some x → τ (b + 1) = some y → τ (b + 2) = some r → lw9 n x y = r
def wB (τ : Tf) : Prop := wC τ 2 830 ∧ wC τ 7 833 ∧ wC τ 22 810 ∧ wC τ 27 813 ∧ wC τ 21 816 ∧ wC τ 28 819
/-- nobody, or a person -/
def In9 (v : Int) (P : Nat) : Prop := v = -4 ∨ (0 ≤ v ∧ v < (P : Int))
/-- how many of the first n are v -/
def cn9 (c : Nat → Int) (v : Int) : Nat → Nat
  | 0 => 0
  | n + 1 => cn9 c v n + if c n = v then 1 else 0
/-- the tie t of the work W holds -/
def Tie (m : Mt) (W t : Nat) (c : Nat → Int) : Prop := (m 46 (12 * W + t) = 2 → ∀ v : Int, v ≠ -4 → (cn9 c v 8 : Int) ≤ m 47 (12 * W + t)) ∧ (m 46 (12 * W + t) ≠ 2 → ∀ a b : Nat, m 47 (12 * W + t) = (a : Int) → m 48 (12 * W + t) = (b : Int) → c a = -4 ∨ c b = -4 ∨ (c a = c b ↔ m 46 (12 * W + t) = 1))
def Tis (m : Mt) (W : Nat) (c : Nat → Int) : Prop := ∀ t : Nat, (t : Int) < m 45 W → Tie m W t c
def cb9 (m : Mt) (W N : Nat) : Nat → Int := fun j => if j < N then m 44 (8 * W + j) else -4
def cu9 (m : Mt) (W N : Nat) (ix pe : Int) : Nat → Int := fun j => if (j : Int) = ix then pe else cb9 m W N j
/-- the person p may do the step i -/
def May (m : Mt) (W : Nat) (t9 : Int) (i p : Nat) : Prop := ∃ g : Nat, m 43 (8 * W + i) = (g : Int) ∧ Rch m (p : Int) t9 t9 g
def rc9 (r : Nat → Int) : Nat → Int := fun j => if j < 8 then r j else -4
def Wq (m : Mt) (W N P : Nat) (ix pe : Int) (mo : Nat) (t9 : Int) : Wp9 := (N, (P, (mo, (fun j => cu9 m W N ix pe j ≠ -4, (fun i p => May m W t9 i p, fun c => Tis m W c)))))
/-- a row that the look may have at the level i -/
def Wf9 (q : Wp9) (c0 : Nat → Int) (i : Nat) (cur : Nat → Int) : Prop := ∀ j, (q.fx j → cur j = c0 j) ∧ (¬ q.fx j → (j < i → 0 ≤ cur j ∧ cur j < (q.P : Int)) ∧ (i ≤ j → cur j = -4))
def Cst (q : Wp9) (c0 : Nat → Int) (md i p : Nat) (cur : Nat → Int) (tr : Nat) : Prop := i ≤ q.n ∧ Wf9 q c0 i cur ∧ tr ≤ q.mo ∧ (md = 0 → q.T c0 → q.T cur) ∧ (md = 1 → ¬ q.fx i ∧ i < q.n) ∧ Sam q c0 (md, (i, (p, (cur, tr))))
/-- where a side's look stands; its row is r; tags: on, back, came to, persons (two), tries; o: what 'back' tells more -/
def Lok (q : Wp9) (c0 : Nat → Int) (ta tb tc td te tf : Nat) (o : Int) (r : Nat → Int) (τ : Tf) : Prop :=
  (∀ i, τ ta = some i → ∃ I tr : Nat, i = (I : Int) ∧ τ tf = some (tr : Int) ∧ Cst q c0 0 I 0 (rc9 r) tr) ∧
  (∀ i, τ tb = some i → ∃ I tr : Nat, i + o = (I : Int) ∧ τ tf = some (tr : Int) ∧ Cst q c0 2 I 0 (rc9 r) tr) ∧
  (∀ x, τ tc = some x → ∃ c, Res9 q (0, (0, (0, (c0, 0)))) (x, c) ∧ (x = 1 → c = rc9 r)) ∧
  ∀ i p, τ td = some i → τ te = some p → ∃ I p' tr : Nat, i = (I : Int) ∧ p = (p' : Int) ∧ τ tf = some (tr : Int) ∧ Cst q c0 1 I p' (up9 (rc9 r) I (-4)) tr
/-- ties, the class: 1030, 1032 .. 1037 -/
def Tc9 (m : Mt) (W : Nat) (ms t : Int) : Prop := ms ≤ 8 ∧ ∃ t' : Nat, t = (t' : Int) ∧ (∀ u : Nat, u < t' → m 46 (12 * W + u) ≠ 2 → Tie m W u (rc9 (m 50))) ∧ (∀ u : Nat, u < t' → m 46 (12 * W + u) = 2 → ms ≤ m 47 (12 * W + u)) ∧ (ms = 8 ∨ ∃ u : Nat, (u : Int) < m 45 W ∧ m 46 (12 * W + u) = 2 ∧ m 47 (12 * W + u) = ms)
def Ta9 (m : Mt) (W : Nat) (ms : Int) : Prop := ms ≤ 8 ∧ (∀ u : Nat, (u : Int) < m 45 W → m 46 (12 * W + u) ≠ 2 → Tie m W u (rc9 (m 50))) ∧ (∀ u : Nat, (u : Int) < m 45 W → m 46 (12 * W + u) = 2 → ms ≤ m 47 (12 * W + u)) ∧ (ms = 8 ∨ ∃ u : Nat, (u : Int) < m 45 W ∧ m 46 (12 * W + u) = 2 ∧ m 47 (12 * W + u) = ms)
def Th9 (m : Mt) (ms i : Int) : Prop := (0 < i → 0 ≤ ms) ∧ ∀ j : Nat, (j : Int) < i → j < 8 → m 50 j ≠ -4 → (cn9 (rc9 (m 50)) (m 50 j) 8 : Int) ≤ ms
def Tj9 (m : Mt) (i j hs : Int) : Prop := ∀ I : Nat, i = (I : Int) → ∃ J : Nat, j = (J : Int) ∧ J ≤ 8 ∧ (m 50 I ≠ -4 → hs = (cn9 (rc9 (m 50)) (m 50 I) J : Int)) ∧ (m 50 I = -4 → hs = 0)
def TiC (m : Mt) (W : Nat) (τ : Tf) : Prop :=
  (∀ x, τ 1030 = some x → (x = 0 ∨ x = 1) ∧ (x = 1 ↔ Tis m W (rc9 (m 50)))) ∧
  (∀ x ms t, τ 1030 = some x → τ 1033 = some ms → τ 1032 = some t → Tc9 m W ms t) ∧
  (∀ x ms z, τ 1030 = some x → τ 1033 = some ms → τ 1037 = some z → Ta9 m W ms) ∧
  (∀ x ms i, τ 1030 = some x → τ 1033 = some ms → τ 1034 = some i → Th9 m ms i) ∧
  ∀ x i j hs, τ 1030 = some x → τ 1034 = some i → τ 1035 = some j → τ 1036 = some hs → Tj9 m i j hs
/-- ties, the reference: 1031, 1040 .. 1047 -/
def Tb9 (m : Mt) (W t : Nat) : Prop := ∀ u : Nat, u < t → (u : Int) < m 45 W → Tie m W u (rc9 (m 170))
def Tp9 (m : Mt) (W : Nat) (t k p fi : Int) : Prop := ∃ t' p' : Nat, t = (t' : Int) ∧ p = (p' : Int) ∧ (t' : Int) < m 45 W ∧ m 46 (12 * W + t') = 2 ∧ fi = m 47 (12 * W + t') ∧ (k = 1 ↔ Tb9 m W t' ∧ ∀ v : Nat, v < p' → (cn9 (rc9 (m 170)) (v : Int) 8 : Int) ≤ fi)
def TiM (m : Mt) (W : Nat) (τ : Tf) : Prop :=
  (∀ x, τ 1031 = some x → (x = 0 ∨ x = 1) ∧ (x = 1 ↔ Tis m W (rc9 (m 170)))) ∧
  (∀ a t, τ 1047 = some a → τ 1040 = some t → ∃ t' : Nat, t = (t' : Int) ∧ a = ((12 * W + t' : Nat) : Int) ∧ (t' : Int) < m 45 W) ∧
  (∀ x t k, τ 1031 = some x → τ 1040 = some t → τ 1041 = some k → (k = 0 ∨ k = 1) ∧ ∃ t' : Nat, t = (t' : Int) ∧ (τ 1042 = none → (k = 1 ↔ Tb9 m W t'))) ∧
  (∀ x t k p fi, τ 1031 = some x → τ 1040 = some t → τ 1041 = some k → τ 1042 = some p → τ 1046 = some fi → Tp9 m W t k p fi) ∧
  (∀ x p s c, τ 1031 = some x → τ 1042 = some p → τ 1043 = some s → τ 1044 = some c → 0 ≤ p ∧ ∃ s' : Nat, s = (s' : Int) ∧ s' ≤ 8 ∧ c = (cn9 (rc9 (m 170)) p s' : Int)) ∧
  ∀ x p c, τ 1031 = some x → τ 1042 = some p → τ 1045 = some c → c = (cn9 (rc9 (m 170)) p 8 : Int)
/-- a row is as at the start at j, but where somebody is set ahead -/
def SeB (m : Mt) (W N P : Nat) (ix : Int) (k j : Nat) : Prop := ((j : Int) ≠ ix → m k j = cb9 m W N j) ∧ In9 (m k j) P
def CaP (m : Mt) (W N : Nat) (t9 : Int) (p i : Nat) : Prop := ∀ j, j < N → ∀ u, u < 20 → (bt (m 51 j) u = true ↔ (u < p ∨ (u = p ∧ j < i)) ∧ May m W t9 j u)
/-- making ready, the class -/
def Ma9 (m : Mt) (W N P : Nat) (ix k : Int) : Prop := ∃ k' : Nat, k = (k' : Int) ∧ ∀ j, j < k' → j < 8 → SeB m W N P ix 50 j ∧ m 51 j = 0
def MkC (m : Mt) (W N P : Nat) (ix : Int) (t9 : Int) (τ : Tf) : Prop :=
  (∀ k, τ 1050 = some k → Ma9 m W N P ix k) ∧
  (∀ k z, τ 1050 = some k → τ 1055 = some z → z = k ∧ ∀ k' : Nat, k = (k' : Int) → SeB m W N P ix 50 k') ∧
  (∀ p, τ 1051 = some p → (∃ p' : Nat, p = (p' : Int)) ∧ ∀ j, j < 8 → SeB m W N P ix 50 j) ∧
  (∀ p, τ 1051 = some p → τ 1052 = none → ∀ p' : Nat, p = (p' : Int) → CaP m W N t9 p' 0) ∧
  (∀ p i, τ 1051 = some p → τ 1052 = some i → ∃ i' : Nat, i = (i' : Int) ∧ ∀ p' : Nat, p = (p' : Int) → CaP m W N t9 p' i') ∧
  (∀ z, τ 1009 = some z → ∀ j, j < 8 → SeB m W N P ix 50 j) ∧
  (∀ z, τ 1053 = some z → ∀ j, j < N → ∀ u, u < P → (bt (m 51 j) u = true ↔ May m W t9 j u)) ∧
  ∀ z, τ 1019 = some z → ∀ j, j < 8 → In9 (m 50 j) P
/-- making ready, the reference -/
def MkM (m : Mt) (W N P : Nat) (ix : Int) (τ : Tf) : Prop :=
  (∀ k, τ 1080 = some k → ∃ k' : Nat, k = (k' : Int) ∧ ∀ j, j < k' → j < 8 → SeB m W N P ix 170 j) ∧
  (∀ z, τ 1081 = some z → ∀ j, j < 8 → SeB m W N P ix 170 j) ∧
  ∀ z, τ 1029 = some z → ∀ j, j < 8 → In9 (m 170 j) P ∧ (N ≤ j → m 170 j = -4)
def bL (v : Int) (j : Nat) : Bool := (Int64.ofInt v).toBitVec.getLsbD j
/-- the mask of the steps that are set from the start: 1027, 1028, 1056 -/
def Mk9 (q : Wp9) (τ : Tf) : Prop :=
  (∀ k, τ 1027 = some k → (∃ k' : Nat, k = (k' : Int) ∧ k' ≤ 8) ∧ (τ 1028 = none → k = 0)) ∧
  (∀ k v, τ 1027 = some k → τ 1028 = some v → ∀ j, j < 8 → (bL v j = true ↔ (j : Int) < k ∧ q.fx j)) ∧
  ∀ z, τ 1056 = some z → q.n = 0
/-- a level of the class: set from the start, or not; whom it has -/
def Lv1 (q : Wp9) (r : Nat → Int) (τ : Tf) (j a b : Nat) : Prop := (∀ v, τ a = some v → (1 ≤ v → q.fx j) ∧ (v ≤ 0 → ¬ q.fx j)) ∧ ∀ v, τ b = some v → r j = v ∧ (∀ i, τ 1010 = some i → (j : Int) < i) ∧ (∀ i, τ 1011 = some i → (j : Int) < i) ∧ ∀ i, τ 1013 = some i → (j : Int) < i
def Lev (q : Wp9) (r : Nat → Int) (τ : Tf) : Prop := (Lv1 q r τ 0 1060 1070 ∧ Lv1 q r τ 1 1061 1071 ∧ Lv1 q r τ 2 1062 1072 ∧ Lv1 q r τ 3 1063 1073) ∧ Lv1 q r τ 4 1064 1074 ∧ Lv1 q r τ 5 1065 1075 ∧ Lv1 q r τ 6 1066 1076 ∧ Lv1 q r τ 7 1067 1077
/-- together: 1017, 1018, 1038, 1039, 1058, 1059, 1082, 1026 -/
def Tog (q : Wp9) (c0 : Nat → Int) (ix pe : Int) (m : Mt) (τ : Tf) : Prop :=
  (∀ y, τ 1017 = some y → (y = 0 ∨ y = 1) ∧ (y = 1 ↔ q.T c0)) ∧
  (∀ y, τ 1038 = some y → (y = 0 ∨ y = 1) ∧ (y = 1 ↔ q.T c0)) ∧
  (∀ b, τ 1039 = some b → (b = 0 ∨ b = 1) ∧ ∀ i p : Nat, ix = (i : Int) → pe = (p : Int) → (b = 1 ↔ q.C i p)) ∧
  (∀ z, τ 1018 = some z → rc9 (m 50) = c0) ∧
  (∀ z, τ 1082 = some z → rc9 (m 170) = c0) ∧
  (∀ i, τ 1058 = some i → ∀ I : Nat, i = (I : Int) → m 170 I = -4) ∧
  (∀ y i p, τ 1059 = some y → τ 1023 = some i → τ 1024 = some p → (y = 0 ∨ y = 1) ∧ ∀ I : Nat, i = (I : Int) → (y = 1 ↔ q.T (up9 (rc9 (m 170)) I p))) ∧
  ∀ x, τ 1026 = some x → x ≤ (q.mo : Int)
/-- the work that is looked at -/
def QIs (τ : Tf) (m : Mt) (W N P : Nat) (ix pe : Int) (mo : Nat) (t9 : Int) : Prop := (τ 1000 = some (W : Int) ∧ τ 1001 = some (N : Int) ∧ τ 1002 = some (P : Int)) ∧ (τ 1003 = some ix ∧ τ 1004 = some pe ∧ τ 1005 = some (mo : Int) ∧ τ 1006 = some t9) ∧ (W < 4 ∧ N ≤ 8 ∧ P ≤ 20 ∧ m 42 W = (N : Int)) ∧ (ix = -1 ∨ (0 ≤ ix ∧ ix < (N : Int) ∧ 0 ≤ pe ∧ pe < (P : Int))) ∧ ((∀ j, j < N → In9 (m 44 (8 * W + j)) P) ∧ (P : Int) ≤ m 5 0) ∧ ∀ z, τ 1087 = some z → z = ((8 * W : Nat) : Int) + ix
def wQ (τ : Tf) (m : Mt) : Prop := ∀ w, τ 1000 = some w → ∃ (W N P : Nat) (ix pe : Int) (mo : Nat) (t9 : Int), QIs τ m W N P ix pe mo t9 ∧
  (MkC m W N P ix t9 τ ∧ MkM m W N P ix τ) ∧ (TiC m W τ ∧ TiM m W τ) ∧
  (Lok (Wq m W N P ix pe mo t9) (cu9 m W N ix pe) 1010 1011 1012 1013 1014 1016 0 (m 50) τ ∧ Lok (Wq m W N P ix pe mo t9) (cu9 m W N ix pe) 1020 1021 1022 1023 1024 1026 1 (m 170) τ) ∧
  Mk9 (Wq m W N P ix pe mo t9) τ ∧ Lev (Wq m W N P ix pe mo t9) (m 50) τ ∧ Tog (Wq m W N P ix pe mo t9) (cu9 m W N ix pe) ix pe m τ
/-- at rest: what is done, what is kept; 1085, 1086 a step that is new, 1087, 1088, 1083, 1084 open places -/
def Par (kc km a b c : Nat) (τ : Tf) (m : Mt) : Prop := (∀ w i : Nat, w < 4 → i < 8 → ((i : Int) < m 42 w → τ a ≠ some ((8 * w + i : Nat) : Int) → τ b ≠ some ((8 * w + i : Nat) : Int) → m kc (8 * w + i) = m km (8 * w + i)) ∧ (m 42 w ≤ (i : Int) → m kc (8 * w + i) = -4)) ∧ (∀ z, τ a = some z → ∀ j : Nat, z = (j : Int) → m kc j = -4) ∧ ∀ z y, τ b = some z → τ c = some y → ∀ j : Nat, z = (j : Int) → m kc j = y
def wP (τ : Tf) (m : Mt) : Prop := (Par 44 164 1085 1087 1088 τ m ∧ Par 49 165 1086 1083 1084 τ m) ∧ (∀ z, τ 1087 = some z → ∀ j : Nat, z = (j : Int) → m 164 j = -4) ∧ (∀ w : Nat, w < 4 → 0 ≤ m 42 w ∧ m 42 w ≤ 8) ∧ ∀ k : Nat, k < 32 → m 44 k = -4 ∨ (0 ≤ m 44 k ∧ m 44 k < m 5 0)
/-- tags from 1000 on, and 810 .. 835 -/
def hi9 (τ : Tf) : Tf := fun t => bif Nat.ble 1000 t || (Nat.ble 810 t && Nat.ble t 835) then τ t else none
def SX (τ : Tf) (m : Mt) : Prop := wB τ ∧ wP τ m ∧ wQ τ m
/-- the cells that it speaks of -/
def cl9 (k j : Nat) : Bool := ((Nat.ble 42 k && Nat.ble k 51) || (Nat.ble 114 k && Nat.ble k 119)) || ((Nat.beq k 164 || (Nat.beq k 165 || Nat.beq k 170)) || ((Nat.beq k 5 && Nat.beq j 0) || (Nat.beq k 110 && Nat.beq j 8)))
def hm9 (m : Mt) : Mt := fun k j => bif cl9 k j then m k j else 0
def SW (τ : Tf) (m : Mt) : Prop := SG τ m ∧ SX (hi9 τ) (hm9 m)
end
end
section
/-! ===== WORKS, 54: steps of the look ===== -/
theorem up9_self {c : Nat → Int} {i : Nat} {v : Int} (h : c i = v) : up9 c i v = c := funext fun j => by
  by_cases e : j = i
  · rw [e, up9_at, h]
  · exact up9_ne e
theorem rc9_lt {r : Nat → Int} {j : Nat} (h : j < 8) : rc9 r j = r j := if_pos h
theorem rc9_ge {r : Nat → Int} {j : Nat} (h : 8 ≤ j) : rc9 r j = -4 := if_neg (Nat.not_lt.mpr h)
/-- a row that differs at one place -/
theorem rc9_up {r r' : Nat → Int} {i : Nat} {v : Int} (hi : i < 8) (h : ∀ j, r' j = if j = i then v else r j) : rc9 r' = up9 (rc9 r) i v := funext fun j => by
  by_cases e : j = i
  · rw [e, up9_at, rc9_lt hi, h i, if_pos rfl]
  · rw [up9_ne e]
    by_cases g : j < 8
    · rw [rc9_lt g, rc9_lt g, h j, if_neg e]
    · rw [rc9_ge (Nat.le_of_not_lt g), rc9_ge (Nat.le_of_not_lt g)]
section W54
variable {q : Wp9} {c0 cur : Nat → Int} {i p tr : Nat}
theorem Cst.fix (h : Cst q c0 0 i 0 cur tr) (a : i < q.n) (b : q.fx i) : Cst q c0 0 (i + 1) 0 cur tr := by
  obtain ⟨_, h2, h3, h4, _, h6⟩ := h
  refine ⟨a, fun j => ⟨(h2 j).1, fun g => ⟨fun e => ?_, fun e => ((h2 j).2 g).2 (by omega)⟩⟩, h3, h4, fun e => absurd e (by decide), h6.st (n_fix a b)⟩
  by_cases k : j = i
  · exact absurd b (by rw [← k]; exact g)
  · exact ((h2 j).2 g).1 (by omega)
theorem Cst.over (h : Cst q c0 0 i 0 cur tr) (a : q.n ≤ i) (b : ¬ q.T cur) : Cst q c0 2 i 0 cur tr := by
  obtain ⟨h1, h2, h3, _, _, h6⟩ := h
  exact ⟨h1, h2, h3, fun e => absurd e (by decide), fun e => absurd e (by decide), h6.st (n_over a b)⟩
theorem Cst.scan (h : Cst q c0 0 i 0 cur tr) (a : i < q.n) (b : ¬ q.fx i) : Cst q c0 1 i 0 (up9 cur i (-4)) tr := by
  obtain ⟨h1, h2, h3, _, _, h6⟩ := h
  rw [up9_self (((h2 i).2 b).2 (Nat.le_refl i))]
  exact ⟨h1, h2, h3, fun e => absurd e (by decide), fun _ => ⟨b, a⟩, h6.st (n_scan a b)⟩
theorem Cst.none (h : Cst q c0 1 i p cur tr) (a : q.P ≤ p) : Cst q c0 2 i 0 cur tr := by
  obtain ⟨h1, h2, h3, _, _, h6⟩ := h
  exact ⟨h1, h2, h3, fun e => absurd e (by decide), fun e => absurd e (by decide), h6.st (n_none a)⟩
theorem Cst.skip (h : Cst q c0 1 i p cur tr) (a : p < q.P) (b : ¬ q.C i p) : Cst q c0 1 i (p + 1) cur tr := by
  obtain ⟨h1, h2, h3, _, h5, h6⟩ := h
  exact ⟨h1, h2, h3, fun e => absurd e (by decide), h5, h6.st (n_skip a b)⟩
theorem Cst.no (h : Cst q c0 1 i p cur tr) (a : p < q.P) (b : q.C i p) (d : tr < q.mo) (e : ¬ q.T (up9 cur i (p : Int))) : Cst q c0 1 i (p + 1) cur (tr + 1) := by
  obtain ⟨h1, h2, _, _, h5, h6⟩ := h
  exact ⟨h1, h2, d, fun e => absurd e (by decide), h5, h6.st (n_no a b d e)⟩
theorem Cst.yes (h : Cst q c0 1 i p cur tr) (a : p < q.P) (b : q.C i p) (d : tr < q.mo) (e : q.T (up9 cur i (p : Int))) : Cst q c0 0 (i + 1) 0 (up9 cur i (p : Int)) (tr + 1) := by
  obtain ⟨_, h2, _, _, h5, h6⟩ := h
  obtain ⟨f, g⟩ := h5 rfl
  refine ⟨g, fun j => ⟨fun k => ?_, fun k => ⟨fun l => ?_, fun l => ?_⟩⟩, d, fun _ _ => e, fun e => absurd e (by decide), h6.st (n_yes a b d e)⟩
  · rw [up9_ne (fun w => f (by rw [← w]; exact k))]
    exact (h2 j).1 k
  · by_cases w : j = i
    · rw [w, up9_at]
      exact ⟨by omega, by omega⟩
    · rw [up9_ne w]
      exact ((h2 j).2 k).1 (by omega)
  · rw [up9_ne (by omega)]
    exact ((h2 j).2 k).2 (by omega)
theorem Cst.backF (h : Cst q c0 2 (i + 1) 0 cur tr) (a : q.fx i) : Cst q c0 2 i 0 cur tr := by
  obtain ⟨h1, h2, h3, _, _, h6⟩ := h
  refine ⟨by omega, fun j => ⟨(h2 j).1, fun g => ⟨fun e => ((h2 j).2 g).1 (by omega), fun e => ?_⟩⟩, h3, fun e => absurd e (by decide), fun e => absurd e (by decide), h6.st (n_backF a)⟩
  by_cases k : j = i
  · exact absurd a (by rw [← k]; exact g)
  · exact ((h2 j).2 g).2 (by omega)
theorem Cst.backS (h : Cst q c0 2 (i + 1) 0 cur tr) (a : ¬ q.fx i) (b : cur i + 1 = (p : Int)) : Cst q c0 1 i p (up9 cur i (-4)) tr := by
  obtain ⟨h1, h2, h3, _, _, h6⟩ := h
  refine ⟨by omega, fun j => ⟨fun k => ?_, fun k => ⟨fun l => ?_, fun l => ?_⟩⟩, h3, fun e => absurd e (by decide), fun _ => ⟨a, by omega⟩, h6.st (n_backS a b)⟩
  · rw [up9_ne (fun w => a (by rw [← w]; exact k))]
    exact (h2 j).1 k
  · rw [up9_ne (by omega)]
    exact ((h2 j).2 k).1 (by omega)
  · by_cases w : j = i
    · rw [w, up9_at]
    · rw [up9_ne w]
      exact ((h2 j).2 k).2 (by omega)
/-- at the start -/
theorem Cst.go (h0 : ∀ j, q.fx j ↔ c0 j ≠ -4) (e : cur = c0) : Cst q c0 0 0 0 cur 0 := by
  subst e
  exact ⟨Nat.zero_le _, fun j => ⟨fun _ => rfl, fun g => ⟨fun l => absurd l (Nat.not_lt_zero j), fun _ => by
    by_cases w : cur j = -4
    · exact w
    · exact absurd ((h0 j).mpr w) g⟩⟩, Nat.zero_le _, fun _ h => h, fun e => absurd e (by decide), Sam.rf⟩
/-- what the level i has -/
theorem Cst.at_fx {md : Nat} (h : Cst q c0 md i p cur tr) (h0 : ∀ j, q.fx j ↔ c0 j ≠ -4) (hm : md = 0) : q.fx i ↔ cur i ≠ -4 := by
  obtain ⟨_, h2, _⟩ := h
  constructor
  · intro g
    rw [(h2 i).1 g]
    exact (h0 i).mp g
  · intro g
    by_cases w : q.fx i
    · exact w
    · exact absurd (((h2 i).2 w).2 (Nat.le_refl i)) g
theorem Cst.back_at (h : Cst q c0 2 (i + 1) 0 cur tr) (a : ¬ q.fx i) : 0 ≤ cur i ∧ cur i < (q.P : Int) := ((h.2.1 i).2 a).1 (Nat.lt_succ_self i)
end W54
/-! counts and ties -/
theorem cn9_eq {c c' : Nat → Int} {v : Int} : ∀ {n : Nat}, (∀ j, j < n → c j = c' j) → cn9 c v n = cn9 c' v n
  | 0, _ => rfl
  | n + 1, h => by
    show cn9 c v n + (if c n = v then 1 else 0) = cn9 c' v n + (if c' n = v then 1 else 0)
    rw [cn9_eq (fun j hj => h j (Nat.lt_succ_of_lt hj)), h n (Nat.lt_succ_self n)]
theorem cn9_le {c : Nat → Int} {v : Int} : ∀ {n : Nat}, cn9 c v n ≤ n
  | 0 => Nat.le_refl _
  | n + 1 => by
    have := cn9_le (c := c) (v := v) (n := n)
    show cn9 c v n + (if c n = v then 1 else 0) ≤ n + 1
    split <;> omega
/-- fewer are set: no more of anybody -/
theorem cn9_sub {c c' : Nat → Int} {v : Int} (hv : v ≠ -4) : ∀ {n : Nat}, (∀ j, j < n → c' j = c j ∨ c' j = -4) → cn9 c' v n ≤ cn9 c v n
  | 0, _ => Nat.le_refl _
  | n + 1, h => by
    have ih := cn9_sub hv (n := n) (fun j hj => h j (Nat.lt_succ_of_lt hj))
    show cn9 c' v n + (if c' n = v then 1 else 0) ≤ cn9 c v n + (if c n = v then 1 else 0)
    rcases h n (Nat.lt_succ_self n) with e | e
    · rw [e]; omega
    · rw [if_neg (by rw [e]; exact fun w => hv w.symm)]; omega
/-- somebody who has a step is there -/
theorem cn9_pos {c : Nat → Int} {v : Int} : ∀ {n : Nat}, 0 < cn9 c v n → ∃ j, j < n ∧ c j = v
  | 0, h => absurd h (Nat.lt_irrefl _)
  | n + 1, h => by
    have h : 0 < cn9 c v n + (if c n = v then 1 else 0) := h
    by_cases e : c n = v
    · exact ⟨n, Nat.lt_succ_self n, e⟩
    · rw [if_neg e] at h
      obtain ⟨j, a, b⟩ := cn9_pos (n := n) (by omega)
      exact ⟨j, Nat.lt_succ_of_lt a, b⟩
theorem cn9_out {c : Nat → Int} {v : Int} {n k : Nat} (h : ∀ j, n ≤ j → j < k → c j ≠ v) (hk : n ≤ k) : cn9 c v k = cn9 c v n := by
  induction k with
  | zero => rw [Nat.le_zero.mp hk]
  | succ k ih =>
    by_cases e : n = k + 1
    · rw [e]
    · show cn9 c v k + (if c k = v then 1 else 0) = _
      rw [if_neg (h k (by omega) (Nat.lt_succ_self k)), Nat.add_zero]
      exact ih (fun j a b => h j a (Nat.lt_succ_of_lt b)) (by omega)
/-- ties that hold of more hold of less -/
theorem Tis.less {m : Mt} {W : Nat} {c c' : Nat → Int} (h : Tis m W c) (e : ∀ j, c' j = c j ∨ c' j = -4) : Tis m W c' := fun t ht => by
  obtain ⟨h1, h2⟩ := h t ht
  refine ⟨fun k v hv => ?_, fun k a b ea eb => ?_⟩
  · have := h1 k v hv
    have := cn9_sub (c := c) (c' := c') hv (n := 8) (fun j _ => e j)
    omega
  · rcases e a with ea' | ea'
    · rcases e b with eb' | eb'
      · rw [ea', eb']; exact h2 k a b ea eb
      · exact Or.inr (Or.inl eb')
    · exact Or.inl ea'
end
section
noncomputable section
/-! ===== WORKS, 55: what groups' rules do to works ===== -/
def isT9 (t : Nat) : Bool := Nat.ble 1000 t || (Nat.ble 810 t && Nat.ble t 835)
theorem hi9_set {t : Nat} {x : Option Int} {τ : Tf} (h : isT9 t = false) : hi9 (set1 t x τ) = hi9 τ := funext fun u => by
  show (bif isT9 u then set1 t x τ u else none) = bif isT9 u then τ u else none
  cases hu : isT9 u with
  | false => rfl
  | true =>
    have : Nat.beq u t = false := by
      cases q : Nat.beq u t with
      | false => rfl
      | true => rw [Nat.eq_of_beq_eq_true q, h] at hu; cases hu
    show (bif Nat.beq u t then x else τ u) = τ u
    rw [this]; rfl
theorem hi9_up {g : Nat → Int} : ∀ {l : List (Nat × Option (Nat × Int))} {τ : Tf}, (l.all fun e => !(isT9 e.1)) = true → hi9 (upT g l τ) = hi9 τ
  | [], _, _ => rfl
  | (t, none) :: r, τ, h => by
    rw [List.all_cons, Bool.and_eq_true] at h
    have ht : isT9 t = false := by
      cases q : isT9 t with
      | false => rfl
      | true => have := h.1; rw [show isT9 (t, (none : Option (Nat × Int))).1 = true from q] at this; cases this
    show hi9 (upT g r (set1 t none τ)) = _
    rw [hi9_up h.2, hi9_set ht]
  | (t, some (i, o)) :: r, τ, h => by
    rw [List.all_cons, Bool.and_eq_true] at h
    have ht : isT9 t = false := by
      cases q : isT9 t with
      | false => rfl
      | true => have := h.1; rw [show isT9 (t, some (i, o)).1 = true from q] at this; cases this
    show hi9 (upT g r (set1 t (some (g i + o)) τ)) = _
    rw [hi9_up h.2, hi9_set ht]
theorem hm9_wr {m : Mt} {k j : Nat} {x : Int} (h : cl9 k j = false) : hm9 (wrM m k j x) = hm9 m := funext fun k' => funext fun j' => by
  show (bif cl9 k' j' then wrM m k j x k' j' else 0) = bif cl9 k' j' then m k' j' else 0
  cases hu : cl9 k' j' with
  | false => rfl
  | true =>
    have : (Nat.beq k' k && Nat.beq j' j) = false := by
      cases q : Nat.beq k' k && Nat.beq j' j with
      | false => rfl
      | true =>
        rw [Bool.and_eq_true] at q
        rw [Nat.eq_of_beq_eq_true q.1, Nat.eq_of_beq_eq_true q.2, h] at hu
        cases hu
    show (bif Nat.beq k' k && Nat.beq j' j then x else m k' j') = m k' j'
    rw [this]; rfl
def frsT (f : Option (Nat × (Int × Int))) : Bool := match f with
  | none => true
  | some e => !(isT9 e.1)
theorem RuOk.lift {R : Ru} (h : RuOk SG R) (hu : (R.upd.all fun e => !(isT9 e.1)) = true) (hf : frsT R.frs = true) : RuOk SW R := by
  intro τ m g hi hc ha hS
  obtain ⟨r1, r2, r3, r4⟩ := h τ m g hi hc ha hS.1
  refine ⟨r1, r2, r3, ?_⟩
  have e : hi9 (upT g R.upd τ) = hi9 τ := hi9_up hu
  cases hq : R.frs with
  | none =>
    rw [hq] at r4
    exact ⟨r4, by rw [e]; exact hS.2⟩
  | some f =>
    obtain ⟨t, lo, hi'⟩ := f
    rw [hq] at r4 hf
    obtain ⟨x, a, b, c⟩ := r4
    have ht : isT9 t = false := by
      cases q : isT9 t with
      | false => rfl
      | true => have hf : (!(isT9 t)) = true := hf; rw [q] at hf; cases hf
    exact ⟨x, a, b, c, by rw [hi9_set ht, e]; exact hS.2⟩
/-- a write that it doesn't speak of -/
theorem WrOk.lift {k : Nat} {R : Ru} (h : WrOk SG k R) (hu : (R.upd.all fun e => !(isT9 e.1)) = true) (hk : ∀ j, cl9 k j = false) : WrOk SW k R := by
  intro τ m g j x hi hc ha hS
  exact ⟨h τ m g j x hi hc ha hS.1, by rw [hi9_up hu, hm9_wr (hk j)]; exact hS.2⟩
/-- a write to rows that it speaks of only while a work is looked at -/
theorem SX.off {τ : Tf} {m m' : Mt} (h : SX τ m) (h0 : τ 1000 = none) (h5 : m' 5 0 = m 5 0) (hr : ∀ k, k = 42 ∨ k = 44 ∨ k = 49 ∨ k = 164 ∨ k = 165 → m' k = m k) : SX τ m' := by
  obtain ⟨a, ⟨⟨b1, b2⟩, b3, b4, b5⟩, _⟩ := h
  have e42 := hr 42 (by omega)
  have e44 := hr 44 (by omega)
  have e49 := hr 49 (by omega)
  have e164 := hr 164 (by omega)
  have e165 := hr 165 (by omega)
  refine ⟨a, ⟨⟨?_, ?_⟩, ?_, ?_, ?_⟩, fun w q => no9 h0 q⟩
  · unfold Par; rw [e42, e44, e164]; exact b1
  · unfold Par; rw [e42, e49, e165]; exact b2
  · rw [e164]; exact b3
  · rw [e42]; exact b4
  · rw [e44, h5]; exact b5
end
end
