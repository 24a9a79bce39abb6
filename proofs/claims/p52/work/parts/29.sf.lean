noncomputable section
/-! ===== RULES, 42: hints and writes as data ===== -/
/-- where a number comes from: 0 t: a tag; 1 i: a local; 3 n: the n-th of the stack; 4 .. c: a constant; 5 k j: a field; 6 k i: the row k at the i-th number; 7: the place that is written; 8: what is written; 9 k i m c: the row k at m times the i-th number and c; 10 i c: the i-th number and c -/
abbrev Ti : Type := Nat × (Nat × (Nat × (Int × Int)))
/-- inputs; tags that are not there; conditions (a sum is at most c); what is done: a contradiction; facts; rows that are known; tags; a new number -/
abbrev Ru : Type := List Ti × (List Nat × (List (List (Nat × Int) × Int) × (Bool × (List (List (Nat × Int) × Int) × (List (Nat × (Nat × Nat)) × (List (Nat × Option (Nat × Int)) × Option (Nat × (Int × Int))))))))
abbrev Ru.inp (r : Ru) : List Ti := r.1
abbrev Ru.abs (r : Ru) : List Nat := r.2.1
abbrev Ru.cnd (r : Ru) : List (List (Nat × Int) × Int) := r.2.2.1
abbrev Ru.bad (r : Ru) : Bool := r.2.2.2.1
abbrev Ru.fac (r : Ru) : List (List (Nat × Int) × Int) := r.2.2.2.2.1
abbrev Ru.mem (r : Ru) : List (Nat × (Nat × Nat)) := r.2.2.2.2.2.1
abbrev Ru.upd (r : Ru) : List (Nat × Option (Nat × Int)) := r.2.2.2.2.2.2.1
abbrev Ru.frs (r : Ru) : Option (Nat × (Int × Int)) := r.2.2.2.2.2.2.2
/-- tags in order -/
def hins {α : Type} (t : Nat) (a : α) : List (Nat × α) → List (Nat × α)
  | [] => [(t, a)]
  | e :: r => bif Nat.beq e.1 t then (t, a) :: r else bif Nat.blt t e.1 then (t, a) :: e :: r else e :: hins t a r
theorem lk_hins {α : Type} {t u : Nat} {a : α} : ∀ {l : List (Nat × α)}, lk (hins t a l) u = if u = t then some a else lk l u
  | [] => by
    show lk [(t, a)] u = _
    rw [lk_cons]
  | e :: r => by
    have ih := lk_hins (t := t) (u := u) (a := a) (l := r)
    unfold hins
    cases h1 : Nat.beq e.1 t with
    | true =>
      simp only [cond_true]
      have he := Nat.eq_of_beq_eq_true h1
      rw [lk_cons]
      by_cases hu : u = t
      · rw [if_pos hu, if_pos hu]
      · rw [if_neg hu, if_neg hu]
        obtain ⟨e1, e2⟩ := e
        dsimp only at he
        rw [lk_cons, if_neg (by rw [he]; exact hu)]
    | false =>
      simp only [cond_false]
      cases h2 : Nat.blt t e.1 with
      | true => simp only [cond_true]; rw [lk_cons]
      | false =>
        simp only [cond_false]
        obtain ⟨e1, e2⟩ := e
        dsimp only at h1
        rw [lk_cons, lk_cons, ih]
        by_cases hu : u = e1
        · have : u ≠ t := fun q => by
            have : e1 = t := hu.symm.trans q
            rw [this, Nat.beq_refl] at h1
            cases h1
          rw [if_pos hu, if_neg this, if_pos hu]
        · rw [if_neg hu, if_neg hu]
theorem Hl.ins {ρ : List Int} {t : Nat} {a : AV} {x : Int} (hx : ev ρ a = some x) : ∀ {l : List (Nat × AV)} {H : List (Nat × Int)}, Hl ρ l H → Hl ρ (hins t a l) (hins t x H)
  | [], [], _ => ⟨⟨rfl, hx⟩, trivial⟩
  | e :: r, h :: q, ⟨h1, h2⟩ => by
    unfold hins
    rw [← h1.1]
    cases Nat.beq e.1 t with
    | true => exact ⟨⟨rfl, hx⟩, h2⟩
    | false =>
      simp only [cond_false]
      cases Nat.blt t e.1 with
      | true => exact ⟨⟨rfl, hx⟩, h1, h2⟩
      | false => exact ⟨h1, Hl.ins hx h2⟩
  | [], _ :: _, q => q.elim
  | _ :: _, [], q => q.elim
/-! what a rule speaks of -/
abbrev Tf : Type := Nat → Option Int
abbrev Mt : Type := Nat → Nat → Int
def rsT (lo hi : Nat) (H : List (Nat × Int)) : Tf := fun t => bif Nat.ble lo t && Nat.ble t hi then lk H t else none
def rsM (RW : List Nat) (σ : zS) : Mt := fun k j => bif RW.any (Nat.beq k) then (σ.1 k j).toInt else 0
def set1 (t : Nat) (x : Option Int) (τ : Tf) : Tf := fun u => bif Nat.beq u t then x else τ u
def wrM (m : Mt) (k j : Nat) (x : Int) : Mt := fun k' j' => bif Nat.beq k' k && Nat.beq j' j then x else m k' j'
def In1 (τ : Tf) (m : Mt) (p v : Int) (g : Nat → Int) (t : Ti) (x : Int) : Prop := match t.1 with
  | 0 => τ t.2.1 = some x
  | 4 => x = t.2.2.2.1
  | 5 => x = m t.2.1 t.2.2.1
  | 6 => ∃ j : Nat, g t.2.2.1 = (j : Int) ∧ x = m t.2.1 j
  | 7 => x = p
  | 8 => x = v
  | 9 => ∃ j : Nat, t.2.2.2.1 * g t.2.2.1 + t.2.2.2.2 = (j : Int) ∧ x = m t.2.1 j
  | 10 => x = g t.2.2.1 + t.2.2.2.1
  | _ => True
def Ins (τ : Tf) (m : Mt) (p v : Int) (g : Nat → Int) : List Ti → Nat → Prop
  | [], _ => True
  | t :: r, i => In1 τ m p v g t (g i) ∧ Ins τ m p v g r (i + 1)
def dot (g : Nat → Int) : List (Nat × Int) → Int
  | [] => 0
  | e :: r => e.2 * g e.1 + dot g r
def Cds (g : Nat → Int) : List (List (Nat × Int) × Int) → Prop
  | [] => True
  | c :: r => dot g c.1 ≤ c.2 ∧ Cds g r
def Abt (τ : Tf) : List Nat → Prop
  | [] => True
  | t :: r => τ t = none ∧ Abt τ r
def Mms (m : Mt) (g : Nat → Int) : List (Nat × (Nat × Nat)) → Prop
  | [] => True
  | e :: r => (∃ j : Nat, g e.2.1 = (j : Int) ∧ g e.2.2 = m e.1 j) ∧ Mms m g r
def upT (g : Nat → Int) : List (Nat × Option (Nat × Int)) → Tf → Tf
  | [], τ => τ
  | (t, none) :: r, τ => upT g r (set1 t none τ)
  | (t, some (i, o)) :: r, τ => upT g r (set1 t (some (g i + o)) τ)
abbrev St9 : Type := Tf → Mt → Prop
/-- a rule is right -/
def RuOk (S : St9) (R : Ru) : Prop := ∀ (τ : Tf) (m : Mt) (g : Nat → Int), Ins τ m 0 0 g R.inp 0 → Cds g R.cnd → Abt τ R.abs → S τ m → R.bad = false ∧ Cds g R.fac ∧ Mms m g R.mem ∧ (match R.frs with
  | none => S (upT g R.upd τ) m
  | some (t, (lo, hi)) => ∃ x, lo ≤ x ∧ x ≤ hi ∧ S (set1 t (some x) (upT g R.upd τ)) m)
/-- what a write does -/
def WrOk (S : St9) (k : Nat) (R : Ru) : Prop := ∀ (τ : Tf) (m : Mt) (g : Nat → Int) (j : Nat) (x : Int), Ins τ m (j : Int) x g R.inp 0 → Cds g R.cnd → Abt τ R.abs → S τ m → S (upT g R.upd τ) (wrM m k j x)
/-! how it is done -/
def evj (s : Sy) (a : AV) : Bool := match a with
  | .inl (id, _) => Nat.blt id s.nx
  | .inr (.inl _) => true
  | _ => false
theorem evj_ok {J : Jt} {s : Sy} {ρ : List Int} {σ : zS} {a : AV} (ho : Ok J s ρ σ) (h : evj s a = true) : ∃ z, ev ρ a = some z := by
  rcases a with ⟨id, o⟩ | n | ⟨_, _⟩ | _ | _ | ⟨_, _⟩
  · have h1 : id < ρ.length := by rw [ho.len]; exact Nat.le_of_ble_eq_true h
    refine ⟨ρ[id] + o, ?_⟩
    simp only [ev, List.getElem?_eq_getElem h1]
  · exact ⟨n, rfl⟩
  · cases h
  · cases h
  · cases h
  · cases h
def kevj (s : Sy) (o : Option AV) : Option AV := match o with
  | some a => bif evj s a then some a else none
  | none => none
/-- what is known of the row k at m times a and c -/
def fnd (s : Sy) (k : Nat) (a : AV) (m c : Int) : List (Nat × (AV × AV)) → Option AV
  | [] => none
  | e :: r => bif (Nat.beq e.1 k && e.2.2.isI) && (sle s [(e.2.1, 1), (a, -m)] c && sle s [(e.2.1, -1), (a, m)] (-c)) then some e.2.2 else fnd s k a m c r
abbrev Xe : Type := List (Nat × AV) × (List AV × (AV × AV))
def inRW (RW : List Nat) (k : Nat) (o : Option AV) : Option AV := bif RW.any (Nat.beq k) then o else none
def fldI (s : Sy) (k j : Nat) : Option AV := match mget s.me k (.c (j : Int)) with
  | some w => bif w.isI then some w else none
  | none => none
def inp1 (RW : List Nat) (X : Xe) (s : Sy) (hl : List (Nat × AV)) (as : List AV) (t : Ti) : Option AV := match t.1 with
  | 0 => lk hl t.2.1
  | 1 => kevj s (lget X.1 t.2.1)
  | 3 => kevj s X.2.1[t.2.1]?
  | 4 => some (.c t.2.2.2.1)
  | 5 => inRW RW t.2.1 (fldI s t.2.1 t.2.2.1)
  | 6 => match as[t.2.2.1]? with
    | some r => inRW RW t.2.1 (oth s t.2.1 r)
    | none => none
  | 7 => some X.2.2.1
  | 8 => some X.2.2.2
  | 9 => match as[t.2.2.1]? with
    | some r => inRW RW t.2.1 (fnd s t.2.1 r t.2.2.2.1 t.2.2.2.2 s.me)
    | none => none
  | 10 => match as[t.2.2.1]? with
    | some r => some (shA r t.2.2.2.1)
    | none => none
  | _ => none
def inps (RW : List Nat) (X : Xe) (s : Sy) (hl : List (Nat × AV)) : List Ti → List AV → Option (List AV)
  | [], as => some as
  | t :: r, as => match inp1 RW X s hl as t with
    | some a => inps RW X s hl r (as ++ [a])
    | none => none
def nth (as : List AV) (i : Nat) : AV := (as[i]?).getD (.c 0)
def wts (as : List AV) (c : List (Nat × Int)) : List (AV × Int) := c.map fun e => (nth as e.1, e.2)
def cdsA (s : Sy) (as : List AV) (cs : List (List (Nat × Int) × Int)) : Bool := cs.all fun c => sle s (wts as c.1) c.2
def absA (hl : List (Nat × AV)) (ts : List Nat) : Bool := ts.all fun t => !(isS (lk hl t))
def updA (as : List AV) : List (Nat × Option (Nat × Int)) → List (Nat × AV) → List (Nat × AV)
  | [], hl => hl
  | (t, none) :: r, hl => updA as r (hdel t hl)
  | (t, some (i, o)) :: r, hl => updA as r (hins t (shA (nth as i) o) hl)
def updH (g : Nat → Int) : List (Nat × Option (Nat × Int)) → List (Nat × Int) → List (Nat × Int)
  | [], H => H
  | (t, none) :: r, H => updH g r (hdel t H)
  | (t, some (i, o)) :: r, H => updH g r (hins t (g i + o) H)
def facA (as : List AV) : List (List (Nat × Int) × Int) → Sy → Sy
  | [], s => s
  | c :: r, s => facA as r (adS s (wts as c.1) c.2)
def memA (as : List AV) : List (Nat × (Nat × Nat)) → Sy → Sy
  | [], s => s
  | e :: r, s => memA as r (bif (nth as e.2.2).isI && (eqA s (nth as e.2.1) (pl s (nth as e.2.1)) && !(isS (mget s.me e.1 (pl s (nth as e.2.1))))) then s.add e.1 (pl s (nth as e.2.1)) (nth as e.2.2) else s)
def inTg (lo hi t : Nat) : Bool := Nat.ble lo t && Nat.ble t hi
def tgsOk (lo hi : Nat) (RW : List Nat) (R : Ru) : Bool := ((R.upd.all fun u => inTg lo hi u.1) && (match R.frs with
  | some (t, _) => inTg lo hi t
  | none => true)) && ((R.inp.all fun t => !(Nat.beq t.1 0) || inTg lo hi t.2.1) && R.mem.all fun e => RW.any (Nat.beq e.1))
def ruA (RW : List Nat) (R : Ru) (X : Xe) (s : Sy) : Option Sy := match inps RW X s s.hl R.inp [] with
  | none => some s
  | some as => bif absA s.hl R.abs && cdsA s as R.cnd then (bif R.bad then none else
      let s1 := memA as R.mem (facA as R.fac s)
      match R.frs with
      | none => some (s1.seth (updA as R.upd s.hl))
      | some (t, (l, h)) => some ((s1.new [(l, h)]).seth (hins t (.i s1.nx 0) (updA as R.upd s.hl)))) else some s
section R42
variable {J : Jt} {s : Sy} {ρ : List Int} {σ : zS}
def gv (ρ : List Int) (as : List AV) : Nat → Int := fun i => (ev ρ (nth as i)).getD 0
def Evs (ρ : List Int) (as : List AV) : Prop := ∀ a ∈ as, ∃ z, ev ρ a = some z
theorem nth_ev {as : List AV} (h : Evs ρ as) (i : Nat) : ev ρ (nth as i) = some (gv ρ as i) := by
  unfold gv nth
  cases q : as[i]? with
  | none => rfl
  | some a =>
    obtain ⟨z, hz⟩ := h a (List.mem_of_getElem? q)
    show ev ρ a = some ((ev ρ a).getD 0)
    rw [hz]; rfl
theorem wts_ev {as : List AV} (h : Evs ρ as) {c : List (Nat × Int)} : ∀ e ∈ wts as c, ∃ z, ev ρ e.1 = some z := fun e he => by
  obtain ⟨q, _, rfl⟩ := List.mem_map.mp he
  exact ⟨_, nth_ev h q.1⟩
theorem wts_dot {as : List AV} (h : Evs ρ as) : ∀ {c : List (Nat × Int)}, smv ρ (wts as c) = dot (gv ρ as) c
  | [] => rfl
  | e :: r => by
    show e.2 * (ev ρ (nth as e.1)).getD 0 + smv ρ (wts as r) = e.2 * gv ρ as e.1 + dot (gv ρ as) r
    rw [wts_dot h]; rfl
theorem cdsA_ok (ho : Ok J s ρ σ) {as : List AV} (h : Evs ρ as) : ∀ {cs : List (List (Nat × Int) × Int)}, cdsA s as cs = true → Cds (gv ρ as) cs
  | [], _ => trivial
  | c :: r, hc => by
    have hc : (sle s (wts as c.1) c.2 && cdsA s as r) = true := hc
    rw [Bool.and_eq_true] at hc
    have := sle_ok ho hc.1 (wts_ev h)
    rw [wts_dot h] at this
    exact ⟨this, cdsA_ok ho h hc.2⟩
theorem kevj_ok (ho : Ok J s ρ σ) {o : Option AV} {a : AV} (h : kevj s o = some a) : ∃ z, ev ρ a = some z := by
  unfold kevj at h
  split at h
  · rename_i b
    cases hb : evj s b with
    | false => rw [hb] at h; cases h
    | true => rw [hb] at h; cases Option.some.inj h; exact evj_ok ho hb
  · cases h
theorem inRW_ok {RW : List Nat} {k : Nat} {o : Option AV} {a : AV} (h : inRW RW k o = some a) : RW.any (Nat.beq k) = true ∧ o = some a := by
  unfold inRW at h
  cases hb : RW.any (Nat.beq k) with
  | false => rw [hb] at h; cases h
  | true => rw [hb] at h; exact ⟨rfl, h⟩
theorem oth_ok' (ho : Ok J s ρ σ) {k : Nat} {r w : AV} {x : Int} (h : oth s k r = some w) (hr : ev ρ r = some x) : ∃ j : Nat, x = (j : Int) ∧ w.isI = true ∧ ev ρ w = some (σ.1 k j).toInt := by
  have h0 := h
  unfold oth at h
  split at h
  · rename_i w' hm
    cases hc : w'.isI && eqA s r (pl s r) with
    | false => rw [hc] at h; cases h
    | true =>
      rw [Bool.and_eq_true] at hc
      obtain ⟨j', q1, q2⟩ := ho.me _ (mget_mem hm)
      have e := eqA_ok ho hc.2 hr q1
      obtain ⟨g1, g2⟩ := oth_ok ho h0 (j := j') (by rw [hr, e])
      exact ⟨j', e, g1, g2⟩
  · cases h
theorem fnd_ok (ho : Ok J s ρ σ) {k : Nat} {a w : AV} {m c x : Int} (hx : ev ρ a = some x) : ∀ {l : List (Nat × (AV × AV))}, (∀ e ∈ l, Mf ρ σ e) → fnd s k a m c l = some w → ∃ j : Nat, m * x + c = (j : Int) ∧ ev ρ w = some (σ.1 k j).toInt
  | [], _, h => by cases h
  | e :: r, hl, h => by
    unfold fnd at h
    cases hc : (Nat.beq e.1 k && e.2.2.isI) && (sle s [(e.2.1, 1), (a, -m)] c && sle s [(e.2.1, -1), (a, m)] (-c)) with
    | false => rw [hc] at h; exact fnd_ok ho hx (fun e' q => hl e' (List.mem_cons_of_mem _ q)) h
    | true =>
      rw [hc] at h
      cases Option.some.inj h
      simp only [Bool.and_eq_true] at hc
      obtain ⟨⟨c1, c2⟩, c3, c4⟩ := hc
      obtain ⟨j, j1, j2⟩ := hl e (List.mem_cons_self ..)
      have g1 := sle_ok ho c3 (evs2 j1 hx)
      have g2 := sle_ok ho c4 (evs2 j1 hx)
      rw [smv2 j1 hx] at g1 g2
      rw [Int.neg_mul] at g1
      refine ⟨j, by omega, ?_⟩
      rw [← Nat.eq_of_beq_eq_true c1]
      rcases j2 with ⟨_, j2⟩ | ⟨q, _⟩
      · exact j2
      · exact (isI_L c2 q).elim
theorem inp1_ok {RW : List Nat} {X : Xe} {hl : List (Nat × AV)} {H : List (Nat × Int)} {lo hi : Nat} {p v : Int} (ho : Ok J s ρ σ) (hh : Hl ρ hl H) (hp : ev ρ X.2.2.1 = some p) (hv : ev ρ X.2.2.2 = some v) {as : List AV} (ha : Evs ρ as) {t : Ti} {a : AV} (ht : (!(Nat.beq t.1 0) || inTg lo hi t.2.1) = true) (h : inp1 RW X s hl as t = some a) {g : Nat → Int} (hg : ∀ i, i < as.length → g i = gv ρ as i) : ∃ z, ev ρ a = some z ∧ In1 (rsT lo hi H) (rsM RW σ) p v g t z := by
  have mm : ∀ {k j : Nat}, RW.any (Nat.beq k) = true → rsM RW σ k j = (σ.1 k j).toInt := fun h => by unfold rsM; rw [h]; rfl
  obtain ⟨c, t1, t2, t3, t4⟩ := t
  unfold inp1 at h
  dsimp only at h
  split at h
  · rcases hh.lkp (t := t1) with ⟨q1, _⟩ | ⟨a', z, q1, q2, q3⟩
    · rw [q1] at h; cases h
    · rw [q1] at h
      cases Option.some.inj h
      have ht : inTg lo hi t1 = true := ht
      refine ⟨z, q3, ?_⟩
      show (bif Nat.ble lo t1 && Nat.ble t1 hi then lk H t1 else none) = some z
      have ht : (Nat.ble lo t1 && Nat.ble t1 hi) = true := ht
      rw [ht]
      exact q2
  · obtain ⟨z, hz⟩ := kevj_ok ho h; exact ⟨z, hz, trivial⟩
  · obtain ⟨z, hz⟩ := kevj_ok ho h; exact ⟨z, hz, trivial⟩
  · cases Option.some.inj h; exact ⟨t3, rfl, rfl⟩
  · obtain ⟨r1, r2⟩ := inRW_ok h
    unfold fldI at r2
    split at r2
    · rename_i w hm
      cases hi : w.isI with
      | false => rw [hi] at r2; cases r2
      | true =>
        rw [hi] at r2
        cases Option.some.inj r2
        exact ⟨_, me_at ho hm rfl hi, (mm r1).symm⟩
    · cases r2
  · split at h
    · rename_i r hr
      obtain ⟨r1, r2⟩ := inRW_ok h
      have hl9 := (List.getElem?_eq_some_iff.mp hr).1
      have e9 : ev ρ r = some (gv ρ as t2) := by
        have := nth_ev ha t2
        unfold nth at this
        rw [hr] at this
        exact this
      obtain ⟨j, q1, _, q3⟩ := oth_ok' ho r2 e9
      exact ⟨_, q3, j, (hg t2 hl9).trans q1, (mm r1).symm⟩
    · cases h
  · cases Option.some.inj h; exact ⟨p, hp, rfl⟩
  · cases Option.some.inj h; exact ⟨v, hv, rfl⟩
  · split at h
    · rename_i r hr
      obtain ⟨r1, r2⟩ := inRW_ok h
      have hl9 := (List.getElem?_eq_some_iff.mp hr).1
      have e9 : ev ρ r = some (gv ρ as t2) := by
        have := nth_ev ha t2
        unfold nth at this
        rw [hr] at this
        exact this
      obtain ⟨j, q1, q3⟩ := fnd_ok ho e9 ho.me r2
      exact ⟨_, q3, j, by show t3 * g t2 + t4 = (j : Int); rw [hg t2 hl9]; exact q1, (mm r1).symm⟩
    · cases h
  · split at h
    · rename_i r hr
      cases Option.some.inj h
      have hl9 := (List.getElem?_eq_some_iff.mp hr).1
      have e9 : ev ρ r = some (gv ρ as t2) := by
        have := nth_ev ha t2
        unfold nth at this
        rw [hr] at this
        exact this
      exact ⟨_, shA_ev e9, by show gv ρ as t2 + t3 = g t2 + t3; rw [hg t2 hl9]⟩
    · cases h
  · cases h
theorem gv_app {as : List AV} {a : AV} {i : Nat} (h : i < as.length) : gv ρ (as ++ [a]) i = gv ρ as i := by
  unfold gv nth
  rw [List.getElem?_append_left h]
theorem gv_new {as : List AV} {a : AV} {z : Int} (h : ev ρ a = some z) : gv ρ (as ++ [a]) as.length = z := by
  unfold gv nth
  rw [List.getElem?_append_right (Nat.le_refl _), Nat.sub_self]
  show (ev ρ a).getD 0 = z
  rw [h]; rfl
theorem inps_len {RW : List Nat} {X : Xe} {hl : List (Nat × AV)} : ∀ {l : List Ti} {as bs : List AV}, inps RW X s hl l as = some bs → ∃ t, bs = as ++ t
  | [], as, bs, h => ⟨[], by cases Option.some.inj h; simp⟩
  | t :: r, as, bs, h => by
    unfold inps at h
    split at h
    · obtain ⟨u, hu⟩ := inps_len h
      exact ⟨_, hu.trans (List.append_assoc ..)⟩
    · cases h
theorem inps_ok {RW : List Nat} {X : Xe} {hl : List (Nat × AV)} {H : List (Nat × Int)} {lo hi : Nat} {p v : Int} (ho : Ok J s ρ σ) (hh : Hl ρ hl H) (hp : ev ρ X.2.2.1 = some p) (hv : ev ρ X.2.2.2 = some v) : ∀ {l : List Ti} {as bs : List AV}, (l.all fun t => !(Nat.beq t.1 0) || inTg lo hi t.2.1) = true → Evs ρ as → inps RW X s hl l as = some bs → Evs ρ bs ∧ Ins (rsT lo hi H) (rsM RW σ) p v (gv ρ bs) l as.length
  | [], as, bs, _, ha, h => by cases Option.some.inj h; exact ⟨ha, trivial⟩
  | t :: r, as, bs, hl9, ha, h => by
    have hl9 : ((!(Nat.beq t.1 0) || inTg lo hi t.2.1) && r.all fun t => !(Nat.beq t.1 0) || inTg lo hi t.2.1) = true := hl9
    rw [Bool.and_eq_true] at hl9
    unfold inps at h
    split at h
    · rename_i a h1
      obtain ⟨u, hu⟩ := inps_len h
      have pre : ∀ i, i < (as ++ [a]).length → gv ρ bs i = gv ρ (as ++ [a]) i := fun i hi => by
        rw [hu]; unfold gv nth
        rw [List.getElem?_append_left hi]
      obtain ⟨z, z1, z2⟩ := inp1_ok ho hh hp hv ha hl9.1 h1 (g := gv ρ bs) (fun i hi => (pre i (by simp; omega)).trans (gv_app hi))
      have ha' : Evs ρ (as ++ [a]) := fun b hb => by
        rcases List.mem_append.mp hb with hb | hb
        · exact ha b hb
        · rcases List.mem_cons.mp hb with rfl | hb
          · exact ⟨z, z1⟩
          · cases hb
      obtain ⟨g1, g2⟩ := inps_ok ho hh hp hv hl9.2 ha' h
      refine ⟨g1, ?_, by rw [List.length_append] at g2; exact g2⟩
      rw [pre as.length (by simp), gv_new z1]
      exact z2
    · cases h
theorem absA_ok {lo hi : Nat} {hl : List (Nat × AV)} {H : List (Nat × Int)} (hh : Hl ρ hl H) : ∀ {ts : List Nat}, absA hl ts = true → Abt (rsT lo hi H) ts
  | [], _ => trivial
  | t :: r, h => by
    have h : ((!(isS (lk hl t))) && absA hl r) = true := h
    rw [Bool.and_eq_true] at h
    refine ⟨?_, absA_ok hh h.2⟩
    show (bif Nat.ble lo t && Nat.ble t hi then lk H t else none) = none
    rw [no_tag hh h.1]
    cases Nat.ble lo t && Nat.ble t hi <;> rfl
theorem updA_ok {as : List AV} (ha : Evs ρ as) : ∀ {us : List (Nat × Option (Nat × Int))} {hl : List (Nat × AV)} {H : List (Nat × Int)}, Hl ρ hl H → Hl ρ (updA as us hl) (updH (gv ρ as) us H)
  | [], _, _, h => h
  | (t, none) :: r, _, _, h => updA_ok ha (us := r) h.del
  | (t, some (i, o)) :: r, _, _, h => updA_ok ha (us := r) (Hl.ins (shA_ev (nth_ev ha i)) h)
theorem rsT_set {lo hi t : Nat} {x : Option Int} {H H' : List (Nat × Int)} (ht : inTg lo hi t = true) (h : ∀ u, lk H' u = if u = t then x else lk H u) : rsT lo hi H' = set1 t x (rsT lo hi H) := by
  funext u
  show (bif Nat.ble lo u && Nat.ble u hi then lk H' u else none) = (bif Nat.beq u t then x else bif Nat.ble lo u && Nat.ble u hi then lk H u else none)
  rw [h u]
  by_cases e : u = t
  · subst e
    have ht : (Nat.ble lo u && Nat.ble u hi) = true := ht
    rw [if_pos rfl, Nat.beq_refl, ht]; rfl
  · have : Nat.beq u t = false := by
      cases q : Nat.beq u t with
      | false => rfl
      | true => exact absurd (Nat.eq_of_beq_eq_true q) e
    rw [if_neg e, this]; rfl
theorem updH_rs {lo hi : Nat} {g : Nat → Int} : ∀ {us : List (Nat × Option (Nat × Int))} {H : List (Nat × Int)}, (us.all fun u => inTg lo hi u.1) = true → rsT lo hi (updH g us H) = upT g us (rsT lo hi H)
  | [], _, _ => rfl
  | (t, none) :: r, H, h => by
    have h : (inTg lo hi t && r.all fun u => inTg lo hi u.1) = true := h
    rw [Bool.and_eq_true] at h
    show rsT lo hi (updH g r (hdel t H)) = upT g r (set1 t none (rsT lo hi H))
    rw [updH_rs h.2, rsT_set h.1 (fun u => lk_hdel)]
  | (t, some (i, o)) :: r, H, h => by
    have h : (inTg lo hi t && r.all fun u => inTg lo hi u.1) = true := h
    rw [Bool.and_eq_true] at h
    show rsT lo hi (updH g r (hins t (g i + o) H)) = upT g r (set1 t (some (g i + o)) (rsT lo hi H))
    rw [updH_rs h.2, rsT_set h.1 (fun u => lk_hins)]
theorem updH_out {lo hi : Nat} {g : Nat → Int} {u : Nat} (hu : inTg lo hi u = false) : ∀ {us : List (Nat × Option (Nat × Int))} {H : List (Nat × Int)}, (us.all fun u => inTg lo hi u.1) = true → lk (updH g us H) u = lk H u
  | [], _, _ => rfl
  | (t, none) :: r, H, h => by
    have h : (inTg lo hi t && r.all fun u => inTg lo hi u.1) = true := h
    rw [Bool.and_eq_true] at h
    show lk (updH g r (hdel t H)) u = lk H u
    rw [updH_out hu h.2, lk_hdel, if_neg (fun e => by rw [e, h.1] at hu; cases hu)]
  | (t, some (i, o)) :: r, H, h => by
    have h : (inTg lo hi t && r.all fun u => inTg lo hi u.1) = true := h
    rw [Bool.and_eq_true] at h
    show lk (updH g r (hins t (g i + o) H)) u = lk H u
    rw [updH_out hu h.2, lk_hins, if_neg (fun e => by rw [e, h.1] at hu; cases hu)]
theorem facA_ok {as : List AV} (ha : Evs ρ as) : ∀ {cs : List (List (Nat × Int) × Int)} {s : Sy}, Ok J s ρ σ → Cds (gv ρ as) cs → Ok J (facA as cs s) ρ σ
  | [], s, ho, _ => ho
  | c :: r, s, ho, hc => facA_ok ha (cs := r) (adS_ok ho (wts_ev ha) (by rw [wts_dot ha]; exact hc.1)) hc.2
theorem memA_ok {RW : List Nat} {as : List AV} (ha : Evs ρ as) : ∀ {es : List (Nat × (Nat × Nat))} {s : Sy}, (es.all fun e => RW.any (Nat.beq e.1)) = true → Ok J s ρ σ → Mms (rsM RW σ) (gv ρ as) es → Ok J (memA as es s) ρ σ
  | [], s, _, ho, _ => ho
  | e :: r, s, hr, ho, hm => by
    have hr : (RW.any (Nat.beq e.1) && r.all fun e => RW.any (Nat.beq e.1)) = true := hr
    rw [Bool.and_eq_true] at hr
    unfold memA
    cases hc : (nth as e.2.2).isI && (eqA s (nth as e.2.1) (pl s (nth as e.2.1)) && !(isS (mget s.me e.1 (pl s (nth as e.2.1))))) with
    | false => exact memA_ok ha hr.2 ho hm.2
    | true =>
      simp only [cond_true]
      simp only [Bool.and_eq_true] at hc
      obtain ⟨⟨j, j1, j2⟩, hm2⟩ := hm
      obtain ⟨y, hy⟩ := pl_ev (s := s) (nth_ev ha e.2.1)
      have ey := eqA_ok ho hc.2.1 (nth_ev ha e.2.1) hy
      have e2 : rsM RW σ e.1 j = (σ.1 e.1 j).toInt := by unfold rsM; rw [hr.1]; rfl
      have h1 : Ok J (s.add e.1 (pl s (nth as e.2.1)) (nth as e.2.2)) ρ σ := ho.addm ⟨j, by rw [hy, ← ey, j1], Or.inl ⟨hc.1, by rw [nth_ev ha, j2, e2]⟩⟩
      exact memA_ok ha hr.2 h1 hm2
theorem Evs.nil : Evs ρ [] := fun a h => by cases h
end R42
/-! writes -/
def wrR (RW : List Nat) (s : Sy) (hl : List (Nat × AV)) (p v : AV) : List Ru → Option (List (Nat × AV))
  | [] => none
  | R :: r => match inps RW ([], ([], (p, v))) s hl R.inp [] with
    | some as => bif absA hl R.abs && cdsA s as R.cnd then some (updA as R.upd hl) else wrR RW s hl p v r
    | none => wrR RW s hl p v r
def wrA (RW : List Nat) (s : Sy) (hl : List (Nat × AV)) (k : Nat) (p v : AV) : List (Nat × List Ru) → Option (List (Nat × AV))
  | [] => none
  | e :: r => bif Nat.beq e.1 k then wrR RW s hl p v e.2 else wrA RW s hl k p v r
/-- a part of what else holds, by rules -/
def cR (lo hi : Nat) (RW : List Nat) (S : St9) (W : List (Nat × List Ru)) : Cp := (fun t => inTg lo hi t, (fun H σ => S (rsT lo hi H) (rsM RW σ), (fun k => RW.any (Nat.beq k), (fun s hl k p v => wrA RW s hl k p v W, nlw))))
section R43
variable {T : Jx} {G : Gl} {lo hi : Nat} {RW : List Nat} {S : St9} {W : List (Nat × List Ru)}
theorem rsM_wr {σ : zS} {k j : Nat} {x : Int32} (hk : RW.any (Nat.beq k) = true) : rsM RW (zI σ k j x) = wrM (rsM RW σ) k j x.toInt := by
  funext k' j'
  show (bif RW.any (Nat.beq k') then ((zI σ k j x).1 k' j').toInt else 0) = (bif Nat.beq k' k && Nat.beq j' j then x.toInt else bif RW.any (Nat.beq k') then (σ.1 k' j').toInt else 0)
  by_cases h1 : k' = k
  · subst h1
    rw [hk, Nat.beq_refl]
    by_cases h2 : j' = j
    · subst h2
      rw [Nat.beq_refl, zI_at]; rfl
    · have : Nat.beq j' j = false := by
        cases q : Nat.beq j' j with
        | false => rfl
        | true => exact absurd (Nat.eq_of_beq_eq_true q) h2
      rw [this, zI_ne (by rintro ⟨_, q⟩; exact h2 q)]; rfl
  · have : Nat.beq k' k = false := by
      cases q : Nat.beq k' k with
      | false => rfl
      | true => exact absurd (Nat.eq_of_beq_eq_true q) h1
    rw [this, zI_row h1]; rfl
theorem wrR_ok {s : Sy} {ρ : List Int} {σ : zS} {k j : Nat} {p v : AV} {x : Int32} {H : List (Nat × Int)} {hl hl' : List (Nat × AV)} (ho : Ok (fun _ _ => True) s ρ σ) (hp : ev ρ p = some (j : Int)) (hx : ev ρ v = some x.toInt) (hk : RW.any (Nat.beq k) = true) (hh : Hl ρ hl H) (hS : S (rsT lo hi H) (rsM RW σ)) : ∀ {Rs : List Ru}, (∀ R ∈ Rs, tgsOk lo hi RW R = true ∧ WrOk S k R) → wrR RW s hl p v Rs = some hl' → ∃ H', Hl ρ hl' H' ∧ S (rsT lo hi H') (rsM RW (zI σ k j x)) ∧ ∀ t, inTg lo hi t = false → lk H' t = lk H t
  | [], _, h => by cases h
  | R :: r, hR, h => by
    have rest := fun (h' : wrR RW s hl p v r = some hl') => wrR_ok ho hp hx hk hh hS (Rs := r) (fun R' q => hR R' (List.mem_cons_of_mem _ q)) h'
    unfold wrR at h
    split at h
    · rename_i as hi9
      cases hc : absA hl R.abs && cdsA s as R.cnd with
      | false => rw [hc] at h; exact rest h
      | true =>
        rw [hc] at h
        cases Option.some.inj h
        rw [Bool.and_eq_true] at hc
        obtain ⟨t1, t2⟩ := hR R (List.mem_cons_self ..)
        unfold tgsOk at t1
        simp only [Bool.and_eq_true] at t1
        obtain ⟨g1, g2⟩ := inps_ok (lo := lo) (hi := hi) (p := (j : Int)) (v := x.toInt) ho hh hp hx t1.2.1 Evs.nil hi9
        refine ⟨updH (gv ρ as) R.upd H, updA_ok g1 hh, ?_, fun t ht => updH_out ht t1.1.1⟩
        rw [updH_rs t1.1.1, rsM_wr hk]
        exact t2 _ _ _ j x.toInt g2 (cdsA_ok ho g1 hc.2) (absA_ok hh hc.1) hS
    · exact rest h
theorem wrA_ok {s : Sy} {ρ : List Int} {σ : zS} {k j : Nat} {p v : AV} {x : Int32} {H : List (Nat × Int)} {hl hl' : List (Nat × AV)} (ho : Ok (fun _ _ => True) s ρ σ) (hp : ev ρ p = some (j : Int)) (hx : ev ρ v = some x.toInt) (hk : RW.any (Nat.beq k) = true) (hh : Hl ρ hl H) (hS : S (rsT lo hi H) (rsM RW σ)) : ∀ {W : List (Nat × List Ru)}, (∀ e ∈ W, ∀ R ∈ e.2, tgsOk lo hi RW R = true ∧ WrOk S e.1 R) → wrA RW s hl k p v W = some hl' → ∃ H', Hl ρ hl' H' ∧ S (rsT lo hi H') (rsM RW (zI σ k j x)) ∧ ∀ t, inTg lo hi t = false → lk H' t = lk H t
  | [], _, h => by cases h
  | e :: r, hW, h => by
    unfold wrA at h
    cases hb : Nat.beq e.1 k with
    | false => rw [hb] at h; exact wrA_ok ho hp hx hk hh hS (W := r) (fun e' q => hW e' (List.mem_cons_of_mem _ q)) h
    | true =>
      rw [hb] at h
      have ek := Nat.eq_of_beq_eq_true hb
      have h0 := hW e (List.mem_cons_self ..)
      rw [ek] at h0
      exact wrR_ok ho hp hx hk hh hS h0 h
theorem cR_ok1 (hlo : 100 ≤ lo) {t : Nat} (ht : (cR lo hi RW S W).tg t = true) : 100 ≤ t := by
  have ht : (Nat.ble lo t && Nat.ble t hi) = true := ht
  rw [Bool.and_eq_true] at ht
  exact Nat.le_trans hlo (Nat.le_of_ble_eq_true ht.1)
theorem cR_ok2 {H H' : List (Nat × Int)} {σ σ' : zS} (h1 : ∀ t, inTg lo hi t = true → lk H' t = lk H t) (h2 : ∀ k, RW.any (Nat.beq k) = true → σ'.1 k = σ.1 k) (hS : S (rsT lo hi H) (rsM RW σ)) : S (rsT lo hi H') (rsM RW σ') := by
  have e1 : rsT lo hi H' = rsT lo hi H := by
    funext t
    unfold rsT
    cases hc : Nat.ble lo t && Nat.ble t hi with
    | false => rfl
    | true => exact h1 t hc
  have e2 : rsM RW σ' = rsM RW σ := by
    funext k j
    unfold rsM
    cases hc : RW.any (Nat.beq k) with
    | false => show (0 : Int) = 0; rfl
    | true => simp only [cond_true]; rw [h2 k hc]
  rw [e1, e2]
  exact hS
theorem cR_ok (hlo : 100 ≤ lo) (hW : ∀ e ∈ W, ∀ R ∈ e.2, tgsOk lo hi RW R = true ∧ WrOk S e.1 R) : CpOk T G (cR lo hi RW S W) := CpOk.no (fun _ => rfl) ⟨fun t ht => cR_ok1 hlo ht, fun H H' σ σ' h1 h2 hS => cR_ok2 h1 h2 hS, fun s ρ σ k p v j x hl hl' H ho hb hp hi9 hv hx hr hw hh hS => wrA_ok ho hp hx hr hh hS hW hw⟩
theorem ruA_ok {cs : List Cp} {s : Sy} {ρ : List Int} {σ : zS} (hP : PH T G cs (cR lo hi RW S W)) {R : Ru} (ht : tgsOk lo hi RW R = true) (hR : RuOk S R) {X : Xe} (hX : X.2.2 = (.c 0, .c 0)) (ho : Ok (Jf T G (cS cs)) s ρ σ) : ∃ s' ρ', ruA RW R X s = some s' ∧ Pre ρ ρ' ∧ Ok (Jf T G (cS cs)) s' ρ' σ := by
  have same : ∃ s' ρ', some s = some s' ∧ Pre ρ ρ' ∧ Ok (Jf T G (cS cs)) s' ρ' σ := ⟨s, ρ, rfl, Pre.rf, ho⟩
  unfold tgsOk at ht
  simp only [Bool.and_eq_true] at ht
  obtain ⟨⟨t1, t2⟩, t3, t4⟩ := ht
  obtain ⟨H, i1, i2⟩ := ho.inv
  have hS : S (rsT lo hi H) (rsM RW σ) := i2.2.2 _ hP.2.2.1
  unfold ruA
  split
  · exact same
  · rename_i as hi9
    cases hc : absA s.hl R.abs && cdsA s as R.cnd with
    | false => exact same
    | true =>
      simp only [cond_true]
      rw [Bool.and_eq_true] at hc
      obtain ⟨g1, g2⟩ := inps_ok (lo := lo) (hi := hi) (p := 0) (v := 0) ho i1 (by rw [hX]; rfl) (by rw [hX]; rfl) t3 Evs.nil hi9
      obtain ⟨r1, r2, r3, r4⟩ := hR _ _ _ g2 (cdsA_ok ho g1 hc.2) (absA_ok i1 hc.1) hS
      rw [r1]
      simp only [cond_false]
      have o1 := memA_ok g1 t4 (facA_ok g1 ho r2) r3
      have out : ∀ {u : Nat}, inTg lo hi u = false → lk (updH (gv ρ as) R.upd H) u = lk H u := fun hu => updH_out hu t1
      split
      · rename_i hf
        rw [hf] at r4
        refine ⟨_, ρ, rfl, Pre.rf, o1.len, o1.env, o1.me, o1.cg, o1.df, o1.fa, updH (gv ρ as) R.upd H, updA_ok g1 i1, ?_⟩
        exact Jf_part hP.1 hP.2.1 hP.2.2.2 (fun t ht => (hP.2.1 _ hP.2.2.1).1 t ht) (fun u hu => out hu) i2 (by show S (rsT lo hi _) _; rw [updH_rs t1]; exact r4)
      · rename_i t l h hf
        rw [hf] at r4 t2
        have t2 : inTg lo hi t = true := t2
        obtain ⟨x, x1, x2, x3⟩ := r4
        have o2 := o1.new (x := x) (d := [(l, h)]) ⟨(l, h), List.mem_cons_self .., x1, x2⟩
        refine ⟨_, ρ ++ [x], rfl, Pre.one, o2.len, o2.env, o2.me, o2.cg, o2.df, o2.fa, hins t x (updH (gv ρ as) R.upd H), Hl.ins o1.new_i ((updA_ok g1 i1).mono Pre.one), ?_⟩
        refine Jf_part hP.1 hP.2.1 hP.2.2.2 (fun t ht => (hP.2.1 _ hP.2.2.1).1 t ht) (fun u hu => ?_) i2 ?_
        · rw [lk_hins, if_neg (fun e => by rw [e] at hu; have hu : inTg lo hi t = false := hu; rw [t2] at hu; cases hu)]
          exact out hu
        · show S (rsT lo hi _) _
          rw [rsT_set t2 (fun u => lk_hins), updH_rs t1]
          exact x3
end R43
end
