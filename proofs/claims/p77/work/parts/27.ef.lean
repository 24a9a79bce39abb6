noncomputable section
/-! ===== J: bounds, columns, rows that go together; what else holds (S) ===== -/
/-- rows that go together: size; rows (true: long); boxes -/
abbrev Rl1 : Type := Nat × (List (Nat × Bool) × List (List Dom))
/-- bounds of fields, of rows, of columns; which rows go together; rows that go together -/
abbrev Jx : Type := BT Dom × (BT Dom × (BT (Nat × List Dom) × (BT (Nat × Nat) × List Rl1)))
abbrev Jx.fi (T : Jx) : BT Dom := T.1
abbrev Jx.ai (T : Jx) : BT Dom := T.2.1
abbrev Jx.co (T : Jx) : BT (Nat × List Dom) := T.2.2.1
abbrev Jx.rl (T : Jx) : BT (Nat × Nat) := T.2.2.2.1
abbrev Jx.rs (T : Jx) : List Rl1 := T.2.2.2.2
def Jx.bd (T : Jx) (G : Gl) (k j : Nat) : Dom := match G.ka.get k with
  | none => (T.fi.get (k * 1024 + j)).getD T32
  | some _ => match T.co.get k with
    | some (m, ds) => (ds[j % m]?).getD T32
    | none => (T.ai.get k).getD T32
/-- what the bounds of a place may be -/
def Jx.bda (T : Jx) (G : Gl) (s : Sy) (k : Nat) (p : AV) : Option (List Dom) := match G.ka.get k with
  | none => match p with
    | .inr (.inl (.ofNat j)) => some [(T.fi.get (k * 1024 + j)).getD T32]
    | _ => none
  | some _ => match T.co.get k with
    | some (m, ds) => match res s p (m : Int) with
      | some r => bif ile 0 r && ile (r + 1) (m : Int) then some [(ds[r.toNat]?).getD T32] else none
      | none => bif Nat.beq ds.length m && Nat.ble 1 m then some ds else none
    | none => some [(T.ai.get k).getD T32]
def fitsD (s : Sy) (v : AV) (d : Dom) : Bool := dsub (dom s v) d || (match d with
  | [(l, h)] => inR s v l h
  | _ => false)
def cell (σ : zS) (a : Nat × Bool) (j : Nat) : Int := bif a.2 then (σ.2 a.1 j).toInt else (σ.1 a.1 j).toInt
def kfit (lg : Bool) (w : AV) : Bool := bif lg then w.isL else w.isI
def boxOk (s : Sy) (p : AV) (n : Nat) : Nat → List (Nat × Bool) → List Dom → Bool
  | m, a :: as, d :: ds => (Nat.beq m n || (match mget s.me a.1 p with
    | some w => !(kfit a.2 w) || !(dis (dom s w) d)
    | none => true)) && boxOk s p n (m + 1) as ds
  | _, _, _ => true
/-- what a row's place may hold by the rows that go with it -/
def Jx.rdom (T : Jx) (s : Sy) (k : Nat) (p : AV) (lg : Bool) : Option Dom := match T.rl.get k with
  | none => none
  | some (r, n) => match T.rs[r]? with
    | none => none
    | some R => bif ((match R.2.1[n]? with
        | some (k', lg') => Nat.beq k' k && (bif lg then lg' else !lg')
        | none => false) && (match edom s p with
        | some d => ile (dhi d) ((R.1 : Int) - 1)
        | none => false)) && (match lk s.hl r with
        | none => true
        | some q => apart s q p) then some ((R.2.2.filter (boxOk s p n 0 R.2.1)).flatMap fun b => (b[n]?).getD []) else none
def Jx.dm (T : Jx) (G : Gl) (s : Sy) (k : Nat) (p : AV) : Dom :=
  let b := match T.bda G s k p with
    | some L => L.flatten
    | none => T32
  match T.rdom s k p false with
  | some e => dand b e
  | none => b
def Jx.dl (T : Jx) (s : Sy) (k : Nat) (p : AV) : Dom := match T.rdom s k p true with
  | some e => e
  | none => T64
def hdel {α : Type} (r : Nat) (l : List (Nat × α)) : List (Nat × α) := l.filter fun e => !(Nat.beq e.1 r)
def hset {α : Type} (r : Nat) (a : α) (l : List (Nat × α)) : List (Nat × α) := (r, a) :: hdel r l
def fullIn (s : Sy) (me : List (Nat × (AV × AV))) (p : AV) : List (Nat × Bool) → List Dom → Bool
  | [], [] => true
  | a :: as, d :: ds => (dsub (bif a.2 then T64 else T32) d || (match mget me a.1 p with
    | some w => kfit a.2 w && fitsD s w d
    | none => false)) && fullIn s me p as ds
  | _, _ => false
def opq (o : Option AV) (p : AV) : Bool := match o with
  | none => true
  | some q => AV.eq q p
def Jx.wrel (T : Jx) (s : Sy) (k : Nat) (p : AV) (me : List (Nat × (AV × AV))) (hl : List (Nat × AV)) : Option (List (Nat × AV)) := match T.rl.get k with
  | none => some hl
  | some (r, _) => match T.rs[r]? with
    | none => none
    | some R => bif Nat.blt r 100 && opq (lk hl r) p then (bif R.2.2.any (fullIn s me p R.2.1) then some (hdel r hl) else some (hset r p hl)) else none
/-- what else holds: how a write of an int, of a long changes what is open; longs of which nothing is said; rows that may be copied to -/
abbrev Sw : Type := (Sy → Nat → AV → AV → Option (List (Nat × AV))) × ((Sy → Nat → AV → AV → Option (List (Nat × AV))) × ((Nat → Bool) × (Nat → Bool)))
def Jx.wi (T : Jx) (G : Gl) (W : Sw) (s : Sy) (k : Nat) (p v : AV) : Option Sy := match T.bda G s k p with
  | none => none
  | some L => bif L.all (fitsD s v) then (match W.1 s k p v with
    | some hl => match T.wrel s k p (s.mwr k p v) hl with
      | some hl' => some (s.wr k p v hl')
      | none => none
    | none => none) else none
def Jx.wl (T : Jx) (W : Sw) (s : Sy) (k : Nat) (p v : AV) : Option Sy := match W.2.1 s k p v with
    | some hl => match T.wrel s k p (s.mwr k p v) hl with
      | some hl' => some (s.wr k p v hl')
      | none => none
    | none => none
def Jx.fr (T : Jx) (W : Sw) (k : Nat) : Bool := !(isS (T.rl.get k)) && W.2.2.1 k
def Jx.cp (T : Jx) (W : Sw) (k0 k1 : Nat) : Bool := ((!(isS (T.rl.get k1)) && !(isS (T.co.get k0))) && (!(isS (T.co.get k1)) && W.2.2.2 k1)) && dsub ((T.ai.get k0).getD T32) ((T.ai.get k1).getD T32)
def Jx.P (T : Jx) (G : Gl) (W : Sw) : Pl := (T.dm G, (T.dl, (T.wi G W, (T.wl W, (T.fr W, T.cp W)))))
def inB1 (σ : zS) (j : Nat) : List (Nat × Bool) → List Dom → Prop
  | [], [] => True
  | a :: as, d :: ds => inD (cell σ a j) d ∧ inB1 σ j as ds
  | _, _ => False
/-- bounds; rows that go together, but for the open ones; what else -/
def Jf (T : Jx) (G : Gl) (S : Jt) : Jt := fun H σ => (∀ k j, InB G k j → inD (σ.1 k j).toInt (T.bd G k j)) ∧ (∀ r R, T.rs[r]? = some R → ∀ j, j < R.1 → lk H r ≠ some ((j : Nat) : Int) → ∃ b ∈ R.2.2, inB1 σ j R.2.1 b) ∧ S H σ
/-- the tables fit: a row goes with one set of rows -/
def Jx.wf (T : Jx) : Bool := Nat.ble T.rs.length 100 && (T.rs.zipIdx).all fun q => q.1.2.1.all fun a => match T.rl.get a.1 with
  | some (r, _) => Nat.beq r q.2
  | none => false
/-- what else holds is kept -/
abbrev SOk (T : Jx) (G : Gl) (S : Jt) (W : Sw) : Prop := (∀ s ρ σ k p v j x hl H, Ok (Jf T G S) s ρ σ → ev ρ p = some ((j : Nat) : Int) → InB G k j → v.isI = true → ev ρ v = some (Int32.toInt x) → W.1 s k p v = some hl → Hl ρ s.hl H → Jf T G S H σ → ∃ H', Hl ρ hl H' ∧ S H' (zI σ k j x) ∧ ∀ t, t < 100 → lk H' t = lk H t) ∧ (∀ s ρ σ k p v j x hl H, Ok (Jf T G S) s ρ σ → ev ρ p = some ((j : Nat) : Int) → InB G k j → v.isL = true → ev ρ v = some (Int64.toInt x) → W.2.1 s k p v = some hl → Hl ρ s.hl H → Jf T G S H σ → ∃ H', Hl ρ hl H' ∧ S H' (zJ σ k j x) ∧ ∀ t, t < 100 → lk H' t = lk H t) ∧ (∀ H σ k f, W.2.2.1 k = true → S H σ → S H (zJr σ k f)) ∧ (∀ H σ k f, W.2.2.2 k = true → S H σ → S H (zIr σ k f)) ∧ (∀ H H' σ, (∀ t, 100 ≤ t → lk H' t = lk H t) → S H σ → S H' σ)
theorem lk_hdel {α : Type} {r t : Nat} : ∀ {l : List (Nat × α)}, lk (hdel r l) t = if t = r then none else lk l t
  | [] => by simp [hdel, lkq_nil]
  | e :: l => by
    have ih := lk_hdel (r := r) (t := t) (l := l)
    unfold hdel at ih ⊢
    cases hb : Nat.beq e.1 r with
    | true =>
      rw [List.filter_cons_of_neg (by simp [hb]), ih]
      have := Nat.eq_of_beq_eq_true hb
      by_cases h : t = r
      · rw [if_pos h, if_pos h]
      · rw [if_neg h, if_neg h]
        have hn : Nat.beq e.1 t = false := by
          cases hq : Nat.beq e.1 t with
          | false => rfl
          | true => exact absurd ((Nat.eq_of_beq_eq_true hq).symm.trans this) h
        simp only [lkq_cons, hn, cond_false]
    | false =>
      rw [List.filter_cons_of_pos (by simp [hb])]
      cases hq : Nat.beq e.1 t with
      | true =>
        have e1 := Nat.eq_of_beq_eq_true hq
        have : t ≠ r := fun e2 => by
          rw [e1.trans e2, Nat.beq_refl] at hb
          cases hb
        simp only [lkq_cons, hq, cond_true, if_neg this]
      | false => simp only [lkq_cons, hq, cond_false]; exact ih
theorem lk_hset {α : Type} {r t : Nat} {a : α} {l : List (Nat × α)} : lk (hset r a l) t = if t = r then some a else lk l t := by
  unfold hset
  cases hq : Nat.beq r t with
  | true =>
    have := Nat.eq_of_beq_eq_true hq
    simp only [lkq_cons, hq, cond_true, if_pos this.symm]
  | false =>
    have : t ≠ r := fun e => by rw [e, Nat.beq_refl] at hq; cases hq
    simp only [lkq_cons, hq, cond_false, lk_hdel]
    rw [if_neg this, if_neg this]
theorem Hl.del {ρ : List Int} {r : Nat} : ∀ {l : List (Nat × AV)} {H : List (Nat × Int)}, Hl ρ l H → Hl ρ (hdel r l) (hdel r H)
  | [], [], _ => trivial
  | e :: l, h :: H, ⟨⟨h1, h2⟩, h3⟩ => by
    have ih := Hl.del (r := r) h3
    unfold hdel at ih ⊢
    cases hb : Nat.beq e.1 r with
    | true => rw [List.filter_cons_of_neg (by simp [hb]), List.filter_cons_of_neg (by simp [← h1, hb])]; exact ih
    | false => rw [List.filter_cons_of_pos (by simp [hb]), List.filter_cons_of_pos (by simp [← h1, hb])]; exact ⟨⟨h1, h2⟩, ih⟩
  | [], _ :: _, q => q.elim
  | _ :: _, [], q => q.elim
theorem Hl.set {ρ : List Int} {r : Nat} {a : AV} {x : Int} {l : List (Nat × AV)} {H : List (Nat × Int)} (h : Hl ρ l H) (hx : ev ρ a = some x) : Hl ρ (hset r a l) (hset r x H) := ⟨⟨rfl, hx⟩, h.del⟩
theorem Hl.lkp {ρ : List Int} {t : Nat} : ∀ {l : List (Nat × AV)} {H : List (Nat × Int)}, Hl ρ l H → (lk l t = none ∧ lk H t = none) ∨ ∃ a x, lk l t = some a ∧ lk H t = some x ∧ ev ρ a = some x
  | [], [], _ => Or.inl ⟨rfl, rfl⟩
  | e :: l, h :: H, ⟨⟨h1, h2⟩, h3⟩ => by
    have ih := Hl.lkp (t := t) h3
    cases hb : Nat.beq e.1 t with
    | true =>
      have hb' : Nat.beq h.1 t = true := by rw [← h1]; exact hb
      refine Or.inr ⟨e.2, h.2, ?_, ?_, h2⟩
      · simp only [lkq_cons, hb, cond_true]
      · simp only [lkq_cons, hb', cond_true]
    | false =>
      have hb' : Nat.beq h.1 t = false := by rw [← h1]; exact hb
      simp only [lkq_cons, hb, hb', cond_false]
      exact ih
  | [], _ :: _, q => q.elim
  | _ :: _, [], q => q.elim
theorem Ok.any {J J' : Jt} {s : Sy} {ρ : List Int} {σ : zS} (h : Ok J s ρ σ) (hJ : ∀ H, J H σ → J' H σ) : Ok J' s ρ σ := by
  obtain ⟨H, i1, i2⟩ := h.inv
  exact ⟨h.len, h.env, h.me, h.cg, h.df, h.fa, H, i1, hJ H i2⟩
theorem inB1_at {σ : zS} {j : Nat} : ∀ {rows : List (Nat × Bool)} {b : List Dom} {n : Nat} {a : Nat × Bool}, inB1 σ j rows b → rows[n]? = some a → ∃ d, b[n]? = some d ∧ inD (cell σ a j) d
  | [], [], _, _, _, h => by simp at h
  | e :: rows, d :: b, 0, a, ⟨h1, _⟩, h => by
    simp at h
    subst h
    exact ⟨d, rfl, h1⟩
  | e :: rows, d :: b, n + 1, a, ⟨_, h2⟩, h => by
    simp only [List.getElem?_cons_succ] at h ⊢
    exact inB1_at h2 h
  | [], _ :: _, _, _, q, _ => q.elim
  | _ :: _, [], _, _, q, _ => q.elim
theorem inB1_eq {σ σ' : zS} {j : Nat} : ∀ {rows : List (Nat × Bool)} {b : List Dom}, (∀ a ∈ rows, cell σ' a j = cell σ a j) → inB1 σ j rows b → inB1 σ' j rows b
  | [], [], _, _ => trivial
  | a :: rows, d :: b, h, ⟨h1, h2⟩ => ⟨by rw [h a (List.mem_cons_self ..)]; exact h1, inB1_eq (fun e he => h e (List.mem_cons_of_mem _ he)) h2⟩
  | [], _ :: _, _, q => q.elim
  | _ :: _, [], _, q => q.elim
section J13
variable {J : Jt} {s : Sy} {ρ : List Int} {σ : zS} {T : Jx} {G : Gl}
theorem Mf.cell {lg : Bool} {k j : Nat} {p w : AV} (h : Mf ρ σ (k, (p, w))) (hp : ev ρ p = some (j : Int)) (hk : kfit lg w = true) : ev ρ w = some (cell σ (k, lg) j) ∧ (lg = true → w.isL = true) ∧ (lg = false → w.isI = true) := by
  obtain ⟨i, h1, h2⟩ := h
  have hij : i = j := by
    have := Option.some.inj (h1.symm.trans hp)
    omega
  subst hij
  unfold kfit at hk
  cases lg with
  | true =>
    refine ⟨?_, fun _ => hk, fun q => by cases q⟩
    rcases h2 with ⟨q, _⟩ | ⟨_, h3⟩
    · exact (isI_L q hk).elim
    · exact h3
  | false =>
    refine ⟨?_, fun q => (by cases q), fun _ => hk⟩
    rcases h2 with ⟨_, h3⟩ | ⟨q, _⟩
    · exact h3
    · exact (isI_L hk q).elim
theorem cell_dom (h : Ok J s ρ σ) {lg : Bool} {k j : Nat} {w : AV} (he : ev ρ w = some (cell σ (k, lg) j)) (h1 : lg = true → w.isL = true) (h2 : lg = false → w.isI = true) : inD (cell σ (k, lg) j) (dom s w) := by
  cases lg with
  | true => exact dom_l h (h1 rfl) he
  | false => exact dom_i h (h2 rfl) he
theorem fitsD_ok (h : Ok J s ρ σ) {v : AV} {x : Int} {d : Dom} (hf : fitsD s v d = true) (hx : ev ρ v = some x) (hd : inD x (dom s v)) : inD x d := by
  unfold fitsD at hf
  rw [Bool.or_eq_true] at hf
  rcases hf with hf | hf
  · exact dsub_in hf hd
  · split at hf
    · have := inR_ok h hf hx hd
      exact ⟨_, List.mem_cons_self .., this.1, this.2⟩
    · cases hf
theorem boxOk_ok (h : Ok J s ρ σ) {p : AV} {j n : Nat} (hp : ev ρ p = some (j : Int)) : ∀ {rows : List (Nat × Bool)} {b : List Dom} {m : Nat}, inB1 σ j rows b → boxOk s p n m rows b = true
  | [], [], _, _ => rfl
  | a :: rows, d :: b, m, ⟨h1, h2⟩ => by
    unfold boxOk
    rw [boxOk_ok h hp h2, Bool.and_true, Bool.or_eq_true]
    refine Or.inr ?_
    split
    · rename_i w hw
      cases hk : kfit a.2 w with
      | false => rfl
      | true =>
        obtain ⟨g1, g2, g3⟩ := (h.me _ (mget_mem hw)).cell hp hk
        have := cell_dom h g1 g2 g3
        cases hd : dis (dom s w) d with
        | false => rfl
        | true => exact (dis_ok hd this h1).elim
    · rfl
  | [], _ :: _, _, q => q.elim
  | _ :: _, [], _, q => q.elim
theorem rdom_ok {S : Jt} (h : Ok (Jf T G S) s ρ σ) {k j : Nat} {p : AV} {lg : Bool} {d : Dom} (hp : ev ρ p = some (j : Int)) (hr : T.rdom s k p lg = some d) : inD (cell σ (k, lg) j) d := by
  unfold Jx.rdom at hr
  split at hr
  · cases hr
  · rename_i r n hrl
    split at hr
    · cases hr
    · rename_i R hR
      cases hc : ((match R.2.1[n]? with
        | some (k', lg') => Nat.beq k' k && (bif lg then lg' else !lg')
        | none => false) && (match edom s p with
        | some d => ile (dhi d) ((R.1 : Int) - 1)
        | none => false)) && (match lk s.hl r with
        | none => true
        | some q => apart s q p) with
      | false => rw [hc] at hr; cases hr
      | true =>
        rw [hc] at hr
        cases Option.some.inj hr
        simp only [Bool.and_eq_true] at hc
        obtain ⟨⟨c1, c2⟩, c3⟩ := hc
        obtain ⟨H, i1, i2⟩ := h.inv
        have hj : j < R.1 := by
          split at c2
          · rename_i e he
            have h1 := le_dhi (edom_ok h he hp)
            have h2 := ile_iff.mp c2
            omega
          · cases c2
        have ho : lk H r ≠ some ((j : Nat) : Int) := by
          intro hh
          rcases i1.lkp (t := r) with ⟨_, q2⟩ | ⟨a, x, q1, q2, q3⟩
          · rw [q2] at hh; cases hh
          · rw [q1] at c3
            rw [q2] at hh
            cases Option.some.inj hh
            exact apart_ne h c3 q3 hp rfl
        obtain ⟨b, hb, hin⟩ := i2.2.1 r R hR j hj ho
        split at c1
        · rename_i k' lg' hn
          rw [Bool.and_eq_true] at c1
          have e1 := Nat.eq_of_beq_eq_true c1.1
          have e2 : lg' = lg := by
            have := c1.2
            cases lg <;> cases lg' <;> first | rfl | cases this
          subst e1; subst e2
          obtain ⟨dd, h1, h2⟩ := inB1_at hin hn
          obtain ⟨pp, g1, g2⟩ := h2
          refine ⟨pp, List.mem_flatMap.mpr ⟨b, List.mem_filter.mpr ⟨hb, boxOk_ok h hp hin⟩, ?_⟩, g2⟩
          rw [h1]
          exact g1
        · cases c1
theorem bda_ok (h : Ok J s ρ σ) {k j : Nat} {p : AV} {L : List Dom} (hp : ev ρ p = some (j : Int)) (hb : T.bda G s k p = some L) : T.bd G k j ∈ L := by
  unfold Jx.bda at hb
  unfold Jx.bd
  split at hb
  · rename_i hk
    split at hb
    · rename_i j'
      have e : ((j' : Nat) : Int) = (j : Int) := Option.some.inj hp
      have : j' = j := by omega
      subst this
      cases Option.some.inj hb
      exact List.mem_cons_self ..
    · cases hb
  · rename_i q hk
    split at hb
    · rename_i m ds hc
      try (rw [hc]; dsimp only)
      split at hb
      · rename_i r hr
        cases hq : ile 0 r && ile (r + 1) (m : Int) with
        | false => rw [hq] at hb; cases hb
        | true =>
          rw [hq] at hb
          cases Option.some.inj hb
          rw [Bool.and_eq_true, ile_iff, ile_iff] at hq
          obtain ⟨c, hc⟩ := res_ok h hr hp
          have e : j % m = r.toNat := by
            have h1 : (j : Int) % (m : Int) = r := by
              rw [hc, Int.add_comm, Int.add_mul_emod_self_left]
              exact Int.emod_eq_of_lt hq.1 (by omega)
            omega
          rw [e]
          exact List.mem_cons_self ..
      · cases hq : Nat.beq ds.length m && Nat.ble 1 m with
        | false => rw [hq] at hb; cases hb
        | true =>
          rw [hq] at hb
          cases Option.some.inj hb
          rw [Bool.and_eq_true] at hq
          have h1 := Nat.eq_of_beq_eq_true hq.1
          have h2 := Nat.le_of_ble_eq_true hq.2
          have h3 : j % m < L.length := by rw [h1]; exact Nat.mod_lt _ (by omega)
          rw [List.getElem?_eq_getElem h3]
          exact List.getElem_mem h3
    · rename_i hc
      try rw [hc]
      cases Option.some.inj hb
      exact List.mem_cons_self ..
theorem dm_ok {S : Jt} {k j : Nat} {p : AV} (h : Ok (Jf T G S) s ρ σ) (hp : ev ρ p = some (j : Int)) (hb : InB G k j) : inD (σ.1 k j).toInt (T.dm G s k p) := by
  have h1 : inD (σ.1 k j).toInt (match T.bda G s k p with
    | some L => L.flatten
    | none => T32) := by
    split
    · rename_i L hL
      obtain ⟨H, i1, i2⟩ := h.inv
      obtain ⟨q, q1, q2⟩ := i2.1 k j hb
      exact ⟨q, List.mem_flatten.mpr ⟨_, bda_ok h hp hL, q1⟩, q2⟩
    · exact in32 _
  unfold Jx.dm
  dsimp only
  split
  · rename_i e he
    exact dand_in h1 (rdom_ok (lg := false) h hp he)
  · exact h1
theorem dl_ok {S : Jt} {k j : Nat} {p : AV} (h : Ok (Jf T G S) s ρ σ) (hp : ev ρ p = some (j : Int)) : inD (σ.2 k j).toInt (T.dl s k p) := by
  unfold Jx.dl
  split
  · rename_i e he
    exact rdom_ok (lg := true) h hp he
  · exact in64 _
theorem fullIn_ok (h : Ok J s ρ σ) {σ' : zS} {p : AV} {j : Nat} {me : List (Nat × (AV × AV))} (hm : Ok (fun _ _ => True) (s.nx, (s.env, (me, (s.cg, (s.df, (s.fa, [])))))) ρ σ') (hp : ev ρ p = some (j : Int)) : ∀ {rows : List (Nat × Bool)} {b : List Dom}, fullIn s me p rows b = true → inB1 σ' j rows b
  | [], [], _ => trivial
  | a :: rows, d :: b, hf => by
    unfold fullIn at hf
    rw [Bool.and_eq_true, Bool.or_eq_true] at hf
    refine ⟨?_, fullIn_ok h hm hp hf.2⟩
    rcases hf.1 with hf | hf
    · refine dsub_in hf ?_
      unfold cell
      cases a.2 with
      | true => exact in64 _
      | false => exact in32 _
    · split at hf
      · rename_i w hw
        rw [Bool.and_eq_true] at hf
        obtain ⟨g1, g2, g3⟩ := (hm.me _ (mget_mem hw)).cell hp hf.1
        exact fitsD_ok h hf.2 g1 (cell_dom hm g1 g2 g3)
      · cases hf
  | [], _ :: _, q => by simp [fullIn] at q
  | _ :: _, [], q => by simp [fullIn] at q
end J13
end
