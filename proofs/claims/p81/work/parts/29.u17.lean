section
section
/-! ===== THE READER, 60: a condition read by trying (the one program) and read once (what both come to) ===== -/
/-- tokens by their places: what a token is, where the next one begins. 1 not, 2 known, 3 (, 4 -, 5 a number, 6 now or age, 7 size, 8 me or it, 9 [, 10 ], 11 ), 12 +, 13 * or / or %, 14 a comparison, 15 in, 16 and, 17 or, 21 a dot, 22 a feature's letter -/
noncomputable abbrev Tkn : Type := (Nat → Nat) × (Nat → Nat)
noncomputable abbrev Tkn.c (K : Tkn) (p : Nat) : Nat := K.1 p
noncomputable abbrev Tkn.n (K : Tkn) (p : Nat) : Nat := K.2 p
noncomputable abbrev okR (j : Nat) : Option Int := some (Int.ofNat j)
noncomputable abbrev bdR (f : Nat) : Option Int := some (Int.negSucc f)
noncomputable def bnd (r : Option Int) (f : Nat → Option Int) : Option Int := match r with
  | some (Int.ofNat j) => f j
  | some (Int.negSucc g) => some (Int.negSucc g)
  | none => none
noncomputable def sgn (K : Tkn) (k j : Nat) : Option Int := if K.c j = k then okR (K.n j) else bdR j
noncomputable def ftr (K : Tkn) (p : Nat) : Option Int := if K.c p = 8 then (if K.c (K.n p) = 21 then (if K.c (K.n (K.n p)) = 22 then okR (K.n (K.n (K.n p))) else bdR (K.n (K.n p))) else bdR (K.n p)) else bdR p
noncomputable abbrev Rdf : Type := Nat → Nat → Nat → Option Int
noncomputable def itm (K : Tkn) (F : Rdf) (d j : Nat) : Option Int := if K.c j = 9 then (if 20 ≤ d then bdR j else bnd (F 1 (d + 1) (K.n j)) (sgn K 10)) else okR j
noncomputable def trm (K : Tkn) (F : Rdf) (d p : Nat) : Option Int :=
  if K.c p = 4 then (if 20 ≤ d then bdR p else F 0 (d + 1) (K.n p))
  else if K.c p = 3 then (if 20 ≤ d then bdR p else bnd (F 1 (d + 1) (K.n p)) (sgn K 11))
  else if K.c p = 5 ∨ K.c p = 6 then okR (K.n p)
  else if K.c p = 7 then ftr K (K.n p)
  else bnd (ftr K p) (itm K F d)
noncomputable def smr (K : Tkn) (F : Rdf) (d p : Nat) : Option Int := if K.c p = 4 ∨ K.c p = 12 ∨ K.c p = 13 then bnd (F 0 d (K.n p)) (F 2 d) else okR p
/-- behind a sum -/
noncomputable def aft (K : Tkn) (F : Rdf) (d j : Nat) : Option Int := if K.c j = 15 then ftr K (K.n j) else if K.c j = 14 then F 1 d (K.n j) else bdR j
noncomputable def bth (a b : Option Int) : Option Int := match a with
  | none => none
  | some (Int.ofNat j) => okR j
  | some (Int.negSucc f) => match b with
    | none => none
    | some (Int.ofNat j) => okR j
    | some (Int.negSucc g) => bdR (max f g)
noncomputable def suc (K : Tkn) (F : Rdf) (d p : Nat) : Option Int :=
  if K.c p = 1 then (if 20 ≤ d then bdR p else F 5 (d + 1) (K.n p))
  else if K.c p = 2 then ftr K (K.n p)
  else if K.c p = 3 then (if 20 ≤ d then bdR p else bth (bnd (F 3 (d + 1) (K.n p)) (sgn K 11)) (F 6 d p))
  else F 6 d p
noncomputable def clp (K : Tkn) (F : Rdf) (d p : Nat) : Option Int := if K.c p = 16 ∨ K.c p = 17 then bnd (F 5 d (K.n p)) (F 4 d) else okR p
/-- 0 a term, 1 a sum, 2 a sum's rest, 3 a condition, 4 a condition's rest, 5 a part of a condition, 6 a comparison -/
noncomputable def bod (K : Tkn) (F : Rdf) (m d p : Nat) : Option Int := match m with
  | 0 => trm K F d p
  | 1 => bnd (F 0 d p) (F 2 d)
  | 2 => smr K F d p
  | 3 => bnd (F 5 d p) (F 4 d)
  | 4 => clp K F d p
  | 5 => suc K F d p
  | _ => bnd (F 1 d p) (aft K F d)
noncomputable def rd9 (K : Tkn) : Nat → Rdf
  | 0 => fun _ _ _ => none
  | n + 1 => bod K (rd9 K n)
theorem no8 {p q : Prop} [inst : Decidable p] (hp : p) (h : decide p = false := by rfl) : q := absurd hp (of_decide_eq_false h)
section R60
variable {K : Tkn} {F G : Rdf}
theorem bnd_some {a : Option Int} {f : Nat → Option Int} {r : Int} (h : bnd a f = some r) : (∃ j, a = okR j ∧ f j = some r) ∨ ∃ g, a = bdR g ∧ r = Int.negSucc g := by
  cases a with
  | none => cases h
  | some x =>
    cases x with
    | ofNat j => exact Or.inl ⟨j, rfl, h⟩
    | negSucc g => exact Or.inr ⟨g, rfl, (Option.some.inj h).symm⟩
theorem bnd_mono {a b : Option Int} {f g : Nat → Option Int} {r : Int} (h1 : ∀ r, a = some r → b = some r) (h2 : ∀ j r, f j = some r → g j = some r) (h : bnd a f = some r) : bnd b g = some r := by
  rcases bnd_some h with ⟨j, e1, e2⟩ | ⟨k, e1, e2⟩
  · rw [h1 _ e1]; exact h2 j r e2
  · rw [h1 _ e1, e2]; rfl
theorem bod_mono (hF : ∀ m d p r, F m d p = some r → G m d p = some r) {m d p : Nat} {r : Int} (h : bod K F m d p = some r) : bod K G m d p = some r := by
  have hi : ∀ d j r, itm K F d j = some r → itm K G d j = some r := fun d j r h => by
    unfold itm at h ⊢
    split at h
    · rename_i h1
      rw [if_pos h1]
      split at h
      · rename_i h2; rw [if_pos h2]; exact h
      · rename_i h2; rw [if_neg h2]; exact bnd_mono (fun r => hF _ _ _ r) (fun _ _ q => q) h
    · rename_i h1; rw [if_neg h1]; exact h
  have ha : ∀ d j r, aft K F d j = some r → aft K G d j = some r := fun d j r h => by
    unfold aft at h ⊢
    split at h
    · rename_i h1; rw [if_pos h1]; exact h
    · rename_i h1
      rw [if_neg h1]
      split at h
      · rename_i h2; rw [if_pos h2]; exact hF _ _ _ _ h
      · rename_i h2; rw [if_neg h2]; exact h
  rcases m with _ | _ | _ | _ | _ | _ | m
  · skip
    have h : trm K F d p = some r := h
    show trm K G d p = some r
    unfold trm at h ⊢
    split at h
    · rename_i h1
      rw [if_pos h1]
      split at h
      · rename_i h2; rw [if_pos h2]; exact h
      · rename_i h2; rw [if_neg h2]; exact hF _ _ _ _ h
    · rename_i h1
      rw [if_neg h1]
      split at h
      · rename_i h2
        rw [if_pos h2]
        split at h
        · rename_i h3; rw [if_pos h3]; exact h
        · rename_i h3; rw [if_neg h3]; exact bnd_mono (fun r => hF _ _ _ r) (fun _ _ q => q) h
      · rename_i h2
        rw [if_neg h2]
        split at h
        · rename_i h3; rw [if_pos h3]; exact h
        · rename_i h3
          rw [if_neg h3]
          split at h
          · rename_i h4; rw [if_pos h4]; exact h
          · rename_i h4; rw [if_neg h4]; exact bnd_mono (fun _ q => q) (fun j r => hi d j r) h
  · exact bnd_mono (a := F 0 d p) (b := G 0 d p) (fun r => hF _ _ _ r) (fun _ r => hF _ _ _ r) h
  · skip
    have h : smr K F d p = some r := h
    show smr K G d p = some r
    unfold smr at h ⊢
    split at h
    · rename_i h1; rw [if_pos h1]; exact bnd_mono (fun r => hF _ _ _ r) (fun _ r => hF _ _ _ r) h
    · rename_i h1; rw [if_neg h1]; exact h
  · exact bnd_mono (a := F 5 d p) (b := G 5 d p) (fun r => hF _ _ _ r) (fun _ r => hF _ _ _ r) h
  · skip
    have h : clp K F d p = some r := h
    show clp K G d p = some r
    unfold clp at h ⊢
    split at h
    · rename_i h1; rw [if_pos h1]; exact bnd_mono (fun r => hF _ _ _ r) (fun _ r => hF _ _ _ r) h
    · rename_i h1; rw [if_neg h1]; exact h
  · skip
    have h : suc K F d p = some r := h
    show suc K G d p = some r
    unfold suc at h ⊢
    split at h
    · rename_i h1
      rw [if_pos h1]
      split at h
      · rename_i h2; rw [if_pos h2]; exact h
      · rename_i h2; rw [if_neg h2]; exact hF _ _ _ _ h
    · rename_i h1
      rw [if_neg h1]
      split at h
      · rename_i h2; rw [if_pos h2]; exact h
      · rename_i h2
        rw [if_neg h2]
        split at h
        · rename_i h3
          rw [if_pos h3]
          split at h
          · rename_i h4; rw [if_pos h4]; exact h
          · rename_i h4
            rw [if_neg h4]
            cases ea : bnd (F 3 (d + 1) (K.n p)) (sgn K 11) with
            | none => rw [ea] at h; cases h
            | some x =>
              rw [bnd_mono (a := F 3 (d + 1) (K.n p)) (b := G 3 (d + 1) (K.n p)) (fun r => hF _ _ _ r) (fun _ _ q => q) ea]
              rw [ea] at h
              cases x with
              | ofNat j => exact h
              | negSucc f =>
                cases eb : F 6 d p with
                | none => rw [eb] at h; cases h
                | some y => rw [hF _ _ _ _ eb]; rw [eb] at h; exact h
        · rename_i h3; rw [if_neg h3]; exact hF _ _ _ _ h
  · exact bnd_mono (a := F 1 d p) (b := G 1 d p) (fun r => hF _ _ _ r) (fun j r => ha d j r) h
theorem rd9_up : ∀ {n m d p : Nat} {r : Int}, rd9 K n m d p = some r → rd9 K (n + 1) m d p = some r
  | 0, _, _, _, _, h => by cases h
  | n + 1, m, d, p, r, h => bod_mono (F := rd9 K n) (G := rd9 K (n + 1)) (fun m d p r q => rd9_up q) h
theorem rd9_le {n m d p : Nat} {r : Int} (h : rd9 K n m d p = some r) : ∀ k, rd9 K (n + k) m d p = some r
  | 0 => h
  | k + 1 => rd9_up (rd9_le h k)
theorem rd9_det {n n' m d p : Nat} {r r' : Int} (h : rd9 K n m d p = some r) (h' : rd9 K n' m d p = some r') : r = r' := by
  have a := rd9_le h n'
  have b := rd9_le h' n
  rw [Nat.add_comm n' n] at b
  exact Option.some.inj (a.symm.trans b)
/-- it comes to r -/
noncomputable def Rd (K : Tkn) (m d p : Nat) (r : Int) : Prop := ∃ n, rd9 K n m d p = some r
theorem Rd.det {m d p : Nat} {r r' : Int} (h : Rd K m d p r) (h' : Rd K m d p r') : r = r' := by
  obtain ⟨n, e⟩ := h
  obtain ⟨n', e'⟩ := h'
  exact rd9_det e e'
end R60
end
section
/-! ===== THE READER, 61: read once: 0 f a fault, 1 j a value up to j, 2 j a condition up to j ===== -/
noncomputable abbrev Dr : Type := Nat × Nat
noncomputable abbrev Drf : Type := Nat → Nat → Nat → Option Dr
noncomputable def cn9r (r : Option Int) : Option Dr := match r with
  | none => none
  | some (Int.ofNat j) => some (2, j)
  | some (Int.negSucc f) => some (0, f)
noncomputable def nv9 (r : Option Dr) : Option Dr := match r with
  | some (1, j) => some (0, j)
  | r => r
noncomputable def tl9 (K : Tkn) (F : Rdf) (d j : Nat) : Option Dr := match F 2 d j with
  | none => none
  | some (Int.negSucc f) => some (0, f)
  | some (Int.ofNat k) => if K.c k = 15 then cn9r (ftr K (K.n k)) else if K.c k = 14 then cn9r (F 1 d (K.n k)) else some (1, k)
noncomputable def par9 (K : Tkn) (F : Rdf) (d : Nat) (s : Option Dr) : Option Dr := match s with
  | none => none
  | some (0, f) => some (0, f)
  | some (1, j) => if K.c j = 11 then tl9 K F d (K.n j) else some (0, j)
  | some (_ + 2, j) => if K.c j = 11 then some (2, K.n j) else some (0, j)
noncomputable def vl9 (K : Tkn) (F : Rdf) (d : Nat) (r : Option Int) : Option Dr := match r with
  | none => none
  | some (Int.negSucc f) => some (0, f)
  | some (Int.ofNat j) => tl9 K F d j
noncomputable def un9 (K : Tkn) (F : Rdf) (G : Drf) (d p : Nat) : Option Dr :=
  if K.c p = 1 then (if 20 ≤ d then some (0, p) else nv9 (G 0 (d + 1) (K.n p)))
  else if K.c p = 2 then cn9r (ftr K (K.n p))
  else if K.c p = 3 then (if 20 ≤ d then some (0, p) else par9 K F d (G 1 (d + 1) (K.n p)))
  else vl9 K F d (F 0 d p)
/-- behind a part: more of them -/
noncomputable def mo9 (G : Drf) (d : Nat) (first : Bool) (s : Option Dr) : Option Dr := match s with
  | none => none
  | some (0, f) => some (0, f)
  | some (1, j) => bif first then some (1, j) else some (0, j)
  | some (_ + 2, j) => G 2 d j
noncomputable def gb9 (K : Tkn) (F : Rdf) (G : Drf) (m d p : Nat) : Option Dr := match m with
  | 0 => un9 K F G d p
  | 1 => mo9 G d true (G 0 d p)
  | _ => if K.c p = 16 ∨ K.c p = 17 then mo9 G d false (G 0 d (K.n p)) else some (2, p)
noncomputable def gd9 (K : Tkn) : Nat → Drf
  | 0 => fun _ _ _ => none
  | n + 1 => gb9 K (rd9 K n) (gd9 K n)
section R61
variable {K : Tkn}
theorem tl_mono {F F' : Rdf} (hF : ∀ m d p r, F m d p = some r → F' m d p = some r) {d j : Nat} {s : Dr} (h : tl9 K F d j = some s) : tl9 K F' d j = some s := by
  unfold tl9 at h ⊢
  cases e : F 2 d j with
  | none => rw [e] at h; cases h
  | some x =>
    rw [hF _ _ _ _ e]
    rw [e] at h
    cases x with
    | negSucc f => exact h
    | ofNat k =>
      dsimp only at h ⊢
      split at h
      · rename_i h1; rw [if_pos h1]; exact h
      · rename_i h1
        rw [if_neg h1]
        split at h
        · rename_i h2
          rw [if_pos h2]
          cases e2 : F 1 d (K.n k) with
          | none => rw [e2] at h; cases h
          | some y => rw [hF _ _ _ _ e2]; rw [e2] at h; exact h
        · rename_i h2; rw [if_neg h2]; exact h
theorem gb_mono {F F' : Rdf} {G G' : Drf} (hF : ∀ m d p r, F m d p = some r → F' m d p = some r) (hG : ∀ m d p s, G m d p = some s → G' m d p = some s) {m d p : Nat} {s : Dr} (h : gb9 K F G m d p = some s) : gb9 K F' G' m d p = some s := by
  have hm : ∀ b d a a' s, (∀ s, a = some s → a' = some s) → mo9 G d b a = some s → mo9 G' d b a' = some s := fun b d a a' s ha h => by
    cases a with
    | none => cases h
    | some x =>
      rw [ha x rfl]
      obtain ⟨x1, x2⟩ := x
      rcases x1 with _ | _ | x1
      · exact h
      · exact h
      · exact hG _ _ _ _ h
  rcases m with _ | _ | m
  · have h : un9 K F G d p = some s := h
    show un9 K F' G' d p = some s
    unfold un9 at h ⊢
    split at h
    · rename_i h1
      rw [if_pos h1]
      split at h
      · rename_i h2; rw [if_pos h2]; exact h
      · rename_i h2
        rw [if_neg h2]
        cases e : G 0 (d + 1) (K.n p) with
        | none => rw [e] at h; cases h
        | some x => rw [hG _ _ _ _ e]; rw [e] at h; exact h
    · rename_i h1
      rw [if_neg h1]
      split at h
      · rename_i h2; rw [if_pos h2]; exact h
      · rename_i h2
        rw [if_neg h2]
        split at h
        · rename_i h3
          rw [if_pos h3]
          split at h
          · rename_i h4; rw [if_pos h4]; exact h
          · rename_i h4
            rw [if_neg h4]
            cases e : G 1 (d + 1) (K.n p) with
            | none => rw [e] at h; cases h
            | some x =>
              rw [hG _ _ _ _ e]
              rw [e] at h
              obtain ⟨x1, x2⟩ := x
              rcases x1 with _ | _ | x1
              · exact h
              · have h : (if K.c x2 = 11 then tl9 K F d (K.n x2) else some (0, x2)) = some s := h
                show (if K.c x2 = 11 then tl9 K F' d (K.n x2) else some (0, x2)) = some s
                split at h
                · rename_i h5; rw [if_pos h5]; exact tl_mono hF h
                · rename_i h5; rw [if_neg h5]; exact h
              · exact h
        · rename_i h3
          rw [if_neg h3]
          cases e : F 0 d p with
          | none => rw [e] at h; cases h
          | some x =>
            rw [hF _ _ _ _ e]
            rw [e] at h
            cases x with
            | negSucc f => exact h
            | ofNat j => exact tl_mono hF h
  · exact hm true d _ _ s (fun s => hG _ _ _ s) h
  · have h : (if K.c p = 16 ∨ K.c p = 17 then mo9 G d false (G 0 d (K.n p)) else some (2, p)) = some s := h
    show (if K.c p = 16 ∨ K.c p = 17 then mo9 G' d false (G' 0 d (K.n p)) else some (2, p)) = some s
    split at h
    · rename_i h1; rw [if_pos h1]; exact hm false d _ _ s (fun s => hG _ _ _ s) h
    · rename_i h1; rw [if_neg h1]; exact h
theorem gd9_up : ∀ {n m d p : Nat} {s : Dr}, gd9 K n m d p = some s → gd9 K (n + 1) m d p = some s
  | 0, _, _, _, _, h => by cases h
  | n + 1, m, d, p, s, h => gb_mono (F := rd9 K n) (F' := rd9 K (n + 1)) (G := gd9 K n) (G' := gd9 K (n + 1)) (fun m d p r q => rd9_up q) (fun m d p s q => gd9_up q) h
theorem gd9_le {n m d p : Nat} {s : Dr} (h : gd9 K n m d p = some s) : ∀ k, gd9 K (n + k) m d p = some s
  | 0 => h
  | k + 1 => gd9_up (gd9_le h k)
theorem gd9_det {n n' m d p : Nat} {s s' : Dr} (h : gd9 K n m d p = some s) (h' : gd9 K n' m d p = some s') : s = s' := by
  have a := gd9_le h n'
  have b := gd9_le h' n
  rw [Nat.add_comm n' n] at b
  exact Option.some.inj (a.symm.trans b)
/-- places never go back -/
noncomputable def Plc (p : Nat) (r : Int) : Prop := match r with
  | Int.ofNat j => p ≤ j
  | Int.negSucc f => p ≤ f
theorem Plc.le {p q : Nat} {r : Int} (h : Plc q r) (hp : p ≤ q) : Plc p r := by
  cases r with
  | ofNat j => exact Nat.le_trans hp h
  | negSucc f => exact Nat.le_trans hp h
theorem ftr_pl (hn : ∀ p, p ≤ K.n p) {p : Nat} {r : Int} (h : ftr K p = some r) : Plc p r := by
  have h1 := hn p
  have h2 := hn (K.n p)
  have h3 := hn (K.n (K.n p))
  unfold ftr at h
  split at h
  · split at h
    · split at h
      · rw [← Option.some.inj h]; exact Nat.le_trans h1 (Nat.le_trans h2 h3)
      · rw [← Option.some.inj h]; exact Nat.le_trans h1 h2
    · rw [← Option.some.inj h]; exact h1
  · rw [← Option.some.inj h]; exact Nat.le_refl p
theorem sgn_pl (hn : ∀ p, p ≤ K.n p) {k p : Nat} {r : Int} (h : sgn K k p = some r) : Plc p r := by
  unfold sgn at h
  split at h
  · rw [← Option.some.inj h]; exact hn p
  · rw [← Option.some.inj h]; exact Nat.le_refl p
theorem bnd_pl {p q : Nat} {a : Option Int} {f : Nat → Option Int} {r : Int} (hp : p ≤ q) (h : bnd a f = some r) (h1 : ∀ r, a = some r → Plc q r) (h2 : ∀ j r, f j = some r → Plc j r) : Plc p r := by
  rcases bnd_some h with ⟨j, e1, e2⟩ | ⟨g, e1, e2⟩
  · exact (h2 j r e2).le (Nat.le_trans hp (h1 _ e1))
  · rw [e2]; exact Nat.le_trans hp (h1 _ e1)
theorem rd9_pl (hn : ∀ p, p ≤ K.n p) : ∀ {n m d p : Nat} {r : Int}, rd9 K n m d p = some r → Plc p r
  | 0, _, _, _, _, h => by cases h
  | n + 1, m, d, p, r, h => by
    have ih : ∀ {m d p : Nat} {r : Int}, rd9 K n m d p = some r → Plc p r := fun h => rd9_pl hn h
    have h : bod K (rd9 K n) m d p = some r := h
    rcases m with _ | _ | _ | _ | _ | _ | m
    · have h : trm K (rd9 K n) d p = some r := h
      unfold trm at h
      split at h
      · split at h
        · rw [← Option.some.inj h]; exact Nat.le_refl p
        · exact (ih h).le (hn p)
      · split at h
        · split at h
          · rw [← Option.some.inj h]; exact Nat.le_refl p
          · exact bnd_pl (hn p) h (fun r q => ih q) (fun j r q => sgn_pl hn q)
        · split at h
          · rw [← Option.some.inj h]; exact hn p
          · split at h
            · exact (ftr_pl hn h).le (hn p)
            · refine bnd_pl (Nat.le_refl p) h (fun r q => ftr_pl hn q) (fun j r q => ?_)
              unfold itm at q
              split at q
              · split at q
                · rw [← Option.some.inj q]; exact Nat.le_refl j
                · exact bnd_pl (hn j) q (fun r q => ih q) (fun j r q => sgn_pl hn q)
              · rw [← Option.some.inj q]; exact Nat.le_refl j
    · exact bnd_pl (a := rd9 K n 0 d p) (Nat.le_refl p) h (fun r q => ih q) (fun j r q => ih q)
    · have h : smr K (rd9 K n) d p = some r := h
      unfold smr at h
      split at h
      · exact bnd_pl (hn p) h (fun r q => ih q) (fun j r q => ih q)
      · rw [← Option.some.inj h]; exact Nat.le_refl p
    · exact bnd_pl (a := rd9 K n 5 d p) (Nat.le_refl p) h (fun r q => ih q) (fun j r q => ih q)
    · have h : clp K (rd9 K n) d p = some r := h
      unfold clp at h
      split at h
      · exact bnd_pl (hn p) h (fun r q => ih q) (fun j r q => ih q)
      · rw [← Option.some.inj h]; exact Nat.le_refl p
    · have h : suc K (rd9 K n) d p = some r := h
      unfold suc at h
      split at h
      · split at h
        · rw [← Option.some.inj h]; exact Nat.le_refl p
        · exact (ih h).le (hn p)
      · split at h
        · exact (ftr_pl hn h).le (hn p)
        · split at h
          · split at h
            · rw [← Option.some.inj h]; exact Nat.le_refl p
            · cases ea : bnd (rd9 K n 3 (d + 1) (K.n p)) (sgn K 11) with
              | none => rw [ea] at h; cases h
              | some x =>
                have hx : Plc p x := bnd_pl (hn p) ea (fun r q => ih q) (fun j r q => sgn_pl hn q)
                rw [ea] at h
                cases x with
                | ofNat j => rw [← Option.some.inj h]; exact hx
                | negSucc f =>
                  cases eb : rd9 K n 6 d p with
                  | none => rw [eb] at h; cases h
                  | some y =>
                    have hy := ih eb
                    rw [eb] at h
                    cases y with
                    | ofNat j => rw [← Option.some.inj h]; exact hy
                    | negSucc g => rw [← Option.some.inj h]; exact Nat.le_trans hx (Nat.le_max_left f g)
          · exact ih h
    · refine bnd_pl (a := rd9 K n 1 d p) (Nat.le_refl p) h (fun r q => ih q) (fun j r q => ?_)
      unfold aft at q
      split at q
      · exact (ftr_pl hn q).le (hn j)
      · split at q
        · exact (ih q).le (hn j)
        · rw [← Option.some.inj q]; exact Nat.le_refl j
theorem cn_pl {p : Nat} {r : Option Int} {s : Dr} (h : cn9r r = some s) (hr : ∀ x, r = some x → Plc p x) : p ≤ s.2 := by
  cases r with
  | none => cases h
  | some x =>
    have hx := hr x rfl
    cases x with
    | ofNat j => rw [← Option.some.inj h]; exact hx
    | negSucc f => rw [← Option.some.inj h]; exact hx
theorem tl_pl (hn : ∀ p, p ≤ K.n p) {n d j : Nat} {s : Dr} (h : tl9 K (rd9 K n) d j = some s) : j ≤ s.2 := by
  unfold tl9 at h
  cases e : rd9 K n 2 d j with
  | none => rw [e] at h; cases h
  | some x =>
    have hx := rd9_pl hn e
    rw [e] at h
    cases x with
    | negSucc f => rw [← Option.some.inj h]; exact hx
    | ofNat k =>
      have hx : j ≤ k := hx
      have hk := hn k
      dsimp only at h
      split at h
      · exact Nat.le_trans hx (Nat.le_trans hk (cn_pl h (fun x q => ftr_pl hn q)))
      · split at h
        · exact Nat.le_trans hx (Nat.le_trans hk (cn_pl h (fun x q => rd9_pl hn q)))
        · rw [← Option.some.inj h]; exact hx
theorem gd9_pl (hn : ∀ p, p ≤ K.n p) : ∀ {n m d p : Nat} {s : Dr}, gd9 K n m d p = some s → p ≤ s.2
  | 0, _, _, _, _, h => by cases h
  | n + 1, m, d, p, s, h => by
    have ih : ∀ {m d p : Nat} {s : Dr}, gd9 K n m d p = some s → p ≤ s.2 := fun h => gd9_pl hn h
    have h : gb9 K (rd9 K n) (gd9 K n) m d p = some s := h
    have hm : ∀ b d q s, mo9 (gd9 K n) d b (gd9 K n 0 d q) = some s → q ≤ s.2 := fun b d q s h => by
      cases e : gd9 K n 0 d q with
      | none => rw [e] at h; cases h
      | some x =>
        have hx := ih e
        rw [e] at h
        obtain ⟨x1, x2⟩ := x
        have hx : q ≤ x2 := hx
        rcases x1 with _ | _ | x1
        · rw [← Option.some.inj h]; exact hx
        · cases b with
          | true => rw [← Option.some.inj h]; exact hx
          | false => rw [← Option.some.inj h]; exact hx
        · exact Nat.le_trans hx (ih h)
    rcases m with _ | _ | m
    · have h : un9 K (rd9 K n) (gd9 K n) d p = some s := h
      unfold un9 at h
      split at h
      · split at h
        · rw [← Option.some.inj h]; exact Nat.le_refl p
        · cases e : gd9 K n 0 (d + 1) (K.n p) with
          | none => rw [e] at h; cases h
          | some x =>
            have hx := Nat.le_trans (hn p) (ih e)
            rw [e] at h
            obtain ⟨x1, x2⟩ := x
            rcases x1 with _ | _ | x1
            · rw [← Option.some.inj h]; exact hx
            · rw [← Option.some.inj h]; exact hx
            · rw [← Option.some.inj h]; exact hx
      · split at h
        · exact Nat.le_trans (hn p) (cn_pl h (fun x q => ftr_pl hn q))
        · split at h
          · split at h
            · rw [← Option.some.inj h]; exact Nat.le_refl p
            · cases e : gd9 K n 1 (d + 1) (K.n p) with
              | none => rw [e] at h; cases h
              | some x =>
                have hx := Nat.le_trans (hn p) (ih e)
                rw [e] at h
                obtain ⟨x1, x2⟩ := x
                have hx : p ≤ x2 := hx
                rcases x1 with _ | _ | x1
                · rw [← Option.some.inj h]; exact hx
                · have h : (if K.c x2 = 11 then tl9 K (rd9 K n) d (K.n x2) else some (0, x2)) = some s := h
                  split at h
                  · exact Nat.le_trans hx (Nat.le_trans (hn x2) (tl_pl hn h))
                  · rw [← Option.some.inj h]; exact hx
                · have h : (if K.c x2 = 11 then some (2, K.n x2) else some (0, x2)) = some s := h
                  split at h
                  · rw [← Option.some.inj h]; exact Nat.le_trans hx (hn x2)
                  · rw [← Option.some.inj h]; exact hx
          · cases e : rd9 K n 0 d p with
            | none => rw [e] at h; cases h
            | some x =>
              have hx := rd9_pl hn e
              rw [e] at h
              cases x with
              | negSucc f => rw [← Option.some.inj h]; exact hx
              | ofNat j => exact Nat.le_trans hx (tl_pl hn h)
    · exact hm true d p s h
    · have h : (if K.c p = 16 ∨ K.c p = 17 then mo9 (gd9 K n) d false (gd9 K n 0 d (K.n p)) else some (2, p)) = some s := h
      split at h
      · exact Nat.le_trans (hn p) (hm false d _ s h)
      · rw [← Option.some.inj h]; exact Nat.le_refl p
end R61
end
section
/-! ===== THE READER, 62: trying comes to what reading once comes to ===== -/
section R62
variable {K : Tkn}
theorem nv_ne {a : Option Dr} {s : Dr} (h : nv9 a = some s) : s.1 ≠ 1 := by
  cases a with
  | none => cases h
  | some x =>
    obtain ⟨x1, x2⟩ := x
    rcases x1 with _ | _ | x1
    · rw [← Option.some.inj h]; exact (by decide : (0 : Nat) ≠ 1)
    · rw [← Option.some.inj h]; exact (by decide : (0 : Nat) ≠ 1)
    · rw [← Option.some.inj h]; exact (by omega : x1 + 2 ≠ 1)
theorem cn_ne {a : Option Int} {s : Dr} (h : cn9r a = some s) : s.1 ≠ 1 := by
  cases a with
  | none => cases h
  | some x =>
    cases x with
    | ofNat j => rw [← Option.some.inj h]; exact (by decide : (2 : Nat) ≠ 1)
    | negSucc f => rw [← Option.some.inj h]; exact (by decide : (0 : Nat) ≠ 1)
theorem gd9_two : ∀ {n d p : Nat} {s : Dr}, gd9 K n 2 d p = some s → s.1 ≠ 1
  | 0, _, _, _, h => by cases h
  | n + 1, d, p, s, h => by
    have h : (if K.c p = 16 ∨ K.c p = 17 then mo9 (gd9 K n) d false (gd9 K n 0 d (K.n p)) else some (2, p)) = some s := h
    split at h
    · cases e : gd9 K n 0 d (K.n p) with
      | none => rw [e] at h; cases h
      | some x =>
        rw [e] at h
        obtain ⟨x1, x2⟩ := x
        rcases x1 with _ | _ | x1
        · rw [← Option.some.inj h]; exact (by decide : (0 : Nat) ≠ 1)
        · rw [← Option.some.inj h]; exact (by decide : (0 : Nat) ≠ 1)
        · exact gd9_two h
    · rw [← Option.some.inj h]; exact (by decide : (2 : Nat) ≠ 1)
/-- a sum against what it is read as -/
noncomputable def VS (K : Tkn) (s : Dr) (r : Int) : Prop := (s.1 = 1 → r = Int.ofNat s.2) ∧ (s.1 ≠ 1 → (∃ f, r = Int.negSucc f ∧ f ≤ s.2) ∨ ∃ k, r = Int.ofNat k ∧ k ≤ s.2 ∧ (K.c k = 14 ∨ K.c k = 15))
theorem sum_inv {n d p : Nat} {r : Int} (h : rd9 K n 1 d p = some r) : ∃ n', (∃ j, rd9 K n' 0 d p = okR j ∧ rd9 K n' 2 d j = some r) ∨ ∃ g, rd9 K n' 0 d p = bdR g ∧ r = Int.negSucc g := by
  cases n with
  | zero => cases h
  | succ n => exact ⟨n, bnd_some (a := rd9 K n 0 d p) (f := rd9 K n 2 d) h⟩
theorem trm_no {n d p : Nat} {r : Int} (h : rd9 K n 0 d p = some r) (h1 : K.c p = 1 ∨ K.c p = 2) : r = Int.negSucc p := by
  cases n with
  | zero => cases h
  | succ n =>
    have h : trm K (rd9 K n) d p = some r := h
    unfold trm at h
    rw [if_neg (by omega), if_neg (by omega), if_neg (by omega), if_neg (by omega)] at h
    have e : ftr K p = bdR p := by
      unfold ftr
      exact if_neg (by omega)
    rw [e] at h
    exact (Option.some.inj h).symm
theorem trm_par {n d p : Nat} {r : Int} (h : rd9 K n 0 d p = some r) (h1 : K.c p = 3) (hd : ¬ 20 ≤ d) : ∃ n', bnd (rd9 K n' 1 (d + 1) (K.n p)) (sgn K 11) = some r := by
  cases n with
  | zero => cases h
  | succ n =>
    have h : trm K (rd9 K n) d p = some r := h
    unfold trm at h
    rw [if_neg (by omega), if_pos h1, if_neg hd] at h
    exact ⟨n, h⟩
theorem trm_deep {n d p : Nat} {r : Int} (h : rd9 K n 0 d p = some r) (h1 : K.c p = 3) (hd : 20 ≤ d) : r = Int.negSucc p := by
  cases n with
  | zero => cases h
  | succ n =>
    have h : trm K (rd9 K n) d p = some r := h
    unfold trm at h
    rw [if_neg (by omega), if_pos h1, if_pos hd] at h
    exact (Option.some.inj h).symm
theorem tl_vs (hn : ∀ p, p ≤ K.n p) {N n d j : Nat} {s : Dr} {r : Int} (h : tl9 K (rd9 K N) d j = some s) (hr : rd9 K n 2 d j = some r) : VS K s r := by
  unfold tl9 at h
  cases e : rd9 K N 2 d j with
  | none => rw [e] at h; cases h
  | some x =>
    have ex := rd9_det e hr
    subst ex
    rw [e] at h
    cases x with
    | negSucc f => rw [← Option.some.inj h]; exact ⟨fun q => no8 q, fun _ => Or.inl ⟨f, rfl, Nat.le_refl f⟩⟩
    | ofNat k =>
      dsimp only at h
      split at h
      · rename_i h1
        exact ⟨fun q => absurd q (cn_ne h), fun _ => Or.inr ⟨k, rfl, Nat.le_trans (hn k) (cn_pl h (fun x q => ftr_pl hn q)), Or.inr h1⟩⟩
      · split at h
        · rename_i h2
          exact ⟨fun q => absurd q (cn_ne h), fun _ => Or.inr ⟨k, rfl, Nat.le_trans (hn k) (cn_pl h (fun x q => rd9_pl hn q)), Or.inl h2⟩⟩
        · rw [← Option.some.inj h]; exact ⟨fun _ => rfl, fun q => absurd rfl q⟩
theorem sgn_some {k j : Nat} {r : Int} (h : sgn K k j = some r) : (K.c j = k ∧ r = Int.ofNat (K.n j)) ∨ (K.c j ≠ k ∧ r = Int.negSucc j) := by
  unfold sgn at h
  split at h
  · rename_i h1; exact Or.inl ⟨h1, (Option.some.inj h).symm⟩
  · rename_i h1; exact Or.inr ⟨h1, (Option.some.inj h).symm⟩
theorem sd (hn : ∀ p, p ≤ K.n p) : ∀ {N m d p : Nat} {s : Dr}, gd9 K N m d p = some s → m < 2 → ∀ {n : Nat} {r : Int}, rd9 K n 1 d p = some r → VS K s r
  | 0, _, _, _, _, h, _, _, _, _ => by cases h
  | N + 1, m, d, p, s, h0, hm, n, r, hr => by
    have h : gb9 K (rd9 K N) (gd9 K N) m d p = some s := h0
    rcases m with _ | _ | m
    · have hs : p ≤ s.2 := gd9_pl hn h0
      have h : un9 K (rd9 K N) (gd9 K N) d p = some s := h
      unfold un9 at h
      obtain ⟨n', q⟩ := sum_inv hr
      by_cases h1 : K.c p = 1
      · rw [if_pos h1] at h
        have er : r = Int.negSucc p := by
          rcases q with ⟨j, a, _⟩ | ⟨g, a, b⟩
          · cases trm_no a (Or.inl h1)
          · rw [b]; exact trm_no a (Or.inl h1)
        refine ⟨fun e => ?_, fun _ => Or.inl ⟨p, er, hs⟩⟩
        split at h
        · rw [← Option.some.inj h] at e; exact no8 e
        · exact absurd e (nv_ne h)
      · rw [if_neg h1] at h
        by_cases h2 : K.c p = 2
        · rw [if_pos h2] at h
          have er : r = Int.negSucc p := by
            rcases q with ⟨j, a, _⟩ | ⟨g, a, b⟩
            · cases trm_no a (Or.inr h2)
            · rw [b]; exact trm_no a (Or.inr h2)
          exact ⟨fun e => absurd e (cn_ne h), fun _ => Or.inl ⟨p, er, hs⟩⟩
        · rw [if_neg h2] at h
          by_cases h3 : K.c p = 3
          · rw [if_pos h3] at h
            by_cases hd : 20 ≤ d
            · rw [if_pos hd] at h
              have er : r = Int.negSucc p := by
                rcases q with ⟨j, a, _⟩ | ⟨g, a, b⟩
                · cases trm_deep a h3 hd
                · rw [b]; exact trm_deep a h3 hd
              rw [← Option.some.inj h]
              exact ⟨fun e => no8 e, fun _ => Or.inl ⟨p, er, Nat.le_refl p⟩⟩
            · rw [if_neg hd] at h
              cases e : gd9 K N 1 (d + 1) (K.n p) with
              | none => rw [e] at h; cases h
              | some x =>
                have ih : ∀ {n : Nat} {r : Int}, rd9 K n 1 (d + 1) (K.n p) = some r → VS K x r := fun q => sd hn e (by decide) q
                rw [e] at h
                obtain ⟨x1, x2⟩ := x
                by_cases hx : x1 = 1
                · subst hx
                  have h : (if K.c x2 = 11 then tl9 K (rd9 K N) d (K.n x2) else some (0, x2)) = some s := h
                  rcases q with ⟨j, a, b⟩ | ⟨g, a, b⟩
                  · obtain ⟨n2, c⟩ := trm_par a h3 hd
                    rcases bnd_some c with ⟨i, c1, c2⟩ | ⟨i, _, c2⟩
                    · have ei := Int.ofNat.inj ((ih c1).1 rfl)
                      have ei : i = x2 := ei
                      subst ei
                      rcases sgn_some c2 with ⟨c3, c4⟩ | ⟨_, c4⟩
                      · have ej := Int.ofNat.inj c4
                        rw [if_pos c3] at h
                        rw [ej] at b
                        exact tl_vs hn h b
                      · cases c4
                    · cases c2
                  · obtain ⟨n2, c⟩ := trm_par a h3 hd
                    rcases bnd_some c with ⟨i, c1, c2⟩ | ⟨i, c1, c2⟩
                    · have ei : i = x2 := Int.ofNat.inj ((ih c1).1 rfl)
                      subst ei
                      rcases sgn_some c2 with ⟨_, c4⟩ | ⟨c3, c4⟩
                      · cases c4
                      · rw [if_neg c3] at h
                        rw [← Option.some.inj h]
                        exact ⟨fun e => no8 e, fun _ => Or.inl ⟨g, b, by have := Int.negSucc.inj c4; show g ≤ i; omega⟩⟩
                    · cases (ih c1).1 rfl
                · have hx' : VS K s r → VS K s r := fun z => z
                  have hs2 : s.1 ≠ 1 ∧ x2 ≤ s.2 := by
                    rcases x1 with _ | _ | x1
                    · rw [← Option.some.inj h]; exact ⟨(by decide : (0 : Nat) ≠ 1), Nat.le_refl x2⟩
                    · exact absurd rfl hx
                    · have h : (if K.c x2 = 11 then some (2, K.n x2) else some (0, x2)) = some s := h
                      split at h
                      · rw [← Option.some.inj h]; exact ⟨(by decide : (2 : Nat) ≠ 1), hn x2⟩
                      · rw [← Option.some.inj h]; exact ⟨(by decide : (0 : Nat) ≠ 1), Nat.le_refl x2⟩
                  refine ⟨fun e => absurd e hs2.1, fun _ => Or.inl ?_⟩
                  rcases q with ⟨j, a, b⟩ | ⟨g, a, b⟩
                  · obtain ⟨n2, c⟩ := trm_par a h3 hd
                    rcases bnd_some c with ⟨i, c1, c2⟩ | ⟨i, _, c2⟩
                    · rcases sgn_some c2 with ⟨c3, _⟩ | ⟨_, c4⟩
                      · rcases (ih c1).2 hx with ⟨f, e1, _⟩ | ⟨k, e1, _, e3⟩
                        · cases e1
                        · have ek := Int.ofNat.inj e1
                          rw [ek] at c3
                          omega
                      · cases c4
                    · cases c2
                  · obtain ⟨n2, c⟩ := trm_par a h3 hd
                    refine ⟨g, b, ?_⟩
                    rcases bnd_some c with ⟨i, c1, c2⟩ | ⟨i, c1, c2⟩
                    · rcases sgn_some c2 with ⟨_, c4⟩ | ⟨_, c4⟩
                      · cases c4
                      · have eg := Int.negSucc.inj c4
                        rcases (ih c1).2 hx with ⟨f, e1, _⟩ | ⟨k, e1, e2, _⟩
                        · cases e1
                        · have ek := Int.ofNat.inj e1
                          have e2 : k ≤ x2 := e2
                          omega
                    · have eg := Int.negSucc.inj c2
                      rcases (ih c1).2 hx with ⟨f, e1, e2⟩ | ⟨k, e1, _⟩
                      · have ef := Int.negSucc.inj e1
                        have e2 : f ≤ x2 := e2
                        omega
                      · cases e1
          · rw [if_neg h3] at h
            cases e : rd9 K N 0 d p with
            | none => rw [e] at h; cases h
            | some x =>
              rw [e] at h
              cases x with
              | negSucc f =>
                rw [← Option.some.inj h]
                refine ⟨fun e => no8 e, fun _ => Or.inl ⟨f, ?_, Nat.le_refl f⟩⟩
                rcases q with ⟨j, a, _⟩ | ⟨g, a, b⟩
                · cases rd9_det e a
                · rw [b]; exact (rd9_det e a).symm
              | ofNat j =>
                rcases q with ⟨j', a, b⟩ | ⟨g, a, _⟩
                · have ej := Int.ofNat.inj (rd9_det e a)
                  rw [← ej] at b
                  exact tl_vs hn h b
                · cases rd9_det e a
    · have h : mo9 (gd9 K N) d true (gd9 K N 0 d p) = some s := h
      cases e : gd9 K N 0 d p with
      | none => rw [e] at h; cases h
      | some x =>
        have ih := sd hn e (by decide) hr
        rw [e] at h
        obtain ⟨x1, x2⟩ := x
        rcases x1 with _ | _ | x1
        · rw [← Option.some.inj h]; exact ih
        · rw [← Option.some.inj h]; exact ih
        · have h : gd9 K N 2 d x2 = some s := h
          have h2 : x2 ≤ s.2 := gd9_pl hn h
          refine ⟨fun e => absurd e (gd9_two h), fun _ => ?_⟩
          rcases ih.2 (by show x1 + 2 ≠ 1; omega) with ⟨f, e1, e2⟩ | ⟨k, e1, e2, e3⟩
          · exact Or.inl ⟨f, e1, Nat.le_trans e2 h2⟩
          · exact Or.inr ⟨k, e1, Nat.le_trans e2 h2, e3⟩
    · omega
/-- what trying comes to, of what is read once -/
noncomputable def RL (s : Dr) (r : Int) : Prop := (s.1 < 2 → r = Int.negSucc s.2) ∧ (2 ≤ s.1 → r = Int.ofNat s.2)
theorem aft_mono {n n' d j : Nat} {r : Int} (hn : n ≤ n') (h : aft K (rd9 K n) d j = some r) : aft K (rd9 K n') d j = some r := by
  obtain ⟨k, rfl⟩ := Nat.le.dest hn
  unfold aft at h ⊢
  split at h
  · rename_i h1; rw [if_pos h1]; exact h
  · rename_i h1
    rw [if_neg h1]
    split at h
    · rename_i h2; rw [if_pos h2]; exact rd9_le h k
    · rename_i h2; rw [if_neg h2]; exact h
theorem cmp_inv {n d p : Nat} {y : Int} (h : rd9 K n 6 d p = some y) : ∃ n', (∃ f, rd9 K n' 0 d p = bdR f ∧ y = Int.negSucc f) ∨ ∃ j, rd9 K n' 0 d p = okR j ∧ bnd (rd9 K n' 2 d j) (aft K (rd9 K n') d) = some y := by
  cases n with
  | zero => cases h
  | succ k =>
    have h : bnd (rd9 K k 1 d p) (aft K (rd9 K k) d) = some y := h
    cases k with
    | zero => cases h
    | succ k =>
      rcases bnd_some h with ⟨i, e1, e2⟩ | ⟨g, e1, e2⟩
      · rcases bnd_some (a := rd9 K k 0 d p) (f := rd9 K k 2 d) e1 with ⟨j, c1, c2⟩ | ⟨g, _, c2⟩
        · refine ⟨k + 1, Or.inr ⟨j, rd9_up c1, ?_⟩⟩
          rw [rd9_up c2]
          exact e2
        · cases c2
      · rcases bnd_some (a := rd9 K k 0 d p) (f := rd9 K k 2 d) e1 with ⟨j, c1, c2⟩ | ⟨g', c1, c2⟩
        · refine ⟨k + 1, Or.inr ⟨j, rd9_up c1, ?_⟩⟩
          rw [rd9_up c2, e2]
          rfl
        · exact ⟨k, Or.inl ⟨g', c1, e2.trans c2⟩⟩
theorem tl_aft {n d q : Nat} {y : Int} (h : bnd (rd9 K n 2 d q) (aft K (rd9 K n) d) = some y) : ∃ s, tl9 K (rd9 K n) d q = some s ∧ RL s y := by
  rcases bnd_some h with ⟨k, e1, e2⟩ | ⟨f, e1, e2⟩
  · have e0 : tl9 K (rd9 K n) d q = if K.c k = 15 then cn9r (ftr K (K.n k)) else if K.c k = 14 then cn9r (rd9 K n 1 d (K.n k)) else some (1, k) := by
      unfold tl9
      rw [e1]
    have cn : ∀ {r : Option Int}, r = some y → ∃ s, cn9r r = some s ∧ RL s y := fun {r} e => by
      rw [e]
      cases y with
      | ofNat j => exact ⟨(2, j), rfl, fun q => no8 q, fun _ => rfl⟩
      | negSucc f => exact ⟨(0, f), rfl, fun _ => rfl, fun q => no8 q⟩
    unfold aft at e2
    split at e2
    · rename_i h1
      obtain ⟨s, a, b⟩ := cn e2
      exact ⟨s, by rw [e0, if_pos h1]; exact a, b⟩
    · rename_i h1
      split at e2
      · rename_i h2
        obtain ⟨s, a, b⟩ := cn e2
        exact ⟨s, by rw [e0, if_neg h1, if_pos h2]; exact a, b⟩
      · rename_i h2
        exact ⟨(1, k), by rw [e0, if_neg h1, if_neg h2], fun _ => (Option.some.inj e2).symm, fun q => no8 q⟩
  · refine ⟨(0, f), ?_, fun _ => e2, fun q => no8 q⟩
    unfold tl9
    rw [e1]
/-- a comparison that begins with a bracket -/
theorem cmp_par (hn : ∀ p, p ≤ K.n p) {n N d p : Nat} {y : Int} {s : Dr} (h : rd9 K n 6 d p = some y) (h3 : K.c p = 3) (hd : ¬ 20 ≤ d) (hs : gd9 K N 1 (d + 1) (K.n p) = some s) : (s.1 ≠ 1 → ∃ f, y = Int.negSucc f ∧ f ≤ s.2) ∧ (s.1 = 1 → (K.c s.2 = 11 → ∃ n', bnd (rd9 K n' 2 d (K.n s.2)) (aft K (rd9 K n') d) = some y) ∧ (K.c s.2 ≠ 11 → y = Int.negSucc s.2)) := by
  obtain ⟨n', q⟩ := cmp_inv h
  have ih : ∀ {n : Nat} {r : Int}, rd9 K n 1 (d + 1) (K.n p) = some r → VS K s r := fun q => sd hn hs (by decide) q
  rcases q with ⟨f, a, b⟩ | ⟨j, a, b⟩
  · obtain ⟨n2, c⟩ := trm_par a h3 hd
    rcases bnd_some c with ⟨i, c1, c2⟩ | ⟨i, c1, c2⟩
    · rcases sgn_some c2 with ⟨_, c4⟩ | ⟨c3, c4⟩
      · cases c4
      · have ef := Int.negSucc.inj c4
        refine ⟨fun e => ⟨f, b, ?_⟩, fun e => ?_⟩
        · rcases (ih c1).2 e with ⟨g, e1, _⟩ | ⟨k, e1, e2, _⟩
          · cases e1
          · have ek := Int.ofNat.inj e1
            omega
        · have ei := Int.ofNat.inj ((ih c1).1 e)
          refine ⟨fun g => absurd g (by rw [← ei]; exact c3), fun _ => ?_⟩
          rw [b, ef, ei]
    · have ef := Int.negSucc.inj c2
      refine ⟨fun e => ⟨f, b, ?_⟩, fun e => ?_⟩
      · rcases (ih c1).2 e with ⟨g, e1, e2⟩ | ⟨k, e1, _⟩
        · have eg := Int.negSucc.inj e1
          omega
        · cases e1
      · cases (ih c1).1 e
  · obtain ⟨n2, c⟩ := trm_par a h3 hd
    rcases bnd_some c with ⟨i, c1, c2⟩ | ⟨i, _, c2⟩
    · rcases sgn_some c2 with ⟨c3, c4⟩ | ⟨_, c4⟩
      · have ej := Int.ofNat.inj c4
        refine ⟨fun e => ?_, fun e => ?_⟩
        · rcases (ih c1).2 e with ⟨g, e1, _⟩ | ⟨k, e1, _, e3⟩
          · cases e1
          · have ek := Int.ofNat.inj e1
            rw [ek] at c3
            omega
        · have ei := Int.ofNat.inj ((ih c1).1 e)
          refine ⟨fun _ => ⟨n', ?_⟩, fun g => absurd (by rw [← ei]; exact c3) g⟩
          rw [← ei, ← ej]
          exact b
      · cases c4
    · cases c2
theorem cd (hn : ∀ p, p ≤ K.n p) : ∀ n : Nat, (∀ d p r, rd9 K n 5 d p = some r → ∃ N s, gd9 K N 0 d p = some s ∧ RL s r) ∧ (∀ d p r, rd9 K n 3 d p = some r → ∃ N s, gd9 K N 1 d p = some s ∧ RL s r) ∧ ∀ d p r, rd9 K n 4 d p = some r → ∃ N s, gd9 K N 2 d p = some s ∧ RL s r
  | 0 => ⟨fun _ _ _ h => (by cases h), fun _ _ _ h => (by cases h), fun _ _ _ h => (by cases h)⟩
  | n + 1 => by
    obtain ⟨i5, i3, i4⟩ := cd hn n
    have bad : ∀ {s : Dr} {g : Nat}, RL s (Int.negSucc g) → s.1 < 2 ∧ s.2 = g := fun {s g} h => by
      by_cases q : s.1 < 2
      · exact ⟨q, (Int.negSucc.inj (h.1 q)).symm⟩
      · cases h.2 (by omega)
    have good : ∀ {s : Dr} {j : Nat}, RL s (Int.ofNat j) → 2 ≤ s.1 ∧ s.2 = j := fun {s j} h => by
      by_cases q : s.1 < 2
      · cases h.1 q
      · exact ⟨by omega, (Int.ofNat.inj (h.2 (by omega))).symm⟩
    /- parts, one behind another -/
    have mor : ∀ (b : Bool) (d q : Nat) (r : Int), bnd (rd9 K n 5 d q) (rd9 K n 4 d) = some r → ∃ N s, mo9 (gd9 K N) d b (gd9 K N 0 d q) = some s ∧ RL s r := fun b d q r h => by
      rcases bnd_some h with ⟨j, e1, e2⟩ | ⟨g, e1, e2⟩
      · obtain ⟨N, s0, a1, a2⟩ := i5 _ _ _ e1
        obtain ⟨N', s, b1, b2⟩ := i4 _ _ _ e2
        obtain ⟨g1, g2⟩ := good a2
        obtain ⟨x1, x2⟩ := s0
        obtain ⟨y, rfl⟩ : ∃ y, x1 = y + 2 := ⟨x1 - 2, by have g1 : 2 ≤ x1 := g1; omega⟩
        have g2 : x2 = j := g2
        subst g2
        refine ⟨N + N', s, ?_, b2⟩
        rw [gd9_le a1 N']
        show gd9 K (N + N') 2 d x2 = some s
        rw [Nat.add_comm N N']
        exact gd9_le b1 N
      · obtain ⟨N, s0, a1, a2⟩ := i5 _ _ _ e1
        obtain ⟨g1, g2⟩ := bad a2
        obtain ⟨x1, x2⟩ := s0
        have g2 : x2 = g := g2
        subst g2
        rcases x1 with _ | _ | x1
        · exact ⟨N, (0, x2), by rw [a1]; rfl, fun _ => e2, fun q => no8 q⟩
        · cases b with
          | true => exact ⟨N, (1, x2), by rw [a1]; rfl, fun _ => e2, fun q => no8 q⟩
          | false => exact ⟨N, (0, x2), by rw [a1]; rfl, fun _ => e2, fun q => no8 q⟩
        · have g1 : x1 + 2 < 2 := g1
          omega
    refine ⟨fun d p r h => ?_, fun d p r h => ?_, fun d p r h => ?_⟩
    · have h : suc K (rd9 K n) d p = some r := h
      unfold suc at h
      by_cases h1 : K.c p = 1
      · rw [if_pos h1] at h
        by_cases hd : 20 ≤ d
        · rw [if_pos hd] at h
          refine ⟨1, (0, p), ?_, fun _ => (Option.some.inj h).symm, fun q => no8 q⟩
          show un9 K (rd9 K 0) (gd9 K 0) d p = _
          unfold un9
          rw [if_pos h1, if_pos hd]
        · rw [if_neg hd] at h
          obtain ⟨N, s0, a1, a2⟩ := i5 _ _ _ h
          have e0 : gd9 K (N + 1) 0 d p = nv9 (some s0) := by
            show un9 K (rd9 K N) (gd9 K N) d p = _
            unfold un9
            rw [if_pos h1, if_neg hd, a1]
          obtain ⟨x1, x2⟩ := s0
          rcases x1 with _ | _ | x1
          · exact ⟨N + 1, (0, x2), e0, a2⟩
          · exact ⟨N + 1, (0, x2), e0, fun _ => a2.1 (by show 0 + 1 < 2; decide), fun q => no8 q⟩
          · exact ⟨N + 1, (x1 + 2, x2), e0, a2⟩
      · rw [if_neg h1] at h
        by_cases h2 : K.c p = 2
        · rw [if_pos h2] at h
          have e0 : gd9 K 1 0 d p = cn9r (some r) := by
            show un9 K (rd9 K 0) (gd9 K 0) d p = _
            unfold un9
            rw [if_neg h1, if_pos h2, h]
          cases r with
          | ofNat j => exact ⟨1, (2, j), e0, fun q => no8 q, fun _ => rfl⟩
          | negSucc f => exact ⟨1, (0, f), e0, fun _ => rfl, fun q => no8 q⟩
        · rw [if_neg h2] at h
          by_cases h3 : K.c p = 3
          · rw [if_pos h3] at h
            by_cases hd : 20 ≤ d
            · rw [if_pos hd] at h
              refine ⟨1, (0, p), ?_, fun _ => (Option.some.inj h).symm, fun q => no8 q⟩
              show un9 K (rd9 K 0) (gd9 K 0) d p = _
              unfold un9
              rw [if_neg h1, if_neg h2, if_pos h3, if_pos hd]
            · rw [if_neg hd] at h
              have e0 : ∀ {N : Nat} {s0 : Dr}, gd9 K N 1 (d + 1) (K.n p) = some s0 → gd9 K (N + 1) 0 d p = par9 K (rd9 K N) d (some s0) := fun {N s0} a => by
                show un9 K (rd9 K N) (gd9 K N) d p = _
                unfold un9
                rw [if_neg h1, if_neg h2, if_pos h3, if_neg hd, a]
              cases ea : bnd (rd9 K n 3 (d + 1) (K.n p)) (sgn K 11) with
              | none => rw [ea] at h; cases h
              | some x =>
                rw [ea] at h
                rcases bnd_some ea with ⟨j, c1, c2⟩ | ⟨g, c1, c2⟩
                · obtain ⟨N, s0, a1, a2⟩ := i3 _ _ _ c1
                  obtain ⟨g1, g2⟩ := good a2
                  have ee := e0 a1
                  have cp := fun {y : Int} (q : rd9 K n 6 d p = some y) => cmp_par hn q h3 hd a1
                  obtain ⟨x1, x2⟩ := s0
                  obtain ⟨y, rfl⟩ : ∃ y, x1 = y + 2 := ⟨x1 - 2, by have g1 : 2 ≤ x1 := g1; omega⟩
                  have g2 : x2 = j := g2
                  subst g2
                  have ee : gd9 K (N + 1) 0 d p = if K.c x2 = 11 then some (2, K.n x2) else some (0, x2) := ee
                  rcases sgn_some c2 with ⟨c3, c4⟩ | ⟨c3, c4⟩
                  · subst c4
                    exact ⟨N + 1, (2, K.n x2), by rw [ee, if_pos c3], fun q => no8 q, fun _ => (Option.some.inj h).symm⟩
                  · subst c4
                    refine ⟨N + 1, (0, x2), by rw [ee, if_neg c3], fun _ => ?_, fun q => no8 q⟩
                    cases eb : rd9 K n 6 d p with
                    | none => rw [eb] at h; cases h
                    | some z =>
                      obtain ⟨f, f1, f2⟩ := (cp eb).1 (by show y + 2 ≠ 1; omega)
                      rw [eb, f1] at h
                      have h := Option.some.inj h
                      have f2 : f ≤ x2 := f2
                      rw [← h, Nat.max_eq_left f2]
                · obtain ⟨N, s0, a1, a2⟩ := i3 _ _ _ c1
                  obtain ⟨g1, g2⟩ := bad a2
                  have ee := e0 a1
                  have cp := fun {y : Int} (q : rd9 K n 6 d p = some y) => cmp_par hn q h3 hd a1
                  subst c2
                  obtain ⟨x1, x2⟩ := s0
                  have g2 : x2 = g := g2
                  subst g2
                  cases eb : rd9 K n 6 d p with
                  | none => rw [eb] at h; cases h
                  | some z =>
                    rcases x1 with _ | _ | x1
                    · refine ⟨N + 1, (0, x2), ee, fun _ => ?_, fun q => no8 q⟩
                      obtain ⟨f, f1, f2⟩ := (cp eb).1 (by show (0 : Nat) ≠ 1; decide)
                      rw [eb, f1] at h
                      have h := Option.some.inj h
                      have f2 : f ≤ x2 := f2
                      rw [← h, Nat.max_eq_left f2]
                    · have ee : gd9 K (N + 1) 0 d p = if K.c x2 = 11 then tl9 K (rd9 K N) d (K.n x2) else some (0, x2) := ee
                      obtain ⟨k1, k2⟩ := (cp eb).2 rfl
                      by_cases c3 : K.c x2 = 11
                      · obtain ⟨n', q⟩ := k1 c3
                        obtain ⟨s, t1, t2⟩ := tl_aft q
                        have t3 : K.n x2 ≤ s.2 := tl_pl hn t1
                        have e1 : gd9 K (N + n' + 1) 0 d p = some s := by
                          have a1' := gd9_le a1 n'
                          have := e0 a1'
                          have this : gd9 K (N + n' + 1) 0 d p = if K.c x2 = 11 then tl9 K (rd9 K (N + n')) d (K.n x2) else some (0, x2) := this
                          rw [this, if_pos c3]
                          refine tl_mono (F := rd9 K n') (fun m d p r z => ?_) t1
                          rw [Nat.add_comm N n']
                          exact rd9_le z N
                        refine ⟨N + n' + 1, s, e1, ?_⟩
                        rw [eb] at h
                        cases z with
                        | ofNat w => rw [← Option.some.inj h]; exact t2
                        | negSucc w =>
                          obtain ⟨w1, w2⟩ := bad t2
                          have h := Option.some.inj h
                          have l1 := hn x2
                          rw [← h, Nat.max_eq_right (by omega)]
                          exact t2
                      · refine ⟨N + 1, (0, x2), by rw [ee, if_neg c3], fun _ => ?_, fun q => no8 q⟩
                        rw [eb, k2 c3] at h
                        have h := Option.some.inj h
                        rw [← h, Nat.max_self]
                    · have g1 : x1 + 2 < 2 := g1
                      omega
          · rw [if_neg h3] at h
            obtain ⟨n', q⟩ := cmp_inv h
            have e0 : gd9 K (n' + 1) 0 d p = vl9 K (rd9 K n') d (rd9 K n' 0 d p) := by
              show un9 K (rd9 K n') (gd9 K n') d p = _
              unfold un9
              rw [if_neg h1, if_neg h2, if_neg h3]
            rcases q with ⟨f, a, b⟩ | ⟨j, a, b⟩
            · exact ⟨n' + 1, (0, f), by rw [e0, a]; rfl, fun _ => b, fun q => no8 q⟩
            · obtain ⟨s, t1, t2⟩ := tl_aft b
              exact ⟨n' + 1, s, by rw [e0, a]; exact t1, t2⟩
    · have h : bnd (rd9 K n 5 d p) (rd9 K n 4 d) = some r := h
      obtain ⟨N, s, a, b⟩ := mor true d p r h
      exact ⟨N + 1, s, a, b⟩
    · have h : clp K (rd9 K n) d p = some r := h
      unfold clp at h
      split at h
      · rename_i h1
        obtain ⟨N, s, a, b⟩ := mor false d _ r h
        refine ⟨N + 1, s, ?_, b⟩
        show (if K.c p = 16 ∨ K.c p = 17 then mo9 (gd9 K N) d false (gd9 K N 0 d (K.n p)) else some (2, p)) = some s
        rw [if_pos h1]
        exact a
      · rename_i h1
        refine ⟨1, (2, p), ?_, fun q => no8 q, fun _ => (Option.some.inj h).symm⟩
        show (if K.c p = 16 ∨ K.c p = 17 then mo9 (gd9 K 0) d false (gd9 K 0 0 d (K.n p)) else some (2, p)) = some (2, p)
        rw [if_neg h1]
end R62
end
section
/-! ===== THE READER, 63: read by a stack (the other program) ===== -/
/-- a group: its kind, whether it must be a condition, its parts, what waits (by rank) -/
noncomputable abbrev Gf : Type := Nat × (Bool × (Nat × List Nat))
/-- wants, starts, place, depth, groups -/
noncomputable abbrev Au : Type := Bool × (Bool × (Nat × (Nat × (Gf × List Gf))))
noncomputable abbrev Oc : Type := Au ⊕ (Bool × Nat)
noncomputable def dq (r : Nat) : List Nat → List Nat
  | [] => []
  | x :: l => if r ≤ x then dq r l else x :: l
noncomputable def dpt : List Nat → Nat
  | [] => 0
  | x :: l => (if x = 3 ∨ x = 7 then 1 else 0) + dpt l
noncomputable def dd (r deep : Nat) (l : List Nat) : Nat := deep - (dpt l - dpt (dq r l))
noncomputable abbrev flt (f : Nat) : Oc := .inr (false, f)
noncomputable def vdn (p deep : Nat) (g : Gf) (gs : List Gf) : Oc := .inl (false, (false, (p, (dd 7 deep g.2.2.2, ((g.1, (g.2.1, (g.2.2.1, dq 7 g.2.2.2))), gs)))))
noncomputable def fto (r : Option Int) (f : Nat → Oc) : Oc := match r with
  | some (Int.ofNat j) => f j
  | some (Int.negSucc g) => flt g
  | none => flt 0
noncomputable def wan (K : Tkn) (st : Bool) (p deep : Nat) (g : Gf) (gs : List Gf) : Oc :=
  if st = true ∧ K.c p = 1 then (if deep = 20 then flt p else .inl (true, (st, (K.n p, (deep + 1, ((g.1, (true, (g.2.2.1, 3 :: g.2.2.2))), gs))))))
  else if st = true ∧ K.c p = 2 then fto (ftr K (K.n p)) (fun j => .inl (false, (false, (j, (deep, ((g.1, (true, (2, g.2.2.2))), gs))))))
  else if K.c p = 3 then (if deep = 20 then flt p else .inl (true, (st, (K.n p, (deep + 1, ((bif st then 1 else 2, (false, (0, []))), g :: gs))))))
  else if K.c p = 4 then (if deep = 20 then flt p else .inl (true, (false, (K.n p, (deep + 1, ((g.1, (g.2.1, (g.2.2.1, 7 :: g.2.2.2))), gs))))))
  else if K.c p = 5 ∨ K.c p = 6 then vdn (K.n p) deep g gs
  else if K.c p = 7 then fto (ftr K (K.n p)) (fun j => vdn j deep g gs)
  else fto (ftr K p) (fun j => if K.c j = 9 then (if deep = 20 then flt j else .inl (true, (false, (K.n j, (deep + 1, ((3, (false, (0, []))), g :: gs)))))) else vdn j deep g gs)
noncomputable def cls9 (K : Tkn) (p deep : Nat) (g : Gf) (gs : List Gf) : Oc := match gs with
  | [] => flt p
  | g2 :: gs2 => if g.1 = 1 ∧ 0 < g.2.2.1 then .inl (false, (false, (K.n p, (dd 0 deep g.2.2.2 - 1, ((g2.1, (true, (2, g2.2.2.2))), gs2))))) else vdn (K.n p) (dd 0 deep g.2.2.2 - 1) g2 gs2
noncomputable def rnk9 (c : Nat) : Nat := if c = 13 then 6 else 5
noncomputable def ra9 (c : Nat) : Nat := if c = 16 then 2 else 1
noncomputable def gon (K : Tkn) (p deep : Nat) (g : Gf) (gs : List Gf) : Oc :=
  if (K.c p = 4 ∨ K.c p = 12 ∨ K.c p = 13) ∧ g.2.2.1 ≠ 2 then .inl (true, (false, (K.n p, (dd (rnk9 (K.c p)) deep g.2.2.2, ((g.1, (g.2.1, (g.2.2.1, rnk9 (K.c p) :: dq (rnk9 (K.c p)) g.2.2.2))), gs)))))
  else if K.c p = 14 ∧ g.1 < 2 ∧ g.2.2.1 = 0 then .inl (true, (false, (K.n p, (dd 5 deep g.2.2.2, ((g.1, (true, (1, 4 :: dq 5 g.2.2.2))), gs)))))
  else if K.c p = 15 ∧ g.1 < 2 ∧ g.2.2.1 = 0 then fto (ftr K (K.n p)) (fun j => .inl (false, (false, (j, (dd 5 deep g.2.2.2, ((g.1, (true, (2, dq 5 g.2.2.2))), gs))))))
  else if (K.c p = 16 ∨ K.c p = 17) ∧ g.1 < 2 ∧ 0 < g.2.2.1 then .inl (true, (true, (K.n p, (dd (ra9 (K.c p)) deep g.2.2.2, ((g.1, (true, (0, ra9 (K.c p) :: dq (ra9 (K.c p)) g.2.2.2))), gs)))))
  else if (K.c p = 11 ∧ (g.1 = 2 ∨ (g.1 = 1 ∧ (0 < g.2.2.1 ∨ g.2.1 = false)))) ∨ (K.c p = 10 ∧ g.1 = 3) then cls9 K p deep g gs
  else if gs = [] ∧ 0 < g.2.2.1 ∧ (K.c p = 18 ∨ K.c p = 19 ∨ K.c p = 20) then .inr (true, p) else flt p
noncomputable def stpA (K : Tkn) (X : Au) : Oc := bif X.1 then wan K X.2.1 X.2.2.1 X.2.2.2.1 X.2.2.2.2.1 X.2.2.2.2.2 else gon K X.2.2.1 X.2.2.2.1 X.2.2.2.2.1 X.2.2.2.2.2
noncomputable def stn (K : Tkn) : Nat → Oc → Oc
  | 0, o => o
  | n + 1, o => match o with
    | .inl X => stn K n (stpA K X)
    | .inr r => .inr r
noncomputable def To (K : Tkn) (o o' : Oc) : Prop := ∃ n, stn K n o = o'
section R63
variable {K : Tkn}
theorem To.rf {o : Oc} : To K o o := ⟨0, rfl⟩
theorem stn_r {r : Bool × Nat} : ∀ n, stn K n (.inr r) = .inr r
  | 0 => rfl
  | _ + 1 => rfl
theorem stn_add : ∀ (n m : Nat) (o : Oc), stn K (n + m) o = stn K m (stn K n o)
  | 0, m, o => by rw [Nat.zero_add]; rfl
  | n + 1, m, o => by
    rw [Nat.add_right_comm]
    cases o with
    | inl X => exact stn_add n m (stpA K X)
    | inr r => exact (stn_r m).symm
theorem To.tr {a b c : Oc} (h : To K a b) (h' : To K b c) : To K a c := by
  obtain ⟨n, e⟩ := h
  obtain ⟨m, e'⟩ := h'
  exact ⟨n + m, by rw [stn_add, e, e']⟩
theorem To.st {X : Au} {o o' : Oc} (h : stpA K X = o) (h' : To K o o') : To K (.inl X) o' := by
  obtain ⟨n, e⟩ := h'
  exact ⟨n + 1, by show stn K n (stpA K X) = o'; rw [h]; exact e⟩
/-- a stack's reading comes to one end -/
theorem To.det {o : Oc} {r r' : Bool × Nat} (h : To K o (.inr r)) (h' : To K o (.inr r')) : r = r' := by
  obtain ⟨n, e⟩ := h
  obtain ⟨m, e'⟩ := h'
  have a : stn K (n + m) o = .inr r := by rw [stn_add, e, stn_r]
  have b : stn K (m + n) o = .inr r' := by rw [stn_add, e', stn_r]
  rw [Nat.add_comm m n, a] at b
  cases b
  rfl
/-! lists -/
noncomputable def hdl (r : Nat) : List Nat → Prop
  | [] => True
  | x :: _ => x < r
theorem dq_self {r : Nat} : ∀ {l : List Nat}, hdl r l → dq r l = l
  | [], _ => rfl
  | x :: l, h => if_neg (Nat.not_le.mpr h)
theorem hdl.up {r r' : Nat} (hr : r ≤ r') : ∀ {l : List Nat}, hdl r l → hdl r' l
  | [], _ => trivial
  | x :: l, h => Nat.lt_of_lt_of_le h hr
theorem dpt_app : ∀ {a b : List Nat}, dpt (a ++ b) = dpt a + dpt b
  | [], b => (Nat.zero_add _).symm
  | x :: a, b => by
    show (if x = 3 ∨ x = 7 then 1 else 0) + dpt (a ++ b) = (if x = 3 ∨ x = 7 then 1 else 0) + dpt a + dpt b
    rw [dpt_app, Nat.add_assoc]
noncomputable def Ops (a : List Nat) : Prop := ∀ x ∈ a, 4 ≤ x ∧ x ≤ 6
theorem dpt_ops : ∀ {a : List Nat}, Ops a → dpt a = 0
  | [], _ => rfl
  | x :: a, h => by
    have h1 := h x (List.mem_cons_self ..)
    show (if x = 3 ∨ x = 7 then 1 else 0) + dpt a = 0
    rw [if_neg (by omega), dpt_ops (fun y hy => h y (List.mem_cons_of_mem _ hy))]
theorem dq_ops {r : Nat} {b : List Nat} (hb : hdl r b) : ∀ {a : List Nat}, Ops a → ∃ a', Ops a' ∧ dq r (a ++ b) = a' ++ b
  | [], _ => ⟨[], fun x h => (by cases h), dq_self hb⟩
  | x :: a, h => by
    by_cases hx : r ≤ x
    · obtain ⟨a', h1, h2⟩ := dq_ops hb (a := a) (fun y hy => h y (List.mem_cons_of_mem _ hy))
      exact ⟨a', h1, (if_pos hx).trans h2⟩
    · exact ⟨x :: a, h, if_neg hx⟩
theorem dq_all {r : Nat} {b : List Nat} : ∀ {a : List Nat}, (∀ x ∈ a, r ≤ x) → dq r (a ++ b) = dq r b
  | [], _ => rfl
  | x :: a, h => (if_pos (h x (List.mem_cons_self ..))).trans (dq_all (fun y hy => h y (List.mem_cons_of_mem _ hy)))
/-- so many signs wait -/
noncomputable def sv (e : Nat) (b : List Nat) : List Nat := List.replicate e 7 ++ b
theorem dq_sv {e : Nat} {b : List Nat} (hb : hdl 7 b) : dq 7 (sv e b) = b := by
  unfold sv
  rw [dq_all (fun x hx => by rw [List.eq_of_mem_replicate hx]; exact Nat.le_refl 7), dq_self hb]
theorem dpt_sv {b : List Nat} : ∀ {e : Nat}, dpt (sv e b) = e + dpt b
  | 0 => by show dpt b = 0 + dpt b; omega
  | e + 1 => by
    have ih := dpt_sv (b := b) (e := e)
    show (if 7 = 3 ∨ 7 = 7 then 1 else 0) + dpt (sv e b) = e + 1 + dpt b
    rw [if_pos (Or.inr rfl), ih]
    omega
theorem dd_sv {e d : Nat} {b : List Nat} (hb : hdl 7 b) : dd 7 d (sv e b) = d - e := by
  unfold dd
  rw [dq_sv hb, dpt_sv]
  omega
theorem dd_ops {r d : Nat} {a b a' : List Nat} (h : Ops a) (h' : Ops a') (e : dq r (a ++ b) = a' ++ b) : dd r d (a ++ b) = d := by
  unfold dd
  rw [e, dpt_app, dpt_app, dpt_ops h, dpt_ops h']
  omega
theorem dq_0 : ∀ {l : List Nat}, dq 0 l = []
  | [] => rfl
  | x :: l => (if_pos (Nat.zero_le x)).trans dq_0
theorem dd_0 {d : Nat} {l : List Nat} : dd 0 d l = d - dpt l := by
  unfold dd
  rw [dq_0]
  rfl
theorem ftr_some (p : Nat) : (∃ j, ftr K p = okR j) ∨ ∃ f, ftr K p = bdR f := by
  unfold ftr
  split
  · split
    · split
      · exact Or.inl ⟨_, rfl⟩
      · exact Or.inr ⟨_, rfl⟩
    · exact Or.inr ⟨_, rfl⟩
  · exact Or.inr ⟨_, rfl⟩
/-- a token that closes nothing and goes on nowhere -/
theorem gon_f {p d : Nat} {g : Gf} {gs : List Gf} (h1 : ¬ (K.c p = 4 ∨ K.c p = 12 ∨ K.c p = 13) ∨ g.2.2.1 = 2) (h2 : K.c p ≠ 14 ∨ 2 ≤ g.1 ∨ g.2.2.1 ≠ 0) (h3 : K.c p ≠ 15 ∨ 2 ≤ g.1 ∨ g.2.2.1 ≠ 0) (h4 : ¬ (K.c p = 16 ∨ K.c p = 17) ∨ 2 ≤ g.1 ∨ g.2.2.1 = 0) (h5 : K.c p ≠ 11 ∨ (g.1 ≠ 2 ∧ (g.1 ≠ 1 ∨ (g.2.2.1 = 0 ∧ g.2.1 = true)))) (h6 : K.c p ≠ 10 ∨ g.1 ≠ 3) (h7 : gs ≠ [] ∨ g.2.2.1 = 0 ∨ ¬ (K.c p = 18 ∨ K.c p = 19 ∨ K.c p = 20)) : gon K p d g gs = flt p := by
  unfold gon
  rw [if_neg (by intro q; omega), if_neg (by intro q; omega), if_neg (by intro q; omega), if_neg (by intro q; omega), if_neg ?_, if_neg ?_]
  · rintro ⟨q1, q2, q3⟩
    rcases h7 with h | h | h
    · exact h q1
    · omega
    · exact h q3
  · rintro (⟨q1, q2 | ⟨q2, q3 | q3⟩⟩ | ⟨q1, q2⟩)
    · omega
    · omega
    · rcases h5 with h | ⟨_, h | ⟨_, h⟩⟩
      · exact h q1
      · exact h q2
      · rw [h] at q3; cases q3
    · omega
end R63
end
/-! ===== THE JUDGE, 82: what the stack emits ===== -/
noncomputable abbrev ItJ : Type := Nat × Int
/-- what a token emits (by its place); a feature's number (by the place where it begins) -/
noncomputable abbrev EmJ : Type := (Nat → ItJ) × (Nat → Int)
noncomputable abbrev EmJ.em (M : EmJ) (p : Nat) : ItJ := M.1 p
noncomputable abbrev EmJ.ft (M : EmJ) (p : Nat) : Int := M.2 p
/-- what waits: its rank, what it emits -/
noncomputable abbrev WtJ : Type := List (Nat × ItJ)
/-- a group: its kind, whether it must be a condition, its parts, its feature, what waits -/
noncomputable abbrev GfE : Type := Nat × (Bool × (Nat × (Int × WtJ)))
/-- wants, starts, place, depth, groups, what was emitted -/
noncomputable abbrev AuE : Type := Bool × (Bool × (Nat × (Nat × ((GfE × List GfE) × List ItJ))))
noncomputable def pop9 (r : Nat) : WtJ → List ItJ
  | [] => []
  | x :: l => if r ≤ x.1 then x.2 :: pop9 r l else []
noncomputable def lft9 (r : Nat) : WtJ → WtJ
  | [] => []
  | x :: l => if r ≤ x.1 then lft9 r l else x :: l
/-- how deep it is behind: signs and nots count -/
noncomputable def dpE : WtJ → Nat
  | [] => 0
  | x :: l => (if x.2.1 = 7 ∨ x.2.1 = 16 then 1 else 0) + dpE l
noncomputable def ddE (r deep : Nat) (l : WtJ) : Nat := deep - (dpE l - dpE (lft9 r l))
noncomputable def itm9 (l : WtJ) : List ItJ := l.map fun x => x.2
noncomputable def vdE (p deep : Nat) (g : GfE) (gs : List GfE) (E : List ItJ) : Option AuE := some (false, (false, (p, (ddE 7 deep g.2.2.2.2, (((g.1, (g.2.1, (g.2.2.1, (g.2.2.2.1, lft9 7 g.2.2.2.2)))), gs), E ++ pop9 7 g.2.2.2.2)))))
noncomputable def ftE (r : Option Int) (f : Nat → Option AuE) : Option AuE := match r with
  | some (Int.ofNat j) => f j
  | _ => none
noncomputable def wanE (K : Tkn) (M : EmJ) (st : Bool) (p deep : Nat) (g : GfE) (gs : List GfE) (E : List ItJ) : Option AuE :=
  if st = true ∧ K.c p = 1 then (if deep = 20 then none else some (true, (st, (K.n p, (deep + 1, (((g.1, (true, (g.2.2.1, (g.2.2.2.1, (3, (16, 0)) :: g.2.2.2.2)))), gs), E))))))
  else if st = true ∧ K.c p = 2 then ftE (ftr K (K.n p)) (fun j => some (false, (false, (j, (deep, (((g.1, (true, (2, (g.2.2.2.1, g.2.2.2.2)))), gs), E ++ [(15, M.ft (K.n p))]))))))
  else if K.c p = 3 then (if deep = 20 then none else some (true, (st, (K.n p, (deep + 1, (((bif st then 1 else 2, (false, (0, (0, [])))), g :: gs), E))))))
  else if K.c p = 4 then (if deep = 20 then none else some (true, (false, (K.n p, (deep + 1, (((g.1, (g.2.1, (g.2.2.1, (g.2.2.2.1, (7, (7, 0)) :: g.2.2.2.2)))), gs), E))))))
  else if K.c p = 5 ∨ K.c p = 6 then vdE (K.n p) deep g gs (E ++ [M.em p])
  else if K.c p = 7 then ftE (ftr K (K.n p)) (fun j => vdE j deep g gs (E ++ [(6, M.ft (K.n p))]))
  else ftE (ftr K p) (fun j => if K.c j = 9 then (if deep = 20 then none else some (true, (false, (K.n j, (deep + 1, (((3, (false, (0, (M.ft p, [])))), g :: gs), E)))))) else vdE j deep g gs (E ++ [(4, M.ft p)]))
noncomputable def clsE (K : Tkn) (p deep : Nat) (g : GfE) (gs : List GfE) (E : List ItJ) : Option AuE := match gs with
  | [] => none
  | g2 :: gs2 => if g.1 = 1 ∧ 0 < g.2.2.1 then some (false, (false, (K.n p, (ddE 0 deep g.2.2.2.2 - 1, (((g2.1, (true, (2, (g2.2.2.2.1, g2.2.2.2.2)))), gs2), E ++ itm9 g.2.2.2.2))))) else vdE (K.n p) (ddE 0 deep g.2.2.2.2 - 1) g2 gs2 (E ++ itm9 g.2.2.2.2 ++ if g.1 = 3 then [(5, g.2.2.2.1)] else [])
noncomputable def gonE (K : Tkn) (M : EmJ) (p deep : Nat) (g : GfE) (gs : List GfE) (E : List ItJ) : Option AuE :=
  if (K.c p = 4 ∨ K.c p = 12 ∨ K.c p = 13) ∧ g.2.2.1 ≠ 2 then some (true, (false, (K.n p, (ddE (rnk9 (K.c p)) deep g.2.2.2.2, (((g.1, (g.2.1, (g.2.2.1, (g.2.2.2.1, (rnk9 (K.c p), M.em p) :: lft9 (rnk9 (K.c p)) g.2.2.2.2)))), gs), E ++ pop9 (rnk9 (K.c p)) g.2.2.2.2)))))
  else if K.c p = 14 ∧ g.1 < 2 ∧ g.2.2.1 = 0 then some (true, (false, (K.n p, (ddE 5 deep g.2.2.2.2, (((g.1, (true, (1, (g.2.2.2.1, (4, M.em p) :: lft9 5 g.2.2.2.2)))), gs), E ++ pop9 5 g.2.2.2.2)))))
  else if K.c p = 15 ∧ g.1 < 2 ∧ g.2.2.1 = 0 then ftE (ftr K (K.n p)) (fun j => some (false, (false, (j, (ddE 5 deep g.2.2.2.2, (((g.1, (true, (2, (g.2.2.2.1, lft9 5 g.2.2.2.2)))), gs), E ++ pop9 5 g.2.2.2.2 ++ [(14, M.ft (K.n p))]))))))
  else if (K.c p = 16 ∨ K.c p = 17) ∧ g.1 < 2 ∧ 0 < g.2.2.1 then some (true, (true, (K.n p, (ddE (ra9 (K.c p)) deep g.2.2.2.2, (((g.1, (true, (0, (g.2.2.2.1, (ra9 (K.c p), M.em p) :: lft9 (ra9 (K.c p)) g.2.2.2.2)))), gs), E ++ pop9 (ra9 (K.c p)) g.2.2.2.2)))))
  else if (K.c p = 11 ∧ (g.1 = 2 ∨ (g.1 = 1 ∧ (0 < g.2.2.1 ∨ g.2.1 = false)))) ∨ (K.c p = 10 ∧ g.1 = 3) then clsE K p deep g gs E
  else none
noncomputable def stE (K : Tkn) (M : EmJ) (X : AuE) : Option AuE := bif X.1 then wanE K M X.2.1 X.2.2.1 X.2.2.2.1 X.2.2.2.2.1.1 X.2.2.2.2.1.2 X.2.2.2.2.2 else gonE K M X.2.2.1 X.2.2.2.1 X.2.2.2.2.1.1 X.2.2.2.2.1.2 X.2.2.2.2.2
noncomputable def snE (K : Tkn) (M : EmJ) : Nat → AuE → Option AuE
  | 0, X => some X
  | n + 1, X => match stE K M X with
    | some Y => snE K M n Y
    | none => none
noncomputable def ToE (K : Tkn) (M : EmJ) (X Y : AuE) : Prop := ∃ n, snE K M n X = some Y
/-- the class's way from p to q, with its rows from a to b: 0 a term, 7 a product so far, 1 a sum so far, 6 a comparison, 5 a part, 9 parts with and so far, 3 a condition so far -/
noncomputable abbrev CdF : Type := Nat → Nat → Nat → Nat → Nat → Nat → Prop
noncomputable def cdB (K : Tkn) (M : EmJ) (R : CwJ) (F : CdF) (m d p q a b : Nat) : Prop := match m with
  | 0 => (K.c p = 4 ∧ d < 20 ∧ ∃ c, F 0 (d + 1) (K.n p) q a c ∧ (R c).1 = 7 ∧ b = c + 1) ∨ (K.c p = 3 ∧ d < 20 ∧ ∃ j, F 1 (d + 1) (K.n p) j a b ∧ K.c j = 11 ∧ q = K.n j) ∨ ((K.c p = 5 ∨ K.c p = 6) ∧ q = K.n p ∧ R a = M.em p ∧ (M.em p).1 < 4 ∧ b = a + 1) ∨ (K.c p = 7 ∧ ftr K (K.n p) = okR q ∧ R a = (4, M.ft (K.n p)) ∧ b = a + 1) ∨ (K.c p = 8 ∧ ftr K p = okR q ∧ K.c q ≠ 9 ∧ R a = (5, M.ft p) ∧ b = a + 1) ∨ (K.c p = 8 ∧ d < 20 ∧ ∃ j i c, ftr K p = okR j ∧ K.c j = 9 ∧ F 1 (d + 1) (K.n j) i a c ∧ K.c i = 10 ∧ q = K.n i ∧ R c = (6, M.ft p) ∧ b = c + 1)
  | 7 => F 0 d p q a b ∨ ∃ j c e, F 7 d p j a c ∧ K.c j = 13 ∧ F 0 d (K.n j) q c e ∧ (R e).1 = (M.em j).1 ∧ (10 ≤ (M.em j).1 ∧ (M.em j).1 ≤ 12) ∧ b = e + 1
  | 1 => F 7 d p q a b ∨ ∃ j c e, F 1 d p j a c ∧ (K.c j = 4 ∨ K.c j = 12) ∧ F 7 d (K.n j) q c e ∧ (R e).1 = (M.em j).1 ∧ (8 ≤ (M.em j).1 ∧ (M.em j).1 ≤ 9) ∧ b = e + 1
  | 6 => (∃ j c, F 1 d p j a c ∧ K.c j = 15 ∧ ftr K (K.n j) = okR q ∧ R c = (19, M.ft (K.n j)) ∧ b = c + 1) ∨ ∃ j c e k, F 1 d p j a c ∧ K.c j = 14 ∧ F 1 d (K.n j) q c e ∧ k ≤ 5 ∧ M.em j = (13, ((k : Nat) : Int)) ∧ (R e).1 = 13 + k ∧ b = e + 1
  | 5 => (K.c p = 1 ∧ d < 20 ∧ ∃ c, F 5 (d + 1) (K.n p) q a c ∧ (R c).1 = 21 ∧ b = c + 1) ∨ (K.c p = 2 ∧ ftr K (K.n p) = okR q ∧ R a = (20, M.ft (K.n p)) ∧ b = a + 1) ∨ (K.c p = 3 ∧ d < 20 ∧ ∃ j, F 3 (d + 1) (K.n p) j a b ∧ K.c j = 11 ∧ q = K.n j) ∨ F 6 d p q a b
  | 9 => F 5 d p q a b ∨ ∃ j c e : Nat, F 9 d p j a c ∧ K.c j = 16 ∧ M.em j = (17, 0) ∧ R c = (24, (e : Int) + 1) ∧ F 5 d (K.n j) q (c + 1) e ∧ (R e).1 = 22 ∧ b = e + 1
  | _ => F 9 d p q a b ∨ ∃ j c e : Nat, F 3 d p j a c ∧ K.c j = 17 ∧ M.em j = (18, 0) ∧ R c = (25, (e : Int) + 1) ∧ F 9 d (K.n j) q (c + 1) e ∧ (R e).1 = 23 ∧ b = e + 1
noncomputable def cd8 (K : Tkn) (M : EmJ) (R : CwJ) : Nat → CdF
  | 0 => fun _ _ _ _ _ _ => False
  | n + 1 => cdB K M R (cd8 K M R n)
/-- what waits is of these ranks -/
noncomputable def Rks (lo hi : Nat) (x : WtJ) : Prop := ∀ y ∈ x, lo ≤ y.1 ∧ y.1 ≤ hi
noncomputable def hdE (r : Nat) : WtJ → Prop
  | [] => True
  | x :: _ => x.1 < r
section J82
variable {K : Tkn} {M : EmJ} {R : CwJ}
theorem ToE.rf {X : AuE} : ToE K M X X := ⟨0, rfl⟩
theorem snE_add : ∀ (n m : Nat) (X Y Z : AuE), snE K M n X = some Y → snE K M m Y = some Z → snE K M (n + m) X = some Z
  | 0, m, X, Y, Z, h, h' => by cases Option.some.inj h; rw [Nat.zero_add]; exact h'
  | n + 1, m, X, Y, Z, h, h' => by
    rw [Nat.add_right_comm]
    unfold snE at h ⊢
    cases e : stE K M X with
    | none => rw [e] at h; cases h
    | some W => rw [e] at h; exact snE_add n m W Y Z h h'
theorem ToE.tr {X Y Z : AuE} (h : ToE K M X Y) (h' : ToE K M Y Z) : ToE K M X Z := by
  obtain ⟨n, a⟩ := h
  obtain ⟨m, b⟩ := h'
  exact ⟨n + m, snE_add n m X Y Z a b⟩
theorem ToE.st {X Y Z : AuE} (h : stE K M X = some Y) (h' : ToE K M Y Z) : ToE K M X Z := by
  obtain ⟨n, a⟩ := h'
  exact ⟨n + 1, by unfold snE; rw [h]; exact a⟩
theorem pop_lft (r : Nat) : ∀ {x w : WtJ}, (∀ y ∈ x, r ≤ y.1) → hdE r w → pop9 r (x ++ w) = itm9 x ∧ lft9 r (x ++ w) = w
  | [], [], _, _ => ⟨rfl, rfl⟩
  | [], y :: w, _, h => by
    have h : y.1 < r := h
    exact ⟨if_neg (by omega), if_neg (by omega)⟩
  | z :: x, w, h, hw => by
    have h1 := h z (List.mem_cons_self ..)
    obtain ⟨a, b⟩ := pop_lft r (x := x) (w := w) (fun y hy => h y (List.mem_cons_of_mem _ hy)) hw
    constructor
    · show (if r ≤ z.1 then z.2 :: pop9 r (x ++ w) else []) = z.2 :: itm9 x
      rw [if_pos h1, a]
    · show (if r ≤ z.1 then lft9 r (x ++ w) else z :: (x ++ w)) = w
      rw [if_pos h1, b]
theorem dpE_app : ∀ {x w : WtJ}, dpE (x ++ w) = dpE x + dpE w
  | [], w => (Nat.zero_add _).symm
  | z :: x, w => by
    show (if z.2.1 = 7 ∨ z.2.1 = 16 then 1 else 0) + dpE (x ++ w) = (if z.2.1 = 7 ∨ z.2.1 = 16 then 1 else 0) + dpE x + dpE w
    rw [dpE_app, Nat.add_assoc]
theorem itm_app (x w : WtJ) : itm9 (x ++ w) = itm9 x ++ itm9 w := List.map_append
/-- all of x goes, w stays -/
theorem dd_all {r d : Nat} {x w : WtJ} (h : ∀ y ∈ x, r ≤ y.1) (hw : hdE r w) : ddE r d (x ++ w) = d - dpE x := by
  unfold ddE
  rw [(pop_lft r h hw).2, dpE_app]; congr 1; omega
theorem hdE.up {r r' : Nat} (h : r ≤ r') : ∀ {w : WtJ}, hdE r w → hdE r' w
  | [], _ => trivial
  | x :: _, q => Nat.lt_of_lt_of_le q h
end J82
/-! ===== THE JUDGE, 83: the stack emits what the class's rows mean ===== -/
noncomputable def ngs9 (e : Nat) : WtJ := List.replicate e (7, (7, 0))
noncomputable def TrE (K : Tkn) (M : EmJ) (R : CwJ) (F : CdF) : Prop := ∀ d p q a b, F 0 d p q a b → d ≤ 20 → ∀ (st : Bool) (k : Nat) (cd : Bool) (pa : Nat) (f : Int) (e : Nat) (w : WtJ) (gs : List GfE) (E : List ItJ), hdE 7 w → ∃ L, SmV R a b L (41 - 2 * d) ∧ ToE K M (true, (st, (p, (d, (((k, (cd, (pa, (f, ngs9 e ++ w)))), gs), E))))) (false, (false, (q, (d - e, (((k, (cd, (pa, (f, w)))), gs), E ++ L ++ List.replicate e (7, 0))))))
noncomputable def SuE (K : Tkn) (M : EmJ) (R : CwJ) (F : CdF) (m lo : Nat) : Prop := ∀ d p q a b, F m d p q a b → d ≤ 20 → ∀ (st : Bool) (k : Nat) (cd : Bool) (pa : Nat) (f : Int) (w : WtJ) (gs : List GfE) (E : List ItJ), pa ≠ 2 → hdE lo w → ∃ L x E', SmV R a b L (48 - lo - 2 * d) ∧ Rks lo 6 x ∧ dpE x = 0 ∧ E' ++ itm9 x = E ++ L ∧ ToE K M (true, (st, (p, (d, (((k, (cd, (pa, (f, w)))), gs), E))))) (false, (false, (q, (d, (((k, (cd, (pa, (f, x ++ w)))), gs), E')))))
noncomputable def CoE (K : Tkn) (M : EmJ) (R : CwJ) (F : CdF) (m lo hw : Nat) : Prop := ∀ d p q a b, F m d p q a b → d ≤ 20 → ∀ (k : Nat) (cd : Bool) (f : Int) (w : WtJ) (gs : List GfE) (E : List ItJ), k < 2 → hdE hw w → ∃ L x E' pa, SmT R a b L (44 - lo - 2 * d) ∧ Rks lo 6 x ∧ 0 < pa ∧ E' ++ itm9 x = E ++ L ∧ ToE K M (true, (true, (p, (d, (((k, (cd, (0, (f, w)))), gs), E))))) (false, (false, (q, (d + dpE x, (((k, (true, (pa, (f, x ++ w)))), gs), E')))))
section J83
variable {K : Tkn} {M : EmJ} {R : CwJ} {F : CdF}
theorem ngs_it (e : Nat) : itm9 (ngs9 e) = List.replicate e (7, 0) := by unfold itm9 ngs9; rw [List.map_replicate]
theorem ngs_dp : ∀ e : Nat, dpE (ngs9 e) = e
  | 0 => rfl
  | e + 1 => by
    show (if (7 : Nat) = 7 ∨ (7 : Nat) = 16 then 1 else 0) + dpE (ngs9 e) = e + 1
    rw [ngs_dp e, if_pos (Or.inl rfl)]; omega
theorem vd_ng {p d e k pa : Nat} {cd : Bool} {f : Int} {w : WtJ} {gs : List GfE} {E : List ItJ} (hw : hdE 7 w) : vdE p d (k, (cd, (pa, (f, ngs9 e ++ w)))) gs E = some (false, (false, (p, (d - e, (((k, (cd, (pa, (f, w)))), gs), E ++ List.replicate e (7, 0)))))) := by
  have h : ∀ y ∈ ngs9 e, 7 ≤ y.1 := fun y hy => by rw [List.eq_of_mem_replicate hy]; exact Nat.le_refl 7
  obtain ⟨a1, a2⟩ := pop_lft 7 h hw
  unfold vdE
  dsimp only
  rw [a1, a2, dd_all h hw, ngs_dp, ngs_it]
theorem Rks.app {lo hi : Nat} {x y : WtJ} (h : Rks lo hi x) (h' : Rks lo hi y) : Rks lo hi (x ++ y) := fun z hz => by
  rcases List.mem_append.mp hz with q | q
  · exact h z q
  · exact h' z q
theorem Rks.le {lo lo' hi : Nat} {x : WtJ} (h : Rks lo hi x) (hl : lo' ≤ lo) : Rks lo' hi x := fun z hz => ⟨Nat.le_trans hl (h z hz).1, (h z hz).2⟩
theorem Rks.one {lo hi r : Nat} {i : ItJ} (h : lo ≤ r ∧ r ≤ hi) : Rks lo hi [(r, i)] := fun z hz => by
  rcases List.mem_cons.mp hz with rfl | q
  · exact h
  · cases q
/-- a bracket that closes a sum -/
theorem cl_v {j d e k k0 pa : Nat} {cd cd0 : Bool} {f f0 : Int} {x w : WtJ} {gs : List GfE} {E : List ItJ} (hk : (K.c j = 11 ∧ (k0 = 2 ∨ (k0 = 1 ∧ cd0 = false))) ∨ (K.c j = 10 ∧ k0 = 3)) (hx : dpE x = 0) (hw : hdE 7 w) : stE K M (false, (false, (j, (d + 1, (((k0, (cd0, (0, (f0, x)))), (k, (cd, (pa, (f, ngs9 e ++ w)))) :: gs), E))))) = some (false, (false, (K.n j, (d - e, (((k, (cd, (pa, (f, w)))), gs), E ++ itm9 x ++ (if k0 = 3 then [(5, f0)] else []) ++ List.replicate e (7, 0)))))) := by
  show gonE K M j (d + 1) (k0, (cd0, (0, (f0, x)))) ((k, (cd, (pa, (f, ngs9 e ++ w)))) :: gs) E = _
  unfold gonE
  rw [if_neg (by rintro ⟨q, _⟩; omega), if_neg (by rintro ⟨q, _⟩; omega), if_neg (by rintro ⟨q, _⟩; omega), if_neg (by rintro ⟨q, _⟩; omega), if_pos (by
    rcases hk with ⟨q1, q2⟩ | q
    · exact Or.inl ⟨q1, q2.imp id (fun z => ⟨z.1, Or.inr z.2⟩)⟩
    · exact Or.inr q)]
  show (if k0 = 1 ∧ 0 < 0 then _ else vdE (K.n j) (ddE 0 (d + 1) x - 1) (k, (cd, (pa, (f, ngs9 e ++ w)))) gs (E ++ itm9 x ++ if k0 = 3 then [(5, f0)] else [])) = _
  rw [if_neg (by rintro ⟨_, q⟩; omega), vd_ng hw]
  have e0 : ddE 0 (d + 1) x = d + 1 := by
    unfold ddE; rw [hx]; omega
  rw [e0]; rfl
theorem tr_ok (hT : TrE K M R F) (hS : SuE K M R F 1 5) : TrE K M R (cdB K M R F) := by
  intro d p q a b h hd st k cd pa f e w gs E hw
  have h : (K.c p = 4 ∧ d < 20 ∧ ∃ c, F 0 (d + 1) (K.n p) q a c ∧ (R c).1 = 7 ∧ b = c + 1) ∨ (K.c p = 3 ∧ d < 20 ∧ ∃ j, F 1 (d + 1) (K.n p) j a b ∧ K.c j = 11 ∧ q = K.n j) ∨ ((K.c p = 5 ∨ K.c p = 6) ∧ q = K.n p ∧ R a = M.em p ∧ (M.em p).1 < 4 ∧ b = a + 1) ∨ (K.c p = 7 ∧ ftr K (K.n p) = okR q ∧ R a = (4, M.ft (K.n p)) ∧ b = a + 1) ∨ (K.c p = 8 ∧ ftr K p = okR q ∧ K.c q ≠ 9 ∧ R a = (5, M.ft p) ∧ b = a + 1) ∨ (K.c p = 8 ∧ d < 20 ∧ ∃ j i c, ftr K p = okR j ∧ K.c j = 9 ∧ F 1 (d + 1) (K.n j) i a c ∧ K.c i = 10 ∧ q = K.n i ∧ R c = (6, M.ft p) ∧ b = c + 1) := h
  have w0 : ∀ {o}, wanE K M st p d (k, (cd, (pa, (f, ngs9 e ++ w)))) gs E = o → stE K M (true, (st, (p, (d, (((k, (cd, (pa, (f, ngs9 e ++ w)))), gs), E))))) = o := fun h => h
  rcases h with ⟨h1, h2, c, h3, h4, h5⟩ | ⟨h1, h2, j, h3, h4, h5⟩ | ⟨h1, h2, h3, h4, h5⟩ | ⟨h1, h2, h3, h4⟩ | ⟨h1, h2, h3, h4, h5⟩ | ⟨h1, h2, j, i, c, h3, h4, h5, h6, h7, h8, h9⟩
  · obtain ⟨L, s1, s2⟩ := hT (d + 1) (K.n p) q a c h3 (by omega) false k cd pa f (e + 1) w gs E hw
    refine ⟨L ++ [(7, 0)], by rw [h5]; exact (s1.un (Or.inr ⟨h4, rfl⟩)).le (by omega), ?_⟩
    rw [show d + 1 - (e + 1) = d - e by omega, List.replicate_succ] at s2
    rw [show E ++ (L ++ [(7, 0)]) ++ List.replicate e ((7 : Nat), (0 : Int)) = E ++ L ++ (7, 0) :: List.replicate e (7, 0) by simp]
    refine ToE.st (w0 ?_) s2
    unfold wanE
    rw [if_neg (by rintro ⟨_, z⟩; omega), if_neg (by rintro ⟨_, z⟩; omega), if_neg (by omega), if_pos h1, if_neg (by omega)]
    rfl
  · obtain ⟨L, x, E', s1, s2, s3, s4, s5⟩ := hS (d + 1) (K.n p) j a b h3 (by omega) st (bif st then 1 else 2) false 0 0 [] ((k, (cd, (pa, (f, ngs9 e ++ w)))) :: gs) E (by omega) trivial
    refine ⟨L, s1.le (by omega), ?_⟩
    rw [List.append_nil] at s5
    have cl := cl_v (M := M) (j := j) (d := d) (e := e) (k := k) (k0 := bif st then 1 else 2) (pa := pa) (cd := cd) (cd0 := false) (f := f) (f0 := 0) (x := x) (w := w) (gs := gs) (E := E') (K := K) (Or.inl ⟨h4, by cases st; exact Or.inl rfl; exact Or.inr ⟨rfl, rfl⟩⟩) s3 hw
    have k3 : (bif st then 1 else 2) ≠ 3 := by cases st <;> decide
    rw [if_neg k3, List.append_nil, s4, ← h5] at cl
    refine ToE.st (w0 ?_) (s5.tr (ToE.st cl ToE.rf))
    unfold wanE
    rw [if_neg (by rintro ⟨_, z⟩; omega), if_neg (by rintro ⟨_, z⟩; omega), if_pos h1, if_neg (by omega)]
  · have hl : lod9 (R a).1 = (R a).1 := by unfold lod9; rw [h3, if_neg (by omega), if_neg (by omega)]
    have sm := SmV.load (R := R) (i := a) (by rw [h3]; omega)
    rw [hl] at sm
    refine ⟨[M.em p], by rw [h5, ← h3]; exact sm.le (by omega), ToE.st (w0 ?_) ToE.rf⟩
    unfold wanE
    rw [if_neg (by rintro ⟨_, z⟩; omega), if_neg (by rintro ⟨_, z⟩; omega), if_neg (by omega), if_neg (by omega), if_pos h1, vd_ng hw, h2]
  · have sm := SmV.load (R := R) (i := a) (by rw [h3]; exact (by omega : (4 : Nat) < 6))
    rw [h3] at sm
    refine ⟨[(6, M.ft (K.n p))], by rw [h4]; exact sm.le (by omega), ToE.st (w0 ?_) ToE.rf⟩
    unfold wanE
    rw [if_neg (by rintro ⟨_, z⟩; omega), if_neg (by rintro ⟨_, z⟩; omega), if_neg (by omega), if_neg (by omega), if_neg (by omega), if_pos h1, h2]
    exact vd_ng hw
  · have sm := SmV.load (R := R) (i := a) (by rw [h4]; exact (by omega : (5 : Nat) < 6))
    rw [h4] at sm
    refine ⟨[(4, M.ft p)], by rw [h5]; exact sm.le (by omega), ToE.st (w0 ?_) ToE.rf⟩
    unfold wanE
    rw [if_neg (by rintro ⟨_, z⟩; omega), if_neg (by rintro ⟨_, z⟩; omega), if_neg (by omega), if_neg (by omega), if_neg (by omega), if_neg (by omega), h2]
    show (if K.c q = 9 then _ else vdE q d _ gs (E ++ [(4, M.ft p)])) = _
    rw [if_neg h3]
    exact vd_ng hw
  · obtain ⟨L, x, E', s1, s2, s3, s4, s5⟩ := hS (d + 1) (K.n j) i a c h5 (by omega) false 3 false 0 (M.ft p) [] ((k, (cd, (pa, (f, ngs9 e ++ w)))) :: gs) E (by omega) trivial
    refine ⟨L ++ [(5, M.ft p)], by rw [h9]; exact (s1.un (Or.inl ⟨by rw [h8], by rw [h8]⟩)).le (by omega), ?_⟩
    rw [List.append_nil] at s5
    have cl := cl_v (M := M) (j := i) (d := d) (e := e) (k := k) (k0 := 3) (pa := pa) (cd := cd) (cd0 := false) (f := f) (f0 := M.ft p) (x := x) (w := w) (gs := gs) (E := E') (K := K) (Or.inr ⟨h6, rfl⟩) s3 hw
    rw [if_pos rfl, s4, ← h7, List.append_assoc E L] at cl
    refine ToE.st (w0 ?_) (s5.tr (ToE.st cl ToE.rf))
    unfold wanE
    rw [if_neg (by rintro ⟨_, z⟩; omega), if_neg (by rintro ⟨_, z⟩; omega), if_neg (by omega), if_neg (by omega), if_neg (by omega), if_neg (by omega), h3]
    show (if K.c j = 9 then (if d = 20 then none else _) else _) = _
    rw [if_pos h4, if_neg (by omega)]
/-- an op of sums -/
theorem gon_op {j d k pa r : Nat} {cd : Bool} {f : Int} {x w : WtJ} {gs : List GfE} {E : List ItJ} (hc : K.c j = 4 ∨ K.c j = 12 ∨ K.c j = 13) (hr : rnk9 (K.c j) = r) (hpa : pa ≠ 2) (hx : Rks r 6 x) (hd : dpE x = 0) (hw : hdE r w) : stE K M (false, (false, (j, (d, (((k, (cd, (pa, (f, x ++ w)))), gs), E))))) = some (true, (false, (K.n j, (d, (((k, (cd, (pa, (f, (r, M.em j) :: w)))), gs), E ++ itm9 x))))) := by
  show gonE K M j d (k, (cd, (pa, (f, x ++ w)))) gs E = _
  have h : ∀ y ∈ x, r ≤ y.1 := fun y hy => (hx y hy).1
  obtain ⟨a1, a2⟩ := pop_lft r h hw
  unfold gonE
  rw [if_pos ⟨hc, hpa⟩]
  dsimp only
  rw [hr, a1, a2, dd_all h hw, hd]
  rfl
theorem pr_ok (hT : TrE K M R F) (hP : SuE K M R F 7 6) : SuE K M R (cdB K M R F) 7 6 := by
  intro d p q a b h hd st k cd pa f w gs E hpa hw
  have h : F 0 d p q a b ∨ ∃ j c e, F 7 d p j a c ∧ K.c j = 13 ∧ F 0 d (K.n j) q c e ∧ (R e).1 = (M.em j).1 ∧ (10 ≤ (M.em j).1 ∧ (M.em j).1 ≤ 12) ∧ b = e + 1 := h
  rcases h with h | ⟨j, c, e, h1, h2, h3, h4, h5, h6⟩
  · obtain ⟨L, s1, s2⟩ := hT d p q a b h hd st k cd pa f 0 w gs E (hw.up (by decide))
    refine ⟨L, [], E ++ L, s1.le (by omega), fun y hy => (by cases hy), rfl, List.append_nil _, ?_⟩
    rw [show E ++ L ++ List.replicate 0 ((7 : Nat), (0 : Int)) = E ++ L from List.append_nil _] at s2
    exact s2
  · obtain ⟨L, x, E', s1, s2, s3, s4, s5⟩ := hP d p j a c h1 hd st k cd pa f w gs E hpa hw
    obtain ⟨L2, t1, t2⟩ := hT d (K.n j) q c e h3 hd false k cd pa f 0 ((6, M.em j) :: w) gs (E' ++ itm9 x) (by show 6 < 7; omega)
    have go := gon_op (M := M) (gs := gs) (E := E') (k := k) (cd := cd) (f := f) (d := d) (Or.inr (Or.inr h2)) (by rw [h2]; rfl) hpa s2 s3 hw
    refine ⟨L ++ L2 ++ [M.em j], [(6, M.em j)], E ++ L ++ L2, by rw [h6]; exact s1.two t1 (by omega) h4 (show 8 ≤ (M.em j).1 ∧ (M.em j).1 ≤ 12 from ⟨by omega, by omega⟩), Rks.one (by decide), ?_, by simp [itm9], ?_⟩
    · show (if (M.em j).1 = 7 ∨ (M.em j).1 = 16 then 1 else 0) + 0 = 0
      rw [if_neg (by omega)]
    · rw [s4, show E ++ L ++ L2 ++ List.replicate 0 ((7 : Nat), (0 : Int)) = E ++ L ++ L2 from List.append_nil _] at t2
      rw [s4] at go
      exact s5.tr (ToE.st go t2)
theorem su_ok (hP : SuE K M R F 7 6) (hS : SuE K M R F 1 5) : SuE K M R (cdB K M R F) 1 5 := by
  intro d p q a b h hd st k cd pa f w gs E hpa hw
  have h : F 7 d p q a b ∨ ∃ j c e, F 1 d p j a c ∧ (K.c j = 4 ∨ K.c j = 12) ∧ F 7 d (K.n j) q c e ∧ (R e).1 = (M.em j).1 ∧ (8 ≤ (M.em j).1 ∧ (M.em j).1 ≤ 9) ∧ b = e + 1 := h
  rcases h with h | ⟨j, c, e, h1, h2, h3, h4, h5, h6⟩
  · obtain ⟨L, x, E', s1, s2, s3, s4, s5⟩ := hP d p q a b h hd st k cd pa f w gs E hpa (hw.up (by decide))
    exact ⟨L, x, E', s1.le (by omega), s2.le (by decide), s3, s4, s5⟩
  · obtain ⟨L, x, E', s1, s2, s3, s4, s5⟩ := hS d p j a c h1 hd st k cd pa f w gs E hpa hw
    obtain ⟨L2, x2, E2, t1, t2, t3, t4, t5⟩ := hP d (K.n j) q c e h3 hd false k cd pa f ((5, M.em j) :: w) gs (E' ++ itm9 x) hpa (by show 5 < 6; omega)
    have go := gon_op (M := M) (gs := gs) (E := E') (k := k) (cd := cd) (f := f) (d := d) (h2.imp id Or.inl) (by unfold rnk9; rw [if_neg (by omega)]) hpa s2 s3 hw
    refine ⟨L ++ L2 ++ [M.em j], x2 ++ [(5, M.em j)], E2, by rw [h6]; exact s1.two t1 (by omega) h4 (show 8 ≤ (M.em j).1 ∧ (M.em j).1 ≤ 12 from ⟨by omega, by omega⟩), (t2.le (by decide)).app (Rks.one (by decide)), ?_, ?_, ?_⟩
    · rw [dpE_app, t3]
      show 0 + ((if (M.em j).1 = 7 ∨ (M.em j).1 = 16 then 1 else 0) + 0) = 0
      rw [if_neg (by omega)]
    · rw [itm_app, ← List.append_assoc, t4, s4]; simp [itm9]
    · rw [List.append_assoc x2]
      exact s5.tr (ToE.st go t5)
theorem cm_okj9 (hS : SuE K M R F 1 5) : CoE K M R (cdB K M R F) 6 4 4 := by
  intro d p q a b h hd k cd f w gs E hk hw
  have h : (∃ j c, F 1 d p j a c ∧ K.c j = 15 ∧ ftr K (K.n j) = okR q ∧ R c = (19, M.ft (K.n j)) ∧ b = c + 1) ∨ ∃ j c e k, F 1 d p j a c ∧ K.c j = 14 ∧ F 1 d (K.n j) q c e ∧ k ≤ 5 ∧ M.em j = (13, ((k : Nat) : Int)) ∧ (R e).1 = 13 + k ∧ b = e + 1 := h
  have h5 : ∀ {x : WtJ}, Rks 5 6 x → ∀ y ∈ x, 5 ≤ y.1 := fun h y hy => (h y hy).1
  rcases h with ⟨j, c, h1, h2, h3, h4, h6⟩ | ⟨j, c, e, k9, h1, h2, h3, h4, h6, h7, h8⟩
  · obtain ⟨L, x, E', s1, s2, s3, s4, s5⟩ := hS d p j a c h1 hd true k cd 0 f w gs E (by decide) (hw.up (by decide))
    obtain ⟨p1, p2⟩ := pop_lft 5 (h5 s2) (hw.up (show 4 ≤ 5 by decide))
    refine ⟨L ++ [(14, M.ft (K.n j))], [], E ++ L ++ [(14, M.ft (K.n j))], 2, ?_, fun y hy => (by cases hy), by decide, by simp [itm9], ?_⟩
    · rw [h6]
      have := SmT.among (ht := 44 - 4 - 2 * d) s1 (by omega) (by rw [h4])
      rw [h4] at this
      exact this
    · refine s5.tr (ToE.st ?_ ToE.rf)
      show gonE K M j d (k, (cd, (0, (f, x ++ w)))) gs E' = _
      unfold gonE
      rw [if_neg (by rintro ⟨z, _⟩; omega), if_neg (by rintro ⟨z, _⟩; omega), if_pos ⟨h2, hk, rfl⟩, h3]
      show some (false, (false, (q, (ddE 5 d (x ++ w), (((k, (true, (2, (f, lft9 5 (x ++ w))))), gs), E' ++ pop9 5 (x ++ w) ++ [(14, M.ft (K.n j))]))))) = _
      rw [p1, p2, dd_all (h5 s2) (hw.up (by decide)), s3, s4]
      rfl
  · obtain ⟨L, x, E', s1, s2, s3, s4, s5⟩ := hS d p j a c h1 hd true k cd 0 f w gs E (by decide) (hw.up (by decide))
    obtain ⟨p1, p2⟩ := pop_lft 5 (h5 s2) (hw.up (show 4 ≤ 5 by decide))
    obtain ⟨L2, x2, E2, t1, t2, t3, t4, t5⟩ := hS d (K.n j) q c e h3 hd false k true 1 f ((4, M.em j) :: w) gs (E' ++ itm9 x) (by decide) (by show 4 < 5; omega)
    have e13 : dpE [(4, M.em j)] = 0 := by rw [h6]; rfl
    refine ⟨L ++ L2 ++ [M.em j], x2 ++ [(4, M.em j)], E2, 1, ?_, (t2.le (by decide)).app (Rks.one (by decide)), by decide, ?_, ?_⟩
    · rw [h8, h6]; exact SmT.cmp s1 t1 (by omega) h7 h4
    · rw [itm_app, ← List.append_assoc, t4, s4]; simp [itm9]
    · rw [dpE_app, t3, e13, List.append_assoc x2]
      refine s5.tr (ToE.st ?_ t5)
      show gonE K M j d (k, (cd, (0, (f, x ++ w)))) gs E' = _
      unfold gonE
      rw [if_neg (by rintro ⟨z, _⟩; omega), if_pos ⟨h2, hk, rfl⟩]
      show some (true, (false, (K.n j, (ddE 5 d (x ++ w), (((k, (true, (1, (f, (4, M.em j) :: lft9 5 (x ++ w))))), gs), E' ++ pop9 5 (x ++ w)))))) = _
      rw [p1, p2, dd_all (h5 s2) (hw.up (by decide)), s3]
      rfl
theorem sc_ok (hU : CoE K M R F 5 3 4) (hC : CoE K M R F 3 1 1) (hM : CoE K M R F 6 4 4) : CoE K M R (cdB K M R F) 5 3 4 := by
  intro d p q a b h hd k cd f w gs E hk hw
  have h : (K.c p = 1 ∧ d < 20 ∧ ∃ c, F 5 (d + 1) (K.n p) q a c ∧ (R c).1 = 21 ∧ b = c + 1) ∨ (K.c p = 2 ∧ ftr K (K.n p) = okR q ∧ R a = (20, M.ft (K.n p)) ∧ b = a + 1) ∨ (K.c p = 3 ∧ d < 20 ∧ ∃ j, F 3 (d + 1) (K.n p) j a b ∧ K.c j = 11 ∧ q = K.n j) ∨ F 6 d p q a b := h
  have w0 : ∀ {o}, wanE K M true p d (k, (cd, (0, (f, w)))) gs E = o → stE K M (true, (true, (p, (d, (((k, (cd, (0, (f, w)))), gs), E))))) = o := fun h => h
  rcases h with ⟨h1, h2, c, h3, h4, h5⟩ | ⟨h1, h2, h3, h4⟩ | ⟨h1, h2, j, h3, h4, h5⟩ | h
  · obtain ⟨L, x, E', pa, s1, s2, s3, s4, s5⟩ := hU (d + 1) (K.n p) q a c h3 (by omega) k true f ((3, (16, 0)) :: w) gs E hk (by show 3 < 4; omega)
    refine ⟨L ++ [(16, 0)], x ++ [(3, (16, 0))], E', pa, by rw [h5]; exact (s1.not h4).le (by omega), s2.app (Rks.one (by decide)), s3, ?_, ?_⟩
    · rw [itm_app, ← List.append_assoc, s4]; simp [itm9]
    · rw [dpE_app, List.append_assoc x]
      have e1 : d + (dpE x + dpE [(3, ((16 : Nat), (0 : Int)))]) = d + 1 + dpE x := by
        show d + (dpE x + 1) = d + 1 + dpE x
        omega
      rw [e1]
      refine ToE.st (w0 ?_) s5
      unfold wanE
      rw [if_pos ⟨rfl, h1⟩, if_neg (by omega)]
  · refine ⟨[(15, M.ft (K.n p))], [], E ++ [(15, M.ft (K.n p))], 2, ?_, fun y hy => (by cases hy), by decide, by simp [itm9], ToE.st (w0 ?_) ToE.rf⟩
    · rw [h4]
      have := SmT.known (R := R) (i := a) (ht := 44 - 3 - 2 * d) (by rw [h3])
      rw [h3] at this
      exact this
    · unfold wanE
      rw [if_neg (by rintro ⟨_, z⟩; omega), if_pos ⟨rfl, h1⟩, h2]
      rfl
  · obtain ⟨L, x, E', pa, s1, s2, s3, s4, s5⟩ := hC (d + 1) (K.n p) j a b h3 (by omega) 1 false 0 [] ((k, (cd, (0, (f, w)))) :: gs) E (by decide) trivial
    rw [List.append_nil] at s5
    refine ⟨L, [], E ++ L, 2, s1.le (by omega), fun y hy => (by cases hy), by decide, by simp [itm9], ToE.st (w0 ?_) (s5.tr (ToE.st ?_ ToE.rf))⟩
    · unfold wanE
      rw [if_neg (by rintro ⟨_, z⟩; omega), if_neg (by rintro ⟨_, z⟩; omega), if_pos h1, if_neg (by omega)]
      rfl
    · show gonE K M j (d + 1 + dpE x) (1, (true, (pa, (0, x)))) ((k, (cd, (0, (f, w)))) :: gs) E' = _
      unfold gonE
      rw [if_neg (by rintro ⟨z, _⟩; omega), if_neg (by rintro ⟨z, _⟩; omega), if_neg (by rintro ⟨z, _⟩; omega), if_neg (by rintro ⟨z, _⟩; omega), if_pos (Or.inl ⟨h4, Or.inr ⟨rfl, Or.inl s3⟩⟩)]
      show (if 1 = 1 ∧ 0 < pa then some (false, (false, (K.n j, (ddE 0 (d + 1 + dpE x) x - 1, (((k, (true, (2, (f, w)))), gs), E' ++ itm9 x))))) else _) = _
      rw [if_pos ⟨rfl, s3⟩, s4]
      have l0 : lft9 0 x = [] := by
        have := (pop_lft 0 (x := x) (w := []) (fun y _ => Nat.zero_le _) trivial).2
        rw [List.append_nil] at this
        exact this
      have e0 : ddE 0 (d + 1 + dpE x) x - 1 = d := by
        unfold ddE; rw [l0]
        show d + 1 + dpE x - (dpE x - 0) - 1 = d
        omega
      rw [e0, ← h5]
      rfl
  · obtain ⟨L, x, E', pa, s1, s2, s3⟩ := hM d p q a b h hd k cd f w gs E hk hw
    exact ⟨L, x, E', pa, s1.le (by omega), s2.le (by decide), s3⟩
/-- and, or -/
theorem gon_jn {j d k pa r : Nat} {f : Int} {x w : WtJ} {gs : List GfE} {E : List ItJ} (hc : K.c j = 16 ∨ K.c j = 17) (hr : ra9 (K.c j) = r) (hk : k < 2) (hpa : 0 < pa) (hx : Rks r 6 x) (hw : hdE r w) : stE K M (false, (false, (j, (d + dpE x, (((k, (true, (pa, (f, x ++ w)))), gs), E))))) = some (true, (true, (K.n j, (d, (((k, (true, (0, (f, (r, M.em j) :: w)))), gs), E ++ itm9 x))))) := by
  show gonE K M j (d + dpE x) (k, (true, (pa, (f, x ++ w)))) gs E = _
  have h : ∀ y ∈ x, r ≤ y.1 := fun y hy => (hx y hy).1
  obtain ⟨a1, a2⟩ := pop_lft r h hw
  unfold gonE
  rw [if_neg (by rintro ⟨z, _⟩; omega), if_neg (by rintro ⟨z, _⟩; omega), if_neg (by rintro ⟨z, _⟩; omega), if_pos ⟨hc, hk, hpa⟩]
  dsimp only
  rw [hr, a1, a2, dd_all h hw, show d + dpE x - dpE x = d by omega]
theorem pt_ok (hU : CoE K M R F 5 3 4) (hP : CoE K M R F 9 2 2) : CoE K M R (cdB K M R F) 9 2 2 := by
  intro d p q a b h hd k cd f w gs E hk hw
  have h : F 5 d p q a b ∨ ∃ j c e : Nat, F 9 d p j a c ∧ K.c j = 16 ∧ M.em j = (17, 0) ∧ R c = (24, (e : Int) + 1) ∧ F 5 d (K.n j) q (c + 1) e ∧ (R e).1 = 22 ∧ b = e + 1 := h
  rcases h with h | ⟨j, c, e, h1, h2, h3, h4, h5, h6, h7⟩
  · obtain ⟨L, x, E', pa, s1, s2, s3⟩ := hU d p q a b h hd k cd f w gs E hk (hw.up (by decide))
    exact ⟨L, x, E', pa, s1.le (by omega), s2.le (by decide), s3⟩
  · obtain ⟨L, x, E', pa, s1, s2, s3, s4, s5⟩ := hP d p j a c h1 hd k cd f w gs E hk hw
    obtain ⟨L2, x2, E2, pa2, t1, t2, t3, t4, t5⟩ := hU d (K.n j) q (c + 1) e h5 hd k true f ((2, M.em j) :: w) gs (E' ++ itm9 x) hk (by show 2 < 4; omega)
    have go := gon_jn (M := M) (gs := gs) (E := E') (f := f) (d := d) (Or.inl h2) (by rw [h2]; rfl) hk s3 s2 hw
    refine ⟨L ++ L2 ++ [(17, 0)], x2 ++ [(2, M.em j)], E2, pa2, ?_, (t2.le (by decide)).app (Rks.one (by decide)), t3, ?_, ?_⟩
    · rw [h7]
      have := SmT.join (v := 0) (hu := 44 - 2 - 2 * d) s1 t1 (by omega) (by rw [h4]) (Or.inl ⟨by rw [h4], h6⟩)
      rw [h6] at this
      exact this
    · rw [itm_app, ← List.append_assoc, t4, s4, h3]; simp [itm9]
    · have e0 : dpE [(2, M.em j)] = 0 := by rw [h3]; rfl
      rw [dpE_app, e0, Nat.add_zero, List.append_assoc x2]
      exact s5.tr (ToE.st go t5)
theorem cn_okj9 (hP : CoE K M R F 9 2 2) (hC : CoE K M R F 3 1 1) : CoE K M R (cdB K M R F) 3 1 1 := by
  intro d p q a b h hd k cd f w gs E hk hw
  have h : F 9 d p q a b ∨ ∃ j c e : Nat, F 3 d p j a c ∧ K.c j = 17 ∧ M.em j = (18, 0) ∧ R c = (25, (e : Int) + 1) ∧ F 9 d (K.n j) q (c + 1) e ∧ (R e).1 = 23 ∧ b = e + 1 := h
  rcases h with h | ⟨j, c, e, h1, h2, h3, h4, h5, h6, h7⟩
  · obtain ⟨L, x, E', pa, s1, s2, s3⟩ := hP d p q a b h hd k cd f w gs E hk (hw.up (by decide))
    exact ⟨L, x, E', pa, s1.le (by omega), s2.le (by decide), s3⟩
  · obtain ⟨L, x, E', pa, s1, s2, s3, s4, s5⟩ := hC d p j a c h1 hd k cd f w gs E hk hw
    obtain ⟨L2, x2, E2, pa2, t1, t2, t3, t4, t5⟩ := hP d (K.n j) q (c + 1) e h5 hd k true f ((1, M.em j) :: w) gs (E' ++ itm9 x) hk (by show 1 < 2; omega)
    have go := gon_jn (M := M) (gs := gs) (E := E') (f := f) (d := d) (Or.inr h2) (by rw [h2]; rfl) hk s3 s2 hw
    refine ⟨L ++ L2 ++ [(18, 0)], x2 ++ [(1, M.em j)], E2, pa2, ?_, (t2.le (by decide)).app (Rks.one (by decide)), t3, ?_, ?_⟩
    · rw [h7]
      have := SmT.join (v := 0) (hu := 44 - 1 - 2 * d) s1 t1 (by omega) (by rw [h4]) (Or.inr ⟨by rw [h4], h6⟩)
      rw [h6] at this
      exact this
    · rw [itm_app, ← List.append_assoc, t4, s4, h3]; simp [itm9]
    · have e0 : dpE [(1, M.em j)] = 0 := by rw [h3]; rfl
      rw [dpE_app, e0, Nat.add_zero, List.append_assoc x2]
      exact s5.tr (ToE.st go t5)
theorem all_em : ∀ n : Nat, TrE K M R (cd8 K M R n) ∧ SuE K M R (cd8 K M R n) 7 6 ∧ SuE K M R (cd8 K M R n) 1 5 ∧ CoE K M R (cd8 K M R n) 6 4 4 ∧ CoE K M R (cd8 K M R n) 5 3 4 ∧ CoE K M R (cd8 K M R n) 9 2 2 ∧ CoE K M R (cd8 K M R n) 3 1 1
  | 0 => ⟨fun _ _ _ _ _ h => h.elim, fun _ _ _ _ _ h => h.elim, fun _ _ _ _ _ h => h.elim, fun _ _ _ _ _ h => h.elim, fun _ _ _ _ _ h => h.elim, fun _ _ _ _ _ h => h.elim, fun _ _ _ _ _ h => h.elim⟩
  | n + 1 => by
    obtain ⟨h1, h2, h3, h4, h5, h6, h7⟩ := all_em n
    exact ⟨tr_ok h1 h3, pr_ok h1 h2, su_ok h2 h3, cm_okj9 h3, sc_ok h5 h7 h4, pt_ok h5 h6, cn_okj9 h6 h7⟩
/-- the stack at a condition's begin -/
noncomputable def X0E (p : Nat) : AuE := (true, (true, (p, (0, (((0, (true, (0, (0, [])))), []), [])))))
/-- a condition that the class has read: what the stack emits is what the class's rows mean -/
theorem emit_ok {n p q a b : Nat} (h : cd8 K M R n 3 0 p q a b) : ∃ L x E' pa, SmT R a b L 43 ∧ 0 < pa ∧ E' ++ itm9 x = L ∧ ToE K M (X0E p) (false, (false, (q, (0 + dpE x, (((0, (true, (pa, (0, x)))), []), E'))))) := by
  obtain ⟨L, x, E', pa, s1, s2, s3, s4, s5⟩ := (all_em (K := K) (M := M) (R := R) n).2.2.2.2.2.2 0 p q a b h (by omega) 0 true 0 [] [] [] (by decide) trivial
  rw [List.append_nil] at s5
  exact ⟨L, x, E', pa, s1, s3, s4, s5⟩
end J83

end
