/-! ===== BASE. The pure side knows a cell by its number: a value '.ref k' is cell k; where the cells lie (a), which heap it is, and the tables stay inside xW. A state: ints, longs, references (0: null, k + 1: cell k) by cell and place. ===== -/
abbrev xS : Type := (Nat → Nat → Int32) × ((Nat → Nat → Int64) × (Nat → Nat → Nat))
abbrev xG : Type := va_G × (ClassId × (ClassId × (ClassId × ClassId)))
/-- the launch; classes; the first address that is the law's own; where the constant texts lie; the heap at the law's beginning -/
abbrev xV : Type := Launch × (xG × (Nat × ((Nat → Nat) × Heap)))
abbrev xY : Type := MethodName × (ByteArray × (Nat × (Option FieldType × Room)))
def xT (G : xG) : List (ClassId × FieldType) := [(G.2.1, .int), (G.2.2.1, .long), (G.2.2.2.1, .boolean), (G.2.2.2.2, .array .long)]
def xrel (a : Nat → Nat) (v : Value) : Value := match v with
  | .ref k => .ref (a k)
  | w => w
def xlv (a : Nat → Nat) (lv : List (Nat × Value)) : List (Nat × Value) := lv.map fun q => (q.1, xrel a q.2)
def xrv (a : Nat → Nat) (k : Nat) : Value := match k with
  | 0 => .null
  | k + 1 => .ref (a k)
def xro (a : Nat → Nat) (k : Nat) : Option Nat := match k with
  | 0 => none
  | k + 1 => some (a k)
def xfv (a : Nat → Nat) (f : Nat → Int32) (g : Nat → Int64) (h : Nat → Nat) (j c : Nat) : Value := match c with
  | 0 => .int (f j)
  | 1 => .long (g j)
  | _ => xrv a (h j)
def xF (a : Nat → Nat) (f : Nat → Int32) (g : Nat → Int64) (h : Nat → Nat) : Nat → List Nat → List Value
  | _, [] => []
  | j, c :: cs => xfv a f g h j c :: xF a f g h (j + 1) cs
/-- what cell of a kind d holds: d.1 below 100: an object of that class, d.2 the kinds of its fields; 100 int[], 101 long[], 102 boolean[], else long[][], d.2 its length -/
def xE (G : xG) (a : Nat → Nat) (d : Nat × List Nat) (f : Nat → Int32) (g : Nat → Int64) (h : Nat → Nat) : va_E :=
  if d.1 < 100 then .inr (d.1, xF a f g h 0 d.2)
  else if d.1 = 100 then .inl (G.2.1, (d.2.headD 0, .inl f))
  else if d.1 = 101 then .inl (G.2.2.1, (d.2.headD 0, .inr (.inl g)))
  else if d.1 = 102 then .inl (G.2.2.2.1, (d.2.headD 0, .inl f))
  else .inl (G.2.2.2.2, (d.2.headD 0, .inr (.inr (.inr (.inr fun i => xro a (h i))))))
def xc (G : xG) (a : Nat → Nat) (σ : xS) (k : Nat) : Nat × va_E := (a k, xE G a (KD k) (σ.1 k) (σ.2.1 k) (σ.2.2 k))
def xW (G : xG) (a : Nat → Nat) (n : Nat) (σ : xS) : va_W := (List.range n).map (xc G a σ)
theorem xW_at {G : xG} {a : Nat → Nat} {n : Nat} {σ : xS} {k : Nat} (h : k < n) : (xW G a n σ)[k]? = some (xc G a σ k) := by
  simp [xW, List.getElem?_map, List.getElem?_range h]
theorem xW_len {G : xG} {a : Nat → Nat} {n : Nat} {σ : xS} : (xW G a n σ).length = n := by simp [xW]
theorem xW_none {G : xG} {a : Nat → Nat} {n : Nat} {σ : xS} {k : Nat} (h : ¬ k < n) : (xW G a n σ)[k]? = none := by
  apply List.getElem?_eq_none
  rw [xW_len]
  omega
theorem xW_inv {G : xG} {a : Nat → Nat} {n : Nat} {σ : xS} {k : Nat} {q : Nat × va_E} (h : (xW G a n σ)[k]? = some q) : k < n ∧ q = xc G a σ k := by
  by_cases hk : k < n
  · rw [xW_at hk] at h
    exact ⟨hk, (Option.some.inj h).symm⟩
  · rw [xW_none hk] at h
    cases h
/-- one row of a table of rows becomes another -/
def xup {α : Type} (M : Nat → α) (k : Nat) (f : α) : Nat → α := fun i => if i = k then f else M i
theorem xup_same {α : Type} {M : Nat → α} {k : Nat} {f : α} : xup M k f k = f := if_pos rfl
theorem xup_ne {α : Type} {M : Nat → α} {k i : Nat} {f : α} (h : i ≠ k) : xup M k f i = M i := if_neg h
def xupN (h : Nat → Nat) (j v : Nat) : Nat → Nat := fun i => if i = j then v else h i
/-- the int, the long, the reference at cell k, place j becomes v -/
def sI (σ : xS) (k j : Nat) (v : Int32) : xS := (xup σ.1 k (upd (σ.1 k) j v), σ.2)
def sJ (σ : xS) (k j : Nat) (v : Int64) : xS := (σ.1, (xup σ.2.1 k (vp_updL (σ.2.1 k) j v), σ.2.2))
def sR (σ : xS) (k j : Nat) (v : Nat) : xS := (σ.1, (σ.2.1, xup σ.2.2 k (xupN (σ.2.2 k) j v)))
theorem xW_set {G : xG} {a : Nat → Nat} {n : Nat} {σ σ' : xS} {k : Nat} (hk : k < n) (hne : ∀ i, i ≠ k → σ'.1 i = σ.1 i ∧ σ'.2.1 i = σ.2.1 i ∧ σ'.2.2 i = σ.2.2 i) : (xW G a n σ).set k (xc G a σ' k) = xW G a n σ' := by
  apply List.ext_getElem?
  intro i
  by_cases hi : i = k
  · subst hi
    rw [xW_at hk, List.getElem?_set_self (by rw [xW_len]; exact hk)]
  · rw [List.getElem?_set_ne (fun h => hi h.symm)]
    by_cases hn : i < n
    · rw [xW_at hn, xW_at hn]
      obtain ⟨h1, h2, h3⟩ := hne i hi
      simp [xc, h1, h2, h3]
    · rw [xW_none hn, xW_none hn]
theorem xF_at {a : Nat → Nat} {f : Nat → Int32} {g : Nat → Int64} {h : Nat → Nat} : ∀ (cs : List Nat) (o j : Nat) {c : Nat}, cs[j]? = some c → (xF a f g h o cs)[j]? = some (xfv a f g h (o + j) c)
  | [], _, _, _, hj => by simp at hj
  | c0 :: cs, o, 0, c, hj => by
    simp at hj
    simp [xF, hj]
  | c0 :: cs, o, j + 1, c, hj => by
    simp at hj
    have := xF_at (a := a) (f := f) (g := g) (h := h) cs (o + 1) j hj
    simp [xF, this, Nat.add_assoc, Nat.add_comm 1 j]
theorem xF_len {a : Nat → Nat} {f : Nat → Int32} {g : Nat → Int64} {h : Nat → Nat} : ∀ (cs : List Nat) (o : Nat), (xF a f g h o cs).length = cs.length
  | [], _ => rfl
  | _ :: cs, o => by simp [xF, xF_len cs (o + 1)]
/-- a row of fields with one place changed: by what the place is made of -/
theorem xF_set {a : Nat → Nat} {f f' : Nat → Int32} {g g' : Nat → Int64} {h h' : Nat → Nat} {v : Value} : ∀ (cs : List Nat) (o j : Nat) {c : Nat}, cs[j]? = some c → xfv a f' g' h' (o + j) c = v → (∀ i c', i ≠ o + j → xfv a f' g' h' i c' = xfv a f g h i c') → (xF a f g h o cs).set j v = xF a f' g' h' o cs
  | [], _, _, _, hj, _, _ => by simp at hj
  | c0 :: cs, o, 0, c, hj, hv, hne => by
    simp at hj
    subst hj
    have : ∀ (cs : List Nat) (o' : Nat), o < o' → xF a f g h o' cs = xF a f' g' h' o' cs := by
      intro cs
      induction cs with
      | nil => intros; rfl
      | cons c1 cs ih =>
        intro o' ho
        simp only [xF]
        rw [ih (o' + 1) (by omega), hne o' c1 (by omega)]
    simp only [xF, List.set_cons_zero]
    rw [this cs (o + 1) (by omega), ← hv]
    simp
  | c0 :: cs, o, j + 1, c, hj, hv, hne => by
    simp at hj
    have := xF_set (a := a) (f := f) (f' := f') (g := g) (g' := g') (h := h) (h' := h') (v := v) cs (o + 1) j hj (by rw [← hv]; congr 1; omega) (fun i c' hi => hne i c' (by omega))
    simp only [xF, List.set_cons_succ]
    rw [this, hne o c0 (by omega)]
