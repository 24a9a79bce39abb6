section
/-! ===== BASE. The pure side knows a cell by its number: a value '.ref k' is cell k; where the cells lie (a), which heap it is, and the tables stay inside xW. A state: ints, longs, references (0: null, k + 1: cell k) by cell and place. ===== -/
noncomputable abbrev xS : Type := (Nat → Nat → Int32) × ((Nat → Nat → Int64) × (Nat → Nat → Nat))
noncomputable abbrev xG : Type := va_G × (ClassId × (ClassId × (ClassId × ClassId)))
/-- the launch; classes; the first address that is the law's own; where the constant texts lie; the heap at the law's beginning -/
noncomputable abbrev xV : Type := Launch × (xG × (Nat × ((Nat → Nat) × Heap)))
noncomputable abbrev xY : Type := MethodName × (ByteArray × (Nat × (Option FieldType × Room)))
noncomputable def xT (G : xG) : List (ClassId × FieldType) := [(G.2.1, .int), (G.2.2.1, .long), (G.2.2.2.1, .boolean), (G.2.2.2.2, .array .long)]
noncomputable def xrel (a : Nat → Nat) (v : Value) : Value := match v with
  | .ref k => .ref (a k)
  | w => w
noncomputable def xlv (a : Nat → Nat) (lv : List (Nat × Value)) : List (Nat × Value) := lv.map fun q => (q.1, xrel a q.2)
noncomputable def xrv (a : Nat → Nat) (k : Nat) : Value := match k with
  | 0 => .null
  | k + 1 => .ref (a k)
noncomputable def xro (a : Nat → Nat) (k : Nat) : Option Nat := match k with
  | 0 => none
  | k + 1 => some (a k)
noncomputable def xfv (a : Nat → Nat) (f : Nat → Int32) (g : Nat → Int64) (h : Nat → Nat) (j c : Nat) : Value := match c with
  | 0 => .int (f j)
  | 1 => .long (g j)
  | _ => xrv a (h j)
noncomputable def xF (a : Nat → Nat) (f : Nat → Int32) (g : Nat → Int64) (h : Nat → Nat) : Nat → List Nat → List Value
  | _, [] => []
  | j, c :: cs => xfv a f g h j c :: xF a f g h (j + 1) cs
/-- what cell of a kind d holds: d.1 below 100: an object of that class, d.2 the kinds of its fields; 100 int[], 101 long[], 102 boolean[], else long[][], d.2 its length -/
noncomputable def xE (G : xG) (a : Nat → Nat) (d : Nat × List Nat) (f : Nat → Int32) (g : Nat → Int64) (h : Nat → Nat) : va_E :=
  if d.1 < 100 then .inr (d.1, xF a f g h 0 d.2)
  else if d.1 = 100 then .inl (G.2.1, (d.2.headD 0, .inl f))
  else if d.1 = 101 then .inl (G.2.2.1, (d.2.headD 0, .inr (.inl g)))
  else if d.1 = 102 then .inl (G.2.2.2.1, (d.2.headD 0, .inl f))
  else .inl (G.2.2.2.2, (d.2.headD 0, .inr (.inr (.inr (.inr fun i => xro a (h i))))))
noncomputable def xc (G : xG) (a : Nat → Nat) (σ : xS) (k : Nat) : Nat × va_E := (a k, xE G a (KD k) (σ.1 k) (σ.2.1 k) (σ.2.2 k))
noncomputable def xW (G : xG) (a : Nat → Nat) (n : Nat) (σ : xS) : va_W := (List.range n).map (xc G a σ)
theorem xW_at {G : xG} {a : Nat → Nat} {n : Nat} {σ : xS} {k : Nat} (h : k < n) : (xW G a n σ)[k]? = some (xc G a σ k) := by
  simp [xW, List.getElem?_map, List.getElem?_range h]
theorem xW_len {G : xG} {a : Nat → Nat} {n : Nat} {σ : xS} : (xW G a n σ).length = n := by simp [xW]
theorem xW_none {G : xG} {a : Nat → Nat} {n : Nat} {σ : xS} {k : Nat} (h : ¬ k < n) : (xW G a n σ)[k]? = none := by
  apply List.getElem?_eq_none
  rw [xW_len]
  omega
theorem xW_inv {G : xG} {a : Nat → Nat} {n : Nat} {σ : xS} {k : Nat} {q : Nat × va_E} (h : (xW G a n σ)[k]? = some q) : k < n ∧ q = xc G a σ k := by
  by_cases hk : k < n
  · rw [xW_at hk] at h
    exact ⟨hk, (Option.some.inj h).symm⟩
  · rw [xW_none hk] at h
    cases h
/-- one row of a table of rows becomes another -/
noncomputable def xup {α : Type} (M : Nat → α) (k : Nat) (f : α) : Nat → α := fun i => if i = k then f else M i
theorem xup_same {α : Type} {M : Nat → α} {k : Nat} {f : α} : xup M k f k = f := if_pos rfl
theorem xup_ne {α : Type} {M : Nat → α} {k i : Nat} {f : α} (h : i ≠ k) : xup M k f i = M i := if_neg h
noncomputable def xupN (h : Nat → Nat) (j v : Nat) : Nat → Nat := fun i => if i = j then v else h i
/-- the int, the long, the reference at cell k, place j becomes v -/
noncomputable def sI (σ : xS) (k j : Nat) (v : Int32) : xS := (xup σ.1 k (upd (σ.1 k) j v), σ.2)
noncomputable def sJ (σ : xS) (k j : Nat) (v : Int64) : xS := (σ.1, (xup σ.2.1 k (vp_updL (σ.2.1 k) j v), σ.2.2))
noncomputable def sR (σ : xS) (k j : Nat) (v : Nat) : xS := (σ.1, (σ.2.1, xup σ.2.2 k (xupN (σ.2.2 k) j v)))
theorem xW_set {G : xG} {a : Nat → Nat} {n : Nat} {σ σ' : xS} {k : Nat} (hk : k < n) (hne : ∀ i, i ≠ k → σ'.1 i = σ.1 i ∧ σ'.2.1 i = σ.2.1 i ∧ σ'.2.2 i = σ.2.2 i) : (xW G a n σ).set k (xc G a σ' k) = xW G a n σ' := by
  apply List.ext_getElem?
  intro i
  by_cases hi : i = k
  · subst hi
    rw [xW_at hk, List.getElem?_set_self (by rw [xW_len]; exact hk)]
  · rw [List.getElem?_set_ne (fun h => hi h.symm)]
    by_cases hn : i < n
    · rw [xW_at hn, xW_at hn]
      obtain ⟨h1, h2, h3⟩ := hne i hi
      simp [xc, h1, h2, h3]
    · rw [xW_none hn, xW_none hn]
theorem xF_at {a : Nat → Nat} {f : Nat → Int32} {g : Nat → Int64} {h : Nat → Nat} : ∀ (cs : List Nat) (o j : Nat) {c : Nat}, cs[j]? = some c → (xF a f g h o cs)[j]? = some (xfv a f g h (o + j) c)
  | [], _, _, _, hj => by simp at hj
  | c0 :: cs, o, 0, c, hj => by
    simp at hj
    simp [xF, hj]
  | c0 :: cs, o, j + 1, c, hj => by
    simp at hj
    have := xF_at (a := a) (f := f) (g := g) (h := h) cs (o + 1) j hj
    simp [xF, this, Nat.add_assoc, Nat.add_comm 1 j]
theorem xF_len {a : Nat → Nat} {f : Nat → Int32} {g : Nat → Int64} {h : Nat → Nat} : ∀ (cs : List Nat) (o : Nat), (xF a f g h o cs).length = cs.length
  | [], _ => rfl
  | _ :: cs, o => by simp [xF, xF_len cs (o + 1)]
/-- a row of fields with one place changed: by what the place is made of -/
theorem xF_set {a : Nat → Nat} {f f' : Nat → Int32} {g g' : Nat → Int64} {h h' : Nat → Nat} {v : Value} : ∀ (cs : List Nat) (o j : Nat) {c : Nat}, cs[j]? = some c → xfv a f' g' h' (o + j) c = v → (∀ i c', i ≠ o + j → xfv a f' g' h' i c' = xfv a f g h i c') → (xF a f g h o cs).set j v = xF a f' g' h' o cs
  | [], _, _, _, hj, _, _ => by simp at hj
  | c0 :: cs, o, 0, c, hj, hv, hne => by
    simp at hj
    subst hj
    have : ∀ (cs : List Nat) (o' : Nat), o < o' → xF a f g h o' cs = xF a f' g' h' o' cs := by
      intro cs
      induction cs with
      | nil => intros; rfl
      | cons c1 cs ih =>
        intro o' ho
        simp only [xF]
        rw [ih (o' + 1) (by omega), hne o' c1 (by omega)]
    simp only [xF, List.set_cons_zero]
    rw [this cs (o + 1) (by omega), ← hv]
    simp
  | c0 :: cs, o, j + 1, c, hj, hv, hne => by
    simp at hj
    have := xF_set (a := a) (f := f) (f' := f') (g := g) (g' := g') (h := h) (h' := h') (v := v) cs (o + 1) j hj (by rw [← hv]; congr 1; omega) (fun i c' hi => hne i c' (by omega))
    simp only [xF, List.set_cons_succ]
    rw [this, hne o c0 (by omega)]
end
section
/-! ===== the judgement xW. ===== -/
noncomputable def xag (n : Nat) (a a' : Nat → Nat) : Prop := ∀ i, i < n ∨ 1000 ≤ i → a' i = a i
/-- the heap holds the cells 0 .. n - 1 as σ has them, at a 0 .., apart, none below b -/
noncomputable def xH (E : xV) (a : Nat → Nat) (n : Nat) (σ : xS) (H : Heap) : Prop :=
  (∀ i j, i < n → j < n → a i = a j → i = j) ∧ (∀ i, i < n → E.2.2.1 ≤ a i) ∧ (∀ k j, σ.2.2 k j ≤ n) ∧ (n ≤ 1000 ∧ ∀ i, a (1000 + i) = E.2.2.2.1 i) ∧ va_P E.2.1.1 cls (xW E.2.1 a n σ) H
theorem xH.D {E : xV} {a : Nat → Nat} {n : Nat} {σ : xS} {H : Heap} (h : xH E a n σ H) : va_D (fun q => E.2.2.1 ≤ q) (xW E.2.1 a n σ) := by
  refine ⟨fun i j p q hi hj hpq => ?_, fun k q hk => ?_⟩
  · obtain ⟨h1, rfl⟩ := xW_inv hi
    obtain ⟨h2, rfl⟩ := xW_inv hj
    exact h.1 i j h1 h2 hpq
  · obtain ⟨h1, rfl⟩ := xW_inv hk
    exact h.2.1 k h1
/-- the class's words: how long, their letters; the row of ranks -/
noncomputable def SLN : List Nat := [14, 2, 3, 5, 3, 3, 3, 6, 2, 3, 5, 2, 2, 8, 3, 3, 4, 2, 3, 2, 4]
noncomputable def SBY : List (List Int32) := [[40, 41, 91, 93, 43, 45, 42, 47, 37, 60, 62, 61, 59, 46], [110, 111], [121, 101, 115], [109, 97, 121, 98, 101], [97, 110, 121], [111, 119, 110], [97, 108, 108], [114, 119, 120, 100, 103, 111], [105, 102], [110, 111, 116], [107, 110, 111, 119, 110], [109, 101], [105, 116], [97, 98, 99, 100, 101, 102, 103, 104], [110, 111, 119], [97, 103, 101], [115, 105, 122, 101], [105, 110], [97, 110, 100], [111, 114], [109, 117, 115, 116]]
noncomputable def RNK : List Int32 := [3, 0, 1, 2]
/-- what lies there from the start, and nobody writes it: words, statics -/
noncomputable def xFz (E : xV) (U : State) : Prop :=
  (∀ i : Nat, i < 21 → va_O "java/lang/String" (E.2.2.2.1 i) (fun q => E.2.2.1 ≤ q) U E.2.2.2.2 ∧ va_OF "java/lang/String" "coder" "B" (.int 0) (E.2.2.2.1 i) (fun q => E.2.2.1 ≤ q) U E.2.2.2.2 ∧ va_OF "java/lang/String" "value" "[B" (.ref (E.2.2.2.1 (1000 + i))) (E.2.2.2.1 i) (fun q => E.2.2.1 ≤ q) U E.2.2.2.2 ∧ va_T .byte (E.2.2.2.1 (1000 + i)) (SLN.getD i 0) (fun j => .int ((SBY.getD i []).getD j 0)) (fun q => E.2.2.1 ≤ q) U E.2.2.2.2) ∧
  va_Z "java/lang/String" "COMPACT_STRINGS" "Z" (.int 1) (fun q => E.2.2.1 ≤ q) U E.2.2.2.2 ∧
  (va_Z "jdk/internal/util/Preconditions" "SIOOBE_FORMATTER" "Ljava/util/function/BiFunction;" .null (fun q => E.2.2.1 ≤ q) U E.2.2.2.2 ∨ va_Z "jdk/internal/util/Preconditions" "SIOOBE_FORMATTER" "Ljava/util/function/BiFunction;" (.ref (E.2.2.2.1 2000)) (fun q => E.2.2.1 ≤ q) U E.2.2.2.2) ∧
  va_Z "RightsHouse$Judge" "RANK" "[I" (.ref (E.2.2.2.1 2001)) (fun q => E.2.2.1 ≤ q) U E.2.2.2.2 ∧
  va_T .int (E.2.2.2.1 2001) 4 (fun j => .int (RNK.getD j 0)) (fun q => E.2.2.1 ≤ q) U E.2.2.2.2
theorem xFz.moved {E : xV} {u U : State} (hvm : u.vm.Alike U.vm) (h : xFz E u) : xFz E U :=
  ⟨fun i hi => ⟨va_O.moved hvm (h.1 i hi).1, va_OF.moved hvm (h.1 i hi).2.1, va_OF.moved hvm (h.1 i hi).2.2.1, va_T.moved hvm (h.1 i hi).2.2.2⟩, va_Z.moved hvm h.2.1, h.2.2.1.imp (va_Z.moved hvm) (va_Z.moved hvm), va_Z.moved hvm h.2.2.2.1, va_T.moved hvm h.2.2.2.2⟩
/-- what the tables say all through -/
noncomputable def xKs (E : xV) (U : State) : Prop := va_K E.2.1.1 cls (xT E.2.1) U ∧ (∀ (i : Nat) (q : String × (Nat × String)), STR[i]? = some q → vk_R q.1 q.2.1 q.2.2 (E.2.2.2.1 i) U) ∧ (Cond.arrayOver (.array .long)).before #[] U = true ∧ xFz E U
theorem xKs.warm {E : xV} {s U : State} (hW : s.WarmedH U.vm) (h : xKs E s) : xKs E U := ⟨va_K.moved hW.alike h.1, fun i q hq => (h.2.1 i q hq).warm hW, arrayOver_alikeB hW.alike h.2.2.1, h.2.2.2.moved hW.alike⟩
theorem xKs.same {E : xV} {s U : State} (hv : U.vm = s.vm) (h : xKs E s) : xKs E U := ⟨va_K.moved (by rw [hv]; exact Vm.Alike.refl s.vm) h.1, fun i q hq => (h.2.1 i q hq).same hv, arrayOver_alikeB (by rw [hv]; exact Vm.Alike.refl s.vm) h.2.2.1, h.2.2.2.moved (by rw [hv]; exact Vm.Alike.refl s.vm)⟩
/-- what was there before the law began stays -/
noncomputable def xB (E : xV) (H : Heap) : Prop := E.2.2.1 ≤ H.size ∧ ∀ q, q < E.2.2.1 → H[q]? = E.2.2.2.2[q]?
theorem xB.of {E : xV} {H0 H : Heap} {locs : List Loc} (h : xB E H0) (hS : va_S (fun q => E.2.2.1 ≤ q) H0 H locs) : xB E H := ⟨Nat.le_trans h.1 hS.1, fun q hq => (hS.2.1 q (Nat.lt_of_lt_of_le hq h.1) (Nat.not_le.mpr hq)).trans (h.2 q hq)⟩
/-- what holds of the frame of method Y all through its run -/
noncomputable def xC (E : xV) (Y : xY) (X : Room → Array Value → State → Prop) (p : Program) (R : Room) (s : State) (m : MethodId) (args : Array Value) (meth : Method) (c : Code) : Prop :=
  p.tables.exec = Jvm.exec ∧ c.code = Y.2.1 ∧ meth.sig.returnType = Y.2.2.2.1 ∧ c.maxLocals = Y.2.2.1 ∧ s.vm.findClass Y.1.cls = some m.cls ∧ (∀ w ∈ TBg, w.before args s = true) ∧ meth.locks = false ∧ (Y.1.name = "<init>" → meth.name = "<init>") ∧ xKs E s ∧ xB E s.heap ∧ (Y.2.2.2.2.frames ≤ R.frames ∧ Y.2.2.2.2.locals ≤ R.locals ∧ Y.2.2.2.2.cells ≤ R.cells ∧ Y.2.2.2.2.slots ≤ R.slots ∧ X R args s)
noncomputable abbrev xK : Type := Option Value → Nat → xS → Prop
noncomputable def xQ (E : xV) (a : Nat → Nat) (n : Nat) (K : xK) : Array Value → State → Outcome → State → Prop := fun _ st oc t =>
  ∃ (v : Option Value) (n' : Nat) (σ' : xS) (a' : Nat → Nat), oc = .returned (v.map (xrel a')) ∧ n ≤ n' ∧ xag n a a' ∧ K v n' σ' ∧ xH E a' n' σ' t.heap ∧ va_F (fun q => E.2.2.1 ≤ q) st t
/-- what else is known of the frame; and how a run may end: by the frames below, the arguments, the beginning, where the cells lay then and how many -/
noncomputable abbrev xQQ : Type := (Room → Array Value → State → Prop) × (List Frame → Array Value → State → (Nat → Nat) → Nat → State → Prop)
noncomputable def xMQ (E : xV) (Y : xY) (K : xK) : xQQ := (fun _ _ _ => True, fun below args s a0 n0 => MQ below (xQ E a0 n0 K) args s Y.2.2.2.2.cells Y.2.2.2.2.slots (fun q => E.2.2.1 ≤ q))
/-- method Y, now at pc with locals lv, stack st, n cells as σ has them, cs cells of ss places made by it so far, comes to an end as K wants it -/
noncomputable def Wx (E : xV) (Y : xY) (pc : Nat) (lv : List (Nat × Value)) (st : List Value) (n cs ss : Nat) (σ : xS) (K : xQQ) : Prop :=
  ∀ (p : Program) (e : Env) (R : Room) (s : State) (m : MethodId) (args : Array Value) (below : List Frame) (meth : Method) (c : Code) (H : Heap) (locs : List Loc) (ls : Array Slot) (a0 : Nat → Nat) (n0 : Nat) (a : Nat → Nat),
    xC E Y K.1 p R s m args meth c → n0 ≤ n → xag n0 a0 a → xH E a n σ H → va_S (fun q => E.2.2.1 ≤ q) s.heap H locs → lv_has ls Y.2.2.1 (xlv a lv) →
    W p E.1 e R s m args below meth c H locs cs ss (K.2 below args s a0 n0) (F0 m pc ls (st.map (xrel a)))
/-- the contract of method Y at arguments av -/
noncomputable def Cx (E : xV) (Y : xY) (av : List Value) (n : Nat) (σ : xS) (K : xK) : Prop :=
  ∀ a : Nat → Nat, Met E.1 Y.1 (Cond.code Y.1 Y.2.1 Y.2.2.1 Y.2.2.2.1 :: TBg) Y.2.2.2.2 (va_Pc (av.map (xrel a)) (fun U => xH E a n σ U.heap ∧ xKs E U ∧ xB E U.heap)) (xQ E a n K) Y.2.2.2.2.cells Y.2.2.2.2.slots (fun q => E.2.2.1 ≤ q)
section XL
theorem xlv_at {a : Nat → Nat} {lv : List (Nat × Value)} {k i : Nat} {v : Value} (h : lv[k]? = some (i, v)) : (xlv a lv)[k]? = some (i, xrel a v) := by
  simp [xlv, List.getElem?_map, h]
theorem xrel_cat {a : Nat → Nat} {v : Value} : (xrel a v).category = v.category := by
  cases v <;> rfl
theorem xlv_st1 {a : Nat → Nat} {lv : List (Nat × Value)} {i : Nat} {v : Value} : (i, xrel a v) :: (xlv a lv).filter (fun q => !(q.1 == i) && !(q.1 + 1 == i && q.2.category == 2)) = xlv a ((i, v) :: lv.filter (fun q => !(q.1 == i) && !(q.1 + 1 == i && q.2.category == 2))) := by
  simp only [xlv, List.map_cons, List.filter_map]
  congr 2
  apply List.filter_congr
  intro q _
  simp [xrel_cat]
theorem xlv_st2 {a : Nat → Nat} {lv : List (Nat × Value)} {i : Nat} {v : Value} : (i, xrel a v) :: (xlv a lv).filter (fun q => !(q.1 == i) && (!(q.1 == i + 1) && !(q.1 + 1 == i && q.2.category == 2))) = xlv a ((i, v) :: lv.filter (fun q => !(q.1 == i) && (!(q.1 == i + 1) && !(q.1 + 1 == i && q.2.category == 2)))) := by
  simp only [xlv, List.map_cons, List.filter_map]
  congr 2
  apply List.filter_congr
  intro q _
  simp [xrel_cat]
theorem xlv_pick {a : Nat → Nat} {lv lv' : List (Nat × Value)} (ks : List Nat) (h : lv_pick lv ks = lv') : lv_pick (xlv a lv) ks = xlv a lv' := by
  subst h
  induction ks with
  | nil => rfl
  | cons k ks ih =>
    simp only [lv_pick, xlv, List.filterMap_cons, List.getElem?_map] at ih ⊢
    cases lv[k]? with
    | none => simpa using ih
    | some q => simp; simpa using ih
end XL
section XI
variable {E : xV} {Y : xY} {pc n cs ss : Nat} {lv lv' : List (Nat × Value)} {st : List Value} {σ : xS} {K : xQQ}
theorem x_sub (ks : List Nat) (h : lv_pick lv ks = lv') (k : Wx E Y pc lv' st n cs ss σ K) : Wx E Y pc lv st n cs ss σ K :=
  fun p e R s m args below meth c H locs ls a0 n0 a hC hn hg hH hS hl => k p e R s m args below meth c H locs ls a0 n0 a hC hn hg hH hS (lv_sub hl ks (xlv_pick ks h))
theorem x_iconst {i : Int} {v : Int32} (d : decode Y.2.1 pc = .ok (.iconst i, 1)) (hv : Int32.ofInt i = v) (k : Wx E Y (pc + 1) lv (.int v :: st) n cs ss σ K) : Wx E Y pc lv st n cs ss σ K :=
  fun p e R s m args below meth c H locs ls a0 n0 a hC hn hg hH hS hl => lv_iconst hC.1 hC.2.1 d hv (k p e R s m args below meth c H locs ls a0 n0 a hC hn hg hH hS hl)
theorem x_bipush {i : Int} {v : Int32} (d : decode Y.2.1 pc = .ok (.bipush i, 2)) (hv : (Int8.ofInt i).toInt32 = v) (k : Wx E Y (pc + 2) lv (.int v :: st) n cs ss σ K) : Wx E Y pc lv st n cs ss σ K :=
  fun p e R s m args below meth c H locs ls a0 n0 a hC hn hg hH hS hl => lv_bipush hC.1 hC.2.1 d hv (k p e R s m args below meth c H locs ls a0 n0 a hC hn hg hH hS hl)
theorem x_sipush {i : Int} {v : Int32} (d : decode Y.2.1 pc = .ok (.sipush i, 3)) (hv : (Int16.ofInt i).toInt32 = v) (k : Wx E Y (pc + 3) lv (.int v :: st) n cs ss σ K) : Wx E Y pc lv st n cs ss σ K :=
  fun p e R s m args below meth c H locs ls a0 n0 a hC hn hg hH hS hl => lv_sipush hC.1 hC.2.1 d hv (k p e R s m args below meth c H locs ls a0 n0 a hC hn hg hH hS hl)
theorem x_lconst {i : Fin 2} {v : Int64} (d : decode Y.2.1 pc = .ok (.lconst i, 1)) (hv : Int64.ofNat (i : Nat) = v) (k : Wx E Y (pc + 1) lv (.long v :: st) n cs ss σ K) : Wx E Y pc lv st n cs ss σ K :=
  fun p e R s m args below meth c H locs ls a0 n0 a hC hn hg hH hS hl => lv_lconst hC.1 hC.2.1 d hv (k p e R s m args below meth c H locs ls a0 n0 a hC hn hg hH hS hl)
theorem x_ldc {i : Nat} {v : Int32} (d : decode Y.2.1 pc = .ok (.ldc i, 2)) (hw : Cond.constant Y.1.cls i v ∈ TBg) (k : Wx E Y (pc + 2) lv (.int v :: st) n cs ss σ K) : Wx E Y pc lv st n cs ss σ K :=
  fun p e R s m args below meth c H locs ls a0 n0 a hC hn hg hH hS hl => lv_ldc hC.1 hC.2.1 hC.2.2.2.2.1 (hC.2.2.2.2.2.1 _ hw) d (k p e R s m args below meth c H locs ls a0 n0 a hC hn hg hH hS hl)
theorem x_ldcw {i : Nat} {v : Int32} (d : decode Y.2.1 pc = .ok (.ldc_w i, 3)) (hw : Cond.constant Y.1.cls i v ∈ TBg) (k : Wx E Y (pc + 3) lv (.int v :: st) n cs ss σ K) : Wx E Y pc lv st n cs ss σ K :=
  fun p e R s m args below meth c H locs ls a0 n0 a hC hn hg hH hS hl => lv_ldcw hC.1 hC.2.1 hC.2.2.2.2.1 (hC.2.2.2.2.2.1 _ hw) d (k p e R s m args below meth c H locs ls a0 n0 a hC hn hg hH hS hl)
theorem x_ldc2 {i : Nat} {v : Int64} (d : decode Y.2.1 pc = .ok (.ldc2_w i, 3)) (hw : Cond.constantLong Y.1.cls i v ∈ TBg) (k : Wx E Y (pc + 3) lv (.long v :: st) n cs ss σ K) : Wx E Y pc lv st n cs ss σ K :=
  fun p e R s m args below meth c H locs ls a0 n0 a hC hn hg hH hS hl => lv_ldc2 hC.1 hC.2.1 hC.2.2.2.2.1 (hC.2.2.2.2.2.1 _ hw) d (k p e R s m args below meth c H locs ls a0 n0 a hC hn hg hH hS hl)
theorem x_iload_n {f : Fin 4} {i q : Nat} {x : Int32} (d : decode Y.2.1 pc = .ok (.iload_n f, 1)) (hi : (f : Nat) = i) (hq : lv[q]? = some (i, .int x)) (k : Wx E Y (pc + 1) lv (.int x :: st) n cs ss σ K) : Wx E Y pc lv st n cs ss σ K :=
  fun p e R s m args below meth c H locs ls a0 n0 a hC hn hg hH hS hl => lv_iload_n hC.1 hC.2.1 d hi (lv_at hl q (xlv_at hq)) (k p e R s m args below meth c H locs ls a0 n0 a hC hn hg hH hS hl)
theorem x_iload {i q : Nat} {x : Int32} (d : decode Y.2.1 pc = .ok (.iload i, 2)) (hq : lv[q]? = some (i, .int x)) (k : Wx E Y (pc + 2) lv (.int x :: st) n cs ss σ K) : Wx E Y pc lv st n cs ss σ K :=
  fun p e R s m args below meth c H locs ls a0 n0 a hC hn hg hH hS hl => lv_iload hC.1 hC.2.1 d (lv_at hl q (xlv_at hq)) (k p e R s m args below meth c H locs ls a0 n0 a hC hn hg hH hS hl)
theorem x_lload_n {f : Fin 4} {i q : Nat} {x : Int64} (d : decode Y.2.1 pc = .ok (.lload_n f, 1)) (hi : (f : Nat) = i) (hq : lv[q]? = some (i, .long x)) (k : Wx E Y (pc + 1) lv (.long x :: st) n cs ss σ K) : Wx E Y pc lv st n cs ss σ K :=
  fun p e R s m args below meth c H locs ls a0 n0 a hC hn hg hH hS hl => lv_lload_n hC.1 hC.2.1 d hi (lv_at hl q (xlv_at hq)) (k p e R s m args below meth c H locs ls a0 n0 a hC hn hg hH hS hl)
theorem x_lload {i q : Nat} {x : Int64} (d : decode Y.2.1 pc = .ok (.lload i, 2)) (hq : lv[q]? = some (i, .long x)) (k : Wx E Y (pc + 2) lv (.long x :: st) n cs ss σ K) : Wx E Y pc lv st n cs ss σ K :=
  fun p e R s m args below meth c H locs ls a0 n0 a hC hn hg hH hS hl => lv_lload hC.1 hC.2.1 d (lv_at hl q (xlv_at hq)) (k p e R s m args below meth c H locs ls a0 n0 a hC hn hg hH hS hl)
theorem x_aload_n {f : Fin 4} {i q : Nat} {x : Nat} (d : decode Y.2.1 pc = .ok (.aload_n f, 1)) (hi : (f : Nat) = i) (hq : lv[q]? = some (i, .ref x)) (k : Wx E Y (pc + 1) lv (.ref x :: st) n cs ss σ K) : Wx E Y pc lv st n cs ss σ K :=
  fun p e R s m args below meth c H locs ls a0 n0 a hC hn hg hH hS hl => lv_aload_n hC.1 hC.2.1 d hi (lv_at hl q (xlv_at hq)) (k p e R s m args below meth c H locs ls a0 n0 a hC hn hg hH hS hl)
theorem x_aload {i q : Nat} {x : Nat} (d : decode Y.2.1 pc = .ok (.aload i, 2)) (hq : lv[q]? = some (i, .ref x)) (k : Wx E Y (pc + 2) lv (.ref x :: st) n cs ss σ K) : Wx E Y pc lv st n cs ss σ K :=
  fun p e R s m args below meth c H locs ls a0 n0 a hC hn hg hH hS hl => lv_aload hC.1 hC.2.1 d (lv_at hl q (xlv_at hq)) (k p e R s m args below meth c H locs ls a0 n0 a hC hn hg hH hS hl)
theorem x_istore_n {f : Fin 4} {i : Nat} {x : Int32} (d : decode Y.2.1 pc = .ok (.istore_n f, 1)) (hi : (f : Nat) = i) (hn : i < Y.2.2.1) (hl' : (i, Value.int x) :: lv.filter (fun q => !(q.1 == i) && !(q.1 + 1 == i && q.2.category == 2)) = lv') (k : Wx E Y (pc + 1) lv' st n cs ss σ K) : Wx E Y pc lv (.int x :: st) n cs ss σ K :=
  fun p e R s m args below meth c H locs ls a0 n0 a hC hn0 hg hH hS hl => lv_istore_n hC.1 hC.2.1 d hi hl hn ((xlv_st1 (v := .int x)).trans (congrArg (xlv a) hl')) (fun ls' hl2 => k p e R s m args below meth c H locs ls' a0 n0 a hC hn0 hg hH hS hl2)
theorem x_istore {i : Nat} {x : Int32} (d : decode Y.2.1 pc = .ok (.istore i, 2)) (hn : i < Y.2.2.1) (hl' : (i, Value.int x) :: lv.filter (fun q => !(q.1 == i) && !(q.1 + 1 == i && q.2.category == 2)) = lv') (k : Wx E Y (pc + 2) lv' st n cs ss σ K) : Wx E Y pc lv (.int x :: st) n cs ss σ K :=
  fun p e R s m args below meth c H locs ls a0 n0 a hC hn0 hg hH hS hl => lv_istore hC.1 hC.2.1 d hl hn ((xlv_st1 (v := .int x)).trans (congrArg (xlv a) hl')) (fun ls' hl2 => k p e R s m args below meth c H locs ls' a0 n0 a hC hn0 hg hH hS hl2)
theorem x_lstore_n {f : Fin 4} {i : Nat} {x : Int64} (d : decode Y.2.1 pc = .ok (.lstore_n f, 1)) (hi : (f : Nat) = i) (hn : i + 1 < Y.2.2.1) (hl' : (i, Value.long x) :: lv.filter (fun q => !(q.1 == i) && (!(q.1 == i + 1) && !(q.1 + 1 == i && q.2.category == 2))) = lv') (k : Wx E Y (pc + 1) lv' st n cs ss σ K) : Wx E Y pc lv (.long x :: st) n cs ss σ K :=
  fun p e R s m args below meth c H locs ls a0 n0 a hC hn0 hg hH hS hl => lv_lstore_n hC.1 hC.2.1 d hi hl hn ((xlv_st2 (v := .long x)).trans (congrArg (xlv a) hl')) (fun ls' hl2 => k p e R s m args below meth c H locs ls' a0 n0 a hC hn0 hg hH hS hl2)
theorem x_lstore {i : Nat} {x : Int64} (d : decode Y.2.1 pc = .ok (.lstore i, 2)) (hn : i + 1 < Y.2.2.1) (hl' : (i, Value.long x) :: lv.filter (fun q => !(q.1 == i) && (!(q.1 == i + 1) && !(q.1 + 1 == i && q.2.category == 2))) = lv') (k : Wx E Y (pc + 2) lv' st n cs ss σ K) : Wx E Y pc lv (.long x :: st) n cs ss σ K :=
  fun p e R s m args below meth c H locs ls a0 n0 a hC hn0 hg hH hS hl => lv_lstore hC.1 hC.2.1 d hl hn ((xlv_st2 (v := .long x)).trans (congrArg (xlv a) hl')) (fun ls' hl2 => k p e R s m args below meth c H locs ls' a0 n0 a hC hn0 hg hH hS hl2)
theorem x_astore_n {f : Fin 4} {i : Nat} {x : Nat} (d : decode Y.2.1 pc = .ok (.astore_n f, 1)) (hi : (f : Nat) = i) (hn : i < Y.2.2.1) (hl' : (i, Value.ref x) :: lv.filter (fun q => !(q.1 == i) && !(q.1 + 1 == i && q.2.category == 2)) = lv') (k : Wx E Y (pc + 1) lv' st n cs ss σ K) : Wx E Y pc lv (.ref x :: st) n cs ss σ K :=
  fun p e R s m args below meth c H locs ls a0 n0 a hC hn0 hg hH hS hl => lv_astore_n hC.1 hC.2.1 d hi hl hn ((xlv_st1 (v := .ref x)).trans (congrArg (xlv a) hl')) (fun ls' hl2 => k p e R s m args below meth c H locs ls' a0 n0 a hC hn0 hg hH hS hl2)
theorem x_iinc {i q : Nat} {z : Int} {x v : Int32} (d : decode Y.2.1 pc = .ok (.iinc i z, 3)) (hq : lv[q]? = some (i, .int x)) (hv : x + Int32.ofInt z = v) (hn : i < Y.2.2.1) (hl' : (i, Value.int v) :: lv.filter (fun q => !(q.1 == i) && !(q.1 + 1 == i && q.2.category == 2)) = lv') (k : Wx E Y (pc + 3) lv' st n cs ss σ K) : Wx E Y pc lv st n cs ss σ K :=
  fun p e R s m args below meth c H locs ls a0 n0 a hC hn0 hg hH hS hl => lv_iinc hC.1 hC.2.1 d hl (xlv_at hq) hv hn ((xlv_st1 (v := .int v)).trans (congrArg (xlv a) hl')) (fun ls' hl2 => k p e R s m args below meth c H locs ls' a0 n0 a hC hn0 hg hH hS hl2)
end XI
end
section
section XA
variable {E : xV} {Y : xY} {pc n cs ss : Nat} {lv lv' : List (Nat × Value)} {st : List Value} {σ : xS} {K : xQQ}
theorem x_iadd {x y : Int32} (d : decode Y.2.1 pc = .ok (.iadd, 1)) (k : Wx E Y (pc + 1) lv (.int (x + y) :: st) n cs ss σ K) : Wx E Y pc lv (.int y :: .int x :: st) n cs ss σ K :=
  fun p e R s m args below meth c H locs ls a0 n0 a hC hn hg hH hS hl => lv_iadd hC.1 hC.2.1 d (k p e R s m args below meth c H locs ls a0 n0 a hC hn hg hH hS hl)
theorem x_isub {x y : Int32} (d : decode Y.2.1 pc = .ok (.isub, 1)) (k : Wx E Y (pc + 1) lv (.int (x - y) :: st) n cs ss σ K) : Wx E Y pc lv (.int y :: .int x :: st) n cs ss σ K :=
  fun p e R s m args below meth c H locs ls a0 n0 a hC hn hg hH hS hl => lv_isub hC.1 hC.2.1 d (k p e R s m args below meth c H locs ls a0 n0 a hC hn hg hH hS hl)
theorem x_imul {x y : Int32} (d : decode Y.2.1 pc = .ok (.imul, 1)) (k : Wx E Y (pc + 1) lv (.int (x * y) :: st) n cs ss σ K) : Wx E Y pc lv (.int y :: .int x :: st) n cs ss σ K :=
  fun p e R s m args below meth c H locs ls a0 n0 a hC hn hg hH hS hl => lv_imul hC.1 hC.2.1 d (k p e R s m args below meth c H locs ls a0 n0 a hC hn hg hH hS hl)
theorem x_iand {x y : Int32} (d : decode Y.2.1 pc = .ok (.iand, 1)) (k : Wx E Y (pc + 1) lv (.int (x &&& y) :: st) n cs ss σ K) : Wx E Y pc lv (.int y :: .int x :: st) n cs ss σ K :=
  fun p e R s m args below meth c H locs ls a0 n0 a hC hn hg hH hS hl => lv_iand hC.1 hC.2.1 d (k p e R s m args below meth c H locs ls a0 n0 a hC hn hg hH hS hl)
theorem x_ior {x y : Int32} (d : decode Y.2.1 pc = .ok (.ior, 1)) (k : Wx E Y (pc + 1) lv (.int (x ||| y) :: st) n cs ss σ K) : Wx E Y pc lv (.int y :: .int x :: st) n cs ss σ K :=
  fun p e R s m args below meth c H locs ls a0 n0 a hC hn hg hH hS hl => lv_ior hC.1 hC.2.1 d (k p e R s m args below meth c H locs ls a0 n0 a hC hn hg hH hS hl)
theorem x_ixor {x y : Int32} (d : decode Y.2.1 pc = .ok (.ixor, 1)) (k : Wx E Y (pc + 1) lv (.int (x ^^^ y) :: st) n cs ss σ K) : Wx E Y pc lv (.int y :: .int x :: st) n cs ss σ K :=
  fun p e R s m args below meth c H locs ls a0 n0 a hC hn hg hH hS hl => lv_ixor hC.1 hC.2.1 d (k p e R s m args below meth c H locs ls a0 n0 a hC hn hg hH hS hl)
theorem x_ishl {x y : Int32} (d : decode Y.2.1 pc = .ok (.ishl, 1)) (k : Wx E Y (pc + 1) lv (.int (x <<< (y &&& 31)) :: st) n cs ss σ K) : Wx E Y pc lv (.int y :: .int x :: st) n cs ss σ K :=
  fun p e R s m args below meth c H locs ls a0 n0 a hC hn hg hH hS hl => lv_ishl hC.1 hC.2.1 d (k p e R s m args below meth c H locs ls a0 n0 a hC hn hg hH hS hl)
theorem x_ishr {x y : Int32} (d : decode Y.2.1 pc = .ok (.ishr, 1)) (k : Wx E Y (pc + 1) lv (.int (x >>> (y &&& 31)) :: st) n cs ss σ K) : Wx E Y pc lv (.int y :: .int x :: st) n cs ss σ K :=
  fun p e R s m args below meth c H locs ls a0 n0 a hC hn hg hH hS hl => lv_ishr hC.1 hC.2.1 d (k p e R s m args below meth c H locs ls a0 n0 a hC hn hg hH hS hl)
theorem x_ladd {x y : Int64} (d : decode Y.2.1 pc = .ok (.ladd, 1)) (k : Wx E Y (pc + 1) lv (.long (x + y) :: st) n cs ss σ K) : Wx E Y pc lv (.long y :: .long x :: st) n cs ss σ K :=
  fun p e R s m args below meth c H locs ls a0 n0 a hC hn hg hH hS hl => lv_ladd hC.1 hC.2.1 d (k p e R s m args below meth c H locs ls a0 n0 a hC hn hg hH hS hl)
theorem x_lsub {x y : Int64} (d : decode Y.2.1 pc = .ok (.lsub, 1)) (k : Wx E Y (pc + 1) lv (.long (x - y) :: st) n cs ss σ K) : Wx E Y pc lv (.long y :: .long x :: st) n cs ss σ K :=
  fun p e R s m args below meth c H locs ls a0 n0 a hC hn hg hH hS hl => lv_lsub hC.1 hC.2.1 d (k p e R s m args below meth c H locs ls a0 n0 a hC hn hg hH hS hl)
theorem x_lmul {x y : Int64} (d : decode Y.2.1 pc = .ok (.lmul, 1)) (k : Wx E Y (pc + 1) lv (.long (x * y) :: st) n cs ss σ K) : Wx E Y pc lv (.long y :: .long x :: st) n cs ss σ K :=
  fun p e R s m args below meth c H locs ls a0 n0 a hC hn hg hH hS hl => lv_lmul hC.1 hC.2.1 d (k p e R s m args below meth c H locs ls a0 n0 a hC hn hg hH hS hl)
theorem x_land {x y : Int64} (d : decode Y.2.1 pc = .ok (.land, 1)) (k : Wx E Y (pc + 1) lv (.long (x &&& y) :: st) n cs ss σ K) : Wx E Y pc lv (.long y :: .long x :: st) n cs ss σ K :=
  fun p e R s m args below meth c H locs ls a0 n0 a hC hn hg hH hS hl => lv_land hC.1 hC.2.1 d (k p e R s m args below meth c H locs ls a0 n0 a hC hn hg hH hS hl)
theorem x_lor {x y : Int64} (d : decode Y.2.1 pc = .ok (.lor, 1)) (k : Wx E Y (pc + 1) lv (.long (x ||| y) :: st) n cs ss σ K) : Wx E Y pc lv (.long y :: .long x :: st) n cs ss σ K :=
  fun p e R s m args below meth c H locs ls a0 n0 a hC hn hg hH hS hl => lv_lor hC.1 hC.2.1 d (k p e R s m args below meth c H locs ls a0 n0 a hC hn hg hH hS hl)
theorem x_lxor {x y : Int64} (d : decode Y.2.1 pc = .ok (.lxor, 1)) (k : Wx E Y (pc + 1) lv (.long (x ^^^ y) :: st) n cs ss σ K) : Wx E Y pc lv (.long y :: .long x :: st) n cs ss σ K :=
  fun p e R s m args below meth c H locs ls a0 n0 a hC hn hg hH hS hl => lv_lxor hC.1 hC.2.1 d (k p e R s m args below meth c H locs ls a0 n0 a hC hn hg hH hS hl)
theorem x_idiv {x y : Int32} (d : decode Y.2.1 pc = .ok (.idiv, 1)) (hne : ¬ y = 0) (k : Wx E Y (pc + 1) lv (.int (x / y) :: st) n cs ss σ K) : Wx E Y pc lv (.int y :: .int x :: st) n cs ss σ K :=
  fun p e R s m args below meth c H locs ls a0 n0 a hC hn hg hH hS hl => lv_idiv hC.1 hC.2.1 d hne (k p e R s m args below meth c H locs ls a0 n0 a hC hn hg hH hS hl)
theorem x_irem {x y : Int32} (d : decode Y.2.1 pc = .ok (.irem, 1)) (hne : ¬ y = 0) (k : Wx E Y (pc + 1) lv (.int (x - x / y * y) :: st) n cs ss σ K) : Wx E Y pc lv (.int y :: .int x :: st) n cs ss σ K :=
  fun p e R s m args below meth c H locs ls a0 n0 a hC hn hg hH hS hl => lv_irem hC.1 hC.2.1 d hne (k p e R s m args below meth c H locs ls a0 n0 a hC hn hg hH hS hl)
theorem x_ldiv {x y : Int64} (d : decode Y.2.1 pc = .ok (.ldiv, 1)) (hne : ¬ y = 0) (k : Wx E Y (pc + 1) lv (.long (x / y) :: st) n cs ss σ K) : Wx E Y pc lv (.long y :: .long x :: st) n cs ss σ K :=
  fun p e R s m args below meth c H locs ls a0 n0 a hC hn hg hH hS hl => lv_ldiv hC.1 hC.2.1 d hne (k p e R s m args below meth c H locs ls a0 n0 a hC hn hg hH hS hl)
theorem x_lrem {x y : Int64} (d : decode Y.2.1 pc = .ok (.lrem, 1)) (hne : ¬ y = 0) (k : Wx E Y (pc + 1) lv (.long (x - x / y * y) :: st) n cs ss σ K) : Wx E Y pc lv (.long y :: .long x :: st) n cs ss σ K :=
  fun p e R s m args below meth c H locs ls a0 n0 a hC hn hg hH hS hl => lv_lrem hC.1 hC.2.1 d hne (k p e R s m args below meth c H locs ls a0 n0 a hC hn hg hH hS hl)
theorem x_ineg {x : Int32} (d : decode Y.2.1 pc = .ok (.ineg, 1)) (k : Wx E Y (pc + 1) lv (.int (-x) :: st) n cs ss σ K) : Wx E Y pc lv (.int x :: st) n cs ss σ K :=
  fun p e R s m args below meth c H locs ls a0 n0 a hC hn hg hH hS hl => lv_ineg hC.1 hC.2.1 d (k p e R s m args below meth c H locs ls a0 n0 a hC hn hg hH hS hl)
theorem x_lneg {x : Int64} (d : decode Y.2.1 pc = .ok (.lneg, 1)) (k : Wx E Y (pc + 1) lv (.long (-x) :: st) n cs ss σ K) : Wx E Y pc lv (.long x :: st) n cs ss σ K :=
  fun p e R s m args below meth c H locs ls a0 n0 a hC hn hg hH hS hl => lv_lneg hC.1 hC.2.1 d (k p e R s m args below meth c H locs ls a0 n0 a hC hn hg hH hS hl)
theorem x_iushr {x y v : Int32} (d : decode Y.2.1 pc = .ok (.iushr, 1)) (hv : (x.toUInt32 >>> (y.toUInt32 &&& Int32.toUInt32 31)).toInt32 = v) (k : Wx E Y (pc + 1) lv (.int v :: st) n cs ss σ K) : Wx E Y pc lv (.int y :: .int x :: st) n cs ss σ K :=
  fun p e R s m args below meth c H locs ls a0 n0 a hC hn hg hH hS hl => lv_iushr hC.1 hC.2.1 d hv (k p e R s m args below meth c H locs ls a0 n0 a hC hn hg hH hS hl)
theorem x_lshl {x v : Int64} {y : Int32} (d : decode Y.2.1 pc = .ok (.lshl, 1)) (hv : x <<< (y.toInt64 &&& 63) = v) (k : Wx E Y (pc + 1) lv (.long v :: st) n cs ss σ K) : Wx E Y pc lv (.int y :: .long x :: st) n cs ss σ K :=
  fun p e R s m args below meth c H locs ls a0 n0 a hC hn hg hH hS hl => lv_lshl hC.1 hC.2.1 d hv (k p e R s m args below meth c H locs ls a0 n0 a hC hn hg hH hS hl)
theorem x_lshr {x v : Int64} {y : Int32} (d : decode Y.2.1 pc = .ok (.lshr, 1)) (hv : x >>> (y.toInt64 &&& 63) = v) (k : Wx E Y (pc + 1) lv (.long v :: st) n cs ss σ K) : Wx E Y pc lv (.int y :: .long x :: st) n cs ss σ K :=
  fun p e R s m args below meth c H locs ls a0 n0 a hC hn hg hH hS hl => lv_lshr hC.1 hC.2.1 d hv (k p e R s m args below meth c H locs ls a0 n0 a hC hn hg hH hS hl)
theorem x_lushr {x v : Int64} {y : Int32} (d : decode Y.2.1 pc = .ok (.lushr, 1)) (hv : (x.toUInt64 >>> (y.toInt64.toUInt64 &&& Int64.toUInt64 63)).toInt64 = v) (k : Wx E Y (pc + 1) lv (.long v :: st) n cs ss σ K) : Wx E Y pc lv (.int y :: .long x :: st) n cs ss σ K :=
  fun p e R s m args below meth c H locs ls a0 n0 a hC hn hg hH hS hl => lv_lushr hC.1 hC.2.1 d hv (k p e R s m args below meth c H locs ls a0 n0 a hC hn hg hH hS hl)
theorem x_i2l {x : Int32} {v : Int64} (d : decode Y.2.1 pc = .ok (.i2l, 1)) (hv : x.toInt64 = v) (k : Wx E Y (pc + 1) lv (.long v :: st) n cs ss σ K) : Wx E Y pc lv (.int x :: st) n cs ss σ K :=
  fun p e R s m args below meth c H locs ls a0 n0 a hC hn hg hH hS hl => lv_i2l hC.1 hC.2.1 d hv (k p e R s m args below meth c H locs ls a0 n0 a hC hn hg hH hS hl)
theorem x_l2i {x : Int64} {v : Int32} (d : decode Y.2.1 pc = .ok (.l2i, 1)) (hv : x.toInt32 = v) (k : Wx E Y (pc + 1) lv (.int v :: st) n cs ss σ K) : Wx E Y pc lv (.long x :: st) n cs ss σ K :=
  fun p e R s m args below meth c H locs ls a0 n0 a hC hn hg hH hS hl => lv_l2i hC.1 hC.2.1 d hv (k p e R s m args below meth c H locs ls a0 n0 a hC hn hg hH hS hl)
theorem x_i2c {x : Int32} {v : Int32} (d : decode Y.2.1 pc = .ok (.i2c, 1)) (hv : (x.toUInt32 % 65536).toInt32 = v) (k : Wx E Y (pc + 1) lv (.int v :: st) n cs ss σ K) : Wx E Y pc lv (.int x :: st) n cs ss σ K :=
  fun p e R s m args below meth c H locs ls a0 n0 a hC hn hg hH hS hl => lv_i2c hC.1 hC.2.1 d hv (k p e R s m args below meth c H locs ls a0 n0 a hC hn hg hH hS hl)
theorem x_lcmp {x y : Int64} (d : decode Y.2.1 pc = .ok (.lcmp, 1)) (k : Wx E Y (pc + 1) lv (.int (lg_cmp x y) :: st) n cs ss σ K) : Wx E Y pc lv (.long y :: .long x :: st) n cs ss σ K :=
  fun p e R s m args below meth c H locs ls a0 n0 a hC hn hg hH hS hl => W.lcmp hC.1 hC.2.1 d (k p e R s m args below meth c H locs ls a0 n0 a hC hn hg hH hS hl)
theorem x_dupi {x : Int32} (d : decode Y.2.1 pc = .ok (.dup, 1)) (k : Wx E Y (pc + 1) lv (.int x :: .int x :: st) n cs ss σ K) : Wx E Y pc lv (.int x :: st) n cs ss σ K :=
  fun p e R s m args below meth c H locs ls a0 n0 a hC hn hg hH hS hl => lv_dup hC.1 hC.2.1 d rfl (k p e R s m args below meth c H locs ls a0 n0 a hC hn hg hH hS hl)
theorem x_dupr {x : Nat} (d : decode Y.2.1 pc = .ok (.dup, 1)) (k : Wx E Y (pc + 1) lv (.ref x :: .ref x :: st) n cs ss σ K) : Wx E Y pc lv (.ref x :: st) n cs ss σ K :=
  fun p e R s m args below meth c H locs ls a0 n0 a hC hn hg hH hS hl => lv_dup hC.1 hC.2.1 d rfl (k p e R s m args below meth c H locs ls a0 n0 a hC hn hg hH hS hl)
theorem x_popi {x : Int32} (d : decode Y.2.1 pc = .ok (.pop, 1)) (k : Wx E Y (pc + 1) lv st n cs ss σ K) : Wx E Y pc lv (.int x :: st) n cs ss σ K :=
  fun p e R s m args below meth c H locs ls a0 n0 a hC hn hg hH hS hl => lv_pop hC.1 hC.2.1 d rfl (k p e R s m args below meth c H locs ls a0 n0 a hC hn hg hH hS hl)
theorem x_pop2l {x : Int64} (d : decode Y.2.1 pc = .ok (.pop2, 1)) (k : Wx E Y (pc + 1) lv st n cs ss σ K) : Wx E Y pc lv (.long x :: st) n cs ss σ K :=
  fun p e R s m args below meth c H locs ls a0 n0 a hC hn hg hH hS hl => lv_pop2_2 hC.1 hC.2.1 d rfl (k p e R s m args below meth c H locs ls a0 n0 a hC hn hg hH hS hl)
theorem x_dup2ir {i : Int32} {x : Nat} (d : decode Y.2.1 pc = .ok (.dup2, 1)) (k : Wx E Y (pc + 1) lv (.int i :: .ref x :: .int i :: .ref x :: st) n cs ss σ K) : Wx E Y pc lv (.int i :: .ref x :: st) n cs ss σ K :=
  fun p e R s m args below meth c H locs ls a0 n0 a hC hn hg hH hS hl => lv_dup2_11 hC.1 hC.2.1 d rfl rfl (k p e R s m args below meth c H locs ls a0 n0 a hC hn hg hH hS hl)
theorem x_dup2l {x : Int64} (d : decode Y.2.1 pc = .ok (.dup2, 1)) (k : Wx E Y (pc + 1) lv (.long x :: .long x :: st) n cs ss σ K) : Wx E Y pc lv (.long x :: st) n cs ss σ K :=
  fun p e R s m args below meth c H locs ls a0 n0 a hC hn hg hH hS hl => lv_dup2_2 hC.1 hC.2.1 d rfl (k p e R s m args below meth c H locs ls a0 n0 a hC hn hg hH hS hl)
theorem x_if_eq {x : Int32} {off : Int} {tgt : Nat} (d : decode Y.2.1 pc = .ok (.ifCond .eq off, 3)) (ht : (pc : Int) + off = (tgt : Int)) (kt : x = 0 → Wx E Y tgt lv st n cs ss σ K) (kf : ¬ x = 0 → Wx E Y (pc + 3) lv st n cs ss σ K) : Wx E Y pc lv (.int x :: st) n cs ss σ K :=
  fun p e R s m args below meth c H locs ls a0 n0 a hC hn hg hH hS hl => lv_if_eq hC.1 hC.2.1 d ht (fun h => kt h p e R s m args below meth c H locs ls a0 n0 a hC hn hg hH hS hl) (fun h => kf h p e R s m args below meth c H locs ls a0 n0 a hC hn hg hH hS hl)
theorem x_icmp_eq {x y : Int32} {off : Int} {tgt : Nat} (d : decode Y.2.1 pc = .ok (.if_icmp .eq off, 3)) (ht : (pc : Int) + off = (tgt : Int)) (kt : x = y → Wx E Y tgt lv st n cs ss σ K) (kf : ¬ x = y → Wx E Y (pc + 3) lv st n cs ss σ K) : Wx E Y pc lv (.int y :: .int x :: st) n cs ss σ K :=
  fun p e R s m args below meth c H locs ls a0 n0 a hC hn hg hH hS hl => lv_icmp_eq hC.1 hC.2.1 d ht (fun h => kt h p e R s m args below meth c H locs ls a0 n0 a hC hn hg hH hS hl) (fun h => kf h p e R s m args below meth c H locs ls a0 n0 a hC hn hg hH hS hl)
theorem x_if_ne {x : Int32} {off : Int} {tgt : Nat} (d : decode Y.2.1 pc = .ok (.ifCond .ne off, 3)) (ht : (pc : Int) + off = (tgt : Int)) (kt : ¬ x = 0 → Wx E Y tgt lv st n cs ss σ K) (kf : x = 0 → Wx E Y (pc + 3) lv st n cs ss σ K) : Wx E Y pc lv (.int x :: st) n cs ss σ K :=
  fun p e R s m args below meth c H locs ls a0 n0 a hC hn hg hH hS hl => lv_if_ne hC.1 hC.2.1 d ht (fun h => kt h p e R s m args below meth c H locs ls a0 n0 a hC hn hg hH hS hl) (fun h => kf h p e R s m args below meth c H locs ls a0 n0 a hC hn hg hH hS hl)
theorem x_icmp_ne {x y : Int32} {off : Int} {tgt : Nat} (d : decode Y.2.1 pc = .ok (.if_icmp .ne off, 3)) (ht : (pc : Int) + off = (tgt : Int)) (kt : ¬ x = y → Wx E Y tgt lv st n cs ss σ K) (kf : x = y → Wx E Y (pc + 3) lv st n cs ss σ K) : Wx E Y pc lv (.int y :: .int x :: st) n cs ss σ K :=
  fun p e R s m args below meth c H locs ls a0 n0 a hC hn hg hH hS hl => lv_icmp_ne hC.1 hC.2.1 d ht (fun h => kt h p e R s m args below meth c H locs ls a0 n0 a hC hn hg hH hS hl) (fun h => kf h p e R s m args below meth c H locs ls a0 n0 a hC hn hg hH hS hl)
theorem x_if_lt {x : Int32} {off : Int} {tgt : Nat} (d : decode Y.2.1 pc = .ok (.ifCond .lt off, 3)) (ht : (pc : Int) + off = (tgt : Int)) (kt : x < 0 → Wx E Y tgt lv st n cs ss σ K) (kf : ¬ x < 0 → Wx E Y (pc + 3) lv st n cs ss σ K) : Wx E Y pc lv (.int x :: st) n cs ss σ K :=
  fun p e R s m args below meth c H locs ls a0 n0 a hC hn hg hH hS hl => lv_if_lt hC.1 hC.2.1 d ht (fun h => kt h p e R s m args below meth c H locs ls a0 n0 a hC hn hg hH hS hl) (fun h => kf h p e R s m args below meth c H locs ls a0 n0 a hC hn hg hH hS hl)
theorem x_icmp_lt {x y : Int32} {off : Int} {tgt : Nat} (d : decode Y.2.1 pc = .ok (.if_icmp .lt off, 3)) (ht : (pc : Int) + off = (tgt : Int)) (kt : x < y → Wx E Y tgt lv st n cs ss σ K) (kf : ¬ x < y → Wx E Y (pc + 3) lv st n cs ss σ K) : Wx E Y pc lv (.int y :: .int x :: st) n cs ss σ K :=
  fun p e R s m args below meth c H locs ls a0 n0 a hC hn hg hH hS hl => lv_icmp_lt hC.1 hC.2.1 d ht (fun h => kt h p e R s m args below meth c H locs ls a0 n0 a hC hn hg hH hS hl) (fun h => kf h p e R s m args below meth c H locs ls a0 n0 a hC hn hg hH hS hl)
theorem x_if_ge {x : Int32} {off : Int} {tgt : Nat} (d : decode Y.2.1 pc = .ok (.ifCond .ge off, 3)) (ht : (pc : Int) + off = (tgt : Int)) (kt : 0 ≤ x → Wx E Y tgt lv st n cs ss σ K) (kf : ¬ 0 ≤ x → Wx E Y (pc + 3) lv st n cs ss σ K) : Wx E Y pc lv (.int x :: st) n cs ss σ K :=
  fun p e R s m args below meth c H locs ls a0 n0 a hC hn hg hH hS hl => lv_if_ge hC.1 hC.2.1 d ht (fun h => kt h p e R s m args below meth c H locs ls a0 n0 a hC hn hg hH hS hl) (fun h => kf h p e R s m args below meth c H locs ls a0 n0 a hC hn hg hH hS hl)
theorem x_icmp_ge {x y : Int32} {off : Int} {tgt : Nat} (d : decode Y.2.1 pc = .ok (.if_icmp .ge off, 3)) (ht : (pc : Int) + off = (tgt : Int)) (kt : y ≤ x → Wx E Y tgt lv st n cs ss σ K) (kf : ¬ y ≤ x → Wx E Y (pc + 3) lv st n cs ss σ K) : Wx E Y pc lv (.int y :: .int x :: st) n cs ss σ K :=
  fun p e R s m args below meth c H locs ls a0 n0 a hC hn hg hH hS hl => lv_icmp_ge hC.1 hC.2.1 d ht (fun h => kt h p e R s m args below meth c H locs ls a0 n0 a hC hn hg hH hS hl) (fun h => kf h p e R s m args below meth c H locs ls a0 n0 a hC hn hg hH hS hl)
theorem x_if_gt {x : Int32} {off : Int} {tgt : Nat} (d : decode Y.2.1 pc = .ok (.ifCond .gt off, 3)) (ht : (pc : Int) + off = (tgt : Int)) (kt : 0 < x → Wx E Y tgt lv st n cs ss σ K) (kf : ¬ 0 < x → Wx E Y (pc + 3) lv st n cs ss σ K) : Wx E Y pc lv (.int x :: st) n cs ss σ K :=
  fun p e R s m args below meth c H locs ls a0 n0 a hC hn hg hH hS hl => lv_if_gt hC.1 hC.2.1 d ht (fun h => kt h p e R s m args below meth c H locs ls a0 n0 a hC hn hg hH hS hl) (fun h => kf h p e R s m args below meth c H locs ls a0 n0 a hC hn hg hH hS hl)
theorem x_icmp_gt {x y : Int32} {off : Int} {tgt : Nat} (d : decode Y.2.1 pc = .ok (.if_icmp .gt off, 3)) (ht : (pc : Int) + off = (tgt : Int)) (kt : y < x → Wx E Y tgt lv st n cs ss σ K) (kf : ¬ y < x → Wx E Y (pc + 3) lv st n cs ss σ K) : Wx E Y pc lv (.int y :: .int x :: st) n cs ss σ K :=
  fun p e R s m args below meth c H locs ls a0 n0 a hC hn hg hH hS hl => lv_icmp_gt hC.1 hC.2.1 d ht (fun h => kt h p e R s m args below meth c H locs ls a0 n0 a hC hn hg hH hS hl) (fun h => kf h p e R s m args below meth c H locs ls a0 n0 a hC hn hg hH hS hl)
theorem x_if_le {x : Int32} {off : Int} {tgt : Nat} (d : decode Y.2.1 pc = .ok (.ifCond .le off, 3)) (ht : (pc : Int) + off = (tgt : Int)) (kt : x ≤ 0 → Wx E Y tgt lv st n cs ss σ K) (kf : ¬ x ≤ 0 → Wx E Y (pc + 3) lv st n cs ss σ K) : Wx E Y pc lv (.int x :: st) n cs ss σ K :=
  fun p e R s m args below meth c H locs ls a0 n0 a hC hn hg hH hS hl => lv_if_le hC.1 hC.2.1 d ht (fun h => kt h p e R s m args below meth c H locs ls a0 n0 a hC hn hg hH hS hl) (fun h => kf h p e R s m args below meth c H locs ls a0 n0 a hC hn hg hH hS hl)
theorem x_icmp_le {x y : Int32} {off : Int} {tgt : Nat} (d : decode Y.2.1 pc = .ok (.if_icmp .le off, 3)) (ht : (pc : Int) + off = (tgt : Int)) (kt : x ≤ y → Wx E Y tgt lv st n cs ss σ K) (kf : ¬ x ≤ y → Wx E Y (pc + 3) lv st n cs ss σ K) : Wx E Y pc lv (.int y :: .int x :: st) n cs ss σ K :=
  fun p e R s m args below meth c H locs ls a0 n0 a hC hn hg hH hS hl => lv_icmp_le hC.1 hC.2.1 d ht (fun h => kt h p e R s m args below meth c H locs ls a0 n0 a hC hn hg hH hS hl) (fun h => kf h p e R s m args below meth c H locs ls a0 n0 a hC hn hg hH hS hl)
theorem x_goto {off : Int} {tgt : Nat} (d : decode Y.2.1 pc = .ok (.goto off, 3)) (ht : (pc : Int) + off = (tgt : Int)) (k : Wx E Y tgt lv st n cs ss σ K) : Wx E Y pc lv st n cs ss σ K :=
  fun p e R s m args below meth c H locs ls a0 n0 a hC hn hg hH hS hl => lv_goto hC.1 hC.2.1 d ht (k p e R s m args below meth c H locs ls a0 n0 a hC hn hg hH hS hl)
end XA
end
section
/-! ===== fields, arrays, returns ===== -/
/-- field j of class ci, linked as idx in class own: its type, whether it is final -/
noncomputable def xFl (own : String) (idx ci j : Nat) (ty : FieldType) (fin : Bool) : Prop := ∃ (C : String) (T : u_T) (N : Nat) (ty0 : Nat → FieldType), cls[ci]? = some (C, T, N) ∧ (∀ w ∈ u_ws C T N, w ∈ TBg) ∧ (∀ k, k < N → parseFieldDescriptor (T k).2.2.1 = some (ty0 k)) ∧ (∀ a, a < N → ∀ b, b < N → a ≠ b → (T a).2.1 ≠ (T b).2.1) ∧ j < N ∧ Cond.fieldLink own idx (T j).1 (T j).2.1 (T j).2.2.1 ∈ TBg ∧ parseFieldDescriptor (T j).2.2.1 = some ty ∧ (T j).2.2.2 = fin ∧ (T j).1 = C
theorem xc_obj {G : xG} {a : Nat → Nat} {σ : xS} {k ci : Nat} {cs : List Nat} (hd : KD k = (ci, cs)) (hc : ci < 100) : xc G a σ k = (a k, .inr (ci, xF a (σ.1 k) (σ.2.1 k) (σ.2.2 k) 0 cs)) := by
  simp [xc, xE, hd, hc]
theorem xc_int {G : xG} {a : Nat → Nat} {σ : xS} {k z : Nat} (hd : KD k = (100, [z])) : xc G a σ k = (a k, .inl (G.2.1, (z, .inl (σ.1 k)))) := by
  simp [xc, xE, hd]
theorem xc_long {G : xG} {a : Nat → Nat} {σ : xS} {k z : Nat} (hd : KD k = (101, [z])) : xc G a σ k = (a k, .inl (G.2.2.1, (z, .inr (.inl (σ.2.1 k))))) := by
  simp [xc, xE, hd]
theorem xc_bool {G : xG} {a : Nat → Nat} {σ : xS} {k z : Nat} (hd : KD k = (102, [z])) : xc G a σ k = (a k, .inl (G.2.2.2.1, (z, .inl (σ.1 k)))) := by
  simp [xc, xE, hd]
theorem xc_at {G : xG} {a : Nat → Nat} {n : Nat} {σ : xS} {k : Nat} {q : Nat × va_E} (hk : k < n) (h : xc G a σ k = q) : (xW G a n σ)[k]? = some q := (xW_at hk).trans (congrArg some h)
theorem sI_off {σ : xS} {k j : Nat} {v : Int32} (i : Nat) (h : i ≠ k) : (sI σ k j v).1 i = σ.1 i ∧ (sI σ k j v).2.1 i = σ.2.1 i ∧ (sI σ k j v).2.2 i = σ.2.2 i := ⟨xup_ne h, rfl, rfl⟩
theorem sJ_off {σ : xS} {k j : Nat} {v : Int64} (i : Nat) (h : i ≠ k) : (sJ σ k j v).1 i = σ.1 i ∧ (sJ σ k j v).2.1 i = σ.2.1 i ∧ (sJ σ k j v).2.2 i = σ.2.2 i := ⟨rfl, xup_ne h, rfl⟩
theorem sR_off {σ : xS} {k j : Nat} {v : Nat} (i : Nat) (h : i ≠ k) : (sR σ k j v).1 i = σ.1 i ∧ (sR σ k j v).2.1 i = σ.2.1 i ∧ (sR σ k j v).2.2 i = σ.2.2 i := ⟨rfl, rfl, xup_ne h⟩
theorem xc_sI {G : xG} {a : Nat → Nat} {σ : xS} {k ci j : Nat} {cs : List Nat} {v : Int32} (hd : KD k = (ci, cs)) (hc : ci < 100) (hj : cs[j]? = some 0) : (a k, (.inr (ci, (xF a (σ.1 k) (σ.2.1 k) (σ.2.2 k) 0 cs).set j (.int v)) : va_E)) = xc G a (sI σ k j v) k := by
  rw [xc_obj hd hc]
  congr 3
  refine xF_set cs 0 j hj ?_ ?_
  · simp [xfv, sI, xup, upd]
  · intro i c' hi
    have hi' : i ≠ j := by omega
    unfold xfv
    split <;> simp [sI, xup, upd, hi']
theorem xc_sJ {G : xG} {a : Nat → Nat} {σ : xS} {k ci j : Nat} {cs : List Nat} {v : Int64} (hd : KD k = (ci, cs)) (hc : ci < 100) (hj : cs[j]? = some 1) : (a k, (.inr (ci, (xF a (σ.1 k) (σ.2.1 k) (σ.2.2 k) 0 cs).set j (.long v)) : va_E)) = xc G a (sJ σ k j v) k := by
  rw [xc_obj hd hc]
  congr 3
  refine xF_set cs 0 j hj ?_ ?_
  · simp [xfv, sJ, xup, vp_updL]
  · intro i c' hi
    have hi' : i ≠ j := by omega
    unfold xfv
    split <;> simp [sJ, xup, vp_updL, hi']
theorem xc_sR {G : xG} {a : Nat → Nat} {σ : xS} {k ci j i : Nat} {cs : List Nat} (hd : KD k = (ci, cs)) (hc : ci < 100) (hj : cs[j]? = some 2) : (a k, (.inr (ci, (xF a (σ.1 k) (σ.2.1 k) (σ.2.2 k) 0 cs).set j (.ref (a i))) : va_E)) = xc G a (sR σ k j (i + 1)) k := by
  rw [xc_obj hd hc]
  congr 3
  refine xF_set cs 0 j hj ?_ ?_
  · simp [xfv, sR, xup, xupN, xrv]
  · intro i c' hi
    have hi' : i ≠ j := by omega
    unfold xfv
    split <;> simp [sR, xup, xupN, hi']
section XH
variable {E : xV} {Y : xY} {pc n cs ss : Nat} {lv lv' : List (Nat × Value)} {st : List Value} {σ : xS} {K : xQQ}
theorem x_geti {k j idx ci : Nat} {l : List Nat} {ty : FieldType} {fin : Bool} (F : xFl Y.1.cls idx ci j ty fin) (hk : k < n) (hd : KD k = (ci, l)) (hc : ci < 100) (hj : l[j]? = some 0) (d : decode Y.2.1 pc = .ok (.getfield idx, 3)) (kk : Wx E Y (pc + 3) lv (.int (σ.1 k j) :: st) n cs ss σ K) : Wx E Y pc lv (.ref k :: st) n cs ss σ K := by
  intro p e R s m args below meth c H locs ls a0 n0 a hC hn hg hH hS hl
  obtain ⟨C, T, N, ty0, f1, f2, f3, f4, f5, f6, f7, f8, f9⟩ := F
  exact va_get (D := E.2.1.1) (cl := cls) (tys := xT E.2.1) (v := .int (σ.1 k j)) hC.1 hC.2.1 hC.2.2.2.2.2.1 f2 hC.2.2.2.2.1 hC.2.2.2.2.2.2.2.2.1.1 hH.2.2.2.2 k (xc_at hk (xc_obj hd hc)) f1 j f5 (hC.2.2.2.2.2.1 _ f6) (fun _ h => h) ((xF_at l 0 j hj).trans (by simp [xfv])) d (kk p e R s m args below meth c H locs ls a0 n0 a hC hn hg hH hS hl)
theorem x_getj {k j idx ci : Nat} {l : List Nat} {ty : FieldType} {fin : Bool} (F : xFl Y.1.cls idx ci j ty fin) (hk : k < n) (hd : KD k = (ci, l)) (hc : ci < 100) (hj : l[j]? = some 1) (d : decode Y.2.1 pc = .ok (.getfield idx, 3)) (kk : Wx E Y (pc + 3) lv (.long (σ.2.1 k j) :: st) n cs ss σ K) : Wx E Y pc lv (.ref k :: st) n cs ss σ K := by
  intro p e R s m args below meth c H locs ls a0 n0 a hC hn hg hH hS hl
  obtain ⟨C, T, N, ty0, f1, f2, f3, f4, f5, f6, f7, f8, f9⟩ := F
  exact va_get (D := E.2.1.1) (cl := cls) (tys := xT E.2.1) (v := .long (σ.2.1 k j)) hC.1 hC.2.1 hC.2.2.2.2.2.1 f2 hC.2.2.2.2.1 hC.2.2.2.2.2.2.2.2.1.1 hH.2.2.2.2 k (xc_at hk (xc_obj hd hc)) f1 j f5 (hC.2.2.2.2.2.1 _ f6) (fun _ h => h) ((xF_at l 0 j hj).trans (by simp [xfv])) d (kk p e R s m args below meth c H locs ls a0 n0 a hC hn hg hH hS hl)
theorem x_getr {k j i idx ci : Nat} {l : List Nat} {ty : FieldType} {fin : Bool} (F : xFl Y.1.cls idx ci j ty fin) (hk : k < n) (hd : KD k = (ci, l)) (hc : ci < 100) (hj : l[j]? = some 2) (hr : σ.2.2 k j = i + 1) (d : decode Y.2.1 pc = .ok (.getfield idx, 3)) (kk : Wx E Y (pc + 3) lv (.ref i :: st) n cs ss σ K) : Wx E Y pc lv (.ref k :: st) n cs ss σ K := by
  intro p e R s m args below meth c H locs ls a0 n0 a hC hn hg hH hS hl
  obtain ⟨C, T, N, ty0, f1, f2, f3, f4, f5, f6, f7, f8, f9⟩ := F
  exact va_get (D := E.2.1.1) (cl := cls) (tys := xT E.2.1) (v := .ref (a i)) hC.1 hC.2.1 hC.2.2.2.2.2.1 f2 hC.2.2.2.2.1 hC.2.2.2.2.2.2.2.2.1.1 hH.2.2.2.2 k (xc_at hk (xc_obj hd hc)) f1 j f5 (hC.2.2.2.2.2.1 _ f6) (fun _ h => h) ((xF_at l 0 j hj).trans (by simp [xfv, hr, xrv])) d (kk p e R s m args below meth c H locs ls a0 n0 a hC hn hg hH hS hl)
theorem x_puti {k j idx ci : Nat} {l : List Nat} {ty : FieldType} {v : Int32} (F : xFl Y.1.cls idx ci j ty false) (hk : k < n) (hd : KD k = (ci, l)) (hc : ci < 100) (hj : l[j]? = some 0) (hw : narrow ty (.int v) = .int v) (hf : fits ty (.int v) = true) (d : decode Y.2.1 pc = .ok (.putfield idx, 3)) (kk : Wx E Y (pc + 3) lv st n cs ss (sI σ k j v) K) : Wx E Y pc lv (.int v :: .ref k :: st) n cs ss σ K := by
  intro p e R s m args below meth c H locs ls a0 n0 a hC hn hg hH hS hl
  obtain ⟨C, T, N, ty0, f1, f2, f3, f4, f5, f6, f7, f8, f9⟩ := F
  refine va_put (D := E.2.1.1) (cl := cls) (tys := xT E.2.1) (ty := ty) (v := .int v) hC.1 hC.2.1 hC.2.2.2.2.2.1 f2 ty0 f3 f4 hC.2.2.2.2.1 hC.2.2.2.2.2.2.2.2.1.1 hH.2.2.2.2 hH.D hS k (xc_at hk (xc_obj hd hc)) f1 j f5 (hC.2.2.2.2.2.1 _ f6) (fun _ h => h) f8 f7 hw hf (by rw [xF_len]; exact (List.getElem?_eq_some_iff.mp hj).1) d (fun H1 locs1 hP1 _ hS1 => ?_)
  rw [xc_sI hd hc hj, xW_set hk sI_off] at hP1
  exact kk p e R s m args below meth c H1 locs1 ls a0 n0 a hC hn hg ⟨hH.1, hH.2.1, hH.2.2.1, hH.2.2.2.1, hP1⟩ hS1 hl
theorem x_putj {k j idx ci : Nat} {l : List Nat} {v : Int64} (F : xFl Y.1.cls idx ci j .long false) (hk : k < n) (hd : KD k = (ci, l)) (hc : ci < 100) (hj : l[j]? = some 1) (d : decode Y.2.1 pc = .ok (.putfield idx, 3)) (kk : Wx E Y (pc + 3) lv st n cs ss (sJ σ k j v) K) : Wx E Y pc lv (.long v :: .ref k :: st) n cs ss σ K := by
  intro p e R s m args below meth c H locs ls a0 n0 a hC hn hg hH hS hl
  obtain ⟨C, T, N, ty0, f1, f2, f3, f4, f5, f6, f7, f8, f9⟩ := F
  refine va_put (D := E.2.1.1) (cl := cls) (tys := xT E.2.1) (ty := .long) (v := .long v) hC.1 hC.2.1 hC.2.2.2.2.2.1 f2 ty0 f3 f4 hC.2.2.2.2.1 hC.2.2.2.2.2.2.2.2.1.1 hH.2.2.2.2 hH.D hS k (xc_at hk (xc_obj hd hc)) f1 j f5 (hC.2.2.2.2.2.1 _ f6) (fun _ h => h) f8 f7 rfl rfl (by rw [xF_len]; exact (List.getElem?_eq_some_iff.mp hj).1) d (fun H1 locs1 hP1 _ hS1 => ?_)
  rw [xc_sJ hd hc hj, xW_set hk sJ_off] at hP1
  exact kk p e R s m args below meth c H1 locs1 ls a0 n0 a hC hn hg ⟨hH.1, hH.2.1, hH.2.2.1, hH.2.2.2.1, hP1⟩ hS1 hl
theorem sR_le {σ : xS} {n k j v : Nat} (h : ∀ k j, σ.2.2 k j ≤ n) (hv : v ≤ n) : ∀ k' j', (sR σ k j v).2.2 k' j' ≤ n := by
  intro k' j'
  show xup σ.2.2 k (xupN (σ.2.2 k) j v) k' j' ≤ n
  unfold xup xupN
  split
  · dsimp only
    split
    · exact hv
    · exact h _ _
  · exact h _ _
/-- a final reference field, in a constructor -/
theorem x_putrF {k j i idx ci : Nat} {l : List Nat} {ty : FieldType} (F : xFl Y.1.cls idx ci j ty true) (hini : Y.1.name = "<init>") (hcn : (cls[ci]?.map fun q => q.1) = some Y.1.cls) (hk : k < n) (hi : i < n) (hd : KD k = (ci, l)) (hc : ci < 100) (hj : l[j]? = some 2) (hw : ∀ q, narrow ty (.ref q) = .ref q) (hf : ∀ q, fits ty (.ref q) = true) (d : decode Y.2.1 pc = .ok (.putfield idx, 3)) (kk : Wx E Y (pc + 3) lv st n cs ss (sR σ k j (i + 1)) K) : Wx E Y pc lv (.ref i :: .ref k :: st) n cs ss σ K := by
  intro p e R s m args below meth c H locs ls a0 n0 a hC hn hg hH hS hl
  obtain ⟨C, T, N, ty0, f1, f2, f3, f4, f5, f6, f7, f8, f9⟩ := F
  have hCn : C = Y.1.cls := by rw [f1] at hcn; exact Option.some.inj hcn
  refine va_putF (D := E.2.1.1) (cl := cls) (tys := xT E.2.1) (ty := ty) (v := .ref (a i)) hC.1 hC.2.1 hC.2.2.2.2.2.1 f2 ty0 f3 f4 hC.2.2.2.2.1 hC.2.2.2.2.2.2.2.2.1.1 hH.2.2.2.2 hH.D hS k (xc_at hk (xc_obj hd hc)) f1 j f5 (hC.2.2.2.2.2.1 _ f6) (fun _ h => h) f8 (hC.2.2.2.2.2.2.2.1 hini) (f9.trans hCn) f7 (hw _) (hf _) (by rw [xF_len]; exact (List.getElem?_eq_some_iff.mp hj).1) d (fun H1 locs1 hP1 _ hS1 => ?_)
  rw [xc_sR hd hc hj, xW_set hk sR_off] at hP1
  exact kk p e R s m args below meth c H1 locs1 ls a0 n0 a hC hn hg ⟨hH.1, hH.2.1, sR_le hH.2.2.1 hi, hH.2.2.2.1, hP1⟩ hS1 hl
theorem x_iald {k z : Nat} {i : Int32} (hk : k < n) (hd : KD k = (100, [z])) (hi : vp_in i z) (d : decode Y.2.1 pc = .ok (.iaload, 1)) (kk : Wx E Y (pc + 1) lv (.int (σ.1 k i.toNatClampNeg) :: st) n cs ss σ K) : Wx E Y pc lv (.int i :: .ref k :: st) n cs ss σ K :=
  fun p e R s m args below meth c H locs ls a0 n0 a hC hn hg hH hS hl => va_iald (D := E.2.1.1) (cl := cls) (tys := xT E.2.1) hC.1 hC.2.1 hC.2.2.2.2.2.2.2.2.1.1 hH.2.2.2.2 k 0 (xc_at hk (xc_int hd)) rfl hi d (kk p e R s m args below meth c H locs ls a0 n0 a hC hn hg hH hS hl)
theorem x_zald {k z : Nat} {i : Int32} (hk : k < n) (hd : KD k = (102, [z])) (hi : vp_in i z) (d : decode Y.2.1 pc = .ok (.baload, 1)) (kk : Wx E Y (pc + 1) lv (.int (σ.1 k i.toNatClampNeg) :: st) n cs ss σ K) : Wx E Y pc lv (.int i :: .ref k :: st) n cs ss σ K :=
  fun p e R s m args below meth c H locs ls a0 n0 a hC hn hg hH hS hl => va_zald (D := E.2.1.1) (cl := cls) (tys := xT E.2.1) hC.1 hC.2.1 hC.2.2.2.2.2.2.2.2.1.1 hH.2.2.2.2 k 2 (xc_at hk (xc_bool hd)) rfl hi d (kk p e R s m args below meth c H locs ls a0 n0 a hC hn hg hH hS hl)
theorem x_lald {k z : Nat} {i : Int32} (hk : k < n) (hd : KD k = (101, [z])) (hi : vp_in i z) (d : decode Y.2.1 pc = .ok (.laload, 1)) (kk : Wx E Y (pc + 1) lv (.long (σ.2.1 k i.toNatClampNeg) :: st) n cs ss σ K) : Wx E Y pc lv (.int i :: .ref k :: st) n cs ss σ K :=
  fun p e R s m args below meth c H locs ls a0 n0 a hC hn hg hH hS hl => va_lald (D := E.2.1.1) (cl := cls) (tys := xT E.2.1) hC.1 hC.2.1 hC.2.2.2.2.2.2.2.2.1.1 hH.2.2.2.2 k 1 (xc_at hk (xc_long hd)) rfl hi d (kk p e R s m args below meth c H locs ls a0 n0 a hC hn hg hH hS hl)
theorem x_iast {k z : Nat} {i x : Int32} (hk : k < n) (hd : KD k = (100, [z])) (hi : vp_in i z) (d : decode Y.2.1 pc = .ok (.iastore, 1)) (kk : Wx E Y (pc + 1) lv st n cs ss (sI σ k i.toNatClampNeg x) K) : Wx E Y pc lv (.int x :: .int i :: .ref k :: st) n cs ss σ K := by
  intro p e R s m args below meth c H locs ls a0 n0 a hC hn hg hH hS hl
  refine va_iast (D := E.2.1.1) (cl := cls) (tys := xT E.2.1) hC.1 hC.2.1 hC.2.2.2.2.2.2.2.2.1.1 hH.2.2.2.2 hH.D hS k 0 (xc_at hk (xc_int hd)) rfl hi d (fun H1 locs1 hP1 _ hS1 => ?_)
  have hx : (a k, (.inl (E.2.1.2.1, (z, .inl (upd (σ.1 k) i.toNatClampNeg x))) : va_E)) = xc E.2.1 a (sI σ k i.toNatClampNeg x) k := by rw [xc_int hd]; simp [sI, xup]
  rw [hx, xW_set hk sI_off] at hP1
  exact kk p e R s m args below meth c H1 locs1 ls a0 n0 a hC hn hg ⟨hH.1, hH.2.1, hH.2.2.1, hH.2.2.2.1, hP1⟩ hS1 hl
theorem x_zast {k z : Nat} {i x : Int32} (hk : k < n) (hd : KD k = (102, [z])) (hi : vp_in i z) (d : decode Y.2.1 pc = .ok (.bastore, 1)) (kk : Wx E Y (pc + 1) lv st n cs ss (sI σ k i.toNatClampNeg (vp_nar .boolean x)) K) : Wx E Y pc lv (.int x :: .int i :: .ref k :: st) n cs ss σ K := by
  intro p e R s m args below meth c H locs ls a0 n0 a hC hn hg hH hS hl
  refine va_zast (D := E.2.1.1) (cl := cls) (tys := xT E.2.1) hC.1 hC.2.1 hC.2.2.2.2.2.2.2.2.1.1 hH.2.2.2.2 hH.D hS k 2 (xc_at hk (xc_bool hd)) rfl hi d (fun H1 locs1 hP1 _ hS1 => ?_)
  have hx : (a k, (.inl (E.2.1.2.2.2.1, (z, .inl (upd (σ.1 k) i.toNatClampNeg (vp_nar .boolean x)))) : va_E)) = xc E.2.1 a (sI σ k i.toNatClampNeg (vp_nar .boolean x)) k := by rw [xc_bool hd]; simp [sI, xup]
  rw [hx, xW_set hk sI_off] at hP1
  exact kk p e R s m args below meth c H1 locs1 ls a0 n0 a hC hn hg ⟨hH.1, hH.2.1, hH.2.2.1, hH.2.2.2.1, hP1⟩ hS1 hl
theorem x_last {k z : Nat} {i : Int32} {x : Int64} (hk : k < n) (hd : KD k = (101, [z])) (hi : vp_in i z) (d : decode Y.2.1 pc = .ok (.lastore, 1)) (kk : Wx E Y (pc + 1) lv st n cs ss (sJ σ k i.toNatClampNeg x) K) : Wx E Y pc lv (.long x :: .int i :: .ref k :: st) n cs ss σ K := by
  intro p e R s m args below meth c H locs ls a0 n0 a hC hn hg hH hS hl
  refine va_last (D := E.2.1.1) (cl := cls) (tys := xT E.2.1) hC.1 hC.2.1 hC.2.2.2.2.2.2.2.2.1.1 hH.2.2.2.2 hH.D hS k 1 (xc_at hk (xc_long hd)) rfl hi d (fun H1 locs1 hP1 _ hS1 => ?_)
  have hx : (a k, (.inl (E.2.1.2.2.1, (z, .inr (.inl (vp_updL (σ.2.1 k) i.toNatClampNeg x)))) : va_E)) = xc E.2.1 a (sJ σ k i.toNatClampNeg x) k := by rw [xc_long hd]; simp [sJ, xup]
  rw [hx, xW_set hk sJ_off] at hP1
  exact kk p e R s m args below meth c H1 locs1 ls a0 n0 a hC hn hg ⟨hH.1, hH.2.1, hH.2.2.1, hH.2.2.2.1, hP1⟩ hS1 hl
theorem x_iret {K : xK} {v : Int32} {ty : FieldType} (hr : Y.2.2.2.1 = some ty) (hw : narrow ty (.int v) = .int v) (d : decode Y.2.1 pc = .ok (.ireturn, 1)) (h1 : cs ≤ Y.2.2.2.2.cells) (h2 : ss ≤ Y.2.2.2.2.slots) (hK : K (some (.int v)) n σ) : Wx E Y pc lv [.int v] n cs ss σ (xMQ E Y K) :=
  fun p e R s m args below meth c H locs ls a0 n0 a hC hn hg hH hS hl => W.widen h1 h2 (W.zret hC.1 hC.2.1 (hC.2.2.1.trans hr) hw (fun t ht hW => ⟨some (.int v), n, σ, a, rfl, hn, hg, hK, ht ▸ hH, hS.F ht⟩) hS.2.2 d hC.2.2.2.2.2.2.1)
theorem x_lret {K : xK} {v : Int64} (hr : Y.2.2.2.1 = some .long) (d : decode Y.2.1 pc = .ok (.lreturn, 1)) (h1 : cs ≤ Y.2.2.2.2.cells) (h2 : ss ≤ Y.2.2.2.2.slots) (hK : K (some (.long v)) n σ) : Wx E Y pc lv [.long v] n cs ss σ (xMQ E Y K) :=
  fun p e R s m args below meth c H locs ls a0 n0 a hC hn hg hH hS hl => W.widen h1 h2 (W.lret hC.1 hC.2.1 (hC.2.2.1.trans hr) (fun t ht hW => ⟨some (.long v), n, σ, a, rfl, hn, hg, hK, ht ▸ hH, hS.F ht⟩) hS.2.2 d hC.2.2.2.2.2.2.1)
theorem x_vret {K : xK} (hr : Y.2.2.2.1 = none) (d : decode Y.2.1 pc = .ok (.return_, 1)) (h1 : cs ≤ Y.2.2.2.2.cells) (h2 : ss ≤ Y.2.2.2.2.slots) (hK : K none n σ) : Wx E Y pc lv [] n cs ss σ (xMQ E Y K) :=
  fun p e R s m args below meth c H locs ls a0 n0 a hC hn hg hH hS hl => W.widen h1 h2 (W.vret hC.1 hC.2.1 (hC.2.2.1.trans hr) (fun t ht hW => ⟨none, n, σ, a, rfl, hn, hg, hK, ht ▸ hH, hS.F ht⟩) hS.2.2 d hC.2.2.2.2.2.2.1)
end XH
end
section
/-! ===== calls, the entry of a method, what is made anew, switches ===== -/
noncomputable def xokv (n : Nat) (v : Value) : Bool := match v with
  | .ref k => decide (k < n) || decide (1000 ≤ k)
  | _ => true
theorem xrel_ag {n : Nat} {a a' : Nat → Nat} (h : xag n a a') {v : Value} (hv : xokv n v = true) : xrel a' v = xrel a v := by
  cases v with
  | ref k => simp only [xrel]; rw [h k (by simpa [xokv] using hv)]
  | _ => rfl
theorem xlv_ag {n : Nat} {a a' : Nat → Nat} (h : xag n a a') {lv : List (Nat × Value)} (hv : (lv.all fun q => xokv n q.2) = true) : xlv a' lv = xlv a lv := by
  apply List.map_congr_left
  intro q hq
  rw [xrel_ag h (List.all_eq_true.mp hv q hq)]
theorem xst_ag {n : Nat} {a a' : Nat → Nat} (h : xag n a a') {st : List Value} (hv : (st.all (xokv n)) = true) : st.map (xrel a') = st.map (xrel a) := by
  apply List.map_congr_left
  intro v hq
  exact xrel_ag h (List.all_eq_true.mp hv v hq)
theorem good_TB {y : MethodName} {bytes : ByteArray} {nL : Nat} {ret : Option FieldType} (h : Cond.code y bytes nL ret ∈ TBg) : GoodIn TBg (Cond.code y bytes nL ret :: TBg) := by
  intro w hw
  have hm : w ∈ TBg := by
    rcases List.mem_cons.mp hw with e | e
    · rw [e]; exact h
    · exact e
  exact ⟨hm, good_of_word (List.mem_filter.mp hm).2⟩
/-- what the tables say of a call of Z, linked as idx in class own, with n arguments behind the receiver -/
noncomputable def xM (own : String) (idx : Nat) (Z : xY) (n : Nat) : Prop := Cond.methodLink own idx Z.1 ∈ TBg ∧ Cond.initialized Z.1.cls ∈ TBg ∧ Cond.code Z.1 Z.2.1 Z.2.2.1 Z.2.2.2.1 ∈ TBg ∧ (Z.1.cls ≠ "java/lang/invoke/MethodHandle" ∧ Z.1.cls ≠ "java/lang/invoke/VarHandle" ∧ (parseMethodDescriptor Z.1.desc).map (fun d => d.parameters.length) = some n)
/-- the callee's room fits the caller's -/
noncomputable def xRm (Y Z : xY) (cs ss : Nat) : Prop := (Z.2.2.2.2.frames + 1 ≤ Y.2.2.2.2.frames ∧ 8 + (Z.2.2.1 + 11) + Z.2.2.2.2.locals ≤ Y.2.2.2.2.locals) ∧ (cs + Z.2.2.2.2.cells ≤ Y.2.2.2.2.cells ∧ ss + Z.2.2.2.2.slots ≤ Y.2.2.2.2.slots)
section XQ
variable {E : xV} {Y Z : xY} {pc n cs ss : Nat} {lv lv' : List (Nat × Value)} {st : List Value} {σ : xS} {K : xQQ}
/-- what is asked of a state at a call holds there -/
theorem x_pre {a : Nat → Nat} {s : State} {H : Heap} {av : List Value} (hK : xKs E s) (hH : xH E a n σ H) (hb : xB E H) : FrameBlind (va_Pc (av.map (xrel a)) (fun U => xH E a n σ U.heap ∧ xKs E U ∧ xB E U.heap)) ∧ ∀ U : State, U.heap = H → s.WarmedH U.vm → va_Pc (av.map (xrel a)) (fun U => xH E a n σ U.heap ∧ xKs E U ∧ xB E U.heap) (av.map (xrel a)).toArray U := by
  refine ⟨fun a' U g mk q => ?_, fun U hU hW => ⟨rfl, by rw [hU]; exact hH, hK.warm hW, by rw [hU]; exact hb⟩⟩
  obtain ⟨q0, q1, q2, q3⟩ := q
  exact ⟨q0, q1, xKs.same (s := U) (U := U.calling g mk a') rfl q2, q3⟩
/-- behind a call -/
theorem x_back {p : Program} {e : Env} {R : Room} {s : State} {m : MethodId} {args : Array Value} {below : List Frame} {meth : Method} {c : Code} {H : Heap} {locs : List Loc} {ls : Array Slot} {a0 a : Nat → Nat} {n0 : Nat} {av : Array Value} {g0 : List Value} {rest : List Value} {mc ms : Nat}
    (hC : xC E Y K.1 p R s m args meth c) (hn : n0 ≤ n) (hg : xag n0 a0 a) (hS : va_S (fun q => E.2.2.1 ≤ q) s.heap H locs) (hl : lv_has ls Y.2.2.1 (xlv a lv)) (hlv : (lv.all fun q => xokv n q.2) = true) (hst : (rest.all (xokv n)) = true)
    (hr : va_Run p E.1 e R s m args below meth c H locs cs ss mc ms (F0 m pc ls g0) (rest.map (xrel a)) (xQ E a n (fun v n' σ' => Wx E Y (pc + 3) lv (v.toList ++ rest) n' (cs + mc) (ss + ms) σ' K) av) (fun q => E.2.2.1 ≤ q)) :
    W p E.1 e R s m args below meth c H locs cs ss (K.2 below args s a0 n0) (F0 m pc ls g0) := by
  intro T hT X
  obtain ⟨v, st₀, t, T', L, h0, X', hL, e1, e2, ⟨v', n', σ', a', hv, hn', hag, hK', hH', hF⟩, sto⟩ := hr T hT X
  cases hv
  have hz := hF.1
  have hk := hF.2
  rw [h0] at hz hk
  have hlv' : lv_has ls Y.2.2.1 (xlv a' lv) := by rw [xlv_ag hag hlv]; exact hl
  obtain ⟨t2, a1, b1⟩ := hK' p e R s m args below meth c T'.heap (locs ++ L) ls a0 n0 a' hC (Nat.le_trans hn hn') (fun i hi => (hag i (hi.imp_left fun h => Nat.lt_of_lt_of_le h hn)).trans (hg i hi)) (by rw [e1]; exact hH')
    ⟨Nat.le_trans hS.1 (by rw [e1]; exact hz), fun q h1 h2 => by rw [e1, hk q (Nat.lt_of_lt_of_le h1 hS.1) h2]; exact hS.2.1 q h1 h2, fun q hq => by
      rcases List.mem_append.mp hq with h | h
      · exact hS.2.2 q h
      · exact hL q h⟩ hlv' T' rfl X'
  refine ⟨t2, sto t2 ?_, b1⟩
  have hm : (v'.toList ++ rest).map (xrel a') = (v'.map (xrel a')).toList ++ rest.map (xrel a) := by
    rw [List.map_append, xst_ag hag hst]
    cases v' <;> rfl
  rw [hm] at a1
  exact a1
theorem x_invV {idx kb ci : Nat} {As rest : List Value} {l : List Nat} {nA : Nat} (d : decode Y.2.1 pc = .ok (.invokevirtual idx, 3)) (hM : xM Y.1.cls idx Z nA) (hin : Cond.instanceMethod Z.1 ∈ TBg) (hsel : Cond.selects Z.1.cls Z.1 Z.1 ∈ TBg) (hA : As.length = nA) (hst : st = As.reverse ++ .ref kb :: rest) (hk : kb < n) (hd : KD kb = (ci, l)) (hc : ci < 100) (hcn : (cls[ci]?.map fun q => q.1) = some Z.1.cls) (hrm : xRm Y Z cs ss) (hcat : (rest.map fun v => v.category).sum ≤ 8) (hlv : (lv.all fun q => xokv n q.2) = true) (hrs : (rest.all (xokv n)) = true)
    (kk : Cx E Z (.ref kb :: As) n σ (fun v n' σ' => Wx E Y (pc + 3) lv (v.toList ++ rest) n' (cs + Z.2.2.2.2.cells) (ss + Z.2.2.2.2.slots) σ' K)) : Wx E Y pc lv st n cs ss σ K := by
  intro p e R s m args below meth c H locs ls a0 n0 a hC hn hg hH hS hl
  have hts := hC.2.2.2.2.2.1
  have hK := hC.2.2.2.2.2.2.2.2.1
  have hb : xB E H := hC.2.2.2.2.2.2.2.2.2.1.of hS
  obtain ⟨hR1, hR2, hR3, hR4, -⟩ := hC.2.2.2.2.2.2.2.2.2.2
  obtain ⟨q, hq, hqn⟩ : ∃ q, cls[ci]? = some q ∧ q.1 = Z.1.cls := by
    cases h : cls[ci]? with
    | none => rw [h] at hcn; cases hcn
    | some q => rw [h] at hcn; exact ⟨q, rfl, Option.some.inj hcn⟩
  have hrec := va_recv hK.1 hH.2.2.2.2 hq (xc_at hk (xc_obj (a := a) (G := E.2.1) (σ := σ) hd hc))
  rw [hqn] at hrec
  have hp := x_pre (av := .ref kb :: As) hK hH hb
  subst hst
  refine x_back (av := (Value.ref (a kb) :: As.map (xrel a)).toArray) (g0 := (As.reverse ++ .ref kb :: rest).map (xrel a)) hC hn hg hS hl hlv hrs (va_runV (As := As.map (xrel a)) (rest := rest.map (xrel a)) (b := a kb) (C := Z.1.cls) (bytes := Z.2.1) (maxL := Z.2.2.1) (ret := Z.2.2.2.1) (n := nA) ⟨hC.1, hC.2.1, hC.2.2.2.1, hC.2.2.2.2.1, hts⟩ (kk a) ⟨callB_of nA hts (good_TB hM.2.2.1) rfl rfl rfl (hts _ hM.2.1) (hts _ hM.1) hM.2.2.2 ⟨Nat.le_trans hrm.1.1 hR1, Nat.le_trans hrm.1.2 hR2⟩, hts _ hin, hts _ hsel⟩ ⟨hp.1, hrec, hp.2⟩ rfl (by rw [List.length_map]; exact hA) hl.1 (by simp [xrel]) ?_ d ⟨Nat.le_trans hrm.2.1 hR3, Nat.le_trans hrm.2.2 hR4⟩)
  refine lv_room ?_
  rw [List.map_map]
  have : ((fun v => v.category) ∘ xrel a : Value → Nat) = fun v => v.category := funext fun v => xrel_cat
  rw [this]
  exact hcat
theorem x_invS {idx : Nat} {As rest : List Value} {nA : Nat} (d : decode Y.2.1 pc = .ok (.invokestatic idx, 3)) (hM : xM Y.1.cls idx Z nA) (hstat : Cond.static Z.1 ∈ TBg) (hA : As.length = nA) (hst : st = As.reverse ++ rest) (hrm : xRm Y Z cs ss) (hcat : (rest.map fun v => v.category).sum ≤ 8) (hlv : (lv.all fun q => xokv n q.2) = true) (hrs : (rest.all (xokv n)) = true)
    (kk : Cx E Z As n σ (fun v n' σ' => Wx E Y (pc + 3) lv (v.toList ++ rest) n' (cs + Z.2.2.2.2.cells) (ss + Z.2.2.2.2.slots) σ' K)) : Wx E Y pc lv st n cs ss σ K := by
  intro p e R s m args below meth c H locs ls a0 n0 a hC hn hg hH hS hl
  have hts := hC.2.2.2.2.2.1
  have hK := hC.2.2.2.2.2.2.2.2.1
  have hb : xB E H := hC.2.2.2.2.2.2.2.2.2.1.of hS
  obtain ⟨hR1, hR2, hR3, hR4, -⟩ := hC.2.2.2.2.2.2.2.2.2.2
  have hp := x_pre (av := As) hK hH hb
  subst hst
  refine x_back (av := (As.map (xrel a)).toArray) (g0 := (As.reverse ++ rest).map (xrel a)) hC hn hg hS hl hlv hrs (va_runS (As := As.map (xrel a)) (rest := rest.map (xrel a)) (bytes := Z.2.1) (maxL := Z.2.2.1) (ret := Z.2.2.2.1) (n := nA) ⟨hC.1, hC.2.1, hC.2.2.2.1, hC.2.2.2.2.1, hts⟩ (kk a) ⟨callB_of nA hts (good_TB hM.2.2.1) rfl rfl rfl (hts _ hM.2.1) (hts _ hM.1) hM.2.2.2 ⟨Nat.le_trans hrm.1.1 hR1, Nat.le_trans hrm.1.2 hR2⟩, hts _ hstat⟩ ⟨hp.1, hp.2⟩ rfl (by rw [List.length_map]; exact hA) hl.1 (by simp) ?_ d ⟨Nat.le_trans hrm.2.1 hR3, Nat.le_trans hrm.2.2 hR4⟩)
  refine lv_room ?_
  rw [List.map_map]
  have : ((fun v => v.category) ∘ xrel a : Value → Nat) = fun v => v.category := funext fun v => xrel_cat
  rw [this]
  exact hcat
theorem x_invI {idx kb : Nat} {As rest : List Value} {nA : Nat} (d : decode Y.2.1 pc = .ok (.invokespecial idx, 3)) (hM : xM Y.1.cls idx Z nA) (hin : Cond.instanceMethod Z.1 ∈ TBg) (hname : Z.1.name = "<init>") (hret : Z.2.2.2.1 = none) (hA : As.length = nA) (hst : st = As.reverse ++ .ref kb :: rest) (hrm : xRm Y Z cs ss) (hcat : (rest.map fun v => v.category).sum ≤ 8) (hlv : (lv.all fun q => xokv n q.2) = true) (hrs : (rest.all (xokv n)) = true)
    (kk : Cx E Z (.ref kb :: As) n σ (fun v n' σ' => Wx E Y (pc + 3) lv (v.toList ++ rest) n' (cs + Z.2.2.2.2.cells) (ss + Z.2.2.2.2.slots) σ' K)) : Wx E Y pc lv st n cs ss σ K := by
  intro p e R s m args below meth c H locs ls a0 n0 a hC hn hg hH hS hl
  have hts := hC.2.2.2.2.2.1
  have hK := hC.2.2.2.2.2.2.2.2.1
  have hb : xB E H := hC.2.2.2.2.2.2.2.2.2.1.of hS
  obtain ⟨hR1, hR2, hR3, hR4, -⟩ := hC.2.2.2.2.2.2.2.2.2.2
  have hp := x_pre (av := .ref kb :: As) hK hH hb
  have hcd := hM.2.2.1
  rw [hret] at hcd
  have kk1 := kk a
  rw [hret] at kk1
  subst hst
  refine x_back (av := (Value.ref (a kb) :: As.map (xrel a)).toArray) (g0 := (As.reverse ++ .ref kb :: rest).map (xrel a)) hC hn hg hS hl hlv hrs (va_runI (As := As.map (xrel a)) (rest := rest.map (xrel a)) (b := a kb) (bytes := Z.2.1) (maxL := Z.2.2.1) (n := nA) ⟨hC.1, hC.2.1, hC.2.2.2.1, hC.2.2.2.2.1, hts⟩ kk1 ⟨callB_of nA hts (good_TB hcd) rfl rfl rfl (hts _ hM.2.1) (hts _ hM.1) hM.2.2.2 ⟨Nat.le_trans hrm.1.1 hR1, Nat.le_trans hrm.1.2 hR2⟩, hname, hts _ hin⟩ ⟨hp.1, hp.2⟩ rfl (by rw [List.length_map]; exact hA) hl.1 (by simp [xrel]) ?_ d ⟨Nat.le_trans hrm.2.1 hR3, Nat.le_trans hrm.2.2 hR4⟩)
  refine lv_room ?_
  rw [List.map_map]
  have : ((fun v => v.category) ∘ xrel a : Value → Nat) = fun v => v.category := funext fun v => xrel_cat
  rw [this]
  exact hcat
theorem xlv_args {a : Nat → Nat} : ∀ (av : List Value) (i : Nat), lv_args i (av.map (xrel a)) = xlv a (lv_args i av)
  | [], _ => rfl
  | v :: av, i => by
    simp only [List.map_cons, lv_args, xrel_cat]
    rw [xlv_args av]
    rfl
/-- a contract out of a walk from the method's first instruction -/
theorem x_entry {K : xK} {av : List Value} {lv0 : List (Nat × Value)} (hy : plainName Y.1.cls = true) (hlen : ∀ a, (lg_sl (av.map (xrel a))).length ≤ Y.2.2.1) (hlv : lv_args 0 av = lv0) (k : Wx E Y 0 lv0 [] n 0 0 σ (xMQ E Y K)) : Cx E Y av n σ K := by
  intro a
  refine Met.ofW (cc := Y.2.1) (maxL := Y.2.2.1) (ret := Y.2.2.2.1) hy rfl ?_
  intro p e s m args below meth c s₁ B hml hv
  obtain ⟨rfl, hH, hK, hb⟩ := hv
  have hts0 := atoms_spec (ws := Cond.code Y.1 Y.2.1 Y.2.2.1 Y.2.2.2.1 :: TBg) B.pre
  have hl := lv_entry (av.map (xrel a)) (n := Y.2.2.1) (hlen a)
  rw [xlv_args, hlv] at hl
  rw [lg_entry_eq]
  exact k p e _ s m _ below meth c s.heap [] _ a n a ⟨B.exec, B.bytes, B.returns, hml, findClass_of_methodNamed B.named, fun w hw => hts0 w (List.mem_cons_of_mem _ hw), B.notSynchronized, fun h => (name_of_methodNamed B.named B.method).1.trans h, hK, hb, ⟨Nat.le_refl _, Nat.le_refl _, Nat.le_refl _, Nat.le_refl _, trivial⟩⟩ (Nat.le_refl _) (fun _ _ => rfl) hH va_S.rf hl
theorem x_objInit {idx kb : Nat} (d : decode Y.2.1 pc = .ok (.invokespecial idx, 3)) (h1 : Cond.methodLink Y.1.cls idx Lib.objectInit ∈ TBg) (h2 : Cond.instanceMethod Lib.objectInit ∈ TBg) (h3 : Cond.code Lib.objectInit ⟨#[0xb1]⟩ 1 none ∈ TBg) (hfr : 1 ≤ Y.2.2.2.2.frames) (hlo : 20 ≤ Y.2.2.2.2.locals) (hcat : (st.map fun v => v.category).sum ≤ 8) (k : Wx E Y (pc + 3) lv st n cs ss σ K) : Wx E Y pc lv (.ref kb :: st) n cs ss σ K := by
  intro p e R s m args below meth c H locs ls a0 n0 a hC hn hg hH hS hl
  obtain ⟨hR1, hR2, hR3, hR4, -⟩ := hC.2.2.2.2.2.2.2.2.2.2
  have hts := hC.2.2.2.2.2.1
  refine W.objInit (a := a kb) (rest := st.map (xrel a)) hC.1 hC.2.1 hC.2.2.2.2.1 (hts _ h1) (hts _ h2) (hts _ h3) rfl (hl.1.trans hC.2.2.2.1.symm) rfl d (Nat.le_trans hfr hR1) ?_ (k p e R s m args below meth c H locs ls a0 n0 a hC hn hg hH hS hl)
  have h8 : 2 * (F0 m pc ls (Value.ref (a kb) :: st.map (xrel a))).monitorRoom + ((st.map (xrel a)).map fun v => v.category).sum ≤ 8 := by
    refine lv_room ?_
    rw [List.map_map]
    have : ((fun v => v.category) ∘ xrel a : Value → Nat) = fun v => v.category := funext fun v => xrel_cat
    rw [this]
    exact hcat
  exact Nat.le_trans (Nat.add_le_add_right h8 12) (Nat.le_trans hlo hR2)
theorem x_tableIn {dflt lo hi : Int} {offs : Array Int} {len : Nat} {x : Int32} {off : Int} {tgt : Nat} (d : decode Y.2.1 pc = .ok (.tableswitch dflt lo hi offs, len)) (h1 : ¬ x.toInt < lo) (h2 : ¬ hi < x.toInt) (ho : offs[(x.toInt - lo).toNat]? = some off) (ht : (pc : Int) + off = (tgt : Int)) (k : Wx E Y tgt lv st n cs ss σ K) : Wx E Y pc lv (.int x :: st) n cs ss σ K :=
  fun p e R s m args below meth c H locs ls a0 n0 a hC hn hg hH hS hl => lv_tableIn hC.1 hC.2.1 d h1 h2 ho ht (k p e R s m args below meth c H locs ls a0 n0 a hC hn hg hH hS hl)
theorem x_tableOut {dflt lo hi : Int} {offs : Array Int} {len : Nat} {x : Int32} {tgt : Nat} (d : decode Y.2.1 pc = .ok (.tableswitch dflt lo hi offs, len)) (h : x.toInt < lo ∨ hi < x.toInt) (ht : (pc : Int) + dflt = (tgt : Int)) (k : Wx E Y tgt lv st n cs ss σ K) : Wx E Y pc lv (.int x :: st) n cs ss σ K :=
  fun p e R s m args below meth c H locs ls a0 n0 a hC hn hg hH hS hl => lv_tableOut hC.1 hC.2.1 d h ht (k p e R s m args below meth c H locs ls a0 n0 a hC hn hg hH hS hl)
theorem x_lookup {dflt : Int} {ps : Array (Int × Int)} {len : Nat} {x : Int32} {off : Int} {tgt : Nat} (d : decode Y.2.1 pc = .ok (.lookupswitch dflt ps, len)) (hp : (ps.toList.zip (ps.toList.drop 1)).all (fun (a, next) => a.1 < next.1) = true) (ho : Op.lookupswitch.offset ps.toList dflt x.toInt = off) (ht : (pc : Int) + off = (tgt : Int)) (k : Wx E Y tgt lv st n cs ss σ K) : Wx E Y pc lv (.int x :: st) n cs ss σ K :=
  fun p e R s m args below meth c H locs ls a0 n0 a hC hn hg hH hS hl => lv_lookup hC.1 hC.2.1 d hp ho ht (k p e R s m args below meth c H locs ls a0 n0 a hC hn hg hH hS hl)
end XQ
end
section
/-! ===== cells made anew ===== -/
noncomputable def sN (σ : xS) (k : Nat) : xS := (xup σ.1 k (fun _ => 0), (xup σ.2.1 k (fun _ => 0), xup σ.2.2 k (fun _ => 0)))
theorem xrv_ag {n : Nat} {a a' : Nat → Nat} (h : xag n a a') {k : Nat} (hk : k ≤ n) : xrv a' k = xrv a k := by
  cases k with
  | zero => rfl
  | succ k => simp only [xrv]; rw [h k (Or.inl (by omega))]
theorem xro_ag {n : Nat} {a a' : Nat → Nat} (h : xag n a a') {k : Nat} (hk : k ≤ n) : xro a' k = xro a k := by
  cases k with
  | zero => rfl
  | succ k => simp only [xro]; rw [h k (Or.inl (by omega))]
theorem xF_ag {n : Nat} {a a' : Nat → Nat} (hg : xag n a a') {f : Nat → Int32} {g : Nat → Int64} {h : Nat → Nat} (hh : ∀ j, h j ≤ n) : ∀ (cs : List Nat) (o : Nat), xF a' f g h o cs = xF a f g h o cs
  | [], _ => rfl
  | c :: cs, o => by
    simp only [xF]
    rw [xF_ag hg hh cs]
    congr 1
    unfold xfv
    split
    · rfl
    · rfl
    · exact xrv_ag hg (hh o)
theorem xF_z : ∀ (cs : List Nat) (o : Nat) (a a' : Nat → Nat), xF a (fun _ => 0) (fun _ => 0) (fun _ => 0) o cs = xF a' (fun _ => 0) (fun _ => 0) (fun _ => 0) o cs
  | [], _, _, _ => rfl
  | c :: cs, o, a, a' => by
    simp only [xF]
    rw [xF_z cs (o + 1) a a']
    congr 1
theorem xE_ag {G : xG} {n : Nat} {a a' : Nat → Nat} (hg : xag n a a') {d : Nat × List Nat} {f : Nat → Int32} {g : Nat → Int64} {h : Nat → Nat} (hh : ∀ j, h j ≤ n) : xE G a' d f g h = xE G a d f g h := by
  unfold xE
  rw [xF_ag hg hh]
  have : (fun i => xro a' (h i)) = fun i => xro a (h i) := funext fun i => xro_ag hg (hh i)
  rw [this]
theorem xup_ag {a : Nat → Nat} {n q : Nat} (h9 : n < 1000) : xag n a (xup a n q) := fun i hi => xup_ne (by omega)
theorem xH_lt {E : xV} {a : Nat → Nat} {n : Nat} {σ : xS} {H : Heap} (hH : xH E a n σ H) {i : Nat} (hi : i < n) : a i < H.size := (hH.2.2.2.2 i _ (xW_at hi)).lt
theorem sN_off {σ : xS} {k i : Nat} (h : i ≠ k) : (sN σ k).1 i = σ.1 i ∧ (sN σ k).2.1 i = σ.2.1 i ∧ (sN σ k).2.2 i = σ.2.2 i := ⟨xup_ne h, xup_ne h, xup_ne h⟩
theorem xH_new {E : xV} {a : Nat → Nat} {n : Nat} {σ : xS} {H H1 : Heap} (h9 : n < 1000) (hH : xH E a n σ H) (hb : E.2.2.1 ≤ H.size) (hold : ∀ q, q < H.size → H1[q]? = H[q]?) (hnew : va_at E.2.1.1 cls (xc E.2.1 (xup a n H.size) (sN σ n) n) H1) : xH E (xup a n H.size) (n + 1) (sN σ n) H1 := by
  refine ⟨fun i j hi hj hij => ?_, fun i hi => ?_, fun k j => ?_, ⟨by omega, fun i => ?_⟩, fun k q hk => ?_⟩
  · by_cases h1 : i = n <;> by_cases h2 : j = n
    · omega
    · subst h1
      rw [xup_same, xup_ne h2] at hij
      have := xH_lt hH (show j < i by omega)
      omega
    · subst h2
      rw [xup_same, xup_ne h1] at hij
      have := xH_lt hH (show i < j by omega)
      omega
    · rw [xup_ne h1, xup_ne h2] at hij
      exact hH.1 i j (by omega) (by omega) hij
  · by_cases h1 : i = n
    · subst h1; rw [xup_same]; exact hb
    · rw [xup_ne h1]; exact hH.2.1 i (by omega)
  · show xup σ.2.2 n (fun _ => 0) k j ≤ n + 1
    by_cases h1 : k = n
    · subst h1; rw [xup_same]; omega
    · rw [xup_ne h1]; have := hH.2.2.1 k j; omega
  · rw [xup_ne (by omega)]; exact hH.2.2.2.1.2 i
  · obtain ⟨hk1, rfl⟩ := xW_inv hk
    by_cases h1 : k = n
    · subst h1; exact hnew
    · have hkn : k < n := by omega
      obtain ⟨o1, o2, o3⟩ := sN_off (σ := σ) h1
      have hx : xc E.2.1 (xup a n H.size) (sN σ n) k = xc E.2.1 a σ k := by
        unfold xc
        rw [o1, o2, o3, xE_ag (xup_ag (n := n) h9) (hH.2.2.1 k), xup_ne h1]
      rw [hx]
      have h0 := hH.2.2.2.2 k _ (xW_at hkn)
      exact h0.kept (hold _ h0.lt)
section XN
variable {E : xV} {Y : xY} {pc n cs ss : Nat} {lv lv' : List (Nat × Value)} {st : List Value} {σ : xS} {K : xQQ}
theorem x_new {idx ci N : Nat} {C : String} {T : u_T} {l : List Nat} (ty0 : Nat → FieldType) (d : decode Y.2.1 pc = .ok (.new idx, 3)) (hcl : cls[ci]? = some (C, T, N)) (hin : ∀ w ∈ u_ws C T N, w ∈ TBg) (hty : ∀ k, k < N → parseFieldDescriptor (T k).2.2.1 = some (ty0 k)) (h1 : Cond.classLink Y.1.cls idx C ∈ TBg) (h2 : Cond.instantiable C N ∈ TBg) (h3 : Cond.initialized C ∈ TBg) (h9 : n < 1000) (hd : KD n = (ci, l)) (hc : ci < 100) (hfs : ∀ j, j < N → defaultValue (ty0 j) = vp_V (xF (fun _ => 0) (fun _ => 0) (fun _ => 0) (fun _ => 0) 0 l) j) (hcs : cs + 1 ≤ Y.2.2.2.2.cells) (hss : ss + N ≤ Y.2.2.2.2.slots) (hlv : (lv.all fun q => xokv n q.2) = true) (hst : (st.all (xokv n)) = true)
    (k : Wx E Y (pc + 3) lv (.ref n :: st) (n + 1) (cs + 1) (ss + N) (sN σ n) K) : Wx E Y pc lv st n cs ss σ K := by
  intro p e R s m args below meth c H locs ls a0 n0 a hC hn hg hH hS hl
  have hts := hC.2.2.2.2.2.1
  have hK := hC.2.2.2.2.2.2.2.2.1.1
  have hb : E.2.2.1 ≤ H.size := (hC.2.2.2.2.2.2.2.2.2.1.of hS).1
  obtain ⟨hR1, hR2, hR3, hR4, -⟩ := hC.2.2.2.2.2.2.2.2.2.2
  have hKn := hK.1 ci _ hcl
  refine W.newcK hC.1 hC.2.1 hC.2.2.2.2.1 (hts _ h1) (hts _ h2) (hts _ h3) rfl d (Nat.le_trans hcs hR3) (Nat.le_trans hss hR4) hKn.2.1 rfl fun H1 kC hkC e1 z1 o1 => ?_
  have hnew : va_at E.2.1.1 cls (xc E.2.1 (xup a n H.size) (sN σ n) n) H1 := by
    rw [xc_obj hd hc, xup_same]
    refine ⟨_, hcl, (u_born ty0 hts hin hKn hkC e1 hty).to fun j hj => (hfs j hj).trans ?_⟩
    have e0 : xF (fun _ => 0) (fun _ => 0) (fun _ => 0) (fun _ => 0) 0 l = xF (xup a n H.size) ((sN σ n).1 n) ((sN σ n).2.1 n) ((sN σ n).2.2 n) 0 l := by
      have q1 : (sN σ n).1 n = fun _ => 0 := xup_same
      have q2 : (sN σ n).2.1 n = fun _ => 0 := xup_same
      have q3 : (sN σ n).2.2 n = fun _ => 0 := xup_same
      rw [q1, q2, q3]
      exact (xF_z l 0 _ _)
    rw [e0]
  have hH1 := xH_new h9 hH hb (fun q hq => o1 q hq) hnew
  have hl1 : lv_has ls Y.2.2.1 (xlv (xup a n H.size) lv) := by rw [xlv_ag (xup_ag h9) hlv]; exact hl
  have hk := k p e R s m args below meth c H1 locs ls a0 n0 (xup a n H.size) hC (by omega) (fun i hi => (xup_ag h9 i (hi.imp_left fun h => Nat.lt_of_lt_of_le h hn)).trans (hg i hi)) hH1 ⟨Nat.le_trans hS.1 (by omega), fun q h5 h6 => (o1 q (Nat.lt_of_lt_of_le h5 hS.1)).trans (hS.2.1 q h5 h6), hS.2.2⟩ hl1
  have hm : (Value.ref n :: st).map (xrel (xup a n H.size)) = Value.ref H.size :: st.map (xrel a) := by
    rw [List.map_cons, xst_ag (xup_ag h9) hst]
    simp [xrel, xup_same]
  rw [hm] at hk
  exact hk
/-- newarray: the class of the array is the one that the tables have -/
theorem x_newa (h9 : n < 1000) {z : Nat} {v : Int32} {at' : ArrayType} {ty : FieldType} {ti : Nat} {cA0 : ClassId} {kx : (Nat → Int32) ⊕ (Nat → Int64) ⊕ (Nat → UInt32) ⊕ (Nat → UInt64) ⊕ (Nat → Option Nat)} (d : decode Y.2.1 pc = .ok (.newarray at', 2)) (hty : newarray.typeOf at' = ty) (harr : Cond.arrayClass ty ∈ TBg) (hv : ¬ v < 0) (hz : v.toNatClampNeg = z) (hbytes : z * componentBytes ty ≤ 536870912) (hti : (xT E.2.1)[ti]? = some (cA0, ty)) (hRA : ∀ U cA, va_RA U cA ty → U.vm.findClass ("[" ++ ty.toString) = some cA) (hnewc : ∀ a, xc E.2.1 a (sN σ n) n = (a n, .inl (cA0, (z, kx)))) (hkx : ∀ cA, vp_cell cA (z, kx) = arrV cA z (fun _ => defaultValue ty)) (hcs : cs + 1 ≤ Y.2.2.2.2.cells) (hss : ss + z ≤ Y.2.2.2.2.slots) (hlv : (lv.all fun q => xokv n q.2) = true) (hst : (st.all (xokv n)) = true)
    (k : Wx E Y (pc + 2) lv (.ref n :: st) (n + 1) (cs + 1) (ss + z) (sN σ n) K) : Wx E Y pc lv (.int v :: st) n cs ss σ K := by
  subst hty
  intro p e R s m args below meth c H locs ls a0 n0 a hC hn hg hH hS hl
  have hts := hC.2.2.2.2.2.1
  have hK := hC.2.2.2.2.2.2.2.2.1.1
  have hb : E.2.2.1 ≤ H.size := (hC.2.2.2.2.2.2.2.2.2.1.of hS).1
  obtain ⟨hR1, hR2, hR3, hR4, -⟩ := hC.2.2.2.2.2.2.2.2.2.2
  refine va_newaK (g := F0 m pc ls (.int v :: st.map (xrel a))) (N := z) hC.1 hC.2.1 (hts _ harr) rfl d rfl hv hz hbytes (Nat.le_trans hcs hR3) (Nat.le_trans hss hR4) rfl fun H1 cA e1 z1 o1 hAr hNm => ?_
  have hcA : cA = cA0 := by
    have h5 := hRA _ _ (hK.2 ti _ hti).2
    rw [h5] at hNm
    exact (Option.some.inj hNm).symm
  subst hcA
  have hnew : va_at E.2.1.1 cls (xc E.2.1 (xup a n H.size) (sN σ n) n) H1 := by
    rw [hnewc, xup_same]
    show H1[H.size]? = some (vp_cell _ _)
    rw [e1, hkx]
  have hH1 := xH_new h9 hH hb (fun q hq => o1 q hq) hnew
  have hl1 : lv_has ls Y.2.2.1 (xlv (xup a n H.size) lv) := by rw [xlv_ag (xup_ag h9) hlv]; exact hl
  have hk := k p e R s m args below meth c H1 locs ls a0 n0 (xup a n H.size) hC (by omega) (fun i hi => (xup_ag h9 i (hi.imp_left fun h => Nat.lt_of_lt_of_le h hn)).trans (hg i hi)) hH1 ⟨Nat.le_trans hS.1 (by omega), fun q h5 h6 => (o1 q (Nat.lt_of_lt_of_le h5 hS.1)).trans (hS.2.1 q h5 h6), hS.2.2⟩ hl1
  have hm : (Value.ref n :: st).map (xrel (xup a n H.size)) = Value.ref H.size :: st.map (xrel a) := by
    rw [List.map_cons, xst_ag (xup_ag h9) hst]
    simp [xrel, xup_same]
  rw [hm] at hk
  exact hk
theorem x_newi (h9 : n < 1000) {z : Nat} {v : Int32} (d : decode Y.2.1 pc = .ok (.newarray .int, 2)) (harr : Cond.arrayClass .int ∈ TBg) (hv : ¬ v < 0) (hz : v.toNatClampNeg = z) (hbytes : z ≤ 100000) (hd : KD n = (100, [z])) (hcs : cs + 1 ≤ Y.2.2.2.2.cells) (hss : ss + z ≤ Y.2.2.2.2.slots) (hlv : (lv.all fun q => xokv n q.2) = true) (hst : (st.all (xokv n)) = true)
    (k : Wx E Y (pc + 2) lv (.ref n :: st) (n + 1) (cs + 1) (ss + z) (sN σ n) K) : Wx E Y pc lv (.int v :: st) n cs ss σ K :=
  x_newa h9 (ty := .int) (ti := 0) (kx := .inl fun _ => 0) d rfl harr hv hz (by show z * 4 ≤ _; omega) rfl (fun _ _ h => h) (fun a => by rw [xc_int hd]; simp [sN, xup]) (fun cA => by rw [vp_cell_i]; rfl) hcs hss hlv hst k
theorem x_newj (h9 : n < 1000) {z : Nat} {v : Int32} (d : decode Y.2.1 pc = .ok (.newarray .long, 2)) (harr : Cond.arrayClass .long ∈ TBg) (hv : ¬ v < 0) (hz : v.toNatClampNeg = z) (hbytes : z ≤ 100000) (hd : KD n = (101, [z])) (hcs : cs + 1 ≤ Y.2.2.2.2.cells) (hss : ss + z ≤ Y.2.2.2.2.slots) (hlv : (lv.all fun q => xokv n q.2) = true) (hst : (st.all (xokv n)) = true)
    (k : Wx E Y (pc + 2) lv (.ref n :: st) (n + 1) (cs + 1) (ss + z) (sN σ n) K) : Wx E Y pc lv (.int v :: st) n cs ss σ K :=
  x_newa h9 (ty := .long) (ti := 1) (kx := .inr (.inl fun _ => 0)) d rfl harr hv hz (by show z * 8 ≤ _; omega) rfl (fun _ _ h => h) (fun a => by rw [xc_long hd]; simp [sN, xup]) (fun cA => by rw [vp_cell_l]; rfl) hcs hss hlv hst k
theorem x_newz (h9 : n < 1000) {z : Nat} {v : Int32} (d : decode Y.2.1 pc = .ok (.newarray .boolean, 2)) (harr : Cond.arrayClass .boolean ∈ TBg) (hv : ¬ v < 0) (hz : v.toNatClampNeg = z) (hbytes : z ≤ 100000) (hd : KD n = (102, [z])) (hcs : cs + 1 ≤ Y.2.2.2.2.cells) (hss : ss + z ≤ Y.2.2.2.2.slots) (hlv : (lv.all fun q => xokv n q.2) = true) (hst : (st.all (xokv n)) = true)
    (k : Wx E Y (pc + 2) lv (.ref n :: st) (n + 1) (cs + 1) (ss + z) (sN σ n) K) : Wx E Y pc lv (.int v :: st) n cs ss σ K :=
  x_newa h9 (ty := .boolean) (ti := 2) (kx := .inl fun _ => 0) d rfl harr hv hz (by show z * 1 ≤ _; omega) rfl (fun _ _ h => h) (fun a => by rw [xc_bool hd]; simp [sN, xup]) (fun cA => by rw [vp_cell_i]; rfl) hcs hss hlv hst k
end XN
end
section
/-! ===== a contract may promise less ===== -/
theorem Cx.mono {E : xV} {Y : xY} {av : List Value} {n : Nat} {σ : xS} {K K' : xK} (h : Cx E Y av n σ K) (hk : ∀ v n' σ', K v n' σ' → K' v n' σ') : Cx E Y av n σ K' := by
  intro a
  refine MetFree.mono (h a) (fun _ _ q => q) (fun _ _ _ _ _ q => q) ?_
  intro a1 st o t _ ⟨⟨v, n', σ', a', h1, h2, h3, h4, h5, h6⟩, hL⟩
  exact ⟨⟨v, n', σ', a', h1, h2, h3, hk _ _ _ h4, h5, h6⟩, hL⟩
/-! ===== the machine's own copying of rows; the greater of two ===== -/
section XY
variable {E : xV} {Y : xY} {pc n cs ss : Nat} {lv : List (Nat × Value)} {st : List Value} {σ : xS} {K : xQQ}
theorem xst_cat {a : Nat → Nat} {st : List Value} : ((st.map (xrel a)).map fun v => v.category).sum = (st.map fun v => v.category).sum := by
  rw [List.map_map]
  have : ((fun v => v.category) ∘ xrel a : Value → Nat) = fun v => v.category := funext fun v => xrel_cat
  rw [this]
/-- row k of ints, of longs becomes f -/
noncomputable def sIr (σ : xS) (k : Nat) (f : Nat → Int32) : xS := (xup σ.1 k f, σ.2)
noncomputable def sJr (σ : xS) (k : Nat) (f : Nat → Int64) : xS := (σ.1, (xup σ.2.1 k f, σ.2.2))
theorem sIr_off {σ : xS} {k : Nat} {f : Nat → Int32} (i : Nat) (h : i ≠ k) : (sIr σ k f).1 i = σ.1 i ∧ (sIr σ k f).2.1 i = σ.2.1 i ∧ (sIr σ k f).2.2 i = σ.2.2 i := ⟨xup_ne h, rfl, rfl⟩
theorem sJr_off {σ : xS} {k : Nat} {f : Nat → Int64} (i : Nat) (h : i ≠ k) : (sJr σ k f).1 i = σ.1 i ∧ (sJr σ k f).2.1 i = σ.2.1 i ∧ (sJr σ k f).2.2 i = σ.2.2 i := ⟨rfl, xup_ne h, rfl⟩
theorem x_copyi {idx k0 k1 z0 z1 : Nat} {sp dp v : Int32} (d : decode Y.2.1 pc = .ok (.invokestatic idx, 3)) (w1 : Cond.methodLink Y.1.cls idx arraycopyName ∈ TBg) (w2 : Cond.native arraycopyName ∈ TBg) (w3 : Cond.static arraycopyName ∈ TBg) (w4 : Cond.initialized "java/lang/System" ∈ TBg) (hk0 : k0 < n) (hk1 : k1 < n) (hd0 : KD k0 = (100, [z0])) (hd1 : KD k1 = (100, [z1])) (h1 : ¬ sp < 0) (h2 : ¬ dp < 0) (h3 : ¬ v < 0) (h4 : sp.toNatClampNeg + v.toNatClampNeg ≤ z0) (h5 : dp.toNatClampNeg + v.toNatClampNeg ≤ z1) (hfr : 1 ≤ Y.2.2.2.2.frames) (hlo : 40 ≤ Y.2.2.2.2.locals) (hcat : (st.map fun v => v.category).sum ≤ 8)
    (kk : Wx E Y (pc + 3) lv st n cs ss (sIr σ k1 (va_cpy (σ.1 k0) (σ.1 k1) sp.toNatClampNeg dp.toNatClampNeg v.toNatClampNeg)) K) : Wx E Y pc lv (.int v :: .int dp :: .ref k1 :: .int sp :: .ref k0 :: st) n cs ss σ K := by
  intro p e R s m args below meth c H locs ls a0 n0 a hC hn hg hH hS hl
  have hts := hC.2.2.2.2.2.1
  obtain ⟨hR1, hR2, hR3, hR4, -⟩ := hC.2.2.2.2.2.2.2.2.2.2
  refine va_copyi (D := E.2.1.1) (cl := cls) (tys := xT E.2.1) (ty := .int) hC.1 hC.2.1 (hC.2.2.2.1.trans hl.1.symm) hC.2.2.2.2.1 (hts _ w1) (hts _ w2) (hts _ w3) (hts _ w4) hC.2.2.2.2.2.2.2.2.1.1 hH.2.2.2.2 hH.D hS k0 k1 0 0 (xc_at hk0 (xc_int hd0)) (xc_at hk1 (xc_int hd1)) rfl rfl rfl h1 h2 h3 h4 h5 (fun _ _ => rfl) (Nat.le_trans hfr hR1) ?_ d (fun H1 locs1 hP1 _ hS1 => ?_)
  · rw [xst_cat]
    refine Nat.le_trans ?_ (Nat.le_trans hlo hR2)
    have : nativeFrameWords "java/lang/System" "arraycopy" 5 = 7 := by decide
    rw [this]
    omega
  · have hx : (a k1, (.inl (E.2.1.2.1, (z1, .inl (va_cpy (σ.1 k0) (σ.1 k1) sp.toNatClampNeg dp.toNatClampNeg v.toNatClampNeg))) : va_E)) = xc E.2.1 a (sIr σ k1 (va_cpy (σ.1 k0) (σ.1 k1) sp.toNatClampNeg dp.toNatClampNeg v.toNatClampNeg)) k1 := by rw [xc_int hd1]; simp [sIr, xup]
    rw [hx, xW_set hk1 sIr_off] at hP1
    exact kk p e R s m args below meth c H1 locs1 ls a0 n0 a hC hn hg ⟨hH.1, hH.2.1, hH.2.2.1, hH.2.2.2.1, hP1⟩ hS1 hl
theorem x_copyl {idx k0 k1 z0 z1 : Nat} {sp dp v : Int32} (d : decode Y.2.1 pc = .ok (.invokestatic idx, 3)) (w1 : Cond.methodLink Y.1.cls idx arraycopyName ∈ TBg) (w2 : Cond.native arraycopyName ∈ TBg) (w3 : Cond.static arraycopyName ∈ TBg) (w4 : Cond.initialized "java/lang/System" ∈ TBg) (hk0 : k0 < n) (hk1 : k1 < n) (hd0 : KD k0 = (101, [z0])) (hd1 : KD k1 = (101, [z1])) (h1 : ¬ sp < 0) (h2 : ¬ dp < 0) (h3 : ¬ v < 0) (h4 : sp.toNatClampNeg + v.toNatClampNeg ≤ z0) (h5 : dp.toNatClampNeg + v.toNatClampNeg ≤ z1) (hfr : 1 ≤ Y.2.2.2.2.frames) (hlo : 40 ≤ Y.2.2.2.2.locals) (hcat : (st.map fun v => v.category).sum ≤ 8)
    (kk : Wx E Y (pc + 3) lv st n cs ss (sJr σ k1 (va_cpy (σ.2.1 k0) (σ.2.1 k1) sp.toNatClampNeg dp.toNatClampNeg v.toNatClampNeg)) K) : Wx E Y pc lv (.int v :: .int dp :: .ref k1 :: .int sp :: .ref k0 :: st) n cs ss σ K := by
  intro p e R s m args below meth c H locs ls a0 n0 a hC hn hg hH hS hl
  have hts := hC.2.2.2.2.2.1
  obtain ⟨hR1, hR2, hR3, hR4, -⟩ := hC.2.2.2.2.2.2.2.2.2.2
  refine va_copyl (D := E.2.1.1) (cl := cls) (tys := xT E.2.1) (ty := .long) hC.1 hC.2.1 (hC.2.2.2.1.trans hl.1.symm) hC.2.2.2.2.1 (hts _ w1) (hts _ w2) (hts _ w3) (hts _ w4) hC.2.2.2.2.2.2.2.2.1.1 hH.2.2.2.2 hH.D hS k0 k1 1 1 (xc_at hk0 (xc_long hd0)) (xc_at hk1 (xc_long hd1)) rfl rfl rfl h1 h2 h3 h4 h5 (fun _ _ => rfl) (Nat.le_trans hfr hR1) ?_ d (fun H1 locs1 hP1 _ hS1 => ?_)
  · rw [xst_cat]
    refine Nat.le_trans ?_ (Nat.le_trans hlo hR2)
    have : nativeFrameWords "java/lang/System" "arraycopy" 5 = 7 := by decide
    rw [this]
    omega
  · have hx : (a k1, (.inl (E.2.1.2.2.1, (z1, .inr (.inl (va_cpy (σ.2.1 k0) (σ.2.1 k1) sp.toNatClampNeg dp.toNatClampNeg v.toNatClampNeg)))) : va_E)) = xc E.2.1 a (sJr σ k1 (va_cpy (σ.2.1 k0) (σ.2.1 k1) sp.toNatClampNeg dp.toNatClampNeg v.toNatClampNeg)) k1 := by rw [xc_long hd1]; simp [sJr, xup]
    rw [hx, xW_set hk1 sJr_off] at hP1
    exact kk p e R s m args below meth c H1 locs1 ls a0 n0 a hC hn hg ⟨hH.1, hH.2.1, hH.2.2.1, hH.2.2.2.1, hP1⟩ hS1 hl
theorem x_max {idx : Nat} {x y : Int32} (d : decode Y.2.1 pc = .ok (.invokestatic idx, 3)) (w1 : Cond.methodLink Y.1.cls idx Lib.Math.max.name ∈ TBg) (w2 : Cond.static Lib.Math.max.name ∈ TBg) (w3 : Cond.initialized "java/lang/Math" ∈ TBg) (w4 : Cond.code Lib.Math.max.name Lib.Math.max.code 2 (some .int) ∈ TBg) (hfr : 1 ≤ Y.2.2.2.2.frames) (hlo : 40 ≤ Y.2.2.2.2.locals) (hc : cs ≤ Y.2.2.2.2.cells) (hs : ss ≤ Y.2.2.2.2.slots) (hcat : (st.map fun v => v.category).sum ≤ 8)
    (kk : Wx E Y (pc + 3) lv (.int (if x < y then y else x) :: st) n cs ss σ K) : Wx E Y pc lv (.int y :: .int x :: st) n cs ss σ K := by
  intro p e R s m args below meth c H locs ls a0 n0 a hC hn hg hH hS hl
  have hts := hC.2.2.2.2.2.1
  obtain ⟨hR1, hR2, hR3, hR4, -⟩ := hC.2.2.2.2.2.2.2.2.2.2
  refine va_mmax hC.1 hC.2.1 (hC.2.2.2.1.trans hl.1.symm) hC.2.2.2.2.1 (hts _ w1) (hts _ w2) (hts _ w3) (hts _ w4) (Nat.le_trans hfr hR1) ?_ (Nat.le_trans hc hR3) (Nat.le_trans hs hR4) d (kk p e R s m args below meth c H locs ls a0 n0 a hC hn hg hH hS hl)
  rw [xst_cat]
  exact Nat.le_trans (by omega) (Nat.le_trans hlo hR2)
end XY
section XZ
variable {E : xV} {Y : xY} {pc n cs ss : Nat} {lv : List (Nat × Value)} {st : List Value} {σ : xS} {K : xQQ}
theorem xc_rows {G : xG} {a : Nat → Nat} {σ : xS} {k z : Nat} (hd : KD k = (103, [z])) : xc G a σ k = (a k, .inl (G.2.2.2.2, (z, .inr (.inr (.inr (.inr fun i => xro a (σ.2.2 k i))))))) := by
  simp [xc, xE, hd]
theorem x_aald {k z i' : Nat} {i : Int32} (hk : k < n) (hd : KD k = (103, [z])) (hi : vp_in i z) (hr : σ.2.2 k i.toNatClampNeg = i' + 1) (d : decode Y.2.1 pc = .ok (.aaload, 1)) (kk : Wx E Y (pc + 1) lv (.ref i' :: st) n cs ss σ K) : Wx E Y pc lv (.int i :: .ref k :: st) n cs ss σ K := by
  intro p e R s m args below meth c H locs ls a0 n0 a hC hn hg hH hS hl
  have ha := hH.2.2.2.2 k _ (xc_at hk (xc_rows hd))
  have ha' : H[a k]? = some (arrV E.2.1.2.2.2.2 z (fun j => va_rf (xro a (σ.2.2 k j)))) := by
    have h1 : H[a k]? = some (vp_cell _ _) := ha
    rw [h1, vp_cell_q]
  have hlt : i.toNatClampNeg < z := Nat.not_le.mp fun q => hi (Or.inr q)
  refine W.aald (v := .ref (a i')) (ty := .array .long) hC.1 hC.2.1 ha' ((hC.2.2.2.2.2.2.2.2.1.1.2 3 _ rfl).1 z (fun j => va_rf (xro a (σ.2.2 k j)))) rfl (fun q => by cases q) (by show ¬ (i < 0 ∨ (arrV _ _ _).slots.size ≤ _); rw [arrV_size]; exact hi) ?_ rfl rfl d (kk p e R s m args below meth c H locs ls a0 n0 a hC hn hg hH hS hl)
  show (arrV _ _ _).slots[_]? = _
  rw [arrV_read _ _ hlt, hr]
  rfl
end XZ
end
section
section YR
variable {E : xV} {Y : xY} {pc pc' n cs ss : Nat} {lv lv' : List (Nat × Value)} {st : List Value} {σ : xS} {K : xQQ}
theorem y_iconst {i : Int} {v : Int32} (d : decode Y.2.1 pc = .ok (.iconst i, 1) ∧ pc + 1 = pc') (hv : Int32.ofInt i = v) (k : Wx E Y pc' lv (.int v :: st) n cs ss σ K) : Wx E Y pc lv st n cs ss σ K := by
  obtain ⟨d, rfl⟩ := d
  exact x_iconst d hv k
theorem y_bipush {i : Int} {v : Int32} (d : decode Y.2.1 pc = .ok (.bipush i, 2) ∧ pc + 2 = pc') (hv : (Int8.ofInt i).toInt32 = v) (k : Wx E Y pc' lv (.int v :: st) n cs ss σ K) : Wx E Y pc lv st n cs ss σ K := by
  obtain ⟨d, rfl⟩ := d
  exact x_bipush d hv k
theorem y_sipush {i : Int} {v : Int32} (d : decode Y.2.1 pc = .ok (.sipush i, 3) ∧ pc + 3 = pc') (hv : (Int16.ofInt i).toInt32 = v) (k : Wx E Y pc' lv (.int v :: st) n cs ss σ K) : Wx E Y pc lv st n cs ss σ K := by
  obtain ⟨d, rfl⟩ := d
  exact x_sipush d hv k
theorem y_lconst {i : Fin 2} {v : Int64} (d : decode Y.2.1 pc = .ok (.lconst i, 1) ∧ pc + 1 = pc') (hv : Int64.ofNat (i : Nat) = v) (k : Wx E Y pc' lv (.long v :: st) n cs ss σ K) : Wx E Y pc lv st n cs ss σ K := by
  obtain ⟨d, rfl⟩ := d
  exact x_lconst d hv k
theorem y_ldc {i : Nat} {v : Int32} (d : decode Y.2.1 pc = .ok (.ldc i, 2) ∧ pc + 2 = pc') (hw : Cond.constant Y.1.cls i v ∈ TBg) (k : Wx E Y pc' lv (.int v :: st) n cs ss σ K) : Wx E Y pc lv st n cs ss σ K := by
  obtain ⟨d, rfl⟩ := d
  exact x_ldc d hw k
theorem y_ldcw {i : Nat} {v : Int32} (d : decode Y.2.1 pc = .ok (.ldc_w i, 3) ∧ pc + 3 = pc') (hw : Cond.constant Y.1.cls i v ∈ TBg) (k : Wx E Y pc' lv (.int v :: st) n cs ss σ K) : Wx E Y pc lv st n cs ss σ K := by
  obtain ⟨d, rfl⟩ := d
  exact x_ldcw d hw k
theorem y_ldc2 {i : Nat} {v : Int64} (d : decode Y.2.1 pc = .ok (.ldc2_w i, 3) ∧ pc + 3 = pc') (hw : Cond.constantLong Y.1.cls i v ∈ TBg) (k : Wx E Y pc' lv (.long v :: st) n cs ss σ K) : Wx E Y pc lv st n cs ss σ K := by
  obtain ⟨d, rfl⟩ := d
  exact x_ldc2 d hw k
theorem y_iload_n {f : Fin 4} {i q : Nat} {x : Int32} (d : decode Y.2.1 pc = .ok (.iload_n f, 1) ∧ pc + 1 = pc') (hi : (f : Nat) = i) (hq : lv[q]? = some (i, .int x)) (k : Wx E Y pc' lv (.int x :: st) n cs ss σ K) : Wx E Y pc lv st n cs ss σ K := by
  obtain ⟨d, rfl⟩ := d
  exact x_iload_n d hi hq k
theorem y_iload {i q : Nat} {x : Int32} (d : decode Y.2.1 pc = .ok (.iload i, 2) ∧ pc + 2 = pc') (hq : lv[q]? = some (i, .int x)) (k : Wx E Y pc' lv (.int x :: st) n cs ss σ K) : Wx E Y pc lv st n cs ss σ K := by
  obtain ⟨d, rfl⟩ := d
  exact x_iload d hq k
theorem y_lload_n {f : Fin 4} {i q : Nat} {x : Int64} (d : decode Y.2.1 pc = .ok (.lload_n f, 1) ∧ pc + 1 = pc') (hi : (f : Nat) = i) (hq : lv[q]? = some (i, .long x)) (k : Wx E Y pc' lv (.long x :: st) n cs ss σ K) : Wx E Y pc lv st n cs ss σ K := by
  obtain ⟨d, rfl⟩ := d
  exact x_lload_n d hi hq k
theorem y_lload {i q : Nat} {x : Int64} (d : decode Y.2.1 pc = .ok (.lload i, 2) ∧ pc + 2 = pc') (hq : lv[q]? = some (i, .long x)) (k : Wx E Y pc' lv (.long x :: st) n cs ss σ K) : Wx E Y pc lv st n cs ss σ K := by
  obtain ⟨d, rfl⟩ := d
  exact x_lload d hq k
theorem y_aload_n {f : Fin 4} {i q : Nat} {x : Nat} (d : decode Y.2.1 pc = .ok (.aload_n f, 1) ∧ pc + 1 = pc') (hi : (f : Nat) = i) (hq : lv[q]? = some (i, .ref x)) (k : Wx E Y pc' lv (.ref x :: st) n cs ss σ K) : Wx E Y pc lv st n cs ss σ K := by
  obtain ⟨d, rfl⟩ := d
  exact x_aload_n d hi hq k
theorem y_aload {i q : Nat} {x : Nat} (d : decode Y.2.1 pc = .ok (.aload i, 2) ∧ pc + 2 = pc') (hq : lv[q]? = some (i, .ref x)) (k : Wx E Y pc' lv (.ref x :: st) n cs ss σ K) : Wx E Y pc lv st n cs ss σ K := by
  obtain ⟨d, rfl⟩ := d
  exact x_aload d hq k
theorem y_istore_n {f : Fin 4} {i : Nat} {x : Int32} (d : decode Y.2.1 pc = .ok (.istore_n f, 1) ∧ pc + 1 = pc') (hi : (f : Nat) = i) (hn : i < Y.2.2.1) (hl' : (i, Value.int x) :: lv.filter (fun q => !(q.1 == i) && !(q.1 + 1 == i && q.2.category == 2)) = lv') (k : Wx E Y pc' lv' st n cs ss σ K) : Wx E Y pc lv (.int x :: st) n cs ss σ K := by
  obtain ⟨d, rfl⟩ := d
  exact x_istore_n d hi hn hl' k
theorem y_istore {i : Nat} {x : Int32} (d : decode Y.2.1 pc = .ok (.istore i, 2) ∧ pc + 2 = pc') (hn : i < Y.2.2.1) (hl' : (i, Value.int x) :: lv.filter (fun q => !(q.1 == i) && !(q.1 + 1 == i && q.2.category == 2)) = lv') (k : Wx E Y pc' lv' st n cs ss σ K) : Wx E Y pc lv (.int x :: st) n cs ss σ K := by
  obtain ⟨d, rfl⟩ := d
  exact x_istore d hn hl' k
theorem y_lstore_n {f : Fin 4} {i : Nat} {x : Int64} (d : decode Y.2.1 pc = .ok (.lstore_n f, 1) ∧ pc + 1 = pc') (hi : (f : Nat) = i) (hn : i + 1 < Y.2.2.1) (hl' : (i, Value.long x) :: lv.filter (fun q => !(q.1 == i) && (!(q.1 == i + 1) && !(q.1 + 1 == i && q.2.category == 2))) = lv') (k : Wx E Y pc' lv' st n cs ss σ K) : Wx E Y pc lv (.long x :: st) n cs ss σ K := by
  obtain ⟨d, rfl⟩ := d
  exact x_lstore_n d hi hn hl' k
theorem y_lstore {i : Nat} {x : Int64} (d : decode Y.2.1 pc = .ok (.lstore i, 2) ∧ pc + 2 = pc') (hn : i + 1 < Y.2.2.1) (hl' : (i, Value.long x) :: lv.filter (fun q => !(q.1 == i) && (!(q.1 == i + 1) && !(q.1 + 1 == i && q.2.category == 2))) = lv') (k : Wx E Y pc' lv' st n cs ss σ K) : Wx E Y pc lv (.long x :: st) n cs ss σ K := by
  obtain ⟨d, rfl⟩ := d
  exact x_lstore d hn hl' k
theorem y_astore_n {f : Fin 4} {i : Nat} {x : Nat} (d : decode Y.2.1 pc = .ok (.astore_n f, 1) ∧ pc + 1 = pc') (hi : (f : Nat) = i) (hn : i < Y.2.2.1) (hl' : (i, Value.ref x) :: lv.filter (fun q => !(q.1 == i) && !(q.1 + 1 == i && q.2.category == 2)) = lv') (k : Wx E Y pc' lv' st n cs ss σ K) : Wx E Y pc lv (.ref x :: st) n cs ss σ K := by
  obtain ⟨d, rfl⟩ := d
  exact x_astore_n d hi hn hl' k
theorem y_iinc {i q : Nat} {z : Int} {x v : Int32} (d : decode Y.2.1 pc = .ok (.iinc i z, 3) ∧ pc + 3 = pc') (hq : lv[q]? = some (i, .int x)) (hv : x + Int32.ofInt z = v) (hn : i < Y.2.2.1) (hl' : (i, Value.int v) :: lv.filter (fun q => !(q.1 == i) && !(q.1 + 1 == i && q.2.category == 2)) = lv') (k : Wx E Y pc' lv' st n cs ss σ K) : Wx E Y pc lv st n cs ss σ K := by
  obtain ⟨d, rfl⟩ := d
  exact x_iinc d hq hv hn hl' k
theorem y_iadd {x y : Int32} (d : decode Y.2.1 pc = .ok (.iadd, 1) ∧ pc + 1 = pc') (k : Wx E Y pc' lv (.int (x + y) :: st) n cs ss σ K) : Wx E Y pc lv (.int y :: .int x :: st) n cs ss σ K := by
  obtain ⟨d, rfl⟩ := d
  exact x_iadd d k
theorem y_isub {x y : Int32} (d : decode Y.2.1 pc = .ok (.isub, 1) ∧ pc + 1 = pc') (k : Wx E Y pc' lv (.int (x - y) :: st) n cs ss σ K) : Wx E Y pc lv (.int y :: .int x :: st) n cs ss σ K := by
  obtain ⟨d, rfl⟩ := d
  exact x_isub d k
theorem y_imul {x y : Int32} (d : decode Y.2.1 pc = .ok (.imul, 1) ∧ pc + 1 = pc') (k : Wx E Y pc' lv (.int (x * y) :: st) n cs ss σ K) : Wx E Y pc lv (.int y :: .int x :: st) n cs ss σ K := by
  obtain ⟨d, rfl⟩ := d
  exact x_imul d k
theorem y_iand {x y : Int32} (d : decode Y.2.1 pc = .ok (.iand, 1) ∧ pc + 1 = pc') (k : Wx E Y pc' lv (.int (x &&& y) :: st) n cs ss σ K) : Wx E Y pc lv (.int y :: .int x :: st) n cs ss σ K := by
  obtain ⟨d, rfl⟩ := d
  exact x_iand d k
theorem y_ior {x y : Int32} (d : decode Y.2.1 pc = .ok (.ior, 1) ∧ pc + 1 = pc') (k : Wx E Y pc' lv (.int (x ||| y) :: st) n cs ss σ K) : Wx E Y pc lv (.int y :: .int x :: st) n cs ss σ K := by
  obtain ⟨d, rfl⟩ := d
  exact x_ior d k
theorem y_ixor {x y : Int32} (d : decode Y.2.1 pc = .ok (.ixor, 1) ∧ pc + 1 = pc') (k : Wx E Y pc' lv (.int (x ^^^ y) :: st) n cs ss σ K) : Wx E Y pc lv (.int y :: .int x :: st) n cs ss σ K := by
  obtain ⟨d, rfl⟩ := d
  exact x_ixor d k
theorem y_ishl {x y : Int32} (d : decode Y.2.1 pc = .ok (.ishl, 1) ∧ pc + 1 = pc') (k : Wx E Y pc' lv (.int (x <<< (y &&& 31)) :: st) n cs ss σ K) : Wx E Y pc lv (.int y :: .int x :: st) n cs ss σ K := by
  obtain ⟨d, rfl⟩ := d
  exact x_ishl d k
theorem y_ishr {x y : Int32} (d : decode Y.2.1 pc = .ok (.ishr, 1) ∧ pc + 1 = pc') (k : Wx E Y pc' lv (.int (x >>> (y &&& 31)) :: st) n cs ss σ K) : Wx E Y pc lv (.int y :: .int x :: st) n cs ss σ K := by
  obtain ⟨d, rfl⟩ := d
  exact x_ishr d k
theorem y_ladd {x y : Int64} (d : decode Y.2.1 pc = .ok (.ladd, 1) ∧ pc + 1 = pc') (k : Wx E Y pc' lv (.long (x + y) :: st) n cs ss σ K) : Wx E Y pc lv (.long y :: .long x :: st) n cs ss σ K := by
  obtain ⟨d, rfl⟩ := d
  exact x_ladd d k
theorem y_lsub {x y : Int64} (d : decode Y.2.1 pc = .ok (.lsub, 1) ∧ pc + 1 = pc') (k : Wx E Y pc' lv (.long (x - y) :: st) n cs ss σ K) : Wx E Y pc lv (.long y :: .long x :: st) n cs ss σ K := by
  obtain ⟨d, rfl⟩ := d
  exact x_lsub d k
theorem y_lmul {x y : Int64} (d : decode Y.2.1 pc = .ok (.lmul, 1) ∧ pc + 1 = pc') (k : Wx E Y pc' lv (.long (x * y) :: st) n cs ss σ K) : Wx E Y pc lv (.long y :: .long x :: st) n cs ss σ K := by
  obtain ⟨d, rfl⟩ := d
  exact x_lmul d k
theorem y_land {x y : Int64} (d : decode Y.2.1 pc = .ok (.land, 1) ∧ pc + 1 = pc') (k : Wx E Y pc' lv (.long (x &&& y) :: st) n cs ss σ K) : Wx E Y pc lv (.long y :: .long x :: st) n cs ss σ K := by
  obtain ⟨d, rfl⟩ := d
  exact x_land d k
theorem y_lor {x y : Int64} (d : decode Y.2.1 pc = .ok (.lor, 1) ∧ pc + 1 = pc') (k : Wx E Y pc' lv (.long (x ||| y) :: st) n cs ss σ K) : Wx E Y pc lv (.long y :: .long x :: st) n cs ss σ K := by
  obtain ⟨d, rfl⟩ := d
  exact x_lor d k
theorem y_lxor {x y : Int64} (d : decode Y.2.1 pc = .ok (.lxor, 1) ∧ pc + 1 = pc') (k : Wx E Y pc' lv (.long (x ^^^ y) :: st) n cs ss σ K) : Wx E Y pc lv (.long y :: .long x :: st) n cs ss σ K := by
  obtain ⟨d, rfl⟩ := d
  exact x_lxor d k
theorem y_idiv {x y : Int32} (d : decode Y.2.1 pc = .ok (.idiv, 1) ∧ pc + 1 = pc') (hne : ¬ y = 0) (k : Wx E Y pc' lv (.int (x / y) :: st) n cs ss σ K) : Wx E Y pc lv (.int y :: .int x :: st) n cs ss σ K := by
  obtain ⟨d, rfl⟩ := d
  exact x_idiv d hne k
theorem y_irem {x y : Int32} (d : decode Y.2.1 pc = .ok (.irem, 1) ∧ pc + 1 = pc') (hne : ¬ y = 0) (k : Wx E Y pc' lv (.int (x - x / y * y) :: st) n cs ss σ K) : Wx E Y pc lv (.int y :: .int x :: st) n cs ss σ K := by
  obtain ⟨d, rfl⟩ := d
  exact x_irem d hne k
theorem y_ldiv {x y : Int64} (d : decode Y.2.1 pc = .ok (.ldiv, 1) ∧ pc + 1 = pc') (hne : ¬ y = 0) (k : Wx E Y pc' lv (.long (x / y) :: st) n cs ss σ K) : Wx E Y pc lv (.long y :: .long x :: st) n cs ss σ K := by
  obtain ⟨d, rfl⟩ := d
  exact x_ldiv d hne k
theorem y_lrem {x y : Int64} (d : decode Y.2.1 pc = .ok (.lrem, 1) ∧ pc + 1 = pc') (hne : ¬ y = 0) (k : Wx E Y pc' lv (.long (x - x / y * y) :: st) n cs ss σ K) : Wx E Y pc lv (.long y :: .long x :: st) n cs ss σ K := by
  obtain ⟨d, rfl⟩ := d
  exact x_lrem d hne k
theorem y_ineg {x : Int32} (d : decode Y.2.1 pc = .ok (.ineg, 1) ∧ pc + 1 = pc') (k : Wx E Y pc' lv (.int (-x) :: st) n cs ss σ K) : Wx E Y pc lv (.int x :: st) n cs ss σ K := by
  obtain ⟨d, rfl⟩ := d
  exact x_ineg d k
theorem y_lneg {x : Int64} (d : decode Y.2.1 pc = .ok (.lneg, 1) ∧ pc + 1 = pc') (k : Wx E Y pc' lv (.long (-x) :: st) n cs ss σ K) : Wx E Y pc lv (.long x :: st) n cs ss σ K := by
  obtain ⟨d, rfl⟩ := d
  exact x_lneg d k
theorem y_iushr {x y v : Int32} (d : decode Y.2.1 pc = .ok (.iushr, 1) ∧ pc + 1 = pc') (hv : (x.toUInt32 >>> (y.toUInt32 &&& Int32.toUInt32 31)).toInt32 = v) (k : Wx E Y pc' lv (.int v :: st) n cs ss σ K) : Wx E Y pc lv (.int y :: .int x :: st) n cs ss σ K := by
  obtain ⟨d, rfl⟩ := d
  exact x_iushr d hv k
theorem y_lshl {x v : Int64} {y : Int32} (d : decode Y.2.1 pc = .ok (.lshl, 1) ∧ pc + 1 = pc') (hv : x <<< (y.toInt64 &&& 63) = v) (k : Wx E Y pc' lv (.long v :: st) n cs ss σ K) : Wx E Y pc lv (.int y :: .long x :: st) n cs ss σ K := by
  obtain ⟨d, rfl⟩ := d
  exact x_lshl d hv k
theorem y_lshr {x v : Int64} {y : Int32} (d : decode Y.2.1 pc = .ok (.lshr, 1) ∧ pc + 1 = pc') (hv : x >>> (y.toInt64 &&& 63) = v) (k : Wx E Y pc' lv (.long v :: st) n cs ss σ K) : Wx E Y pc lv (.int y :: .long x :: st) n cs ss σ K := by
  obtain ⟨d, rfl⟩ := d
  exact x_lshr d hv k
theorem y_lushr {x v : Int64} {y : Int32} (d : decode Y.2.1 pc = .ok (.lushr, 1) ∧ pc + 1 = pc') (hv : (x.toUInt64 >>> (y.toInt64.toUInt64 &&& Int64.toUInt64 63)).toInt64 = v) (k : Wx E Y pc' lv (.long v :: st) n cs ss σ K) : Wx E Y pc lv (.int y :: .long x :: st) n cs ss σ K := by
  obtain ⟨d, rfl⟩ := d
  exact x_lushr d hv k
theorem y_i2l {x : Int32} {v : Int64} (d : decode Y.2.1 pc = .ok (.i2l, 1) ∧ pc + 1 = pc') (hv : x.toInt64 = v) (k : Wx E Y pc' lv (.long v :: st) n cs ss σ K) : Wx E Y pc lv (.int x :: st) n cs ss σ K := by
  obtain ⟨d, rfl⟩ := d
  exact x_i2l d hv k
theorem y_l2i {x : Int64} {v : Int32} (d : decode Y.2.1 pc = .ok (.l2i, 1) ∧ pc + 1 = pc') (hv : x.toInt32 = v) (k : Wx E Y pc' lv (.int v :: st) n cs ss σ K) : Wx E Y pc lv (.long x :: st) n cs ss σ K := by
  obtain ⟨d, rfl⟩ := d
  exact x_l2i d hv k
theorem y_i2c {x : Int32} {v : Int32} (d : decode Y.2.1 pc = .ok (.i2c, 1) ∧ pc + 1 = pc') (hv : (x.toUInt32 % 65536).toInt32 = v) (k : Wx E Y pc' lv (.int v :: st) n cs ss σ K) : Wx E Y pc lv (.int x :: st) n cs ss σ K := by
  obtain ⟨d, rfl⟩ := d
  exact x_i2c d hv k
theorem y_lcmp {x y : Int64} (d : decode Y.2.1 pc = .ok (.lcmp, 1) ∧ pc + 1 = pc') (k : Wx E Y pc' lv (.int (lg_cmp x y) :: st) n cs ss σ K) : Wx E Y pc lv (.long y :: .long x :: st) n cs ss σ K := by
  obtain ⟨d, rfl⟩ := d
  exact x_lcmp d k
theorem y_dupi {x : Int32} (d : decode Y.2.1 pc = .ok (.dup, 1) ∧ pc + 1 = pc') (k : Wx E Y pc' lv (.int x :: .int x :: st) n cs ss σ K) : Wx E Y pc lv (.int x :: st) n cs ss σ K := by
  obtain ⟨d, rfl⟩ := d
  exact x_dupi d k
theorem y_dupr {x : Nat} (d : decode Y.2.1 pc = .ok (.dup, 1) ∧ pc + 1 = pc') (k : Wx E Y pc' lv (.ref x :: .ref x :: st) n cs ss σ K) : Wx E Y pc lv (.ref x :: st) n cs ss σ K := by
  obtain ⟨d, rfl⟩ := d
  exact x_dupr d k
theorem y_popi {x : Int32} (d : decode Y.2.1 pc = .ok (.pop, 1) ∧ pc + 1 = pc') (k : Wx E Y pc' lv st n cs ss σ K) : Wx E Y pc lv (.int x :: st) n cs ss σ K := by
  obtain ⟨d, rfl⟩ := d
  exact x_popi d k
theorem y_pop2l {x : Int64} (d : decode Y.2.1 pc = .ok (.pop2, 1) ∧ pc + 1 = pc') (k : Wx E Y pc' lv st n cs ss σ K) : Wx E Y pc lv (.long x :: st) n cs ss σ K := by
  obtain ⟨d, rfl⟩ := d
  exact x_pop2l d k
theorem y_dup2ir {i : Int32} {x : Nat} (d : decode Y.2.1 pc = .ok (.dup2, 1) ∧ pc + 1 = pc') (k : Wx E Y pc' lv (.int i :: .ref x :: .int i :: .ref x :: st) n cs ss σ K) : Wx E Y pc lv (.int i :: .ref x :: st) n cs ss σ K := by
  obtain ⟨d, rfl⟩ := d
  exact x_dup2ir d k
theorem y_dup2l {x : Int64} (d : decode Y.2.1 pc = .ok (.dup2, 1) ∧ pc + 1 = pc') (k : Wx E Y pc' lv (.long x :: .long x :: st) n cs ss σ K) : Wx E Y pc lv (.long x :: st) n cs ss σ K := by
  obtain ⟨d, rfl⟩ := d
  exact x_dup2l d k
theorem y_if_eq {x : Int32} {off : Int} {tgt : Nat} (d : decode Y.2.1 pc = .ok (.ifCond .eq off, 3) ∧ (pc : Int) + off = (tgt : Int) ∧ pc + 3 = pc') (kt : x = 0 → Wx E Y tgt lv st n cs ss σ K) (kf : ¬ x = 0 → Wx E Y pc' lv st n cs ss σ K) : Wx E Y pc lv (.int x :: st) n cs ss σ K := by
  obtain ⟨d, ht, rfl⟩ := d
  exact x_if_eq d ht kt kf
theorem y_icmp_eq {x y : Int32} {off : Int} {tgt : Nat} (d : decode Y.2.1 pc = .ok (.if_icmp .eq off, 3) ∧ (pc : Int) + off = (tgt : Int) ∧ pc + 3 = pc') (kt : x = y → Wx E Y tgt lv st n cs ss σ K) (kf : ¬ x = y → Wx E Y pc' lv st n cs ss σ K) : Wx E Y pc lv (.int y :: .int x :: st) n cs ss σ K := by
  obtain ⟨d, ht, rfl⟩ := d
  exact x_icmp_eq d ht kt kf
theorem y_if_ne {x : Int32} {off : Int} {tgt : Nat} (d : decode Y.2.1 pc = .ok (.ifCond .ne off, 3) ∧ (pc : Int) + off = (tgt : Int) ∧ pc + 3 = pc') (kt : ¬ x = 0 → Wx E Y tgt lv st n cs ss σ K) (kf : x = 0 → Wx E Y pc' lv st n cs ss σ K) : Wx E Y pc lv (.int x :: st) n cs ss σ K := by
  obtain ⟨d, ht, rfl⟩ := d
  exact x_if_ne d ht kt kf
theorem y_icmp_ne {x y : Int32} {off : Int} {tgt : Nat} (d : decode Y.2.1 pc = .ok (.if_icmp .ne off, 3) ∧ (pc : Int) + off = (tgt : Int) ∧ pc + 3 = pc') (kt : ¬ x = y → Wx E Y tgt lv st n cs ss σ K) (kf : x = y → Wx E Y pc' lv st n cs ss σ K) : Wx E Y pc lv (.int y :: .int x :: st) n cs ss σ K := by
  obtain ⟨d, ht, rfl⟩ := d
  exact x_icmp_ne d ht kt kf
theorem y_if_lt {x : Int32} {off : Int} {tgt : Nat} (d : decode Y.2.1 pc = .ok (.ifCond .lt off, 3) ∧ (pc : Int) + off = (tgt : Int) ∧ pc + 3 = pc') (kt : x < 0 → Wx E Y tgt lv st n cs ss σ K) (kf : ¬ x < 0 → Wx E Y pc' lv st n cs ss σ K) : Wx E Y pc lv (.int x :: st) n cs ss σ K := by
  obtain ⟨d, ht, rfl⟩ := d
  exact x_if_lt d ht kt kf
theorem y_icmp_lt {x y : Int32} {off : Int} {tgt : Nat} (d : decode Y.2.1 pc = .ok (.if_icmp .lt off, 3) ∧ (pc : Int) + off = (tgt : Int) ∧ pc + 3 = pc') (kt : x < y → Wx E Y tgt lv st n cs ss σ K) (kf : ¬ x < y → Wx E Y pc' lv st n cs ss σ K) : Wx E Y pc lv (.int y :: .int x :: st) n cs ss σ K := by
  obtain ⟨d, ht, rfl⟩ := d
  exact x_icmp_lt d ht kt kf
theorem y_if_ge {x : Int32} {off : Int} {tgt : Nat} (d : decode Y.2.1 pc = .ok (.ifCond .ge off, 3) ∧ (pc : Int) + off = (tgt : Int) ∧ pc + 3 = pc') (kt : 0 ≤ x → Wx E Y tgt lv st n cs ss σ K) (kf : ¬ 0 ≤ x → Wx E Y pc' lv st n cs ss σ K) : Wx E Y pc lv (.int x :: st) n cs ss σ K := by
  obtain ⟨d, ht, rfl⟩ := d
  exact x_if_ge d ht kt kf
theorem y_icmp_ge {x y : Int32} {off : Int} {tgt : Nat} (d : decode Y.2.1 pc = .ok (.if_icmp .ge off, 3) ∧ (pc : Int) + off = (tgt : Int) ∧ pc + 3 = pc') (kt : y ≤ x → Wx E Y tgt lv st n cs ss σ K) (kf : ¬ y ≤ x → Wx E Y pc' lv st n cs ss σ K) : Wx E Y pc lv (.int y :: .int x :: st) n cs ss σ K := by
  obtain ⟨d, ht, rfl⟩ := d
  exact x_icmp_ge d ht kt kf
theorem y_if_gt {x : Int32} {off : Int} {tgt : Nat} (d : decode Y.2.1 pc = .ok (.ifCond .gt off, 3) ∧ (pc : Int) + off = (tgt : Int) ∧ pc + 3 = pc') (kt : 0 < x → Wx E Y tgt lv st n cs ss σ K) (kf : ¬ 0 < x → Wx E Y pc' lv st n cs ss σ K) : Wx E Y pc lv (.int x :: st) n cs ss σ K := by
  obtain ⟨d, ht, rfl⟩ := d
  exact x_if_gt d ht kt kf
theorem y_icmp_gt {x y : Int32} {off : Int} {tgt : Nat} (d : decode Y.2.1 pc = .ok (.if_icmp .gt off, 3) ∧ (pc : Int) + off = (tgt : Int) ∧ pc + 3 = pc') (kt : y < x → Wx E Y tgt lv st n cs ss σ K) (kf : ¬ y < x → Wx E Y pc' lv st n cs ss σ K) : Wx E Y pc lv (.int y :: .int x :: st) n cs ss σ K := by
  obtain ⟨d, ht, rfl⟩ := d
  exact x_icmp_gt d ht kt kf
theorem y_if_le {x : Int32} {off : Int} {tgt : Nat} (d : decode Y.2.1 pc = .ok (.ifCond .le off, 3) ∧ (pc : Int) + off = (tgt : Int) ∧ pc + 3 = pc') (kt : x ≤ 0 → Wx E Y tgt lv st n cs ss σ K) (kf : ¬ x ≤ 0 → Wx E Y pc' lv st n cs ss σ K) : Wx E Y pc lv (.int x :: st) n cs ss σ K := by
  obtain ⟨d, ht, rfl⟩ := d
  exact x_if_le d ht kt kf
theorem y_icmp_le {x y : Int32} {off : Int} {tgt : Nat} (d : decode Y.2.1 pc = .ok (.if_icmp .le off, 3) ∧ (pc : Int) + off = (tgt : Int) ∧ pc + 3 = pc') (kt : x ≤ y → Wx E Y tgt lv st n cs ss σ K) (kf : ¬ x ≤ y → Wx E Y pc' lv st n cs ss σ K) : Wx E Y pc lv (.int y :: .int x :: st) n cs ss σ K := by
  obtain ⟨d, ht, rfl⟩ := d
  exact x_icmp_le d ht kt kf
theorem y_goto {off : Int} {tgt : Nat} (d : decode Y.2.1 pc = .ok (.goto off, 3) ∧ (pc : Int) + off = (tgt : Int) ∧ pc + 3 = pc') (k : Wx E Y tgt lv st n cs ss σ K) : Wx E Y pc lv st n cs ss σ K := by
  obtain ⟨d, ht, rfl⟩ := d
  exact x_goto d ht k
theorem y_topi {x v : Int32} (h : x = v) (k : Wx E Y pc lv (.int v :: st) n cs ss σ K) : Wx E Y pc lv (.int x :: st) n cs ss σ K := h ▸ k
theorem y_objInit {idx kb : Nat} (d : decode Y.2.1 pc = .ok (.invokespecial idx, 3) ∧ pc + 3 = pc') (h1 : Cond.methodLink Y.1.cls idx Lib.objectInit ∈ TBg) (h2 : Cond.instanceMethod Lib.objectInit ∈ TBg) (h3 : Cond.code Lib.objectInit ⟨#[0xb1]⟩ 1 none ∈ TBg) (hfr : 1 ≤ Y.2.2.2.2.frames) (hlo : 20 ≤ Y.2.2.2.2.locals) (hcat : (st.map fun v => v.category).sum ≤ 8) (k : Wx E Y pc' lv st n cs ss σ K) : Wx E Y pc lv (.ref kb :: st) n cs ss σ K := by
  obtain ⟨d, rfl⟩ := d
  exact x_objInit d h1 h2 h3 hfr hlo hcat k
theorem y_invI {Z : xY} {idx kb : Nat} {As rest : List Value} {nA : Nat} (hM : xM Y.1.cls idx Z nA) (hin : Cond.instanceMethod Z.1 ∈ TBg) (hname : Z.1.name = "<init>") (hret : Z.2.2.2.1 = none) (d : decode Y.2.1 pc = .ok (.invokespecial idx, 3) ∧ pc + 3 = pc') (hA : As.length = nA) (hst : st = As.reverse ++ .ref kb :: rest) (hrm : xRm Y Z cs ss) (hcat : (rest.map fun v => v.category).sum ≤ 8) (hlv : (lv.all fun q => xokv n q.2) = true) (hrs : (rest.all (xokv n)) = true)
    (kk : Cx E Z (.ref kb :: As) n σ (fun v n' σ' => Wx E Y pc' lv (v.toList ++ rest) n' (cs + Z.2.2.2.2.cells) (ss + Z.2.2.2.2.slots) σ' K)) : Wx E Y pc lv st n cs ss σ K := by
  obtain ⟨d, rfl⟩ := d
  exact x_invI d hM hin hname hret hA hst hrm hcat hlv hrs kk
theorem y_invV {Z : xY} {idx kb ci : Nat} {As rest : List Value} {l : List Nat} {nA : Nat} (hM : xM Y.1.cls idx Z nA) (hin : Cond.instanceMethod Z.1 ∈ TBg) (hsel : Cond.selects Z.1.cls Z.1 Z.1 ∈ TBg) (hk : kb < n) (hd : KD kb = (ci, l)) (hc : ci < 100) (hcn : (cls[ci]?.map fun q => q.1) = some Z.1.cls) (d : decode Y.2.1 pc = .ok (.invokevirtual idx, 3) ∧ pc + 3 = pc') (hA : As.length = nA) (hst : st = As.reverse ++ .ref kb :: rest) (hrm : xRm Y Z cs ss) (hcat : (rest.map fun v => v.category).sum ≤ 8) (hlv : (lv.all fun q => xokv n q.2) = true) (hrs : (rest.all (xokv n)) = true)
    (kk : Cx E Z (.ref kb :: As) n σ (fun v n' σ' => Wx E Y pc' lv (v.toList ++ rest) n' (cs + Z.2.2.2.2.cells) (ss + Z.2.2.2.2.slots) σ' K)) : Wx E Y pc lv st n cs ss σ K := by
  obtain ⟨d, rfl⟩ := d
  exact x_invV d hM hin hsel hA hst hk hd hc hcn hrm hcat hlv hrs kk
theorem vp_d {i : Int32} {z : Nat} (h : decide (¬ (i < 0 ∨ z ≤ i.toNatClampNeg)) = true) : vp_in i z := by
  unfold vp_in
  exact of_decide_eq_true h
end YR
end
section
/-! ===== the time of the constructors: ints and references by lists of what was set, the latest first; no long is set ===== -/
noncomputable def lm (A : List (Nat × (Nat × Int32))) (k j : Nat) : Int32 := match A.find? (fun q => q.1 == k && q.2.1 == j) with
  | some q => q.2.2
  | none => 0
noncomputable def la (B : List (Nat × (Nat × Nat))) (k j : Nat) : Nat := match B.find? (fun q => q.1 == k && q.2.1 == j) with
  | some q => q.2.2
  | none => 0
noncomputable def s0 (A : List (Nat × (Nat × Int32))) (B : List (Nat × (Nat × Nat))) : xS := (lm A, (fun _ _ => 0, la B))
noncomputable def xlt {α : Type} (n : Nat) (A : List (Nat × α)) : Prop := ∀ q ∈ A, q.1 < n
theorem xlt.le {α : Type} {n n' : Nat} {A : List (Nat × α)} (h : xlt n A) (hn : n ≤ n') : xlt n' A := fun q hq => Nat.lt_of_lt_of_le (h q hq) hn
theorem xlt.cons {α : Type} {n k : Nat} {v : α} {A : List (Nat × α)} (h : xlt n A) (hk : k < n) : xlt n ((k, v) :: A) := by
  intro q hq
  rcases List.mem_cons.mp hq with e | e
  · rw [e]; exact hk
  · exact h q e
theorem xlt.nil {α : Type} {n : Nat} : xlt n ([] : List (Nat × α)) := fun _ h => absurd h List.not_mem_nil
theorem lm_none {A : List (Nat × (Nat × Int32))} {n k : Nat} (h : xlt n A) (hk : n ≤ k) (j : Nat) : lm A k j = 0 := by
  have : A.find? (fun q => q.1 == k && q.2.1 == j) = none := by
    rw [List.find?_eq_none]
    intro q hq
    have := h q hq
    simp
    omega
  simp [lm, this]
theorem la_none {B : List (Nat × (Nat × Nat))} {n k : Nat} (h : xlt n B) (hk : n ≤ k) (j : Nat) : la B k j = 0 := by
  have : B.find? (fun q => q.1 == k && q.2.1 == j) = none := by
    rw [List.find?_eq_none]
    intro q hq
    have := h q hq
    simp
    omega
  simp [la, this]
theorem lm_cons {A : List (Nat × (Nat × Int32))} {k j : Nat} {v : Int32} : lm ((k, (j, v)) :: A) = xup (lm A) k (upd (lm A k) j v) := by
  funext k' j'
  unfold xup
  by_cases hk : k' = k
  · subst hk
    rw [if_pos rfl]
    unfold upd
    by_cases hj : j' = j
    · subst hj
      simp [lm]
    · rw [if_neg hj]
      have : (j == j') = false := by simp; omega
      simp [lm, this]
  · rw [if_neg hk]
    have : (k == k') = false := by simp; omega
    simp [lm, this]
theorem la_cons {B : List (Nat × (Nat × Nat))} {k j v : Nat} : la ((k, (j, v)) :: B) = xup (la B) k (xupN (la B k) j v) := by
  funext k' j'
  unfold xup
  by_cases hk : k' = k
  · subst hk
    rw [if_pos rfl]
    unfold xupN
    by_cases hj : j' = j
    · subst hj
      simp [la]
    · rw [if_neg hj]
      have : (j == j') = false := by simp; omega
      simp [la, this]
  · rw [if_neg hk]
    have : (k == k') = false := by simp; omega
    simp [la, this]
section XO
variable {A : List (Nat × (Nat × Int32))} {B : List (Nat × (Nat × Nat))}
theorem s0_I {k j : Nat} {v : Int32} : sI (s0 A B) k j v = s0 ((k, (j, v)) :: A) B := by
  unfold s0 sI
  rw [lm_cons]
theorem s0_R {k j v : Nat} : sR (s0 A B) k j v = s0 A ((k, (j, v)) :: B) := by
  unfold s0 sR
  rw [la_cons]
theorem xup_self {α : Type} {M : Nat → α} {k : Nat} {f : α} (h : M k = f) : xup M k f = M := by
  funext i
  unfold xup
  split
  · rename_i e
    rw [e, h]
  · rfl
theorem s0_N {n : Nat} (hA : xlt n A) (hB : xlt n B) : sN (s0 A B) n = s0 A B := by
  unfold s0 sN
  rw [xup_self (funext fun j => lm_none hA (Nat.le_refl _) j), xup_self (funext fun j => la_none hB (Nat.le_refl _) j), xup_self rfl]
variable {E : xV} {Y : xY} {pc pc' n n' cs cs' ss ss' : Nat} {lv lv' : List (Nat × Value)} {st : List Value} {σ : xS} {K : xQQ}
theorem n_newi {z : Nat} {v : Int32} (hA : xlt n A) (hB : xlt n B) (h9 : n < 1000) (d : decode Y.2.1 pc = .ok (.newarray .int, 2) ∧ pc + 2 = pc') (harr : Cond.arrayClass .int ∈ TBg) (hv : ¬ v < 0) (hz : v.toNatClampNeg = z) (hbytes : z ≤ 100000) (hd : KD n = (100, [z])) (hcs : cs + 1 ≤ Y.2.2.2.2.cells) (hss : ss + z ≤ Y.2.2.2.2.slots) (hlv : (lv.all fun q => xokv n q.2) = true) (hst : (st.all (xokv n)) = true) (hn : n + 1 = n' ∧ cs + 1 = cs' ∧ ss + z = ss')
    (k : Wx E Y pc' lv (.ref n :: st) n' cs' ss' (s0 A B) K) : Wx E Y pc lv (.int v :: st) n cs ss (s0 A B) K := by
  obtain ⟨d, rfl⟩ := d
  obtain ⟨rfl, rfl, rfl⟩ := hn
  exact x_newi h9 d harr hv hz hbytes hd hcs hss hlv hst ((s0_N hA hB).symm ▸ k)
theorem n_newj {z : Nat} {v : Int32} (hA : xlt n A) (hB : xlt n B) (h9 : n < 1000) (d : decode Y.2.1 pc = .ok (.newarray .long, 2) ∧ pc + 2 = pc') (harr : Cond.arrayClass .long ∈ TBg) (hv : ¬ v < 0) (hz : v.toNatClampNeg = z) (hbytes : z ≤ 100000) (hd : KD n = (101, [z])) (hcs : cs + 1 ≤ Y.2.2.2.2.cells) (hss : ss + z ≤ Y.2.2.2.2.slots) (hlv : (lv.all fun q => xokv n q.2) = true) (hst : (st.all (xokv n)) = true) (hn : n + 1 = n' ∧ cs + 1 = cs' ∧ ss + z = ss')
    (k : Wx E Y pc' lv (.ref n :: st) n' cs' ss' (s0 A B) K) : Wx E Y pc lv (.int v :: st) n cs ss (s0 A B) K := by
  obtain ⟨d, rfl⟩ := d
  obtain ⟨rfl, rfl, rfl⟩ := hn
  exact x_newj h9 d harr hv hz hbytes hd hcs hss hlv hst ((s0_N hA hB).symm ▸ k)
theorem n_newz {z : Nat} {v : Int32} (hA : xlt n A) (hB : xlt n B) (h9 : n < 1000) (d : decode Y.2.1 pc = .ok (.newarray .boolean, 2) ∧ pc + 2 = pc') (harr : Cond.arrayClass .boolean ∈ TBg) (hv : ¬ v < 0) (hz : v.toNatClampNeg = z) (hbytes : z ≤ 100000) (hd : KD n = (102, [z])) (hcs : cs + 1 ≤ Y.2.2.2.2.cells) (hss : ss + z ≤ Y.2.2.2.2.slots) (hlv : (lv.all fun q => xokv n q.2) = true) (hst : (st.all (xokv n)) = true) (hn : n + 1 = n' ∧ cs + 1 = cs' ∧ ss + z = ss')
    (k : Wx E Y pc' lv (.ref n :: st) n' cs' ss' (s0 A B) K) : Wx E Y pc lv (.int v :: st) n cs ss (s0 A B) K := by
  obtain ⟨d, rfl⟩ := d
  obtain ⟨rfl, rfl, rfl⟩ := hn
  exact x_newz h9 d harr hv hz hbytes hd hcs hss hlv hst ((s0_N hA hB).symm ▸ k)
theorem n_new {idx ci N : Nat} {C : String} {T : u_T} {l : List Nat} (ty0 : Nat → FieldType) (hA : xlt n A) (hB : xlt n B) (d : decode Y.2.1 pc = .ok (.new idx, 3) ∧ pc + 3 = pc') (hcl : cls[ci]? = some (C, T, N)) (hin : ∀ w ∈ u_ws C T N, w ∈ TBg) (hty : ∀ k, k < N → parseFieldDescriptor (T k).2.2.1 = some (ty0 k)) (h1 : Cond.classLink Y.1.cls idx C ∈ TBg) (h2 : Cond.instantiable C N ∈ TBg) (h3 : Cond.initialized C ∈ TBg) (h9 : n < 1000) (hd : KD n = (ci, l)) (hc : ci < 100) (hfs : ∀ j, j < N → defaultValue (ty0 j) = vp_V (xF (fun _ => 0) (fun _ => 0) (fun _ => 0) (fun _ => 0) 0 l) j) (hcs : cs + 1 ≤ Y.2.2.2.2.cells) (hss : ss + N ≤ Y.2.2.2.2.slots) (hlv : (lv.all fun q => xokv n q.2) = true) (hst : (st.all (xokv n)) = true) (hn : n + 1 = n' ∧ cs + 1 = cs' ∧ ss + N = ss')
    (k : Wx E Y pc' lv (.ref n :: st) n' cs' ss' (s0 A B) K) : Wx E Y pc lv st n cs ss (s0 A B) K := by
  obtain ⟨d, rfl⟩ := d
  obtain ⟨rfl, rfl, rfl⟩ := hn
  exact x_new ty0 d hcl hin hty h1 h2 h3 h9 hd hc hfs hcs hss hlv hst ((s0_N hA hB).symm ▸ k)
theorem n_putrF {k j i v idx ci : Nat} {l : List Nat} {ty : FieldType} (F : xFl Y.1.cls idx ci j ty true) (hini : Y.1.name = "<init>") (hcn : (cls[ci]?.map fun q => q.1) = some Y.1.cls) (hk : k < n) (hi : i < n) (hd : KD k = (ci, l)) (hc : ci < 100) (hj : l[j]? = some 2) (hw : ∀ q, narrow ty (.ref q) = .ref q) (hf : ∀ q, fits ty (.ref q) = true) (hv : i + 1 = v) (d : decode Y.2.1 pc = .ok (.putfield idx, 3) ∧ pc + 3 = pc') (kk : Wx E Y pc' lv st n cs ss (s0 A ((k, (j, v)) :: B)) K) : Wx E Y pc lv (.ref i :: .ref k :: st) n cs ss (s0 A B) K := by
  obtain ⟨d, rfl⟩ := d
  subst hv
  exact x_putrF F hini hcn hk hi hd hc hj hw hf d (s0_R.symm ▸ kk)
theorem n_puti {k j idx ci : Nat} {l : List Nat} {ty : FieldType} {v : Int32} (F : xFl Y.1.cls idx ci j ty false) (hk : k < n) (hd : KD k = (ci, l)) (hc : ci < 100) (hj : l[j]? = some 0) (hw : narrow ty (.int v) = .int v) (hf : fits ty (.int v) = true) (d : decode Y.2.1 pc = .ok (.putfield idx, 3) ∧ pc + 3 = pc') (kk : Wx E Y pc' lv st n cs ss (s0 ((k, (j, v)) :: A) B) K) : Wx E Y pc lv (.int v :: .ref k :: st) n cs ss (s0 A B) K := by
  obtain ⟨d, rfl⟩ := d
  exact x_puti F hk hd hc hj hw hf d (s0_I.symm ▸ kk)
theorem n_iast {k z j : Nat} {i x : Int32} (hk : k < n) (hd : KD k = (100, [z])) (hi : vp_in i z) (hj : i.toNatClampNeg = j) (d : decode Y.2.1 pc = .ok (.iastore, 1) ∧ pc + 1 = pc') (kk : Wx E Y pc' lv st n cs ss (s0 ((k, (j, x)) :: A) B) K) : Wx E Y pc lv (.int x :: .int i :: .ref k :: st) n cs ss (s0 A B) K := by
  obtain ⟨d, rfl⟩ := d
  subst hj
  exact x_iast hk hd hi d (s0_I.symm ▸ kk)
theorem n_iald {k z j : Nat} {i x : Int32} (hk : k < n) (hd : KD k = (100, [z])) (hi : vp_in i z) (hj : i.toNatClampNeg = j) (hx : lm A k j = x) (d : decode Y.2.1 pc = .ok (.iaload, 1) ∧ pc + 1 = pc') (kk : Wx E Y pc' lv (.int x :: st) n cs ss (s0 A B) K) : Wx E Y pc lv (.int i :: .ref k :: st) n cs ss (s0 A B) K := by
  obtain ⟨d, rfl⟩ := d
  subst hj
  subst hx
  exact x_iald hk hd hi d kk
theorem n_getr {k j i idx ci : Nat} {l : List Nat} {ty : FieldType} {fin : Bool} (F : xFl Y.1.cls idx ci j ty fin) (hk : k < n) (hd : KD k = (ci, l)) (hc : ci < 100) (hj : l[j]? = some 2) (hr : la B k j = i + 1) (d : decode Y.2.1 pc = .ok (.getfield idx, 3) ∧ pc + 3 = pc') (kk : Wx E Y pc' lv (.ref i :: st) n cs ss (s0 A B) K) : Wx E Y pc lv (.ref k :: st) n cs ss (s0 A B) K := by
  obtain ⟨d, rfl⟩ := d
  exact x_getr F hk hd hc hj hr d kk
end XO
end
section
/-! ===== new long[N][M] in a constructor ===== -/
noncomputable def mnaL (k N : Nat) : List (Nat × (Nat × Nat)) := (List.range N).map fun j => (k, (j, k + 2 + j))
theorem mna_in {k N : Nat} {B : List (Nat × (Nat × Nat))} {n : Nat} (hB : xlt n B) (j : Nat) (hk : k = n) : la (mnaL k N ++ B) k j = if j < N then k + 2 + j else 0 := by
  by_cases hj : j < N
  · rw [if_pos hj]
    have : (mnaL k N).find? (fun q => q.1 == k && q.2.1 == j) = some (k, (j, k + 2 + j)) := by
      cases h : (mnaL k N).find? (fun q => q.1 == k && q.2.1 == j) with
      | none =>
        rw [List.find?_eq_none] at h
        have := h (k, (j, k + 2 + j)) (List.mem_map.mpr ⟨j, List.mem_range.mpr hj, rfl⟩)
        simp at this
      | some q =>
        have h1 := List.find?_some h
        have h2 := List.mem_of_find?_eq_some h
        obtain ⟨i, -, rfl⟩ := List.mem_map.mp h2
        simp at h1
        rw [h1]
    simp [la, List.find?_append, this]
  · rw [if_neg hj]
    have : (mnaL k N).find? (fun q => q.1 == k && q.2.1 == j) = none := by
      rw [List.find?_eq_none]
      intro q hq
      obtain ⟨i, hi, rfl⟩ := List.mem_map.mp hq
      have := List.mem_range.mp hi
      simp
      omega
    have h0 := la_none hB (Nat.le_of_eq hk.symm) j
    simp only [la] at h0 ⊢
    rw [List.find?_append, this]
    simpa using h0
theorem mna_out {k N k' : Nat} {B : List (Nat × (Nat × Nat))} (j : Nat) (hk : k' ≠ k) : la (mnaL k N ++ B) k' j = la B k' j := by
  have : (mnaL k N).find? (fun q => q.1 == k' && q.2.1 == j) = none := by
    rw [List.find?_eq_none]
    intro q hq
    obtain ⟨i, hi, rfl⟩ := List.mem_map.mp hq
    simp
    omega
  simp [la, List.find?_append, this]
theorem x_outer (c : ClassId) (N h0 : Nat) : ∀ i : Nat, Jvm.Free.Multi.outerC c N h0 i = arrV c N (fun j => va_rf (if j < i then some (h0 + 1 + j) else none))
  | 0 => by
    show ({ cls := c, slots := Array.replicate N .null, vm := .none } : Cell) = _
    rw [arrV_new]
    refine congrArg (arrV c N) (funext fun j => ?_)
    simp [va_rf]
  | i + 1 => by
    show (Jvm.Free.Multi.outerC c N h0 i).setSlot i (.ref (h0 + 1 + i)) = _
    rw [x_outer c N h0 i, arrV_store]
    refine congrArg (arrV c N) (funext fun j => ?_)
    by_cases e : j = i
    · subst e
      simp [updV, va_rf]
    · by_cases h : j < i
      · simp [updV, e, h, Nat.lt_succ_of_lt h]
      · have h2 : ¬ j < i + 1 := by omega
        simp [updV, e, h, h2]
section XMN
variable {A : List (Nat × (Nat × Int32))} {B : List (Nat × (Nat × Nat))} {E : xV} {Y : xY} {pc pc' n n' cs cs' ss ss' : Nat} {lv lv' : List (Nat × Value)} {st : List Value} {K : xQQ}
theorem n_mna {idx N M : Nat} {u v : Int32} (hA : xlt n A) (hB : xlt n B) (h9 : n + 1 + N ≤ 1000) (d : decode Y.2.1 pc = .ok (.multianewarray idx 2, 4) ∧ pc + 4 = pc') (w1 : Cond.classLink Y.1.cls idx "[[J" ∈ TBg) (w2 : Cond.arrayClass .long ∈ TBg) (hu : ¬ u < 0) (hv : ¬ v < 0) (hN : u.toNatClampNeg = N) (hM : v.toNatClampNeg = M) (hM9 : M ≤ 100000) (hd : KD n = (103, [N])) (hd2 : ∀ j, j < N → KD (n + 1 + j) = (101, [M])) (hcs : cs + (1 + N) ≤ Y.2.2.2.2.cells) (hss : ss + (N + N * M) ≤ Y.2.2.2.2.slots) (hlv : (lv.all fun q => xokv n q.2) = true) (hst : (st.all (xokv n)) = true) (hn : n + 1 + N = n' ∧ cs + 1 + N = cs' ∧ ss + N + N * M = ss')
    (kk : Wx E Y pc' lv (.ref n :: st) n' cs' ss' (s0 A (mnaL n N ++ B)) K) : Wx E Y pc lv (.int v :: .int u :: st) n cs ss (s0 A B) K := by
  obtain ⟨d, rfl⟩ := d
  obtain ⟨rfl, rfl, rfl⟩ := hn
  subst hN
  subst hM
  intro p e R s m args below meth c H locs ls a0 n0 a hC hn hg hH hS hl
  have hts := hC.2.2.2.2.2.1
  have hK := hC.2.2.2.2.2.2.2.2.1.1
  have hb : E.2.2.1 ≤ H.size := (hC.2.2.2.2.2.2.2.2.2.1.of hS).1
  obtain ⟨hR1, hR2, hR3, hR4, -⟩ := hC.2.2.2.2.2.2.2.2.2.2
  intro T hT Xs
  obtain ⟨vm₁, cA, comp, -, fA, fC, -, -, X', step⟩ := Xs.multianewarray2F (ty := .long) hC.1 hC.2.2.2.2.1 (hts _ w1) hC.2.2.2.2.2.2.2.2.1.2.2.1 (hts _ w2) (g := F0 m pc ls (.int v :: .int u :: st.map (xrel a))) rfl (by rw [hC.2.1]; exact d) rfl hu hv (by omega) (by show _ * 8 ≤ _; omega) (by omega) rfl rfl (Nat.le_trans hcs hR3) (Nat.le_trans hss hR4)
  have eC : comp = E.2.1.2.2.1 := by
    have h1 : s.vm.findClass ("[" ++ FieldType.long.toString) = some E.2.1.2.2.1 := (hK.2 1 _ rfl).2
    exact Option.some.inj (fC.symm.trans h1)
  have eA : cA = E.2.1.2.2.2.2 := by
    have h1 : s.vm.findClass ("[" ++ (FieldType.array .long).toString) = some E.2.1.2.2.2.2 := (hK.2 3 _ rfl).2
    exact Option.some.inj (fA.symm.trans h1)
  subst eC
  subst eA
  generalize hF : Jvm.Free.Multi.fill (T.setVm vm₁) E.2.1.2.2.2.2 E.2.1.2.2.1 u.toNatClampNeg v.toNatClampNeg (defaultValue .long) u.toNatClampNeg = F at X' step
  have hTh : (T.setVm vm₁).heap = H := hT
  obtain ⟨f1, f2, -, -⟩ := Jvm.Free.Multi.fill_facts (T.setVm vm₁) E.2.1.2.2.2.2 E.2.1.2.2.1 u.toNatClampNeg v.toNatClampNeg (defaultValue .long) u.toNatClampNeg
  rw [hF, hTh] at f1 f2
  rw [x_outer] at f2
  have hold : ∀ x : Nat, x < H.size → F.heap[x]? = H[x]? := fun x hx => by
    have := Jvm.Free.Multi.fill_old (T.setVm vm₁) E.2.1.2.2.2.2 E.2.1.2.2.1 u.toNatClampNeg v.toNatClampNeg (defaultValue .long) (a := x) (by rw [hTh]; exact hx) u.toNatClampNeg
    rw [hF, hTh] at this
    exact this
  have hrow : ∀ j : Nat, j < u.toNatClampNeg → F.heap[H.size + 1 + j]? = some (arrV E.2.1.2.2.1 v.toNatClampNeg (fun _ => .long 0)) := fun j hj => by
    have := Jvm.Free.Multi.fill_inner (T.setVm vm₁) E.2.1.2.2.2.2 E.2.1.2.2.1 u.toNatClampNeg v.toNatClampNeg (defaultValue .long) u.toNatClampNeg j hj
    rw [hF, hTh] at this
    rw [this]
    show some ({ cls := _, slots := Array.replicate _ _, vm := .none } : Cell) = _
    rw [arrV_new]
    rfl
  generalize hN : u.toNatClampNeg = N at *
  generalize hM : v.toNatClampNeg = M at *
  let a' : Nat → Nat := fun i => if i < n then a i else if i ≤ n + N then H.size + (i - n) else a i
  have a_old : ∀ i, i < n → a' i = a i := fun i hi => if_pos hi
  have a_new : ∀ i, n ≤ i → i ≤ n + N → a' i = H.size + (i - n) := fun i h1 h2 => by
    show (if i < n then a i else if i ≤ n + N then H.size + (i - n) else a i) = _
    rw [if_neg (by omega), if_pos h2]
  have a_far : ∀ i, n + N < i → a' i = a i := fun i h1 => by
    show (if i < n then a i else if i ≤ n + N then H.size + (i - n) else a i) = _
    rw [if_neg (by omega), if_neg (by omega)]
  have hag : xag n a a' := fun i hi => by
    rcases hi with h | h
    · exact a_old i h
    · exact a_far i (by omega)
  have hH1 : xH E a' (n + 1 + N) (s0 A (mnaL n N ++ B)) F.heap := by
    refine ⟨fun i j hi hj hij => ?_, fun i hi => ?_, fun k j => ?_, ⟨h9, fun i => ?_⟩, fun k q hk => ?_⟩
    · by_cases h1 : i < n <;> by_cases h2 : j < n
      · rw [a_old i h1, a_old j h2] at hij
        exact hH.1 i j h1 h2 hij
      · rw [a_old i h1, a_new j (by omega) (by omega)] at hij
        have := xH_lt hH h1
        omega
      · rw [a_old j h2, a_new i (by omega) (by omega)] at hij
        have := xH_lt hH h2
        omega
      · rw [a_new i (by omega) (by omega), a_new j (by omega) (by omega)] at hij
        omega
    · by_cases h1 : i < n
      · rw [a_old i h1]
        exact hH.2.1 i h1
      · rw [a_new i (by omega) (by omega)]
        omega
    · show la (mnaL n N ++ B) k j ≤ n + 1 + N
      by_cases h1 : k = n
      · subst h1
        rw [mna_in hB j rfl]
        split <;> omega
      · rw [mna_out j h1]
        have : la B k j ≤ n := hH.2.2.1 k j
        omega
    · rw [a_far _ (by omega)]
      exact hH.2.2.2.1.2 i
    · obtain ⟨hk1, rfl⟩ := xW_inv hk
      by_cases h1 : k < n
      · have hx : xc E.2.1 a' (s0 A (mnaL n N ++ B)) k = xc E.2.1 a (s0 A B) k := by
          have hP : (s0 A (mnaL n N ++ B)).2.2 k = (s0 A B).2.2 k := funext fun j => mna_out j (by omega)
          unfold xc
          rw [hP, xE_ag (n := n) hag (hH.2.2.1 k), a_old k h1]
          rfl
        rw [hx]
        have h0 := hH.2.2.2.2 k _ (xW_at h1)
        exact h0.kept (hold _ h0.lt)
      · by_cases h2 : k = n
        · subst h2
          rw [xc_rows hd, a_new k (Nat.le_refl _) (by omega)]
          show F.heap[H.size + (k - k)]? = some (vp_cell _ _)
          rw [Nat.sub_self, Nat.add_zero, f2, vp_cell_q]
          congr 2
          funext j
          show va_rf _ = va_rf (xro a' (la (mnaL k N ++ B) k j))
          rw [mna_in hB j rfl]
          split
          · have : k + 2 + j = (k + 1 + j) + 1 := by omega
            rw [this]
            show va_rf (some _) = va_rf (some (a' (k + 1 + j)))
            rw [a_new (k + 1 + j) (by omega) (by omega)]
            congr 2
            omega
          · rfl
        · have hj : k = n + 1 + (k - n - 1) := by omega
          have hd3 := hd2 (k - n - 1) (by omega)
          rw [← hj] at hd3
          rw [xc_long hd3, a_new k (by omega) (by omega)]
          show F.heap[H.size + (k - n)]? = some (vp_cell _ _)
          have e5 : H.size + (k - n) = H.size + 1 + (k - n - 1) := by omega
          rw [e5, hrow _ (by omega), vp_cell_l]
          rfl
  have hl1 : lv_has ls Y.2.2.1 (xlv a' lv) := by rw [xlv_ag hag hlv]; exact hl
  have hk := kk p e R s m args below meth c F.heap locs ls a0 n0 a' hC (by omega) (fun i hi => (hag i (hi.imp_left fun h => Nat.lt_of_lt_of_le h hn)).trans (hg i hi)) hH1 ⟨Nat.le_trans hS.1 (by omega), fun q h5 h6 => (hold q (Nat.lt_of_lt_of_le h5 hS.1)).trans (hS.2.1 q h5 h6), hS.2.2⟩ hl1
  have hm : (Value.ref n :: st).map (xrel a') = Value.ref H.size :: st.map (xrel a) := by
    rw [List.map_cons, xst_ag hag hst]
    simp only [xrel]
    rw [a_new n (Nat.le_refl _) (by omega), Nat.sub_self, Nat.add_zero]
  rw [hm] at hk
  obtain ⟨t, a1, b1⟩ := hk F rfl X'
  refine ⟨t, step t ?_, b1⟩
  rw [hT]
  exact a1
end XMN
end
section
noncomputable def RFB : List (Nat × (Nat × Nat)) := [(110, (149, 215)), (110, (147, 214)), (110, (146, 213)), (110, (145, 212)), (110, (144, 211)), (110, (143, 210)), (110, (142, 209)), (110, (141, 208)), (110, (140, 207)), (110, (139, 206)), (110, (137, 205)), (110, (135, 204)), (110, (133, 203)), (110, (132, 202)), (110, (131, 201)), (110, (130, 200)), (110, (129, 199)), (110, (128, 198)), (110, (127, 197)), (110, (126, 196)), (110, (125, 195)), (110, (124, 194)), (110, (123, 193)), (110, (122, 192)), (110, (121, 191)), (110, (120, 190)), (110, (119, 189)), (110, (116, 188)), (110, (115, 187)), (110, (114, 186)), (110, (113, 185)), (110, (111, 184)), (110, (110, 183)), (110, (108, 182)), (110, (106, 181)), (110, (105, 180)), (110, (104, 179)), (110, (103, 178)), (110, (102, 177)), (110, (101, 176)), (110, (100, 175)), (110, (99, 174)), (110, (98, 173)), (110, (97, 172)), (110, (94, 171)), (110, (93, 170)), (110, (92, 169)), (110, (91, 168)), (110, (90, 167)), (110, (89, 166)), (110, (88, 165)), (110, (87, 164)), (110, (86, 163)), (110, (84, 162)), (110, (83, 161)), (110, (80, 160)), (110, (79, 159)), (110, (78, 158)), (110, (76, 157)), (110, (73, 156)), (110, (72, 155)), (110, (70, 154)), (110, (63, 153)), (110, (62, 152)), (110, (55, 151)), (110, (54, 150)), (110, (53, 149)), (110, (51, 148)), (110, (50, 147)), (110, (49, 146)), (110, (48, 145)), (110, (47, 144)), (110, (45, 143)), (110, (44, 142)), (110, (43, 141)), (110, (42, 140)), (110, (41, 139)), (110, (40, 138)), (110, (39, 137)), (110, (38, 136)), (110, (37, 135)), (110, (36, 134)), (110, (35, 133)), (110, (34, 132)), (110, (33, 131)), (110, (25, 130)), (110, (24, 129)), (110, (23, 128)), (110, (22, 127)), (110, (21, 126)), (110, (19, 125)), (110, (18, 124)), (110, (17, 123)), (110, (16, 122)), (110, (15, 121)), (110, (14, 120)), (110, (13, 119)), (110, (12, 118)), (110, (11, 117)), (110, (10, 116)), (110, (9, 115)), (110, (5, 114)), (110, (4, 113)), (110, (2, 112)), (0, (17, 99)), (98, (13, 110)), (98, (11, 109)), (98, (10, 108)), (98, (9, 107)), (98, (8, 106)), (98, (7, 105)), (98, (6, 104)), (98, (5, 103)), (98, (4, 102)), (98, (3, 101)), (98, (1, 100)), (0, (16, 71)), (70, (8, 98)), (70, (5, 97)), (70, (4, 76))] ++ (mnaL 75 20 ++ ([(70, (3, 75)), (70, (2, 74)), (70, (1, 73)), (70, (0, 72)), (0, (15, 60)), (59, (10, 70)), (59, (9, 69)), (59, (8, 68)), (59, (7, 67)), (59, (6, 66)), (59, (5, 65)), (59, (4, 64)), (59, (3, 63)), (59, (2, 62)), (59, (0, 61)), (0, (14, 53)), (52, (8, 59)), (52, (7, 58)), (52, (6, 57)), (52, (4, 56)), (52, (3, 55)), (52, (2, 54)), (52, (0, 11)), (0, (13, 42)), (41, (11, 52)), (41, (10, 51)), (41, (9, 50)), (41, (8, 49)), (41, (7, 48)), (41, (6, 47)), (41, (5, 46)), (41, (4, 45)), (41, (3, 44)), (41, (2, 43)), (41, (0, 6)), (0, (12, 35)), (34, (9, 41)), (34, (8, 40)), (34, (7, 39)), (34, (4, 38)), (34, (3, 37)), (34, (2, 36)), (34, (0, 6)), (0, (11, 28)), (27, (17, 34)), (27, (15, 33)), (27, (14, 32)), (27, (11, 31)), (27, (9, 30)), (27, (8, 29)), (27, (2, 18)), (27, (1, 11)), (27, (0, 6)), (0, (10, 18)), (17, (12, 27)), (17, (11, 26)), (17, (10, 25)), (17, (8, 24)), (17, (5, 23)), (17, (4, 22)), (17, (3, 21)), (17, (2, 20)), (17, (1, 19)), (17, (7, 11)), (17, (6, 6)), (0, (9, 11)), (10, (6, 17)), (10, (5, 16)), (10, (4, 15)), (10, (3, 14)), (10, (2, 13)), (10, (1, 12)), (0, (8, 6)), (5, (6, 10)), (5, (5, 9)), (5, (4, 8)), (5, (3, 7)), (0, (6, 5)), (0, (4, 4)), (0, (3, 3)), (0, (0, 2))]))
noncomputable def RF : Nat → Nat → Nat := la RFB
noncomputable abbrev zS : Type := (Nat → Nat → Int32) × (Nat → Nat → Int64)
noncomputable abbrev zKt : Type := Option Value → zS → Prop
noncomputable def zx (σ : zS) : xS := (σ.1, (σ.2, RF))
noncomputable def zK (K : zKt) : xK := fun v n s => n = 215 ∧ ∃ σ : zS, s = zx σ ∧ K v σ
noncomputable def Wz (E : xV) (Y : xY) (pc : Nat) (lv : List (Nat × Value)) (st : List Value) (σ : zS) (K : zKt) : Prop := Wx E Y pc lv st 215 0 0 (zx σ) (xMQ E Y (zK K))
noncomputable def Cz (E : xV) (Y : xY) (av : List Value) (σ : zS) (K : zKt) : Prop := Cx E Y av 215 (zx σ) (zK K)
noncomputable def zI (σ : zS) (k j : Nat) (v : Int32) : zS := (xup σ.1 k (upd (σ.1 k) j v), σ.2)
noncomputable def zJ (σ : zS) (k j : Nat) (v : Int64) : zS := (σ.1, xup σ.2 k (vp_updL (σ.2 k) j v))
theorem Cz.mono {E : xV} {Y : xY} {av : List Value} {σ : zS} {K K' : zKt} (h : Cz E Y av σ K) (hk : ∀ v σ', K v σ' → K' v σ') : Cz E Y av σ K' := Cx.mono h (fun v n s ⟨h1, σ1, h2, h3⟩ => ⟨h1, σ1, h2, hk v σ1 h3⟩)
section ZR
variable {E : xV} {Y : xY} {pc pc' : Nat} {lv lv' : List (Nat × Value)} {st : List Value} {σ : zS} {K : zKt}
theorem z_iconst {i : Int} {v : Int32} (d : decode Y.2.1 pc = .ok (.iconst i, 1) ∧ pc + 1 = pc') (hv : Int32.ofInt i = v) (k : Wz E Y pc' lv (.int v :: st) σ K) : Wz E Y pc lv st σ K := by
  obtain ⟨d, rfl⟩ := d
  exact x_iconst d hv k
theorem z_bipush {i : Int} {v : Int32} (d : decode Y.2.1 pc = .ok (.bipush i, 2) ∧ pc + 2 = pc') (hv : (Int8.ofInt i).toInt32 = v) (k : Wz E Y pc' lv (.int v :: st) σ K) : Wz E Y pc lv st σ K := by
  obtain ⟨d, rfl⟩ := d
  exact x_bipush d hv k
theorem z_sipush {i : Int} {v : Int32} (d : decode Y.2.1 pc = .ok (.sipush i, 3) ∧ pc + 3 = pc') (hv : (Int16.ofInt i).toInt32 = v) (k : Wz E Y pc' lv (.int v :: st) σ K) : Wz E Y pc lv st σ K := by
  obtain ⟨d, rfl⟩ := d
  exact x_sipush d hv k
theorem z_lconst {i : Fin 2} {v : Int64} (d : decode Y.2.1 pc = .ok (.lconst i, 1) ∧ pc + 1 = pc') (hv : Int64.ofNat (i : Nat) = v) (k : Wz E Y pc' lv (.long v :: st) σ K) : Wz E Y pc lv st σ K := by
  obtain ⟨d, rfl⟩ := d
  exact x_lconst d hv k
theorem z_ldc {i : Nat} {v : Int32} (d : decode Y.2.1 pc = .ok (.ldc i, 2) ∧ pc + 2 = pc') (hw : Cond.constant Y.1.cls i v ∈ TBg) (k : Wz E Y pc' lv (.int v :: st) σ K) : Wz E Y pc lv st σ K := by
  obtain ⟨d, rfl⟩ := d
  exact x_ldc d hw k
theorem z_ldcw {i : Nat} {v : Int32} (d : decode Y.2.1 pc = .ok (.ldc_w i, 3) ∧ pc + 3 = pc') (hw : Cond.constant Y.1.cls i v ∈ TBg) (k : Wz E Y pc' lv (.int v :: st) σ K) : Wz E Y pc lv st σ K := by
  obtain ⟨d, rfl⟩ := d
  exact x_ldcw d hw k
theorem z_ldc2 {i : Nat} {v : Int64} (d : decode Y.2.1 pc = .ok (.ldc2_w i, 3) ∧ pc + 3 = pc') (hw : Cond.constantLong Y.1.cls i v ∈ TBg) (k : Wz E Y pc' lv (.long v :: st) σ K) : Wz E Y pc lv st σ K := by
  obtain ⟨d, rfl⟩ := d
  exact x_ldc2 d hw k
theorem z_iload_n {f : Fin 4} {i q : Nat} {x : Int32} (d : decode Y.2.1 pc = .ok (.iload_n f, 1) ∧ pc + 1 = pc') (hi : (f : Nat) = i) (hq : lv[q]? = some (i, .int x)) (k : Wz E Y pc' lv (.int x :: st) σ K) : Wz E Y pc lv st σ K := by
  obtain ⟨d, rfl⟩ := d
  exact x_iload_n d hi hq k
theorem z_iload {i q : Nat} {x : Int32} (d : decode Y.2.1 pc = .ok (.iload i, 2) ∧ pc + 2 = pc') (hq : lv[q]? = some (i, .int x)) (k : Wz E Y pc' lv (.int x :: st) σ K) : Wz E Y pc lv st σ K := by
  obtain ⟨d, rfl⟩ := d
  exact x_iload d hq k
theorem z_lload_n {f : Fin 4} {i q : Nat} {x : Int64} (d : decode Y.2.1 pc = .ok (.lload_n f, 1) ∧ pc + 1 = pc') (hi : (f : Nat) = i) (hq : lv[q]? = some (i, .long x)) (k : Wz E Y pc' lv (.long x :: st) σ K) : Wz E Y pc lv st σ K := by
  obtain ⟨d, rfl⟩ := d
  exact x_lload_n d hi hq k
theorem z_lload {i q : Nat} {x : Int64} (d : decode Y.2.1 pc = .ok (.lload i, 2) ∧ pc + 2 = pc') (hq : lv[q]? = some (i, .long x)) (k : Wz E Y pc' lv (.long x :: st) σ K) : Wz E Y pc lv st σ K := by
  obtain ⟨d, rfl⟩ := d
  exact x_lload d hq k
theorem z_aload_n {f : Fin 4} {i q : Nat} {x : Nat} (d : decode Y.2.1 pc = .ok (.aload_n f, 1) ∧ pc + 1 = pc') (hi : (f : Nat) = i) (hq : lv[q]? = some (i, .ref x)) (k : Wz E Y pc' lv (.ref x :: st) σ K) : Wz E Y pc lv st σ K := by
  obtain ⟨d, rfl⟩ := d
  exact x_aload_n d hi hq k
theorem z_aload {i q : Nat} {x : Nat} (d : decode Y.2.1 pc = .ok (.aload i, 2) ∧ pc + 2 = pc') (hq : lv[q]? = some (i, .ref x)) (k : Wz E Y pc' lv (.ref x :: st) σ K) : Wz E Y pc lv st σ K := by
  obtain ⟨d, rfl⟩ := d
  exact x_aload d hq k
theorem z_istore_n {f : Fin 4} {i : Nat} {x : Int32} (d : decode Y.2.1 pc = .ok (.istore_n f, 1) ∧ pc + 1 = pc') (hi : (f : Nat) = i) (hn : i < Y.2.2.1) (hl' : (i, Value.int x) :: lv.filter (fun q => !(q.1 == i) && !(q.1 + 1 == i && q.2.category == 2)) = lv') (k : Wz E Y pc' lv' st σ K) : Wz E Y pc lv (.int x :: st) σ K := by
  obtain ⟨d, rfl⟩ := d
  exact x_istore_n d hi hn hl' k
theorem z_istore {i : Nat} {x : Int32} (d : decode Y.2.1 pc = .ok (.istore i, 2) ∧ pc + 2 = pc') (hn : i < Y.2.2.1) (hl' : (i, Value.int x) :: lv.filter (fun q => !(q.1 == i) && !(q.1 + 1 == i && q.2.category == 2)) = lv') (k : Wz E Y pc' lv' st σ K) : Wz E Y pc lv (.int x :: st) σ K := by
  obtain ⟨d, rfl⟩ := d
  exact x_istore d hn hl' k
theorem z_lstore_n {f : Fin 4} {i : Nat} {x : Int64} (d : decode Y.2.1 pc = .ok (.lstore_n f, 1) ∧ pc + 1 = pc') (hi : (f : Nat) = i) (hn : i + 1 < Y.2.2.1) (hl' : (i, Value.long x) :: lv.filter (fun q => !(q.1 == i) && (!(q.1 == i + 1) && !(q.1 + 1 == i && q.2.category == 2))) = lv') (k : Wz E Y pc' lv' st σ K) : Wz E Y pc lv (.long x :: st) σ K := by
  obtain ⟨d, rfl⟩ := d
  exact x_lstore_n d hi hn hl' k
theorem z_lstore {i : Nat} {x : Int64} (d : decode Y.2.1 pc = .ok (.lstore i, 2) ∧ pc + 2 = pc') (hn : i + 1 < Y.2.2.1) (hl' : (i, Value.long x) :: lv.filter (fun q => !(q.1 == i) && (!(q.1 == i + 1) && !(q.1 + 1 == i && q.2.category == 2))) = lv') (k : Wz E Y pc' lv' st σ K) : Wz E Y pc lv (.long x :: st) σ K := by
  obtain ⟨d, rfl⟩ := d
  exact x_lstore d hn hl' k
theorem z_astore_n {f : Fin 4} {i : Nat} {x : Nat} (d : decode Y.2.1 pc = .ok (.astore_n f, 1) ∧ pc + 1 = pc') (hi : (f : Nat) = i) (hn : i < Y.2.2.1) (hl' : (i, Value.ref x) :: lv.filter (fun q => !(q.1 == i) && !(q.1 + 1 == i && q.2.category == 2)) = lv') (k : Wz E Y pc' lv' st σ K) : Wz E Y pc lv (.ref x :: st) σ K := by
  obtain ⟨d, rfl⟩ := d
  exact x_astore_n d hi hn hl' k
theorem z_iinc {i q : Nat} {z : Int} {x v : Int32} (d : decode Y.2.1 pc = .ok (.iinc i z, 3) ∧ pc + 3 = pc') (hq : lv[q]? = some (i, .int x)) (hv : x + Int32.ofInt z = v) (hn : i < Y.2.2.1) (hl' : (i, Value.int v) :: lv.filter (fun q => !(q.1 == i) && !(q.1 + 1 == i && q.2.category == 2)) = lv') (k : Wz E Y pc' lv' st σ K) : Wz E Y pc lv st σ K := by
  obtain ⟨d, rfl⟩ := d
  exact x_iinc d hq hv hn hl' k
theorem z_iadd {x y : Int32} (d : decode Y.2.1 pc = .ok (.iadd, 1) ∧ pc + 1 = pc') (k : Wz E Y pc' lv (.int (x + y) :: st) σ K) : Wz E Y pc lv (.int y :: .int x :: st) σ K := by
  obtain ⟨d, rfl⟩ := d
  exact x_iadd d k
theorem z_isub {x y : Int32} (d : decode Y.2.1 pc = .ok (.isub, 1) ∧ pc + 1 = pc') (k : Wz E Y pc' lv (.int (x - y) :: st) σ K) : Wz E Y pc lv (.int y :: .int x :: st) σ K := by
  obtain ⟨d, rfl⟩ := d
  exact x_isub d k
theorem z_imul {x y : Int32} (d : decode Y.2.1 pc = .ok (.imul, 1) ∧ pc + 1 = pc') (k : Wz E Y pc' lv (.int (x * y) :: st) σ K) : Wz E Y pc lv (.int y :: .int x :: st) σ K := by
  obtain ⟨d, rfl⟩ := d
  exact x_imul d k
theorem z_iand {x y : Int32} (d : decode Y.2.1 pc = .ok (.iand, 1) ∧ pc + 1 = pc') (k : Wz E Y pc' lv (.int (x &&& y) :: st) σ K) : Wz E Y pc lv (.int y :: .int x :: st) σ K := by
  obtain ⟨d, rfl⟩ := d
  exact x_iand d k
theorem z_ior {x y : Int32} (d : decode Y.2.1 pc = .ok (.ior, 1) ∧ pc + 1 = pc') (k : Wz E Y pc' lv (.int (x ||| y) :: st) σ K) : Wz E Y pc lv (.int y :: .int x :: st) σ K := by
  obtain ⟨d, rfl⟩ := d
  exact x_ior d k
theorem z_ixor {x y : Int32} (d : decode Y.2.1 pc = .ok (.ixor, 1) ∧ pc + 1 = pc') (k : Wz E Y pc' lv (.int (x ^^^ y) :: st) σ K) : Wz E Y pc lv (.int y :: .int x :: st) σ K := by
  obtain ⟨d, rfl⟩ := d
  exact x_ixor d k
theorem z_ishl {x y : Int32} (d : decode Y.2.1 pc = .ok (.ishl, 1) ∧ pc + 1 = pc') (k : Wz E Y pc' lv (.int (x <<< (y &&& 31)) :: st) σ K) : Wz E Y pc lv (.int y :: .int x :: st) σ K := by
  obtain ⟨d, rfl⟩ := d
  exact x_ishl d k
theorem z_ishr {x y : Int32} (d : decode Y.2.1 pc = .ok (.ishr, 1) ∧ pc + 1 = pc') (k : Wz E Y pc' lv (.int (x >>> (y &&& 31)) :: st) σ K) : Wz E Y pc lv (.int y :: .int x :: st) σ K := by
  obtain ⟨d, rfl⟩ := d
  exact x_ishr d k
theorem z_ladd {x y : Int64} (d : decode Y.2.1 pc = .ok (.ladd, 1) ∧ pc + 1 = pc') (k : Wz E Y pc' lv (.long (x + y) :: st) σ K) : Wz E Y pc lv (.long y :: .long x :: st) σ K := by
  obtain ⟨d, rfl⟩ := d
  exact x_ladd d k
theorem z_lsub {x y : Int64} (d : decode Y.2.1 pc = .ok (.lsub, 1) ∧ pc + 1 = pc') (k : Wz E Y pc' lv (.long (x - y) :: st) σ K) : Wz E Y pc lv (.long y :: .long x :: st) σ K := by
  obtain ⟨d, rfl⟩ := d
  exact x_lsub d k
theorem z_lmul {x y : Int64} (d : decode Y.2.1 pc = .ok (.lmul, 1) ∧ pc + 1 = pc') (k : Wz E Y pc' lv (.long (x * y) :: st) σ K) : Wz E Y pc lv (.long y :: .long x :: st) σ K := by
  obtain ⟨d, rfl⟩ := d
  exact x_lmul d k
theorem z_land {x y : Int64} (d : decode Y.2.1 pc = .ok (.land, 1) ∧ pc + 1 = pc') (k : Wz E Y pc' lv (.long (x &&& y) :: st) σ K) : Wz E Y pc lv (.long y :: .long x :: st) σ K := by
  obtain ⟨d, rfl⟩ := d
  exact x_land d k
theorem z_lor {x y : Int64} (d : decode Y.2.1 pc = .ok (.lor, 1) ∧ pc + 1 = pc') (k : Wz E Y pc' lv (.long (x ||| y) :: st) σ K) : Wz E Y pc lv (.long y :: .long x :: st) σ K := by
  obtain ⟨d, rfl⟩ := d
  exact x_lor d k
theorem z_lxor {x y : Int64} (d : decode Y.2.1 pc = .ok (.lxor, 1) ∧ pc + 1 = pc') (k : Wz E Y pc' lv (.long (x ^^^ y) :: st) σ K) : Wz E Y pc lv (.long y :: .long x :: st) σ K := by
  obtain ⟨d, rfl⟩ := d
  exact x_lxor d k
theorem z_idiv {x y : Int32} (d : decode Y.2.1 pc = .ok (.idiv, 1) ∧ pc + 1 = pc') (hne : ¬ y = 0) (k : Wz E Y pc' lv (.int (x / y) :: st) σ K) : Wz E Y pc lv (.int y :: .int x :: st) σ K := by
  obtain ⟨d, rfl⟩ := d
  exact x_idiv d hne k
theorem z_irem {x y : Int32} (d : decode Y.2.1 pc = .ok (.irem, 1) ∧ pc + 1 = pc') (hne : ¬ y = 0) (k : Wz E Y pc' lv (.int (x - x / y * y) :: st) σ K) : Wz E Y pc lv (.int y :: .int x :: st) σ K := by
  obtain ⟨d, rfl⟩ := d
  exact x_irem d hne k
theorem z_ldiv {x y : Int64} (d : decode Y.2.1 pc = .ok (.ldiv, 1) ∧ pc + 1 = pc') (hne : ¬ y = 0) (k : Wz E Y pc' lv (.long (x / y) :: st) σ K) : Wz E Y pc lv (.long y :: .long x :: st) σ K := by
  obtain ⟨d, rfl⟩ := d
  exact x_ldiv d hne k
theorem z_lrem {x y : Int64} (d : decode Y.2.1 pc = .ok (.lrem, 1) ∧ pc + 1 = pc') (hne : ¬ y = 0) (k : Wz E Y pc' lv (.long (x - x / y * y) :: st) σ K) : Wz E Y pc lv (.long y :: .long x :: st) σ K := by
  obtain ⟨d, rfl⟩ := d
  exact x_lrem d hne k
theorem z_ineg {x : Int32} (d : decode Y.2.1 pc = .ok (.ineg, 1) ∧ pc + 1 = pc') (k : Wz E Y pc' lv (.int (-x) :: st) σ K) : Wz E Y pc lv (.int x :: st) σ K := by
  obtain ⟨d, rfl⟩ := d
  exact x_ineg d k
theorem z_lneg {x : Int64} (d : decode Y.2.1 pc = .ok (.lneg, 1) ∧ pc + 1 = pc') (k : Wz E Y pc' lv (.long (-x) :: st) σ K) : Wz E Y pc lv (.long x :: st) σ K := by
  obtain ⟨d, rfl⟩ := d
  exact x_lneg d k
theorem z_iushr {x y v : Int32} (d : decode Y.2.1 pc = .ok (.iushr, 1) ∧ pc + 1 = pc') (hv : (x.toUInt32 >>> (y.toUInt32 &&& Int32.toUInt32 31)).toInt32 = v) (k : Wz E Y pc' lv (.int v :: st) σ K) : Wz E Y pc lv (.int y :: .int x :: st) σ K := by
  obtain ⟨d, rfl⟩ := d
  exact x_iushr d hv k
theorem z_lshl {x v : Int64} {y : Int32} (d : decode Y.2.1 pc = .ok (.lshl, 1) ∧ pc + 1 = pc') (hv : x <<< (y.toInt64 &&& 63) = v) (k : Wz E Y pc' lv (.long v :: st) σ K) : Wz E Y pc lv (.int y :: .long x :: st) σ K := by
  obtain ⟨d, rfl⟩ := d
  exact x_lshl d hv k
theorem z_lshr {x v : Int64} {y : Int32} (d : decode Y.2.1 pc = .ok (.lshr, 1) ∧ pc + 1 = pc') (hv : x >>> (y.toInt64 &&& 63) = v) (k : Wz E Y pc' lv (.long v :: st) σ K) : Wz E Y pc lv (.int y :: .long x :: st) σ K := by
  obtain ⟨d, rfl⟩ := d
  exact x_lshr d hv k
theorem z_lushr {x v : Int64} {y : Int32} (d : decode Y.2.1 pc = .ok (.lushr, 1) ∧ pc + 1 = pc') (hv : (x.toUInt64 >>> (y.toInt64.toUInt64 &&& Int64.toUInt64 63)).toInt64 = v) (k : Wz E Y pc' lv (.long v :: st) σ K) : Wz E Y pc lv (.int y :: .long x :: st) σ K := by
  obtain ⟨d, rfl⟩ := d
  exact x_lushr d hv k
theorem z_i2l {x : Int32} {v : Int64} (d : decode Y.2.1 pc = .ok (.i2l, 1) ∧ pc + 1 = pc') (hv : x.toInt64 = v) (k : Wz E Y pc' lv (.long v :: st) σ K) : Wz E Y pc lv (.int x :: st) σ K := by
  obtain ⟨d, rfl⟩ := d
  exact x_i2l d hv k
theorem z_l2i {x : Int64} {v : Int32} (d : decode Y.2.1 pc = .ok (.l2i, 1) ∧ pc + 1 = pc') (hv : x.toInt32 = v) (k : Wz E Y pc' lv (.int v :: st) σ K) : Wz E Y pc lv (.long x :: st) σ K := by
  obtain ⟨d, rfl⟩ := d
  exact x_l2i d hv k
theorem z_i2c {x : Int32} {v : Int32} (d : decode Y.2.1 pc = .ok (.i2c, 1) ∧ pc + 1 = pc') (hv : (x.toUInt32 % 65536).toInt32 = v) (k : Wz E Y pc' lv (.int v :: st) σ K) : Wz E Y pc lv (.int x :: st) σ K := by
  obtain ⟨d, rfl⟩ := d
  exact x_i2c d hv k
theorem z_lcmp {x y : Int64} (d : decode Y.2.1 pc = .ok (.lcmp, 1) ∧ pc + 1 = pc') (k : Wz E Y pc' lv (.int (lg_cmp x y) :: st) σ K) : Wz E Y pc lv (.long y :: .long x :: st) σ K := by
  obtain ⟨d, rfl⟩ := d
  exact x_lcmp d k
theorem z_dupi {x : Int32} (d : decode Y.2.1 pc = .ok (.dup, 1) ∧ pc + 1 = pc') (k : Wz E Y pc' lv (.int x :: .int x :: st) σ K) : Wz E Y pc lv (.int x :: st) σ K := by
  obtain ⟨d, rfl⟩ := d
  exact x_dupi d k
theorem z_dupr {x : Nat} (d : decode Y.2.1 pc = .ok (.dup, 1) ∧ pc + 1 = pc') (k : Wz E Y pc' lv (.ref x :: .ref x :: st) σ K) : Wz E Y pc lv (.ref x :: st) σ K := by
  obtain ⟨d, rfl⟩ := d
  exact x_dupr d k
theorem z_popi {x : Int32} (d : decode Y.2.1 pc = .ok (.pop, 1) ∧ pc + 1 = pc') (k : Wz E Y pc' lv st σ K) : Wz E Y pc lv (.int x :: st) σ K := by
  obtain ⟨d, rfl⟩ := d
  exact x_popi d k
theorem z_pop2l {x : Int64} (d : decode Y.2.1 pc = .ok (.pop2, 1) ∧ pc + 1 = pc') (k : Wz E Y pc' lv st σ K) : Wz E Y pc lv (.long x :: st) σ K := by
  obtain ⟨d, rfl⟩ := d
  exact x_pop2l d k
theorem z_dup2ir {i : Int32} {x : Nat} (d : decode Y.2.1 pc = .ok (.dup2, 1) ∧ pc + 1 = pc') (k : Wz E Y pc' lv (.int i :: .ref x :: .int i :: .ref x :: st) σ K) : Wz E Y pc lv (.int i :: .ref x :: st) σ K := by
  obtain ⟨d, rfl⟩ := d
  exact x_dup2ir d k
theorem z_dup2l {x : Int64} (d : decode Y.2.1 pc = .ok (.dup2, 1) ∧ pc + 1 = pc') (k : Wz E Y pc' lv (.long x :: .long x :: st) σ K) : Wz E Y pc lv (.long x :: st) σ K := by
  obtain ⟨d, rfl⟩ := d
  exact x_dup2l d k
theorem z_if_eq {x : Int32} {off : Int} {tgt : Nat} (d : decode Y.2.1 pc = .ok (.ifCond .eq off, 3) ∧ (pc : Int) + off = (tgt : Int) ∧ pc + 3 = pc') (kt : x = 0 → Wz E Y tgt lv st σ K) (kf : ¬ x = 0 → Wz E Y pc' lv st σ K) : Wz E Y pc lv (.int x :: st) σ K := by
  obtain ⟨d, ht, rfl⟩ := d
  exact x_if_eq d ht kt kf
theorem z_icmp_eq {x y : Int32} {off : Int} {tgt : Nat} (d : decode Y.2.1 pc = .ok (.if_icmp .eq off, 3) ∧ (pc : Int) + off = (tgt : Int) ∧ pc + 3 = pc') (kt : x = y → Wz E Y tgt lv st σ K) (kf : ¬ x = y → Wz E Y pc' lv st σ K) : Wz E Y pc lv (.int y :: .int x :: st) σ K := by
  obtain ⟨d, ht, rfl⟩ := d
  exact x_icmp_eq d ht kt kf
theorem z_if_ne {x : Int32} {off : Int} {tgt : Nat} (d : decode Y.2.1 pc = .ok (.ifCond .ne off, 3) ∧ (pc : Int) + off = (tgt : Int) ∧ pc + 3 = pc') (kt : ¬ x = 0 → Wz E Y tgt lv st σ K) (kf : x = 0 → Wz E Y pc' lv st σ K) : Wz E Y pc lv (.int x :: st) σ K := by
  obtain ⟨d, ht, rfl⟩ := d
  exact x_if_ne d ht kt kf
theorem z_icmp_ne {x y : Int32} {off : Int} {tgt : Nat} (d : decode Y.2.1 pc = .ok (.if_icmp .ne off, 3) ∧ (pc : Int) + off = (tgt : Int) ∧ pc + 3 = pc') (kt : ¬ x = y → Wz E Y tgt lv st σ K) (kf : x = y → Wz E Y pc' lv st σ K) : Wz E Y pc lv (.int y :: .int x :: st) σ K := by
  obtain ⟨d, ht, rfl⟩ := d
  exact x_icmp_ne d ht kt kf
theorem z_if_lt {x : Int32} {off : Int} {tgt : Nat} (d : decode Y.2.1 pc = .ok (.ifCond .lt off, 3) ∧ (pc : Int) + off = (tgt : Int) ∧ pc + 3 = pc') (kt : x < 0 → Wz E Y tgt lv st σ K) (kf : ¬ x < 0 → Wz E Y pc' lv st σ K) : Wz E Y pc lv (.int x :: st) σ K := by
  obtain ⟨d, ht, rfl⟩ := d
  exact x_if_lt d ht kt kf
theorem z_icmp_lt {x y : Int32} {off : Int} {tgt : Nat} (d : decode Y.2.1 pc = .ok (.if_icmp .lt off, 3) ∧ (pc : Int) + off = (tgt : Int) ∧ pc + 3 = pc') (kt : x < y → Wz E Y tgt lv st σ K) (kf : ¬ x < y → Wz E Y pc' lv st σ K) : Wz E Y pc lv (.int y :: .int x :: st) σ K := by
  obtain ⟨d, ht, rfl⟩ := d
  exact x_icmp_lt d ht kt kf
theorem z_if_ge {x : Int32} {off : Int} {tgt : Nat} (d : decode Y.2.1 pc = .ok (.ifCond .ge off, 3) ∧ (pc : Int) + off = (tgt : Int) ∧ pc + 3 = pc') (kt : 0 ≤ x → Wz E Y tgt lv st σ K) (kf : ¬ 0 ≤ x → Wz E Y pc' lv st σ K) : Wz E Y pc lv (.int x :: st) σ K := by
  obtain ⟨d, ht, rfl⟩ := d
  exact x_if_ge d ht kt kf
theorem z_icmp_ge {x y : Int32} {off : Int} {tgt : Nat} (d : decode Y.2.1 pc = .ok (.if_icmp .ge off, 3) ∧ (pc : Int) + off = (tgt : Int) ∧ pc + 3 = pc') (kt : y ≤ x → Wz E Y tgt lv st σ K) (kf : ¬ y ≤ x → Wz E Y pc' lv st σ K) : Wz E Y pc lv (.int y :: .int x :: st) σ K := by
  obtain ⟨d, ht, rfl⟩ := d
  exact x_icmp_ge d ht kt kf
theorem z_if_gt {x : Int32} {off : Int} {tgt : Nat} (d : decode Y.2.1 pc = .ok (.ifCond .gt off, 3) ∧ (pc : Int) + off = (tgt : Int) ∧ pc + 3 = pc') (kt : 0 < x → Wz E Y tgt lv st σ K) (kf : ¬ 0 < x → Wz E Y pc' lv st σ K) : Wz E Y pc lv (.int x :: st) σ K := by
  obtain ⟨d, ht, rfl⟩ := d
  exact x_if_gt d ht kt kf
theorem z_icmp_gt {x y : Int32} {off : Int} {tgt : Nat} (d : decode Y.2.1 pc = .ok (.if_icmp .gt off, 3) ∧ (pc : Int) + off = (tgt : Int) ∧ pc + 3 = pc') (kt : y < x → Wz E Y tgt lv st σ K) (kf : ¬ y < x → Wz E Y pc' lv st σ K) : Wz E Y pc lv (.int y :: .int x :: st) σ K := by
  obtain ⟨d, ht, rfl⟩ := d
  exact x_icmp_gt d ht kt kf
theorem z_if_le {x : Int32} {off : Int} {tgt : Nat} (d : decode Y.2.1 pc = .ok (.ifCond .le off, 3) ∧ (pc : Int) + off = (tgt : Int) ∧ pc + 3 = pc') (kt : x ≤ 0 → Wz E Y tgt lv st σ K) (kf : ¬ x ≤ 0 → Wz E Y pc' lv st σ K) : Wz E Y pc lv (.int x :: st) σ K := by
  obtain ⟨d, ht, rfl⟩ := d
  exact x_if_le d ht kt kf
theorem z_icmp_le {x y : Int32} {off : Int} {tgt : Nat} (d : decode Y.2.1 pc = .ok (.if_icmp .le off, 3) ∧ (pc : Int) + off = (tgt : Int) ∧ pc + 3 = pc') (kt : x ≤ y → Wz E Y tgt lv st σ K) (kf : ¬ x ≤ y → Wz E Y pc' lv st σ K) : Wz E Y pc lv (.int y :: .int x :: st) σ K := by
  obtain ⟨d, ht, rfl⟩ := d
  exact x_icmp_le d ht kt kf
theorem z_goto {off : Int} {tgt : Nat} (d : decode Y.2.1 pc = .ok (.goto off, 3) ∧ (pc : Int) + off = (tgt : Int) ∧ pc + 3 = pc') (k : Wz E Y tgt lv st σ K) : Wz E Y pc lv st σ K := by
  obtain ⟨d, ht, rfl⟩ := d
  exact x_goto d ht k
theorem z_sub (ks : List Nat) (h : lv_pick lv ks = lv') (k : Wz E Y pc lv' st σ K) : Wz E Y pc lv st σ K := x_sub ks h k
theorem z_geti {k j idx ci : Nat} {l : List Nat} {ty : FieldType} {fin : Bool} (F : xFl Y.1.cls idx ci j ty fin) (hk : k < 215) (hd : KD k = (ci, l)) (hc : ci < 100) (hj : l[j]? = some 0) (d : decode Y.2.1 pc = .ok (.getfield idx, 3) ∧ pc + 3 = pc') (kk : Wz E Y pc' lv (.int (σ.1 k j) :: st) σ K) : Wz E Y pc lv (.ref k :: st) σ K := by
  obtain ⟨d, rfl⟩ := d
  exact x_geti F hk hd hc hj d kk
theorem z_getj {k j idx ci : Nat} {l : List Nat} {ty : FieldType} {fin : Bool} (F : xFl Y.1.cls idx ci j ty fin) (hk : k < 215) (hd : KD k = (ci, l)) (hc : ci < 100) (hj : l[j]? = some 1) (d : decode Y.2.1 pc = .ok (.getfield idx, 3) ∧ pc + 3 = pc') (kk : Wz E Y pc' lv (.long (σ.2 k j) :: st) σ K) : Wz E Y pc lv (.ref k :: st) σ K := by
  obtain ⟨d, rfl⟩ := d
  exact x_getj F hk hd hc hj d kk
theorem z_getr {k j i idx ci : Nat} {l : List Nat} {ty : FieldType} {fin : Bool} (F : xFl Y.1.cls idx ci j ty fin) (hk : k < 215) (hd : KD k = (ci, l)) (hc : ci < 100) (hj : l[j]? = some 2) (hr : RF k j = i + 1) (d : decode Y.2.1 pc = .ok (.getfield idx, 3) ∧ pc + 3 = pc') (kk : Wz E Y pc' lv (.ref i :: st) σ K) : Wz E Y pc lv (.ref k :: st) σ K := by
  obtain ⟨d, rfl⟩ := d
  exact x_getr F hk hd hc hj hr d kk
theorem z_puti {k j idx ci : Nat} {l : List Nat} {ty : FieldType} {v : Int32} (F : xFl Y.1.cls idx ci j ty false) (hk : k < 215) (hd : KD k = (ci, l)) (hc : ci < 100) (hj : l[j]? = some 0) (hw : narrow ty (.int v) = .int v) (hf : fits ty (.int v) = true) (d : decode Y.2.1 pc = .ok (.putfield idx, 3) ∧ pc + 3 = pc') (kk : Wz E Y pc' lv st (zI σ k j v) K) : Wz E Y pc lv (.int v :: .ref k :: st) σ K := by
  obtain ⟨d, rfl⟩ := d
  exact x_puti F hk hd hc hj hw hf d kk
theorem z_putj {k j idx ci : Nat} {l : List Nat} {v : Int64} (F : xFl Y.1.cls idx ci j .long false) (hk : k < 215) (hd : KD k = (ci, l)) (hc : ci < 100) (hj : l[j]? = some 1) (d : decode Y.2.1 pc = .ok (.putfield idx, 3) ∧ pc + 3 = pc') (kk : Wz E Y pc' lv st (zJ σ k j v) K) : Wz E Y pc lv (.long v :: .ref k :: st) σ K := by
  obtain ⟨d, rfl⟩ := d
  exact x_putj F hk hd hc hj d kk
theorem z_iald {k z : Nat} {i : Int32} (hk : k < 215) (hd : KD k = (100, [z])) (hi : vp_in i z) (d : decode Y.2.1 pc = .ok (.iaload, 1) ∧ pc + 1 = pc') (kk : Wz E Y pc' lv (.int (σ.1 k i.toNatClampNeg) :: st) σ K) : Wz E Y pc lv (.int i :: .ref k :: st) σ K := by
  obtain ⟨d, rfl⟩ := d
  exact x_iald hk hd hi d kk
theorem z_zald {k z : Nat} {i : Int32} (hk : k < 215) (hd : KD k = (102, [z])) (hi : vp_in i z) (d : decode Y.2.1 pc = .ok (.baload, 1) ∧ pc + 1 = pc') (kk : Wz E Y pc' lv (.int (σ.1 k i.toNatClampNeg) :: st) σ K) : Wz E Y pc lv (.int i :: .ref k :: st) σ K := by
  obtain ⟨d, rfl⟩ := d
  exact x_zald hk hd hi d kk
theorem z_lald {k z : Nat} {i : Int32} (hk : k < 215) (hd : KD k = (101, [z])) (hi : vp_in i z) (d : decode Y.2.1 pc = .ok (.laload, 1) ∧ pc + 1 = pc') (kk : Wz E Y pc' lv (.long (σ.2 k i.toNatClampNeg) :: st) σ K) : Wz E Y pc lv (.int i :: .ref k :: st) σ K := by
  obtain ⟨d, rfl⟩ := d
  exact x_lald hk hd hi d kk
theorem z_iast {k z : Nat} {i : Int32} {x : Int32} (hk : k < 215) (hd : KD k = (100, [z])) (hi : vp_in i z) (d : decode Y.2.1 pc = .ok (.iastore, 1) ∧ pc + 1 = pc') (kk : Wz E Y pc' lv st (zI σ k i.toNatClampNeg x) K) : Wz E Y pc lv (.int x :: .int i :: .ref k :: st) σ K := by
  obtain ⟨d, rfl⟩ := d
  exact x_iast hk hd hi d kk
theorem z_zast {k z : Nat} {i : Int32} {x : Int32} (hk : k < 215) (hd : KD k = (102, [z])) (hi : vp_in i z) (d : decode Y.2.1 pc = .ok (.bastore, 1) ∧ pc + 1 = pc') (kk : Wz E Y pc' lv st (zI σ k i.toNatClampNeg (vp_nar .boolean x)) K) : Wz E Y pc lv (.int x :: .int i :: .ref k :: st) σ K := by
  obtain ⟨d, rfl⟩ := d
  exact x_zast hk hd hi d kk
theorem z_last {k z : Nat} {i : Int32} {x : Int64} (hk : k < 215) (hd : KD k = (101, [z])) (hi : vp_in i z) (d : decode Y.2.1 pc = .ok (.lastore, 1) ∧ pc + 1 = pc') (kk : Wz E Y pc' lv st (zJ σ k i.toNatClampNeg x) K) : Wz E Y pc lv (.long x :: .int i :: .ref k :: st) σ K := by
  obtain ⟨d, rfl⟩ := d
  exact x_last hk hd hi d kk
theorem z_iret {v : Int32} {ty : FieldType} (hr : Y.2.2.2.1 = some ty) (hw : narrow ty (.int v) = .int v) (d : decode Y.2.1 pc = .ok (.ireturn, 1)) (hK : K (some (.int v)) σ) : Wz E Y pc lv [.int v] σ K := x_iret hr hw d (Nat.zero_le _) (Nat.zero_le _) ⟨rfl, σ, rfl, hK⟩
theorem z_lret {v : Int64} (hr : Y.2.2.2.1 = some .long) (d : decode Y.2.1 pc = .ok (.lreturn, 1)) (hK : K (some (.long v)) σ) : Wz E Y pc lv [.long v] σ K := x_lret hr d (Nat.zero_le _) (Nat.zero_le _) ⟨rfl, σ, rfl, hK⟩
theorem z_vret (hr : Y.2.2.2.1 = none) (d : decode Y.2.1 pc = .ok (.return_, 1)) (hK : K none σ) : Wz E Y pc lv [] σ K := x_vret hr d (Nat.zero_le _) (Nat.zero_le _) ⟨rfl, σ, rfl, hK⟩
theorem z_entry {av : List Value} {lv0 : List (Nat × Value)} (hy : plainName Y.1.cls = true) (hlen : ∀ a, (lg_sl (av.map (xrel a))).length ≤ Y.2.2.1) (hlv : lv_args 0 av = lv0) (k : Wz E Y 0 lv0 [] σ K) : Cz E Y av σ K := x_entry hy hlen hlv k
noncomputable def zRm (Y Z : xY) : Prop := (Z.2.2.2.2.frames + 1 ≤ Y.2.2.2.2.frames ∧ 8 + (Z.2.2.1 + 11) + Z.2.2.2.2.locals ≤ Y.2.2.2.2.locals) ∧ (Z.2.2.2.2.cells = 0 ∧ Z.2.2.2.2.slots = 0)
theorem zRm.x {Y Z : xY} (h : zRm Y Z) : xRm Y Z 0 0 := ⟨h.1, by rw [h.2.1]; exact Nat.zero_le _, by rw [h.2.2]; exact Nat.zero_le _⟩
theorem z_after {Y Z : xY} {rest : List Value} (hrm : zRm Y Z) : ∀ (v : Option Value) (n' : Nat) (s' : xS), zK (fun v σ' => Wz E Y pc lv (v.toList ++ rest) σ' K) v n' s' → Wx E Y pc lv (v.toList ++ rest) n' (0 + Z.2.2.2.2.cells) (0 + Z.2.2.2.2.slots) s' (xMQ E Y (zK K)) := by
  intro v n' s' ⟨h1, σ1, h2, h3⟩
  subst h1
  subst h2
  rw [hrm.2.1, hrm.2.2]
  exact h3
theorem z_invV {Z : xY} {idx kb ci : Nat} {As rest : List Value} {l : List Nat} {nA : Nat} (hM : xM Y.1.cls idx Z nA) (hin : Cond.instanceMethod Z.1 ∈ TBg) (hsel : Cond.selects Z.1.cls Z.1 Z.1 ∈ TBg) (hk : kb < 215) (hd : KD kb = (ci, l)) (hc : ci < 100) (hcn : (cls[ci]?.map fun q => q.1) = some Z.1.cls) (hrm : zRm Y Z) (d : decode Y.2.1 pc = .ok (.invokevirtual idx, 3) ∧ pc + 3 = pc') (hA : As.length = nA) (hst : st = As.reverse ++ .ref kb :: rest) (hcat : (rest.map fun v => v.category).sum ≤ 8) (hlv : (lv.all fun q => xokv 215 q.2) = true) (hrs : (rest.all (xokv 215)) = true)
    (kk : Cz E Z (.ref kb :: As) σ (fun v σ' => Wz E Y pc' lv (v.toList ++ rest) σ' K)) : Wz E Y pc lv st σ K := by
  obtain ⟨d, rfl⟩ := d
  exact x_invV d hM hin hsel hA hst hk hd hc hcn hrm.x hcat hlv hrs (Cx.mono kk (z_after hrm))
theorem z_invS {Z : xY} {idx : Nat} {As rest : List Value} {nA : Nat} (hM : xM Y.1.cls idx Z nA) (hstat : Cond.static Z.1 ∈ TBg) (hrm : zRm Y Z) (d : decode Y.2.1 pc = .ok (.invokestatic idx, 3) ∧ pc + 3 = pc') (hA : As.length = nA) (hst : st = As.reverse ++ rest) (hcat : (rest.map fun v => v.category).sum ≤ 8) (hlv : (lv.all fun q => xokv 215 q.2) = true) (hrs : (rest.all (xokv 215)) = true)
    (kk : Cz E Z As σ (fun v σ' => Wz E Y pc' lv (v.toList ++ rest) σ' K)) : Wz E Y pc lv st σ K := by
  obtain ⟨d, rfl⟩ := d
  exact x_invS d hM hstat hA hst hrm.x hcat hlv hrs (Cx.mono kk (z_after hrm))
theorem z_tableIn {dflt lo hi : Int} {offs : Array Int} {len : Nat} {x : Int32} {off : Int} {tgt : Nat} (d : decode Y.2.1 pc = .ok (.tableswitch dflt lo hi offs, len)) (h1 : ¬ x.toInt < lo) (h2 : ¬ hi < x.toInt) (ho : offs[(x.toInt - lo).toNat]? = some off) (ht : (pc : Int) + off = (tgt : Int)) (k : Wz E Y tgt lv st σ K) : Wz E Y pc lv (.int x :: st) σ K := x_tableIn d h1 h2 ho ht k
theorem z_tableOut {dflt lo hi : Int} {offs : Array Int} {len : Nat} {x : Int32} {tgt : Nat} (d : decode Y.2.1 pc = .ok (.tableswitch dflt lo hi offs, len)) (h : x.toInt < lo ∨ hi < x.toInt) (ht : (pc : Int) + dflt = (tgt : Int)) (k : Wz E Y tgt lv st σ K) : Wz E Y pc lv (.int x :: st) σ K := x_tableOut d h ht k
theorem z_lookup {dflt : Int} {ps : Array (Int × Int)} {len : Nat} {x : Int32} {off : Int} {tgt : Nat} (d : decode Y.2.1 pc = .ok (.lookupswitch dflt ps, len)) (hp : (ps.toList.zip (ps.toList.drop 1)).all (fun (a, next) => a.1 < next.1) = true) (ho : Op.lookupswitch.offset ps.toList dflt x.toInt = off) (ht : (pc : Int) + off = (tgt : Int)) (k : Wz E Y tgt lv st σ K) : Wz E Y pc lv (.int x :: st) σ K := x_lookup d hp ho ht k
noncomputable def zIr (σ : zS) (k : Nat) (f : Nat → Int32) : zS := (xup σ.1 k f, σ.2)
noncomputable def zJr (σ : zS) (k : Nat) (f : Nat → Int64) : zS := (σ.1, xup σ.2 k f)
theorem z_copyi {idx k0 k1 z0 z1 : Nat} {sp dp v : Int32} (w1 : Cond.methodLink Y.1.cls idx arraycopyName ∈ TBg) (w2 : Cond.native arraycopyName ∈ TBg) (w3 : Cond.static arraycopyName ∈ TBg) (w4 : Cond.initialized "java/lang/System" ∈ TBg) (hk0 : k0 < 215) (hk1 : k1 < 215) (hd0 : KD k0 = (100, [z0])) (hd1 : KD k1 = (100, [z1])) (hb : ¬ sp < 0 ∧ ¬ dp < 0 ∧ ¬ v < 0 ∧ sp.toNatClampNeg + v.toNatClampNeg ≤ z0 ∧ dp.toNatClampNeg + v.toNatClampNeg ≤ z1) (hfr : 1 ≤ Y.2.2.2.2.frames) (hlo : 40 ≤ Y.2.2.2.2.locals) (hcat : (st.map fun v => v.category).sum ≤ 8) (d : decode Y.2.1 pc = .ok (.invokestatic idx, 3) ∧ pc + 3 = pc')
    (kk : Wz E Y pc' lv st (zIr σ k1 (va_cpy (σ.1 k0) (σ.1 k1) sp.toNatClampNeg dp.toNatClampNeg v.toNatClampNeg)) K) : Wz E Y pc lv (.int v :: .int dp :: .ref k1 :: .int sp :: .ref k0 :: st) σ K := by
  obtain ⟨d, rfl⟩ := d
  exact x_copyi d w1 w2 w3 w4 hk0 hk1 hd0 hd1 hb.1 hb.2.1 hb.2.2.1 hb.2.2.2.1 hb.2.2.2.2 hfr hlo hcat kk
theorem z_copyl {idx k0 k1 z0 z1 : Nat} {sp dp v : Int32} (w1 : Cond.methodLink Y.1.cls idx arraycopyName ∈ TBg) (w2 : Cond.native arraycopyName ∈ TBg) (w3 : Cond.static arraycopyName ∈ TBg) (w4 : Cond.initialized "java/lang/System" ∈ TBg) (hk0 : k0 < 215) (hk1 : k1 < 215) (hd0 : KD k0 = (101, [z0])) (hd1 : KD k1 = (101, [z1])) (hb : ¬ sp < 0 ∧ ¬ dp < 0 ∧ ¬ v < 0 ∧ sp.toNatClampNeg + v.toNatClampNeg ≤ z0 ∧ dp.toNatClampNeg + v.toNatClampNeg ≤ z1) (hfr : 1 ≤ Y.2.2.2.2.frames) (hlo : 40 ≤ Y.2.2.2.2.locals) (hcat : (st.map fun v => v.category).sum ≤ 8) (d : decode Y.2.1 pc = .ok (.invokestatic idx, 3) ∧ pc + 3 = pc')
    (kk : Wz E Y pc' lv st (zJr σ k1 (va_cpy (σ.2 k0) (σ.2 k1) sp.toNatClampNeg dp.toNatClampNeg v.toNatClampNeg)) K) : Wz E Y pc lv (.int v :: .int dp :: .ref k1 :: .int sp :: .ref k0 :: st) σ K := by
  obtain ⟨d, rfl⟩ := d
  exact x_copyl d w1 w2 w3 w4 hk0 hk1 hd0 hd1 hb.1 hb.2.1 hb.2.2.1 hb.2.2.2.1 hb.2.2.2.2 hfr hlo hcat kk
theorem z_max {idx : Nat} {x y : Int32} (w1 : Cond.methodLink Y.1.cls idx Lib.Math.max.name ∈ TBg) (w2 : Cond.static Lib.Math.max.name ∈ TBg) (w3 : Cond.initialized "java/lang/Math" ∈ TBg) (w4 : Cond.code Lib.Math.max.name Lib.Math.max.code 2 (some .int) ∈ TBg) (hfr : 1 ≤ Y.2.2.2.2.frames) (hlo : 40 ≤ Y.2.2.2.2.locals) (hcat : (st.map fun v => v.category).sum ≤ 8) (d : decode Y.2.1 pc = .ok (.invokestatic idx, 3) ∧ pc + 3 = pc')
    (kk : Wz E Y pc' lv (.int (if x < y then y else x) :: st) σ K) : Wz E Y pc lv (.int y :: .int x :: st) σ K := by
  obtain ⟨d, rfl⟩ := d
  exact x_max d w1 w2 w3 w4 hfr hlo (Nat.zero_le _) (Nat.zero_le _) hcat kk
end ZR
end
