/-! ===== the judgement xW. ===== -/
def xag (n : Nat) (a a' : Nat → Nat) : Prop := ∀ i, i < n ∨ 1000 ≤ i → a' i = a i
/-- the heap holds the cells 0 .. n - 1 as σ has them, at a 0 .., apart, none below b -/
def xH (E : xV) (a : Nat → Nat) (n : Nat) (σ : xS) (H : Heap) : Prop :=
  (∀ i j, i < n → j < n → a i = a j → i = j) ∧ (∀ i, i < n → E.2.2.1 ≤ a i) ∧ (∀ k j, σ.2.2 k j ≤ n) ∧ (n ≤ 1000 ∧ ∀ i, a (1000 + i) = E.2.2.2.1 i) ∧ va_P E.2.1.1 cls (xW E.2.1 a n σ) H
theorem xH.D {E : xV} {a : Nat → Nat} {n : Nat} {σ : xS} {H : Heap} (h : xH E a n σ H) : va_D (fun q => E.2.2.1 ≤ q) (xW E.2.1 a n σ) := by
  refine ⟨fun i j p q hi hj hpq => ?_, fun k q hk => ?_⟩
  · obtain ⟨h1, rfl⟩ := xW_inv hi
    obtain ⟨h2, rfl⟩ := xW_inv hj
    exact h.1 i j h1 h2 hpq
  · obtain ⟨h1, rfl⟩ := xW_inv hk
    exact h.2.1 k h1
/-- the class's words: how long, their letters; the row of ranks -/
def SLN : List Nat := [14, 2, 3, 5, 3, 3, 3, 6, 2, 3, 5, 2, 2, 8, 3, 3, 4, 2, 3, 2, 4]
def SBY : List (List Int32) := [[40, 41, 91, 93, 43, 45, 42, 47, 37, 60, 62, 61, 59, 46], [110, 111], [121, 101, 115], [109, 97, 121, 98, 101], [97, 110, 121], [111, 119, 110], [97, 108, 108], [114, 119, 120, 100, 103, 111], [105, 102], [110, 111, 116], [107, 110, 111, 119, 110], [109, 101], [105, 116], [97, 98, 99, 100, 101, 102, 103, 104], [110, 111, 119], [97, 103, 101], [115, 105, 122, 101], [105, 110], [97, 110, 100], [111, 114], [109, 117, 115, 116]]
def RNK : List Int32 := [3, 0, 1, 2]
/-- what lies there from the start, and nobody writes it: words, statics -/
def xFz (E : xV) (U : State) : Prop :=
  (∀ i : Nat, i < 21 → va_O "java/lang/String" (E.2.2.2.1 i) (fun q => E.2.2.1 ≤ q) U E.2.2.2.2 ∧ va_OF "java/lang/String" "coder" "B" (.int 0) (E.2.2.2.1 i) (fun q => E.2.2.1 ≤ q) U E.2.2.2.2 ∧ va_OF "java/lang/String" "value" "[B" (.ref (E.2.2.2.1 (1000 + i))) (E.2.2.2.1 i) (fun q => E.2.2.1 ≤ q) U E.2.2.2.2 ∧ va_T .byte (E.2.2.2.1 (1000 + i)) (SLN.getD i 0) (fun j => .int ((SBY.getD i []).getD j 0)) (fun q => E.2.2.1 ≤ q) U E.2.2.2.2) ∧
  va_Z "java/lang/String" "COMPACT_STRINGS" "Z" (.int 1) (fun q => E.2.2.1 ≤ q) U E.2.2.2.2 ∧
  (va_Z "jdk/internal/util/Preconditions" "SIOOBE_FORMATTER" "Ljava/util/function/BiFunction;" .null (fun q => E.2.2.1 ≤ q) U E.2.2.2.2 ∨ va_Z "jdk/internal/util/Preconditions" "SIOOBE_FORMATTER" "Ljava/util/function/BiFunction;" (.ref (E.2.2.2.1 2000)) (fun q => E.2.2.1 ≤ q) U E.2.2.2.2) ∧
  va_Z "RightsHouse$Judge" "RANK" "[I" (.ref (E.2.2.2.1 2001)) (fun q => E.2.2.1 ≤ q) U E.2.2.2.2 ∧
  va_T .int (E.2.2.2.1 2001) 4 (fun j => .int (RNK.getD j 0)) (fun q => E.2.2.1 ≤ q) U E.2.2.2.2
theorem xFz.moved {E : xV} {u U : State} (hvm : u.vm.Alike U.vm) (h : xFz E u) : xFz E U :=
  ⟨fun i hi => ⟨va_O.moved hvm (h.1 i hi).1, va_OF.moved hvm (h.1 i hi).2.1, va_OF.moved hvm (h.1 i hi).2.2.1, va_T.moved hvm (h.1 i hi).2.2.2⟩, va_Z.moved hvm h.2.1, h.2.2.1.imp (va_Z.moved hvm) (va_Z.moved hvm), va_Z.moved hvm h.2.2.2.1, va_T.moved hvm h.2.2.2.2⟩
/-- what the tables say all through -/
def xKs (E : xV) (U : State) : Prop := va_K E.2.1.1 cls (xT E.2.1) U ∧ (∀ (i : Nat) (q : String × (Nat × String)), STR[i]? = some q → vk_R q.1 q.2.1 q.2.2 (E.2.2.2.1 i) U) ∧ (Cond.arrayOver (.array .long)).before #[] U = true ∧ xFz E U
theorem xKs.warm {E : xV} {s U : State} (hW : s.WarmedH U.vm) (h : xKs E s) : xKs E U := ⟨va_K.moved hW.alike h.1, fun i q hq => (h.2.1 i q hq).warm hW, arrayOver_alikeB hW.alike h.2.2.1, h.2.2.2.moved hW.alike⟩
theorem xKs.same {E : xV} {s U : State} (hv : U.vm = s.vm) (h : xKs E s) : xKs E U := ⟨va_K.moved (by rw [hv]; exact Vm.Alike.refl s.vm) h.1, fun i q hq => (h.2.1 i q hq).same hv, arrayOver_alikeB (by rw [hv]; exact Vm.Alike.refl s.vm) h.2.2.1, h.2.2.2.moved (by rw [hv]; exact Vm.Alike.refl s.vm)⟩
/-- what was there before the law began stays -/
def xB (E : xV) (H : Heap) : Prop := E.2.2.1 ≤ H.size ∧ ∀ q, q < E.2.2.1 → H[q]? = E.2.2.2.2[q]?
theorem xB.of {E : xV} {H0 H : Heap} {locs : List Loc} (h : xB E H0) (hS : va_S (fun q => E.2.2.1 ≤ q) H0 H locs) : xB E H := ⟨Nat.le_trans h.1 hS.1, fun q hq => (hS.2.1 q (Nat.lt_of_lt_of_le hq h.1) (Nat.not_le.mpr hq)).trans (h.2 q hq)⟩
/-- what holds of the frame of method Y all through its run -/
def xC (E : xV) (Y : xY) (X : Room → Array Value → State → Prop) (p : Program) (R : Room) (s : State) (m : MethodId) (args : Array Value) (meth : Method) (c : Code) : Prop :=
  p.tables.exec = Jvm.exec ∧ c.code = Y.2.1 ∧ meth.sig.returnType = Y.2.2.2.1 ∧ c.maxLocals = Y.2.2.1 ∧ s.vm.findClass Y.1.cls = some m.cls ∧ (∀ w ∈ TBg, w.before args s = true) ∧ meth.locks = false ∧ (Y.1.name = "<init>" → meth.name = "<init>") ∧ xKs E s ∧ xB E s.heap ∧ (Y.2.2.2.2.frames ≤ R.frames ∧ Y.2.2.2.2.locals ≤ R.locals ∧ Y.2.2.2.2.cells ≤ R.cells ∧ Y.2.2.2.2.slots ≤ R.slots ∧ X R args s)
abbrev xK : Type := Option Value → Nat → xS → Prop
def xQ (E : xV) (a : Nat → Nat) (n : Nat) (K : xK) : Array Value → State → Outcome → State → Prop := fun _ st oc t =>
  ∃ (v : Option Value) (n' : Nat) (σ' : xS) (a' : Nat → Nat), oc = .returned (v.map (xrel a')) ∧ n ≤ n' ∧ xag n a a' ∧ K v n' σ' ∧ xH E a' n' σ' t.heap ∧ va_F (fun q => E.2.2.1 ≤ q) st t
/-- what else is known of the frame; and how a run may end: by the frames below, the arguments, the beginning, where the cells lay then and how many -/
abbrev xQQ : Type := (Room → Array Value → State → Prop) × (List Frame → Array Value → State → (Nat → Nat) → Nat → State → Prop)
def xMQ (E : xV) (Y : xY) (K : xK) : xQQ := (fun _ _ _ => True, fun below args s a0 n0 => MQ below (xQ E a0 n0 K) args s Y.2.2.2.2.cells Y.2.2.2.2.slots (fun q => E.2.2.1 ≤ q))
/-- method Y, now at pc with locals lv, stack st, n cells as σ has them, cs cells of ss places made by it so far, comes to an end as K wants it -/
def Wx (E : xV) (Y : xY) (pc : Nat) (lv : List (Nat × Value)) (st : List Value) (n cs ss : Nat) (σ : xS) (K : xQQ) : Prop :=
  ∀ (p : Program) (e : Env) (R : Room) (s : State) (m : MethodId) (args : Array Value) (below : List Frame) (meth : Method) (c : Code) (H : Heap) (locs : List Loc) (ls : Array Slot) (a0 : Nat → Nat) (n0 : Nat) (a : Nat → Nat),
    xC E Y K.1 p R s m args meth c → n0 ≤ n → xag n0 a0 a → xH E a n σ H → va_S (fun q => E.2.2.1 ≤ q) s.heap H locs → lv_has ls Y.2.2.1 (xlv a lv) →
    W p E.1 e R s m args below meth c H locs cs ss (K.2 below args s a0 n0) (F0 m pc ls (st.map (xrel a)))
/-- the contract of method Y at arguments av -/
def Cx (E : xV) (Y : xY) (av : List Value) (n : Nat) (σ : xS) (K : xK) : Prop :=
  ∀ a : Nat → Nat, Met E.1 Y.1 (Cond.code Y.1 Y.2.1 Y.2.2.1 Y.2.2.2.1 :: TBg) Y.2.2.2.2 (va_Pc (av.map (xrel a)) (fun U => xH E a n σ U.heap ∧ xKs E U ∧ xB E U.heap)) (xQ E a n K) Y.2.2.2.2.cells Y.2.2.2.2.slots (fun q => E.2.2.1 ≤ q)
section XL
theorem xlv_at {a : Nat → Nat} {lv : List (Nat × Value)} {k i : Nat} {v : Value} (h : lv[k]? = some (i, v)) : (xlv a lv)[k]? = some (i, xrel a v) := by
  simp [xlv, List.getElem?_map, h]
theorem xrel_cat {a : Nat → Nat} {v : Value} : (xrel a v).category = v.category := by
  cases v <;> rfl
theorem xlv_st1 {a : Nat → Nat} {lv : List (Nat × Value)} {i : Nat} {v : Value} : (i, xrel a v) :: (xlv a lv).filter (fun q => !(q.1 == i) && !(q.1 + 1 == i && q.2.category == 2)) = xlv a ((i, v) :: lv.filter (fun q => !(q.1 == i) && !(q.1 + 1 == i && q.2.category == 2))) := by
  simp only [xlv, List.map_cons, List.filter_map]
  congr 2
  apply List.filter_congr
  intro q _
  simp [xrel_cat]
theorem xlv_st2 {a : Nat → Nat} {lv : List (Nat × Value)} {i : Nat} {v : Value} : (i, xrel a v) :: (xlv a lv).filter (fun q => !(q.1 == i) && (!(q.1 == i + 1) && !(q.1 + 1 == i && q.2.category == 2))) = xlv a ((i, v) :: lv.filter (fun q => !(q.1 == i) && (!(q.1 == i + 1) && !(q.1 + 1 == i && q.2.category == 2)))) := by
  simp only [xlv, List.map_cons, List.filter_map]
  congr 2
  apply List.filter_congr
  intro q _
  simp [xrel_cat]
theorem xlv_pick {a : Nat → Nat} {lv lv' : List (Nat × Value)} (ks : List Nat) (h : lv_pick lv ks = lv') : lv_pick (xlv a lv) ks = xlv a lv' := by
  subst h
  induction ks with
  | nil => rfl
  | cons k ks ih =>
    simp only [lv_pick, xlv, List.filterMap_cons, List.getElem?_map] at ih ⊢
    cases lv[k]? with
    | none => simpa using ih
    | some q => simp; simpa using ih
end XL
section XI
variable {E : xV} {Y : xY} {pc n cs ss : Nat} {lv lv' : List (Nat × Value)} {st : List Value} {σ : xS} {K : xQQ}
theorem x_sub (ks : List Nat) (h : lv_pick lv ks = lv') (k : Wx E Y pc lv' st n cs ss σ K) : Wx E Y pc lv st n cs ss σ K :=
  fun p e R s m args below meth c H locs ls a0 n0 a hC hn hg hH hS hl => k p e R s m args below meth c H locs ls a0 n0 a hC hn hg hH hS (lv_sub hl ks (xlv_pick ks h))
theorem x_iconst {i : Int} {v : Int32} (d : decode Y.2.1 pc = .ok (.iconst i, 1)) (hv : Int32.ofInt i = v) (k : Wx E Y (pc + 1) lv (.int v :: st) n cs ss σ K) : Wx E Y pc lv st n cs ss σ K :=
  fun p e R s m args below meth c H locs ls a0 n0 a hC hn hg hH hS hl => lv_iconst hC.1 hC.2.1 d hv (k p e R s m args below meth c H locs ls a0 n0 a hC hn hg hH hS hl)
theorem x_bipush {i : Int} {v : Int32} (d : decode Y.2.1 pc = .ok (.bipush i, 2)) (hv : (Int8.ofInt i).toInt32 = v) (k : Wx E Y (pc + 2) lv (.int v :: st) n cs ss σ K) : Wx E Y pc lv st n cs ss σ K :=
  fun p e R s m args below meth c H locs ls a0 n0 a hC hn hg hH hS hl => lv_bipush hC.1 hC.2.1 d hv (k p e R s m args below meth c H locs ls a0 n0 a hC hn hg hH hS hl)
theorem x_sipush {i : Int} {v : Int32} (d : decode Y.2.1 pc = .ok (.sipush i, 3)) (hv : (Int16.ofInt i).toInt32 = v) (k : Wx E Y (pc + 3) lv (.int v :: st) n cs ss σ K) : Wx E Y pc lv st n cs ss σ K :=
  fun p e R s m args below meth c H locs ls a0 n0 a hC hn hg hH hS hl => lv_sipush hC.1 hC.2.1 d hv (k p e R s m args below meth c H locs ls a0 n0 a hC hn hg hH hS hl)
theorem x_lconst {i : Fin 2} {v : Int64} (d : decode Y.2.1 pc = .ok (.lconst i, 1)) (hv : Int64.ofNat (i : Nat) = v) (k : Wx E Y (pc + 1) lv (.long v :: st) n cs ss σ K) : Wx E Y pc lv st n cs ss σ K :=
  fun p e R s m args below meth c H locs ls a0 n0 a hC hn hg hH hS hl => lv_lconst hC.1 hC.2.1 d hv (k p e R s m args below meth c H locs ls a0 n0 a hC hn hg hH hS hl)
theorem x_ldc {i : Nat} {v : Int32} (d : decode Y.2.1 pc = .ok (.ldc i, 2)) (hw : Cond.constant Y.1.cls i v ∈ TBg) (k : Wx E Y (pc + 2) lv (.int v :: st) n cs ss σ K) : Wx E Y pc lv st n cs ss σ K :=
  fun p e R s m args below meth c H locs ls a0 n0 a hC hn hg hH hS hl => lv_ldc hC.1 hC.2.1 hC.2.2.2.2.1 (hC.2.2.2.2.2.1 _ hw) d (k p e R s m args below meth c H locs ls a0 n0 a hC hn hg hH hS hl)
theorem x_ldcw {i : Nat} {v : Int32} (d : decode Y.2.1 pc = .ok (.ldc_w i, 3)) (hw : Cond.constant Y.1.cls i v ∈ TBg) (k : Wx E Y (pc + 3) lv (.int v :: st) n cs ss σ K) : Wx E Y pc lv st n cs ss σ K :=
  fun p e R s m args below meth c H locs ls a0 n0 a hC hn hg hH hS hl => lv_ldcw hC.1 hC.2.1 hC.2.2.2.2.1 (hC.2.2.2.2.2.1 _ hw) d (k p e R s m args below meth c H locs ls a0 n0 a hC hn hg hH hS hl)
theorem x_ldc2 {i : Nat} {v : Int64} (d : decode Y.2.1 pc = .ok (.ldc2_w i, 3)) (hw : Cond.constantLong Y.1.cls i v ∈ TBg) (k : Wx E Y (pc + 3) lv (.long v :: st) n cs ss σ K) : Wx E Y pc lv st n cs ss σ K :=
  fun p e R s m args below meth c H locs ls a0 n0 a hC hn hg hH hS hl => lv_ldc2 hC.1 hC.2.1 hC.2.2.2.2.1 (hC.2.2.2.2.2.1 _ hw) d (k p e R s m args below meth c H locs ls a0 n0 a hC hn hg hH hS hl)
theorem x_iload_n {f : Fin 4} {i q : Nat} {x : Int32} (d : decode Y.2.1 pc = .ok (.iload_n f, 1)) (hi : (f : Nat) = i) (hq : lv[q]? = some (i, .int x)) (k : Wx E Y (pc + 1) lv (.int x :: st) n cs ss σ K) : Wx E Y pc lv st n cs ss σ K :=
  fun p e R s m args below meth c H locs ls a0 n0 a hC hn hg hH hS hl => lv_iload_n hC.1 hC.2.1 d hi (lv_at hl q (xlv_at hq)) (k p e R s m args below meth c H locs ls a0 n0 a hC hn hg hH hS hl)
theorem x_iload {i q : Nat} {x : Int32} (d : decode Y.2.1 pc = .ok (.iload i, 2)) (hq : lv[q]? = some (i, .int x)) (k : Wx E Y (pc + 2) lv (.int x :: st) n cs ss σ K) : Wx E Y pc lv st n cs ss σ K :=
  fun p e R s m args below meth c H locs ls a0 n0 a hC hn hg hH hS hl => lv_iload hC.1 hC.2.1 d (lv_at hl q (xlv_at hq)) (k p e R s m args below meth c H locs ls a0 n0 a hC hn hg hH hS hl)
theorem x_lload_n {f : Fin 4} {i q : Nat} {x : Int64} (d : decode Y.2.1 pc = .ok (.lload_n f, 1)) (hi : (f : Nat) = i) (hq : lv[q]? = some (i, .long x)) (k : Wx E Y (pc + 1) lv (.long x :: st) n cs ss σ K) : Wx E Y pc lv st n cs ss σ K :=
  fun p e R s m args below meth c H locs ls a0 n0 a hC hn hg hH hS hl => lv_lload_n hC.1 hC.2.1 d hi (lv_at hl q (xlv_at hq)) (k p e R s m args below meth c H locs ls a0 n0 a hC hn hg hH hS hl)
theorem x_lload {i q : Nat} {x : Int64} (d : decode Y.2.1 pc = .ok (.lload i, 2)) (hq : lv[q]? = some (i, .long x)) (k : Wx E Y (pc + 2) lv (.long x :: st) n cs ss σ K) : Wx E Y pc lv st n cs ss σ K :=
  fun p e R s m args below meth c H locs ls a0 n0 a hC hn hg hH hS hl => lv_lload hC.1 hC.2.1 d (lv_at hl q (xlv_at hq)) (k p e R s m args below meth c H locs ls a0 n0 a hC hn hg hH hS hl)
theorem x_aload_n {f : Fin 4} {i q : Nat} {x : Nat} (d : decode Y.2.1 pc = .ok (.aload_n f, 1)) (hi : (f : Nat) = i) (hq : lv[q]? = some (i, .ref x)) (k : Wx E Y (pc + 1) lv (.ref x :: st) n cs ss σ K) : Wx E Y pc lv st n cs ss σ K :=
  fun p e R s m args below meth c H locs ls a0 n0 a hC hn hg hH hS hl => lv_aload_n hC.1 hC.2.1 d hi (lv_at hl q (xlv_at hq)) (k p e R s m args below meth c H locs ls a0 n0 a hC hn hg hH hS hl)
theorem x_aload {i q : Nat} {x : Nat} (d : decode Y.2.1 pc = .ok (.aload i, 2)) (hq : lv[q]? = some (i, .ref x)) (k : Wx E Y (pc + 2) lv (.ref x :: st) n cs ss σ K) : Wx E Y pc lv st n cs ss σ K :=
  fun p e R s m args below meth c H locs ls a0 n0 a hC hn hg hH hS hl => lv_aload hC.1 hC.2.1 d (lv_at hl q (xlv_at hq)) (k p e R s m args below meth c H locs ls a0 n0 a hC hn hg hH hS hl)
theorem x_istore_n {f : Fin 4} {i : Nat} {x : Int32} (d : decode Y.2.1 pc = .ok (.istore_n f, 1)) (hi : (f : Nat) = i) (hn : i < Y.2.2.1) (hl' : (i, Value.int x) :: lv.filter (fun q => !(q.1 == i) && !(q.1 + 1 == i && q.2.category == 2)) = lv') (k : Wx E Y (pc + 1) lv' st n cs ss σ K) : Wx E Y pc lv (.int x :: st) n cs ss σ K :=
  fun p e R s m args below meth c H locs ls a0 n0 a hC hn0 hg hH hS hl => lv_istore_n hC.1 hC.2.1 d hi hl hn ((xlv_st1 (v := .int x)).trans (congrArg (xlv a) hl')) (fun ls' hl2 => k p e R s m args below meth c H locs ls' a0 n0 a hC hn0 hg hH hS hl2)
theorem x_istore {i : Nat} {x : Int32} (d : decode Y.2.1 pc = .ok (.istore i, 2)) (hn : i < Y.2.2.1) (hl' : (i, Value.int x) :: lv.filter (fun q => !(q.1 == i) && !(q.1 + 1 == i && q.2.category == 2)) = lv') (k : Wx E Y (pc + 2) lv' st n cs ss σ K) : Wx E Y pc lv (.int x :: st) n cs ss σ K :=
  fun p e R s m args below meth c H locs ls a0 n0 a hC hn0 hg hH hS hl => lv_istore hC.1 hC.2.1 d hl hn ((xlv_st1 (v := .int x)).trans (congrArg (xlv a) hl')) (fun ls' hl2 => k p e R s m args below meth c H locs ls' a0 n0 a hC hn0 hg hH hS hl2)
theorem x_lstore_n {f : Fin 4} {i : Nat} {x : Int64} (d : decode Y.2.1 pc = .ok (.lstore_n f, 1)) (hi : (f : Nat) = i) (hn : i + 1 < Y.2.2.1) (hl' : (i, Value.long x) :: lv.filter (fun q => !(q.1 == i) && (!(q.1 == i + 1) && !(q.1 + 1 == i && q.2.category == 2))) = lv') (k : Wx E Y (pc + 1) lv' st n cs ss σ K) : Wx E Y pc lv (.long x :: st) n cs ss σ K :=
  fun p e R s m args below meth c H locs ls a0 n0 a hC hn0 hg hH hS hl => lv_lstore_n hC.1 hC.2.1 d hi hl hn ((xlv_st2 (v := .long x)).trans (congrArg (xlv a) hl')) (fun ls' hl2 => k p e R s m args below meth c H locs ls' a0 n0 a hC hn0 hg hH hS hl2)
theorem x_lstore {i : Nat} {x : Int64} (d : decode Y.2.1 pc = .ok (.lstore i, 2)) (hn : i + 1 < Y.2.2.1) (hl' : (i, Value.long x) :: lv.filter (fun q => !(q.1 == i) && (!(q.1 == i + 1) && !(q.1 + 1 == i && q.2.category == 2))) = lv') (k : Wx E Y (pc + 2) lv' st n cs ss σ K) : Wx E Y pc lv (.long x :: st) n cs ss σ K :=
  fun p e R s m args below meth c H locs ls a0 n0 a hC hn0 hg hH hS hl => lv_lstore hC.1 hC.2.1 d hl hn ((xlv_st2 (v := .long x)).trans (congrArg (xlv a) hl')) (fun ls' hl2 => k p e R s m args below meth c H locs ls' a0 n0 a hC hn0 hg hH hS hl2)
theorem x_astore_n {f : Fin 4} {i : Nat} {x : Nat} (d : decode Y.2.1 pc = .ok (.astore_n f, 1)) (hi : (f : Nat) = i) (hn : i < Y.2.2.1) (hl' : (i, Value.ref x) :: lv.filter (fun q => !(q.1 == i) && !(q.1 + 1 == i && q.2.category == 2)) = lv') (k : Wx E Y (pc + 1) lv' st n cs ss σ K) : Wx E Y pc lv (.ref x :: st) n cs ss σ K :=
  fun p e R s m args below meth c H locs ls a0 n0 a hC hn0 hg hH hS hl => lv_astore_n hC.1 hC.2.1 d hi hl hn ((xlv_st1 (v := .ref x)).trans (congrArg (xlv a) hl')) (fun ls' hl2 => k p e R s m args below meth c H locs ls' a0 n0 a hC hn0 hg hH hS hl2)
theorem x_iinc {i q : Nat} {z : Int} {x v : Int32} (d : decode Y.2.1 pc = .ok (.iinc i z, 3)) (hq : lv[q]? = some (i, .int x)) (hv : x + Int32.ofInt z = v) (hn : i < Y.2.2.1) (hl' : (i, Value.int v) :: lv.filter (fun q => !(q.1 == i) && !(q.1 + 1 == i && q.2.category == 2)) = lv') (k : Wx E Y (pc + 3) lv' st n cs ss σ K) : Wx E Y pc lv st n cs ss σ K :=
  fun p e R s m args below meth c H locs ls a0 n0 a hC hn0 hg hH hS hl => lv_iinc hC.1 hC.2.1 d hl (xlv_at hq) hv hn ((xlv_st1 (v := .int v)).trans (congrArg (xlv a) hl')) (fun ls' hl2 => k p e R s m args below meth c H locs ls' a0 n0 a hC hn0 hg hH hS hl2)
end XI
