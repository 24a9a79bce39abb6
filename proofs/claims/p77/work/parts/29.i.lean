noncomputable section
/-! ===== PUBLIC METHODS: what a call keeps ===== -/
/-- kinds of arguments as values -/
def Arg : Type := Sum Int32 Int64
def Arg.v : Arg → Value
  | .inl x => .int x
  | .inr x => .long x
def Arg.i : Arg → Int
  | .inl x => x.toInt
  | .inr x => x.toInt
def Arg.lg : Arg → Bool
  | .inl _ => false
  | .inr _ => true
/-- a field's value -/
abbrev fz (σ : zS) (k : Nat × Nat) : Int := (σ.1 k.1 k.2).toInt
/-- the numbers of a public method's beginning -/
def fArg (σ : zS) (k : Nat × Nat) : Arg := Sum.inl (σ.1 k.1 k.2)
def pubNs (as : List Arg) (σ : zS) (ks : List (Nat × Nat)) : List Arg := as ++ ks.map (fArg σ)
def pubRho (as : List Arg) (σ : zS) (ks : List (Nat × Nat)) : List Int := (pubNs as σ ks).map Arg.i
theorem pubRho_eq {as : List Arg} {σ : zS} {ks : List (Nat × Nat)} : pubRho as σ ks = as.map Arg.i ++ ks.map (fz σ) := by
  unfold pubRho pubNs
  rw [List.map_append, List.map_map]
  rfl
def pubM (i : Nat) : List (Nat × (AV × AV)) → List (Nat × Nat) → Bool
  | [], [] => true
  | e :: r, k :: ks => (Nat.beq e.1 k.1 && (AV.eq e.2.1 (.c (k.2 : Int)) && AV.eq e.2.2 (.i i 0))) && pubM (i + 1) r ks
  | _, _ => false
def pubA (i : Nat) : List AV → List Bool → Bool
  | [], [] => true
  | a :: r, b :: bs => AV.eq a (bif b then .l i 0 else .i i 0) && pubA (i + 1) r bs
  | _, _ => false
def pubE (ds : List Dom) (env : List (Nat × Dom)) : Bool := env.all fun e => match ds[e.1]? with
  | some d => dsub d e.2
  | none => false
/-- the arguments are in their bounds -/
def ArgsIn : List Arg → List Dom → Prop
  | [], [] => True
  | a :: as, d :: ds => inD a.i d ∧ ArgsIn as ds
  | _, _ => False
theorem ArgsIn.get : ∀ {as : List Arg} {ds : List Dom} {i : Nat}, ArgsIn as ds → (∀ d, ds[i]? = some d → ∃ a, as[i]? = some a ∧ inD a.i d) ∧ (ds[i]? = none → as.length ≤ i)
  | [], [], _, _ => ⟨fun d h => (by simp at h), fun _ => Nat.zero_le _⟩
  | [], _ :: _, _, h => h.elim
  | _ :: _, [], _, h => h.elim
  | a :: as, d :: ds, 0, h => ⟨fun d' h' => ⟨a, rfl, by cases h'; exact h.1⟩, fun h' => (by cases h')⟩
  | a :: as, d :: ds, i + 1, h => by
    have ih := ArgsIn.get (i := i) h.2
    exact ⟨fun d' h' => ih.1 d' h', fun h' => Nat.succ_le_succ (ih.2 h')⟩
def pubOk (q : Ct) (o : Nat) (bs : List Bool) (ds : List Dom) (ks : List (Nat × Nat)) : Bool := (match q.ar with
  | .inr (.inr (.inr (.inr (.inl o')))) :: r => Nat.beq o' o && pubA 0 r bs
  | _ => false) && (pubM bs.length q.kn.me ks && (pubE ds q.kn.env && (q.kn.ks == bs ++ ks.map (fun _ => false) && (isNil q.kn.cg && (isNil q.kn.fa && isNil q.kn.hl)))))
theorem at_len {pre rest : List Int} {x : Int} : (pre ++ x :: rest)[pre.length]? = some x := by simp
theorem pubM_ok {σ : zS} : ∀ {me : List (Nat × (AV × AV))} {ks : List (Nat × Nat)} {pre : List Int}, pubM pre.length me ks = true → ∀ e ∈ me, Mf (pre ++ ks.map (fz σ)) σ e
  | [], _, _, _, e, he => by cases he
  | _ :: _, [], _, h, _, _ => by cases h
  | e0 :: r, k :: ks, pre, h, e, he => by
    have h : ((Nat.beq e0.1 k.1 && (AV.eq e0.2.1 (.c (k.2 : Int)) && AV.eq e0.2.2 (.i pre.length 0))) && pubM (pre.length + 1) r ks) = true := h
    simp only [Bool.and_eq_true] at h
    obtain ⟨⟨h1, h2, h3⟩, h4⟩ := h
    have eq : pre ++ (k :: ks).map (fz σ) = (pre ++ [fz σ k]) ++ ks.map (fz σ) := by simp
    rcases List.mem_cons.mp he with rfl | he
    · refine ⟨k.2, ?_, Or.inl ⟨?_, ?_⟩⟩
      · rw [AV.eq_of h2]; rfl
      · rw [AV.eq_of h3]; rfl
      · rw [AV.eq_of h3, Nat.eq_of_beq_eq_true h1]
        have := at_len (pre := pre) (rest := ks.map (fz σ)) (x := fz σ k)
        simp only [ev, List.map_cons, this]
        exact congrArg some (Int.add_zero _)
    · rw [eq]
      exact pubM_ok (pre := pre ++ [fz σ k]) (by rw [List.length_append]; exact h4) e he
theorem pubA_ok : ∀ {ar : List AV} {as : List Arg} {pre rest : List Int}, pubA pre.length ar (as.map Arg.lg) = true → Rs (pre ++ (as.map Arg.i ++ rest)) ar (as.map Arg.v)
  | [], [], _, _, _ => trivial
  | [], _ :: _, _, _, h => by cases h
  | _ :: _, [], _, _, h => by cases h
  | a :: r, x :: xs, pre, rest, h => by
    have h : (AV.eq a (bif x.lg then .l pre.length 0 else .i pre.length 0) && pubA (pre.length + 1) r (xs.map Arg.lg)) = true := h
    rw [Bool.and_eq_true] at h
    have eq : pre ++ ((x :: xs).map Arg.i ++ rest) = (pre ++ [x.i]) ++ (xs.map Arg.i ++ rest) := by simp
    have hat : (pre ++ ((x :: xs).map Arg.i ++ rest))[pre.length]? = some x.i := by
      show (pre ++ (x.i :: (xs.map Arg.i ++ rest)))[pre.length]? = some x.i
      exact at_len
    refine ⟨?_, ?_⟩
    · rw [AV.eq_of h.1]
      cases x with
      | inl y =>
        refine ⟨y, rfl, ?_⟩
        simp only [ev, hat]
        exact congrArg some (Int.add_zero _)
      | inr y =>
        refine ⟨y, rfl, ?_⟩
        simp only [ev, hat]
        exact congrArg some (Int.add_zero _)
    · rw [eq]
      exact pubA_ok (pre := pre ++ [x.i]) (by rw [List.length_append]; exact h.2)
theorem Tp_of {ρ : List Int} : ∀ {bs : List Bool} {i : Nat}, (∀ (j : Nat) (b : Bool), bs[j]? = some b → ∃ x, ρ[i + j]? = some x ∧ ((b = true ∧ ∃ y : Int64, x = y.toInt) ∨ (b = false ∧ ∃ y : Int32, x = y.toInt))) → Tp ρ i bs
  | [], _, _ => trivial
  | b :: r, i, h => ⟨h 0 b rfl, Tp_of (fun j b' hb => by
    have := h (j + 1) b' hb
    rw [show i + (j + 1) = i + 1 + j by omega] at this
    exact this)⟩
theorem pub_ok {J : Jt} {q : Ct} {o : Nat} {as : List Arg} {ds : List Dom} {ks : List (Nat × Nat)} {σ : zS} (h : pubOk q o (as.map Arg.lg) ds ks = true) (hd : ArgsIn (pubNs as σ ks) ds) (hJ : J [] σ) : Ko J q.kn (pubRho as σ ks) σ ∧ Rs (pubRho as σ ks) q.ar (.ref o :: as.map Arg.v) := by
  unfold pubOk at h
  simp only [Bool.and_eq_true] at h
  obtain ⟨h1, h2, h3, h4, h5, h6, h7⟩ := h
  have h4 := eq_of_beq h4
  have hn : ∀ {α : Type} {l : List α}, isNil l = true → l = [] := fun {α l} hh => by
    cases l with
    | nil => rfl
    | cons _ _ => cases hh
  have hat : ∀ (i : Nat) (a : Arg), (pubNs as σ ks)[i]? = some a → (pubRho as σ ks)[i]? = some a.i := fun i a hi => by
    unfold pubRho
    rw [List.getElem?_map, hi]
    rfl
  have hks : q.kn.ks = (pubNs as σ ks).map Arg.lg := by
    rw [h4]
    unfold pubNs
    rw [List.map_append, List.map_map]
    rfl
  refine ⟨⟨⟨?_, fun e he => ?_, fun e he => ?_, fun e he => ?_, fun e he => ?_, fun e he => ?_, ?_⟩, ?_⟩, ?_⟩
  · show (pubRho as σ ks).length = q.kn.ks.length
    rw [hks]
    unfold pubRho
    rw [List.length_map, List.length_map]
  · have he2 := List.all_eq_true.mp h3 e he
    have hg := hd.get (i := e.1)
    cases ha : ds[e.1]? with
    | some d =>
      rw [ha] at he2
      obtain ⟨a, a1, a2⟩ := hg.1 d ha
      exact ⟨a.i, hat _ _ a1, dsub_in he2 a2⟩
    | none =>
      rw [ha] at he2
      cases he2
  · rw [pubRho_eq]
    exact pubM_ok (pre := as.map Arg.i) (by rw [List.length_map]; rw [List.length_map] at h2; exact h2) e he
  · have he : e ∈ q.kn.cg := he
    rw [hn h5] at he
    cases he
  · cases he
  · have he : e ∈ q.kn.fa := he
    rw [hn h6] at he
    cases he
  · refine ⟨[], ?_, hJ⟩
    show Hl _ q.kn.hl []
    rw [hn h7]
    trivial
  · rw [hks]
    refine Tp_of (fun j b hj => ?_)
    rw [Nat.zero_add]
    rw [List.getElem?_map] at hj
    cases ha : (pubNs as σ ks)[j]? with
    | none => rw [ha] at hj; cases hj
    | some a =>
      rw [ha] at hj
      have hj : a.lg = b := Option.some.inj hj
      refine ⟨a.i, hat _ _ ha, ?_⟩
      cases a with
      | inl y => exact Or.inr ⟨hj.symm, y, rfl⟩
      | inr y => exact Or.inl ⟨hj.symm, y, rfl⟩
  · split at h1
    · rename_i o' r hr
      rw [Bool.and_eq_true] at h1
      rw [hr, pubRho_eq]
      refine ⟨?_, pubA_ok (pre := []) (rest := ks.map (fz σ)) h1.2⟩
      show Value.ref o = Value.ref o'
      rw [Nat.eq_of_beq_eq_true h1.1]
    · cases h1
/-- an end of a public method: the answer, the rows again at most 200, nothing open -/
def bndAt (a : Kn) (k j : Nat) : Bool := match mget a.me k (.c (j : Int)) with
  | some v => v.isI && dsub (dom a.sy v) [(0, 200)]
  | none => false
def endOk (t : Nat) (al : Al) (ks : List (Nat × Nat)) : Bool := (match t, al.1 with
  | 0, [] => true
  | 1, [a] => a.isI
  | 3, [a] => a.isL
  | _, _ => false) && ((ks.all fun k => bndAt al.2 k.1 k.2) && isNil al.2.hl)
theorem bndAt_ok {J : Jt} {a : Kn} {ρ : List Int} {σ : zS} {k j : Nat} (h : bndAt a k j = true) (hk : Ko J a ρ σ) : 0 ≤ (σ.1 k j).toInt ∧ (σ.1 k j).toInt ≤ 200 := by
  unfold bndAt at h
  split at h
  · rename_i v hm
    rw [Bool.and_eq_true] at h
    have e := me_at hk.1 hm (j := j) rfl h.1
    exact inD_one (dsub_in h.2 (dom_i hk.1 h.1 e))
  · cases h
theorem endOk_ok {J : Jt} {t : Nat} {al : Al} {ks : List (Nat × Nat)} {ρ : List Int} {σ : zS} {r : Option Value} (h : endOk t al ks = true) (hk : Ko J al.2 ρ σ) (hr : Rs ρ al.1 r.toList) : (t = 1 → ∃ x : Int32, r = some (.int x)) ∧ (t = 3 → ∃ x : Int64, r = some (.long x)) ∧ (∀ k ∈ ks, 0 ≤ (σ.1 k.1 k.2).toInt ∧ (σ.1 k.1 k.2).toInt ≤ 200) ∧ J [] σ := by
  unfold endOk at h
  rw [Bool.and_eq_true, Bool.and_eq_true] at h
  obtain ⟨h1, h2, h3⟩ := h
  refine ⟨fun e => ?_, fun e => ?_, fun k hk2 => bndAt_ok (List.all_eq_true.mp h2 k hk2) hk, ?_⟩
  · subst e
    split at h1
    · cases ‹1 = 0›
    · rename_i a ha
      rw [ha] at hr
      obtain ⟨w, v, e1, e2, e3⟩ := Rs.cons hr
      obtain ⟨x, rfl, _⟩ := e2.int h1
      cases r with
      | none => cases e1
      | some r => cases e1; exact ⟨x, rfl⟩
    · cases ‹1 = 3›
    · cases h1
  · subst e
    split at h1
    · cases ‹3 = 0›
    · cases ‹3 = 1›
    · rename_i a ha
      rw [ha] at hr
      obtain ⟨w, v, e1, e2, e3⟩ := Rs.cons hr
      obtain ⟨x, rfl, _⟩ := e2.long h1
      cases r with
      | none => cases e1
      | some r => cases e1; exact ⟨x, rfl⟩
    · cases h1
  · obtain ⟨H, i1, i2⟩ := hk.1.inv
    have e : al.2.hl = [] := by
      cases hq : al.2.hl with
      | nil => rfl
      | cons _ _ => rw [hq] at h3; cases h3
    have i1 : Hl ρ al.2.hl H := i1
    rw [e] at i1
    cases H with
    | nil => exact i2
    | cons _ _ => exact i1.elim
/-- a call of a public method -/
theorem pub_call {E : xV} {Y : Nat → xY} {G : Gx} {J : Jt} {z o t : Nat} {q : Ct} {as : List Arg} {ds : List Dom} {ks KS : List (Nat × Nat)} {σ : zS} (hc : CtOk E Y G J z q) (h : pubOk q o (as.map Arg.lg) ds ks = true) (hd : ArgsIn (pubNs as σ ks) ds) (he : (q.al.all fun al => endOk t al KS) = true) (hJ : J [] σ) : Cz E (Y z) (.ref o :: as.map Arg.v) σ (fun r σ' => (t = 1 → ∃ x : Int32, r = some (.int x)) ∧ (t = 3 → ∃ x : Int64, r = some (.long x)) ∧ (∀ k ∈ KS, 0 ≤ fz σ' k ∧ fz σ' k ≤ 200) ∧ J [] σ' ∧ ∀ k j, isS (q.w.get (G.g.key k j)) = false → σ'.1 k j = σ.1 k j) := by
  obtain ⟨k1, k2⟩ := pub_ok (J := J) h hd hJ
  refine (hc _ σ _ k1 k2).mono (fun r σ' hr => ?_)
  obtain ⟨f1, al, f2, ρ'', f3, f4, f5⟩ := hr
  obtain ⟨g1, g2, g3, g4⟩ := endOk_ok (List.all_eq_true.mp he al f2) f4 f5
  exact ⟨g1, g2, g3, g4, fun k j hw => (f1 k j (fun hq => by rw [hq.1] at hw; cases hw)).1⟩
end
