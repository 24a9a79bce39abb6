noncomputable section
/-! ===== THE WALK, 7: what is known at a place, met by a state ===== -/
/-- kinds of the numbers (true: long); bounds; rests; sums; memory; open rows -/
abbrev Kn : Type := List Bool × (List (Nat × Dom) × (List (Nat × (Int × Int)) × (List (Lf × Int) × (List (Nat × (AV × AV)) × List (Nat × AV)))))
abbrev Kn.ks (a : Kn) : List Bool := a.1
abbrev Kn.env (a : Kn) : List (Nat × Dom) := a.2.1
abbrev Kn.cg (a : Kn) : List (Nat × (Int × Int)) := a.2.2.1
abbrev Kn.fa (a : Kn) : List (Lf × Int) := a.2.2.2.1
abbrev Kn.me (a : Kn) : List (Nat × (AV × AV)) := a.2.2.2.2.1
abbrev Kn.hl (a : Kn) : List (Nat × AV) := a.2.2.2.2.2
def Kn.sy (a : Kn) : Sy := (a.ks.length, (a.env, (a.me, (a.cg, ([], (a.fa, a.hl))))))
def shA (a : AV) (o : Int) : AV := match a with
  | .inl (id, u) => .i id (u + o)
  | .inr (.inl n) => .c (n + o)
  | .inr (.inr (.inl (id, u))) => .l id (u + o)
  | .inr (.inr (.inr (.inl n))) => .k (n + o)
  | a => a
/-- bounds that leave one number, the same -/
def eqs (a b : Option Dom) : Bool := match a, b with
  | some [(l, u)], some [(p, q)] => (ile u l && ile q p) && (ile l p && ile p l)
  | _, _ => false
/-- two values are the same -/
def eqv (s : Sy) (a b : AV) : Bool := (a.isI && b.isI || a.isL && b.isL) && (AV.eq a b || ((allz (tlin (-1) (nf s b).1 (nf s a).1) && (ile (nf s a).2 (nf s b).2 && ile (nf s b).2 (nf s a).2)) || (eqs (edom s a) (edom s b) || (leq s (tlin (-1) (nf s b).1 (nf s a).1) ((nf s b).2 - (nf s a).2) && leq s (tlin (-1) (nf s a).1 (nf s b).1) ((nf s a).2 - (nf s b).2)))))
/-- the rest of a value behind m -/
def res (s : Sy) (a : AV) (m : Int) : Option Int := match a with
  | .inr (.inl n) => some (n % m)
  | .inl (id, o) => match lk s.cg id with
    | some (M, r) => bif ile (M % m) 0 && ile 0 (M % m) then some ((r + o) % m) else none
    | none => match lk s.df id with
      | some (f, k) => bif f.all (fun t => ile (t.2 % m) 0 && ile 0 (t.2 % m)) then some ((k + o) % m) else none
      | none => none
  | _ => none
/-- pattern p is met by a; th: what the pattern's numbers stand for -/
def mt (s : Sy) (p a : AV) (th : List AV) : Option (List AV) := match p with
  | .inl (id, o) => bif a.isI then (match th[id]? with
    | some b => bif eqv s a (shA b o) then some th else none
    | none => bif Nat.beq id th.length && (ile o 0 && ile 0 o) then some (th ++ [a]) else none) else none
  | .inr (.inr (.inl (id, o))) => bif a.isL then (match th[id]? with
    | some b => bif eqv s a (shA b o) then some th else none
    | none => bif Nat.beq id th.length && (ile o 0 && ile 0 o) then some (th ++ [a]) else none) else none
  | .inr (.inl n) => bif a.isI && inR s a n n then some th else none
  | .inr (.inr (.inr (.inl n))) => bif a.isL && inR s a n n then some th else none
  | .inr (.inr (.inr (.inr (.inl q)))) => bif AV.eq a (.r q) then some th else none
  | .inr (.inr (.inr (.inr (.inr (b, n))))) => bif AV.eq a (.rr b n) then some th else (match a with
    | .inr (.inr (.inr (.inr (.inl q)))) => bif Nat.ble b q && Nat.blt q (b + n) then some th else none
    | _ => none)
def mtl (s : Sy) : List AV → List AV → List AV → Option (List AV)
  | [], [], th => some th
  | p :: ps, a :: as, th => match mt s p a th with
    | some th' => mtl s ps as th'
    | none => none
  | _, _, _ => none
def mtv (s : Sy) (lv : List (Nat × AV)) : List (Nat × AV) → List AV → Option (List AV)
  | [], th => some th
  | p :: ps, th => match lget lv p.1 with
    | some a => match mt s p.2 a th with
      | some th' => mtv s lv ps th'
      | none => none
    | none => none
/-- the place that a pattern's place stands for -/
def plc (th : List AV) (p : AV) : Option AV := match p with
  | .inr (.inl n) => some (.c n)
  | .inl (id, o) => match th[id]? with
    | some a => bif a.isI then some (shA a o) else none
    | none => none
  | _ => none
def mtm (s : Sy) : List (Nat × (AV × AV)) → List AV → Option (List AV)
  | [], th => some th
  | e :: es, th => match plc th e.2.1 with
    | some p => match mget s.me e.1 p with
      | some v => match mt s e.2.2 v th with
        | some th' => mtm s es th'
        | none => none
      | none => none
    | none => none
def mte (s : Sy) (th : List AV) (env : List (Nat × Dom)) : Bool := env.all fun e => match th[e.1]? with
  | some a => dsub (dom s a) e.2 || (match e.2 with
    | [(l, h)] => inR s a l h
    | _ => false)
  | none => false
def mtc (s : Sy) (th : List AV) (cg : List (Nat × (Int × Int))) : Bool := cg.all fun e => match th[e.1]? with
  | some a => match res s a e.2.1 with
    | some r => ile r e.2.2 && ile e.2.2 r
    | none => false
  | none => false
/-- a sum of the pattern's numbers, in the state's -/
def tth (s : Sy) (th : List AV) : Lf → Option (Lf × Int)
  | [] => some ([], 0)
  | t :: r => match th[t.1]?, tth s th r with
    | some a, some (g, k) => bif a.isI || a.isL then some (tlin t.2 (nf s a).1 g, k + t.2 * (nf s a).2) else none
    | _, _ => none
def mtf (s : Sy) (th : List AV) (fa : List (Lf × Int)) : Bool := fa.all fun e => match tth s th e.1 with
  | some (g, k) => leq s g (e.2 - k)
  | none => false
def mtk (th : List AV) (ks : List Bool) : Bool := Nat.beq th.length ks.length && (th.zip ks).all fun e => bif e.2 then e.1.isL else e.1.isI
/-- open rows: the same, their numbers met -/
def mth (s : Sy) : List (Nat × AV) → List (Nat × AV) → List AV → Option (List AV)
  | [], [], th => some th
  | p :: ps, a :: as, th => bif Nat.beq p.1 a.1 && (match edom s a.2 with
      | some d => fit32 d
      | none => false) then (match mt s p.2 a.2 th with
    | some th' => mth s ps as th'
    | none => none) else none
  | _, _, _ => none
/-- what is known at a place is met, the patterns being met by th -/
def mta (s : Sy) (a : Kn) (th : List AV) : Option (List AV) := match mtm s a.me th with
  | some t0 => match mth s a.hl s.hl t0 with
    | some t => bif mtk t a.ks && (mte s t a.env && (mtc s t a.cg && mtf s t a.fa)) then some t else none
    | none => none
  | none => none
/-! met: right -/
def vals (ρ : List Int) (th : List AV) : List Int := th.map fun a => (ev ρ a).getD 0
def Df (ρ : List Int) (th : List AV) : Prop := ∀ a ∈ th, (a.isI = true ∧ ∃ y : Int32, ev ρ a = some y.toInt) ∨ (a.isL = true ∧ ∃ y : Int64, ev ρ a = some y.toInt)
def Ext (th th' : List AV) : Prop := ∃ t, th' = th ++ t
theorem Ext.rf {th : List AV} : Ext th th := ⟨[], by simp⟩
theorem Ext.tr {a b c : List AV} (h : Ext a b) (h' : Ext b c) : Ext a c := by
  obtain ⟨s, rfl⟩ := h
  obtain ⟨t, rfl⟩ := h'
  exact ⟨s ++ t, by simp⟩
theorem Ext.pre {ρ : List Int} {th th' : List AV} (h : Ext th th') : Pre (vals ρ th) (vals ρ th') := by
  obtain ⟨t, rfl⟩ := h
  exact ⟨vals ρ t, by simp [vals]⟩
theorem vals_at {ρ : List Int} {th : List AV} {i : Nat} {a : AV} {x : Int} (h : th[i]? = some a) (hx : ev ρ a = some x) : (vals ρ th)[i]? = some x := by
  simp [vals, List.getElem?_map, h, hx]
theorem Df.ev {ρ : List Int} {th : List AV} (h : Df ρ th) {i : Nat} {a : AV} (ha : th[i]? = some a) : ∃ x, ev ρ a = some x := by
  rcases h a (List.mem_of_getElem? ha) with ⟨_, y, hy⟩ | ⟨_, y, hy⟩
  · exact ⟨_, hy⟩
  · exact ⟨_, hy⟩
theorem shA_ev {ρ : List Int} {a : AV} {x o : Int} (h : ev ρ a = some x) : ev ρ (shA a o) = some (x + o) := by
  rcases a with ⟨id, u⟩ | n | ⟨id, u⟩ | n | q | ⟨b, n⟩
  · simp only [ev, shA] at h ⊢
    cases hr : ρ[id]? with
    | none => rw [hr] at h; cases h
    | some y => rw [hr] at h; have := Option.some.inj h; exact congrArg some (by omega)
  · have := Option.some.inj h; exact congrArg some (by omega)
  · simp only [ev, shA] at h ⊢
    cases hr : ρ[id]? with
    | none => rw [hr] at h; cases h
    | some y => rw [hr] at h; have := Option.some.inj h; exact congrArg some (by omega)
  · have := Option.some.inj h; exact congrArg some (by omega)
  · cases h
  · cases h
theorem Rv.isI' {ρ : List Int} {p : AV} {y : Int32} (h : Rv ρ p (.int y)) : p.isI = true ∧ ev ρ p = some y.toInt := by
  rcases p with ⟨id, o⟩ | n | ⟨id, o⟩ | n | q | ⟨b, n⟩
  · obtain ⟨z, h1, h2⟩ := h; cases h1; exact ⟨rfl, h2⟩
  · obtain ⟨z, h1, h2⟩ := h; cases h1; exact ⟨rfl, congrArg some h2⟩
  · obtain ⟨z, h1, h2⟩ := h; cases h1
  · obtain ⟨z, h1, h2⟩ := h; cases h1
  · cases h
  · obtain ⟨z, h1, h2⟩ := h; cases h1
theorem Rv.isL' {ρ : List Int} {p : AV} {y : Int64} (h : Rv ρ p (.long y)) : p.isL = true ∧ ev ρ p = some y.toInt := by
  rcases p with ⟨id, o⟩ | n | ⟨id, o⟩ | n | q | ⟨b, n⟩
  · obtain ⟨z, h1, h2⟩ := h; cases h1
  · obtain ⟨z, h1, h2⟩ := h; cases h1
  · obtain ⟨z, h1, h2⟩ := h; cases h1; exact ⟨rfl, h2⟩
  · obtain ⟨z, h1, h2⟩ := h; cases h1; exact ⟨rfl, congrArg some h2⟩
  · cases h
  · obtain ⟨z, h1, h2⟩ := h; cases h1
theorem rv_int {ρ : List Int} {a : AV} {y : Int32} (hi : a.isI = true) (h : ev ρ a = some y.toInt) : Rv ρ a (.int y) := by
  rcases a with ⟨id, o⟩ | n | ⟨id, o⟩ | n | q | ⟨b, n⟩
  · exact ⟨y, rfl, h⟩
  · exact ⟨y, rfl, Option.some.inj h⟩
  all_goals cases hi
section W7
variable {J : Jt} {s : Sy} {ρ : List Int} {σ : zS}
theorem domR (h : Ok J s ρ σ) {a : AV} {x : Int} (hk : (a.isI = true ∧ ∃ y : Int32, ev ρ a = some y.toInt) ∨ (a.isL = true ∧ ∃ y : Int64, ev ρ a = some y.toInt)) (hx : ev ρ a = some x) : inD x (dom s a) := by
  rcases hk with ⟨q, y, hy⟩ | ⟨q, y, hy⟩
  · cases Option.some.inj (hx.symm.trans hy)
    exact dom_i h q hy
  · cases Option.some.inj (hx.symm.trans hy)
    exact dom_l h q hy
theorem eqv_ok (h : Ok J s ρ σ) {a b : AV} {x y : Int} (he : eqv s a b = true) (ha : ev ρ a = some x) (hb : ev ρ b = some y) : x = y := by
  simp only [eqv, Bool.and_eq_true, Bool.or_eq_true] at he
  obtain ⟨hk, he⟩ := he
  rcases he with he | he | he | he
  · have := AV.eq_of he
    subst this
    exact Option.some.inj (ha.symm.trans hb)
  · obtain ⟨u, a1, a2⟩ := nf_ok h ha
    obtain ⟨w, b1, b2⟩ := nf_ok h hb
    have hz := allz_ok he.1 (tlin_ok (w := -1) b1 a1)
    have hc := ile_eq he.2
    omega
  · unfold eqs at he
    split at he
    · rename_i l u p q e1 e2
      simp only [Bool.and_eq_true, ile_iff] at he
      have g1 := inD_one (edom_ok h e1 ha)
      have g2 := inD_one (edom_ok h e2 hb)
      omega
    · cases he
  · obtain ⟨u, a1, a2⟩ := nf_ok h ha
    obtain ⟨w, b1, b2⟩ := nf_ok h hb
    have g1 := leq_ok h he.1 (tlin_ok (w := -1) b1 a1)
    have g2 := leq_ok h he.2 (tlin_ok (w := -1) a1 b1)
    omega
theorem eqv_kind {a b : AV} (he : eqv s a b = true) : (a.isI = true ∧ b.isI = true) ∨ (a.isL = true ∧ b.isL = true) := by
  simp only [eqv, Bool.and_eq_true, Bool.or_eq_true] at he
  exact he.1
theorem mt_ok (h : Ok J s ρ σ) {p a : AV} {th th' : List AV} {v : Value} (hm : mt s p a th = some th') (hd : Df ρ th) (hv : Rv ρ a v) : Df ρ th' ∧ Ext th th' ∧ Rv (vals ρ th') p v := by
  have old : ∀ (id : Nat) (o x : Int) (b : AV), th[id]? = some b → eqv s a (shA b o) = true → ev ρ a = some x → (match (vals ρ th)[id]? with | some x => some (x + o) | none => none) = some x := by
    intro id o x b hb he hx
    obtain ⟨z, hz⟩ := hd.ev hb
    have e1 := shA_ev (o := o) hz
    have e2 := eqv_ok h he hx e1
    rw [vals_at hb hz]
    exact congrArg some e2.symm
  have new : ∀ (id : Nat) (o x : Int), (Nat.beq id th.length && (ile o 0 && ile 0 o)) = true → ev ρ a = some x → (match (vals ρ (th ++ [a]))[id]? with | some x => some (x + o) | none => none) = some x := by
    intro id o x hb hx
    simp only [Bool.and_eq_true] at hb
    have hi := Nat.eq_of_beq_eq_true hb.1
    have ho : o = 0 := ile_eq hb.2
    have ha : (th ++ [a])[id]? = some a := by rw [hi]; simp
    rw [vals_at ha hx]
    exact congrArg some (by omega)
  rcases p with ⟨id, o⟩ | n | ⟨id, o⟩ | n | q | ⟨b, n⟩
  · simp only [mt] at hm
    cases hc : a.isI with
    | false => rw [hc] at hm; cases hm
    | true =>
      rw [hc] at hm
      obtain ⟨y, rfl, hy⟩ := hv.int hc
      simp only [cond_true] at hm
      cases ht : th[id]? with
      | some b =>
        rw [ht] at hm
        simp only at hm
        cases he : eqv s a (shA b o) with
        | false => rw [he] at hm; cases hm
        | true =>
          rw [he] at hm
          cases Option.some.inj hm
          exact ⟨hd, Ext.rf, y, rfl, old id o _ b ht he hy⟩
      | none =>
        rw [ht] at hm
        simp only at hm
        cases he : Nat.beq id th.length && (ile o 0 && ile 0 o) with
        | false => rw [he] at hm; cases hm
        | true =>
          rw [he] at hm
          cases Option.some.inj hm
          refine ⟨fun b hb => ?_, ⟨[a], rfl⟩, y, rfl, new id o _ he hy⟩
          rcases List.mem_append.mp hb with hb | hb
          · exact hd b hb
          · rcases List.mem_cons.mp hb with rfl | hb
            · exact Or.inl ⟨hc, y, hy⟩
            · cases hb
  · simp only [mt] at hm
    cases hc : a.isI && inR s a n n with
    | false => rw [hc] at hm; cases hm
    | true =>
      rw [hc] at hm
      cases Option.some.inj hm
      simp only [Bool.and_eq_true] at hc
      obtain ⟨y, rfl, hy⟩ := hv.int hc.1
      have := inR_ok h hc.2 hy (dom_i h hc.1 hy)
      exact ⟨hd, Ext.rf, y, rfl, by omega⟩
  · simp only [mt] at hm
    cases hc : a.isL with
    | false => rw [hc] at hm; cases hm
    | true =>
      rw [hc] at hm
      obtain ⟨y, rfl, hy⟩ := hv.long hc
      simp only [cond_true] at hm
      cases ht : th[id]? with
      | some b =>
        rw [ht] at hm
        simp only at hm
        cases he : eqv s a (shA b o) with
        | false => rw [he] at hm; cases hm
        | true =>
          rw [he] at hm
          cases Option.some.inj hm
          exact ⟨hd, Ext.rf, y, rfl, old id o _ b ht he hy⟩
      | none =>
        rw [ht] at hm
        simp only at hm
        cases he : Nat.beq id th.length && (ile o 0 && ile 0 o) with
        | false => rw [he] at hm; cases hm
        | true =>
          rw [he] at hm
          cases Option.some.inj hm
          refine ⟨fun b hb => ?_, ⟨[a], rfl⟩, y, rfl, new id o _ he hy⟩
          rcases List.mem_append.mp hb with hb | hb
          · exact hd b hb
          · rcases List.mem_cons.mp hb with rfl | hb
            · exact Or.inr ⟨hc, y, hy⟩
            · cases hb
  · simp only [mt] at hm
    cases hc : a.isL && inR s a n n with
    | false => rw [hc] at hm; cases hm
    | true =>
      rw [hc] at hm
      cases Option.some.inj hm
      simp only [Bool.and_eq_true] at hc
      obtain ⟨y, rfl, hy⟩ := hv.long hc.1
      have := inR_ok h hc.2 hy (dom_l h hc.1 hy)
      exact ⟨hd, Ext.rf, y, rfl, by omega⟩
  · simp only [mt] at hm
    cases hc : AV.eq a (.r q) with
    | false => rw [hc] at hm; cases hm
    | true =>
      rw [hc] at hm
      cases Option.some.inj hm
      have := AV.eq_of hc
      subst this
      exact ⟨hd, Ext.rf, hv⟩
  · simp only [mt] at hm
    cases hc : AV.eq a (.rr b n) with
    | false =>
      rw [hc] at hm
      simp only [cond_false] at hm
      split at hm
      · rename_i q
        cases hq : Nat.ble b q && Nat.blt q (b + n) with
        | false => rw [hq] at hm; cases hm
        | true =>
          rw [hq] at hm
          cases Option.some.inj hm
          rw [Bool.and_eq_true] at hq
          exact ⟨hd, Ext.rf, q, hv, Nat.le_of_ble_eq_true hq.1, Nat.le_of_ble_eq_true hq.2⟩
      · cases hm
    | true =>
      rw [hc] at hm
      cases Option.some.inj hm
      have := AV.eq_of hc
      subst this
      exact ⟨hd, Ext.rf, hv⟩
theorem mtl_ok (h : Ok J s ρ σ) : ∀ {ps as th th' : List AV} {v : List Value}, mtl s ps as th = some th' → Df ρ th → Rs ρ as v → Df ρ th' ∧ Ext th th' ∧ Rs (vals ρ th') ps v
  | [], [], th, th', v, hm, hd, hv => by
    cases Option.some.inj hm
    cases hv.nil
    exact ⟨hd, Ext.rf, trivial⟩
  | p :: ps, a :: as, th, th', v, hm, hd, hv => by
    unfold mtl at hm
    obtain ⟨w, v', rfl, h1, h2⟩ := hv.cons
    cases hc : mt s p a th with
    | none => rw [hc] at hm; cases hm
    | some t1 =>
      rw [hc] at hm
      obtain ⟨d1, e1, r1⟩ := mt_ok h hc hd h1
      obtain ⟨d2, e2, r2⟩ := mtl_ok h hm d1 h2
      exact ⟨d2, e1.tr e2, r1.mono e2.pre, r2⟩
  | [], _ :: _, th, th', v, hm, _, _ => by simp [mtl] at hm
  | _ :: _, [], th, th', v, hm, _, _ => by simp [mtl] at hm
theorem mtv_ok (h : Ok J s ρ σ) {lv : List (Nat × AV)} {l : List (Nat × Value)} (hl : Rl ρ lv l) : ∀ {ps : List (Nat × AV)} {th th' : List AV}, mtv s lv ps th = some th' → Df ρ th → ∃ (ks : List Nat) (l' : List (Nat × Value)), lv_pick l ks = l' ∧ Df ρ th' ∧ Ext th th' ∧ Rl (vals ρ th') ps l'
  | [], th, th', hm, hd => by
    cases Option.some.inj hm
    exact ⟨[], [], rfl, hd, Ext.rf, trivial⟩
  | p :: ps, th, th', hm, hd => by
    unfold mtv at hm
    cases hg : lget lv p.1 with
    | none => rw [hg] at hm; cases hm
    | some a =>
      rw [hg] at hm
      simp only at hm
      obtain ⟨q, w, g1, g2⟩ := lget_ok hl hg
      cases hc : mt s p.2 a th with
      | none => rw [hc] at hm; cases hm
      | some t1 =>
        rw [hc] at hm
        obtain ⟨d1, e1, r1⟩ := mt_ok h hc hd g2
        obtain ⟨ks, l', k1, d2, e2, r2⟩ := mtv_ok h hl hm d1
        refine ⟨q :: ks, (p.1, w) :: l', ?_, d2, e1.tr e2, ⟨rfl, r1.mono e2.pre⟩, r2⟩
        rw [← k1]
        simp [lv_pick, g1]
theorem plc_ok {th : List AV} {p q : AV} {x : Int} (hd : Df ρ th) (h : plc th p = some q) (hx : ev ρ q = some x) : ev (vals ρ th) p = some x := by
  rcases p with ⟨id, o⟩ | n | ⟨_, _⟩ | _ | _ | ⟨_, _⟩
  · simp only [plc] at h
    cases ht : th[id]? with
    | none => rw [ht] at h; cases h
    | some a =>
      rw [ht] at h
      simp only at h
      cases hi : a.isI with
      | false => rw [hi] at h; cases h
      | true =>
        rw [hi] at h
        cases Option.some.inj h
        obtain ⟨z, hz⟩ := hd.ev ht
        rw [shA_ev hz] at hx
        simp only [ev, vals_at ht hz]
        exact hx
  · cases Option.some.inj h; exact hx
  · cases h
  · cases h
  · cases h
  · cases h
theorem mtm_ok (h : Ok J s ρ σ) : ∀ {es : List (Nat × (AV × AV))} {th th' : List AV}, mtm s es th = some th' → Df ρ th → Df ρ th' ∧ Ext th th' ∧ ∀ e ∈ es, Mf (vals ρ th') σ e
  | [], th, th', hm, hd => by
    cases Option.some.inj hm
    exact ⟨hd, Ext.rf, fun e he => by cases he⟩
  | e :: es, th, th', hm, hd => by
    unfold mtm at hm
    cases hp : plc th e.2.1 with
    | none => rw [hp] at hm; cases hm
    | some p =>
      rw [hp] at hm
      simp only at hm
      cases hg : mget s.me e.1 p with
      | none => rw [hg] at hm; cases hm
      | some w =>
        rw [hg] at hm
        simp only at hm
        cases hc : mt s e.2.2 w th with
        | none => rw [hc] at hm; cases hm
        | some t1 =>
          rw [hc] at hm
          obtain ⟨j, j1, j2⟩ := h.me _ (mget_mem hg)
          have key : Df ρ t1 ∧ Ext th t1 ∧ ((e.2.2.isI = true ∧ ev (vals ρ t1) e.2.2 = some (σ.1 e.1 j).toInt) ∨ (e.2.2.isL = true ∧ ev (vals ρ t1) e.2.2 = some (σ.2 e.1 j).toInt)) := by
            rcases j2 with ⟨j2, j3⟩ | ⟨j2, j3⟩
            · obtain ⟨d1, e1, r1⟩ := mt_ok h hc hd (Rv.of_int j2 j3)
              exact ⟨d1, e1, Or.inl r1.isI'⟩
            · obtain ⟨d1, e1, r1⟩ := mt_ok h hc hd (Rv.of_long j2 j3)
              exact ⟨d1, e1, Or.inr r1.isL'⟩
          obtain ⟨d1, e1, r1⟩ := key
          obtain ⟨d2, e2, r2⟩ := mtm_ok h hm d1
          refine ⟨d2, e1.tr e2, fun e' he => ?_⟩
          rcases List.mem_cons.mp he with rfl | he
          · refine Mf.mono e2.pre ⟨j, ev.mono e1.pre (plc_ok hd hp j1), r1⟩
          · exact r2 e' he
theorem mte_ok (h : Ok J s ρ σ) {th : List AV} {env : List (Nat × Dom)} (hm : mte s th env = true) (hd : Df ρ th) : ∀ e ∈ env, ∃ x, (vals ρ th)[e.1]? = some x ∧ inD x e.2 := by
  intro e he
  have h1 := List.all_eq_true.mp hm e he
  cases ht : th[e.1]? with
  | none => rw [ht] at h1; cases h1
  | some a =>
    rw [ht] at h1
    simp only [Bool.or_eq_true] at h1
    obtain ⟨x, hx⟩ := hd.ev ht
    have hk := domR h (hd a (List.mem_of_getElem? ht)) hx
    refine ⟨x, vals_at ht hx, ?_⟩
    rcases h1 with h1 | h1
    · exact dsub_in h1 hk
    · split at h1
      · rename_i l u e2
        have := inR_ok h h1 hx hk
        rw [e2]
        exact ⟨_, List.mem_cons_self .., this.1, this.2⟩
      · cases h1
theorem tth_ok (h : Ok J s ρ σ) {th : List AV} (hd : Df ρ th) : ∀ {f g : Lf} {k : Int}, tth s th f = some (g, k) → ∃ u, tvo ρ g = some u ∧ tvo (vals ρ th) f = some (u + k)
  | [], g, k, hf => by
    cases Option.some.inj hf
    exact ⟨0, rfl, rfl⟩
  | t :: r, g, k, hf => by
    unfold tth at hf
    cases ht : th[t.1]? with
    | none => rw [ht] at hf; cases hf
    | some a =>
      rw [ht] at hf
      cases hr : tth s th r with
      | none => rw [hr] at hf; cases hf
      | some q =>
        obtain ⟨g', k'⟩ := q
        rw [hr] at hf
        simp only at hf
        cases hk : a.isI || a.isL with
        | false => rw [hk] at hf; cases hf
        | true =>
          rw [hk] at hf
          cases Option.some.inj hf
          obtain ⟨u, h1, h2⟩ := tth_ok h hd hr
          obtain ⟨x, hx⟩ := hd.ev ht
          obtain ⟨w, a1, a2⟩ := nf_ok h hx
          refine ⟨_, tlin_ok a1 h1, ?_⟩
          simp only [tvo, vals_at ht hx, h2]
          refine congrArg some ?_
          rw [a2, Int.mul_add]
          omega
theorem mtf_ok (h : Ok J s ρ σ) {th : List AV} {fa : List (Lf × Int)} (hm : mtf s th fa = true) (hd : Df ρ th) : ∀ e ∈ fa, ∃ v, tvo (vals ρ th) e.1 = some v ∧ v ≤ e.2 := by
  intro e he
  have h1 := List.all_eq_true.mp hm e he
  split at h1
  · rename_i g k hg
    obtain ⟨u, h2, h3⟩ := tth_ok h hd hg
    have := leq_ok h h1 h2
    exact ⟨_, h3, by omega⟩
  · cases h1
theorem allm_ok {m : Int} : ∀ {f : Lf} {v : Int}, f.all (fun t => ile (t.2 % m) 0 && ile 0 (t.2 % m)) = true → tvo ρ f = some v → ∃ q, v = m * q
  | [], v, _, hv => by cases Option.some.inj hv; exact ⟨0, by omega⟩
  | t :: r, v, h, hv => by
    simp only [List.all_cons, Bool.and_eq_true] at h
    unfold tvo at hv
    cases h1 : ρ[t.1]? with
    | none => rw [h1] at hv; cases hv
    | some y =>
      rw [h1] at hv
      cases h2 : tvo ρ r with
      | none => rw [h2] at hv; cases hv
      | some w =>
        rw [h2] at hv
        have hv := Option.some.inj hv
        obtain ⟨q, hq⟩ := allm_ok (f := r) h.2 h2
        have h0 : t.2 % m = 0 := ile_eq h.1
        obtain ⟨c, hc⟩ := Int.dvd_of_emod_eq_zero h0
        refine ⟨c * y + q, ?_⟩
        rw [← hv, hq, hc, Int.mul_add, Int.mul_assoc]
theorem res_ok (h : Ok J s ρ σ) {a : AV} {x m r : Int} (hr : res s a m = some r) (hx : ev ρ a = some x) : ∃ q, x = m * q + r := by
  have fin : ∀ z : Int, ∃ q, z = m * q + z % m := fun z => ⟨z / m, (Int.mul_ediv_add_emod z m).symm⟩
  rcases a with ⟨id, o⟩ | n | ⟨_, _⟩ | _ | _ | ⟨_, _⟩
  · simp only [res] at hr
    simp only [ev] at hx
    cases hi : ρ[id]? with
    | none => rw [hi] at hx; cases hx
    | some y =>
      rw [hi] at hx
      have hx := Option.some.inj hx
      cases hc : lk s.cg id with
      | some q =>
        obtain ⟨M, r0⟩ := q
        rw [hc] at hr
        simp only at hr
        cases hm : ile (M % m) 0 && ile 0 (M % m) with
        | false => rw [hm] at hr; cases hr
        | true =>
          rw [hm] at hr
          cases Option.some.inj hr
          rw [Bool.and_eq_true] at hm
          have h0 : M % m = 0 := ile_eq hm
          obtain ⟨c, hcM⟩ := Int.dvd_of_emod_eq_zero h0
          obtain ⟨y', g1, q, g2⟩ := h.cg _ (lk_mem hc)
          have g1 : ρ[id]? = some y' := g1
          rw [hi] at g1
          cases Option.some.inj g1
          dsimp only at g2
          obtain ⟨q2, e2⟩ := fin (r0 + o)
          refine ⟨c * q + q2, ?_⟩
          rw [Int.mul_add, ← Int.mul_assoc, ← hcM]
          omega
      | none =>
        rw [hc] at hr
        simp only at hr
        cases hd : lk s.df id with
        | none => rw [hd] at hr; cases hr
        | some q =>
          obtain ⟨f, k⟩ := q
          rw [hd] at hr
          simp only at hr
          cases hm : f.all (fun t => ile (t.2 % m) 0 && ile 0 (t.2 % m)) with
          | false => rw [hm] at hr; cases hr
          | true =>
            rw [hm] at hr
            cases Option.some.inj hr
            obtain ⟨y', w, g1, g2, g3⟩ := h.df _ (lk_mem hd)
            have g1 : ρ[id]? = some y' := g1
            rw [hi] at g1
            cases Option.some.inj g1
            dsimp only at g2 g3
            obtain ⟨q, hq⟩ := allm_ok hm g2
            obtain ⟨q2, e2⟩ := fin (k + o)
            refine ⟨q + q2, ?_⟩
            rw [Int.mul_add]
            omega
  · simp only [res] at hr
    cases Option.some.inj hr
    cases Option.some.inj hx
    exact fin _
  · cases hr
  · cases hr
  · cases hr
  · cases hr
theorem mtc_ok (h : Ok J s ρ σ) {th : List AV} {cg : List (Nat × (Int × Int))} (hm : mtc s th cg = true) (hd : Df ρ th) : ∀ e ∈ cg, ∃ x, (vals ρ th)[e.1]? = some x ∧ ∃ q, x = e.2.1 * q + e.2.2 := by
  intro e he
  have h1 := List.all_eq_true.mp hm e he
  cases ht : th[e.1]? with
  | none => rw [ht] at h1; cases h1
  | some a =>
    rw [ht] at h1
    simp only at h1
    split at h1
    · rename_i r hr
      rw [Bool.and_eq_true] at h1
      have := ile_eq h1
      subst this
      obtain ⟨x, hx⟩ := hd.ev ht
      exact ⟨x, vals_at ht hx, res_ok h hr hx⟩
    · cases h1
theorem mth_ok (h : Ok J s ρ σ) : ∀ {ps as : List (Nat × AV)} {th th' : List AV} {H : List (Nat × Int)}, mth s ps as th = some th' → Df ρ th → Hl ρ as H → Df ρ th' ∧ Ext th th' ∧ Hl (vals ρ th') ps H
  | [], [], th, th', [], hm, hd, _ => by
    cases Option.some.inj hm
    exact ⟨hd, Ext.rf, trivial⟩
  | p :: ps, a :: as, th, th', e :: H, hm, hd, hv => by
    unfold mth at hm
    obtain ⟨⟨h1, h2⟩, h3⟩ := hv
    cases hc : Nat.beq p.1 a.1 && (match edom s a.2 with
      | some d => fit32 d
      | none => false) with
    | false => rw [hc] at hm; cases hm
    | true =>
      rw [hc] at hm
      rw [Bool.and_eq_true] at hc
      have hp := Nat.eq_of_beq_eq_true hc.1
      have hq := hc.2
      simp only [cond_true] at hm
      split at hq
      · rename_i d he
        have hr := fit32_in hq (edom_ok h he h2)
        have hy : (Int32.ofInt e.2).toInt = e.2 := Int32.toInt_ofInt_of_le (by omega) (by omega)
        have hi : a.2.isI = true := by
          generalize a.2 = b at he
          rcases b with ⟨_, _⟩ | _ | ⟨_, _⟩ | _ | _ | ⟨_, _⟩
          · rfl
          · rfl
          all_goals (simp [edom] at he)
        have hv : Rv ρ a.2 (.int (Int32.ofInt e.2)) := rv_int hi (by rw [hy]; exact h2)
        cases hm1 : mt s p.2 a.2 th with
        | none => rw [hm1] at hm; cases hm
        | some t1 =>
          rw [hm1] at hm
          obtain ⟨d1, e1, r1⟩ := mt_ok h hm1 hd hv
          obtain ⟨d2, e2, r2⟩ := mth_ok h hm d1 h3
          refine ⟨d2, e1.tr e2, ⟨hp.trans h1, ?_⟩, r2⟩
          have := (Rv.isI' r1).2
          rw [hy] at this
          exact ev.mono e2.pre this
      · cases hq
  | [], _ :: _, th, th', H, hm, _, _ => by simp [mth] at hm
  | _ :: _, [], th, th', H, hm, _, _ => by simp [mth] at hm
  | [], [], th, th', _ :: _, hm, _, hv => hv.elim
  | _ :: _, _ :: _, th, th', [], hm, _, hv => hv.elim
/-- what is known at a place holds of the numbers that it stands for -/
theorem mta_ok (h : Ok J s ρ σ) {a : Kn} {th t : List AV} (hm : mta s a th = some t) (hd : Df ρ th) : Df ρ t ∧ Ext th t ∧ mtk t a.ks = true ∧ Ok J a.sy (vals ρ t) σ := by
  unfold mta at hm
  split at hm
  · rename_i t0 ht
    split at hm
    · rename_i t' hth
      cases hc : mtk t' a.ks && (mte s t' a.env && (mtc s t' a.cg && mtf s t' a.fa)) with
      | false => rw [hc] at hm; cases hm
      | true =>
        rw [hc] at hm
        cases Option.some.inj hm
        simp only [Bool.and_eq_true] at hc
        obtain ⟨d1, e1, r1⟩ := mtm_ok h ht hd
        obtain ⟨H, i1, i2⟩ := h.inv
        obtain ⟨d2, e2, r2⟩ := mth_ok h hth d1 i1
        have hn : t.length = a.ks.length := by
          have := hc.1
          simp only [mtk, Bool.and_eq_true] at this
          exact Nat.eq_of_beq_eq_true this.1
        exact ⟨d2, e1.tr e2, hc.1, by simp [vals, hn, Kn.sy], mte_ok h hc.2.1 d2, fun e he => (r1 e he).mono e2.pre, mtc_ok h hc.2.2.1 d2, fun e he => (by cases he), mtf_ok h hc.2.2.2 d2, H, r2, i2⟩
    · cases hm
  · cases hm
end W7
end
