/-! ===== ENGINE 7: frames, cuts, contracts: the walk ===== -/
abbrev Fm : Type := Nat × (Nat × ((List (Nat × AV)) × ((List AV))))
abbrev Fm.m (a : Fm) : Nat := a.1
abbrev Fm.pc (a : Fm) : Nat := a.2.1
abbrev Fm.lv (a : Fm) : (List (Nat × AV)) := a.2.2.1
abbrev Fm.st (a : Fm) : (List AV) := a.2.2.2
/-- what is known at a cut (or of a method's arguments: lv their places, in order): numbers 0 .. n - 1; mu: what falls -/
abbrev An : Type := (List (Nat × AV)) × ((List AV) × (Nat × ((List (Nat × Dom)) × ((List (Nat × (AV × AV))) × ((List (Nat × Int) × Int))))))
abbrev An.lv (a : An) : (List (Nat × AV)) := a.1
abbrev An.st (a : An) : (List AV) := a.2.1
abbrev An.n (a : An) : Nat := a.2.2.1
abbrev An.env (a : An) : (List (Nat × Dom)) := a.2.2.2.1
abbrev An.me (a : An) : (List (Nat × (AV × AV))) := a.2.2.2.2.1
abbrev An.mu (a : An) : (List (Nat × Int) × Int) := a.2.2.2.2.2
def An.sy (a : An) : Sy := (a.n, (a.env, (a.me, [])))
/-- a contract: arguments; answer: 0 none, 1 int, 2 long; its bounds; what it may write -/
abbrev Ct : Type := (List AV) × (Nat × ((List (Nat × Dom)) × ((List (Nat × (AV × AV))) × (Nat × (Dom × ((BT Unit) × ((BT An) × ((BT Nat) × (Bool × (Int × ((BT Unit))))))))))))
abbrev Ct.ar (a : Ct) : (List AV) := a.1
abbrev Ct.n (a : Ct) : Nat := a.2.1
abbrev Ct.env (a : Ct) : (List (Nat × Dom)) := a.2.2.1
abbrev Ct.me (a : Ct) : (List (Nat × (AV × AV))) := a.2.2.2.1
abbrev Ct.rk (a : Ct) : Nat := a.2.2.2.2.1
abbrev Ct.rd (a : Ct) : Dom := a.2.2.2.2.2.1
abbrev Ct.w (a : Ct) : (BT Unit) := a.2.2.2.2.2.2.1
abbrev Ct.cut (a : Ct) : (BT An) := a.2.2.2.2.2.2.2.1
abbrev Ct.inl (a : Ct) : (BT Nat) := a.2.2.2.2.2.2.2.2.1
abbrev Ct.any (a : Ct) : Bool := a.2.2.2.2.2.2.2.2.2.1
abbrev Ct.big (a : Ct) : Int := a.2.2.2.2.2.2.2.2.2.2.1
abbrev Ct.spl (a : Ct) : (BT Unit) := a.2.2.2.2.2.2.2.2.2.2.2
def Ct.W (c : Ct) (k : Nat) : Bool := bif c.any then true else match c.w.get k with
  | some _ => true
  | none => false
abbrev Gx : Type := Gl × ((BT Ct) × ((BT (Nat × (Nat × Bool))) × ((BT (Nat × (Nat × (Nat × (Nat × Nat))))))))
abbrev Gx.g (a : Gx) : Gl := a.1
abbrev Gx.ct (a : Gx) : (BT Ct) := a.2.1
abbrev Gx.call (a : Gx) : (BT (Nat × (Nat × Bool))) := a.2.2.1
abbrev Gx.room (a : Gx) : (BT (Nat × (Nat × (Nat × (Nat × Nat))))) := a.2.2.2
def retFits (s : Sy) (t : Nat) (a : AV) : Bool := match t with
  | 1 => a.isI
  | 2 => a.isI && dsub (dom s a) [(0, 1)]
  | 4 => a.isI && dsub (dom s a) [(0, 65535)]
  | _ => false
/-- pattern p is met by a; th: what the pattern's numbers stand for -/
def mt (s : Sy) (p a : AV) (th : List AV) : Option (List AV) := match p with
  | .inl (id, o) => bif a.isI && (ile o 0 && ile 0 o) then (match th[id]? with
    | some b => bif AV.eq a b then some th else none
    | none => bif Nat.beq id th.length then some (th ++ [a]) else none) else none
  | .inr (.inr (.inl (id, o))) => bif a.isL && (ile o 0 && ile 0 o) then (match th[id]? with
    | some b => bif AV.eq a b then some th else none
    | none => bif Nat.beq id th.length then some (th ++ [a]) else none) else none
  | .inr (.inl n) => bif a.isI && dsub (dom s a) [(n, n)] then some th else none
  | .inr (.inr (.inr (.inl n))) => bif a.isL && dsub (dom s a) [(n, n)] then some th else none
  | .inr (.inr (.inr (.inr (.inl q)))) => bif AV.eq a (.r q) then some th else none
  | .inr (.inr (.inr (.inr (.inr (b, n))))) => bif AV.eq a (.rr b n) then some th else none
def mtl (s : Sy) : List AV → List AV → List AV → Option (List AV)
  | [], [], th => some th
  | p :: ps, a :: as, th => match mt s p a th with
    | some th' => mtl s ps as th'
    | none => none
  | _, _, _ => none
def mtv (s : Sy) (lv : List (Nat × AV)) : List (Nat × AV) → List AV → Option (List AV)
  | [], th => some th
  | p :: ps, th => match lget lv p.1 with
    | some a => match mt s p.2 a th with
      | some th' => mtv s lv ps th'
      | none => none
    | none => none
/-- the place that a pattern's place stands for -/
def plc (th : List AV) (p : AV) : Option AV := match p with
  | .inr (.inl n) => some (.c n)
  | .inl (id, o) => bif ile o 0 && ile 0 o then th[id]? else none
  | _ => none
def mtm (s : Sy) : List (Nat × (AV × AV)) → List AV → Option (List AV)
  | [], th => some th
  | e :: es, th => match plc th e.2.1 with
    | some p => match mget s.me e.1 p with
      | some v => match mt s e.2.2 v th with
        | some th' => mtm s es th'
        | none => none
      | none => none
    | none => none
def mte (s : Sy) (th : List AV) (env : List (Nat × Dom)) : Bool := env.all fun e => match th[e.1]? with
  | some a => dsub (dom s a) e.2
  | none => false
/-- sums of numbers with weights -/
def tad (id : Nat) (c : Int) : List (Nat × Int) → List (Nat × Int)
  | [] => [(id, c)]
  | t :: r => bif Nat.beq t.1 id then (id, t.2 + c) :: r else t :: tad id c r
/-- minus the sum mu under th, added to T and the constant -/
def tsub (th : List AV) : List (Nat × Int) → List (Nat × Int) × Int → Option (List (Nat × Int) × Int)
  | [], T => some T
  | t :: r, T => match th[t.1]? with
    | some (.inl (id, o)) => tsub th r (tad id (-t.2) T.1, T.2 - t.2 * o)
    | some (.inr (.inl n)) => tsub th r (T.1, T.2 - t.2 * n)
    | _ => none
def tlb (s : Sy) : List (Nat × Int) → Int → Option Int
  | [], z => some z
  | t :: r, z => bif ile t.2 0 && ile 0 t.2 then tlb s r z else match lk s.env t.1 with
    | some d => tlb s r (z + (bif ile 0 t.2 then t.2 * dlo d else t.2 * dhi d))
    | none => none
/-- mu falls: the sum mu0 of the beginning's numbers is greater than that of a under th, which is not below 0 -/
def falls (s : Sy) (th : List AV) (mu0 mu : List (Nat × Int) × Int) : Bool :=
  (match tsub th mu.1 (mu0.1, mu0.2 - mu.2) with
    | some T => match tlb s T.1 T.2 with
      | some z => ile 1 z
      | none => false
    | none => false) && (match tsub th mu.1 ([], - mu.2) with
    | some T => match tlb s (T.1.map fun t => (t.1, -t.2)) (-T.2) with
      | some z => ile 0 z
      | none => false
    | none => false)
/-- the walk has come to a cut -/
def arrive (s : Sy) (lv : List (Nat × AV)) (st : List AV) (mu0 : List (Nat × Int) × Int) (a : An) : Bool :=
  match mtv s lv a.lv [] with
  | some t1 => match mtl s a.st st t1 with
    | some t2 => match mtm s a.me t2 with
      | some th => (Nat.beq th.length a.n && mte s th a.env) && falls s th mu0 a.mu
      | none => false
    | none => false
  | none => false
/-- what is known behind a call that writes w -/
def keeps (G : Gl) (w : Nat → Bool) (e : Nat × (AV × AV)) : Bool := match G.ka.get e.1 with
  | some _ => !(w (e.1 * 1024 + 1023))
  | none => match e.2.1 with
    | .inr (.inl (.ofNat j)) => !(w (e.1 * 1024 + j))
    | _ => false
def Sy.behind (s : Sy) (G : Gl) (w : Nat → Bool) : Sy := (s.nx, (s.env, (s.me.filter (keeps G w), s.un.filter fun e => match G.ka.get e.1 with
  | some (_, z) => Nat.ble e.2.1 z && !(w (e.1 * 1024 + 1023))
  | none => false)))
/-- n values off the stack, the last one first -/
def pops : Nat → List AV → List AV → Option (List AV × List AV)
  | 0, st, acc => some (acc, st)
  | n + 1, a :: st, acc => pops n st (a :: acc)
  | _ + 1, [], _ => none
def okr (a : AV) : Bool := match a with
  | .inr (.inr (.inr (.inr (.inl q)))) => Nat.blt q 215 || Nat.ble 1000 q
  | .inr (.inr (.inr (.inr (.inr (b, n))))) => Nat.ble (b + n) 215
  | _ => true
def cats (as : List AV) : Nat := (as.map AV.cat).foldr (· + ·) 0
def okfr (lv : List (Nat × AV)) (rest : List AV) : Bool := (lv.all fun q => okr q.2) && (rest.all okr && Nat.ble (cats rest) 8)
def roomOk (G : Gx) (m z : Nat) (args : List AV) : Bool := match G.room.get m, G.room.get z with
  | some (fr, (lo, _)), some (fz, (lz, (nl, _))) => (Nat.ble (fz + 1) fr && Nat.ble (8 + (nl + 11) + lz) lo) && Nat.ble (cats args) nl
  | _, _ => false
def argLv : Nat → List AV → List (Nat × AV)
  | _, [] => []
  | i, a :: r => (i, a) :: argLv (i + a.cat) r
def wsub (a : BT Unit) (w : Nat → Bool) : Bool := a.all fun k _ => w k
abbrev Wk := Sy → Fm → List Fm → Bool
def goW (c : Ct) (mu0 : List (Nat × Int) × Int) (w : Wk) (s : Sy) (m pc : Nat) (lv : List (Nat × AV)) (st : List AV) (fs : List Fm) : Bool := match fs with
  | [] => match c.cut.get pc with
    | some a => arrive s lv st mu0 a
    | none => w s ⟨m, pc, lv, st⟩ []
  | g :: gs => w s ⟨m, pc, lv, st⟩ (g :: gs)
def retW (c : Ct) (mu0 : List (Nat × Int) × Int) (fin : Sy → Option AV → Bool) (w : Wk) (s : Sy) (fs : List Fm) (a : Option AV) : Bool := match fs with
  | [] => fin s a
  | g :: gs => goW c mu0 w s g.m g.pc g.lv (a.toList ++ g.st) gs
def ctW (G : Gx) (c : Ct) (mu0 : List (Nat × Int) × Int) (w : Wk) (s : Sy) (f : Fm) (fs : List Fm) (q : Ct) (args rest : List AV) : Bool :=
  bif !(q.any) && wsub q.w c.W then (match mtl s q.ar args [] with
    | some t2 => match mtm s q.me t2 with
      | some th => bif Nat.beq th.length q.n && mte s th q.env then (match q.rk with
        | 0 => goW c mu0 w (s.behind G.g q.W) f.m (f.pc + 3) f.lv rest fs
        | 1 => goW c mu0 w ((s.behind G.g q.W).newI q.rd).1 f.m (f.pc + 3) f.lv (((s.behind G.g q.W).newI q.rd).2 :: rest) fs
        | 2 => goW c mu0 w ((s.behind G.g q.W).newL q.rd).1 f.m (f.pc + 3) f.lv (((s.behind G.g q.W).newL q.rd).2 :: rest) fs
        | _ => false) else false
      | none => false
    | none => false) else false
def callW (G : Gx) (r : Nat) (c : Ct) (mu0 : List (Nat × Int) × Int) (w : Wk) (s : Sy) (f : Fm) (fs : List Fm) (z : Nat) (args rest : List AV) : Bool :=
  bif okfr f.lv rest && roomOk G f.m z args then (match c.inl.get z with
    | some _ => w s ⟨z, 0, argLv 0 args, []⟩ (⟨f.m, f.pc + 3, f.lv, rest⟩ :: fs)
    | none => match G.ct.get z with
      | some q => Nat.blt z r && ctW G c mu0 w s f fs q args rest
      | none => false) else false
def walkB (G : Gx) (r : Nat) (c : Ct) (mu0 : List (Nat × Int) × Int) (fin : Sy → Option AV → Bool) (w : Wk) (s : Sy) (f : Fm) (fs : List Fm) : Bool :=
  match (G.g.code f.m).get f.pc with
  | none => false
  | some (ix, len) => match ix with
    | .ireturn => match f.st, G.room.get f.m with
      | [a], some (_, (_, (_, (t, _)))) => retFits s t a && retW c mu0 fin w s fs (some a)
      | _, _ => false
    | .lreturn => match f.st, G.room.get f.m with
      | [a], some (_, (_, (_, (t, _)))) => (Nat.beq t 3 && a.isL) && retW c mu0 fin w s fs (some a)
      | _, _ => false
    | .return_ => match f.st, G.room.get f.m with
      | [], some (_, (_, (_, (t, _)))) => Nat.beq t 0 && retW c mu0 fin w s fs none
      | _, _ => false
    | .invokestatic x => match G.call.get (G.g.own f.m * 4096 + x) with
      | some (z, (k, true)) => match pops k f.st [] with
        | some (args, rest) => callW G r c mu0 w s f fs z args rest
        | none => false
      | _ => match step1 G.g c.W f.m (.invokestatic x) f.pc (f.pc + len) s f.lv f.st with
        | some L => L.all fun u => goW c mu0 w u.1 f.m u.2.1 u.2.2.1 u.2.2.2 fs
        | none => false
    | .invokevirtual x => match G.call.get (G.g.own f.m * 4096 + x) with
      | some (z, (k, false)) => match pops (k + 1) f.st [] with
        | some (.inr (.inr (.inr (.inr (.inl kb)))) :: args, rest) => match G.room.get z with
          | some (_, (_, (_, (_, q)))) => Nat.beq q kb && callW G r c mu0 w s f fs z (.r kb :: args) rest
          | none => false
        | _ => false
      | _ => false
    | ix => match step1 G.g c.W f.m ix f.pc (f.pc + len) s f.lv f.st with
      | some L => L.all fun u => goW c mu0 w u.1 f.m u.2.1 u.2.2.1 u.2.2.2 fs
      | none => false
def enum (d : Dom) : List Int := d.flatMap fun p => (List.range (p.2 - p.1 + 1).toNat).map fun (t : Nat) => p.1 + (t : Int)
def many (d : Dom) : Bool := match d with
  | [(a, b)] => !(ile b a)
  | _ => true
def walkS (G : Gx) (r : Nat) (c : Ct) (mu0 : List (Nat × Int) × Int) (fin : Sy → Option AV → Bool) (w : Wk) (s : Sy) (f : Fm) (fs : List Fm) : Bool :=
  match c.spl.get (f.m * 65536 + f.pc), f.st with
  | some _, a :: _ => bif a.isI && many (dom s a) then (enum (dom s a)).all (fun j => match s.cut .eq a (.c j) with
    | some s' => w s' f fs
    | none => true) else walkB G r c mu0 fin w s f fs
  | _, _ => walkB G r c mu0 fin w s f fs
def walk (G : Gx) (r : Nat) (c : Ct) (mu0 : List (Nat × Int) × Int) (fin : Sy → Option AV → Bool) : Nat → Wk
  | 0 => fun _ _ _ => false
  | n + 1 => walkS G r c mu0 fin (walk G r c mu0 fin n)
/-! ===== ENGINE 8: the walk is right ===== -/
def vals (ρ : List Int) (th : List AV) : List Int := th.map fun a => (ev ρ a).getD 0
def Df (ρ : List Int) (th : List AV) : Prop := ∀ a ∈ th, (a.isI = true ∧ ∃ y : Int32, ev ρ a = some y.toInt) ∨ (a.isL = true ∧ ∃ y : Int64, ev ρ a = some y.toInt)
def Ext (th th' : List AV) : Prop := ∃ t, th' = th ++ t
theorem Ext.rf {th : List AV} : Ext th th := ⟨[], by simp⟩
theorem Ext.tr {a b c : List AV} (h : Ext a b) (h' : Ext b c) : Ext a c := by
  obtain ⟨s, rfl⟩ := h
  obtain ⟨t, rfl⟩ := h'
  exact ⟨s ++ t, by simp⟩
theorem Ext.pre {ρ : List Int} {th th' : List AV} (h : Ext th th') : Pre (vals ρ th) (vals ρ th') := by
  obtain ⟨t, rfl⟩ := h
  exact ⟨vals ρ t, by simp [vals]⟩
theorem vals_at {ρ : List Int} {th : List AV} {i : Nat} {a : AV} {x : Int} (h : th[i]? = some a) (hx : ev ρ a = some x) : (vals ρ th)[i]? = some x := by
  simp [vals, List.getElem?_map, h, hx]
theorem Rv.isI {ρ : List Int} {p : AV} {y : Int32} (h : Rv ρ p (.int y)) : p.isI = true ∧ ev ρ p = some y.toInt := by
  rcases p with ⟨id, o⟩ | n | ⟨id, o⟩ | n | q | ⟨b, n⟩
  · obtain ⟨z, h1, h2⟩ := h; cases h1; exact ⟨rfl, h2⟩
  · obtain ⟨z, h1, h2⟩ := h; cases h1; exact ⟨rfl, congrArg some h2⟩
  · obtain ⟨z, h1, h2⟩ := h; cases h1
  · obtain ⟨z, h1, h2⟩ := h; cases h1
  · cases h
  · obtain ⟨z, h1, h2⟩ := h; cases h1
theorem Rv.isL {ρ : List Int} {p : AV} {y : Int64} (h : Rv ρ p (.long y)) : p.isL = true ∧ ev ρ p = some y.toInt := by
  rcases p with ⟨id, o⟩ | n | ⟨id, o⟩ | n | q | ⟨b, n⟩
  · obtain ⟨z, h1, h2⟩ := h; cases h1
  · obtain ⟨z, h1, h2⟩ := h; cases h1
  · obtain ⟨z, h1, h2⟩ := h; cases h1; exact ⟨rfl, h2⟩
  · obtain ⟨z, h1, h2⟩ := h; cases h1; exact ⟨rfl, congrArg some h2⟩
  · cases h
  · obtain ⟨z, h1, h2⟩ := h; cases h1
section E8
variable {J : zS → Prop} {s : Sy} {ρ : List Int} {σ : zS}
theorem mt_ok (h : Ok J s ρ σ) {p a : AV} {th th' : List AV} {v : Value} (hm : mt s p a th = some th') (hd : Df ρ th) (hv : Rv ρ a v) : Df ρ th' ∧ Ext th th' ∧ Rv (vals ρ th') p v := by
  rcases p with ⟨id, o⟩ | n | ⟨id, o⟩ | n | q | ⟨b, n⟩
  · simp only [mt] at hm
    cases hc : a.isI && (ile o 0 && ile 0 o) with
    | false => rw [hc] at hm; cases hm
    | true =>
      rw [hc] at hm
      simp only [Bool.and_eq_true] at hc
      have ho : o = 0 := ile_eq hc.2
      subst ho
      obtain ⟨y, rfl, hy⟩ := hv.int hc.1
      simp only [cond_true] at hm
      cases ht : th[id]? with
      | some b =>
        rw [ht] at hm
        simp only at hm
        cases he : AV.eq a b with
        | false => rw [he] at hm; cases hm
        | true =>
          rw [he] at hm
          cases Option.some.inj hm
          have := AV.eq_of he
          subst this
          exact ⟨hd, Ext.rf, y, rfl, by simp only [ev, vals_at ht hy, Int.add_zero]⟩
      | none =>
        rw [ht] at hm
        simp only at hm
        cases he : Nat.beq id th.length with
        | false => rw [he] at hm; cases hm
        | true =>
          rw [he] at hm
          cases Option.some.inj hm
          have hi := Nat.eq_of_beq_eq_true he
          have ha : (th ++ [a])[id]? = some a := by rw [hi]; simp
          refine ⟨fun b hb => ?_, ⟨[a], rfl⟩, y, rfl, by simp only [ev, vals_at ha hy, Int.add_zero]⟩
          rcases List.mem_append.mp hb with hb | hb
          · exact hd b hb
          · rcases List.mem_cons.mp hb with rfl | hb
            · exact Or.inl ⟨hc.1, y, hy⟩
            · cases hb
  · simp only [mt] at hm
    cases hc : a.isI && dsub (dom s a) [(n, n)] with
    | false => rw [hc] at hm; cases hm
    | true =>
      rw [hc] at hm
      cases Option.some.inj hm
      simp only [Bool.and_eq_true] at hc
      obtain ⟨y, rfl, hy⟩ := hv.int hc.1
      have := inD_one (dsub_in hc.2 (dom_i h hc.1 hy))
      exact ⟨hd, Ext.rf, y, rfl, by omega⟩
  · simp only [mt] at hm
    cases hc : a.isL && (ile o 0 && ile 0 o) with
    | false => rw [hc] at hm; cases hm
    | true =>
      rw [hc] at hm
      simp only [Bool.and_eq_true] at hc
      have ho : o = 0 := ile_eq hc.2
      subst ho
      obtain ⟨y, rfl, hy⟩ := hv.long hc.1
      simp only [cond_true] at hm
      cases ht : th[id]? with
      | some b =>
        rw [ht] at hm
        simp only at hm
        cases he : AV.eq a b with
        | false => rw [he] at hm; cases hm
        | true =>
          rw [he] at hm
          cases Option.some.inj hm
          have := AV.eq_of he
          subst this
          exact ⟨hd, Ext.rf, y, rfl, by simp only [ev, vals_at ht hy, Int.add_zero]⟩
      | none =>
        rw [ht] at hm
        simp only at hm
        cases he : Nat.beq id th.length with
        | false => rw [he] at hm; cases hm
        | true =>
          rw [he] at hm
          cases Option.some.inj hm
          have hi := Nat.eq_of_beq_eq_true he
          have ha : (th ++ [a])[id]? = some a := by rw [hi]; simp
          refine ⟨fun b hb => ?_, ⟨[a], rfl⟩, y, rfl, by simp only [ev, vals_at ha hy, Int.add_zero]⟩
          rcases List.mem_append.mp hb with hb | hb
          · exact hd b hb
          · rcases List.mem_cons.mp hb with rfl | hb
            · exact Or.inr ⟨hc.1, y, hy⟩
            · cases hb
  · simp only [mt] at hm
    cases hc : a.isL && dsub (dom s a) [(n, n)] with
    | false => rw [hc] at hm; cases hm
    | true =>
      rw [hc] at hm
      cases Option.some.inj hm
      simp only [Bool.and_eq_true] at hc
      obtain ⟨y, rfl, hy⟩ := hv.long hc.1
      have := inD_one (dsub_in hc.2 (dom_l h hc.1 hy))
      exact ⟨hd, Ext.rf, y, rfl, by omega⟩
  · simp only [mt] at hm
    cases hc : AV.eq a (.r q) with
    | false => rw [hc] at hm; cases hm
    | true =>
      rw [hc] at hm
      cases Option.some.inj hm
      have := AV.eq_of hc
      subst this
      exact ⟨hd, Ext.rf, hv⟩
  · simp only [mt] at hm
    cases hc : AV.eq a (.rr b n) with
    | false => rw [hc] at hm; cases hm
    | true =>
      rw [hc] at hm
      cases Option.some.inj hm
      have := AV.eq_of hc
      subst this
      exact ⟨hd, Ext.rf, hv⟩
theorem mtl_ok (h : Ok J s ρ σ) : ∀ {ps as th th' : List AV} {v : List Value}, mtl s ps as th = some th' → Df ρ th → Rs ρ as v → Df ρ th' ∧ Ext th th' ∧ Rs (vals ρ th') ps v
  | [], [], th, th', v, hm, hd, hv => by
    cases Option.some.inj hm
    cases hv.nil
    exact ⟨hd, Ext.rf, trivial⟩
  | p :: ps, a :: as, th, th', v, hm, hd, hv => by
    unfold mtl at hm
    obtain ⟨w, v', rfl, h1, h2⟩ := hv.cons
    cases hc : mt s p a th with
    | none => rw [hc] at hm; cases hm
    | some t1 =>
      rw [hc] at hm
      obtain ⟨d1, e1, r1⟩ := mt_ok h hc hd h1
      obtain ⟨d2, e2, r2⟩ := mtl_ok h hm d1 h2
      exact ⟨d2, e1.tr e2, r1.mono e2.pre, r2⟩
  | [], _ :: _, th, th', v, hm, _, _ => by simp [mtl] at hm
  | _ :: _, [], th, th', v, hm, _, _ => by simp [mtl] at hm
theorem mtv_ok (h : Ok J s ρ σ) {lv : List (Nat × AV)} {l : List (Nat × Value)} (hl : Rl ρ lv l) : ∀ {ps : List (Nat × AV)} {th th' : List AV}, mtv s lv ps th = some th' → Df ρ th → ∃ (ks : List Nat) (l' : List (Nat × Value)), lv_pick l ks = l' ∧ Df ρ th' ∧ Ext th th' ∧ Rl (vals ρ th') ps l'
  | [], th, th', hm, hd => by
    cases Option.some.inj hm
    exact ⟨[], [], rfl, hd, Ext.rf, trivial⟩
  | p :: ps, th, th', hm, hd => by
    unfold mtv at hm
    cases hg : lget lv p.1 with
    | none => rw [hg] at hm; cases hm
    | some a =>
      rw [hg] at hm
      simp only at hm
      obtain ⟨q, w, g1, g2⟩ := lget_ok hl hg
      cases hc : mt s p.2 a th with
      | none => rw [hc] at hm; cases hm
      | some t1 =>
        rw [hc] at hm
        obtain ⟨d1, e1, r1⟩ := mt_ok h hc hd g2
        obtain ⟨ks, l', k1, d2, e2, r2⟩ := mtv_ok h hl hm d1
        refine ⟨q :: ks, (p.1, w) :: l', ?_, d2, e1.tr e2, ⟨rfl, r1.mono e2.pre⟩, r2⟩
        rw [← k1]
        simp [lv_pick, g1]
theorem plc_ok {th : List AV} {p q : AV} {x : Int} (h : plc th p = some q) (hx : ev ρ q = some x) : ev (vals ρ th) p = some x := by
  rcases p with ⟨id, o⟩ | n | ⟨_, _⟩ | _ | _ | ⟨_, _⟩
  · simp only [plc] at h
    cases hc : ile o 0 && ile 0 o with
    | false => rw [hc] at h; cases h
    | true =>
      rw [hc] at h
      simp only [Bool.and_eq_true] at hc
      have ho : o = 0 := ile_eq hc
      subst ho
      simp only [ev, vals_at h hx, Int.add_zero]
  · cases Option.some.inj h; exact hx
  · cases h
  · cases h
  · cases h
  · cases h
theorem mtm_ok (h : Ok J s ρ σ) : ∀ {es : List (Nat × (AV × AV))} {th th' : List AV}, mtm s es th = some th' → Df ρ th → Df ρ th' ∧ Ext th th' ∧ ∀ e ∈ es, Mf (vals ρ th') σ e
  | [], th, th', hm, hd => by
    cases Option.some.inj hm
    exact ⟨hd, Ext.rf, fun e he => by cases he⟩
  | e :: es, th, th', hm, hd => by
    unfold mtm at hm
    cases hp : plc th e.2.1 with
    | none => rw [hp] at hm; cases hm
    | some p =>
      rw [hp] at hm
      simp only at hm
      cases hg : mget s.me e.1 p with
      | none => rw [hg] at hm; cases hm
      | some w =>
        rw [hg] at hm
        simp only at hm
        cases hc : mt s e.2.2 w th with
        | none => rw [hc] at hm; cases hm
        | some t1 =>
          rw [hc] at hm
          obtain ⟨j, j1, j2⟩ := h.me _ (mget_mem hg)
          have key : Df ρ t1 ∧ Ext th t1 ∧ ((e.2.2.isI = true ∧ ev (vals ρ t1) e.2.2 = some (σ.1 e.1 j).toInt) ∨ (e.2.2.isL = true ∧ ev (vals ρ t1) e.2.2 = some (σ.2 e.1 j).toInt)) := by
            rcases j2 with ⟨j2, j3⟩ | ⟨j2, j3⟩
            · obtain ⟨d1, e1, r1⟩ := mt_ok h hc hd (Rv.of_int j2 j3)
              exact ⟨d1, e1, Or.inl r1.isI⟩
            · obtain ⟨d1, e1, r1⟩ := mt_ok h hc hd (Rv.of_long j2 j3)
              exact ⟨d1, e1, Or.inr r1.isL⟩
          obtain ⟨d1, e1, r1⟩ := key
          obtain ⟨d2, e2, r2⟩ := mtm_ok h hm d1
          refine ⟨d2, e1.tr e2, fun e' he => ?_⟩
          rcases List.mem_cons.mp he with rfl | he
          · refine Mf.mono e2.pre ⟨j, ev.mono e1.pre (plc_ok hp j1), r1⟩
          · exact r2 e' he
theorem mte_ok (h : Ok J s ρ σ) {th : List AV} {env : List (Nat × Dom)} (hm : mte s th env = true) (hd : Df ρ th) : ∀ e ∈ env, ∃ x, (vals ρ th)[e.1]? = some x ∧ inD x e.2 := by
  intro e he
  have h1 := List.all_eq_true.mp hm e he
  cases ht : th[e.1]? with
  | none => rw [ht] at h1; cases h1
  | some a =>
    rw [ht] at h1
    simp only at h1
    rcases hd a (List.mem_of_getElem? ht) with ⟨q, y, hy⟩ | ⟨q, y, hy⟩
    · exact ⟨_, vals_at ht hy, dsub_in h1 (dom_i h q hy)⟩
    · exact ⟨_, vals_at ht hy, dsub_in h1 (dom_l h q hy)⟩
/-- sums -/
def tev (ρ : List Int) : List (Nat × Int) → Int
  | [] => 0
  | t :: r => t.2 * ρ.getD t.1 0 + tev ρ r
theorem tad_ok {id : Nat} {c : Int} : ∀ {T : List (Nat × Int)}, tev ρ (tad id c T) = tev ρ T + c * ρ.getD id 0
  | [] => by simp [tad, tev]
  | t :: r => by
    unfold tad
    cases hb : Nat.beq t.1 id with
    | true =>
      have := Nat.eq_of_beq_eq_true hb
      subst this
      simp only [cond_true, tev, Int.add_mul]
      omega
    | false =>
      simp only [cond_false, tev, tad_ok]
      omega
theorem tsub_ok {th : List AV} (hd : Df ρ th) : ∀ {mu : List (Nat × Int)} {T T' : List (Nat × Int) × Int}, tsub th mu T = some T' → tev ρ T'.1 + T'.2 = tev ρ T.1 + T.2 - tev (vals ρ th) mu
  | [], T, T', h => by
    cases Option.some.inj h
    simp [tev]
  | t :: r, T, T', h => by
    unfold tsub at h
    split at h
    · rename_i id o ht
      have h1 := tsub_ok hd h
      have hx : ∃ x, ev ρ (.i id o) = some x := by
        rcases hd _ (List.mem_of_getElem? ht) with ⟨_, y, hy⟩ | ⟨_, y, hy⟩ <;> exact ⟨_, hy⟩
      obtain ⟨x, hx⟩ := hx
      have h2 := vals_at ht hx
      have h3 : ρ.getD id 0 + o = x := by
        simp only [ev] at hx
        cases hr : ρ[id]? with
        | none => rw [hr] at hx; cases hx
        | some y =>
          rw [hr] at hx
          rw [List.getD_eq_getElem?_getD, hr]
          exact Option.some.inj hx
      have h4 : (vals ρ th).getD t.1 0 = x := by rw [List.getD_eq_getElem?_getD, h2]; rfl
      rw [h1, tad_ok]
      simp only [tev, h4]
      rw [← h3, Int.mul_add, Int.neg_mul]
      omega
    · rename_i n ht
      have h1 := tsub_ok hd h
      have h2 := vals_at (ρ := ρ) ht rfl
      have h4 : (vals ρ th).getD t.1 0 = n := by rw [List.getD_eq_getElem?_getD, h2]; rfl
      rw [h1]
      simp only [tev, h4]
      omega
    · cases h
theorem tlb_ok (h : Ok J s ρ σ) : ∀ {T : List (Nat × Int)} {z y : Int}, tlb s T z = some y → y ≤ z + tev ρ T
  | [], z, y, q => by
    cases Option.some.inj q
    simp [tev]
  | t :: r, z, y, q => by
    unfold tlb at q
    cases hc : ile t.2 0 && ile 0 t.2 with
    | true =>
      rw [hc] at q
      simp only [Bool.and_eq_true] at hc
      have h0 : t.2 = 0 := ile_eq hc
      have := tlb_ok h q
      simp only [tev, h0, Int.zero_mul]
      omega
    | false =>
      rw [hc] at q
      simp only [cond_false] at q
      cases hl : lk s.env t.1 with
      | none => rw [hl] at q; cases q
      | some d =>
        rw [hl] at q
        simp only at q
        have h1 := tlb_ok h q
        obtain ⟨x, hx, hi⟩ := h.env _ (lk_mem hl)
        have hg : ρ.getD t.1 0 = x := by rw [List.getD_eq_getElem?_getD, hx]; rfl
        have b1 := dlo_le hi
        have b2 := le_dhi hi
        dsimp only at b1 b2
        simp only [tev, hg]
        cases hp : ile 0 t.2 with
        | true =>
          rw [hp] at h1
          simp only [cond_true] at h1
          have := Int.mul_le_mul_of_nonneg_left b1 (ile_iff.mp hp)
          omega
        | false =>
          rw [hp] at h1
          simp only [cond_false] at h1
          have hn : t.2 ≤ 0 := by
            have : ¬ 0 ≤ t.2 := fun q => by rw [ile_iff.mpr q] at hp; cases hp
            omega
          have := Int.mul_le_mul_of_nonpos_right b2 hn
          rw [Int.mul_comm (dhi d), Int.mul_comm x] at this
          omega
theorem tev_neg : ∀ {T : List (Nat × Int)}, tev ρ (T.map fun t => (t.1, -t.2)) = - tev ρ T
  | [] => by simp [tev]
  | t :: r => by
    simp only [List.map_cons, tev, tev_neg, Int.neg_mul]
    omega
theorem falls_ok (h : Ok J s ρ σ) {th : List AV} (hd : Df ρ th) {mu0 mu : List (Nat × Int) × Int} (hf : falls s th mu0 mu = true) : 0 ≤ tev (vals ρ th) mu.1 + mu.2 ∧ tev (vals ρ th) mu.1 + mu.2 < tev ρ mu0.1 + mu0.2 := by
  unfold falls at hf
  rw [Bool.and_eq_true] at hf
  obtain ⟨h1, h2⟩ := hf
  constructor
  · split at h2
    · rename_i T hT
      split at h2
      · rename_i z hz
        have a1 := tsub_ok hd hT
        have a2 := tlb_ok h hz
        have a3 := ile_iff.mp h2
        rw [tev_neg] at a2
        simp only [tev] at a1
        omega
      · cases h2
    · cases h2
  · split at h1
    · rename_i T hT
      split at h1
      · rename_i z hz
        have a1 := tsub_ok hd hT
        have a2 := tlb_ok h hz
        have a3 := ile_iff.mp h1
        dsimp only at a1
        omega
      · cases h1
    · cases h1
theorem arrive_ok (h : Ok J s ρ σ) {lv : List (Nat × AV)} {st : List AV} {l : List (Nat × Value)} {v : List Value} {mu0 : List (Nat × Int) × Int} {a : An} (hl : Rl ρ lv l) (hs : Rs ρ st v) (ha : arrive s lv st mu0 a = true) : ∃ (ρ' : List Int) (l' : List (Nat × Value)) (ks : List Nat), lv_pick l ks = l' ∧ Ok J a.sy ρ' σ ∧ Rl ρ' a.lv l' ∧ Rs ρ' a.st v ∧ 0 ≤ tev ρ' a.mu.1 + a.mu.2 ∧ tev ρ' a.mu.1 + a.mu.2 < tev ρ mu0.1 + mu0.2 := by
  unfold arrive at ha
  split at ha
  · rename_i t1 h1
    split at ha
    · rename_i t2 h2
      split at ha
      · rename_i th h3
        simp only [Bool.and_eq_true] at ha
        obtain ⟨ks, l', k1, d1, e1, r1⟩ := mtv_ok h hl h1 (fun b hb => by cases hb)
        obtain ⟨d2, e2, r2⟩ := mtl_ok h h2 d1 hs
        obtain ⟨d3, e3, r3⟩ := mtm_ok h h3 d2
        obtain ⟨f1, f2⟩ := falls_ok h d3 ha.2
        refine ⟨vals ρ th, l', ks, k1, ⟨?_, mte_ok h ha.1.2 d3, r3, fun e he => (by cases he), h.inv⟩, r1.mono (e2.tr e3).pre, r2.mono e3.pre, f1, f2⟩
        simp [vals, An.sy, Nat.eq_of_beq_eq_true ha.1.1]
      · cases ha
    · cases ha
  · cases ha
end E8
