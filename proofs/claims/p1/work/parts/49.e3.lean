/-! ===== ENGINE 7: frames, cuts, contracts: the walk ===== -/
structure Fm where
  m : Nat
  pc : Nat
  lv : List (Nat × AV)
  st : List AV
/-- what is known at a cut (or of a method's arguments: lv their places, in order): numbers 0 .. n - 1; mu: what falls -/
structure An where
  lv : List (Nat × AV)
  st : List AV
  n : Nat
  env : List (Nat × Dom)
  me : List (Nat × (AV × AV))
  mu : List (Nat × Int) × Int
def An.sy (a : An) : Sy := ⟨a.n, a.env, a.me, []⟩
/-- a contract: arguments; answer: 0 none, 1 int, 2 long; its bounds; what it may write -/
structure Ct where
  ar : List AV
  n : Nat
  env : List (Nat × Dom)
  me : List (Nat × (AV × AV))
  rk : Nat
  rd : Dom
  w : BT Unit
  cut : BT An
  inl : BT Nat
  any : Bool
  big : Int
  /-- where the number on top is told apart: method * 65536 + place -/
  spl : BT Unit
def Ct.W (c : Ct) (k : Nat) : Bool := bif c.any then true else match c.w.get k with
  | some _ => true
  | none => false
structure Gx where
  g : Gl
  ct : BT Ct
  /-- own class and index: the method, how many arguments behind the receiver, static -/
  call : BT (Nat × (Nat × Bool))
  /-- frames, locals of its room, its own locals, its answer (0 none, 1 int, 2 boolean, 3 long, 4 char), the receiver's cell -/
  room : BT (Nat × (Nat × (Nat × (Nat × Nat))))
def retFits (s : Sy) (t : Nat) (a : AV) : Bool := match t with
  | 1 => a.isI
  | 2 => a.isI && dsub (dom s a) [(0, 1)]
  | 4 => a.isI && dsub (dom s a) [(0, 65535)]
  | _ => false
/-- pattern p is met by a; th: what the pattern's numbers stand for -/
def mt (s : Sy) (p a : AV) (th : List AV) : Option (List AV) := match p with
  | .i id o => bif a.isI && (ile o 0 && ile 0 o) then (match th[id]? with
    | some b => bif AV.eq a b then some th else none
    | none => bif Nat.beq id th.length then some (th ++ [a]) else none) else none
  | .l id o => bif a.isL && (ile o 0 && ile 0 o) then (match th[id]? with
    | some b => bif AV.eq a b then some th else none
    | none => bif Nat.beq id th.length then some (th ++ [a]) else none) else none
  | .c n => bif a.isI && dsub (dom s a) [(n, n)] then some th else none
  | .k n => bif a.isL && dsub (dom s a) [(n, n)] then some th else none
  | .r q => bif AV.eq a (.r q) then some th else none
  | .rr b n => bif AV.eq a (.rr b n) then some th else none
def mtl (s : Sy) : List AV → List AV → List AV → Option (List AV)
  | [], [], th => some th
  | p :: ps, a :: as, th => match mt s p a th with
    | some th' => mtl s ps as th'
    | none => none
  | _, _, _ => none
def mtv (s : Sy) (lv : List (Nat × AV)) : List (Nat × AV) → List AV → Option (List AV)
  | [], th => some th
  | p :: ps, th => match lget lv p.1 with
    | some a => match mt s p.2 a th with
      | some th' => mtv s lv ps th'
      | none => none
    | none => none
/-- the place that a pattern's place stands for -/
def plc (th : List AV) (p : AV) : Option AV := match p with
  | .c n => some (.c n)
  | .i id o => bif ile o 0 && ile 0 o then th[id]? else none
  | _ => none
def mtm (s : Sy) : List (Nat × (AV × AV)) → List AV → Option (List AV)
  | [], th => some th
  | e :: es, th => match plc th e.2.1 with
    | some p => match mget s.me e.1 p with
      | some v => match mt s e.2.2 v th with
        | some th' => mtm s es th'
        | none => none
      | none => none
    | none => none
def mte (s : Sy) (th : List AV) (env : List (Nat × Dom)) : Bool := env.all fun e => match th[e.1]? with
  | some a => dsub (dom s a) e.2
  | none => false
/-- sums of numbers with weights -/
def tad (id : Nat) (c : Int) : List (Nat × Int) → List (Nat × Int)
  | [] => [(id, c)]
  | t :: r => bif Nat.beq t.1 id then (id, t.2 + c) :: r else t :: tad id c r
/-- minus the sum mu under th, added to T and the constant -/
def tsub (th : List AV) : List (Nat × Int) → List (Nat × Int) × Int → Option (List (Nat × Int) × Int)
  | [], T => some T
  | t :: r, T => match th[t.1]? with
    | some (.i id o) => tsub th r (tad id (-t.2) T.1, T.2 - t.2 * o)
    | some (.c n) => tsub th r (T.1, T.2 - t.2 * n)
    | _ => none
def tlb (s : Sy) : List (Nat × Int) → Int → Option Int
  | [], z => some z
  | t :: r, z => bif ile t.2 0 && ile 0 t.2 then tlb s r z else match lk s.env t.1 with
    | some d => tlb s r (z + (bif ile 0 t.2 then t.2 * dlo d else t.2 * dhi d))
    | none => none
/-- mu falls: the sum mu0 of the beginning's numbers is greater than that of a under th, which is not below 0 -/
def falls (s : Sy) (th : List AV) (mu0 mu : List (Nat × Int) × Int) : Bool :=
  (match tsub th mu.1 (mu0.1, mu0.2 - mu.2) with
    | some T => match tlb s T.1 T.2 with
      | some z => ile 1 z
      | none => false
    | none => false) && (match tsub th mu.1 ([], - mu.2) with
    | some T => match tlb s (T.1.map fun t => (t.1, -t.2)) (-T.2) with
      | some z => ile 0 z
      | none => false
    | none => false)
/-- the walk has come to a cut -/
def arrive (s : Sy) (lv : List (Nat × AV)) (st : List AV) (mu0 : List (Nat × Int) × Int) (a : An) : Bool :=
  match mtv s lv a.lv [] with
  | some t1 => match mtl s a.st st t1 with
    | some t2 => match mtm s a.me t2 with
      | some th => (Nat.beq th.length a.n && mte s th a.env) && falls s th mu0 a.mu
      | none => false
    | none => false
  | none => false
/-- what is known behind a call that writes w -/
def keeps (G : Gl) (w : Nat → Bool) (e : Nat × (AV × AV)) : Bool := match G.ka.get e.1 with
  | some _ => !(w (e.1 * 1024 + 1023))
  | none => match e.2.1 with
    | .c (.ofNat j) => !(w (e.1 * 1024 + j))
    | _ => false
def Sy.behind (s : Sy) (G : Gl) (w : Nat → Bool) : Sy := { s with me := s.me.filter (keeps G w), un := s.un.filter fun e => match G.ka.get e.1 with
  | some (_, z) => Nat.ble e.2.1 z && !(w (e.1 * 1024 + 1023))
  | none => false }
/-- n values off the stack, the last one first -/
def pops : Nat → List AV → List AV → Option (List AV × List AV)
  | 0, st, acc => some (acc, st)
  | n + 1, a :: st, acc => pops n st (a :: acc)
  | _ + 1, [], _ => none
def okr (a : AV) : Bool := match a with
  | .r q => Nat.blt q 215 || Nat.ble 1000 q
  | .rr b n => Nat.ble (b + n) 215
  | _ => true
def cats (as : List AV) : Nat := (as.map AV.cat).foldr (· + ·) 0
def okfr (lv : List (Nat × AV)) (rest : List AV) : Bool := (lv.all fun q => okr q.2) && (rest.all okr && Nat.ble (cats rest) 8)
def roomOk (G : Gx) (m z : Nat) (args : List AV) : Bool := match G.room.get m, G.room.get z with
  | some (fr, (lo, _)), some (fz, (lz, (nl, _))) => (Nat.ble (fz + 1) fr && Nat.ble (8 + (nl + 11) + lz) lo) && Nat.ble (cats args) nl
  | _, _ => false
def argLv : Nat → List AV → List (Nat × AV)
  | _, [] => []
  | i, a :: r => (i, a) :: argLv (i + a.cat) r
def wsub (a : BT Unit) (w : Nat → Bool) : Bool := a.all fun k _ => w k
abbrev Wk := Sy → Fm → List Fm → Bool
def goW (c : Ct) (mu0 : List (Nat × Int) × Int) (w : Wk) (s : Sy) (m pc : Nat) (lv : List (Nat × AV)) (st : List AV) (fs : List Fm) : Bool := match fs with
  | [] => match c.cut.get pc with
    | some a => arrive s lv st mu0 a
    | none => w s ⟨m, pc, lv, st⟩ []
  | g :: gs => w s ⟨m, pc, lv, st⟩ (g :: gs)
def retW (c : Ct) (mu0 : List (Nat × Int) × Int) (fin : Sy → Option AV → Bool) (w : Wk) (s : Sy) (fs : List Fm) (a : Option AV) : Bool := match fs with
  | [] => fin s a
  | g :: gs => goW c mu0 w s g.m g.pc g.lv (a.toList ++ g.st) gs
def ctW (G : Gx) (c : Ct) (mu0 : List (Nat × Int) × Int) (w : Wk) (s : Sy) (f : Fm) (fs : List Fm) (q : Ct) (args rest : List AV) : Bool :=
  bif !(q.any) && wsub q.w c.W then (match mtl s q.ar args [] with
    | some t2 => match mtm s q.me t2 with
      | some th => bif Nat.beq th.length q.n && mte s th q.env then (match q.rk with
        | 0 => goW c mu0 w (s.behind G.g q.W) f.m (f.pc + 3) f.lv rest fs
        | 1 => goW c mu0 w ((s.behind G.g q.W).newI q.rd).1 f.m (f.pc + 3) f.lv (((s.behind G.g q.W).newI q.rd).2 :: rest) fs
        | 2 => goW c mu0 w ((s.behind G.g q.W).newL q.rd).1 f.m (f.pc + 3) f.lv (((s.behind G.g q.W).newL q.rd).2 :: rest) fs
        | _ => false) else false
      | none => false
    | none => false) else false
def callW (G : Gx) (r : Nat) (c : Ct) (mu0 : List (Nat × Int) × Int) (w : Wk) (s : Sy) (f : Fm) (fs : List Fm) (z : Nat) (args rest : List AV) : Bool :=
  bif okfr f.lv rest && roomOk G f.m z args then (match c.inl.get z with
    | some _ => w s ⟨z, 0, argLv 0 args, []⟩ (⟨f.m, f.pc + 3, f.lv, rest⟩ :: fs)
    | none => match G.ct.get z with
      | some q => Nat.blt z r && ctW G c mu0 w s f fs q args rest
      | none => false) else false
def walkB (G : Gx) (r : Nat) (c : Ct) (mu0 : List (Nat × Int) × Int) (fin : Sy → Option AV → Bool) (w : Wk) (s : Sy) (f : Fm) (fs : List Fm) : Bool :=
  match (G.g.code f.m).get f.pc with
  | none => false
  | some (ix, len) => match ix with
    | .ir => match f.st, G.room.get f.m with
      | [a], some (_, (_, (_, (t, _)))) => retFits s t a && retW c mu0 fin w s fs (some a)
      | _, _ => false
    | .lr => match f.st, G.room.get f.m with
      | [a], some (_, (_, (_, (t, _)))) => (Nat.beq t 3 && a.isL) && retW c mu0 fin w s fs (some a)
      | _, _ => false
    | .vr => match f.st, G.room.get f.m with
      | [], some (_, (_, (_, (t, _)))) => Nat.beq t 0 && retW c mu0 fin w s fs none
      | _, _ => false
    | .iz x => match G.call.get (G.g.own f.m * 4096 + x) with
      | some (z, (k, true)) => match pops k f.st [] with
        | some (args, rest) => callW G r c mu0 w s f fs z args rest
        | none => false
      | _ => match step1 G.g c.W f.m (.iz x) f.pc (f.pc + len) s f.lv f.st with
        | some L => L.all fun u => goW c mu0 w u.1 f.m u.2.1 u.2.2.1 u.2.2.2 fs
        | none => false
    | .iv x => match G.call.get (G.g.own f.m * 4096 + x) with
      | some (z, (k, false)) => match pops (k + 1) f.st [] with
        | some (.r kb :: args, rest) => match G.room.get z with
          | some (_, (_, (_, (_, q)))) => Nat.beq q kb && callW G r c mu0 w s f fs z (.r kb :: args) rest
          | none => false
        | _ => false
      | _ => false
    | ix => match step1 G.g c.W f.m ix f.pc (f.pc + len) s f.lv f.st with
      | some L => L.all fun u => goW c mu0 w u.1 f.m u.2.1 u.2.2.1 u.2.2.2 fs
      | none => false
def enum (d : Dom) : List Int := d.flatMap fun p => (List.range (p.2 - p.1 + 1).toNat).map fun (t : Nat) => p.1 + (t : Int)
def many (d : Dom) : Bool := match d with
  | [(a, b)] => !(ile b a)
  | _ => true
def walkS (G : Gx) (r : Nat) (c : Ct) (mu0 : List (Nat × Int) × Int) (fin : Sy → Option AV → Bool) (w : Wk) (s : Sy) (f : Fm) (fs : List Fm) : Bool :=
  match c.spl.get (f.m * 65536 + f.pc), f.st with
  | some _, a :: _ => bif a.isI && many (dom s a) then (enum (dom s a)).all (fun j => match s.cut .eq a (.c j) with
    | some s' => w s' f fs
    | none => true) else walkB G r c mu0 fin w s f fs
  | _, _ => walkB G r c mu0 fin w s f fs
def walk (G : Gx) (r : Nat) (c : Ct) (mu0 : List (Nat × Int) × Int) (fin : Sy → Option AV → Bool) : Nat → Wk
  | 0 => fun _ _ _ => false
  | n + 1 => walkS G r c mu0 fin (walk G r c mu0 fin n)
