noncomputable section
/-! ===== THE WALK, 10 ===== -/
def retFits (s : Sy) (t : Nat) (a : AV) : Bool := match t with
  | 1 => a.isI
  | 2 => a.isI && dsub (dom s a) [(0, 1)]
  | 4 => a.isI && dsub (dom s a) [(0, 65535)]
  | 5 => a.isI && dsub (dom s a) [(0, 0)]
  | _ => false
/-- n values off the stack, the last one first -/
def pops : Nat → List AV → List AV → Option (List AV × List AV)
  | 0, st, acc => some (acc, st)
  | n + 1, a :: st, acc => pops n st (a :: acc)
  | _ + 1, [], _ => none
def okr (a : AV) : Bool := match a with
  | .inr (.inr (.inr (.inr (.inl q)))) => Nat.blt q 215 || Nat.ble 1000 q
  | .inr (.inr (.inr (.inr (.inr (b, n))))) => Nat.ble (b + n) 215 || Nat.ble 1000 b
  | _ => true
def cats (as : List AV) : Nat := (as.map AV.cat).foldr (· + ·) 0
def okfr (lv : List (Nat × AV)) (rest : List AV) : Bool := (lv.all fun q => okr q.2) && (rest.all okr && Nat.ble (cats rest) 8)
def roomOk (G : Gx) (m z : Nat) (args : List AV) : Bool := match G.room.get m, G.room.get z with
  | some (fr, (lo, _)), some (fz, (lz, (nl, _))) => (bif Nat.beq fz 200 then Nat.ble 601 fr && Nat.ble (8 + (nl + 11) + 20000) lo else Nat.ble (fz + 1) fr && Nat.ble (8 + (nl + 11) + lz) lo) && Nat.ble (cats args) nl
  | _, _ => false
/-- a call in a ring; the rooms there -/
def ringRm (G : Gx) (z : Nat) (args : List AV) : Bool := match G.room.get z with
  | some (fz, (_, (nl, _))) => Nat.beq fz 200 && (Nat.ble nl 21 && Nat.ble (cats args) nl)
  | _ => false
def rmN (N : Nat) : Room := { frames := 200 + N, cells := 0, slots := 0, locals := 4000 + 40 * N }
def withR (W : xY) (rm : Room) : xY := (W.1, (W.2.1, (W.2.2.1, (W.2.2.2.1, rm))))
def argLv : Nat → List AV → List (Nat × AV)
  | _, [] => []
  | i, a :: r => (i, a) :: argLv (i + a.cat) r
def botm (m : Nat) : List Fm → Nat
  | [] => m
  | g :: gs => botm g.m gs
abbrev Cfr := List (List (Nat × Value) × List Value)
def Rf (ρ : List Int) : List Fm → Cfr → Prop
  | [], [] => True
  | g :: gs, c :: cs => (Rl ρ g.lv c.1 ∧ Rs ρ g.st c.2) ∧ Rf ρ gs cs
  | _, _ => False
theorem Rf.mono {ρ ρ' : List Int} (h : Pre ρ ρ') : ∀ {fs : List Fm} {cs : Cfr}, Rf ρ fs cs → Rf ρ' fs cs
  | [], [], _ => trivial
  | g :: gs, c :: cs, ⟨h1, h2⟩ => ⟨⟨h1.1.mono h, h1.2.mono h⟩, Rf.mono h h2⟩
  | [], _ :: _, q => q.elim
  | _ :: _, [], q => q.elim
def Kf (E : xV) (Y : Nat → xY) : List Fm → Cfr → zKt → zKt
  | g :: gs, c :: cs, K => fun r σ' => Wz E (Y g.m) g.pc c.1 (r.toList ++ c.2) σ' (Kf E Y gs cs K)
  | _, _, K => K
def Ra (ρ : List Int) : Option AV → Option Value → Prop
  | none, none => True
  | some a, some v => Rv ρ a v
  | _, _ => False
abbrev GxOk (Y : Nat → xY) (G : Gx) : Prop := (GOk Y G.g) ∧ (∀ m fr lo nl t q, G.room.get m = some (fr, (lo, (nl, (t, q)))) → ((fr ≤ (Y m).2.2.2.2.frames ∧ lo ≤ (Y m).2.2.2.2.locals) ∧ ((fr ≠ 200 → (Y m).2.2.2.2.frames = fr ∧ (Y m).2.2.2.2.locals = lo) ∧ (fr = 200 → (Y m).2.2.2.2.frames ≤ 600 ∧ (Y m).2.2.2.2.locals ≤ 20000)) ∧ (Y m).2.2.2.2.cells = 0 ∧ (Y m).2.2.2.2.slots = 0) ∧ ((Y m).2.2.1 = nl ∧ plainName (Y m).1.cls = true) ∧ (t = 0 → (Y m).2.2.2.1 = none) ∧ (t = 1 → (Y m).2.2.2.1 = some .int) ∧ (t = 2 → (Y m).2.2.2.1 = some .boolean) ∧ (t = 3 → (Y m).2.2.2.1 = some .long) ∧ (t = 4 → (Y m).2.2.2.1 = some .char) ∧ (t = 5 → (Y m).2.2.2.1 = some .byte)) ∧ (∀ m x z k b, x < 4096 → G.call.get (G.g.own m * 4096 + x) = some (z, (k, b)) → xM (Y m).1.cls x (Y z) k ∧ (b = true → Cond.static (Y z).1 ∈ TBg) ∧ (b = false → (Cond.instanceMethod (Y z).1 ∈ TBg ∧ Cond.selects (Y z).1.cls (Y z).1 (Y z).1 ∈ TBg) ∧ ∀ fr lo nl t q, G.room.get z = some (fr, (lo, (nl, (t, q)))) → (q < 215 ∧ ∃ ci l, KD q = (ci, l) ∧ ci < 100 ∧ (cls[ci]?.map fun q => q.1) = some (Y z).1.cls) ∨ (q = 1000 ∧ (Y z).1.cls = "java/lang/String")))
theorem GxOk.g {Y : Nat → xY} {G : Gx} (h : GxOk Y G) : GOk Y G.g := h.1
theorem GxOk.room {Y : Nat → xY} {G : Gx} (h : GxOk Y G) : ∀ m fr lo nl t q, G.room.get m = some (fr, (lo, (nl, (t, q)))) → ((fr ≤ (Y m).2.2.2.2.frames ∧ lo ≤ (Y m).2.2.2.2.locals) ∧ ((fr ≠ 200 → (Y m).2.2.2.2.frames = fr ∧ (Y m).2.2.2.2.locals = lo) ∧ (fr = 200 → (Y m).2.2.2.2.frames ≤ 600 ∧ (Y m).2.2.2.2.locals ≤ 20000)) ∧ (Y m).2.2.2.2.cells = 0 ∧ (Y m).2.2.2.2.slots = 0) ∧ ((Y m).2.2.1 = nl ∧ plainName (Y m).1.cls = true) ∧ (t = 0 → (Y m).2.2.2.1 = none) ∧ (t = 1 → (Y m).2.2.2.1 = some .int) ∧ (t = 2 → (Y m).2.2.2.1 = some .boolean) ∧ (t = 3 → (Y m).2.2.2.1 = some .long) ∧ (t = 4 → (Y m).2.2.2.1 = some .char) ∧ (t = 5 → (Y m).2.2.2.1 = some .byte) := h.2.1
theorem GxOk.call {Y : Nat → xY} {G : Gx} (h : GxOk Y G) : ∀ m x z k b, x < 4096 → G.call.get (G.g.own m * 4096 + x) = some (z, (k, b)) → xM (Y m).1.cls x (Y z) k ∧ (b = true → Cond.static (Y z).1 ∈ TBg) ∧ (b = false → (Cond.instanceMethod (Y z).1 ∈ TBg ∧ Cond.selects (Y z).1.cls (Y z).1 (Y z).1 ∈ TBg) ∧ ∀ fr lo nl t q, G.room.get z = some (fr, (lo, (nl, (t, q)))) → (q < 215 ∧ ∃ ci l, KD q = (ci, l) ∧ ci < 100 ∧ (cls[ci]?.map fun q => q.1) = some (Y z).1.cls) ∨ (q = 1000 ∧ (Y z).1.cls = "java/lang/String")) := h.2.2
/-- what a contract says of a method -/
def CtOk (E : xV) (Y : Nat → xY) (G : Gx) (J : Jt) (z : Nat) (q : Ct) : Prop := ∀ (ρ' : List Int) (σ : zS) (av : List Value), Ko J q.kn ρ' σ → Rs ρ' q.ar av → Cz E (Y z) av σ (fun r σ' => Fr (q.wp G.g ρ') σ σ' ∧ ∃ al ∈ q.al, ∃ ρ'', Pre ρ' ρ'' ∧ Ko J al.2 ρ'' σ' ∧ Rs ρ'' al.1 r.toList)
/-- the same, where what falls in a ring is below N -/
def CtOkN (E : xV) (Y : Nat → xY) (G : Gx) (J : Jt) (R : Nat) (N : Int) (z : Nat) (q : Ct) : Prop := ∀ (ρ' : List Int) (σ : zS) (av : List Value) (m : Int), Ko J q.kn ρ' σ → Rs ρ' q.ar av → tvo ρ' q.rg.2.1 = some m → 0 ≤ m + q.rg.2.2 → m + q.rg.2.2 < N → Cz E (withR (Y z) (rmN R)) av σ (fun r σ' => Fr (q.wp G.g ρ') σ σ' ∧ ∃ al ∈ q.al, ∃ ρ'', Pre ρ' ρ'' ∧ Ko J al.2 ρ'' σ' ∧ Rs ρ'' al.1 r.toList)
/-- of one ring -/
def mate (c q : Ct) : Bool := Nat.beq q.rg.1 c.rg.1 && Nat.ble 1 q.rg.1
/-- what is called lies below -/
def lim (r : Nat) (c : Ct) : Nat := bif Nat.beq c.rg.1 0 then r else c.rg.1
/-- J goes with open tags -/
def JFr (G : Gx) (J : Jt) : Prop := (∀ H σ, (∀ e ∈ H, 100 ≤ e.1 ∧ e.1 < 330) → J H σ → J [] σ) ∧ (∀ H σ σ', (∀ e ∈ H, 100 ≤ e.1 ∧ e.1 < 330) → J H σ → J [] σ' → (∀ e ∈ H, ∀ k, G.tr e.1 k = true → σ'.1 k = σ.1 k ∧ σ'.2 k = σ.2 k) → J H σ') ∧ (∀ t k, G.tr t k = true → isS (G.g.ka.get k) = true)
theorem okr_ok {ρ : List Int} {a : AV} {v : Value} (h : Rv ρ a v) (ho : okr a = true) : xokv 215 v = true := by
  rcases a with ⟨id, o⟩ | n | ⟨id, o⟩ | n | q | ⟨b, n⟩
  · obtain ⟨y, rfl, -⟩ := h; rfl
  · obtain ⟨y, rfl, -⟩ := h; rfl
  · obtain ⟨y, rfl, -⟩ := h; rfl
  · obtain ⟨y, rfl, -⟩ := h; rfl
  · cases h
    simp only [okr, Bool.or_eq_true] at ho
    simp only [xokv, Bool.or_eq_true, decide_eq_true_eq]
    rcases ho with ho | ho
    · exact Or.inl (Nat.le_of_ble_eq_true ho)
    · exact Or.inr (Nat.le_of_ble_eq_true ho)
  · obtain ⟨q, rfl, h1, h2⟩ := h
    simp only [okr, Bool.or_eq_true] at ho
    simp only [xokv, Bool.or_eq_true, decide_eq_true_eq]
    rcases ho with ho | ho
    · exact Or.inl (Nat.lt_of_lt_of_le h2 (Nat.le_of_ble_eq_true ho))
    · exact Or.inr (Nat.le_trans (Nat.le_of_ble_eq_true ho) h1)
theorem okl_ok {ρ : List Int} : ∀ {lv : List (Nat × AV)} {l : List (Nat × Value)}, Rl ρ lv l → (lv.all fun q => okr q.2) = true → (l.all fun q => xokv 215 q.2) = true
  | [], [], _, _ => rfl
  | p :: a, q :: l, ⟨h1, h2⟩, h => by
    simp only [List.all_cons, Bool.and_eq_true] at h ⊢
    exact ⟨okr_ok h1.2 h.1, okl_ok h2 h.2⟩
  | [], _ :: _, q, _ => q.elim
  | _ :: _, [], q, _ => q.elim
theorem oks_ok {ρ : List Int} : ∀ {st : List AV} {v : List Value}, Rs ρ st v → (st.all okr) = true → (v.all (xokv 215)) = true
  | [], [], _, _ => rfl
  | p :: a, q :: l, ⟨h1, h2⟩, h => by
    simp only [List.all_cons, Bool.and_eq_true] at h ⊢
    exact ⟨okr_ok h1 h.1, oks_ok h2 h.2⟩
  | [], _ :: _, q, _ => q.elim
  | _ :: _, [], q, _ => q.elim
theorem cats_ok {ρ : List Int} : ∀ {st : List AV} {v : List Value}, Rs ρ st v → (v.map fun v => v.category).sum = cats st
  | [], [], _ => rfl
  | p :: a, q :: l, ⟨h1, h2⟩ => by
    simp only [List.map_cons, List.sum_cons, cats, List.foldr_cons]
    rw [h1.category, cats_ok h2]
    rfl
  | [], _ :: _, q => q.elim
  | _ :: _, [], q => q.elim
theorem argLv_ok {ρ : List Int} : ∀ {as : List AV} {av : List Value} {i : Nat}, Rs ρ as av → Rl ρ (argLv i as) (lv_args i av)
  | [], [], _, _ => trivial
  | p :: a, q :: l, i, ⟨h1, h2⟩ => by
    refine ⟨⟨rfl, h1⟩, ?_⟩
    have e : (if q.category = 2 then i + 2 else i + 1) = i + p.cat := by
      rw [h1.category]
      unfold AV.cat
      cases p.isL <;> rfl
    rw [e]
    exact argLv_ok h2
  | [], _ :: _, _, q => q.elim
  | _ :: _, [], _, q => q.elim
theorem sl_len {a : Nat → Nat} : ∀ {av : List Value}, (lg_sl (av.map (xrel a))).length = (av.map fun v => v.category).sum
  | [] => rfl
  | v :: av => by
    have ih := sl_len (a := a) (av := av)
    simp only [lg_sl] at ih
    simp only [List.map_cons, List.sum_cons, lg_sl, List.flatMap_cons, List.length_append, xrel_cat]
    rw [ih]
    cases v <;> rfl
theorem pops_ok {ρ : List Int} : ∀ {n : Nat} {st acc args rest : List AV} {v as0 : List Value}, pops n st acc = some (args, rest) → Rs ρ st v → Rs ρ acc as0 → ∃ as vr, v = as.reverse ++ vr ∧ Rs ρ args (as ++ as0) ∧ Rs ρ rest vr ∧ as.length = n
  | 0, st, acc, args, rest, v, as0, h, h1, h2 => by
    cases Option.some.inj h
    exact ⟨[], v, rfl, h2, h1, rfl⟩
  | n + 1, a :: st, acc, args, rest, v, as0, h, h1, h2 => by
    obtain ⟨w, v', rfl, g1, g2⟩ := h1.cons
    obtain ⟨as, vr, e1, e2, e3, e4⟩ := pops_ok (n := n) (as0 := w :: as0) h g2 ⟨g1, h2⟩
    refine ⟨as ++ [w], vr, ?_, ?_, e3, by simp [e4]⟩
    · rw [e1]; simp
    · rw [List.append_assoc]; exact e2
  | n + 1, [], acc, args, rest, v, as0, h, h1, h2 => by cases h
abbrev Wk := Sy → Fm → List Fm → Bool
/-- fields that are spoken of are read -/
def fillm (G : Gx) : List (Nat × (AV × AV)) → Sy → Sy
  | [], s => s
  | e :: r, s => match e.2.1 with
    | .inr (.inl (.ofNat j)) => bif (isS (G.g.ka.get e.1) || Nat.ble 1024 j) || !(e.2.2.isI) then fillm G r s else fillm G r (s.rdI e.1 (.c (j : Int)) (G.P.dm s e.1 (.c (j : Int)))).1
    | _ => fillm G r s
def goW (G : Gx) (c : Ct) (mu0 : Lf × Int) (w : Wk) (s : Sy) (m pc : Nat) (lv : List (Nat × AV)) (st : List AV) (fs : List Fm) : Bool := match fs with
  | [] => match c.cut.get pc with
    | some as => as.any fun a => arrive c.kn.ks (fillm G a.kn.me s) lv st mu0 a
    | none => w s ⟨m, pc, lv, st⟩ []
  | g :: gs => w s ⟨m, pc, lv, st⟩ (g :: gs)
def retW (G : Gx) (c : Ct) (mu0 : Lf × Int) (fin : Sy → Option AV → Bool) (w : Wk) (s : Sy) (fs : List Fm) (a : Option AV) : Bool := match fs with
  | [] => fin s a
  | g :: gs => goW G c mu0 w s g.m g.pc g.lv (a.toList ++ g.st) gs
/-- what a call writes may be written -/
def wsub (G : Gl) (s : Sy) (c q : Ct) (th : List AV) : Bool := (q.w.all fun k _ => isS (c.w.get k)) && c.lw.all fun e => isS (G.ka.get e.1) && (!(isS (q.w.get (e.1 * 1024 + 1023))) || q.lw.any fun f => Nat.beq f.1 e.1 && (match plc th f.2 with
  | some a => leq s (tlin (-1) (nf s a).1 (nf s e.2).1) ((nf s a).2 - (nf s e.2).2)
  | none => false))
def insL (th : List AV) : List AV → Option (List AV)
  | [] => some []
  | p :: r => match insA th p, insL th r with
    | some a, some l => some (a :: l)
    | _, _ => none
def isNil {α : Type} (l : List α) : Bool := match l with
  | [] => true
  | _ => false
/-- open tags that a call leaves as they are -/
def tfr (G : Gx) (q : Ct) (s : Sy) : Bool := (isNil q.kn.hl && !(isNil s.hl)) && ((s.hl.all fun e => Nat.ble 100 e.1 && Nat.blt e.1 330) && ((q.al.all fun al => isNil al.2.hl) && q.w.all fun key _ => s.hl.all fun e => !(G.tr e.1 (key / 1024))))
def ctW (G : Gx) (c : Ct) (mu0 : Lf × Int) (w : Wk) (s0 : Sy) (f : Fm) (fs : List Fm) (q : Ct) (args rest : List AV) (fr : Bool) : Bool :=
  let s1 := fillm G q.kn.me s0
  let s := bif fr then s1.seth [] else s1
  match mtl s q.ar args [] with
    | some t2 => match mta s q.kn t2 with
      | some th => ((!(mate c q) || falls s th c.rg.2 q.rg.2) && wsub G.g s c q th) && q.al.all fun al => match inst (s.behind G.g q th) th al.2 with
        | some (s', th') => match insL th' al.1, insH th' al.2.hl with
          | some as, some hl => goW G c mu0 w (s'.seth (bif fr then s1.hl else hl)) f.m (f.pc + 3) f.lv (as ++ rest) fs
          | _, _ => false
        | none => true
      | none => false
    | none => false
def callW (G : Gx) (r : Nat) (c : Ct) (mu0 : Lf × Int) (w : Wk) (s : Sy) (f : Fm) (fs : List Fm) (z : Nat) (args rest : List AV) : Bool :=
  bif okfr f.lv rest then (match c.inl.get z with
    | some _ => roomOk G f.m z args && w s ⟨z, 0, argLv 0 args, []⟩ (⟨f.m, f.pc + 3, f.lv, rest⟩ :: fs)
    | none => match G.ct.get z with
      | some q => (bif mate c q then isNil fs && ringRm G z args else roomOk G f.m z args && Nat.blt z (lim r c)) && ctW G c mu0 w s f fs q args rest (tfr G q (fillm G q.kn.me s))
      | none => false) else false
/-- n is worked out first -/
def frc {α : Type} (n : Nat) (k : Nat → α) : α := @Nat.rec (fun _ => α) (k 0) (fun n _ => k (Nat.succ n)) n
theorem frc_eq {α : Type} {n : Nat} {k : Nat → α} : frc n k = k n := by cases n <;> rfl
def wb_step (G : Gx) (r : Nat) (c : Ct) (mu0 : Lf × Int) (fin : Sy → Option AV → Bool) (w : Wk) (s : Sy) (f : Fm) (fs : List Fm) (m pc : Nat) (ix : Ix) (len : Nat) : Bool := match step1 G.g G.P (c.ws G.g) (c.wa G.g) m ix pc (pc + len) s f.lv f.st with
    | some L => L.all fun u => goW G c mu0 w u.1 m u.2.1 u.2.2.1 u.2.2.2 fs
    | none => false
def wb_i (G : Gx) (r : Nat) (c : Ct) (mu0 : Lf × Int) (fin : Sy → Option AV → Bool) (w : Wk) (s : Sy) (f : Fm) (fs : List Fm) (m pc : Nat) : Bool := match f.st, G.room.get m with
  | [a], some (_, (_, (_, (t, _)))) => retFits s t a && retW G c mu0 fin w s fs (some a)
  | _, _ => false
def wb_l (G : Gx) (r : Nat) (c : Ct) (mu0 : Lf × Int) (fin : Sy → Option AV → Bool) (w : Wk) (s : Sy) (f : Fm) (fs : List Fm) (m pc : Nat) : Bool := match f.st, G.room.get m with
  | [a], some (_, (_, (_, (t, _)))) => (Nat.beq t 3 && a.isL) && retW G c mu0 fin w s fs (some a)
  | _, _ => false
def wb_v (G : Gx) (r : Nat) (c : Ct) (mu0 : Lf × Int) (fin : Sy → Option AV → Bool) (w : Wk) (s : Sy) (f : Fm) (fs : List Fm) (m pc : Nat) : Bool := match f.st, G.room.get m with
  | [], some (_, (_, (_, (t, _)))) => Nat.beq t 0 && retW G c mu0 fin w s fs none
  | _, _ => false
def wb_s (G : Gx) (r : Nat) (c : Ct) (mu0 : Lf × Int) (fin : Sy → Option AV → Bool) (w : Wk) (s : Sy) (f : Fm) (fs : List Fm) (m pc : Nat) (x len : Nat) : Bool := match G.call.get (G.g.own m * 4096 + x) with
  | some (z, (k, true)) => match pops k f.st [] with
    | some (args, rest) => callW G r c mu0 w s f fs z args rest
    | none => false
  | _ => wb_step G r c mu0 fin w s f fs m pc (.invokestatic x) len
def wb_d (G : Gx) (r : Nat) (c : Ct) (mu0 : Lf × Int) (fin : Sy → Option AV → Bool) (w : Wk) (s : Sy) (f : Fm) (fs : List Fm) (m pc : Nat) (x len : Nat) : Bool := match G.call.get (G.g.own m * 4096 + x) with
  | some (z, (k, false)) => match pops (k + 1) f.st [] with
    | some (.inr (.inr (.inr (.inr (.inl kb)))) :: args, rest) => match G.room.get z with
      | some (_, (_, (_, (_, q)))) => (Nat.beq q kb || (Nat.beq q 1000 && (Nat.ble 1000 kb && Nat.blt kb 1021))) && callW G r c mu0 w s f fs z (.r kb :: args) rest
      | none => false
    | _ => false
  | _ => false
def wkd : Ix → Nat × Nat
  | .ireturn => (1, 0)
  | .lreturn => (2, 0)
  | .return_ => (3, 0)
  | .invokestatic x => (4, x)
  | .invokevirtual x => (5, x)
  | _ => (0, 0)
theorem wkd_1 {ix : Ix} {y : Nat} (h : wkd ix = (1, y)) : ix = .ireturn := by cases ix <;> first | rfl | (cases h; done) | (cases h; rfl)
theorem wkd_2 {ix : Ix} {y : Nat} (h : wkd ix = (2, y)) : ix = .lreturn := by cases ix <;> first | rfl | (cases h; done) | (cases h; rfl)
theorem wkd_3 {ix : Ix} {y : Nat} (h : wkd ix = (3, y)) : ix = .return_ := by cases ix <;> first | rfl | (cases h; done) | (cases h; rfl)
theorem wkd_4 {ix : Ix} {y : Nat} (h : wkd ix = (4, y)) : ix = .invokestatic y := by cases ix <;> first | rfl | (cases h; done) | (cases h; rfl)
theorem wkd_5 {ix : Ix} {y : Nat} (h : wkd ix = (5, y)) : ix = .invokevirtual y := by cases ix <;> first | rfl | (cases h; done) | (cases h; rfl)
def walkB (G : Gx) (r : Nat) (c : Ct) (mu0 : Lf × Int) (fin : Sy → Option AV → Bool) (w : Wk) (s : Sy) (f : Fm) (fs : List Fm) : Bool :=
  frc f.m fun m => frc f.pc fun pc => match (G.g.code m).get pc with
  | none => false
  | some (ix, len) => match wkd ix with
    | (1, _) => wb_i G r c mu0 fin w s f fs m pc
    | (2, _) => wb_l G r c mu0 fin w s f fs m pc
    | (3, _) => wb_v G r c mu0 fin w s f fs m pc
    | (4, x) => wb_s G r c mu0 fin w s f fs m pc x len
    | (5, x) => wb_d G r c mu0 fin w s f fs m pc x len
    | _ => wb_step G r c mu0 fin w s f fs m pc ix len
/-- two places of the row k that hold other numbers are two -/
def sepP (s : Sy) (a b : Nat × (AV × AV)) : Option Sy := bif (a.2.2.isI && b.2.2.isI) && (dis (dom s a.2.2) (dom s b.2.2) && (isS (edom s a.2.1) && isS (edom s b.2.1))) then s.cut .ne a.2.1 b.2.1 else some s
def sepL (a : Nat × (AV × AV)) : List (Nat × (AV × AV)) → Sy → Option Sy
  | [], s => some s
  | b :: r, s => match bif Nat.beq a.1 b.1 then sepP s a b else some s with
    | some s' => sepL a r s'
    | none => none
def sepA (k : Nat) (all : List (Nat × (AV × AV))) : List (Nat × (AV × AV)) → Sy → Option Sy
  | [], s => some s
  | a :: r, s => match bif Nat.beq a.1 k then sepL a all s else some s with
    | some s' => sepA k all r s'
    | none => none
/-- hints: 2 places of a row; 3 a field read; others are J's -/
def hApply (G : Gx) (f : Fm) : List (Nat × (Nat × Nat)) → Sy → Option Sy
  | [], s => some s
  | h :: r, s => match h.1 with
    | 0 => hApply G f r s
    | 2 => match sepA h.2.1 s.me s.me s with
      | some s' => hApply G f r s'
      | none => none
    | 3 => bif isS (G.g.ka.get h.2.1) || Nat.ble 1024 h.2.2 then hApply G f r s else hApply G f r (s.rdI h.2.1 (.c (h.2.2 : Int)) (G.P.dm s h.2.1 (.c (h.2.2 : Int)))).1
    | 4 => hApply G f r s
    | 5 => hApply G f r s
    | _ => match G.hx h f s with
      | some s' => hApply G f r s'
      | none => none
def many (d : Dom) : Bool := match d with
  | [(a, b)] => !(ile b a)
  | _ => true
def isSpl (l : List (Nat × (Nat × Nat))) : Bool := l.any fun h => Nat.beq h.1 0
/-- two numbers of the stack: less, the same, more -/
def isSp5 (l : List (Nat × (Nat × Nat))) : Bool := l.any fun h => Nat.beq h.1 5
/-- one of some objects: each by itself -/
def spl4 (l : List (Nat × (Nat × Nat))) (lv : List (Nat × AV)) : Option (Nat × (Nat × Nat)) := match l.find? fun h => Nat.beq h.1 4 with
  | some h => match lget lv h.2.1 with
    | some (.inr (.inr (.inr (.inr (.inr (b, n)))))) => some (h.2.1, (b, n))
    | _ => none
  | none => none
def lrep (i : Nat) (a : AV) : List (Nat × AV) → List (Nat × AV)
  | [] => []
  | q :: r => bif Nat.beq q.1 i then (q.1, a) :: r else q :: lrep i a r
/-- a long on top of the stack: below a power of two, or not -/
def sp6 (l : List (Nat × (Nat × Nat))) (st : List AV) : Option (AV × Nat) := match l.find? (fun h => Nat.beq h.1 6), st with
  | some h, a :: _ => bif a.isL then some (a, h.2.1) else none
  | _, _ => none
def sp6C (s : Sy) (a : AV) (e : Nat) : Int := ((2 ^ e : Nat) : Int) - (bif ile 0 (dlo (dom s a)) then 0 else 9223372036854775808)
def walkH (G : Gx) (r : Nat) (c : Ct) (mu0 : Lf × Int) (fin : Sy → Option AV → Bool) (w : Wk) (s : Sy) (f : Fm) (fs : List Fm) (l : List (Nat × (Nat × Nat))) : Bool := match hApply G f l s with
  | none => true
  | some s => match spl4 l f.lv with
    | some (i, (b, n)) => (List.range n).all fun t => w s ⟨f.m, f.pc, lrep i (.r (b + t)) f.lv, f.st⟩ fs
    | none => match sp6 l f.st with
    | some (a, e) => (match s.cut .lt a (.k (sp6C s a e)) with
      | some s' => walkB G r c mu0 fin w s' f fs
      | none => true) && (match s.cut .ge a (.k (sp6C s a e)) with
      | some s' => walkB G r c mu0 fin w s' f fs
      | none => true)
    | none => bif isSp5 l then (match f.st with
      | b :: a :: _ => bif (a.isI && b.isI) || (a.isL && b.isL) then (match s.cut .lt a b with
          | some s' => walkB G r c mu0 fin w s' f fs
          | none => true) && ((match s.cut .eq a b with
          | some s' => walkB G r c mu0 fin w s' f fs
          | none => true) && (match s.cut .gt a b with
          | some s' => walkB G r c mu0 fin w s' f fs
          | none => true)) else false
      | _ => false) else match f.st with
      | a :: _ => bif isSpl l && (a.isI && many (dom s a)) then (enum (dom s a)).all (fun j => match s.cut .eq a (.c j) with
        | some s' => w s' f fs
        | none => true) else walkB G r c mu0 fin w s f fs
      | [] => walkB G r c mu0 fin w s f fs
def walkS (G : Gx) (r : Nat) (c : Ct) (mu0 : Lf × Int) (fin : Sy → Option AV → Bool) (w : Wk) (s : Sy) (f : Fm) (fs : List Fm) : Bool :=
  frc f.m fun m => frc f.pc fun pc => match c.hint.get (m * 65536 + pc) with
  | none => walkB G r c mu0 fin w s f fs
  | some l => walkH G r c mu0 fin w s f fs l
def walk (G : Gx) (r : Nat) (c : Ct) (mu0 : Lf × Int) (fin : Sy → Option AV → Bool) : Nat → Wk
  | 0 => fun _ _ _ => false
  | n + 1 => walkS G r c mu0 fin (walk G r c mu0 fin n)
end
