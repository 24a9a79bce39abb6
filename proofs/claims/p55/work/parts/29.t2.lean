section
noncomputable section
/-! ===== PRODUCTS, 2: one side's walk, all calls in place; what was worked out once is the same the next time ===== -/
theorem Wz.mono {E : xV} {Y : xY} {pc : Nat} {lv : List (Nat × Value)} {st : List Value} {σ : zS} {K K' : zKt} (h : Wz E Y pc lv st σ K) (hk : ∀ v σ', K v σ' → K' v σ') : Wz E Y pc lv st σ K' := by
  intro p e R s m args below meth c H locs ls a0 n0 a hC hn hg hH hS hl
  intro T hT X
  obtain ⟨t, a1, o, b1, b2, ⟨v, n', s', a', c1, c2, c3, ⟨d1, σ1, d2, d3⟩, c5, c6⟩, b4⟩ := h p e R s m args below meth c H locs ls a0 n0 a hC hn hg hH hS hl T hT X
  exact ⟨t, a1, o, b1, b2, ⟨v, n', s', a', c1, c2, c3, ⟨d1, σ1, d2, hk v σ1 d3⟩, c5, c6⟩, b4⟩
/-- a frame: method, place, locals, stack -/
noncomputable abbrev CF : Type := Nat × (Nat × (List (Nat × Value) × List Value))
noncomputable def Kc (E : xV) (Y : Nat → xY) : List CF → zKt → zKt
  | [], K => K
  | g :: gs, K => fun r σ' => Wz E (Y g.1) g.2.1 g.2.2.1 (r.toList ++ g.2.2.2) σ' (Kc E Y gs K)
noncomputable def Rn (E : xV) (Y : Nat → xY) : List CF → zS → zKt → Prop
  | [], _, _ => False
  | f :: fs, σ, K => Wz E (Y f.1) f.2.1 f.2.2.1 f.2.2.2 σ (Kc E Y fs K)
noncomputable def Rg (ρ : List Int) : List Fm → List CF → Prop
  | [], [] => True
  | f :: fs, c :: cs => ((f.m = c.1 ∧ f.pc = c.2.1) ∧ Rl ρ f.lv c.2.2.1 ∧ Rs ρ f.st c.2.2.2) ∧ Rg ρ fs cs
  | _, _ => False
theorem Rg.mono {ρ ρ' : List Int} (h : Pre ρ ρ') : ∀ {fs : List Fm} {cs : List CF}, Rg ρ fs cs → Rg ρ' fs cs
  | [], [], _ => trivial
  | _ :: _, _ :: _, ⟨⟨h0, h1, h2⟩, h3⟩ => ⟨⟨h0, h1.mono h, h2.mono h⟩, Rg.mono h h3⟩
  | [], _ :: _, q => q.elim
  | _ :: _, [], q => q.elim
theorem Ra.mono {ρ ρ' : List Int} (h : Pre ρ ρ') : ∀ {a : Option AV} {v : Option Value}, Ra ρ a v → Ra ρ' a v
  | none, none, _ => trivial
  | some _, some _, q => Rv.mono h q
  | none, some _, q => q.elim
  | some _, none, q => q.elim
/-- what a side is to come to: its frames (none: it has ended, with an answer) -/
noncomputable abbrev Qt : Type := List CF → Option Value → zS → Prop
/-- Q goes with steps of the side D -/
noncomputable def QLp (E : xV) (Y : Nat → xY) (D : Nat → Bool) (Q : Qt) : Prop := (∀ (c : CF) (cs : List CF) (f : CF) (fs : List CF) (σ σ' : zS), agD D σ σ' → (∀ τ K, Rn E Y (f :: fs) (mixD D σ' τ) K → Rn E Y (c :: cs) (mixD D σ τ) K) → Q (f :: fs) none σ' → Q (c :: cs) none σ) ∧ (∀ (c : CF) (cs : List CF) (r : Option Value) (σ : zS), (∀ τ K, K r (mixD D σ τ) → Rn E Y (c :: cs) (mixD D σ τ) K) → Q [] r σ → Q (c :: cs) none σ)
theorem QLp.lft {E : xV} {Y : Nat → xY} {D : Nat → Bool} {Q : Qt} (h : QLp E Y D Q) (rest : List CF) : Lft E Y D (fun m pc l v σ => Q ((m, (pc, (l, v))) :: rest) none σ) := fun m pc l v σ pc' l' v' σ' h1 h2 h3 => h.1 _ rest (m, (pc', (l', v'))) rest σ σ' h1 (fun τ K q => h2 τ (Kc E Y rest K) q) h3
/-- what was worked out: which, of what, the answer -/
noncomputable abbrev Mm : Type := List (Nat × (AV × (AV × AV)))
noncomputable def ob : Nat → Ix
  | 1 => .iand
  | 2 => .ior
  | 3 => .ixor
  | 4 => .iadd
  | 5 => .isub
  | 6 => .imul
  | 7 => .ishl
  | _ => .ishr
noncomputable def bop : Ix → Option Nat
  | .iand => some 1
  | .ior => some 2
  | .ixor => some 3
  | .iadd => some 4
  | .isub => some 5
  | .imul => some 6
  | .ishl => some 7
  | .ishr => some 8
  | _ => none
noncomputable def MmOk (ρ : List Int) (mm : Mm) : Prop := ∀ e ∈ mm, e.2.2.2.isI = true ∧ ∃ x y : Int32, ev ρ e.2.1 = some x.toInt ∧ ev ρ e.2.2.1 = some y.toInt ∧ ev ρ e.2.2.2 = some (Bo.i (ob e.1) x y).toInt
theorem MmOk.mono {ρ ρ' : List Int} (h : Pre ρ ρ') {mm : Mm} (q : MmOk ρ mm) : MmOk ρ' mm := fun e he => by
  obtain ⟨h1, x, y, h2, h3, h4⟩ := q e he
  exact ⟨h1, x, y, ev.mono h h2, ev.mono h h3, ev.mono h h4⟩
noncomputable def mfind (n : Nat) (s : Sy) (a b : AV) : Mm → Option AV
  | [] => none
  | e :: r => bif Nat.beq e.1 n && (eqv s e.2.1 a && eqv s e.2.2.1 b) then some e.2.2.2 else mfind n s a b r
/-- a & (x & y) is (a & x) & y -/
noncomputable def afind (s : Sy) (a b : AV) (m0 : Mm) : Mm → Option AV
  | [] => none
  | e :: r => bif Nat.beq e.1 1 && eqv s e.2.2.2 b then (match mfind 1 s a e.2.1 m0 with
    | some t => match mfind 1 s t e.2.2.1 m0 with
      | some w => some w
      | none => afind s a b m0 r
    | none => afind s a b m0 r) else afind s a b m0 r
/-- a number of which nothing is known but its bounds -/
noncomputable def isFr (s s' : Sy) (v : AV) : Bool := match v with
  | .inl (id, _) => Nat.beq id s.nx && !(isS (lk s'.df id))
  | _ => false
noncomputable def mstep (n : Nat) (s : Sy) (mm : Mm) (a b : AV) : Sy × (AV × Mm) := match s.bi (ob n) a b with
  | (s', v) => bif isFr s s' v then (match mfind n s a b mm with
    | some w => (s, (w, mm))
    | none => match (bif Nat.beq n 1 then afind s a b mm mm else none) with
      | some w => (s, (w, mm))
      | none => (s', (v, (n, (a, (b, v))) :: mm))) else (s', (v, mm))
theorem mfind_ok {J : Jt} {s : Sy} {ρ : List Int} {σ : zS} (h : Ok J s ρ σ) {n : Nat} {a b v : AV} {x y : Int32} (hx : ev ρ a = some x.toInt) (hy : ev ρ b = some y.toInt) : ∀ {mm : Mm}, MmOk ρ mm → mfind n s a b mm = some v → v.isI = true ∧ ev ρ v = some (Bo.i (ob n) x y).toInt
  | [], _, q => by cases q
  | e :: r, hm, q => by
    unfold mfind at q
    cases hc : Nat.beq e.1 n && (eqv s e.2.1 a && eqv s e.2.2.1 b) with
    | false => rw [hc] at q; exact mfind_ok h hx hy (fun e he => hm e (List.mem_cons_of_mem _ he)) q
    | true =>
      rw [hc] at q
      cases Option.some.inj q
      simp only [Bool.and_eq_true] at hc
      obtain ⟨h1, x', y', h2, h3, h4⟩ := hm e (List.mem_cons_self ..)
      have e1 := eqv_ok h hc.2.1 h2 hx
      have e2 := eqv_ok h hc.2.2 h3 hy
      rw [Int32.toInt_inj.mp e1, Int32.toInt_inj.mp e2, Nat.eq_of_beq_eq_true hc.1] at h4
      exact ⟨h1, h4⟩
theorem afind_ok {J : Jt} {s : Sy} {ρ : List Int} {σ : zS} (h : Ok J s ρ σ) {a b v : AV} {x y : Int32} {m0 : Mm} (h0 : MmOk ρ m0) (hx : ev ρ a = some x.toInt) (hy : ev ρ b = some y.toInt) : ∀ {mm : Mm}, MmOk ρ mm → afind s a b m0 mm = some v → v.isI = true ∧ ev ρ v = some (Bo.i (ob 1) x y).toInt
  | [], _, q => by cases q
  | e :: r, hm, q => by
    unfold afind at q
    have rest := fun (q : afind s a b m0 r = some v) => afind_ok h h0 hx hy (mm := r) (fun e he => hm e (List.mem_cons_of_mem _ he)) q
    cases hc : Nat.beq e.1 1 && eqv s e.2.2.2 b with
    | false => rw [hc] at q; exact rest q
    | true =>
      rw [hc] at q
      simp only [cond_true] at q
      rw [Bool.and_eq_true] at hc
      obtain ⟨h1, x', y', h2, h3, h4⟩ := hm e (List.mem_cons_self ..)
      rw [Nat.eq_of_beq_eq_true hc.1] at h4
      have ey := Int32.toInt_inj.mp (eqv_ok h hc.2 h4 hy)
      split at q
      · rename_i t e1
        obtain ⟨t1, t2⟩ := mfind_ok h hx h2 h0 e1
        split at q
        · rename_i w e2
          cases Option.some.inj q
          obtain ⟨w1, w2⟩ := mfind_ok h t2 h3 h0 e2
          refine ⟨w1, ?_⟩
          rw [w2, ← ey]
          exact congrArg (fun z => some (Int32.toInt z)) (Int32.and_assoc x x' y')
        · exact rest q
      · exact rest q
theorem mstep_ok {J : Jt} {s : Sy} {ρ : List Int} {σ : zS} (h : Ok J s ρ σ) {n : Nat} {mm : Mm} {a b : AV} {x y : Int32} (hm : MmOk ρ mm) (ha : a.isI = true) (hb : b.isI = true) (hx : ev ρ a = some x.toInt) (hy : ev ρ b = some y.toInt) : ∃ ρ', Pre ρ ρ' ∧ Ok J (mstep n s mm a b).1 ρ' σ ∧ MmOk ρ' (mstep n s mm a b).2.2 ∧ (mstep n s mm a b).2.1.isI = true ∧ ev ρ' (mstep n s mm a b).2.1 = some (Bo.i (ob n) x y).toInt := by
  obtain ⟨ρ', p1, p2, p3, p4⟩ := bi_ok (o := ob n) h ha hb hx hy
  unfold mstep
  generalize s.bi (ob n) a b = q at p2 p3 p4
  obtain ⟨s', v⟩ := q
  dsimp only at p2 p3 p4 ⊢
  cases hf : isFr s s' v with
  | false => exact ⟨ρ', p1, p2, hm.mono p1, p3, p4⟩
  | true =>
    simp only [cond_true]
    cases hq : mfind n s a b mm with
    | some w =>
      obtain ⟨q1, q2⟩ := mfind_ok h hx hy hm hq
      exact ⟨ρ, Pre.rf, h, hm, q1, q2⟩
    | none =>
      dsimp only
      cases hq2 : (bif Nat.beq n 1 then afind s a b mm mm else none) with
      | some w =>
        cases hn : Nat.beq n 1 with
        | false => rw [hn] at hq2; cases hq2
        | true =>
          rw [hn] at hq2
          have hn := Nat.eq_of_beq_eq_true hn
          subst hn
          obtain ⟨q1, q2⟩ := afind_ok h hm hx hy hm hq2
          exact ⟨ρ, Pre.rf, h, hm, q1, q2⟩
      | none =>
      refine ⟨ρ', p1, p2, fun e he => ?_, p3, p4⟩
      rcases List.mem_cons.mp he with rfl | he
      · exact ⟨p3, x, y, ev.mono p1 hx, ev.mono p1 hy, p4⟩
      · exact hm.mono p1 e he
theorem g_bop {E : xV} {Y : Nat → xY} {D : Nat → Bool} {T : Tt} {m pc n : Nat} {l : List (Nat × Value)} {st : List Value} {σ : zS} {ix : Ix} {x y : Int32} (hT : Lft E Y D T) (hb : bop ix = some n) (d : decode (Y m).2.1 pc = .ok (ix, 1)) (k : T m (pc + 1) l (.int (Bo.i (ob n) x y) :: st) σ) : T m pc l (.int y :: .int x :: st) σ := by
  cases ix
  case iand => cases hb; exact g_iand hT ⟨d, rfl⟩ k
  case ior => cases hb; exact g_ior hT ⟨d, rfl⟩ k
  case ixor => cases hb; exact g_ixor hT ⟨d, rfl⟩ k
  case iadd => cases hb; exact g_iadd hT ⟨d, rfl⟩ k
  case isub => cases hb; exact g_isub hT ⟨d, rfl⟩ k
  case imul => cases hb; exact g_imul hT ⟨d, rfl⟩ k
  case ishl => cases hb; exact g_ishl hT ⟨d, rfl⟩ k
  case ishr => cases hb; exact g_ishr hT ⟨d, rfl⟩ k
  all_goals cases hb
theorem bop_len {ix : Ix} {n len : Nat} (hb : bop ix = some n) (h : ix.len = 0 ∨ ix.len = len) : len = 1 := by
  cases ix <;> first | (cases hb; done) | exact lenOf h (by decide)
/-- a sum that cannot be so small -/
noncomputable def infe (s : Sy) : Bool := s.fa.any fun e => leqd s 2 (tlin (-1) e.1 []) (-e.2 - 1)
theorem infe_ok {J : Jt} {s : Sy} {ρ : List Int} {σ : zS} (h : Ok J s ρ σ) (hi : infe s = true) : False := by
  obtain ⟨e, he, h1⟩ := List.any_eq_true.mp hi
  obtain ⟨v, h2, h3⟩ := h.fa e he
  have h4 := leqd_ok h h1 (neg_tvo h2)
  omega
/-- where a side stops -/
noncomputable abbrev Lb : Type := List (Nat × Nat)
noncomputable def labEq : Lb → List Fm → Bool
  | [], [] => true
  | c :: cs, f :: fs => Nat.beq c.2 f.pc && (Nat.beq c.1 f.m && labEq cs fs)
  | _, _ => false
noncomputable abbrev Kont : Type := Sy → Mm → List Fm → Option AV → Bool
noncomputable abbrev Wk2 : Type := Sy → Mm → List Fm → Bool
/-- side; hints; where it stops -/
noncomputable abbrev Sct : Type := BT (List (Ct × List Nat))
noncomputable abbrev Pv : Type := (Nat → Bool) × (BT (List (Nat × (Nat × Nat))) × (List Lb × Sct))
/-- rows that a helper may write -/
noncomputable def memb (w : List Nat) (k : Nat) : Bool := w.any (Nat.beq k)
noncomputable def Sy.beh1 (s : Sy) (w : List Nat) : Sy := (s.nx, (s.env, (s.me.filter (fun e => !(memb w e.1)), s.2.2.2)))
/-- what a helper comes to -/
noncomputable def Ks (J : Jt) (q : Ct) (w : List Nat) (ρ0 : List Int) (σ0 : zS) : zKt := fun r σ' => (∀ k, memb w k = false → σ'.1 k = σ0.1 k ∧ σ'.2 k = σ0.2 k) ∧ ∃ al ∈ q.al, ∃ ρ', Pre ρ0 ρ' ∧ Ko J al.2 ρ' σ' ∧ Rs ρ' al.1 r.toList
noncomputable def ScOk (E : xV) (Y : Nat → xY) (D : Nat → Bool) (J : Jt) (z : Nat) (q : Ct) (w : List Nat) : Prop := ∀ (ρ : List Int) (σ : zS) (av : List Value), Ko J q.kn ρ σ → Rs ρ q.ar av → ∃ r σ', (agD D σ σ' ∧ ∀ τ K, K r (mixD D σ' τ) → Rn E Y [(z, (0, (lv_args 0 av, [])))] (mixD D σ τ) K) ∧ Ks J q w ρ σ r σ'
noncomputable def ScT (E : xV) (Y : Nat → xY) (J : Jt) (V : Pv) : Prop := ∀ z qs, V.2.2.2.get z = some qs → ∀ q ∈ qs, ScOk E Y V.1 J z q.1 q.2
noncomputable def goP (V : Pv) (kt : Kont) (w : Wk2) (s : Sy) (mm : Mm) (fs : List Fm) : Bool := bif V.2.2.1.any (fun c => labEq c fs) then kt s mm fs none else w s mm fs
noncomputable def retP (V : Pv) (kt : Kont) (w : Wk2) (s : Sy) (mm : Mm) (fs : List Fm) (a : Option AV) : Bool := match fs with
  | [] => kt s mm [] a
  | g :: gs => goP V kt w s mm (⟨g.m, g.pc, g.lv, a.toList ++ g.st⟩ :: gs)
noncomputable def scP (G : Gx) (V : Pv) (kt : Kont) (w : Wk2) (s0 : Sy) (mm : Mm) (f : Fm) (fs : List Fm) (q : Ct × List Nat) (args rest : List AV) : Bool :=
  let s := fillm G q.1.kn.me s0
  match mtl s q.1.ar args [] with
    | some t2 => match mta s q.1.kn t2 with
      | some th => q.1.al.all fun al => match inst (s.beh1 q.2) th al.2 with
        | some (s', th') => match insL th' al.1, insH th' al.2.hl with
          | some as, some hl => goP V kt w (s'.seth hl) mm (⟨f.m, f.pc + 3, f.lv, as ++ rest⟩ :: fs)
          | _, _ => false
        | none => true
      | none => false
    | none => false
noncomputable def callP (G : Gx) (V : Pv) (kt : Kont) (w : Wk2) (s : Sy) (mm : Mm) (f : Fm) (fs : List Fm) (z : Nat) (args rest : List AV) : Bool := (okfr f.lv rest && roomOk G f.m z args) && (match V.2.2.2.get z with
  | some qs => qs.any fun q => scP G V kt w s mm f fs q args rest
  | none => goP V kt w s mm (⟨z, 0, argLv 0 args, []⟩ :: ⟨f.m, f.pc + 3, f.lv, rest⟩ :: fs))
noncomputable def pkd : Ix → Nat × Nat
  | .ireturn => (1, 0)
  | .lreturn => (2, 0)
  | .return_ => (3, 0)
  | .invokestatic x => (4, x)
  | .invokevirtual x => (5, x)
  | _ => (0, 0)
theorem pkd_1 {ix : Ix} {y : Nat} (h : pkd ix = (1, y)) : ix = .ireturn := by cases ix <;> first | rfl | (cases h; done)
theorem pkd_2 {ix : Ix} {y : Nat} (h : pkd ix = (2, y)) : ix = .lreturn := by cases ix <;> first | rfl | (cases h; done)
theorem pkd_3 {ix : Ix} {y : Nat} (h : pkd ix = (3, y)) : ix = .return_ := by cases ix <;> first | rfl | (cases h; done)
theorem pkd_4 {ix : Ix} {y : Nat} (h : pkd ix = (4, y)) : ix = .invokestatic y := by cases ix <;> first | (cases h; done) | (cases h; rfl)
theorem pkd_5 {ix : Ix} {y : Nat} (h : pkd ix = (5, y)) : ix = .invokevirtual y := by cases ix <;> first | (cases h; done) | (cases h; rfl)
noncomputable def wsT : Sy → Nat → AV → Bool := fun _ _ _ => true
noncomputable def waT : Nat → Bool := fun _ => true
noncomputable def genP (G : Gx) (V : Pv) (kt : Kont) (w : Wk2) (s : Sy) (mm : Mm) (f : Fm) (fs : List Fm) (ix : Ix) (len : Nat) : Bool := match step1 G.g G.P wsT waT f.m ix f.pc (f.pc + len) s f.lv f.st with
  | some L => L.all fun u => goP V kt w u.1 mm (⟨f.m, u.2.1, u.2.2.1, u.2.2.2⟩ :: fs)
  | none => false
noncomputable def bopP (V : Pv) (kt : Kont) (w : Wk2) (s : Sy) (mm : Mm) (f : Fm) (fs : List Fm) (n : Nat) : Bool := match f.st with
  | b :: a :: st => bif a.isI && b.isI then (match mstep n s mm a b with
    | (s', (v, mm')) => goP V kt w s' mm' (⟨f.m, f.pc + 1, f.lv, v :: st⟩ :: fs)) else false
  | _ => false
noncomputable def irP (G : Gx) (V : Pv) (kt : Kont) (w : Wk2) (s : Sy) (mm : Mm) (f : Fm) (fs : List Fm) : Bool := match f.st, G.room.get f.m with
  | [a], some (_, (_, (_, (t, _)))) => retFits s t a && retP V kt w s mm fs (some a)
  | _, _ => false
noncomputable def lrP (G : Gx) (V : Pv) (kt : Kont) (w : Wk2) (s : Sy) (mm : Mm) (f : Fm) (fs : List Fm) : Bool := match f.st, G.room.get f.m with
  | [a], some (_, (_, (_, (t, _)))) => (Nat.beq t 3 && a.isL) && retP V kt w s mm fs (some a)
  | _, _ => false
noncomputable def vrP (G : Gx) (V : Pv) (kt : Kont) (w : Wk2) (s : Sy) (mm : Mm) (f : Fm) (fs : List Fm) : Bool := match f.st, G.room.get f.m with
  | [], some (_, (_, (_, (t, _)))) => Nat.beq t 0 && retP V kt w s mm fs none
  | _, _ => false
noncomputable def isP (G : Gx) (V : Pv) (kt : Kont) (w : Wk2) (s : Sy) (mm : Mm) (f : Fm) (fs : List Fm) (x len : Nat) : Bool := match G.call.get (G.g.own f.m * 4096 + x) with
  | some (z, (k, true)) => match pops k f.st [] with
    | some (args, rest) => callP G V kt w s mm f fs z args rest
    | none => false
  | _ => genP G V kt w s mm f fs (.invokestatic x) len
noncomputable def ivP (G : Gx) (V : Pv) (kt : Kont) (w : Wk2) (s : Sy) (mm : Mm) (f : Fm) (fs : List Fm) (x : Nat) : Bool := match G.call.get (G.g.own f.m * 4096 + x) with
  | some (z, (k, false)) => match pops (k + 1) f.st [] with
    | some (.inr (.inr (.inr (.inr (.inl kb)))) :: args, rest) => match G.room.get z with
      | some (_, (_, (_, (_, q)))) => (Nat.beq q kb && !(Nat.beq q 1000)) && callP G V kt w s mm f fs z (.r kb :: args) rest
      | none => false
    | _ => false
  | _ => false
noncomputable def stepP (G : Gx) (V : Pv) (kt : Kont) (w : Wk2) (s : Sy) (mm : Mm) (f : Fm) (fs : List Fm) : Bool := bif okD V.1 f.st then (match (G.g.code f.m).get f.pc with
  | none => false
  | some (ix, len) => match bop ix with
    | some n => bopP V kt w s mm f fs n
    | none => match pkd ix with
      | (1, _) => irP G V kt w s mm f fs
      | (2, _) => lrP G V kt w s mm f fs
      | (3, _) => vrP G V kt w s mm f fs
      | (4, x) => isP G V kt w s mm f fs x len
      | (5, x) => ivP G V kt w s mm f fs x
      | _ => genP G V kt w s mm f fs ix len) else false
noncomputable def cutP (G : Gx) (V : Pv) (kt : Kont) (w : Wk2) (s : Sy) (mm : Mm) (f : Fm) (fs : List Fm) (c : Cm) (a b : AV) : Bool := match s.cut c a b with
  | some s' => stepP G V kt w s' mm f fs
  | none => true
/-! bits: hint 9: the stack's first is a bit; hint 7: it is a word with one bit set or cleared -/
noncomputable def isC (n : Int) (a : AV) : Bool := match a with
  | .inr (.inl m) => ile m n && ile n m
  | _ => false
theorem isC_ok {n : Int} {a : AV} {ρ : List Int} (h : isC n a = true) : ev ρ a = some n := by
  unfold isC at h
  split at h
  · rename_i m
    rw [Bool.and_eq_true] at h
    have e : m = n := ile_eq h
    rw [e]; rfl
  · cases h
noncomputable def ff (s : Sy) (n : Nat) (r : AV) : Mm → List (AV × AV)
  | [] => []
  | e :: l => bif Nat.beq e.1 n && eqv s e.2.2.2 r then (e.2.1, e.2.2.1) :: ff s n r l else ff s n r l
theorem ff_ok {J : Jt} {s : Sy} {ρ : List Int} {σ : zS} (h : Ok J s ρ σ) {n : Nat} {r : AV} {z : Int} (hz : ev ρ r = some z) : ∀ {mm : Mm}, MmOk ρ mm → ∀ q ∈ ff s n r mm, ∃ x y : Int32, ev ρ q.1 = some x.toInt ∧ ev ρ q.2 = some y.toInt ∧ z = (Bo.i (ob n) x y).toInt
  | [], _, q, hq => by cases hq
  | e :: l, hm, q, hq => by
    unfold ff at hq
    have rest := fun (hq : q ∈ ff s n r l) => ff_ok h hz (mm := l) (fun e he => hm e (List.mem_cons_of_mem _ he)) q hq
    cases hc : Nat.beq e.1 n && eqv s e.2.2.2 r with
    | false => rw [hc] at hq; exact rest hq
    | true =>
      rw [hc] at hq
      rw [Bool.and_eq_true] at hc
      rcases List.mem_cons.mp hq with rfl | hq
      · obtain ⟨h1, x, y, h2, h3, h4⟩ := hm e (List.mem_cons_self ..)
        have ez := eqv_ok h hc.2 h4 hz
        rw [Nat.eq_of_beq_eq_true hc.1] at ez
        exact ⟨x, y, h2, h3, ez.symm⟩
      · exact rest hq
noncomputable def hb9 (mm : Mm) (b : AV) (s : Sy) : List (AV × AV) := (ff s 1 b mm).flatMap fun q => bif isC 1 q.2 then ff s 8 q.1 mm else []
noncomputable def pw (m : AV) : List AV := bif isC 1 m then [.c 0] else bif isC 2 m then [.c 1] else bif isC 4 m then [.c 2] else bif isC 8 m then [.c 3] else bif isC 16 m then [.c 4] else bif isC 32 m then [.c 5] else []
theorem pw_ok {m o : AV} {ρ : List Int} (h : o ∈ pw m) : ∃ n : Nat, n < 6 ∧ o = .c (n : Int) ∧ ev ρ m = some ((2 ^ n : Nat) : Int) := by
  unfold pw at h
  cases h1 : isC 1 m with
  | true => rw [h1] at h; rcases List.mem_cons.mp h with rfl | h; exact ⟨0, by decide, rfl, isC_ok h1⟩; cases h
  | false =>
  rw [h1] at h
  cases h2 : isC 2 m with
  | true => rw [h2] at h; rcases List.mem_cons.mp h with rfl | h; exact ⟨1, by decide, rfl, isC_ok h2⟩; cases h
  | false =>
  rw [h2] at h
  cases h3 : isC 4 m with
  | true => rw [h3] at h; rcases List.mem_cons.mp h with rfl | h; exact ⟨2, by decide, rfl, isC_ok h3⟩; cases h
  | false =>
  rw [h3] at h
  cases h4 : isC 8 m with
  | true => rw [h4] at h; rcases List.mem_cons.mp h with rfl | h; exact ⟨3, by decide, rfl, isC_ok h4⟩; cases h
  | false =>
  rw [h4] at h
  cases h5 : isC 16 m with
  | true => rw [h5] at h; rcases List.mem_cons.mp h with rfl | h; exact ⟨4, by decide, rfl, isC_ok h5⟩; cases h
  | false =>
  rw [h5] at h
  cases h6 : isC 32 m with
  | true => rw [h6] at h; rcases List.mem_cons.mp h with rfl | h; exact ⟨5, by decide, rfl, isC_ok h6⟩; cases h
  | false => rw [h6] at h; cases h
noncomputable def hb7 (mm : Mm) (b : AV) (s : Sy) : List (AV × (AV × Int)) := ((ff s 2 b mm).flatMap fun q => ((pw q.2).map fun o => (q.1, (o, 1))) ++ ((ff s 7 q.2 mm).flatMap fun r => bif isC 1 r.1 then [(q.1, (r.2, 1))] else [])) ++ (((ff s 1 b mm).flatMap fun q => (ff s 3 q.2 mm).flatMap fun r => bif isC (-1) r.2 then ((ff s 7 r.1 mm).flatMap fun u => bif isC 1 u.1 then [(q.1, (u.2, 0))] else []) else []) ++ ((ff s 7 b mm).flatMap fun u => bif isC 1 u.1 then [(.c 0, (u.2, 1))] else []))
theorem hb9_ok {J : Jt} {s : Sy} {ρ : List Int} {σ : zS} (h : Ok J s ρ σ) {b : AV} {z : Int} (hz : ev ρ b = some z) {mm : Mm} (hm : MmOk ρ mm) {q : AV × AV} (hq : q ∈ hb9 mm b s) : ∃ t o : Int, ev ρ q.1 = some t ∧ ev ρ q.2 = some o ∧ R840 t o z := by
  obtain ⟨q0, g1, g2⟩ := List.mem_flatMap.mp hq
  cases hc : isC 1 q0.2 with
  | false => rw [hc] at g2; cases g2
  | true =>
    rw [hc] at g2
    obtain ⟨x, y, e1, e2, e3⟩ := ff_ok h hz hm q0 g1
    have ey : y = 1 := Int32.toInt_inj.mp (Option.some.inj (e2.symm.trans (isC_ok (ρ := ρ) hc)))
    obtain ⟨t, o, f1, f2, f3⟩ := ff_ok h e1 hm q g2
    have ex : x = Bo.i .ishr t o := Int32.toInt_inj.mp f3
    refine ⟨t.toInt, o.toInt, f1, f2, t, rfl, fun n h2 h3 => ?_⟩
    rw [e3, ey, ex]
    exact bit_rd h2 h3
theorem st_R843 {x o : Int32} : R843 x.toInt o.toInt (Bo.i .ior x (Bo.i .ishl 1 o)).toInt 1 := ⟨x, _, rfl, rfl, fun n h3 h4 m h5 => by
  rw [bit_st h3 h4 h5]
  by_cases em : m = n
  · rw [if_pos em, decide_eq_true em, Bool.or_true]; rfl
  · rw [if_neg em, decide_eq_false em, Bool.or_false]⟩
theorem hb7_ok {J : Jt} {s : Sy} {ρ : List Int} {σ : zS} (h : Ok J s ρ σ) {b : AV} {z : Int} (hz : ev ρ b = some z) {mm : Mm} (hm : MmOk ρ mm) {q : AV × (AV × Int)} (hq : q ∈ hb7 mm b s) : ∃ t o : Int, ev ρ q.1 = some t ∧ ev ρ q.2.1 = some o ∧ R843 t o z q.2.2 := by
  have p2 : ∀ n, n < 6 → (Bo.i .ishl 1 (Int32.ofNat n)).toInt = ((2 ^ n : Nat) : Int) := by decide +kernel
  have pk : ∀ n, n < 6 → (Int32.ofNat n).toInt = (n : Int) := by decide
  rcases List.mem_append.mp hq with hq | hq
  · obtain ⟨q0, g1, g2⟩ := List.mem_flatMap.mp hq
    obtain ⟨x, y, e1, e2, e3⟩ := ff_ok h hz hm q0 g1
    rcases List.mem_append.mp g2 with g2 | g2
    · obtain ⟨o, g3, rfl⟩ := List.mem_map.mp g2
      obtain ⟨n, n1, rfl, n2⟩ := pw_ok (ρ := ρ) g3
      have ey : y = Bo.i .ishl 1 (Int32.ofNat n) := Int32.toInt_inj.mp ((Option.some.inj (e2.symm.trans n2)).trans (p2 n n1).symm)
      refine ⟨x.toInt, (n : Int), e1, rfl, ?_⟩
      rw [e3, ey, ← pk n n1]
      exact st_R843
    · obtain ⟨r, g3, g4⟩ := List.mem_flatMap.mp g2
      cases hc : isC 1 r.1 with
      | false => rw [hc] at g4; cases g4
      | true =>
        rw [hc] at g4
        rcases List.mem_cons.mp g4 with rfl | g4
        · obtain ⟨u, o, f1, f2, f3⟩ := ff_ok h e2 hm r g3
          have eu : u = 1 := Int32.toInt_inj.mp (Option.some.inj (f1.symm.trans (isC_ok (ρ := ρ) hc)))
          have ey : y = Bo.i .ishl u o := Int32.toInt_inj.mp f3
          refine ⟨x.toInt, o.toInt, e1, f2, ?_⟩
          rw [e3, ey, eu]
          exact st_R843
        · cases g4
  rcases List.mem_append.mp hq with hq | hq
  · obtain ⟨q0, g1, g2⟩ := List.mem_flatMap.mp hq
    obtain ⟨r, g3, g4⟩ := List.mem_flatMap.mp g2
    cases hc : isC (-1) r.2 with
    | false => rw [hc] at g4; cases g4
    | true =>
      rw [hc] at g4
      obtain ⟨u, g5, g6⟩ := List.mem_flatMap.mp g4
      cases hd : isC 1 u.1 with
      | false => rw [hd] at g6; cases g6
      | true =>
        rw [hd] at g6
        rcases List.mem_cons.mp g6 with rfl | g6
        · obtain ⟨x, y, e1, e2, e3⟩ := ff_ok h hz hm q0 g1
          obtain ⟨k, k', f1, f2, f3⟩ := ff_ok h e2 hm r g3
          obtain ⟨c, o, c1, c2, c3⟩ := ff_ok h f1 hm u g5
          have ek : k' = -1 := Int32.toInt_inj.mp (Option.some.inj (f2.symm.trans (isC_ok (ρ := ρ) hc)))
          have ec : c = 1 := Int32.toInt_inj.mp (Option.some.inj (c1.symm.trans (isC_ok (ρ := ρ) hd)))
          have e5 : k = Bo.i .ishl c o := Int32.toInt_inj.mp c3
          have ey : y = Bo.i .ixor k k' := Int32.toInt_inj.mp f3
          refine ⟨x.toInt, o.toInt, e1, c2, x, Bo.i .iand x (Bo.i .ixor (Bo.i .ishl 1 o) (-1)), rfl, ?_, fun n h3 h4 m h5 => ?_⟩
          · rw [e3, ey, e5, ek, ec]; rfl
          · rw [bit_cl h3 h4 h5]
            by_cases em : m = n
            · rw [if_pos em, decide_eq_true em, Bool.not_true, Bool.and_false]; rfl
            · rw [if_neg em, decide_eq_false em, Bool.not_false, Bool.and_true]
        · cases g6
  · obtain ⟨u, g1, g2⟩ := List.mem_flatMap.mp hq
    cases hd : isC 1 u.1 with
    | false => rw [hd] at g2; cases g2
    | true =>
      rw [hd] at g2
      rcases List.mem_cons.mp g2 with rfl | g2
      · obtain ⟨c, o, c1, c2, c3⟩ := ff_ok h hz hm u g1
        have ec : c = 1 := Int32.toInt_inj.mp (Option.some.inj (c1.symm.trans (isC_ok (ρ := ρ) hd)))
        have z0 : ∀ m, m < 6 → bitN (0 : Int32) m = false := by decide +kernel
        refine ⟨0, o.toInt, rfl, c2, 0, Bo.i .ishl 1 o, rfl, ?_, fun n h3 h4 m h5 => ?_⟩
        · rw [c3, ec]; rfl
        · have e := bit_one n h4 m h5
          rw [bit_k h3 h4]
          show b2i (bitN ((1 : Int32) <<< (Int32.ofNat n &&& 31)) m) = _
          rw [e]
          by_cases em : m = n
          · rw [if_pos em, decide_eq_true em]; rfl
          · rw [if_neg em, decide_eq_false em, z0 m h5]
      · cases g2
theorem hb27_ok {J : Jt} {s : Sy} {ρ : List Int} {σ : zS} (h : Ok J s ρ σ) {b : AV} {z : Int} (hz : ev ρ b = some z) {mm : Mm} (hm : MmOk ρ mm) {q : AV × AV} (hq : q ∈ ff s 2 b mm) : ∃ x y : Int, ev ρ q.1 = some x ∧ ev ρ q.2 = some y ∧ R847 x y z := by
  obtain ⟨x, y, e1, e2, e3⟩ := ff_ok h hz hm q hq
  exact ⟨x.toInt, y.toInt, e1, e2, x, y, rfl, rfl, e3.symm⟩
noncomputable def hbs9 (mm : Mm) (b : AV) (s : Sy) : Sy := match hb9 mm b s with
  | q :: _ => s.seth ((840, q.1) :: (841, q.2) :: (842, b) :: hdel 840 (hdel 841 (hdel 842 s.hl)))
  | [] => s
noncomputable def hbs7 (mm : Mm) (b : AV) (s : Sy) : Sy := match hb7 mm b s with
  | q :: _ => s.seth ((843, q.1) :: (844, q.2.1) :: (845, b) :: (846, .c q.2.2) :: hdel 843 (hdel 844 (hdel 845 (hdel 846 s.hl))))
  | [] => s
noncomputable def hbs27 (mm : Mm) (b : AV) (s : Sy) : Sy := match ff s 2 b mm with
  | q :: _ => s.seth ((847, q.1) :: (848, q.2) :: (849, b) :: hdel 847 (hdel 848 (hdel 849 s.hl)))
  | [] => s
noncomputable def hbA (n : Nat) (l : List (Nat × (Nat × Nat))) : Bool := l.any fun h => Nat.beq h.1 n
/-- 9; else 7, where there is what it asks for; else 27 -/
noncomputable def hbx (l : List (Nat × (Nat × Nat))) (mm : Mm) (f : Fm) (s : Sy) : Sy := match f.st with
  | b :: _ => bif b.isI then (bif hbA 9 l then hbs9 mm b s else bif hbA 7 l && !(isNil (hb7 mm b s)) then hbs7 mm b s else bif hbA 27 l then hbs27 mm b s else s) else s
  | [] => s
theorem hbx_ok {J : Jt} (hB : PBt J) {l : List (Nat × (Nat × Nat))} {mm : Mm} {f : Fm} {s : Sy} {ρ : List Int} {σ : zS} {v : List Value} (ho : Ok J s ρ σ) (hm : MmOk ρ mm) (hs : Rs ρ f.st v) : Ok J (hbx l mm f s) ρ σ := by
  unfold hbx
  split
  · rename_i b st hst
    cases hi : b.isI with
    | false => exact ho
    | true =>
      simp only [cond_true]
      rw [hst] at hs
      obtain ⟨w1, v1, rfl, ha, _⟩ := hs.cons
      obtain ⟨z, _, hz⟩ := ha.int hi
      cases h9 : hbA 9 l with
      | true =>
        simp only [cond_true]
        unfold hbs9
        split
        · rename_i q r hq
          obtain ⟨t, o, e1, e2, e3⟩ := hb9_ok ho hz hm (show q ∈ hb9 mm b s by rw [hq]; exact List.mem_cons_self ..)
          obtain ⟨H, i1, i2⟩ := ho.inv
          exact ⟨ho.len, ho.env, ho.me, ho.cg, ho.df, ho.fa, (840, t) :: (841, o) :: (842, z.toInt) :: hdel 840 (hdel 841 (hdel 842 H)), ⟨⟨rfl, e1⟩, ⟨rfl, e2⟩, ⟨rfl, hz⟩, ((i1.del).del).del⟩, hB.1 H σ t o _ e3 i2⟩
        · exact ho
      | false =>
        simp only [cond_false]
        cases h7 : hbA 7 l && !(isNil (hb7 mm b s)) with
        | true =>
          simp only [cond_true]
          unfold hbs7
          split
          · rename_i q r hq
            obtain ⟨t, o, e1, e2, e3⟩ := hb7_ok ho hz hm (show q ∈ hb7 mm b s by rw [hq]; exact List.mem_cons_self ..)
            obtain ⟨H, i1, i2⟩ := ho.inv
            exact ⟨ho.len, ho.env, ho.me, ho.cg, ho.df, ho.fa, (843, t) :: (844, o) :: (845, z.toInt) :: (846, q.2.2) :: hdel 843 (hdel 844 (hdel 845 (hdel 846 H))), ⟨⟨rfl, e1⟩, ⟨rfl, e2⟩, ⟨rfl, hz⟩, ⟨rfl, rfl⟩, (((i1.del).del).del).del⟩, hB.2.1 H σ t o _ _ e3 i2⟩
          · exact ho
        | false =>
          simp only [cond_false]
          cases h27 : hbA 27 l with
          | false => exact ho
          | true =>
            simp only [cond_true]
            unfold hbs27
            split
            · rename_i q r hq
              obtain ⟨x, y, e1, e2, e3⟩ := hb27_ok ho hz hm (show q ∈ ff s 2 b mm by rw [hq]; exact List.mem_cons_self ..)
              obtain ⟨H, i1, i2⟩ := ho.inv
              exact ⟨ho.len, ho.env, ho.me, ho.cg, ho.df, ho.fa, (847, x) :: (848, y) :: (849, z.toInt) :: hdel 847 (hdel 848 (hdel 849 H)), ⟨⟨rfl, e1⟩, ⟨rfl, e2⟩, ⟨rfl, hz⟩, ((i1.del).del).del⟩, hB.2.2 H σ x y _ e3 i2⟩
            · exact ho
  · exact ho
noncomputable abbrev HOb (G : Gx) (J : Jt) : Prop := HOk G J ∧ PBt J
noncomputable def hintP (G : Gx) (V : Pv) (kt : Kont) (w : Wk2) (s : Sy) (mm : Mm) (fs : List Fm) : Bool := match fs with
  | [] => false
  | f :: gs => match V.2.1.get (f.m * 65536 + f.pc) with
    | none => stepP G V kt w s mm f gs
    | some l => match hApply G f l (hbx l mm f s) with
      | none => true
      | some s => bif (l.any fun h => Nat.beq h.1 8) && infe s then true else bif isSp5 l then (match f.st with
        | b :: a :: _ => bif (a.isI && b.isI) || (a.isL && b.isL) then cutP G V kt w s mm f gs .lt a b && (cutP G V kt w s mm f gs .eq a b && cutP G V kt w s mm f gs .gt a b) else false
        | _ => false) else match f.st with
        | a :: _ => bif isSpl l && (a.isI && many (dom s a)) then (enum (dom s a)).all (fun j => match s.cut .eq a (.c j) with
          | some s' => w s' mm (f :: gs)
          | none => true) else stepP G V kt w s mm f gs
        | [] => stepP G V kt w s mm f gs
noncomputable def walkP (G : Gx) (V : Pv) (kt : Kont) : Nat → Wk2
  | 0 => fun _ _ _ => false
  | n + 1 => hintP G V kt (walkP G V kt n)
section P8
variable {E : xV} {Y : Nat → xY} {G : Gx} {J : Jt} {V : Pv} {Q : Qt} {ρ1 : List Int} {kt : Kont}
noncomputable def PS (J : Jt) (Q : Qt) (ρ1 : List Int) (w : Wk2) : Prop := ∀ (s : Sy) (mm : Mm) (fs : List Fm) (ρ : List Int) (σ : zS) (cs : List CF), w s mm fs = true → Pre ρ1 ρ → Ok J s ρ σ → MmOk ρ mm → Rg ρ fs cs → Q cs none σ
noncomputable def PK (J : Jt) (Q : Qt) (ρ1 : List Int) (kt : Kont) : Prop := ∀ (s : Sy) (mm : Mm) (fs : List Fm) (a : Option AV) (ρ : List Int) (σ : zS) (cs : List CF) (rv : Option Value), kt s mm fs a = true → Pre ρ1 ρ → Ok J s ρ σ → MmOk ρ mm → Rg ρ fs cs → Ra ρ a rv → Q cs rv σ
theorem goP_ok (hk : PK J Q ρ1 kt) {w : Wk2} (hw : PS J Q ρ1 w) {s : Sy} {mm : Mm} {fs : List Fm} {ρ : List Int} {σ : zS} {cs : List CF} (h : goP V kt w s mm fs = true) (hp : Pre ρ1 ρ) (ho : Ok J s ρ σ) (hm : MmOk ρ mm) (hr : Rg ρ fs cs) : Q cs none σ := by
  unfold goP at h
  cases hc : V.2.2.1.any (fun c => labEq c fs) with
  | true => rw [hc] at h; exact hk s mm fs none ρ σ cs none h hp ho hm hr trivial
  | false => rw [hc] at h; exact hw s mm fs ρ σ cs h hp ho hm hr
/-- a return: from what the machine does to what the side comes to -/
theorem retP_ok (hQ : QLp E Y V.1 Q) (hT : ScT E Y J V) (hk : PK J Q ρ1 kt) {w : Wk2} (hw : PS J Q ρ1 w) {s : Sy} {mm : Mm} {fs : List Fm} {a : Option AV} {ρ : List Int} {σ : zS} {top : CF} {cs : List CF} {rv : Option Value} (hz : ∀ τ K, Kc E Y cs K rv (mixD V.1 σ τ) → Wz E (Y top.1) top.2.1 top.2.2.1 top.2.2.2 (mixD V.1 σ τ) (Kc E Y cs K)) (h : retP V kt w s mm fs a = true) (hp : Pre ρ1 ρ) (ho : Ok J s ρ σ) (hm : MmOk ρ mm) (ha : Ra ρ a rv) (hr : Rg ρ fs cs) : Q (top :: cs) none σ := by
  cases fs with
  | nil =>
    cases cs with
    | cons _ _ => exact hr.elim
    | nil => exact hQ.2 top [] rv σ (fun τ K q => hz τ K q) (hk s mm [] a ρ σ [] rv h hp ho hm trivial ha)
  | cons g gs =>
    cases cs with
    | nil => exact hr.elim
    | cons c cs =>
      obtain ⟨⟨⟨e1, e2⟩, h1, h2⟩, h3⟩ := hr
      refine hQ.1 top (c :: cs) (c.1, (c.2.1, (c.2.2.1, rv.toList ++ c.2.2.2))) cs σ σ agD.rf (fun τ K q => hz τ K q) ?_
      refine goP_ok hk hw h hp ho hm ⟨⟨⟨e1, e2⟩, h1, ?_⟩, h3⟩
      cases a with
      | none =>
        cases rv with
        | none => exact h2
        | some _ => exact ha.elim
      | some a =>
        cases rv with
        | none => exact ha.elim
        | some x => exact ⟨ha, h2⟩
theorem genP_ok (hG : GxOk Y G) (hJ : POk G.g G.P J) (hQ : QLp E Y V.1 Q) (hT : ScT E Y J V) (hk : PK J Q ρ1 kt) {w : Wk2} (hw : PS J Q ρ1 w) {s : Sy} {mm : Mm} {f : Fm} {fs : List Fm} {ρ : List Int} {σ : zS} {l : List (Nat × Value)} {v : List Value} {cs : List CF} {ix : Ix} {len : Nat} (h : genP G V kt w s mm f fs ix len = true) (hD : okD V.1 f.st = true) (d : decode (Y f.m).2.1 f.pc = .ok (enc ix, len)) (hfit : ix.fits (Y f.m).2.2.1 = true) (hlen : ix.len = 0 ∨ ix.len = len) (hp : Pre ρ1 ρ) (ho : Ok J s ρ σ) (hm : MmOk ρ mm) (hl : Rl ρ f.lv l) (hs : Rs ρ f.st v) (hr : Rg ρ fs cs) : Q ((f.m, (f.pc, (l, v))) :: cs) none σ := by
  unfold genP at h
  split at h
  · rename_i L hL
    refine tt1_all (Wp := fun _ _ => True) ix s ρ σ f.lv f.st l v L (hQ.lft cs) hD hG.g hJ (fun _ _ _ _ _ => trivial) (fun _ _ _ => trivial) d hfit hlen ho hl hs hL ?_
    intro u hu ρ' σ' l' v' p1 p2 p3 p4 p5
    exact goP_ok hk hw (List.all_eq_true.mp h u hu) (hp.tr p1) p2 (hm.mono p1) ⟨⟨⟨rfl, rfl⟩, p4, p5⟩, hr.mono p1⟩
  · cases h
theorem callP_ok (hG : GxOk Y G) (hJ : POk G.g G.P J) (hQ : QLp E Y V.1 Q) (hT : ScT E Y J V) (hk : PK J Q ρ1 kt) {w : Wk2} (hw : PS J Q ρ1 w) {s : Sy} {mm : Mm} {f : Fm} {fs : List Fm} {z : Nat} {args rest : List AV} {ρ : List Int} {σ : zS} {l : List (Nat × Value)} {av vr : List Value} {cs : List CF} {vst : List Value} (h : callP G V kt w s mm f fs z args rest = true) (hz : ∀ τ K, (zRm (Y f.m) (Y z) ∧ (vr.map fun v => v.category).sum ≤ 8 ∧ (l.all fun q => xokv 215 q.2) = true ∧ (vr.all (xokv 215)) = true) → Cz E (Y z) av (mixD V.1 σ τ) (fun v σ' => Wz E (Y f.m) (f.pc + 3) l (v.toList ++ vr) σ' K) → Wz E (Y f.m) f.pc l vst (mixD V.1 σ τ) K) (hp : Pre ρ1 ρ) (ho : Ok J s ρ σ) (hm : MmOk ρ mm) (hl : Rl ρ f.lv l) (ha : Rs ρ args av) (hs : Rs ρ rest vr) (hr : Rg ρ fs cs) : Q ((f.m, (f.pc, (l, vst))) :: cs) none σ := by
  unfold callP at h
  simp only [Bool.and_eq_true, okfr] at h
  obtain ⟨⟨h0, h1⟩, h2⟩ := h
  obtain ⟨q1, q2, q3⟩ := roomOk_ok hG h1
  have hA : (vr.map fun v => v.category).sum ≤ 8 ∧ (l.all fun q => xokv 215 q.2) = true ∧ (vr.all (xokv 215)) = true := ⟨by rw [cats_ok hs]; exact Nat.le_of_ble_eq_true h0.2.2, okl_ok hl h0.1, oks_ok hs h0.2.1⟩
  have en : ∀ {τ : zS} {K : zKt}, Wz E (Y z) 0 (lv_args 0 av) [] (mixD V.1 σ τ) K → Cz E (Y z) av (mixD V.1 σ τ) K := fun q => z_entry q2 (fun a => by rw [sl_len, cats_ok ha]; exact q3) rfl q
  split at h2
  · rename_i qs hqs
    obtain ⟨q, hq, h3⟩ := List.any_eq_true.mp h2
    have hS := hT z qs hqs q hq
    unfold scP at h3
    dsimp only at h3
    obtain ⟨ρf, pf, of⟩ := fillm_ok hJ (l := q.1.kn.me) ho
    split at h3
    · rename_i t2 m1
      split at h3
      · rename_i th m2
        obtain ⟨d2, e2, r2⟩ := mtl_ok of m1 (fun b hb => by cases hb) (ha.mono pf)
        obtain ⟨d3, e3, k3, o3⟩ := mta_ok of m2 d2
        obtain ⟨rv, σ', ⟨ag, ex⟩, fr, al, j2, ρ'', j3, j4, j5⟩ := hS (vals ρf th) σ av ⟨o3, mtk_tp d3 k3⟩ (r2.mono e3.pre)
        have hbe : Ok (fun _ _ => True) ((fillm G q.1.kn.me s).beh1 q.2) ρf σ' := by
          obtain ⟨H, i1, i2⟩ := of.inv
          refine ⟨of.len, of.env, fun e he => ?_, of.cg, of.df, of.fa, H, i1, trivial⟩
          obtain ⟨g1, g2⟩ := List.mem_filter.mp he
          obtain ⟨j, g3, g4⟩ := of.me e g1
          have g5 : memb q.2 e.1 = false := by
            cases hb : memb q.2 e.1 with
            | false => rfl
            | true => rw [hb] at g2; cases g2
          refine ⟨j, g3, ?_⟩
          rw [(fr e.1 g5).1, (fr e.1 g5).2]
          exact g4
        obtain ⟨s', th', ρ', i1, i2, i3, i4, i5⟩ := inst_ok hbe d3 j4 j3
        have h4 := List.all_eq_true.mp h3 al j2
        rw [i1] at h4
        simp only at h4
        split at h4
        · rename_i as hl' has hah
          obtain ⟨Hh, x1, x2⟩ := j4.1.inv
          rw [← i5] at j5 x1
          have i6 : Ok J (s'.seth hl') ρ' σ' := ⟨i3.len, i3.env, i3.me, i3.cg, i3.df, i3.fa, Hh, insH_ok i4 hah x1, x2⟩
          refine hQ.1 _ cs (f.m, (f.pc + 3, (l, rv.toList ++ vr))) cs σ σ' ag (fun τ K q9 => hz τ (Kc E Y cs K) ⟨q1, hA⟩ (en (ex τ (fun v σ' => Wz E (Y f.m) (f.pc + 3) l (v.toList ++ vr) σ' (Kc E Y cs K)) q9))) ?_
          exact goP_ok hk hw h4 ((hp.tr pf).tr i2) i6 ((hm.mono pf).mono i2) ⟨⟨⟨rfl, rfl⟩, (hl.mono pf).mono i2, Rs.app (insL_ok i4 has j5) ((hs.mono pf).mono i2)⟩, (hr.mono pf).mono i2⟩
        · cases h4
      · cases h3
    · cases h3
  · exact hQ.1 _ cs (z, (0, (lv_args 0 av, []))) ((f.m, (f.pc + 3, (l, vr))) :: cs) σ σ agD.rf (fun τ K q => hz τ (Kc E Y cs K) ⟨q1, hA⟩ (en q)) (goP_ok hk hw h2 hp ho hm ⟨⟨⟨rfl, rfl⟩, argLv_ok ha, trivial⟩, ⟨⟨rfl, rfl⟩, hl, hs⟩, hr⟩)
theorem stepP_ok (hG : GxOk Y G) (hJ : POk G.g G.P J) (hQ : QLp E Y V.1 Q) (hT : ScT E Y J V) (hk : PK J Q ρ1 kt) {w : Wk2} (hw : PS J Q ρ1 w) {s : Sy} {mm : Mm} {f : Fm} {fs : List Fm} {ρ : List Int} {σ : zS} {cs : List CF} (h : stepP G V kt w s mm f fs = true) (hp : Pre ρ1 ρ) (ho : Ok J s ρ σ) (hm : MmOk ρ mm) (hr : Rg ρ (f :: fs) cs) : Q cs none σ := by
  cases cs with
  | nil => exact hr.elim
  | cons c cs =>
  obtain ⟨cm, cpc, l, v⟩ := c
  obtain ⟨⟨⟨e1, e2⟩, hl, hs⟩, hr⟩ := hr
  dsimp only at e1 e2 hl hs
  subst e1
  subst e2
  unfold stepP at h
  cases hD : okD V.1 f.st with
  | false => rw [hD] at h; cases h
  | true =>
  rw [hD] at h
  simp only [cond_true] at h
  cases hc : (G.g.code f.m).get f.pc with
  | none => rw [hc] at h; cases h
  | some q =>
    obtain ⟨ix, len⟩ := q
    rw [hc] at h
    dsimp only at h
    obtain ⟨d, hfit, hlen⟩ := hG.g.code _ _ _ _ hc
    cases hb : bop ix with
    | some n =>
      rw [hb] at h
      dsimp only at h
      unfold bopP at h
      split at h
      · rename_i b a st' hst
        rw [hst] at hs
        obtain ⟨w1, v1, rfl, hb9, hs1⟩ := hs.cons
        obtain ⟨w2, v2, rfl, ha9, hs2⟩ := hs1.cons
        cases hi : a.isI && b.isI with
        | false => rw [hi] at h; cases h
        | true =>
          rw [hi] at h
          simp only [cond_true] at h
          rw [Bool.and_eq_true] at hi
          obtain ⟨x, rfl, hx⟩ := ha9.int hi.1
          obtain ⟨y, rfl, hy⟩ := hb9.int hi.2
          obtain ⟨ρ', p1, p2, p3, p4, p5⟩ := mstep_ok (n := n) ho hm hi.1 hi.2 hx hy
          cases bop_len hb hlen
          exact g_bop (hQ.lft cs) hb d (goP_ok hk hw h (hp.tr p1) p2 p3 ⟨⟨⟨rfl, rfl⟩, hl.mono p1, Rv.of_int p4 p5, hs2.mono p1⟩, hr.mono p1⟩)
      · cases h
    | none =>
      rw [hb] at h
      dsimp only at h
      split at h
      · rename_i y hkd
        have e := pkd_1 hkd
        subst e
        unfold irP at h
        split at h
        · rename_i a q1 q2 q3 t q4 hst hrm
          rw [Bool.and_eq_true] at h
          rw [hst] at hs
          obtain ⟨w1, v1, rfl, ha, hs1⟩ := hs.cons
          cases hs1.nil
          obtain ⟨-, -, m0, m1, m2, m3, m4, m5⟩ := hG.room _ _ _ _ _ _ hrm
          obtain ⟨y, ty, rfl, g1, g2⟩ := retFits_ok ho h.1 ha m1 m2 m4 m5
          cases lenOf (a := 1) hlen (by decide)
          exact retP_ok (top := (f.m, (f.pc, (l, [.int y])))) (rv := some (.int y)) hQ hT hk hw (fun τ K q => z_iret g1 g2 d q) h.2 hp ho hm ha hr
        · cases h
      · rename_i y hkd
        have e := pkd_2 hkd
        subst e
        unfold lrP at h
        split at h
        · rename_i a q1 q2 q3 t q4 hst hrm
          simp only [Bool.and_eq_true] at h
          rw [hst] at hs
          obtain ⟨w1, v1, rfl, ha, hs1⟩ := hs.cons
          cases hs1.nil
          obtain ⟨-, -, m0, m1, m2, m3, m4, m5⟩ := hG.room _ _ _ _ _ _ hrm
          obtain ⟨y, rfl, hy⟩ := ha.long h.1.2
          cases lenOf (a := 1) hlen (by decide)
          exact retP_ok (top := (f.m, (f.pc, (l, [.long y])))) (rv := some (.long y)) hQ hT hk hw (fun τ K q => z_lret (m3 (Nat.eq_of_beq_eq_true h.1.1)) d q) h.2 hp ho hm ha hr
        · cases h
      · rename_i y hkd
        have e := pkd_3 hkd
        subst e
        unfold vrP at h
        split at h
        · rename_i q1 q2 q3 t q4 hst hrm
          rw [Bool.and_eq_true] at h
          rw [hst] at hs
          cases hs.nil
          obtain ⟨-, -, m0, m1, m2, m3, m4, m5⟩ := hG.room _ _ _ _ _ _ hrm
          cases lenOf (a := 1) hlen (by decide)
          exact retP_ok (top := (f.m, (f.pc, (l, [])))) (rv := none) hQ hT hk hw (fun τ K q => z_vret (m0 (Nat.eq_of_beq_eq_true h.1)) d q) h.2 hp ho hm (a := none) trivial hr
        · cases h
      · rename_i x hkd
        have e := pkd_4 hkd
        subst e
        unfold isP at h
        split at h
        · rename_i z k hcl
          obtain ⟨g1, g2, -⟩ := hG.call _ _ _ _ _ (Nat.le_of_ble_eq_true hfit) hcl
          split at h
          · rename_i args rest hpo
            obtain ⟨as, vr, rfl, e2, e3, e4⟩ := pops_ok (as0 := []) hpo hs trivial
            rw [List.append_nil] at e2
            cases lenOf (a := 3) hlen (by decide)
            exact callP_ok (av := as) (vr := vr) hG hJ hQ hT hk hw h (fun τ K hh q => z_invS (Z := Y z) g1 (g2 rfl) hh.1 ⟨d, rfl⟩ e4 rfl hh.2.1 hh.2.2.1 hh.2.2.2 q) hp ho hm hl e2 e3 hr
          · cases h
        · exact genP_ok hG hJ hQ hT hk hw h hD d hfit hlen hp ho hm hl hs hr
      · rename_i x hkd
        have e := pkd_5 hkd
        subst e
        unfold ivP at h
        split at h
        · rename_i z k hcl
          obtain ⟨g1, -, g3⟩ := hG.call _ _ _ _ _ (Nat.le_of_ble_eq_true hfit) hcl
          obtain ⟨⟨g4, g5⟩, g6⟩ := g3 rfl
          split at h
          · rename_i kb args rest hpo
            split at h
            · rename_i q1 q2 q3 q4 q5 hrm
              simp only [Bool.and_eq_true, Bool.not_eq_true'] at h
              obtain ⟨as, vr, rfl, e2, e3, e4⟩ := pops_ok (as0 := []) hpo hs trivial
              rw [List.append_nil] at e2
              have hkb := Nat.eq_of_beq_eq_true h.1.1
              subst hkb
              have hne : q5 ≠ 1000 := fun e => by
                have := h.1.2
                rw [e] at this
                cases this
              cases as with
              | nil => exact e2.elim
              | cons a0 as =>
                have ha0 : a0 = .ref q5 := e2.1
                subst ha0
                cases lenOf (a := 3) hlen (by decide)
                rcases g6 _ _ _ _ _ hrm with ⟨g7, ci, ll, g8, g9, g10⟩ | ⟨q, _⟩
                · exact callP_ok (av := .ref q5 :: as) (vr := vr) hG hJ hQ hT hk hw h.2 (fun τ K hh q => z_invV (Z := Y z) g1 g4 g5 g7 g8 g9 g10 hh.1 ⟨d, rfl⟩ (As := as) (rest := vr) (by simpa using e4) (by simp) hh.2.1 hh.2.2.1 hh.2.2.2 q) hp ho hm hl e2 e3 hr
                · exact absurd q hne
            · cases h
          · cases h
        · cases h
      · exact genP_ok hG hJ hQ hT hk hw h hD d hfit hlen hp ho hm hl hs hr
theorem cutP_ok (hG : GxOk Y G) (hJ : POk G.g G.P J) (hQ : QLp E Y V.1 Q) (hT : ScT E Y J V) (hk : PK J Q ρ1 kt) {w : Wk2} (hw : PS J Q ρ1 w) {s : Sy} {mm : Mm} {f : Fm} {fs : List Fm} {ρ : List Int} {σ : zS} {cs : List CF} {c : Cm} {a b : AV} {x y : Int} (h : cutP G V kt w s mm f fs c a b = true) (hx : ev ρ a = some x) (hy : ev ρ b = some y) (hdx : inD x (dom s a)) (hdy : inD y (dom s b)) (hc : c.ok x y) (hp : Pre ρ1 ρ) (ho : Ok J s ρ σ) (hm : MmOk ρ mm) (hr : Rg ρ (f :: fs) cs) : Q cs none σ := by
  obtain ⟨s', c1, c2⟩ := Sy.cut_ok (c := c) ho hx hy hdx hdy hc
  unfold cutP at h
  rw [c1] at h
  exact stepP_ok hG hJ hQ hT hk hw h hp c2 hm hr
theorem hintP_ok (hG : GxOk Y G) (hJ : POk G.g G.P J) (hX : HOb G J) (hQ : QLp E Y V.1 Q) (hT : ScT E Y J V) (hk : PK J Q ρ1 kt) {w : Wk2} (hw : PS J Q ρ1 w) : PS J Q ρ1 (hintP G V kt w) := by
  intro s mm fs ρ σ cs h hp ho hm hr
  unfold hintP at h
  split at h
  · cases h
  · rename_i f gs
    split at h
    · exact stepP_ok hG hJ hQ hT hk hw h hp ho hm hr
    · rename_i l hl9
      have top0 : ∃ l v cs', cs = (f.m, (f.pc, (l, v))) :: cs' ∧ Rs ρ f.st v := by
        cases cs with
        | nil => exact hr.elim
        | cons c cs =>
          obtain ⟨cm, cpc, l, v⟩ := c
          obtain ⟨⟨⟨e1, e2⟩, hl, hs⟩, hr⟩ := hr
          dsimp only at e1 e2 hl hs
          subst e1
          subst e2
          exact ⟨l, v, cs, rfl, hs⟩
      obtain ⟨_, v0, _, _, hs0⟩ := top0
      obtain ⟨s1, ρ', q1, q2, o1⟩ := hApply_ok hJ hX.1 (f := f) (l := l) (hbx_ok hX.2 (l := l) (f := f) ho hm hs0)
      rw [q1] at h
      dsimp only at h
      replace hp := hp.tr q2
      replace hm := hm.mono q2
      replace hr := hr.mono q2
      have top : ∃ l v cs', cs = (f.m, (f.pc, (l, v))) :: cs' ∧ Rs ρ' f.st v := by
        cases cs with
        | nil => exact hr.elim
        | cons c cs =>
          obtain ⟨cm, cpc, l, v⟩ := c
          obtain ⟨⟨⟨e1, e2⟩, hl, hs⟩, hr⟩ := hr
          dsimp only at e1 e2 hl hs
          subst e1
          subst e2
          exact ⟨l, v, cs, rfl, hs⟩
      obtain ⟨_, v, _, _, hs⟩ := top
      cases h8 : (l.any fun h => Nat.beq h.1 8) && infe s1 with
      | true => rw [Bool.and_eq_true] at h8; exact (infe_ok o1 h8.2).elim
      | false =>
      rw [h8] at h
      simp only [cond_false] at h
      cases h5 : isSp5 l with
      | true =>
        rw [h5] at h
        simp only [cond_true] at h
        split at h
        · rename_i b a st' hst
          cases hc : (a.isI && b.isI) || (a.isL && b.isL) with
          | false => rw [hc] at h; cases h
          | true =>
            rw [hc] at h
            simp only [cond_true, Bool.and_eq_true] at h
            rw [hst] at hs
            obtain ⟨w1, v1, rfl, hb9, hs1⟩ := hs.cons
            obtain ⟨w2, v2, rfl, ha9, hs2⟩ := hs1.cons
            have hxy : ∃ x y : Int, ev ρ' a = some x ∧ ev ρ' b = some y ∧ inD x (dom s1 a) ∧ inD y (dom s1 b) := by
              rw [Bool.or_eq_true, Bool.and_eq_true, Bool.and_eq_true] at hc
              rcases hc with hc | hc
              · obtain ⟨x, _, hx⟩ := ha9.int hc.1
                obtain ⟨y, _, hy⟩ := hb9.int hc.2
                exact ⟨x.toInt, y.toInt, hx, hy, dom_i o1 hc.1 hx, dom_i o1 hc.2 hy⟩
              · obtain ⟨x, _, hx⟩ := ha9.long hc.1
                obtain ⟨y, _, hy⟩ := hb9.long hc.2
                exact ⟨x.toInt, y.toInt, hx, hy, dom_l o1 hc.1 hx, dom_l o1 hc.2 hy⟩
            obtain ⟨x, y, hx, hy, hdx, hdy⟩ := hxy
            rcases Int.lt_trichotomy x y with q | q | q
            · exact cutP_ok hG hJ hQ hT hk hw h.1 hx hy hdx hdy q hp o1 hm hr
            · exact cutP_ok hG hJ hQ hT hk hw h.2.1 hx hy hdx hdy q hp o1 hm hr
            · exact cutP_ok hG hJ hQ hT hk hw h.2.2 hx hy hdx hdy q hp o1 hm hr
        · cases h
      | false =>
        rw [h5] at h
        simp only [cond_false] at h
        split at h
        · rename_i a st' hst
          cases hc : isSpl l && (a.isI && many (dom s1 a)) with
          | false => rw [hc] at h; exact stepP_ok hG hJ hQ hT hk hw h hp o1 hm hr
          | true =>
            rw [hc] at h
            simp only [Bool.and_eq_true] at hc
            simp only [cond_true] at h
            rw [hst] at hs
            obtain ⟨w1, v1, rfl, ha, hs1⟩ := hs.cons
            obtain ⟨y, rfl, hy⟩ := ha.int hc.2.1
            have hd := dom_i o1 hc.2.1 hy
            have h1 := List.all_eq_true.mp h y.toInt (enum_in hd)
            obtain ⟨s', c1, c2⟩ := Sy.cut_ok (c := .eq) o1 hy (b := .c y.toInt) rfl hd eqc rfl
            rw [c1] at h1
            exact hw s' mm (f :: gs) ρ' σ cs h1 hp c2 hm hr
        · exact stepP_ok hG hJ hQ hT hk hw h hp o1 hm hr
theorem walkP_ok (hG : GxOk Y G) (hJ : POk G.g G.P J) (hX : HOb G J) (hQ : QLp E Y V.1 Q) (hT : ScT E Y J V) (hk : PK J Q ρ1 kt) : ∀ n : Nat, PS J Q ρ1 (walkP G V kt n)
  | 0 => by
    intro s mm fs ρ σ cs h
    cases h
  | n + 1 => hintP_ok hG hJ hX hQ hT hk (walkP_ok hG hJ hX hQ hT hk n)
end P8
end
end
section
noncomputable section
/-! ===== PRODUCTS, 3: two sides, each with cells of its own ===== -/
/-- from frames cs (none: ended with rv) a side comes to r, σ', whatever the other side's cells hold -/
noncomputable def Ex (E : xV) (Y : Nat → xY) (D : Nat → Bool) (cs : List CF) (rv : Option Value) (σ : zS) (r : Option Value) (σ' : zS) : Prop := match cs with
  | [] => r = rv ∧ σ' = σ
  | c :: cs => agD D σ σ' ∧ ∀ τ K, K r (mixD D σ' τ) → Rn E Y (c :: cs) (mixD D σ τ) K
noncomputable abbrev K2t : Type := Option Value → Option Value → zS → Prop
noncomputable def dN (D : Nat → Bool) : Nat → Bool := fun k => !(D k)
noncomputable def PP (E : xV) (Y : Nat → xY) (D : Nat → Bool) (hc : List CF) (hr : Option Value) (mc : List CF) (mr : Option Value) (σ : zS) (K2 : K2t) : Prop := ∃ rH σ1 rM σ2, Ex E Y D hc hr σ rH σ1 ∧ Ex E Y (dN D) mc mr σ1 rM σ2 ∧ K2 rH rM σ2
section P9
variable {E : xV} {Y : Nat → xY} {D : Nat → Bool} {σ σ' τ : zS}
theorem mix_ag (h : ∀ k, D k = true → σ'.1 k = σ.1 k ∧ σ'.2 k = σ.2 k) : mixD D σ' τ = mixD D σ τ := by
  unfold mixD
  refine Prod.ext (funext fun k => ?_) (funext fun k => ?_)
  · dsimp only
    cases hk : D k with
    | true => simp only [cond_true]; exact (h k hk).1
    | false => rfl
  · dsimp only
    cases hk : D k with
    | true => simp only [cond_true]; exact (h k hk).2
    | false => rfl
theorem mix_self (h : agD D σ σ') : mixD D σ' σ = σ' := by
  unfold mixD
  refine Prod.ext (funext fun k => ?_) (funext fun k => ?_)
  · dsimp only
    cases hk : D k with
    | true => rfl
    | false => simp only [cond_false]; exact (h k hk).1.symm
  · dsimp only
    cases hk : D k with
    | true => rfl
    | false => simp only [cond_false]; exact (h k hk).2.symm
theorem mix_in {k : Nat} (h : D k = true) : (mixD D σ τ).1 k = σ.1 k ∧ (mixD D σ τ).2 k = σ.2 k := ⟨mix1 h, mix2 h⟩
theorem mix_out {k : Nat} (h : D k = false) : (mixD D σ τ).1 k = τ.1 k ∧ (mixD D σ τ).2 k = τ.2 k := by
  unfold mixD
  simp only [h, cond_false, and_self]
theorem dN_t {k : Nat} (h : dN D k = true) : D k = false := by
  have h : (!(D k)) = true := h
  cases hk : D k with
  | true => rw [hk] at h; cases h
  | false => rfl
theorem dN_f {k : Nat} (h : dN D k = false) : D k = true := by
  have h : (!(D k)) = false := h
  cases hk : D k with
  | true => rfl
  | false => rw [hk] at h; cases h
theorem dN_of {k : Nat} (h : D k = true) : dN D k = false := by
  show (!(D k)) = false
  rw [h]; rfl
theorem PP.qlH {mc : List CF} {mr : Option Value} {K2 : K2t} : QLp E Y D (fun cs rv σ => PP E Y D cs rv mc mr σ K2) := by
  refine ⟨fun c cs f fs σ σ' h1 h2 h3 => ?_, fun c cs r σ h1 h3 => ?_⟩
  · obtain ⟨rH, σ1, rM, σ2, ⟨a1, a2⟩, b, k⟩ := h3
    exact ⟨rH, σ1, rM, σ2, ⟨h1.tr a1, fun τ K q => h2 τ K (a2 τ K q)⟩, b, k⟩
  · obtain ⟨rH, σ1, rM, σ2, ⟨a1, a2⟩, b, k⟩ := h3
    subst a1
    subst a2
    exact ⟨rH, σ1, rM, σ2, ⟨agD.rf, h1⟩, b, k⟩
/-- what the other side holds is untouched -/
theorem Ex.off {cs : List CF} {rv r : Option Value} (h : Ex E Y D cs rv σ r σ') : agD D σ σ' := by
  cases cs with
  | nil => obtain ⟨_, rfl⟩ := h; exact agD.rf
  | cons _ _ => exact h.1
theorem PP.qlM {hc : List CF} {hr : Option Value} {K2 : K2t} : QLp E Y (dN D) (fun cs rv σ => PP E Y D hc hr cs rv σ K2) := by
  refine ⟨fun c cs f fs σ σ' h1 h2 h3 => ?_, fun c cs r σ h1 h3 => ?_⟩
  · obtain ⟨rH, σ1', rM, σ2, e1, ⟨a2, e2⟩, k⟩ := h3
    have hin : ∀ k, D k = true → σ'.1 k = σ.1 k ∧ σ'.2 k = σ.2 k := fun k hk => h1 k (dN_of hk)
    refine ⟨rH, mixD D σ1' σ, rM, σ2, ?_, ⟨fun k hk => ?_, fun τ K q => ?_⟩, k⟩
    · cases hc with
      | nil =>
        obtain ⟨q1, q2⟩ := e1
        refine ⟨q1, ?_⟩
        rw [q2, mix_ag hin]
        exact mix_self agD.rf
      | cons c0 cs0 =>
        obtain ⟨q1, q2⟩ := e1
        refine ⟨fun k hk => mix_out hk, fun τ K q => ?_⟩
        have e3 : mixD D (mixD D σ1' σ) τ = mixD D σ1' τ := mix_ag (fun k hk => mix_in hk)
        rw [e3] at q
        have := q2 τ K q
        rw [mix_ag hin] at this
        exact this
    · have hk' := dN_f hk
      have := a2 k hk
      exact ⟨this.1.trans (mix_in (τ := σ) hk').1.symm, this.2.trans (mix_in (τ := σ) hk').2.symm⟩
    · have e3 : mixD (dN D) (mixD D σ1' σ) τ = mixD (dN D) σ τ := mix_ag (fun k hk => mix_out (dN_t hk))
      rw [e3]
      refine h2 τ K ?_
      have e4 : mixD (dN D) σ1' τ = mixD (dN D) σ' τ := mix_ag (fun k hk => e1.off k (dN_t hk))
      rw [← e4]
      exact e2 τ K q
  · obtain ⟨rH, σ1, rM, σ2, e1, ⟨a1, a2⟩, k⟩ := h3
    subst a1
    subst a2
    refine ⟨rH, σ2, rM, σ2, e1, ⟨agD.rf, fun τ K q => ?_⟩, k⟩
    have e3 : mixD (dN D) σ2 τ = mixD (dN D) σ τ := mix_ag (fun k hk => e1.off k (dN_t hk))
    rw [e3] at q ⊢
    exact h1 τ K q
/-- fewer locals -/
noncomputable def Sb : List CF → List CF → Prop
  | [], [] => True
  | c :: cs, d :: ds => (((c.1 = d.1 ∧ c.2.1 = d.2.1) ∧ c.2.2.2 = d.2.2.2) ∧ ∃ ks, lv_pick c.2.2.1 ks = d.2.2.1) ∧ Sb cs ds
  | _, _ => False
theorem Kc_sub {K : zKt} : ∀ {cs ds : List CF}, Sb cs ds → ∀ (r : Option Value) (σ : zS), Kc E Y ds K r σ → Kc E Y cs K r σ
  | [], [], _, _, _, q => q
  | c :: cs, d :: ds, ⟨⟨⟨⟨h1, h2⟩, h3⟩, ks, h4⟩, h5⟩, r, σ, q => by
    show Wz E (Y c.1) c.2.1 c.2.2.1 (r.toList ++ c.2.2.2) σ (Kc E Y cs K)
    rw [h1, h2, h3]
    exact z_sub ks h4 (Wz.mono q (fun v σ' h => Kc_sub h5 v σ' h))
  | [], _ :: _, h, _, _, _ => h.elim
  | _ :: _, [], h, _, _, _ => h.elim
theorem Rn_sub {K : zKt} {c d : CF} {cs ds : List CF} (h : Sb (c :: cs) (d :: ds)) (q : Rn E Y (d :: ds) σ K) : Rn E Y (c :: cs) σ K := by
  obtain ⟨⟨⟨⟨h1, h2⟩, h3⟩, ks, h4⟩, h5⟩ := h
  show Wz E (Y c.1) c.2.1 c.2.2.1 c.2.2.2 σ (Kc E Y cs K)
  rw [h1, h2, h3]
  exact z_sub ks h4 (Wz.mono q (fun v σ' h => Kc_sub h5 v σ' h))
theorem ql_sub {Q : Qt} (hQ : QLp E Y D Q) {cs ds : List CF} (h : Sb cs ds) {rv : Option Value} (hn : cs ≠ [] → rv = none) (q : Q ds rv σ) : Q cs rv σ := by
  cases cs with
  | nil =>
    cases ds with
    | nil => exact q
    | cons _ _ => exact h.elim
  | cons c cs =>
    cases ds with
    | nil => exact h.elim
    | cons d ds =>
      have e := hn (fun e => by cases e)
      subst e
      exact hQ.1 c cs d ds σ σ agD.rf (fun τ K q => Rn_sub h q) q
end P9
/-- frames met by a pattern -/
noncomputable def mfr (s : Sy) : List Fm → List Fm → List AV → Option (List AV)
  | [], [], th => some th
  | p :: ps, f :: fs, th => bif Nat.beq p.pc f.pc && Nat.beq p.m f.m then (match mtv s f.lv p.lv th with
    | some t1 => match mtl s p.st f.st t1 with
      | some t2 => mfr s ps fs t2
      | none => none
    | none => none) else none
  | _, _, _ => none
theorem mfr_ok {J : Jt} {s : Sy} {ρ : List Int} {σ : zS} (h : Ok J s ρ σ) : ∀ {ps fs : List Fm} {cs : List CF} {th th' : List AV}, mfr s ps fs th = some th' → Df ρ th → Rg ρ fs cs → ∃ ds, Df ρ th' ∧ Ext th th' ∧ Rg (vals ρ th') ps ds ∧ Sb cs ds
  | [], [], cs, th, th', e, hd, hr => by
    cases Option.some.inj e
    cases cs with
    | nil => exact ⟨[], hd, Ext.rf, trivial, trivial⟩
    | cons _ _ => exact hr.elim
  | p :: ps, f :: fs, cs, th, th', e, hd, hr => by
    cases cs with
    | nil => exact hr.elim
    | cons c cs =>
      obtain ⟨⟨⟨e1, e2⟩, hl, hs⟩, hr⟩ := hr
      unfold mfr at e
      cases hb : Nat.beq p.pc f.pc && Nat.beq p.m f.m with
      | false => rw [hb] at e; cases e
      | true =>
        rw [hb] at e
        simp only [cond_true] at e
        rw [Bool.and_eq_true] at hb
        have b1 := Nat.eq_of_beq_eq_true hb.1
        have b2 := Nat.eq_of_beq_eq_true hb.2
        split at e
        · rename_i t1 m1
          obtain ⟨ks, l', k1, d1, x1, r1⟩ := mtv_ok h hl m1 hd
          split at e
          · rename_i t2 m2
            obtain ⟨d2, x2, r2⟩ := mtl_ok h m2 d1 hs
            obtain ⟨ds, d3, x3, r3, b3⟩ := mfr_ok h e d2 hr
            exact ⟨(c.1, (c.2.1, (l', c.2.2.2))) :: ds, d3, (x1.tr x2).tr x3, ⟨⟨⟨b2.trans e1, b1.trans e2⟩, r1.mono (x2.tr x3).pre, r2.mono x3.pre⟩, r3⟩, ⟨⟨⟨rfl, rfl⟩, rfl⟩, ks, k1⟩, b3⟩
          · cases e
        · cases e
  | [], _ :: _, _, _, _, e, _, _ => by cases e
  | _ :: _, [], _, _, _, e, _, _ => by cases e
theorem Ra.rs {ρ : List Int} : ∀ {a : Option AV} {v : Option Value}, Ra ρ a v → Rs ρ a.toList v.toList
  | none, none, _ => trivial
  | some _, some _, q => ⟨q, trivial⟩
  | none, some _, q => q.elim
  | some _, none, q => q.elim
theorem Ra.of {ρ : List Int} : ∀ {a : Option AV} {v : Option Value}, Rs ρ a.toList v.toList → Ra ρ a v
  | none, none, _ => trivial
  | some _, some _, q => q.1
  | none, some _, q => q.elim
  | some _, none, q => q.elim
/-- where both sides stand: frames or an answer of each; what is known; what falls; which sides go on from here -/
noncomputable abbrev A2 : Type := (List Fm × Option AV) × ((List Fm × Option AV) × (Kn × ((Lf × Int) × (Bool × Bool))))
noncomputable abbrev A2.hf (a : A2) : List Fm := a.1.1
noncomputable abbrev A2.hr (a : A2) : Option AV := a.1.2
noncomputable abbrev A2.mf (a : A2) : List Fm := a.2.1.1
noncomputable abbrev A2.mr (a : A2) : Option AV := a.2.1.2
noncomputable abbrev A2.kn (a : A2) : Kn := a.2.2.1
noncomputable abbrev A2.mu (a : A2) : Lf × Int := a.2.2.2.1
noncomputable abbrev A2.rh (a : A2) : Bool := a.2.2.2.2.1
noncomputable abbrev A2.rm (a : A2) : Bool := a.2.2.2.2.2
noncomputable def arr2 (G : Gx) (s0 : Sy) (hf : List Fm) (hr : Option AV) (mf : List Fm) (mr : Option AV) (mu0 : Lf × Int) (a : A2) : Bool :=
  let s := fillm G a.kn.me s0
  match mfr s a.hf hf [] with
  | some t1 => match mtl s a.hr.toList hr.toList t1 with
    | some t2 => match mfr s a.mf mf t2 with
      | some t3 => match mtl s a.mr.toList mr.toList t3 with
        | some t4 => match mta s a.kn t4 with
          | some th => falls s th mu0 a.mu
          | none => false
        | none => false
      | none => false
    | none => false
  | none => false
/-- the whole: hints; where the sides stop; where they meet; the end; are the answers to be the same -/
noncomputable abbrev Pc : Type := BT (List (Nat × (Nat × Nat))) × (List Lb × (List Lb × (List A2 × (Al × (Bool × (Sct × Sct))))))
noncomputable abbrev Pc.hint (C : Pc) : BT (List (Nat × (Nat × Nat))) := C.1
noncomputable abbrev Pc.ch (C : Pc) : List Lb := C.2.1
noncomputable abbrev Pc.cm (C : Pc) : List Lb := C.2.2.1
noncomputable abbrev Pc.an (C : Pc) : List A2 := C.2.2.2.1
noncomputable abbrev Pc.al (C : Pc) : Al := C.2.2.2.2.1
noncomputable abbrev Pc.eq (C : Pc) : Bool := C.2.2.2.2.2.1
noncomputable abbrev Pc.sh (C : Pc) : Sct := C.2.2.2.2.2.2.1
noncomputable abbrev Pc.sm (C : Pc) : Sct := C.2.2.2.2.2.2.2
noncomputable def fin2 (G : Gx) (C : Pc) (s : Sy) (hr mr : Option AV) : Bool := match hr, mr with
  | some a, some b => (((a.isI && b.isI) || (a.isL && b.isL)) && (!(C.eq) || eqv s a b)) && (match mtl (fillm G C.al.2.me s) C.al.1 [b] [] with
    | some t => isS (mta (fillm G C.al.2.me s) C.al.2 t)
    | none => false)
  | _, _ => false
noncomputable def met2 (G : Gx) (C : Pc) (mu0 : Lf × Int) (s : Sy) (hf : List Fm) (hr : Option AV) (mf : List Fm) (mr : Option AV) : Bool := bif infe s then true else bif isNil hf && isNil mf then fin2 G C s hr mr else C.an.any fun a => arr2 G s hf hr mf mr mu0 a
noncomputable def ktM (G : Gx) (C : Pc) (mu0 : Lf × Int) (hf : List Fm) (hr : Option AV) : Kont := fun s _ mf mr => met2 G C mu0 s hf hr mf mr
noncomputable def ktH (G : Gx) (C : Pc) (D : Nat → Bool) (n : Nat) (mu0 : Lf × Int) (rm : Bool) (mf : List Fm) (mr : Option AV) : Kont := fun s mm hf hr => bif rm || (isNil hf && !(isNil mf)) then walkP G (dN D, (C.hint, (C.cm, C.sm))) (ktM G C mu0 hf hr) n s mm mf else met2 G C mu0 s hf hr mf mr
noncomputable def chk2 (G : Gx) (C : Pc) (D : Nat → Bool) (n : Nat) (a : A2) : Bool := bif a.rh then (isNil a.mr.toList || isNil a.mf) && walkP G (D, (C.hint, (C.ch, C.sh))) (ktH G C D n a.mu a.rm a.mf a.mr) n a.kn.sy [] a.hf else walkP G (dN D, (C.hint, (C.cm, C.sm))) (ktM G C a.mu a.hf a.hr) n a.kn.sy [] a.mf
/-- a side that has frames has no answer -/
noncomputable def sdOk (a : A2) : Bool := (isNil a.hf || isNil a.hr.toList) && (isNil a.mf || isNil a.mr.toList)
section P10
variable {E : xV} {Y : Nat → xY} {G : Gx} {J : Jt} {D : Nat → Bool} {C : Pc} {K2 : K2t}
theorem falls2_ok {s : Sy} {ρ : List Int} {σ : zS} (h : Ok J s ρ σ) {th : List AV} {mu0 mu : Lf × Int} {M : Int} (hd : Df ρ th) (hf : falls s th mu0 mu = true) (hM : tvo ρ mu0.1 = some M) : ∃ v, tvo (vals ρ th) mu.1 = some v ∧ 0 ≤ v + mu.2 ∧ v + mu.2 < M + mu0.2 := falls_ok h hd hf hM
theorem arr2_ok (hJ : POk G.g G.P J) {s : Sy} {ρ : List Int} {σ : zS} (h : Ok J s ρ σ) {hf mf : List Fm} {hr mr : Option AV} {mu0 : Lf × Int} {a : A2} {hc mc : List CF} {hv mv : Option Value} {M : Int} (ha : arr2 G s hf hr mf mr mu0 a = true) (h1 : Rg ρ hf hc) (h2 : Ra ρ hr hv) (h3 : Rg ρ mf mc) (h4 : Ra ρ mr mv) (hM : tvo ρ mu0.1 = some M) : ∃ ρ' hc' mc' m, Ko J a.kn ρ' σ ∧ (Rg ρ' a.hf hc' ∧ Ra ρ' a.hr hv) ∧ (Rg ρ' a.mf mc' ∧ Ra ρ' a.mr mv) ∧ (Sb hc hc' ∧ Sb mc mc') ∧ tvo ρ' a.mu.1 = some m ∧ 0 ≤ m + a.mu.2 ∧ m + a.mu.2 < M + mu0.2 := by
  unfold arr2 at ha
  dsimp only at ha
  obtain ⟨ρf, pf, of⟩ := fillm_ok hJ (l := a.kn.me) h
  replace h1 := h1.mono pf
  replace h2 := h2.mono pf
  replace h3 := h3.mono pf
  replace h4 := h4.mono pf
  replace hM := tvo.mono pf hM
  split at ha
  · rename_i t1 e1
    obtain ⟨hc', d1, x1, r1, b1⟩ := mfr_ok of e1 (fun b hb => by cases hb) h1
    split at ha
    · rename_i t2 e2
      obtain ⟨d2, x2, r2⟩ := mtl_ok of e2 d1 h2.rs
      split at ha
      · rename_i t3 e3
        obtain ⟨mc', d3, x3, r3, b3⟩ := mfr_ok of e3 d2 h3
        split at ha
        · rename_i t4 e4
          obtain ⟨d4, x4, r4⟩ := mtl_ok of e4 d3 h4.rs
          split at ha
          · rename_i th e5
            obtain ⟨d5, x5, k5, o5⟩ := mta_ok of e5 d4
            obtain ⟨m, m1, m2, m3⟩ := falls_ok of d5 ha hM
            exact ⟨vals ρf th, hc', mc', m, ⟨o5, mtk_tp d5 k5⟩, ⟨r1.mono (((x2.tr x3).tr x4).tr x5).pre, Ra.of (r2.mono ((x3.tr x4).tr x5).pre)⟩, ⟨r3.mono (x4.tr x5).pre, Ra.of (r4.mono x5.pre)⟩, ⟨b1, b3⟩, m1, m2, m3⟩
          · cases ha
        · cases ha
      · cases ha
    · cases ha
  · cases ha
/-- what the end gives -/
noncomputable def F2 (J : Jt) (G : Gx) (C : Pc) (K2 : K2t) : Prop := ∀ (s : Sy) (ρ : List Int) (σ : zS) (hr mr : Option AV) (hv mv : Option Value), fin2 G C s hr mr = true → Ok J s ρ σ → Ra ρ hr hv → Ra ρ mr mv → K2 hv mv σ
noncomputable def I2 (E : xV) (Y : Nat → xY) (J : Jt) (D : Nat → Bool) (C : Pc) (K2 : K2t) (N : Int) : Prop := ∀ a ∈ C.an, ∀ (ρ : List Int) (σ : zS) (hc mc : List CF) (hv mv : Option Value) (m : Int), Ko J a.kn ρ σ → Rg ρ a.hf hc → Ra ρ a.hr hv → Rg ρ a.mf mc → Ra ρ a.mr mv → tvo ρ a.mu.1 = some m → 0 ≤ m + a.mu.2 → m + a.mu.2 < N → PP E Y D hc hv mc mv σ K2
theorem isNil_e {α : Type} {l : List α} (h : isNil l = true) : l = [] := by
  cases l with
  | nil => rfl
  | cons _ _ => cases h
theorem Rg.nil {ρ : List Int} {cs : List CF} (h : Rg ρ [] cs) : cs = [] := by
  cases cs with
  | nil => rfl
  | cons _ _ => exact h.elim
theorem met2_ok (hJ : POk G.g G.P J) (hF : F2 J G C K2) {mu0 : Lf × Int} {s : Sy} {ρ : List Int} {σ : zS} {hf mf : List Fm} {hr mr : Option AV} {hc mc : List CF} {hv mv : Option Value} {M : Int} (hI : I2 E Y J D C K2 (M + mu0.2)) (h : met2 G C mu0 s hf hr mf mr = true) (ho : Ok J s ρ σ) (h1 : Rg ρ hf hc) (h2 : Ra ρ hr hv) (h3 : Rg ρ mf mc) (h4 : Ra ρ mr mv) (hM : tvo ρ mu0.1 = some M) (n1 : hc ≠ [] → hv = none) (n2 : mc ≠ [] → mv = none) : PP E Y D hc hv mc mv σ K2 := by
  unfold met2 at h
  cases h8 : infe s with
  | true => exact (infe_ok ho h8).elim
  | false =>
  rw [h8] at h
  simp only [cond_false] at h
  cases hb : isNil hf && isNil mf with
  | true =>
    rw [hb] at h
    rw [Bool.and_eq_true] at hb
    rw [isNil_e hb.1] at h1
    rw [isNil_e hb.2] at h3
    cases h1.nil
    cases h3.nil
    exact ⟨hv, σ, mv, σ, ⟨rfl, rfl⟩, ⟨rfl, rfl⟩, hF s ρ σ hr mr hv mv h ho h2 h4⟩
  | false =>
    rw [hb] at h
    obtain ⟨a, ha, h5⟩ := List.any_eq_true.mp h
    obtain ⟨ρ', hc', mc', m, k1, ⟨k2, k3⟩, ⟨k4, k5⟩, ⟨k6, k7⟩, k8, k9, k10⟩ := arr2_ok hJ ho h5 h1 h2 h3 h4 hM
    have q := hI a ha ρ' σ hc' mc' hv mv m k1 k2 k3 k4 k5 k8 k9 k10
    exact ql_sub (Q := fun cs rv σ => PP E Y D cs rv mc mv σ K2) PP.qlH k6 n1 (ql_sub (Q := fun cs rv σ => PP E Y D hc' hv cs rv σ K2) PP.qlM k7 n2 q)
theorem Ra_none {ρ : List Int} {v : Option Value} (h : Ra ρ none v) : v = none := by
  cases v with
  | none => rfl
  | some _ => exact h.elim
/-- a continuation is called with frames and no answer, or with an answer and no frames -/
noncomputable def kok (kt : Kont) : Kont := fun s mm fs a => (isNil fs || isNil a.toList) && kt s mm fs a
theorem chk2_ok (hG : GxOk Y G) (hJ : POk G.g G.P J) (hX : HOb G J) (hT : ScT E Y J (D, (C.hint, (C.ch, C.sh))) ∧ ScT E Y J (dN D, (C.hint, (C.cm, C.sm)))) (hF : F2 J G C K2) {n : Nat} {a : A2} (h : chk2 G C D n a = true) (hs : sdOk a = true) {ρ : List Int} {σ : zS} {hc mc : List CF} {hv mv : Option Value} {m : Int} (hk : Ko J a.kn ρ σ) (h1 : Rg ρ a.hf hc) (h2 : Ra ρ a.hr hv) (h3 : Rg ρ a.mf mc) (h4 : Ra ρ a.mr mv) (hm : tvo ρ a.mu.1 = some m) (hI : I2 E Y J D C K2 (m + a.mu.2)) : PP E Y D hc hv mc mv σ K2 := by
  unfold sdOk at hs
  rw [Bool.and_eq_true, Bool.or_eq_true, Bool.or_eq_true] at hs
  have n1 : hc ≠ [] → hv = none := fun q => by
    rcases hs.1 with e | e
    · rw [isNil_e e] at h1; exact absurd h1.nil q
    · cases hr : a.hr with
      | none => rw [hr] at h2; exact Ra_none h2
      | some _ => rw [hr] at e; cases e
  have n2 : mc ≠ [] → mv = none := fun q => by
    rcases hs.2 with e | e
    · rw [isNil_e e] at h3; exact absurd h3.nil q
    · cases hr : a.mr with
      | none => rw [hr] at h4; exact Ra_none h4
      | some _ => rw [hr] at e; cases e
  unfold chk2 at h
  have nn : ∀ {D' : Nat → Bool} {Q : Qt}, QLp E Y D' Q → True := fun _ => trivial
  cases hrh : a.rh with
  | true =>
    rw [hrh] at h
    simp only [cond_true, Bool.and_eq_true] at h
    have hmn : mc ≠ [] → mv = none := n2
    -- H first
    have hh : PP E Y D hc none mc mv σ K2 := by
      refine walkP_ok (E := E) (V := (D, (C.hint, (C.ch, C.sh)))) (Q := fun cs rv σ => (cs ≠ [] → rv = none) → PP E Y D cs rv mc mv σ K2) (ρ1 := ρ) hG hJ hX ?_ hT.1 ?_ n a.kn.sy [] a.hf ρ σ hc h.2 Pre.rf hk.1 (fun e he => by cases he) h1 (fun _ => rfl)
      · refine ⟨fun c cs f fs σ σ' q1 q2 q3 _ => PP.qlH.1 c cs f fs σ σ' q1 q2 (q3 (fun _ => rfl)), fun c cs r σ q1 q3 _ => PP.qlH.2 c cs r σ q1 (q3 (fun q => absurd rfl q))⟩
      · intro s mm hf hr ρ' σ' cs rv g1 g2 g3 g4 g5 g6 g7
        unfold ktH at g1
        cases hrm : (a.rm || (isNil hf && !(isNil a.mf))) with
        | false =>
          rw [hrm] at g1
          exact met2_ok hJ hF hI g1 g3 g5 g6 (h3.mono g2) (h4.mono g2) (tvo.mono g2 hm) g7 n2
        | true =>
          rw [hrm] at g1
          simp only [cond_true] at g1
          have hmm : PP E Y D cs rv mc none σ' K2 := by
            refine walkP_ok (E := E) (V := (dN D, (C.hint, (C.cm, C.sm)))) (Q := fun cs' rv' σ => (cs' ≠ [] → rv' = none) → PP E Y D cs rv cs' rv' σ K2) (ρ1 := ρ') hG hJ hX ?_ hT.2 ?_ n s mm a.mf ρ' σ' mc g1 Pre.rf g3 g4 (h3.mono g2) (fun _ => rfl)
            · refine ⟨fun c cs f fs σ σ' q1 q2 q3 _ => PP.qlM.1 c cs f fs σ σ' q1 q2 (q3 (fun _ => rfl)), fun c cs r σ q1 q3 _ => PP.qlM.2 c cs r σ q1 (q3 (fun q => absurd rfl q))⟩
            · intro s2 mm2 mf2 mr2 ρ2 σ2 cs2 rv2 w1 w2 w3 w4 w5 w6 w7
              exact met2_ok hJ hF hI w1 w3 (g5.mono w2) (g6.mono w2) w5 w6 (tvo.mono (g2.tr w2) hm) g7 w7
          have hmv : mv = none := by
            rcases Bool.or_eq_true _ _ ▸ h.1 with e | e
            · cases hr : a.mr with
              | none => rw [hr] at h4; exact Ra_none h4
              | some _ => rw [hr] at e; cases e
            · cases n with
              | zero => cases g1
              | succ n =>
                rw [isNil_e e] at g1
                cases g1
          rw [hmv]
          exact hmm
    have hhv : hv = none := by
      refine n1 (fun e => ?_)
      rw [e] at h1
      cases hf : a.hf with
      | nil =>
        have := h.2
        rw [hf] at this
        cases n with
        | zero => cases this
        | succ n => cases this
      | cons _ _ => rw [hf] at h1; exact h1.elim
    rw [hhv]
    exact hh
  | false =>
    rw [hrh] at h
    simp only [cond_false] at h
    have hmm : PP E Y D hc hv mc none σ K2 := by
      refine walkP_ok (E := E) (V := (dN D, (C.hint, (C.cm, C.sm)))) (Q := fun cs' rv' σ => (cs' ≠ [] → rv' = none) → PP E Y D hc hv cs' rv' σ K2) (ρ1 := ρ) hG hJ hX ?_ hT.2 ?_ n a.kn.sy [] a.mf ρ σ mc h Pre.rf hk.1 (fun e he => by cases he) h3 (fun _ => rfl)
      · refine ⟨fun c cs f fs σ σ' q1 q2 q3 _ => PP.qlM.1 c cs f fs σ σ' q1 q2 (q3 (fun _ => rfl)), fun c cs r σ q1 q3 _ => PP.qlM.2 c cs r σ q1 (q3 (fun q => absurd rfl q))⟩
      · intro s2 mm2 mf2 mr2 ρ2 σ2 cs2 rv2 w1 w2 w3 w4 w5 w6 w7
        exact met2_ok hJ hF hI w1 w3 (h1.mono w2) (h2.mono w2) w5 w6 (tvo.mono w2 hm) n1 w7
    have hmv : mv = none := by
      refine n2 (fun e => ?_)
      rw [e] at h3
      cases hf : a.mf with
      | nil =>
        rw [hf] at h
        cases n with
        | zero => cases h
        | succ n => cases h
      | cons _ _ => rw [hf] at h3; exact h3.elim
    rw [hmv]
    exact hmm
theorem all2_ok (hG : GxOk Y G) (hJ : POk G.g G.P J) (hX : HOb G J) (hT : ScT E Y J (D, (C.hint, (C.ch, C.sh))) ∧ ScT E Y J (dN D, (C.hint, (C.cm, C.sm)))) (hF : F2 J G C K2) {n : Nat} (h : ∀ a ∈ C.an, chk2 G C D n a = true ∧ sdOk a = true) : ∀ N : Nat, I2 E Y J D C K2 (N : Int)
  | 0 => fun a _ ρ σ hc mc hv mv m _ _ _ _ _ _ q1 q2 => by omega
  | N + 1 => fun a ha ρ σ hc mc hv mv m k1 k2 k3 k4 k5 k6 k7 k8 => by
    refine chk2_ok hG hJ hX hT hF (h a ha).1 (h a ha).2 k1 k2 k3 k4 k5 k6 (fun b hb ρ' σ' hc' mc' hv' mv' m' g1 g2 g3 g4 g5 g6 g7 g8 => ?_)
    exact all2_ok hG hJ hX hT hF h N b hb ρ' σ' hc' mc' hv' mv' m' g1 g2 g3 g4 g5 g6 g7 (by omega)
/-- both methods from their beginnings -/
theorem root2_ok (hG : GxOk Y G) (hJ : POk G.g G.P J) (hX : HOb G J) (hT : ScT E Y J (D, (C.hint, (C.ch, C.sh))) ∧ ScT E Y J (dN D, (C.hint, (C.cm, C.sm)))) (hF : F2 J G C K2) {n : Nat} (h : ∀ a ∈ C.an, chk2 G C D n a = true ∧ sdOk a = true) {zH zM : Nat} {arH arM : List AV} {kn : Kn} {big : Nat} {fl : Bool × Bool} (hr : chk2 G C D n (([⟨zH, 0, argLv 0 arH, []⟩], none), (([⟨zM, 0, argLv 0 arM, []⟩], none), (kn, (([], (big : Int)), fl)))) = true) (eH : entOk G zH arH = true) (eM : entOk G zM arM = true) {ρ : List Int} {σ : zS} {avH avM : List Value} (hk : Ko J kn ρ σ) (h1 : Rs ρ arH avH) (h2 : Rs ρ arM avM) : ∃ rH σ1 rM σ2, K2 rH rM σ2 ∧ (∀ K : zKt, K rH σ1 → Cz E (Y zH) avH σ K) ∧ ∀ K : zKt, K rM σ2 → Cz E (Y zM) avM σ1 K := by
  have hI := all2_ok (E := E) (Y := Y) hG hJ hX hT hF h big
  have hp := chk2_ok (E := E) (Y := Y) (m := 0) (hc := [(zH, (0, (lv_args 0 avH, [])))]) (mc := [(zM, (0, (lv_args 0 avM, [])))]) (hv := none) (mv := none) hG hJ hX hT hF hr rfl hk ⟨⟨⟨rfl, rfl⟩, argLv_ok h1, trivial⟩, trivial⟩ trivial ⟨⟨⟨rfl, rfl⟩, argLv_ok h2, trivial⟩, trivial⟩ trivial rfl (fun b hb ρ' σ' hc' mc' hv' mv' m' g1 g2 g3 g4 g5 g6 g7 g8 => hI b hb ρ' σ' hc' mc' hv' mv' m' g1 g2 g3 g4 g5 g6 g7 (by dsimp only at g8; omega))
  obtain ⟨rH, σ1, rM, σ2, ⟨a1, a2⟩, ⟨b1, b2⟩, k⟩ := hp
  obtain ⟨e1, e2⟩ := entOk_ok hG eH
  obtain ⟨e3, e4⟩ := entOk_ok hG eM
  refine ⟨rH, σ1, rM, σ2, k, fun K q => ?_, fun K q => ?_⟩
  · refine z_entry e1 (fun a => by rw [sl_len, cats_ok h1]; exact e2) rfl ?_
    have := a2 σ K (by rw [mix_self a1]; exact q)
    rw [mix_self agD.rf] at this
    exact this
  · refine z_entry e3 (fun a => by rw [sl_len, cats_ok h2]; exact e4) rfl ?_
    have := b2 σ1 K (by rw [mix_self b1]; exact q)
    rw [mix_self agD.rf] at this
    exact this
end P10
end
end
section
noncomputable section
/-! ===== PRODUCTS, 4: contracts of helpers, for one side, whatever the other side's cells hold ===== -/
noncomputable def Jw (J : Jt) (w : List Nat) (σ0 : zS) : Jt := fun H σ => J H σ ∧ ∀ k, memb w k = false → σ.1 k = σ0.1 k ∧ σ.2 k = σ0.2 k
noncomputable def Pw (P : Pl) (w : List Nat) : Pl := (P.dm, (P.dl, (fun s k p v => bif memb w k then P.wi s k p v else none, (fun s k p v => bif memb w k then P.wl s k p v else none, (fun k => memb w k && P.fr k, fun k0 k1 => memb w k1 && P.cp k0 k1)))))
noncomputable def Gw (G : Gx) (w : List Nat) : Gx := (G.g, (Pw G.P w, G.2.2))
section P11
variable {E : xV} {Y : Nat → xY} {G : Gx} {J : Jt} {D : Nat → Bool} {w : List Nat} {σ0 : zS}
theorem Ok.unw {s : Sy} {ρ : List Int} {σ : zS} (h : Ok (Jw J w σ0) s ρ σ) : Ok J s ρ σ := h.any (fun _ q => q.1)
theorem Ok.frw {s : Sy} {ρ : List Int} {σ : zS} (h : Ok (Jw J w σ0) s ρ σ) : ∀ k, memb w k = false → σ.1 k = σ0.1 k ∧ σ.2 k = σ0.2 k := by
  obtain ⟨H, _, q⟩ := h.inv
  exact q.2
theorem Ok.addw {s : Sy} {ρ : List Int} {σ : zS} (h : Ok J s ρ σ) (hf : ∀ k, memb w k = false → σ.1 k = σ0.1 k ∧ σ.2 k = σ0.2 k) : Ok (Jw J w σ0) s ρ σ := h.any (fun _ q => ⟨q, hf⟩)
theorem POk_w {G : Gl} {P : Pl} (h : POk G P J) : POk G (Pw P w) (Jw J w σ0) := by
  have ne : ∀ {k q : Nat}, memb w k = true → memb w q = false → q ≠ k := fun h1 h2 e => by rw [e, h1] at h2; cases h2
  refine ⟨fun s ρ σ k p j ho hp hi => h.rd s ρ σ k p j ho.unw hp hi, fun s ρ σ k p j ho hp hi => h.rl s ρ σ k p j ho.unw hp hi, fun s ρ σ k p v j x s' ho hp hi hv hx hw => ?_, fun s ρ σ k p v j x s' ho hp hi hv hx hw => ?_, fun H σ k f hk hJ => ?_, fun H σ k0 k1 z0 z1 f hk h0 h1 hJ hf => ?_⟩
  · have hw : (bif memb w k then P.wi s k p v else none) = some s' := hw
    cases hb : memb w k with
    | false => rw [hb] at hw; cases hw
    | true =>
      rw [hb] at hw
      exact (h.wi s ρ σ k p v j x s' ho.unw hp hi hv hx hw).addw (fun q hq => ⟨by rw [zI_row (ne hb hq)]; exact (ho.frw q hq).1, (ho.frw q hq).2⟩)
  · have hw : (bif memb w k then P.wl s k p v else none) = some s' := hw
    cases hb : memb w k with
    | false => rw [hb] at hw; cases hw
    | true =>
      rw [hb] at hw
      exact (h.wl s ρ σ k p v j x s' ho.unw hp hi hv hx hw).addw (fun q hq => ⟨(ho.frw q hq).1, by rw [zJ_row (ne hb hq)]; exact (ho.frw q hq).2⟩)
  · have hk : (memb w k && P.fr k) = true := hk
    rw [Bool.and_eq_true] at hk
    exact ⟨h.fr H σ k f hk.2 hJ.1, fun q hq => ⟨(hJ.2 q hq).1, by rw [zJr_row (ne hk.1 hq)]; exact (hJ.2 q hq).2⟩⟩
  · have hk : (memb w k1 && P.cp k0 k1) = true := hk
    rw [Bool.and_eq_true] at hk
    exact ⟨h.cp H σ k0 k1 z0 z1 f hk.2 h0 h1 hJ.1 hf, fun q hq => ⟨by rw [zIr_row (ne hk.1 hq)]; exact (hJ.2 q hq).1, (hJ.2 q hq).2⟩⟩
theorem HOk_w0 (h : ∀ h f s ρ σ, Ok J s ρ σ → ∃ s' ρ', G.hx h f s = some s' ∧ Pre ρ ρ' ∧ Ok J s' ρ' σ) : ∀ h f s ρ σ, Ok (Jw J w σ0) s ρ σ → ∃ s' ρ', (Gw G w).hx h f s = some s' ∧ Pre ρ ρ' ∧ Ok (Jw J w σ0) s' ρ' σ := by
  intro h9 f s ρ σ ho
  obtain ⟨s', ρ', a1, a2, a3⟩ := h h9 f s ρ σ ho.unw
  exact ⟨s', ρ', a1, a2, a3.addw ho.frw⟩
/-
theorem HX_w (h : HOb G J) : HOb (Gw G w) (Jw J w σ0) := HOk_w0 h
-/

theorem HX_w (h : HOb G J) : HOb (Gw G w) (Jw J w σ0) := ⟨HOk_w0 h.1, fun H σ t o b r q => ⟨h.2.1 H σ t o b r q.1, q.2⟩, fun H σ t o b c r q => ⟨h.2.2.1 H σ t o b c r q.1, q.2⟩, fun H σ x y v r q => ⟨h.2.2.2 H σ x y v r q.1, q.2⟩⟩

end P11
/-- one side comes to -/
noncomputable def SS (E : xV) (Y : Nat → xY) (D : Nat → Bool) (cs : List CF) (rv : Option Value) (σ : zS) (K : zKt) : Prop := ∃ r σ', Ex E Y D cs rv σ r σ' ∧ K r σ'
theorem SS.ql {E : xV} {Y : Nat → xY} {D : Nat → Bool} {K : zKt} : QLp E Y D (fun cs rv σ => SS E Y D cs rv σ K) := by
  refine ⟨fun c cs f fs σ σ' h1 h2 h3 => ?_, fun c cs r σ h1 h3 => ?_⟩
  · obtain ⟨r, σ1, ⟨a1, a2⟩, k⟩ := h3
    exact ⟨r, σ1, ⟨h1.tr a1, fun τ K q => h2 τ K (a2 τ K q)⟩, k⟩
  · obtain ⟨r', σ1, ⟨a1, a2⟩, k⟩ := h3
    subst a1
    subst a2
    exact ⟨r', σ1, ⟨agD.rf, h1⟩, k⟩
/-- where a helper's loop stands: frames, what is known, what falls -/
noncomputable abbrev A1 : Type := List Fm × (Kn × (Lf × Int))
noncomputable def arr1 (G : Gx) (ks : List Bool) (s0 : Sy) (fs : List Fm) (mu0 : Lf × Int) (a : A1) : Bool :=
  let s := fillm G a.2.1.me s0
  match mfr s a.1 fs (ids 0 ks) with
  | some t1 => match mta s a.2.1 t1 with
    | some th => falls s th mu0 a.2.2
    | none => false
  | none => false
noncomputable def kt1 (G : Gx) (q : Ct) (an : List A1) (mu0 : Lf × Int) : Kont := fun s _ fs a => bif infe s then true else bif isNil fs then finC G q s a else isNil a.toList && an.any fun e => arr1 G q.kn.ks s fs mu0 e
noncomputable abbrev Hn9 : Type := BT (List (Nat × (Nat × Nat)))
noncomputable def chk1E (G : Gx) (D : Nat → Bool) (n z : Nat) (q : Ct) (w : List Nat) (hn : Hn9) (lb : List Lb) (sc : Sct) (an : List A1) (big : Nat) : Bool := entOk G z q.ar && walkP (Gw G w) (D, (hn, (lb, sc))) (kt1 (Gw G w) q an ([], (big : Int))) n q.kn.sy [] [⟨z, 0, argLv 0 q.ar, []⟩]
noncomputable def chk1A (G : Gx) (D : Nat → Bool) (n : Nat) (q : Ct) (w : List Nat) (hn : Hn9) (lb : List Lb) (sc : Sct) (an : List A1) (a : A1) : Bool := walkP (Gw G w) (D, (hn, (lb, sc))) (kt1 (Gw G w) q an a.2.2) n a.2.1.sy [] a.1
section P12
variable {E : xV} {Y : Nat → xY} {G : Gx} {J : Jt} {D : Nat → Bool} {q : Ct} {w : List Nat} {hn : Hn9} {lb : List Lb} {sc : Sct} {an : List A1} {ρ0 : List Int} {σ0 : zS}
theorem arr1_ok {G : Gx} {J : Jt} (hJ : POk G.g G.P J) {s : Sy} {ρ : List Int} {σ : zS} (h : Ok J s ρ σ) {ks : List Bool} (hp : Pre ρ0 ρ) (hn : ρ0.length = ks.length) (ht : Tp ρ0 0 ks) {fs : List Fm} {mu0 : Lf × Int} {a : A1} {cs : List CF} {M : Int} (ha : arr1 G ks s fs mu0 a = true) (h1 : Rg ρ fs cs) (hM : tvo ρ mu0.1 = some M) : ∃ ρ' ds m, Pre ρ0 ρ' ∧ Ko J a.2.1 ρ' σ ∧ Rg ρ' a.1 ds ∧ Sb cs ds ∧ tvo ρ' a.2.2.1 = some m ∧ 0 ≤ m + a.2.2.2 ∧ m + a.2.2.2 < M + mu0.2 := by
  unfold arr1 at ha
  dsimp only at ha
  obtain ⟨ρf, pf, of⟩ := fillm_ok hJ (l := a.2.1.me) h
  replace h1 := h1.mono pf
  replace hM := tvo.mono pf hM
  have hp2 := hp.tr pf
  split at ha
  · rename_i t1 e1
    obtain ⟨ds, d1, x1, r1, b1⟩ := mfr_ok of e1 (ids_df (ht.mono hp2)) h1
    split at ha
    · rename_i th e2
      obtain ⟨d2, x2, k2, o2⟩ := mta_ok of e2 d1
      obtain ⟨m, m1, m2, m3⟩ := falls_ok of d2 ha hM
      have e0 := ids_pre hp2 hn ht
      refine ⟨vals ρf th, ds, m, ?_, ⟨o2, mtk_tp d2 k2⟩, r1.mono x2.pre, b1, m1, m2, m3⟩
      rw [← e0]
      exact (x1.tr x2).pre
    · cases ha
  · cases ha
noncomputable def I1 (E : xV) (Y : Nat → xY) (J : Jt) (D : Nat → Bool) (an : List A1) (ρ0 : List Int) (K : zKt) (N : Int) : Prop := ∀ a ∈ an, ∀ (ρ : List Int) (σ : zS) (cs : List CF) (m : Int), Pre ρ0 ρ → Ko J a.2.1 ρ σ → Rg ρ a.1 cs → tvo ρ a.2.2.1 = some m → 0 ≤ m + a.2.2.2 → m + a.2.2.2 < N → SS E Y D cs none σ K
theorem kt1_ok (hJ : POk (Gw G w).g (Gw G w).P (Jw J w σ0)) (hl : ρ0.length = q.kn.ks.length) (ht : Tp ρ0 0 q.kn.ks) {mu0 : Lf × Int} {ρ1 : List Int} {M : Int} (hp1 : Pre ρ0 ρ1) (hM : tvo ρ1 mu0.1 = some M) (hI : I1 E Y (Jw J w σ0) D an ρ0 (Ks J q w ρ0 σ0) (M + mu0.2)) : PK (Jw J w σ0) (fun cs rv σ => SS E Y D cs rv σ (Ks J q w ρ0 σ0)) ρ1 (kt1 (Gw G w) q an mu0) := by
  intro s mm fs a ρ σ cs rv h hp ho hm hr ha
  unfold kt1 at h
  cases h8 : infe s with
  | true => exact (infe_ok ho h8).elim
  | false =>
  rw [h8] at h
  simp only [cond_false] at h
  cases hb : isNil fs with
  | true =>
    rw [hb] at h
    rw [isNil_e hb] at hr
    cases hr.nil
    obtain ⟨al, f1, ρ', f2, f3, f4⟩ := finC_ok hJ h (hp1.tr hp) hl ht ho ha
    exact ⟨rv, σ, ⟨rfl, rfl⟩, ho.frw, al, f1, ρ', f2, ⟨f3.1.unw, f3.2⟩, f4⟩
  | false =>
    rw [hb] at h
    simp only [cond_false, Bool.and_eq_true] at h
    have hrv : rv = none := by
      cases a with
      | none => exact Ra_none ha
      | some _ => cases h.1
    subst hrv
    obtain ⟨e, he, h5⟩ := List.any_eq_true.mp h.2
    obtain ⟨ρ', ds, m, k1, k2, k3, k4, k5, k6, k7⟩ := arr1_ok hJ ho (hp1.tr hp) hl ht h5 hr (tvo.mono hp hM)
    exact ql_sub (Q := fun cs rv σ => SS E Y D cs rv σ (Ks J q w ρ0 σ0)) SS.ql k4 (fun _ => rfl) (hI e he ρ' σ ds m k1 k2 k3 k5 k6 k7)
theorem all1_ok (hG : GxOk Y G) (hJ : POk G.g G.P J) (hX : HOb G J) (hT : ScT E Y (Jw J w σ0) (D, (hn, (lb, sc)))) (hl : ρ0.length = q.kn.ks.length) (ht : Tp ρ0 0 q.kn.ks) {n : Nat} (h : ∀ a ∈ an, chk1A G D n q w hn lb sc an a = true) : ∀ N : Nat, I1 E Y (Jw J w σ0) D an ρ0 (Ks J q w ρ0 σ0) (N : Int)
  | 0 => fun a _ ρ σ cs m _ _ _ _ q1 q2 => by omega
  | N + 1 => fun a ha ρ σ cs m k1 k2 k3 k4 k5 k6 => by
    have ih := all1_ok hG hJ hX hT hl ht h N
    refine walkP_ok (E := E) (Y := Y) (G := Gw G w) (V := (D, (hn, (lb, sc)))) (Q := fun cs rv σ => SS E Y D cs rv σ (Ks J q w ρ0 σ0)) (ρ1 := ρ) hG (POk_w hJ) (HX_w hX) SS.ql hT (kt1_ok (POk_w hJ) hl ht k1 k4 (fun b hb ρ' σ' cs' m' g1 g2 g3 g4 g5 g6 => ih b hb ρ' σ' cs' m' g1 g2 g3 g4 g5 (by omega))) n a.2.1.sy [] a.1 ρ σ cs (h a ha) Pre.rf k2.1 (fun e he => by cases he) k3
theorem root1_ok (hG : GxOk Y G) (hJ : POk G.g G.P J) (hX : HOb G J) (hT : ∀ σ0, ScT E Y (Jw J w σ0) (D, (hn, (lb, sc)))) {n z big : Nat} (hE : chk1E G D n z q w hn lb sc an big = true) (hA : ∀ a ∈ an, chk1A G D n q w hn lb sc an a = true) : ScOk E Y D J z q w := by
  intro ρ σ av hko ha
  have hl : ρ.length = q.kn.ks.length := hko.1.len
  unfold chk1E at hE
  rw [Bool.and_eq_true] at hE
  have hI := all1_ok (E := E) (Y := Y) (J := J) (σ0 := σ) (ρ0 := ρ) (q := q) hG hJ hX (hT σ) hl hko.2 hA big
  have hk0 : Ok (Jw J w σ) q.kn.sy ρ σ := hko.1.addw (fun _ _ => ⟨rfl, rfl⟩)
  have hs := walkP_ok (E := E) (Y := Y) (G := Gw G w) (V := (D, (hn, (lb, sc)))) (Q := fun cs rv σ' => SS E Y D cs rv σ' (Ks J q w ρ σ)) (ρ1 := ρ) hG (POk_w hJ) (HX_w hX) SS.ql (hT σ) (kt1_ok (mu0 := ([], (big : Int))) (M := 0) (POk_w hJ) hl hko.2 Pre.rf rfl (fun b hb ρ' σ' cs' m' g1 g2 g3 g4 g5 g6 => hI b hb ρ' σ' cs' m' g1 g2 g3 g4 g5 (by dsimp only at g6; omega))) n q.kn.sy [] [⟨z, 0, argLv 0 q.ar, []⟩] ρ σ [(z, (0, (lv_args 0 av, [])))] hE.2 Pre.rf hk0 (fun e he => by cases he) ⟨⟨⟨rfl, rfl⟩, argLv_ok ha, trivial⟩, trivial⟩
  obtain ⟨r, σ', hx, hk⟩ := hs
  exact ⟨r, σ', hx, hk⟩
/-- a helper of a helper -/
theorem ScOk.nest {z : Nat} {q : Ct} {w w' : List Nat} {σ0 : zS} (h : ScOk E Y D J z q w') (hs : (w'.all (memb w)) = true) : ScOk E Y D (Jw J w σ0) z q w' := by
  intro ρ σ av hko ha
  obtain ⟨r, σ', hx, fr, al, j2, ρ', j3, j4, j5⟩ := h ρ σ av ⟨hko.1.unw, hko.2⟩ ha
  have hf := hko.1.frw
  refine ⟨r, σ', hx, fr, al, j2, ρ', j3, ⟨j4.1.addw (fun k hk => ?_), j4.2⟩, j5⟩
  have hk' : memb w' k = false := by
    cases hb : memb w' k with
    | false => rfl
    | true =>
      obtain ⟨e, he, hq⟩ := List.any_eq_true.mp hb
      have e1 := List.all_eq_true.mp hs e he
      rw [← Nat.eq_of_beq_eq_true hq, hk] at e1
      cases e1
  exact ⟨(fr k hk').1.trans (hf k hk).1, (fr k hk').2.trans (hf k hk).2⟩
/-- no helpers of helpers -/
theorem ScT_nil {J : Jt} : ScT E Y J (D, (hn, (lb, []))) := fun z qs h => by cases h
end P12
end
end
section
noncomputable section
/-! ===== what holds all through: bounds, columns, rows that go together ===== -/
noncomputable def d9_0 : Dom := [(0, 200)]
noncomputable def d9_1 : Dom := [(0, 20)]
noncomputable def d9_2 : Dom := [(0, 1200)]
noncomputable def d9_3 : Dom := [(0, 1000000000)]
noncomputable def d9_4 : Dom := [(0, 7)]
noncomputable def d9_5 : Dom := [(0, 19)]
noncomputable def d9_6 : Dom := [(0, 9600)]
noncomputable def d9_7 : Dom := [(0, 8)]
noncomputable def d9_8 : Dom := [(0, 5)]
noncomputable def d9_9 : Dom := [(0, 3)]
noncomputable def d9_10 : Dom := [(0, 1)]
noncomputable def d9_11 : Dom := [(0, 10)]
noncomputable def d9_12 : Dom := [(0, 40)]
noncomputable def d9_13 : Dom := [(0, 39)]
noncomputable def d9_14 : Dom := [(0, 60)]
noncomputable def d9_15 : Dom := [(0, 6)]
noncomputable def d9_16 : Dom := [(0, 240)]
noncomputable def d9_17 : Dom := [(0, 30)]
noncomputable def d9_18 : Dom := [(0, 255)]
noncomputable def d9_19 : Dom := [(0, 15)]
noncomputable def d9_20 : Dom := [(0, 16)]
noncomputable def d9_21 : Dom := [(0, 12)]
noncomputable def d9_22 : Dom := [(0, 11)]
noncomputable def d9_23 : Dom := [(0, 1301)]
noncomputable def d9_24 : Dom := [(0, 1300)]
noncomputable def v9_0 : AV := .inl (0, 0)
noncomputable def v9_1 : AV := .inl (1, 0)
noncomputable def v9_2 : AV := .inl (2, 0)
noncomputable def v9_3 : AV := .inl (3, 0)
noncomputable def v9_4 : AV := .inl (4, 0)
noncomputable def v9_5 : AV := .inl (5, 0)
noncomputable def v9_6 : AV := .inl (6, 0)
noncomputable def v9_7 : AV := .inl (7, 0)
noncomputable def v9_8 : AV := .inl (8, 0)
noncomputable def v9_9 : AV := .inl (9, 0)
noncomputable def v9_10 : AV := .inl (10, 0)
noncomputable def v9_11 : AV := .inl (11, 0)
noncomputable def v9_12 : AV := .inl (12, 0)
noncomputable def v9_13 : AV := .inl (13, 0)
noncomputable def v9_14 : AV := .inl (14, 0)
noncomputable def v9_15 : AV := .inl (15, 0)
noncomputable def v9_16 : AV := .inl (16, 0)
noncomputable def v9_17 : AV := .inl (17, 0)
noncomputable def v9_18 : AV := .inl (18, 0)
noncomputable def v9_19 : AV := .inl (19, 0)
noncomputable def v9_20 : AV := .inl (20, 0)
noncomputable def v9_21 : AV := .inl (21, 0)
noncomputable def v9_22 : AV := .inl (22, 0)
noncomputable def v9_23 : AV := .inl (23, 0)
noncomputable def v9_24 : AV := .inl (24, 0)
noncomputable def v9_25 : AV := .inl (25, 0)
noncomputable def v9_26 : AV := .inl (26, 0)
noncomputable def v9_27 : AV := .inl (27, 0)
noncomputable def v9_28 : AV := .inl (28, 0)
noncomputable def v9_29 : AV := .inl (29, 0)
noncomputable def v9_30 : AV := .inl (30, 0)
noncomputable def v9_31 : AV := .inl (31, 0)
noncomputable def v9_32 : AV := .inl (32, 0)
noncomputable def v9_33 : AV := .inl (33, 0)
noncomputable def v9_34 : AV := .inl (34, 0)
noncomputable def v9_35 : AV := .inl (35, 0)
noncomputable def v9_36 : AV := .inl (36, 0)
noncomputable def v9_37 : AV := .inl (37, 0)
noncomputable def v9_38 : AV := .inl (38, 0)
noncomputable def v9_39 : AV := .inl (39, 0)
noncomputable def v9_40 : AV := .inl (40, 0)
noncomputable def v9_41 : AV := .inl (41, 0)
noncomputable def v9_42 : AV := .inl (42, 0)
noncomputable def v9_43 : AV := .inl (43, 0)
noncomputable def v9_44 : AV := .inl (44, 0)
noncomputable def v9_45 : AV := .inl (45, 0)
noncomputable def v9_46 : AV := .inl (46, 0)
noncomputable def v9_47 : AV := .inl (47, 0)
noncomputable def v9_48 : AV := .inl (48, 0)
noncomputable def v9_49 : AV := .inl (49, 0)
noncomputable def v9_50 : AV := .inl (50, 0)
noncomputable def v9_51 : AV := .inl (51, 0)
noncomputable def v9_52 : AV := .inl (52, 0)
noncomputable def v9_53 : AV := .inl (53, 0)
noncomputable def v9_54 : AV := .inl (54, 0)
noncomputable def v9_55 : AV := .inl (55, 0)
noncomputable def v9_56 : AV := .inl (56, 0)
noncomputable def v9_57 : AV := .inl (57, 0)
noncomputable def v9_58 : AV := .inl (58, 0)
noncomputable def v9_59 : AV := .inl (59, 0)
noncomputable def v9_60 : AV := .inl (60, 0)
noncomputable def v9_61 : AV := .inl (61, 0)
noncomputable def v9_62 : AV := .inl (62, 0)
noncomputable def v9_63 : AV := .inl (63, 0)
noncomputable def c9_0 : AV := .inr (.inl 0)
noncomputable def c9_1 : AV := .inr (.inl 1)
noncomputable def c9_2 : AV := .inr (.inl 2)
noncomputable def c9_3 : AV := .inr (.inl 3)
noncomputable def c9_4 : AV := .inr (.inl 4)
noncomputable def c9_5 : AV := .inr (.inl 5)
noncomputable def c9_6 : AV := .inr (.inl 6)
noncomputable def c9_7 : AV := .inr (.inl 7)
noncomputable def c9_8 : AV := .inr (.inl 8)
noncomputable def c9_9 : AV := .inr (.inl 9)
noncomputable def c9_10 : AV := .inr (.inl 10)
noncomputable def c9_11 : AV := .inr (.inl 11)
noncomputable def c9_12 : AV := .inr (.inl 12)
noncomputable def c9_13 : AV := .inr (.inl 13)
noncomputable def c9_14 : AV := .inr (.inl 14)
noncomputable def c9_15 : AV := .inr (.inl 15)
noncomputable def c9_16 : AV := .inr (.inl 16)
noncomputable def c9_17 : AV := .inr (.inl 17)
noncomputable def c9_18 : AV := .inr (.inl 18)
noncomputable def c9_19 : AV := .inr (.inl 19)
noncomputable def c9_20 : AV := .inr (.inl 20)
noncomputable def c9_21 : AV := .inr (.inl 21)
noncomputable def c9_22 : AV := .inr (.inl 22)
noncomputable def c9_23 : AV := .inr (.inl 23)
noncomputable def c9_24 : AV := .inr (.inl 24)
noncomputable def c9_25 : AV := .inr (.inl 25)
noncomputable def c9_26 : AV := .inr (.inl 26)
noncomputable def c9_27 : AV := .inr (.inl 27)
noncomputable def c9_28 : AV := .inr (.inl 28)
noncomputable def c9_29 : AV := .inr (.inl 29)
noncomputable def c9_30 : AV := .inr (.inl 30)
noncomputable def c9_31 : AV := .inr (.inl 31)
noncomputable def c9_32 : AV := .inr (.inl 32)
noncomputable def c9_33 : AV := .inr (.inl 33)
noncomputable def c9_34 : AV := .inr (.inl 34)
noncomputable def c9_35 : AV := .inr (.inl 35)
noncomputable def c9_36 : AV := .inr (.inl 36)
noncomputable def c9_37 : AV := .inr (.inl 37)
noncomputable def c9_38 : AV := .inr (.inl 38)
noncomputable def c9_39 : AV := .inr (.inl 39)
noncomputable def T_fi : BT Dom := [(17408, [(1, d9_2), (2, d9_3), (5, d9_12), (7, [(0, 300)]), (5120, d9_1), (5121, d9_20), (5122, [(0, 201)]), (10240, [(1, 40)]), (17408, d9_7)]), (27654, [(17417, d9_2), (17421, [(0, 1201)]), (17422, d9_2), (17423, d9_6), (17424, d9_2), (27651, d9_5), (27652, T32), (27653, d9_13), (27654, T32)]), (34821, [(27655, T32), (27658, [(0, 64)]), (27660, [(0, 64)]), (27661, T32), (27664, d9_10), (27666, d9_10), (27667, d9_1), (34817, d9_1), (34821, [((-4), (-4)), (0, 19)])]), (53258, [(34822, d9_7), (41985, [(0, 4)]), (41996, d9_9), (41997, T32), (41998, T32), (53249, d9_14), (53253, d9_14), (53257, [(0, 576)]), (53258, d9_10)]), (112643, [(60417, d9_14), (60427, d9_14), (71686, d9_1), (100352, d9_15), (100354, d9_21), (100364, d9_1), (112640, d9_3), (112641, d9_2), (112643, [(0, 300)])]), (112670, [(112646, d9_1), (112647, d9_20), (112648, [(0, 201)]), (112660, [(1, 40)]), (112666, d9_10), (112667, d9_2), (112668, d9_8), (112669, d9_2), (112670, T32)]), (112701, [(112672, d9_7), (112686, [(0, 10400)]), (112692, [(0, 23)]), (112696, d9_24), (112697, d9_1), (112698, [((-1), 1200)]), (112699, d9_19), (112700, d9_10), (112701, d9_10)]), (112715, [(112704, d9_24), (112705, d9_9), (112706, [((-4), (-4)), (0, 29)]), (112707, T32), (112708, T32), (112709, d9_10), (112711, d9_12), (112714, d9_10), (112715, d9_1)]), (112752, [(112717, d9_1), (112721, [((-4), (-4)), (0, 19)]), (112722, d9_7), (112725, [(0, 4)]), (112735, T32), (112736, d9_14), (112747, d9_14), (112749, d9_14), (112752, [(0, 600)])]), (112790, [(112757, d9_10), (112758, d9_14), (112774, [(0, 161)]), (112776, d9_15), (112778, d9_21), (112788, d9_1), (112790, d9_10)])]
noncomputable def T_ai : BT Dom := [(18, [(1, d9_18), (2, T32), (3, d9_4), (7, d9_9), (8, d9_1), (11, [((-4), (-4)), (0, 39)]), (12, [((-4), (-4)), (0, 19)]), (13, d9_10), (14, d9_10), (15, T32), (16, T32), (18, d9_9)]), (36, [(19, d9_17), (21, [(0, 25)]), (23, d9_18), (24, d9_8), (25, d9_2), (29, d9_10), (30, [(0, 2)]), (31, T32), (32, T32), (33, T32), (35, [(0, 4)]), (36, d9_19)]), (49, [(37, [(0, 24)]), (38, d9_5), (39, T32), (40, T32), (42, d9_7), (43, d9_19), (44, [((-4), (-4)), (0, 19)]), (45, d9_21), (46, [(0, 2)]), (47, T32), (48, T32), (49, T32)]), (65, [(50, T32), (51, T32), (54, d9_10), (55, [(0, 59)]), (56, d9_19), (57, d9_19), (60, d9_18), (61, d9_8), (62, [(0, 9)]), (63, T32), (64, T32), (65, T32)]), (102, [(66, T32), (67, T32), (68, d9_0), (69, [(0, 59)]), (72, T32), (73, d9_12), (74, d9_19), (96, d9_5), (99, [(0, 65535)]), (100, d9_8), (101, d9_21), (102, [(0, 4)])]), (115, [(103, T32), (104, T32), (105, d9_22), (106, d9_21), (107, [(0, 4)]), (108, T32), (109, T32), (111, d9_18), (112, T32), (113, T32), (114, [(0, 115)]), (115, d9_19)]), (129, [(116, T32), (117, T32), (118, T32), (119, T32), (120, d9_10), (121, d9_9), (122, d9_1), (125, [((-4), (-4)), (0, 39)]), (126, [((-4), (-4)), (0, 19)]), (127, d9_10), (128, d9_10), (129, d9_10)]), (141, [(130, d9_9), (131, d9_17), (132, [((-1), 2)]), (133, [((-1), 3)]), (134, T32), (135, [((-1), 6)]), (136, [((-1), 2)]), (137, T32), (138, T32), (139, [(0, 10400)]), (140, [(0, 10400)]), (141, [(0, 18)])]), (155, [(143, d9_9), (144, d9_10), (145, [(0, 2)]), (146, d9_24), (147, d9_19), (148, [(0, 0), (7, 13), (16, 18)]), (149, T32), (150, T32), (151, d9_8), (153, T32), (154, T32), (155, d9_4)]), (167, [(156, T32), (157, [(0, 4)]), (158, d9_19), (159, [(0, 24)]), (160, d9_5), (161, d9_10), (162, d9_7), (163, d9_19), (164, [((-4), (-4)), (0, 19)]), (165, T32), (166, d9_21), (167, [(0, 2)])]), (179, [(168, T32), (169, T32), (170, [((-4), (-4)), (0, 19)]), (171, d9_5), (172, d9_5), (173, d9_8), (174, d9_13), (175, T32), (176, d9_1), (177, T32), (178, d9_10), (179, d9_10)]), (191, [(180, [(0, 59)]), (181, [(0, 59)]), (182, d9_19), (183, d9_19), (184, d9_22), (185, d9_22), (186, d9_19), (187, d9_18), (188, d9_8), (189, [(0, 9)]), (190, T32), (191, T32)]), (205, [(192, T32), (193, T32), (194, T32), (195, d9_0), (196, [(0, 59)]), (198, T32), (199, d9_12), (200, d9_10), (201, d9_10), (202, T32), (204, [(0, 65535)]), (205, d9_8)]), (214, [(206, d9_21), (207, [(0, 4)]), (208, T32), (209, T32), (210, d9_22), (211, d9_21), (212, [(0, 4)]), (213, T32), (214, T32)])]
noncomputable def T_co : BT (Nat × List Dom) := [(6, [(4, (7, [T32, T32, T32, T32, T32, T32, T32])), (6, (6, [[(0, 115)], d9_19, T32, T32, T32, T32]))]), (53, [(20, (9, [[(0, 2)], d9_9, T32, d9_15, [(0, 2)], d9_13, d9_6, d9_6, T32])), (53, (8, [d9_5, d9_5, d9_8, d9_13, T32, d9_1, T32, d9_10]))]), (58, [(58, (3, [d9_22, d9_22, d9_19]))])]
noncomputable def T_rl : BT (Nat × Nat) := [(26, [(21, (3, 0)), (22, (3, 1)), (24, (11, 0)), (25, (11, 1)), (26, (11, 2))]), (63, [(46, (0, 0)), (47, (0, 1)), (48, (0, 2)), (61, (1, 0)), (63, (1, 1))]), (134, [(64, (1, 2)), (102, (2, 0)), (103, (2, 1)), (133, (9, 0)), (134, (9, 1))]), (157, [(136, (8, 0)), (137, (8, 1)), (141, (10, 0)), (142, (10, 1)), (157, (4, 0))]), (188, [(159, (4, 1)), (167, (5, 0)), (168, (5, 1)), (169, (5, 2)), (188, (6, 0))]), (208, [(190, (6, 1)), (191, (6, 2)), (207, (7, 0)), (208, (7, 1))])]
noncomputable def T_rs : List Rl1 := [(48, ([(46, false), (47, false), (48, false)], [[d9_10, d9_4, d9_4], [[(2, 2)], [(1, 8)], T32]])), (60, ([(61, false), (63, false), (64, false)], [[[(0, 0)], [(0, 9)], [(0, 9)]], [[(1, 1)], T32, T32], [[(2, 2), (5, 5)], d9_1, T32], [[(3, 3)], [(10, 13)], T32], [[(4, 4)], [(0, 9)], d9_4]])), (144, ([(102, false), (103, false)], [[[(0, 1), (3, 3)], d9_22], [[(2, 2)], [(0, 65535)]], [[(4, 4)], T32]])), (9600, ([(21, false), (22, true)], [[[(0, 3), (7, 12), (21, 23)], T64], [[(4, 6), (13, 20)], d9_19], [[(24, 25)], d9_6]])), (20, ([(157, false), (159, false)], [[[(0, 1), (3, 4)], d9_19], [[(2, 2)], [(0, 24)]]])), (48, ([(167, false), (168, false), (169, false)], [[d9_10, d9_4, d9_4], [[(2, 2)], [(1, 8)], T32]])), (60, ([(188, false), (190, false), (191, false)], [[[(0, 0)], [(0, 9)], [(0, 9)]], [[(1, 1)], T32, T32], [[(2, 2), (5, 5)], d9_1, T32], [[(3, 3)], [(10, 13)], T32], [[(4, 4)], [(0, 9)], d9_4]])), (144, ([(207, false), (208, false)], [[[(0, 1), (3, 3)], d9_22], [[(2, 2)], [(0, 65535)]], [[(4, 4)], T32]])), (240, ([(136, false), (137, false)], [[[((-1), 0)], T32], [[(1, 2)], d9_13]])), (240, ([(133, false), (134, false)], [[[((-1), 0), (2, 3)], T32], [[(1, 1)], d9_19]])), (10400, ([(141, false), (142, true)], [[[(0, 3), (7, 13), (16, 18)], T64], [[(4, 6), (14, 15)], d9_19]])), (1201, ([(24, false), (25, false), (26, true)], [[[(1, 1)], [(0, 1199)], [(1, 1200)]], [[(0, 0), (2, 5)], d9_2, T64]]))]
noncomputable def TJ : Jx := (T_fi, (T_ai, (T_co, (T_rl, T_rs))))
theorem TJ_wf : TJ.wf = true := by decide +kernel
end
end
