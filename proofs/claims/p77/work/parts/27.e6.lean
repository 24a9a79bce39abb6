noncomputable section
/-! ===== ENGINE 4: instructions ===== -/
abbrev Ix : Type := Instr
abbrev enc (x : Ix) : Instr := x
/-- code; number of a method's own text; constants; fields; places of objects; rows; rows of rows; bounds of fields, of rows; calls of the library: 1 System.arraycopy -/
abbrev Gl : Type := (Nat → BT (Ix × Nat)) × ((Nat → Nat) × (BT Int × (BT Int × (BT (Nat × (Nat × Nat)) × (BT (Nat × (Nat × Nat)) × (BT (Nat × Nat) × (BT (Nat × Nat) × (BT Dom × (BT Dom × BT Nat)))))))))
abbrev Gl.code (G : Gl) : Nat → BT (Ix × Nat) := G.1
abbrev Gl.own (G : Gl) : Nat → Nat := G.2.1
abbrev Gl.cst (G : Gl) : BT Int := G.2.2.1
abbrev Gl.cstl (G : Gl) : BT Int := G.2.2.2.1
abbrev Gl.fld (G : Gl) : BT (Nat × (Nat × Nat)) := G.2.2.2.2.1
abbrev Gl.kf (G : Gl) : BT (Nat × (Nat × Nat)) := G.2.2.2.2.2.1
abbrev Gl.ka (G : Gl) : BT (Nat × Nat) := G.2.2.2.2.2.2.1
abbrev Gl.kr (G : Gl) : BT (Nat × Nat) := G.2.2.2.2.2.2.2.1
abbrev Gl.fi (G : Gl) : BT Dom := G.2.2.2.2.2.2.2.2.1
abbrev Gl.ai (G : Gl) : BT Dom := G.2.2.2.2.2.2.2.2.2.1
abbrev Gl.lib (G : Gl) : BT Nat := G.2.2.2.2.2.2.2.2.2.2
/-- the key of a place: a field by itself, an array as one -/
def Gl.key (G : Gl) (k j : Nat) : Nat := match G.ka.get k with
  | some _ => k * 1024 + 1023
  | none => k * 1024 + j
def Ix.fits (n : Nat) : Ix → Bool
  | .iconst q => ile (-1) q && ile q 5
  | .bipush q => ile (-128) q && ile q 127
  | .sipush q => ile (-32768) q && ile q 32767
  | .iinc i q => Nat.blt i n && (ile (-32768) q && ile q 32767)
  | .ldc x => Nat.blt x 4096
  | .ldc_w x => Nat.blt x 4096
  | .ldc2_w x => Nat.blt x 4096
  | .getfield x => Nat.blt x 4096
  | .putfield x => Nat.blt x 4096
  | .getstatic x => Nat.blt x 4096
  | .invokevirtual x => Nat.blt x 4096
  | .invokestatic x => Nat.blt x 4096
  | .istore_n i => Nat.blt i.val n
  | .istore i => Nat.blt i n
  | .astore_n i => Nat.blt i.val n
  | .astore i => Nat.blt i n
  | .lstore_n i => Nat.blt (i.val + 1) n
  | .lstore i => Nat.blt (i + 1) n
  | _ => true
def Ix.len : Ix → Nat
  | .iconst _ => 1 | .bipush _ => 2 | .sipush _ => 3 | .ldc _ => 2 | .ldc_w _ => 3 | .lconst _ => 1 | .ldc2_w _ => 3
  | .iload _ => 2 | .lload _ => 2 | .aload _ => 2 | .istore _ => 2 | .lstore _ => 2 | .astore _ => 2 | .iinc .. => 3
  | .ifCond .. => 3 | .if_icmp .. => 3 | .goto _ => 3 | .getfield _ => 3 | .putfield _ => 3 | .getstatic _ => 3 | .invokevirtual _ => 3 | .invokestatic _ => 3
  | .tableswitch .. => 0 | .lookupswitch .. => 0
  | _ => 1
abbrev GOk (Y : Nat → xY) (G : Gl) : Prop := (∀ m, 1 ≤ (Y m).2.2.2.2.frames ∧ 40 ≤ (Y m).2.2.2.2.locals) ∧ (∀ m x, x < 4096 → G.lib.get (G.own m * 4096 + x) = some 1 → (Cond.methodLink (Y m).1.cls x arraycopyName ∈ TBg ∧ Cond.native arraycopyName ∈ TBg) ∧ Cond.static arraycopyName ∈ TBg ∧ Cond.initialized "java/lang/System" ∈ TBg) ∧ (∀ m pc ix len, (G.code m).get pc = some (ix, len) → decode (Y m).2.1 pc = .ok (enc ix, len) ∧ ix.fits (Y m).2.2.1 = true ∧ (ix.len = 0 ∨ ix.len = len)) ∧ (∀ m x n, x < 4096 → G.cst.get (G.own m * 4096 + x) = some n → ∃ v : Int32, v.toInt = n ∧ Cond.constant (Y m).1.cls x v ∈ TBg) ∧ (∀ m x n, x < 4096 → G.cstl.get (G.own m * 4096 + x) = some n → ∃ v : Int64, v.toInt = n ∧ Cond.constantLong (Y m).1.cls x v ∈ TBg) ∧ (∀ m x ci j t, x < 4096 → G.fld.get (G.own m * 4096 + x) = some (ci, (j, t)) → j < 1024 ∧ ∃ ty fin, xFl (Y m).1.cls x ci j ty fin ∧ (t = 0 → ty = .int ∧ fin = false) ∧ (t = 1 → ty = .boolean ∧ fin = false) ∧ (t = 2 → ty = .long ∧ fin = false)) ∧ (∀ k j ci kd t, j < 1024 → G.kf.get (k * 1024 + j) = some (ci, (kd, t)) → k < 215 ∧ ci < 100 ∧ (∃ l, KD k = (ci, l) ∧ l[j]? = some kd) ∧ (kd = 2 → RF k j = t + 1) ∧ G.ka.get k = none) ∧ (∀ k kd z, G.ka.get k = some (kd, z) → k < 215 ∧ KD k = (kd, [z]) ∧ z ≤ 100000) ∧ (∀ k b n, G.kr.get k = some (b, n) → (∃ z, G.ka.get k = some (103, z) ∧ ∀ i, i < z → ∃ q, RF k i = q + 1 ∧ b ≤ q ∧ q < b + n)) ∧ (∀ m x n, x < 4096 → G.lib.get (G.own m * 4096 + x) = some n → 10 ≤ n → ∃ q, STR[n - 10]? = some q ∧ (Y m).1.cls = q.1 ∧ q.2.1 = x) ∧ (∀ m x n, x < 4096 → G.lib.get (G.own m * 4096 + x) = some n → (n = 2 → Cond.fieldLink (Y m).1.cls x "java/lang/String" "COMPACT_STRINGS" "Z" ∈ TBg) ∧ (n = 3 → Cond.fieldLink (Y m).1.cls x "RightsHouse$Judge" "RANK" "[I" ∈ TBg) ∧ (n = 4 → Cond.fieldLink (Y m).1.cls x "java/lang/String" "coder" "B" ∈ TBg) ∧ (n = 5 → Cond.fieldLink (Y m).1.cls x "java/lang/String" "value" "[B" ∈ TBg) ∧ (n = 6 → Cond.methodLink (Y m).1.cls x Lib.Math.max.name ∈ TBg ∧ Cond.static Lib.Math.max.name ∈ TBg ∧ Cond.initialized "java/lang/Math" ∈ TBg ∧ Cond.code Lib.Math.max.name Lib.Math.max.code 2 (some .int) ∈ TBg) ∧ (n = 7 → Cond.methodLink (Y m).1.cls x Lib.Math.min.name ∈ TBg ∧ Cond.static Lib.Math.min.name ∈ TBg ∧ Cond.initialized "java/lang/Math" ∈ TBg ∧ Cond.code Lib.Math.min.name Lib.Math.min.code 2 (some .int) ∈ TBg))
theorem GOk.rm {Y : Nat → xY} {G : Gl} (h : GOk Y G) : ∀ m, 1 ≤ (Y m).2.2.2.2.frames ∧ 40 ≤ (Y m).2.2.2.2.locals := h.1
theorem GOk.copy {Y : Nat → xY} {G : Gl} (h : GOk Y G) : ∀ m x, x < 4096 → G.lib.get (G.own m * 4096 + x) = some 1 → (Cond.methodLink (Y m).1.cls x arraycopyName ∈ TBg ∧ Cond.native arraycopyName ∈ TBg) ∧ Cond.static arraycopyName ∈ TBg ∧ Cond.initialized "java/lang/System" ∈ TBg := h.2.1
theorem GOk.code {Y : Nat → xY} {G : Gl} (h : GOk Y G) : ∀ m pc ix len, (G.code m).get pc = some (ix, len) → decode (Y m).2.1 pc = .ok (enc ix, len) ∧ ix.fits (Y m).2.2.1 = true ∧ (ix.len = 0 ∨ ix.len = len) := h.2.2.1
theorem GOk.cst {Y : Nat → xY} {G : Gl} (h : GOk Y G) : ∀ m x n, x < 4096 → G.cst.get (G.own m * 4096 + x) = some n → ∃ v : Int32, v.toInt = n ∧ Cond.constant (Y m).1.cls x v ∈ TBg := h.2.2.2.1
theorem GOk.cstl {Y : Nat → xY} {G : Gl} (h : GOk Y G) : ∀ m x n, x < 4096 → G.cstl.get (G.own m * 4096 + x) = some n → ∃ v : Int64, v.toInt = n ∧ Cond.constantLong (Y m).1.cls x v ∈ TBg := h.2.2.2.2.1
theorem GOk.fld {Y : Nat → xY} {G : Gl} (h : GOk Y G) : ∀ m x ci j t, x < 4096 → G.fld.get (G.own m * 4096 + x) = some (ci, (j, t)) → j < 1024 ∧ ∃ ty fin, xFl (Y m).1.cls x ci j ty fin ∧ (t = 0 → ty = .int ∧ fin = false) ∧ (t = 1 → ty = .boolean ∧ fin = false) ∧ (t = 2 → ty = .long ∧ fin = false) := h.2.2.2.2.2.1
theorem GOk.kf {Y : Nat → xY} {G : Gl} (h : GOk Y G) : ∀ k j ci kd t, j < 1024 → G.kf.get (k * 1024 + j) = some (ci, (kd, t)) → k < 215 ∧ ci < 100 ∧ (∃ l, KD k = (ci, l) ∧ l[j]? = some kd) ∧ (kd = 2 → RF k j = t + 1) ∧ G.ka.get k = none := h.2.2.2.2.2.2.1
theorem GOk.ka {Y : Nat → xY} {G : Gl} (h : GOk Y G) : ∀ k kd z, G.ka.get k = some (kd, z) → k < 215 ∧ KD k = (kd, [z]) ∧ z ≤ 100000 := h.2.2.2.2.2.2.2.1
theorem GOk.kr {Y : Nat → xY} {G : Gl} (h : GOk Y G) : ∀ k b n, G.kr.get k = some (b, n) → (∃ z, G.ka.get k = some (103, z) ∧ ∀ i, i < z → ∃ q, RF k i = q + 1 ∧ b ≤ q ∧ q < b + n) := h.2.2.2.2.2.2.2.2.1
theorem GOk.str {Y : Nat → xY} {G : Gl} (h : GOk Y G) : ∀ m x n, x < 4096 → G.lib.get (G.own m * 4096 + x) = some n → 10 ≤ n → ∃ q, STR[n - 10]? = some q ∧ (Y m).1.cls = q.1 ∧ q.2.1 = x := h.2.2.2.2.2.2.2.2.2.1
theorem GOk.fz {Y : Nat → xY} {G : Gl} (h : GOk Y G) : ∀ m x n, x < 4096 → G.lib.get (G.own m * 4096 + x) = some n → (n = 2 → Cond.fieldLink (Y m).1.cls x "java/lang/String" "COMPACT_STRINGS" "Z" ∈ TBg) ∧ (n = 3 → Cond.fieldLink (Y m).1.cls x "RightsHouse$Judge" "RANK" "[I" ∈ TBg) ∧ (n = 4 → Cond.fieldLink (Y m).1.cls x "java/lang/String" "coder" "B" ∈ TBg) ∧ (n = 5 → Cond.fieldLink (Y m).1.cls x "java/lang/String" "value" "[B" ∈ TBg) ∧ (n = 6 → Cond.methodLink (Y m).1.cls x Lib.Math.max.name ∈ TBg ∧ Cond.static Lib.Math.max.name ∈ TBg ∧ Cond.initialized "java/lang/Math" ∈ TBg ∧ Cond.code Lib.Math.max.name Lib.Math.max.code 2 (some .int) ∈ TBg) ∧ (n = 7 → Cond.methodLink (Y m).1.cls x Lib.Math.min.name ∈ TBg ∧ Cond.static Lib.Math.min.name ∈ TBg ∧ Cond.initialized "java/lang/Math" ∈ TBg ∧ Cond.code Lib.Math.min.name Lib.Math.min.code 2 (some .int) ∈ TBg) := h.2.2.2.2.2.2.2.2.2.2
/-- what J says, as the walk asks for it: what an int, a long of a place may be; the state behind a write, if J is kept; longs of which J says nothing; rows that may be copied -/
abbrev Pl : Type := (Sy → Nat → AV → Dom) × ((Sy → Nat → AV → Dom) × ((Sy → Nat → AV → AV → Option Sy) × ((Sy → Nat → AV → AV → Option Sy) × ((Nat → Bool) × (Nat → Nat → Bool)))))
abbrev Pl.dm (P : Pl) : Sy → Nat → AV → Dom := P.1
abbrev Pl.dl (P : Pl) : Sy → Nat → AV → Dom := P.2.1
abbrev Pl.wi (P : Pl) : Sy → Nat → AV → AV → Option Sy := P.2.2.1
abbrev Pl.wl (P : Pl) : Sy → Nat → AV → AV → Option Sy := P.2.2.2.1
abbrev Pl.fr (P : Pl) : Nat → Bool := P.2.2.2.2.1
abbrev Pl.cp (P : Pl) : Nat → Nat → Bool := P.2.2.2.2.2
def InB (G : Gl) (k j : Nat) : Prop := (G.ka.get k = none ∧ j < 1024) ∨ ∃ kd z, G.ka.get k = some (kd, z) ∧ j < z
abbrev POk (G : Gl) (P : Pl) (J : Jt) : Prop := (∀ s ρ σ k p j, Ok J s ρ σ → ev ρ p = some ((j : Nat) : Int) → InB G k j → inD (σ.1 k j).toInt (P.dm s k p)) ∧ (∀ s ρ σ k p j, Ok J s ρ σ → ev ρ p = some ((j : Nat) : Int) → InB G k j → inD (σ.2 k j).toInt (P.dl s k p)) ∧ (∀ s ρ σ k p v j x s', Ok J s ρ σ → ev ρ p = some ((j : Nat) : Int) → InB G k j → v.isI = true → ev ρ v = some (Int32.toInt x) → P.wi s k p v = some s' → Ok J s' ρ (zI σ k j x)) ∧ (∀ s ρ σ k p v j x s', Ok J s ρ σ → ev ρ p = some ((j : Nat) : Int) → InB G k j → v.isL = true → ev ρ v = some (Int64.toInt x) → P.wl s k p v = some s' → Ok J s' ρ (zJ σ k j x)) ∧ (∀ H σ k f, P.fr k = true → J H σ → J H (zJr σ k f)) ∧ (∀ H σ k0 k1 z0 z1 f, P.cp k0 k1 = true → G.ka.get k0 = some (100, z0) → G.ka.get k1 = some (100, z1) → J H σ → (∀ j, j < z1 → (∃ i, i < z0 ∧ f j = σ.1 k0 i) ∨ f j = σ.1 k1 j) → J H (zIr σ k1 f))
theorem POk.rd {G : Gl} {P : Pl} {J : Jt} (h : POk G P J) : ∀ s ρ σ k p j, Ok J s ρ σ → ev ρ p = some ((j : Nat) : Int) → InB G k j → inD (σ.1 k j).toInt (P.dm s k p) := h.1
theorem POk.rl {G : Gl} {P : Pl} {J : Jt} (h : POk G P J) : ∀ s ρ σ k p j, Ok J s ρ σ → ev ρ p = some ((j : Nat) : Int) → InB G k j → inD (σ.2 k j).toInt (P.dl s k p) := h.2.1
theorem POk.wi {G : Gl} {P : Pl} {J : Jt} (h : POk G P J) : ∀ s ρ σ k p v j x s', Ok J s ρ σ → ev ρ p = some ((j : Nat) : Int) → InB G k j → v.isI = true → ev ρ v = some (Int32.toInt x) → P.wi s k p v = some s' → Ok J s' ρ (zI σ k j x) := h.2.2.1
theorem POk.wl {G : Gl} {P : Pl} {J : Jt} (h : POk G P J) : ∀ s ρ σ k p v j x s', Ok J s ρ σ → ev ρ p = some ((j : Nat) : Int) → InB G k j → v.isL = true → ev ρ v = some (Int64.toInt x) → P.wl s k p v = some s' → Ok J s' ρ (zJ σ k j x) := h.2.2.2.1
theorem POk.fr {G : Gl} {P : Pl} {J : Jt} (h : POk G P J) : ∀ H σ k f, P.fr k = true → J H σ → J H (zJr σ k f) := h.2.2.2.2.1
theorem POk.cp {G : Gl} {P : Pl} {J : Jt} (h : POk G P J) : ∀ H σ k0 k1 z0 z1 f, P.cp k0 k1 = true → G.ka.get k0 = some (100, z0) → G.ka.get k1 = some (100, z1) → J H σ → (∀ j, j < z1 → (∃ i, i < z0 ∧ f j = σ.1 k0 i) ∨ f j = σ.1 k1 j) → J H (zIr σ k1 f) := h.2.2.2.2.2
abbrev Su := Sy × (Nat × (List (Nat × AV) × List AV))
def Sy.un32 (s : Sy) (a : AV) : Sy × AV := match a with
  | .inr (.inr (.inl (id, o))) => bif fit32 (dom s (.l id o)) || inR s (.l id o) (-2147483648) 2147483647 then (s, .i id o) else s.newI T32
  | .inr (.inr (.inr (.inl n))) => bif fit32 [(n, n)] then (s, .c n) else s.newI T32
  | _ => s.newI T32
def ewid : AV → AV
  | .inl (id, o) => .l id o
  | .inr (.inl n) => .k n
  | a => a
def br (s : Sy) (c : Cm) (a b : AV) (t e : Nat) (lv : List (Nat × AV)) (st : List AV) : List Su :=
  (match s.cut c a b with
    | some s' => [(s', (t, (lv, st)))]
    | none => []) ++ (match s.cut c.neg a b with
    | some s' => [(s', (e, (lv, st)))]
    | none => [])
def tgt (pc : Nat) (off : Int) : Option Nat := match (pc : Int) + off with
  | .ofNat t => some t
  | .negSucc _ => none
/-- beside the cases of a switch: below, above -/
def swd (s : Sy) (a : AV) (lo hi : Int) (t : Nat) (lv : List (Nat × AV)) (st : List AV) : List Su :=
  (match s.cut .lt a (.c lo) with
    | some s' => [(s', (t, (lv, st)))]
    | none => []) ++ (match s.cut .gt a (.c hi) with
    | some s' => [(s', (t, (lv, st)))]
    | none => [])
def tswGo (pc : Nat) (s : Sy) (a : AV) (lv : List (Nat × AV)) (st : List AV) : Int → List Int → Option (List Su)
  | _, [] => some []
  | v, off :: r => match tgt pc off, tswGo pc s a lv st (v + 1) r with
    | some t, some L => match s.cut .eq a (.c v) with
      | some s' => some ((s', (t, (lv, st))) :: L)
      | none => some L
    | _, _ => none
def lswGo (pc : Nat) (a : AV) (lv : List (Nat × AV)) (st : List AV) (d : Nat) : Sy → List (Int × Int) → Option (List Su)
  | s, [] => some [(s, (d, (lv, st)))]
  | s, p :: r => match tgt pc p.2, (match s.cut .ne a (.c p.1) with
      | some s1 => lswGo pc a lv st d s1 r
      | none => some []) with
    | some t, some L => match s.cut .eq a (.c p.1) with
      | some s' => some ((s', (t, (lv, st))) :: L)
      | none => some L
    | _, _ => none
/-- the cells b .. b + n - 1 are rows of z longs -/
def rrz (G : Gl) (z b : Nat) : Nat → Bool
  | 0 => true
  | n + 1 => (match G.ka.get (b + n) with
    | some (kd, y) => Nat.beq kd 101 && Nat.beq y z
    | none => false) && rrz G z b n
def rrw (W : Nat → Bool) (fr : Nat → Bool) (b : Nat) : Nat → Bool
  | 0 => true
  | n + 1 => (W (b + n) && fr (b + n)) && rrw W fr b n
def Sy.kill (s : Sy) (b n : Nat) : Sy := (s.nx, (s.env, (s.me.filter (fun e => !(Nat.ble b e.1) || Nat.ble (b + n) e.1), s.2.2.2)))
def nz (d : Dom) : Bool := match dand d [(0, 0)] with
  | [] => true
  | _ => false
/-- longs: by 0, with 0, the rest of a number below its divisor -/
def lspec (o : Bo) (a b : AV) (d : Dom) : Option AV := match o with
  | .lrem => match b with
    | .inr (.inr (.inr (.inl n))) => bif dsub d [(0, n - 1)] then some a else none
    | _ => none
  | .lmul => bif AV.eq a (.k 0) || AV.eq b (.k 0) then some (.k 0) else none
  | _ => none
def isDiv : Bo → Bool
  | .idiv => true
  | .irem => true
  | _ => false
def catl : List AV → Nat
  | [] => 0
  | a :: r => a.cat + catl r
def Sy.forget (s : Sy) (k : Nat) : Sy := (s.nx, (s.env, (s.me.filter (fun e => !(Nat.beq e.1 k)), s.2.2.2)))
def copyOk (s : Sy) (p n : AV) (z : Nat) : Bool := (p.isI && n.isI) && (geA s p 0 && (geA s n 0 && (ile (dhi (dom s p) + dhi (dom s n)) (z : Int) || leq s (tlin 1 (nf s n).1 (nf s p).1) ((z : Int) - (nf s p).2 - (nf s n).2))))
/-- a place in a row of z -/
def Sy.clip (s : Sy) (i : AV) (z : Nat) : Sy := s.set i (dup ((z : Int) - 1) (dfr 0 (dom s i)))
def fit64 (d : Dom) : Bool := ile (-9223372036854775808) (dlo d) && ile (dhi d) 9223372036854775807
/-- a and w times b: a long -/
def Sy.sumL (s : Sy) (a b : AV) (w : Int) (d : Dom) : Sy × AV :=
  bif fit64 d then s.lin true (tlin w (nf s b).1 (nf s a).1) ((nf s a).2 + w * (nf s b).2) d
  else bif inS s (tlin w (nf s b).1 (nf s a).1) ((nf s a).2 + w * (nf s b).2) (-9223372036854775808) 9223372036854775807 then s.lin true (tlin w (nf s b).1 (nf s a).1) ((nf s a).2 + w * (nf s b).2) T64
  else s.newL T64
def blOk (o : Bo) (s : Sy) (b : AV) : Bool := match o with
  | .ldiv => nz (dom s b)
  | .lrem => nz (dom s b)
  | _ => true
def stBi (o : Bo) (s : Sy) (nx : Nat) (lv : List (Nat × AV)) (st : List AV) : Option (List Su) := match st with
    | b :: a :: st => bif (a.isI && b.isI) && (!(isDiv o) || nz (dom s b)) then (match s.bi o a b with
      | (s', v) => some [(s', (nx, (lv, v :: st)))]) else none
    | _ => none
/-- how large a long may be: with a mask -/
def lbd (o : Bo) (a b : AV) : Dom := match o with
  | .land => match b with
    | .inr (.inr (.inr (.inl n))) => bif ile 0 n then [(0, n)] else T64
    | _ => match a with
      | .inr (.inr (.inr (.inl n))) => bif ile 0 n then [(0, n)] else T64
      | _ => T64
  | _ => T64
/-- longs of which more is known -/
def lx (o : Bo) (s : Sy) (a b : AV) : Option (Sy × AV) := match o with
  | .land => lxAnd s a b
  | .lor => lxOr s a b
  | .ldiv => lxDiv s a b
  | .lrem => lxRem s a b
  | .lmul => lxMul s a b
  | .lshl => lxShl s a b
  | .lushr => lxUshr s a b
  | _ => none
def stBl (o : Bo) (s : Sy) (nx : Nat) (lv : List (Nat × AV)) (st : List AV) : Option (List Su) := match st with
    | b :: a :: st => bif (a.isL && b.isL) && (lx o s a b).isSome then (match lx o s a b with
      | some r => some [(r.1, (nx, (lv, r.2 :: st)))]
      | none => none) else bif (a.isL && b.isL) && (lspec o a b (dom s a)).isSome then some [(s, (nx, (lv, (lspec o a b (dom s a)).getD a :: st)))] else bif (a.isL && b.isL) && blOk o s b then (match s.newL (lbd o a b) with
      | (s', v) => some [(s', (nx, (lv, v :: st)))]) else none
    | _ => none
def isShr : Bo → Bool
  | .lshr => true
  | _ => false
/-- half of a long -/
def shf (o : Bo) (b : AV) : Bool := match o with
  | .lshr => AV.eq b (.c 1)
  | .lushr => AV.eq b (.c 1)
  | _ => false
def shd (o : Bo) (d : Dom) (b : AV) : Dom := match o with
  | .lshr => bif AV.eq b (.c 1) && ile 1 (dlo d) then [(0, dhi d)] else T64
  | .lushr => bif AV.eq b (.c 1) then (bif ile 1 (dlo d) then [(0, dhi d)] else [(0, 9223372036854775807)]) else T64
  | _ => T64
/-- v is below a -/
def Sy.less (s : Sy) (v a : AV) : Sy := s.factd (tlin (-1) (nf s a).1 (nf s v).1) ((nf s a).2 - (nf s v).2 - 1)
def stSl (o : Bo) (s : Sy) (nx : Nat) (lv : List (Nat × AV)) (st : List AV) : Option (List Su) := match st with
    | b :: a :: st => bif (a.isL && b.isI) && (lx o s a b).isSome then (match lx o s a b with
      | some r => some [(r.1, (nx, (lv, r.2 :: st)))]
      | none => none) else bif a.isL && (isShr o && AV.eq b (.c 0)) then some [(s, (nx, (lv, a :: st)))] else bif (a.isL && b.isI) then (match s.newL (shd o (dom s a) b) with
      | (s', v) => some [((bif shf o b && ile 1 (dlo (dom s a)) then s'.less v a else s'), (nx, (lv, v :: st)))]) else none
    | _ => none
def s1_ldc (G : Gl) (P : Pl) (Ws : Sy → Nat → AV → Bool) (Wa : Nat → Bool) (m pc nx : Nat) (s : Sy) (lv : List (Nat × AV)) (st : List AV) (x : Nat) : Option (List Su) := match G.cst.get (G.own m * 4096 + x) with
  | some n => some [(s, (nx, (lv, .c n :: st)))]
  | none => match G.lib.get (G.own m * 4096 + x) with
    | some n => bif Nat.ble 10 n then some [(s, (nx, (lv, .r (1000 + (n - 10)) :: st)))] else none
    | none => none
def s1_ldc_w (G : Gl) (P : Pl) (Ws : Sy → Nat → AV → Bool) (Wa : Nat → Bool) (m pc nx : Nat) (s : Sy) (lv : List (Nat × AV)) (st : List AV) (x : Nat) : Option (List Su) := match G.cst.get (G.own m * 4096 + x) with
  | some n => some [(s, (nx, (lv, .c n :: st)))]
  | none => match G.lib.get (G.own m * 4096 + x) with
    | some n => bif Nat.ble 10 n then some [(s, (nx, (lv, .r (1000 + (n - 10)) :: st)))] else none
    | none => none
def s1_ldc2_w (G : Gl) (P : Pl) (Ws : Sy → Nat → AV → Bool) (Wa : Nat → Bool) (m pc nx : Nat) (s : Sy) (lv : List (Nat × AV)) (st : List AV) (x : Nat) : Option (List Su) := match G.cstl.get (G.own m * 4096 + x) with
  | some n => some [(s, (nx, (lv, .k n :: st)))]
  | none => none
def s1_iload_n (G : Gl) (P : Pl) (Ws : Sy → Nat → AV → Bool) (Wa : Nat → Bool) (m pc nx : Nat) (s : Sy) (lv : List (Nat × AV)) (st : List AV) (i : Fin 4) : Option (List Su) := match lget lv i.val with
  | some a => bif a.isI then some [(s, (nx, (lv, pl s a :: st)))] else none
  | none => none
def s1_iload (G : Gl) (P : Pl) (Ws : Sy → Nat → AV → Bool) (Wa : Nat → Bool) (m pc nx : Nat) (s : Sy) (lv : List (Nat × AV)) (st : List AV) (i : Nat) : Option (List Su) := match lget lv i with
  | some a => bif a.isI then some [(s, (nx, (lv, pl s a :: st)))] else none
  | none => none
def s1_lload_n (G : Gl) (P : Pl) (Ws : Sy → Nat → AV → Bool) (Wa : Nat → Bool) (m pc nx : Nat) (s : Sy) (lv : List (Nat × AV)) (st : List AV) (i : Fin 4) : Option (List Su) := match lget lv i.val with
  | some a => bif a.isL then some [(s, (nx, (lv, a :: st)))] else none
  | none => none
def s1_lload (G : Gl) (P : Pl) (Ws : Sy → Nat → AV → Bool) (Wa : Nat → Bool) (m pc nx : Nat) (s : Sy) (lv : List (Nat × AV)) (st : List AV) (i : Nat) : Option (List Su) := match lget lv i with
  | some a => bif a.isL then some [(s, (nx, (lv, a :: st)))] else none
  | none => none
def s1_aload_n (G : Gl) (P : Pl) (Ws : Sy → Nat → AV → Bool) (Wa : Nat → Bool) (m pc nx : Nat) (s : Sy) (lv : List (Nat × AV)) (st : List AV) (i : Fin 4) : Option (List Su) := match lget lv i.val with
  | some (.inr (.inr (.inr (.inr (.inl q))))) => some [(s, (nx, (lv, .r q :: st)))]
  | some (.inr (.inr (.inr (.inr (.inr (b, n)))))) => some [(s, (nx, (lv, .rr b n :: st)))]
  | _ => none
def s1_aload (G : Gl) (P : Pl) (Ws : Sy → Nat → AV → Bool) (Wa : Nat → Bool) (m pc nx : Nat) (s : Sy) (lv : List (Nat × AV)) (st : List AV) (i : Nat) : Option (List Su) := match lget lv i with
  | some (.inr (.inr (.inr (.inr (.inl q))))) => some [(s, (nx, (lv, .r q :: st)))]
  | some (.inr (.inr (.inr (.inr (.inr (b, n)))))) => some [(s, (nx, (lv, .rr b n :: st)))]
  | _ => none
def s1_istore_n (G : Gl) (P : Pl) (Ws : Sy → Nat → AV → Bool) (Wa : Nat → Bool) (m pc nx : Nat) (s : Sy) (lv : List (Nat × AV)) (st : List AV) (i : Fin 4) : Option (List Su) := match st with
  | a :: st => bif a.isI then some [(s, (nx, ((i.val, a) :: lput false i.val lv, st)))] else none
  | _ => none
def s1_istore (G : Gl) (P : Pl) (Ws : Sy → Nat → AV → Bool) (Wa : Nat → Bool) (m pc nx : Nat) (s : Sy) (lv : List (Nat × AV)) (st : List AV) (i : Nat) : Option (List Su) := match st with
  | a :: st => bif a.isI then some [(s, (nx, ((i, a) :: lput false i lv, st)))] else none
  | _ => none
def s1_lstore_n (G : Gl) (P : Pl) (Ws : Sy → Nat → AV → Bool) (Wa : Nat → Bool) (m pc nx : Nat) (s : Sy) (lv : List (Nat × AV)) (st : List AV) (i : Fin 4) : Option (List Su) := match st with
  | a :: st => bif a.isL then some [(s, (nx, ((i.val, a) :: lput true i.val lv, st)))] else none
  | _ => none
def s1_lstore (G : Gl) (P : Pl) (Ws : Sy → Nat → AV → Bool) (Wa : Nat → Bool) (m pc nx : Nat) (s : Sy) (lv : List (Nat × AV)) (st : List AV) (i : Nat) : Option (List Su) := match st with
  | a :: st => bif a.isL then some [(s, (nx, ((i, a) :: lput true i lv, st)))] else none
  | _ => none
def s1_astore_n (G : Gl) (P : Pl) (Ws : Sy → Nat → AV → Bool) (Wa : Nat → Bool) (m pc nx : Nat) (s : Sy) (lv : List (Nat × AV)) (st : List AV) (i : Fin 4) : Option (List Su) := match st with
  | .inr (.inr (.inr (.inr (.inl q)))) :: st => some [(s, (nx, ((i.val, .r q) :: lput false i.val lv, st)))]
  | .inr (.inr (.inr (.inr (.inr (b, n))))) :: st => some [(s, (nx, ((i.val, .rr b n) :: lput false i.val lv, st)))]
  | _ => none
def s1_iinc (G : Gl) (P : Pl) (Ws : Sy → Nat → AV → Bool) (Wa : Nat → Bool) (m pc nx : Nat) (s : Sy) (lv : List (Nat × AV)) (st : List AV) (i : Nat) (z : Int) : Option (List Su) := match lget lv i with
  | some a => bif a.isI then (match s.addc a z with
    | (s', b) => some [(s', (nx, ((i, b) :: lput false i lv, st)))]) else none
  | none => none
def s1_ladd (G : Gl) (P : Pl) (Ws : Sy → Nat → AV → Bool) (Wa : Nat → Bool) (m pc nx : Nat) (s : Sy) (lv : List (Nat × AV)) (st : List AV) : Option (List Su) := match st with
  | b :: a :: st => bif a.isL && b.isL then (match s.sumL a b 1 (dmm f_dadd (dom s a) (dom s b)) with
    | (s', v) => some [(s', (nx, (lv, v :: st)))]) else none
  | _ => none
def s1_lsub (G : Gl) (P : Pl) (Ws : Sy → Nat → AV → Bool) (Wa : Nat → Bool) (m pc nx : Nat) (s : Sy) (lv : List (Nat × AV)) (st : List AV) : Option (List Su) := match st with
  | b :: a :: st => bif a.isL && b.isL then (match s.sumL a b (-1) (dmm f_dsub (dom s a) (dom s b)) with
    | (s', v) => some [(s', (nx, (lv, v :: st)))]) else none
  | _ => none
def s1_ineg (G : Gl) (P : Pl) (Ws : Sy → Nat → AV → Bool) (Wa : Nat → Bool) (m pc nx : Nat) (s : Sy) (lv : List (Nat × AV)) (st : List AV) : Option (List Su) := match st with
  | a :: st => bif a.isI then (bif ile (-2147483647) (dlo (dom s a)) then (match s.lin false (tlin (-1) (nf s a).1 []) (-(nf s a).2) [(-(dhi (dom s a)), -(dlo (dom s a)))] with
    | (s', v) => some [(s', (nx, (lv, v :: st)))]) else match s.newI T32 with
    | (s', v) => some [(s', (nx, (lv, v :: st)))]) else none
  | _ => none
def s1_lneg (G : Gl) (P : Pl) (Ws : Sy → Nat → AV → Bool) (Wa : Nat → Bool) (m pc nx : Nat) (s : Sy) (lv : List (Nat × AV)) (st : List AV) : Option (List Su) := match st with
  | a :: st => bif a.isL then (match s.newL T64 with
    | (s', v) => some [(s', (nx, (lv, v :: st)))]) else none
  | _ => none
def s1_i2l (G : Gl) (P : Pl) (Ws : Sy → Nat → AV → Bool) (Wa : Nat → Bool) (m pc nx : Nat) (s : Sy) (lv : List (Nat × AV)) (st : List AV) : Option (List Su) := match st with
  | a :: st => bif a.isI then some [(s, (nx, (lv, ewid a :: st)))] else none
  | _ => none
def s1_l2i (G : Gl) (P : Pl) (Ws : Sy → Nat → AV → Bool) (Wa : Nat → Bool) (m pc nx : Nat) (s : Sy) (lv : List (Nat × AV)) (st : List AV) : Option (List Su) := match st with
  | a :: st => bif a.isL then (match s.un32 a with
    | (s', v) => some [(s', (nx, (lv, v :: st)))]) else none
  | _ => none
def s1_i2b (G : Gl) (P : Pl) (Ws : Sy → Nat → AV → Bool) (Wa : Nat → Bool) (m pc nx : Nat) (s : Sy) (lv : List (Nat × AV)) (st : List AV) : Option (List Su) := match st with
  | a :: st => bif a.isI && dsub (dom s a) [(-128, 127)] then some [(s, (nx, (lv, a :: st)))] else bif a.isI then (match s.newI T32 with
    | (s', v) => some [(s', (nx, (lv, v :: st)))]) else none
  | _ => none
def s1_i2c (G : Gl) (P : Pl) (Ws : Sy → Nat → AV → Bool) (Wa : Nat → Bool) (m pc nx : Nat) (s : Sy) (lv : List (Nat × AV)) (st : List AV) : Option (List Su) := match st with
  | a :: st => bif a.isI then (bif dsub (dom s a) [(0, 65535)] then some [(s, (nx, (lv, a :: st)))] else match s.newI [(0, 65535)] with
    | (s', v) => some [(s', (nx, (lv, v :: st)))]) else none
  | _ => none
def s1_lcmp (G : Gl) (P : Pl) (Ws : Sy → Nat → AV → Bool) (Wa : Nat → Bool) (m pc nx : Nat) (s : Sy) (lv : List (Nat × AV)) (st : List AV) : Option (List Su) := match st with
  | b :: a :: st => bif a.isL && b.isL then (match (G.code m).get nx with
    | some (.ifCond c off, _) => match tgt nx off with
      | some t => some (br s c a b t (nx + 3) lv st)
      | none => none
    | _ => none) else none
  | _ => none
def s1_dup (G : Gl) (P : Pl) (Ws : Sy → Nat → AV → Bool) (Wa : Nat → Bool) (m pc nx : Nat) (s : Sy) (lv : List (Nat × AV)) (st : List AV) : Option (List Su) := match st with
  | a :: st => bif a.isL then none else some [(s, (nx, (lv, a :: a :: st)))]
  | _ => none
def s1_dup2 (G : Gl) (P : Pl) (Ws : Sy → Nat → AV → Bool) (Wa : Nat → Bool) (m pc nx : Nat) (s : Sy) (lv : List (Nat × AV)) (st : List AV) : Option (List Su) := match st with
  | a :: b :: st => bif a.isL then some [(s, (nx, (lv, a :: a :: b :: st)))] else (bif a.isI && (!(b.isL) && !(b.isI)) then some [(s, (nx, (lv, a :: b :: a :: b :: st)))] else none)
  | _ => none
def s1_pop (G : Gl) (P : Pl) (Ws : Sy → Nat → AV → Bool) (Wa : Nat → Bool) (m pc nx : Nat) (s : Sy) (lv : List (Nat × AV)) (st : List AV) : Option (List Su) := match st with
  | a :: st => bif a.isI then some [(s, (nx, (lv, st)))] else none
  | _ => none
def s1_ifCond (G : Gl) (P : Pl) (Ws : Sy → Nat → AV → Bool) (Wa : Nat → Bool) (m pc nx : Nat) (s : Sy) (lv : List (Nat × AV)) (st : List AV) (c : Jvm.ClassFile.Cond) (off : Int) : Option (List Su) := match st with
  | a :: st => bif a.isI then (match tgt pc off with
    | some t => some (br s c a (.c 0) t nx lv st)
    | none => none) else none
  | _ => none
def s1_if_icmp (G : Gl) (P : Pl) (Ws : Sy → Nat → AV → Bool) (Wa : Nat → Bool) (m pc nx : Nat) (s : Sy) (lv : List (Nat × AV)) (st : List AV) (c : Jvm.ClassFile.Cond) (off : Int) : Option (List Su) := match st with
  | b :: a :: st => bif a.isI && b.isI then (match tgt pc off with
    | some t => some (br s c a b t nx lv st)
    | none => none) else none
  | _ => none
def s1_goto (G : Gl) (P : Pl) (Ws : Sy → Nat → AV → Bool) (Wa : Nat → Bool) (m pc nx : Nat) (s : Sy) (lv : List (Nat × AV)) (st : List AV) (off : Int) : Option (List Su) := match tgt pc off with
  | some t => some [(s, (t, (lv, st)))]
  | none => none
def s1_tableswitch (G : Gl) (P : Pl) (Ws : Sy → Nat → AV → Bool) (Wa : Nat → Bool) (m pc nx : Nat) (s : Sy) (lv : List (Nat × AV)) (st : List AV) (d : Int) (lo : Int) (hi : Int) (offs0 : Array Int) : Option (List Su) := let offs := offs0.toList; match st with
  | a :: st => bif a.isI then (match tgt pc d, tswGo pc s a lv st lo offs with
    | some t, some L => bif ile (lo + (offs.length : Int)) (hi + 1) && ile (hi + 1) (lo + (offs.length : Int)) then some (swd s a lo hi t lv st ++ L) else none
    | _, _ => none) else none
  | _ => none
def s1_lookupswitch (G : Gl) (P : Pl) (Ws : Sy → Nat → AV → Bool) (Wa : Nat → Bool) (m pc nx : Nat) (s : Sy) (lv : List (Nat × AV)) (st : List AV) (d : Int) (ps0 : Array (Int × Int)) : Option (List Su) := let ps := ps0.toList; match st with
  | a :: st => bif a.isI && (ps0.toList.zip (ps0.toList.drop 1)).all (fun (a, next) => decide (a.1 < next.1)) then (match tgt pc d with
    | some t => lswGo pc a lv st t s ps
    | none => none) else none
  | _ => none
def s1_aaload (G : Gl) (P : Pl) (Ws : Sy → Nat → AV → Bool) (Wa : Nat → Bool) (m pc nx : Nat) (s : Sy) (lv : List (Nat × AV)) (st : List AV) : Option (List Su) := match st with
  | i :: .inr (.inr (.inr (.inr (.inl k)))) :: st => match G.ka.get k, G.kr.get k with
    | some (103, z), some (b, n) => bif i.isI && inR s i 0 ((z : Int) - 1) then some [(s, (nx, (lv, .rr b n :: st)))] else none
    | _, _ => none
  | _ => none
def s1_invokestatic (G : Gl) (P : Pl) (Ws : Sy → Nat → AV → Bool) (Wa : Nat → Bool) (m pc nx : Nat) (s : Sy) (lv : List (Nat × AV)) (st : List AV) (x : Nat) : Option (List Su) := match G.lib.get (G.own m * 4096 + x), st with
  | some 1, n :: dp :: .inr (.inr (.inr (.inr (.inl k1)))) :: sp :: .inr (.inr (.inr (.inr (.inl k0)))) :: st => match G.ka.get k0, G.ka.get k1 with
    | some (100, z0), some (100, z1) => bif (copyOk s sp n z0 && copyOk s dp n z1) && ((P.cp k0 k1 && Wa k1) && Nat.ble (catl st) 8) then some [(s.forget k1, (nx, (lv, st)))] else none
    | some (101, z0), some (101, z1) => bif (copyOk s sp n z0 && copyOk s dp n z1) && ((P.fr k1 && Wa k1) && Nat.ble (catl st) 8) then some [(s.forget k1, (nx, (lv, st)))] else none
    | _, _ => none
  | some 6, b :: a :: st => bif (a.isI && b.isI) && Nat.ble (catl st) 8 then some ((match s.cut .lt a b with
      | some s' => [(s', (nx, (lv, b :: st)))]
      | none => []) ++ (match s.cut .ge a b with
      | some s' => [(s', (nx, (lv, a :: st)))]
      | none => [])) else none
  | some 7, b :: a :: st => bif (a.isI && b.isI) && Nat.ble (catl st) 8 then some ((match s.cut .gt a b with
      | some s' => [(s', (nx, (lv, b :: st)))]
      | none => []) ++ (match s.cut .le a b with
      | some s' => [(s', (nx, (lv, a :: st)))]
      | none => [])) else none
  | _, _ => none
def s1_getfield (G : Gl) (P : Pl) (Ws : Sy → Nat → AV → Bool) (Wa : Nat → Bool) (m pc nx : Nat) (s : Sy) (lv : List (Nat × AV)) (st : List AV) (x : Nat) : Option (List Su) := match st with
  | .inr (.inr (.inr (.inr (.inl k)))) :: st => match G.fld.get (G.own m * 4096 + x) with
    | some (ci, (j, _)) => match G.kf.get (k * 1024 + j) with
      | some (cj, (kd, t)) => bif Nat.beq ci cj then (match kd with
        | 0 => match s.rdI k (.c (j : Int)) (P.dm s k (.c (j : Int))) with
          | (s', v) => some [(s', (nx, (lv, v :: st)))]
        | 1 => match s.rdL k (.c (j : Int)) (P.dl s k (.c (j : Int))) with
          | (s', v) => some [(s', (nx, (lv, v :: st)))]
        | 2 => some [(s, (nx, (lv, .r t :: st)))]
        | _ => none) else none
      | none => none
    | none => match G.lib.get (G.own m * 4096 + x) with
      | some 4 => bif Nat.ble 1000 k && Nat.blt k 1021 then some [(s, (nx, (lv, .c 0 :: st)))] else none
      | some 5 => bif Nat.ble 1000 k && Nat.blt k 1021 then some [(s, (nx, (lv, .r (k + 1000) :: st)))] else none
      | _ => none
  | _ => none
def s1_getstatic (G : Gl) (P : Pl) (Ws : Sy → Nat → AV → Bool) (Wa : Nat → Bool) (m pc nx : Nat) (s : Sy) (lv : List (Nat × AV)) (st : List AV) (x : Nat) : Option (List Su) := match G.lib.get (G.own m * 4096 + x) with
  | some 2 => some [(s, (nx, (lv, .c 1 :: st)))]
  | some 3 => some [(s, (nx, (lv, .r 3001 :: st)))]
  | _ => none
def s1_arraylength (G : Gl) (P : Pl) (Ws : Sy → Nat → AV → Bool) (Wa : Nat → Bool) (m pc nx : Nat) (s : Sy) (lv : List (Nat × AV)) (st : List AV) : Option (List Su) := match st with
  | .inr (.inr (.inr (.inr (.inl k)))) :: st => bif Nat.ble 2000 k && Nat.blt k 2021 then some [(s, (nx, (lv, .c (Int32.ofNat (SLN.getD (k - 2000) 0)).toInt :: st)))] else none
  | _ => none
def s1_putfield (G : Gl) (P : Pl) (Ws : Sy → Nat → AV → Bool) (Wa : Nat → Bool) (m pc nx : Nat) (s : Sy) (lv : List (Nat × AV)) (st : List AV) (x : Nat) : Option (List Su) := match st with
  | v :: .inr (.inr (.inr (.inr (.inl k)))) :: st => match G.fld.get (G.own m * 4096 + x) with
    | some (ci, (j, ty)) => match G.kf.get (k * 1024 + j) with
      | some (cj, (kd, _)) => bif Nat.beq ci cj && Ws s k (.c (j : Int)) then (match ty, kd with
        | 0, 0 => bif v.isI then (match P.wi s k (.c (j : Int)) v with
          | some s' => some [(s', (nx, (lv, st)))]
          | none => none) else none
        | 1, 0 => bif v.isI && dsub (dom s v) [(0, 1)] then (match P.wi s k (.c (j : Int)) v with
          | some s' => some [(s', (nx, (lv, st)))]
          | none => none) else none
        | 2, 1 => bif v.isL then (match P.wl s k (.c (j : Int)) v with
          | some s' => some [(s', (nx, (lv, st)))]
          | none => none) else none
        | _, _ => none) else none
      | none => none
    | none => none
  | _ => none
def s1_iaload (G : Gl) (P : Pl) (Ws : Sy → Nat → AV → Bool) (Wa : Nat → Bool) (m pc nx : Nat) (s : Sy) (lv : List (Nat × AV)) (st : List AV) : Option (List Su) := match st with
  | i :: .inr (.inr (.inr (.inr (.inl k)))) :: st => match G.ka.get k with
    | some (100, z) => bif i.isI && inR s i 0 ((z : Int) - 1) then (match (s.clip i z).rdI k (pl s i) (P.dm (s.clip i z) k (pl s i)) with
      | (s', v) => some [(s', (nx, (lv, v :: st)))]) else none
    | some _ => none
    | none => bif Nat.beq k 3001 && (i.isI && inR s i 0 3) then (match s.newI [(0, 3)] with
      | (s', v) => some [(s', (nx, (lv, v :: st)))]) else none
  | _ => none
def s1_baload (G : Gl) (P : Pl) (Ws : Sy → Nat → AV → Bool) (Wa : Nat → Bool) (m pc nx : Nat) (s : Sy) (lv : List (Nat × AV)) (st : List AV) : Option (List Su) := match st with
  | i :: .inr (.inr (.inr (.inr (.inl k)))) :: st => match G.ka.get k with
    | some (102, z) => bif i.isI && inR s i 0 ((z : Int) - 1) then (match (s.clip i z).rdI k (pl s i) (P.dm (s.clip i z) k (pl s i)) with
      | (s', v) => some [(s', (nx, (lv, v :: st)))]) else none
    | some _ => none
    | none => bif (Nat.ble 2000 k && Nat.blt k 2021) && (i.isI && inR s i 0 (((SLN.getD (k - 2000) 0 : Nat) : Int) - 1)) then (match pl s i with
      | .inr (.inl (.ofNat j)) => some [(s, (nx, (lv, .c ((SBY.getD (k - 2000) []).getD j 0).toInt :: st)))]
      | _ => match s.newI [(0, 127)] with
        | (s', v) => some [(s', (nx, (lv, v :: st)))]) else none
  | _ => none
def s1_laload (G : Gl) (P : Pl) (Ws : Sy → Nat → AV → Bool) (Wa : Nat → Bool) (m pc nx : Nat) (s : Sy) (lv : List (Nat × AV)) (st : List AV) : Option (List Su) := match st with
  | i :: .inr (.inr (.inr (.inr (.inl k)))) :: st => match G.ka.get k with
    | some (101, z) => bif i.isI && inR s i 0 ((z : Int) - 1) then (match (s.clip i z).rdL k (pl s i) (P.dl (s.clip i z) k (pl s i)) with
      | (s', v) => some [(s', (nx, (lv, v :: st)))]) else none
    | _ => none
  | i :: .inr (.inr (.inr (.inr (.inr (b, n))))) :: st => match G.ka.get b with
    | some (101, z) => bif (i.isI && rrz G z b n) && inR s i 0 ((z : Int) - 1) then (match s.newL T64 with
      | (s', v) => some [(s', (nx, (lv, v :: st)))]) else none
    | _ => none
  | _ => none
def s1_iastore (G : Gl) (P : Pl) (Ws : Sy → Nat → AV → Bool) (Wa : Nat → Bool) (m pc nx : Nat) (s : Sy) (lv : List (Nat × AV)) (st : List AV) : Option (List Su) := match st with
  | v :: i :: .inr (.inr (.inr (.inr (.inl k)))) :: st => match G.ka.get k with
    | some (100, z) => bif (i.isI && v.isI) && (inR s i 0 ((z : Int) - 1) && Ws s k (pl s i)) then (match P.wi (s.clip i z) k (pl s i) v with
      | some s' => some [(s', (nx, (lv, st)))]
      | none => none) else none
    | _ => none
  | _ => none
def s1_bastore (G : Gl) (P : Pl) (Ws : Sy → Nat → AV → Bool) (Wa : Nat → Bool) (m pc nx : Nat) (s : Sy) (lv : List (Nat × AV)) (st : List AV) : Option (List Su) := match st with
  | v :: i :: .inr (.inr (.inr (.inr (.inl k)))) :: st => match G.ka.get k with
    | some (102, z) => bif (i.isI && v.isI) && (inR s i 0 ((z : Int) - 1) && (dsub (dom s v) [(0, 1)] && Ws s k (pl s i))) then (match P.wi (s.clip i z) k (pl s i) v with
      | some s' => some [(s', (nx, (lv, st)))]
      | none => none) else none
    | _ => none
  | _ => none
def s1_lastore (G : Gl) (P : Pl) (Ws : Sy → Nat → AV → Bool) (Wa : Nat → Bool) (m pc nx : Nat) (s : Sy) (lv : List (Nat × AV)) (st : List AV) : Option (List Su) := match st with
  | v :: i :: .inr (.inr (.inr (.inr (.inl k)))) :: st => match G.ka.get k with
    | some (101, z) => bif (i.isI && v.isL) && (inR s i 0 ((z : Int) - 1) && Ws s k (pl s i)) then (match P.wl (s.clip i z) k (pl s i) v with
      | some s' => some [(s', (nx, (lv, st)))]
      | none => none) else none
    | _ => none
  | v :: i :: .inr (.inr (.inr (.inr (.inr (b, n))))) :: st => match G.ka.get b with
    | some (101, z) => bif ((i.isI && v.isL) && (rrz G z b n && rrw Wa P.fr b n)) && inR s i 0 ((z : Int) - 1) then some [(s.kill b n, (nx, (lv, st)))] else none
    | _ => none
  | _ => none
abbrev StF : Type := Gl → Pl → (Sy → Nat → AV → Bool) → (Nat → Bool) → Nat → Nat → Nat → Sy → List (Nat × AV) → List AV → Option (List Su)
def disp : Ix → Option StF
  | .iconst n => some (fun G P Ws Wa m pc nx s lv st => some [(s, (nx, (lv, .c n :: st)))])
  | .bipush n => some (fun G P Ws Wa m pc nx s lv st => some [(s, (nx, (lv, .c n :: st)))])
  | .sipush n => some (fun G P Ws Wa m pc nx s lv st => some [(s, (nx, (lv, .c n :: st)))])
  | .ldc x => some (fun G P Ws Wa m pc nx s lv st => s1_ldc G P Ws Wa m pc nx s lv st x)
  | .ldc_w x => some (fun G P Ws Wa m pc nx s lv st => s1_ldc_w G P Ws Wa m pc nx s lv st x)
  | .lconst n => some (fun G P Ws Wa m pc nx s lv st => some [(s, (nx, (lv, .k (n.val : Int) :: st)))])
  | .ldc2_w x => some (fun G P Ws Wa m pc nx s lv st => s1_ldc2_w G P Ws Wa m pc nx s lv st x)
  | .iload_n i => some (fun G P Ws Wa m pc nx s lv st => s1_iload_n G P Ws Wa m pc nx s lv st i)
  | .iload i => some (fun G P Ws Wa m pc nx s lv st => s1_iload G P Ws Wa m pc nx s lv st i)
  | .lload_n i => some (fun G P Ws Wa m pc nx s lv st => s1_lload_n G P Ws Wa m pc nx s lv st i)
  | .lload i => some (fun G P Ws Wa m pc nx s lv st => s1_lload G P Ws Wa m pc nx s lv st i)
  | .aload_n i => some (fun G P Ws Wa m pc nx s lv st => s1_aload_n G P Ws Wa m pc nx s lv st i)
  | .aload i => some (fun G P Ws Wa m pc nx s lv st => s1_aload G P Ws Wa m pc nx s lv st i)
  | .istore_n i => some (fun G P Ws Wa m pc nx s lv st => s1_istore_n G P Ws Wa m pc nx s lv st i)
  | .istore i => some (fun G P Ws Wa m pc nx s lv st => s1_istore G P Ws Wa m pc nx s lv st i)
  | .lstore_n i => some (fun G P Ws Wa m pc nx s lv st => s1_lstore_n G P Ws Wa m pc nx s lv st i)
  | .lstore i => some (fun G P Ws Wa m pc nx s lv st => s1_lstore G P Ws Wa m pc nx s lv st i)
  | .astore_n i => some (fun G P Ws Wa m pc nx s lv st => s1_astore_n G P Ws Wa m pc nx s lv st i)
  | .iinc i z => some (fun G P Ws Wa m pc nx s lv st => s1_iinc G P Ws Wa m pc nx s lv st i z)
  | .iadd => some (fun G P Ws Wa m pc nx s lv st => stBi .iadd s nx lv st)
  | .isub => some (fun G P Ws Wa m pc nx s lv st => stBi .isub s nx lv st)
  | .imul => some (fun G P Ws Wa m pc nx s lv st => stBi .imul s nx lv st)
  | .iand => some (fun G P Ws Wa m pc nx s lv st => stBi .iand s nx lv st)
  | .ior => some (fun G P Ws Wa m pc nx s lv st => stBi .ior s nx lv st)
  | .ixor => some (fun G P Ws Wa m pc nx s lv st => stBi .ixor s nx lv st)
  | .ishl => some (fun G P Ws Wa m pc nx s lv st => stBi .ishl s nx lv st)
  | .ishr => some (fun G P Ws Wa m pc nx s lv st => stBi .ishr s nx lv st)
  | .iushr => some (fun G P Ws Wa m pc nx s lv st => stBi .iushr s nx lv st)
  | .idiv => some (fun G P Ws Wa m pc nx s lv st => stBi .idiv s nx lv st)
  | .irem => some (fun G P Ws Wa m pc nx s lv st => stBi .irem s nx lv st)
  | .ladd => some (fun G P Ws Wa m pc nx s lv st => s1_ladd G P Ws Wa m pc nx s lv st)
  | .lsub => some (fun G P Ws Wa m pc nx s lv st => s1_lsub G P Ws Wa m pc nx s lv st)
  | .lmul => some (fun G P Ws Wa m pc nx s lv st => stBl .lmul s nx lv st)
  | .land => some (fun G P Ws Wa m pc nx s lv st => stBl .land s nx lv st)
  | .lor => some (fun G P Ws Wa m pc nx s lv st => stBl .lor s nx lv st)
  | .lxor => some (fun G P Ws Wa m pc nx s lv st => stBl .lxor s nx lv st)
  | .ldiv => some (fun G P Ws Wa m pc nx s lv st => stBl .ldiv s nx lv st)
  | .lrem => some (fun G P Ws Wa m pc nx s lv st => stBl .lrem s nx lv st)
  | .lshl => some (fun G P Ws Wa m pc nx s lv st => stSl .lshl s nx lv st)
  | .lshr => some (fun G P Ws Wa m pc nx s lv st => stSl .lshr s nx lv st)
  | .lushr => some (fun G P Ws Wa m pc nx s lv st => stSl .lushr s nx lv st)
  | .ineg => some (fun G P Ws Wa m pc nx s lv st => s1_ineg G P Ws Wa m pc nx s lv st)
  | .lneg => some (fun G P Ws Wa m pc nx s lv st => s1_lneg G P Ws Wa m pc nx s lv st)
  | .i2l => some (fun G P Ws Wa m pc nx s lv st => s1_i2l G P Ws Wa m pc nx s lv st)
  | .l2i => some (fun G P Ws Wa m pc nx s lv st => s1_l2i G P Ws Wa m pc nx s lv st)
  | .i2b => some (fun G P Ws Wa m pc nx s lv st => s1_i2b G P Ws Wa m pc nx s lv st)
  | .i2c => some (fun G P Ws Wa m pc nx s lv st => s1_i2c G P Ws Wa m pc nx s lv st)
  | .lcmp => some (fun G P Ws Wa m pc nx s lv st => s1_lcmp G P Ws Wa m pc nx s lv st)
  | .dup => some (fun G P Ws Wa m pc nx s lv st => s1_dup G P Ws Wa m pc nx s lv st)
  | .dup2 => some (fun G P Ws Wa m pc nx s lv st => s1_dup2 G P Ws Wa m pc nx s lv st)
  | .pop => some (fun G P Ws Wa m pc nx s lv st => s1_pop G P Ws Wa m pc nx s lv st)
  | .ifCond c off => some (fun G P Ws Wa m pc nx s lv st => s1_ifCond G P Ws Wa m pc nx s lv st c off)
  | .if_icmp c off => some (fun G P Ws Wa m pc nx s lv st => s1_if_icmp G P Ws Wa m pc nx s lv st c off)
  | .goto off => some (fun G P Ws Wa m pc nx s lv st => s1_goto G P Ws Wa m pc nx s lv st off)
  | .tableswitch d lo hi offs0 => some (fun G P Ws Wa m pc nx s lv st => s1_tableswitch G P Ws Wa m pc nx s lv st d lo hi offs0)
  | .lookupswitch d ps0 => some (fun G P Ws Wa m pc nx s lv st => s1_lookupswitch G P Ws Wa m pc nx s lv st d ps0)
  | .aaload => some (fun G P Ws Wa m pc nx s lv st => s1_aaload G P Ws Wa m pc nx s lv st)
  | .invokestatic x => some (fun G P Ws Wa m pc nx s lv st => s1_invokestatic G P Ws Wa m pc nx s lv st x)
  | .getfield x => some (fun G P Ws Wa m pc nx s lv st => s1_getfield G P Ws Wa m pc nx s lv st x)
  | .getstatic x => some (fun G P Ws Wa m pc nx s lv st => s1_getstatic G P Ws Wa m pc nx s lv st x)
  | .arraylength => some (fun G P Ws Wa m pc nx s lv st => s1_arraylength G P Ws Wa m pc nx s lv st)
  | .putfield x => some (fun G P Ws Wa m pc nx s lv st => s1_putfield G P Ws Wa m pc nx s lv st x)
  | .iaload => some (fun G P Ws Wa m pc nx s lv st => s1_iaload G P Ws Wa m pc nx s lv st)
  | .baload => some (fun G P Ws Wa m pc nx s lv st => s1_baload G P Ws Wa m pc nx s lv st)
  | .laload => some (fun G P Ws Wa m pc nx s lv st => s1_laload G P Ws Wa m pc nx s lv st)
  | .iastore => some (fun G P Ws Wa m pc nx s lv st => s1_iastore G P Ws Wa m pc nx s lv st)
  | .bastore => some (fun G P Ws Wa m pc nx s lv st => s1_bastore G P Ws Wa m pc nx s lv st)
  | .lastore => some (fun G P Ws Wa m pc nx s lv st => s1_lastore G P Ws Wa m pc nx s lv st)
  | _ => none
def step1 (G : Gl) (P : Pl) (Ws : Sy → Nat → AV → Bool) (Wa : Nat → Bool) (m : Nat) (ix : Ix) (pc nx : Nat) (s : Sy) (lv : List (Nat × AV)) (st : List AV) : Option (List Su) :=
  match disp ix with
  | some F => F G P Ws Wa m pc nx s lv st
  | none => none
end
