def RF_0 : List (List Nat) := [[2, 0, 0, 3, 4, 0, 5, 0, 6, 11, 18, 28, 35, 42, 53, 60, 71, 99], [], [], [], [], [0, 0, 0, 7, 8, 9, 10], [], [], [], [], [0, 12, 13, 14, 15, 16, 17], [], [], [], [], [], [], [0, 19, 20, 21, 22, 23, 6, 11, 24, 0, 25, 26, 27, 0, 0, 0, 0], [], [], [], [], [], [], [], [], [], [6, 11, 18, 0, 0, 0, 0, 0, 29, 30, 0, 31, 0, 0, 32, 33, 0, 34, 0, 0], [], [], [], [], [], [], [6, 0, 36, 37, 38, 0, 0, 39, 40, 41], [], [], [], [], []]
def RF_1 : List (List Nat) := [[], [6, 0, 43, 44, 45, 46, 47, 48, 49, 50, 51, 52, 0, 0, 0], [], [], [], [], [], [], [], [], [], [], [11, 0, 54, 55, 56, 0, 57, 58, 59, 0, 0], [], [], [], [], [], [], [61, 0, 62, 63, 64, 65, 66, 67, 68, 69, 70, 0], [], [], [], [], [], [], [], [], [], [], [72, 73, 74, 75, 76, 97, 0, 0, 98], [], [], [], [], [77, 78, 79, 80, 81, 82, 83, 84, 85, 86, 87, 88, 89, 90, 91, 92, 93, 94, 95, 96], [], [], [], []]
def RF_2 : List (List Nat) := [[], [], [], [], [], [], [], [], [], [], [], [], [], [], [], [], [], [], [0, 100, 0, 101, 102, 103, 104, 105, 106, 107, 108, 109, 0, 110], [], [], [], [], [], [], [], [], [], [], [], [0, 0, 112, 0, 113, 114, 0, 0, 0, 115, 116, 117, 118, 119, 120, 121, 122, 123, 124, 125, 0, 126, 127, 128, 129, 130, 0, 0, 0, 0, 0, 0, 0, 131, 132, 133, 134, 135, 136, 137, 138, 139, 140, 141, 142, 143, 0, 144, 145, 146, 147, 148, 0, 149, 150, 151, 0, 0, 0, 0, 0, 0, 152, 153, 0, 0, 0, 0, 0, 0, 154, 0, 155, 156, 0, 0, 157, 0, 158, 159, 160, 0, 0, 161, 162, 0, 163, 164, 165, 166, 167, 168, 169, 170, 171, 0, 0, 172, 173, 174, 175, 176, 177, 178, 179, 180, 181, 0, 182, 0, 183, 184, 0, 185, 186, 187, 188, 0, 0, 189, 190, 191, 192, 193, 194, 195, 196, 197, 198, 199, 200, 201, 202, 203, 0, 204, 0, 205, 0, 206, 207, 208, 209, 210, 211, 212, 213, 214, 0, 215, 0], [], [], [], [], [], [], [], [], []]
def RF_3 : List (List Nat) := [[], [], [], [], [], [], [], [], [], [], [], [], [], [], [], [], [], [], [], [], [], [], [], [], [], [], [], [], [], [], [], [], [], [], [], [], [], [], [], []]
def RF_4 : List (List Nat) := [[], [], [], [], [], [], [], [], [], [], [], [], [], [], [], [], [], [], [], [], [], [], [], [], [], [], [], [], [], [], [], [], [], [], [], [], [], [], [], []]
def RF_5 : List (List Nat) := [[], [], [], [], [], [], [], [], [], [], [], [], [], [], []]
def RFl : List (List Nat) := RF_0 ++ (RF_1 ++ (RF_2 ++ (RF_3 ++ (RF_4 ++ (RF_5)))))
def RF (k j : Nat) : Nat := (RFl.getD k []).getD j 0
abbrev zS : Type := (Nat → Nat → Int32) × (Nat → Nat → Int64)
abbrev zKt : Type := Option Value → zS → Prop
def zx (σ : zS) : xS := (σ.1, (σ.2, RF))
def zK (K : zKt) : xK := fun v n s => n = 215 ∧ ∃ σ : zS, s = zx σ ∧ K v σ
def Wz (E : xV) (Y : xY) (pc : Nat) (lv : List (Nat × Value)) (st : List Value) (σ : zS) (K : zKt) : Prop := Wx E Y pc lv st 215 0 0 (zx σ) (xMQ E Y (zK K))
def Cz (E : xV) (Y : xY) (av : List Value) (σ : zS) (K : zKt) : Prop := Cx E Y av 215 (zx σ) (zK K)
def zI (σ : zS) (k j : Nat) (v : Int32) : zS := (xup σ.1 k (upd (σ.1 k) j v), σ.2)
def zJ (σ : zS) (k j : Nat) (v : Int64) : zS := (σ.1, xup σ.2 k (vp_updL (σ.2 k) j v))
theorem Cz.mono {E : xV} {Y : xY} {av : List Value} {σ : zS} {K K' : zKt} (h : Cz E Y av σ K) (hk : ∀ v σ', K v σ' → K' v σ') : Cz E Y av σ K' := Cx.mono h (fun v n s ⟨h1, σ1, h2, h3⟩ => ⟨h1, σ1, h2, hk v σ1 h3⟩)
section ZR
variable {E : xV} {Y : xY} {pc pc' : Nat} {lv lv' : List (Nat × Value)} {st : List Value} {σ : zS} {K : zKt}
theorem z_iconst {i : Int} {v : Int32} (d : decode Y.2.1 pc = .ok (.iconst i, 1) ∧ pc + 1 = pc') (hv : Int32.ofInt i = v) (k : Wz E Y pc' lv (.int v :: st) σ K) : Wz E Y pc lv st σ K := by
  obtain ⟨d, rfl⟩ := d
  exact x_iconst d hv k
theorem z_bipush {i : Int} {v : Int32} (d : decode Y.2.1 pc = .ok (.bipush i, 2) ∧ pc + 2 = pc') (hv : (Int8.ofInt i).toInt32 = v) (k : Wz E Y pc' lv (.int v :: st) σ K) : Wz E Y pc lv st σ K := by
  obtain ⟨d, rfl⟩ := d
  exact x_bipush d hv k
theorem z_sipush {i : Int} {v : Int32} (d : decode Y.2.1 pc = .ok (.sipush i, 3) ∧ pc + 3 = pc') (hv : (Int16.ofInt i).toInt32 = v) (k : Wz E Y pc' lv (.int v :: st) σ K) : Wz E Y pc lv st σ K := by
  obtain ⟨d, rfl⟩ := d
  exact x_sipush d hv k
theorem z_lconst {i : Fin 2} {v : Int64} (d : decode Y.2.1 pc = .ok (.lconst i, 1) ∧ pc + 1 = pc') (hv : Int64.ofNat (i : Nat) = v) (k : Wz E Y pc' lv (.long v :: st) σ K) : Wz E Y pc lv st σ K := by
  obtain ⟨d, rfl⟩ := d
  exact x_lconst d hv k
theorem z_ldc {i : Nat} {v : Int32} (d : decode Y.2.1 pc = .ok (.ldc i, 2) ∧ pc + 2 = pc') (hw : Cond.constant Y.1.cls i v ∈ TBg) (k : Wz E Y pc' lv (.int v :: st) σ K) : Wz E Y pc lv st σ K := by
  obtain ⟨d, rfl⟩ := d
  exact x_ldc d hw k
theorem z_ldcw {i : Nat} {v : Int32} (d : decode Y.2.1 pc = .ok (.ldc_w i, 3) ∧ pc + 3 = pc') (hw : Cond.constant Y.1.cls i v ∈ TBg) (k : Wz E Y pc' lv (.int v :: st) σ K) : Wz E Y pc lv st σ K := by
  obtain ⟨d, rfl⟩ := d
  exact x_ldcw d hw k
theorem z_ldc2 {i : Nat} {v : Int64} (d : decode Y.2.1 pc = .ok (.ldc2_w i, 3) ∧ pc + 3 = pc') (hw : Cond.constantLong Y.1.cls i v ∈ TBg) (k : Wz E Y pc' lv (.long v :: st) σ K) : Wz E Y pc lv st σ K := by
  obtain ⟨d, rfl⟩ := d
  exact x_ldc2 d hw k
theorem z_iload_n {f : Fin 4} {i q : Nat} {x : Int32} (d : decode Y.2.1 pc = .ok (.iload_n f, 1) ∧ pc + 1 = pc') (hi : (f : Nat) = i) (hq : lv[q]? = some (i, .int x)) (k : Wz E Y pc' lv (.int x :: st) σ K) : Wz E Y pc lv st σ K := by
  obtain ⟨d, rfl⟩ := d
  exact x_iload_n d hi hq k
theorem z_iload {i q : Nat} {x : Int32} (d : decode Y.2.1 pc = .ok (.iload i, 2) ∧ pc + 2 = pc') (hq : lv[q]? = some (i, .int x)) (k : Wz E Y pc' lv (.int x :: st) σ K) : Wz E Y pc lv st σ K := by
  obtain ⟨d, rfl⟩ := d
  exact x_iload d hq k
theorem z_lload_n {f : Fin 4} {i q : Nat} {x : Int64} (d : decode Y.2.1 pc = .ok (.lload_n f, 1) ∧ pc + 1 = pc') (hi : (f : Nat) = i) (hq : lv[q]? = some (i, .long x)) (k : Wz E Y pc' lv (.long x :: st) σ K) : Wz E Y pc lv st σ K := by
  obtain ⟨d, rfl⟩ := d
  exact x_lload_n d hi hq k
theorem z_lload {i q : Nat} {x : Int64} (d : decode Y.2.1 pc = .ok (.lload i, 2) ∧ pc + 2 = pc') (hq : lv[q]? = some (i, .long x)) (k : Wz E Y pc' lv (.long x :: st) σ K) : Wz E Y pc lv st σ K := by
  obtain ⟨d, rfl⟩ := d
  exact x_lload d hq k
theorem z_aload_n {f : Fin 4} {i q : Nat} {x : Nat} (d : decode Y.2.1 pc = .ok (.aload_n f, 1) ∧ pc + 1 = pc') (hi : (f : Nat) = i) (hq : lv[q]? = some (i, .ref x)) (k : Wz E Y pc' lv (.ref x :: st) σ K) : Wz E Y pc lv st σ K := by
  obtain ⟨d, rfl⟩ := d
  exact x_aload_n d hi hq k
theorem z_aload {i q : Nat} {x : Nat} (d : decode Y.2.1 pc = .ok (.aload i, 2) ∧ pc + 2 = pc') (hq : lv[q]? = some (i, .ref x)) (k : Wz E Y pc' lv (.ref x :: st) σ K) : Wz E Y pc lv st σ K := by
  obtain ⟨d, rfl⟩ := d
  exact x_aload d hq k
theorem z_istore_n {f : Fin 4} {i : Nat} {x : Int32} (d : decode Y.2.1 pc = .ok (.istore_n f, 1) ∧ pc + 1 = pc') (hi : (f : Nat) = i) (hn : i < Y.2.2.1) (hl' : (i, Value.int x) :: lv.filter (fun q => !(q.1 == i) && !(q.1 + 1 == i && q.2.category == 2)) = lv') (k : Wz E Y pc' lv' st σ K) : Wz E Y pc lv (.int x :: st) σ K := by
  obtain ⟨d, rfl⟩ := d
  exact x_istore_n d hi hn hl' k
theorem z_istore {i : Nat} {x : Int32} (d : decode Y.2.1 pc = .ok (.istore i, 2) ∧ pc + 2 = pc') (hn : i < Y.2.2.1) (hl' : (i, Value.int x) :: lv.filter (fun q => !(q.1 == i) && !(q.1 + 1 == i && q.2.category == 2)) = lv') (k : Wz E Y pc' lv' st σ K) : Wz E Y pc lv (.int x :: st) σ K := by
  obtain ⟨d, rfl⟩ := d
  exact x_istore d hn hl' k
theorem z_lstore_n {f : Fin 4} {i : Nat} {x : Int64} (d : decode Y.2.1 pc = .ok (.lstore_n f, 1) ∧ pc + 1 = pc') (hi : (f : Nat) = i) (hn : i + 1 < Y.2.2.1) (hl' : (i, Value.long x) :: lv.filter (fun q => !(q.1 == i) && (!(q.1 == i + 1) && !(q.1 + 1 == i && q.2.category == 2))) = lv') (k : Wz E Y pc' lv' st σ K) : Wz E Y pc lv (.long x :: st) σ K := by
  obtain ⟨d, rfl⟩ := d
  exact x_lstore_n d hi hn hl' k
theorem z_lstore {i : Nat} {x : Int64} (d : decode Y.2.1 pc = .ok (.lstore i, 2) ∧ pc + 2 = pc') (hn : i + 1 < Y.2.2.1) (hl' : (i, Value.long x) :: lv.filter (fun q => !(q.1 == i) && (!(q.1 == i + 1) && !(q.1 + 1 == i && q.2.category == 2))) = lv') (k : Wz E Y pc' lv' st σ K) : Wz E Y pc lv (.long x :: st) σ K := by
  obtain ⟨d, rfl⟩ := d
  exact x_lstore d hn hl' k
theorem z_astore_n {f : Fin 4} {i : Nat} {x : Nat} (d : decode Y.2.1 pc = .ok (.astore_n f, 1) ∧ pc + 1 = pc') (hi : (f : Nat) = i) (hn : i < Y.2.2.1) (hl' : (i, Value.ref x) :: lv.filter (fun q => !(q.1 == i) && !(q.1 + 1 == i && q.2.category == 2)) = lv') (k : Wz E Y pc' lv' st σ K) : Wz E Y pc lv (.ref x :: st) σ K := by
  obtain ⟨d, rfl⟩ := d
  exact x_astore_n d hi hn hl' k
theorem z_iinc {i q : Nat} {z : Int} {x v : Int32} (d : decode Y.2.1 pc = .ok (.iinc i z, 3) ∧ pc + 3 = pc') (hq : lv[q]? = some (i, .int x)) (hv : x + Int32.ofInt z = v) (hn : i < Y.2.2.1) (hl' : (i, Value.int v) :: lv.filter (fun q => !(q.1 == i) && !(q.1 + 1 == i && q.2.category == 2)) = lv') (k : Wz E Y pc' lv' st σ K) : Wz E Y pc lv st σ K := by
  obtain ⟨d, rfl⟩ := d
  exact x_iinc d hq hv hn hl' k
theorem z_iadd {x y : Int32} (d : decode Y.2.1 pc = .ok (.iadd, 1) ∧ pc + 1 = pc') (k : Wz E Y pc' lv (.int (x + y) :: st) σ K) : Wz E Y pc lv (.int y :: .int x :: st) σ K := by
  obtain ⟨d, rfl⟩ := d
  exact x_iadd d k
theorem z_isub {x y : Int32} (d : decode Y.2.1 pc = .ok (.isub, 1) ∧ pc + 1 = pc') (k : Wz E Y pc' lv (.int (x - y) :: st) σ K) : Wz E Y pc lv (.int y :: .int x :: st) σ K := by
  obtain ⟨d, rfl⟩ := d
  exact x_isub d k
theorem z_imul {x y : Int32} (d : decode Y.2.1 pc = .ok (.imul, 1) ∧ pc + 1 = pc') (k : Wz E Y pc' lv (.int (x * y) :: st) σ K) : Wz E Y pc lv (.int y :: .int x :: st) σ K := by
  obtain ⟨d, rfl⟩ := d
  exact x_imul d k
theorem z_iand {x y : Int32} (d : decode Y.2.1 pc = .ok (.iand, 1) ∧ pc + 1 = pc') (k : Wz E Y pc' lv (.int (x &&& y) :: st) σ K) : Wz E Y pc lv (.int y :: .int x :: st) σ K := by
  obtain ⟨d, rfl⟩ := d
  exact x_iand d k
theorem z_ior {x y : Int32} (d : decode Y.2.1 pc = .ok (.ior, 1) ∧ pc + 1 = pc') (k : Wz E Y pc' lv (.int (x ||| y) :: st) σ K) : Wz E Y pc lv (.int y :: .int x :: st) σ K := by
  obtain ⟨d, rfl⟩ := d
  exact x_ior d k
theorem z_ixor {x y : Int32} (d : decode Y.2.1 pc = .ok (.ixor, 1) ∧ pc + 1 = pc') (k : Wz E Y pc' lv (.int (x ^^^ y) :: st) σ K) : Wz E Y pc lv (.int y :: .int x :: st) σ K := by
  obtain ⟨d, rfl⟩ := d
  exact x_ixor d k
theorem z_ishl {x y : Int32} (d : decode Y.2.1 pc = .ok (.ishl, 1) ∧ pc + 1 = pc') (k : Wz E Y pc' lv (.int (x <<< (y &&& 31)) :: st) σ K) : Wz E Y pc lv (.int y :: .int x :: st) σ K := by
  obtain ⟨d, rfl⟩ := d
  exact x_ishl d k
theorem z_ishr {x y : Int32} (d : decode Y.2.1 pc = .ok (.ishr, 1) ∧ pc + 1 = pc') (k : Wz E Y pc' lv (.int (x >>> (y &&& 31)) :: st) σ K) : Wz E Y pc lv (.int y :: .int x :: st) σ K := by
  obtain ⟨d, rfl⟩ := d
  exact x_ishr d k
theorem z_ladd {x y : Int64} (d : decode Y.2.1 pc = .ok (.ladd, 1) ∧ pc + 1 = pc') (k : Wz E Y pc' lv (.long (x + y) :: st) σ K) : Wz E Y pc lv (.long y :: .long x :: st) σ K := by
  obtain ⟨d, rfl⟩ := d
  exact x_ladd d k
theorem z_lsub {x y : Int64} (d : decode Y.2.1 pc = .ok (.lsub, 1) ∧ pc + 1 = pc') (k : Wz E Y pc' lv (.long (x - y) :: st) σ K) : Wz E Y pc lv (.long y :: .long x :: st) σ K := by
  obtain ⟨d, rfl⟩ := d
  exact x_lsub d k
theorem z_lmul {x y : Int64} (d : decode Y.2.1 pc = .ok (.lmul, 1) ∧ pc + 1 = pc') (k : Wz E Y pc' lv (.long (x * y) :: st) σ K) : Wz E Y pc lv (.long y :: .long x :: st) σ K := by
  obtain ⟨d, rfl⟩ := d
  exact x_lmul d k
theorem z_land {x y : Int64} (d : decode Y.2.1 pc = .ok (.land, 1) ∧ pc + 1 = pc') (k : Wz E Y pc' lv (.long (x &&& y) :: st) σ K) : Wz E Y pc lv (.long y :: .long x :: st) σ K := by
  obtain ⟨d, rfl⟩ := d
  exact x_land d k
theorem z_lor {x y : Int64} (d : decode Y.2.1 pc = .ok (.lor, 1) ∧ pc + 1 = pc') (k : Wz E Y pc' lv (.long (x ||| y) :: st) σ K) : Wz E Y pc lv (.long y :: .long x :: st) σ K := by
  obtain ⟨d, rfl⟩ := d
  exact x_lor d k
theorem z_lxor {x y : Int64} (d : decode Y.2.1 pc = .ok (.lxor, 1) ∧ pc + 1 = pc') (k : Wz E Y pc' lv (.long (x ^^^ y) :: st) σ K) : Wz E Y pc lv (.long y :: .long x :: st) σ K := by
  obtain ⟨d, rfl⟩ := d
  exact x_lxor d k
theorem z_idiv {x y : Int32} (d : decode Y.2.1 pc = .ok (.idiv, 1) ∧ pc + 1 = pc') (hne : ¬ y = 0) (k : Wz E Y pc' lv (.int (x / y) :: st) σ K) : Wz E Y pc lv (.int y :: .int x :: st) σ K := by
  obtain ⟨d, rfl⟩ := d
  exact x_idiv d hne k
theorem z_irem {x y : Int32} (d : decode Y.2.1 pc = .ok (.irem, 1) ∧ pc + 1 = pc') (hne : ¬ y = 0) (k : Wz E Y pc' lv (.int (x - x / y * y) :: st) σ K) : Wz E Y pc lv (.int y :: .int x :: st) σ K := by
  obtain ⟨d, rfl⟩ := d
  exact x_irem d hne k
theorem z_ldiv {x y : Int64} (d : decode Y.2.1 pc = .ok (.ldiv, 1) ∧ pc + 1 = pc') (hne : ¬ y = 0) (k : Wz E Y pc' lv (.long (x / y) :: st) σ K) : Wz E Y pc lv (.long y :: .long x :: st) σ K := by
  obtain ⟨d, rfl⟩ := d
  exact x_ldiv d hne k
theorem z_lrem {x y : Int64} (d : decode Y.2.1 pc = .ok (.lrem, 1) ∧ pc + 1 = pc') (hne : ¬ y = 0) (k : Wz E Y pc' lv (.long (x - x / y * y) :: st) σ K) : Wz E Y pc lv (.long y :: .long x :: st) σ K := by
  obtain ⟨d, rfl⟩ := d
  exact x_lrem d hne k
theorem z_ineg {x : Int32} (d : decode Y.2.1 pc = .ok (.ineg, 1) ∧ pc + 1 = pc') (k : Wz E Y pc' lv (.int (-x) :: st) σ K) : Wz E Y pc lv (.int x :: st) σ K := by
  obtain ⟨d, rfl⟩ := d
  exact x_ineg d k
theorem z_lneg {x : Int64} (d : decode Y.2.1 pc = .ok (.lneg, 1) ∧ pc + 1 = pc') (k : Wz E Y pc' lv (.long (-x) :: st) σ K) : Wz E Y pc lv (.long x :: st) σ K := by
  obtain ⟨d, rfl⟩ := d
  exact x_lneg d k
theorem z_iushr {x y v : Int32} (d : decode Y.2.1 pc = .ok (.iushr, 1) ∧ pc + 1 = pc') (hv : (x.toUInt32 >>> (y.toUInt32 &&& Int32.toUInt32 31)).toInt32 = v) (k : Wz E Y pc' lv (.int v :: st) σ K) : Wz E Y pc lv (.int y :: .int x :: st) σ K := by
  obtain ⟨d, rfl⟩ := d
  exact x_iushr d hv k
theorem z_lshl {x v : Int64} {y : Int32} (d : decode Y.2.1 pc = .ok (.lshl, 1) ∧ pc + 1 = pc') (hv : x <<< (y.toInt64 &&& 63) = v) (k : Wz E Y pc' lv (.long v :: st) σ K) : Wz E Y pc lv (.int y :: .long x :: st) σ K := by
  obtain ⟨d, rfl⟩ := d
  exact x_lshl d hv k
theorem z_lshr {x v : Int64} {y : Int32} (d : decode Y.2.1 pc = .ok (.lshr, 1) ∧ pc + 1 = pc') (hv : x >>> (y.toInt64 &&& 63) = v) (k : Wz E Y pc' lv (.long v :: st) σ K) : Wz E Y pc lv (.int y :: .long x :: st) σ K := by
  obtain ⟨d, rfl⟩ := d
  exact x_lshr d hv k
theorem z_lushr {x v : Int64} {y : Int32} (d : decode Y.2.1 pc = .ok (.lushr, 1) ∧ pc + 1 = pc') (hv : (x.toUInt64 >>> (y.toInt64.toUInt64 &&& Int64.toUInt64 63)).toInt64 = v) (k : Wz E Y pc' lv (.long v :: st) σ K) : Wz E Y pc lv (.int y :: .long x :: st) σ K := by
  obtain ⟨d, rfl⟩ := d
  exact x_lushr d hv k
theorem z_i2l {x : Int32} {v : Int64} (d : decode Y.2.1 pc = .ok (.i2l, 1) ∧ pc + 1 = pc') (hv : x.toInt64 = v) (k : Wz E Y pc' lv (.long v :: st) σ K) : Wz E Y pc lv (.int x :: st) σ K := by
  obtain ⟨d, rfl⟩ := d
  exact x_i2l d hv k
theorem z_l2i {x : Int64} {v : Int32} (d : decode Y.2.1 pc = .ok (.l2i, 1) ∧ pc + 1 = pc') (hv : x.toInt32 = v) (k : Wz E Y pc' lv (.int v :: st) σ K) : Wz E Y pc lv (.long x :: st) σ K := by
  obtain ⟨d, rfl⟩ := d
  exact x_l2i d hv k
theorem z_i2c {x : Int32} {v : Int32} (d : decode Y.2.1 pc = .ok (.i2c, 1) ∧ pc + 1 = pc') (hv : (x.toUInt32 % 65536).toInt32 = v) (k : Wz E Y pc' lv (.int v :: st) σ K) : Wz E Y pc lv (.int x :: st) σ K := by
  obtain ⟨d, rfl⟩ := d
  exact x_i2c d hv k
theorem z_lcmp {x y : Int64} (d : decode Y.2.1 pc = .ok (.lcmp, 1) ∧ pc + 1 = pc') (k : Wz E Y pc' lv (.int (lg_cmp x y) :: st) σ K) : Wz E Y pc lv (.long y :: .long x :: st) σ K := by
  obtain ⟨d, rfl⟩ := d
  exact x_lcmp d k
theorem z_dupi {x : Int32} (d : decode Y.2.1 pc = .ok (.dup, 1) ∧ pc + 1 = pc') (k : Wz E Y pc' lv (.int x :: .int x :: st) σ K) : Wz E Y pc lv (.int x :: st) σ K := by
  obtain ⟨d, rfl⟩ := d
  exact x_dupi d k
theorem z_dupr {x : Nat} (d : decode Y.2.1 pc = .ok (.dup, 1) ∧ pc + 1 = pc') (k : Wz E Y pc' lv (.ref x :: .ref x :: st) σ K) : Wz E Y pc lv (.ref x :: st) σ K := by
  obtain ⟨d, rfl⟩ := d
  exact x_dupr d k
theorem z_popi {x : Int32} (d : decode Y.2.1 pc = .ok (.pop, 1) ∧ pc + 1 = pc') (k : Wz E Y pc' lv st σ K) : Wz E Y pc lv (.int x :: st) σ K := by
  obtain ⟨d, rfl⟩ := d
  exact x_popi d k
theorem z_dup2ir {i : Int32} {x : Nat} (d : decode Y.2.1 pc = .ok (.dup2, 1) ∧ pc + 1 = pc') (k : Wz E Y pc' lv (.int i :: .ref x :: .int i :: .ref x :: st) σ K) : Wz E Y pc lv (.int i :: .ref x :: st) σ K := by
  obtain ⟨d, rfl⟩ := d
  exact x_dup2ir d k
theorem z_dup2l {x : Int64} (d : decode Y.2.1 pc = .ok (.dup2, 1) ∧ pc + 1 = pc') (k : Wz E Y pc' lv (.long x :: .long x :: st) σ K) : Wz E Y pc lv (.long x :: st) σ K := by
  obtain ⟨d, rfl⟩ := d
  exact x_dup2l d k
theorem z_if_eq {x : Int32} {off : Int} {tgt : Nat} (d : decode Y.2.1 pc = .ok (.ifCond .eq off, 3) ∧ (pc : Int) + off = (tgt : Int) ∧ pc + 3 = pc') (kt : x = 0 → Wz E Y tgt lv st σ K) (kf : ¬ x = 0 → Wz E Y pc' lv st σ K) : Wz E Y pc lv (.int x :: st) σ K := by
  obtain ⟨d, ht, rfl⟩ := d
  exact x_if_eq d ht kt kf
theorem z_icmp_eq {x y : Int32} {off : Int} {tgt : Nat} (d : decode Y.2.1 pc = .ok (.if_icmp .eq off, 3) ∧ (pc : Int) + off = (tgt : Int) ∧ pc + 3 = pc') (kt : x = y → Wz E Y tgt lv st σ K) (kf : ¬ x = y → Wz E Y pc' lv st σ K) : Wz E Y pc lv (.int y :: .int x :: st) σ K := by
  obtain ⟨d, ht, rfl⟩ := d
  exact x_icmp_eq d ht kt kf
theorem z_if_ne {x : Int32} {off : Int} {tgt : Nat} (d : decode Y.2.1 pc = .ok (.ifCond .ne off, 3) ∧ (pc : Int) + off = (tgt : Int) ∧ pc + 3 = pc') (kt : ¬ x = 0 → Wz E Y tgt lv st σ K) (kf : x = 0 → Wz E Y pc' lv st σ K) : Wz E Y pc lv (.int x :: st) σ K := by
  obtain ⟨d, ht, rfl⟩ := d
  exact x_if_ne d ht kt kf
theorem z_icmp_ne {x y : Int32} {off : Int} {tgt : Nat} (d : decode Y.2.1 pc = .ok (.if_icmp .ne off, 3) ∧ (pc : Int) + off = (tgt : Int) ∧ pc + 3 = pc') (kt : ¬ x = y → Wz E Y tgt lv st σ K) (kf : x = y → Wz E Y pc' lv st σ K) : Wz E Y pc lv (.int y :: .int x :: st) σ K := by
  obtain ⟨d, ht, rfl⟩ := d
  exact x_icmp_ne d ht kt kf
theorem z_if_lt {x : Int32} {off : Int} {tgt : Nat} (d : decode Y.2.1 pc = .ok (.ifCond .lt off, 3) ∧ (pc : Int) + off = (tgt : Int) ∧ pc + 3 = pc') (kt : x < 0 → Wz E Y tgt lv st σ K) (kf : ¬ x < 0 → Wz E Y pc' lv st σ K) : Wz E Y pc lv (.int x :: st) σ K := by
  obtain ⟨d, ht, rfl⟩ := d
  exact x_if_lt d ht kt kf
theorem z_icmp_lt {x y : Int32} {off : Int} {tgt : Nat} (d : decode Y.2.1 pc = .ok (.if_icmp .lt off, 3) ∧ (pc : Int) + off = (tgt : Int) ∧ pc + 3 = pc') (kt : x < y → Wz E Y tgt lv st σ K) (kf : ¬ x < y → Wz E Y pc' lv st σ K) : Wz E Y pc lv (.int y :: .int x :: st) σ K := by
  obtain ⟨d, ht, rfl⟩ := d
  exact x_icmp_lt d ht kt kf
theorem z_if_ge {x : Int32} {off : Int} {tgt : Nat} (d : decode Y.2.1 pc = .ok (.ifCond .ge off, 3) ∧ (pc : Int) + off = (tgt : Int) ∧ pc + 3 = pc') (kt : 0 ≤ x → Wz E Y tgt lv st σ K) (kf : ¬ 0 ≤ x → Wz E Y pc' lv st σ K) : Wz E Y pc lv (.int x :: st) σ K := by
  obtain ⟨d, ht, rfl⟩ := d
  exact x_if_ge d ht kt kf
theorem z_icmp_ge {x y : Int32} {off : Int} {tgt : Nat} (d : decode Y.2.1 pc = .ok (.if_icmp .ge off, 3) ∧ (pc : Int) + off = (tgt : Int) ∧ pc + 3 = pc') (kt : y ≤ x → Wz E Y tgt lv st σ K) (kf : ¬ y ≤ x → Wz E Y pc' lv st σ K) : Wz E Y pc lv (.int y :: .int x :: st) σ K := by
  obtain ⟨d, ht, rfl⟩ := d
  exact x_icmp_ge d ht kt kf
theorem z_if_gt {x : Int32} {off : Int} {tgt : Nat} (d : decode Y.2.1 pc = .ok (.ifCond .gt off, 3) ∧ (pc : Int) + off = (tgt : Int) ∧ pc + 3 = pc') (kt : 0 < x → Wz E Y tgt lv st σ K) (kf : ¬ 0 < x → Wz E Y pc' lv st σ K) : Wz E Y pc lv (.int x :: st) σ K := by
  obtain ⟨d, ht, rfl⟩ := d
  exact x_if_gt d ht kt kf
theorem z_icmp_gt {x y : Int32} {off : Int} {tgt : Nat} (d : decode Y.2.1 pc = .ok (.if_icmp .gt off, 3) ∧ (pc : Int) + off = (tgt : Int) ∧ pc + 3 = pc') (kt : y < x → Wz E Y tgt lv st σ K) (kf : ¬ y < x → Wz E Y pc' lv st σ K) : Wz E Y pc lv (.int y :: .int x :: st) σ K := by
  obtain ⟨d, ht, rfl⟩ := d
  exact x_icmp_gt d ht kt kf
theorem z_if_le {x : Int32} {off : Int} {tgt : Nat} (d : decode Y.2.1 pc = .ok (.ifCond .le off, 3) ∧ (pc : Int) + off = (tgt : Int) ∧ pc + 3 = pc') (kt : x ≤ 0 → Wz E Y tgt lv st σ K) (kf : ¬ x ≤ 0 → Wz E Y pc' lv st σ K) : Wz E Y pc lv (.int x :: st) σ K := by
  obtain ⟨d, ht, rfl⟩ := d
  exact x_if_le d ht kt kf
theorem z_icmp_le {x y : Int32} {off : Int} {tgt : Nat} (d : decode Y.2.1 pc = .ok (.if_icmp .le off, 3) ∧ (pc : Int) + off = (tgt : Int) ∧ pc + 3 = pc') (kt : x ≤ y → Wz E Y tgt lv st σ K) (kf : ¬ x ≤ y → Wz E Y pc' lv st σ K) : Wz E Y pc lv (.int y :: .int x :: st) σ K := by
  obtain ⟨d, ht, rfl⟩ := d
  exact x_icmp_le d ht kt kf
theorem z_goto {off : Int} {tgt : Nat} (d : decode Y.2.1 pc = .ok (.goto off, 3) ∧ (pc : Int) + off = (tgt : Int) ∧ pc + 3 = pc') (k : Wz E Y tgt lv st σ K) : Wz E Y pc lv st σ K := by
  obtain ⟨d, ht, rfl⟩ := d
  exact x_goto d ht k
theorem z_sub (ks : List Nat) (h : lv_pick lv ks = lv') (k : Wz E Y pc lv' st σ K) : Wz E Y pc lv st σ K := x_sub ks h k
theorem z_geti {k j idx ci : Nat} {l : List Nat} {ty : FieldType} {fin : Bool} (F : xFl Y.1.cls idx ci j ty fin) (hk : k < 215) (hd : KD k = (ci, l)) (hc : ci < 100) (hj : l[j]? = some 0) (d : decode Y.2.1 pc = .ok (.getfield idx, 3) ∧ pc + 3 = pc') (kk : Wz E Y pc' lv (.int (σ.1 k j) :: st) σ K) : Wz E Y pc lv (.ref k :: st) σ K := by
  obtain ⟨d, rfl⟩ := d
  exact x_geti F hk hd hc hj d kk
theorem z_getj {k j idx ci : Nat} {l : List Nat} {ty : FieldType} {fin : Bool} (F : xFl Y.1.cls idx ci j ty fin) (hk : k < 215) (hd : KD k = (ci, l)) (hc : ci < 100) (hj : l[j]? = some 1) (d : decode Y.2.1 pc = .ok (.getfield idx, 3) ∧ pc + 3 = pc') (kk : Wz E Y pc' lv (.long (σ.2 k j) :: st) σ K) : Wz E Y pc lv (.ref k :: st) σ K := by
  obtain ⟨d, rfl⟩ := d
  exact x_getj F hk hd hc hj d kk
theorem z_getr {k j i idx ci : Nat} {l : List Nat} {ty : FieldType} {fin : Bool} (F : xFl Y.1.cls idx ci j ty fin) (hk : k < 215) (hd : KD k = (ci, l)) (hc : ci < 100) (hj : l[j]? = some 2) (hr : RF k j = i + 1) (d : decode Y.2.1 pc = .ok (.getfield idx, 3) ∧ pc + 3 = pc') (kk : Wz E Y pc' lv (.ref i :: st) σ K) : Wz E Y pc lv (.ref k :: st) σ K := by
  obtain ⟨d, rfl⟩ := d
  exact x_getr F hk hd hc hj hr d kk
theorem z_puti {k j idx ci : Nat} {l : List Nat} {ty : FieldType} {v : Int32} (F : xFl Y.1.cls idx ci j ty false) (hk : k < 215) (hd : KD k = (ci, l)) (hc : ci < 100) (hj : l[j]? = some 0) (hw : narrow ty (.int v) = .int v) (hf : fits ty (.int v) = true) (d : decode Y.2.1 pc = .ok (.putfield idx, 3) ∧ pc + 3 = pc') (kk : Wz E Y pc' lv st (zI σ k j v) K) : Wz E Y pc lv (.int v :: .ref k :: st) σ K := by
  obtain ⟨d, rfl⟩ := d
  exact x_puti F hk hd hc hj hw hf d kk
theorem z_putj {k j idx ci : Nat} {l : List Nat} {v : Int64} (F : xFl Y.1.cls idx ci j .long false) (hk : k < 215) (hd : KD k = (ci, l)) (hc : ci < 100) (hj : l[j]? = some 1) (d : decode Y.2.1 pc = .ok (.putfield idx, 3) ∧ pc + 3 = pc') (kk : Wz E Y pc' lv st (zJ σ k j v) K) : Wz E Y pc lv (.long v :: .ref k :: st) σ K := by
  obtain ⟨d, rfl⟩ := d
  exact x_putj F hk hd hc hj d kk
theorem z_iald {k z : Nat} {i : Int32} (hk : k < 215) (hd : KD k = (100, [z])) (hi : vp_in i z) (d : decode Y.2.1 pc = .ok (.iaload, 1) ∧ pc + 1 = pc') (kk : Wz E Y pc' lv (.int (σ.1 k i.toNatClampNeg) :: st) σ K) : Wz E Y pc lv (.int i :: .ref k :: st) σ K := by
  obtain ⟨d, rfl⟩ := d
  exact x_iald hk hd hi d kk
theorem z_zald {k z : Nat} {i : Int32} (hk : k < 215) (hd : KD k = (102, [z])) (hi : vp_in i z) (d : decode Y.2.1 pc = .ok (.baload, 1) ∧ pc + 1 = pc') (kk : Wz E Y pc' lv (.int (σ.1 k i.toNatClampNeg) :: st) σ K) : Wz E Y pc lv (.int i :: .ref k :: st) σ K := by
  obtain ⟨d, rfl⟩ := d
  exact x_zald hk hd hi d kk
theorem z_lald {k z : Nat} {i : Int32} (hk : k < 215) (hd : KD k = (101, [z])) (hi : vp_in i z) (d : decode Y.2.1 pc = .ok (.laload, 1) ∧ pc + 1 = pc') (kk : Wz E Y pc' lv (.long (σ.2 k i.toNatClampNeg) :: st) σ K) : Wz E Y pc lv (.int i :: .ref k :: st) σ K := by
  obtain ⟨d, rfl⟩ := d
  exact x_lald hk hd hi d kk
theorem z_iast {k z : Nat} {i : Int32} {x : Int32} (hk : k < 215) (hd : KD k = (100, [z])) (hi : vp_in i z) (d : decode Y.2.1 pc = .ok (.iastore, 1) ∧ pc + 1 = pc') (kk : Wz E Y pc' lv st (zI σ k i.toNatClampNeg x) K) : Wz E Y pc lv (.int x :: .int i :: .ref k :: st) σ K := by
  obtain ⟨d, rfl⟩ := d
  exact x_iast hk hd hi d kk
theorem z_zast {k z : Nat} {i : Int32} {x : Int32} (hk : k < 215) (hd : KD k = (102, [z])) (hi : vp_in i z) (d : decode Y.2.1 pc = .ok (.bastore, 1) ∧ pc + 1 = pc') (kk : Wz E Y pc' lv st (zI σ k i.toNatClampNeg (vp_nar .boolean x)) K) : Wz E Y pc lv (.int x :: .int i :: .ref k :: st) σ K := by
  obtain ⟨d, rfl⟩ := d
  exact x_zast hk hd hi d kk
theorem z_last {k z : Nat} {i : Int32} {x : Int64} (hk : k < 215) (hd : KD k = (101, [z])) (hi : vp_in i z) (d : decode Y.2.1 pc = .ok (.lastore, 1) ∧ pc + 1 = pc') (kk : Wz E Y pc' lv st (zJ σ k i.toNatClampNeg x) K) : Wz E Y pc lv (.long x :: .int i :: .ref k :: st) σ K := by
  obtain ⟨d, rfl⟩ := d
  exact x_last hk hd hi d kk
theorem z_iret {v : Int32} {ty : FieldType} (hr : Y.2.2.2.1 = some ty) (hw : narrow ty (.int v) = .int v) (d : decode Y.2.1 pc = .ok (.ireturn, 1)) (hK : K (some (.int v)) σ) : Wz E Y pc lv [.int v] σ K := x_iret hr hw d (Nat.zero_le _) (Nat.zero_le _) ⟨rfl, σ, rfl, hK⟩
theorem z_lret {v : Int64} (hr : Y.2.2.2.1 = some .long) (d : decode Y.2.1 pc = .ok (.lreturn, 1)) (hK : K (some (.long v)) σ) : Wz E Y pc lv [.long v] σ K := x_lret hr d (Nat.zero_le _) (Nat.zero_le _) ⟨rfl, σ, rfl, hK⟩
theorem z_vret (hr : Y.2.2.2.1 = none) (d : decode Y.2.1 pc = .ok (.return_, 1)) (hK : K none σ) : Wz E Y pc lv [] σ K := x_vret hr d (Nat.zero_le _) (Nat.zero_le _) ⟨rfl, σ, rfl, hK⟩
theorem z_entry {av : List Value} {lv0 : List (Nat × Value)} (hy : plainName Y.1.cls = true) (hlen : ∀ a, (lg_sl (av.map (xrel a))).length ≤ Y.2.2.1) (hlv : lv_args 0 av = lv0) (k : Wz E Y 0 lv0 [] σ K) : Cz E Y av σ K := x_entry hy hlen hlv k
def zRm (Y Z : xY) : Prop := (Z.2.2.2.2.frames + 1 ≤ Y.2.2.2.2.frames ∧ 8 + (Z.2.2.1 + 11) + Z.2.2.2.2.locals ≤ Y.2.2.2.2.locals) ∧ (Z.2.2.2.2.cells = 0 ∧ Z.2.2.2.2.slots = 0)
theorem zRm.x {Y Z : xY} (h : zRm Y Z) : xRm Y Z 0 0 := ⟨h.1, by rw [h.2.1]; exact Nat.zero_le _, by rw [h.2.2]; exact Nat.zero_le _⟩
theorem z_after {Y Z : xY} {rest : List Value} (hrm : zRm Y Z) : ∀ (v : Option Value) (n' : Nat) (s' : xS), zK (fun v σ' => Wz E Y pc lv (v.toList ++ rest) σ' K) v n' s' → Wx E Y pc lv (v.toList ++ rest) n' (0 + Z.2.2.2.2.cells) (0 + Z.2.2.2.2.slots) s' (xMQ E Y (zK K)) := by
  intro v n' s' ⟨h1, σ1, h2, h3⟩
  subst h1
  subst h2
  rw [hrm.2.1, hrm.2.2]
  exact h3
theorem z_invV {Z : xY} {idx kb ci : Nat} {As rest : List Value} {l : List Nat} {nA : Nat} (hM : xM Y.1.cls idx Z nA) (hin : Cond.instanceMethod Z.1 ∈ TBg) (hsel : Cond.selects Z.1.cls Z.1 Z.1 ∈ TBg) (hk : kb < 215) (hd : KD kb = (ci, l)) (hc : ci < 100) (hcn : (cls[ci]?.map fun q => q.1) = some Z.1.cls) (hrm : zRm Y Z) (d : decode Y.2.1 pc = .ok (.invokevirtual idx, 3) ∧ pc + 3 = pc') (hA : As.length = nA) (hst : st = As.reverse ++ .ref kb :: rest) (hcat : (rest.map fun v => v.category).sum ≤ 8) (hlv : (lv.all fun q => xokv 215 q.2) = true) (hrs : (rest.all (xokv 215)) = true)
    (kk : Cz E Z (.ref kb :: As) σ (fun v σ' => Wz E Y pc' lv (v.toList ++ rest) σ' K)) : Wz E Y pc lv st σ K := by
  obtain ⟨d, rfl⟩ := d
  exact x_invV d hM hin hsel hA hst hk hd hc hcn hrm.x hcat hlv hrs (Cx.mono kk (z_after hrm))
theorem z_invS {Z : xY} {idx : Nat} {As rest : List Value} {nA : Nat} (hM : xM Y.1.cls idx Z nA) (hstat : Cond.static Z.1 ∈ TBg) (hrm : zRm Y Z) (d : decode Y.2.1 pc = .ok (.invokestatic idx, 3) ∧ pc + 3 = pc') (hA : As.length = nA) (hst : st = As.reverse ++ rest) (hcat : (rest.map fun v => v.category).sum ≤ 8) (hlv : (lv.all fun q => xokv 215 q.2) = true) (hrs : (rest.all (xokv 215)) = true)
    (kk : Cz E Z As σ (fun v σ' => Wz E Y pc' lv (v.toList ++ rest) σ' K)) : Wz E Y pc lv st σ K := by
  obtain ⟨d, rfl⟩ := d
  exact x_invS d hM hstat hA hst hrm.x hcat hlv hrs (Cx.mono kk (z_after hrm))
theorem z_tableIn {dflt lo hi : Int} {offs : Array Int} {len : Nat} {x : Int32} {off : Int} {tgt : Nat} (d : decode Y.2.1 pc = .ok (.tableswitch dflt lo hi offs, len)) (h1 : ¬ x.toInt < lo) (h2 : ¬ hi < x.toInt) (ho : offs[(x.toInt - lo).toNat]? = some off) (ht : (pc : Int) + off = (tgt : Int)) (k : Wz E Y tgt lv st σ K) : Wz E Y pc lv (.int x :: st) σ K := x_tableIn d h1 h2 ho ht k
theorem z_tableOut {dflt lo hi : Int} {offs : Array Int} {len : Nat} {x : Int32} {tgt : Nat} (d : decode Y.2.1 pc = .ok (.tableswitch dflt lo hi offs, len)) (h : x.toInt < lo ∨ hi < x.toInt) (ht : (pc : Int) + dflt = (tgt : Int)) (k : Wz E Y tgt lv st σ K) : Wz E Y pc lv (.int x :: st) σ K := x_tableOut d h ht k
theorem z_lookup {dflt : Int} {ps : Array (Int × Int)} {len : Nat} {x : Int32} {off : Int} {tgt : Nat} (d : decode Y.2.1 pc = .ok (.lookupswitch dflt ps, len)) (hp : (ps.toList.zip (ps.toList.drop 1)).all (fun (a, next) => a.1 < next.1) = true) (ho : Op.lookupswitch.offset ps.toList dflt x.toInt = off) (ht : (pc : Int) + off = (tgt : Int)) (k : Wz E Y tgt lv st σ K) : Wz E Y pc lv (.int x :: st) σ K := x_lookup d hp ho ht k
def zIr (σ : zS) (k : Nat) (f : Nat → Int32) : zS := (xup σ.1 k f, σ.2)
def zJr (σ : zS) (k : Nat) (f : Nat → Int64) : zS := (σ.1, xup σ.2 k f)
theorem z_copyi {idx k0 k1 z0 z1 : Nat} {sp dp v : Int32} (w1 : Cond.methodLink Y.1.cls idx arraycopyName ∈ TBg) (w2 : Cond.native arraycopyName ∈ TBg) (w3 : Cond.static arraycopyName ∈ TBg) (w4 : Cond.initialized "java/lang/System" ∈ TBg) (hk0 : k0 < 215) (hk1 : k1 < 215) (hd0 : KD k0 = (100, [z0])) (hd1 : KD k1 = (100, [z1])) (hb : ¬ sp < 0 ∧ ¬ dp < 0 ∧ ¬ v < 0 ∧ sp.toNatClampNeg + v.toNatClampNeg ≤ z0 ∧ dp.toNatClampNeg + v.toNatClampNeg ≤ z1) (hfr : 1 ≤ Y.2.2.2.2.frames) (hlo : 40 ≤ Y.2.2.2.2.locals) (hcat : (st.map fun v => v.category).sum ≤ 8) (d : decode Y.2.1 pc = .ok (.invokestatic idx, 3) ∧ pc + 3 = pc')
    (kk : Wz E Y pc' lv st (zIr σ k1 (va_cpy (σ.1 k0) (σ.1 k1) sp.toNatClampNeg dp.toNatClampNeg v.toNatClampNeg)) K) : Wz E Y pc lv (.int v :: .int dp :: .ref k1 :: .int sp :: .ref k0 :: st) σ K := by
  obtain ⟨d, rfl⟩ := d
  exact x_copyi d w1 w2 w3 w4 hk0 hk1 hd0 hd1 hb.1 hb.2.1 hb.2.2.1 hb.2.2.2.1 hb.2.2.2.2 hfr hlo hcat kk
theorem z_copyl {idx k0 k1 z0 z1 : Nat} {sp dp v : Int32} (w1 : Cond.methodLink Y.1.cls idx arraycopyName ∈ TBg) (w2 : Cond.native arraycopyName ∈ TBg) (w3 : Cond.static arraycopyName ∈ TBg) (w4 : Cond.initialized "java/lang/System" ∈ TBg) (hk0 : k0 < 215) (hk1 : k1 < 215) (hd0 : KD k0 = (101, [z0])) (hd1 : KD k1 = (101, [z1])) (hb : ¬ sp < 0 ∧ ¬ dp < 0 ∧ ¬ v < 0 ∧ sp.toNatClampNeg + v.toNatClampNeg ≤ z0 ∧ dp.toNatClampNeg + v.toNatClampNeg ≤ z1) (hfr : 1 ≤ Y.2.2.2.2.frames) (hlo : 40 ≤ Y.2.2.2.2.locals) (hcat : (st.map fun v => v.category).sum ≤ 8) (d : decode Y.2.1 pc = .ok (.invokestatic idx, 3) ∧ pc + 3 = pc')
    (kk : Wz E Y pc' lv st (zJr σ k1 (va_cpy (σ.2 k0) (σ.2 k1) sp.toNatClampNeg dp.toNatClampNeg v.toNatClampNeg)) K) : Wz E Y pc lv (.int v :: .int dp :: .ref k1 :: .int sp :: .ref k0 :: st) σ K := by
  obtain ⟨d, rfl⟩ := d
  exact x_copyl d w1 w2 w3 w4 hk0 hk1 hd0 hd1 hb.1 hb.2.1 hb.2.2.1 hb.2.2.2.1 hb.2.2.2.2 hfr hlo hcat kk
theorem z_max {idx : Nat} {x y : Int32} (w1 : Cond.methodLink Y.1.cls idx Lib.Math.max.name ∈ TBg) (w2 : Cond.static Lib.Math.max.name ∈ TBg) (w3 : Cond.initialized "java/lang/Math" ∈ TBg) (w4 : Cond.code Lib.Math.max.name Lib.Math.max.code 2 (some .int) ∈ TBg) (hfr : 1 ≤ Y.2.2.2.2.frames) (hlo : 40 ≤ Y.2.2.2.2.locals) (hcat : (st.map fun v => v.category).sum ≤ 8) (d : decode Y.2.1 pc = .ok (.invokestatic idx, 3) ∧ pc + 3 = pc')
    (kk : Wz E Y pc' lv (.int (if x < y then y else x) :: st) σ K) : Wz E Y pc lv (.int y :: .int x :: st) σ K := by
  obtain ⟨d, rfl⟩ := d
  exact x_max d w1 w2 w3 w4 hfr hlo (Nat.zero_le _) (Nat.zero_le _) hcat kk
end ZR
