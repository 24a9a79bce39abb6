def RFB : List (Nat × (Nat × Nat)) := [(110, (149, 215)), (110, (147, 214)), (110, (146, 213)), (110, (145, 212)), (110, (144, 211)), (110, (143, 210)), (110, (142, 209)), (110, (141, 208)), (110, (140, 207)), (110, (139, 206)), (110, (137, 205)), (110, (135, 204)), (110, (133, 203)), (110, (132, 202)), (110, (131, 201)), (110, (130, 200)), (110, (129, 199)), (110, (128, 198)), (110, (127, 197)), (110, (126, 196)), (110, (125, 195)), (110, (124, 194)), (110, (123, 193)), (110, (122, 192)), (110, (121, 191)), (110, (120, 190)), (110, (119, 189)), (110, (116, 188)), (110, (115, 187)), (110, (114, 186)), (110, (113, 185)), (110, (111, 184)), (110, (110, 183)), (110, (108, 182)), (110, (106, 181)), (110, (105, 180)), (110, (104, 179)), (110, (103, 178)), (110, (102, 177)), (110, (101, 176)), (110, (100, 175)), (110, (99, 174)), (110, (98, 173)), (110, (97, 172)), (110, (94, 171)), (110, (93, 170)), (110, (92, 169)), (110, (91, 168)), (110, (90, 167)), (110, (89, 166)), (110, (88, 165)), (110, (87, 164)), (110, (86, 163)), (110, (84, 162)), (110, (83, 161)), (110, (80, 160)), (110, (79, 159)), (110, (78, 158)), (110, (76, 157)), (110, (73, 156)), (110, (72, 155)), (110, (70, 154)), (110, (63, 153)), (110, (62, 152)), (110, (55, 151)), (110, (54, 150)), (110, (53, 149)), (110, (51, 148)), (110, (50, 147)), (110, (49, 146)), (110, (48, 145)), (110, (47, 144)), (110, (45, 143)), (110, (44, 142)), (110, (43, 141)), (110, (42, 140)), (110, (41, 139)), (110, (40, 138)), (110, (39, 137)), (110, (38, 136)), (110, (37, 135)), (110, (36, 134)), (110, (35, 133)), (110, (34, 132)), (110, (33, 131)), (110, (25, 130)), (110, (24, 129)), (110, (23, 128)), (110, (22, 127)), (110, (21, 126)), (110, (19, 125)), (110, (18, 124)), (110, (17, 123)), (110, (16, 122)), (110, (15, 121)), (110, (14, 120)), (110, (13, 119)), (110, (12, 118)), (110, (11, 117)), (110, (10, 116)), (110, (9, 115)), (110, (5, 114)), (110, (4, 113)), (110, (2, 112)), (0, (17, 99)), (98, (13, 110)), (98, (11, 109)), (98, (10, 108)), (98, (9, 107)), (98, (8, 106)), (98, (7, 105)), (98, (6, 104)), (98, (5, 103)), (98, (4, 102)), (98, (3, 101)), (98, (1, 100)), (0, (16, 71)), (70, (8, 98)), (70, (5, 97)), (70, (4, 76))] ++ (mnaL 75 20 ++ ([(70, (3, 75)), (70, (2, 74)), (70, (1, 73)), (70, (0, 72)), (0, (15, 60)), (59, (10, 70)), (59, (9, 69)), (59, (8, 68)), (59, (7, 67)), (59, (6, 66)), (59, (5, 65)), (59, (4, 64)), (59, (3, 63)), (59, (2, 62)), (59, (0, 61)), (0, (14, 53)), (52, (8, 59)), (52, (7, 58)), (52, (6, 57)), (52, (4, 56)), (52, (3, 55)), (52, (2, 54)), (52, (0, 11)), (0, (13, 42)), (41, (11, 52)), (41, (10, 51)), (41, (9, 50)), (41, (8, 49)), (41, (7, 48)), (41, (6, 47)), (41, (5, 46)), (41, (4, 45)), (41, (3, 44)), (41, (2, 43)), (41, (0, 6)), (0, (12, 35)), (34, (9, 41)), (34, (8, 40)), (34, (7, 39)), (34, (4, 38)), (34, (3, 37)), (34, (2, 36)), (34, (0, 6)), (0, (11, 28)), (27, (17, 34)), (27, (15, 33)), (27, (14, 32)), (27, (11, 31)), (27, (9, 30)), (27, (8, 29)), (27, (2, 18)), (27, (1, 11)), (27, (0, 6)), (0, (10, 18)), (17, (12, 27)), (17, (11, 26)), (17, (10, 25)), (17, (8, 24)), (17, (5, 23)), (17, (4, 22)), (17, (3, 21)), (17, (2, 20)), (17, (1, 19)), (17, (7, 11)), (17, (6, 6)), (0, (9, 11)), (10, (6, 17)), (10, (5, 16)), (10, (4, 15)), (10, (3, 14)), (10, (2, 13)), (10, (1, 12)), (0, (8, 6)), (5, (6, 10)), (5, (5, 9)), (5, (4, 8)), (5, (3, 7)), (0, (6, 5)), (0, (4, 4)), (0, (3, 3)), (0, (0, 2))]))
def RF : Nat → Nat → Nat := la RFB
abbrev zS : Type := (Nat → Nat → Int32) × (Nat → Nat → Int64)
abbrev zKt : Type := Option Value → zS → Prop
def zx (σ : zS) : xS := (σ.1, (σ.2, RF))
def zK (K : zKt) : xK := fun v n s => n = 215 ∧ ∃ σ : zS, s = zx σ ∧ K v σ
def Wz (E : xV) (Y : xY) (pc : Nat) (lv : List (Nat × Value)) (st : List Value) (σ : zS) (K : zKt) : Prop := Wx E Y pc lv st 215 0 0 (zx σ) (xMQ E Y (zK K))
def Cz (E : xV) (Y : xY) (av : List Value) (σ : zS) (K : zKt) : Prop := Cx E Y av 215 (zx σ) (zK K)
def zI (σ : zS) (k j : Nat) (v : Int32) : zS := (xup σ.1 k (upd (σ.1 k) j v), σ.2)
def zJ (σ : zS) (k j : Nat) (v : Int64) : zS := (σ.1, xup σ.2 k (vp_updL (σ.2 k) j v))
theorem Cz.mono {E : xV} {Y : xY} {av : List Value} {σ : zS} {K K' : zKt} (h : Cz E Y av σ K) (hk : ∀ v σ', K v σ' → K' v σ') : Cz E Y av σ K' := Cx.mono h (fun v n s ⟨h1, σ1, h2, h3⟩ => ⟨h1, σ1, h2, hk v σ1 h3⟩)
section ZR
variable {E : xV} {Y : xY} {pc pc' : Nat} {lv lv' : List (Nat × Value)} {st : List Value} {σ : zS} {K : zKt}
theorem z_iconst {i : Int} {v : Int32} (d : decode Y.2.1 pc = .ok (.iconst i, 1) ∧ pc + 1 = pc') (hv : Int32.ofInt i = v) (k : Wz E Y pc' lv (.int v :: st) σ K) : Wz E Y pc lv st σ K := by
  obtain ⟨d, rfl⟩ := d
  exact x_iconst d hv k
theorem z_bipush {i : Int} {v : Int32} (d : decode Y.2.1 pc = .ok (.bipush i, 2) ∧ pc + 2 = pc') (hv : (Int8.ofInt i).toInt32 = v) (k : Wz E Y pc' lv (.int v :: st) σ K) : Wz E Y pc lv st σ K := by
  obtain ⟨d, rfl⟩ := d
  exact x_bipush d hv k
theorem z_sipush {i : Int} {v : Int32} (d : decode Y.2.1 pc = .ok (.sipush i, 3) ∧ pc + 3 = pc') (hv : (Int16.ofInt i).toInt32 = v) (k : Wz E Y pc' lv (.int v :: st) σ K) : Wz E Y pc lv st σ K := by
  obtain ⟨d, rfl⟩ := d
  exact x_sipush d hv k
theorem z_lconst {i : Fin 2} {v : Int64} (d : decode Y.2.1 pc = .ok (.lconst i, 1) ∧ pc + 1 = pc') (hv : Int64.ofNat (i : Nat) = v) (k : Wz E Y pc' lv (.long v :: st) σ K) : Wz E Y pc lv st σ K := by
  obtain ⟨d, rfl⟩ := d
  exact x_lconst d hv k
theorem z_ldc {i : Nat} {v : Int32} (d : decode Y.2.1 pc = .ok (.ldc i, 2) ∧ pc + 2 = pc') (hw : Cond.constant Y.1.cls i v ∈ TBg) (k : Wz E Y pc' lv (.int v :: st) σ K) : Wz E Y pc lv st σ K := by
  obtain ⟨d, rfl⟩ := d
  exact x_ldc d hw k
theorem z_ldcw {i : Nat} {v : Int32} (d : decode Y.2.1 pc = .ok (.ldc_w i, 3) ∧ pc + 3 = pc') (hw : Cond.constant Y.1.cls i v ∈ TBg) (k : Wz E Y pc' lv (.int v :: st) σ K) : Wz E Y pc lv st σ K := by
  obtain ⟨d, rfl⟩ := d
  exact x_ldcw d hw k
theorem z_ldc2 {i : Nat} {v : Int64} (d : decode Y.2.1 pc = .ok (.ldc2_w i, 3) ∧ pc + 3 = pc') (hw : Cond.constantLong Y.1.cls i v ∈ TBg) (k : Wz E Y pc' lv (.long v :: st) σ K) : Wz E Y pc lv st σ K := by
  obtain ⟨d, rfl⟩ := d
  exact x_ldc2 d hw k
theorem z_iload_n {f : Fin 4} {i q : Nat} {x : Int32} (d : decode Y.2.1 pc = .ok (.iload_n f, 1) ∧ pc + 1 = pc') (hi : (f : Nat) = i) (hq : lv[q]? = some (i, .int x)) (k : Wz E Y pc' lv (.int x :: st) σ K) : Wz E Y pc lv st σ K := by
  obtain ⟨d, rfl⟩ := d
  exact x_iload_n d hi hq k
theorem z_iload {i q : Nat} {x : Int32} (d : decode Y.2.1 pc = .ok (.iload i, 2) ∧ pc + 2 = pc') (hq : lv[q]? = some (i, .int x)) (k : Wz E Y pc' lv (.int x :: st) σ K) : Wz E Y pc lv st σ K := by
  obtain ⟨d, rfl⟩ := d
  exact x_iload d hq k
theorem z_lload_n {f : Fin 4} {i q : Nat} {x : Int64} (d : decode Y.2.1 pc = .ok (.lload_n f, 1) ∧ pc + 1 = pc') (hi : (f : Nat) = i) (hq : lv[q]? = some (i, .long x)) (k : Wz E Y pc' lv (.long x :: st) σ K) : Wz E Y pc lv st σ K := by
  obtain ⟨d, rfl⟩ := d
  exact x_lload_n d hi hq k
theorem z_lload {i q : Nat} {x : Int64} (d : decode Y.2.1 pc = .ok (.lload i, 2) ∧ pc + 2 = pc') (hq : lv[q]? = some (i, .long x)) (k : Wz E Y pc' lv (.long x :: st) σ K) : Wz E Y pc lv st σ K := by
  obtain ⟨d, rfl⟩ := d
  exact x_lload d hq k
theorem z_aload_n {f : Fin 4} {i q : Nat} {x : Nat} (d : decode Y.2.1 pc = .ok (.aload_n f, 1) ∧ pc + 1 = pc') (hi : (f : Nat) = i) (hq : lv[q]? = some (i, .ref x)) (k : Wz E Y pc' lv (.ref x :: st) σ K) : Wz E Y pc lv st σ K := by
  obtain ⟨d, rfl⟩ := d
  exact x_aload_n d hi hq k
theorem z_aload {i q : Nat} {x : Nat} (d : decode Y.2.1 pc = .ok (.aload i, 2) ∧ pc + 2 = pc') (hq : lv[q]? = some (i, .ref x)) (k : Wz E Y pc' lv (.ref x :: st) σ K) : Wz E Y pc lv st σ K := by
  obtain ⟨d, rfl⟩ := d
  exact x_aload d hq k
theorem z_istore_n {f : Fin 4} {i : Nat} {x : Int32} (d : decode Y.2.1 pc = .ok (.istore_n f, 1) ∧ pc + 1 = pc') (hi : (f : Nat) = i) (hn : i < Y.2.2.1) (hl' : (i, Value.int x) :: lv.filter (fun q => !(q.1 == i) && !(q.1 + 1 == i && q.2.category == 2)) = lv') (k : Wz E Y pc' lv' st σ K) : Wz E Y pc lv (.int x :: st) σ K := by
  obtain ⟨d, rfl⟩ := d
  exact x_istore_n d hi hn hl' k
theorem z_istore {i : Nat} {x : Int32} (d : decode Y.2.1 pc = .ok (.istore i, 2) ∧ pc + 2 = pc') (hn : i < Y.2.2.1) (hl' : (i, Value.int x) :: lv.filter (fun q => !(q.1 == i) && !(q.1 + 1 == i && q.2.category == 2)) = lv') (k : Wz E Y pc' lv' st σ K) : Wz E Y pc lv (.int x :: st) σ K := by
  obtain ⟨d, rfl⟩ := d
  exact x_istore d hn hl' k
theorem z_lstore_n {f : Fin 4} {i : Nat} {x : Int64} (d : decode Y.2.1 pc = .ok (.lstore_n f, 1) ∧ pc + 1 = pc') (hi : (f : Nat) = i) (hn : i + 1 < Y.2.2.1) (hl' : (i, Value.long x) :: lv.filter (fun q => !(q.1 == i) && (!(q.1 == i + 1) && !(q.1 + 1 == i && q.2.category == 2))) = lv') (k : Wz E Y pc' lv' st σ K) : Wz E Y pc lv (.long x :: st) σ K := by
  obtain ⟨d, rfl⟩ := d
  exact x_lstore_n d hi hn hl' k
theorem z_lstore {i : Nat} {x : Int64} (d : decode Y.2.1 pc = .ok (.lstore i, 2) ∧ pc + 2 = pc') (hn : i + 1 < Y.2.2.1) (hl' : (i, Value.long x) :: lv.filter (fun q => !(q.1 == i) && (!(q.1 == i + 1) && !(q.1 + 1 == i && q.2.category == 2))) = lv') (k : Wz E Y pc' lv' st σ K) : Wz E Y pc lv (.long x :: st) σ K := by
  obtain ⟨d, rfl⟩ := d
  exact x_lstore d hn hl' k
theorem z_astore_n {f : Fin 4} {i : Nat} {x : Nat} (d : decode Y.2.1 pc = .ok (.astore_n f, 1) ∧ pc + 1 = pc') (hi : (f : Nat) = i) (hn : i < Y.2.2.1) (hl' : (i, Value.ref x) :: lv.filter (fun q => !(q.1 == i) && !(q.1 + 1 == i && q.2.category == 2)) = lv') (k : Wz E Y pc' lv' st σ K) : Wz E Y pc lv (.ref x :: st) σ K := by
  obtain ⟨d, rfl⟩ := d
  exact x_astore_n d hi hn hl' k
theorem z_iinc {i q : Nat} {z : Int} {x v : Int32} (d : decode Y.2.1 pc = .ok (.iinc i z, 3) ∧ pc + 3 = pc') (hq : lv[q]? = some (i, .int x)) (hv : x + Int32.ofInt z = v) (hn : i < Y.2.2.1) (hl' : (i, Value.int v) :: lv.filter (fun q => !(q.1 == i) && !(q.1 + 1 == i && q.2.category == 2)) = lv') (k : Wz E Y pc' lv' st σ K) : Wz E Y pc lv st σ K := by
  obtain ⟨d, rfl⟩ := d
  exact x_iinc d hq hv hn hl' k
theorem z_iadd {x y : Int32} (d : decode Y.2.1 pc = .ok (.iadd, 1) ∧ pc + 1 = pc') (k : Wz E Y pc' lv (.int (x + y) :: st) σ K) : Wz E Y pc lv (.int y :: .int x :: st) σ K := by
  obtain ⟨d, rfl⟩ := d
  exact x_iadd d k
theorem z_isub {x y : Int32} (d : decode Y.2.1 pc = .ok (.isub, 1) ∧ pc + 1 = pc') (k : Wz E Y pc' lv (.int (x - y) :: st) σ K) : Wz E Y pc lv (.int y :: .int x :: st) σ K := by
  obtain ⟨d, rfl⟩ := d
  exact x_isub d k
theorem z_imul {x y : Int32} (d : decode Y.2.1 pc = .ok (.imul, 1) ∧ pc + 1 = pc') (k : Wz E Y pc' lv (.int (x * y) :: st) σ K) : Wz E Y pc lv (.int y :: .int x :: st) σ K := by
  obtain ⟨d, rfl⟩ := d
  exact x_imul d k
theorem z_iand {x y : Int32} (d : decode Y.2.1 pc = .ok (.iand, 1) ∧ pc + 1 = pc') (k : Wz E Y pc' lv (.int (x &&& y) :: st) σ K) : Wz E Y pc lv (.int y :: .int x :: st) σ K := by
  obtain ⟨d, rfl⟩ := d
  exact x_iand d k
theorem z_ior {x y : Int32} (d : decode Y.2.1 pc = .ok (.ior, 1) ∧ pc + 1 = pc') (k : Wz E Y pc' lv (.int (x ||| y) :: st) σ K) : Wz E Y pc lv (.int y :: .int x :: st) σ K := by
  obtain ⟨d, rfl⟩ := d
  exact x_ior d k
theorem z_ixor {x y : Int32} (d : decode Y.2.1 pc = .ok (.ixor, 1) ∧ pc + 1 = pc') (k : Wz E Y pc' lv (.int (x ^^^ y) :: st) σ K) : Wz E Y pc lv (.int y :: .int x :: st) σ K := by
  obtain ⟨d, rfl⟩ := d
  exact x_ixor d k
theorem z_ishl {x y : Int32} (d : decode Y.2.1 pc = .ok (.ishl, 1) ∧ pc + 1 = pc') (k : Wz E Y pc' lv (.int (x <<< (y &&& 31)) :: st) σ K) : Wz E Y pc lv (.int y :: .int x :: st) σ K := by
  obtain ⟨d, rfl⟩ := d
  exact x_ishl d k
theorem z_ishr {x y : Int32} (d : decode Y.2.1 pc = .ok (.ishr, 1) ∧ pc + 1 = pc') (k : Wz E Y pc' lv (.int (x >>> (y &&& 31)) :: st) σ K) : Wz E Y pc lv (.int y :: .int x :: st) σ K := by
  obtain ⟨d, rfl⟩ := d
  exact x_ishr d k
theorem z_ladd {x y : Int64} (d : decode Y.2.1 pc = .ok (.ladd, 1) ∧ pc + 1 = pc') (k : Wz E Y pc' lv (.long (x + y) :: st) σ K) : Wz E Y pc lv (.long y :: .long x :: st) σ K := by
  obtain ⟨d, rfl⟩ := d
  exact x_ladd d k
theorem z_lsub {x y : Int64} (d : decode Y.2.1 pc = .ok (.lsub, 1) ∧ pc + 1 = pc') (k : Wz E Y pc' lv (.long (x - y) :: st) σ K) : Wz E Y pc lv (.long y :: .long x :: st) σ K := by
  obtain ⟨d, rfl⟩ := d
  exact x_lsub d k
theorem z_lmul {x y : Int64} (d : decode Y.2.1 pc = .ok (.lmul, 1) ∧ pc + 1 = pc') (k : Wz E Y pc' lv (.long (x * y) :: st) σ K) : Wz E Y pc lv (.long y :: .long x :: st) σ K := by
  obtain ⟨d, rfl⟩ := d
  exact x_lmul d k
theorem z_land {x y : Int64} (d : decode Y.2.1 pc = .ok (.land, 1) ∧ pc + 1 = pc') (k : Wz E Y pc' lv (.long (x &&& y) :: st) σ K) : Wz E Y pc lv (.long y :: .long x :: st) σ K := by
  obtain ⟨d, rfl⟩ := d
  exact x_land d k
theorem z_lor {x y : Int64} (d : decode Y.2.1 pc = .ok (.lor, 1) ∧ pc + 1 = pc') (k : Wz E Y pc' lv (.long (x ||| y) :: st) σ K) : Wz E Y pc lv (.long y :: .long x :: st) σ K := by
  obtain ⟨d, rfl⟩ := d
  exact x_lor d k
theorem z_lxor {x y : Int64} (d : decode Y.2.1 pc = .ok (.lxor, 1) ∧ pc + 1 = pc') (k : Wz E Y pc' lv (.long (x ^^^ y) :: st) σ K) : Wz E Y pc lv (.long y :: .long x :: st) σ K := by
  obtain ⟨d, rfl⟩ := d
  exact x_lxor d k
theorem z_idiv {x y : Int32} (d : decode Y.2.1 pc = .ok (.idiv, 1) ∧ pc + 1 = pc') (hne : ¬ y = 0) (k : Wz E Y pc' lv (.int (x / y) :: st) σ K) : Wz E Y pc lv (.int y :: .int x :: st) σ K := by
  obtain ⟨d, rfl⟩ := d
  exact x_idiv d hne k
theorem z_irem {x y : Int32} (d : decode Y.2.1 pc = .ok (.irem, 1) ∧ pc + 1 = pc') (hne : ¬ y = 0) (k : Wz E Y pc' lv (.int (x - x / y * y) :: st) σ K) : Wz E Y pc lv (.int y :: .int x :: st) σ K := by
  obtain ⟨d, rfl⟩ := d
  exact x_irem d hne k
theorem z_ldiv {x y : Int64} (d : decode Y.2.1 pc = .ok (.ldiv, 1) ∧ pc + 1 = pc') (hne : ¬ y = 0) (k : Wz E Y pc' lv (.long (x / y) :: st) σ K) : Wz E Y pc lv (.long y :: .long x :: st) σ K := by
  obtain ⟨d, rfl⟩ := d
  exact x_ldiv d hne k
theorem z_lrem {x y : Int64} (d : decode Y.2.1 pc = .ok (.lrem, 1) ∧ pc + 1 = pc') (hne : ¬ y = 0) (k : Wz E Y pc' lv (.long (x - x / y * y) :: st) σ K) : Wz E Y pc lv (.long y :: .long x :: st) σ K := by
  obtain ⟨d, rfl⟩ := d
  exact x_lrem d hne k
theorem z_ineg {x : Int32} (d : decode Y.2.1 pc = .ok (.ineg, 1) ∧ pc + 1 = pc') (k : Wz E Y pc' lv (.int (-x) :: st) σ K) : Wz E Y pc lv (.int x :: st) σ K := by
  obtain ⟨d, rfl⟩ := d
  exact x_ineg d k
theorem z_lneg {x : Int64} (d : decode Y.2.1 pc = .ok (.lneg, 1) ∧ pc + 1 = pc') (k : Wz E Y pc' lv (.long (-x) :: st) σ K) : Wz E Y pc lv (.long x :: st) σ K := by
  obtain ⟨d, rfl⟩ := d
  exact x_lneg d k
theorem z_iushr {x y v : Int32} (d : decode Y.2.1 pc = .ok (.iushr, 1) ∧ pc + 1 = pc') (hv : (x.toUInt32 >>> (y.toUInt32 &&& Int32.toUInt32 31)).toInt32 = v) (k : Wz E Y pc' lv (.int v :: st) σ K) : Wz E Y pc lv (.int y :: .int x :: st) σ K := by
  obtain ⟨d, rfl⟩ := d
  exact x_iushr d hv k
theorem z_lshl {x v : Int64} {y : Int32} (d : decode Y.2.1 pc = .ok (.lshl, 1) ∧ pc + 1 = pc') (hv : x <<< (y.toInt64 &&& 63) = v) (k : Wz E Y pc' lv (.long v :: st) σ K) : Wz E Y pc lv (.int y :: .long x :: st) σ K := by
  obtain ⟨d, rfl⟩ := d
  exact x_lshl d hv k
theorem z_lshr {x v : Int64} {y : Int32} (d : decode Y.2.1 pc = .ok (.lshr, 1) ∧ pc + 1 = pc') (hv : x >>> (y.toInt64 &&& 63) = v) (k : Wz E Y pc' lv (.long v :: st) σ K) : Wz E Y pc lv (.int y :: .long x :: st) σ K := by
  obtain ⟨d, rfl⟩ := d
  exact x_lshr d hv k
theorem z_lushr {x v : Int64} {y : Int32} (d : decode Y.2.1 pc = .ok (.lushr, 1) ∧ pc + 1 = pc') (hv : (x.toUInt64 >>> (y.toInt64.toUInt64 &&& Int64.toUInt64 63)).toInt64 = v) (k : Wz E Y pc' lv (.long v :: st) σ K) : Wz E Y pc lv (.int y :: .long x :: st) σ K := by
  obtain ⟨d, rfl⟩ := d
  exact x_lushr d hv k
theorem z_i2l {x : Int32} {v : Int64} (d : decode Y.2.1 pc = .ok (.i2l, 1) ∧ pc + 1 = pc') (hv : x.toInt64 = v) (k : Wz E Y pc' lv (.long v :: st) σ K) : Wz E Y pc lv (.int x :: st) σ K := by
  obtain ⟨d, rfl⟩ := d
  exact x_i2l d hv k
theorem z_l2i {x : Int64} {v : Int32} (d : decode Y.2.1 pc = .ok (.l2i, 1) ∧ pc + 1 = pc') (hv : x.toInt32 = v) (k : Wz E Y pc' lv (.int v :: st) σ K) : Wz E Y pc lv (.long x :: st) σ K := by
  obtain ⟨d, rfl⟩ := d
  exact x_l2i d hv k
theorem z_i2c {x : Int32} {v : Int32} (d : decode Y.2.1 pc = .ok (.i2c, 1) ∧ pc + 1 = pc') (hv : (x.toUInt32 % 65536).toInt32 = v) (k : Wz E Y pc' lv (.int v :: st) σ K) : Wz E Y pc lv (.int x :: st) σ K := by
  obtain ⟨d, rfl⟩ := d
  exact x_i2c d hv k
theorem z_lcmp {x y : Int64} (d : decode Y.2.1 pc = .ok (.lcmp, 1) ∧ pc + 1 = pc') (k : Wz E Y pc' lv (.int (lg_cmp x y) :: st) σ K) : Wz E Y pc lv (.long y :: .long x :: st) σ K := by
  obtain ⟨d, rfl⟩ := d
  exact x_lcmp d k
theorem z_dupi {x : Int32} (d : decode Y.2.1 pc = .ok (.dup, 1) ∧ pc + 1 = pc') (k : Wz E Y pc' lv (.int x :: .int x :: st) σ K) : Wz E Y pc lv (.int x :: st) σ K := by
  obtain ⟨d, rfl⟩ := d
  exact x_dupi d k
theorem z_dupr {x : Nat} (d : decode Y.2.1 pc = .ok (.dup, 1) ∧ pc + 1 = pc') (k : Wz E Y pc' lv (.ref x :: .ref x :: st) σ K) : Wz E Y pc lv (.ref x :: st) σ K := by
  obtain ⟨d, rfl⟩ := d
  exact x_dupr d k
theorem z_popi {x : Int32} (d : decode Y.2.1 pc = .ok (.pop, 1) ∧ pc + 1 = pc') (k : Wz E Y pc' lv st σ K) : Wz E Y pc lv (.int x :: st) σ K := by
  obtain ⟨d, rfl⟩ := d
  exact x_popi d k
theorem z_pop2l {x : Int64} (d : decode Y.2.1 pc = .ok (.pop2, 1) ∧ pc + 1 = pc') (k : Wz E Y pc' lv st σ K) : Wz E Y pc lv (.long x :: st) σ K := by
  obtain ⟨d, rfl⟩ := d
  exact x_pop2l d k
theorem z_dup2ir {i : Int32} {x : Nat} (d : decode Y.2.1 pc = .ok (.dup2, 1) ∧ pc + 1 = pc') (k : Wz E Y pc' lv (.int i :: .ref x :: .int i :: .ref x :: st) σ K) : Wz E Y pc lv (.int i :: .ref x :: st) σ K := by
  obtain ⟨d, rfl⟩ := d
  exact x_dup2ir d k
theorem z_dup2l {x : Int64} (d : decode Y.2.1 pc = .ok (.dup2, 1) ∧ pc + 1 = pc') (k : Wz E Y pc' lv (.long x :: .long x :: st) σ K) : Wz E Y pc lv (.long x :: st) σ K := by
  obtain ⟨d, rfl⟩ := d
  exact x_dup2l d k
theorem z_if_eq {x : Int32} {off : Int} {tgt : Nat} (d : decode Y.2.1 pc = .ok (.ifCond .eq off, 3) ∧ (pc : Int) + off = (tgt : Int) ∧ pc + 3 = pc') (kt : x = 0 → Wz E Y tgt lv st σ K) (kf : ¬ x = 0 → Wz E Y pc' lv st σ K) : Wz E Y pc lv (.int x :: st) σ K := by
  obtain ⟨d, ht, rfl⟩ := d
  exact x_if_eq d ht kt kf
theorem z_icmp_eq {x y : Int32} {off : Int} {tgt : Nat} (d : decode Y.2.1 pc = .ok (.if_icmp .eq off, 3) ∧ (pc : Int) + off = (tgt : Int) ∧ pc + 3 = pc') (kt : x = y → Wz E Y tgt lv st σ K) (kf : ¬ x = y → Wz E Y pc' lv st σ K) : Wz E Y pc lv (.int y :: .int x :: st) σ K := by
  obtain ⟨d, ht, rfl⟩ := d
  exact x_icmp_eq d ht kt kf
theorem z_if_ne {x : Int32} {off : Int} {tgt : Nat} (d : decode Y.2.1 pc = .ok (.ifCond .ne off, 3) ∧ (pc : Int) + off = (tgt : Int) ∧ pc + 3 = pc') (kt : ¬ x = 0 → Wz E Y tgt lv st σ K) (kf : x = 0 → Wz E Y pc' lv st σ K) : Wz E Y pc lv (.int x :: st) σ K := by
  obtain ⟨d, ht, rfl⟩ := d
  exact x_if_ne d ht kt kf
theorem z_icmp_ne {x y : Int32} {off : Int} {tgt : Nat} (d : decode Y.2.1 pc = .ok (.if_icmp .ne off, 3) ∧ (pc : Int) + off = (tgt : Int) ∧ pc + 3 = pc') (kt : ¬ x = y → Wz E Y tgt lv st σ K) (kf : x = y → Wz E Y pc' lv st σ K) : Wz E Y pc lv (.int y :: .int x :: st) σ K := by
  obtain ⟨d, ht, rfl⟩ := d
  exact x_icmp_ne d ht kt kf
theorem z_if_lt {x : Int32} {off : Int} {tgt : Nat} (d : decode Y.2.1 pc = .ok (.ifCond .lt off, 3) ∧ (pc : Int) + off = (tgt : Int) ∧ pc + 3 = pc') (kt : x < 0 → Wz E Y tgt lv st σ K) (kf : ¬ x < 0 → Wz E Y pc' lv st σ K) : Wz E Y pc lv (.int x :: st) σ K := by
  obtain ⟨d, ht, rfl⟩ := d
  exact x_if_lt d ht kt kf
theorem z_icmp_lt {x y : Int32} {off : Int} {tgt : Nat} (d : decode Y.2.1 pc = .ok (.if_icmp .lt off, 3) ∧ (pc : Int) + off = (tgt : Int) ∧ pc + 3 = pc') (kt : x < y → Wz E Y tgt lv st σ K) (kf : ¬ x < y → Wz E Y pc' lv st σ K) : Wz E Y pc lv (.int y :: .int x :: st) σ K := by
  obtain ⟨d, ht, rfl⟩ := d
  exact x_icmp_lt d ht kt kf
theorem z_if_ge {x : Int32} {off : Int} {tgt : Nat} (d : decode Y.2.1 pc = .ok (.ifCond .ge off, 3) ∧ (pc : Int) + off = (tgt : Int) ∧ pc + 3 = pc') (kt : 0 ≤ x → Wz E Y tgt lv st σ K) (kf : ¬ 0 ≤ x → Wz E Y pc' lv st σ K) : Wz E Y pc lv (.int x :: st) σ K := by
  obtain ⟨d, ht, rfl⟩ := d
  exact x_if_ge d ht kt kf
theorem z_icmp_ge {x y : Int32} {off : Int} {tgt : Nat} (d : decode Y.2.1 pc = .ok (.if_icmp .ge off, 3) ∧ (pc : Int) + off = (tgt : Int) ∧ pc + 3 = pc') (kt : y ≤ x → Wz E Y tgt lv st σ K) (kf : ¬ y ≤ x → Wz E Y pc' lv st σ K) : Wz E Y pc lv (.int y :: .int x :: st) σ K := by
  obtain ⟨d, ht, rfl⟩ := d
  exact x_icmp_ge d ht kt kf
theorem z_if_gt {x : Int32} {off : Int} {tgt : Nat} (d : decode Y.2.1 pc = .ok (.ifCond .gt off, 3) ∧ (pc : Int) + off = (tgt : Int) ∧ pc + 3 = pc') (kt : 0 < x → Wz E Y tgt lv st σ K) (kf : ¬ 0 < x → Wz E Y pc' lv st σ K) : Wz E Y pc lv (.int x :: st) σ K := by
  obtain ⟨d, ht, rfl⟩ := d
  exact x_if_gt d ht kt kf
theorem z_icmp_gt {x y : Int32} {off : Int} {tgt : Nat} (d : decode Y.2.1 pc = .ok (.if_icmp .gt off, 3) ∧ (pc : Int) + off = (tgt : Int) ∧ pc + 3 = pc') (kt : y < x → Wz E Y tgt lv st σ K) (kf : ¬ y < x → Wz E Y pc' lv st σ K) : Wz E Y pc lv (.int y :: .int x :: st) σ K := by
  obtain ⟨d, ht, rfl⟩ := d
  exact x_icmp_gt d ht kt kf
theorem z_if_le {x : Int32} {off : Int} {tgt : Nat} (d : decode Y.2.1 pc = .ok (.ifCond .le off, 3) ∧ (pc : Int) + off = (tgt : Int) ∧ pc + 3 = pc') (kt : x ≤ 0 → Wz E Y tgt lv st σ K) (kf : ¬ x ≤ 0 → Wz E Y pc' lv st σ K) : Wz E Y pc lv (.int x :: st) σ K := by
  obtain ⟨d, ht, rfl⟩ := d
  exact x_if_le d ht kt kf
theorem z_icmp_le {x y : Int32} {off : Int} {tgt : Nat} (d : decode Y.2.1 pc = .ok (.if_icmp .le off, 3) ∧ (pc : Int) + off = (tgt : Int) ∧ pc + 3 = pc') (kt : x ≤ y → Wz E Y tgt lv st σ K) (kf : ¬ x ≤ y → Wz E Y pc' lv st σ K) : Wz E Y pc lv (.int y :: .int x :: st) σ K := by
  obtain ⟨d, ht, rfl⟩ := d
  exact x_icmp_le d ht kt kf
theorem z_goto {off : Int} {tgt : Nat} (d : decode Y.2.1 pc = .ok (.goto off, 3) ∧ (pc : Int) + off = (tgt : Int) ∧ pc + 3 = pc') (k : Wz E Y tgt lv st σ K) : Wz E Y pc lv st σ K := by
  obtain ⟨d, ht, rfl⟩ := d
  exact x_goto d ht k
theorem z_sub (ks : List Nat) (h : lv_pick lv ks = lv') (k : Wz E Y pc lv' st σ K) : Wz E Y pc lv st σ K := x_sub ks h k
theorem z_geti {k j idx ci : Nat} {l : List Nat} {ty : FieldType} {fin : Bool} (F : xFl Y.1.cls idx ci j ty fin) (hk : k < 215) (hd : KD k = (ci, l)) (hc : ci < 100) (hj : l[j]? = some 0) (d : decode Y.2.1 pc = .ok (.getfield idx, 3) ∧ pc + 3 = pc') (kk : Wz E Y pc' lv (.int (σ.1 k j) :: st) σ K) : Wz E Y pc lv (.ref k :: st) σ K := by
  obtain ⟨d, rfl⟩ := d
  exact x_geti F hk hd hc hj d kk
theorem z_getj {k j idx ci : Nat} {l : List Nat} {ty : FieldType} {fin : Bool} (F : xFl Y.1.cls idx ci j ty fin) (hk : k < 215) (hd : KD k = (ci, l)) (hc : ci < 100) (hj : l[j]? = some 1) (d : decode Y.2.1 pc = .ok (.getfield idx, 3) ∧ pc + 3 = pc') (kk : Wz E Y pc' lv (.long (σ.2 k j) :: st) σ K) : Wz E Y pc lv (.ref k :: st) σ K := by
  obtain ⟨d, rfl⟩ := d
  exact x_getj F hk hd hc hj d kk
theorem z_getr {k j i idx ci : Nat} {l : List Nat} {ty : FieldType} {fin : Bool} (F : xFl Y.1.cls idx ci j ty fin) (hk : k < 215) (hd : KD k = (ci, l)) (hc : ci < 100) (hj : l[j]? = some 2) (hr : RF k j = i + 1) (d : decode Y.2.1 pc = .ok (.getfield idx, 3) ∧ pc + 3 = pc') (kk : Wz E Y pc' lv (.ref i :: st) σ K) : Wz E Y pc lv (.ref k :: st) σ K := by
  obtain ⟨d, rfl⟩ := d
  exact x_getr F hk hd hc hj hr d kk
theorem z_puti {k j idx ci : Nat} {l : List Nat} {ty : FieldType} {v : Int32} (F : xFl Y.1.cls idx ci j ty false) (hk : k < 215) (hd : KD k = (ci, l)) (hc : ci < 100) (hj : l[j]? = some 0) (hw : narrow ty (.int v) = .int v) (hf : fits ty (.int v) = true) (d : decode Y.2.1 pc = .ok (.putfield idx, 3) ∧ pc + 3 = pc') (kk : Wz E Y pc' lv st (zI σ k j v) K) : Wz E Y pc lv (.int v :: .ref k :: st) σ K := by
  obtain ⟨d, rfl⟩ := d
  exact x_puti F hk hd hc hj hw hf d kk
theorem z_putj {k j idx ci : Nat} {l : List Nat} {v : Int64} (F : xFl Y.1.cls idx ci j .long false) (hk : k < 215) (hd : KD k = (ci, l)) (hc : ci < 100) (hj : l[j]? = some 1) (d : decode Y.2.1 pc = .ok (.putfield idx, 3) ∧ pc + 3 = pc') (kk : Wz E Y pc' lv st (zJ σ k j v) K) : Wz E Y pc lv (.long v :: .ref k :: st) σ K := by
  obtain ⟨d, rfl⟩ := d
  exact x_putj F hk hd hc hj d kk
theorem z_iald {k z : Nat} {i : Int32} (hk : k < 215) (hd : KD k = (100, [z])) (hi : vp_in i z) (d : decode Y.2.1 pc = .ok (.iaload, 1) ∧ pc + 1 = pc') (kk : Wz E Y pc' lv (.int (σ.1 k i.toNatClampNeg) :: st) σ K) : Wz E Y pc lv (.int i :: .ref k :: st) σ K := by
  obtain ⟨d, rfl⟩ := d
  exact x_iald hk hd hi d kk
theorem z_zald {k z : Nat} {i : Int32} (hk : k < 215) (hd : KD k = (102, [z])) (hi : vp_in i z) (d : decode Y.2.1 pc = .ok (.baload, 1) ∧ pc + 1 = pc') (kk : Wz E Y pc' lv (.int (σ.1 k i.toNatClampNeg) :: st) σ K) : Wz E Y pc lv (.int i :: .ref k :: st) σ K := by
  obtain ⟨d, rfl⟩ := d
  exact x_zald hk hd hi d kk
theorem z_lald {k z : Nat} {i : Int32} (hk : k < 215) (hd : KD k = (101, [z])) (hi : vp_in i z) (d : decode Y.2.1 pc = .ok (.laload, 1) ∧ pc + 1 = pc') (kk : Wz E Y pc' lv (.long (σ.2 k i.toNatClampNeg) :: st) σ K) : Wz E Y pc lv (.int i :: .ref k :: st) σ K := by
  obtain ⟨d, rfl⟩ := d
  exact x_lald hk hd hi d kk
theorem z_iast {k z : Nat} {i : Int32} {x : Int32} (hk : k < 215) (hd : KD k = (100, [z])) (hi : vp_in i z) (d : decode Y.2.1 pc = .ok (.iastore, 1) ∧ pc + 1 = pc') (kk : Wz E Y pc' lv st (zI σ k i.toNatClampNeg x) K) : Wz E Y pc lv (.int x :: .int i :: .ref k :: st) σ K := by
  obtain ⟨d, rfl⟩ := d
  exact x_iast hk hd hi d kk
theorem z_zast {k z : Nat} {i : Int32} {x : Int32} (hk : k < 215) (hd : KD k = (102, [z])) (hi : vp_in i z) (d : decode Y.2.1 pc = .ok (.bastore, 1) ∧ pc + 1 = pc') (kk : Wz E Y pc' lv st (zI σ k i.toNatClampNeg (vp_nar .boolean x)) K) : Wz E Y pc lv (.int x :: .int i :: .ref k :: st) σ K := by
  obtain ⟨d, rfl⟩ := d
  exact x_zast hk hd hi d kk
theorem z_last {k z : Nat} {i : Int32} {x : Int64} (hk : k < 215) (hd : KD k = (101, [z])) (hi : vp_in i z) (d : decode Y.2.1 pc = .ok (.lastore, 1) ∧ pc + 1 = pc') (kk : Wz E Y pc' lv st (zJ σ k i.toNatClampNeg x) K) : Wz E Y pc lv (.long x :: .int i :: .ref k :: st) σ K := by
  obtain ⟨d, rfl⟩ := d
  exact x_last hk hd hi d kk
theorem z_iret {v : Int32} {ty : FieldType} (hr : Y.2.2.2.1 = some ty) (hw : narrow ty (.int v) = .int v) (d : decode Y.2.1 pc = .ok (.ireturn, 1)) (hK : K (some (.int v)) σ) : Wz E Y pc lv [.int v] σ K := x_iret hr hw d (Nat.zero_le _) (Nat.zero_le _) ⟨rfl, σ, rfl, hK⟩
theorem z_lret {v : Int64} (hr : Y.2.2.2.1 = some .long) (d : decode Y.2.1 pc = .ok (.lreturn, 1)) (hK : K (some (.long v)) σ) : Wz E Y pc lv [.long v] σ K := x_lret hr d (Nat.zero_le _) (Nat.zero_le _) ⟨rfl, σ, rfl, hK⟩
theorem z_vret (hr : Y.2.2.2.1 = none) (d : decode Y.2.1 pc = .ok (.return_, 1)) (hK : K none σ) : Wz E Y pc lv [] σ K := x_vret hr d (Nat.zero_le _) (Nat.zero_le _) ⟨rfl, σ, rfl, hK⟩
theorem z_entry {av : List Value} {lv0 : List (Nat × Value)} (hy : plainName Y.1.cls = true) (hlen : ∀ a, (lg_sl (av.map (xrel a))).length ≤ Y.2.2.1) (hlv : lv_args 0 av = lv0) (k : Wz E Y 0 lv0 [] σ K) : Cz E Y av σ K := x_entry hy hlen hlv k
def zRm (Y Z : xY) : Prop := (Z.2.2.2.2.frames + 1 ≤ Y.2.2.2.2.frames ∧ 8 + (Z.2.2.1 + 11) + Z.2.2.2.2.locals ≤ Y.2.2.2.2.locals) ∧ (Z.2.2.2.2.cells = 0 ∧ Z.2.2.2.2.slots = 0)
theorem zRm.x {Y Z : xY} (h : zRm Y Z) : xRm Y Z 0 0 := ⟨h.1, by rw [h.2.1]; exact Nat.zero_le _, by rw [h.2.2]; exact Nat.zero_le _⟩
theorem z_after {Y Z : xY} {rest : List Value} (hrm : zRm Y Z) : ∀ (v : Option Value) (n' : Nat) (s' : xS), zK (fun v σ' => Wz E Y pc lv (v.toList ++ rest) σ' K) v n' s' → Wx E Y pc lv (v.toList ++ rest) n' (0 + Z.2.2.2.2.cells) (0 + Z.2.2.2.2.slots) s' (xMQ E Y (zK K)) := by
  intro v n' s' ⟨h1, σ1, h2, h3⟩
  subst h1
  subst h2
  rw [hrm.2.1, hrm.2.2]
  exact h3
theorem z_invV {Z : xY} {idx kb ci : Nat} {As rest : List Value} {l : List Nat} {nA : Nat} (hM : xM Y.1.cls idx Z nA) (hin : Cond.instanceMethod Z.1 ∈ TBg) (hsel : Cond.selects Z.1.cls Z.1 Z.1 ∈ TBg) (hk : kb < 215) (hd : KD kb = (ci, l)) (hc : ci < 100) (hcn : (cls[ci]?.map fun q => q.1) = some Z.1.cls) (hrm : zRm Y Z) (d : decode Y.2.1 pc = .ok (.invokevirtual idx, 3) ∧ pc + 3 = pc') (hA : As.length = nA) (hst : st = As.reverse ++ .ref kb :: rest) (hcat : (rest.map fun v => v.category).sum ≤ 8) (hlv : (lv.all fun q => xokv 215 q.2) = true) (hrs : (rest.all (xokv 215)) = true)
    (kk : Cz E Z (.ref kb :: As) σ (fun v σ' => Wz E Y pc' lv (v.toList ++ rest) σ' K)) : Wz E Y pc lv st σ K := by
  obtain ⟨d, rfl⟩ := d
  exact x_invV d hM hin hsel hA hst hk hd hc hcn hrm.x hcat hlv hrs (Cx.mono kk (z_after hrm))
theorem z_invS {Z : xY} {idx : Nat} {As rest : List Value} {nA : Nat} (hM : xM Y.1.cls idx Z nA) (hstat : Cond.static Z.1 ∈ TBg) (hrm : zRm Y Z) (d : decode Y.2.1 pc = .ok (.invokestatic idx, 3) ∧ pc + 3 = pc') (hA : As.length = nA) (hst : st = As.reverse ++ rest) (hcat : (rest.map fun v => v.category).sum ≤ 8) (hlv : (lv.all fun q => xokv 215 q.2) = true) (hrs : (rest.all (xokv 215)) = true)
    (kk : Cz E Z As σ (fun v σ' => Wz E Y pc' lv (v.toList ++ rest) σ' K)) : Wz E Y pc lv st σ K := by
  obtain ⟨d, rfl⟩ := d
  exact x_invS d hM hstat hA hst hrm.x hcat hlv hrs (Cx.mono kk (z_after hrm))
theorem z_tableIn {dflt lo hi : Int} {offs : Array Int} {len : Nat} {x : Int32} {off : Int} {tgt : Nat} (d : decode Y.2.1 pc = .ok (.tableswitch dflt lo hi offs, len)) (h1 : ¬ x.toInt < lo) (h2 : ¬ hi < x.toInt) (ho : offs[(x.toInt - lo).toNat]? = some off) (ht : (pc : Int) + off = (tgt : Int)) (k : Wz E Y tgt lv st σ K) : Wz E Y pc lv (.int x :: st) σ K := x_tableIn d h1 h2 ho ht k
theorem z_tableOut {dflt lo hi : Int} {offs : Array Int} {len : Nat} {x : Int32} {tgt : Nat} (d : decode Y.2.1 pc = .ok (.tableswitch dflt lo hi offs, len)) (h : x.toInt < lo ∨ hi < x.toInt) (ht : (pc : Int) + dflt = (tgt : Int)) (k : Wz E Y tgt lv st σ K) : Wz E Y pc lv (.int x :: st) σ K := x_tableOut d h ht k
theorem z_lookup {dflt : Int} {ps : Array (Int × Int)} {len : Nat} {x : Int32} {off : Int} {tgt : Nat} (d : decode Y.2.1 pc = .ok (.lookupswitch dflt ps, len)) (hp : (ps.toList.zip (ps.toList.drop 1)).all (fun (a, next) => a.1 < next.1) = true) (ho : Op.lookupswitch.offset ps.toList dflt x.toInt = off) (ht : (pc : Int) + off = (tgt : Int)) (k : Wz E Y tgt lv st σ K) : Wz E Y pc lv (.int x :: st) σ K := x_lookup d hp ho ht k
def zIr (σ : zS) (k : Nat) (f : Nat → Int32) : zS := (xup σ.1 k f, σ.2)
def zJr (σ : zS) (k : Nat) (f : Nat → Int64) : zS := (σ.1, xup σ.2 k f)
theorem z_copyi {idx k0 k1 z0 z1 : Nat} {sp dp v : Int32} (w1 : Cond.methodLink Y.1.cls idx arraycopyName ∈ TBg) (w2 : Cond.native arraycopyName ∈ TBg) (w3 : Cond.static arraycopyName ∈ TBg) (w4 : Cond.initialized "java/lang/System" ∈ TBg) (hk0 : k0 < 215) (hk1 : k1 < 215) (hd0 : KD k0 = (100, [z0])) (hd1 : KD k1 = (100, [z1])) (hb : ¬ sp < 0 ∧ ¬ dp < 0 ∧ ¬ v < 0 ∧ sp.toNatClampNeg + v.toNatClampNeg ≤ z0 ∧ dp.toNatClampNeg + v.toNatClampNeg ≤ z1) (hfr : 1 ≤ Y.2.2.2.2.frames) (hlo : 40 ≤ Y.2.2.2.2.locals) (hcat : (st.map fun v => v.category).sum ≤ 8) (d : decode Y.2.1 pc = .ok (.invokestatic idx, 3) ∧ pc + 3 = pc')
    (kk : Wz E Y pc' lv st (zIr σ k1 (va_cpy (σ.1 k0) (σ.1 k1) sp.toNatClampNeg dp.toNatClampNeg v.toNatClampNeg)) K) : Wz E Y pc lv (.int v :: .int dp :: .ref k1 :: .int sp :: .ref k0 :: st) σ K := by
  obtain ⟨d, rfl⟩ := d
  exact x_copyi d w1 w2 w3 w4 hk0 hk1 hd0 hd1 hb.1 hb.2.1 hb.2.2.1 hb.2.2.2.1 hb.2.2.2.2 hfr hlo hcat kk
theorem z_copyl {idx k0 k1 z0 z1 : Nat} {sp dp v : Int32} (w1 : Cond.methodLink Y.1.cls idx arraycopyName ∈ TBg) (w2 : Cond.native arraycopyName ∈ TBg) (w3 : Cond.static arraycopyName ∈ TBg) (w4 : Cond.initialized "java/lang/System" ∈ TBg) (hk0 : k0 < 215) (hk1 : k1 < 215) (hd0 : KD k0 = (101, [z0])) (hd1 : KD k1 = (101, [z1])) (hb : ¬ sp < 0 ∧ ¬ dp < 0 ∧ ¬ v < 0 ∧ sp.toNatClampNeg + v.toNatClampNeg ≤ z0 ∧ dp.toNatClampNeg + v.toNatClampNeg ≤ z1) (hfr : 1 ≤ Y.2.2.2.2.frames) (hlo : 40 ≤ Y.2.2.2.2.locals) (hcat : (st.map fun v => v.category).sum ≤ 8) (d : decode Y.2.1 pc = .ok (.invokestatic idx, 3) ∧ pc + 3 = pc')
    (kk : Wz E Y pc' lv st (zJr σ k1 (va_cpy (σ.2 k0) (σ.2 k1) sp.toNatClampNeg dp.toNatClampNeg v.toNatClampNeg)) K) : Wz E Y pc lv (.int v :: .int dp :: .ref k1 :: .int sp :: .ref k0 :: st) σ K := by
  obtain ⟨d, rfl⟩ := d
  exact x_copyl d w1 w2 w3 w4 hk0 hk1 hd0 hd1 hb.1 hb.2.1 hb.2.2.1 hb.2.2.2.1 hb.2.2.2.2 hfr hlo hcat kk
theorem z_max {idx : Nat} {x y : Int32} (w1 : Cond.methodLink Y.1.cls idx Lib.Math.max.name ∈ TBg) (w2 : Cond.static Lib.Math.max.name ∈ TBg) (w3 : Cond.initialized "java/lang/Math" ∈ TBg) (w4 : Cond.code Lib.Math.max.name Lib.Math.max.code 2 (some .int) ∈ TBg) (hfr : 1 ≤ Y.2.2.2.2.frames) (hlo : 40 ≤ Y.2.2.2.2.locals) (hcat : (st.map fun v => v.category).sum ≤ 8) (d : decode Y.2.1 pc = .ok (.invokestatic idx, 3) ∧ pc + 3 = pc')
    (kk : Wz E Y pc' lv (.int (if x < y then y else x) :: st) σ K) : Wz E Y pc lv (.int y :: .int x :: st) σ K := by
  obtain ⟨d, rfl⟩ := d
  exact x_max d w1 w2 w3 w4 hfr hlo (Nat.zero_le _) (Nat.zero_le _) hcat kk
end ZR
