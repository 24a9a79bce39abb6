section YR
variable {E : xV} {Y : xY} {pc pc' n cs ss : Nat} {lv lv' : List (Nat × Value)} {st : List Value} {σ : xS} {K : xQQ}
theorem y_iconst {i : Int} {v : Int32} (d : decode Y.2.1 pc = .ok (.iconst i, 1) ∧ pc + 1 = pc') (hv : Int32.ofInt i = v) (k : Wx E Y pc' lv (.int v :: st) n cs ss σ K) : Wx E Y pc lv st n cs ss σ K := by
  obtain ⟨d, rfl⟩ := d
  exact x_iconst d hv k
theorem y_bipush {i : Int} {v : Int32} (d : decode Y.2.1 pc = .ok (.bipush i, 2) ∧ pc + 2 = pc') (hv : (Int8.ofInt i).toInt32 = v) (k : Wx E Y pc' lv (.int v :: st) n cs ss σ K) : Wx E Y pc lv st n cs ss σ K := by
  obtain ⟨d, rfl⟩ := d
  exact x_bipush d hv k
theorem y_sipush {i : Int} {v : Int32} (d : decode Y.2.1 pc = .ok (.sipush i, 3) ∧ pc + 3 = pc') (hv : (Int16.ofInt i).toInt32 = v) (k : Wx E Y pc' lv (.int v :: st) n cs ss σ K) : Wx E Y pc lv st n cs ss σ K := by
  obtain ⟨d, rfl⟩ := d
  exact x_sipush d hv k
theorem y_lconst {i : Fin 2} {v : Int64} (d : decode Y.2.1 pc = .ok (.lconst i, 1) ∧ pc + 1 = pc') (hv : Int64.ofNat (i : Nat) = v) (k : Wx E Y pc' lv (.long v :: st) n cs ss σ K) : Wx E Y pc lv st n cs ss σ K := by
  obtain ⟨d, rfl⟩ := d
  exact x_lconst d hv k
theorem y_ldc {i : Nat} {v : Int32} (d : decode Y.2.1 pc = .ok (.ldc i, 2) ∧ pc + 2 = pc') (hw : Cond.constant Y.1.cls i v ∈ TBg) (k : Wx E Y pc' lv (.int v :: st) n cs ss σ K) : Wx E Y pc lv st n cs ss σ K := by
  obtain ⟨d, rfl⟩ := d
  exact x_ldc d hw k
theorem y_ldcw {i : Nat} {v : Int32} (d : decode Y.2.1 pc = .ok (.ldc_w i, 3) ∧ pc + 3 = pc') (hw : Cond.constant Y.1.cls i v ∈ TBg) (k : Wx E Y pc' lv (.int v :: st) n cs ss σ K) : Wx E Y pc lv st n cs ss σ K := by
  obtain ⟨d, rfl⟩ := d
  exact x_ldcw d hw k
theorem y_ldc2 {i : Nat} {v : Int64} (d : decode Y.2.1 pc = .ok (.ldc2_w i, 3) ∧ pc + 3 = pc') (hw : Cond.constantLong Y.1.cls i v ∈ TBg) (k : Wx E Y pc' lv (.long v :: st) n cs ss σ K) : Wx E Y pc lv st n cs ss σ K := by
  obtain ⟨d, rfl⟩ := d
  exact x_ldc2 d hw k
theorem y_iload_n {f : Fin 4} {i q : Nat} {x : Int32} (d : decode Y.2.1 pc = .ok (.iload_n f, 1) ∧ pc + 1 = pc') (hi : (f : Nat) = i) (hq : lv[q]? = some (i, .int x)) (k : Wx E Y pc' lv (.int x :: st) n cs ss σ K) : Wx E Y pc lv st n cs ss σ K := by
  obtain ⟨d, rfl⟩ := d
  exact x_iload_n d hi hq k
theorem y_iload {i q : Nat} {x : Int32} (d : decode Y.2.1 pc = .ok (.iload i, 2) ∧ pc + 2 = pc') (hq : lv[q]? = some (i, .int x)) (k : Wx E Y pc' lv (.int x :: st) n cs ss σ K) : Wx E Y pc lv st n cs ss σ K := by
  obtain ⟨d, rfl⟩ := d
  exact x_iload d hq k
theorem y_lload_n {f : Fin 4} {i q : Nat} {x : Int64} (d : decode Y.2.1 pc = .ok (.lload_n f, 1) ∧ pc + 1 = pc') (hi : (f : Nat) = i) (hq : lv[q]? = some (i, .long x)) (k : Wx E Y pc' lv (.long x :: st) n cs ss σ K) : Wx E Y pc lv st n cs ss σ K := by
  obtain ⟨d, rfl⟩ := d
  exact x_lload_n d hi hq k
theorem y_lload {i q : Nat} {x : Int64} (d : decode Y.2.1 pc = .ok (.lload i, 2) ∧ pc + 2 = pc') (hq : lv[q]? = some (i, .long x)) (k : Wx E Y pc' lv (.long x :: st) n cs ss σ K) : Wx E Y pc lv st n cs ss σ K := by
  obtain ⟨d, rfl⟩ := d
  exact x_lload d hq k
theorem y_aload_n {f : Fin 4} {i q : Nat} {x : Nat} (d : decode Y.2.1 pc = .ok (.aload_n f, 1) ∧ pc + 1 = pc') (hi : (f : Nat) = i) (hq : lv[q]? = some (i, .ref x)) (k : Wx E Y pc' lv (.ref x :: st) n cs ss σ K) : Wx E Y pc lv st n cs ss σ K := by
  obtain ⟨d, rfl⟩ := d
  exact x_aload_n d hi hq k
theorem y_aload {i q : Nat} {x : Nat} (d : decode Y.2.1 pc = .ok (.aload i, 2) ∧ pc + 2 = pc') (hq : lv[q]? = some (i, .ref x)) (k : Wx E Y pc' lv (.ref x :: st) n cs ss σ K) : Wx E Y pc lv st n cs ss σ K := by
  obtain ⟨d, rfl⟩ := d
  exact x_aload d hq k
theorem y_istore_n {f : Fin 4} {i : Nat} {x : Int32} (d : decode Y.2.1 pc = .ok (.istore_n f, 1) ∧ pc + 1 = pc') (hi : (f : Nat) = i) (hn : i < Y.2.2.1) (hl' : (i, Value.int x) :: lv.filter (fun q => !(q.1 == i) && !(q.1 + 1 == i && q.2.category == 2)) = lv') (k : Wx E Y pc' lv' st n cs ss σ K) : Wx E Y pc lv (.int x :: st) n cs ss σ K := by
  obtain ⟨d, rfl⟩ := d
  exact x_istore_n d hi hn hl' k
theorem y_istore {i : Nat} {x : Int32} (d : decode Y.2.1 pc = .ok (.istore i, 2) ∧ pc + 2 = pc') (hn : i < Y.2.2.1) (hl' : (i, Value.int x) :: lv.filter (fun q => !(q.1 == i) && !(q.1 + 1 == i && q.2.category == 2)) = lv') (k : Wx E Y pc' lv' st n cs ss σ K) : Wx E Y pc lv (.int x :: st) n cs ss σ K := by
  obtain ⟨d, rfl⟩ := d
  exact x_istore d hn hl' k
theorem y_lstore_n {f : Fin 4} {i : Nat} {x : Int64} (d : decode Y.2.1 pc = .ok (.lstore_n f, 1) ∧ pc + 1 = pc') (hi : (f : Nat) = i) (hn : i + 1 < Y.2.2.1) (hl' : (i, Value.long x) :: lv.filter (fun q => !(q.1 == i) && (!(q.1 == i + 1) && !(q.1 + 1 == i && q.2.category == 2))) = lv') (k : Wx E Y pc' lv' st n cs ss σ K) : Wx E Y pc lv (.long x :: st) n cs ss σ K := by
  obtain ⟨d, rfl⟩ := d
  exact x_lstore_n d hi hn hl' k
theorem y_lstore {i : Nat} {x : Int64} (d : decode Y.2.1 pc = .ok (.lstore i, 2) ∧ pc + 2 = pc') (hn : i + 1 < Y.2.2.1) (hl' : (i, Value.long x) :: lv.filter (fun q => !(q.1 == i) && (!(q.1 == i + 1) && !(q.1 + 1 == i && q.2.category == 2))) = lv') (k : Wx E Y pc' lv' st n cs ss σ K) : Wx E Y pc lv (.long x :: st) n cs ss σ K := by
  obtain ⟨d, rfl⟩ := d
  exact x_lstore d hn hl' k
theorem y_astore_n {f : Fin 4} {i : Nat} {x : Nat} (d : decode Y.2.1 pc = .ok (.astore_n f, 1) ∧ pc + 1 = pc') (hi : (f : Nat) = i) (hn : i < Y.2.2.1) (hl' : (i, Value.ref x) :: lv.filter (fun q => !(q.1 == i) && !(q.1 + 1 == i && q.2.category == 2)) = lv') (k : Wx E Y pc' lv' st n cs ss σ K) : Wx E Y pc lv (.ref x :: st) n cs ss σ K := by
  obtain ⟨d, rfl⟩ := d
  exact x_astore_n d hi hn hl' k
theorem y_iinc {i q : Nat} {z : Int} {x v : Int32} (d : decode Y.2.1 pc = .ok (.iinc i z, 3) ∧ pc + 3 = pc') (hq : lv[q]? = some (i, .int x)) (hv : x + Int32.ofInt z = v) (hn : i < Y.2.2.1) (hl' : (i, Value.int v) :: lv.filter (fun q => !(q.1 == i) && !(q.1 + 1 == i && q.2.category == 2)) = lv') (k : Wx E Y pc' lv' st n cs ss σ K) : Wx E Y pc lv st n cs ss σ K := by
  obtain ⟨d, rfl⟩ := d
  exact x_iinc d hq hv hn hl' k
theorem y_iadd {x y : Int32} (d : decode Y.2.1 pc = .ok (.iadd, 1) ∧ pc + 1 = pc') (k : Wx E Y pc' lv (.int (x + y) :: st) n cs ss σ K) : Wx E Y pc lv (.int y :: .int x :: st) n cs ss σ K := by
  obtain ⟨d, rfl⟩ := d
  exact x_iadd d k
theorem y_isub {x y : Int32} (d : decode Y.2.1 pc = .ok (.isub, 1) ∧ pc + 1 = pc') (k : Wx E Y pc' lv (.int (x - y) :: st) n cs ss σ K) : Wx E Y pc lv (.int y :: .int x :: st) n cs ss σ K := by
  obtain ⟨d, rfl⟩ := d
  exact x_isub d k
theorem y_imul {x y : Int32} (d : decode Y.2.1 pc = .ok (.imul, 1) ∧ pc + 1 = pc') (k : Wx E Y pc' lv (.int (x * y) :: st) n cs ss σ K) : Wx E Y pc lv (.int y :: .int x :: st) n cs ss σ K := by
  obtain ⟨d, rfl⟩ := d
  exact x_imul d k
theorem y_iand {x y : Int32} (d : decode Y.2.1 pc = .ok (.iand, 1) ∧ pc + 1 = pc') (k : Wx E Y pc' lv (.int (x &&& y) :: st) n cs ss σ K) : Wx E Y pc lv (.int y :: .int x :: st) n cs ss σ K := by
  obtain ⟨d, rfl⟩ := d
  exact x_iand d k
theorem y_ior {x y : Int32} (d : decode Y.2.1 pc = .ok (.ior, 1) ∧ pc + 1 = pc') (k : Wx E Y pc' lv (.int (x ||| y) :: st) n cs ss σ K) : Wx E Y pc lv (.int y :: .int x :: st) n cs ss σ K := by
  obtain ⟨d, rfl⟩ := d
  exact x_ior d k
theorem y_ixor {x y : Int32} (d : decode Y.2.1 pc = .ok (.ixor, 1) ∧ pc + 1 = pc') (k : Wx E Y pc' lv (.int (x ^^^ y) :: st) n cs ss σ K) : Wx E Y pc lv (.int y :: .int x :: st) n cs ss σ K := by
  obtain ⟨d, rfl⟩ := d
  exact x_ixor d k
theorem y_ishl {x y : Int32} (d : decode Y.2.1 pc = .ok (.ishl, 1) ∧ pc + 1 = pc') (k : Wx E Y pc' lv (.int (x <<< (y &&& 31)) :: st) n cs ss σ K) : Wx E Y pc lv (.int y :: .int x :: st) n cs ss σ K := by
  obtain ⟨d, rfl⟩ := d
  exact x_ishl d k
theorem y_ishr {x y : Int32} (d : decode Y.2.1 pc = .ok (.ishr, 1) ∧ pc + 1 = pc') (k : Wx E Y pc' lv (.int (x >>> (y &&& 31)) :: st) n cs ss σ K) : Wx E Y pc lv (.int y :: .int x :: st) n cs ss σ K := by
  obtain ⟨d, rfl⟩ := d
  exact x_ishr d k
theorem y_ladd {x y : Int64} (d : decode Y.2.1 pc = .ok (.ladd, 1) ∧ pc + 1 = pc') (k : Wx E Y pc' lv (.long (x + y) :: st) n cs ss σ K) : Wx E Y pc lv (.long y :: .long x :: st) n cs ss σ K := by
  obtain ⟨d, rfl⟩ := d
  exact x_ladd d k
theorem y_lsub {x y : Int64} (d : decode Y.2.1 pc = .ok (.lsub, 1) ∧ pc + 1 = pc') (k : Wx E Y pc' lv (.long (x - y) :: st) n cs ss σ K) : Wx E Y pc lv (.long y :: .long x :: st) n cs ss σ K := by
  obtain ⟨d, rfl⟩ := d
  exact x_lsub d k
theorem y_lmul {x y : Int64} (d : decode Y.2.1 pc = .ok (.lmul, 1) ∧ pc + 1 = pc') (k : Wx E Y pc' lv (.long (x * y) :: st) n cs ss σ K) : Wx E Y pc lv (.long y :: .long x :: st) n cs ss σ K := by
  obtain ⟨d, rfl⟩ := d
  exact x_lmul d k
theorem y_land {x y : Int64} (d : decode Y.2.1 pc = .ok (.land, 1) ∧ pc + 1 = pc') (k : Wx E Y pc' lv (.long (x &&& y) :: st) n cs ss σ K) : Wx E Y pc lv (.long y :: .long x :: st) n cs ss σ K := by
  obtain ⟨d, rfl⟩ := d
  exact x_land d k
theorem y_lor {x y : Int64} (d : decode Y.2.1 pc = .ok (.lor, 1) ∧ pc + 1 = pc') (k : Wx E Y pc' lv (.long (x ||| y) :: st) n cs ss σ K) : Wx E Y pc lv (.long y :: .long x :: st) n cs ss σ K := by
  obtain ⟨d, rfl⟩ := d
  exact x_lor d k
theorem y_lxor {x y : Int64} (d : decode Y.2.1 pc = .ok (.lxor, 1) ∧ pc + 1 = pc') (k : Wx E Y pc' lv (.long (x ^^^ y) :: st) n cs ss σ K) : Wx E Y pc lv (.long y :: .long x :: st) n cs ss σ K := by
  obtain ⟨d, rfl⟩ := d
  exact x_lxor d k
theorem y_idiv {x y : Int32} (d : decode Y.2.1 pc = .ok (.idiv, 1) ∧ pc + 1 = pc') (hne : ¬ y = 0) (k : Wx E Y pc' lv (.int (x / y) :: st) n cs ss σ K) : Wx E Y pc lv (.int y :: .int x :: st) n cs ss σ K := by
  obtain ⟨d, rfl⟩ := d
  exact x_idiv d hne k
theorem y_irem {x y : Int32} (d : decode Y.2.1 pc = .ok (.irem, 1) ∧ pc + 1 = pc') (hne : ¬ y = 0) (k : Wx E Y pc' lv (.int (x - x / y * y) :: st) n cs ss σ K) : Wx E Y pc lv (.int y :: .int x :: st) n cs ss σ K := by
  obtain ⟨d, rfl⟩ := d
  exact x_irem d hne k
theorem y_ldiv {x y : Int64} (d : decode Y.2.1 pc = .ok (.ldiv, 1) ∧ pc + 1 = pc') (hne : ¬ y = 0) (k : Wx E Y pc' lv (.long (x / y) :: st) n cs ss σ K) : Wx E Y pc lv (.long y :: .long x :: st) n cs ss σ K := by
  obtain ⟨d, rfl⟩ := d
  exact x_ldiv d hne k
theorem y_lrem {x y : Int64} (d : decode Y.2.1 pc = .ok (.lrem, 1) ∧ pc + 1 = pc') (hne : ¬ y = 0) (k : Wx E Y pc' lv (.long (x - x / y * y) :: st) n cs ss σ K) : Wx E Y pc lv (.long y :: .long x :: st) n cs ss σ K := by
  obtain ⟨d, rfl⟩ := d
  exact x_lrem d hne k
theorem y_ineg {x : Int32} (d : decode Y.2.1 pc = .ok (.ineg, 1) ∧ pc + 1 = pc') (k : Wx E Y pc' lv (.int (-x) :: st) n cs ss σ K) : Wx E Y pc lv (.int x :: st) n cs ss σ K := by
  obtain ⟨d, rfl⟩ := d
  exact x_ineg d k
theorem y_lneg {x : Int64} (d : decode Y.2.1 pc = .ok (.lneg, 1) ∧ pc + 1 = pc') (k : Wx E Y pc' lv (.long (-x) :: st) n cs ss σ K) : Wx E Y pc lv (.long x :: st) n cs ss σ K := by
  obtain ⟨d, rfl⟩ := d
  exact x_lneg d k
theorem y_iushr {x y v : Int32} (d : decode Y.2.1 pc = .ok (.iushr, 1) ∧ pc + 1 = pc') (hv : (x.toUInt32 >>> (y.toUInt32 &&& Int32.toUInt32 31)).toInt32 = v) (k : Wx E Y pc' lv (.int v :: st) n cs ss σ K) : Wx E Y pc lv (.int y :: .int x :: st) n cs ss σ K := by
  obtain ⟨d, rfl⟩ := d
  exact x_iushr d hv k
theorem y_lshl {x v : Int64} {y : Int32} (d : decode Y.2.1 pc = .ok (.lshl, 1) ∧ pc + 1 = pc') (hv : x <<< (y.toInt64 &&& 63) = v) (k : Wx E Y pc' lv (.long v :: st) n cs ss σ K) : Wx E Y pc lv (.int y :: .long x :: st) n cs ss σ K := by
  obtain ⟨d, rfl⟩ := d
  exact x_lshl d hv k
theorem y_lshr {x v : Int64} {y : Int32} (d : decode Y.2.1 pc = .ok (.lshr, 1) ∧ pc + 1 = pc') (hv : x >>> (y.toInt64 &&& 63) = v) (k : Wx E Y pc' lv (.long v :: st) n cs ss σ K) : Wx E Y pc lv (.int y :: .long x :: st) n cs ss σ K := by
  obtain ⟨d, rfl⟩ := d
  exact x_lshr d hv k
theorem y_lushr {x v : Int64} {y : Int32} (d : decode Y.2.1 pc = .ok (.lushr, 1) ∧ pc + 1 = pc') (hv : (x.toUInt64 >>> (y.toInt64.toUInt64 &&& Int64.toUInt64 63)).toInt64 = v) (k : Wx E Y pc' lv (.long v :: st) n cs ss σ K) : Wx E Y pc lv (.int y :: .long x :: st) n cs ss σ K := by
  obtain ⟨d, rfl⟩ := d
  exact x_lushr d hv k
theorem y_i2l {x : Int32} {v : Int64} (d : decode Y.2.1 pc = .ok (.i2l, 1) ∧ pc + 1 = pc') (hv : x.toInt64 = v) (k : Wx E Y pc' lv (.long v :: st) n cs ss σ K) : Wx E Y pc lv (.int x :: st) n cs ss σ K := by
  obtain ⟨d, rfl⟩ := d
  exact x_i2l d hv k
theorem y_l2i {x : Int64} {v : Int32} (d : decode Y.2.1 pc = .ok (.l2i, 1) ∧ pc + 1 = pc') (hv : x.toInt32 = v) (k : Wx E Y pc' lv (.int v :: st) n cs ss σ K) : Wx E Y pc lv (.long x :: st) n cs ss σ K := by
  obtain ⟨d, rfl⟩ := d
  exact x_l2i d hv k
theorem y_i2c {x : Int32} {v : Int32} (d : decode Y.2.1 pc = .ok (.i2c, 1) ∧ pc + 1 = pc') (hv : (x.toUInt32 % 65536).toInt32 = v) (k : Wx E Y pc' lv (.int v :: st) n cs ss σ K) : Wx E Y pc lv (.int x :: st) n cs ss σ K := by
  obtain ⟨d, rfl⟩ := d
  exact x_i2c d hv k
theorem y_lcmp {x y : Int64} (d : decode Y.2.1 pc = .ok (.lcmp, 1) ∧ pc + 1 = pc') (k : Wx E Y pc' lv (.int (lg_cmp x y) :: st) n cs ss σ K) : Wx E Y pc lv (.long y :: .long x :: st) n cs ss σ K := by
  obtain ⟨d, rfl⟩ := d
  exact x_lcmp d k
theorem y_dupi {x : Int32} (d : decode Y.2.1 pc = .ok (.dup, 1) ∧ pc + 1 = pc') (k : Wx E Y pc' lv (.int x :: .int x :: st) n cs ss σ K) : Wx E Y pc lv (.int x :: st) n cs ss σ K := by
  obtain ⟨d, rfl⟩ := d
  exact x_dupi d k
theorem y_dupr {x : Nat} (d : decode Y.2.1 pc = .ok (.dup, 1) ∧ pc + 1 = pc') (k : Wx E Y pc' lv (.ref x :: .ref x :: st) n cs ss σ K) : Wx E Y pc lv (.ref x :: st) n cs ss σ K := by
  obtain ⟨d, rfl⟩ := d
  exact x_dupr d k
theorem y_popi {x : Int32} (d : decode Y.2.1 pc = .ok (.pop, 1) ∧ pc + 1 = pc') (k : Wx E Y pc' lv st n cs ss σ K) : Wx E Y pc lv (.int x :: st) n cs ss σ K := by
  obtain ⟨d, rfl⟩ := d
  exact x_popi d k
theorem y_pop2l {x : Int64} (d : decode Y.2.1 pc = .ok (.pop2, 1) ∧ pc + 1 = pc') (k : Wx E Y pc' lv st n cs ss σ K) : Wx E Y pc lv (.long x :: st) n cs ss σ K := by
  obtain ⟨d, rfl⟩ := d
  exact x_pop2l d k
theorem y_dup2ir {i : Int32} {x : Nat} (d : decode Y.2.1 pc = .ok (.dup2, 1) ∧ pc + 1 = pc') (k : Wx E Y pc' lv (.int i :: .ref x :: .int i :: .ref x :: st) n cs ss σ K) : Wx E Y pc lv (.int i :: .ref x :: st) n cs ss σ K := by
  obtain ⟨d, rfl⟩ := d
  exact x_dup2ir d k
theorem y_dup2l {x : Int64} (d : decode Y.2.1 pc = .ok (.dup2, 1) ∧ pc + 1 = pc') (k : Wx E Y pc' lv (.long x :: .long x :: st) n cs ss σ K) : Wx E Y pc lv (.long x :: st) n cs ss σ K := by
  obtain ⟨d, rfl⟩ := d
  exact x_dup2l d k
theorem y_if_eq {x : Int32} {off : Int} {tgt : Nat} (d : decode Y.2.1 pc = .ok (.ifCond .eq off, 3) ∧ (pc : Int) + off = (tgt : Int) ∧ pc + 3 = pc') (kt : x = 0 → Wx E Y tgt lv st n cs ss σ K) (kf : ¬ x = 0 → Wx E Y pc' lv st n cs ss σ K) : Wx E Y pc lv (.int x :: st) n cs ss σ K := by
  obtain ⟨d, ht, rfl⟩ := d
  exact x_if_eq d ht kt kf
theorem y_icmp_eq {x y : Int32} {off : Int} {tgt : Nat} (d : decode Y.2.1 pc = .ok (.if_icmp .eq off, 3) ∧ (pc : Int) + off = (tgt : Int) ∧ pc + 3 = pc') (kt : x = y → Wx E Y tgt lv st n cs ss σ K) (kf : ¬ x = y → Wx E Y pc' lv st n cs ss σ K) : Wx E Y pc lv (.int y :: .int x :: st) n cs ss σ K := by
  obtain ⟨d, ht, rfl⟩ := d
  exact x_icmp_eq d ht kt kf
theorem y_if_ne {x : Int32} {off : Int} {tgt : Nat} (d : decode Y.2.1 pc = .ok (.ifCond .ne off, 3) ∧ (pc : Int) + off = (tgt : Int) ∧ pc + 3 = pc') (kt : ¬ x = 0 → Wx E Y tgt lv st n cs ss σ K) (kf : x = 0 → Wx E Y pc' lv st n cs ss σ K) : Wx E Y pc lv (.int x :: st) n cs ss σ K := by
  obtain ⟨d, ht, rfl⟩ := d
  exact x_if_ne d ht kt kf
theorem y_icmp_ne {x y : Int32} {off : Int} {tgt : Nat} (d : decode Y.2.1 pc = .ok (.if_icmp .ne off, 3) ∧ (pc : Int) + off = (tgt : Int) ∧ pc + 3 = pc') (kt : ¬ x = y → Wx E Y tgt lv st n cs ss σ K) (kf : x = y → Wx E Y pc' lv st n cs ss σ K) : Wx E Y pc lv (.int y :: .int x :: st) n cs ss σ K := by
  obtain ⟨d, ht, rfl⟩ := d
  exact x_icmp_ne d ht kt kf
theorem y_if_lt {x : Int32} {off : Int} {tgt : Nat} (d : decode Y.2.1 pc = .ok (.ifCond .lt off, 3) ∧ (pc : Int) + off = (tgt : Int) ∧ pc + 3 = pc') (kt : x < 0 → Wx E Y tgt lv st n cs ss σ K) (kf : ¬ x < 0 → Wx E Y pc' lv st n cs ss σ K) : Wx E Y pc lv (.int x :: st) n cs ss σ K := by
  obtain ⟨d, ht, rfl⟩ := d
  exact x_if_lt d ht kt kf
theorem y_icmp_lt {x y : Int32} {off : Int} {tgt : Nat} (d : decode Y.2.1 pc = .ok (.if_icmp .lt off, 3) ∧ (pc : Int) + off = (tgt : Int) ∧ pc + 3 = pc') (kt : x < y → Wx E Y tgt lv st n cs ss σ K) (kf : ¬ x < y → Wx E Y pc' lv st n cs ss σ K) : Wx E Y pc lv (.int y :: .int x :: st) n cs ss σ K := by
  obtain ⟨d, ht, rfl⟩ := d
  exact x_icmp_lt d ht kt kf
theorem y_if_ge {x : Int32} {off : Int} {tgt : Nat} (d : decode Y.2.1 pc = .ok (.ifCond .ge off, 3) ∧ (pc : Int) + off = (tgt : Int) ∧ pc + 3 = pc') (kt : 0 ≤ x → Wx E Y tgt lv st n cs ss σ K) (kf : ¬ 0 ≤ x → Wx E Y pc' lv st n cs ss σ K) : Wx E Y pc lv (.int x :: st) n cs ss σ K := by
  obtain ⟨d, ht, rfl⟩ := d
  exact x_if_ge d ht kt kf
theorem y_icmp_ge {x y : Int32} {off : Int} {tgt : Nat} (d : decode Y.2.1 pc = .ok (.if_icmp .ge off, 3) ∧ (pc : Int) + off = (tgt : Int) ∧ pc + 3 = pc') (kt : y ≤ x → Wx E Y tgt lv st n cs ss σ K) (kf : ¬ y ≤ x → Wx E Y pc' lv st n cs ss σ K) : Wx E Y pc lv (.int y :: .int x :: st) n cs ss σ K := by
  obtain ⟨d, ht, rfl⟩ := d
  exact x_icmp_ge d ht kt kf
theorem y_if_gt {x : Int32} {off : Int} {tgt : Nat} (d : decode Y.2.1 pc = .ok (.ifCond .gt off, 3) ∧ (pc : Int) + off = (tgt : Int) ∧ pc + 3 = pc') (kt : 0 < x → Wx E Y tgt lv st n cs ss σ K) (kf : ¬ 0 < x → Wx E Y pc' lv st n cs ss σ K) : Wx E Y pc lv (.int x :: st) n cs ss σ K := by
  obtain ⟨d, ht, rfl⟩ := d
  exact x_if_gt d ht kt kf
theorem y_icmp_gt {x y : Int32} {off : Int} {tgt : Nat} (d : decode Y.2.1 pc = .ok (.if_icmp .gt off, 3) ∧ (pc : Int) + off = (tgt : Int) ∧ pc + 3 = pc') (kt : y < x → Wx E Y tgt lv st n cs ss σ K) (kf : ¬ y < x → Wx E Y pc' lv st n cs ss σ K) : Wx E Y pc lv (.int y :: .int x :: st) n cs ss σ K := by
  obtain ⟨d, ht, rfl⟩ := d
  exact x_icmp_gt d ht kt kf
theorem y_if_le {x : Int32} {off : Int} {tgt : Nat} (d : decode Y.2.1 pc = .ok (.ifCond .le off, 3) ∧ (pc : Int) + off = (tgt : Int) ∧ pc + 3 = pc') (kt : x ≤ 0 → Wx E Y tgt lv st n cs ss σ K) (kf : ¬ x ≤ 0 → Wx E Y pc' lv st n cs ss σ K) : Wx E Y pc lv (.int x :: st) n cs ss σ K := by
  obtain ⟨d, ht, rfl⟩ := d
  exact x_if_le d ht kt kf
theorem y_icmp_le {x y : Int32} {off : Int} {tgt : Nat} (d : decode Y.2.1 pc = .ok (.if_icmp .le off, 3) ∧ (pc : Int) + off = (tgt : Int) ∧ pc + 3 = pc') (kt : x ≤ y → Wx E Y tgt lv st n cs ss σ K) (kf : ¬ x ≤ y → Wx E Y pc' lv st n cs ss σ K) : Wx E Y pc lv (.int y :: .int x :: st) n cs ss σ K := by
  obtain ⟨d, ht, rfl⟩ := d
  exact x_icmp_le d ht kt kf
theorem y_goto {off : Int} {tgt : Nat} (d : decode Y.2.1 pc = .ok (.goto off, 3) ∧ (pc : Int) + off = (tgt : Int) ∧ pc + 3 = pc') (k : Wx E Y tgt lv st n cs ss σ K) : Wx E Y pc lv st n cs ss σ K := by
  obtain ⟨d, ht, rfl⟩ := d
  exact x_goto d ht k
theorem y_topi {x v : Int32} (h : x = v) (k : Wx E Y pc lv (.int v :: st) n cs ss σ K) : Wx E Y pc lv (.int x :: st) n cs ss σ K := h ▸ k
theorem y_objInit {idx kb : Nat} (d : decode Y.2.1 pc = .ok (.invokespecial idx, 3) ∧ pc + 3 = pc') (h1 : Cond.methodLink Y.1.cls idx Lib.objectInit ∈ TBg) (h2 : Cond.instanceMethod Lib.objectInit ∈ TBg) (h3 : Cond.code Lib.objectInit ⟨#[0xb1]⟩ 1 none ∈ TBg) (hfr : 1 ≤ Y.2.2.2.2.frames) (hlo : 20 ≤ Y.2.2.2.2.locals) (hcat : (st.map fun v => v.category).sum ≤ 8) (k : Wx E Y pc' lv st n cs ss σ K) : Wx E Y pc lv (.ref kb :: st) n cs ss σ K := by
  obtain ⟨d, rfl⟩ := d
  exact x_objInit d h1 h2 h3 hfr hlo hcat k
theorem y_invI {Z : xY} {idx kb : Nat} {As rest : List Value} {nA : Nat} (hM : xM Y.1.cls idx Z nA) (hin : Cond.instanceMethod Z.1 ∈ TBg) (hname : Z.1.name = "<init>") (hret : Z.2.2.2.1 = none) (d : decode Y.2.1 pc = .ok (.invokespecial idx, 3) ∧ pc + 3 = pc') (hA : As.length = nA) (hst : st = As.reverse ++ .ref kb :: rest) (hrm : xRm Y Z cs ss) (hcat : (rest.map fun v => v.category).sum ≤ 8) (hlv : (lv.all fun q => xokv n q.2) = true) (hrs : (rest.all (xokv n)) = true)
    (kk : Cx E Z (.ref kb :: As) n σ (fun v n' σ' => Wx E Y pc' lv (v.toList ++ rest) n' (cs + Z.2.2.2.2.cells) (ss + Z.2.2.2.2.slots) σ' K)) : Wx E Y pc lv st n cs ss σ K := by
  obtain ⟨d, rfl⟩ := d
  exact x_invI d hM hin hname hret hA hst hrm hcat hlv hrs kk
theorem y_invV {Z : xY} {idx kb ci : Nat} {As rest : List Value} {l : List Nat} {nA : Nat} (hM : xM Y.1.cls idx Z nA) (hin : Cond.instanceMethod Z.1 ∈ TBg) (hsel : Cond.selects Z.1.cls Z.1 Z.1 ∈ TBg) (hk : kb < n) (hd : KD kb = (ci, l)) (hc : ci < 100) (hcn : (cls[ci]?.map fun q => q.1) = some Z.1.cls) (d : decode Y.2.1 pc = .ok (.invokevirtual idx, 3) ∧ pc + 3 = pc') (hA : As.length = nA) (hst : st = As.reverse ++ .ref kb :: rest) (hrm : xRm Y Z cs ss) (hcat : (rest.map fun v => v.category).sum ≤ 8) (hlv : (lv.all fun q => xokv n q.2) = true) (hrs : (rest.all (xokv n)) = true)
    (kk : Cx E Z (.ref kb :: As) n σ (fun v n' σ' => Wx E Y pc' lv (v.toList ++ rest) n' (cs + Z.2.2.2.2.cells) (ss + Z.2.2.2.2.slots) σ' K)) : Wx E Y pc lv st n cs ss σ K := by
  obtain ⟨d, rfl⟩ := d
  exact x_invV d hM hin hsel hA hst hk hd hc hcn hrm hcat hlv hrs kk
theorem vp_d {i : Int32} {z : Nat} (h : decide (¬ (i < 0 ∨ z ≤ i.toNatClampNeg)) = true) : vp_in i z := by
  unfold vp_in
  exact of_decide_eq_true h
end YR
