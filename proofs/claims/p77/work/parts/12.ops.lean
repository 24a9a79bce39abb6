section XA
variable {E : xV} {Y : xY} {pc n cs ss : Nat} {lv lv' : List (Nat × Value)} {st : List Value} {σ : xS} {K : xQQ}
theorem x_iadd {x y : Int32} (d : decode Y.2.1 pc = .ok (.iadd, 1)) (k : Wx E Y (pc + 1) lv (.int (x + y) :: st) n cs ss σ K) : Wx E Y pc lv (.int y :: .int x :: st) n cs ss σ K :=
  fun p e R s m args below meth c H locs ls a0 n0 a hC hn hg hH hS hl => lv_iadd hC.1 hC.2.1 d (k p e R s m args below meth c H locs ls a0 n0 a hC hn hg hH hS hl)
theorem x_isub {x y : Int32} (d : decode Y.2.1 pc = .ok (.isub, 1)) (k : Wx E Y (pc + 1) lv (.int (x - y) :: st) n cs ss σ K) : Wx E Y pc lv (.int y :: .int x :: st) n cs ss σ K :=
  fun p e R s m args below meth c H locs ls a0 n0 a hC hn hg hH hS hl => lv_isub hC.1 hC.2.1 d (k p e R s m args below meth c H locs ls a0 n0 a hC hn hg hH hS hl)
theorem x_imul {x y : Int32} (d : decode Y.2.1 pc = .ok (.imul, 1)) (k : Wx E Y (pc + 1) lv (.int (x * y) :: st) n cs ss σ K) : Wx E Y pc lv (.int y :: .int x :: st) n cs ss σ K :=
  fun p e R s m args below meth c H locs ls a0 n0 a hC hn hg hH hS hl => lv_imul hC.1 hC.2.1 d (k p e R s m args below meth c H locs ls a0 n0 a hC hn hg hH hS hl)
theorem x_iand {x y : Int32} (d : decode Y.2.1 pc = .ok (.iand, 1)) (k : Wx E Y (pc + 1) lv (.int (x &&& y) :: st) n cs ss σ K) : Wx E Y pc lv (.int y :: .int x :: st) n cs ss σ K :=
  fun p e R s m args below meth c H locs ls a0 n0 a hC hn hg hH hS hl => lv_iand hC.1 hC.2.1 d (k p e R s m args below meth c H locs ls a0 n0 a hC hn hg hH hS hl)
theorem x_ior {x y : Int32} (d : decode Y.2.1 pc = .ok (.ior, 1)) (k : Wx E Y (pc + 1) lv (.int (x ||| y) :: st) n cs ss σ K) : Wx E Y pc lv (.int y :: .int x :: st) n cs ss σ K :=
  fun p e R s m args below meth c H locs ls a0 n0 a hC hn hg hH hS hl => lv_ior hC.1 hC.2.1 d (k p e R s m args below meth c H locs ls a0 n0 a hC hn hg hH hS hl)
theorem x_ixor {x y : Int32} (d : decode Y.2.1 pc = .ok (.ixor, 1)) (k : Wx E Y (pc + 1) lv (.int (x ^^^ y) :: st) n cs ss σ K) : Wx E Y pc lv (.int y :: .int x :: st) n cs ss σ K :=
  fun p e R s m args below meth c H locs ls a0 n0 a hC hn hg hH hS hl => lv_ixor hC.1 hC.2.1 d (k p e R s m args below meth c H locs ls a0 n0 a hC hn hg hH hS hl)
theorem x_ishl {x y : Int32} (d : decode Y.2.1 pc = .ok (.ishl, 1)) (k : Wx E Y (pc + 1) lv (.int (x <<< (y &&& 31)) :: st) n cs ss σ K) : Wx E Y pc lv (.int y :: .int x :: st) n cs ss σ K :=
  fun p e R s m args below meth c H locs ls a0 n0 a hC hn hg hH hS hl => lv_ishl hC.1 hC.2.1 d (k p e R s m args below meth c H locs ls a0 n0 a hC hn hg hH hS hl)
theorem x_ishr {x y : Int32} (d : decode Y.2.1 pc = .ok (.ishr, 1)) (k : Wx E Y (pc + 1) lv (.int (x >>> (y &&& 31)) :: st) n cs ss σ K) : Wx E Y pc lv (.int y :: .int x :: st) n cs ss σ K :=
  fun p e R s m args below meth c H locs ls a0 n0 a hC hn hg hH hS hl => lv_ishr hC.1 hC.2.1 d (k p e R s m args below meth c H locs ls a0 n0 a hC hn hg hH hS hl)
theorem x_ladd {x y : Int64} (d : decode Y.2.1 pc = .ok (.ladd, 1)) (k : Wx E Y (pc + 1) lv (.long (x + y) :: st) n cs ss σ K) : Wx E Y pc lv (.long y :: .long x :: st) n cs ss σ K :=
  fun p e R s m args below meth c H locs ls a0 n0 a hC hn hg hH hS hl => lv_ladd hC.1 hC.2.1 d (k p e R s m args below meth c H locs ls a0 n0 a hC hn hg hH hS hl)
theorem x_lsub {x y : Int64} (d : decode Y.2.1 pc = .ok (.lsub, 1)) (k : Wx E Y (pc + 1) lv (.long (x - y) :: st) n cs ss σ K) : Wx E Y pc lv (.long y :: .long x :: st) n cs ss σ K :=
  fun p e R s m args below meth c H locs ls a0 n0 a hC hn hg hH hS hl => lv_lsub hC.1 hC.2.1 d (k p e R s m args below meth c H locs ls a0 n0 a hC hn hg hH hS hl)
theorem x_lmul {x y : Int64} (d : decode Y.2.1 pc = .ok (.lmul, 1)) (k : Wx E Y (pc + 1) lv (.long (x * y) :: st) n cs ss σ K) : Wx E Y pc lv (.long y :: .long x :: st) n cs ss σ K :=
  fun p e R s m args below meth c H locs ls a0 n0 a hC hn hg hH hS hl => lv_lmul hC.1 hC.2.1 d (k p e R s m args below meth c H locs ls a0 n0 a hC hn hg hH hS hl)
theorem x_land {x y : Int64} (d : decode Y.2.1 pc = .ok (.land, 1)) (k : Wx E Y (pc + 1) lv (.long (x &&& y) :: st) n cs ss σ K) : Wx E Y pc lv (.long y :: .long x :: st) n cs ss σ K :=
  fun p e R s m args below meth c H locs ls a0 n0 a hC hn hg hH hS hl => lv_land hC.1 hC.2.1 d (k p e R s m args below meth c H locs ls a0 n0 a hC hn hg hH hS hl)
theorem x_lor {x y : Int64} (d : decode Y.2.1 pc = .ok (.lor, 1)) (k : Wx E Y (pc + 1) lv (.long (x ||| y) :: st) n cs ss σ K) : Wx E Y pc lv (.long y :: .long x :: st) n cs ss σ K :=
  fun p e R s m args below meth c H locs ls a0 n0 a hC hn hg hH hS hl => lv_lor hC.1 hC.2.1 d (k p e R s m args below meth c H locs ls a0 n0 a hC hn hg hH hS hl)
theorem x_lxor {x y : Int64} (d : decode Y.2.1 pc = .ok (.lxor, 1)) (k : Wx E Y (pc + 1) lv (.long (x ^^^ y) :: st) n cs ss σ K) : Wx E Y pc lv (.long y :: .long x :: st) n cs ss σ K :=
  fun p e R s m args below meth c H locs ls a0 n0 a hC hn hg hH hS hl => lv_lxor hC.1 hC.2.1 d (k p e R s m args below meth c H locs ls a0 n0 a hC hn hg hH hS hl)
theorem x_idiv {x y : Int32} (d : decode Y.2.1 pc = .ok (.idiv, 1)) (hne : ¬ y = 0) (k : Wx E Y (pc + 1) lv (.int (x / y) :: st) n cs ss σ K) : Wx E Y pc lv (.int y :: .int x :: st) n cs ss σ K :=
  fun p e R s m args below meth c H locs ls a0 n0 a hC hn hg hH hS hl => lv_idiv hC.1 hC.2.1 d hne (k p e R s m args below meth c H locs ls a0 n0 a hC hn hg hH hS hl)
theorem x_irem {x y : Int32} (d : decode Y.2.1 pc = .ok (.irem, 1)) (hne : ¬ y = 0) (k : Wx E Y (pc + 1) lv (.int (x - x / y * y) :: st) n cs ss σ K) : Wx E Y pc lv (.int y :: .int x :: st) n cs ss σ K :=
  fun p e R s m args below meth c H locs ls a0 n0 a hC hn hg hH hS hl => lv_irem hC.1 hC.2.1 d hne (k p e R s m args below meth c H locs ls a0 n0 a hC hn hg hH hS hl)
theorem x_ldiv {x y : Int64} (d : decode Y.2.1 pc = .ok (.ldiv, 1)) (hne : ¬ y = 0) (k : Wx E Y (pc + 1) lv (.long (x / y) :: st) n cs ss σ K) : Wx E Y pc lv (.long y :: .long x :: st) n cs ss σ K :=
  fun p e R s m args below meth c H locs ls a0 n0 a hC hn hg hH hS hl => lv_ldiv hC.1 hC.2.1 d hne (k p e R s m args below meth c H locs ls a0 n0 a hC hn hg hH hS hl)
theorem x_lrem {x y : Int64} (d : decode Y.2.1 pc = .ok (.lrem, 1)) (hne : ¬ y = 0) (k : Wx E Y (pc + 1) lv (.long (x - x / y * y) :: st) n cs ss σ K) : Wx E Y pc lv (.long y :: .long x :: st) n cs ss σ K :=
  fun p e R s m args below meth c H locs ls a0 n0 a hC hn hg hH hS hl => lv_lrem hC.1 hC.2.1 d hne (k p e R s m args below meth c H locs ls a0 n0 a hC hn hg hH hS hl)
theorem x_ineg {x : Int32} (d : decode Y.2.1 pc = .ok (.ineg, 1)) (k : Wx E Y (pc + 1) lv (.int (-x) :: st) n cs ss σ K) : Wx E Y pc lv (.int x :: st) n cs ss σ K :=
  fun p e R s m args below meth c H locs ls a0 n0 a hC hn hg hH hS hl => lv_ineg hC.1 hC.2.1 d (k p e R s m args below meth c H locs ls a0 n0 a hC hn hg hH hS hl)
theorem x_lneg {x : Int64} (d : decode Y.2.1 pc = .ok (.lneg, 1)) (k : Wx E Y (pc + 1) lv (.long (-x) :: st) n cs ss σ K) : Wx E Y pc lv (.long x :: st) n cs ss σ K :=
  fun p e R s m args below meth c H locs ls a0 n0 a hC hn hg hH hS hl => lv_lneg hC.1 hC.2.1 d (k p e R s m args below meth c H locs ls a0 n0 a hC hn hg hH hS hl)
theorem x_iushr {x y v : Int32} (d : decode Y.2.1 pc = .ok (.iushr, 1)) (hv : (x.toUInt32 >>> (y.toUInt32 &&& Int32.toUInt32 31)).toInt32 = v) (k : Wx E Y (pc + 1) lv (.int v :: st) n cs ss σ K) : Wx E Y pc lv (.int y :: .int x :: st) n cs ss σ K :=
  fun p e R s m args below meth c H locs ls a0 n0 a hC hn hg hH hS hl => lv_iushr hC.1 hC.2.1 d hv (k p e R s m args below meth c H locs ls a0 n0 a hC hn hg hH hS hl)
theorem x_lshl {x v : Int64} {y : Int32} (d : decode Y.2.1 pc = .ok (.lshl, 1)) (hv : x <<< (y.toInt64 &&& 63) = v) (k : Wx E Y (pc + 1) lv (.long v :: st) n cs ss σ K) : Wx E Y pc lv (.int y :: .long x :: st) n cs ss σ K :=
  fun p e R s m args below meth c H locs ls a0 n0 a hC hn hg hH hS hl => lv_lshl hC.1 hC.2.1 d hv (k p e R s m args below meth c H locs ls a0 n0 a hC hn hg hH hS hl)
theorem x_lshr {x v : Int64} {y : Int32} (d : decode Y.2.1 pc = .ok (.lshr, 1)) (hv : x >>> (y.toInt64 &&& 63) = v) (k : Wx E Y (pc + 1) lv (.long v :: st) n cs ss σ K) : Wx E Y pc lv (.int y :: .long x :: st) n cs ss σ K :=
  fun p e R s m args below meth c H locs ls a0 n0 a hC hn hg hH hS hl => lv_lshr hC.1 hC.2.1 d hv (k p e R s m args below meth c H locs ls a0 n0 a hC hn hg hH hS hl)
theorem x_lushr {x v : Int64} {y : Int32} (d : decode Y.2.1 pc = .ok (.lushr, 1)) (hv : (x.toUInt64 >>> (y.toInt64.toUInt64 &&& Int64.toUInt64 63)).toInt64 = v) (k : Wx E Y (pc + 1) lv (.long v :: st) n cs ss σ K) : Wx E Y pc lv (.int y :: .long x :: st) n cs ss σ K :=
  fun p e R s m args below meth c H locs ls a0 n0 a hC hn hg hH hS hl => lv_lushr hC.1 hC.2.1 d hv (k p e R s m args below meth c H locs ls a0 n0 a hC hn hg hH hS hl)
theorem x_i2l {x : Int32} {v : Int64} (d : decode Y.2.1 pc = .ok (.i2l, 1)) (hv : x.toInt64 = v) (k : Wx E Y (pc + 1) lv (.long v :: st) n cs ss σ K) : Wx E Y pc lv (.int x :: st) n cs ss σ K :=
  fun p e R s m args below meth c H locs ls a0 n0 a hC hn hg hH hS hl => lv_i2l hC.1 hC.2.1 d hv (k p e R s m args below meth c H locs ls a0 n0 a hC hn hg hH hS hl)
theorem x_l2i {x : Int64} {v : Int32} (d : decode Y.2.1 pc = .ok (.l2i, 1)) (hv : x.toInt32 = v) (k : Wx E Y (pc + 1) lv (.int v :: st) n cs ss σ K) : Wx E Y pc lv (.long x :: st) n cs ss σ K :=
  fun p e R s m args below meth c H locs ls a0 n0 a hC hn hg hH hS hl => lv_l2i hC.1 hC.2.1 d hv (k p e R s m args below meth c H locs ls a0 n0 a hC hn hg hH hS hl)
theorem x_i2c {x : Int32} {v : Int32} (d : decode Y.2.1 pc = .ok (.i2c, 1)) (hv : (x.toUInt32 % 65536).toInt32 = v) (k : Wx E Y (pc + 1) lv (.int v :: st) n cs ss σ K) : Wx E Y pc lv (.int x :: st) n cs ss σ K :=
  fun p e R s m args below meth c H locs ls a0 n0 a hC hn hg hH hS hl => lv_i2c hC.1 hC.2.1 d hv (k p e R s m args below meth c H locs ls a0 n0 a hC hn hg hH hS hl)
theorem x_lcmp {x y : Int64} (d : decode Y.2.1 pc = .ok (.lcmp, 1)) (k : Wx E Y (pc + 1) lv (.int (lg_cmp x y) :: st) n cs ss σ K) : Wx E Y pc lv (.long y :: .long x :: st) n cs ss σ K :=
  fun p e R s m args below meth c H locs ls a0 n0 a hC hn hg hH hS hl => W.lcmp hC.1 hC.2.1 d (k p e R s m args below meth c H locs ls a0 n0 a hC hn hg hH hS hl)
theorem x_dupi {x : Int32} (d : decode Y.2.1 pc = .ok (.dup, 1)) (k : Wx E Y (pc + 1) lv (.int x :: .int x :: st) n cs ss σ K) : Wx E Y pc lv (.int x :: st) n cs ss σ K :=
  fun p e R s m args below meth c H locs ls a0 n0 a hC hn hg hH hS hl => lv_dup hC.1 hC.2.1 d rfl (k p e R s m args below meth c H locs ls a0 n0 a hC hn hg hH hS hl)
theorem x_dupr {x : Nat} (d : decode Y.2.1 pc = .ok (.dup, 1)) (k : Wx E Y (pc + 1) lv (.ref x :: .ref x :: st) n cs ss σ K) : Wx E Y pc lv (.ref x :: st) n cs ss σ K :=
  fun p e R s m args below meth c H locs ls a0 n0 a hC hn hg hH hS hl => lv_dup hC.1 hC.2.1 d rfl (k p e R s m args below meth c H locs ls a0 n0 a hC hn hg hH hS hl)
theorem x_popi {x : Int32} (d : decode Y.2.1 pc = .ok (.pop, 1)) (k : Wx E Y (pc + 1) lv st n cs ss σ K) : Wx E Y pc lv (.int x :: st) n cs ss σ K :=
  fun p e R s m args below meth c H locs ls a0 n0 a hC hn hg hH hS hl => lv_pop hC.1 hC.2.1 d rfl (k p e R s m args below meth c H locs ls a0 n0 a hC hn hg hH hS hl)
theorem x_pop2l {x : Int64} (d : decode Y.2.1 pc = .ok (.pop2, 1)) (k : Wx E Y (pc + 1) lv st n cs ss σ K) : Wx E Y pc lv (.long x :: st) n cs ss σ K :=
  fun p e R s m args below meth c H locs ls a0 n0 a hC hn hg hH hS hl => lv_pop2_2 hC.1 hC.2.1 d rfl (k p e R s m args below meth c H locs ls a0 n0 a hC hn hg hH hS hl)
theorem x_dup2ir {i : Int32} {x : Nat} (d : decode Y.2.1 pc = .ok (.dup2, 1)) (k : Wx E Y (pc + 1) lv (.int i :: .ref x :: .int i :: .ref x :: st) n cs ss σ K) : Wx E Y pc lv (.int i :: .ref x :: st) n cs ss σ K :=
  fun p e R s m args below meth c H locs ls a0 n0 a hC hn hg hH hS hl => lv_dup2_11 hC.1 hC.2.1 d rfl rfl (k p e R s m args below meth c H locs ls a0 n0 a hC hn hg hH hS hl)
theorem x_dup2l {x : Int64} (d : decode Y.2.1 pc = .ok (.dup2, 1)) (k : Wx E Y (pc + 1) lv (.long x :: .long x :: st) n cs ss σ K) : Wx E Y pc lv (.long x :: st) n cs ss σ K :=
  fun p e R s m args below meth c H locs ls a0 n0 a hC hn hg hH hS hl => lv_dup2_2 hC.1 hC.2.1 d rfl (k p e R s m args below meth c H locs ls a0 n0 a hC hn hg hH hS hl)
theorem x_if_eq {x : Int32} {off : Int} {tgt : Nat} (d : decode Y.2.1 pc = .ok (.ifCond .eq off, 3)) (ht : (pc : Int) + off = (tgt : Int)) (kt : x = 0 → Wx E Y tgt lv st n cs ss σ K) (kf : ¬ x = 0 → Wx E Y (pc + 3) lv st n cs ss σ K) : Wx E Y pc lv (.int x :: st) n cs ss σ K :=
  fun p e R s m args below meth c H locs ls a0 n0 a hC hn hg hH hS hl => lv_if_eq hC.1 hC.2.1 d ht (fun h => kt h p e R s m args below meth c H locs ls a0 n0 a hC hn hg hH hS hl) (fun h => kf h p e R s m args below meth c H locs ls a0 n0 a hC hn hg hH hS hl)
theorem x_icmp_eq {x y : Int32} {off : Int} {tgt : Nat} (d : decode Y.2.1 pc = .ok (.if_icmp .eq off, 3)) (ht : (pc : Int) + off = (tgt : Int)) (kt : x = y → Wx E Y tgt lv st n cs ss σ K) (kf : ¬ x = y → Wx E Y (pc + 3) lv st n cs ss σ K) : Wx E Y pc lv (.int y :: .int x :: st) n cs ss σ K :=
  fun p e R s m args below meth c H locs ls a0 n0 a hC hn hg hH hS hl => lv_icmp_eq hC.1 hC.2.1 d ht (fun h => kt h p e R s m args below meth c H locs ls a0 n0 a hC hn hg hH hS hl) (fun h => kf h p e R s m args below meth c H locs ls a0 n0 a hC hn hg hH hS hl)
theorem x_if_ne {x : Int32} {off : Int} {tgt : Nat} (d : decode Y.2.1 pc = .ok (.ifCond .ne off, 3)) (ht : (pc : Int) + off = (tgt : Int)) (kt : ¬ x = 0 → Wx E Y tgt lv st n cs ss σ K) (kf : x = 0 → Wx E Y (pc + 3) lv st n cs ss σ K) : Wx E Y pc lv (.int x :: st) n cs ss σ K :=
  fun p e R s m args below meth c H locs ls a0 n0 a hC hn hg hH hS hl => lv_if_ne hC.1 hC.2.1 d ht (fun h => kt h p e R s m args below meth c H locs ls a0 n0 a hC hn hg hH hS hl) (fun h => kf h p e R s m args below meth c H locs ls a0 n0 a hC hn hg hH hS hl)
theorem x_icmp_ne {x y : Int32} {off : Int} {tgt : Nat} (d : decode Y.2.1 pc = .ok (.if_icmp .ne off, 3)) (ht : (pc : Int) + off = (tgt : Int)) (kt : ¬ x = y → Wx E Y tgt lv st n cs ss σ K) (kf : x = y → Wx E Y (pc + 3) lv st n cs ss σ K) : Wx E Y pc lv (.int y :: .int x :: st) n cs ss σ K :=
  fun p e R s m args below meth c H locs ls a0 n0 a hC hn hg hH hS hl => lv_icmp_ne hC.1 hC.2.1 d ht (fun h => kt h p e R s m args below meth c H locs ls a0 n0 a hC hn hg hH hS hl) (fun h => kf h p e R s m args below meth c H locs ls a0 n0 a hC hn hg hH hS hl)
theorem x_if_lt {x : Int32} {off : Int} {tgt : Nat} (d : decode Y.2.1 pc = .ok (.ifCond .lt off, 3)) (ht : (pc : Int) + off = (tgt : Int)) (kt : x < 0 → Wx E Y tgt lv st n cs ss σ K) (kf : ¬ x < 0 → Wx E Y (pc + 3) lv st n cs ss σ K) : Wx E Y pc lv (.int x :: st) n cs ss σ K :=
  fun p e R s m args below meth c H locs ls a0 n0 a hC hn hg hH hS hl => lv_if_lt hC.1 hC.2.1 d ht (fun h => kt h p e R s m args below meth c H locs ls a0 n0 a hC hn hg hH hS hl) (fun h => kf h p e R s m args below meth c H locs ls a0 n0 a hC hn hg hH hS hl)
theorem x_icmp_lt {x y : Int32} {off : Int} {tgt : Nat} (d : decode Y.2.1 pc = .ok (.if_icmp .lt off, 3)) (ht : (pc : Int) + off = (tgt : Int)) (kt : x < y → Wx E Y tgt lv st n cs ss σ K) (kf : ¬ x < y → Wx E Y (pc + 3) lv st n cs ss σ K) : Wx E Y pc lv (.int y :: .int x :: st) n cs ss σ K :=
  fun p e R s m args below meth c H locs ls a0 n0 a hC hn hg hH hS hl => lv_icmp_lt hC.1 hC.2.1 d ht (fun h => kt h p e R s m args below meth c H locs ls a0 n0 a hC hn hg hH hS hl) (fun h => kf h p e R s m args below meth c H locs ls a0 n0 a hC hn hg hH hS hl)
theorem x_if_ge {x : Int32} {off : Int} {tgt : Nat} (d : decode Y.2.1 pc = .ok (.ifCond .ge off, 3)) (ht : (pc : Int) + off = (tgt : Int)) (kt : 0 ≤ x → Wx E Y tgt lv st n cs ss σ K) (kf : ¬ 0 ≤ x → Wx E Y (pc + 3) lv st n cs ss σ K) : Wx E Y pc lv (.int x :: st) n cs ss σ K :=
  fun p e R s m args below meth c H locs ls a0 n0 a hC hn hg hH hS hl => lv_if_ge hC.1 hC.2.1 d ht (fun h => kt h p e R s m args below meth c H locs ls a0 n0 a hC hn hg hH hS hl) (fun h => kf h p e R s m args below meth c H locs ls a0 n0 a hC hn hg hH hS hl)
theorem x_icmp_ge {x y : Int32} {off : Int} {tgt : Nat} (d : decode Y.2.1 pc = .ok (.if_icmp .ge off, 3)) (ht : (pc : Int) + off = (tgt : Int)) (kt : y ≤ x → Wx E Y tgt lv st n cs ss σ K) (kf : ¬ y ≤ x → Wx E Y (pc + 3) lv st n cs ss σ K) : Wx E Y pc lv (.int y :: .int x :: st) n cs ss σ K :=
  fun p e R s m args below meth c H locs ls a0 n0 a hC hn hg hH hS hl => lv_icmp_ge hC.1 hC.2.1 d ht (fun h => kt h p e R s m args below meth c H locs ls a0 n0 a hC hn hg hH hS hl) (fun h => kf h p e R s m args below meth c H locs ls a0 n0 a hC hn hg hH hS hl)
theorem x_if_gt {x : Int32} {off : Int} {tgt : Nat} (d : decode Y.2.1 pc = .ok (.ifCond .gt off, 3)) (ht : (pc : Int) + off = (tgt : Int)) (kt : 0 < x → Wx E Y tgt lv st n cs ss σ K) (kf : ¬ 0 < x → Wx E Y (pc + 3) lv st n cs ss σ K) : Wx E Y pc lv (.int x :: st) n cs ss σ K :=
  fun p e R s m args below meth c H locs ls a0 n0 a hC hn hg hH hS hl => lv_if_gt hC.1 hC.2.1 d ht (fun h => kt h p e R s m args below meth c H locs ls a0 n0 a hC hn hg hH hS hl) (fun h => kf h p e R s m args below meth c H locs ls a0 n0 a hC hn hg hH hS hl)
theorem x_icmp_gt {x y : Int32} {off : Int} {tgt : Nat} (d : decode Y.2.1 pc = .ok (.if_icmp .gt off, 3)) (ht : (pc : Int) + off = (tgt : Int)) (kt : y < x → Wx E Y tgt lv st n cs ss σ K) (kf : ¬ y < x → Wx E Y (pc + 3) lv st n cs ss σ K) : Wx E Y pc lv (.int y :: .int x :: st) n cs ss σ K :=
  fun p e R s m args below meth c H locs ls a0 n0 a hC hn hg hH hS hl => lv_icmp_gt hC.1 hC.2.1 d ht (fun h => kt h p e R s m args below meth c H locs ls a0 n0 a hC hn hg hH hS hl) (fun h => kf h p e R s m args below meth c H locs ls a0 n0 a hC hn hg hH hS hl)
theorem x_if_le {x : Int32} {off : Int} {tgt : Nat} (d : decode Y.2.1 pc = .ok (.ifCond .le off, 3)) (ht : (pc : Int) + off = (tgt : Int)) (kt : x ≤ 0 → Wx E Y tgt lv st n cs ss σ K) (kf : ¬ x ≤ 0 → Wx E Y (pc + 3) lv st n cs ss σ K) : Wx E Y pc lv (.int x :: st) n cs ss σ K :=
  fun p e R s m args below meth c H locs ls a0 n0 a hC hn hg hH hS hl => lv_if_le hC.1 hC.2.1 d ht (fun h => kt h p e R s m args below meth c H locs ls a0 n0 a hC hn hg hH hS hl) (fun h => kf h p e R s m args below meth c H locs ls a0 n0 a hC hn hg hH hS hl)
theorem x_icmp_le {x y : Int32} {off : Int} {tgt : Nat} (d : decode Y.2.1 pc = .ok (.if_icmp .le off, 3)) (ht : (pc : Int) + off = (tgt : Int)) (kt : x ≤ y → Wx E Y tgt lv st n cs ss σ K) (kf : ¬ x ≤ y → Wx E Y (pc + 3) lv st n cs ss σ K) : Wx E Y pc lv (.int y :: .int x :: st) n cs ss σ K :=
  fun p e R s m args below meth c H locs ls a0 n0 a hC hn hg hH hS hl => lv_icmp_le hC.1 hC.2.1 d ht (fun h => kt h p e R s m args below meth c H locs ls a0 n0 a hC hn hg hH hS hl) (fun h => kf h p e R s m args below meth c H locs ls a0 n0 a hC hn hg hH hS hl)
theorem x_goto {off : Int} {tgt : Nat} (d : decode Y.2.1 pc = .ok (.goto off, 3)) (ht : (pc : Int) + off = (tgt : Int)) (k : Wx E Y tgt lv st n cs ss σ K) : Wx E Y pc lv st n cs ss σ K :=
  fun p e R s m args below meth c H locs ls a0 n0 a hC hn hg hH hS hl => lv_goto hC.1 hC.2.1 d ht (k p e R s m args below meth c H locs ls a0 n0 a hC hn hg hH hS hl)
end XA
