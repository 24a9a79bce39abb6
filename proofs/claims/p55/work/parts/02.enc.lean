noncomputable section
/-! ===== instructions as bytes ===== -/
noncomputable def zin (l h z : Int) : Bool := decide (l ≤ z) && decide (z ≤ h)
theorem zin_iff {l h z : Int} : zin l h z = true ↔ l ≤ z ∧ z ≤ h := by
  unfold zin
  rw [Bool.and_eq_true, decide_eq_true_iff, decide_eq_true_iff]
noncomputable def e_u1 (op x : Nat) : Option (List Nat) := bif Nat.blt x 256 then some [op, x] else none
noncomputable def e_u2 (op x : Nat) : Option (List Nat) := bif Nat.blt x 65536 then some [op, x / 256, x % 256] else none
noncomputable def e_s1 (op : Nat) (z : Int) : Option (List Nat) := bif zin (-128) 127 z then some [op, (z % 256).toNat] else none
noncomputable def e_s2 (op : Nat) (z : Int) : Option (List Nat) := bif zin (-32768) 32767 z then some [op, (z % 65536).toNat / 256, (z % 65536).toNat % 256] else none
noncomputable def encb : Instr → Option (List Nat)
  | .iaload => some [46]
  | .laload => some [47]
  | .aaload => some [50]
  | .baload => some [51]
  | .iastore => some [79]
  | .lastore => some [80]
  | .bastore => some [84]
  | .pop => some [87]
  | .dup => some [89]
  | .dup2 => some [92]
  | .iadd => some [96]
  | .ladd => some [97]
  | .isub => some [100]
  | .lsub => some [101]
  | .imul => some [104]
  | .lmul => some [105]
  | .idiv => some [108]
  | .ldiv => some [109]
  | .irem => some [112]
  | .lrem => some [113]
  | .ineg => some [116]
  | .lneg => some [117]
  | .ishl => some [120]
  | .lshl => some [121]
  | .ishr => some [122]
  | .lshr => some [123]
  | .iushr => some [124]
  | .lushr => some [125]
  | .iand => some [126]
  | .land => some [127]
  | .ior => some [128]
  | .lor => some [129]
  | .ixor => some [130]
  | .lxor => some [131]
  | .i2l => some [133]
  | .l2i => some [136]
  | .i2b => some [145]
  | .i2c => some [146]
  | .lcmp => some [148]
  | .ireturn => some [172]
  | .lreturn => some [173]
  | .areturn => some [176]
  | .return_ => some [177]
  | .arraylength => some [190]
  | .iload_n i => some [26 + i.val]
  | .lload_n i => some [30 + i.val]
  | .aload_n i => some [42 + i.val]
  | .istore_n i => some [59 + i.val]
  | .lstore_n i => some [63 + i.val]
  | .astore_n i => some [75 + i.val]
  | .lconst i => some [9 + i.val]
  | .iconst n => bif zin (-1) 5 n then some [(n + 3).toNat] else none
  | .ldc x => e_u1 18 x
  | .iload x => e_u1 21 x
  | .lload x => e_u1 22 x
  | .aload x => e_u1 25 x
  | .istore x => e_u1 54 x
  | .lstore x => e_u1 55 x
  | .astore x => e_u1 58 x
  | .ldc_w x => e_u2 19 x
  | .ldc2_w x => e_u2 20 x
  | .getstatic x => e_u2 178 x
  | .getfield x => e_u2 180 x
  | .putfield x => e_u2 181 x
  | .invokevirtual x => e_u2 182 x
  | .invokespecial x => e_u2 183 x
  | .invokestatic x => e_u2 184 x
  | .new x => e_u2 187 x
  | .bipush z => e_s1 16 z
  | .iinc x z => bif Nat.blt x 256 && (zin (-128) 127 z) then some [132, x, (z % 256).toNat] else none
  | .sipush z => e_s2 17 z
  | .goto z => e_s2 167 z
  | .ifCond .eq z => e_s2 153 z
  | .ifCond .ne z => e_s2 154 z
  | .ifCond .lt z => e_s2 155 z
  | .ifCond .ge z => e_s2 156 z
  | .ifCond .gt z => e_s2 157 z
  | .ifCond .le z => e_s2 158 z
  | .if_icmp .eq z => e_s2 159 z
  | .if_icmp .ne z => e_s2 160 z
  | .if_icmp .lt z => e_s2 161 z
  | .if_icmp .ge z => e_s2 162 z
  | .if_icmp .gt z => e_s2 163 z
  | .if_icmp .le z => e_s2 164 z
  | _ => none
noncomputable def Enc (ix : Instr) (w : List Nat) : Prop := ∀ bs : List UInt8, bs.map UInt8.toNat = w → decode ⟨bs.toArray⟩ 0 = .ok (ix, w.length) ∧ okat ⟨bs.toArray⟩ 0 = true
theorem enc_1 {op : UInt8} {n : Nat} {ix : Instr} (hn : op.toNat = n) (h : decode ⟨#[op]⟩ 0 = .ok (ix, 1) ∧ okat ⟨#[op]⟩ 0 = true) : Enc ix [n] := by
  intro bs hb
  match bs, hb with
  | [], hb => cases hb
  | [c], hb =>
    have h1 : c.toNat = n := (List.cons.inj hb).1
    have e : c = op := UInt8.toNat_inj.mp (h1.trans hn.symm)
    subst e
    exact h
  | _ :: _ :: _, hb => cases (List.cons.inj hb).2
theorem enc_2 {op : UInt8} {n x : Nat} {f : Nat → Instr} (hn : op.toNat = n) (h : ∀ a : UInt8, decode ⟨#[op, a]⟩ 0 = .ok (f a.toNat, 2) ∧ okat ⟨#[op, a]⟩ 0 = true) : Enc (f x) [n, x] := by
  intro bs hb
  match bs, hb with
  | [], hb => cases hb
  | [_], hb => cases (List.cons.inj hb).2
  | [c, a], hb =>
    have h1 : c.toNat = n := (List.cons.inj hb).1
    have h2 : a.toNat = x := (List.cons.inj (List.cons.inj hb).2).1
    have e : c = op := UInt8.toNat_inj.mp (h1.trans hn.symm)
    subst e
    rw [← h2]
    exact h a
  | _ :: _ :: _ :: _, hb => cases (List.cons.inj (List.cons.inj hb).2).2
theorem enc_3 {op : UInt8} {n x y : Nat} {f : Nat → Nat → Instr} (hn : op.toNat = n) (h : ∀ a b : UInt8, decode ⟨#[op, a, b]⟩ 0 = .ok (f a.toNat b.toNat, 3) ∧ okat ⟨#[op, a, b]⟩ 0 = true) : Enc (f x y) [n, x, y] := by
  intro bs hb
  match bs, hb with
  | [], hb => cases hb
  | [_], hb => cases (List.cons.inj hb).2
  | [_, _], hb => cases (List.cons.inj (List.cons.inj hb).2).2
  | [c, a, b], hb =>
    have h1 : c.toNat = n := (List.cons.inj hb).1
    have h2 : a.toNat = x := (List.cons.inj (List.cons.inj hb).2).1
    have h3 : b.toNat = y := (List.cons.inj (List.cons.inj (List.cons.inj hb).2).2).1
    have e : c = op := UInt8.toNat_inj.mp (h1.trans hn.symm)
    subst e
    rw [← h2, ← h3]
    exact h a b
  | _ :: _ :: _ :: _ :: _, hb => cases (List.cons.inj (List.cons.inj (List.cons.inj hb).2).2).2
theorem sg8 {z : Int} (h1 : -128 ≤ z) (h2 : z ≤ 127) : Jvm.ClassFile.Reader.signed 8 (z % 256).toNat = z := by
  show (if (z % 256).toNat < 128 then ((z % 256).toNat : Int) else ((z % 256).toNat : Int) - ((256 : Nat) : Int)) = z
  split <;> omega
theorem sg16 {z : Int} (h1 : -32768 ≤ z) (h2 : z ≤ 32767) : Jvm.ClassFile.Reader.signed 16 ((z % 65536).toNat / 256 * 256 + (z % 65536).toNat % 256) = z := by
  show (if ((z % 65536).toNat / 256 * 256 + (z % 65536).toNat % 256) < 32768 then (((z % 65536).toNat / 256 * 256 + (z % 65536).toNat % 256 : Nat) : Int) else (((z % 65536).toNat / 256 * 256 + (z % 65536).toNat % 256 : Nat) : Int) - ((65536 : Nat) : Int)) = z
  split <;> omega
theorem enc_u1 {op : UInt8} {n x : Nat} {w : List Nat} {f : Nat → Instr} (hn : op.toNat = n) (h : ∀ a : UInt8, decode ⟨#[op, a]⟩ 0 = .ok (f a.toNat, 2) ∧ okat ⟨#[op, a]⟩ 0 = true) (hw : e_u1 n x = some w) : Enc (f x) w := by
  unfold e_u1 at hw
  cases hc : Nat.blt x 256 with
  | false => rw [hc] at hw; cases hw
  | true => rw [hc] at hw; cases hw; exact enc_2 hn h
theorem enc_u2 {op : UInt8} {n x : Nat} {w : List Nat} {f : Nat → Instr} (hn : op.toNat = n) (h : ∀ a b : UInt8, decode ⟨#[op, a, b]⟩ 0 = .ok (f (a.toNat * 256 + b.toNat), 3) ∧ okat ⟨#[op, a, b]⟩ 0 = true) (hw : e_u2 n x = some w) : Enc (f x) w := by
  unfold e_u2 at hw
  cases hc : Nat.blt x 65536 with
  | false => rw [hc] at hw; cases hw
  | true =>
    rw [hc] at hw
    cases hw
    have q := enc_3 (n := n) (x := x / 256) (y := x % 256) (f := fun a b => f (a * 256 + b)) hn h
    have e : x / 256 * 256 + x % 256 = x := by omega
    have q : Enc (f (x / 256 * 256 + x % 256)) [n, x / 256, x % 256] := q
    rw [e] at q
    exact q
theorem enc_s1 {op : UInt8} {n : Nat} {z : Int} {w : List Nat} {f : Int → Instr} (hn : op.toNat = n) (h : ∀ a : UInt8, decode ⟨#[op, a]⟩ 0 = .ok (f (Jvm.ClassFile.Reader.signed 8 a.toNat), 2) ∧ okat ⟨#[op, a]⟩ 0 = true) (hw : e_s1 n z = some w) : Enc (f z) w := by
  unfold e_s1 at hw
  cases hc : zin (-128) 127 z with
  | false => rw [hc] at hw; cases hw
  | true =>
    rw [hc] at hw
    cases hw
    simp only [Bool.and_eq_true, zin_iff] at hc
    have q := enc_2 (n := n) (x := (z % 256).toNat) (f := fun a => f (Jvm.ClassFile.Reader.signed 8 a)) hn h
    have q : Enc (f (Jvm.ClassFile.Reader.signed 8 (z % 256).toNat)) [n, (z % 256).toNat] := q
    rw [sg8 hc.1 hc.2] at q
    exact q
theorem enc_s2 {op : UInt8} {n : Nat} {z : Int} {w : List Nat} {f : Int → Instr} (hn : op.toNat = n) (h : ∀ a b : UInt8, decode ⟨#[op, a, b]⟩ 0 = .ok (f (Jvm.ClassFile.Reader.signed 16 (a.toNat * 256 + b.toNat)), 3) ∧ okat ⟨#[op, a, b]⟩ 0 = true) (hw : e_s2 n z = some w) : Enc (f z) w := by
  unfold e_s2 at hw
  cases hc : zin (-32768) 32767 z with
  | false => rw [hc] at hw; cases hw
  | true =>
    rw [hc] at hw
    cases hw
    simp only [Bool.and_eq_true, zin_iff] at hc
    have q := enc_3 (n := n) (x := (z % 65536).toNat / 256) (y := (z % 65536).toNat % 256) (f := fun a b => f (Jvm.ClassFile.Reader.signed 16 (a * 256 + b))) hn h
    have q : Enc (f (Jvm.ClassFile.Reader.signed 16 ((z % 65536).toNat / 256 * 256 + (z % 65536).toNat % 256))) [n, (z % 65536).toNat / 256, (z % 65536).toNat % 256] := q
    rw [sg16 hc.1 hc.2] at q
    exact q
theorem encf_iload_n : ∀ i : Fin 4, (UInt8.ofNat (26 + i.val)).toNat = 26 + i.val ∧ decode ⟨#[UInt8.ofNat (26 + i.val)]⟩ 0 = .ok (.iload_n i, 1) ∧ okat ⟨#[UInt8.ofNat (26 + i.val)]⟩ 0 = true := by decide +kernel
theorem encf_lload_n : ∀ i : Fin 4, (UInt8.ofNat (30 + i.val)).toNat = 30 + i.val ∧ decode ⟨#[UInt8.ofNat (30 + i.val)]⟩ 0 = .ok (.lload_n i, 1) ∧ okat ⟨#[UInt8.ofNat (30 + i.val)]⟩ 0 = true := by decide +kernel
theorem encf_aload_n : ∀ i : Fin 4, (UInt8.ofNat (42 + i.val)).toNat = 42 + i.val ∧ decode ⟨#[UInt8.ofNat (42 + i.val)]⟩ 0 = .ok (.aload_n i, 1) ∧ okat ⟨#[UInt8.ofNat (42 + i.val)]⟩ 0 = true := by decide +kernel
theorem encf_istore_n : ∀ i : Fin 4, (UInt8.ofNat (59 + i.val)).toNat = 59 + i.val ∧ decode ⟨#[UInt8.ofNat (59 + i.val)]⟩ 0 = .ok (.istore_n i, 1) ∧ okat ⟨#[UInt8.ofNat (59 + i.val)]⟩ 0 = true := by decide +kernel
theorem encf_lstore_n : ∀ i : Fin 4, (UInt8.ofNat (63 + i.val)).toNat = 63 + i.val ∧ decode ⟨#[UInt8.ofNat (63 + i.val)]⟩ 0 = .ok (.lstore_n i, 1) ∧ okat ⟨#[UInt8.ofNat (63 + i.val)]⟩ 0 = true := by decide +kernel
theorem encf_astore_n : ∀ i : Fin 4, (UInt8.ofNat (75 + i.val)).toNat = 75 + i.val ∧ decode ⟨#[UInt8.ofNat (75 + i.val)]⟩ 0 = .ok (.astore_n i, 1) ∧ okat ⟨#[UInt8.ofNat (75 + i.val)]⟩ 0 = true := by decide +kernel
theorem encf_lconst : ∀ i : Fin 2, (UInt8.ofNat (9 + i.val)).toNat = 9 + i.val ∧ decode ⟨#[UInt8.ofNat (9 + i.val)]⟩ 0 = .ok (.lconst i, 1) ∧ okat ⟨#[UInt8.ofNat (9 + i.val)]⟩ 0 = true := by decide +kernel
theorem encf_iconst : ∀ i : Fin 7, (UInt8.ofNat (2 + i.val)).toNat = 2 + i.val ∧ decode ⟨#[UInt8.ofNat (2 + i.val)]⟩ 0 = .ok (.iconst ((i.val : Int) - 1), 1) ∧ okat ⟨#[UInt8.ofNat (2 + i.val)]⟩ 0 = true := by decide +kernel
theorem encb_ok {ix : Instr} {w : List Nat} (h : encb ix = some w) : Enc ix w := by
  cases ix with
  | iaload => cases h; exact enc_1 (op := 46) rfl (by decide +kernel)
  | laload => cases h; exact enc_1 (op := 47) rfl (by decide +kernel)
  | aaload => cases h; exact enc_1 (op := 50) rfl (by decide +kernel)
  | baload => cases h; exact enc_1 (op := 51) rfl (by decide +kernel)
  | iastore => cases h; exact enc_1 (op := 79) rfl (by decide +kernel)
  | lastore => cases h; exact enc_1 (op := 80) rfl (by decide +kernel)
  | bastore => cases h; exact enc_1 (op := 84) rfl (by decide +kernel)
  | pop => cases h; exact enc_1 (op := 87) rfl (by decide +kernel)
  | dup => cases h; exact enc_1 (op := 89) rfl (by decide +kernel)
  | dup2 => cases h; exact enc_1 (op := 92) rfl (by decide +kernel)
  | iadd => cases h; exact enc_1 (op := 96) rfl (by decide +kernel)
  | ladd => cases h; exact enc_1 (op := 97) rfl (by decide +kernel)
  | isub => cases h; exact enc_1 (op := 100) rfl (by decide +kernel)
  | lsub => cases h; exact enc_1 (op := 101) rfl (by decide +kernel)
  | imul => cases h; exact enc_1 (op := 104) rfl (by decide +kernel)
  | lmul => cases h; exact enc_1 (op := 105) rfl (by decide +kernel)
  | idiv => cases h; exact enc_1 (op := 108) rfl (by decide +kernel)
  | ldiv => cases h; exact enc_1 (op := 109) rfl (by decide +kernel)
  | irem => cases h; exact enc_1 (op := 112) rfl (by decide +kernel)
  | lrem => cases h; exact enc_1 (op := 113) rfl (by decide +kernel)
  | ineg => cases h; exact enc_1 (op := 116) rfl (by decide +kernel)
  | lneg => cases h; exact enc_1 (op := 117) rfl (by decide +kernel)
  | ishl => cases h; exact enc_1 (op := 120) rfl (by decide +kernel)
  | lshl => cases h; exact enc_1 (op := 121) rfl (by decide +kernel)
  | ishr => cases h; exact enc_1 (op := 122) rfl (by decide +kernel)
  | lshr => cases h; exact enc_1 (op := 123) rfl (by decide +kernel)
  | iushr => cases h; exact enc_1 (op := 124) rfl (by decide +kernel)
  | lushr => cases h; exact enc_1 (op := 125) rfl (by decide +kernel)
  | iand => cases h; exact enc_1 (op := 126) rfl (by decide +kernel)
  | land => cases h; exact enc_1 (op := 127) rfl (by decide +kernel)
  | ior => cases h; exact enc_1 (op := 128) rfl (by decide +kernel)
  | lor => cases h; exact enc_1 (op := 129) rfl (by decide +kernel)
  | ixor => cases h; exact enc_1 (op := 130) rfl (by decide +kernel)
  | lxor => cases h; exact enc_1 (op := 131) rfl (by decide +kernel)
  | i2l => cases h; exact enc_1 (op := 133) rfl (by decide +kernel)
  | l2i => cases h; exact enc_1 (op := 136) rfl (by decide +kernel)
  | i2b => cases h; exact enc_1 (op := 145) rfl (by decide +kernel)
  | i2c => cases h; exact enc_1 (op := 146) rfl (by decide +kernel)
  | lcmp => cases h; exact enc_1 (op := 148) rfl (by decide +kernel)
  | ireturn => cases h; exact enc_1 (op := 172) rfl (by decide +kernel)
  | lreturn => cases h; exact enc_1 (op := 173) rfl (by decide +kernel)
  | areturn => cases h; exact enc_1 (op := 176) rfl (by decide +kernel)
  | return_ => cases h; exact enc_1 (op := 177) rfl (by decide +kernel)
  | arraylength => cases h; exact enc_1 (op := 190) rfl (by decide +kernel)
  | iload_n i => cases h; exact enc_1 (encf_iload_n i).1 (encf_iload_n i).2
  | lload_n i => cases h; exact enc_1 (encf_lload_n i).1 (encf_lload_n i).2
  | aload_n i => cases h; exact enc_1 (encf_aload_n i).1 (encf_aload_n i).2
  | istore_n i => cases h; exact enc_1 (encf_istore_n i).1 (encf_istore_n i).2
  | lstore_n i => cases h; exact enc_1 (encf_lstore_n i).1 (encf_lstore_n i).2
  | astore_n i => cases h; exact enc_1 (encf_astore_n i).1 (encf_astore_n i).2
  | lconst i => cases h; exact enc_1 (encf_lconst i).1 (encf_lconst i).2
  | iconst n =>
    have h : (bif zin (-1) 5 n then some [(n + 3).toNat] else none) = some w := h
    cases hc : zin (-1) 5 n with
    | false => rw [hc] at h; cases h
    | true =>
      rw [hc] at h
      cases h
      simp only [Bool.and_eq_true, zin_iff] at hc
      have q := encf_iconst ⟨(n + 1).toNat, by omega⟩
      have e1 : 2 + (n + 1).toNat = (n + 3).toNat := by omega
      have e2 : (((n + 1).toNat : Nat) : Int) - 1 = n := by omega
      have q2 := enc_1 q.1 q.2
      have q2 : Enc (.iconst ((((n + 1).toNat : Nat) : Int) - 1)) [2 + (n + 1).toNat] := q2
      rw [e1, e2] at q2
      exact q2
  | ldc x => exact enc_u1 (op := 18) (f := .ldc) rfl (fun a => ⟨rfl, rfl⟩) h
  | iload x => exact enc_u1 (op := 21) (f := .iload) rfl (fun a => ⟨rfl, rfl⟩) h
  | lload x => exact enc_u1 (op := 22) (f := .lload) rfl (fun a => ⟨rfl, rfl⟩) h
  | aload x => exact enc_u1 (op := 25) (f := .aload) rfl (fun a => ⟨rfl, rfl⟩) h
  | istore x => exact enc_u1 (op := 54) (f := .istore) rfl (fun a => ⟨rfl, rfl⟩) h
  | lstore x => exact enc_u1 (op := 55) (f := .lstore) rfl (fun a => ⟨rfl, rfl⟩) h
  | astore x => exact enc_u1 (op := 58) (f := .astore) rfl (fun a => ⟨rfl, rfl⟩) h
  | ldc_w x => exact enc_u2 (op := 19) (f := .ldc_w) rfl (fun a b => ⟨rfl, rfl⟩) h
  | ldc2_w x => exact enc_u2 (op := 20) (f := .ldc2_w) rfl (fun a b => ⟨rfl, rfl⟩) h
  | getstatic x => exact enc_u2 (op := 178) (f := .getstatic) rfl (fun a b => ⟨rfl, rfl⟩) h
  | getfield x => exact enc_u2 (op := 180) (f := .getfield) rfl (fun a b => ⟨rfl, rfl⟩) h
  | putfield x => exact enc_u2 (op := 181) (f := .putfield) rfl (fun a b => ⟨rfl, rfl⟩) h
  | invokevirtual x => exact enc_u2 (op := 182) (f := .invokevirtual) rfl (fun a b => ⟨rfl, rfl⟩) h
  | invokespecial x => exact enc_u2 (op := 183) (f := .invokespecial) rfl (fun a b => ⟨rfl, rfl⟩) h
  | invokestatic x => exact enc_u2 (op := 184) (f := .invokestatic) rfl (fun a b => ⟨rfl, rfl⟩) h
  | new x => exact enc_u2 (op := 187) (f := .new) rfl (fun a b => ⟨rfl, rfl⟩) h
  | bipush z => exact enc_s1 (op := 16) (f := .bipush) rfl (fun a => ⟨rfl, rfl⟩) h
  | iinc x z =>
    have h : (bif Nat.blt x 256 && (zin (-128) 127 z) then some [132, x, (z % 256).toNat] else none) = some w := h
    cases hc : Nat.blt x 256 && (zin (-128) 127 z) with
    | false => rw [hc] at h; cases h
    | true =>
      rw [hc] at h
      cases h
      simp only [Bool.and_eq_true, zin_iff] at hc
      have q := enc_3 (op := 132) (n := 132) (x := x) (y := (z % 256).toNat) (f := fun a b => .iinc a (Jvm.ClassFile.Reader.signed 8 b)) rfl (fun a b => ⟨rfl, rfl⟩)
      have q : Enc (.iinc x (Jvm.ClassFile.Reader.signed 8 (z % 256).toNat)) [132, x, (z % 256).toNat] := q
      rw [sg8 hc.2.1 hc.2.2] at q
      exact q
  | sipush z => exact enc_s2 (op := 17) (f := .sipush) rfl (fun a b => ⟨rfl, rfl⟩) h
  | goto z => exact enc_s2 (op := 167) (f := .goto) rfl (fun a b => ⟨rfl, rfl⟩) h
  | ifCond c z =>
    cases c with
    | eq => exact enc_s2 (op := 153) (f := .ifCond .eq) rfl (fun a b => ⟨rfl, rfl⟩) h
    | ne => exact enc_s2 (op := 154) (f := .ifCond .ne) rfl (fun a b => ⟨rfl, rfl⟩) h
    | lt => exact enc_s2 (op := 155) (f := .ifCond .lt) rfl (fun a b => ⟨rfl, rfl⟩) h
    | ge => exact enc_s2 (op := 156) (f := .ifCond .ge) rfl (fun a b => ⟨rfl, rfl⟩) h
    | gt => exact enc_s2 (op := 157) (f := .ifCond .gt) rfl (fun a b => ⟨rfl, rfl⟩) h
    | le => exact enc_s2 (op := 158) (f := .ifCond .le) rfl (fun a b => ⟨rfl, rfl⟩) h
  | if_icmp c z =>
    cases c with
    | eq => exact enc_s2 (op := 159) (f := .if_icmp .eq) rfl (fun a b => ⟨rfl, rfl⟩) h
    | ne => exact enc_s2 (op := 160) (f := .if_icmp .ne) rfl (fun a b => ⟨rfl, rfl⟩) h
    | lt => exact enc_s2 (op := 161) (f := .if_icmp .lt) rfl (fun a b => ⟨rfl, rfl⟩) h
    | ge => exact enc_s2 (op := 162) (f := .if_icmp .ge) rfl (fun a b => ⟨rfl, rfl⟩) h
    | gt => exact enc_s2 (op := 163) (f := .if_icmp .gt) rfl (fun a b => ⟨rfl, rfl⟩) h
    | le => exact enc_s2 (op := 164) (f := .if_icmp .le) rfl (fun a b => ⟨rfl, rfl⟩) h
  | _ => cases h
/-- bytes off the front -/
noncomputable def pfx (w : List Nat) (l : List UInt8) : Option (List UInt8) := @List.rec Nat (fun _ => List UInt8 → Option (List UInt8)) (fun l => some l) (fun a _ ih l => @List.rec UInt8 (fun _ => Option (List UInt8)) none (fun b r _ => @Bool.rec (fun _ => Option (List UInt8)) none (ih r) (Nat.beq a b.toNat)) l) w l
theorem pfx_ok : ∀ {w : List Nat} {l l' : List UInt8}, pfx w l = some l' → (l.take w.length).map UInt8.toNat = w ∧ l' = l.drop w.length
  | [], l, l', h => by
    have h : some l = some l' := h
    cases h
    exact ⟨rfl, rfl⟩
  | a :: w, [], l', h => by
    have h : none = some l' := h
    cases h
  | a :: w, b :: l, l', h => by
    have h : @Bool.rec (fun _ => Option (List UInt8)) none (pfx w l) (Nat.beq a b.toNat) = some l' := h
    cases hb : Nat.beq a b.toNat with
    | false => rw [hb] at h; cases h
    | true =>
      rw [hb] at h
      have h : pfx w l = some l' := h
      obtain ⟨h1, h2⟩ := pfx_ok h
      have e := Nat.eq_of_beq_eq_true hb
      refine ⟨?_, h2⟩
      show b.toNat :: (l.take w.length).map UInt8.toNat = a :: w
      rw [h1, e]
noncomputable def wEn : List (Nat × (Instr × Nat)) → List UInt8 → Nat → Bool
  | [], _, _ => true
  | e :: es, l, p => Nat.ble p e.1 && (match encb e.2.1 with
    | some w => Nat.beq w.length e.2.2 && (match pfx w (l.drop (e.1 - p)) with
      | some l' => wEn es l' (e.1 + e.2.2)
      | none => false)
    | none => false)
theorem wEn_ok {c : ByteArray} {d : Nat} : ∀ {es : List (Nat × (Instr × Nat))} {l : List UInt8} {p : Nat}, l = c.data.toList.drop (p + d) → wEn es l p = true → wAll c d es
  | [], _, _, _, _ => trivial
  | e :: es, l, p, hl, h => by
    unfold wEn at h
    rw [Bool.and_eq_true] at h
    obtain ⟨h1, h3⟩ := h
    have hp := Nat.le_of_ble_eq_true h1
    have hd : l.drop (e.1 - p) = c.data.toList.drop (e.1 + d) := by
      rw [hl, List.drop_drop]
      congr 1
      omega
    cases hc : encb e.2.1 with
    | none => rw [hc] at h3; cases h3
    | some w =>
      rw [hc] at h3
      simp only [Bool.and_eq_true] at h3
      obtain ⟨h4, h5⟩ := h3
      have hw := Nat.eq_of_beq_eq_true h4
      cases hq : pfx w (l.drop (e.1 - p)) with
      | none => rw [hq] at h5; cases h5
      | some l' =>
        rw [hq] at h5
        obtain ⟨q1, q2⟩ := pfx_ok hq
        rw [hd] at q1 q2
        have hE := encb_ok hc _ q1
        have hW : Win c ⟨((c.data.toList.drop (e.1 + d)).take w.length).toArray⟩ (e.1 + d) := win_of (n := w.length) rfl
        have g := dec_win hW hE.2 hE.1
        rw [Nat.zero_add, hw] at g
        refine ⟨g, wEn_ok (p := e.1 + e.2.2) ?_ h5⟩
        rw [q2, List.drop_drop, hw]
        congr 1
        omega
theorem wAll_enc {c : ByteArray} {d : Nat} {l : List (Nat × (Instr × Nat))} (h : wEn l (c.data.toList.drop d) 0 = true) : wAll c d l := wEn_ok (p := 0) (by rw [Nat.zero_add]) h
end
