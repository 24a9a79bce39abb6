/-! ===== decode, by windows of the code ===== -/
section DW
variable {c w : ByteArray} {d : Nat} {ε α β : Type}
noncomputable def Win (c w : ByteArray) (d : Nat) : Prop := ∀ i, (h : i < w.size) → ∃ h' : i + d < c.size, c[i + d] = w[i]
theorem win_of {n : Nat} (hl : (c.data.toList.drop d).take n = w.data.toList) : Win c w d := by
  intro i h
  have h2 : i < w.data.toList.length := by rw [Array.length_toList]; exact h
  have h1 : w.data.toList[i]? = some w[i] := by rw [List.getElem?_eq_getElem h2]; rfl
  rw [← hl, List.getElem?_take] at h1
  split at h1
  · rw [List.getElem?_drop] at h1
    obtain ⟨h3, h4⟩ := List.getElem?_eq_some_iff.mp h1
    have h6 : d + i < c.size := by rw [Array.length_toList] at h3; exact h3
    have h5 : i + d < c.size := by rw [Nat.add_comm]; exact h6
    refine ⟨h5, ?_⟩
    rw [← h4]
    have q : ∀ (j : Nat) (hj : j < c.size) (k : Nat) (hk : k < c.data.toList.length), j = k → c[j] = c.data.toList[k] := by
      intro j hj k hk e
      subst e
      rfl
    exact q _ h5 _ h3 (Nat.add_comm _ _)
  · cases h1
noncomputable def Sft (c w : ByteArray) (d : Nat) (r r' : Jvm.ClassFile.Reader ε α) : Prop := ∀ (p : Nat) (a : α) (n : Nat), r' w p = Except.ok (a, n) → r c (p + d) = Except.ok (a, n + d)
theorem Sft.pure {a : α} : Sft c w d (Pure.pure a : Jvm.ClassFile.Reader ε α) (Pure.pure a) := by
  intro p b n e
  have e : (Except.ok (a, p) : Except ε (α × Nat)) = Except.ok (b, n) := e
  cases e
  rfl
theorem Sft.throw {x y : ε} : Sft c w d (MonadExcept.throw x : Jvm.ClassFile.Reader ε α) (MonadExcept.throw y) := by
  intro p b n e
  have e : (Except.error y : Except ε (α × Nat)) = Except.ok (b, n) := e
  cases e
theorem Sft.bind {r r' : Jvm.ClassFile.Reader ε α} {f f' : α → Jvm.ClassFile.Reader ε β} (h : Sft c w d r r') (hf : ∀ a, Sft c w d (f a) (f' a)) : Sft c w d (r >>= f) (r' >>= f') := by
  intro p b n e
  have e : Except.bind (r' w p) (fun x => f' x.1 w x.2) = Except.ok (b, n) := e
  cases hr : r' w p with
  | error x => rw [hr] at e; cases e
  | ok x =>
    obtain ⟨a, q⟩ := x
    rw [hr] at e
    have h1 : r c (p + d) = Except.ok (a, q + d) := h p a q hr
    show Except.bind (r c (p + d)) (fun x => f x.1 c x.2) = Except.ok (b, n + d)
    rw [h1]
    exact hf a q b n e
theorem Sft.map {r r' : Jvm.ClassFile.Reader ε α} {g : α → β} (h : Sft c w d r r') : Sft c w d (g <$> r) (g <$> r') := by
  intro p b n e
  have e : Except.bind (r' w p) (fun x => Except.ok (g x.1, x.2)) = Except.ok (b, n) := e
  cases hr : r' w p with
  | error x => rw [hr] at e; cases e
  | ok x =>
    obtain ⟨a, q⟩ := x
    rw [hr] at e
    have e : (Except.ok (g a, q) : Except ε (β × Nat)) = Except.ok (b, n) := e
    have h1 : r c (p + d) = Except.ok (a, q + d) := h p a q hr
    cases e
    show Except.bind (r c (p + d)) (fun x => Except.ok (g x.1, x.2)) = _
    rw [h1]
    rfl
theorem u1_pos [Jvm.ClassFile.HasTruncated ε] (c : ByteArray) (p : Nat) (h : p < c.size) : (Jvm.ClassFile.Reader.u1 : Jvm.ClassFile.Reader ε Nat) c p = Except.ok (c[p].toNat, p + 1) := by
  show (dite (p < c.size) (fun h => ((do set (p + 1); Pure.pure c[p].toNat) : Jvm.ClassFile.Reader ε Nat)) (fun _ => MonadExcept.throw (Jvm.ClassFile.HasTruncated.truncated p))) c p = _
  rw [dif_pos h]
  rfl
theorem u1_neg [Jvm.ClassFile.HasTruncated ε] (c : ByteArray) (p : Nat) (h : ¬ p < c.size) : (Jvm.ClassFile.Reader.u1 : Jvm.ClassFile.Reader ε Nat) c p = Except.error (Jvm.ClassFile.HasTruncated.truncated p) := by
  show (dite (p < c.size) (fun h => ((do set (p + 1); Pure.pure c[p].toNat) : Jvm.ClassFile.Reader ε Nat)) (fun _ => MonadExcept.throw (Jvm.ClassFile.HasTruncated.truncated p))) c p = _
  rw [dif_neg h]
  rfl
theorem Sft.u1 [Jvm.ClassFile.HasTruncated ε] (hW : Win c w d) : Sft c w d (Jvm.ClassFile.Reader.u1 : Jvm.ClassFile.Reader ε Nat) Jvm.ClassFile.Reader.u1 := by
  intro p a n e
  by_cases hp : p < w.size
  · rw [u1_pos w p hp] at e
    obtain ⟨h1, h2⟩ := hW p hp
    rw [u1_pos c (p + d) h1, h2]
    cases e
    show Except.ok (w[p].toNat, p + d + 1) = Except.ok (w[p].toNat, p + 1 + d)
    rw [Nat.add_right_comm]
  · rw [u1_neg w p hp] at e
    cases e
theorem Sft.u2 [Jvm.ClassFile.HasTruncated ε] (hW : Win c w d) : Sft c w d (Jvm.ClassFile.Reader.u2 : Jvm.ClassFile.Reader ε Nat) Jvm.ClassFile.Reader.u2 := by
  unfold Jvm.ClassFile.Reader.u2
  exact Sft.bind (Sft.u1 hW) fun _ => Sft.bind (Sft.u1 hW) fun _ => Sft.pure
theorem Sft.u4 [Jvm.ClassFile.HasTruncated ε] (hW : Win c w d) : Sft c w d (Jvm.ClassFile.Reader.u4 : Jvm.ClassFile.Reader ε Nat) Jvm.ClassFile.Reader.u4 := by
  unfold Jvm.ClassFile.Reader.u4
  exact Sft.bind (Sft.u2 hW) fun _ => Sft.bind (Sft.u2 hW) fun _ => Sft.pure
theorem Sft.s1 [Jvm.ClassFile.HasTruncated ε] (hW : Win c w d) : Sft c w d (Jvm.ClassFile.Reader.s1 : Jvm.ClassFile.Reader ε Int) Jvm.ClassFile.Reader.s1 := by
  unfold Jvm.ClassFile.Reader.s1
  exact Sft.map (Sft.u1 hW)
theorem Sft.s2 [Jvm.ClassFile.HasTruncated ε] (hW : Win c w d) : Sft c w d (Jvm.ClassFile.Reader.s2 : Jvm.ClassFile.Reader ε Int) Jvm.ClassFile.Reader.s2 := by
  unfold Jvm.ClassFile.Reader.s2
  exact Sft.map (Sft.u2 hW)
theorem Sft.s4 [Jvm.ClassFile.HasTruncated ε] (hW : Win c w d) : Sft c w d (Jvm.ClassFile.Reader.s4 : Jvm.ClassFile.Reader ε Int) Jvm.ClassFile.Reader.s4 := by
  unfold Jvm.ClassFile.Reader.s4
  exact Sft.map (Sft.u4 hW)
noncomputable def badop (a : Nat) : Bool := Nat.beq a 170 || Nat.beq a 171 || Nat.beq a 185 || Nat.beq a 186 || Nat.beq a 188 || Nat.beq a 196 || Nat.beq a 197
noncomputable def okat (w : ByteArray) (p : Nat) : Bool := if h : p < w.size then !(badop w[p].toNat) else false
noncomputable def AllB (P : Nat → Prop) : Nat → Prop
  | 0 => True
  | n + 1 => P n ∧ AllB P n
theorem AllB.at {P : Nat → Prop} : ∀ {n a : Nat}, AllB P n → a < n → P a
  | 0, _, _, h => absurd h (Nat.not_lt_zero _)
  | n + 1, a, H, h => by
    by_cases e : a = n
    · rw [e]; exact H.1
    · exact AllB.at H.2 (by omega)
theorem Sft.op [Jvm.ClassFile.HasTruncated ε] (hW : Win c w d) {f f' : Nat → Jvm.ClassFile.Reader ε β} (hf : AllB (fun a => badop a = false → Sft c w d (f a) (f' a)) 256) {p : Nat} (ho : okat w p = true) {b : β} {n : Nat}
    (e : (Jvm.ClassFile.Reader.u1 >>= f') w p = Except.ok (b, n)) : (Jvm.ClassFile.Reader.u1 >>= f) c (p + d) = Except.ok (b, n + d) := by
  unfold okat at ho
  split at ho
  · next hp =>
    have e : Except.bind ((Jvm.ClassFile.Reader.u1 : Jvm.ClassFile.Reader ε Nat) w p) (fun x => f' x.1 w x.2) = Except.ok (b, n) := e
    rw [u1_pos w p hp] at e
    obtain ⟨h1, h2⟩ := hW p hp
    show Except.bind ((Jvm.ClassFile.Reader.u1 : Jvm.ClassFile.Reader ε Nat) c (p + d)) (fun x => f x.1 c x.2) = Except.ok (b, n + d)
    rw [u1_pos c (p + d) h1, h2]
    have hb : badop w[p].toNat = false := by
      cases hx : badop w[p].toNat with
      | false => rfl
      | true => rw [hx] at ho; cases ho
    have q : f w[p].toNat c (p + 1 + d) = Except.ok (b, n + d) := hf.at (UInt8.toNat_lt w[p]) hb (p + 1) b n e
    rw [Nat.add_right_comm] at q
    exact q
  · cases ho
set_option maxRecDepth 20000 in
set_option maxHeartbeats 4000000 in
theorem instr_win (hW : Win c w d) {p : Nat} (ho : okat w p = true) {b : Instr} {n : Nat} (e : (Jvm.ClassFile.Decoder.instr p) w p = Except.ok (b, n)) : (Jvm.ClassFile.Decoder.instr (p + d)) c (p + d) = Except.ok (b, n + d) := by
  unfold Jvm.ClassFile.Decoder.instr at e ⊢
  refine Sft.op hW ?_ ho e
  refine ⟨fun _ => Sft.throw, ?_⟩
  refine ⟨fun _ => Sft.throw, ?_⟩
  refine ⟨fun _ => Sft.throw, ?_⟩
  refine ⟨fun _ => Sft.throw, ?_⟩
  refine ⟨fun _ => Sft.throw, ?_⟩
  refine ⟨fun _ => Sft.throw, ?_⟩
  refine ⟨fun _ => Sft.throw, ?_⟩
  refine ⟨fun _ => Sft.throw, ?_⟩
  refine ⟨fun _ => Sft.throw, ?_⟩
  refine ⟨fun _ => Sft.throw, ?_⟩
  refine ⟨fun _ => Sft.throw, ?_⟩
  refine ⟨fun _ => Sft.throw, ?_⟩
  refine ⟨fun _ => Sft.throw, ?_⟩
  refine ⟨fun _ => Sft.throw, ?_⟩
  refine ⟨fun _ => Sft.throw, ?_⟩
  refine ⟨fun _ => Sft.throw, ?_⟩
  refine ⟨fun _ => Sft.throw, ?_⟩
  refine ⟨fun _ => Sft.throw, ?_⟩
  refine ⟨fun _ => Sft.throw, ?_⟩
  refine ⟨fun _ => Sft.throw, ?_⟩
  refine ⟨fun _ => Sft.throw, ?_⟩
  refine ⟨fun _ => Sft.throw, ?_⟩
  refine ⟨fun _ => Sft.throw, ?_⟩
  refine ⟨fun _ => Sft.throw, ?_⟩
  refine ⟨fun _ => Sft.throw, ?_⟩
  refine ⟨fun _ => Sft.throw, ?_⟩
  refine ⟨fun _ => Sft.throw, ?_⟩
  refine ⟨fun _ => Sft.throw, ?_⟩
  refine ⟨fun _ => Sft.throw, ?_⟩
  refine ⟨fun _ => Sft.throw, ?_⟩
  refine ⟨fun _ => Sft.throw, ?_⟩
  refine ⟨fun _ => Sft.throw, ?_⟩
  refine ⟨fun _ => Sft.throw, ?_⟩
  refine ⟨fun _ => Sft.throw, ?_⟩
  refine ⟨fun _ => Sft.throw, ?_⟩
  refine ⟨fun _ => Sft.throw, ?_⟩
  refine ⟨fun _ => Sft.throw, ?_⟩
  refine ⟨fun _ => Sft.throw, ?_⟩
  refine ⟨fun _ => Sft.throw, ?_⟩
  refine ⟨fun _ => Sft.throw, ?_⟩
  refine ⟨fun _ => Sft.throw, ?_⟩
  refine ⟨fun _ => Sft.throw, ?_⟩
  refine ⟨fun _ => Sft.throw, ?_⟩
  refine ⟨fun _ => Sft.throw, ?_⟩
  refine ⟨fun _ => Sft.throw, ?_⟩
  refine ⟨fun _ => Sft.throw, ?_⟩
  refine ⟨fun _ => Sft.throw, ?_⟩
  refine ⟨fun _ => Sft.throw, ?_⟩
  refine ⟨fun _ => Sft.throw, ?_⟩
  refine ⟨fun _ => Sft.throw, ?_⟩
  refine ⟨fun _ => Sft.throw, ?_⟩
  refine ⟨fun _ => Sft.throw, ?_⟩
  refine ⟨fun _ => Sft.throw, ?_⟩
  refine ⟨fun _ => Sft.throw, ?_⟩
  refine ⟨fun _ => Sft.bind (Sft.s4 hW) fun _ => Sft.pure, ?_⟩
  refine ⟨fun _ => Sft.bind (Sft.s4 hW) fun _ => Sft.pure, ?_⟩
  refine ⟨fun _ => Sft.bind (Sft.s2 hW) fun _ => Sft.pure, ?_⟩
  refine ⟨fun _ => Sft.bind (Sft.s2 hW) fun _ => Sft.pure, ?_⟩
  refine ⟨fun h => absurd h (by decide), ?_⟩
  refine ⟨fun h => absurd h (by decide), ?_⟩
  refine ⟨fun _ => Sft.pure, ?_⟩
  refine ⟨fun _ => Sft.pure, ?_⟩
  refine ⟨fun _ => Sft.bind (Sft.u2 hW) fun _ => Sft.pure, ?_⟩
  refine ⟨fun _ => Sft.bind (Sft.u2 hW) fun _ => Sft.pure, ?_⟩
  refine ⟨fun _ => Sft.pure, ?_⟩
  refine ⟨fun _ => Sft.pure, ?_⟩
  refine ⟨fun _ => Sft.bind (Sft.u2 hW) fun _ => Sft.pure, ?_⟩
  refine ⟨fun h => absurd h (by decide), ?_⟩
  refine ⟨fun _ => Sft.bind (Sft.u2 hW) fun _ => Sft.pure, ?_⟩
  refine ⟨fun h => absurd h (by decide), ?_⟩
  refine ⟨fun h => absurd h (by decide), ?_⟩
  refine ⟨fun _ => Sft.bind (Sft.u2 hW) fun _ => Sft.pure, ?_⟩
  refine ⟨fun _ => Sft.bind (Sft.u2 hW) fun _ => Sft.pure, ?_⟩
  refine ⟨fun _ => Sft.bind (Sft.u2 hW) fun _ => Sft.pure, ?_⟩
  refine ⟨fun _ => Sft.bind (Sft.u2 hW) fun _ => Sft.pure, ?_⟩
  refine ⟨fun _ => Sft.bind (Sft.u2 hW) fun _ => Sft.pure, ?_⟩
  refine ⟨fun _ => Sft.bind (Sft.u2 hW) fun _ => Sft.pure, ?_⟩
  refine ⟨fun _ => Sft.bind (Sft.u2 hW) fun _ => Sft.pure, ?_⟩
  refine ⟨fun _ => Sft.pure, ?_⟩
  refine ⟨fun _ => Sft.pure, ?_⟩
  refine ⟨fun _ => Sft.pure, ?_⟩
  refine ⟨fun _ => Sft.pure, ?_⟩
  refine ⟨fun _ => Sft.pure, ?_⟩
  refine ⟨fun _ => Sft.pure, ?_⟩
  refine ⟨fun h => absurd h (by decide), ?_⟩
  refine ⟨fun h => absurd h (by decide), ?_⟩
  refine ⟨fun _ => Sft.bind (Sft.u1 hW) fun _ => Sft.pure, ?_⟩
  refine ⟨fun _ => Sft.bind (Sft.s2 hW) fun _ => Sft.pure, ?_⟩
  refine ⟨fun _ => Sft.bind (Sft.s2 hW) fun _ => Sft.pure, ?_⟩
  refine ⟨fun _ => Sft.bind (Sft.s2 hW) fun _ => Sft.pure, ?_⟩
  refine ⟨fun _ => Sft.bind (Sft.s2 hW) fun _ => Sft.pure, ?_⟩
  refine ⟨fun _ => Sft.bind (Sft.s2 hW) fun _ => Sft.pure, ?_⟩
  refine ⟨fun _ => Sft.bind (Sft.s2 hW) fun _ => Sft.pure, ?_⟩
  refine ⟨fun _ => Sft.bind (Sft.s2 hW) fun _ => Sft.pure, ?_⟩
  refine ⟨fun _ => Sft.bind (Sft.s2 hW) fun _ => Sft.pure, ?_⟩
  refine ⟨fun _ => Sft.bind (Sft.s2 hW) fun _ => Sft.pure, ?_⟩
  refine ⟨fun _ => Sft.bind (Sft.s2 hW) fun _ => Sft.pure, ?_⟩
  refine ⟨fun _ => Sft.bind (Sft.s2 hW) fun _ => Sft.pure, ?_⟩
  refine ⟨fun _ => Sft.bind (Sft.s2 hW) fun _ => Sft.pure, ?_⟩
  refine ⟨fun _ => Sft.bind (Sft.s2 hW) fun _ => Sft.pure, ?_⟩
  refine ⟨fun _ => Sft.bind (Sft.s2 hW) fun _ => Sft.pure, ?_⟩
  refine ⟨fun _ => Sft.bind (Sft.s2 hW) fun _ => Sft.pure, ?_⟩
  refine ⟨fun _ => Sft.bind (Sft.s2 hW) fun _ => Sft.pure, ?_⟩
  refine ⟨fun _ => Sft.pure, ?_⟩
  refine ⟨fun _ => Sft.pure, ?_⟩
  refine ⟨fun _ => Sft.pure, ?_⟩
  refine ⟨fun _ => Sft.pure, ?_⟩
  refine ⟨fun _ => Sft.pure, ?_⟩
  refine ⟨fun _ => Sft.pure, ?_⟩
  refine ⟨fun _ => Sft.pure, ?_⟩
  refine ⟨fun _ => Sft.pure, ?_⟩
  refine ⟨fun _ => Sft.pure, ?_⟩
  refine ⟨fun _ => Sft.pure, ?_⟩
  refine ⟨fun _ => Sft.pure, ?_⟩
  refine ⟨fun _ => Sft.pure, ?_⟩
  refine ⟨fun _ => Sft.pure, ?_⟩
  refine ⟨fun _ => Sft.pure, ?_⟩
  refine ⟨fun _ => Sft.pure, ?_⟩
  refine ⟨fun _ => Sft.pure, ?_⟩
  refine ⟨fun _ => Sft.pure, ?_⟩
  refine ⟨fun _ => Sft.pure, ?_⟩
  refine ⟨fun _ => Sft.pure, ?_⟩
  refine ⟨fun _ => Sft.pure, ?_⟩
  refine ⟨fun _ => Sft.bind (Sft.u1 hW) fun _ => Sft.bind (Sft.s1 hW) fun _ => Sft.pure, ?_⟩
  refine ⟨fun _ => Sft.pure, ?_⟩
  refine ⟨fun _ => Sft.pure, ?_⟩
  refine ⟨fun _ => Sft.pure, ?_⟩
  refine ⟨fun _ => Sft.pure, ?_⟩
  refine ⟨fun _ => Sft.pure, ?_⟩
  refine ⟨fun _ => Sft.pure, ?_⟩
  refine ⟨fun _ => Sft.pure, ?_⟩
  refine ⟨fun _ => Sft.pure, ?_⟩
  refine ⟨fun _ => Sft.pure, ?_⟩
  refine ⟨fun _ => Sft.pure, ?_⟩
  refine ⟨fun _ => Sft.pure, ?_⟩
  refine ⟨fun _ => Sft.pure, ?_⟩
  refine ⟨fun _ => Sft.pure, ?_⟩
  refine ⟨fun _ => Sft.pure, ?_⟩
  refine ⟨fun _ => Sft.pure, ?_⟩
  refine ⟨fun _ => Sft.pure, ?_⟩
  refine ⟨fun _ => Sft.pure, ?_⟩
  refine ⟨fun _ => Sft.pure, ?_⟩
  refine ⟨fun _ => Sft.pure, ?_⟩
  refine ⟨fun _ => Sft.pure, ?_⟩
  refine ⟨fun _ => Sft.pure, ?_⟩
  refine ⟨fun _ => Sft.pure, ?_⟩
  refine ⟨fun _ => Sft.pure, ?_⟩
  refine ⟨fun _ => Sft.pure, ?_⟩
  refine ⟨fun _ => Sft.pure, ?_⟩
  refine ⟨fun _ => Sft.pure, ?_⟩
  refine ⟨fun _ => Sft.pure, ?_⟩
  refine ⟨fun _ => Sft.pure, ?_⟩
  refine ⟨fun _ => Sft.pure, ?_⟩
  refine ⟨fun _ => Sft.pure, ?_⟩
  refine ⟨fun _ => Sft.pure, ?_⟩
  refine ⟨fun _ => Sft.pure, ?_⟩
  refine ⟨fun _ => Sft.pure, ?_⟩
  refine ⟨fun _ => Sft.pure, ?_⟩
  refine ⟨fun _ => Sft.pure, ?_⟩
  refine ⟨fun _ => Sft.pure, ?_⟩
  refine ⟨fun _ => Sft.pure, ?_⟩
  refine ⟨fun _ => Sft.pure, ?_⟩
  refine ⟨fun _ => Sft.pure, ?_⟩
  refine ⟨fun _ => Sft.pure, ?_⟩
  refine ⟨fun _ => Sft.pure, ?_⟩
  refine ⟨fun _ => Sft.pure, ?_⟩
  refine ⟨fun _ => Sft.pure, ?_⟩
  refine ⟨fun _ => Sft.pure, ?_⟩
  refine ⟨fun _ => Sft.pure, ?_⟩
  refine ⟨fun _ => Sft.pure, ?_⟩
  refine ⟨fun _ => Sft.pure, ?_⟩
  refine ⟨fun _ => Sft.pure, ?_⟩
  refine ⟨fun _ => Sft.pure, ?_⟩
  refine ⟨fun _ => Sft.pure, ?_⟩
  refine ⟨fun _ => Sft.pure, ?_⟩
  refine ⟨fun _ => Sft.pure, ?_⟩
  refine ⟨fun _ => Sft.pure, ?_⟩
  refine ⟨fun _ => Sft.pure, ?_⟩
  refine ⟨fun _ => Sft.pure, ?_⟩
  refine ⟨fun _ => Sft.pure, ?_⟩
  refine ⟨fun _ => Sft.pure, ?_⟩
  refine ⟨fun _ => Sft.pure, ?_⟩
  refine ⟨fun _ => Sft.pure, ?_⟩
  refine ⟨fun _ => Sft.pure, ?_⟩
  refine ⟨fun _ => Sft.pure, ?_⟩
  refine ⟨fun _ => Sft.pure, ?_⟩
  refine ⟨fun _ => Sft.pure, ?_⟩
  refine ⟨fun _ => Sft.pure, ?_⟩
  refine ⟨fun _ => Sft.pure, ?_⟩
  refine ⟨fun _ => Sft.pure, ?_⟩
  refine ⟨fun _ => Sft.pure, ?_⟩
  refine ⟨fun _ => Sft.pure, ?_⟩
  refine ⟨fun _ => Sft.pure, ?_⟩
  refine ⟨fun _ => Sft.pure, ?_⟩
  refine ⟨fun _ => Sft.pure, ?_⟩
  refine ⟨fun _ => Sft.pure, ?_⟩
  refine ⟨fun _ => Sft.pure, ?_⟩
  refine ⟨fun _ => Sft.bind (Sft.u1 hW) fun _ => Sft.pure, ?_⟩
  refine ⟨fun _ => Sft.bind (Sft.u1 hW) fun _ => Sft.pure, ?_⟩
  refine ⟨fun _ => Sft.bind (Sft.u1 hW) fun _ => Sft.pure, ?_⟩
  refine ⟨fun _ => Sft.bind (Sft.u1 hW) fun _ => Sft.pure, ?_⟩
  refine ⟨fun _ => Sft.bind (Sft.u1 hW) fun _ => Sft.pure, ?_⟩
  refine ⟨fun _ => Sft.pure, ?_⟩
  refine ⟨fun _ => Sft.pure, ?_⟩
  refine ⟨fun _ => Sft.pure, ?_⟩
  refine ⟨fun _ => Sft.pure, ?_⟩
  refine ⟨fun _ => Sft.pure, ?_⟩
  refine ⟨fun _ => Sft.pure, ?_⟩
  refine ⟨fun _ => Sft.pure, ?_⟩
  refine ⟨fun _ => Sft.pure, ?_⟩
  refine ⟨fun _ => Sft.pure, ?_⟩
  refine ⟨fun _ => Sft.pure, ?_⟩
  refine ⟨fun _ => Sft.pure, ?_⟩
  refine ⟨fun _ => Sft.pure, ?_⟩
  refine ⟨fun _ => Sft.pure, ?_⟩
  refine ⟨fun _ => Sft.pure, ?_⟩
  refine ⟨fun _ => Sft.pure, ?_⟩
  refine ⟨fun _ => Sft.pure, ?_⟩
  refine ⟨fun _ => Sft.pure, ?_⟩
  refine ⟨fun _ => Sft.pure, ?_⟩
  refine ⟨fun _ => Sft.pure, ?_⟩
  refine ⟨fun _ => Sft.pure, ?_⟩
  refine ⟨fun _ => Sft.pure, ?_⟩
  refine ⟨fun _ => Sft.pure, ?_⟩
  refine ⟨fun _ => Sft.pure, ?_⟩
  refine ⟨fun _ => Sft.pure, ?_⟩
  refine ⟨fun _ => Sft.pure, ?_⟩
  refine ⟨fun _ => Sft.pure, ?_⟩
  refine ⟨fun _ => Sft.pure, ?_⟩
  refine ⟨fun _ => Sft.pure, ?_⟩
  refine ⟨fun _ => Sft.bind (Sft.u1 hW) fun _ => Sft.pure, ?_⟩
  refine ⟨fun _ => Sft.bind (Sft.u1 hW) fun _ => Sft.pure, ?_⟩
  refine ⟨fun _ => Sft.bind (Sft.u1 hW) fun _ => Sft.pure, ?_⟩
  refine ⟨fun _ => Sft.bind (Sft.u1 hW) fun _ => Sft.pure, ?_⟩
  refine ⟨fun _ => Sft.bind (Sft.u1 hW) fun _ => Sft.pure, ?_⟩
  refine ⟨fun _ => Sft.bind (Sft.u2 hW) fun _ => Sft.pure, ?_⟩
  refine ⟨fun _ => Sft.bind (Sft.u2 hW) fun _ => Sft.pure, ?_⟩
  refine ⟨fun _ => Sft.bind (Sft.u1 hW) fun _ => Sft.pure, ?_⟩
  refine ⟨fun _ => Sft.bind (Sft.s2 hW) fun _ => Sft.pure, ?_⟩
  refine ⟨fun _ => Sft.bind (Sft.s1 hW) fun _ => Sft.pure, ?_⟩
  refine ⟨fun _ => Sft.pure, ?_⟩
  refine ⟨fun _ => Sft.pure, ?_⟩
  refine ⟨fun _ => Sft.pure, ?_⟩
  refine ⟨fun _ => Sft.pure, ?_⟩
  refine ⟨fun _ => Sft.pure, ?_⟩
  refine ⟨fun _ => Sft.pure, ?_⟩
  refine ⟨fun _ => Sft.pure, ?_⟩
  refine ⟨fun _ => Sft.pure, ?_⟩
  refine ⟨fun _ => Sft.pure, ?_⟩
  refine ⟨fun _ => Sft.pure, ?_⟩
  refine ⟨fun _ => Sft.pure, ?_⟩
  refine ⟨fun _ => Sft.pure, ?_⟩
  refine ⟨fun _ => Sft.pure, ?_⟩
  refine ⟨fun _ => Sft.pure, ?_⟩
  refine ⟨fun _ => Sft.pure, ?_⟩
  refine ⟨fun _ => Sft.pure, ?_⟩
  exact trivial
theorem dec_win (hW : Win c w d) {p : Nat} {x : Instr × Nat} (ho : okat w p = true) (h : decode w p = Except.ok x) : decode c (p + d) = Except.ok x := by
  have h : Except.bind ((Jvm.ClassFile.Decoder.instr p) w p) (fun y => Except.ok (y.1, y.2 - p)) = Except.ok x := h
  cases hr : (Jvm.ClassFile.Decoder.instr p) w p with
  | error z => rw [hr] at h; cases h
  | ok y =>
    obtain ⟨i, n⟩ := y
    rw [hr] at h
    have h1 := instr_win hW ho hr
    show Except.bind ((Jvm.ClassFile.Decoder.instr (p + d)) c (p + d)) (fun y => Except.ok (y.1, y.2 - (p + d))) = Except.ok x
    rw [h1]
    have h : (Except.ok (i, n - p) : Except Jvm.ClassFile.DecodeError (Instr × Nat)) = Except.ok x := h
    rw [← h]
    show (Except.ok (i, n + d - (p + d)) : Except Jvm.ClassFile.DecodeError (Instr × Nat)) = Except.ok (i, n - p)
    rw [Nat.add_sub_add_right]
end DW
noncomputable def wAll (c : ByteArray) (d : Nat) : List (Nat × (Instr × Nat)) → Prop
  | [] => True
  | e :: r => decode c (e.1 + d) = .ok e.2 ∧ wAll c d r
noncomputable def wChk (w : ByteArray) : List (Nat × (Instr × Nat)) → Bool
  | [] => true
  | e :: r => (okat w e.1 && decide (decode w e.1 = .ok e.2)) && wChk w r
theorem wAll_of {c w : ByteArray} {d : Nat} (hW : Win c w d) : ∀ {l : List (Nat × (Instr × Nat))}, wChk w l = true → wAll c d l
  | [], _ => trivial
  | e :: r, h => by
    have h : ((okat w e.1 && decide (decode w e.1 = .ok e.2)) && wChk w r) = true := h
    rw [Bool.and_eq_true, Bool.and_eq_true] at h
    exact ⟨dec_win hW h.1.1 (of_decide_eq_true h.1.2), wAll_of hW h.2⟩
